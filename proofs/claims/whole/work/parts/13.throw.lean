/-! throwing -/
section THROW
variable {p : Program} {l : Launch} {e : Env} {R : Room} {s : State} {m : MethodId} {args : Array Value} {below : List Frame} {meth : Method} {c : Code} {locs : List Loc} {cells slots : Nat}
/-- the walk seen from where it stands: as if it had begun there -/
theorem xv_anew {T : State} (X : Stand p l e R s m args below meth c T locs cells slots) {R' : Room} (hf : R'.frames ≤ R.frames) (hl : R'.locals ≤ R.locals) (hc : cells + R'.cells ≤ R.cells) (hs : slots + R'.slots ≤ R.slots) :
    Stand p l e R' ((T.setVm s.vm).setFrames (.invoking m args :: below)) m args below meth c T [] 0 0 := by
  have htop : (T.setVm s.vm).topJava?.isSome := X.here.top
  have hF : ((T.setVm s.vm).setFrames (.invoking m args :: below)).frames = .invoking m args :: below := State.frames_setFrames _ (State.cur_lt_of_top htop)
  obtain ⟨g₀, hg0⟩ := Option.isSome_iff_exists.mp htop
  obtain ⟨r, hr⟩ := State.topJava?_eq_some.mp hg0
  have hlim : e.platform.stackLimits (T.setVm s.vm).me = e.platform.stackLimits s.me := X.limits
  have hbyt : (T.setVm s.vm).me.stackBytes = s.me.stackBytes := X.bytes
  have hnil : T.heap.toList.drop T.heap.size = [] := List.drop_eq_nil_of_le (Nat.le_of_eq Array.length_toList)
  refine ⟨X.admits, X.cas, X.clock, hF, ?_, X.hears, X.method, X.code, X.here, X.tail, X.warmed, by rw [State.stackLimits_setFrames]; rfl, by rw [State.stackBytes_setFrames]; rfl, ?_⟩
  · have h := X.room
    have hU : ((T.setVm s.vm).setFrames (.invoking m args :: below)).localsInUse = s.localsInUse := by
      rw [State.localsInUse_invoking hF (meth := meth) (c := c) X.method X.code, State.localsInUse_invoking X.frames X.method X.code]
    simp only [State.hasRoom, Bool.and_eq_true, decide_eq_true_eq] at h ⊢
    obtain ⟨⟨⟨⟨h1, h2, h3, h4, h5, h6⟩, h7⟩, h8⟩, h9⟩ := h
    rw [X.frames, List.length_cons] at h2 h3
    have q1 := X.heapSize
    have q2 := X.used
    simp only [hF, hU, List.length_cons, State.stackLimits_setFrames, State.stackBytes_setFrames, hlim, hbyt]
    refine ⟨⟨⟨⟨by omega, by omega, by omega, by omega, by omega, h6⟩, ?_⟩, ?_⟩, X.book⟩
    · show T.heap.size + R'.cells ≤ e.platform.maxCells
      omega
    · show T.slotsUsed + R'.slots ≤ e.platform.maxSlots
      omega
  · refine ⟨?_, Nat.le_refl _, Nat.le_refl _, ?_, ?_, fun a c9 h9 => ⟨c9, h9, rfl, rfl, fun _ _ => rfl⟩⟩
    · obtain ⟨t, ht, -⟩ := State.frames_cons hr
      show T.setVm s.vm = { ((T.setVm s.vm).setFrames (.invoking m args :: below)).setFrames (T.setVm s.vm).frames with heap := T.heap, slotsUsed := T.slotsUsed }
      rw [State.setFrames_setFrames, State.setFrames_self ht]
      rfl
    · show T.slotsUsed = T.slotsUsed + ((T.heap.toList.drop T.heap.size).map (·.slots.size)).sum
      rw [hnil]
      rfl
    · show ((T.heap.toList.drop T.heap.size).map (·.slots.size)).sum ≤ 0
      rw [hnil]
      exact Nat.le_refl _
theorem xv_old {U : State} {k n : Nat} (h : s.sameButNew ({ U with vm := s.vm } : State) [] k n) : s.heap.size ≤ U.heap.size ∧ ∀ q : Nat, q < s.heap.size → U.heap[q]? = s.heap[q]? := by
  obtain ⟨-, h2, -, -, -, h6⟩ := h
  refine ⟨h2, fun q hq => ?_⟩
  obtain ⟨c9, e1, e2, e3, e4⟩ := h6 q _ (Array.getElem?_eq_getElem hq)
  have hs : c9.slots = (s.heap[q]).slots := Array.ext_getElem? fun i => e4 i (fun hm => nomatch hm)
  have h9 : c9 = s.heap[q] := by
    rw [hs] at e2
    exact e2
  have e5 : U.heap[q]? = some c9 := e1
  rw [e5, h9, Array.getElem?_eq_getElem hq]
end THROW
theorem xv_atoms {G : xv_G} {U : State} {args : Array Value} {own cls : String} {ic : Nat} (hT : xv_Th G U U.heap) (hs : (own, ic, cls) ∈ xv_sites) : ∀ w ∈ Bundle.ownAtoms own ic cls xv_names, w.before args U = true := by
  obtain ⟨h1, ⟨h2, h3⟩, ⟨h4, h5⟩, -⟩ := hT
  intro w hw
  by_cases hn : xNo w = true
  · have hm : w ∈ xv_thw := List.mem_flatMap.mpr ⟨_, hs, List.mem_filter.mpr ⟨hw, hn⟩⟩
    exact va_Nw.use (xv_thw_ok w hm).1 (h1 w hm)
  · have key : ∀ w ∈ Bundle.ownAtoms own ic cls xv_names, xNo w = false → w = .isRef (.static Bundle.tN "UNASSIGNED_STACK" Bundle.steD) ∨ w = .isRef (.static Bundle.tN "SUPPRESSED_SENTINEL" Bundle.listD) ∨ w = .laysStatic Bundle.tN "UNASSIGNED_STACK" Bundle.steD ∨ w = .laysStatic Bundle.tN "SUPPRESSED_SENTINEL" Bundle.listD := by
      have : ∀ q ∈ xv_sites, ∀ w ∈ Bundle.ownAtoms q.1 q.2.1 q.2.2 xv_names, xNo w = false → w = .isRef (.static Bundle.tN "UNASSIGNED_STACK" Bundle.steD) ∨ w = .isRef (.static Bundle.tN "SUPPRESSED_SENTINEL" Bundle.listD) ∨ w = .laysStatic Bundle.tN "UNASSIGNED_STACK" Bundle.steD ∨ w = .laysStatic Bundle.tN "SUPPRESSED_SENTINEL" Bundle.listD := by decide +kernel
      exact this _ hs
    have hf : xNo w = false := by cases h : xNo w <;> first | rfl | exact absurd h hn
    rcases key w hw hf with rfl | rfl | rfl | rfl
    · exact xv_isR h2
    · exact xv_isR h4
    · exact xv_SL_word h3
    · exact xv_SL_word h5
theorem xv_sites_nl : ∀ q ∈ xv_sites, q.1 ≠ "FaslDeskLaw" := by decide +kernel
set_option maxHeartbeats 1000000 in
theorem xv_throw {sc : Nat × (Nat → Int32)} {d : Nat} {J : xv_J} {pc : Nat} {lv : List (Option Value)} {st : List Value} {u : xv_M} {n1 s1 : Nat} {P : xv_P} {k ic ik is : Nat} {text : String} (hk : k < xv_nc) (hnf : xv_nf k = 0) (hsite : (J.1.cls, ic, xv_nm k) ∈ xv_sites) (hstr : (J.1.cls, is, text) ∈ xv_strs) (hl : Cond.classLink J.1.cls ik (xv_nm k) ∈ xv_BIG) (hi : Cond.initialized (xv_nm k) ∈ xv_BIG) (hins : Cond.instantiable (xv_nm k) 6 ∈ xv_BIG) (hfit : Bundle.fit (xv_nm k) = true)
    (d0 : decode J.2.1 pc = .ok (.new ik, 3)) (d3 : decode J.2.1 (pc + 3) = .ok (.dup, 1)) (d4 : decode J.2.1 (pc + 4) = .ok (.ldc is, 2)) (d6 : decode J.2.1 (pc + 6) = .ok (.invokespecial ic, 3)) (d9 : decode J.2.1 (pc + 9) = .ok (.athrow, 1))
    (hd : 6 ≤ d) (hst : (st.map fun v => v.category).sum ≤ 8) (hN1 : xv_N u + 1 ≤ n1) (hS1 : xv_S u + 6 ≤ s1) (hp : P (.inr (k, xv_N u)) (xv_nw u (k + 1) 0 6)) : xv_X sc d J pc lv st u n1 s1 P := by
  intro p l e R s m args below meth c G N0 S0 Q H locs ls A0 lo hP wf hS hN hZ
  refine xv_Wsz fun hle => ?_
  have hA := id A0
  obtain ⟨hexec, hb, -, hml, hown, hts, hlocks, -, hK, hR, hs, ⟨-, hL, hex⟩, hfin⟩ := hA
  have hsz := xv_sz hs hN hP hS hle
  intro T hT X
  have htr : e.platform.stackTraces = false := hL e X.admits
  have Y := xv_anew X (R' := { frames := R.frames, locals := R.locals, cells := 1, slots := 6 }) (Nat.le_refl _) (Nat.le_refl _) (by show xv_N u - N0 + 1 ≤ _; omega) (by show xv_S u - S0 + 6 ≤ _; omega)
  obtain ⟨s', hA'⟩ : ∃ z, z = (T.setVm s.vm).setFrames (.invoking m args :: below) := ⟨_, rfl⟩
  rw [← hA'] at Y
  have hvm : s'.vm = s.vm := by rw [hA']; rfl
  have hhp : s'.heap = H := by rw [hA']; exact hT
  have hW0 : s.WarmedH s'.vm := by rw [hvm]; exact State.WarmedH.refl s
  have hTh : xv_Th G s' s'.heap := by rw [hhp]; exact xv_Th_moved hW0 hK.2.2.2.2.2.2.1 hS.2.1
  have hat : ∀ w ∈ Bundle.ownAtoms J.1.cls ic (xv_nm k) xv_names, w.before args s' = true := xv_atoms hTh hsite
  obtain ⟨sa, hsa⟩ := hTh.2.2.2 _ hstr
  have hown' : s'.vm.findClass J.1.cls = some m.cls := by rw [hvm]; exact hown
  have wd : ∀ w ∈ xv_BIG, w.before args s' = true := fun w hw => word_at hW0 (xv_good w hw).2 (hts w hw)
  obtain ⟨vm₁, cX, kX, hfX, hkX, -, -, X₁, st1⟩ := Y.newCold hexec (own := J.1.cls) (C := xv_nm k) (index := ik) (n := 6) hown' (wd _ hl) (wd _ hins) (wd _ hi)
    (g := F0 m pc ls (st.map (xv_cv G))) rfl (by rw [hb]; exact d0) (Nat.le_refl _) (Nat.le_refl _)
  generalize hT1 : (T.setVm vm₁).pushCell { cls := cX, slots := kX.instanceTypes.map defaultValue, vm := .none } = T1 at X₁ st1
  have hcat : (Value.ref T.heap.size).category = 1 := rfl
  have hcellA : T1.heap[T.heap.size]? = some (freshCell cX kX) := by rw [← hT1]; exact State.heap_pushCell_size _ _
  have d3' : decode c.code (pc + 3) = .ok (.dup, 1) := by rw [hb]; exact d3
  have d4' : decode c.code (pc + 4) = .ok (.ldc is, 2) := by rw [hb]; exact d4
  have hsum := xv_sum_cv G st
  obtain ⟨U, hsteps, hrun, hend, hW, hsame, ce, hce, hO⟩ := X₁.ctorThrowS hexec htr (own := J.1.cls) (cls := xv_nm k) (names := xv_names) (ic := ic) hown' hfit (by decide +kernel) hat (fun x hx => nomatch hx) hfX hkX hcellA (by rw [hhp, hT]; exact Nat.le_refl _) (msg := .ref sa) rfl
    (g := { method := m, pc := pc + 6, locals := ls, stack := .ref sa :: .ref T.heap.size :: .ref T.heap.size :: st.map (xv_cv G), locked := none }) rfl (by rw [hml]; exact lo.1) rfl rfl (rest := st.map (xv_cv G)) rfl
    (by rw [hb]; exact d6) (by rw [hb]; exact d9) (fun x hx => by
      have h0 : c.exceptionTable = #[] := xv_Tb_0 hex (xv_hh_0 (xv_sites_nl _ hsite))
      rw [h0] at hx
      exact nomatch hx) (by show 2 + 3 < R.frames; omega) (by
      simp only [List.map_cons, List.sum_cons, hcat]
      show 2 * 0 + _ + (13 * (2 + 1) + 42) ≤ R.locals
      omega) hlocks
  obtain ⟨f1, f2⟩ := xv_old hsame
  rw [hhp] at f1 f2
  have hWs : s.WarmedH U.vm := State.WarmedH.trans hW0 hW
  have hTs : T.heap.size = xv_B G + xv_N u := by rw [hT]; exact hsz
  rw [hTs] at hend hce
  have hcl : ce.cls = (xv_dG G).1 k := by
    have h9 := hO.cls
    rw [hvm] at h9
    exact Option.some.inj (h9.symm.trans (hK.1.1 k _ (xv_cl_at hk)).2.1)
  have hkk : xv_k (xv_nw u (k + 1) 0 6) (xv_N u) = k + 1 := if_pos rfl
  have hPU : va_P (xv_dG G) xv_cl (xv_ws G (xv_nw u (k + 1) 0 6)) U.heap := by
    refine xv_pushed (s := s) (locs := locs) hsz hP (fun q hq => f2 q (by rw [hsz]; exact hq)) ?_ rfl (xv_E_obj hkk (Nat.lt_of_lt_of_le hk xv_nc_le)) (fun b hb => xv_nw_E hb)
    exact ⟨_, xv_cl_at hk, ce, hce, hcl, hO.vm, fun j hj => absurd (show j < 0 by rw [← hnf]; exact hj) (Nat.not_lt_zero j)⟩
  have hall : s.sameButNew ({ U with vm := s.vm } : State) locs (xv_N (xv_nw u (k + 1) 0 6) - N0) (xv_S (xv_nw u (k + 1) 0 6) - S0) := by
    subst hA'
    obtain ⟨e1, e2⟩ := hsame
    rw [State.setFrames_setFrames] at e1
    have h2 : (T.setVm s.vm).sameButNew ({ U with vm := s.vm } : State) [] (0 + 1) (0 + 6) := ⟨e1, e2⟩
    have h3 := X.same.trans h2
    rw [List.append_nil] at h3
    exact h3.mono (by show _ ≤ xv_N u + 1 - N0; omega) (by show _ ≤ xv_S u + 6 - S0; omega)
  refine ⟨U, st1 _ ?_, hfin.2 k (xv_N u) _ U locs hp hN1 hS1 hkk hPU (xv_wf_nw wf) ⟨Nat.le_trans hS.1 f1, fun q h1 h2 => by rw [f2 q (Nat.lt_of_lt_of_le h1 hS.1)]; exact hS.2.1 q h1 h2, hS.2.2⟩ hrun hend hWs hall⟩
  show Steps p.tables e below (T1.setTop { method := m, pc := pc + 3, locals := ls, stack := .ref T.heap.size :: st.map (xv_cv G), locked := none }) _
  jvm_step X₁.here [X₁.here.top, hexec, d3', Value.category]
  exact X₁.ldcString hexec (own := J.1.cls) (text := text) (index := is) (a := sa) hown' hsa.1 hsa.2
    (g := { method := m, pc := pc + 4, locals := ls, stack := .ref T.heap.size :: .ref T.heap.size :: st.map (xv_cv G), locked := none }) rfl d4' _ hsteps

