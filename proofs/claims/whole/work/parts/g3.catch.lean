/-! the search through a table, and the rule: a callee throws, and the caller catches -/
section CATCHT
variable {p : Program} {l : Launch} {e : Env} {R : Room} {s : State} {m : MethodId} {args : Array Value} {below : List Frame} {meth : Method} {c : Code} {locs : List Loc} {cells slots : Nat}
theorem xw_self (vm : Vm) (c : ClassId) : vm.assignable c c = true := by
  show vm.assignableAux (255 + 1) c c = true
  rw [Vm.assignableAux]
  simp only [beq_self_eq_true, Bool.true_or]
theorem xw_one {T : State} (X : Stand p l e R s m args below meth c T locs cells slots) {own name : String} (hown : s.vm.findClass own = some m.cls) {x : ExceptionTableEntry} {t : List ExceptionTableEntry} (hlink : (Cond.classLink own x.catchType name).before args s = true) {cT : ClassId} (hcT : s.vm.findClass name = some cT) {a : Addr} {cell : Cell} (hcell : T.heap[a]? = some cell) (hobj : cell.vm.isStatics = false) {ks : Class} (hks : s.vm.classes[cell.cls]? = some ks) {g : JFrame} (hg : g.method = m) (hx : covers x g.pc = true) (h0 : x.catchType ≠ 0) :
    ∃ vm', Stand p l e R s m args below meth c (T.setVm vm') locs cells slots ∧ ∀ S : State, S.vm = T.vm → S.heap = T.heap → ∀ (Q : Handler → Pre) (E : CtlPost) (d : Bool) (acts : List Action), wp (findHandler.go g a (x :: t)) Q E e d acts S ↔ if s.vm.assignable cell.cls cT = true then Q (.found x.handlerPc) d acts (S.setVm vm') else wp (findHandler.go g a t) Q E e d acts (S.setVm vm') := by
  have hpl : e.platform.magicAccessors = ({} : Platform).magicAccessors := by rw [X.admits.platform]
  obtain ⟨c', hc', hcl⟩ := Cond.classLink_spec hown hlink e.platform hpl
  cases hcT.symm.trans hc'
  obtain ⟨dk, _, _, kt, hd, _, _, _, _, hkt, _, hopen⟩ := hcl.here
  have hcl₀ := X.warmed.classLinks hcl
  have hW' : s.WarmedH (T.vm.noted m.cls x.catchType (.cls cT)) := X.warmed.noted hd hopen (State.rightAt_cls hcl)
  obtain ⟨ks', hks', -⟩ := hW'.alike.2.2 _ _ hks
  obtain ⟨kt', hkt', -⟩ := hW'.alike.2.2 _ _ hkt
  refine ⟨_, X.noted hW', fun S hv hh Q E d acts => ?_⟩
  subst hg
  have h1 : (T.vm.noted g.method.cls x.catchType (Resolved.cls cT)).assignable cell.cls cT = s.vm.assignable cell.cls cT := by rw [hW'.alike.assignable]
  rw [← h1]
  exact xw_go (s := S) (vm' := T.vm.noted g.method.cls x.catchType (.cls cT)) hx h0 (by rw [hv]; exact resolveClass_links e.toSetting hcl₀) (by rw [hv, Vm.size_note]; exact Nat.le_refl _) (by rw [hh]; exact hcell) (VmData.noStatics_of hobj) ⟨ks', hks'⟩ ⟨kt', hkt'⟩
def xw_ok (own : String) (pc k hpc : Nat) : List (Nat × Nat × Nat × Nat) → Prop
  | [] => False
  | q :: r => (q.1 ≤ pc ∧ pc < q.2.1 ∧ q.2.2.2 ≠ 0) ∧ ∃ j, (12 ≤ j ∧ j ≤ 14) ∧ Cond.classLink own q.2.2.2 (xv_nm j) ∈ xv_BIG ∧ ((j = k ∧ q.2.2.1 = hpc) ∨ (j ≠ k ∧ xw_ok own pc k hpc r))
theorem xw_tab {own : String} (hown : s.vm.findClass own = some m.cls) (hts : ∀ w ∈ xv_BIG, w.before args s = true) (hng : xv_Ng s) {g : JFrame} (hg : g.method = m) {a : Addr} {cell : Cell} {k hpc : Nat} (hk : 12 ≤ k ∧ k ≤ 14) (hobj : cell.vm.isStatics = false) (hcl : s.vm.findClass (xv_nm k) = some cell.cls) :
    ∀ (tb : List (Nat × Nat × Nat × Nat)) (L : List ExceptionTableEntry) (T : State), Stand p l e R s m args below meth c T locs cells slots → T.heap[a]? = some cell → L.map (fun h => (h.startPc, h.endPc, h.handlerPc, h.catchType)) = tb → xw_ok own g.pc k hpc tb →
      ∃ vm', Stand p l e R s m args below meth c (T.setVm vm') locs cells slots ∧ ∀ S : State, S.vm = T.vm → S.heap = T.heap → ∀ (Q : Handler → Pre) (E : CtlPost) (d : Bool) (acts : List Action), wp (findHandler.go g a L) Q E e d acts S ↔ Q (.found hpc) d acts (S.setVm vm') := by
  intro tb
  induction tb with
  | nil => intro L T _ _ _ h; exact h.elim
  | cons q r ih =>
    intro L T X hcell hL hok
    cases L with
    | nil => cases hL
    | cons x t =>
      obtain ⟨ks, hks, -⟩ := Vm.findClass_spec hcl
      rw [List.map_cons] at hL
      injection hL with e1 e2
      subst e1
      obtain ⟨⟨h1, h2, h3⟩, j, hj, hlk, hrest⟩ := hok
      have hx : covers x g.pc = true := by
        show (decide (x.startPc ≤ g.pc) && decide (g.pc < x.endPc)) = true
        rw [decide_eq_true h1, decide_eq_true h2]
        rfl
      rcases hrest with ⟨hjk, e3⟩ | ⟨hne, hr⟩
      · subst hjk
        obtain ⟨vm', X', hw⟩ := xw_one (t := t) X hown (hts _ hlk) hcl hcell hobj hks hg hx h3
        refine ⟨vm', X', fun S hv hh Q E d acts => ?_⟩
        rw [hw S hv hh, if_pos (xw_self _ _)]
        have e4 : x.handlerPc = hpc := e3
        rw [e4]
      · obtain ⟨ci, cj, f1, f2, f3⟩ := hng k j hk.1 hk.2 hj.1 hj.2 (fun h => hne h.symm)
        cases hcl.symm.trans f1
        obtain ⟨vm', X', hw⟩ := xw_one (t := t) X hown (hts _ hlk) f2 hcell hobj hks hg hx h3
        obtain ⟨vm2, X2, hw2⟩ := ih t (T.setVm vm') X' hcell e2 hr
        refine ⟨vm2, X2, fun S hv hh Q E d acts => ?_⟩
        rw [hw S hv hh, if_neg (by rw [f3]; decide)]
        exact hw2 (S.setVm vm') rfl hh Q E d acts
end CATCHT
section CAUGHT
variable {sc : Nat × (Nat → Int32)} {d d1 : Nat} {J J1 : xv_J} {pc : Nat} {lv : List (Option Value)} {st as : List Value} {u : xv_M} {n1 s1 n2 s2 : Nat} {P P1 : xv_P}
set_option maxHeartbeats 1000000 in
theorem xv_catV {b0 ci index n k hpc : Nat} (hM : xv_C sc d1 J1 (.ref b0 :: as) u n2 s2 P1) (hr : ∀ o w, P1 o w → ∃ a, o = .inr (k, a)) (hm : xv_mV J1 n) (hl : Cond.methodLink J.1.cls index J1.1 ∈ xv_BIG) (hn : as.length = n) (hd : d1 + 1 ≤ d) (hc : ci < xv_nc) (hci : xv_nm ci = J1.1.cls) (hk : xv_k u b0 = ci + 1) (hst : (st.map fun v => v.category).sum ≤ 8) (hdg : decode J.2.1 pc = .ok (.invokevirtual index, 3)) (hw : n2 ≤ n1 ∧ s2 ≤ s1) (hk2 : 12 ≤ k ∧ k ≤ 14) (hok : xw_ok J.1.cls pc k hpc (xv_hh J.1)) (kk : ∀ b w, P1 (.inr (k, b)) w → xv_N w = n2 → xv_S w = s2 → xv_X sc d J hpc lv [.ref b] w n1 s1 P) : xv_X sc d J pc lv (as.reverse ++ .ref b0 :: st) u n1 s1 P := by
  intro p l e R s m args below meth c G N0 S0 Q H locs ls A0 lo hP wf hS hN hZ
  refine xv_Wsz fun hle => ?_
  have hA := id A0
  obtain ⟨hx, hb, -, hml, hown, hts, -, -, hK, hR, hs, ⟨hG, hL, hex⟩, -⟩ := hA
  have hsz := xv_sz hs hN hP hS hle
  have hM1 := hM.1
  have hM2 := hM.2.1
  intro T hT X
  obtain ⟨m1, m2, m3, m4, m5, m6⟩ := hm
  obtain ⟨cellB, hcB, hoB, hclB⟩ := va_recv hK.1 hP (xv_cl_at hc) (xv_he wf hc hk)
  rw [← hT] at hcB
  have hclB : s.vm.findClass J1.1.cls = some cellB.cls := by rw [← hci]; exact hclB
  obtain ⟨mk, methM, hnamed, hmethM, hstM, habM⟩ := Cond.instanceMethod_spec (hts _ m2)
  obtain ⟨methM', cM, hmethM', -, -, -, -, -, -, hsigM⟩ := Cond.code_spec hnamed (hts _ m1)
  cases hmethM.symm.trans hmethM'
  obtain ⟨c2, r2, mm2, q1, q2, q3, q4, kP, hkP, hkPi⟩ := Cond.selects_spec (hts _ m3)
  cases hclB.symm.trans q1
  cases (State.methodFound?_of_named hnamed ⟨m5.1, m5.2.1⟩).symm.trans q2
  cases hnamed.symm.trans q3
  have hselP : selectMethod e.platform s.vm cellB.cls mk = .method mk := by rw [Launch.admits_selectMethod X.admits]; exact q4
  have hlen : as.length = methM.sig.parameters.length := by
    have h2 := m5.2.2
    rw [hsigM] at h2
    exact hn.trans (Option.some.inj h2).symm
  obtain ⟨vm₁, X₁, hstep₁⟩ := X.invokevirtual hx hown (hts _ hl) hnamed hmethM hstM hkP hkPi ⟨m5.1, m5.2.1⟩ (a := xv_B G + b0) (cell := cellB) hcB
    (fun z h => by rw [h] at hoB; cases hoB) hselP hmethM habM hkP hkPi (g := F0 m pc ls ((as.reverse ++ .ref b0 :: st).map (xv_cv G))) rfl (argsL := as.map (xv_cv G)) (rest := st.map (xv_cv G)) (by rw [List.length_map]; exact hlen) (xv_stk G as b0 st) (by rw [hb]; exact hdg)
  obtain ⟨k', b, w, V, L, g1, g2, g3, g4, g5, g6, g7, X', hL', hsteps⟩ := xv_runT hM (fun o w h => by obtain ⟨a, h⟩ := hr o w h; exact ⟨_, h⟩) hG hL (by omega) (by omega) hts m1 m4 X₁ (g := F0 m pc ls (st.map (xv_cv G))) rfl (lo.1.trans hml.symm) (by rw [hb]; exact hdg) (by show 2 * 0 + _ ≤ 8; rw [xv_sum_cv]; omega) (X₁.named hnamed) (by omega) (by omega) (xv_pre hsz hP wf hK hS hT X₁.warmed)
  obtain ⟨b', hb'⟩ := hr _ _ g1
  injection hb' with hb'
  injection hb' with hk' hb'
  subst hk'
  have hkc : k' < xv_nc := Nat.lt_of_le_of_lt hk2.2 (by decide)
  obtain ⟨cellX, x1, x2, x3⟩ := va_recv hK.1 g5 (xv_cl_at hkc) (xv_he g4 hkc g7)
  obtain ⟨vm', X2, hw2⟩ := xw_tab (g := F0 m pc ls (st.map (xv_cv G))) (a := xv_B G + b) (hpc := hpc) hown hts hK.2.2.2.2.2.2.2 rfl hk2 x2 x3 (xv_hh J.1) c.exceptionTable.toList V X' x1 hex hok
  have hfind : xwF e ((V.setTop (F0 m pc ls (st.map (xv_cv G)))).pushFrame (.throwing (xv_B G + b))) (F0 m pc ls (st.map (xv_cv G))) (xv_B G + b) (.found hpc) vm' := fun Q E d acts =>
    (W.findHandler_eq (meth := meth) (code := c) (by exact X'.method') X'.code).trans (hw2 _ (Stand.throwing_vm ..) (Stand.throwing_heap ..) Q E d acts)
  have eN : xv_N u - N0 + (n2 - xv_N u) = xv_N w - N0 := by omega
  have eS : xv_S u - S0 + (s2 - xv_S u) = xv_S w - S0 := by omega
  rw [eN, eS] at X2
  have hSv : va_S (xv_A G) s.heap V.heap (locs ++ L) := by
    refine ⟨Nat.le_trans hS.1 (by rw [← hT]; exact g6.1), fun q h1 h2 => ?_, fun q hq => ?_⟩
    · have := g6.2 q (by show q < T.heap.size; rw [hT]; exact Nat.lt_of_lt_of_le h1 hS.1) h2
      rw [this]
      show T.heap[q]? = _
      rw [hT]
      exact hS.2.1 q h1 h2
    · rcases List.mem_append.mp hq with h | h
      · exact hS.2.2 q h
      · exact hL' q h
  obtain ⟨t, a1, a2⟩ := kk b w g1 g2 g3 p l e R s m args below meth c G N0 S0 Q V.heap (locs ++ L) ls A0 lo g5 g4 hSv (by omega) (by omega) (V.setVm vm') rfl X2
  exact ⟨t, hstep₁ _ (fun acts => by rw [doInvoke_state]; exact hsteps.trans (xw_caught X'.here hfind a1)), a2⟩
end CAUGHT

