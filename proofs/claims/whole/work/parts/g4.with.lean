/-! contracts of the methods that catch, and the call of such a one -/
def xv_ww (J : xv_J) : List Cond := .codeWith J.1 J.2.1 J.2.2.1 J.2.2.2 (xv_hh J.1) :: xv_BIG
def xv_Cw (sc : Nat × (Nat → Int32)) (d : Nat) (J : xv_J) (as : List Value) (u : xv_M) (n1 s1 : Nat) (P : xv_P) : Prop :=
  xv_N u ≤ n1 ∧ xv_S u ≤ s1 ∧ ∀ (l : Launch) (G : xv_G), G.2.2.2.2 = sc → xv_L l → MetFree l J.1 (headSpec (xv_ww J) (xv_rm d (n1 - xv_N u) (s1 - xv_S u))) (xv_Pc G as u) (fun _ _ _ _ _ => True) (xv_Qx G n1 s1 P (n1 - xv_N u) (s1 - xv_S u))
theorem xv_Cw_of {sc : Nat × (Nat → Int32)} {d : Nat} {J : xv_J} {as : List Value} {u : xv_M} {n1 s1 : Nat} {P : xv_P} (hpl : plainName J.1.cls = true) (hn : xv_N u ≤ n1) (hs : xv_S u ≤ s1) (hc : ∀ v ∈ as, v.category = 1) (hl : as.length ≤ J.2.2.1)
    (h : xv_X sc d J 0 (as.map some ++ List.replicate (J.2.2.1 - as.length) none) [] u n1 s1 (xv_q n1 s1 P)) : xv_Cw sc d J as u n1 s1 P := by
  refine ⟨hn, hs, fun l G hG hL => ?_⟩
  refine MetFree.of_bodyS (code := J.2.1) (maxLocals := J.2.2.1) (ret := J.2.2.2) hpl ?_ ?_
  · intro args s m hp hnm
    obtain ⟨m9, meth, c, hn9, h1, h2, h3, h4, -, h5, h6, -⟩ := Cond.codeWith_spec (atoms_spec (ws := xv_ww J) hp _ List.mem_cons_self)
    cases hnm.symm.trans hn9
    exact ⟨meth, c, h1, h2, h3, h4, h5, h6⟩
  · intro p e s m args below meth c s₁ B hml hP _
    obtain ⟨rfl, hsz, hPP, wf, hK⟩ := hP
    have hh0 : s₁.heap = s.heap := by rw [B.state]; rfl
    have hts := atoms_spec (ws := xv_ww J) B.pre
    have hown : s.vm.findClass J.1.cls = some m.cls := findClass_of_methodNamed B.named
    have hnam : meth.name = J.1.name := (name_of_methodNamed B.named B.method).1
    have X0 := Stand.of_body B
    have hex : xv_Tb J c := by
      obtain ⟨m9, meth', c', hn9, h1, h2, -, -, h7, -⟩ := Cond.codeWith_spec (hts _ List.mem_cons_self)
      cases B.named.symm.trans hn9
      cases B.method.symm.trans h1
      cases X0.code.symm.trans h2
      exact h7
    have hfin : xv_fin p l e (headSpec (xv_ww J) (xv_rm d (n1 - xv_N u) (s1 - xv_S u))).room s m (as.map (xv_cv G)).toArray below meth c J G (xv_N u) (xv_S u) n1 s1 (xv_q n1 s1 P) (fun t => ∃ o, t.status = .running ∧ Ended t below o ∧ xv_Qx G n1 s1 P (n1 - xv_N u) (s1 - xv_S u) (as.map (xv_cv G)).toArray s o t) := by
      refine ⟨fun v w pc ls i H locs hPo _ _ hrt hdg hPH wf hS => ?_, fun k a w U locs hPo _ _ hk hPH wf hS hrun hend hW hsame => ?_⟩
      · obtain ⟨hPo, hn1, hs1⟩ := hPo
        rw [hn1, hs1]
        have key : ∀ t : State, t.heap = H → s.WarmedH t.vm → xv_Qb G n1 s1 P (as.map (xv_cv G)).toArray s (.returned (v.map (xv_cv G))) t := fun t ht hW => ⟨.inl v, w, hPo, hn1, hs1, wf, by rw [ht]; exact hPH, hS.F ht, rfl⟩
        have fin : ∀ t : State, MQ below (xv_Qb G n1 s1 P) (as.map (xv_cv G)).toArray s (n1 - xv_N u) (s1 - xv_S u) (xv_A G) t → ∃ o, t.status = .running ∧ Ended t below o ∧ xv_Qx G n1 s1 P (n1 - xv_N u) (s1 - xv_S u) (as.map (xv_cv G)).toArray s o t := by
          rintro t ⟨o, h1, h2, h3, L, ⟨-, h4, h5⟩, h6⟩
          exact ⟨o, h1, h2, h3, L, ⟨h4, h5⟩, h6⟩
        refine xv_Wmono fin ?_
        rcases hrt with ⟨hr, rfl, x, rfl⟩ | ⟨hr, rfl, x, rfl, hx⟩ | ⟨hr, rfl, rfl⟩ | ⟨hr, rfl, a, rfl⟩
        · exact W.iret B.exec B.bytes (B.returns.trans hr) key hS.2.2 hdg B.notSynchronized
        · exact W.zret B.exec B.bytes (B.returns.trans hr) (by show Value.int (x &&& 1) = _; rw [hx]) key hS.2.2 hdg B.notSynchronized
        · exact W.vret B.exec B.bytes (B.returns.trans hr) key hS.2.2 hdg B.notSynchronized
        · rcases hr with ⟨nm, hr⟩ | ⟨t, hr⟩
          · exact W.aret B.exec B.bytes (B.returns.trans hr) (Or.inl ⟨nm, rfl⟩) (Or.inr ⟨_, rfl⟩) key hS.2.2 hdg B.notSynchronized
          · exact W.aret B.exec B.bytes (B.returns.trans hr) (Or.inr ⟨t, rfl⟩) (Or.inr ⟨_, rfl⟩) key hS.2.2 hdg B.notSynchronized
      · obtain ⟨hPo, hn1, hs1⟩ := hPo
        rw [hn1, hs1] at hsame
        exact ⟨.threw (xv_B G + a), hrun, hend, ⟨.inr (k, a), w, hPo, hn1, hs1, wf, hPH, ⟨hS.1, hS.2.1⟩, rfl, hk⟩, locs, ⟨hW, hsame⟩, hS.2.2⟩
    rw [lg_entry_eq]
    obtain ⟨t, a1, o, b1, b2, b3⟩ := h p l e (headSpec (xv_ww J) (xv_rm d (n1 - xv_N u) (s1 - xv_S u))).room s m (as.map (xv_cv G)).toArray below meth c G (xv_N u) (xv_S u) _ s.heap [] _
      ⟨B.exec, B.bytes, B.returns, hml, hown, fun w hw => hts w (List.mem_cons_of_mem _ hw), B.notSynchronized, hnam, hK, ⟨Nat.le_refl _, Nat.le_refl _, Nat.le_refl _, Nat.le_refl _⟩, hsz, ⟨hG, hL, hex⟩, hfin⟩
      (xv_lo_entry hc hl) hPP wf va_S.rf (Nat.le_refl _) (Nat.le_refl _) s₁ hh0 (by rw [Nat.sub_self, Nat.sub_self]; exact X0)
    exact ⟨t, o, a1, b1, b2, b3⟩
set_option maxHeartbeats 1000000 in
theorem xv_runW {sc : Nat × (Nat → Int32)} {d1 : Nat} {J1 : xv_J} {as : List Value} {u : xv_M} {n2 s2 : Nat} {P1 : xv_P} (hM : xv_Cw sc d1 J1 as u n2 s2 P1) (hr : ∀ o w, P1 o w → ∃ v, o = .inl v) {l : Launch} {G : xv_G} (hG : G.2.2.2.2 = sc) (hL : xv_L l) {p : Program} {e : Env} {R : Room} {s : State} {args : Array Value} {below : List Frame}
    (hfr : d1 + 1 ≤ R.frames) (hlo : 8 + (J1.2.2.1 + 11) + 60 * d1 ≤ R.locals) (hts : ∀ w ∈ xv_BIG, w.before args s = true) (hcode : Cond.codeWith J1.1 J1.2.1 J1.2.2.1 J1.2.2.2 (xv_hh J1.1) ∈ xv_BIG) (hini : Cond.initialized J1.1.cls ∈ xv_BIG)
    {m : MethodId} {meth : Method} {c : Code} {U : State} {Ls : List Loc} {c0 s0 : Nat} (X : Stand p l e R s m args below meth c U Ls c0 s0) {g : JFrame} (hg : g.method = m) (hsize : g.locals.size = c.maxLocals) {ig : Instr} (hdg : decode c.code g.pc = .ok (ig, 3)) (hW : 2 * g.monitorRoom + (g.stack.map fun v => v.category).sum ≤ 8) {mk : MethodId} (hn : U.methodNamed? J1.1 = some mk)
    (hc : c0 + (n2 - xv_N u) ≤ R.cells) (hs : s0 + (s2 - xv_S u) ≤ R.slots) (hPc : xv_Pc G as u (as.map (xv_cv G)).toArray U) :
    ∃ (v : Option Value) (w : xv_M) (V : State) (L : List Loc), P1 (.inl v) w ∧ xv_N w = n2 ∧ xv_S w = s2 ∧ xv_wf w ∧ va_P (xv_dG G) xv_cl (xv_ws G w) V.heap ∧ (U.heap.size ≤ V.heap.size ∧ ∀ q : Nat, q < U.heap.size → ¬ xv_A G q → V.heap[q]? = U.heap[q]?) ∧
      Stand p l e R s m args below meth c V (Ls ++ L) (c0 + (n2 - xv_N u)) (s0 + (s2 - xv_S u)) ∧ (∀ q ∈ L, xv_A G q.base) ∧ Steps p.tables e below (doInvoke e (U.setTop g) [] mk (as.map (xv_cv G)).toArray).1 (V.setTop { g with pc := g.pc + 3, stack := (v.map (xv_cv G)).toList ++ g.stack }) := by
  have wd : ∀ w ∈ xv_BIG, ∀ a', w.before a' U = true := fun w hw a' => word_at X.warmed (xv_good w hw).2 (hts w hw)
  have h1 : (headSpec (xv_ww J1) (xv_rm d1 (n2 - xv_N u) (s2 - xv_S u))).pre.before (as.map (xv_cv G)).toArray U = true := atoms_intro fun w hw => by
    rcases List.mem_cons.mp hw with rfl | hw
    · exact wd _ hcode _
    · exact wd _ hw _
  have hPc' : xv_Pc G as u (as.map (xv_cv G)).toArray (U.calling g mk (as.map (xv_cv G)).toArray) := xv_blind G as u _ _ _ _ hPc
  obtain ⟨m9, methY, cY, hn9, hmY, hcY, -, hlY, -⟩ := Cond.codeWith_spec (wd _ hcode (as.map (xv_cv G)).toArray)
  cases hn.symm.trans hn9
  obtain ⟨kY, hkY, -⟩ := className_of_methodNamed hn
  have hinitY : kY.init = .initialized := Cond.initialized_spec (findClass_of_methodNamed hn) hkY (wd _ hini (as.map (xv_cv G)).toArray)
  have h : At U g.method c below := by rw [hg]; exact X.here
  have happ : (headSpec (xv_ww J1) (xv_rm d1 (n2 - xv_N u) (s2 - xv_S u))).appliesLoose J1.1 e.platform (U.calling g mk (as.map (xv_cv G)).toArray) = true :=
    Spec.appliesLoose_calling (g := g) h hdg hn hkY hinitY
      (X.room_calling (g := g) (R' := (headSpec (xv_ww J1) (xv_rm d1 (n2 - xv_N u) (s2 - xv_S u))).room) hsize hmY hcY hfr (by rw [hlY]; show _ + 60 * d1 ≤ _; omega) hc hs) h1
  obtain ⟨mid, hmid⟩ := h.above
  have hfr' : (U.setTop g).frames = (.java g :: mid) ++ below := by rw [State.frames_setTop' g h.top, hmid]; rfl
  obtain ⟨o, s₂, hsteps, -, hend, hq⟩ := Steps.callFree (hM.2.2 l G hG hL) p X.admits X.cas X.clock (acts := []) hfr' happ hPc' trivial
  have hq : xv_Qx G n2 s2 P1 (n2 - xv_N u) (s2 - xv_S u) (as.map (xv_cv G)).toArray (U.calling g mk (as.map (xv_cv G)).toArray) o s₂ := hq
  rw [State.frames_setTop' g h.top] at hend
  obtain ⟨g₀, hg0⟩ := Option.isSome_iff_exists.mp h.top
  obtain ⟨r, hr0⟩ := State.topJava?_eq_some.mp hg0
  have hr' : (({ U with heap := s₂.heap, slotsUsed := s₂.slotsUsed } : State).setVm s₂.vm).frames = .java g₀ :: r := hr0
  obtain ⟨⟨o', w, g1, g2, g3, g4, g5, g6, g7⟩, L, ⟨hW₂, hsm⟩, hL9⟩ := hq
  obtain ⟨v, rfl⟩ := hr _ _ g1
  have g7 : o = .returned (v.map (xv_cv G)) := g7
  subst g7
  obtain ⟨e2, q2, q3, q4, q5, q6⟩ := id hsm
  have e3 : s₂ = ({ (U.calling g mk (as.map (xv_cv G)).toArray).setFrames s₂.frames with heap := s₂.heap, slotsUsed := s₂.slotsUsed } : State).setVm s₂.vm := by
    have : s₂ = ({ s₂ with vm := (U.calling g mk (as.map (xv_cv G)).toArray).vm } : State).setVm s₂.vm := rfl
    rw [e2] at this
    exact this
  obtain ⟨c₂, i₂, len₂, hc₂, hd₂, hf₂⟩ := hend
  have hW' : U.WarmedH s₂.vm := hW₂
  have hcc : c₂ = c := by
    have h1 : s₂.code? g.method = U.code? g.method := by
      rw [State.code?_eq, State.code?_eq, hW'.alike.method?]
    exact Option.some.inj (hc₂.symm.trans (h1.trans h.code))
  subst hcc
  have hlen : len₂ = 3 := by rw [hdg] at hd₂; cases hd₂; rfl
  subst hlen
  have hs₂ : s₂ = (({ U with heap := s₂.heap, slotsUsed := s₂.slotsUsed } : State).setVm s₂.vm).setTop { g with pc := g.pc + 3, stack := (v.map (xv_cv G)).toList ++ g.stack } := by
    refine e3.trans ?_
    rw [hf₂, State.calling_eq h.top, State.setFrames_setFrames, State.setTop_of_frames _ hr', hr0]
    rfl
  have hsame : U.sameButNew ({ U with heap := s₂.heap, slotsUsed := s₂.slotsUsed } : State) L (n2 - xv_N u) (s2 - xv_S u) := by
    refine ⟨?_, q2, q3, q4, q5, q6⟩
    obtain ⟨t, ht, -⟩ := State.frames_cons hr0
    show ({ U with heap := s₂.heap, slotsUsed := s₂.slotsUsed } : State) = { U.setFrames U.frames with heap := s₂.heap, slotsUsed := s₂.slotsUsed }
    rw [State.setFrames_self ht]
  refine ⟨v, w, ({ U with heap := s₂.heap, slotsUsed := s₂.slotsUsed } : State).setVm s₂.vm, L, g1, g2, g3, g4, g5, g6, ?_, hL9, ?_⟩
  · subst hg
    exact ⟨X.admits, X.cas, X.clock, X.frames, X.room, X.hears, X.method, X.code, (X.here.setHeapUsed s₂.heap s₂.slotsUsed).setVm hW'.alike, X.tail, State.WarmedH.trans X.warmed hW', X.limits, X.bytes, X.same.trans (hsame.setVm s.vm)⟩
  · rw [← hs₂]
    exact hsteps
section CALLW
variable {sc : Nat × (Nat → Int32)} {d d1 : Nat} {J J1 : xv_J} {pc : Nat} {lv : List (Option Value)} {st as : List Value} {u : xv_M} {n1 s1 n2 s2 : Nat} {P P1 : xv_P}
set_option maxHeartbeats 1000000 in
theorem xv_calSw {index n : Nat} (hM : xv_Cw sc d1 J1 as u n2 s2 P1) (hr : ∀ o w, P1 o w → ∃ v, o = .inl v) (m1 : Cond.codeWith J1.1 J1.2.1 J1.2.2.1 J1.2.2.2 (xv_hh J1.1) ∈ xv_BIG) (m2 : Cond.static J1.1 ∈ xv_BIG) (m4 : Cond.initialized J1.1.cls ∈ xv_BIG) (m5 : J1.1.cls ≠ "java/lang/invoke/MethodHandle" ∧ J1.1.cls ≠ "java/lang/invoke/VarHandle" ∧ (parseMethodDescriptor J1.1.desc).map (fun d => d.parameters.length) = some n) (m6 : J1.2.2.1 ≤ 40) (hl : Cond.methodLink J.1.cls index J1.1 ∈ xv_BIG) (hn : as.length = n) (hd : d1 + 1 ≤ d) (hst : (st.map fun v => v.category).sum ≤ 8) (hdg : decode J.2.1 pc = .ok (.invokestatic index, 3)) (hw : n2 ≤ n1 ∧ s2 ≤ s1) (kk : ∀ v w, P1 (.inl v) w → xv_N w = n2 → xv_S w = s2 → xv_X sc d J (pc + 3) lv (v.toList ++ st) w n1 s1 P) : xv_X sc d J pc lv (as.reverse ++ st) u n1 s1 P := by
  intro p l e R s m args below meth c G N0 S0 Q H locs ls A0 lo hP wf hS hN hZ
  refine xv_Wsz fun hle => ?_
  have hA := id A0
  obtain ⟨hx, hb, -, hml, hown, hts, -, -, hK, hR, hs, ⟨hG, hL, -⟩, -⟩ := hA
  have hsz := xv_sz hs hN hP hS hle
  have hM1 := hM.1
  have hM2 := hM.2.1
  intro T hT X
  obtain ⟨mk, methM, cM, hnamed, hmethM, -, -, -, -, -, -, hsigM⟩ := Cond.codeWith_spec (hts _ m1)
  have hstatic : methM.isStatic = true := Cond.static_spec hnamed hmethM (hts _ m2)
  obtain ⟨kP, hkP, -⟩ := className_of_methodNamed hnamed
  have hinitP : kP.init = .initialized := Cond.initialized_spec (findClass_of_methodNamed hnamed) hkP (hts _ m4)
  have hlen : as.length = methM.sig.parameters.length := by
    have h2 := m5.2.2
    rw [hsigM] at h2
    exact hn.trans (Option.some.inj h2).symm
  obtain ⟨vm₁, X₁, hstep₁⟩ := X.invokestatic hx hown (hts _ hl) hnamed hmethM hstatic hkP hinitP ⟨m5.1, m5.2.1⟩ (g := F0 m pc ls ((as.reverse ++ st).map (xv_cv G))) rfl (argsL := as.map (xv_cv G)) (rest := st.map (xv_cv G)) (by rw [List.length_map]; exact hlen) (xv_stkS G as st) (by rw [hb]; exact hdg)
  obtain ⟨v, w, V, L, g1, g2, g3, g4, g5, g6, X', hL', hsteps⟩ := xv_runW hM hr hG hL (by omega) (by omega) hts m1 m4 X₁ (g := F0 m pc ls (st.map (xv_cv G))) rfl (lo.1.trans hml.symm) (by rw [hb]; exact hdg) (by show 2 * 0 + _ ≤ 8; rw [xv_sum_cv]; omega) (X₁.named hnamed) (by omega) (by omega) (xv_pre hsz hP wf hK hS hT X₁.warmed)
  have eN : xv_N u - N0 + (n2 - xv_N u) = xv_N w - N0 := by omega
  have eS : xv_S u - S0 + (s2 - xv_S u) = xv_S w - S0 := by omega
  rw [eN, eS] at X'
  have hSv : va_S (xv_A G) s.heap V.heap (locs ++ L) := by
    refine ⟨Nat.le_trans hS.1 (by rw [← hT]; exact g6.1), fun q h1 h2 => ?_, fun q hq => ?_⟩
    · have := g6.2 q (by show q < T.heap.size; rw [hT]; exact Nat.lt_of_lt_of_le h1 hS.1) h2
      rw [this]
      show T.heap[q]? = _
      rw [hT]
      exact hS.2.1 q h1 h2
    · rcases List.mem_append.mp hq with h | h
      · exact hS.2.2 q h
      · exact hL' q h
  obtain ⟨t, a1, a2⟩ := kk v w g1 g2 g3 p l e R s m args below meth c G N0 S0 Q V.heap (locs ++ L) ls A0 lo g5 g4 hSv (by omega) (by omega) V rfl X'
  have est : (v.toList ++ st).map (xv_cv G) = (v.map (xv_cv G)).toList ++ st.map (xv_cv G) := by cases v <;> rfl
  rw [est] at a1
  exact ⟨t, hstep₁ _ (fun acts => by rw [doInvoke_state]; exact hsteps.trans a1), a2⟩
end CALLW

