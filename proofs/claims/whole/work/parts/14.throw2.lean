/-! a callee that throws: the exception leaves the caller too -/
set_option maxHeartbeats 1000000 in
theorem xv_runT {sc : Nat × (Nat → Int32)} {d1 : Nat} {J1 : xv_J} {as : List Value} {u : xv_M} {n2 s2 : Nat} {P1 : xv_P} (hM : xv_C sc d1 J1 as u n2 s2 P1) (hr : ∀ o w, P1 o w → ∃ q, o = .inr q) {l : Launch} {G : xv_G} (hG : G.2.2.2.2 = sc) (hL : xv_L l) {p : Program} {e : Env} {R : Room} {s : State} {args : Array Value} {below : List Frame}
    (hfr : d1 + 1 ≤ R.frames) (hlo : 8 + (J1.2.2.1 + 11) + 60 * d1 ≤ R.locals) (hts : ∀ w ∈ xv_BIG, w.before args s = true) (hcode : Cond.code J1.1 J1.2.1 J1.2.2.1 J1.2.2.2 ∈ xv_BIG) (hini : Cond.initialized J1.1.cls ∈ xv_BIG)
    {m : MethodId} {meth : Method} {c : Code} {U : State} {Ls : List Loc} {c0 s0 : Nat} (X : Stand p l e R s m args below meth c U Ls c0 s0) {g : JFrame} (hg : g.method = m) (hsize : g.locals.size = c.maxLocals) {ig : Instr} {len : Nat} (hdg : decode c.code g.pc = .ok (ig, len)) (hW : 2 * g.monitorRoom + (g.stack.map fun v => v.category).sum ≤ 8) {mk : MethodId} (hn : U.methodNamed? J1.1 = some mk)
    (hc : c0 + (n2 - xv_N u) ≤ R.cells) (hs : s0 + (s2 - xv_S u) ≤ R.slots) (hPc : xv_Pc G as u (as.map (xv_cv G)).toArray U) :
    ∃ (k b : Nat) (w : xv_M) (V : State) (L : List Loc), P1 (.inr (k, b)) w ∧ xv_N w = n2 ∧ xv_S w = s2 ∧ xv_wf w ∧ va_P (xv_dG G) xv_cl (xv_ws G w) V.heap ∧ (U.heap.size ≤ V.heap.size ∧ ∀ q : Nat, q < U.heap.size → ¬ xv_A G q → V.heap[q]? = U.heap[q]?) ∧ xv_k w b = k + 1 ∧
      Stand p l e R s m args below meth c V (Ls ++ L) (c0 + (n2 - xv_N u)) (s0 + (s2 - xv_S u)) ∧ (∀ q ∈ L, xv_A G q.base) ∧ Steps p.tables e below (doInvoke e (U.setTop g) [] mk (as.map (xv_cv G)).toArray).1 ((V.setTop g).pushFrame (.throwing (xv_B G + b))) := by
  have wd : ∀ w ∈ xv_BIG, ∀ a', w.before a' U = true := fun w hw a' => word_at X.warmed (xv_good w hw).2 (hts w hw)
  have h1 : (headSpec (xv_w J1) (xv_rm d1 (n2 - xv_N u) (s2 - xv_S u))).pre.before (as.map (xv_cv G)).toArray U = true := atoms_intro fun w hw => by
    rcases List.mem_cons.mp hw with rfl | hw
    · exact wd _ hcode _
    · exact wd _ hw _
  have hPc' : xv_Pc G as u (as.map (xv_cv G)).toArray (U.calling g mk (as.map (xv_cv G)).toArray) := xv_blind G as u _ _ _ _ hPc
  obtain ⟨methY, cY, hmY, hcY, -, hlY, -, -, -, -⟩ := Cond.code_spec hn (wd _ hcode (as.map (xv_cv G)).toArray)
  obtain ⟨kY, hkY, -⟩ := className_of_methodNamed hn
  have hinitY : kY.init = .initialized := Cond.initialized_spec (findClass_of_methodNamed hn) hkY (wd _ hini (as.map (xv_cv G)).toArray)
  have h : At U g.method c below := by rw [hg]; exact X.here
  have happ : (headSpec (xv_w J1) (xv_rm d1 (n2 - xv_N u) (s2 - xv_S u))).appliesLoose J1.1 e.platform (U.calling g mk (as.map (xv_cv G)).toArray) = true :=
    Spec.appliesLoose_calling (g := g) h hdg hn hkY hinitY
      (X.room_calling (g := g) (R' := (headSpec (xv_w J1) (xv_rm d1 (n2 - xv_N u) (s2 - xv_S u))).room) hsize hmY hcY hfr (by rw [hlY]; show _ + 60 * d1 ≤ _; omega) hc hs) h1
  obtain ⟨mid, hmid⟩ := h.above
  have hfr' : (U.setTop g).frames = (.java g :: mid) ++ below := by rw [State.frames_setTop' g h.top, hmid]; rfl
  obtain ⟨o, s₂, hsteps, -, hend, hq⟩ := Steps.callFree (hM.2.2 l G hG hL) p X.admits X.cas X.clock (acts := []) hfr' happ hPc' trivial
  have hq : xv_Qx G n2 s2 P1 (n2 - xv_N u) (s2 - xv_S u) (as.map (xv_cv G)).toArray (U.calling g mk (as.map (xv_cv G)).toArray) o s₂ := hq
  rw [State.frames_setTop' g h.top] at hend
  obtain ⟨g₀, hg0⟩ := Option.isSome_iff_exists.mp h.top
  obtain ⟨r, hr0⟩ := State.topJava?_eq_some.mp hg0
  have hr' : (({ U with heap := s₂.heap, slotsUsed := s₂.slotsUsed } : State).setVm s₂.vm).frames = .java g₀ :: r := hr0
  obtain ⟨⟨o', w, g1, g2, g3, g4, g5, g6, g7⟩, L, ⟨hW₂, hsm⟩, hL9⟩ := hq
  obtain ⟨⟨k, b⟩, rfl⟩ := hr _ _ g1
  obtain ⟨rfl, hkb⟩ := g7
  obtain ⟨e2, q2, q3, q4, q5, q6⟩ := id hsm
  have e3 : s₂ = ({ (U.calling g mk (as.map (xv_cv G)).toArray).setFrames s₂.frames with heap := s₂.heap, slotsUsed := s₂.slotsUsed } : State).setVm s₂.vm := by
    have : s₂ = ({ s₂ with vm := (U.calling g mk (as.map (xv_cv G)).toArray).vm } : State).setVm s₂.vm := rfl
    rw [e2] at this
    exact this
  have hf₂ : s₂.frames = .throwing (xv_B G + b) :: .java g :: U.frames.tail := hend
  have hW' : U.WarmedH s₂.vm := hW₂
  have hs₂ : s₂ = ((({ U with heap := s₂.heap, slotsUsed := s₂.slotsUsed } : State).setVm s₂.vm).setTop g).pushFrame (.throwing (xv_B G + b)) := by
    refine e3.trans ?_
    rw [hf₂, State.calling_eq h.top, State.setFrames_setFrames, State.pushFrame, State.frames_setTop _ hr', State.setTop_of_frames _ hr', State.setFrames_setFrames, hr0]
    rfl
  have hsame : U.sameButNew ({ U with heap := s₂.heap, slotsUsed := s₂.slotsUsed } : State) L (n2 - xv_N u) (s2 - xv_S u) := by
    refine ⟨?_, q2, q3, q4, q5, q6⟩
    obtain ⟨t, ht, -⟩ := State.frames_cons hr0
    show ({ U with heap := s₂.heap, slotsUsed := s₂.slotsUsed } : State) = { U.setFrames U.frames with heap := s₂.heap, slotsUsed := s₂.slotsUsed }
    rw [State.setFrames_self ht]
  refine ⟨k, b, w, ({ U with heap := s₂.heap, slotsUsed := s₂.slotsUsed } : State).setVm s₂.vm, L, g1, g2, g3, g4, g5, g6, hkb, ?_, hL9, ?_⟩
  · subst hg
    exact ⟨X.admits, X.cas, X.clock, X.frames, X.room, X.hears, X.method, X.code, (X.here.setHeapUsed s₂.heap s₂.slotsUsed).setVm hW'.alike, X.tail, State.WarmedH.trans X.warmed hW', X.limits, X.bytes, X.same.trans (hsame.setVm s.vm)⟩
  · rw [← hs₂]
    exact hsteps
section THROWN
variable {sc : Nat × (Nat → Int32)} {d d1 : Nat} {J J1 : xv_J} {pc : Nat} {lv : List (Option Value)} {st as : List Value} {u : xv_M} {n1 s1 n2 s2 : Nat} {P P1 : xv_P}
/-- behind whatever has brought the machine to the callee: it throws, and so does the caller -/
theorem xv_leave {p : Program} {l : Launch} {e : Env} {R : Room} {s : State} {m : MethodId} {args : Array Value} {below : List Frame} {meth : Method} {c : Code} {G : xv_G} {N0 S0 : Nat} {Q : State → Prop} {H : Heap} {locs : List Loc} {ls : Array Slot} (A0 : xv_at sc d J n1 s1 P p l e R s m args below meth c G N0 S0 Q) (hnl : xv_hh J.1 = []) (hS : va_S (xv_A G) s.heap H locs) (hN : N0 ≤ xv_N u) (hZ : S0 ≤ xv_S u) (hn : xv_N u ≤ n2) (hn' : xv_S u ≤ s2) (hw : n2 ≤ n1 ∧ s2 ≤ s1) (hP : ∀ o w, P1 o w → xv_N w = n2 → xv_S w = s2 → P o w)
    {k b : Nat} {w : xv_M} {V : State} {L : List Loc} (g1 : P1 (.inr (k, b)) w) (g2 : xv_N w = n2) (g3 : xv_S w = s2) (g4 : xv_wf w) (g5 : va_P (xv_dG G) xv_cl (xv_ws G w) V.heap) (g6 : H.size ≤ V.heap.size ∧ ∀ q : Nat, q < H.size → ¬ xv_A G q → V.heap[q]? = H[q]?) (g7 : xv_k w b = k + 1)
    (X : Stand p l e R s m args below meth c V (locs ++ L) (xv_N u - N0 + (n2 - xv_N u)) (xv_S u - S0 + (s2 - xv_S u))) (hL : ∀ q ∈ L, xv_A G q.base) {st' : List Value} {S : State} (hst : Steps p.tables e below S ((V.setTop (F0 m pc ls st')).pushFrame (.throwing (xv_B G + b)))) : ∃ t, Steps p.tables e below S t ∧ Q t := by
  obtain ⟨-, -, -, -, -, -, hlocks, -, -, -, -, ⟨-, -, hex⟩, hfin⟩ := A0
  have h0 : c.exceptionTable = #[] := xv_Tb_0 hex hnl
  obtain ⟨t1, t2, t3, t4, t5⟩ := X.leaveThrown (xv_B G + b) (g := F0 m pc ls st') rfl rfl rfl (fun x hx => by rw [h0] at hx; exact nomatch hx) hlocks
  refine ⟨_, hst.trans t1, hfin.2 k b w _ (locs ++ L) (hP _ _ g1 g2 g3) (by omega) (by omega) g7 g5 g4 ⟨Nat.le_trans hS.1 g6.1, fun q h1 h2 => ?_, fun q hq => ?_⟩ t2 t3 t4 ?_⟩
  · show V.heap[q]? = _
    rw [g6.2 q (Nat.lt_of_lt_of_le h1 hS.1) h2]
    exact hS.2.1 q h1 h2
  · rcases List.mem_append.mp hq with h | h
    · exact hS.2.2 q h
    · exact hL q h
  · exact t5.mono (by omega) (by omega)
set_option maxHeartbeats 1000000 in
theorem xv_thrV {b0 ci index n : Nat} (hM : xv_C sc d1 J1 (.ref b0 :: as) u n2 s2 P1) (hr : ∀ o w, P1 o w → ∃ q, o = .inr q) (hm : xv_mV J1 n) (hl : Cond.methodLink J.1.cls index J1.1 ∈ xv_BIG) (hn : as.length = n) (hd : d1 + 1 ≤ d) (hc : ci < xv_nc) (hci : xv_nm ci = J1.1.cls) (hk : xv_k u b0 = ci + 1) (hst : (st.map fun v => v.category).sum ≤ 8) (hdg : decode J.2.1 pc = .ok (.invokevirtual index, 3)) (hw : n2 ≤ n1 ∧ s2 ≤ s1) (hPP : ∀ o w, P1 o w → xv_N w = n2 → xv_S w = s2 → P o w) (hnl : xv_hh J.1 = [] := by decide +kernel) : xv_X sc d J pc lv (as.reverse ++ .ref b0 :: st) u n1 s1 P := by
  intro p l e R s m args below meth c G N0 S0 Q H locs ls A0 lo hP wf hS hN hZ
  refine xv_Wsz fun hle => ?_
  have hA := id A0
  obtain ⟨hx, hb, -, hml, hown, hts, -, -, hK, hR, hs, ⟨hG, hL, -⟩, -⟩ := hA
  have hsz := xv_sz hs hN hP hS hle
  have hM1 := hM.1
  have hM2 := hM.2.1
  intro T hT X
  obtain ⟨m1, m2, m3, m4, m5, m6⟩ := hm
  obtain ⟨cellB, hcB, hoB, hclB⟩ := va_recv hK.1 hP (xv_cl_at hc) (xv_he wf hc hk)
  rw [← hT] at hcB
  have hclB : s.vm.findClass J1.1.cls = some cellB.cls := by rw [← hci]; exact hclB
  obtain ⟨mk, methM, hnamed, hmethM, hstM, habM⟩ := Cond.instanceMethod_spec (hts _ m2)
  obtain ⟨methM', cM, hmethM', -, -, -, -, -, -, hsigM⟩ := Cond.code_spec hnamed (hts _ m1)
  cases hmethM.symm.trans hmethM'
  obtain ⟨c2, r2, mm2, q1, q2, q3, q4, kP, hkP, hkPi⟩ := Cond.selects_spec (hts _ m3)
  cases hclB.symm.trans q1
  cases (State.methodFound?_of_named hnamed ⟨m5.1, m5.2.1⟩).symm.trans q2
  cases hnamed.symm.trans q3
  have hselP : selectMethod e.platform s.vm cellB.cls mk = .method mk := by rw [Launch.admits_selectMethod X.admits]; exact q4
  have hlen : as.length = methM.sig.parameters.length := by
    have h2 := m5.2.2
    rw [hsigM] at h2
    exact hn.trans (Option.some.inj h2).symm
  obtain ⟨vm₁, X₁, hstep₁⟩ := X.invokevirtual hx hown (hts _ hl) hnamed hmethM hstM hkP hkPi ⟨m5.1, m5.2.1⟩ (a := xv_B G + b0) (cell := cellB) hcB
    (fun z h => by rw [h] at hoB; cases hoB) hselP hmethM habM hkP hkPi (g := F0 m pc ls ((as.reverse ++ .ref b0 :: st).map (xv_cv G))) rfl (argsL := as.map (xv_cv G)) (rest := st.map (xv_cv G)) (by rw [List.length_map]; exact hlen) (xv_stk G as b0 st) (by rw [hb]; exact hdg)
  obtain ⟨k, b, w, V, L, g1, g2, g3, g4, g5, g6, g7, X', hL', hsteps⟩ := xv_runT hM hr hG hL (by omega) (by omega) hts m1 m4 X₁ (g := F0 m pc ls (st.map (xv_cv G))) rfl (lo.1.trans hml.symm) (by rw [hb]; exact hdg) (by show 2 * 0 + _ ≤ 8; rw [xv_sum_cv]; omega) (X₁.named hnamed) (by omega) (by omega) (xv_pre hsz hP wf hK hS hT X₁.warmed)
  exact xv_leave (u := u) (pc := pc) A0 hnl hS hN hZ hM1 hM2 hw hPP g1 g2 g3 g4 g5 (by rw [← hT]; exact g6) g7 X' hL' (hstep₁ _ fun acts => by rw [doInvoke_state]; exact hsteps)
set_option maxHeartbeats 1000000 in
theorem xv_thrVN {b0 ci index n : Nat} {host : String} (hM : xv_C sc d1 J1 (.ref b0 :: as) u n2 s2 P1) (hr : ∀ o w, P1 o w → ∃ q, o = .inr q) (hm : xv_mV J1 n) (hl : Cond.methodLinkNest J.1.cls index J1.1 host ∈ xv_nest) (hn : as.length = n) (hd : d1 + 1 ≤ d) (hc : ci < xv_nc) (hci : xv_nm ci = J1.1.cls) (hk : xv_k u b0 = ci + 1) (hst : (st.map fun v => v.category).sum ≤ 8) (hdg : decode J.2.1 pc = .ok (.invokevirtual index, 3)) (hw : n2 ≤ n1 ∧ s2 ≤ s1) (hPP : ∀ o w, P1 o w → xv_N w = n2 → xv_S w = s2 → P o w) (hnl : xv_hh J.1 = [] := by decide +kernel) : xv_X sc d J pc lv (as.reverse ++ .ref b0 :: st) u n1 s1 P := by
  intro p l e R s m args below meth c G N0 S0 Q H locs ls A0 lo hP wf hS hN hZ
  refine xv_Wsz fun hle => ?_
  have hA := id A0
  obtain ⟨hx, hb, -, hml, hown, hts, -, -, hK, hR, hs, ⟨hG, hL, -⟩, -⟩ := hA
  have hsz := xv_sz hs hN hP hS hle
  have hM1 := hM.1
  have hM2 := hM.2.1
  intro T hT X
  obtain ⟨m1, m2, m3, m4, m5, m6⟩ := hm
  obtain ⟨cellB, hcB, hoB, hclB⟩ := va_recv hK.1 hP (xv_cl_at hc) (xv_he wf hc hk)
  rw [← hT] at hcB
  have hclB : s.vm.findClass J1.1.cls = some cellB.cls := by rw [← hci]; exact hclB
  obtain ⟨mk, methM, hnamed, hmethM, hstM, habM⟩ := Cond.instanceMethod_spec (hts _ m2)
  obtain ⟨methM', cM, hmethM', -, -, -, -, -, -, hsigM⟩ := Cond.code_spec hnamed (hts _ m1)
  cases hmethM.symm.trans hmethM'
  obtain ⟨c2, r2, mm2, q1, q2, q3, q4, kP, hkP, hkPi⟩ := Cond.selects_spec (hts _ m3)
  cases hclB.symm.trans q1
  cases (State.methodFound?_of_named hnamed ⟨m5.1, m5.2.1⟩).symm.trans q2
  cases hnamed.symm.trans q3
  have hselP : selectMethod e.platform s.vm cellB.cls mk = .method mk := by rw [Launch.admits_selectMethod X.admits]; exact q4
  have hlen : as.length = methM.sig.parameters.length := by
    have h2 := m5.2.2
    rw [hsigM] at h2
    exact hn.trans (Option.some.inj h2).symm
  obtain ⟨vm₁, X₁, hstep₁⟩ := X.invokevirtualNest hx hown (va_Nw.use rfl (hK.2.1 _ hl)) hnamed hmethM hstM hkP hkPi ⟨m5.1, m5.2.1⟩ (a := xv_B G + b0) (cell := cellB) hcB
    (fun z h => by rw [h] at hoB; cases hoB) hselP hmethM habM hkP hkPi (g := F0 m pc ls ((as.reverse ++ .ref b0 :: st).map (xv_cv G))) rfl (argsL := as.map (xv_cv G)) (rest := st.map (xv_cv G)) (by rw [List.length_map]; exact hlen) (xv_stk G as b0 st) (by rw [hb]; exact hdg)
  obtain ⟨k, b, w, V, L, g1, g2, g3, g4, g5, g6, g7, X', hL', hsteps⟩ := xv_runT hM hr hG hL (by omega) (by omega) hts m1 m4 X₁ (g := F0 m pc ls (st.map (xv_cv G))) rfl (lo.1.trans hml.symm) (by rw [hb]; exact hdg) (by show 2 * 0 + _ ≤ 8; rw [xv_sum_cv]; omega) (X₁.named hnamed) (by omega) (by omega) (xv_pre hsz hP wf hK hS hT X₁.warmed)
  exact xv_leave (u := u) (pc := pc) A0 hnl hS hN hZ hM1 hM2 hw hPP g1 g2 g3 g4 g5 (by rw [← hT]; exact g6) g7 X' hL' (hstep₁ _ fun acts => by rw [doInvoke_state]; exact hsteps)
set_option maxHeartbeats 1000000 in
theorem xv_thrS {index n : Nat} (hM : xv_C sc d1 J1 as u n2 s2 P1) (hr : ∀ o w, P1 o w → ∃ q, o = .inr q) (hm : xv_mS J1 n) (hl : Cond.methodLink J.1.cls index J1.1 ∈ xv_BIG) (hn : as.length = n) (hd : d1 + 1 ≤ d) (hst : (st.map fun v => v.category).sum ≤ 8) (hdg : decode J.2.1 pc = .ok (.invokestatic index, 3)) (hw : n2 ≤ n1 ∧ s2 ≤ s1) (hPP : ∀ o w, P1 o w → xv_N w = n2 → xv_S w = s2 → P o w) (hnl : xv_hh J.1 = [] := by decide +kernel) : xv_X sc d J pc lv (as.reverse ++ st) u n1 s1 P := by
  intro p l e R s m args below meth c G N0 S0 Q H locs ls A0 lo hP wf hS hN hZ
  refine xv_Wsz fun hle => ?_
  have hA := id A0
  obtain ⟨hx, hb, -, hml, hown, hts, -, -, hK, hR, hs, ⟨hG, hL, -⟩, -⟩ := hA
  have hsz := xv_sz hs hN hP hS hle
  have hM1 := hM.1
  have hM2 := hM.2.1
  intro T hT X
  obtain ⟨m1, m2, m4, m5, m6⟩ := hm
  obtain ⟨mk, hnamed⟩ := Cond.code_named (hts _ m1)
  obtain ⟨methM, cM, hmethM, -, -, -, -, -, -, hsigM⟩ := Cond.code_spec hnamed (hts _ m1)
  have hstatic : methM.isStatic = true := Cond.static_spec hnamed hmethM (hts _ m2)
  obtain ⟨kP, hkP, -⟩ := className_of_methodNamed hnamed
  have hinitP : kP.init = .initialized := Cond.initialized_spec (findClass_of_methodNamed hnamed) hkP (hts _ m4)
  have hlen : as.length = methM.sig.parameters.length := by
    have h2 := m5.2.2
    rw [hsigM] at h2
    exact hn.trans (Option.some.inj h2).symm
  obtain ⟨vm₁, X₁, hstep₁⟩ := X.invokestatic hx hown (hts _ hl) hnamed hmethM hstatic hkP hinitP ⟨m5.1, m5.2.1⟩ (g := F0 m pc ls ((as.reverse ++ st).map (xv_cv G))) rfl (argsL := as.map (xv_cv G)) (rest := st.map (xv_cv G)) (by rw [List.length_map]; exact hlen) (xv_stkS G as st) (by rw [hb]; exact hdg)
  obtain ⟨k, b, w, V, L, g1, g2, g3, g4, g5, g6, g7, X', hL', hsteps⟩ := xv_runT hM hr hG hL (by omega) (by omega) hts m1 m4 X₁ (g := F0 m pc ls (st.map (xv_cv G))) rfl (lo.1.trans hml.symm) (by rw [hb]; exact hdg) (by show 2 * 0 + _ ≤ 8; rw [xv_sum_cv]; omega) (X₁.named hnamed) (by omega) (by omega) (xv_pre hsz hP wf hK hS hT X₁.warmed)
  exact xv_leave (u := u) (pc := pc) A0 hnl hS hN hZ hM1 hM2 hw hPP g1 g2 g3 g4 g5 (by rw [← hT]; exact g6) g7 X' hL' (hstep₁ _ fun acts => by rw [doInvoke_state]; exact hsteps)
theorem xv_px_r {k : Nat} {p : Nat → xv_M → Prop} : ∀ o w, xv_px k p o w → ∃ q, o = .inr q := fun _ _ h => by obtain ⟨a, h, -⟩ := h; exact ⟨_, h⟩
theorem xv_tV0 {b ci index : Nat} {kx : Nat} {p1 : Nat → xv_M → Prop} (hM : xv_C sc d1 J1 [.ref b] u n2 s2 (xv_px kx p1)) (hm : xv_mV J1 0) (hl : Cond.methodLink J.1.cls index J1.1 ∈ xv_BIG) (hdg : decode J.2.1 pc = .ok (.invokevirtual index, 3)) (hd : d1 + 1 ≤ d) (hc : ci < xv_nc) (hci : xv_nm ci = J1.1.cls) (hk : xv_k u b = ci + 1) (hst : (st.map fun v => v.category).sum ≤ 8) (hw : n2 ≤ n1 ∧ s2 ≤ s1) (hP : ∀ a w, p1 a w → xv_N w = n2 → xv_S w = s2 → P (.inr (kx, a)) w) (hnl : xv_hh J.1 = [] := by decide +kernel) : xv_X sc d J pc lv (.ref b :: st) u n1 s1 P := xv_thrV (hnl := hnl) (as := []) hM xv_px_r hm hl rfl hd hc hci hk hst hdg hw (fun o w h g2 g3 => by obtain ⟨a, ho, hp⟩ := h; subst ho; exact hP a w hp g2 g3)
theorem xv_tV1 {b ci index : Nat} {kx : Nat} {x1 : Value} {p1 : Nat → xv_M → Prop} (hM : xv_C sc d1 J1 [.ref b, x1] u n2 s2 (xv_px kx p1)) (hm : xv_mV J1 1) (hl : Cond.methodLink J.1.cls index J1.1 ∈ xv_BIG) (hdg : decode J.2.1 pc = .ok (.invokevirtual index, 3)) (hd : d1 + 1 ≤ d) (hc : ci < xv_nc) (hci : xv_nm ci = J1.1.cls) (hk : xv_k u b = ci + 1) (hst : (st.map fun v => v.category).sum ≤ 8) (hw : n2 ≤ n1 ∧ s2 ≤ s1) (hP : ∀ a w, p1 a w → xv_N w = n2 → xv_S w = s2 → P (.inr (kx, a)) w) (hnl : xv_hh J.1 = [] := by decide +kernel) : xv_X sc d J pc lv (x1 :: .ref b :: st) u n1 s1 P := xv_thrV (hnl := hnl) (as := [x1]) hM xv_px_r hm hl rfl hd hc hci hk hst hdg hw (fun o w h g2 g3 => by obtain ⟨a, ho, hp⟩ := h; subst ho; exact hP a w hp g2 g3)
theorem xv_tV2 {b ci index : Nat} {kx : Nat} {x1 x2 : Value} {p1 : Nat → xv_M → Prop} (hM : xv_C sc d1 J1 [.ref b, x1, x2] u n2 s2 (xv_px kx p1)) (hm : xv_mV J1 2) (hl : Cond.methodLink J.1.cls index J1.1 ∈ xv_BIG) (hdg : decode J.2.1 pc = .ok (.invokevirtual index, 3)) (hd : d1 + 1 ≤ d) (hc : ci < xv_nc) (hci : xv_nm ci = J1.1.cls) (hk : xv_k u b = ci + 1) (hst : (st.map fun v => v.category).sum ≤ 8) (hw : n2 ≤ n1 ∧ s2 ≤ s1) (hP : ∀ a w, p1 a w → xv_N w = n2 → xv_S w = s2 → P (.inr (kx, a)) w) (hnl : xv_hh J.1 = [] := by decide +kernel) : xv_X sc d J pc lv (x2 :: x1 :: .ref b :: st) u n1 s1 P := xv_thrV (hnl := hnl) (as := [x1, x2]) hM xv_px_r hm hl rfl hd hc hci hk hst hdg hw (fun o w h g2 g3 => by obtain ⟨a, ho, hp⟩ := h; subst ho; exact hP a w hp g2 g3)
theorem xv_tV3 {b ci index : Nat} {kx : Nat} {x1 x2 x3 : Value} {p1 : Nat → xv_M → Prop} (hM : xv_C sc d1 J1 [.ref b, x1, x2, x3] u n2 s2 (xv_px kx p1)) (hm : xv_mV J1 3) (hl : Cond.methodLink J.1.cls index J1.1 ∈ xv_BIG) (hdg : decode J.2.1 pc = .ok (.invokevirtual index, 3)) (hd : d1 + 1 ≤ d) (hc : ci < xv_nc) (hci : xv_nm ci = J1.1.cls) (hk : xv_k u b = ci + 1) (hst : (st.map fun v => v.category).sum ≤ 8) (hw : n2 ≤ n1 ∧ s2 ≤ s1) (hP : ∀ a w, p1 a w → xv_N w = n2 → xv_S w = s2 → P (.inr (kx, a)) w) (hnl : xv_hh J.1 = [] := by decide +kernel) : xv_X sc d J pc lv (x3 :: x2 :: x1 :: .ref b :: st) u n1 s1 P := xv_thrV (hnl := hnl) (as := [x1, x2, x3]) hM xv_px_r hm hl rfl hd hc hci hk hst hdg hw (fun o w h g2 g3 => by obtain ⟨a, ho, hp⟩ := h; subst ho; exact hP a w hp g2 g3)
theorem xv_tV4 {b ci index : Nat} {kx : Nat} {x1 x2 x3 x4 : Value} {p1 : Nat → xv_M → Prop} (hM : xv_C sc d1 J1 [.ref b, x1, x2, x3, x4] u n2 s2 (xv_px kx p1)) (hm : xv_mV J1 4) (hl : Cond.methodLink J.1.cls index J1.1 ∈ xv_BIG) (hdg : decode J.2.1 pc = .ok (.invokevirtual index, 3)) (hd : d1 + 1 ≤ d) (hc : ci < xv_nc) (hci : xv_nm ci = J1.1.cls) (hk : xv_k u b = ci + 1) (hst : (st.map fun v => v.category).sum ≤ 8) (hw : n2 ≤ n1 ∧ s2 ≤ s1) (hP : ∀ a w, p1 a w → xv_N w = n2 → xv_S w = s2 → P (.inr (kx, a)) w) (hnl : xv_hh J.1 = [] := by decide +kernel) : xv_X sc d J pc lv (x4 :: x3 :: x2 :: x1 :: .ref b :: st) u n1 s1 P := xv_thrV (hnl := hnl) (as := [x1, x2, x3, x4]) hM xv_px_r hm hl rfl hd hc hci hk hst hdg hw (fun o w h g2 g3 => by obtain ⟨a, ho, hp⟩ := h; subst ho; exact hP a w hp g2 g3)
theorem xv_tV5 {b ci index : Nat} {kx : Nat} {x1 x2 x3 x4 x5 : Value} {p1 : Nat → xv_M → Prop} (hM : xv_C sc d1 J1 [.ref b, x1, x2, x3, x4, x5] u n2 s2 (xv_px kx p1)) (hm : xv_mV J1 5) (hl : Cond.methodLink J.1.cls index J1.1 ∈ xv_BIG) (hdg : decode J.2.1 pc = .ok (.invokevirtual index, 3)) (hd : d1 + 1 ≤ d) (hc : ci < xv_nc) (hci : xv_nm ci = J1.1.cls) (hk : xv_k u b = ci + 1) (hst : (st.map fun v => v.category).sum ≤ 8) (hw : n2 ≤ n1 ∧ s2 ≤ s1) (hP : ∀ a w, p1 a w → xv_N w = n2 → xv_S w = s2 → P (.inr (kx, a)) w) (hnl : xv_hh J.1 = [] := by decide +kernel) : xv_X sc d J pc lv (x5 :: x4 :: x3 :: x2 :: x1 :: .ref b :: st) u n1 s1 P := xv_thrV (hnl := hnl) (as := [x1, x2, x3, x4, x5]) hM xv_px_r hm hl rfl hd hc hci hk hst hdg hw (fun o w h g2 g3 => by obtain ⟨a, ho, hp⟩ := h; subst ho; exact hP a w hp g2 g3)
theorem xv_tVN0 {b ci index : Nat} {host : String} {kx : Nat} {p1 : Nat → xv_M → Prop} (hM : xv_C sc d1 J1 [.ref b] u n2 s2 (xv_px kx p1)) (hm : xv_mV J1 0) (hl : Cond.methodLinkNest J.1.cls index J1.1 host ∈ xv_nest) (hdg : decode J.2.1 pc = .ok (.invokevirtual index, 3)) (hd : d1 + 1 ≤ d) (hc : ci < xv_nc) (hci : xv_nm ci = J1.1.cls) (hk : xv_k u b = ci + 1) (hst : (st.map fun v => v.category).sum ≤ 8) (hw : n2 ≤ n1 ∧ s2 ≤ s1) (hP : ∀ a w, p1 a w → xv_N w = n2 → xv_S w = s2 → P (.inr (kx, a)) w) (hnl : xv_hh J.1 = [] := by decide +kernel) : xv_X sc d J pc lv (.ref b :: st) u n1 s1 P := xv_thrVN (hnl := hnl) (as := []) hM xv_px_r hm hl rfl hd hc hci hk hst hdg hw (fun o w h g2 g3 => by obtain ⟨a, ho, hp⟩ := h; subst ho; exact hP a w hp g2 g3)
theorem xv_tVN1 {b ci index : Nat} {host : String} {kx : Nat} {x1 : Value} {p1 : Nat → xv_M → Prop} (hM : xv_C sc d1 J1 [.ref b, x1] u n2 s2 (xv_px kx p1)) (hm : xv_mV J1 1) (hl : Cond.methodLinkNest J.1.cls index J1.1 host ∈ xv_nest) (hdg : decode J.2.1 pc = .ok (.invokevirtual index, 3)) (hd : d1 + 1 ≤ d) (hc : ci < xv_nc) (hci : xv_nm ci = J1.1.cls) (hk : xv_k u b = ci + 1) (hst : (st.map fun v => v.category).sum ≤ 8) (hw : n2 ≤ n1 ∧ s2 ≤ s1) (hP : ∀ a w, p1 a w → xv_N w = n2 → xv_S w = s2 → P (.inr (kx, a)) w) (hnl : xv_hh J.1 = [] := by decide +kernel) : xv_X sc d J pc lv (x1 :: .ref b :: st) u n1 s1 P := xv_thrVN (hnl := hnl) (as := [x1]) hM xv_px_r hm hl rfl hd hc hci hk hst hdg hw (fun o w h g2 g3 => by obtain ⟨a, ho, hp⟩ := h; subst ho; exact hP a w hp g2 g3)
theorem xv_tVN2 {b ci index : Nat} {host : String} {kx : Nat} {x1 x2 : Value} {p1 : Nat → xv_M → Prop} (hM : xv_C sc d1 J1 [.ref b, x1, x2] u n2 s2 (xv_px kx p1)) (hm : xv_mV J1 2) (hl : Cond.methodLinkNest J.1.cls index J1.1 host ∈ xv_nest) (hdg : decode J.2.1 pc = .ok (.invokevirtual index, 3)) (hd : d1 + 1 ≤ d) (hc : ci < xv_nc) (hci : xv_nm ci = J1.1.cls) (hk : xv_k u b = ci + 1) (hst : (st.map fun v => v.category).sum ≤ 8) (hw : n2 ≤ n1 ∧ s2 ≤ s1) (hP : ∀ a w, p1 a w → xv_N w = n2 → xv_S w = s2 → P (.inr (kx, a)) w) (hnl : xv_hh J.1 = [] := by decide +kernel) : xv_X sc d J pc lv (x2 :: x1 :: .ref b :: st) u n1 s1 P := xv_thrVN (hnl := hnl) (as := [x1, x2]) hM xv_px_r hm hl rfl hd hc hci hk hst hdg hw (fun o w h g2 g3 => by obtain ⟨a, ho, hp⟩ := h; subst ho; exact hP a w hp g2 g3)
theorem xv_tVN3 {b ci index : Nat} {host : String} {kx : Nat} {x1 x2 x3 : Value} {p1 : Nat → xv_M → Prop} (hM : xv_C sc d1 J1 [.ref b, x1, x2, x3] u n2 s2 (xv_px kx p1)) (hm : xv_mV J1 3) (hl : Cond.methodLinkNest J.1.cls index J1.1 host ∈ xv_nest) (hdg : decode J.2.1 pc = .ok (.invokevirtual index, 3)) (hd : d1 + 1 ≤ d) (hc : ci < xv_nc) (hci : xv_nm ci = J1.1.cls) (hk : xv_k u b = ci + 1) (hst : (st.map fun v => v.category).sum ≤ 8) (hw : n2 ≤ n1 ∧ s2 ≤ s1) (hP : ∀ a w, p1 a w → xv_N w = n2 → xv_S w = s2 → P (.inr (kx, a)) w) (hnl : xv_hh J.1 = [] := by decide +kernel) : xv_X sc d J pc lv (x3 :: x2 :: x1 :: .ref b :: st) u n1 s1 P := xv_thrVN (hnl := hnl) (as := [x1, x2, x3]) hM xv_px_r hm hl rfl hd hc hci hk hst hdg hw (fun o w h g2 g3 => by obtain ⟨a, ho, hp⟩ := h; subst ho; exact hP a w hp g2 g3)
theorem xv_tVN4 {b ci index : Nat} {host : String} {kx : Nat} {x1 x2 x3 x4 : Value} {p1 : Nat → xv_M → Prop} (hM : xv_C sc d1 J1 [.ref b, x1, x2, x3, x4] u n2 s2 (xv_px kx p1)) (hm : xv_mV J1 4) (hl : Cond.methodLinkNest J.1.cls index J1.1 host ∈ xv_nest) (hdg : decode J.2.1 pc = .ok (.invokevirtual index, 3)) (hd : d1 + 1 ≤ d) (hc : ci < xv_nc) (hci : xv_nm ci = J1.1.cls) (hk : xv_k u b = ci + 1) (hst : (st.map fun v => v.category).sum ≤ 8) (hw : n2 ≤ n1 ∧ s2 ≤ s1) (hP : ∀ a w, p1 a w → xv_N w = n2 → xv_S w = s2 → P (.inr (kx, a)) w) (hnl : xv_hh J.1 = [] := by decide +kernel) : xv_X sc d J pc lv (x4 :: x3 :: x2 :: x1 :: .ref b :: st) u n1 s1 P := xv_thrVN (hnl := hnl) (as := [x1, x2, x3, x4]) hM xv_px_r hm hl rfl hd hc hci hk hst hdg hw (fun o w h g2 g3 => by obtain ⟨a, ho, hp⟩ := h; subst ho; exact hP a w hp g2 g3)
theorem xv_tVN5 {b ci index : Nat} {host : String} {kx : Nat} {x1 x2 x3 x4 x5 : Value} {p1 : Nat → xv_M → Prop} (hM : xv_C sc d1 J1 [.ref b, x1, x2, x3, x4, x5] u n2 s2 (xv_px kx p1)) (hm : xv_mV J1 5) (hl : Cond.methodLinkNest J.1.cls index J1.1 host ∈ xv_nest) (hdg : decode J.2.1 pc = .ok (.invokevirtual index, 3)) (hd : d1 + 1 ≤ d) (hc : ci < xv_nc) (hci : xv_nm ci = J1.1.cls) (hk : xv_k u b = ci + 1) (hst : (st.map fun v => v.category).sum ≤ 8) (hw : n2 ≤ n1 ∧ s2 ≤ s1) (hP : ∀ a w, p1 a w → xv_N w = n2 → xv_S w = s2 → P (.inr (kx, a)) w) (hnl : xv_hh J.1 = [] := by decide +kernel) : xv_X sc d J pc lv (x5 :: x4 :: x3 :: x2 :: x1 :: .ref b :: st) u n1 s1 P := xv_thrVN (hnl := hnl) (as := [x1, x2, x3, x4, x5]) hM xv_px_r hm hl rfl hd hc hci hk hst hdg hw (fun o w h g2 g3 => by obtain ⟨a, ho, hp⟩ := h; subst ho; exact hP a w hp g2 g3)
theorem xv_tS0 {index : Nat} {kx : Nat} {p1 : Nat → xv_M → Prop} (hM : xv_C sc d1 J1 [] u n2 s2 (xv_px kx p1)) (hm : xv_mS J1 0) (hl : Cond.methodLink J.1.cls index J1.1 ∈ xv_BIG) (hdg : decode J.2.1 pc = .ok (.invokestatic index, 3)) (hd : d1 + 1 ≤ d) (hst : (st.map fun v => v.category).sum ≤ 8) (hw : n2 ≤ n1 ∧ s2 ≤ s1) (hP : ∀ a w, p1 a w → xv_N w = n2 → xv_S w = s2 → P (.inr (kx, a)) w) (hnl : xv_hh J.1 = [] := by decide +kernel) : xv_X sc d J pc lv (st) u n1 s1 P := xv_thrS (hnl := hnl) (as := []) hM xv_px_r hm hl rfl hd hst hdg hw (fun o w h g2 g3 => by obtain ⟨a, ho, hp⟩ := h; subst ho; exact hP a w hp g2 g3)
theorem xv_tS1 {index : Nat} {kx : Nat} {x1 : Value} {p1 : Nat → xv_M → Prop} (hM : xv_C sc d1 J1 [x1] u n2 s2 (xv_px kx p1)) (hm : xv_mS J1 1) (hl : Cond.methodLink J.1.cls index J1.1 ∈ xv_BIG) (hdg : decode J.2.1 pc = .ok (.invokestatic index, 3)) (hd : d1 + 1 ≤ d) (hst : (st.map fun v => v.category).sum ≤ 8) (hw : n2 ≤ n1 ∧ s2 ≤ s1) (hP : ∀ a w, p1 a w → xv_N w = n2 → xv_S w = s2 → P (.inr (kx, a)) w) (hnl : xv_hh J.1 = [] := by decide +kernel) : xv_X sc d J pc lv (x1 :: st) u n1 s1 P := xv_thrS (hnl := hnl) (as := [x1]) hM xv_px_r hm hl rfl hd hst hdg hw (fun o w h g2 g3 => by obtain ⟨a, ho, hp⟩ := h; subst ho; exact hP a w hp g2 g3)
theorem xv_tS2 {index : Nat} {kx : Nat} {x1 x2 : Value} {p1 : Nat → xv_M → Prop} (hM : xv_C sc d1 J1 [x1, x2] u n2 s2 (xv_px kx p1)) (hm : xv_mS J1 2) (hl : Cond.methodLink J.1.cls index J1.1 ∈ xv_BIG) (hdg : decode J.2.1 pc = .ok (.invokestatic index, 3)) (hd : d1 + 1 ≤ d) (hst : (st.map fun v => v.category).sum ≤ 8) (hw : n2 ≤ n1 ∧ s2 ≤ s1) (hP : ∀ a w, p1 a w → xv_N w = n2 → xv_S w = s2 → P (.inr (kx, a)) w) (hnl : xv_hh J.1 = [] := by decide +kernel) : xv_X sc d J pc lv (x2 :: x1 :: st) u n1 s1 P := xv_thrS (hnl := hnl) (as := [x1, x2]) hM xv_px_r hm hl rfl hd hst hdg hw (fun o w h g2 g3 => by obtain ⟨a, ho, hp⟩ := h; subst ho; exact hP a w hp g2 g3)
theorem xv_tS3 {index : Nat} {kx : Nat} {x1 x2 x3 : Value} {p1 : Nat → xv_M → Prop} (hM : xv_C sc d1 J1 [x1, x2, x3] u n2 s2 (xv_px kx p1)) (hm : xv_mS J1 3) (hl : Cond.methodLink J.1.cls index J1.1 ∈ xv_BIG) (hdg : decode J.2.1 pc = .ok (.invokestatic index, 3)) (hd : d1 + 1 ≤ d) (hst : (st.map fun v => v.category).sum ≤ 8) (hw : n2 ≤ n1 ∧ s2 ≤ s1) (hP : ∀ a w, p1 a w → xv_N w = n2 → xv_S w = s2 → P (.inr (kx, a)) w) (hnl : xv_hh J.1 = [] := by decide +kernel) : xv_X sc d J pc lv (x3 :: x2 :: x1 :: st) u n1 s1 P := xv_thrS (hnl := hnl) (as := [x1, x2, x3]) hM xv_px_r hm hl rfl hd hst hdg hw (fun o w h g2 g3 => by obtain ⟨a, ho, hp⟩ := h; subst ho; exact hP a w hp g2 g3)
theorem xv_tS4 {index : Nat} {kx : Nat} {x1 x2 x3 x4 : Value} {p1 : Nat → xv_M → Prop} (hM : xv_C sc d1 J1 [x1, x2, x3, x4] u n2 s2 (xv_px kx p1)) (hm : xv_mS J1 4) (hl : Cond.methodLink J.1.cls index J1.1 ∈ xv_BIG) (hdg : decode J.2.1 pc = .ok (.invokestatic index, 3)) (hd : d1 + 1 ≤ d) (hst : (st.map fun v => v.category).sum ≤ 8) (hw : n2 ≤ n1 ∧ s2 ≤ s1) (hP : ∀ a w, p1 a w → xv_N w = n2 → xv_S w = s2 → P (.inr (kx, a)) w) (hnl : xv_hh J.1 = [] := by decide +kernel) : xv_X sc d J pc lv (x4 :: x3 :: x2 :: x1 :: st) u n1 s1 P := xv_thrS (hnl := hnl) (as := [x1, x2, x3, x4]) hM xv_px_r hm hl rfl hd hst hdg hw (fun o w h g2 g3 => by obtain ⟨a, ho, hp⟩ := h; subst ho; exact hP a w hp g2 g3)
theorem xv_tS5 {index : Nat} {kx : Nat} {x1 x2 x3 x4 x5 : Value} {p1 : Nat → xv_M → Prop} (hM : xv_C sc d1 J1 [x1, x2, x3, x4, x5] u n2 s2 (xv_px kx p1)) (hm : xv_mS J1 5) (hl : Cond.methodLink J.1.cls index J1.1 ∈ xv_BIG) (hdg : decode J.2.1 pc = .ok (.invokestatic index, 3)) (hd : d1 + 1 ≤ d) (hst : (st.map fun v => v.category).sum ≤ 8) (hw : n2 ≤ n1 ∧ s2 ≤ s1) (hP : ∀ a w, p1 a w → xv_N w = n2 → xv_S w = s2 → P (.inr (kx, a)) w) (hnl : xv_hh J.1 = [] := by decide +kernel) : xv_X sc d J pc lv (x5 :: x4 :: x3 :: x2 :: x1 :: st) u n1 s1 P := xv_thrS (hnl := hnl) (as := [x1, x2, x3, x4, x5]) hM xv_px_r hm hl rfl hd hst hdg hw (fun o w h g2 g3 => by obtain ⟨a, ho, hp⟩ := h; subst ho; exact hP a w hp g2 g3)
end THROWN

