/-! the seal made anew; forge -/
theorem p_dam4 {u : xv_M} {h N M : Nat} {E : Nat → Nat} {a : yAd} (a1 : yCl u h N M E) (a2 : yD u N M) (a3 : yF u N M) (h23 : xv_i u (N + 89) 2 = xv_i u M 29 ∧ xv_i u (N + 89) 3 = xv_i u M 30) (H : yAs u N M E a) (a5 : yI u N M) (a6 : yK u h M) {e : Nat} {φ : Nat → Int32} {w' : xv_M} (he : e < a.1) (hφ : ∀ i, i < a.2.1 e → φ i = xv_i u (E e + 2) i) (hs : xSeq (xv_sw (xv_si (xv_si u (E e) 8 (xv_i u (E e) 2)) (E e) 9 (xv_i u (E e) 6)) (E e + 6) φ) w' M e (a.2.1 e)) : yTi w' h N M := by
  have hl : h < N ∧ N + 209 ≤ M ∧ M + 31 ≤ xv_N u := ⟨a1.2.2.2.2.2.2.1, a1.2.2.2.2.2.2.2, a1.2.2.2.2.2.1⟩
  have hE := a1.2.2.2.2.1
  have hn8 := H.1.2.2
  obtain ⟨je, hje, ej⟩ := hE.1 e (by omega)
  obtain ⟨g1, g4, g5⟩ := H
  obtain ⟨p1, p2, p3⟩ := g5 e he
  have hle := yPv_le p1
  generalize hw : xv_sw (xv_si (xv_si u (E e) 8 (xv_i u (E e) 2)) (E e) 9 (xv_i u (E e) 6)) (E e + 6) φ = w at hs
  obtain ⟨z, b1, b2, b3, b4, b5⟩ := hs
  have zw : zS (fun b => b < M + 31) u w := by rw [← hw]; exact zS_tr (zS_tr zS_1 zS_1) zS_w
  have Nw : xv_N w = xv_N u := by rw [← hw]; rfl
  have cw : ∀ b q, ¬ (b = E e ∧ (q = 8 ∨ q = 9)) → ¬ b = E e + 6 → xv_i w b q = xv_i u b q := by
    intro b q h1 h2
    rw [← hw]
    show (if b = E e + 6 then _ else _) = _
    rw [if_neg h2, xv_si_if2, if_neg (by omega), xv_si_if2, if_neg (by omega)]
  have c8 : xv_i w (E e) 8 = xv_i u (E e) 2 := by
    rw [← hw]
    show (if E e = E e + 6 then _ else _) = _
    rw [if_neg (by omega), xv_si_nj (by omega), xv_si_eq]
  have c9 : xv_i w (E e) 9 = xv_i u (E e) 6 := by
    rw [← hw]
    show (if E e = E e + 6 then _ else _) = _
    rw [if_neg (by omega), xv_si_eq]
  have c6 : ∀ i, xv_i w (E e + 6) i = φ i := by
    intro i
    rw [← hw]
    show (if E e + 6 = E e + 6 then _ else _) = _
    rw [if_pos rfl]
  clear hw
  have k : ∀ b q, ¬ (b = E e ∧ (q = 8 ∨ q = 9)) → ¬ b = E e + 6 → ¬ (b = M + 20 ∨ b = M + 16 ∨ b = M + 21) → xv_i w' b q = xv_i u b q := by
    intro b q h1 h2 h3
    rw [z.2.2.2.2.2.2 b (by unfold xSeS; omega)]
    exact cw b q h1 h2
  have kc : ∀ b, b < M → xv_i w' b = xv_i w b := fun b hb => z.2.2.2.2.2.2 b (by unfold xSeS; omega)
  refine yTi_ar (zS_tr zw (zS_si z)) (by rw [z.1, Nw]; exact hl.2.2) a1 a2 a3 a5 a6 (fun b q hb => ?_) ⟨?_, ?_⟩ (yAs_ch (e := e) (n' := a.1) (n1 := a.2.1 e) (U' := a.2.2.1 e) (v' := upd (upd (a.2.2.2.1 e) 8 (a.2.2.2.1 e 2)) 9 (a.2.2.2.1 e 6)) (s' := fun i => nI ((a.2.2.1 e).1 i)) ⟨g1, g4, g5⟩ ⟨?_, ?_, hn8⟩ (fun j hj _ => hj) (fun j hj hne b b1' b2' q => ?_) (fun j hj hne => ⟨fun c hc => ?_, fun c hc => ?_, fun c hc i hi => ?_, fun i hi => ?_⟩) (fun _ => ?_) (fun _ => ⟨?_, ?_, ?_⟩))
  · have := nAll hl.2.1 hl.1 hb
    exact k b q (by omega) (by omega) (by omega)
  · rw [k _ _ (by omega) (by omega) (by omega), k _ _ (by omega) (by omega) (by omega)]; exact h23.1
  · rw [k _ _ (by omega) (by omega) (by omega), k _ _ (by omega) (by omega) (by omega)]; exact h23.2
  · rw [k _ _ (by omega) (by omega) (by omega)]; exact g1.1
  · rw [k _ _ (by omega) (by omega) (by omega)]; exact g1.2.1
  · have := yEp_ne hE (show e < 8 by omega) hj hne
    obtain ⟨jj, hjj, ejj⟩ := hE.1 j hj
    exact k b q (by omega) (by omega) (by omega)
  · exact k _ _ (by omega) (by omega) (by omega)
  · by_cases c20 : c = 20
    · rw [c20, b2 j hne]; exact cw _ _ (by omega) (by omega)
    · by_cases c16 : c = 16
      · rw [c16, b4 j hne]; exact cw _ _ (by omega) (by omega)
      · exact k _ _ (by omega) (by omega) (by omega)
  · exact k _ _ (by omega) (by omega) (by omega)
  · have hlj := (yPv_le (g5 j hj).1).2
    rw [b1.1 _ (by omega)]; exact cw _ _ (by omega) (by omega)
  · obtain ⟨w1, l, w2, w3, w4⟩ := g4 e (by omega)
    exact ⟨by rw [k _ _ (by omega) (by omega) (by omega)]; exact w1, l, w2, by rw [k _ _ (by omega) (by omega) (by omega)]; exact w3, fun i hi => by rw [k _ _ (by omega) (by omega) (by omega)]; exact w4 i hi⟩
  · obtain ⟨q1, ⟨m, f, kk, q2, q3, q4, q5, q6, q7⟩, q8, q9⟩ := p1
    exact ⟨by rw [pk_un (by omega), pk_un (by omega)]; exact q1, ⟨m, f, kk, by rw [pk_un (by omega), pk_un (by omega)]; exact q2, by rw [pk_un (by omega), pk_un (by omega)]; exact q3, q4, by rw [pk_un (by omega), pk_un (by omega)]; exact q5, q6, q7⟩, by rw [pk_un (by omega), pk_un (by omega)]; exact q8, by rw [pk_us]; exact q8⟩
  · obtain ⟨s1, s2, d1, d2, d3, d4, d5, d6, d7⟩ := p2
    refine ⟨by rw [k _ _ (by omega) (by omega) (by omega)]; exact s1, fun i hi => ?_, by rw [k _ _ (by omega) (by omega) (by omega), pk_un (by omega), pk_un (by omega)]; exact d1, by rw [k _ _ (by omega) (by omega) (by omega), pk_un (by omega), pk_un (by omega)]; exact d2, by rw [k _ _ (by omega) (by omega) (by omega), pk_un (by omega), pk_un (by omega)]; exact d3, by rw [k _ _ (by omega) (by omega) (by omega), pk_un (by omega), pk_un (by omega)]; exact d4, by rw [k _ _ (by omega) (by omega) (by omega), pk_un (by omega), pk_un (by omega)]; exact d5, by rw [kc _ (by omega), c8, pk_un (by omega), pk_us]; exact d1, by rw [kc _ (by omega), c9, pk_us]; exact d5⟩
    obtain ⟨e1, e2, e3, e4, e5⟩ := s2 i hi
    exact ⟨by rw [k _ _ (by omega) (by omega) (by omega)]; exact e1, by rw [k _ _ (by omega) (by omega) (by omega)]; exact e2, by rw [k _ _ (by omega) (by omega) (by omega)]; exact e3, by rw [k _ _ (by omega) (by omega) (by omega)]; exact e4, by rw [kc _ (by omega), c6, hφ i hi]; exact e1⟩
  · obtain ⟨r1, r2, c1, c2, c3, c4, c5, c6', c7⟩ := p3
    refine ⟨yRw_e (k _ _ (by omega) (by omega) (by omega)) (fun c hc i hi => k _ _ (by omega) (by omega) (by omega)) r1, fun i hi => ?_, by rw [k _ _ (by omega) (by omega) (by omega), pk_un (by omega), pk_un (by omega)]; exact c1, by rw [k _ _ (by omega) (by omega) (by omega), pk_un (by omega), pk_un (by omega)]; exact c2, by rw [k _ _ (by omega) (by omega) (by omega), pk_un (by omega), pk_un (by omega)]; exact c3, by rw [k _ _ (by omega) (by omega) (by omega), pk_un (by omega), pk_un (by omega)]; exact c4, by rw [k _ _ (by omega) (by omega) (by omega), pk_un (by omega), pk_un (by omega)]; exact c5, by rw [b3, pk_un (by omega), pk_us, cw _ _ (by omega) (by omega)]; exact c1, by rw [b5, pk_us, cw _ _ (by omega) (by omega)]; exact c5⟩
    rw [b1.2 i hi, cw _ _ (by omega) (by omega)]
    exact (r1.2 i hi).1
theorem yFg_of {x : Int32} (h : xFg x = true) : ∃ o, o < 22 ∧ yFo o ∧ x = nI o := by
  unfold xFg at h
  rw [Bool.or_eq_true, decide_eq_true_eq, decide_eq_true_eq] at h
  have h0 : ¬ x < 0 := by
    intro c
    rcases h with h | h
    · exact absurd (Int32.lt_of_le_of_lt h.1 c) (by decide)
    · exact absurd (Int32.lt_of_le_of_lt h.1 c) (by decide)
  obtain ⟨o, ho, rfl⟩ := nI_of h0
  have e : ∀ c, c < 100 → ((nI c ≤ nI o ↔ c ≤ o) ∧ (nI o ≤ nI c ↔ o ≤ c)) := fun c hc => ⟨nI_leI (by omega) ho, nI_leI ho (by omega)⟩
  have h' : (2 ≤ o ∧ o ≤ 12) ∨ (17 ≤ o ∧ o ≤ 21) := by
    rcases h with h | h
    · exact Or.inl ⟨(e 2 (by omega)).1.mp h.1, (e 12 (by omega)).2.mp h.2⟩
    · exact Or.inr ⟨(e 17 (by omega)).1.mp h.1, (e 21 (by omega)).2.mp h.2⟩
  exact ⟨o, by omega, h', rfl⟩
theorem yPe_od {U : yU} {n m f : Nat} (hf : f < 8) (h : yPe U n m f) : (∀ x, x < n → yOd U f x) ∧ ∃ β, xHB n U.1 U.2.1 U.2.2.1 β := by
  obtain ⟨O, A, k, a1, a2, a3, a4, a5, w, a7⟩ := h
  obtain ⟨-, hv, hx, hz, -, hl⟩ := yOne_sz a2 a1 a3 a4
  have hB : ∀ p, p < k → O p = 17 → ∀ v, v < 8 → A p = nI v → v < f := by
    intro p hp e v hv ev
    have := hl p hp e
    rw [ev] at this
    exact (nI_ltI (by omega) (by omega)).mp this
  rw [a5]
  exact yWh_HB a1 hB (fun i o q r => r) hv a3 hz (by omega) w
theorem p_forge {u : xv_M} {h N M : Nat} {E : Nat → Nat} {a : yAd} (a1 : yCl u h N M E) (a2 : yD u N M) (a3 : yF u N M) (h23 : xv_i u (N + 89) 2 = xv_i u M 29 ∧ xv_i u (N + 89) 3 = xv_i u M 30) (H : yAs u N M E a) (a5 : yI u N M) (a6 : yK u h M) {e i : Nat} {x : Int32} (he : e < a.1) (hi : i < a.2.1 e) (h1 : xFg x = true) (h2 : xFg (xv_i u (E e + 2) i) = true) (h3 : xv_i u (E e + 5) i = 0) : yTi (xv_si (xv_si u (E e + 2) i x) (M + 7) (280 * (8 + e) + i) x) h N M := by
  have hl : h < N ∧ N + 209 ≤ M ∧ M + 31 ≤ xv_N u := ⟨a1.2.2.2.2.2.2.1, a1.2.2.2.2.2.2.2, a1.2.2.2.2.2.1⟩
  have hE := a1.2.2.2.2.1
  have hn8 := H.1.2.2
  obtain ⟨je, hje, ej⟩ := hE.1 e (by omega)
  obtain ⟨g1, g4, g5⟩ := H
  obtain ⟨p1, p2, p3⟩ := g5 e he
  have hle := yPv_le p1
  obtain ⟨o, ho, hfo, rfl⟩ := yFg_of h1
  have hold : yFo ((a.2.2.1 e).1 i) ∧ (a.2.2.1 e).2.2.2 i = 0 := by
    obtain ⟨s1, s2, -⟩ := p2
    obtain ⟨e1, e2, e3, e4, e5⟩ := s2 i hi
    obtain ⟨o', ho', hfo', eo⟩ := yFg_of h2
    rw [e4] at h3
    refine ⟨?_, h3⟩
    rw [e1] at eo
    obtain ⟨-, ⟨m, f, kk, -, -, hf8, -, -, q7⟩, -⟩ := p1
    have hlt : (a.2.2.1 e).1 i < 22 := ((yPe_od hf8 q7).1 i hi).1
    have : (a.2.2.1 e).1 i = o' := (nI_eq (by omega) (by omega)).mp eo
    rw [this]; exact hfo'
  refine yTi_ar (zS_tr zS_1 zS_1) hl.2.2 a1 a2 a3 a5 a6 (fun b q hb => ?_) ⟨?_, ?_⟩ (yAs_ch (e := e) (n' := a.1) (n1 := a.2.1 e) (U' := yFg (a.2.2.1 e) i o) (v' := a.2.2.2.1 e) (s' := a.2.2.2.2 e) ⟨g1, g4, g5⟩ ⟨?_, ?_, hn8⟩ (fun j hj _ => hj) (fun j hj hne b b1 b2 q => ?_) (fun j hj hne => ⟨fun c hc => ?_, fun c hc => ?_, fun c hc i' hi' => ?_, fun i' hi' => ?_⟩) (fun _ => ?_) (fun _ => ⟨?_, ?_, ?_⟩))
  · have := nAll hl.2.1 hl.1 hb
    rw [xv_si_if2, if_neg (by omega), xv_si_ne (by omega)]
  · rw [xv_si_ne (by omega), xv_si_ne (by omega), xv_si_ne (by omega), xv_si_ne (by omega)]; exact h23.1
  · rw [xv_si_ne (by omega), xv_si_ne (by omega), xv_si_ne (by omega), xv_si_ne (by omega)]; exact h23.2
  · rw [xv_si_ne (by omega), xv_si_ne (by omega)]; exact g1.1
  · rw [xv_si_ne (by omega), xv_si_ne (by omega)]; exact g1.2.1
  · have := yEp_ne hE (show e < 8 by omega) hj hne
    obtain ⟨jj, hjj, ejj⟩ := hE.1 j hj
    rw [xv_si_ne (by omega), xv_si_ne (by omega)]
  · rw [xv_si_ne (by omega), xv_si_ne (by omega)]
  · rw [xv_si_ne (by omega), xv_si_ne (by omega)]
  · have hlj := (yPv_le (g5 j hj).1).2
    rw [xv_si_if2, if_neg (by omega), xv_si_ne (by omega)]
  · rw [xv_si_ne (by omega), xv_si_ne (by omega)]
  · obtain ⟨w1, l, w2, w3, w4⟩ := g4 e (by omega)
    refine ⟨by rw [xv_si_ne (by omega), xv_si_ne (by omega)]; exact w1, l, w2, by rw [xv_si_ne (by omega), xv_si_ne (by omega)]; exact w3, fun i' hi' => ?_⟩
    rw [xv_si_ne (by omega)]
    by_cases c : i' = i
    · rw [c, xv_si_eq]; exact ⟨o, ho, rfl⟩
    · rw [xv_si_nj c]; exact w4 i' hi'
  · obtain ⟨q1, ⟨m, f, kk, q2, q3, q4, q5, q6, q7⟩, q8, q9⟩ := p1
    exact ⟨q1, ⟨m, f, kk, q2, q3, q4, q5, q6, yPe_fg q7 hold.1 hold.2 hfo⟩, q8, q9⟩
  · obtain ⟨s1, s2, d1, d2, d3, d4, d5, d6, d7⟩ := p2
    refine ⟨by rw [xv_si_ne (by omega), xv_si_ne (by omega)]; exact s1, fun i' hi' => ?_, by rw [xv_si_ne (by omega), xv_si_ne (by omega)]; exact d1, by rw [xv_si_ne (by omega), xv_si_ne (by omega)]; exact d2, by rw [xv_si_ne (by omega), xv_si_ne (by omega)]; exact d3, by rw [xv_si_ne (by omega), xv_si_ne (by omega)]; exact d4, by rw [xv_si_ne (by omega), xv_si_ne (by omega)]; exact d5, by rw [xv_si_ne (by omega), xv_si_ne (by omega)]; exact d6, by rw [xv_si_ne (by omega), xv_si_ne (by omega)]; exact d7⟩
    obtain ⟨e1, e2, e3, e4, e5⟩ := s2 i' hi'
    refine ⟨?_, by rw [xv_si_ne (by omega), xv_si_ne (by omega)]; exact e2, by rw [xv_si_ne (by omega), xv_si_ne (by omega)]; exact e3, by rw [xv_si_ne (by omega), xv_si_ne (by omega)]; exact e4, by rw [xv_si_ne (by omega), xv_si_ne (by omega)]; exact e5⟩
    rw [xv_si_ne (by omega)]
    show _ = nI (xPt (a.2.2.1 e).1 i o i')
    by_cases c : i' = i
    · rw [c, xv_si_eq, xPt_eq]
    · rw [xv_si_nj c, xPt_ne c]; exact e1
  · obtain ⟨r1, r2, c1, c2, c3, c4, c5, c6, c7⟩ := p3
    refine ⟨⟨by rw [xv_si_ne (by omega), xv_si_ne (by omega)]; exact r1.1, fun i' hi' => ?_⟩, fun i hi => by rw [xv_si_ne (by omega), xv_si_ne (by omega)]; exact r2 i hi, by rw [xv_si_ne (by omega), xv_si_ne (by omega)]; exact c1, by rw [xv_si_ne (by omega), xv_si_ne (by omega)]; exact c2, by rw [xv_si_ne (by omega), xv_si_ne (by omega)]; exact c3, by rw [xv_si_ne (by omega), xv_si_ne (by omega)]; exact c4, by rw [xv_si_ne (by omega), xv_si_ne (by omega)]; exact c5, by rw [xv_si_ne (by omega), xv_si_ne (by omega)]; exact c6, by rw [xv_si_ne (by omega), xv_si_ne (by omega)]; exact c7⟩
    obtain ⟨e1, e2, e3, e4⟩ := r1.2 i' hi'
    refine ⟨?_, by rw [xv_si_ne (by omega), xv_si_ne (by omega)]; exact e2, by rw [xv_si_ne (by omega), xv_si_ne (by omega)]; exact e3, by rw [xv_si_ne (by omega), xv_si_ne (by omega)]; exact e4⟩
    show _ = nI (xPt (a.2.2.1 e).1 i o i')
    by_cases c : i' = i
    · rw [c, xv_si_eq, xPt_eq]
    · rw [xv_si_nj (by omega), xPt_ne c, xv_si_ne (by omega)]; exact e1

