/-! damage, forge -/
theorem xv_si_if2 {u : xv_M} {a j b q : Nat} {x : Int32} : xv_i (xv_si u a j x) b q = if b = a ∧ q = j then x else xv_i u b q := rfl
def zB (N M b q : Nat) : Prop := (b = N + 89 ∧ q = 1) ∨ (N + 94 ≤ b ∧ b < N + 150) ∨ (b = M ∧ q = 31) ∨ (M + 15 ≤ b ∧ b ≤ M + 21) ∨ ((b = M + 10 ∨ b = M + 11) ∧ 8 ≤ q ∧ q < 16) ∨ ((b = M + 7 ∨ b = M + 8 ∨ b = M + 9 ∨ b = M + 13) ∧ 2240 ≤ q ∧ q < 4480)
theorem yAs_fr2 {u w : xv_M} {N M : Nat} {E : Nat → Nat} {a : yAd} (hE : yEp N E) (z : zEq (zB N M) u w) (H : yAs u N M E a) : yAs w N M E a := by
  obtain ⟨⟨h1, h2, h3⟩, h4, h5⟩ := H
  have hEb : ∀ e, e < 8 → ∀ b, E e ≤ b → b ≤ E e + 6 → ∀ q, xv_i w b q = xv_i u b q := by
    intro e he b hb hb2 q
    obtain ⟨j, hj, ej⟩ := hE.1 e he
    exact z _ _ (Or.inr (Or.inl (by omega)))
  refine ⟨⟨by rw [z _ _ (Or.inl (by omega))]; exact h1, by rw [z _ _ (Or.inr (Or.inr (Or.inl (by omega))))]; exact h2, h3⟩, fun e he => yCw_e (hEb e he) (h4 e he), fun e he => ?_⟩
  obtain ⟨p1, p2, p3⟩ := h5 e he
  have hle := yPv_le p1
  refine ⟨p1, yCe_e (hEb e (by omega)) p2, yMe_e (fun q => yRw_e (z _ _ ?_) (fun c hc i hi => z _ _ ?_) q) (fun b b1 b2 q => z _ _ ?_) (z _ _ ?_) p3⟩
  · exact Or.inr (Or.inr (Or.inr (Or.inr (Or.inl (by omega)))))
  · exact Or.inr (Or.inr (Or.inr (Or.inr (Or.inr (by omega)))))
  · exact Or.inr (Or.inr (Or.inr (Or.inl (by omega))))
  · exact Or.inr (Or.inr (Or.inr (Or.inr (Or.inl (by omega)))))
theorem p_dam0 {u : xv_M} {h N M : Nat} {E : Nat → Nat} {a : yAd} (a1 : yCl u h N M E) (a2 : yD u N M) (a3 : yF u N M) (h23 : xv_i u (N + 89) 2 = xv_i u M 29 ∧ xv_i u (N + 89) 3 = xv_i u M 30) (H : yAs u N M E a) (a5 : yI u N M) (a6 : yK u h M) (x : Int32) : yTi (xv_si (xv_si u (N + 89) 2 x) M 29 x) h N M := by
  have hl : h < N ∧ N + 209 ≤ M ∧ M + 31 ≤ xv_N u := ⟨a1.2.2.2.2.2.2.1, a1.2.2.2.2.2.2.2, a1.2.2.2.2.2.1⟩
  refine yTi_ar (zS_tr zS_1 zS_1) hl.2.2 a1 a2 a3 a5 a6 (fun b q hb => ?_) ⟨?_, ?_⟩ (yAs_fr2 a1.2.2.2.2.1 (zEq_tr (zEq_1 fun q => ?_) (zEq_1 fun q => ?_)) H)
  · have := nAll hl.2.1 hl.1 hb
    rw [xv_si_if2, if_neg (by omega), xv_si_ne (by omega)]
  · rw [xv_si_ne (by omega), xv_si_eq, xv_si_eq]
  · rw [xv_si_ne (by omega), xv_si_nj (by omega), xv_si_nj (by omega), xv_si_ne (by omega)]; exact h23.2
  · unfold zB at q; omega
  · unfold zB at q; omega
theorem p_dam1 {u : xv_M} {h N M : Nat} {E : Nat → Nat} {a : yAd} (a1 : yCl u h N M E) (a2 : yD u N M) (a3 : yF u N M) (h23 : xv_i u (N + 89) 2 = xv_i u M 29 ∧ xv_i u (N + 89) 3 = xv_i u M 30) (H : yAs u N M E a) (a5 : yI u N M) (a6 : yK u h M) (x : Int32) : yTi (xv_si (xv_si u (N + 89) 3 x) M 30 x) h N M := by
  have hl : h < N ∧ N + 209 ≤ M ∧ M + 31 ≤ xv_N u := ⟨a1.2.2.2.2.2.2.1, a1.2.2.2.2.2.2.2, a1.2.2.2.2.2.1⟩
  refine yTi_ar (zS_tr zS_1 zS_1) hl.2.2 a1 a2 a3 a5 a6 (fun b q hb => ?_) ⟨?_, ?_⟩ (yAs_fr2 a1.2.2.2.2.1 (zEq_tr (zEq_1 fun q => ?_) (zEq_1 fun q => ?_)) H)
  · have := nAll hl.2.1 hl.1 hb
    rw [xv_si_if2, if_neg (by omega), xv_si_ne (by omega)]
  · rw [xv_si_ne (by omega), xv_si_nj (by omega), xv_si_nj (by omega), xv_si_ne (by omega)]; exact h23.1
  · rw [xv_si_ne (by omega), xv_si_eq, xv_si_eq]
  · unfold zB at q; omega
  · unfold zB at q; omega
theorem p_dam2 {u : xv_M} {h N M : Nat} {E : Nat → Nat} {a : yAd} (a1 : yCl u h N M E) (a2 : yD u N M) (a3 : yF u N M) (h23 : xv_i u (N + 89) 2 = xv_i u M 29 ∧ xv_i u (N + 89) 3 = xv_i u M 30) (H : yAs u N M E a) (a5 : yI u N M) (a6 : yK u h M) {e : Nat} {y : Int32} (he : e < a.1) (hy : ∃ k, k < 8 ∧ y = nI k) : yTi (xv_si (xv_si u (E e) 2 y) (M + 17) e y) h N M := by
  have hl : h < N ∧ N + 209 ≤ M ∧ M + 31 ≤ xv_N u := ⟨a1.2.2.2.2.2.2.1, a1.2.2.2.2.2.2.2, a1.2.2.2.2.2.1⟩
  have hE := a1.2.2.2.2.1
  have hn8 := H.1.2.2
  obtain ⟨je, hje, ej⟩ := hE.1 e (by omega)
  obtain ⟨g1, g4, g5⟩ := H
  obtain ⟨p1, p2, p3⟩ := g5 e he
  have hle := yPv_le p1
  refine yTi_ar (zS_tr zS_1 zS_1) hl.2.2 a1 a2 a3 a5 a6 (fun b q hb => ?_) ⟨?_, ?_⟩ (yAs_ch (e := e) (n' := a.1) (n1 := a.2.1 e) (U' := a.2.2.1 e) (v' := upd (a.2.2.2.1 e) 2 y) (s' := a.2.2.2.2 e) ⟨g1, g4, g5⟩ ⟨?_, ?_, hn8⟩ (fun j hj _ => hj) (fun j hj hne b b1 b2 q => ?_) (fun j hj hne => ⟨fun c hc => ?_, fun c hc => ?_, fun c hc i hi => ?_, fun i hi => ?_⟩) (fun _ => ?_) (fun _ => ⟨?_, ?_, ?_⟩))
  · have := nAll hl.2.1 hl.1 hb
    rw [xv_si_if2, if_neg (by omega), xv_si_ne (by omega)]
  · rw [xv_si_ne (by omega), xv_si_ne (by omega), xv_si_ne (by omega), xv_si_ne (by omega)]; exact h23.1
  · rw [xv_si_ne (by omega), xv_si_ne (by omega), xv_si_ne (by omega), xv_si_ne (by omega)]; exact h23.2
  · rw [xv_si_ne (by omega), xv_si_ne (by omega)]; exact g1.1
  · rw [xv_si_ne (by omega), xv_si_ne (by omega)]; exact g1.2.1
  · have := yEp_ne hE (show e < 8 by omega) hj hne
    obtain ⟨jj, hjj, ejj⟩ := hE.1 j hj
    rw [xv_si_ne (by omega), xv_si_ne (by omega)]
  · rw [xv_si_ne (by omega), xv_si_ne (by omega)]
  · rw [xv_si_nj hne, xv_si_ne (by omega)]
  · rw [xv_si_ne (by omega), xv_si_ne (by omega)]
  · rw [xv_si_ne (by omega), xv_si_ne (by omega)]
  · obtain ⟨w1, l, w2, w3, w4⟩ := g4 e (by omega)
    refine ⟨?_, l, w2, by rw [xv_si_ne (by omega), xv_si_ne (by omega)]; exact w3, fun i hi => by rw [xv_si_ne (by omega), xv_si_ne (by omega)]; exact w4 i hi⟩
    rw [xv_si_ne (by omega), xv_si_nj (by omega)]; exact w1
  · obtain ⟨q1, ⟨m, f, k, q2, q3, q4, q5, q6, q7⟩, q8, q9⟩ := p1
    exact ⟨by rw [pk_us]; exact hy, ⟨m, f, k, by rw [pk_un (by omega)]; exact q2, by rw [pk_un (by omega)]; exact q3, q4, by rw [pk_un (by omega)]; exact q5, q6, q7⟩, by rw [pk_un (by omega)]; exact q8, by rw [pk_un (by omega)]; exact q9⟩
  · obtain ⟨s1, s2, d1, d2, d3, d4, d5, d6, d7⟩ := p2
    refine ⟨by rw [xv_si_ne (by omega), xv_si_ne (by omega)]; exact s1, fun i hi => ?_, by rw [xv_si_ne (by omega), xv_si_eq, pk_us], by rw [xv_si_ne (by omega), xv_si_nj (by omega), pk_un (by omega)]; exact d2, by rw [xv_si_ne (by omega), xv_si_nj (by omega), pk_un (by omega)]; exact d3, by rw [xv_si_ne (by omega), xv_si_nj (by omega), pk_un (by omega)]; exact d4, by rw [xv_si_ne (by omega), xv_si_nj (by omega), pk_un (by omega)]; exact d5, by rw [xv_si_ne (by omega), xv_si_nj (by omega), pk_un (by omega)]; exact d6, by rw [xv_si_ne (by omega), xv_si_nj (by omega), pk_un (by omega)]; exact d7⟩
    obtain ⟨e1, e2, e3, e4, e5⟩ := s2 i hi
    exact ⟨by rw [xv_si_ne (by omega), xv_si_ne (by omega)]; exact e1, by rw [xv_si_ne (by omega), xv_si_ne (by omega)]; exact e2, by rw [xv_si_ne (by omega), xv_si_ne (by omega)]; exact e3, by rw [xv_si_ne (by omega), xv_si_ne (by omega)]; exact e4, by rw [xv_si_ne (by omega), xv_si_ne (by omega)]; exact e5⟩
  · obtain ⟨r1, r2, c1, c2, c3, c4, c5, c6, c7⟩ := p3
    refine ⟨yRw_e (by rw [xv_si_ne (by omega), xv_si_ne (by omega)]) (fun c hc i hi => by rw [xv_si_ne (by omega), xv_si_ne (by omega)]) r1, fun i hi => by rw [xv_si_ne (by omega), xv_si_ne (by omega)]; exact r2 i hi, by rw [xv_si_eq, pk_us], by rw [xv_si_ne (by omega), xv_si_ne (by omega), pk_un (by omega)]; exact c2, by rw [xv_si_ne (by omega), xv_si_ne (by omega), pk_un (by omega)]; exact c3, by rw [xv_si_ne (by omega), xv_si_ne (by omega), pk_un (by omega)]; exact c4, by rw [xv_si_ne (by omega), xv_si_ne (by omega), pk_un (by omega)]; exact c5, by rw [xv_si_ne (by omega), xv_si_ne (by omega), pk_un (by omega)]; exact c6, by rw [xv_si_ne (by omega), xv_si_ne (by omega), pk_un (by omega)]; exact c7⟩
theorem p_dam3 {u : xv_M} {h N M : Nat} {E : Nat → Nat} {a : yAd} (a1 : yCl u h N M E) (a2 : yD u N M) (a3 : yF u N M) (h23 : xv_i u (N + 89) 2 = xv_i u M 29 ∧ xv_i u (N + 89) 3 = xv_i u M 30) (H : yAs u N M E a) (a5 : yI u N M) (a6 : yK u h M) {e : Nat} {y : Int32} (he : e < a.1) (hy : y = 0 ∨ y = 1) : yTi (xv_si (xv_si u (E e) 6 y) (M + 15) e y) h N M := by
  have hl : h < N ∧ N + 209 ≤ M ∧ M + 31 ≤ xv_N u := ⟨a1.2.2.2.2.2.2.1, a1.2.2.2.2.2.2.2, a1.2.2.2.2.2.1⟩
  have hE := a1.2.2.2.2.1
  have hn8 := H.1.2.2
  obtain ⟨je, hje, ej⟩ := hE.1 e (by omega)
  obtain ⟨g1, g4, g5⟩ := H
  obtain ⟨p1, p2, p3⟩ := g5 e he
  have hle := yPv_le p1
  refine yTi_ar (zS_tr zS_1 zS_1) hl.2.2 a1 a2 a3 a5 a6 (fun b q hb => ?_) ⟨?_, ?_⟩ (yAs_ch (e := e) (n' := a.1) (n1 := a.2.1 e) (U' := a.2.2.1 e) (v' := upd (a.2.2.2.1 e) 6 y) (s' := a.2.2.2.2 e) ⟨g1, g4, g5⟩ ⟨?_, ?_, hn8⟩ (fun j hj _ => hj) (fun j hj hne b b1 b2 q => ?_) (fun j hj hne => ⟨fun c hc => ?_, fun c hc => ?_, fun c hc i hi => ?_, fun i hi => ?_⟩) (fun _ => ?_) (fun _ => ⟨?_, ?_, ?_⟩))
  · have := nAll hl.2.1 hl.1 hb
    rw [xv_si_if2, if_neg (by omega), xv_si_ne (by omega)]
  · rw [xv_si_ne (by omega), xv_si_ne (by omega), xv_si_ne (by omega), xv_si_ne (by omega)]; exact h23.1
  · rw [xv_si_ne (by omega), xv_si_ne (by omega), xv_si_ne (by omega), xv_si_ne (by omega)]; exact h23.2
  · rw [xv_si_ne (by omega), xv_si_ne (by omega)]; exact g1.1
  · rw [xv_si_ne (by omega), xv_si_ne (by omega)]; exact g1.2.1
  · have := yEp_ne hE (show e < 8 by omega) hj hne
    obtain ⟨jj, hjj, ejj⟩ := hE.1 j hj
    rw [xv_si_ne (by omega), xv_si_ne (by omega)]
  · rw [xv_si_ne (by omega), xv_si_ne (by omega)]
  · rw [xv_si_nj hne, xv_si_ne (by omega)]
  · rw [xv_si_ne (by omega), xv_si_ne (by omega)]
  · rw [xv_si_ne (by omega), xv_si_ne (by omega)]
  · obtain ⟨w1, l, w2, w3, w4⟩ := g4 e (by omega)
    refine ⟨?_, l, w2, by rw [xv_si_ne (by omega), xv_si_ne (by omega)]; exact w3, fun i hi => by rw [xv_si_ne (by omega), xv_si_ne (by omega)]; exact w4 i hi⟩
    rw [xv_si_ne (by omega), xv_si_eq]; exact hy
  · obtain ⟨q1, ⟨m, f, k, q2, q3, q4, q5, q6, q7⟩, q8, q9⟩ := p1
    exact ⟨by rw [pk_un (by omega)]; exact q1, ⟨m, f, k, by rw [pk_un (by omega)]; exact q2, by rw [pk_un (by omega)]; exact q3, q4, by rw [pk_un (by omega)]; exact q5, q6, q7⟩, by rw [pk_us]; exact hy, by rw [pk_un (by omega)]; exact q9⟩
  · obtain ⟨s1, s2, d1, d2, d3, d4, d5, d6, d7⟩ := p2
    refine ⟨by rw [xv_si_ne (by omega), xv_si_ne (by omega)]; exact s1, fun i hi => ?_, by rw [xv_si_ne (by omega), xv_si_nj (by omega), pk_un (by omega)]; exact d1, by rw [xv_si_ne (by omega), xv_si_nj (by omega), pk_un (by omega)]; exact d2, by rw [xv_si_ne (by omega), xv_si_nj (by omega), pk_un (by omega)]; exact d3, by rw [xv_si_ne (by omega), xv_si_nj (by omega), pk_un (by omega)]; exact d4, by rw [xv_si_ne (by omega), xv_si_eq, pk_us], by rw [xv_si_ne (by omega), xv_si_nj (by omega), pk_un (by omega)]; exact d6, by rw [xv_si_ne (by omega), xv_si_nj (by omega), pk_un (by omega)]; exact d7⟩
    obtain ⟨e1, e2, e3, e4, e5⟩ := s2 i hi
    exact ⟨by rw [xv_si_ne (by omega), xv_si_ne (by omega)]; exact e1, by rw [xv_si_ne (by omega), xv_si_ne (by omega)]; exact e2, by rw [xv_si_ne (by omega), xv_si_ne (by omega)]; exact e3, by rw [xv_si_ne (by omega), xv_si_ne (by omega)]; exact e4, by rw [xv_si_ne (by omega), xv_si_ne (by omega)]; exact e5⟩
  · obtain ⟨r1, r2, c1, c2, c3, c4, c5, c6, c7⟩ := p3
    refine ⟨yRw_e (by rw [xv_si_ne (by omega), xv_si_ne (by omega)]) (fun c hc i hi => by rw [xv_si_ne (by omega), xv_si_ne (by omega)]) r1, fun i hi => by rw [xv_si_ne (by omega), xv_si_ne (by omega)]; exact r2 i hi, by rw [xv_si_ne (by omega), xv_si_ne (by omega), pk_un (by omega)]; exact c1, by rw [xv_si_ne (by omega), xv_si_ne (by omega), pk_un (by omega)]; exact c2, by rw [xv_si_ne (by omega), xv_si_ne (by omega), pk_un (by omega)]; exact c3, by rw [xv_si_ne (by omega), xv_si_ne (by omega), pk_un (by omega)]; exact c4, by rw [xv_si_eq, pk_us], by rw [xv_si_ne (by omega), xv_si_ne (by omega), pk_un (by omega)]; exact c6, by rw [xv_si_ne (by omega), xv_si_ne (by omega), pk_un (by omega)]; exact c7⟩

