/-! forged units -/
theorem yLo_u {P P' : Nat → Nat → Prop} {U U' : yU} {Y Y' : Nat → Nat → Prop} {z : Nat → Nat} {o : Nat} {a : Int32} {b : Nat} (ho : o < 18) (hP : ∀ i o, (2 ≤ o ∧ o ≤ 12) ∨ o = 19 → P i o → P' i o) (hA : ∀ i o f, o = 0 ∨ o = 1 ∨ o = 13 ∨ o = 14 ∨ o = 15 ∨ o = 16 → yAt U i o f → yAt U' i o f) (hX : ∀ i o, yFx U i o → yFx U' i o) (hS : ∀ i, U'.2.2.1 i = U.2.2.1 i) (hY : ∀ j, j < xPa o → ∀ b, Y j b → Y' j b) (h : yLo P U Y z o a b) : yLo P' U' Y' z o a b := by
  obtain ⟨p13, p17, p14, p16, p12, p15, p0, p1, -⟩ := yPa_3
  unfold yLo at h ⊢
  by_cases q0 : o = 0
  · rw [if_pos q0] at h ⊢; exact hA _ _ _ (by omega) h
  rw [if_neg q0] at h ⊢
  by_cases q1 : o = 1
  · rw [if_pos q1] at h ⊢; exact hA _ _ _ (by omega) h
  rw [if_neg q1] at h ⊢
  by_cases q12 : o = 12
  · rw [if_pos q12] at h ⊢; rw [q12, p12] at hY
    exact ⟨hY 0 (by omega) _ h.1, hP _ _ (by omega) h.2⟩
  rw [if_neg q12] at h ⊢
  by_cases q13 : o = 13
  · rw [if_pos q13] at h ⊢; rw [q13, p13] at hY
    exact ⟨hY 0 (by omega) _ h.1, hA _ _ _ (by omega) h.2.1, (hS _).trans h.2.2.1, hY 1 (by omega) _ h.2.2.2.1, hA _ _ _ (by omega) h.2.2.2.2.1, hY 2 (by omega) _ h.2.2.2.2.2⟩
  rw [if_neg q13] at h ⊢
  by_cases q14 : o = 14
  · rw [if_pos q14] at h ⊢; rw [q14, p14] at hY
    exact ⟨hY 0 (by omega) _ h.1, hA _ _ _ (by omega) h.2.1, hY 1 (by omega) _ h.2.2⟩
  rw [if_neg q14] at h ⊢
  by_cases q15 : o = 15
  · rw [if_pos q15] at h ⊢; rw [q15, p15] at hY
    exact ⟨hY 0 (by omega) _ h.1, hP _ _ (by omega) h.2.1, hA _ _ _ (by omega) h.2.2⟩
  rw [if_neg q15] at h ⊢
  by_cases q16 : o = 16
  · rw [if_pos q16] at h ⊢; rw [q16, p16] at hY
    exact ⟨hY 0 (by omega) _ h.1, hA _ _ _ (by omega) h.2.1, hX _ _ h.2.2.1, hA _ _ _ (by omega) h.2.2.2.1, hA _ _ _ (by omega) h.2.2.2.2.1, ⟨hA _ _ _ (by omega) h.2.2.2.2.2.1.1, (hS _).trans h.2.2.2.2.2.1.2⟩, hY 1 (by omega) _ h.2.2.2.2.2.2.1, hX _ _ h.2.2.2.2.2.2.2.1, hA _ _ _ (by omega) h.2.2.2.2.2.2.2.2.1, hA _ _ _ (by omega) h.2.2.2.2.2.2.2.2.2.1, hX _ _ h.2.2.2.2.2.2.2.2.2.2.1, hA _ _ _ (by omega) h.2.2.2.2.2.2.2.2.2.2.2.1, hA _ _ _ (by omega) h.2.2.2.2.2.2.2.2.2.2.2.2.1, hA _ _ _ (by omega) h.2.2.2.2.2.2.2.2.2.2.2.2.2⟩
  rw [if_neg q16] at h ⊢
  by_cases q17 : o = 17
  · rw [if_pos q17] at h ⊢; rw [q17, p17] at hY
    exact ⟨hY 0 (by omega) _ h.1, hY 1 (by omega) _ h.2.1, hY 2 (by omega) _ h.2.2.1, hA _ _ _ (by omega) h.2.2.2⟩
  rw [if_neg q17] at h ⊢
  have hpa := yPa2 o ho ⟨q0, q1, q13, q15, q17, q12⟩
  rw [hpa.1] at hY
  exact ⟨hY 0 (by omega) _ h.1, hY 1 (by omega) _ h.2.1, hP _ _ (by omega) h.2.2⟩
theorem yLay_u {P P' : Nat → Nat → Prop} {U U' : yU} {O : Nat → Nat} {A : Nat → Int32} {n : Nat} (hP : ∀ i o, (2 ≤ o ∧ o ≤ 12) ∨ o = 19 → P i o → P' i o) (hA : ∀ i o f, o = 0 ∨ o = 1 ∨ o = 13 ∨ o = 14 ∨ o = 15 ∨ o = 16 → yAt U i o f → yAt U' i o f) (hX : ∀ i o, yFx U i o → yFx U' i o) (hS : ∀ i, U'.2.2.1 i = U.2.2.1 i) : ∀ k p b, (∀ p, p < n → O p < 18) → xVF O n k p → yLay P U O A k p b → yLay P' U' O A k p b := by
  intro k
  induction k with
  | zero => intro p b _ h; exact absurd h id
  | succ k ih =>
    intro p b hO hv h
    exact yLo_u (hO p hv.1) hP hA hX hS (fun j hj b hY => ih _ b hO (hv.2 j hj) hY) h
def yFg (U : yU) (i o : Nat) : yU := (xPt U.1 i o, U.2.1, U.2.2.1, U.2.2.2)
theorem yPe_fg {U : yU} {n m f i o : Nat} (h : yPe U n m f) (h1 : yFo (U.1 i)) (h2 : U.2.2.2 i = 0) (ho : yFo o) : yPe (yFg U i o) n m f := by
  obtain ⟨O, A, k, a1, a2, a3, a4, a5, ⟨w1, w2, w3⟩, a7⟩ := h
  obtain ⟨-, hv, -, -, -, -⟩ := yOne_sz a2 a1 a3 a4
  have op : ∀ j, ¬ j = i → (yFg U i o).1 j = U.1 j := fun j hj => xPt_ne hj
  have opi : (yFg U i o).1 i = o := xPt_eq
  have hA : ∀ j q g, q = 0 ∨ q = 1 ∨ q = 13 ∨ q = 14 ∨ q = 15 ∨ q = 16 → yAt U j q g → yAt (yFg U i o) j q g := by
    intro j q g hq hj
    have : ¬ j = i := by
      rintro rfl
      rw [hj.1] at h1
      unfold yFo at h1
      omega
    exact ⟨(op j this).trans hj.1, hj.2⟩
  have hX : ∀ j q, yFx U j q → yFx (yFg U i o) j q := by
    intro j q hj
    have : ¬ j = i := by
      rintro rfl
      have hj2 := hj.2
      rw [h2] at hj2
      exact absurd hj2 (by decide)
    exact ⟨(op j this).trans hj.1, hj.2⟩
  have hP : ∀ j, yFo (U.1 j) → yFo ((yFg U i o).1 j) := by
    intro j hj
    by_cases c : j = i
    · rw [c, opi]; exact ho
    · rw [op j c]; exact hj
  exact ⟨O, A, k, a1, a2, a3, a4, a5, ⟨fun j hj => ⟨hA _ _ _ (by omega) (w1 j hj).1, hA _ _ _ (by omega) (w1 j hj).2⟩, yLay_u (fun j _ _ q => hP j q) hA hX (fun _ => rfl) 41 0 _ (fun p hp => (a1 p hp).1) hv w2, hP _ w3⟩, a7⟩
/-! a change of one entry -/
theorem yEp_ne {N e j : Nat} {E : Nat → Nat} (h : yEp N E) (he : e < 8) (hj : j < 8) (hne : ¬ j = e) : E j + 6 < E e ∨ E e + 6 < E j := by
  obtain ⟨a, ha, ea⟩ := h.1 e he
  obtain ⟨b, hb, eb⟩ := h.1 j hj
  have : a ≠ b := fun c => hne (h.2 j e hj he (by omega))
  omega
theorem yAs_ch {u w : xv_M} {N M e n' n1 : Nat} {E : Nat → Nat} {a : yAd} {U' : yU} {v' s' : Nat → Int32} (H : yAs u N M E a) (h1 : xv_i w (N + 89) 1 = nI n' ∧ xv_i w M 31 = nI n' ∧ n' ≤ 8) (hcv : ∀ j, j < n' → ¬ j = e → j < a.1) (hc : ∀ j, j < 8 → ¬ j = e → ∀ b, E j ≤ b → b ≤ E j + 6 → ∀ q, xv_i w b q = xv_i u b q) (hm : ∀ j, j < a.1 → ¬ j = e → (∀ c, c = 10 ∨ c = 11 → xv_i w (M + c) (8 + j) = xv_i u (M + c) (8 + j)) ∧ (∀ c, 15 ≤ c ∧ c ≤ 20 → xv_i w (M + c) j = xv_i u (M + c) j) ∧ (∀ c, c = 7 ∨ c = 8 ∨ c = 9 ∨ c = 13 → ∀ i, i < a.2.1 j → xv_i w (M + c) (280 * (8 + j) + i) = xv_i u (M + c) (280 * (8 + j) + i)) ∧ ∀ i, i < a.2.1 j → xv_i w (M + 21) (280 * j + i) = xv_i u (M + 21) (280 * j + i)) (hcw : e < 8 → yCw w (E e)) (hnew : e < n' → yPv n1 U' v' ∧ yCe w (E e) n1 U' v' s' ∧ yMe w M e n1 U' v' s') : yAs w N M E (n', xPt a.2.1 e n1, xPt a.2.2.1 e U', xPt a.2.2.2.1 e v', xPt a.2.2.2.2 e s') := by
  obtain ⟨⟨g1, g2, g3⟩, g4, g5⟩ := H
  refine ⟨h1, fun j hj => ?_, fun j hj => ?_⟩
  · by_cases c : j = e
    · subst c; exact hcw hj
    · exact yCw_e (hc j hj c) (g4 j hj)
  · have hj : j < n' := hj
    show yPv (xPt a.2.1 e n1 j) (xPt a.2.2.1 e U' j) (xPt a.2.2.2.1 e v' j) ∧ yCe w (E j) (xPt a.2.1 e n1 j) (xPt a.2.2.1 e U' j) (xPt a.2.2.2.1 e v' j) (xPt a.2.2.2.2 e s' j) ∧ yMe w M j (xPt a.2.1 e n1 j) (xPt a.2.2.1 e U' j) (xPt a.2.2.2.1 e v' j) (xPt a.2.2.2.2 e s' j)
    by_cases c : j = e
    · subst c
      rw [xPt_eq, xPt_eq, xPt_eq, xPt_eq]
      exact hnew hj
    · rw [xPt_ne c, xPt_ne c, xPt_ne c, xPt_ne c]
      obtain ⟨p1, p2, p3⟩ := g5 j (hcv j hj c)
      obtain ⟨k1, k2, k3, k4⟩ := hm j (hcv j hj c) c
      refine ⟨p1, yCe_e (hc j (by omega) c) p2, ?_⟩
      obtain ⟨r1, r2, c1, c2, c3, c4, c5, c6, c7⟩ := p3
      exact ⟨yRw_e (k1 10 (by omega)) k3 r1, fun i hi => (k4 i hi).trans (r2 i hi), (k2 17 (by omega)).trans c1, (k2 18 (by omega)).trans c2, (k1 11 (by omega)).trans c3, (k2 19 (by omega)).trans c4, (k2 15 (by omega)).trans c5, (k2 20 (by omega)).trans c6, (k2 16 (by omega)).trans c7⟩
/-- all but the archive stays -/
theorem yTi_ar {u w : xv_M} {h N M : Nat} {E : Nat → Nat} (hz : zS (fun b => b < M + 31) u w) (hn : M + 31 ≤ xv_N w) (a1 : yCl u h N M E) (a2 : yD u N M) (a3 : yF u N M) (a5 : yI u N M) (a6 : yK u h M) (e : ∀ b q, zD N M b q ∨ zF N M b q ∨ zI N M b q ∨ zK h M b q → xv_i w b q = xv_i u b q) (h23 : xv_i w (N + 89) 2 = xv_i w M 29 ∧ xv_i w (N + 89) 3 = xv_i w M 30) {a : yAd} (hA : yAs w N M E a) : yTi w h N M := ⟨E, yCl_si hz hn a1, yD_fr (fun b q hb => e b q (Or.inl hb)) a2, yF_fr (fun b q hb => e b q (Or.inr (Or.inl hb))) a3, ⟨h23, a, hA⟩, yI_fr (fun b q hb => e b q (Or.inr (Or.inr (Or.inl hb)))) a5, yK_fr (fun b q hb => e b q (Or.inr (Or.inr (Or.inr hb)))) a6⟩
theorem nAll {N M h b q : Nat} (hN : N + 209 ≤ M) (hh : h < N) (hb : zD N M b q ∨ zF N M b q ∨ zI N M b q ∨ zK h M b q) : b < N + 89 ∨ (N + 150 ≤ b ∧ b < N + 209) ∨ (b = M ∧ 32 ≤ q) ∨ (M + 1 ≤ b ∧ b ≤ M + 4) ∨ b = M + 14 ∨ b = M + 22 ∨ ((b = M + 10 ∨ b = M + 11) ∧ (q < 8 ∨ 16 ≤ q)) ∨ ((b = M + 7 ∨ b = M + 8 ∨ b = M + 9 ∨ b = M + 13) ∧ (q < 2240 ∨ 4480 ≤ q)) := by
  rcases hb with hb | hb | hb | hb
  · unfold zD at hb; omega
  · have := nF hb; omega
  · have := nI' hb; omega
  · unfold zK at hb; omega

