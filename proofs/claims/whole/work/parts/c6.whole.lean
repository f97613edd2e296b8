/-! the whole code of a function: first units that set the variables, the form, the end -/
def yWh (P : Nat → Nat → Prop) (U : yU) (O : Nat → Nat) (A : Nat → Int32) (k m : Nat) : Prop := (∀ j, j < 7 - m → yAt U (2 * j) 0 0 ∧ yAt U (2 * j + 1) 13 (nI (m + j))) ∧ yLay P U O A k 0 (2 * (7 - m)) ∧ P (2 * (7 - m) + xSz O k 0) 17
theorem yPre_k : ∀ (r v : Nat) (σ : xQ) (i : Nat), i < σ.1 → yEa (xPre r v σ) σ i := by
  intro r
  induction r with
  | zero => intro v σ i _; exact ⟨rfl, rfl, rfl, rfl⟩
  | succ r ih =>
    intro v σ i h
    have h2 : i < (xEm σ 0 0).1 := by show i < σ.1 + 1; omega
    have h3 : i < (xEm (xEm σ 0 0) 13 (nI v)).1 := by show i < σ.1 + 1 + 1; omega
    exact yEa_tr (ih (v + 1) _ i h3) (yEa_tr (yEm_e h2) (yEm_e h))
theorem yPre_l {U : yU} : ∀ (r v : Nat) (σ : xQ), (∀ i, σ.1 ≤ i → i < σ.1 + 2 * r → yAg U (xPre r v σ) i) → ∀ j, j < r → yAt U (σ.1 + 2 * j) 0 0 ∧ yAt U (σ.1 + 2 * j + 1) 13 (nI (v + j)) := by
  intro r
  induction r with
  | zero => intro v σ _ j h; omega
  | succ r ih =>
    intro v σ h j hj
    have e1 : (xEm σ 0 0).1 = σ.1 + 1 := rfl
    have e2 : (xEm (xEm σ 0 0) 13 (nI v)).1 = σ.1 + 2 := rfl
    have h' : ∀ i, σ.1 ≤ i → i < σ.1 + 2 * (r + 1) → yAg U (xPre r (v + 1) (xEm (xEm σ 0 0) 13 (nI v))) i := h
    cases j with
    | zero =>
      have a1 := yAg_ea (h' σ.1 (by omega) (by omega)) (yPre_k r (v + 1) _ σ.1 (by omega))
      have a2 := yAg_ea (h' (σ.1 + 1) (by omega) (by omega)) (yPre_k r (v + 1) _ (σ.1 + 1) (by omega))
      exact ⟨zAt_em (by omega) (yAg_ea a1 (yEm_e (by omega))) rfl, zAt_em (by omega) a2 rfl⟩
    | succ j =>
      have q := ih (v + 1) (xEm (xEm σ 0 0) 13 (nI v)) (fun i h1 h2 => h' i (by omega) (by omega)) j (by omega)
      rw [e2] at q
      rw [show σ.1 + 2 * (j + 1) = σ.1 + 2 + 2 * j by omega, show v + (j + 1) = v + 1 + j by omega]
      exact q
theorem yWh_tr {O : Nat → Nat} {A : Nat → Int32} {n k m : Nat} {U : yU} {σ : xQ} (hO : ∀ p, p < n → O p < 18) (hv : xVF O n k 0) (h0 : σ.1 = 0) (h : ∀ i, i < (xTr O A k m σ).1 → yAg U (xTr O A k m σ) i) : yWh (fun i o => U.1 i = o) U O A k m := by
  have eN : (xTr O A k m σ).1 = σ.1 + 2 * (7 - m) + xSz O k 0 + 1 := xTr_n
  have e1 : (xPre (7 - m) m σ).1 = σ.1 + 2 * (7 - m) := xPre_n _ _ _
  have e2 : (xEmF O A k 0 (xPre (7 - m) m σ)).1 = σ.1 + 2 * (7 - m) + xSz O k 0 := by rw [xEmF_n, e1]
  refine ⟨fun j hj => ?_, ?_, ?_⟩
  · have q := yPre_l (U := U) (7 - m) m σ (fun i h1 h2 => ?_) j hj
    · rw [h0, Nat.zero_add] at q; exact q
    · have a := h i (by omega)
      unfold xTr at a
      exact yAg_ea (yAg_ea a (yEm_e (by omega))) (yEmF_k k 0 _ i (by omega))
  · have q := yEmit (A := A) (U := U) hO k 0 (xPre (7 - m) m σ) hv (fun i h1 h2 => ?_)
    · rw [e1, h0, Nat.zero_add] at q; exact q
    · have a := h i (by omega)
      unfold xTr at a
      exact yAg_ea a (yEm_e (by omega))
  · have a := h (2 * (7 - m) + xSz O k 0) (by omega)
    unfold xTr at a
    exact (zAt_em (by omega) a (by omega)).1
/-- the units of a whole code: what stands in them, and heights that no way passes -/
theorem yWh_HB {P : Nat → Nat → Prop} {U : yU} {O : Nat → Nat} {A : Nat → Int32} {n B k m : Nat} (hT : xTok O A n) (hB : ∀ p, p < n → O p = 17 → ∀ v, v < 8 → A p = nI v → v < B) (hP : ∀ i o, (2 ≤ o ∧ o ≤ 12) ∨ o = 17 ∨ o = 19 → P i o → yFo (U.1 i)) (hv : xVF O n k 0) (hm : m ≤ 3) (hz : xSz O k 0 ≤ 250) (ht : xNx O k 0 ≤ 40) (h : yWh P U O A k m) : (∀ x, x < 2 * (7 - m) + xSz O k 0 + 1 → yOd U B x) ∧ ∃ β, xHB (2 * (7 - m) + xSz O k 0 + 1) U.1 U.2.1 U.2.2.1 β := by
  obtain ⟨hp, hL, he⟩ := h
  obtain ⟨b, eb⟩ : ∃ b, b = 2 * (7 - m) := ⟨_, rfl⟩
  obtain ⟨z, ez⟩ : ∃ z, z = xSz O k 0 := ⟨_, rfl⟩
  obtain ⟨hA, hl, hb⟩ := yAL_of (N := 2 * (7 - m) + xSz O k 0 + 1) hT hB (fun i o q r => hP i o (by omega) r) k 0 (2 * (7 - m)) hv hL (by omega)
  rw [← eb, ← ez] at hA hl hb he ⊢
  have hN : yN U B (b + z) := yN_f (hP _ _ (by omega) he)
  have h0 : ∀ j, j < 7 - m → yN U B (2 * j) ∧ U.1 (2 * j) = 0 := fun j hj => ⟨yN_0 (hp j hj).1, (hp j hj).1.1⟩
  have h1 : ∀ j, j < 7 - m → yN U B (2 * j + 1) ∧ U.1 (2 * j + 1) = 13 := fun j hj => ⟨yN_v (hp j hj).2 (Or.inr rfl) (by omega), (hp j hj).2.1⟩
  have hpr : ∀ x, x < b → yN U B x ∧ (U.1 x = 0 ∧ x % 2 = 0 ∨ U.1 x = 13 ∧ x % 2 = 1) := by
    intro x hx
    rcases Nat.mod_two_eq_zero_or_one x with q | q
    · have := h0 (x / 2) (by omega)
      rw [show 2 * (x / 2) = x by omega] at this
      exact ⟨this.1, Or.inl ⟨this.2, q⟩⟩
    · have := h1 (x / 2) (by omega)
      rw [show 2 * (x / 2) + 1 = x by omega] at this
      exact ⟨this.1, Or.inr ⟨this.2, q⟩⟩
  have hsp : ∀ x, x < b + z + 1 → x < b ∨ (b ≤ x ∧ x < b + z) ∨ x = b + z := by intro x hx; omega
  have hod : ∀ x, x < b + z + 1 → yOd U B x := by
    intro x hx
    rcases hsp x hx with q | q | rfl
    · exact (hpr x q).1.1
    · exact (hA x q.1 q.2).1
    · exact hN.1
  refine ⟨hod, ?_⟩
  obtain ⟨β, s, e, c, d⟩ := hb 0
  obtain ⟨t, et⟩ : ∃ t, t = xNx O k 0 - 0 := ⟨_, rfl⟩
  rw [← et] at e c
  obtain ⟨γ, eγ⟩ : ∃ γ : Nat → Nat, ∀ x, γ x = if x < b then x % 2 else if x ≤ b + z then β x else t + 1 := ⟨fun x => if x < b then x % 2 else if x ≤ b + z then β x else t + 1, fun _ => rfl⟩
  have g1 : ∀ x, x < b → γ x = x % 2 := fun x hx => by rw [eγ, if_pos hx]
  have g2 : ∀ x, b ≤ x → x ≤ b + z → γ x = β x := fun x hx hx2 => by rw [eγ, if_neg (by omega), if_pos hx2]
  have g3 : ∀ x, b + z < x → γ x = t + 1 := fun x hx => by rw [eγ, if_neg (by omega), if_neg (by omega)]
  refine ⟨γ, ?_, ?_, ?_, ?_⟩
  · intro x
    by_cases q : x < b
    · rw [g1 x q]; omega
    · by_cases q2 : x ≤ b + z
      · rw [g2 x (by omega) q2]
        by_cases q3 : x = b + z
        · rw [q3, e]; omega
        · have := c x (by omega) (by omega)
          omega
      · rw [g3 x (by omega)]; omega
  · intro x y hx hy hn
    rcases hsp x hx with q | q | rfl
    · have a := (hpr x q).1.2.1 y hy
      rcases (hpr x q).2 with ⟨e1, e2⟩ | ⟨e1, e2⟩
      · have : y < b := by omega
        rw [e1, g1 x q, g1 y this]
        show _ + 1 ≤ _ + 0
        omega
      · rw [e1]
        show _ + 0 ≤ _ + 1
        rw [g1 x q]
        omega
    · have a := (hA x q.1 q.2).2 y hy
      rw [g2 x q.1 (by omega), g2 y a.1 a.2]
      exact d x q.1 q.2 y hy hn
    · have a := hN.2.1 y hy
      rw [g2 _ (by omega) (by omega), g3 y (by omega), e]
      have := yFo_le (hP _ _ (by omega) he)
      omega
  · intro x x' hx hx15 hlt hF hle i y hi hy h1 h2
    rcases hsp x hx with q | q | rfl
    · exact absurd hx15 (hpr x q).1.2.2
    · refine hl ?_ x x' q.1 q.2 hx15 hlt hF hle i y hi hy h1 h2
      intro i y hi hy h1 h2
      rcases hsp i hi with r | r | rfl
      · have := (hpr i r).1.2.1 y hy
        omega
      · exact r
      · have := hN.2.1 y hy
        omega
    · exact absurd hx15 hN.2.2
  · intro x hx
    have := hod x hx
    exact ⟨this.1, this.2.2.2.2, fun q => (this.2.2.1 q).2⟩

