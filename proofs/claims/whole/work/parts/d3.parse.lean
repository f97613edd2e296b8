/-! the model's relate and the class's endOf find the same forms -/
def yDa (O : Nat → Nat) (ρ : xRh) : Nat := if ρ.1 = 0 then 0 else if ρ.2.2.1 (ρ.1 - 1) + 1 = xPa (O (ρ.2.1 (ρ.1 - 1))) then ρ.1 - 1 else ρ.1
def ySa (ρ : xRh) : Nat → Nat := if ρ.1 = 0 then ρ.2.2.1 else xPt ρ.2.2.1 (ρ.1 - 1) (ρ.2.2.1 (ρ.1 - 1) + 1)
def yUp (ρ : xRh) : Int32 := if ρ.1 = 0 then -1 else nI (ρ.2.1 (ρ.1 - 1))
def yPn (ρ : xRh) : Nat := if ρ.1 = 0 then 0 else ρ.2.2.1 (ρ.1 - 1) + 1
theorem yR1_eq {O : Nat → Nat} {k : Nat} {ρ : xRh} : xR1 O k ρ = xR0 k ρ (yDa O ρ) (ySa ρ) (yUp ρ) (yPn ρ) (xPa (O k)) := by
  unfold xR1 yDa ySa yUp yPn
  by_cases h : ρ.1 = 0
  · rw [if_pos h, if_pos h, if_pos h, if_pos h, if_pos h]
  · rw [if_neg h, if_neg h, if_neg h, if_neg h, if_neg h]
theorem yRl_s {O : Nat → Nat} {k : Nat} : xRl O (k + 1) = xR0 k (xRl O k) (yDa O (xRl O k)) (ySa (xRl O k)) (yUp (xRl O k)) (yPn (xRl O k)) (xPa (O k)) := yR1_eq
theorem yRl_up {O : Nat → Nat} {k : Nat} : (xRl O (k + 1)).2.2.2.1 = xPt (xRl O k).2.2.2.1 k (yUp (xRl O k)) ∧ (xRl O (k + 1)).2.2.2.2 = xPt (xRl O k).2.2.2.2 k (yPn (xRl O k)) := by
  rw [yRl_s]
  unfold xR0
  split <;> exact ⟨rfl, rfl⟩
theorem yRl_keep {O : Nat → Nat} {q : Nat} : ∀ n, q < n → (xRl O n).2.2.2.1 q = yUp (xRl O q) ∧ (xRl O n).2.2.2.2 q = yPn (xRl O q) := by
  intro n
  induction n with
  | zero => intro h; omega
  | succ n ih =>
    intro h
    rw [yRl_up.1, yRl_up.2]
    by_cases e : q = n
    · subst e; rw [xPt_eq, xPt_eq]; exact ⟨rfl, rfl⟩
    · rw [xPt_ne e, xPt_ne e]; exact ih (by omega)
def yLd (O : Nat → Nat) (p e : Nat) : Prop := p < e ∧ (xRl O e).1 = yDa O (xRl O p) ∧ (∀ i, i < yDa O (xRl O p) → (xRl O e).2.1 i = (xRl O p).2.1 i ∧ (xRl O e).2.2.1 i = ySa (xRl O p) i) ∧ ∀ j, p < j → j < e → yDa O (xRl O p) < (xRl O j).1
/-- while the parts of the form at p are read -/
def yIv (O : Nat → Nat) (p : Nat) (q j : Nat) : Prop := (if j = xPa (O p) then (xRl O q).1 = yDa O (xRl O p) else (xRl O q).1 = yDa O (xRl O p) + 1 ∧ (xRl O q).2.1 (yDa O (xRl O p)) = p ∧ (xRl O q).2.2.1 (yDa O (xRl O p)) = j) ∧ p < q ∧ (∀ i, i < yDa O (xRl O p) → (xRl O q).2.1 i = (xRl O p).2.1 i ∧ (xRl O q).2.2.1 i = ySa (xRl O p) i) ∧ ∀ t, p < t → t < q → yDa O (xRl O p) < (xRl O t).1
theorem yIv_in {O : Nat → Nat} {k p J : Nat} (hJ : J ≤ xPa (O p)) (h : ∀ j, j < J → yLd O (xIt (xNx O k) j (p + 1)) (xIt (xNx O k) (j + 1) (p + 1))) : ∀ j, j ≤ J → yIv O p (xIt (xNx O k) j (p + 1)) j := by
  obtain ⟨D, eD⟩ : ∃ D, D = yDa O (xRl O p) := ⟨_, rfl⟩
  intro j
  induction j with
  | zero =>
    intro _
    show yIv O p (p + 1) 0
    unfold yIv
    rw [← eD, yRl_s, ← eD]
    unfold xR0
    by_cases c : 0 < xPa (O p)
    · rw [if_pos c, if_neg (by omega)]
      refine ⟨⟨rfl, xPt_eq, xPt_eq⟩, by omega, fun i hi => ⟨xPt_ne (by omega), xPt_ne (by omega)⟩, fun t h1 h2 => by omega⟩
    · rw [if_neg c, if_pos (by omega)]
      exact ⟨rfl, by omega, fun i hi => ⟨rfl, rfl⟩, fun t h1 h2 => by omega⟩
  | succ j ih =>
    intro hj
    have a := ih (by omega)
    have b := h j (by omega)
    show yIv O p (xIt (xNx O k) (j + 1) (p + 1)) (j + 1)
    generalize xIt (xNx O k) (j + 1) (p + 1) = e at b
    generalize xIt (xNx O k) j (p + 1) = q at a b
    obtain ⟨a1, a2, a3, a4⟩ := a
    rw [if_neg (by omega)] at a1
    obtain ⟨b1, b2, b3, b4⟩ := b
    rw [← eD] at a1 a3 a4
    obtain ⟨c1, c2, c3⟩ := a1
    have hq : yDa O (xRl O q) = if j + 1 = xPa (O p) then D else D + 1 := by
      unfold yDa
      rw [c1, if_neg (by omega), Nat.add_sub_cancel, c2, c3]
    have hs : ySa (xRl O q) = xPt (xRl O q).2.2.1 D (j + 1) := by
      unfold ySa
      rw [c1, if_neg (by omega), Nat.add_sub_cancel, c3]
    rw [hs] at b3
    rw [hq] at b2 b3 b4
    have hle : ∀ x, (if j + 1 = xPa (O p) then D else D + 1) < x → D < x := by intro x; split <;> omega
    unfold yIv
    rw [← eD]
    refine ⟨?_, by omega, fun i hi => ?_, fun t h1 h2 => ?_⟩
    · by_cases c : j + 1 = xPa (O p)
      · rw [if_pos c] at b2 ⊢
        exact b2
      · rw [if_neg c] at b2 b3 ⊢
        have := b3 D (by omega)
        rw [xPt_eq, c2] at this
        exact ⟨b2, this.1, this.2⟩
    · have := b3 i (by split <;> omega)
      rw [xPt_ne (by omega), (a3 i hi).1, (a3 i hi).2] at this
      exact this
    · by_cases c : t < q
      · exact a4 t h1 c
      · by_cases c' : t = q
        · rw [c', c1]; omega
        · exact hle _ (b4 t (by omega) h2)
theorem yLd_of {O : Nat → Nat} {n : Nat} : ∀ k p, xVF O n k p → yLd O p (xNx O k p) := by
  intro k
  induction k with
  | zero => intro p h; exact absurd h id
  | succ k ih =>
    intro p h
    have q := yIv_in (Nat.le_refl (xPa (O p))) (fun j hj => ih _ (h.2 j hj)) (xPa (O p)) (Nat.le_refl _)
    obtain ⟨a1, a2, a3, a4⟩ := q
    rw [if_pos rfl] at a1
    exact ⟨a2, a1, a3, a4⟩
/-- above whom the parts of a form stand -/
theorem yCh_of {O : Nat → Nat} {n k p : Nat} (h : xVF O n (k + 1) p) {j : Nat} (hj : j < xPa (O p)) (hn : xIt (xNx O k) j (p + 1) < n) : (xRl O n).2.2.2.1 (xIt (xNx O k) j (p + 1)) = nI p ∧ (xRl O n).2.2.2.2 (xIt (xNx O k) j (p + 1)) = j + 1 := by
  have q := yIv_in (Nat.le_refl (xPa (O p))) (fun j hj => yLd_of k _ (h.2 j hj)) j (by omega)
  obtain ⟨a1, -, -, -⟩ := q
  rw [if_neg (by omega)] at a1
  obtain ⟨c1, c2, c3⟩ := a1
  obtain ⟨d1, d2⟩ := yRl_keep n hn
  rw [d1, d2]
  unfold yUp yPn
  rw [c1, if_neg (by omega), if_neg (by omega), Nat.add_sub_cancel, c2, c3]
  exact ⟨rfl, rfl⟩
theorem yRok_vf {O : Nat → Nat} {n : Nat} (h0 : (xRl O n).1 = 0) : ∀ r p, p < n → n - p ≤ r → xVF O n r p ∧ xNx O r p ≤ n := by
  intro r
  induction r with
  | zero => intro p h1 h2; omega
  | succ k ih =>
    intro p hp hr
    have key : ∀ J, J ≤ xPa (O p) → (∀ i, i < J → xVF O n k (xIt (xNx O k) i (p + 1))) ∧ p < xIt (xNx O k) J (p + 1) ∧ xIt (xNx O k) J (p + 1) ≤ n := by
      intro J
      induction J with
      | zero => intro _; exact ⟨fun i hi => absurd hi (by omega), by show p < p + 1; omega, hp⟩
      | succ J iJ =>
        intro hJ
        obtain ⟨a1, a2, a3⟩ := iJ (by omega)
        have q := yIv_in (k := k) (p := p) (J := J) (by omega) (fun j hj => yLd_of k _ (a1 j hj)) J (Nat.le_refl _)
        obtain ⟨b1, b2, -, -⟩ := q
        rw [if_neg (by omega)] at b1
        have hne : xIt (xNx O k) J (p + 1) ≠ n := by
          intro e
          rw [e, h0] at b1
          omega
        obtain ⟨c1, c2⟩ := ih (xIt (xNx O k) J (p + 1)) (by omega) (by omega)
        refine ⟨fun i hi => ?_, ?_, c2⟩
        · by_cases e : i = J
          · rw [e]; exact c1
          · exact a1 i (by omega)
        · have := xNx_gt O k (xIt (xNx O k) J (p + 1))
          show p < xNx O k (xIt (xNx O k) J (p + 1))
          omega
    obtain ⟨a1, a2, a3⟩ := key (xPa (O p)) (Nat.le_refl _)
    exact ⟨⟨hp, a1⟩, a3⟩
/-- the draft is one form, says the model; so says the class -/
theorem yRok_iff {O : Nat → Nat} {n : Nat} (hn : n ≤ 41) : xRok O n ↔ (xVF O n 41 0 ∧ xNx O 41 0 = n) := by
  constructor
  · rintro ⟨h1, h2, h3⟩
    obtain ⟨a, b⟩ := yRok_vf h2 41 0 h1 (by omega)
    refine ⟨a, ?_⟩
    obtain ⟨c1, c2, -, -⟩ := yLd_of 41 0 a
    have e : yDa O (xRl O 0) = 0 := rfl
    rw [e] at c2
    by_cases q : xNx O 41 0 = n
    · exact q
    · exact absurd c2 (h3 _ (by omega) c1)
  · rintro ⟨h1, h2⟩
    obtain ⟨c1, c2, -, c4⟩ := yLd_of 41 0 h1
    have e : yDa O (xRl O 0) = 0 := rfl
    rw [h2] at c1 c2 c4
    rw [e] at c2 c4
    exact ⟨c1, c2, fun k hk hk0 => by have := c4 k hk0 hk; omega⟩

