/-! where the ways from the units of a form lead -/
theorem ySu_n {O : Nat → Nat} {F S : Nat → Int32} {k y : Nat} (h15 : ¬ O k = 15) (h14 : ¬ O k = 14) (h : xSu O F S k y) : y = k + 1 := by
  rcases h with ⟨-, ⟨h, -⟩ | ⟨-, h⟩⟩ | ⟨h, -⟩
  · exact absurd h h15
  · exact h
  · exact absurd h h14
theorem ySu_g {O : Nat → Nat} {F S : Nat → Int32} {k y q : Nat} (h15 : O k = 15) (hF : F k = nI q) (hq : q < 2000) (h : xSu O F S k y) : y = q := by
  rcases h with ⟨-, ⟨-, h1, h2⟩ | ⟨h, -⟩⟩ | ⟨h, -⟩
  · rw [hF] at h2
    exact ((nI_eq (by omega) (by omega)).mp h2).symm
  · exact absurd h15 h
  · rw [h15] at h; cases h
theorem ySu_i {O : Nat → Nat} {F S : Nat → Int32} {k y q : Nat} (h14 : O k = 14) (hF : S k = nI q) (hq : q < 2000) (h : xSu O F S k y) : y = k + 1 ∨ y = q := by
  rcases h with ⟨-, ⟨h, -⟩ | ⟨-, h⟩⟩ | ⟨-, h1, h2⟩
  · rw [h14] at h; cases h
  · exact Or.inl h
  · rw [hF] at h2
    exact Or.inr ((nI_eq (by omega) (by omega)).mp h2).symm
def yFo (o : Nat) : Prop := (2 ≤ o ∧ o ≤ 12) ∨ (17 ≤ o ∧ o ≤ 21)
def yOd (U : yU) (B x : Nat) : Prop := U.1 x < 22 ∧ (U.1 x = 1 ∨ U.1 x = 13 → ∃ v, v < 7 ∧ U.2.1 x = nI v) ∧ (U.1 x = 14 → (∃ t, t < 6 ∧ U.2.1 x = nI t) ∧ ∃ q, q < 1000 ∧ U.2.2.1 x = nI q) ∧ (U.1 x = 16 → ∃ a, a < 8 ∧ a < B ∧ U.2.1 x = nI a) ∧ (U.1 x = 15 → ∃ q, q < 1000 ∧ U.2.1 x = nI q)
abbrev ySu (U : yU) (x y : Nat) : Prop := xSu U.1 U.2.1 U.2.2.1 x y
def yN (U : yU) (B x : Nat) : Prop := yOd U B x ∧ (∀ y, ySu U x y → y = x + 1) ∧ ¬ U.1 x = 15
theorem yN_o {U : yU} {B x o : Nat} (h : U.1 x = o) (ho : o < 22) (h1 : ¬ o = 1) (h13 : ¬ o = 13) (h14 : ¬ o = 14) (h15 : ¬ o = 15) (h16 : ¬ o = 16) : yN U B x := by
  subst h
  exact ⟨⟨ho, fun z => absurd z (by omega), fun z => absurd z h14, fun z => absurd z h16, fun z => absurd z h15⟩, fun y hy => ySu_n h15 h14 hy, h15⟩
theorem yN_0 {U : yU} {B x : Nat} {a : Int32} (h : yAt U x 0 a) : yN U B x := yN_o h.1 (by omega) (by omega) (by omega) (by omega) (by omega) (by omega)
theorem yN_f {U : yU} {B x : Nat} (h : yFo (U.1 x)) : yN U B x := by
  unfold yFo at h
  exact yN_o rfl (by omega) (by omega) (by omega) (by omega) (by omega) (by omega)
theorem yN_x {U : yU} {B x o : Nat} (h : yFx U x o) (ho : yFo o) : yN U B x := yN_f (by rw [h.1]; exact ho)
theorem yN_v {U : yU} {B x o v : Nat} (h : yAt U x o (nI v)) (ho : o = 1 ∨ o = 13) (hv : v < 7) : yN U B x := by
  obtain ⟨h1, h2⟩ := h
  refine ⟨⟨by omega, fun _ => ⟨v, hv, h2⟩, fun z => absurd z (by omega), fun z => absurd z (by omega), fun z => absurd z (by omega)⟩, fun y hy => ySu_n (by omega) (by omega) hy, by omega⟩
theorem yN_c {U : yU} {B x v : Nat} (h : yAt U x 16 (nI v)) (hv : v < 8) (hB : v < B) : yN U B x := by
  obtain ⟨h1, h2⟩ := h
  refine ⟨⟨by omega, fun z => absurd z (by omega), fun z => absurd z (by omega), fun _ => ⟨v, hv, hB, h2⟩, fun z => absurd z (by omega)⟩, fun y hy => ySu_n (by omega) (by omega) hy, by omega⟩
theorem yN_i {U : yU} {B x v q : Nat} (h : yAt U x 14 (nI v)) (hv : v < 6) (hS : U.2.2.1 x = nI q) (hq : q < 1000) : yOd U B x ∧ (∀ y, ySu U x y → y = x + 1 ∨ y = q) ∧ ¬ U.1 x = 15 := by
  obtain ⟨h1, h2⟩ := h
  refine ⟨⟨by omega, fun z => absurd z (by omega), fun _ => ⟨⟨v, hv, h2⟩, q, hq, hS⟩, fun z => absurd z (by omega), fun z => absurd z (by omega)⟩, fun y hy => ySu_i h1 hS (by omega) hy, by omega⟩
theorem yN_g {U : yU} {B x q : Nat} (h : yAt U x 15 (nI q)) (hq : q < 1000) : yOd U B x ∧ (∀ y, ySu U x y → y = q) ∧ ∀ k', k' < 1000 → U.2.1 x = nI k' → k' = q := by
  obtain ⟨h1, h2⟩ := h
  refine ⟨⟨by omega, fun z => absurd z (by omega), fun z => absurd z (by omega), fun z => absurd z (by omega), fun _ => ⟨q, hq, h2⟩⟩, fun y hy => ySu_g h1 h2 (by omega) hy, fun k' hk e => ?_⟩
  rw [h2] at e
  exact ((nI_eq (by omega) (by omega)).mp e).symm
def yA (U : yU) (B b z : Nat) : Prop := ∀ x, b ≤ x → x < b + z → yOd U B x ∧ ∀ y, ySu U x y → b ≤ y ∧ y ≤ b + z
def yLp (U : yU) (N b z : Nat) : Prop := (∀ x y, x < N → ySu U x y → b < y → y < b + z → b ≤ x ∧ x < b + z) → ∀ k k', b ≤ k → k < b + z → U.1 k = 15 → k' < 1000 → U.2.1 k = nI k' → k' ≤ k → ∀ x y, x < N → ySu U x y → k' < y → y ≤ k → k' ≤ x ∧ x ≤ k
def yEd (U : yU) (β : Nat → Nat) (x : Nat) : Prop := ∀ y, ySu U x y → ¬ (U.1 x = 15 ∧ y ≤ x) → β x + xLe (U.1 x) ≤ β y + xTa (U.1 x)
def yBt (U : yU) (b z t : Nat) : Prop := ∀ H, ∃ β : Nat → Nat, β b = H ∧ β (b + z) = H + t ∧ (∀ x, b ≤ x → x < b + z → β x ≤ H + t + 1) ∧ ∀ x, b ≤ x → x < b + z → yEd U β x
theorem yFo_le {o : Nat} (h : yFo o) : xLe o ≤ xTa o + 1 := by
  have : ∀ o, o < 22 → xLe o ≤ xTa o + 1 := by decide +kernel
  unfold yFo at h
  exact this o (by omega)
def yAL (U : yU) (B N b z t : Nat) : Prop := b + z ≤ 265 → yA U B b z ∧ yLp U N b z ∧ yBt U b z t
theorem yAL_of {P : Nat → Nat → Prop} {U : yU} {O : Nat → Nat} {A : Nat → Int32} {n B N : Nat} (hT : xTok O A n) (hB : ∀ p, p < n → O p = 17 → ∀ v, v < 8 → A p = nI v → v < B) (hP : ∀ i o, (2 ≤ o ∧ o ≤ 12) ∨ o = 19 → P i o → yFo (U.1 i)) : ∀ k p b, xVF O n k p → yLay P U O A k p b → yAL U B N b (xSz O k p) (xNx O k p - p) := by
  intro k p b hv hL
  refine yInd hT hB (fun b z t _ => yAL U B N b z t) ?_ ?_ ?_ ?_ ?_ ?_ ?_ ?_ ?_ k p b hv hL
  · intro b a r0 hb
    have N0 : yN U B b := yN_0 r0
    refine ⟨fun x h1 h2 => ?_, fun _ k k' h1 h2 h15 => ?_, fun H => ⟨fun x => if x = b then H else H + 1, if_pos rfl, if_neg (by omega), fun x h1 h2 => ?_, fun x h1 h2 y hy _ => ?_⟩⟩
    · obtain rfl : x = b := by omega
      refine ⟨N0.1, fun y hy => ?_⟩
      have := N0.2.1 y hy
      omega
    · obtain rfl : k = b := by omega
      exact absurd h15 N0.2.2
    · obtain rfl : x = b := by omega
      show (if x = x then H else H + 1) ≤ _
      rw [if_pos rfl]; omega
    · obtain rfl : x = b := by omega
      have e := N0.2.1 y hy
      show (if x = x then H else H + 1) + _ ≤ (if y = x then H else H + 1) + _
      rw [if_pos rfl, if_neg (by omega), r0.1]
      exact Nat.le_refl _
  · intro b v hv r0 hb
    have N0 : yN U B b := yN_v r0 (Or.inl rfl) hv
    refine ⟨fun x h1 h2 => ?_, fun _ k k' h1 h2 h15 => ?_, fun H => ⟨fun x => if x = b then H else H + 1, if_pos rfl, if_neg (by omega), fun x h1 h2 => ?_, fun x h1 h2 y hy _ => ?_⟩⟩
    · obtain rfl : x = b := by omega
      refine ⟨N0.1, fun y hy => ?_⟩
      have := N0.2.1 y hy
      omega
    · obtain rfl : k = b := by omega
      exact absurd h15 N0.2.2
    · obtain rfl : x = b := by omega
      show (if x = x then H else H + 1) ≤ _
      rw [if_pos rfl]; omega
    · obtain rfl : x = b := by omega
      have e := N0.2.1 y hy
      show (if x = x then H else H + 1) + _ ≤ (if y = x then H else H + 1) + _
      rw [if_pos rfl, if_neg (by omega), r0.1]
      exact Nat.le_refl _
  · intro b z0 t0 m0 a0 b0 c0 r0 hb
    obtain ⟨A0, L0, B0⟩ := c0 (by omega)
    have N0 : yN U B (b + z0) := yN_f (hP _ _ (Or.inl (by omega)) r0)
    have sp : ∀ x, b ≤ x → x < b + (z0 + 1) → (b ≤ x ∧ x < b + z0) ∨ x = b + z0 := by intro x h1 h2; omega
    have sg : ∀ x y, b ≤ x → x < b + (z0 + 1) → ySu U x y → (b ≤ x ∧ x < b + z0 ∧ b ≤ y ∧ y ≤ b + z0) ∨ (x = b + z0 ∧ y = x + 1) := by
      intro x y h1 h2 hy
      rcases sp x h1 h2 with ⟨g1, g2⟩ | rfl
      · have q := (A0 x g1 g2).2 y hy
        exact Or.inl (⟨g1, g2, q.1, q.2⟩)
      · have q := N0.2.1 y hy
        exact Or.inr (⟨rfl, q⟩)
    refine ⟨fun x h1 h2 => ⟨?_, fun y hy => ?_⟩, fun Ho k k' h1 h2 h15 hk1 hk2 hk3 => ?_, ?_⟩
    · rcases sp x h1 h2 with ⟨g1, g2⟩ | rfl
      · exact (A0 x g1 g2).1
      · exact N0.1
    · have q := sg x y h1 h2 hy
      omega
    · rcases sp k h1 h2 with ⟨g1, g2⟩ | rfl
      · refine L0 (fun x y hx hy y1 y2 => ?_) k k' g1 g2 h15 hk1 hk2 hk3
        have q1 := Ho x y hx hy (by omega) (by omega)
        have q2 := sg x y q1.1 q1.2 hy
        omega
      · exact absurd h15 N0.2.2
    · intro H
      obtain ⟨β0, s0, e0, k0, d0⟩ := B0 (H)
      obtain ⟨γ, eγ⟩ : ∃ γ : Nat → Nat, ∀ x, γ x = (if x < b + z0 then β0 x else if x = b + z0 then H + t0 else H + (t0 + 1)) := ⟨fun x => if x < b + z0 then β0 x else if x = b + z0 then H + t0 else H + (t0 + 1), fun _ => rfl⟩
      have gE : γ (b + (z0 + 1)) = H + (t0 + 1) := by rw [eγ, if_neg (by omega), if_neg (by omega)]
      have g1 : γ (b + z0) = H + t0 := by rw [eγ, if_neg (by omega), if_pos (by omega)]
      have g0 : ∀ x, b ≤ x → x < b + z0 → γ x = β0 x := by intro x h1 h2; rw [eγ, if_pos (by omega)]
      have ev0 : γ (b + z0) = β0 (b + z0) := by
        have q := e0
        rw [g1]
        omega
      have j0 : ∀ x, b ≤ x → x ≤ b + z0 → γ x = β0 x := by
        intro x h1 h2
        by_cases q : x = b + z0
        · rw [q]; exact ev0
        · exact g0 x h1 (by omega)
      refine ⟨γ, by rw [g0 b (by omega) (by omega)]; exact s0, gE, fun x h1 h2 => ?_, fun x h1 h2 y hy hb2 => ?_⟩
      · rcases sp x h1 h2 with ⟨f1, f2⟩ | rfl
        · have q := k0 x f1 f2
          rw [g0 x f1 f2]; omega
        · rw [g1]; omega
      · rcases sp x h1 h2 with ⟨f1, f2⟩ | rfl
        · have q := (A0 x f1 f2).2 y hy
          rw [j0 x f1 (by omega), j0 y q.1 q.2]
          exact d0 x f1 f2 y hy hb2
        · have q := N0.2.1 y hy
          have fl := yFo_le (hP _ _ (Or.inl (by omega)) r0)
          rw [show y = b + (z0 + 1) by omega, g1, gE]; omega
  · intro b v z0 t0 z1 t1 z2 t2 m0 m1 m2 hv a0 b0 a1 b1 a2 b2 c0 r0 r1 c1 r2 c2 hb
    obtain ⟨A0, L0, B0⟩ := c0 (by omega)
    obtain ⟨A1, L1, B1⟩ := c1 (by omega)
    obtain ⟨A2, L2, B2⟩ := c2 (by omega)
    have N0 := yN_i (B := B) r0 hv r1 (by omega)
    have N1 := yN_g (B := B) r2 (by omega)
    have sp : ∀ x, b ≤ x → x < b + (z0 + z1 + z2 + 2) → (b ≤ x ∧ x < b + z0) ∨ x = b + z0 ∨ (b + z0 + 1 ≤ x ∧ x < b + z0 + 1 + z1) ∨ x = b + z0 + 1 + z1 ∨ (b + z0 + 1 + z1 + 1 ≤ x ∧ x < b + z0 + 1 + z1 + 1 + z2) := by intro x h1 h2; omega
    have sg : ∀ x y, b ≤ x → x < b + (z0 + z1 + z2 + 2) → ySu U x y → (b ≤ x ∧ x < b + z0 ∧ b ≤ y ∧ y ≤ b + z0) ∨ (x = b + z0 ∧ (y = x + 1 ∨ y = b + z0 + 1 + z1 + 1)) ∨ (b + z0 + 1 ≤ x ∧ x < b + z0 + 1 + z1 ∧ b + z0 + 1 ≤ y ∧ y ≤ b + z0 + 1 + z1) ∨ (x = b + z0 + 1 + z1 ∧ y = b + z0 + 1 + z1 + 1 + z2) ∨ (b + z0 + 1 + z1 + 1 ≤ x ∧ x < b + z0 + 1 + z1 + 1 + z2 ∧ b + z0 + 1 + z1 + 1 ≤ y ∧ y ≤ b + z0 + 1 + z1 + 1 + z2) := by
      intro x y h1 h2 hy
      rcases sp x h1 h2 with ⟨g1, g2⟩ | rfl | ⟨g1, g2⟩ | rfl | ⟨g1, g2⟩
      · have q := (A0 x g1 g2).2 y hy
        exact Or.inl (⟨g1, g2, q.1, q.2⟩)
      · have q := N0.2.1 y hy
        exact Or.inr (Or.inl (⟨rfl, q⟩))
      · have q := (A1 x g1 g2).2 y hy
        exact Or.inr (Or.inr (Or.inl (⟨g1, g2, q.1, q.2⟩)))
      · have q := N1.2.1 y hy
        exact Or.inr (Or.inr (Or.inr (Or.inl (⟨rfl, q⟩))))
      · have q := (A2 x g1 g2).2 y hy
        exact Or.inr (Or.inr (Or.inr (Or.inr (⟨g1, g2, q.1, q.2⟩))))
    refine ⟨fun x h1 h2 => ⟨?_, fun y hy => ?_⟩, fun Ho k k' h1 h2 h15 hk1 hk2 hk3 => ?_, ?_⟩
    · rcases sp x h1 h2 with ⟨g1, g2⟩ | rfl | ⟨g1, g2⟩ | rfl | ⟨g1, g2⟩
      · exact (A0 x g1 g2).1
      · exact N0.1
      · exact (A1 x g1 g2).1
      · exact N1.1
      · exact (A2 x g1 g2).1
    · have q := sg x y h1 h2 hy
      omega
    · rcases sp k h1 h2 with ⟨g1, g2⟩ | rfl | ⟨g1, g2⟩ | rfl | ⟨g1, g2⟩
      · refine L0 (fun x y hx hy y1 y2 => ?_) k k' g1 g2 h15 hk1 hk2 hk3
        have q1 := Ho x y hx hy (by omega) (by omega)
        have q2 := sg x y q1.1 q1.2 hy
        omega
      · exact absurd h15 N0.2.2
      · refine L1 (fun x y hx hy y1 y2 => ?_) k k' g1 g2 h15 hk1 hk2 hk3
        have q1 := Ho x y hx hy (by omega) (by omega)
        have q2 := sg x y q1.1 q1.2 hy
        omega
      · have e := N1.2.2 k' hk1 hk2
        omega
      · refine L2 (fun x y hx hy y1 y2 => ?_) k k' g1 g2 h15 hk1 hk2 hk3
        have q1 := Ho x y hx hy (by omega) (by omega)
        have q2 := sg x y q1.1 q1.2 hy
        omega
    · intro H
      obtain ⟨β0, s0, e0, k0, d0⟩ := B0 (H)
      obtain ⟨β1, s1, e1, k1, d1⟩ := B1 (H + t0)
      obtain ⟨β2, s2, e2, k2, d2⟩ := B2 (H + t0 + t1 + 1)
      obtain ⟨γ, eγ⟩ : ∃ γ : Nat → Nat, ∀ x, γ x = (if x < b + z0 then β0 x else if x = b + z0 then H + t0 else if x < b + z0 + 1 + z1 then β1 x else if x = b + z0 + 1 + z1 then H + t0 + t1 else if x < b + z0 + 1 + z1 + 1 + z2 then β2 x else H + (t0 + t1 + t2 + 1)) := ⟨fun x => if x < b + z0 then β0 x else if x = b + z0 then H + t0 else if x < b + z0 + 1 + z1 then β1 x else if x = b + z0 + 1 + z1 then H + t0 + t1 else if x < b + z0 + 1 + z1 + 1 + z2 then β2 x else H + (t0 + t1 + t2 + 1), fun _ => rfl⟩
      have gE : γ (b + (z0 + z1 + z2 + 2)) = H + (t0 + t1 + t2 + 1) := by rw [eγ, if_neg (by omega), if_neg (by omega), if_neg (by omega), if_neg (by omega), if_neg (by omega)]
      have g4 : ∀ x, b + z0 + 1 + z1 + 1 ≤ x → x < b + z0 + 1 + z1 + 1 + z2 → γ x = β2 x := by intro x h1 h2; rw [eγ, if_neg (by omega), if_neg (by omega), if_neg (by omega), if_neg (by omega), if_pos (by omega)]
      have ev4 : γ (b + z0 + 1 + z1 + 1 + z2) = β2 (b + z0 + 1 + z1 + 1 + z2) := by
        have q := e2
        rw [show b + z0 + 1 + z1 + 1 + z2 = b + (z0 + z1 + z2 + 2) by omega] at q ⊢
        omega
      have j4 : ∀ x, b + z0 + 1 + z1 + 1 ≤ x → x ≤ b + z0 + 1 + z1 + 1 + z2 → γ x = β2 x := by
        intro x h1 h2
        by_cases q : x = b + z0 + 1 + z1 + 1 + z2
        · rw [q]; exact ev4
        · exact g4 x h1 (by omega)
      have g3 : γ (b + z0 + 1 + z1) = H + t0 + t1 := by rw [eγ, if_neg (by omega), if_neg (by omega), if_neg (by omega), if_pos (by omega)]
      have g2 : ∀ x, b + z0 + 1 ≤ x → x < b + z0 + 1 + z1 → γ x = β1 x := by intro x h1 h2; rw [eγ, if_neg (by omega), if_neg (by omega), if_pos (by omega)]
      have ev2 : γ (b + z0 + 1 + z1) = β1 (b + z0 + 1 + z1) := by
        have q := e1
        rw [g3]
        omega
      have j2 : ∀ x, b + z0 + 1 ≤ x → x ≤ b + z0 + 1 + z1 → γ x = β1 x := by
        intro x h1 h2
        by_cases q : x = b + z0 + 1 + z1
        · rw [q]; exact ev2
        · exact g2 x h1 (by omega)
      have g1 : γ (b + z0) = H + t0 := by rw [eγ, if_neg (by omega), if_pos (by omega)]
      have g0 : ∀ x, b ≤ x → x < b + z0 → γ x = β0 x := by intro x h1 h2; rw [eγ, if_pos (by omega)]
      have ev0 : γ (b + z0) = β0 (b + z0) := by
        have q := e0
        rw [g1]
        omega
      have j0 : ∀ x, b ≤ x → x ≤ b + z0 → γ x = β0 x := by
        intro x h1 h2
        by_cases q : x = b + z0
        · rw [q]; exact ev0
        · exact g0 x h1 (by omega)
      refine ⟨γ, by rw [g0 b (by omega) (by omega)]; exact s0, gE, fun x h1 h2 => ?_, fun x h1 h2 y hy hb2 => ?_⟩
      · rcases sp x h1 h2 with ⟨f1, f2⟩ | rfl | ⟨f1, f2⟩ | rfl | ⟨f1, f2⟩
        · have q := k0 x f1 f2
          rw [g0 x f1 f2]; omega
        · rw [g1]; omega
        · have q := k1 x f1 f2
          rw [g2 x f1 f2]; omega
        · rw [g3]; omega
        · have q := k2 x f1 f2
          rw [g4 x f1 f2]; omega
      · rcases sp x h1 h2 with ⟨f1, f2⟩ | rfl | ⟨f1, f2⟩ | rfl | ⟨f1, f2⟩
        · have q := (A0 x f1 f2).2 y hy
          rw [j0 x f1 (by omega), j0 y q.1 q.2]
          exact d0 x f1 f2 y hy hb2
        · have q := N0.2.1 y hy
          have lt : xLe 14 = 0 ∧ xTa 14 = 1 := ⟨rfl, rfl⟩
          rcases q with q | q
          · rw [show y = b + z0 + 1 by omega, g1, (show γ (b + z0 + 1) = H + t0 from (by rw [g2 _ (by omega) (by omega)]; exact s1)), r0.1]; omega
          · rw [q, g1, (show γ (b + z0 + 1 + z1 + 1) = H + t0 + t1 + 1 from (by rw [g4 _ (by omega) (by omega)]; exact s2)), r0.1]; omega
        · have q := (A1 x f1 f2).2 y hy
          rw [j2 x f1 (by omega), j2 y q.1 q.2]
          exact d1 x f1 f2 y hy hb2
        · have q := N1.2.1 y hy
          have lt : xLe 15 = 0 ∧ xTa 15 = 0 := ⟨rfl, rfl⟩
          rw [show y = b + (z0 + z1 + z2 + 2) by omega, g3, gE, r2.1]; omega
        · have q := (A2 x f1 f2).2 y hy
          rw [j4 x f1 (by omega), j4 y q.1 q.2]
          exact d2 x f1 f2 y hy hb2
  · intro b v z0 t0 z1 t1 m0 m1 hv a0 b0 a1 b1 c0 r0 c1 hb
    obtain ⟨A0, L0, B0⟩ := c0 (by omega)
    obtain ⟨A1, L1, B1⟩ := c1 (by omega)
    have N0 : yN U B (b + z0) := yN_v r0 (Or.inr rfl) hv
    have sp : ∀ x, b ≤ x → x < b + (z0 + z1 + 1) → (b ≤ x ∧ x < b + z0) ∨ x = b + z0 ∨ (b + z0 + 1 ≤ x ∧ x < b + z0 + 1 + z1) := by intro x h1 h2; omega
    have sg : ∀ x y, b ≤ x → x < b + (z0 + z1 + 1) → ySu U x y → (b ≤ x ∧ x < b + z0 ∧ b ≤ y ∧ y ≤ b + z0) ∨ (x = b + z0 ∧ y = x + 1) ∨ (b + z0 + 1 ≤ x ∧ x < b + z0 + 1 + z1 ∧ b + z0 + 1 ≤ y ∧ y ≤ b + z0 + 1 + z1) := by
      intro x y h1 h2 hy
      rcases sp x h1 h2 with ⟨g1, g2⟩ | rfl | ⟨g1, g2⟩
      · have q := (A0 x g1 g2).2 y hy
        exact Or.inl (⟨g1, g2, q.1, q.2⟩)
      · have q := N0.2.1 y hy
        exact Or.inr (Or.inl (⟨rfl, q⟩))
      · have q := (A1 x g1 g2).2 y hy
        exact Or.inr (Or.inr (⟨g1, g2, q.1, q.2⟩))
    refine ⟨fun x h1 h2 => ⟨?_, fun y hy => ?_⟩, fun Ho k k' h1 h2 h15 hk1 hk2 hk3 => ?_, ?_⟩
    · rcases sp x h1 h2 with ⟨g1, g2⟩ | rfl | ⟨g1, g2⟩
      · exact (A0 x g1 g2).1
      · exact N0.1
      · exact (A1 x g1 g2).1
    · have q := sg x y h1 h2 hy
      omega
    · rcases sp k h1 h2 with ⟨g1, g2⟩ | rfl | ⟨g1, g2⟩
      · refine L0 (fun x y hx hy y1 y2 => ?_) k k' g1 g2 h15 hk1 hk2 hk3
        have q1 := Ho x y hx hy (by omega) (by omega)
        have q2 := sg x y q1.1 q1.2 hy
        omega
      · exact absurd h15 N0.2.2
      · refine L1 (fun x y hx hy y1 y2 => ?_) k k' g1 g2 h15 hk1 hk2 hk3
        have q1 := Ho x y hx hy (by omega) (by omega)
        have q2 := sg x y q1.1 q1.2 hy
        omega
    · intro H
      obtain ⟨β0, s0, e0, k0, d0⟩ := B0 (H)
      obtain ⟨β1, s1, e1, k1, d1⟩ := B1 (H + t0 + 1)
      obtain ⟨γ, eγ⟩ : ∃ γ : Nat → Nat, ∀ x, γ x = (if x < b + z0 then β0 x else if x = b + z0 then H + t0 else if x < b + z0 + 1 + z1 then β1 x else H + (t0 + t1 + 1)) := ⟨fun x => if x < b + z0 then β0 x else if x = b + z0 then H + t0 else if x < b + z0 + 1 + z1 then β1 x else H + (t0 + t1 + 1), fun _ => rfl⟩
      have gE : γ (b + (z0 + z1 + 1)) = H + (t0 + t1 + 1) := by rw [eγ, if_neg (by omega), if_neg (by omega), if_neg (by omega)]
      have g2 : ∀ x, b + z0 + 1 ≤ x → x < b + z0 + 1 + z1 → γ x = β1 x := by intro x h1 h2; rw [eγ, if_neg (by omega), if_neg (by omega), if_pos (by omega)]
      have ev2 : γ (b + z0 + 1 + z1) = β1 (b + z0 + 1 + z1) := by
        have q := e1
        rw [show b + z0 + 1 + z1 = b + (z0 + z1 + 1) by omega] at q ⊢
        omega
      have j2 : ∀ x, b + z0 + 1 ≤ x → x ≤ b + z0 + 1 + z1 → γ x = β1 x := by
        intro x h1 h2
        by_cases q : x = b + z0 + 1 + z1
        · rw [q]; exact ev2
        · exact g2 x h1 (by omega)
      have g1 : γ (b + z0) = H + t0 := by rw [eγ, if_neg (by omega), if_pos (by omega)]
      have g0 : ∀ x, b ≤ x → x < b + z0 → γ x = β0 x := by intro x h1 h2; rw [eγ, if_pos (by omega)]
      have ev0 : γ (b + z0) = β0 (b + z0) := by
        have q := e0
        rw [g1]
        omega
      have j0 : ∀ x, b ≤ x → x ≤ b + z0 → γ x = β0 x := by
        intro x h1 h2
        by_cases q : x = b + z0
        · rw [q]; exact ev0
        · exact g0 x h1 (by omega)
      refine ⟨γ, by rw [g0 b (by omega) (by omega)]; exact s0, gE, fun x h1 h2 => ?_, fun x h1 h2 y hy hb2 => ?_⟩
      · rcases sp x h1 h2 with ⟨f1, f2⟩ | rfl | ⟨f1, f2⟩
        · have q := k0 x f1 f2
          rw [g0 x f1 f2]; omega
        · rw [g1]; omega
        · have q := k1 x f1 f2
          rw [g2 x f1 f2]; omega
      · rcases sp x h1 h2 with ⟨f1, f2⟩ | rfl | ⟨f1, f2⟩
        · have q := (A0 x f1 f2).2 y hy
          rw [j0 x f1 (by omega), j0 y q.1 q.2]
          exact d0 x f1 f2 y hy hb2
        · have q := N0.2.1 y hy
          have lt : xLe 13 = 0 ∧ xTa 13 = 1 := ⟨rfl, rfl⟩
          rw [show y = b + z0 + 1 by omega, g1, (show γ (b + z0 + 1) = H + t0 + 1 from (by rw [g2 _ (by omega) (by omega)]; exact s1)), r0.1]; omega
        · have q := (A1 x f1 f2).2 y hy
          rw [j2 x f1 (by omega), j2 y q.1 q.2]
          exact d1 x f1 f2 y hy hb2
  · intro b v z0 t0 m0 hv a0 b0 c0 r0 r1 hb
    obtain ⟨A0, L0, B0⟩ := c0 (by omega)
    have N0 : yN U B (b + z0) := yN_f (hP _ _ (Or.inr rfl) r0)
    have N1 : yN U B (b + z0 + 1) := yN_v r1 (Or.inr rfl) hv
    have sp : ∀ x, b ≤ x → x < b + (z0 + 2) → (b ≤ x ∧ x < b + z0) ∨ x = b + z0 ∨ x = b + z0 + 1 := by intro x h1 h2; omega
    have sg : ∀ x y, b ≤ x → x < b + (z0 + 2) → ySu U x y → (b ≤ x ∧ x < b + z0 ∧ b ≤ y ∧ y ≤ b + z0) ∨ (x = b + z0 ∧ y = x + 1) ∨ (x = b + z0 + 1 ∧ y = x + 1) := by
      intro x y h1 h2 hy
      rcases sp x h1 h2 with ⟨g1, g2⟩ | rfl | rfl
      · have q := (A0 x g1 g2).2 y hy
        exact Or.inl (⟨g1, g2, q.1, q.2⟩)
      · have q := N0.2.1 y hy
        exact Or.inr (Or.inl (⟨rfl, q⟩))
      · have q := N1.2.1 y hy
        exact Or.inr (Or.inr (⟨rfl, q⟩))
    refine ⟨fun x h1 h2 => ⟨?_, fun y hy => ?_⟩, fun Ho k k' h1 h2 h15 hk1 hk2 hk3 => ?_, ?_⟩
    · rcases sp x h1 h2 with ⟨g1, g2⟩ | rfl | rfl
      · exact (A0 x g1 g2).1
      · exact N0.1
      · exact N1.1
    · have q := sg x y h1 h2 hy
      omega
    · rcases sp k h1 h2 with ⟨g1, g2⟩ | rfl | rfl
      · refine L0 (fun x y hx hy y1 y2 => ?_) k k' g1 g2 h15 hk1 hk2 hk3
        have q1 := Ho x y hx hy (by omega) (by omega)
        have q2 := sg x y q1.1 q1.2 hy
        omega
      · exact absurd h15 N0.2.2
      · exact absurd h15 N1.2.2
    · intro H
      obtain ⟨β0, s0, e0, k0, d0⟩ := B0 (H)
      obtain ⟨γ, eγ⟩ : ∃ γ : Nat → Nat, ∀ x, γ x = (if x < b + z0 then β0 x else if x = b + z0 then H + t0 else if x = b + z0 + 1 then H + t0 + 1 else H + (t0 + 1)) := ⟨fun x => if x < b + z0 then β0 x else if x = b + z0 then H + t0 else if x = b + z0 + 1 then H + t0 + 1 else H + (t0 + 1), fun _ => rfl⟩
      have gE : γ (b + (z0 + 2)) = H + (t0 + 1) := by rw [eγ, if_neg (by omega), if_neg (by omega), if_neg (by omega)]
      have g2 : γ (b + z0 + 1) = H + t0 + 1 := by rw [eγ, if_neg (by omega), if_neg (by omega), if_pos (by omega)]
      have g1 : γ (b + z0) = H + t0 := by rw [eγ, if_neg (by omega), if_pos (by omega)]
      have g0 : ∀ x, b ≤ x → x < b + z0 → γ x = β0 x := by intro x h1 h2; rw [eγ, if_pos (by omega)]
      have ev0 : γ (b + z0) = β0 (b + z0) := by
        have q := e0
        rw [g1]
        omega
      have j0 : ∀ x, b ≤ x → x ≤ b + z0 → γ x = β0 x := by
        intro x h1 h2
        by_cases q : x = b + z0
        · rw [q]; exact ev0
        · exact g0 x h1 (by omega)
      refine ⟨γ, by rw [g0 b (by omega) (by omega)]; exact s0, gE, fun x h1 h2 => ?_, fun x h1 h2 y hy hb2 => ?_⟩
      · rcases sp x h1 h2 with ⟨f1, f2⟩ | rfl | rfl
        · have q := k0 x f1 f2
          rw [g0 x f1 f2]; omega
        · rw [g1]; omega
        · rw [g2]; omega
      · rcases sp x h1 h2 with ⟨f1, f2⟩ | rfl | rfl
        · have q := (A0 x f1 f2).2 y hy
          rw [j0 x f1 (by omega), j0 y q.1 q.2]
          exact d0 x f1 f2 y hy hb2
        · have q := N0.2.1 y hy
          have fl := yFo_le (hP _ _ (Or.inr rfl) r0)
          rw [show y = b + z0 + 1 by omega, g1, g2]; omega
        · have q := N1.2.1 y hy
          have lt : xLe 13 = 0 ∧ xTa 13 = 1 := ⟨rfl, rfl⟩
          rw [show y = b + (z0 + 2) by omega, g2, gE, r1.1]; omega
  · intro b v z0 t0 z1 t1 m0 m1 hv a0 b0 a1 b1 c0 c1 ⟨_, u0, u1, u2, u3, u4, _, v0, v1, v2, v3, v4, v5, v6⟩ hb
    obtain ⟨A0, L0, B0⟩ := c0 (by omega)
    obtain ⟨A1, L1, B1⟩ := c1 (by omega)
    have N0 : yN U B (b + z0) := yN_0 u0
    have N1 : yN U B (b + z0 + 1) := yN_x u1 (Or.inl (by omega))
    have N2 : yN U B (b + z0 + 2) := yN_v u2 (Or.inr rfl) hv
    have N3 : yN U B (b + z0 + 3) := yN_v u3 (Or.inl rfl) hv
    have N4 := yN_i (B := B) (v := 1) u4.1 (by omega) u4.2 (by omega)
    have N5 : yN U B (b + z0 + 5 + z1) := yN_x v0 (Or.inr (by omega))
    have N6 : yN U B (b + z0 + 5 + z1 + 1) := yN_v v1 (Or.inl rfl) hv
    have N7 : yN U B (b + z0 + 5 + z1 + 2) := yN_0 v2
    have N8 : yN U B (b + z0 + 5 + z1 + 3) := yN_x v3 (Or.inl (by omega))
    have N9 : yN U B (b + z0 + 5 + z1 + 4) := yN_v v4 (Or.inr rfl) hv
    have N10 := yN_g (B := B) v5 (by omega)
    have N11 : yN U B (b + z0 + 5 + z1 + 6) := yN_0 v6
    have sp : ∀ x, b ≤ x → x < b + (z0 + z1 + 12) → (b ≤ x ∧ x < b + z0) ∨ x = b + z0 ∨ x = b + z0 + 1 ∨ x = b + z0 + 2 ∨ x = b + z0 + 3 ∨ x = b + z0 + 4 ∨ (b + z0 + 5 ≤ x ∧ x < b + z0 + 5 + z1) ∨ x = b + z0 + 5 + z1 ∨ x = b + z0 + 5 + z1 + 1 ∨ x = b + z0 + 5 + z1 + 2 ∨ x = b + z0 + 5 + z1 + 3 ∨ x = b + z0 + 5 + z1 + 4 ∨ x = b + z0 + 5 + z1 + 5 ∨ x = b + z0 + 5 + z1 + 6 := by intro x h1 h2; omega
    have sg : ∀ x y, b ≤ x → x < b + (z0 + z1 + 12) → ySu U x y → (b ≤ x ∧ x < b + z0 ∧ b ≤ y ∧ y ≤ b + z0) ∨ (x = b + z0 ∧ y = x + 1) ∨ (x = b + z0 + 1 ∧ y = x + 1) ∨ (x = b + z0 + 2 ∧ y = x + 1) ∨ (x = b + z0 + 3 ∧ y = x + 1) ∨ (x = b + z0 + 4 ∧ (y = x + 1 ∨ y = b + z0 + 5 + z1 + 6)) ∨ (b + z0 + 5 ≤ x ∧ x < b + z0 + 5 + z1 ∧ b + z0 + 5 ≤ y ∧ y ≤ b + z0 + 5 + z1) ∨ (x = b + z0 + 5 + z1 ∧ y = x + 1) ∨ (x = b + z0 + 5 + z1 + 1 ∧ y = x + 1) ∨ (x = b + z0 + 5 + z1 + 2 ∧ y = x + 1) ∨ (x = b + z0 + 5 + z1 + 3 ∧ y = x + 1) ∨ (x = b + z0 + 5 + z1 + 4 ∧ y = x + 1) ∨ (x = b + z0 + 5 + z1 + 5 ∧ y = b + z0 + 3) ∨ (x = b + z0 + 5 + z1 + 6 ∧ y = x + 1) := by
      intro x y h1 h2 hy
      rcases sp x h1 h2 with ⟨g1, g2⟩ | rfl | rfl | rfl | rfl | rfl | ⟨g1, g2⟩ | rfl | rfl | rfl | rfl | rfl | rfl | rfl
      · have q := (A0 x g1 g2).2 y hy
        exact Or.inl (⟨g1, g2, q.1, q.2⟩)
      · have q := N0.2.1 y hy
        exact Or.inr (Or.inl (⟨rfl, q⟩))
      · have q := N1.2.1 y hy
        exact Or.inr (Or.inr (Or.inl (⟨rfl, q⟩)))
      · have q := N2.2.1 y hy
        exact Or.inr (Or.inr (Or.inr (Or.inl (⟨rfl, q⟩))))
      · have q := N3.2.1 y hy
        exact Or.inr (Or.inr (Or.inr (Or.inr (Or.inl (⟨rfl, q⟩)))))
      · have q := N4.2.1 y hy
        exact Or.inr (Or.inr (Or.inr (Or.inr (Or.inr (Or.inl (⟨rfl, q⟩))))))
      · have q := (A1 x g1 g2).2 y hy
        exact Or.inr (Or.inr (Or.inr (Or.inr (Or.inr (Or.inr (Or.inl (⟨g1, g2, q.1, q.2⟩)))))))
      · have q := N5.2.1 y hy
        exact Or.inr (Or.inr (Or.inr (Or.inr (Or.inr (Or.inr (Or.inr (Or.inl (⟨rfl, q⟩))))))))
      · have q := N6.2.1 y hy
        exact Or.inr (Or.inr (Or.inr (Or.inr (Or.inr (Or.inr (Or.inr (Or.inr (Or.inl (⟨rfl, q⟩)))))))))
      · have q := N7.2.1 y hy
        exact Or.inr (Or.inr (Or.inr (Or.inr (Or.inr (Or.inr (Or.inr (Or.inr (Or.inr (Or.inl (⟨rfl, q⟩))))))))))
      · have q := N8.2.1 y hy
        exact Or.inr (Or.inr (Or.inr (Or.inr (Or.inr (Or.inr (Or.inr (Or.inr (Or.inr (Or.inr (Or.inl (⟨rfl, q⟩)))))))))))
      · have q := N9.2.1 y hy
        exact Or.inr (Or.inr (Or.inr (Or.inr (Or.inr (Or.inr (Or.inr (Or.inr (Or.inr (Or.inr (Or.inr (Or.inl (⟨rfl, q⟩))))))))))))
      · have q := N10.2.1 y hy
        exact Or.inr (Or.inr (Or.inr (Or.inr (Or.inr (Or.inr (Or.inr (Or.inr (Or.inr (Or.inr (Or.inr (Or.inr (Or.inl (⟨rfl, q⟩)))))))))))))
      · have q := N11.2.1 y hy
        exact Or.inr (Or.inr (Or.inr (Or.inr (Or.inr (Or.inr (Or.inr (Or.inr (Or.inr (Or.inr (Or.inr (Or.inr (Or.inr (⟨rfl, q⟩)))))))))))))
    refine ⟨fun x h1 h2 => ⟨?_, fun y hy => ?_⟩, fun Ho k k' h1 h2 h15 hk1 hk2 hk3 => ?_, ?_⟩
    · rcases sp x h1 h2 with ⟨g1, g2⟩ | rfl | rfl | rfl | rfl | rfl | ⟨g1, g2⟩ | rfl | rfl | rfl | rfl | rfl | rfl | rfl
      · exact (A0 x g1 g2).1
      · exact N0.1
      · exact N1.1
      · exact N2.1
      · exact N3.1
      · exact N4.1
      · exact (A1 x g1 g2).1
      · exact N5.1
      · exact N6.1
      · exact N7.1
      · exact N8.1
      · exact N9.1
      · exact N10.1
      · exact N11.1
    · have q := sg x y h1 h2 hy
      omega
    · rcases sp k h1 h2 with ⟨g1, g2⟩ | rfl | rfl | rfl | rfl | rfl | ⟨g1, g2⟩ | rfl | rfl | rfl | rfl | rfl | rfl | rfl
      · refine L0 (fun x y hx hy y1 y2 => ?_) k k' g1 g2 h15 hk1 hk2 hk3
        have q1 := Ho x y hx hy (by omega) (by omega)
        have q2 := sg x y q1.1 q1.2 hy
        omega
      · exact absurd h15 N0.2.2
      · exact absurd h15 N1.2.2
      · exact absurd h15 N2.2.2
      · exact absurd h15 N3.2.2
      · exact absurd h15 N4.2.2
      · refine L1 (fun x y hx hy y1 y2 => ?_) k k' g1 g2 h15 hk1 hk2 hk3
        have q1 := Ho x y hx hy (by omega) (by omega)
        have q2 := sg x y q1.1 q1.2 hy
        omega
      · exact absurd h15 N5.2.2
      · exact absurd h15 N6.2.2
      · exact absurd h15 N7.2.2
      · exact absurd h15 N8.2.2
      · exact absurd h15 N9.2.2
      · have e := N10.2.2 k' hk1 hk2
        intro x y hx hy y1 y2
        have q1 := Ho x y hx hy (by omega) (by omega)
        have q2 := sg x y q1.1 q1.2 hy
        omega
      · exact absurd h15 N11.2.2
    · intro H
      obtain ⟨β0, s0, e0, k0, d0⟩ := B0 (H)
      obtain ⟨β1, s1, e1, k1, d1⟩ := B1 (H + t0 + 1)
      obtain ⟨γ, eγ⟩ : ∃ γ : Nat → Nat, ∀ x, γ x = (if x < b + z0 then β0 x else if x = b + z0 then H + t0 else if x = b + z0 + 1 then H + t0 + 1 else if x = b + z0 + 2 then H + t0 else if x = b + z0 + 3 then H + t0 else if x = b + z0 + 4 then H + t0 + 1 else if x < b + z0 + 5 + z1 then β1 x else if x = b + z0 + 5 + z1 then H + t0 + 1 + t1 else if x = b + z0 + 5 + z1 + 1 then H + t0 + t1 else if x = b + z0 + 5 + z1 + 2 then H + t0 + t1 + 1 else if x = b + z0 + 5 + z1 + 3 then H + t0 + t1 + 2 else if x = b + z0 + 5 + z1 + 4 then H + t0 + t1 + 1 else if x = b + z0 + 5 + z1 + 5 then H + t0 + t1 else if x = b + z0 + 5 + z1 + 6 then H + t0 + t1 else H + (t0 + t1 + 1)) := ⟨fun x => if x < b + z0 then β0 x else if x = b + z0 then H + t0 else if x = b + z0 + 1 then H + t0 + 1 else if x = b + z0 + 2 then H + t0 else if x = b + z0 + 3 then H + t0 else if x = b + z0 + 4 then H + t0 + 1 else if x < b + z0 + 5 + z1 then β1 x else if x = b + z0 + 5 + z1 then H + t0 + 1 + t1 else if x = b + z0 + 5 + z1 + 1 then H + t0 + t1 else if x = b + z0 + 5 + z1 + 2 then H + t0 + t1 + 1 else if x = b + z0 + 5 + z1 + 3 then H + t0 + t1 + 2 else if x = b + z0 + 5 + z1 + 4 then H + t0 + t1 + 1 else if x = b + z0 + 5 + z1 + 5 then H + t0 + t1 else if x = b + z0 + 5 + z1 + 6 then H + t0 + t1 else H + (t0 + t1 + 1), fun _ => rfl⟩
      have gE : γ (b + (z0 + z1 + 12)) = H + (t0 + t1 + 1) := by rw [eγ, if_neg (by omega), if_neg (by omega), if_neg (by omega), if_neg (by omega), if_neg (by omega), if_neg (by omega), if_neg (by omega), if_neg (by omega), if_neg (by omega), if_neg (by omega), if_neg (by omega), if_neg (by omega), if_neg (by omega), if_neg (by omega)]
      have g13 : γ (b + z0 + 5 + z1 + 6) = H + t0 + t1 := by rw [eγ, if_neg (by omega), if_neg (by omega), if_neg (by omega), if_neg (by omega), if_neg (by omega), if_neg (by omega), if_neg (by omega), if_neg (by omega), if_neg (by omega), if_neg (by omega), if_neg (by omega), if_neg (by omega), if_neg (by omega), if_pos (by omega)]
      have g12 : γ (b + z0 + 5 + z1 + 5) = H + t0 + t1 := by rw [eγ, if_neg (by omega), if_neg (by omega), if_neg (by omega), if_neg (by omega), if_neg (by omega), if_neg (by omega), if_neg (by omega), if_neg (by omega), if_neg (by omega), if_neg (by omega), if_neg (by omega), if_neg (by omega), if_pos (by omega)]
      have g11 : γ (b + z0 + 5 + z1 + 4) = H + t0 + t1 + 1 := by rw [eγ, if_neg (by omega), if_neg (by omega), if_neg (by omega), if_neg (by omega), if_neg (by omega), if_neg (by omega), if_neg (by omega), if_neg (by omega), if_neg (by omega), if_neg (by omega), if_neg (by omega), if_pos (by omega)]
      have g10 : γ (b + z0 + 5 + z1 + 3) = H + t0 + t1 + 2 := by rw [eγ, if_neg (by omega), if_neg (by omega), if_neg (by omega), if_neg (by omega), if_neg (by omega), if_neg (by omega), if_neg (by omega), if_neg (by omega), if_neg (by omega), if_neg (by omega), if_pos (by omega)]
      have g9 : γ (b + z0 + 5 + z1 + 2) = H + t0 + t1 + 1 := by rw [eγ, if_neg (by omega), if_neg (by omega), if_neg (by omega), if_neg (by omega), if_neg (by omega), if_neg (by omega), if_neg (by omega), if_neg (by omega), if_neg (by omega), if_pos (by omega)]
      have g8 : γ (b + z0 + 5 + z1 + 1) = H + t0 + t1 := by rw [eγ, if_neg (by omega), if_neg (by omega), if_neg (by omega), if_neg (by omega), if_neg (by omega), if_neg (by omega), if_neg (by omega), if_neg (by omega), if_pos (by omega)]
      have g7 : γ (b + z0 + 5 + z1) = H + t0 + 1 + t1 := by rw [eγ, if_neg (by omega), if_neg (by omega), if_neg (by omega), if_neg (by omega), if_neg (by omega), if_neg (by omega), if_neg (by omega), if_pos (by omega)]
      have g6 : ∀ x, b + z0 + 5 ≤ x → x < b + z0 + 5 + z1 → γ x = β1 x := by intro x h1 h2; rw [eγ, if_neg (by omega), if_neg (by omega), if_neg (by omega), if_neg (by omega), if_neg (by omega), if_neg (by omega), if_pos (by omega)]
      have ev6 : γ (b + z0 + 5 + z1) = β1 (b + z0 + 5 + z1) := by
        have q := e1
        rw [g7]
        omega
      have j6 : ∀ x, b + z0 + 5 ≤ x → x ≤ b + z0 + 5 + z1 → γ x = β1 x := by
        intro x h1 h2
        by_cases q : x = b + z0 + 5 + z1
        · rw [q]; exact ev6
        · exact g6 x h1 (by omega)
      have g5 : γ (b + z0 + 4) = H + t0 + 1 := by rw [eγ, if_neg (by omega), if_neg (by omega), if_neg (by omega), if_neg (by omega), if_neg (by omega), if_pos (by omega)]
      have g4 : γ (b + z0 + 3) = H + t0 := by rw [eγ, if_neg (by omega), if_neg (by omega), if_neg (by omega), if_neg (by omega), if_pos (by omega)]
      have g3 : γ (b + z0 + 2) = H + t0 := by rw [eγ, if_neg (by omega), if_neg (by omega), if_neg (by omega), if_pos (by omega)]
      have g2 : γ (b + z0 + 1) = H + t0 + 1 := by rw [eγ, if_neg (by omega), if_neg (by omega), if_pos (by omega)]
      have g1 : γ (b + z0) = H + t0 := by rw [eγ, if_neg (by omega), if_pos (by omega)]
      have g0 : ∀ x, b ≤ x → x < b + z0 → γ x = β0 x := by intro x h1 h2; rw [eγ, if_pos (by omega)]
      have ev0 : γ (b + z0) = β0 (b + z0) := by
        have q := e0
        rw [g1]
        omega
      have j0 : ∀ x, b ≤ x → x ≤ b + z0 → γ x = β0 x := by
        intro x h1 h2
        by_cases q : x = b + z0
        · rw [q]; exact ev0
        · exact g0 x h1 (by omega)
      refine ⟨γ, by rw [g0 b (by omega) (by omega)]; exact s0, gE, fun x h1 h2 => ?_, fun x h1 h2 y hy hb2 => ?_⟩
      · rcases sp x h1 h2 with ⟨f1, f2⟩ | rfl | rfl | rfl | rfl | rfl | ⟨f1, f2⟩ | rfl | rfl | rfl | rfl | rfl | rfl | rfl
        · have q := k0 x f1 f2
          rw [g0 x f1 f2]; omega
        · rw [g1]; omega
        · rw [g2]; omega
        · rw [g3]; omega
        · rw [g4]; omega
        · rw [g5]; omega
        · have q := k1 x f1 f2
          rw [g6 x f1 f2]; omega
        · rw [g7]; omega
        · rw [g8]; omega
        · rw [g9]; omega
        · rw [g10]; omega
        · rw [g11]; omega
        · rw [g12]; omega
        · rw [g13]; omega
      · rcases sp x h1 h2 with ⟨f1, f2⟩ | rfl | rfl | rfl | rfl | rfl | ⟨f1, f2⟩ | rfl | rfl | rfl | rfl | rfl | rfl | rfl
        · have q := (A0 x f1 f2).2 y hy
          rw [j0 x f1 (by omega), j0 y q.1 q.2]
          exact d0 x f1 f2 y hy hb2
        · have q := N0.2.1 y hy
          have lt : xLe 0 = 1 ∧ xTa 0 = 0 := ⟨rfl, rfl⟩
          rw [show y = b + z0 + 1 by omega, g1, g2, u0.1]; omega
        · have q := N1.2.1 y hy
          have lt : xLe 7 = 1 ∧ xTa 7 = 2 := ⟨rfl, rfl⟩
          rw [show y = b + z0 + 2 by omega, g2, g3, u1.1]; omega
        · have q := N2.2.1 y hy
          have lt : xLe 13 = 0 ∧ xTa 13 = 1 := ⟨rfl, rfl⟩
          rw [show y = b + z0 + 3 by omega, g3, g4, u2.1]; omega
        · have q := N3.2.1 y hy
          have lt : xLe 1 = 1 ∧ xTa 1 = 0 := ⟨rfl, rfl⟩
          rw [show y = b + z0 + 4 by omega, g4, g5, u3.1]; omega
        · have q := N4.2.1 y hy
          have lt : xLe 14 = 0 ∧ xTa 14 = 1 := ⟨rfl, rfl⟩
          rcases q with q | q
          · rw [show y = b + z0 + 5 by omega, g5, (show γ (b + z0 + 5) = H + t0 + 1 from (by rw [g6 _ (by omega) (by omega)]; exact s1)), u4.1.1]; omega
          · rw [q, g5, g13, u4.1.1]; omega
        · have q := (A1 x f1 f2).2 y hy
          rw [j6 x f1 (by omega), j6 y q.1 q.2]
          exact d1 x f1 f2 y hy hb2
        · have q := N5.2.1 y hy
          have lt : xLe 18 = 0 ∧ xTa 18 = 1 := ⟨rfl, rfl⟩
          rw [show y = b + z0 + 5 + z1 + 1 by omega, g7, g8, v0.1]; omega
        · have q := N6.2.1 y hy
          have lt : xLe 1 = 1 ∧ xTa 1 = 0 := ⟨rfl, rfl⟩
          rw [show y = b + z0 + 5 + z1 + 2 by omega, g8, g9, v1.1]; omega
        · have q := N7.2.1 y hy
          have lt : xLe 0 = 1 ∧ xTa 0 = 0 := ⟨rfl, rfl⟩
          rw [show y = b + z0 + 5 + z1 + 3 by omega, g9, g10, v2.1]; omega
        · have q := N8.2.1 y hy
          have lt : xLe 3 = 1 ∧ xTa 3 = 2 := ⟨rfl, rfl⟩
          rw [show y = b + z0 + 5 + z1 + 4 by omega, g10, g11, v3.1]; omega
        · have q := N9.2.1 y hy
          have lt : xLe 13 = 0 ∧ xTa 13 = 1 := ⟨rfl, rfl⟩
          rw [show y = b + z0 + 5 + z1 + 5 by omega, g11, g12, v4.1]; omega
        · have q := N10.2.1 y hy
          have lt : xLe 15 = 0 ∧ xTa 15 = 0 := ⟨rfl, rfl⟩
          exact absurd ⟨v5.1, by omega⟩ hb2
        · have q := N11.2.1 y hy
          have lt : xLe 0 = 1 ∧ xTa 0 = 0 := ⟨rfl, rfl⟩
          rw [show y = b + (z0 + z1 + 12) by omega, g13, gE, v6.1]; omega
  · intro b v z0 t0 z1 t1 z2 t2 m0 m1 m2 hv hB8 a0 b0 a1 b1 a2 b2 c0 c1 c2 r0 hb
    obtain ⟨A0, L0, B0⟩ := c0 (by omega)
    obtain ⟨A1, L1, B1⟩ := c1 (by omega)
    obtain ⟨A2, L2, B2⟩ := c2 (by omega)
    have N0 : yN U B (b + z0 + z1 + z2) := yN_c r0 hv hB8
    have sp : ∀ x, b ≤ x → x < b + (z0 + z1 + z2 + 1) → (b ≤ x ∧ x < b + z0) ∨ (b + z0 ≤ x ∧ x < b + z0 + z1) ∨ (b + z0 + z1 ≤ x ∧ x < b + z0 + z1 + z2) ∨ x = b + z0 + z1 + z2 := by intro x h1 h2; omega
    have sg : ∀ x y, b ≤ x → x < b + (z0 + z1 + z2 + 1) → ySu U x y → (b ≤ x ∧ x < b + z0 ∧ b ≤ y ∧ y ≤ b + z0) ∨ (b + z0 ≤ x ∧ x < b + z0 + z1 ∧ b + z0 ≤ y ∧ y ≤ b + z0 + z1) ∨ (b + z0 + z1 ≤ x ∧ x < b + z0 + z1 + z2 ∧ b + z0 + z1 ≤ y ∧ y ≤ b + z0 + z1 + z2) ∨ (x = b + z0 + z1 + z2 ∧ y = x + 1) := by
      intro x y h1 h2 hy
      rcases sp x h1 h2 with ⟨g1, g2⟩ | ⟨g1, g2⟩ | ⟨g1, g2⟩ | rfl
      · have q := (A0 x g1 g2).2 y hy
        exact Or.inl (⟨g1, g2, q.1, q.2⟩)
      · have q := (A1 x g1 g2).2 y hy
        exact Or.inr (Or.inl (⟨g1, g2, q.1, q.2⟩))
      · have q := (A2 x g1 g2).2 y hy
        exact Or.inr (Or.inr (Or.inl (⟨g1, g2, q.1, q.2⟩)))
      · have q := N0.2.1 y hy
        exact Or.inr (Or.inr (Or.inr (⟨rfl, q⟩)))
    refine ⟨fun x h1 h2 => ⟨?_, fun y hy => ?_⟩, fun Ho k k' h1 h2 h15 hk1 hk2 hk3 => ?_, ?_⟩
    · rcases sp x h1 h2 with ⟨g1, g2⟩ | ⟨g1, g2⟩ | ⟨g1, g2⟩ | rfl
      · exact (A0 x g1 g2).1
      · exact (A1 x g1 g2).1
      · exact (A2 x g1 g2).1
      · exact N0.1
    · have q := sg x y h1 h2 hy
      omega
    · rcases sp k h1 h2 with ⟨g1, g2⟩ | ⟨g1, g2⟩ | ⟨g1, g2⟩ | rfl
      · refine L0 (fun x y hx hy y1 y2 => ?_) k k' g1 g2 h15 hk1 hk2 hk3
        have q1 := Ho x y hx hy (by omega) (by omega)
        have q2 := sg x y q1.1 q1.2 hy
        omega
      · refine L1 (fun x y hx hy y1 y2 => ?_) k k' g1 g2 h15 hk1 hk2 hk3
        have q1 := Ho x y hx hy (by omega) (by omega)
        have q2 := sg x y q1.1 q1.2 hy
        omega
      · refine L2 (fun x y hx hy y1 y2 => ?_) k k' g1 g2 h15 hk1 hk2 hk3
        have q1 := Ho x y hx hy (by omega) (by omega)
        have q2 := sg x y q1.1 q1.2 hy
        omega
      · exact absurd h15 N0.2.2
    · intro H
      obtain ⟨β0, s0, e0, k0, d0⟩ := B0 (H)
      obtain ⟨β1, s1, e1, k1, d1⟩ := B1 (H + t0)
      obtain ⟨β2, s2, e2, k2, d2⟩ := B2 (H + t0 + t1)
      obtain ⟨γ, eγ⟩ : ∃ γ : Nat → Nat, ∀ x, γ x = (if x < b + z0 then β0 x else if x < b + z0 + z1 then β1 x else if x < b + z0 + z1 + z2 then β2 x else if x = b + z0 + z1 + z2 then H + t0 + t1 + t2 else H + (t0 + t1 + t2 + 1)) := ⟨fun x => if x < b + z0 then β0 x else if x < b + z0 + z1 then β1 x else if x < b + z0 + z1 + z2 then β2 x else if x = b + z0 + z1 + z2 then H + t0 + t1 + t2 else H + (t0 + t1 + t2 + 1), fun _ => rfl⟩
      have gE : γ (b + (z0 + z1 + z2 + 1)) = H + (t0 + t1 + t2 + 1) := by rw [eγ, if_neg (by omega), if_neg (by omega), if_neg (by omega), if_neg (by omega)]
      have g3 : γ (b + z0 + z1 + z2) = H + t0 + t1 + t2 := by rw [eγ, if_neg (by omega), if_neg (by omega), if_neg (by omega), if_pos (by omega)]
      have g2 : ∀ x, b + z0 + z1 ≤ x → x < b + z0 + z1 + z2 → γ x = β2 x := by intro x h1 h2; rw [eγ, if_neg (by omega), if_neg (by omega), if_pos (by omega)]
      have ev2 : γ (b + z0 + z1 + z2) = β2 (b + z0 + z1 + z2) := by
        have q := e2
        rw [g3]
        omega
      have j2 : ∀ x, b + z0 + z1 ≤ x → x ≤ b + z0 + z1 + z2 → γ x = β2 x := by
        intro x h1 h2
        by_cases q : x = b + z0 + z1 + z2
        · rw [q]; exact ev2
        · exact g2 x h1 (by omega)
      have g1 : ∀ x, b + z0 ≤ x → x < b + z0 + z1 → γ x = β1 x := by intro x h1 h2; rw [eγ, if_neg (by omega), if_pos (by omega)]
      have ev1 : γ (b + z0 + z1) = β1 (b + z0 + z1) := by
        have q := e1
        rw [g2 _ (by omega) (by omega)]
        have q2 := s2
        omega
      have j1 : ∀ x, b + z0 ≤ x → x ≤ b + z0 + z1 → γ x = β1 x := by
        intro x h1 h2
        by_cases q : x = b + z0 + z1
        · rw [q]; exact ev1
        · exact g1 x h1 (by omega)
      have g0 : ∀ x, b ≤ x → x < b + z0 → γ x = β0 x := by intro x h1 h2; rw [eγ, if_pos (by omega)]
      have ev0 : γ (b + z0) = β0 (b + z0) := by
        have q := e0
        rw [g1 _ (by omega) (by omega)]
        have q2 := s1
        omega
      have j0 : ∀ x, b ≤ x → x ≤ b + z0 → γ x = β0 x := by
        intro x h1 h2
        by_cases q : x = b + z0
        · rw [q]; exact ev0
        · exact g0 x h1 (by omega)
      refine ⟨γ, by rw [g0 b (by omega) (by omega)]; exact s0, gE, fun x h1 h2 => ?_, fun x h1 h2 y hy hb2 => ?_⟩
      · rcases sp x h1 h2 with ⟨f1, f2⟩ | ⟨f1, f2⟩ | ⟨f1, f2⟩ | rfl
        · have q := k0 x f1 f2
          rw [g0 x f1 f2]; omega
        · have q := k1 x f1 f2
          rw [g1 x f1 f2]; omega
        · have q := k2 x f1 f2
          rw [g2 x f1 f2]; omega
        · rw [g3]; omega
      · rcases sp x h1 h2 with ⟨f1, f2⟩ | ⟨f1, f2⟩ | ⟨f1, f2⟩ | rfl
        · have q := (A0 x f1 f2).2 y hy
          rw [j0 x f1 (by omega), j0 y q.1 q.2]
          exact d0 x f1 f2 y hy hb2
        · have q := (A1 x f1 f2).2 y hy
          rw [j1 x f1 (by omega), j1 y q.1 q.2]
          exact d1 x f1 f2 y hy hb2
        · have q := (A2 x f1 f2).2 y hy
          rw [j2 x f1 (by omega), j2 y q.1 q.2]
          exact d2 x f1 f2 y hy hb2
        · have q := N0.2.1 y hy
          have lt : xLe 16 = 1 ∧ xTa 16 = 3 := ⟨rfl, rfl⟩
          rw [show y = b + (z0 + z1 + z2 + 1) by omega, g3, gE, r0.1]; omega
  · intro b o z0 t0 z1 t1 m0 m1 ho2 ho11 a0 b0 a1 b1 c0 c1 r0 hb
    obtain ⟨A0, L0, B0⟩ := c0 (by omega)
    obtain ⟨A1, L1, B1⟩ := c1 (by omega)
    have N0 : yN U B (b + z0 + z1) := yN_f (hP _ _ (Or.inl (by omega)) r0)
    have sp : ∀ x, b ≤ x → x < b + (z0 + z1 + 1) → (b ≤ x ∧ x < b + z0) ∨ (b + z0 ≤ x ∧ x < b + z0 + z1) ∨ x = b + z0 + z1 := by intro x h1 h2; omega
    have sg : ∀ x y, b ≤ x → x < b + (z0 + z1 + 1) → ySu U x y → (b ≤ x ∧ x < b + z0 ∧ b ≤ y ∧ y ≤ b + z0) ∨ (b + z0 ≤ x ∧ x < b + z0 + z1 ∧ b + z0 ≤ y ∧ y ≤ b + z0 + z1) ∨ (x = b + z0 + z1 ∧ y = x + 1) := by
      intro x y h1 h2 hy
      rcases sp x h1 h2 with ⟨g1, g2⟩ | ⟨g1, g2⟩ | rfl
      · have q := (A0 x g1 g2).2 y hy
        exact Or.inl (⟨g1, g2, q.1, q.2⟩)
      · have q := (A1 x g1 g2).2 y hy
        exact Or.inr (Or.inl (⟨g1, g2, q.1, q.2⟩))
      · have q := N0.2.1 y hy
        exact Or.inr (Or.inr (⟨rfl, q⟩))
    refine ⟨fun x h1 h2 => ⟨?_, fun y hy => ?_⟩, fun Ho k k' h1 h2 h15 hk1 hk2 hk3 => ?_, ?_⟩
    · rcases sp x h1 h2 with ⟨g1, g2⟩ | ⟨g1, g2⟩ | rfl
      · exact (A0 x g1 g2).1
      · exact (A1 x g1 g2).1
      · exact N0.1
    · have q := sg x y h1 h2 hy
      omega
    · rcases sp k h1 h2 with ⟨g1, g2⟩ | ⟨g1, g2⟩ | rfl
      · refine L0 (fun x y hx hy y1 y2 => ?_) k k' g1 g2 h15 hk1 hk2 hk3
        have q1 := Ho x y hx hy (by omega) (by omega)
        have q2 := sg x y q1.1 q1.2 hy
        omega
      · refine L1 (fun x y hx hy y1 y2 => ?_) k k' g1 g2 h15 hk1 hk2 hk3
        have q1 := Ho x y hx hy (by omega) (by omega)
        have q2 := sg x y q1.1 q1.2 hy
        omega
      · exact absurd h15 N0.2.2
    · intro H
      obtain ⟨β0, s0, e0, k0, d0⟩ := B0 (H)
      obtain ⟨β1, s1, e1, k1, d1⟩ := B1 (H + t0)
      obtain ⟨γ, eγ⟩ : ∃ γ : Nat → Nat, ∀ x, γ x = (if x < b + z0 then β0 x else if x < b + z0 + z1 then β1 x else if x = b + z0 + z1 then H + t0 + t1 else H + (t0 + t1 + 1)) := ⟨fun x => if x < b + z0 then β0 x else if x < b + z0 + z1 then β1 x else if x = b + z0 + z1 then H + t0 + t1 else H + (t0 + t1 + 1), fun _ => rfl⟩
      have gE : γ (b + (z0 + z1 + 1)) = H + (t0 + t1 + 1) := by rw [eγ, if_neg (by omega), if_neg (by omega), if_neg (by omega)]
      have g2 : γ (b + z0 + z1) = H + t0 + t1 := by rw [eγ, if_neg (by omega), if_neg (by omega), if_pos (by omega)]
      have g1 : ∀ x, b + z0 ≤ x → x < b + z0 + z1 → γ x = β1 x := by intro x h1 h2; rw [eγ, if_neg (by omega), if_pos (by omega)]
      have ev1 : γ (b + z0 + z1) = β1 (b + z0 + z1) := by
        have q := e1
        rw [g2]
        omega
      have j1 : ∀ x, b + z0 ≤ x → x ≤ b + z0 + z1 → γ x = β1 x := by
        intro x h1 h2
        by_cases q : x = b + z0 + z1
        · rw [q]; exact ev1
        · exact g1 x h1 (by omega)
      have g0 : ∀ x, b ≤ x → x < b + z0 → γ x = β0 x := by intro x h1 h2; rw [eγ, if_pos (by omega)]
      have ev0 : γ (b + z0) = β0 (b + z0) := by
        have q := e0
        rw [g1 _ (by omega) (by omega)]
        have q2 := s1
        omega
      have j0 : ∀ x, b ≤ x → x ≤ b + z0 → γ x = β0 x := by
        intro x h1 h2
        by_cases q : x = b + z0
        · rw [q]; exact ev0
        · exact g0 x h1 (by omega)
      refine ⟨γ, by rw [g0 b (by omega) (by omega)]; exact s0, gE, fun x h1 h2 => ?_, fun x h1 h2 y hy hb2 => ?_⟩
      · rcases sp x h1 h2 with ⟨f1, f2⟩ | ⟨f1, f2⟩ | rfl
        · have q := k0 x f1 f2
          rw [g0 x f1 f2]; omega
        · have q := k1 x f1 f2
          rw [g1 x f1 f2]; omega
        · rw [g2]; omega
      · rcases sp x h1 h2 with ⟨f1, f2⟩ | ⟨f1, f2⟩ | rfl
        · have q := (A0 x f1 f2).2 y hy
          rw [j0 x f1 (by omega), j0 y q.1 q.2]
          exact d0 x f1 f2 y hy hb2
        · have q := (A1 x f1 f2).2 y hy
          rw [j1 x f1 (by omega), j1 y q.1 q.2]
          exact d1 x f1 f2 y hy hb2
        · have q := N0.2.1 y hy
          have fl := yFo_le (hP _ _ (Or.inl (by omega)) r0)
          rw [show y = b + (z0 + z1 + 1) by omega, g2, gE]; omega

