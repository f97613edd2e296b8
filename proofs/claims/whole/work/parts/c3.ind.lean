/-! an induction over the units of a form -/
def yMo (m : Nat → Nat → Nat) (o H : Nat) : Nat :=
  if o = 0 then H + 1 else if o = 1 then H + 1 else if o = 12 then m 0 H else if o = 13 then max (m 0 H) (max (m 1 H) (m 2 H)) else if o = 14 then max (m 0 H) (m 1 H)
  else if o = 15 then max (m 0 H) (H + 2) else if o = 16 then max (m 0 H) (max (H + 2) (m 1 H)) else if o = 17 then max (m 0 H) (max (m 1 (H + 1)) (m 2 (H + 2))) else max (m 0 H) (m 1 (H + 1))
def yMx (O : Nat → Nat) : Nat → Nat → Nat → Nat
  | 0, _, _ => 0
  | k + 1, p, H => yMo (fun j => yMx O k (xIt (xNx O k) j (p + 1))) (O p) H
theorem yPa2 : ∀ o, o < 18 → (o ≠ 0 ∧ o ≠ 1 ∧ o ≠ 13 ∧ o ≠ 15 ∧ o ≠ 17 ∧ o ≠ 12) → xPa o = 2 ∧ xOwn o = (if o = 16 then 12 else 1) := by decide +kernel
theorem yInd {P : Nat → Nat → Prop} {U : yU} {O : Nat → Nat} {A : Nat → Int32} {n : Nat} {B : Nat} (hT : xTok O A n) (hB : ∀ p, p < n → O p = 17 → ∀ v, v < 8 → A p = nI v → v < B) (C : Nat → Nat → Nat → (Nat → Nat) → Prop)
    (h0 : ∀ b a, yAt U b 0 a → C b 1 1 (fun H => H + 1))
    (h1 : ∀ b v, v < 7 → yAt U b 1 (nI v) → C b 1 1 (fun H => H + 1))
    (h12 : ∀ (b z0 t0 : Nat) (m0 : Nat → Nat), 0 < z0 → 0 < t0 → C b z0 t0 m0 → P (b + z0) 12 → C b (z0 + 1) (t0 + 1) m0)
    (h13 : ∀ (b v z0 t0 z1 t1 z2 t2 : Nat) (m0 m1 m2 : Nat → Nat), v < 6 → 0 < z0 → 0 < t0 → 0 < z1 → 0 < t1 → 0 < z2 → 0 < t2 → C b z0 t0 m0 → yAt U (b + z0) 14 (nI v) → U.2.2.1 (b + z0) = nI (b + z0 + 1 + z1 + 1) → C (b + z0 + 1) z1 t1 m1 → yAt U (b + z0 + 1 + z1) 15 (nI (b + z0 + 1 + z1 + 1 + z2)) → C (b + z0 + 1 + z1 + 1) z2 t2 m2 → C b (z0 + z1 + z2 + 2) (t0 + t1 + t2 + 1) (fun H => max (m0 H) (max (m1 H) (m2 H))))
    (h14 : ∀ (b v z0 t0 z1 t1 : Nat) (m0 m1 : Nat → Nat), v < 7 → 0 < z0 → 0 < t0 → 0 < z1 → 0 < t1 → C b z0 t0 m0 → yAt U (b + z0) 13 (nI v) → C (b + z0 + 1) z1 t1 m1 → C b (z0 + z1 + 1) (t0 + t1 + 1) (fun H => max (m0 H) (m1 H)))
    (h15 : ∀ (b v z0 t0 : Nat) (m0 : Nat → Nat), v < 7 → 0 < z0 → 0 < t0 → C b z0 t0 m0 → P (b + z0) 19 → yAt U (b + z0 + 1) 13 (nI v) → C b (z0 + 2) (t0 + 1) (fun H => max (m0 H) (H + 2)))
    (h16 : ∀ (b v z0 t0 z1 t1 : Nat) (m0 m1 : Nat → Nat), v < 7 → 0 < z0 → 0 < t0 → 0 < z1 → 0 < t1 → C b z0 t0 m0 → C (b + z0 + 5) z1 t1 m1 → yL16 U (nI v) (fun _ => True) (fun _ => True) b z0 z1 → C b (z0 + z1 + 12) (t0 + t1 + 1) (fun H => max (m0 H) (max (H + 2) (m1 H))))
    (h17 : ∀ (b v z0 t0 z1 t1 z2 t2 : Nat) (m0 m1 m2 : Nat → Nat), v < 8 → v < B → 0 < z0 → 0 < t0 → 0 < z1 → 0 < t1 → 0 < z2 → 0 < t2 → C b z0 t0 m0 → C (b + z0) z1 t1 m1 → C (b + z0 + z1) z2 t2 m2 → yAt U (b + z0 + z1 + z2) 16 (nI v) → C b (z0 + z1 + z2 + 1) (t0 + t1 + t2 + 1) (fun H => max (m0 H) (max (m1 (H + 1)) (m2 (H + 2)))))
    (h2 : ∀ (b o z0 t0 z1 t1 : Nat) (m0 m1 : Nat → Nat), 2 ≤ o → o ≤ 11 → 0 < z0 → 0 < t0 → 0 < z1 → 0 < t1 → C b z0 t0 m0 → C (b + z0) z1 t1 m1 → P (b + z0 + z1) o → C b (z0 + z1 + 1) (t0 + t1 + 1) (fun H => max (m0 H) (m1 (H + 1)))) : ∀ k p b, xVF O n k p → yLay P U O A k p b → C b (xSz O k p) (xNx O k p - p) (yMx O k p) := by
  intro k
  induction k with
  | zero => intro p b hv; exact absurd hv id
  | succ k ih =>
    intro p b hv hL
    obtain ⟨hpn, hv⟩ := hv
    obtain ⟨o18, ta, tb, tc, td⟩ := hT p hpn
    have hL : yLo P U (fun j c => yLay P U O A k (xIt (xNx O k) j (p + 1)) c) (fun j => xSz O k (xIt (xNx O k) j (p + 1))) (O p) (A p) b := hL
    have ihj : ∀ j, j < xPa (O p) → ∀ b, yLay P U O A k (xIt (xNx O k) j (p + 1)) b → 0 < xSz O k (xIt (xNx O k) j (p + 1)) ∧ 0 < xNx O k (xIt (xNx O k) j (p + 1)) - xIt (xNx O k) j (p + 1) ∧ C b (xSz O k (xIt (xNx O k) j (p + 1))) (xNx O k (xIt (xNx O k) j (p + 1)) - xIt (xNx O k) j (p + 1)) (yMx O k (xIt (xNx O k) j (p + 1))) := by
      intro j hj b h
      refine ⟨?_, Nat.sub_pos_of_lt (xNx_gt O k _), ih _ b (hv j hj) h⟩
      cases k with
      | zero => exact absurd (hv j hj) id
      | succ k =>
        show 0 < xOwn _ + _
        unfold xOwn
        split
        · omega
        · split <;> omega
    have gt : ∀ q, q < xNx O k q := xNx_gt O k
    have eN : xNx O (k + 1) p = xIt (xNx O k) (xPa (O p)) (p + 1) := rfl
    have eZ : xSz O (k + 1) p = xOwn (O p) + xSumN (fun j => xSz O k (xIt (xNx O k) j (p + 1))) (xPa (O p)) := rfl
    have eM : yMx O (k + 1) p = yMo (fun j => yMx O k (xIt (xNx O k) j (p + 1))) (O p) := rfl
    unfold yLo at hL
    rw [eN, eZ, eM]
    by_cases k0 : O p = 0
    · rw [if_pos k0] at hL
      rw [k0] at ihj ⊢
      have hp : xPa 0 = 0 := rfl
      rw [hp] at ihj ⊢
      have gZ : xOwn 0 + xSumN (fun j => xSz O k (xIt (xNx O k) j (p + 1))) 0 = 1 := by
        rfl
      have gT : xIt (xNx O k) 0 (p + 1) - p = 1 := by
        show (p + 1) - p = _
        omega
      have gM : yMo (fun j => yMx O k (xIt (xNx O k) j (p + 1))) 0 = fun H => H + 1 := by
        rfl
      rw [gZ, gT, gM]
      exact h0 b _ hL
    by_cases k1 : O p = 1
    · rw [if_neg k0, if_pos k1] at hL
      rw [k1] at ihj ⊢
      have hp : xPa 1 = 0 := rfl
      rw [hp] at ihj ⊢
      have gZ : xOwn 1 + xSumN (fun j => xSz O k (xIt (xNx O k) j (p + 1))) 0 = 1 := by
        rfl
      have gT : xIt (xNx O k) 0 (p + 1) - p = 1 := by
        show (p + 1) - p = _
        omega
      have gM : yMo (fun j => yMx O k (xIt (xNx O k) j (p + 1))) 1 = fun H => H + 1 := by
        rfl
      rw [gZ, gT, gM]
      obtain ⟨v, hv7, ea⟩ := ta (Or.inl k1)
      rw [ea] at hL
      exact h1 b v hv7 hL
    by_cases k12 : O p = 12
    · rw [if_neg k0, if_neg k1, if_pos k12] at hL
      rw [k12] at ihj ⊢
      have hp : xPa 12 = 1 := rfl
      rw [hp] at ihj ⊢
      have gZ : xOwn 12 + xSumN (fun j => xSz O k (xIt (xNx O k) j (p + 1))) 1 = xSz O k (p + 1) + 1 := by
        rw [xSumN_1]
        show xOwn 12 + (xSz O k (p + 1)) = _
        rw [show xOwn 12 = 1 from rfl]
        omega
      have gT : xIt (xNx O k) 1 (p + 1) - p = (xNx O k (p + 1) - (p + 1)) + 1 := by
        have g0 := gt (p + 1)
        show xNx O k (p + 1) - p = _
        omega
      have gM : yMo (fun j => yMx O k (xIt (xNx O k) j (p + 1))) 12 = yMx O k (p + 1) := by
        rfl
      rw [gZ, gT, gM]
      obtain ⟨q0, r0⟩ := hL
      obtain ⟨a0, b0, c0⟩ := ihj 0 (by omega) _ q0
      exact h12 b _ _ _ a0 b0 c0 r0
    by_cases k13 : O p = 13
    · rw [if_neg k0, if_neg k1, if_neg k12, if_pos k13] at hL
      rw [k13] at ihj ⊢
      have hp : xPa 13 = 3 := rfl
      rw [hp] at ihj ⊢
      have gZ : xOwn 13 + xSumN (fun j => xSz O k (xIt (xNx O k) j (p + 1))) 3 = xSz O k (p + 1) + xSz O k (xNx O k (p + 1)) + xSz O k (xNx O k (xNx O k (p + 1))) + 2 := by
        rw [xSumN_3]
        show xOwn 13 + (xSz O k (p + 1) + xSz O k (xNx O k (p + 1)) + xSz O k (xNx O k (xNx O k (p + 1)))) = _
        rw [show xOwn 13 = 2 from rfl]
        omega
      have gT : xIt (xNx O k) 3 (p + 1) - p = (xNx O k (p + 1) - (p + 1)) + (xNx O k (xNx O k (p + 1)) - (xNx O k (p + 1))) + (xNx O k (xNx O k (xNx O k (p + 1))) - (xNx O k (xNx O k (p + 1)))) + 1 := by
        have g0 := gt (p + 1)
        have g1 := gt (xNx O k (p + 1))
        have g2 := gt (xNx O k (xNx O k (p + 1)))
        show xNx O k (xNx O k (xNx O k (p + 1))) - p = _
        omega
      have gM : yMo (fun j => yMx O k (xIt (xNx O k) j (p + 1))) 13 = fun H => max (yMx O k (p + 1) H) (max (yMx O k (xNx O k (p + 1)) H) (yMx O k (xNx O k (xNx O k (p + 1))) H)) := by
        rfl
      rw [gZ, gT, gM]
      obtain ⟨v, hv7, ea⟩ := tc k13
      rw [ea] at hL
      obtain ⟨q0, r0, r1, q1, r2, q2⟩ := hL
      obtain ⟨a0, b0, c0⟩ := ihj 0 (by omega) _ q0
      obtain ⟨a1, b1, c1⟩ := ihj 1 (by omega) _ q1
      obtain ⟨a2, b2, c2⟩ := ihj 2 (by omega) _ q2
      exact h13 b v _ _ _ _ _ _ _ _ _ hv7 a0 b0 a1 b1 a2 b2 c0 r0 r1 c1 r2 c2
    by_cases k14 : O p = 14
    · rw [if_neg k0, if_neg k1, if_neg k12, if_neg k13, if_pos k14] at hL
      rw [k14] at ihj ⊢
      have hp : xPa 14 = 2 := rfl
      rw [hp] at ihj ⊢
      have gZ : xOwn 14 + xSumN (fun j => xSz O k (xIt (xNx O k) j (p + 1))) 2 = xSz O k (p + 1) + xSz O k (xNx O k (p + 1)) + 1 := by
        rw [xSumN_2]
        show xOwn 14 + (xSz O k (p + 1) + xSz O k (xNx O k (p + 1))) = _
        rw [show xOwn 14 = 1 from rfl]
        omega
      have gT : xIt (xNx O k) 2 (p + 1) - p = (xNx O k (p + 1) - (p + 1)) + (xNx O k (xNx O k (p + 1)) - (xNx O k (p + 1))) + 1 := by
        have g0 := gt (p + 1)
        have g1 := gt (xNx O k (p + 1))
        show xNx O k (xNx O k (p + 1)) - p = _
        omega
      have gM : yMo (fun j => yMx O k (xIt (xNx O k) j (p + 1))) 14 = fun H => max (yMx O k (p + 1) H) (yMx O k (xNx O k (p + 1)) H) := by
        rfl
      rw [gZ, gT, gM]
      obtain ⟨v, hv3, hv7, ea⟩ := tb (Or.inl k14)
      rw [ea] at hL
      obtain ⟨q0, r0, q1⟩ := hL
      obtain ⟨a0, b0, c0⟩ := ihj 0 (by omega) _ q0
      obtain ⟨a1, b1, c1⟩ := ihj 1 (by omega) _ q1
      exact h14 b v _ _ _ _ _ _ hv7 a0 b0 a1 b1 c0 r0 c1
    by_cases k15 : O p = 15
    · rw [if_neg k0, if_neg k1, if_neg k12, if_neg k13, if_neg k14, if_pos k15] at hL
      rw [k15] at ihj ⊢
      have hp : xPa 15 = 1 := rfl
      rw [hp] at ihj ⊢
      have gZ : xOwn 15 + xSumN (fun j => xSz O k (xIt (xNx O k) j (p + 1))) 1 = xSz O k (p + 1) + 2 := by
        rw [xSumN_1]
        show xOwn 15 + (xSz O k (p + 1)) = _
        rw [show xOwn 15 = 2 from rfl]
        omega
      have gT : xIt (xNx O k) 1 (p + 1) - p = (xNx O k (p + 1) - (p + 1)) + 1 := by
        have g0 := gt (p + 1)
        show xNx O k (p + 1) - p = _
        omega
      have gM : yMo (fun j => yMx O k (xIt (xNx O k) j (p + 1))) 15 = fun H => max (yMx O k (p + 1) H) (H + 2) := by
        rfl
      rw [gZ, gT, gM]
      obtain ⟨v, hv7, ea⟩ := ta (Or.inr k15)
      rw [ea] at hL
      obtain ⟨q0, r0, r1⟩ := hL
      obtain ⟨a0, b0, c0⟩ := ihj 0 (by omega) _ q0
      exact h15 b v _ _ _ hv7 a0 b0 c0 r0 r1
    by_cases k16 : O p = 16
    · rw [if_neg k0, if_neg k1, if_neg k12, if_neg k13, if_neg k14, if_neg k15, if_pos k16] at hL
      rw [k16] at ihj ⊢
      have hp : xPa 16 = 2 := rfl
      rw [hp] at ihj ⊢
      have gZ : xOwn 16 + xSumN (fun j => xSz O k (xIt (xNx O k) j (p + 1))) 2 = xSz O k (p + 1) + xSz O k (xNx O k (p + 1)) + 12 := by
        rw [xSumN_2]
        show xOwn 16 + (xSz O k (p + 1) + xSz O k (xNx O k (p + 1))) = _
        rw [show xOwn 16 = 12 from rfl]
        omega
      have gT : xIt (xNx O k) 2 (p + 1) - p = (xNx O k (p + 1) - (p + 1)) + (xNx O k (xNx O k (p + 1)) - (xNx O k (p + 1))) + 1 := by
        have g0 := gt (p + 1)
        have g1 := gt (xNx O k (p + 1))
        show xNx O k (xNx O k (p + 1)) - p = _
        omega
      have gM : yMo (fun j => yMx O k (xIt (xNx O k) j (p + 1))) 16 = fun H => max (yMx O k (p + 1) H) (max (H + 2) (yMx O k (xNx O k (p + 1)) H)) := by
        rfl
      rw [gZ, gT, gM]
      obtain ⟨v, hv3, hv7, ea⟩ := tb (Or.inr k16)
      rw [ea] at hL
      obtain ⟨q0, r0, r1, r2, r3, r4, q1, rest⟩ := hL
      obtain ⟨a0, b0, c0⟩ := ihj 0 (by omega) _ q0
      obtain ⟨a1, b1, c1⟩ := ihj 1 (by omega) _ q1
      exact h16 b v _ _ _ _ _ _ hv7 a0 b0 a1 b1 c0 c1 ⟨trivial, r0, r1, r2, r3, r4, trivial, rest⟩
    by_cases k17 : O p = 17
    · rw [if_neg k0, if_neg k1, if_neg k12, if_neg k13, if_neg k14, if_neg k15, if_neg k16, if_pos k17] at hL
      rw [k17] at ihj ⊢
      have hp : xPa 17 = 3 := rfl
      rw [hp] at ihj ⊢
      have gZ : xOwn 17 + xSumN (fun j => xSz O k (xIt (xNx O k) j (p + 1))) 3 = xSz O k (p + 1) + xSz O k (xNx O k (p + 1)) + xSz O k (xNx O k (xNx O k (p + 1))) + 1 := by
        rw [xSumN_3]
        show xOwn 17 + (xSz O k (p + 1) + xSz O k (xNx O k (p + 1)) + xSz O k (xNx O k (xNx O k (p + 1)))) = _
        rw [show xOwn 17 = 1 from rfl]
        omega
      have gT : xIt (xNx O k) 3 (p + 1) - p = (xNx O k (p + 1) - (p + 1)) + (xNx O k (xNx O k (p + 1)) - (xNx O k (p + 1))) + (xNx O k (xNx O k (xNx O k (p + 1))) - (xNx O k (xNx O k (p + 1)))) + 1 := by
        have g0 := gt (p + 1)
        have g1 := gt (xNx O k (p + 1))
        have g2 := gt (xNx O k (xNx O k (p + 1)))
        show xNx O k (xNx O k (xNx O k (p + 1))) - p = _
        omega
      have gM : yMo (fun j => yMx O k (xIt (xNx O k) j (p + 1))) 17 = fun H => max (yMx O k (p + 1) H) (max (yMx O k (xNx O k (p + 1)) (H + 1)) (yMx O k (xNx O k (xNx O k (p + 1))) (H + 2))) := by
        rfl
      rw [gZ, gT, gM]
      obtain ⟨v, hv7, ea⟩ := td k17
      rw [ea] at hL
      obtain ⟨q0, q1, q2, r0⟩ := hL
      obtain ⟨a0, b0, c0⟩ := ihj 0 (by omega) _ q0
      obtain ⟨a1, b1, c1⟩ := ihj 1 (by omega) _ q1
      obtain ⟨a2, b2, c2⟩ := ihj 2 (by omega) _ q2
      exact h17 b v _ _ _ _ _ _ _ _ _ hv7 (hB p hpn k17 v hv7 ea) a0 b0 a1 b1 a2 b2 c0 c1 c2 r0
    rw [if_neg k0, if_neg k1, if_neg k12, if_neg k13, if_neg k14, if_neg k15, if_neg k16, if_neg k17] at hL
    obtain ⟨hp, hw⟩ := yPa2 (O p) o18 ⟨k0, k1, k13, k15, k17, k12⟩
    rw [if_neg k16] at hw
    rw [hp] at ihj ⊢
    have gZ : xOwn (O p) + xSumN (fun j => xSz O k (xIt (xNx O k) j (p + 1))) 2 = xSz O k (p + 1) + xSz O k (xNx O k (p + 1)) + 1 := by
      rw [hw]
      rw [xSumN_2]
      show 1 + (xSz O k (p + 1) + xSz O k (xNx O k (p + 1))) = _
      omega
    have gT : xIt (xNx O k) 2 (p + 1) - p = (xNx O k (p + 1) - (p + 1)) + (xNx O k (xNx O k (p + 1)) - (xNx O k (p + 1))) + 1 := by
      have g0 := gt (p + 1)
      have g1 := gt (xNx O k (p + 1))
      show xNx O k (xNx O k (p + 1)) - p = _
      omega
    have gM : yMo (fun j => yMx O k (xIt (xNx O k) j (p + 1))) (O p) = fun H => max (yMx O k (p + 1) H) (yMx O k (xNx O k (p + 1)) (H + 1)) := by
      funext H; unfold yMo; rw [if_neg k0, if_neg k1, if_neg k12, if_neg k13, if_neg k14, if_neg k15, if_neg k16, if_neg k17]; rfl
    rw [gZ, gT, gM]
    obtain ⟨q0, q1, r0⟩ := hL
    obtain ⟨a0, b0, c0⟩ := ihj 0 (by omega) _ q0
    obtain ⟨a1, b1, c1⟩ := ihj 1 (by omega) _ q1
    exact h2 b (O p) _ _ _ _ _ _ (by omega) (by omega) a0 b0 a1 b1 c0 c1 r0

