/-! the heights of what is emitted, exactly -/
def yHe (U : yU) (N b z t : Nat) (m : Nat → Nat) : Prop := ∀ H, ∃ η : Nat → Nat, η b = H ∧ η (b + z) = H + 1 ∧ (H + 1 ≤ m H ∧ m H ≤ H + t) ∧ (∀ x, b ≤ x → x < b + z → xTa (U.1 x) ≤ η x ∧ xTpu U.1 x (η x) ≤ m H ∧ ∀ y, ySu U x y → η y = xTpu U.1 x (η x)) ∧ (∃ x, b ≤ x ∧ x < b + z ∧ xTpu U.1 x (η x) = m H) ∧ (b + z ≤ N → xRel N U.1 U.2.1 U.2.2.1 b H → ∀ x, b ≤ x → x ≤ b + z → xRel N U.1 U.2.1 U.2.2.1 x (η x))
def yAE (U : yU) (B N b z t : Nat) (m : Nat → Nat) : Prop := b + z ≤ 265 → yA U B b z ∧ yHe U N b z t m
theorem yTp {U : yU} {x o h : Nat} (e : U.1 x = o) : xTpu U.1 x h = h - xTa o + xLe o := by unfold xTpu; rw [e]
theorem ySu_1 {U : yU} {x o : Nat} (e : U.1 x = o) (h : ¬ o = 15) (h2 : ¬ o = 17) : ySu U x (x + 1) := Or.inl ⟨by rw [e]; exact h2, Or.inr ⟨by rw [e]; exact h, rfl⟩⟩
theorem yR1 {U : yU} {N x o h y h' : Nat} (r : xRel N U.1 U.2.1 U.2.2.1 x h) (e : U.1 x = o) (h15 : ¬ o = 15) (h17 : ¬ o = 17) (hx : x < N) (ht : xTa o ≤ h) (ey : y = x + 1) (eh : h' = h - xTa o + xLe o) : xRel N U.1 U.2.1 U.2.2.1 y h' := by
  subst ey eh
  have q := xRel_s r hx (by rw [e]; exact ht) (ySu_1 e h15 h17)
  rw [yTp e] at q
  exact q
theorem yR2 {U : yU} {N x h y h' : Nat} (r : xRel N U.1 U.2.1 U.2.2.1 x h) (e : U.1 x = 14) (hx : x < N) (ht : 1 ≤ h) (es : U.2.2.1 x = nI y) (hy : y < 1000) (eh : h' = h - 1) : xRel N U.1 U.2.1 U.2.2.1 y h' := by
  subst eh
  have q := xRel_s r hx (by rw [e]; exact ht) (Or.inr ⟨e, hy, es⟩)
  rw [yTp e] at q
  exact q
theorem yTaLe : ∀ o, o < 22 → 2 ≤ o → o ≤ 11 → xTa o = 2 ∧ xLe o = 1 := by decide +kernel
theorem yAE_of {U : yU} {O : Nat → Nat} {A : Nat → Int32} {n B N : Nat} (hT : xTok O A n) (hB : ∀ p, p < n → O p = 17 → ∀ v, v < 8 → A p = nI v → v < B) : ∀ k p b, xVF O n k p → yLay (fun i o => U.1 i = o) U O A k p b → yAE U B N b (xSz O k p) (xNx O k p - p) (yMx O k p) := by
  intro k p b hv hL
  have hP : ∀ i o, (2 ≤ o ∧ o ≤ 12) ∨ o = 19 → U.1 i = o → yFo (U.1 i) := by intro i o h e; rw [e]; unfold yFo; omega
  refine yInd hT hB (fun b z t m => yAE U B N b z t m) ?_ ?_ ?_ ?_ ?_ ?_ ?_ ?_ ?_ k p b hv hL
  · intro b a r0 hb
    have N0 : yN U B b := yN_0 r0
    have lt : xLe 0 = 1 ∧ xTa 0 = 0 := ⟨rfl, rfl⟩
    refine ⟨fun x h1 h2 => ?_, fun H => ⟨fun x => if x = b then H else H + 1, if_pos rfl, if_neg (by omega), ⟨Nat.le_refl _, Nat.le_refl _⟩, fun x h1 h2 => ?_, ⟨b, Nat.le_refl _, by omega, ?_⟩, fun hN hr x h1 h2 => ?_⟩⟩
    · obtain rfl : x = b := by omega
      refine ⟨N0.1, fun y hy => ?_⟩
      have := N0.2.1 y hy
      omega
    · obtain rfl : x = b := by omega
      show _ ≤ (if x = x then H else H + 1) ∧ xTpu U.1 x (if x = x then H else H + 1) ≤ _ ∧ _
      rw [if_pos rfl, yTp r0.1, r0.1]
      refine ⟨by omega, (by show _ ≤ H + 1; omega), fun y hy => ?_⟩
      have e := N0.2.1 y hy
      show (if y = x then H else H + 1) = xTpu U.1 x (if x = x then H else H + 1)
      rw [if_pos rfl, yTp r0.1, if_neg (by omega)]
      omega
    · show xTpu U.1 b (if b = b then H else H + 1) = _
      rw [if_pos rfl, yTp r0.1]
      show _ = H + 1
      omega
    · show xRel N U.1 U.2.1 U.2.2.1 x (if x = b then H else H + 1)
      by_cases q : x = b
      · rw [if_pos q, q]; exact hr
      · rw [if_neg q]
        exact yR1 hr r0.1 (by omega) (by omega) (by omega) (by omega) (by omega) (by omega)
  · intro b v hv r0 hb
    have N0 : yN U B b := yN_v r0 (Or.inl rfl) hv
    have lt : xLe 1 = 1 ∧ xTa 1 = 0 := ⟨rfl, rfl⟩
    refine ⟨fun x h1 h2 => ?_, fun H => ⟨fun x => if x = b then H else H + 1, if_pos rfl, if_neg (by omega), ⟨Nat.le_refl _, Nat.le_refl _⟩, fun x h1 h2 => ?_, ⟨b, Nat.le_refl _, by omega, ?_⟩, fun hN hr x h1 h2 => ?_⟩⟩
    · obtain rfl : x = b := by omega
      refine ⟨N0.1, fun y hy => ?_⟩
      have := N0.2.1 y hy
      omega
    · obtain rfl : x = b := by omega
      show _ ≤ (if x = x then H else H + 1) ∧ xTpu U.1 x (if x = x then H else H + 1) ≤ _ ∧ _
      rw [if_pos rfl, yTp r0.1, r0.1]
      refine ⟨by omega, (by show _ ≤ H + 1; omega), fun y hy => ?_⟩
      have e := N0.2.1 y hy
      show (if y = x then H else H + 1) = xTpu U.1 x (if x = x then H else H + 1)
      rw [if_pos rfl, yTp r0.1, if_neg (by omega)]
      omega
    · show xTpu U.1 b (if b = b then H else H + 1) = _
      rw [if_pos rfl, yTp r0.1]
      show _ = H + 1
      omega
    · show xRel N U.1 U.2.1 U.2.2.1 x (if x = b then H else H + 1)
      by_cases q : x = b
      · rw [if_pos q, q]; exact hr
      · rw [if_neg q]
        exact yR1 hr r0.1 (by omega) (by omega) (by omega) (by omega) (by omega) (by omega)
  · intro b z0 t0 m0 a0 b0 c0 r0 hb
    obtain ⟨A0, B0⟩ := c0 (by omega)
    have N0 : yN U B (b + z0) := yN_f (hP _ _ (Or.inl (by omega)) r0)
    have sp : ∀ x, b ≤ x → x < b + (z0 + 1) → (b ≤ x ∧ x < b + z0) ∨ x = b + z0 := by intro x h1 h2; omega
    refine ⟨fun x h1 h2 => ?_, ?_⟩
    · rcases sp x h1 h2 with ⟨f1, f2⟩ | rfl
      · refine ⟨(A0 x f1 f2).1, fun y hy => ?_⟩
        have q := (A0 x f1 f2).2 y hy
        omega
      · refine ⟨N0.1, fun y hy => ?_⟩
        have q := N0.2.1 y hy
        omega
    · intro H
      obtain ⟨β0, s0, e0, k0, d0, x0, r00⟩ := B0 (H)
      obtain ⟨Mx, eM⟩ : ∃ Mx, Mx = m0 H := ⟨_, rfl⟩
      have hmx : H + 1 ≤ Mx ∧ Mx ≤ H + (t0 + 1) := by omega
      have mx0 : m0 (H) ≤ Mx := by omega
      obtain ⟨γ, eγ⟩ : ∃ γ : Nat → Nat, ∀ x, γ x = (if x < b + z0 then β0 x else if x = b + z0 then H + 1 else H + 1) := ⟨fun x => if x < b + z0 then β0 x else if x = b + z0 then H + 1 else H + 1, fun _ => rfl⟩
      have gE : γ (b + (z0 + 1)) = H + 1 := by rw [eγ, if_neg (by omega), if_neg (by omega)]
      have g1 : γ (b + z0) = H + 1 := by rw [eγ, if_neg (by omega), if_pos (by omega)]
      have g0 : ∀ x, b ≤ x → x < b + z0 → γ x = β0 x := by intro x h1 h2; rw [eγ, if_pos (by omega)]
      have ev0 : γ (b + z0) = β0 (b + z0) := by
        have q := e0
        rw [g1]
        omega
      have j0 : ∀ x, b ≤ x → x ≤ b + z0 → γ x = β0 x := by
        intro x h1 h2
        by_cases q : x = b + z0
        · rw [q]; exact ev0
        · exact g0 x h1 (by omega)
      have o1 : U.1 (b + z0) = 12 := r0
      have l1 : xTa 12 = 1 ∧ xLe 12 = 1 := ⟨rfl, rfl⟩
      refine ⟨γ, by rw [g0 b (by omega) (by omega)]; exact s0, gE, (by show _ ≤ m0 H ∧ m0 H ≤ _; rw [← eM]; exact hmx), fun x h1 h2 => ?_, ?_, fun hN hr => ?_⟩
      · rcases sp x h1 h2 with ⟨f1, f2⟩ | rfl
        · have q := d0 x f1 f2
          rw [g0 x f1 f2]
          refine ⟨q.1, (by show _ ≤ m0 H; rw [← eM]; exact Nat.le_trans q.2.1 mx0), fun y hy => ?_⟩
          have q2 := (A0 x f1 f2).2 y hy
          rw [j0 y q2.1 q2.2]
          exact q.2.2 y hy
        · rw [g1, yTp o1, o1]
          refine ⟨by omega, (by show _ ≤ m0 H; rw [← eM]; omega), fun y hy => ?_⟩
          have q := N0.2.1 y hy
          rw [show y = b + (z0 + 1) by omega, gE]; omega
      · have q : Mx = m0 (H) := eM
        obtain ⟨x, h1, h2, h3⟩ := x0
        exact ⟨x, by omega, by omega, by rw [g0 x h1 h2, h3]; show _ = m0 H; rw [← eM]; exact q.symm⟩
      · have R0 : xRel N U.1 U.2.1 U.2.2.1 b (H) := hr
        have P0 := r00 (by omega) R0
        have R1 : xRel N U.1 U.2.1 U.2.2.1 (b + z0) (H + 1) := by
          have q := P0 (b + z0) (by omega) (Nat.le_refl _)
          rw [e0] at q
          rw [show b + z0 = b + z0 by omega, show H + 1 = H + 1 by omega]; exact q
        have R2 : xRel N U.1 U.2.1 U.2.2.1 (b + (z0 + 1)) (H + 1) := yR1 R1 o1 (by omega) (by omega) (by omega) (by omega) (by omega) (by omega)
        intro x h1 h2
        by_cases q : x = b + (z0 + 1)
        · rw [q, gE]; exact R2
        · rcases sp x h1 (by omega) with ⟨f1, f2⟩ | rfl
          · rw [g0 x f1 f2]; exact P0 x f1 (by omega)
          · rw [g1]; exact R1
  · intro b v z0 t0 z1 t1 z2 t2 m0 m1 m2 hv a0 b0 a1 b1 a2 b2 c0 r0 r1 c1 r2 c2 hb
    obtain ⟨A0, B0⟩ := c0 (by omega)
    obtain ⟨A1, B1⟩ := c1 (by omega)
    obtain ⟨A2, B2⟩ := c2 (by omega)
    have N0 := yN_i (B := B) r0 hv r1 (by omega)
    have N1 := yN_g (B := B) r2 (by omega)
    have sp : ∀ x, b ≤ x → x < b + (z0 + z1 + z2 + 2) → (b ≤ x ∧ x < b + z0) ∨ x = b + z0 ∨ (b + z0 + 1 ≤ x ∧ x < b + z0 + 1 + z1) ∨ x = b + z0 + 1 + z1 ∨ (b + z0 + 1 + z1 + 1 ≤ x ∧ x < b + z0 + 1 + z1 + 1 + z2) := by intro x h1 h2; omega
    refine ⟨fun x h1 h2 => ?_, ?_⟩
    · rcases sp x h1 h2 with ⟨f1, f2⟩ | rfl | ⟨f1, f2⟩ | rfl | ⟨f1, f2⟩
      · refine ⟨(A0 x f1 f2).1, fun y hy => ?_⟩
        have q := (A0 x f1 f2).2 y hy
        omega
      · refine ⟨N0.1, fun y hy => ?_⟩
        have q := N0.2.1 y hy
        omega
      · refine ⟨(A1 x f1 f2).1, fun y hy => ?_⟩
        have q := (A1 x f1 f2).2 y hy
        omega
      · refine ⟨N1.1, fun y hy => ?_⟩
        have q := N1.2.1 y hy
        omega
      · refine ⟨(A2 x f1 f2).1, fun y hy => ?_⟩
        have q := (A2 x f1 f2).2 y hy
        omega
    · intro H
      obtain ⟨β0, s0, e0, k0, d0, x0, r00⟩ := B0 (H)
      obtain ⟨β1, s1, e1, k1, d1, x1, r11⟩ := B1 (H)
      obtain ⟨β2, s2, e2, k2, d2, x2, r22⟩ := B2 (H)
      obtain ⟨Mx, eM⟩ : ∃ Mx, Mx = max (m0 H) (max (m1 H) (m2 H)) := ⟨_, rfl⟩
      have hmx : H + 1 ≤ Mx ∧ Mx ≤ H + (t0 + t1 + t2 + 1) := by omega
      have mx0 : m0 (H) ≤ Mx := by omega
      have mx1 : m1 (H) ≤ Mx := by omega
      have mx2 : m2 (H) ≤ Mx := by omega
      have att : Mx = m0 (H) ∨ Mx = m1 (H) ∨ Mx = m2 (H) := by omega
      obtain ⟨γ, eγ⟩ : ∃ γ : Nat → Nat, ∀ x, γ x = (if x < b + z0 then β0 x else if x = b + z0 then H + 1 else if x < b + z0 + 1 + z1 then β1 x else if x = b + z0 + 1 + z1 then H + 1 else if x < b + z0 + 1 + z1 + 1 + z2 then β2 x else H + 1) := ⟨fun x => if x < b + z0 then β0 x else if x = b + z0 then H + 1 else if x < b + z0 + 1 + z1 then β1 x else if x = b + z0 + 1 + z1 then H + 1 else if x < b + z0 + 1 + z1 + 1 + z2 then β2 x else H + 1, fun _ => rfl⟩
      have gE : γ (b + (z0 + z1 + z2 + 2)) = H + 1 := by rw [eγ, if_neg (by omega), if_neg (by omega), if_neg (by omega), if_neg (by omega), if_neg (by omega)]
      have g4 : ∀ x, b + z0 + 1 + z1 + 1 ≤ x → x < b + z0 + 1 + z1 + 1 + z2 → γ x = β2 x := by intro x h1 h2; rw [eγ, if_neg (by omega), if_neg (by omega), if_neg (by omega), if_neg (by omega), if_pos (by omega)]
      have ev4 : γ (b + z0 + 1 + z1 + 1 + z2) = β2 (b + z0 + 1 + z1 + 1 + z2) := by
        have q := e2
        rw [show b + z0 + 1 + z1 + 1 + z2 = b + (z0 + z1 + z2 + 2) by omega] at q ⊢
        omega
      have j4 : ∀ x, b + z0 + 1 + z1 + 1 ≤ x → x ≤ b + z0 + 1 + z1 + 1 + z2 → γ x = β2 x := by
        intro x h1 h2
        by_cases q : x = b + z0 + 1 + z1 + 1 + z2
        · rw [q]; exact ev4
        · exact g4 x h1 (by omega)
      have g3 : γ (b + z0 + 1 + z1) = H + 1 := by rw [eγ, if_neg (by omega), if_neg (by omega), if_neg (by omega), if_pos (by omega)]
      have g2 : ∀ x, b + z0 + 1 ≤ x → x < b + z0 + 1 + z1 → γ x = β1 x := by intro x h1 h2; rw [eγ, if_neg (by omega), if_neg (by omega), if_pos (by omega)]
      have ev2 : γ (b + z0 + 1 + z1) = β1 (b + z0 + 1 + z1) := by
        have q := e1
        rw [g3]
        omega
      have j2 : ∀ x, b + z0 + 1 ≤ x → x ≤ b + z0 + 1 + z1 → γ x = β1 x := by
        intro x h1 h2
        by_cases q : x = b + z0 + 1 + z1
        · rw [q]; exact ev2
        · exact g2 x h1 (by omega)
      have g1 : γ (b + z0) = H + 1 := by rw [eγ, if_neg (by omega), if_pos (by omega)]
      have g0 : ∀ x, b ≤ x → x < b + z0 → γ x = β0 x := by intro x h1 h2; rw [eγ, if_pos (by omega)]
      have ev0 : γ (b + z0) = β0 (b + z0) := by
        have q := e0
        rw [g1]
        omega
      have j0 : ∀ x, b ≤ x → x ≤ b + z0 → γ x = β0 x := by
        intro x h1 h2
        by_cases q : x = b + z0
        · rw [q]; exact ev0
        · exact g0 x h1 (by omega)
      have o1 : U.1 (b + z0) = 14 := r0.1
      have l1 : xTa 14 = 1 ∧ xLe 14 = 0 := ⟨rfl, rfl⟩
      have o3 : U.1 (b + z0 + 1 + z1) = 15 := r2.1
      have l3 : xTa 15 = 0 ∧ xLe 15 = 0 := ⟨rfl, rfl⟩
      refine ⟨γ, by rw [g0 b (by omega) (by omega)]; exact s0, gE, (by show _ ≤ max (m0 H) (max (m1 H) (m2 H)) ∧ max (m0 H) (max (m1 H) (m2 H)) ≤ _; rw [← eM]; exact hmx), fun x h1 h2 => ?_, ?_, fun hN hr => ?_⟩
      · rcases sp x h1 h2 with ⟨f1, f2⟩ | rfl | ⟨f1, f2⟩ | rfl | ⟨f1, f2⟩
        · have q := d0 x f1 f2
          rw [g0 x f1 f2]
          refine ⟨q.1, (by show _ ≤ max (m0 H) (max (m1 H) (m2 H)); rw [← eM]; exact Nat.le_trans q.2.1 mx0), fun y hy => ?_⟩
          have q2 := (A0 x f1 f2).2 y hy
          rw [j0 y q2.1 q2.2]
          exact q.2.2 y hy
        · rw [g1, yTp o1, o1]
          refine ⟨by omega, (by show _ ≤ max (m0 H) (max (m1 H) (m2 H)); rw [← eM]; omega), fun y hy => ?_⟩
          have q := N0.2.1 y hy
          rcases q with q | q
          · rw [show y = b + z0 + 1 by omega, (show γ (b + z0 + 1) = H from (by rw [g2 _ (by omega) (by omega)]; exact s1))]; omega
          · rw [q, (show γ (b + z0 + 1 + z1 + 1) = H from (by rw [g4 _ (by omega) (by omega)]; exact s2))]; omega
        · have q := d1 x f1 f2
          rw [g2 x f1 f2]
          refine ⟨q.1, (by show _ ≤ max (m0 H) (max (m1 H) (m2 H)); rw [← eM]; exact Nat.le_trans q.2.1 mx1), fun y hy => ?_⟩
          have q2 := (A1 x f1 f2).2 y hy
          rw [j2 y q2.1 q2.2]
          exact q.2.2 y hy
        · rw [g3, yTp o3, o3]
          refine ⟨by omega, (by show _ ≤ max (m0 H) (max (m1 H) (m2 H)); rw [← eM]; omega), fun y hy => ?_⟩
          have q := N1.2.1 y hy
          rw [show y = b + (z0 + z1 + z2 + 2) by omega, gE]; omega
        · have q := d2 x f1 f2
          rw [g4 x f1 f2]
          refine ⟨q.1, (by show _ ≤ max (m0 H) (max (m1 H) (m2 H)); rw [← eM]; exact Nat.le_trans q.2.1 mx2), fun y hy => ?_⟩
          have q2 := (A2 x f1 f2).2 y hy
          rw [j4 y q2.1 q2.2]
          exact q.2.2 y hy
      · rcases att with q | q | q
        · obtain ⟨x, h1, h2, h3⟩ := x0
          exact ⟨x, by omega, by omega, by rw [g0 x h1 h2, h3]; show _ = max (m0 H) (max (m1 H) (m2 H)); rw [← eM]; exact q.symm⟩
        · obtain ⟨x, h1, h2, h3⟩ := x1
          exact ⟨x, by omega, by omega, by rw [g2 x h1 h2, h3]; show _ = max (m0 H) (max (m1 H) (m2 H)); rw [← eM]; exact q.symm⟩
        · obtain ⟨x, h1, h2, h3⟩ := x2
          exact ⟨x, by omega, by omega, by rw [g4 x h1 h2, h3]; show _ = max (m0 H) (max (m1 H) (m2 H)); rw [← eM]; exact q.symm⟩
      · have R0 : xRel N U.1 U.2.1 U.2.2.1 b (H) := hr
        have P0 := r00 (by omega) R0
        have R1 : xRel N U.1 U.2.1 U.2.2.1 (b + z0) (H + 1) := by
          have q := P0 (b + z0) (by omega) (Nat.le_refl _)
          rw [e0] at q
          rw [show b + z0 = b + z0 by omega, show H + 1 = H + 1 by omega]; exact q
        have R2 : xRel N U.1 U.2.1 U.2.2.1 (b + z0 + 1) (H) := yR1 R1 o1 (by omega) (by omega) (by omega) (by omega) (by omega) (by omega)
        have R3 : xRel N U.1 U.2.1 U.2.2.1 (b + z0 + 1 + z1 + 1) (H) := yR2 R1 o1 (by omega) (by omega) r1 (by omega) (by omega)
        have P2 := r11 (by omega) R2
        have R4 : xRel N U.1 U.2.1 U.2.2.1 (b + z0 + 1 + z1) (H + 1) := by
          have q := P2 (b + z0 + 1 + z1) (by omega) (Nat.le_refl _)
          rw [e1] at q
          rw [show b + z0 + 1 + z1 = b + z0 + 1 + z1 by omega, show H + 1 = H + 1 by omega]; exact q
        have P4 := r22 (by omega) R3
        have R5 : xRel N U.1 U.2.1 U.2.2.1 (b + (z0 + z1 + z2 + 2)) (H + 1) := by
          have q := P4 (b + z0 + 1 + z1 + 1 + z2) (by omega) (Nat.le_refl _)
          rw [e2] at q
          rw [show b + (z0 + z1 + z2 + 2) = b + z0 + 1 + z1 + 1 + z2 by omega, show H + 1 = H + 1 by omega]; exact q
        intro x h1 h2
        by_cases q : x = b + (z0 + z1 + z2 + 2)
        · rw [q, gE]; exact R5
        · rcases sp x h1 (by omega) with ⟨f1, f2⟩ | rfl | ⟨f1, f2⟩ | rfl | ⟨f1, f2⟩
          · rw [g0 x f1 f2]; exact P0 x f1 (by omega)
          · rw [g1]; exact R1
          · rw [g2 x f1 f2]; exact P2 x f1 (by omega)
          · rw [g3]; exact R4
          · rw [g4 x f1 f2]; exact P4 x f1 (by omega)
  · intro b v z0 t0 z1 t1 m0 m1 hv a0 b0 a1 b1 c0 r0 c1 hb
    obtain ⟨A0, B0⟩ := c0 (by omega)
    obtain ⟨A1, B1⟩ := c1 (by omega)
    have N0 : yN U B (b + z0) := yN_v r0 (Or.inr rfl) hv
    have sp : ∀ x, b ≤ x → x < b + (z0 + z1 + 1) → (b ≤ x ∧ x < b + z0) ∨ x = b + z0 ∨ (b + z0 + 1 ≤ x ∧ x < b + z0 + 1 + z1) := by intro x h1 h2; omega
    refine ⟨fun x h1 h2 => ?_, ?_⟩
    · rcases sp x h1 h2 with ⟨f1, f2⟩ | rfl | ⟨f1, f2⟩
      · refine ⟨(A0 x f1 f2).1, fun y hy => ?_⟩
        have q := (A0 x f1 f2).2 y hy
        omega
      · refine ⟨N0.1, fun y hy => ?_⟩
        have q := N0.2.1 y hy
        omega
      · refine ⟨(A1 x f1 f2).1, fun y hy => ?_⟩
        have q := (A1 x f1 f2).2 y hy
        omega
    · intro H
      obtain ⟨β0, s0, e0, k0, d0, x0, r00⟩ := B0 (H)
      obtain ⟨β1, s1, e1, k1, d1, x1, r11⟩ := B1 (H)
      obtain ⟨Mx, eM⟩ : ∃ Mx, Mx = max (m0 H) (m1 H) := ⟨_, rfl⟩
      have hmx : H + 1 ≤ Mx ∧ Mx ≤ H + (t0 + t1 + 1) := by omega
      have mx0 : m0 (H) ≤ Mx := by omega
      have mx1 : m1 (H) ≤ Mx := by omega
      have att : Mx = m0 (H) ∨ Mx = m1 (H) := by omega
      obtain ⟨γ, eγ⟩ : ∃ γ : Nat → Nat, ∀ x, γ x = (if x < b + z0 then β0 x else if x = b + z0 then H + 1 else if x < b + z0 + 1 + z1 then β1 x else H + 1) := ⟨fun x => if x < b + z0 then β0 x else if x = b + z0 then H + 1 else if x < b + z0 + 1 + z1 then β1 x else H + 1, fun _ => rfl⟩
      have gE : γ (b + (z0 + z1 + 1)) = H + 1 := by rw [eγ, if_neg (by omega), if_neg (by omega), if_neg (by omega)]
      have g2 : ∀ x, b + z0 + 1 ≤ x → x < b + z0 + 1 + z1 → γ x = β1 x := by intro x h1 h2; rw [eγ, if_neg (by omega), if_neg (by omega), if_pos (by omega)]
      have ev2 : γ (b + z0 + 1 + z1) = β1 (b + z0 + 1 + z1) := by
        have q := e1
        rw [show b + z0 + 1 + z1 = b + (z0 + z1 + 1) by omega] at q ⊢
        omega
      have j2 : ∀ x, b + z0 + 1 ≤ x → x ≤ b + z0 + 1 + z1 → γ x = β1 x := by
        intro x h1 h2
        by_cases q : x = b + z0 + 1 + z1
        · rw [q]; exact ev2
        · exact g2 x h1 (by omega)
      have g1 : γ (b + z0) = H + 1 := by rw [eγ, if_neg (by omega), if_pos (by omega)]
      have g0 : ∀ x, b ≤ x → x < b + z0 → γ x = β0 x := by intro x h1 h2; rw [eγ, if_pos (by omega)]
      have ev0 : γ (b + z0) = β0 (b + z0) := by
        have q := e0
        rw [g1]
        omega
      have j0 : ∀ x, b ≤ x → x ≤ b + z0 → γ x = β0 x := by
        intro x h1 h2
        by_cases q : x = b + z0
        · rw [q]; exact ev0
        · exact g0 x h1 (by omega)
      have o1 : U.1 (b + z0) = 13 := r0.1
      have l1 : xTa 13 = 1 ∧ xLe 13 = 0 := ⟨rfl, rfl⟩
      refine ⟨γ, by rw [g0 b (by omega) (by omega)]; exact s0, gE, (by show _ ≤ max (m0 H) (m1 H) ∧ max (m0 H) (m1 H) ≤ _; rw [← eM]; exact hmx), fun x h1 h2 => ?_, ?_, fun hN hr => ?_⟩
      · rcases sp x h1 h2 with ⟨f1, f2⟩ | rfl | ⟨f1, f2⟩
        · have q := d0 x f1 f2
          rw [g0 x f1 f2]
          refine ⟨q.1, (by show _ ≤ max (m0 H) (m1 H); rw [← eM]; exact Nat.le_trans q.2.1 mx0), fun y hy => ?_⟩
          have q2 := (A0 x f1 f2).2 y hy
          rw [j0 y q2.1 q2.2]
          exact q.2.2 y hy
        · rw [g1, yTp o1, o1]
          refine ⟨by omega, (by show _ ≤ max (m0 H) (m1 H); rw [← eM]; omega), fun y hy => ?_⟩
          have q := N0.2.1 y hy
          rw [show y = b + z0 + 1 by omega, (show γ (b + z0 + 1) = H from (by rw [g2 _ (by omega) (by omega)]; exact s1))]; omega
        · have q := d1 x f1 f2
          rw [g2 x f1 f2]
          refine ⟨q.1, (by show _ ≤ max (m0 H) (m1 H); rw [← eM]; exact Nat.le_trans q.2.1 mx1), fun y hy => ?_⟩
          have q2 := (A1 x f1 f2).2 y hy
          rw [j2 y q2.1 q2.2]
          exact q.2.2 y hy
      · rcases att with q | q
        · obtain ⟨x, h1, h2, h3⟩ := x0
          exact ⟨x, by omega, by omega, by rw [g0 x h1 h2, h3]; show _ = max (m0 H) (m1 H); rw [← eM]; exact q.symm⟩
        · obtain ⟨x, h1, h2, h3⟩ := x1
          exact ⟨x, by omega, by omega, by rw [g2 x h1 h2, h3]; show _ = max (m0 H) (m1 H); rw [← eM]; exact q.symm⟩
      · have R0 : xRel N U.1 U.2.1 U.2.2.1 b (H) := hr
        have P0 := r00 (by omega) R0
        have R1 : xRel N U.1 U.2.1 U.2.2.1 (b + z0) (H + 1) := by
          have q := P0 (b + z0) (by omega) (Nat.le_refl _)
          rw [e0] at q
          rw [show b + z0 = b + z0 by omega, show H + 1 = H + 1 by omega]; exact q
        have R2 : xRel N U.1 U.2.1 U.2.2.1 (b + z0 + 1) (H) := yR1 R1 o1 (by omega) (by omega) (by omega) (by omega) (by omega) (by omega)
        have P2 := r11 (by omega) R2
        have R3 : xRel N U.1 U.2.1 U.2.2.1 (b + (z0 + z1 + 1)) (H + 1) := by
          have q := P2 (b + z0 + 1 + z1) (by omega) (Nat.le_refl _)
          rw [e1] at q
          rw [show b + (z0 + z1 + 1) = b + z0 + 1 + z1 by omega, show H + 1 = H + 1 by omega]; exact q
        intro x h1 h2
        by_cases q : x = b + (z0 + z1 + 1)
        · rw [q, gE]; exact R3
        · rcases sp x h1 (by omega) with ⟨f1, f2⟩ | rfl | ⟨f1, f2⟩
          · rw [g0 x f1 f2]; exact P0 x f1 (by omega)
          · rw [g1]; exact R1
          · rw [g2 x f1 f2]; exact P2 x f1 (by omega)
  · intro b v z0 t0 m0 hv a0 b0 c0 r0 r1 hb
    obtain ⟨A0, B0⟩ := c0 (by omega)
    have N0 : yN U B (b + z0) := yN_f (hP _ _ (Or.inr rfl) r0)
    have N1 : yN U B (b + z0 + 1) := yN_v r1 (Or.inr rfl) hv
    have sp : ∀ x, b ≤ x → x < b + (z0 + 2) → (b ≤ x ∧ x < b + z0) ∨ x = b + z0 ∨ x = b + z0 + 1 := by intro x h1 h2; omega
    refine ⟨fun x h1 h2 => ?_, ?_⟩
    · rcases sp x h1 h2 with ⟨f1, f2⟩ | rfl | rfl
      · refine ⟨(A0 x f1 f2).1, fun y hy => ?_⟩
        have q := (A0 x f1 f2).2 y hy
        omega
      · refine ⟨N0.1, fun y hy => ?_⟩
        have q := N0.2.1 y hy
        omega
      · refine ⟨N1.1, fun y hy => ?_⟩
        have q := N1.2.1 y hy
        omega
    · intro H
      obtain ⟨β0, s0, e0, k0, d0, x0, r00⟩ := B0 (H)
      obtain ⟨Mx, eM⟩ : ∃ Mx, Mx = max (m0 H) (H + 2) := ⟨_, rfl⟩
      have hmx : H + 1 ≤ Mx ∧ Mx ≤ H + (t0 + 1) := by omega
      have mx0 : m0 (H) ≤ Mx := by omega
      have mu : H + 2 ≤ Mx := by omega
      have att : Mx = m0 (H) ∨ Mx = H + 2 := by omega
      obtain ⟨γ, eγ⟩ : ∃ γ : Nat → Nat, ∀ x, γ x = (if x < b + z0 then β0 x else if x = b + z0 then H + 1 else if x = b + z0 + 1 then H + 2 else H + 1) := ⟨fun x => if x < b + z0 then β0 x else if x = b + z0 then H + 1 else if x = b + z0 + 1 then H + 2 else H + 1, fun _ => rfl⟩
      have gE : γ (b + (z0 + 2)) = H + 1 := by rw [eγ, if_neg (by omega), if_neg (by omega), if_neg (by omega)]
      have g2 : γ (b + z0 + 1) = H + 2 := by rw [eγ, if_neg (by omega), if_neg (by omega), if_pos (by omega)]
      have g1 : γ (b + z0) = H + 1 := by rw [eγ, if_neg (by omega), if_pos (by omega)]
      have g0 : ∀ x, b ≤ x → x < b + z0 → γ x = β0 x := by intro x h1 h2; rw [eγ, if_pos (by omega)]
      have ev0 : γ (b + z0) = β0 (b + z0) := by
        have q := e0
        rw [g1]
        omega
      have j0 : ∀ x, b ≤ x → x ≤ b + z0 → γ x = β0 x := by
        intro x h1 h2
        by_cases q : x = b + z0
        · rw [q]; exact ev0
        · exact g0 x h1 (by omega)
      have o1 : U.1 (b + z0) = 19 := r0
      have l1 : xTa 19 = 1 ∧ xLe 19 = 2 := ⟨rfl, rfl⟩
      have o2 : U.1 (b + z0 + 1) = 13 := r1.1
      have l2 : xTa 13 = 1 ∧ xLe 13 = 0 := ⟨rfl, rfl⟩
      refine ⟨γ, by rw [g0 b (by omega) (by omega)]; exact s0, gE, (by show _ ≤ max (m0 H) (H + 2) ∧ max (m0 H) (H + 2) ≤ _; rw [← eM]; exact hmx), fun x h1 h2 => ?_, ?_, fun hN hr => ?_⟩
      · rcases sp x h1 h2 with ⟨f1, f2⟩ | rfl | rfl
        · have q := d0 x f1 f2
          rw [g0 x f1 f2]
          refine ⟨q.1, (by show _ ≤ max (m0 H) (H + 2); rw [← eM]; exact Nat.le_trans q.2.1 mx0), fun y hy => ?_⟩
          have q2 := (A0 x f1 f2).2 y hy
          rw [j0 y q2.1 q2.2]
          exact q.2.2 y hy
        · rw [g1, yTp o1, o1]
          refine ⟨by omega, (by show _ ≤ max (m0 H) (H + 2); rw [← eM]; omega), fun y hy => ?_⟩
          have q := N0.2.1 y hy
          rw [show y = b + z0 + 1 by omega, g2]; omega
        · rw [g2, yTp o2, o2]
          refine ⟨by omega, (by show _ ≤ max (m0 H) (H + 2); rw [← eM]; omega), fun y hy => ?_⟩
          have q := N1.2.1 y hy
          rw [show y = b + (z0 + 2) by omega, gE]; omega
      · rcases att with q | q
        · obtain ⟨x, h1, h2, h3⟩ := x0
          exact ⟨x, by omega, by omega, by rw [g0 x h1 h2, h3]; show _ = max (m0 H) (H + 2); rw [← eM]; exact q.symm⟩
        · exact ⟨b + z0, by omega, by omega, by rw [g1, yTp o1]; show _ = max (m0 H) (H + 2); rw [← eM]; omega⟩
      · have R0 : xRel N U.1 U.2.1 U.2.2.1 b (H) := hr
        have P0 := r00 (by omega) R0
        have R1 : xRel N U.1 U.2.1 U.2.2.1 (b + z0) (H + 1) := by
          have q := P0 (b + z0) (by omega) (Nat.le_refl _)
          rw [e0] at q
          rw [show b + z0 = b + z0 by omega, show H + 1 = H + 1 by omega]; exact q
        have R2 : xRel N U.1 U.2.1 U.2.2.1 (b + z0 + 1) (H + 2) := yR1 R1 o1 (by omega) (by omega) (by omega) (by omega) (by omega) (by omega)
        have R3 : xRel N U.1 U.2.1 U.2.2.1 (b + (z0 + 2)) (H + 1) := yR1 R2 o2 (by omega) (by omega) (by omega) (by omega) (by omega) (by omega)
        intro x h1 h2
        by_cases q : x = b + (z0 + 2)
        · rw [q, gE]; exact R3
        · rcases sp x h1 (by omega) with ⟨f1, f2⟩ | rfl | rfl
          · rw [g0 x f1 f2]; exact P0 x f1 (by omega)
          · rw [g1]; exact R1
          · rw [g2]; exact R2
  · intro b v z0 t0 z1 t1 m0 m1 hv a0 b0 a1 b1 c0 c1 ⟨_, u0, u1, u2, u3, u4, _, v0, v1, v2, v3, v4, v5, v6⟩ hb
    obtain ⟨A0, B0⟩ := c0 (by omega)
    obtain ⟨A1, B1⟩ := c1 (by omega)
    have N0 : yN U B (b + z0) := yN_0 u0
    have N1 : yN U B (b + z0 + 1) := yN_x u1 (Or.inl (by omega))
    have N2 : yN U B (b + z0 + 2) := yN_v u2 (Or.inr rfl) hv
    have N3 : yN U B (b + z0 + 3) := yN_v u3 (Or.inl rfl) hv
    have N4 := yN_i (B := B) (v := 1) u4.1 (by omega) u4.2 (by omega)
    have N5 : yN U B (b + z0 + 5 + z1) := yN_x v0 (Or.inr (by omega))
    have N6 : yN U B (b + z0 + 5 + z1 + 1) := yN_v v1 (Or.inl rfl) hv
    have N7 : yN U B (b + z0 + 5 + z1 + 2) := yN_0 v2
    have N8 : yN U B (b + z0 + 5 + z1 + 3) := yN_x v3 (Or.inl (by omega))
    have N9 : yN U B (b + z0 + 5 + z1 + 4) := yN_v v4 (Or.inr rfl) hv
    have N10 := yN_g (B := B) v5 (by omega)
    have N11 : yN U B (b + z0 + 5 + z1 + 6) := yN_0 v6
    have sp : ∀ x, b ≤ x → x < b + (z0 + z1 + 12) → (b ≤ x ∧ x < b + z0) ∨ x = b + z0 ∨ x = b + z0 + 1 ∨ x = b + z0 + 2 ∨ x = b + z0 + 3 ∨ x = b + z0 + 4 ∨ (b + z0 + 5 ≤ x ∧ x < b + z0 + 5 + z1) ∨ x = b + z0 + 5 + z1 ∨ x = b + z0 + 5 + z1 + 1 ∨ x = b + z0 + 5 + z1 + 2 ∨ x = b + z0 + 5 + z1 + 3 ∨ x = b + z0 + 5 + z1 + 4 ∨ x = b + z0 + 5 + z1 + 5 ∨ x = b + z0 + 5 + z1 + 6 := by intro x h1 h2; omega
    refine ⟨fun x h1 h2 => ?_, ?_⟩
    · rcases sp x h1 h2 with ⟨f1, f2⟩ | rfl | rfl | rfl | rfl | rfl | ⟨f1, f2⟩ | rfl | rfl | rfl | rfl | rfl | rfl | rfl
      · refine ⟨(A0 x f1 f2).1, fun y hy => ?_⟩
        have q := (A0 x f1 f2).2 y hy
        omega
      · refine ⟨N0.1, fun y hy => ?_⟩
        have q := N0.2.1 y hy
        omega
      · refine ⟨N1.1, fun y hy => ?_⟩
        have q := N1.2.1 y hy
        omega
      · refine ⟨N2.1, fun y hy => ?_⟩
        have q := N2.2.1 y hy
        omega
      · refine ⟨N3.1, fun y hy => ?_⟩
        have q := N3.2.1 y hy
        omega
      · refine ⟨N4.1, fun y hy => ?_⟩
        have q := N4.2.1 y hy
        omega
      · refine ⟨(A1 x f1 f2).1, fun y hy => ?_⟩
        have q := (A1 x f1 f2).2 y hy
        omega
      · refine ⟨N5.1, fun y hy => ?_⟩
        have q := N5.2.1 y hy
        omega
      · refine ⟨N6.1, fun y hy => ?_⟩
        have q := N6.2.1 y hy
        omega
      · refine ⟨N7.1, fun y hy => ?_⟩
        have q := N7.2.1 y hy
        omega
      · refine ⟨N8.1, fun y hy => ?_⟩
        have q := N8.2.1 y hy
        omega
      · refine ⟨N9.1, fun y hy => ?_⟩
        have q := N9.2.1 y hy
        omega
      · refine ⟨N10.1, fun y hy => ?_⟩
        have q := N10.2.1 y hy
        omega
      · refine ⟨N11.1, fun y hy => ?_⟩
        have q := N11.2.1 y hy
        omega
    · intro H
      obtain ⟨β0, s0, e0, k0, d0, x0, r00⟩ := B0 (H)
      obtain ⟨β1, s1, e1, k1, d1, x1, r11⟩ := B1 (H)
      obtain ⟨Mx, eM⟩ : ∃ Mx, Mx = max (m0 H) (max (H + 2) (m1 H)) := ⟨_, rfl⟩
      have hmx : H + 1 ≤ Mx ∧ Mx ≤ H + (t0 + t1 + 1) := by omega
      have mx0 : m0 (H) ≤ Mx := by omega
      have mx1 : m1 (H) ≤ Mx := by omega
      have mu : H + 2 ≤ Mx := by omega
      have att : Mx = m0 (H) ∨ Mx = H + 2 ∨ Mx = m1 (H) := by omega
      obtain ⟨γ, eγ⟩ : ∃ γ : Nat → Nat, ∀ x, γ x = (if x < b + z0 then β0 x else if x = b + z0 then H + 1 else if x = b + z0 + 1 then H + 2 else if x = b + z0 + 2 then H + 1 else if x = b + z0 + 3 then H else if x = b + z0 + 4 then H + 1 else if x < b + z0 + 5 + z1 then β1 x else if x = b + z0 + 5 + z1 then H + 1 else if x = b + z0 + 5 + z1 + 1 then H else if x = b + z0 + 5 + z1 + 2 then H + 1 else if x = b + z0 + 5 + z1 + 3 then H + 2 else if x = b + z0 + 5 + z1 + 4 then H + 1 else if x = b + z0 + 5 + z1 + 5 then H else if x = b + z0 + 5 + z1 + 6 then H else H + 1) := ⟨fun x => if x < b + z0 then β0 x else if x = b + z0 then H + 1 else if x = b + z0 + 1 then H + 2 else if x = b + z0 + 2 then H + 1 else if x = b + z0 + 3 then H else if x = b + z0 + 4 then H + 1 else if x < b + z0 + 5 + z1 then β1 x else if x = b + z0 + 5 + z1 then H + 1 else if x = b + z0 + 5 + z1 + 1 then H else if x = b + z0 + 5 + z1 + 2 then H + 1 else if x = b + z0 + 5 + z1 + 3 then H + 2 else if x = b + z0 + 5 + z1 + 4 then H + 1 else if x = b + z0 + 5 + z1 + 5 then H else if x = b + z0 + 5 + z1 + 6 then H else H + 1, fun _ => rfl⟩
      have gE : γ (b + (z0 + z1 + 12)) = H + 1 := by rw [eγ, if_neg (by omega), if_neg (by omega), if_neg (by omega), if_neg (by omega), if_neg (by omega), if_neg (by omega), if_neg (by omega), if_neg (by omega), if_neg (by omega), if_neg (by omega), if_neg (by omega), if_neg (by omega), if_neg (by omega), if_neg (by omega)]
      have g13 : γ (b + z0 + 5 + z1 + 6) = H := by rw [eγ, if_neg (by omega), if_neg (by omega), if_neg (by omega), if_neg (by omega), if_neg (by omega), if_neg (by omega), if_neg (by omega), if_neg (by omega), if_neg (by omega), if_neg (by omega), if_neg (by omega), if_neg (by omega), if_neg (by omega), if_pos (by omega)]
      have g12 : γ (b + z0 + 5 + z1 + 5) = H := by rw [eγ, if_neg (by omega), if_neg (by omega), if_neg (by omega), if_neg (by omega), if_neg (by omega), if_neg (by omega), if_neg (by omega), if_neg (by omega), if_neg (by omega), if_neg (by omega), if_neg (by omega), if_neg (by omega), if_pos (by omega)]
      have g11 : γ (b + z0 + 5 + z1 + 4) = H + 1 := by rw [eγ, if_neg (by omega), if_neg (by omega), if_neg (by omega), if_neg (by omega), if_neg (by omega), if_neg (by omega), if_neg (by omega), if_neg (by omega), if_neg (by omega), if_neg (by omega), if_neg (by omega), if_pos (by omega)]
      have g10 : γ (b + z0 + 5 + z1 + 3) = H + 2 := by rw [eγ, if_neg (by omega), if_neg (by omega), if_neg (by omega), if_neg (by omega), if_neg (by omega), if_neg (by omega), if_neg (by omega), if_neg (by omega), if_neg (by omega), if_neg (by omega), if_pos (by omega)]
      have g9 : γ (b + z0 + 5 + z1 + 2) = H + 1 := by rw [eγ, if_neg (by omega), if_neg (by omega), if_neg (by omega), if_neg (by omega), if_neg (by omega), if_neg (by omega), if_neg (by omega), if_neg (by omega), if_neg (by omega), if_pos (by omega)]
      have g8 : γ (b + z0 + 5 + z1 + 1) = H := by rw [eγ, if_neg (by omega), if_neg (by omega), if_neg (by omega), if_neg (by omega), if_neg (by omega), if_neg (by omega), if_neg (by omega), if_neg (by omega), if_pos (by omega)]
      have g7 : γ (b + z0 + 5 + z1) = H + 1 := by rw [eγ, if_neg (by omega), if_neg (by omega), if_neg (by omega), if_neg (by omega), if_neg (by omega), if_neg (by omega), if_neg (by omega), if_pos (by omega)]
      have g6 : ∀ x, b + z0 + 5 ≤ x → x < b + z0 + 5 + z1 → γ x = β1 x := by intro x h1 h2; rw [eγ, if_neg (by omega), if_neg (by omega), if_neg (by omega), if_neg (by omega), if_neg (by omega), if_neg (by omega), if_pos (by omega)]
      have ev6 : γ (b + z0 + 5 + z1) = β1 (b + z0 + 5 + z1) := by
        have q := e1
        rw [g7]
        omega
      have j6 : ∀ x, b + z0 + 5 ≤ x → x ≤ b + z0 + 5 + z1 → γ x = β1 x := by
        intro x h1 h2
        by_cases q : x = b + z0 + 5 + z1
        · rw [q]; exact ev6
        · exact g6 x h1 (by omega)
      have g5 : γ (b + z0 + 4) = H + 1 := by rw [eγ, if_neg (by omega), if_neg (by omega), if_neg (by omega), if_neg (by omega), if_neg (by omega), if_pos (by omega)]
      have g4 : γ (b + z0 + 3) = H := by rw [eγ, if_neg (by omega), if_neg (by omega), if_neg (by omega), if_neg (by omega), if_pos (by omega)]
      have g3 : γ (b + z0 + 2) = H + 1 := by rw [eγ, if_neg (by omega), if_neg (by omega), if_neg (by omega), if_pos (by omega)]
      have g2 : γ (b + z0 + 1) = H + 2 := by rw [eγ, if_neg (by omega), if_neg (by omega), if_pos (by omega)]
      have g1 : γ (b + z0) = H + 1 := by rw [eγ, if_neg (by omega), if_pos (by omega)]
      have g0 : ∀ x, b ≤ x → x < b + z0 → γ x = β0 x := by intro x h1 h2; rw [eγ, if_pos (by omega)]
      have ev0 : γ (b + z0) = β0 (b + z0) := by
        have q := e0
        rw [g1]
        omega
      have j0 : ∀ x, b ≤ x → x ≤ b + z0 → γ x = β0 x := by
        intro x h1 h2
        by_cases q : x = b + z0
        · rw [q]; exact ev0
        · exact g0 x h1 (by omega)
      have o1 : U.1 (b + z0) = 0 := u0.1
      have l1 : xTa 0 = 0 ∧ xLe 0 = 1 := ⟨rfl, rfl⟩
      have o2 : U.1 (b + z0 + 1) = 7 := u1.1
      have l2 : xTa 7 = 2 ∧ xLe 7 = 1 := ⟨rfl, rfl⟩
      have o3 : U.1 (b + z0 + 2) = 13 := u2.1
      have l3 : xTa 13 = 1 ∧ xLe 13 = 0 := ⟨rfl, rfl⟩
      have o4 : U.1 (b + z0 + 3) = 1 := u3.1
      have l4 : xTa 1 = 0 ∧ xLe 1 = 1 := ⟨rfl, rfl⟩
      have o5 : U.1 (b + z0 + 4) = 14 := u4.1.1
      have l5 : xTa 14 = 1 ∧ xLe 14 = 0 := ⟨rfl, rfl⟩
      have o7 : U.1 (b + z0 + 5 + z1) = 18 := v0.1
      have l7 : xTa 18 = 1 ∧ xLe 18 = 0 := ⟨rfl, rfl⟩
      have o8 : U.1 (b + z0 + 5 + z1 + 1) = 1 := v1.1
      have l8 : xTa 1 = 0 ∧ xLe 1 = 1 := ⟨rfl, rfl⟩
      have o9 : U.1 (b + z0 + 5 + z1 + 2) = 0 := v2.1
      have l9 : xTa 0 = 0 ∧ xLe 0 = 1 := ⟨rfl, rfl⟩
      have o10 : U.1 (b + z0 + 5 + z1 + 3) = 3 := v3.1
      have l10 : xTa 3 = 2 ∧ xLe 3 = 1 := ⟨rfl, rfl⟩
      have o11 : U.1 (b + z0 + 5 + z1 + 4) = 13 := v4.1
      have l11 : xTa 13 = 1 ∧ xLe 13 = 0 := ⟨rfl, rfl⟩
      have o12 : U.1 (b + z0 + 5 + z1 + 5) = 15 := v5.1
      have l12 : xTa 15 = 0 ∧ xLe 15 = 0 := ⟨rfl, rfl⟩
      have o13 : U.1 (b + z0 + 5 + z1 + 6) = 0 := v6.1
      have l13 : xTa 0 = 0 ∧ xLe 0 = 1 := ⟨rfl, rfl⟩
      refine ⟨γ, by rw [g0 b (by omega) (by omega)]; exact s0, gE, (by show _ ≤ max (m0 H) (max (H + 2) (m1 H)) ∧ max (m0 H) (max (H + 2) (m1 H)) ≤ _; rw [← eM]; exact hmx), fun x h1 h2 => ?_, ?_, fun hN hr => ?_⟩
      · rcases sp x h1 h2 with ⟨f1, f2⟩ | rfl | rfl | rfl | rfl | rfl | ⟨f1, f2⟩ | rfl | rfl | rfl | rfl | rfl | rfl | rfl
        · have q := d0 x f1 f2
          rw [g0 x f1 f2]
          refine ⟨q.1, (by show _ ≤ max (m0 H) (max (H + 2) (m1 H)); rw [← eM]; exact Nat.le_trans q.2.1 mx0), fun y hy => ?_⟩
          have q2 := (A0 x f1 f2).2 y hy
          rw [j0 y q2.1 q2.2]
          exact q.2.2 y hy
        · rw [g1, yTp o1, o1]
          refine ⟨by omega, (by show _ ≤ max (m0 H) (max (H + 2) (m1 H)); rw [← eM]; omega), fun y hy => ?_⟩
          have q := N0.2.1 y hy
          rw [show y = b + z0 + 1 by omega, g2]; omega
        · rw [g2, yTp o2, o2]
          refine ⟨by omega, (by show _ ≤ max (m0 H) (max (H + 2) (m1 H)); rw [← eM]; omega), fun y hy => ?_⟩
          have q := N1.2.1 y hy
          rw [show y = b + z0 + 2 by omega, g3]; omega
        · rw [g3, yTp o3, o3]
          refine ⟨by omega, (by show _ ≤ max (m0 H) (max (H + 2) (m1 H)); rw [← eM]; omega), fun y hy => ?_⟩
          have q := N2.2.1 y hy
          rw [show y = b + z0 + 3 by omega, g4]; omega
        · rw [g4, yTp o4, o4]
          refine ⟨by omega, (by show _ ≤ max (m0 H) (max (H + 2) (m1 H)); rw [← eM]; omega), fun y hy => ?_⟩
          have q := N3.2.1 y hy
          rw [show y = b + z0 + 4 by omega, g5]; omega
        · rw [g5, yTp o5, o5]
          refine ⟨by omega, (by show _ ≤ max (m0 H) (max (H + 2) (m1 H)); rw [← eM]; omega), fun y hy => ?_⟩
          have q := N4.2.1 y hy
          rcases q with q | q
          · rw [show y = b + z0 + 5 by omega, (show γ (b + z0 + 5) = H from (by rw [g6 _ (by omega) (by omega)]; exact s1))]; omega
          · rw [q, g13]; omega
        · have q := d1 x f1 f2
          rw [g6 x f1 f2]
          refine ⟨q.1, (by show _ ≤ max (m0 H) (max (H + 2) (m1 H)); rw [← eM]; exact Nat.le_trans q.2.1 mx1), fun y hy => ?_⟩
          have q2 := (A1 x f1 f2).2 y hy
          rw [j6 y q2.1 q2.2]
          exact q.2.2 y hy
        · rw [g7, yTp o7, o7]
          refine ⟨by omega, (by show _ ≤ max (m0 H) (max (H + 2) (m1 H)); rw [← eM]; omega), fun y hy => ?_⟩
          have q := N5.2.1 y hy
          rw [show y = b + z0 + 5 + z1 + 1 by omega, g8]; omega
        · rw [g8, yTp o8, o8]
          refine ⟨by omega, (by show _ ≤ max (m0 H) (max (H + 2) (m1 H)); rw [← eM]; omega), fun y hy => ?_⟩
          have q := N6.2.1 y hy
          rw [show y = b + z0 + 5 + z1 + 2 by omega, g9]; omega
        · rw [g9, yTp o9, o9]
          refine ⟨by omega, (by show _ ≤ max (m0 H) (max (H + 2) (m1 H)); rw [← eM]; omega), fun y hy => ?_⟩
          have q := N7.2.1 y hy
          rw [show y = b + z0 + 5 + z1 + 3 by omega, g10]; omega
        · rw [g10, yTp o10, o10]
          refine ⟨by omega, (by show _ ≤ max (m0 H) (max (H + 2) (m1 H)); rw [← eM]; omega), fun y hy => ?_⟩
          have q := N8.2.1 y hy
          rw [show y = b + z0 + 5 + z1 + 4 by omega, g11]; omega
        · rw [g11, yTp o11, o11]
          refine ⟨by omega, (by show _ ≤ max (m0 H) (max (H + 2) (m1 H)); rw [← eM]; omega), fun y hy => ?_⟩
          have q := N9.2.1 y hy
          rw [show y = b + z0 + 5 + z1 + 5 by omega, g12]; omega
        · rw [g12, yTp o12, o12]
          refine ⟨by omega, (by show _ ≤ max (m0 H) (max (H + 2) (m1 H)); rw [← eM]; omega), fun y hy => ?_⟩
          have q := N10.2.1 y hy
          rw [show y = b + z0 + 3 by omega, g4]; omega
        · rw [g13, yTp o13, o13]
          refine ⟨by omega, (by show _ ≤ max (m0 H) (max (H + 2) (m1 H)); rw [← eM]; omega), fun y hy => ?_⟩
          have q := N11.2.1 y hy
          rw [show y = b + (z0 + z1 + 12) by omega, gE]; omega
      · rcases att with q | q | q
        · obtain ⟨x, h1, h2, h3⟩ := x0
          exact ⟨x, by omega, by omega, by rw [g0 x h1 h2, h3]; show _ = max (m0 H) (max (H + 2) (m1 H)); rw [← eM]; exact q.symm⟩
        · exact ⟨b + z0, by omega, by omega, by rw [g1, yTp o1]; show _ = max (m0 H) (max (H + 2) (m1 H)); rw [← eM]; omega⟩
        · obtain ⟨x, h1, h2, h3⟩ := x1
          exact ⟨x, by omega, by omega, by rw [g6 x h1 h2, h3]; show _ = max (m0 H) (max (H + 2) (m1 H)); rw [← eM]; exact q.symm⟩
      · have R0 : xRel N U.1 U.2.1 U.2.2.1 b (H) := hr
        have P0 := r00 (by omega) R0
        have R1 : xRel N U.1 U.2.1 U.2.2.1 (b + z0) (H + 1) := by
          have q := P0 (b + z0) (by omega) (Nat.le_refl _)
          rw [e0] at q
          rw [show b + z0 = b + z0 by omega, show H + 1 = H + 1 by omega]; exact q
        have R2 : xRel N U.1 U.2.1 U.2.2.1 (b + z0 + 1) (H + 2) := yR1 R1 o1 (by omega) (by omega) (by omega) (by omega) (by omega) (by omega)
        have R3 : xRel N U.1 U.2.1 U.2.2.1 (b + z0 + 2) (H + 1) := yR1 R2 o2 (by omega) (by omega) (by omega) (by omega) (by omega) (by omega)
        have R4 : xRel N U.1 U.2.1 U.2.2.1 (b + z0 + 3) (H) := yR1 R3 o3 (by omega) (by omega) (by omega) (by omega) (by omega) (by omega)
        have R5 : xRel N U.1 U.2.1 U.2.2.1 (b + z0 + 4) (H + 1) := yR1 R4 o4 (by omega) (by omega) (by omega) (by omega) (by omega) (by omega)
        have R6 : xRel N U.1 U.2.1 U.2.2.1 (b + z0 + 5) (H) := yR1 R5 o5 (by omega) (by omega) (by omega) (by omega) (by omega) (by omega)
        have R7 : xRel N U.1 U.2.1 U.2.2.1 (b + z0 + 5 + z1 + 6) (H) := yR2 R5 o5 (by omega) (by omega) u4.2 (by omega) (by omega)
        have P6 := r11 (by omega) R6
        have R8 : xRel N U.1 U.2.1 U.2.2.1 (b + z0 + 5 + z1) (H + 1) := by
          have q := P6 (b + z0 + 5 + z1) (by omega) (Nat.le_refl _)
          rw [e1] at q
          rw [show b + z0 + 5 + z1 = b + z0 + 5 + z1 by omega, show H + 1 = H + 1 by omega]; exact q
        have R9 : xRel N U.1 U.2.1 U.2.2.1 (b + z0 + 5 + z1 + 1) (H) := yR1 R8 o7 (by omega) (by omega) (by omega) (by omega) (by omega) (by omega)
        have R10 : xRel N U.1 U.2.1 U.2.2.1 (b + z0 + 5 + z1 + 2) (H + 1) := yR1 R9 o8 (by omega) (by omega) (by omega) (by omega) (by omega) (by omega)
        have R11 : xRel N U.1 U.2.1 U.2.2.1 (b + z0 + 5 + z1 + 3) (H + 2) := yR1 R10 o9 (by omega) (by omega) (by omega) (by omega) (by omega) (by omega)
        have R12 : xRel N U.1 U.2.1 U.2.2.1 (b + z0 + 5 + z1 + 4) (H + 1) := yR1 R11 o10 (by omega) (by omega) (by omega) (by omega) (by omega) (by omega)
        have R13 : xRel N U.1 U.2.1 U.2.2.1 (b + z0 + 5 + z1 + 5) (H) := yR1 R12 o11 (by omega) (by omega) (by omega) (by omega) (by omega) (by omega)
        have R14 : xRel N U.1 U.2.1 U.2.2.1 (b + (z0 + z1 + 12)) (H + 1) := yR1 R7 o13 (by omega) (by omega) (by omega) (by omega) (by omega) (by omega)
        intro x h1 h2
        by_cases q : x = b + (z0 + z1 + 12)
        · rw [q, gE]; exact R14
        · rcases sp x h1 (by omega) with ⟨f1, f2⟩ | rfl | rfl | rfl | rfl | rfl | ⟨f1, f2⟩ | rfl | rfl | rfl | rfl | rfl | rfl | rfl
          · rw [g0 x f1 f2]; exact P0 x f1 (by omega)
          · rw [g1]; exact R1
          · rw [g2]; exact R2
          · rw [g3]; exact R3
          · rw [g4]; exact R4
          · rw [g5]; exact R5
          · rw [g6 x f1 f2]; exact P6 x f1 (by omega)
          · rw [g7]; exact R8
          · rw [g8]; exact R9
          · rw [g9]; exact R10
          · rw [g10]; exact R11
          · rw [g11]; exact R12
          · rw [g12]; exact R13
          · rw [g13]; exact R7
  · intro b v z0 t0 z1 t1 z2 t2 m0 m1 m2 hv hB8 a0 b0 a1 b1 a2 b2 c0 c1 c2 r0 hb
    obtain ⟨A0, B0⟩ := c0 (by omega)
    obtain ⟨A1, B1⟩ := c1 (by omega)
    obtain ⟨A2, B2⟩ := c2 (by omega)
    have N0 : yN U B (b + z0 + z1 + z2) := yN_c r0 hv hB8
    have sp : ∀ x, b ≤ x → x < b + (z0 + z1 + z2 + 1) → (b ≤ x ∧ x < b + z0) ∨ (b + z0 ≤ x ∧ x < b + z0 + z1) ∨ (b + z0 + z1 ≤ x ∧ x < b + z0 + z1 + z2) ∨ x = b + z0 + z1 + z2 := by intro x h1 h2; omega
    refine ⟨fun x h1 h2 => ?_, ?_⟩
    · rcases sp x h1 h2 with ⟨f1, f2⟩ | ⟨f1, f2⟩ | ⟨f1, f2⟩ | rfl
      · refine ⟨(A0 x f1 f2).1, fun y hy => ?_⟩
        have q := (A0 x f1 f2).2 y hy
        omega
      · refine ⟨(A1 x f1 f2).1, fun y hy => ?_⟩
        have q := (A1 x f1 f2).2 y hy
        omega
      · refine ⟨(A2 x f1 f2).1, fun y hy => ?_⟩
        have q := (A2 x f1 f2).2 y hy
        omega
      · refine ⟨N0.1, fun y hy => ?_⟩
        have q := N0.2.1 y hy
        omega
    · intro H
      obtain ⟨β0, s0, e0, k0, d0, x0, r00⟩ := B0 (H)
      obtain ⟨β1, s1, e1, k1, d1, x1, r11⟩ := B1 (H + 1)
      obtain ⟨β2, s2, e2, k2, d2, x2, r22⟩ := B2 (H + 2)
      obtain ⟨Mx, eM⟩ : ∃ Mx, Mx = max (m0 H) (max (m1 (H + 1)) (m2 (H + 2))) := ⟨_, rfl⟩
      have hmx : H + 1 ≤ Mx ∧ Mx ≤ H + (t0 + t1 + t2 + 1) := by omega
      have mx0 : m0 (H) ≤ Mx := by omega
      have mx1 : m1 (H + 1) ≤ Mx := by omega
      have mx2 : m2 (H + 2) ≤ Mx := by omega
      have att : Mx = m0 (H) ∨ Mx = m1 (H + 1) ∨ Mx = m2 (H + 2) := by omega
      obtain ⟨γ, eγ⟩ : ∃ γ : Nat → Nat, ∀ x, γ x = (if x < b + z0 then β0 x else if x < b + z0 + z1 then β1 x else if x < b + z0 + z1 + z2 then β2 x else if x = b + z0 + z1 + z2 then H + 3 else H + 1) := ⟨fun x => if x < b + z0 then β0 x else if x < b + z0 + z1 then β1 x else if x < b + z0 + z1 + z2 then β2 x else if x = b + z0 + z1 + z2 then H + 3 else H + 1, fun _ => rfl⟩
      have gE : γ (b + (z0 + z1 + z2 + 1)) = H + 1 := by rw [eγ, if_neg (by omega), if_neg (by omega), if_neg (by omega), if_neg (by omega)]
      have g3 : γ (b + z0 + z1 + z2) = H + 3 := by rw [eγ, if_neg (by omega), if_neg (by omega), if_neg (by omega), if_pos (by omega)]
      have g2 : ∀ x, b + z0 + z1 ≤ x → x < b + z0 + z1 + z2 → γ x = β2 x := by intro x h1 h2; rw [eγ, if_neg (by omega), if_neg (by omega), if_pos (by omega)]
      have ev2 : γ (b + z0 + z1 + z2) = β2 (b + z0 + z1 + z2) := by
        have q := e2
        rw [g3]
        omega
      have j2 : ∀ x, b + z0 + z1 ≤ x → x ≤ b + z0 + z1 + z2 → γ x = β2 x := by
        intro x h1 h2
        by_cases q : x = b + z0 + z1 + z2
        · rw [q]; exact ev2
        · exact g2 x h1 (by omega)
      have g1 : ∀ x, b + z0 ≤ x → x < b + z0 + z1 → γ x = β1 x := by intro x h1 h2; rw [eγ, if_neg (by omega), if_pos (by omega)]
      have ev1 : γ (b + z0 + z1) = β1 (b + z0 + z1) := by
        have q := e1
        rw [g2 _ (by omega) (by omega)]
        have q2 := s2
        omega
      have j1 : ∀ x, b + z0 ≤ x → x ≤ b + z0 + z1 → γ x = β1 x := by
        intro x h1 h2
        by_cases q : x = b + z0 + z1
        · rw [q]; exact ev1
        · exact g1 x h1 (by omega)
      have g0 : ∀ x, b ≤ x → x < b + z0 → γ x = β0 x := by intro x h1 h2; rw [eγ, if_pos (by omega)]
      have ev0 : γ (b + z0) = β0 (b + z0) := by
        have q := e0
        rw [g1 _ (by omega) (by omega)]
        have q2 := s1
        omega
      have j0 : ∀ x, b ≤ x → x ≤ b + z0 → γ x = β0 x := by
        intro x h1 h2
        by_cases q : x = b + z0
        · rw [q]; exact ev0
        · exact g0 x h1 (by omega)
      have o3 : U.1 (b + z0 + z1 + z2) = 16 := r0.1
      have l3 : xTa 16 = 3 ∧ xLe 16 = 1 := ⟨rfl, rfl⟩
      refine ⟨γ, by rw [g0 b (by omega) (by omega)]; exact s0, gE, (by show _ ≤ max (m0 H) (max (m1 (H + 1)) (m2 (H + 2))) ∧ max (m0 H) (max (m1 (H + 1)) (m2 (H + 2))) ≤ _; rw [← eM]; exact hmx), fun x h1 h2 => ?_, ?_, fun hN hr => ?_⟩
      · rcases sp x h1 h2 with ⟨f1, f2⟩ | ⟨f1, f2⟩ | ⟨f1, f2⟩ | rfl
        · have q := d0 x f1 f2
          rw [g0 x f1 f2]
          refine ⟨q.1, (by show _ ≤ max (m0 H) (max (m1 (H + 1)) (m2 (H + 2))); rw [← eM]; exact Nat.le_trans q.2.1 mx0), fun y hy => ?_⟩
          have q2 := (A0 x f1 f2).2 y hy
          rw [j0 y q2.1 q2.2]
          exact q.2.2 y hy
        · have q := d1 x f1 f2
          rw [g1 x f1 f2]
          refine ⟨q.1, (by show _ ≤ max (m0 H) (max (m1 (H + 1)) (m2 (H + 2))); rw [← eM]; exact Nat.le_trans q.2.1 mx1), fun y hy => ?_⟩
          have q2 := (A1 x f1 f2).2 y hy
          rw [j1 y q2.1 q2.2]
          exact q.2.2 y hy
        · have q := d2 x f1 f2
          rw [g2 x f1 f2]
          refine ⟨q.1, (by show _ ≤ max (m0 H) (max (m1 (H + 1)) (m2 (H + 2))); rw [← eM]; exact Nat.le_trans q.2.1 mx2), fun y hy => ?_⟩
          have q2 := (A2 x f1 f2).2 y hy
          rw [j2 y q2.1 q2.2]
          exact q.2.2 y hy
        · rw [g3, yTp o3, o3]
          refine ⟨by omega, (by show _ ≤ max (m0 H) (max (m1 (H + 1)) (m2 (H + 2))); rw [← eM]; omega), fun y hy => ?_⟩
          have q := N0.2.1 y hy
          rw [show y = b + (z0 + z1 + z2 + 1) by omega, gE]; omega
      · rcases att with q | q | q
        · obtain ⟨x, h1, h2, h3⟩ := x0
          exact ⟨x, by omega, by omega, by rw [g0 x h1 h2, h3]; show _ = max (m0 H) (max (m1 (H + 1)) (m2 (H + 2))); rw [← eM]; exact q.symm⟩
        · obtain ⟨x, h1, h2, h3⟩ := x1
          exact ⟨x, by omega, by omega, by rw [g1 x h1 h2, h3]; show _ = max (m0 H) (max (m1 (H + 1)) (m2 (H + 2))); rw [← eM]; exact q.symm⟩
        · obtain ⟨x, h1, h2, h3⟩ := x2
          exact ⟨x, by omega, by omega, by rw [g2 x h1 h2, h3]; show _ = max (m0 H) (max (m1 (H + 1)) (m2 (H + 2))); rw [← eM]; exact q.symm⟩
      · have R0 : xRel N U.1 U.2.1 U.2.2.1 b (H) := hr
        have P0 := r00 (by omega) R0
        have R1 : xRel N U.1 U.2.1 U.2.2.1 (b + z0) (H + 1) := by
          have q := P0 (b + z0) (by omega) (Nat.le_refl _)
          rw [e0] at q
          rw [show b + z0 = b + z0 by omega, show H + 1 = H + 1 by omega]; exact q
        have P1 := r11 (by omega) R1
        have R2 : xRel N U.1 U.2.1 U.2.2.1 (b + z0 + z1) (H + 2) := by
          have q := P1 (b + z0 + z1) (by omega) (Nat.le_refl _)
          rw [e1] at q
          rw [show b + z0 + z1 = b + z0 + z1 by omega, show H + 2 = H + 1 + 1 by omega]; exact q
        have P2 := r22 (by omega) R2
        have R3 : xRel N U.1 U.2.1 U.2.2.1 (b + z0 + z1 + z2) (H + 3) := by
          have q := P2 (b + z0 + z1 + z2) (by omega) (Nat.le_refl _)
          rw [e2] at q
          rw [show b + z0 + z1 + z2 = b + z0 + z1 + z2 by omega, show H + 3 = H + 2 + 1 by omega]; exact q
        have R4 : xRel N U.1 U.2.1 U.2.2.1 (b + (z0 + z1 + z2 + 1)) (H + 1) := yR1 R3 o3 (by omega) (by omega) (by omega) (by omega) (by omega) (by omega)
        intro x h1 h2
        by_cases q : x = b + (z0 + z1 + z2 + 1)
        · rw [q, gE]; exact R4
        · rcases sp x h1 (by omega) with ⟨f1, f2⟩ | ⟨f1, f2⟩ | ⟨f1, f2⟩ | rfl
          · rw [g0 x f1 f2]; exact P0 x f1 (by omega)
          · rw [g1 x f1 f2]; exact P1 x f1 (by omega)
          · rw [g2 x f1 f2]; exact P2 x f1 (by omega)
          · rw [g3]; exact R3
  · intro b o z0 t0 z1 t1 m0 m1 ho2 ho11 a0 b0 a1 b1 c0 c1 r0 hb
    obtain ⟨A0, B0⟩ := c0 (by omega)
    obtain ⟨A1, B1⟩ := c1 (by omega)
    have N0 : yN U B (b + z0 + z1) := yN_f (hP _ _ (Or.inl (by omega)) r0)
    have sp : ∀ x, b ≤ x → x < b + (z0 + z1 + 1) → (b ≤ x ∧ x < b + z0) ∨ (b + z0 ≤ x ∧ x < b + z0 + z1) ∨ x = b + z0 + z1 := by intro x h1 h2; omega
    refine ⟨fun x h1 h2 => ?_, ?_⟩
    · rcases sp x h1 h2 with ⟨f1, f2⟩ | ⟨f1, f2⟩ | rfl
      · refine ⟨(A0 x f1 f2).1, fun y hy => ?_⟩
        have q := (A0 x f1 f2).2 y hy
        omega
      · refine ⟨(A1 x f1 f2).1, fun y hy => ?_⟩
        have q := (A1 x f1 f2).2 y hy
        omega
      · refine ⟨N0.1, fun y hy => ?_⟩
        have q := N0.2.1 y hy
        omega
    · intro H
      obtain ⟨β0, s0, e0, k0, d0, x0, r00⟩ := B0 (H)
      obtain ⟨β1, s1, e1, k1, d1, x1, r11⟩ := B1 (H + 1)
      obtain ⟨Mx, eM⟩ : ∃ Mx, Mx = max (m0 H) (m1 (H + 1)) := ⟨_, rfl⟩
      have hmx : H + 1 ≤ Mx ∧ Mx ≤ H + (t0 + t1 + 1) := by omega
      have mx0 : m0 (H) ≤ Mx := by omega
      have mx1 : m1 (H + 1) ≤ Mx := by omega
      have att : Mx = m0 (H) ∨ Mx = m1 (H + 1) := by omega
      obtain ⟨γ, eγ⟩ : ∃ γ : Nat → Nat, ∀ x, γ x = (if x < b + z0 then β0 x else if x < b + z0 + z1 then β1 x else if x = b + z0 + z1 then H + 2 else H + 1) := ⟨fun x => if x < b + z0 then β0 x else if x < b + z0 + z1 then β1 x else if x = b + z0 + z1 then H + 2 else H + 1, fun _ => rfl⟩
      have gE : γ (b + (z0 + z1 + 1)) = H + 1 := by rw [eγ, if_neg (by omega), if_neg (by omega), if_neg (by omega)]
      have g2 : γ (b + z0 + z1) = H + 2 := by rw [eγ, if_neg (by omega), if_neg (by omega), if_pos (by omega)]
      have g1 : ∀ x, b + z0 ≤ x → x < b + z0 + z1 → γ x = β1 x := by intro x h1 h2; rw [eγ, if_neg (by omega), if_pos (by omega)]
      have ev1 : γ (b + z0 + z1) = β1 (b + z0 + z1) := by
        have q := e1
        rw [g2]
        omega
      have j1 : ∀ x, b + z0 ≤ x → x ≤ b + z0 + z1 → γ x = β1 x := by
        intro x h1 h2
        by_cases q : x = b + z0 + z1
        · rw [q]; exact ev1
        · exact g1 x h1 (by omega)
      have g0 : ∀ x, b ≤ x → x < b + z0 → γ x = β0 x := by intro x h1 h2; rw [eγ, if_pos (by omega)]
      have ev0 : γ (b + z0) = β0 (b + z0) := by
        have q := e0
        rw [g1 _ (by omega) (by omega)]
        have q2 := s1
        omega
      have j0 : ∀ x, b ≤ x → x ≤ b + z0 → γ x = β0 x := by
        intro x h1 h2
        by_cases q : x = b + z0
        · rw [q]; exact ev0
        · exact g0 x h1 (by omega)
      have o2 : U.1 (b + z0 + z1) = o := r0
      have l2 := yTaLe o (by omega) ho2 ho11
      refine ⟨γ, by rw [g0 b (by omega) (by omega)]; exact s0, gE, (by show _ ≤ max (m0 H) (m1 (H + 1)) ∧ max (m0 H) (m1 (H + 1)) ≤ _; rw [← eM]; exact hmx), fun x h1 h2 => ?_, ?_, fun hN hr => ?_⟩
      · rcases sp x h1 h2 with ⟨f1, f2⟩ | ⟨f1, f2⟩ | rfl
        · have q := d0 x f1 f2
          rw [g0 x f1 f2]
          refine ⟨q.1, (by show _ ≤ max (m0 H) (m1 (H + 1)); rw [← eM]; exact Nat.le_trans q.2.1 mx0), fun y hy => ?_⟩
          have q2 := (A0 x f1 f2).2 y hy
          rw [j0 y q2.1 q2.2]
          exact q.2.2 y hy
        · have q := d1 x f1 f2
          rw [g1 x f1 f2]
          refine ⟨q.1, (by show _ ≤ max (m0 H) (m1 (H + 1)); rw [← eM]; exact Nat.le_trans q.2.1 mx1), fun y hy => ?_⟩
          have q2 := (A1 x f1 f2).2 y hy
          rw [j1 y q2.1 q2.2]
          exact q.2.2 y hy
        · rw [g2, yTp o2, o2]
          refine ⟨by omega, (by show _ ≤ max (m0 H) (m1 (H + 1)); rw [← eM]; omega), fun y hy => ?_⟩
          have q := N0.2.1 y hy
          rw [show y = b + (z0 + z1 + 1) by omega, gE]; omega
      · rcases att with q | q
        · obtain ⟨x, h1, h2, h3⟩ := x0
          exact ⟨x, by omega, by omega, by rw [g0 x h1 h2, h3]; show _ = max (m0 H) (m1 (H + 1)); rw [← eM]; exact q.symm⟩
        · obtain ⟨x, h1, h2, h3⟩ := x1
          exact ⟨x, by omega, by omega, by rw [g1 x h1 h2, h3]; show _ = max (m0 H) (m1 (H + 1)); rw [← eM]; exact q.symm⟩
      · have R0 : xRel N U.1 U.2.1 U.2.2.1 b (H) := hr
        have P0 := r00 (by omega) R0
        have R1 : xRel N U.1 U.2.1 U.2.2.1 (b + z0) (H + 1) := by
          have q := P0 (b + z0) (by omega) (Nat.le_refl _)
          rw [e0] at q
          rw [show b + z0 = b + z0 by omega, show H + 1 = H + 1 by omega]; exact q
        have P1 := r11 (by omega) R1
        have R2 : xRel N U.1 U.2.1 U.2.2.1 (b + z0 + z1) (H + 2) := by
          have q := P1 (b + z0 + z1) (by omega) (Nat.le_refl _)
          rw [e1] at q
          rw [show b + z0 + z1 = b + z0 + z1 by omega, show H + 2 = H + 1 + 1 by omega]; exact q
        have R3 : xRel N U.1 U.2.1 U.2.2.1 (b + (z0 + z1 + 1)) (H + 1) := yR1 R2 o2 (by omega) (by omega) (by omega) (by omega) (by omega) (by omega)
        intro x h1 h2
        by_cases q : x = b + (z0 + z1 + 1)
        · rw [q, gE]; exact R3
        · rcases sp x h1 (by omega) with ⟨f1, f2⟩ | ⟨f1, f2⟩ | rfl
          · rw [g0 x f1 f2]; exact P0 x f1 (by omega)
          · rw [g1 x f1 f2]; exact P1 x f1 (by omega)
          · rw [g2]; exact R2

