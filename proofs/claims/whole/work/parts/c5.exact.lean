/-! the heights of what is emitted, exactly -/
def yHm (U : yU) (N b z t H g : Nat) : Prop := ∃ η : Nat → Nat, η b = H ∧ η (b + z) = H + 1 ∧ (H + 1 ≤ g ∧ g ≤ H + t) ∧ (∀ x, b ≤ x → x < b + z → xTa (U.1 x) ≤ η x ∧ xTpu U.1 x (η x) ≤ g ∧ ∀ y, ySu U x y → η y = xTpu U.1 x (η x)) ∧ (∃ x, b ≤ x ∧ x < b + z ∧ xTpu U.1 x (η x) = g) ∧ (b + z ≤ N → xRel N U.1 U.2.1 U.2.2.1 b H → ∀ x, b ≤ x → x ≤ b + z → xRel N U.1 U.2.1 U.2.2.1 x (η x))
def yHe (U : yU) (N b z t : Nat) (m : Nat → Nat) : Prop := ∀ H, yHm U N b z t H (m H)
def yAE (U : yU) (B N b z t : Nat) (m : Nat → Nat) : Prop := b + z ≤ 265 → yA U B b z ∧ yHe U N b z t m
theorem yTp {U : yU} {x o h : Nat} (e : U.1 x = o) : xTpu U.1 x h = h - xTa o + xLe o := by unfold xTpu; rw [e]
theorem ySu_1 {U : yU} {x o : Nat} (e : U.1 x = o) (h : ¬ o = 15) (h2 : ¬ o = 17) : ySu U x (x + 1) := Or.inl ⟨by rw [e]; exact h2, Or.inr ⟨by rw [e]; exact h, rfl⟩⟩
theorem yR1 {U : yU} {N x o h y h' a l : Nat} (r : xRel N U.1 U.2.1 U.2.2.1 x h) (e : U.1 x = o) (hl : xTa o = a ∧ xLe o = l) (h15 : ¬ o = 15) (h17 : ¬ o = 17) (hx : x < N) (ht : a ≤ h) (ey : y = x + 1) (eh : h' = h - a + l) : xRel N U.1 U.2.1 U.2.2.1 y h' := by
  subst ey eh
  have q := xRel_s r hx (by rw [e, hl.1]; exact ht) (ySu_1 e h15 h17)
  rw [yTp e, hl.1, hl.2] at q
  exact q
theorem yR2 {U : yU} {N x h y h' : Nat} (r : xRel N U.1 U.2.1 U.2.2.1 x h) (e : U.1 x = 14) (hx : x < N) (ht : 1 ≤ h) (es : U.2.2.1 x = nI y) (hy : y < 1000) (eh : h' = h - 1) : xRel N U.1 U.2.1 U.2.2.1 y h' := by
  subst eh
  have q := xRel_s r hx (by rw [e]; exact ht) (Or.inr ⟨e, hy, es⟩)
  rw [yTp e] at q
  exact q
theorem yTaLe : ∀ o, o < 22 → 2 ≤ o → o ≤ 11 → xTa o = 2 ∧ xLe o = 1 := by decide +kernel
theorem yHPx {U : yU} : ∀ i o, (2 ≤ o ∧ o ≤ 12) ∨ o = 19 → U.1 i = o → yFo (U.1 i) := by intro i o h e; rw [e]; unfold yFo; omega
theorem yAE_0 {U : yU} {B N : Nat} : ∀ b a, yAt U b 0 a → yAE U B N b 1 1 (fun H => H + 1) := by
  have hP := @yHPx U
  · intro b a r0 hb
    have N0 : yN U B b := yN_0 r0
    have lt : xLe 0 = 1 ∧ xTa 0 = 0 := ⟨rfl, rfl⟩
    refine ⟨fun x h1 h2 => ?_, fun H => ⟨fun x => if x = b then H else H + 1, if_pos rfl, if_neg (by omega), ⟨Nat.le_refl _, Nat.le_refl _⟩, fun x h1 h2 => ?_, ⟨b, Nat.le_refl _, by omega, ?_⟩, fun hN hr x h1 h2 => ?_⟩⟩
    · obtain rfl : x = b := by omega
      refine ⟨N0.1, fun y hy => ?_⟩
      have := N0.2.1 y hy
      omega
    · obtain rfl : x = b := by omega
      show _ ≤ (if x = x then H else H + 1) ∧ xTpu U.1 x (if x = x then H else H + 1) ≤ _ ∧ _
      rw [if_pos rfl, yTp r0.1, r0.1]
      refine ⟨by omega, (by show _ ≤ H + 1; omega), fun y hy => ?_⟩
      have e := N0.2.1 y hy
      show (if y = x then H else H + 1) = xTpu U.1 x (if x = x then H else H + 1)
      rw [if_pos rfl, yTp r0.1, if_neg (by omega)]
      omega
    · show xTpu U.1 b (if b = b then H else H + 1) = _
      rw [if_pos rfl, yTp r0.1]
      show _ = H + 1
      omega
    · show xRel N U.1 U.2.1 U.2.2.1 x (if x = b then H else H + 1)
      by_cases q : x = b
      · rw [if_pos q, q]; exact hr
      · rw [if_neg q]
        exact yR1 hr r0.1 ⟨lt.2, lt.1⟩ (by omega) (by omega) (by omega) (by omega) (by omega) (by omega)
theorem yAE_1 {U : yU} {B N : Nat} : ∀ b v, v < 7 → yAt U b 1 (nI v) → yAE U B N b 1 1 (fun H => H + 1) := by
  have hP := @yHPx U
  · intro b v hv r0 hb
    have N0 : yN U B b := yN_v r0 (Or.inl rfl) hv
    have lt : xLe 1 = 1 ∧ xTa 1 = 0 := ⟨rfl, rfl⟩
    refine ⟨fun x h1 h2 => ?_, fun H => ⟨fun x => if x = b then H else H + 1, if_pos rfl, if_neg (by omega), ⟨Nat.le_refl _, Nat.le_refl _⟩, fun x h1 h2 => ?_, ⟨b, Nat.le_refl _, by omega, ?_⟩, fun hN hr x h1 h2 => ?_⟩⟩
    · obtain rfl : x = b := by omega
      refine ⟨N0.1, fun y hy => ?_⟩
      have := N0.2.1 y hy
      omega
    · obtain rfl : x = b := by omega
      show _ ≤ (if x = x then H else H + 1) ∧ xTpu U.1 x (if x = x then H else H + 1) ≤ _ ∧ _
      rw [if_pos rfl, yTp r0.1, r0.1]
      refine ⟨by omega, (by show _ ≤ H + 1; omega), fun y hy => ?_⟩
      have e := N0.2.1 y hy
      show (if y = x then H else H + 1) = xTpu U.1 x (if x = x then H else H + 1)
      rw [if_pos rfl, yTp r0.1, if_neg (by omega)]
      omega
    · show xTpu U.1 b (if b = b then H else H + 1) = _
      rw [if_pos rfl, yTp r0.1]
      show _ = H + 1
      omega
    · show xRel N U.1 U.2.1 U.2.2.1 x (if x = b then H else H + 1)
      by_cases q : x = b
      · rw [if_pos q, q]; exact hr
      · rw [if_neg q]
        exact yR1 hr r0.1 ⟨lt.2, lt.1⟩ (by omega) (by omega) (by omega) (by omega) (by omega) (by omega)
theorem yAE_12 {U : yU} {B N : Nat} : ∀ (b z0 t0 : Nat) (m0 : Nat → Nat), 0 < z0 → 0 < t0 → yAE U B N b z0 t0 m0 → U.1 (b + z0) = 12 → yAE U B N b (z0 + 1) (t0 + 1) m0 := by
  have hP := @yHPx U
  · intro b z0 t0 m0 a0 b0 c0 r0 hb
    obtain ⟨A0, B0⟩ := c0 (by omega)
    have N0 : yN U B (b + z0) := yN_f (hP _ _ (Or.inl (by omega)) r0)
    have sp : ∀ x, b ≤ x → x < b + (z0 + 1) → (b ≤ x ∧ x < b + z0) ∨ x = b + z0 := by intro x h1 h2; omega
    refine ⟨fun x h1 h2 => ?_, ?_⟩
    · rcases sp x h1 h2 with ⟨f1, f2⟩ | rfl
      · refine ⟨(A0 x f1 f2).1, fun y hy => ?_⟩
        have q := (A0 x f1 f2).2 y hy
        omega
      · refine ⟨N0.1, fun y hy => ?_⟩
        have q := N0.2.1 y hy
        omega
    · intro H
      obtain ⟨β0, s0, e0, k0, d0, x0, r00⟩ := B0 (H)
      obtain ⟨Mx, eM⟩ : ∃ Mx, Mx = m0 H := ⟨_, rfl⟩
      have hmx : H + 1 ≤ Mx ∧ Mx ≤ H + (t0 + 1) := by omega
      have mx0 : m0 (H) ≤ Mx := by omega
      have att : Mx = m0 (H) := by omega
      show yHm U N b (z0 + 1) (t0 + 1) H (m0 H)
      rw [← eM]; clear eM
      obtain ⟨γ, eγ⟩ : ∃ γ : Nat → Nat, ∀ x, γ x = (if x < b + z0 then β0 x else if x = b + z0 then H + 1 else H + 1) := ⟨fun x => if x < b + z0 then β0 x else if x = b + z0 then H + 1 else H + 1, fun _ => rfl⟩
      have gE : True → γ (b + (z0 + 1)) = H + 1 := fun _ => by rw [eγ, if_neg (by omega), if_neg (by omega)]
      have g1 : True → γ (b + z0) = H + 1 := fun _ => by rw [eγ, if_neg (by omega), if_pos (by omega)]
      have g0 : ∀ x, b ≤ x → x < b + z0 → γ x = β0 x := by intro x h1 h2; rw [eγ, if_pos (by omega)]
      have ev0 : True → γ (b + z0) = β0 (b + z0) := by
        intro _
        have q := e0
        rw [g1 trivial]
        omega
      have j0 : ∀ x, b ≤ x → x ≤ b + z0 → γ x = β0 x := by
        intro x h1 h2
        by_cases q : x = b + z0
        · rw [q]; exact ev0 trivial
        · exact g0 x h1 (by omega)
      have o1 : True → U.1 (b + z0) = 12 := fun _ => r0
      have l1 : True → xTa 12 = 1 ∧ xLe 12 = 1 := fun _ => ⟨rfl, rfl⟩
      refine ⟨γ, by rw [g0 b (by omega) (by omega)]; exact s0, gE trivial, hmx, fun x h1 h2 => ?_, ?_, fun hN hr => ?_⟩
      · rcases sp x h1 h2 with ⟨f1, f2⟩ | rfl
        · have q := d0 x f1 f2
          rw [g0 x f1 f2]
          refine ⟨q.1, Nat.le_trans q.2.1 mx0, fun y hy => ?_⟩
          have q2 := (A0 x f1 f2).2 y hy
          rw [j0 y q2.1 q2.2]
          exact q.2.2 y hy
        · rw [g1 trivial, yTp (o1 trivial), o1 trivial, (l1 trivial).1, (l1 trivial).2]
          refine ⟨by omega, by omega, fun y hy => ?_⟩
          have q := N0.2.1 y hy
          rw [show y = b + (z0 + 1) by omega, gE trivial]; omega
      · have q : Mx = m0 (H) := att
        obtain ⟨x, h1, h2, h3⟩ := x0
        exact ⟨x, by omega, by omega, by rw [g0 x h1 h2, h3]; exact q.symm⟩
      · have R0 : xRel N U.1 U.2.1 U.2.2.1 b (H) := hr
        have P0 := r00 (by omega) R0
        have R1 : xRel N U.1 U.2.1 U.2.2.1 (b + z0) (H + 1) := by
          have q := P0 (b + z0) (by omega) (Nat.le_refl _)
          rw [e0] at q
          rw [show b + z0 = b + z0 by omega, show H + 1 = H + 1 by omega]; exact q
        have R2 : xRel N U.1 U.2.1 U.2.2.1 (b + (z0 + 1)) (H + 1) := yR1 R1 (o1 trivial) (l1 trivial) (by omega) (by omega) (by omega) (by omega) (by omega) (by omega)
        intro x h1 h2
        by_cases q : x = b + (z0 + 1)
        · rw [q, gE trivial]; exact R2
        · rcases sp x h1 (by omega) with ⟨f1, f2⟩ | rfl
          · rw [g0 x f1 f2]; exact P0 x f1 (by omega)
          · rw [g1 trivial]; exact R1
theorem yAE_13 {U : yU} {B N : Nat} : ∀ (b v z0 t0 z1 t1 z2 t2 : Nat) (m0 m1 m2 : Nat → Nat), v < 6 → 0 < z0 → 0 < t0 → 0 < z1 → 0 < t1 → 0 < z2 → 0 < t2 → yAE U B N b z0 t0 m0 → yAt U (b + z0) 14 (nI v) → U.2.2.1 (b + z0) = nI (b + z0 + 1 + z1 + 1) → yAE U B N (b + z0 + 1) z1 t1 m1 → yAt U (b + z0 + 1 + z1) 15 (nI (b + z0 + 1 + z1 + 1 + z2)) → yAE U B N (b + z0 + 1 + z1 + 1) z2 t2 m2 → yAE U B N b (z0 + z1 + z2 + 2) (t0 + t1 + t2 + 1) (fun H => max (m0 H) (max (m1 H) (m2 H))) := by
  have hP := @yHPx U
  · intro b v z0 t0 z1 t1 z2 t2 m0 m1 m2 hv a0 b0 a1 b1 a2 b2 c0 r0 r1 c1 r2 c2 hb
    obtain ⟨A0, B0⟩ := c0 (by omega)
    obtain ⟨A1, B1⟩ := c1 (by omega)
    obtain ⟨A2, B2⟩ := c2 (by omega)
    have N0 := yN_i (B := B) r0 hv r1 (by omega)
    have N1 := yN_g (B := B) r2 (by omega)
    have sp : ∀ x, b ≤ x → x < b + (z0 + z1 + z2 + 2) → (b ≤ x ∧ x < b + z0) ∨ x = b + z0 ∨ (b + z0 + 1 ≤ x ∧ x < b + z0 + 1 + z1) ∨ x = b + z0 + 1 + z1 ∨ (b + z0 + 1 + z1 + 1 ≤ x ∧ x < b + z0 + 1 + z1 + 1 + z2) := by intro x h1 h2; omega
    refine ⟨fun x h1 h2 => ?_, ?_⟩
    · rcases sp x h1 h2 with ⟨f1, f2⟩ | rfl | ⟨f1, f2⟩ | rfl | ⟨f1, f2⟩
      · refine ⟨(A0 x f1 f2).1, fun y hy => ?_⟩
        have q := (A0 x f1 f2).2 y hy
        omega
      · refine ⟨N0.1, fun y hy => ?_⟩
        have q := N0.2.1 y hy
        omega
      · refine ⟨(A1 x f1 f2).1, fun y hy => ?_⟩
        have q := (A1 x f1 f2).2 y hy
        omega
      · refine ⟨N1.1, fun y hy => ?_⟩
        have q := N1.2.1 y hy
        omega
      · refine ⟨(A2 x f1 f2).1, fun y hy => ?_⟩
        have q := (A2 x f1 f2).2 y hy
        omega
    · intro H
      obtain ⟨β0, s0, e0, k0, d0, x0, r00⟩ := B0 (H)
      obtain ⟨β1, s1, e1, k1, d1, x1, r11⟩ := B1 (H)
      obtain ⟨β2, s2, e2, k2, d2, x2, r22⟩ := B2 (H)
      obtain ⟨Mx, eM⟩ : ∃ Mx, Mx = max (m0 H) (max (m1 H) (m2 H)) := ⟨_, rfl⟩
      have hmx : H + 1 ≤ Mx ∧ Mx ≤ H + (t0 + t1 + t2 + 1) := by omega
      have mx0 : m0 (H) ≤ Mx := by omega
      have mx1 : m1 (H) ≤ Mx := by omega
      have mx2 : m2 (H) ≤ Mx := by omega
      have att : Mx = m0 (H) ∨ Mx = m1 (H) ∨ Mx = m2 (H) := by omega
      show yHm U N b (z0 + z1 + z2 + 2) (t0 + t1 + t2 + 1) H (max (m0 H) (max (m1 H) (m2 H)))
      rw [← eM]; clear eM
      obtain ⟨γ, eγ⟩ : ∃ γ : Nat → Nat, ∀ x, γ x = (if x < b + z0 then β0 x else if x = b + z0 then H + 1 else if x < b + z0 + 1 + z1 then β1 x else if x = b + z0 + 1 + z1 then H + 1 else if x < b + z0 + 1 + z1 + 1 + z2 then β2 x else H + 1) := ⟨fun x => if x < b + z0 then β0 x else if x = b + z0 then H + 1 else if x < b + z0 + 1 + z1 then β1 x else if x = b + z0 + 1 + z1 then H + 1 else if x < b + z0 + 1 + z1 + 1 + z2 then β2 x else H + 1, fun _ => rfl⟩
      have gE : True → γ (b + (z0 + z1 + z2 + 2)) = H + 1 := fun _ => by rw [eγ, if_neg (by omega), if_neg (by omega), if_neg (by omega), if_neg (by omega), if_neg (by omega)]
      have g4 : ∀ x, b + z0 + 1 + z1 + 1 ≤ x → x < b + z0 + 1 + z1 + 1 + z2 → γ x = β2 x := by intro x h1 h2; rw [eγ, if_neg (by omega), if_neg (by omega), if_neg (by omega), if_neg (by omega), if_pos (by omega)]
      have ev4 : True → γ (b + z0 + 1 + z1 + 1 + z2) = β2 (b + z0 + 1 + z1 + 1 + z2) := by
        intro _
        have q := e2
        rw [show b + z0 + 1 + z1 + 1 + z2 = b + (z0 + z1 + z2 + 2) by omega] at q ⊢
        have q3 := gE trivial
        omega
      have j4 : ∀ x, b + z0 + 1 + z1 + 1 ≤ x → x ≤ b + z0 + 1 + z1 + 1 + z2 → γ x = β2 x := by
        intro x h1 h2
        by_cases q : x = b + z0 + 1 + z1 + 1 + z2
        · rw [q]; exact ev4 trivial
        · exact g4 x h1 (by omega)
      have g3 : True → γ (b + z0 + 1 + z1) = H + 1 := fun _ => by rw [eγ, if_neg (by omega), if_neg (by omega), if_neg (by omega), if_pos (by omega)]
      have g2 : ∀ x, b + z0 + 1 ≤ x → x < b + z0 + 1 + z1 → γ x = β1 x := by intro x h1 h2; rw [eγ, if_neg (by omega), if_neg (by omega), if_pos (by omega)]
      have ev2 : True → γ (b + z0 + 1 + z1) = β1 (b + z0 + 1 + z1) := by
        intro _
        have q := e1
        rw [g3 trivial]
        omega
      have j2 : ∀ x, b + z0 + 1 ≤ x → x ≤ b + z0 + 1 + z1 → γ x = β1 x := by
        intro x h1 h2
        by_cases q : x = b + z0 + 1 + z1
        · rw [q]; exact ev2 trivial
        · exact g2 x h1 (by omega)
      have g1 : True → γ (b + z0) = H + 1 := fun _ => by rw [eγ, if_neg (by omega), if_pos (by omega)]
      have g0 : ∀ x, b ≤ x → x < b + z0 → γ x = β0 x := by intro x h1 h2; rw [eγ, if_pos (by omega)]
      have ev0 : True → γ (b + z0) = β0 (b + z0) := by
        intro _
        have q := e0
        rw [g1 trivial]
        omega
      have j0 : ∀ x, b ≤ x → x ≤ b + z0 → γ x = β0 x := by
        intro x h1 h2
        by_cases q : x = b + z0
        · rw [q]; exact ev0 trivial
        · exact g0 x h1 (by omega)
      have o1 : True → U.1 (b + z0) = 14 := fun _ => r0.1
      have l1 : True → xTa 14 = 1 ∧ xLe 14 = 0 := fun _ => ⟨rfl, rfl⟩
      have o3 : True → U.1 (b + z0 + 1 + z1) = 15 := fun _ => r2.1
      have l3 : True → xTa 15 = 0 ∧ xLe 15 = 0 := fun _ => ⟨rfl, rfl⟩
      refine ⟨γ, by rw [g0 b (by omega) (by omega)]; exact s0, gE trivial, hmx, fun x h1 h2 => ?_, ?_, fun hN hr => ?_⟩
      · rcases sp x h1 h2 with ⟨f1, f2⟩ | rfl | ⟨f1, f2⟩ | rfl | ⟨f1, f2⟩
        · have q := d0 x f1 f2
          rw [g0 x f1 f2]
          refine ⟨q.1, Nat.le_trans q.2.1 mx0, fun y hy => ?_⟩
          have q2 := (A0 x f1 f2).2 y hy
          rw [j0 y q2.1 q2.2]
          exact q.2.2 y hy
        · rw [g1 trivial, yTp (o1 trivial), o1 trivial, (l1 trivial).1, (l1 trivial).2]
          refine ⟨by omega, by omega, fun y hy => ?_⟩
          have q := N0.2.1 y hy
          rcases q with q | q
          · rw [show y = b + z0 + 1 by omega, (show γ (b + z0 + 1) = H from (by rw [g2 _ (by omega) (by omega)]; exact s1))]; omega
          · rw [q, (show γ (b + z0 + 1 + z1 + 1) = H from (by rw [g4 _ (by omega) (by omega)]; exact s2))]; omega
        · have q := d1 x f1 f2
          rw [g2 x f1 f2]
          refine ⟨q.1, Nat.le_trans q.2.1 mx1, fun y hy => ?_⟩
          have q2 := (A1 x f1 f2).2 y hy
          rw [j2 y q2.1 q2.2]
          exact q.2.2 y hy
        · rw [g3 trivial, yTp (o3 trivial), o3 trivial, (l3 trivial).1, (l3 trivial).2]
          refine ⟨by omega, by omega, fun y hy => ?_⟩
          have q := N1.2.1 y hy
          rw [show y = b + (z0 + z1 + z2 + 2) by omega, gE trivial]; omega
        · have q := d2 x f1 f2
          rw [g4 x f1 f2]
          refine ⟨q.1, Nat.le_trans q.2.1 mx2, fun y hy => ?_⟩
          have q2 := (A2 x f1 f2).2 y hy
          rw [j4 y q2.1 q2.2]
          exact q.2.2 y hy
      · rcases att with q | q | q
        · obtain ⟨x, h1, h2, h3⟩ := x0
          exact ⟨x, by omega, by omega, by rw [g0 x h1 h2, h3]; exact q.symm⟩
        · obtain ⟨x, h1, h2, h3⟩ := x1
          exact ⟨x, by omega, by omega, by rw [g2 x h1 h2, h3]; exact q.symm⟩
        · obtain ⟨x, h1, h2, h3⟩ := x2
          exact ⟨x, by omega, by omega, by rw [g4 x h1 h2, h3]; exact q.symm⟩
      · have R0 : xRel N U.1 U.2.1 U.2.2.1 b (H) := hr
        have P0 := r00 (by omega) R0
        have R1 : xRel N U.1 U.2.1 U.2.2.1 (b + z0) (H + 1) := by
          have q := P0 (b + z0) (by omega) (Nat.le_refl _)
          rw [e0] at q
          rw [show b + z0 = b + z0 by omega, show H + 1 = H + 1 by omega]; exact q
        have R2 : xRel N U.1 U.2.1 U.2.2.1 (b + z0 + 1) (H) := yR1 R1 (o1 trivial) (l1 trivial) (by omega) (by omega) (by omega) (by omega) (by omega) (by omega)
        have R3 : xRel N U.1 U.2.1 U.2.2.1 (b + z0 + 1 + z1 + 1) (H) := yR2 R1 (o1 trivial) (by omega) (by omega) r1 (by omega) (by omega)
        have P2 := r11 (by omega) R2
        have R4 : xRel N U.1 U.2.1 U.2.2.1 (b + z0 + 1 + z1) (H + 1) := by
          have q := P2 (b + z0 + 1 + z1) (by omega) (Nat.le_refl _)
          rw [e1] at q
          rw [show b + z0 + 1 + z1 = b + z0 + 1 + z1 by omega, show H + 1 = H + 1 by omega]; exact q
        have P4 := r22 (by omega) R3
        have R5 : xRel N U.1 U.2.1 U.2.2.1 (b + (z0 + z1 + z2 + 2)) (H + 1) := by
          have q := P4 (b + z0 + 1 + z1 + 1 + z2) (by omega) (Nat.le_refl _)
          rw [e2] at q
          rw [show b + (z0 + z1 + z2 + 2) = b + z0 + 1 + z1 + 1 + z2 by omega, show H + 1 = H + 1 by omega]; exact q
        intro x h1 h2
        by_cases q : x = b + (z0 + z1 + z2 + 2)
        · rw [q, gE trivial]; exact R5
        · rcases sp x h1 (by omega) with ⟨f1, f2⟩ | rfl | ⟨f1, f2⟩ | rfl | ⟨f1, f2⟩
          · rw [g0 x f1 f2]; exact P0 x f1 (by omega)
          · rw [g1 trivial]; exact R1
          · rw [g2 x f1 f2]; exact P2 x f1 (by omega)
          · rw [g3 trivial]; exact R4
          · rw [g4 x f1 f2]; exact P4 x f1 (by omega)
theorem yAE_14 {U : yU} {B N : Nat} : ∀ (b v z0 t0 z1 t1 : Nat) (m0 m1 : Nat → Nat), v < 7 → 0 < z0 → 0 < t0 → 0 < z1 → 0 < t1 → yAE U B N b z0 t0 m0 → yAt U (b + z0) 13 (nI v) → yAE U B N (b + z0 + 1) z1 t1 m1 → yAE U B N b (z0 + z1 + 1) (t0 + t1 + 1) (fun H => max (m0 H) (m1 H)) := by
  have hP := @yHPx U
  · intro b v z0 t0 z1 t1 m0 m1 hv a0 b0 a1 b1 c0 r0 c1 hb
    obtain ⟨A0, B0⟩ := c0 (by omega)
    obtain ⟨A1, B1⟩ := c1 (by omega)
    have N0 : yN U B (b + z0) := yN_v r0 (Or.inr rfl) hv
    have sp : ∀ x, b ≤ x → x < b + (z0 + z1 + 1) → (b ≤ x ∧ x < b + z0) ∨ x = b + z0 ∨ (b + z0 + 1 ≤ x ∧ x < b + z0 + 1 + z1) := by intro x h1 h2; omega
    refine ⟨fun x h1 h2 => ?_, ?_⟩
    · rcases sp x h1 h2 with ⟨f1, f2⟩ | rfl | ⟨f1, f2⟩
      · refine ⟨(A0 x f1 f2).1, fun y hy => ?_⟩
        have q := (A0 x f1 f2).2 y hy
        omega
      · refine ⟨N0.1, fun y hy => ?_⟩
        have q := N0.2.1 y hy
        omega
      · refine ⟨(A1 x f1 f2).1, fun y hy => ?_⟩
        have q := (A1 x f1 f2).2 y hy
        omega
    · intro H
      obtain ⟨β0, s0, e0, k0, d0, x0, r00⟩ := B0 (H)
      obtain ⟨β1, s1, e1, k1, d1, x1, r11⟩ := B1 (H)
      obtain ⟨Mx, eM⟩ : ∃ Mx, Mx = max (m0 H) (m1 H) := ⟨_, rfl⟩
      have hmx : H + 1 ≤ Mx ∧ Mx ≤ H + (t0 + t1 + 1) := by omega
      have mx0 : m0 (H) ≤ Mx := by omega
      have mx1 : m1 (H) ≤ Mx := by omega
      have att : Mx = m0 (H) ∨ Mx = m1 (H) := by omega
      show yHm U N b (z0 + z1 + 1) (t0 + t1 + 1) H (max (m0 H) (m1 H))
      rw [← eM]; clear eM
      obtain ⟨γ, eγ⟩ : ∃ γ : Nat → Nat, ∀ x, γ x = (if x < b + z0 then β0 x else if x = b + z0 then H + 1 else if x < b + z0 + 1 + z1 then β1 x else H + 1) := ⟨fun x => if x < b + z0 then β0 x else if x = b + z0 then H + 1 else if x < b + z0 + 1 + z1 then β1 x else H + 1, fun _ => rfl⟩
      have gE : True → γ (b + (z0 + z1 + 1)) = H + 1 := fun _ => by rw [eγ, if_neg (by omega), if_neg (by omega), if_neg (by omega)]
      have g2 : ∀ x, b + z0 + 1 ≤ x → x < b + z0 + 1 + z1 → γ x = β1 x := by intro x h1 h2; rw [eγ, if_neg (by omega), if_neg (by omega), if_pos (by omega)]
      have ev2 : True → γ (b + z0 + 1 + z1) = β1 (b + z0 + 1 + z1) := by
        intro _
        have q := e1
        rw [show b + z0 + 1 + z1 = b + (z0 + z1 + 1) by omega] at q ⊢
        have q3 := gE trivial
        omega
      have j2 : ∀ x, b + z0 + 1 ≤ x → x ≤ b + z0 + 1 + z1 → γ x = β1 x := by
        intro x h1 h2
        by_cases q : x = b + z0 + 1 + z1
        · rw [q]; exact ev2 trivial
        · exact g2 x h1 (by omega)
      have g1 : True → γ (b + z0) = H + 1 := fun _ => by rw [eγ, if_neg (by omega), if_pos (by omega)]
      have g0 : ∀ x, b ≤ x → x < b + z0 → γ x = β0 x := by intro x h1 h2; rw [eγ, if_pos (by omega)]
      have ev0 : True → γ (b + z0) = β0 (b + z0) := by
        intro _
        have q := e0
        rw [g1 trivial]
        omega
      have j0 : ∀ x, b ≤ x → x ≤ b + z0 → γ x = β0 x := by
        intro x h1 h2
        by_cases q : x = b + z0
        · rw [q]; exact ev0 trivial
        · exact g0 x h1 (by omega)
      have o1 : True → U.1 (b + z0) = 13 := fun _ => r0.1
      have l1 : True → xTa 13 = 1 ∧ xLe 13 = 0 := fun _ => ⟨rfl, rfl⟩
      refine ⟨γ, by rw [g0 b (by omega) (by omega)]; exact s0, gE trivial, hmx, fun x h1 h2 => ?_, ?_, fun hN hr => ?_⟩
      · rcases sp x h1 h2 with ⟨f1, f2⟩ | rfl | ⟨f1, f2⟩
        · have q := d0 x f1 f2
          rw [g0 x f1 f2]
          refine ⟨q.1, Nat.le_trans q.2.1 mx0, fun y hy => ?_⟩
          have q2 := (A0 x f1 f2).2 y hy
          rw [j0 y q2.1 q2.2]
          exact q.2.2 y hy
        · rw [g1 trivial, yTp (o1 trivial), o1 trivial, (l1 trivial).1, (l1 trivial).2]
          refine ⟨by omega, by omega, fun y hy => ?_⟩
          have q := N0.2.1 y hy
          rw [show y = b + z0 + 1 by omega, (show γ (b + z0 + 1) = H from (by rw [g2 _ (by omega) (by omega)]; exact s1))]; omega
        · have q := d1 x f1 f2
          rw [g2 x f1 f2]
          refine ⟨q.1, Nat.le_trans q.2.1 mx1, fun y hy => ?_⟩
          have q2 := (A1 x f1 f2).2 y hy
          rw [j2 y q2.1 q2.2]
          exact q.2.2 y hy
      · rcases att with q | q
        · obtain ⟨x, h1, h2, h3⟩ := x0
          exact ⟨x, by omega, by omega, by rw [g0 x h1 h2, h3]; exact q.symm⟩
        · obtain ⟨x, h1, h2, h3⟩ := x1
          exact ⟨x, by omega, by omega, by rw [g2 x h1 h2, h3]; exact q.symm⟩
      · have R0 : xRel N U.1 U.2.1 U.2.2.1 b (H) := hr
        have P0 := r00 (by omega) R0
        have R1 : xRel N U.1 U.2.1 U.2.2.1 (b + z0) (H + 1) := by
          have q := P0 (b + z0) (by omega) (Nat.le_refl _)
          rw [e0] at q
          rw [show b + z0 = b + z0 by omega, show H + 1 = H + 1 by omega]; exact q
        have R2 : xRel N U.1 U.2.1 U.2.2.1 (b + z0 + 1) (H) := yR1 R1 (o1 trivial) (l1 trivial) (by omega) (by omega) (by omega) (by omega) (by omega) (by omega)
        have P2 := r11 (by omega) R2
        have R3 : xRel N U.1 U.2.1 U.2.2.1 (b + (z0 + z1 + 1)) (H + 1) := by
          have q := P2 (b + z0 + 1 + z1) (by omega) (Nat.le_refl _)
          rw [e1] at q
          rw [show b + (z0 + z1 + 1) = b + z0 + 1 + z1 by omega, show H + 1 = H + 1 by omega]; exact q
        intro x h1 h2
        by_cases q : x = b + (z0 + z1 + 1)
        · rw [q, gE trivial]; exact R3
        · rcases sp x h1 (by omega) with ⟨f1, f2⟩ | rfl | ⟨f1, f2⟩
          · rw [g0 x f1 f2]; exact P0 x f1 (by omega)
          · rw [g1 trivial]; exact R1
          · rw [g2 x f1 f2]; exact P2 x f1 (by omega)
theorem yAE_15 {U : yU} {B N : Nat} : ∀ (b v z0 t0 : Nat) (m0 : Nat → Nat), v < 7 → 0 < z0 → 0 < t0 → yAE U B N b z0 t0 m0 → U.1 (b + z0) = 19 → yAt U (b + z0 + 1) 13 (nI v) → yAE U B N b (z0 + 2) (t0 + 1) (fun H => max (m0 H) (H + 2)) := by
  have hP := @yHPx U
  · intro b v z0 t0 m0 hv a0 b0 c0 r0 r1 hb
    obtain ⟨A0, B0⟩ := c0 (by omega)
    have N0 : yN U B (b + z0) := yN_f (hP _ _ (Or.inr rfl) r0)
    have N1 : yN U B (b + z0 + 1) := yN_v r1 (Or.inr rfl) hv
    have sp : ∀ x, b ≤ x → x < b + (z0 + 2) → (b ≤ x ∧ x < b + z0) ∨ x = b + z0 ∨ x = b + z0 + 1 := by intro x h1 h2; omega
    refine ⟨fun x h1 h2 => ?_, ?_⟩
    · rcases sp x h1 h2 with ⟨f1, f2⟩ | rfl | rfl
      · refine ⟨(A0 x f1 f2).1, fun y hy => ?_⟩
        have q := (A0 x f1 f2).2 y hy
        omega
      · refine ⟨N0.1, fun y hy => ?_⟩
        have q := N0.2.1 y hy
        omega
      · refine ⟨N1.1, fun y hy => ?_⟩
        have q := N1.2.1 y hy
        omega
    · intro H
      obtain ⟨β0, s0, e0, k0, d0, x0, r00⟩ := B0 (H)
      obtain ⟨Mx, eM⟩ : ∃ Mx, Mx = max (m0 H) (H + 2) := ⟨_, rfl⟩
      have hmx : H + 1 ≤ Mx ∧ Mx ≤ H + (t0 + 1) := by omega
      have mx0 : m0 (H) ≤ Mx := by omega
      have mu : H + 2 ≤ Mx := by omega
      have att : Mx = m0 (H) ∨ Mx = H + 2 := by omega
      show yHm U N b (z0 + 2) (t0 + 1) H (max (m0 H) (H + 2))
      rw [← eM]; clear eM
      obtain ⟨γ, eγ⟩ : ∃ γ : Nat → Nat, ∀ x, γ x = (if x < b + z0 then β0 x else if x = b + z0 then H + 1 else if x = b + z0 + 1 then H + 2 else H + 1) := ⟨fun x => if x < b + z0 then β0 x else if x = b + z0 then H + 1 else if x = b + z0 + 1 then H + 2 else H + 1, fun _ => rfl⟩
      have gE : True → γ (b + (z0 + 2)) = H + 1 := fun _ => by rw [eγ, if_neg (by omega), if_neg (by omega), if_neg (by omega)]
      have g2 : True → γ (b + z0 + 1) = H + 2 := fun _ => by rw [eγ, if_neg (by omega), if_neg (by omega), if_pos (by omega)]
      have g1 : True → γ (b + z0) = H + 1 := fun _ => by rw [eγ, if_neg (by omega), if_pos (by omega)]
      have g0 : ∀ x, b ≤ x → x < b + z0 → γ x = β0 x := by intro x h1 h2; rw [eγ, if_pos (by omega)]
      have ev0 : True → γ (b + z0) = β0 (b + z0) := by
        intro _
        have q := e0
        rw [g1 trivial]
        omega
      have j0 : ∀ x, b ≤ x → x ≤ b + z0 → γ x = β0 x := by
        intro x h1 h2
        by_cases q : x = b + z0
        · rw [q]; exact ev0 trivial
        · exact g0 x h1 (by omega)
      have o1 : True → U.1 (b + z0) = 19 := fun _ => r0
      have l1 : True → xTa 19 = 1 ∧ xLe 19 = 2 := fun _ => ⟨rfl, rfl⟩
      have o2 : True → U.1 (b + z0 + 1) = 13 := fun _ => r1.1
      have l2 : True → xTa 13 = 1 ∧ xLe 13 = 0 := fun _ => ⟨rfl, rfl⟩
      refine ⟨γ, by rw [g0 b (by omega) (by omega)]; exact s0, gE trivial, hmx, fun x h1 h2 => ?_, ?_, fun hN hr => ?_⟩
      · rcases sp x h1 h2 with ⟨f1, f2⟩ | rfl | rfl
        · have q := d0 x f1 f2
          rw [g0 x f1 f2]
          refine ⟨q.1, Nat.le_trans q.2.1 mx0, fun y hy => ?_⟩
          have q2 := (A0 x f1 f2).2 y hy
          rw [j0 y q2.1 q2.2]
          exact q.2.2 y hy
        · rw [g1 trivial, yTp (o1 trivial), o1 trivial, (l1 trivial).1, (l1 trivial).2]
          refine ⟨by omega, by omega, fun y hy => ?_⟩
          have q := N0.2.1 y hy
          rw [show y = b + z0 + 1 by omega, g2 trivial]; omega
        · rw [g2 trivial, yTp (o2 trivial), o2 trivial, (l2 trivial).1, (l2 trivial).2]
          refine ⟨by omega, by omega, fun y hy => ?_⟩
          have q := N1.2.1 y hy
          rw [show y = b + (z0 + 2) by omega, gE trivial]; omega
      · rcases att with q | q
        · obtain ⟨x, h1, h2, h3⟩ := x0
          exact ⟨x, by omega, by omega, by rw [g0 x h1 h2, h3]; exact q.symm⟩
        · exact ⟨b + z0, by omega, by omega, by rw [g1 trivial, yTp (o1 trivial), (l1 trivial).1, (l1 trivial).2]; omega⟩
      · have R0 : xRel N U.1 U.2.1 U.2.2.1 b (H) := hr
        have P0 := r00 (by omega) R0
        have R1 : xRel N U.1 U.2.1 U.2.2.1 (b + z0) (H + 1) := by
          have q := P0 (b + z0) (by omega) (Nat.le_refl _)
          rw [e0] at q
          rw [show b + z0 = b + z0 by omega, show H + 1 = H + 1 by omega]; exact q
        have R2 : xRel N U.1 U.2.1 U.2.2.1 (b + z0 + 1) (H + 2) := yR1 R1 (o1 trivial) (l1 trivial) (by omega) (by omega) (by omega) (by omega) (by omega) (by omega)
        have R3 : xRel N U.1 U.2.1 U.2.2.1 (b + (z0 + 2)) (H + 1) := yR1 R2 (o2 trivial) (l2 trivial) (by omega) (by omega) (by omega) (by omega) (by omega) (by omega)
        intro x h1 h2
        by_cases q : x = b + (z0 + 2)
        · rw [q, gE trivial]; exact R3
        · rcases sp x h1 (by omega) with ⟨f1, f2⟩ | rfl | rfl
          · rw [g0 x f1 f2]; exact P0 x f1 (by omega)
          · rw [g1 trivial]; exact R1
          · rw [g2 trivial]; exact R2
theorem yAE_16 {U : yU} {B N : Nat} : ∀ (b v z0 t0 z1 t1 : Nat) (m0 m1 : Nat → Nat), v < 7 → 0 < z0 → 0 < t0 → 0 < z1 → 0 < t1 → yAE U B N b z0 t0 m0 → yAE U B N (b + z0 + 5) z1 t1 m1 → yL16 U (nI v) (fun _ => True) (fun _ => True) b z0 z1 → yAE U B N b (z0 + z1 + 12) (t0 + t1 + 1) (fun H => max (m0 H) (max (H + 2) (m1 H))) := by
  have hP := @yHPx U
  · intro b v z0 t0 z1 t1 m0 m1 hv a0 b0 a1 b1 c0 c1 ⟨_, u0, u1, u2, u3, u4, _, v0, v1, v2, v3, v4, v5, v6⟩ hb
    obtain ⟨A0, B0⟩ := c0 (by omega)
    obtain ⟨A1, B1⟩ := c1 (by omega)
    have N0 : yN U B (b + z0) := yN_0 u0
    have N1 : yN U B (b + z0 + 1) := yN_x u1 (Or.inl (by omega))
    have N2 : yN U B (b + z0 + 2) := yN_v u2 (Or.inr rfl) hv
    have N3 : yN U B (b + z0 + 3) := yN_v u3 (Or.inl rfl) hv
    have N4 := yN_i (B := B) (v := 1) u4.1 (by omega) u4.2 (by omega)
    have N5 : yN U B (b + z0 + 5 + z1) := yN_x v0 (Or.inr (by omega))
    have N6 : yN U B (b + z0 + 5 + z1 + 1) := yN_v v1 (Or.inl rfl) hv
    have N7 : yN U B (b + z0 + 5 + z1 + 2) := yN_0 v2
    have N8 : yN U B (b + z0 + 5 + z1 + 3) := yN_x v3 (Or.inl (by omega))
    have N9 : yN U B (b + z0 + 5 + z1 + 4) := yN_v v4 (Or.inr rfl) hv
    have N10 := yN_g (B := B) v5 (by omega)
    have N11 : yN U B (b + z0 + 5 + z1 + 6) := yN_0 v6
    have sp : ∀ x, b ≤ x → x < b + (z0 + z1 + 12) → (b ≤ x ∧ x < b + z0) ∨ x = b + z0 ∨ x = b + z0 + 1 ∨ x = b + z0 + 2 ∨ x = b + z0 + 3 ∨ x = b + z0 + 4 ∨ (b + z0 + 5 ≤ x ∧ x < b + z0 + 5 + z1) ∨ x = b + z0 + 5 + z1 ∨ x = b + z0 + 5 + z1 + 1 ∨ x = b + z0 + 5 + z1 + 2 ∨ x = b + z0 + 5 + z1 + 3 ∨ x = b + z0 + 5 + z1 + 4 ∨ x = b + z0 + 5 + z1 + 5 ∨ x = b + z0 + 5 + z1 + 6 := by intro x h1 h2; omega
    refine ⟨fun x h1 h2 => ?_, ?_⟩
    · rcases sp x h1 h2 with ⟨f1, f2⟩ | rfl | rfl | rfl | rfl | rfl | ⟨f1, f2⟩ | rfl | rfl | rfl | rfl | rfl | rfl | rfl
      · refine ⟨(A0 x f1 f2).1, fun y hy => ?_⟩
        have q := (A0 x f1 f2).2 y hy
        omega
      · refine ⟨N0.1, fun y hy => ?_⟩
        have q := N0.2.1 y hy
        omega
      · refine ⟨N1.1, fun y hy => ?_⟩
        have q := N1.2.1 y hy
        omega
      · refine ⟨N2.1, fun y hy => ?_⟩
        have q := N2.2.1 y hy
        omega
      · refine ⟨N3.1, fun y hy => ?_⟩
        have q := N3.2.1 y hy
        omega
      · refine ⟨N4.1, fun y hy => ?_⟩
        have q := N4.2.1 y hy
        omega
      · refine ⟨(A1 x f1 f2).1, fun y hy => ?_⟩
        have q := (A1 x f1 f2).2 y hy
        omega
      · refine ⟨N5.1, fun y hy => ?_⟩
        have q := N5.2.1 y hy
        omega
      · refine ⟨N6.1, fun y hy => ?_⟩
        have q := N6.2.1 y hy
        omega
      · refine ⟨N7.1, fun y hy => ?_⟩
        have q := N7.2.1 y hy
        omega
      · refine ⟨N8.1, fun y hy => ?_⟩
        have q := N8.2.1 y hy
        omega
      · refine ⟨N9.1, fun y hy => ?_⟩
        have q := N9.2.1 y hy
        omega
      · refine ⟨N10.1, fun y hy => ?_⟩
        have q := N10.2.1 y hy
        omega
      · refine ⟨N11.1, fun y hy => ?_⟩
        have q := N11.2.1 y hy
        omega
    · intro H
      obtain ⟨β0, s0, e0, k0, d0, x0, r00⟩ := B0 (H)
      obtain ⟨β1, s1, e1, k1, d1, x1, r11⟩ := B1 (H)
      obtain ⟨Mx, eM⟩ : ∃ Mx, Mx = max (m0 H) (max (H + 2) (m1 H)) := ⟨_, rfl⟩
      have hmx : H + 1 ≤ Mx ∧ Mx ≤ H + (t0 + t1 + 1) := by omega
      have mx0 : m0 (H) ≤ Mx := by omega
      have mx1 : m1 (H) ≤ Mx := by omega
      have mu : H + 2 ≤ Mx := by omega
      have att : Mx = m0 (H) ∨ Mx = H + 2 ∨ Mx = m1 (H) := by omega
      show yHm U N b (z0 + z1 + 12) (t0 + t1 + 1) H (max (m0 H) (max (H + 2) (m1 H)))
      rw [← eM]; clear eM
      obtain ⟨γ, eγ⟩ : ∃ γ : Nat → Nat, ∀ x, γ x = (if x < b + z0 then β0 x else if x = b + z0 then H + 1 else if x = b + z0 + 1 then H + 2 else if x = b + z0 + 2 then H + 1 else if x = b + z0 + 3 then H else if x = b + z0 + 4 then H + 1 else if x < b + z0 + 5 + z1 then β1 x else if x = b + z0 + 5 + z1 then H + 1 else if x = b + z0 + 5 + z1 + 1 then H else if x = b + z0 + 5 + z1 + 2 then H + 1 else if x = b + z0 + 5 + z1 + 3 then H + 2 else if x = b + z0 + 5 + z1 + 4 then H + 1 else if x = b + z0 + 5 + z1 + 5 then H else if x = b + z0 + 5 + z1 + 6 then H else H + 1) := ⟨fun x => if x < b + z0 then β0 x else if x = b + z0 then H + 1 else if x = b + z0 + 1 then H + 2 else if x = b + z0 + 2 then H + 1 else if x = b + z0 + 3 then H else if x = b + z0 + 4 then H + 1 else if x < b + z0 + 5 + z1 then β1 x else if x = b + z0 + 5 + z1 then H + 1 else if x = b + z0 + 5 + z1 + 1 then H else if x = b + z0 + 5 + z1 + 2 then H + 1 else if x = b + z0 + 5 + z1 + 3 then H + 2 else if x = b + z0 + 5 + z1 + 4 then H + 1 else if x = b + z0 + 5 + z1 + 5 then H else if x = b + z0 + 5 + z1 + 6 then H else H + 1, fun _ => rfl⟩
      have gE : True → γ (b + (z0 + z1 + 12)) = H + 1 := fun _ => by rw [eγ, if_neg (by omega), if_neg (by omega), if_neg (by omega), if_neg (by omega), if_neg (by omega), if_neg (by omega), if_neg (by omega), if_neg (by omega), if_neg (by omega), if_neg (by omega), if_neg (by omega), if_neg (by omega), if_neg (by omega), if_neg (by omega)]
      have g13 : True → γ (b + z0 + 5 + z1 + 6) = H := fun _ => by rw [eγ, if_neg (by omega), if_neg (by omega), if_neg (by omega), if_neg (by omega), if_neg (by omega), if_neg (by omega), if_neg (by omega), if_neg (by omega), if_neg (by omega), if_neg (by omega), if_neg (by omega), if_neg (by omega), if_neg (by omega), if_pos (by omega)]
      have g12 : True → γ (b + z0 + 5 + z1 + 5) = H := fun _ => by rw [eγ, if_neg (by omega), if_neg (by omega), if_neg (by omega), if_neg (by omega), if_neg (by omega), if_neg (by omega), if_neg (by omega), if_neg (by omega), if_neg (by omega), if_neg (by omega), if_neg (by omega), if_neg (by omega), if_pos (by omega)]
      have g11 : True → γ (b + z0 + 5 + z1 + 4) = H + 1 := fun _ => by rw [eγ, if_neg (by omega), if_neg (by omega), if_neg (by omega), if_neg (by omega), if_neg (by omega), if_neg (by omega), if_neg (by omega), if_neg (by omega), if_neg (by omega), if_neg (by omega), if_neg (by omega), if_pos (by omega)]
      have g10 : True → γ (b + z0 + 5 + z1 + 3) = H + 2 := fun _ => by rw [eγ, if_neg (by omega), if_neg (by omega), if_neg (by omega), if_neg (by omega), if_neg (by omega), if_neg (by omega), if_neg (by omega), if_neg (by omega), if_neg (by omega), if_neg (by omega), if_pos (by omega)]
      have g9 : True → γ (b + z0 + 5 + z1 + 2) = H + 1 := fun _ => by rw [eγ, if_neg (by omega), if_neg (by omega), if_neg (by omega), if_neg (by omega), if_neg (by omega), if_neg (by omega), if_neg (by omega), if_neg (by omega), if_neg (by omega), if_pos (by omega)]
      have g8 : True → γ (b + z0 + 5 + z1 + 1) = H := fun _ => by rw [eγ, if_neg (by omega), if_neg (by omega), if_neg (by omega), if_neg (by omega), if_neg (by omega), if_neg (by omega), if_neg (by omega), if_neg (by omega), if_pos (by omega)]
      have g7 : True → γ (b + z0 + 5 + z1) = H + 1 := fun _ => by rw [eγ, if_neg (by omega), if_neg (by omega), if_neg (by omega), if_neg (by omega), if_neg (by omega), if_neg (by omega), if_neg (by omega), if_pos (by omega)]
      have g6 : ∀ x, b + z0 + 5 ≤ x → x < b + z0 + 5 + z1 → γ x = β1 x := by intro x h1 h2; rw [eγ, if_neg (by omega), if_neg (by omega), if_neg (by omega), if_neg (by omega), if_neg (by omega), if_neg (by omega), if_pos (by omega)]
      have ev6 : True → γ (b + z0 + 5 + z1) = β1 (b + z0 + 5 + z1) := by
        intro _
        have q := e1
        rw [g7 trivial]
        omega
      have j6 : ∀ x, b + z0 + 5 ≤ x → x ≤ b + z0 + 5 + z1 → γ x = β1 x := by
        intro x h1 h2
        by_cases q : x = b + z0 + 5 + z1
        · rw [q]; exact ev6 trivial
        · exact g6 x h1 (by omega)
      have g5 : True → γ (b + z0 + 4) = H + 1 := fun _ => by rw [eγ, if_neg (by omega), if_neg (by omega), if_neg (by omega), if_neg (by omega), if_neg (by omega), if_pos (by omega)]
      have g4 : True → γ (b + z0 + 3) = H := fun _ => by rw [eγ, if_neg (by omega), if_neg (by omega), if_neg (by omega), if_neg (by omega), if_pos (by omega)]
      have g3 : True → γ (b + z0 + 2) = H + 1 := fun _ => by rw [eγ, if_neg (by omega), if_neg (by omega), if_neg (by omega), if_pos (by omega)]
      have g2 : True → γ (b + z0 + 1) = H + 2 := fun _ => by rw [eγ, if_neg (by omega), if_neg (by omega), if_pos (by omega)]
      have g1 : True → γ (b + z0) = H + 1 := fun _ => by rw [eγ, if_neg (by omega), if_pos (by omega)]
      have g0 : ∀ x, b ≤ x → x < b + z0 → γ x = β0 x := by intro x h1 h2; rw [eγ, if_pos (by omega)]
      have ev0 : True → γ (b + z0) = β0 (b + z0) := by
        intro _
        have q := e0
        rw [g1 trivial]
        omega
      have j0 : ∀ x, b ≤ x → x ≤ b + z0 → γ x = β0 x := by
        intro x h1 h2
        by_cases q : x = b + z0
        · rw [q]; exact ev0 trivial
        · exact g0 x h1 (by omega)
      have o1 : True → U.1 (b + z0) = 0 := fun _ => u0.1
      have l1 : True → xTa 0 = 0 ∧ xLe 0 = 1 := fun _ => ⟨rfl, rfl⟩
      have o2 : True → U.1 (b + z0 + 1) = 7 := fun _ => u1.1
      have l2 : True → xTa 7 = 2 ∧ xLe 7 = 1 := fun _ => ⟨rfl, rfl⟩
      have o3 : True → U.1 (b + z0 + 2) = 13 := fun _ => u2.1
      have l3 : True → xTa 13 = 1 ∧ xLe 13 = 0 := fun _ => ⟨rfl, rfl⟩
      have o4 : True → U.1 (b + z0 + 3) = 1 := fun _ => u3.1
      have l4 : True → xTa 1 = 0 ∧ xLe 1 = 1 := fun _ => ⟨rfl, rfl⟩
      have o5 : True → U.1 (b + z0 + 4) = 14 := fun _ => u4.1.1
      have l5 : True → xTa 14 = 1 ∧ xLe 14 = 0 := fun _ => ⟨rfl, rfl⟩
      have o7 : True → U.1 (b + z0 + 5 + z1) = 18 := fun _ => v0.1
      have l7 : True → xTa 18 = 1 ∧ xLe 18 = 0 := fun _ => ⟨rfl, rfl⟩
      have o8 : True → U.1 (b + z0 + 5 + z1 + 1) = 1 := fun _ => v1.1
      have l8 : True → xTa 1 = 0 ∧ xLe 1 = 1 := fun _ => ⟨rfl, rfl⟩
      have o9 : True → U.1 (b + z0 + 5 + z1 + 2) = 0 := fun _ => v2.1
      have l9 : True → xTa 0 = 0 ∧ xLe 0 = 1 := fun _ => ⟨rfl, rfl⟩
      have o10 : True → U.1 (b + z0 + 5 + z1 + 3) = 3 := fun _ => v3.1
      have l10 : True → xTa 3 = 2 ∧ xLe 3 = 1 := fun _ => ⟨rfl, rfl⟩
      have o11 : True → U.1 (b + z0 + 5 + z1 + 4) = 13 := fun _ => v4.1
      have l11 : True → xTa 13 = 1 ∧ xLe 13 = 0 := fun _ => ⟨rfl, rfl⟩
      have o12 : True → U.1 (b + z0 + 5 + z1 + 5) = 15 := fun _ => v5.1
      have l12 : True → xTa 15 = 0 ∧ xLe 15 = 0 := fun _ => ⟨rfl, rfl⟩
      have o13 : True → U.1 (b + z0 + 5 + z1 + 6) = 0 := fun _ => v6.1
      have l13 : True → xTa 0 = 0 ∧ xLe 0 = 1 := fun _ => ⟨rfl, rfl⟩
      refine ⟨γ, by rw [g0 b (by omega) (by omega)]; exact s0, gE trivial, hmx, fun x h1 h2 => ?_, ?_, fun hN hr => ?_⟩
      · rcases sp x h1 h2 with ⟨f1, f2⟩ | rfl | rfl | rfl | rfl | rfl | ⟨f1, f2⟩ | rfl | rfl | rfl | rfl | rfl | rfl | rfl
        · have q := d0 x f1 f2
          rw [g0 x f1 f2]
          refine ⟨q.1, Nat.le_trans q.2.1 mx0, fun y hy => ?_⟩
          have q2 := (A0 x f1 f2).2 y hy
          rw [j0 y q2.1 q2.2]
          exact q.2.2 y hy
        · rw [g1 trivial, yTp (o1 trivial), o1 trivial, (l1 trivial).1, (l1 trivial).2]
          refine ⟨by omega, by omega, fun y hy => ?_⟩
          have q := N0.2.1 y hy
          rw [show y = b + z0 + 1 by omega, g2 trivial]; omega
        · rw [g2 trivial, yTp (o2 trivial), o2 trivial, (l2 trivial).1, (l2 trivial).2]
          refine ⟨by omega, by omega, fun y hy => ?_⟩
          have q := N1.2.1 y hy
          rw [show y = b + z0 + 2 by omega, g3 trivial]; omega
        · rw [g3 trivial, yTp (o3 trivial), o3 trivial, (l3 trivial).1, (l3 trivial).2]
          refine ⟨by omega, by omega, fun y hy => ?_⟩
          have q := N2.2.1 y hy
          rw [show y = b + z0 + 3 by omega, g4 trivial]; omega
        · rw [g4 trivial, yTp (o4 trivial), o4 trivial, (l4 trivial).1, (l4 trivial).2]
          refine ⟨by omega, by omega, fun y hy => ?_⟩
          have q := N3.2.1 y hy
          rw [show y = b + z0 + 4 by omega, g5 trivial]; omega
        · rw [g5 trivial, yTp (o5 trivial), o5 trivial, (l5 trivial).1, (l5 trivial).2]
          refine ⟨by omega, by omega, fun y hy => ?_⟩
          have q := N4.2.1 y hy
          rcases q with q | q
          · rw [show y = b + z0 + 5 by omega, (show γ (b + z0 + 5) = H from (by rw [g6 _ (by omega) (by omega)]; exact s1))]; omega
          · rw [q, g13 trivial]; omega
        · have q := d1 x f1 f2
          rw [g6 x f1 f2]
          refine ⟨q.1, Nat.le_trans q.2.1 mx1, fun y hy => ?_⟩
          have q2 := (A1 x f1 f2).2 y hy
          rw [j6 y q2.1 q2.2]
          exact q.2.2 y hy
        · rw [g7 trivial, yTp (o7 trivial), o7 trivial, (l7 trivial).1, (l7 trivial).2]
          refine ⟨by omega, by omega, fun y hy => ?_⟩
          have q := N5.2.1 y hy
          rw [show y = b + z0 + 5 + z1 + 1 by omega, g8 trivial]; omega
        · rw [g8 trivial, yTp (o8 trivial), o8 trivial, (l8 trivial).1, (l8 trivial).2]
          refine ⟨by omega, by omega, fun y hy => ?_⟩
          have q := N6.2.1 y hy
          rw [show y = b + z0 + 5 + z1 + 2 by omega, g9 trivial]; omega
        · rw [g9 trivial, yTp (o9 trivial), o9 trivial, (l9 trivial).1, (l9 trivial).2]
          refine ⟨by omega, by omega, fun y hy => ?_⟩
          have q := N7.2.1 y hy
          rw [show y = b + z0 + 5 + z1 + 3 by omega, g10 trivial]; omega
        · rw [g10 trivial, yTp (o10 trivial), o10 trivial, (l10 trivial).1, (l10 trivial).2]
          refine ⟨by omega, by omega, fun y hy => ?_⟩
          have q := N8.2.1 y hy
          rw [show y = b + z0 + 5 + z1 + 4 by omega, g11 trivial]; omega
        · rw [g11 trivial, yTp (o11 trivial), o11 trivial, (l11 trivial).1, (l11 trivial).2]
          refine ⟨by omega, by omega, fun y hy => ?_⟩
          have q := N9.2.1 y hy
          rw [show y = b + z0 + 5 + z1 + 5 by omega, g12 trivial]; omega
        · rw [g12 trivial, yTp (o12 trivial), o12 trivial, (l12 trivial).1, (l12 trivial).2]
          refine ⟨by omega, by omega, fun y hy => ?_⟩
          have q := N10.2.1 y hy
          rw [show y = b + z0 + 3 by omega, g4 trivial]; omega
        · rw [g13 trivial, yTp (o13 trivial), o13 trivial, (l13 trivial).1, (l13 trivial).2]
          refine ⟨by omega, by omega, fun y hy => ?_⟩
          have q := N11.2.1 y hy
          rw [show y = b + (z0 + z1 + 12) by omega, gE trivial]; omega
      · rcases att with q | q | q
        · obtain ⟨x, h1, h2, h3⟩ := x0
          exact ⟨x, by omega, by omega, by rw [g0 x h1 h2, h3]; exact q.symm⟩
        · exact ⟨b + z0, by omega, by omega, by rw [g1 trivial, yTp (o1 trivial), (l1 trivial).1, (l1 trivial).2]; omega⟩
        · obtain ⟨x, h1, h2, h3⟩ := x1
          exact ⟨x, by omega, by omega, by rw [g6 x h1 h2, h3]; exact q.symm⟩
      · have R0 : xRel N U.1 U.2.1 U.2.2.1 b (H) := hr
        have P0 := r00 (by omega) R0
        have R1 : xRel N U.1 U.2.1 U.2.2.1 (b + z0) (H + 1) := by
          have q := P0 (b + z0) (by omega) (Nat.le_refl _)
          rw [e0] at q
          rw [show b + z0 = b + z0 by omega, show H + 1 = H + 1 by omega]; exact q
        have R2 : xRel N U.1 U.2.1 U.2.2.1 (b + z0 + 1) (H + 2) := yR1 R1 (o1 trivial) (l1 trivial) (by omega) (by omega) (by omega) (by omega) (by omega) (by omega)
        have R3 : xRel N U.1 U.2.1 U.2.2.1 (b + z0 + 2) (H + 1) := yR1 R2 (o2 trivial) (l2 trivial) (by omega) (by omega) (by omega) (by omega) (by omega) (by omega)
        have R4 : xRel N U.1 U.2.1 U.2.2.1 (b + z0 + 3) (H) := yR1 R3 (o3 trivial) (l3 trivial) (by omega) (by omega) (by omega) (by omega) (by omega) (by omega)
        have R5 : xRel N U.1 U.2.1 U.2.2.1 (b + z0 + 4) (H + 1) := yR1 R4 (o4 trivial) (l4 trivial) (by omega) (by omega) (by omega) (by omega) (by omega) (by omega)
        have R6 : xRel N U.1 U.2.1 U.2.2.1 (b + z0 + 5) (H) := yR1 R5 (o5 trivial) (l5 trivial) (by omega) (by omega) (by omega) (by omega) (by omega) (by omega)
        have R7 : xRel N U.1 U.2.1 U.2.2.1 (b + z0 + 5 + z1 + 6) (H) := yR2 R5 (o5 trivial) (by omega) (by omega) u4.2 (by omega) (by omega)
        have P6 := r11 (by omega) R6
        have R8 : xRel N U.1 U.2.1 U.2.2.1 (b + z0 + 5 + z1) (H + 1) := by
          have q := P6 (b + z0 + 5 + z1) (by omega) (Nat.le_refl _)
          rw [e1] at q
          rw [show b + z0 + 5 + z1 = b + z0 + 5 + z1 by omega, show H + 1 = H + 1 by omega]; exact q
        have R9 : xRel N U.1 U.2.1 U.2.2.1 (b + z0 + 5 + z1 + 1) (H) := yR1 R8 (o7 trivial) (l7 trivial) (by omega) (by omega) (by omega) (by omega) (by omega) (by omega)
        have R10 : xRel N U.1 U.2.1 U.2.2.1 (b + z0 + 5 + z1 + 2) (H + 1) := yR1 R9 (o8 trivial) (l8 trivial) (by omega) (by omega) (by omega) (by omega) (by omega) (by omega)
        have R11 : xRel N U.1 U.2.1 U.2.2.1 (b + z0 + 5 + z1 + 3) (H + 2) := yR1 R10 (o9 trivial) (l9 trivial) (by omega) (by omega) (by omega) (by omega) (by omega) (by omega)
        have R12 : xRel N U.1 U.2.1 U.2.2.1 (b + z0 + 5 + z1 + 4) (H + 1) := yR1 R11 (o10 trivial) (l10 trivial) (by omega) (by omega) (by omega) (by omega) (by omega) (by omega)
        have R13 : xRel N U.1 U.2.1 U.2.2.1 (b + z0 + 5 + z1 + 5) (H) := yR1 R12 (o11 trivial) (l11 trivial) (by omega) (by omega) (by omega) (by omega) (by omega) (by omega)
        have R14 : xRel N U.1 U.2.1 U.2.2.1 (b + (z0 + z1 + 12)) (H + 1) := yR1 R7 (o13 trivial) (l13 trivial) (by omega) (by omega) (by omega) (by omega) (by omega) (by omega)
        intro x h1 h2
        by_cases q : x = b + (z0 + z1 + 12)
        · rw [q, gE trivial]; exact R14
        · rcases sp x h1 (by omega) with ⟨f1, f2⟩ | rfl | rfl | rfl | rfl | rfl | ⟨f1, f2⟩ | rfl | rfl | rfl | rfl | rfl | rfl | rfl
          · rw [g0 x f1 f2]; exact P0 x f1 (by omega)
          · rw [g1 trivial]; exact R1
          · rw [g2 trivial]; exact R2
          · rw [g3 trivial]; exact R3
          · rw [g4 trivial]; exact R4
          · rw [g5 trivial]; exact R5
          · rw [g6 x f1 f2]; exact P6 x f1 (by omega)
          · rw [g7 trivial]; exact R8
          · rw [g8 trivial]; exact R9
          · rw [g9 trivial]; exact R10
          · rw [g10 trivial]; exact R11
          · rw [g11 trivial]; exact R12
          · rw [g12 trivial]; exact R13
          · rw [g13 trivial]; exact R7
theorem yAE_17 {U : yU} {B N : Nat} : ∀ (b v z0 t0 z1 t1 z2 t2 : Nat) (m0 m1 m2 : Nat → Nat), v < 8 → v < B → 0 < z0 → 0 < t0 → 0 < z1 → 0 < t1 → 0 < z2 → 0 < t2 → yAE U B N b z0 t0 m0 → yAE U B N (b + z0) z1 t1 m1 → yAE U B N (b + z0 + z1) z2 t2 m2 → yAt U (b + z0 + z1 + z2) 16 (nI v) → yAE U B N b (z0 + z1 + z2 + 1) (t0 + t1 + t2 + 1) (fun H => max (m0 H) (max (m1 (H + 1)) (m2 (H + 2)))) := by
  have hP := @yHPx U
  · intro b v z0 t0 z1 t1 z2 t2 m0 m1 m2 hv hB8 a0 b0 a1 b1 a2 b2 c0 c1 c2 r0 hb
    obtain ⟨A0, B0⟩ := c0 (by omega)
    obtain ⟨A1, B1⟩ := c1 (by omega)
    obtain ⟨A2, B2⟩ := c2 (by omega)
    have N0 : yN U B (b + z0 + z1 + z2) := yN_c r0 hv hB8
    have sp : ∀ x, b ≤ x → x < b + (z0 + z1 + z2 + 1) → (b ≤ x ∧ x < b + z0) ∨ (b + z0 ≤ x ∧ x < b + z0 + z1) ∨ (b + z0 + z1 ≤ x ∧ x < b + z0 + z1 + z2) ∨ x = b + z0 + z1 + z2 := by intro x h1 h2; omega
    refine ⟨fun x h1 h2 => ?_, ?_⟩
    · rcases sp x h1 h2 with ⟨f1, f2⟩ | ⟨f1, f2⟩ | ⟨f1, f2⟩ | rfl
      · refine ⟨(A0 x f1 f2).1, fun y hy => ?_⟩
        have q := (A0 x f1 f2).2 y hy
        omega
      · refine ⟨(A1 x f1 f2).1, fun y hy => ?_⟩
        have q := (A1 x f1 f2).2 y hy
        omega
      · refine ⟨(A2 x f1 f2).1, fun y hy => ?_⟩
        have q := (A2 x f1 f2).2 y hy
        omega
      · refine ⟨N0.1, fun y hy => ?_⟩
        have q := N0.2.1 y hy
        omega
    · intro H
      obtain ⟨β0, s0, e0, k0, d0, x0, r00⟩ := B0 (H)
      obtain ⟨β1, s1, e1, k1, d1, x1, r11⟩ := B1 (H + 1)
      obtain ⟨β2, s2, e2, k2, d2, x2, r22⟩ := B2 (H + 2)
      obtain ⟨Mx, eM⟩ : ∃ Mx, Mx = max (m0 H) (max (m1 (H + 1)) (m2 (H + 2))) := ⟨_, rfl⟩
      have hmx : H + 1 ≤ Mx ∧ Mx ≤ H + (t0 + t1 + t2 + 1) := by omega
      have mx0 : m0 (H) ≤ Mx := by omega
      have mx1 : m1 (H + 1) ≤ Mx := by omega
      have mx2 : m2 (H + 2) ≤ Mx := by omega
      have att : Mx = m0 (H) ∨ Mx = m1 (H + 1) ∨ Mx = m2 (H + 2) := by omega
      show yHm U N b (z0 + z1 + z2 + 1) (t0 + t1 + t2 + 1) H (max (m0 H) (max (m1 (H + 1)) (m2 (H + 2))))
      rw [← eM]; clear eM
      obtain ⟨γ, eγ⟩ : ∃ γ : Nat → Nat, ∀ x, γ x = (if x < b + z0 then β0 x else if x < b + z0 + z1 then β1 x else if x < b + z0 + z1 + z2 then β2 x else if x = b + z0 + z1 + z2 then H + 3 else H + 1) := ⟨fun x => if x < b + z0 then β0 x else if x < b + z0 + z1 then β1 x else if x < b + z0 + z1 + z2 then β2 x else if x = b + z0 + z1 + z2 then H + 3 else H + 1, fun _ => rfl⟩
      have gE : True → γ (b + (z0 + z1 + z2 + 1)) = H + 1 := fun _ => by rw [eγ, if_neg (by omega), if_neg (by omega), if_neg (by omega), if_neg (by omega)]
      have g3 : True → γ (b + z0 + z1 + z2) = H + 3 := fun _ => by rw [eγ, if_neg (by omega), if_neg (by omega), if_neg (by omega), if_pos (by omega)]
      have g2 : ∀ x, b + z0 + z1 ≤ x → x < b + z0 + z1 + z2 → γ x = β2 x := by intro x h1 h2; rw [eγ, if_neg (by omega), if_neg (by omega), if_pos (by omega)]
      have ev2 : True → γ (b + z0 + z1 + z2) = β2 (b + z0 + z1 + z2) := by
        intro _
        have q := e2
        rw [g3 trivial]
        omega
      have j2 : ∀ x, b + z0 + z1 ≤ x → x ≤ b + z0 + z1 + z2 → γ x = β2 x := by
        intro x h1 h2
        by_cases q : x = b + z0 + z1 + z2
        · rw [q]; exact ev2 trivial
        · exact g2 x h1 (by omega)
      have g1 : ∀ x, b + z0 ≤ x → x < b + z0 + z1 → γ x = β1 x := by intro x h1 h2; rw [eγ, if_neg (by omega), if_pos (by omega)]
      have ev1 : True → γ (b + z0 + z1) = β1 (b + z0 + z1) := by
        intro _
        have q := e1
        rw [g2 _ (by omega) (by omega)]
        have q2 := s2
        omega
      have j1 : ∀ x, b + z0 ≤ x → x ≤ b + z0 + z1 → γ x = β1 x := by
        intro x h1 h2
        by_cases q : x = b + z0 + z1
        · rw [q]; exact ev1 trivial
        · exact g1 x h1 (by omega)
      have g0 : ∀ x, b ≤ x → x < b + z0 → γ x = β0 x := by intro x h1 h2; rw [eγ, if_pos (by omega)]
      have ev0 : True → γ (b + z0) = β0 (b + z0) := by
        intro _
        have q := e0
        rw [g1 _ (by omega) (by omega)]
        have q2 := s1
        omega
      have j0 : ∀ x, b ≤ x → x ≤ b + z0 → γ x = β0 x := by
        intro x h1 h2
        by_cases q : x = b + z0
        · rw [q]; exact ev0 trivial
        · exact g0 x h1 (by omega)
      have o3 : True → U.1 (b + z0 + z1 + z2) = 16 := fun _ => r0.1
      have l3 : True → xTa 16 = 3 ∧ xLe 16 = 1 := fun _ => ⟨rfl, rfl⟩
      refine ⟨γ, by rw [g0 b (by omega) (by omega)]; exact s0, gE trivial, hmx, fun x h1 h2 => ?_, ?_, fun hN hr => ?_⟩
      · rcases sp x h1 h2 with ⟨f1, f2⟩ | ⟨f1, f2⟩ | ⟨f1, f2⟩ | rfl
        · have q := d0 x f1 f2
          rw [g0 x f1 f2]
          refine ⟨q.1, Nat.le_trans q.2.1 mx0, fun y hy => ?_⟩
          have q2 := (A0 x f1 f2).2 y hy
          rw [j0 y q2.1 q2.2]
          exact q.2.2 y hy
        · have q := d1 x f1 f2
          rw [g1 x f1 f2]
          refine ⟨q.1, Nat.le_trans q.2.1 mx1, fun y hy => ?_⟩
          have q2 := (A1 x f1 f2).2 y hy
          rw [j1 y q2.1 q2.2]
          exact q.2.2 y hy
        · have q := d2 x f1 f2
          rw [g2 x f1 f2]
          refine ⟨q.1, Nat.le_trans q.2.1 mx2, fun y hy => ?_⟩
          have q2 := (A2 x f1 f2).2 y hy
          rw [j2 y q2.1 q2.2]
          exact q.2.2 y hy
        · rw [g3 trivial, yTp (o3 trivial), o3 trivial, (l3 trivial).1, (l3 trivial).2]
          refine ⟨by omega, by omega, fun y hy => ?_⟩
          have q := N0.2.1 y hy
          rw [show y = b + (z0 + z1 + z2 + 1) by omega, gE trivial]; omega
      · rcases att with q | q | q
        · obtain ⟨x, h1, h2, h3⟩ := x0
          exact ⟨x, by omega, by omega, by rw [g0 x h1 h2, h3]; exact q.symm⟩
        · obtain ⟨x, h1, h2, h3⟩ := x1
          exact ⟨x, by omega, by omega, by rw [g1 x h1 h2, h3]; exact q.symm⟩
        · obtain ⟨x, h1, h2, h3⟩ := x2
          exact ⟨x, by omega, by omega, by rw [g2 x h1 h2, h3]; exact q.symm⟩
      · have R0 : xRel N U.1 U.2.1 U.2.2.1 b (H) := hr
        have P0 := r00 (by omega) R0
        have R1 : xRel N U.1 U.2.1 U.2.2.1 (b + z0) (H + 1) := by
          have q := P0 (b + z0) (by omega) (Nat.le_refl _)
          rw [e0] at q
          rw [show b + z0 = b + z0 by omega, show H + 1 = H + 1 by omega]; exact q
        have P1 := r11 (by omega) R1
        have R2 : xRel N U.1 U.2.1 U.2.2.1 (b + z0 + z1) (H + 2) := by
          have q := P1 (b + z0 + z1) (by omega) (Nat.le_refl _)
          rw [e1] at q
          rw [show b + z0 + z1 = b + z0 + z1 by omega, show H + 2 = H + 1 + 1 by omega]; exact q
        have P2 := r22 (by omega) R2
        have R3 : xRel N U.1 U.2.1 U.2.2.1 (b + z0 + z1 + z2) (H + 3) := by
          have q := P2 (b + z0 + z1 + z2) (by omega) (Nat.le_refl _)
          rw [e2] at q
          rw [show b + z0 + z1 + z2 = b + z0 + z1 + z2 by omega, show H + 3 = H + 2 + 1 by omega]; exact q
        have R4 : xRel N U.1 U.2.1 U.2.2.1 (b + (z0 + z1 + z2 + 1)) (H + 1) := yR1 R3 (o3 trivial) (l3 trivial) (by omega) (by omega) (by omega) (by omega) (by omega) (by omega)
        intro x h1 h2
        by_cases q : x = b + (z0 + z1 + z2 + 1)
        · rw [q, gE trivial]; exact R4
        · rcases sp x h1 (by omega) with ⟨f1, f2⟩ | ⟨f1, f2⟩ | ⟨f1, f2⟩ | rfl
          · rw [g0 x f1 f2]; exact P0 x f1 (by omega)
          · rw [g1 x f1 f2]; exact P1 x f1 (by omega)
          · rw [g2 x f1 f2]; exact P2 x f1 (by omega)
          · rw [g3 trivial]; exact R3
theorem yAE_2 {U : yU} {B N : Nat} : ∀ (b o z0 t0 z1 t1 : Nat) (m0 m1 : Nat → Nat), 2 ≤ o → o ≤ 11 → 0 < z0 → 0 < t0 → 0 < z1 → 0 < t1 → yAE U B N b z0 t0 m0 → yAE U B N (b + z0) z1 t1 m1 → U.1 (b + z0 + z1) = o → yAE U B N b (z0 + z1 + 1) (t0 + t1 + 1) (fun H => max (m0 H) (m1 (H + 1))) := by
  have hP := @yHPx U
  · intro b o z0 t0 z1 t1 m0 m1 ho2 ho11 a0 b0 a1 b1 c0 c1 r0 hb
    obtain ⟨A0, B0⟩ := c0 (by omega)
    obtain ⟨A1, B1⟩ := c1 (by omega)
    have N0 : yN U B (b + z0 + z1) := yN_f (hP _ _ (Or.inl (by omega)) r0)
    have sp : ∀ x, b ≤ x → x < b + (z0 + z1 + 1) → (b ≤ x ∧ x < b + z0) ∨ (b + z0 ≤ x ∧ x < b + z0 + z1) ∨ x = b + z0 + z1 := by intro x h1 h2; omega
    refine ⟨fun x h1 h2 => ?_, ?_⟩
    · rcases sp x h1 h2 with ⟨f1, f2⟩ | ⟨f1, f2⟩ | rfl
      · refine ⟨(A0 x f1 f2).1, fun y hy => ?_⟩
        have q := (A0 x f1 f2).2 y hy
        omega
      · refine ⟨(A1 x f1 f2).1, fun y hy => ?_⟩
        have q := (A1 x f1 f2).2 y hy
        omega
      · refine ⟨N0.1, fun y hy => ?_⟩
        have q := N0.2.1 y hy
        omega
    · intro H
      obtain ⟨β0, s0, e0, k0, d0, x0, r00⟩ := B0 (H)
      obtain ⟨β1, s1, e1, k1, d1, x1, r11⟩ := B1 (H + 1)
      obtain ⟨Mx, eM⟩ : ∃ Mx, Mx = max (m0 H) (m1 (H + 1)) := ⟨_, rfl⟩
      have hmx : H + 1 ≤ Mx ∧ Mx ≤ H + (t0 + t1 + 1) := by omega
      have mx0 : m0 (H) ≤ Mx := by omega
      have mx1 : m1 (H + 1) ≤ Mx := by omega
      have att : Mx = m0 (H) ∨ Mx = m1 (H + 1) := by omega
      show yHm U N b (z0 + z1 + 1) (t0 + t1 + 1) H (max (m0 H) (m1 (H + 1)))
      rw [← eM]; clear eM
      obtain ⟨γ, eγ⟩ : ∃ γ : Nat → Nat, ∀ x, γ x = (if x < b + z0 then β0 x else if x < b + z0 + z1 then β1 x else if x = b + z0 + z1 then H + 2 else H + 1) := ⟨fun x => if x < b + z0 then β0 x else if x < b + z0 + z1 then β1 x else if x = b + z0 + z1 then H + 2 else H + 1, fun _ => rfl⟩
      have gE : True → γ (b + (z0 + z1 + 1)) = H + 1 := fun _ => by rw [eγ, if_neg (by omega), if_neg (by omega), if_neg (by omega)]
      have g2 : True → γ (b + z0 + z1) = H + 2 := fun _ => by rw [eγ, if_neg (by omega), if_neg (by omega), if_pos (by omega)]
      have g1 : ∀ x, b + z0 ≤ x → x < b + z0 + z1 → γ x = β1 x := by intro x h1 h2; rw [eγ, if_neg (by omega), if_pos (by omega)]
      have ev1 : True → γ (b + z0 + z1) = β1 (b + z0 + z1) := by
        intro _
        have q := e1
        rw [g2 trivial]
        omega
      have j1 : ∀ x, b + z0 ≤ x → x ≤ b + z0 + z1 → γ x = β1 x := by
        intro x h1 h2
        by_cases q : x = b + z0 + z1
        · rw [q]; exact ev1 trivial
        · exact g1 x h1 (by omega)
      have g0 : ∀ x, b ≤ x → x < b + z0 → γ x = β0 x := by intro x h1 h2; rw [eγ, if_pos (by omega)]
      have ev0 : True → γ (b + z0) = β0 (b + z0) := by
        intro _
        have q := e0
        rw [g1 _ (by omega) (by omega)]
        have q2 := s1
        omega
      have j0 : ∀ x, b ≤ x → x ≤ b + z0 → γ x = β0 x := by
        intro x h1 h2
        by_cases q : x = b + z0
        · rw [q]; exact ev0 trivial
        · exact g0 x h1 (by omega)
      have o2 : True → U.1 (b + z0 + z1) = o := fun _ => r0
      have l2 : True → xTa o = 2 ∧ xLe o = 1 := fun _ => yTaLe o (by omega) ho2 ho11
      refine ⟨γ, by rw [g0 b (by omega) (by omega)]; exact s0, gE trivial, hmx, fun x h1 h2 => ?_, ?_, fun hN hr => ?_⟩
      · rcases sp x h1 h2 with ⟨f1, f2⟩ | ⟨f1, f2⟩ | rfl
        · have q := d0 x f1 f2
          rw [g0 x f1 f2]
          refine ⟨q.1, Nat.le_trans q.2.1 mx0, fun y hy => ?_⟩
          have q2 := (A0 x f1 f2).2 y hy
          rw [j0 y q2.1 q2.2]
          exact q.2.2 y hy
        · have q := d1 x f1 f2
          rw [g1 x f1 f2]
          refine ⟨q.1, Nat.le_trans q.2.1 mx1, fun y hy => ?_⟩
          have q2 := (A1 x f1 f2).2 y hy
          rw [j1 y q2.1 q2.2]
          exact q.2.2 y hy
        · rw [g2 trivial, yTp (o2 trivial), o2 trivial, (l2 trivial).1, (l2 trivial).2]
          refine ⟨by omega, by omega, fun y hy => ?_⟩
          have q := N0.2.1 y hy
          rw [show y = b + (z0 + z1 + 1) by omega, gE trivial]; omega
      · rcases att with q | q
        · obtain ⟨x, h1, h2, h3⟩ := x0
          exact ⟨x, by omega, by omega, by rw [g0 x h1 h2, h3]; exact q.symm⟩
        · obtain ⟨x, h1, h2, h3⟩ := x1
          exact ⟨x, by omega, by omega, by rw [g1 x h1 h2, h3]; exact q.symm⟩
      · have R0 : xRel N U.1 U.2.1 U.2.2.1 b (H) := hr
        have P0 := r00 (by omega) R0
        have R1 : xRel N U.1 U.2.1 U.2.2.1 (b + z0) (H + 1) := by
          have q := P0 (b + z0) (by omega) (Nat.le_refl _)
          rw [e0] at q
          rw [show b + z0 = b + z0 by omega, show H + 1 = H + 1 by omega]; exact q
        have P1 := r11 (by omega) R1
        have R2 : xRel N U.1 U.2.1 U.2.2.1 (b + z0 + z1) (H + 2) := by
          have q := P1 (b + z0 + z1) (by omega) (Nat.le_refl _)
          rw [e1] at q
          rw [show b + z0 + z1 = b + z0 + z1 by omega, show H + 2 = H + 1 + 1 by omega]; exact q
        have R3 : xRel N U.1 U.2.1 U.2.2.1 (b + (z0 + z1 + 1)) (H + 1) := yR1 R2 (o2 trivial) (l2 trivial) (by omega) (by omega) (by omega) (by omega) (by omega) (by omega)
        intro x h1 h2
        by_cases q : x = b + (z0 + z1 + 1)
        · rw [q, gE trivial]; exact R3
        · rcases sp x h1 (by omega) with ⟨f1, f2⟩ | ⟨f1, f2⟩ | rfl
          · rw [g0 x f1 f2]; exact P0 x f1 (by omega)
          · rw [g1 x f1 f2]; exact P1 x f1 (by omega)
          · rw [g2 trivial]; exact R2
theorem yAE_of {U : yU} {O : Nat → Nat} {A : Nat → Int32} {n B N : Nat} (hT : xTok O A n) (hB : ∀ p, p < n → O p = 17 → ∀ v, v < 8 → A p = nI v → v < B) : ∀ k p b, xVF O n k p → yLay (fun i o => U.1 i = o) U O A k p b → yAE U B N b (xSz O k p) (xNx O k p - p) (yMx O k p) := yInd hT hB (fun b z t m => yAE U B N b z t m) yAE_0 yAE_1 yAE_12 yAE_13 yAE_14 yAE_15 yAE_16 yAE_17 yAE_2

