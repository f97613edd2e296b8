/-! FaslDesk: define -/
theorem xCpy {f g : Nat → Int32} {n i : Nat} (h : i < n) : va_cpy f g 0 0 n i = f i := by
  show (if 0 ≤ i ∧ i < 0 + n then f (0 + (i - 0)) else g i) = f i
  rw [if_pos ⟨Nat.zero_le _, by omega⟩]
  congr 1
  omega
theorem xSt_cg {O : Nat → Nat} {f g : Nat → Int32} : ∀ (k p : Nat), xVF O 40 k p → (∀ i, i < 120 → f i = g i) → xSt O f k p → xSt O g k p := by
  intro k
  induction k with
  | zero => intro p hv; exact absurd hv id
  | succ k ih =>
    intro p hv hfg hs j hj
    obtain ⟨h1, h2⟩ := hs j hj
    have P3 := xPa_3 (O p)
    have hp := hv.1
    exact ⟨by rw [← hfg _ (by omega)]; exact h1, ih _ (hv.2 j hj) hfg h2⟩
theorem xVF_mono {O : Nat → Nat} {n n' : Nat} (hn : n ≤ n') : ∀ (k p : Nat), xVF O n k p → xVF O n' k p := by
  intro k
  induction k with
  | zero => intro p h; exact h
  | succ k ih => intro p h; exact ⟨by have := h.1; omega, fun j hj => ih _ (h.2 j hj)⟩
def xDfS (dr B f b : Nat) : Prop := b = dr ∨ b = dr + 3 ∨ (B + 10 * f ≤ b ∧ b ≤ B + 10 * f + 3)
theorem c_Desk_define {sc : Nat × (Nat → Int32)} {u : xv_M} {h dr it cp ar im : Nat} (hD : xDk u h dr it cp ar im) {ma fa oa B n : Nat} {O : Nat → Nat} {A : Nat → Int32} {x y : Int32} (hF : xv_Fo u dr (dr + 1) (dr + 2) (dr + 3)) (hT : xTk u dr (dr + 1) (dr + 2) n O A) (H : xIn u it ma fa oa B) (hap : dr + 3 < B) : xv_C sc 43 J_Desk_define [.ref h, .int x, .int y] u (xv_N u) (xv_S u) (xv_pi (fun r w => (¬ (∃ f m, f < 8 ∧ m ≤ 3 ∧ x = nI f ∧ y = nI m ∧ xOne O A n x y = true) ∧ r = -1 ∧ xSi (fun b => b = dr + 3) u w) ∨ (∃ f m, f < 8 ∧ m ≤ 3 ∧ x = nI f ∧ y = nI m ∧ xOne O A n x y = true ∧ r = nI n ∧ xSi (xDfS dr B f) u w ∧ xv_i w dr 2 = 0 ∧ xTk w (B + 10 * f) (B + 10 * f + 1) (B + 10 * f + 2) n O A ∧ xv_i w (B + 10 * f) 3 = nI m ∧ xSt O (xv_i w (B + 10 * f + 3)) 41 0))) := by
  obtain ⟨k0, r0, r1, r2, r3, r4⟩ := hD
  refine xv_C_of (by decide) (Nat.le_refl _) (Nat.le_refl _) (xv_cat1 rfl) (Nat.le_of_ble_eq_true rfl) ?_
  show xv_X sc 43 J_Desk_define 0 [some (.ref h), some (.int x), some (.int y)] [] u (xv_N u) (xv_S u) _
  have bad : ∀ w, xSi (fun b => b = dr + 3) u w → ¬ (∃ f m, f < 8 ∧ m ≤ 3 ∧ x = nI f ∧ y = nI m ∧ xOne O A n x y = true) → xv_X sc 43 J_Desk_define 31 [some (.ref h), some (.int x), some (.int y)] [] w (xv_N u) (xv_S u) (xv_q (xv_N u) (xv_S u) (xv_pi (fun r w => (¬ (∃ f m, f < 8 ∧ m ≤ 3 ∧ x = nI f ∧ y = nI m ∧ xOne O A n x y = true) ∧ r = -1 ∧ xSi (fun b => b = dr + 3) u w) ∨ (∃ f m, f < 8 ∧ m ≤ 3 ∧ x = nI f ∧ y = nI m ∧ xOne O A n x y = true ∧ r = nI n ∧ xSi (xDfS dr B f) u w ∧ xv_i w dr 2 = 0 ∧ xTk w (B + 10 * f) (B + 10 * f + 1) (B + 10 * f + 2) n O A ∧ xv_i w (B + 10 * f) 3 = nI m ∧ xSt O (xv_i w (B + 10 * f + 3)) 41 0)))) := by
    intro w z hno
    refine xv_iconst (pc := 31) (-1) d_Desk_define_31 (by decide) ?_
    exact xv_retiq (pc := 32) d_Desk_define_32 rfl z.1 z.2.1 ⟨_, rfl, Or.inl ⟨hno, rfl, z⟩⟩
  refine xv_iload_n (pc := 0) d_Desk_define_0 rfl rfl ?_
  refine xv_iconst (pc := 1) 0 d_Desk_define_1 (by decide) ?_
  refine xv_bipush (pc := 2) 7 d_Desk_define_2 (by decide) ?_
  refine xv_cS3i (pc := 4) (d1 := 0) c_Desk_within m_Desk_within l_Desk_59 d_Desk_define_4 (by omega) (Nat.le_of_ble_eq_true rfl) ⟨Nat.le_refl _, Nat.le_refl _⟩ (fun r w hw hN hS => ?_)
  obtain ⟨rfl, hw⟩ := hw
  subst w
  refine xv_if_eq (pc := 7) 31 d_Desk_define_7 (by decide) (fun h7 => ?_) (fun h7 => ?_)
  · refine bad u xSi_rf (fun ⟨f, m, q1, q2, q3, q4, q5⟩ => xw_eq h7 ?_)
    rw [q3]
    exact ⟨nI_pos0 (by omega), nI_leI8 q1⟩
  refine xv_iload_n (pc := 10) d_Desk_define_10 rfl rfl ?_
  refine xv_iconst (pc := 11) 0 d_Desk_define_11 (by decide) ?_
  refine xv_iconst (pc := 12) 3 d_Desk_define_12 (by decide) ?_
  refine xv_cS3i (pc := 13) (d1 := 0) c_Desk_within m_Desk_within l_Desk_59 d_Desk_define_13 (by omega) (Nat.le_of_ble_eq_true rfl) ⟨Nat.le_refl _, Nat.le_refl _⟩ (fun r w hw hN hS => ?_)
  obtain ⟨rfl, hw⟩ := hw
  subst w
  refine xv_if_eq (pc := 16) 31 d_Desk_define_16 (by decide) (fun h16 => ?_) (fun h16 => ?_)
  · refine bad u xSi_rf (fun ⟨f, m, q1, q2, q3, q4, q5⟩ => xw_eq h16 ?_)
    rw [q4]
    exact ⟨nI_pos0 (by omega), nI_le (b := 3) q2 (by decide)⟩
  obtain ⟨f, hf, rfl⟩ := xI8 (xw_ne h7)
  obtain ⟨m, hm, rfl⟩ : ∃ m, m ≤ 3 ∧ y = nI m := by
    have e := xw_ne h16
    obtain ⟨q, h1, h2, -⟩ := xIx (n := 4) (x := y) (fun q => q.elim (fun q => absurd q (Int32.not_lt.mpr e.1)) (fun q => absurd (Int32.le_trans q e.2) (by decide))) (by decide)
    exact ⟨q, by omega, h2⟩
  have hcf : (nI f).toNatClampNeg = f := nI_clamp (by omega)
  refine xv_aload_n (pc := 19) d_Desk_define_19 rfl rfl ?_
  refine xv_getR (pc := 20) d_Desk_define_20 f_Desk_10 rfl k0 r0 ?_
  refine xv_iload_n (pc := 23) d_Desk_define_23 rfl rfl ?_
  refine xv_iload_n (pc := 24) d_Desk_define_24 rfl rfl ?_
  refine xv_cV2i (pc := 25) (d1 := 42) (c_Form_isOne (by omega) (by omega) hF hT) m_Form_isOneFormOf l_Desk_63 d_Desk_define_25 (by omega) (by decide : 0 < xv_nc) rfl hF.1 (Nat.le_of_ble_eq_true rfl) ⟨Nat.le_refl _, Nat.le_refl _⟩ (fun r w hw hN hS => ?_)
  obtain ⟨rfl, g, hw, hg⟩ := hw
  have z : xSi (fun b => b = dr + 3) u w := by rw [hw]; exact xSi_sw rfl
  refine xv_if_ne (pc := 28) 33 d_Desk_define_28 (by decide) (fun h28 => ?_) (fun h28 => ?_)
  case refine_2 =>
    have e := xB_eq h28
    exact bad w z (fun ⟨f', m', q1, q2, q3, q4, q5⟩ => by rw [e] at q5; cases q5)
  have e := xB_ne h28
  have hst := hg e
  have hv : xVF O 40 41 0 := xVF_mono hT.2.1 41 0 (xEk_vf _ _ _ _ _ _ (xOne_k hf hm e).1)
  have Hw := xSi_In z H
  have hw3 : xv_i w (dr + 3) = g := by rw [hw]; funext q; exact xv_sw_eq
  have wk : ∀ b, ¬ b = dr + 3 → ∀ q, xv_i w b q = xv_i u b q := fun b hb q => by rw [z.2.2.2.2.2.2 b hb]
  have kw : xv_k w = xv_k u := z.2.2.1
  have rw' : xv_r w = xv_r u := z.2.2.2.2.1
  have Fw : xv_Fo w dr (dr + 1) (dr + 2) (dr + 3) := by
    unfold xv_Fo
    rw [kw, rw', z.2.2.2.1]
    exact hF
  clear hw
  obtain ⟨a1, a2, a3, a4, a5, a6, a7, a8, a9, a10, a11⟩ := Hw
  obtain ⟨f1, f2, f3, f4, f5, f6⟩ := a11 f hf
  refine xv_aload_n (pc := 33) d_Desk_define_33 rfl rfl ?_
  refine xv_getR (pc := 34) d_Desk_define_34 f_Desk_19 rfl (by rw [kw]; exact k0) (by rw [rw']; exact r1) ?_
  refine xv_getR (pc := 37) d_Desk_define_37 f_Desk_66 rfl a1 a2 ?_
  refine xv_iload_n (pc := 40) d_Desk_define_40 rfl rfl ?_
  refine xv_aald (pc := 41) (t := 0) d_Desk_define_41 a5 rfl (by rw [a6]; exact vp_in_nI hf (by decide)) (by rw [hcf]; exact f1) ?_
  refine xv_aload_n (pc := 42) d_Desk_define_42 rfl rfl ?_
  refine xv_getR (pc := 43) d_Desk_define_43 f_Desk_10 rfl (by rw [kw]; exact k0) (by rw [rw']; exact r0) ?_
  refine xv_iload_n (pc := 46) d_Desk_define_46 rfl rfl ?_
  refine xv_cV2v (pc := 47) (d1 := 1) (c_Form_becomes (p := nI m) f4 Fw) m_Form_becomes l_Desk_70 d_Desk_define_47 (by omega) (by decide : 0 < xv_nc) rfl f4.1 (Nat.le_of_ble_eq_true rfl) (xSi_le z) (fun w2 hw hN2 hS2 => ?_)
  obtain ⟨g1, g2, g3, hw, e1, e2, e3⟩ := hw
  have z2 : xSi (xDfS dr B f) w w2 := by
    rw [hw]
    exact xSi_tr (xSi_tr (xSi_tr (xSi_tr (xSi_sw (by unfold xDfS; omega)) (xSi_sw (by unfold xDfS; omega))) (xSi_sw (by unfold xDfS; omega))) (xSi_si (by unfold xDfS; omega))) (xSi_si (by unfold xDfS; omega))
  have zz : xSi (xDfS dr B f) u w2 := xSi_tr (xSi_mono z (fun b hb => by unfold xDfS; omega)) z2
  have v1 : ∀ i, i < 40 → xv_i w2 (B + 10 * f + 1) i = xv_i u (dr + 1) i := fun i hi => by
    rw [hw, xv_si_ne (by omega), xv_si_ne (by omega), xv_sw_ne (by omega), xv_sw_ne (by omega), xv_sw_eq, e1, xCpy hi]
    exact wk _ (by omega) i
  have v2 : ∀ i, i < 40 → xv_i w2 (B + 10 * f + 2) i = xv_i u (dr + 2) i := fun i hi => by
    rw [hw, xv_si_ne (by omega), xv_si_ne (by omega), xv_sw_ne (by omega), xv_sw_eq, e2, xCpy hi, xv_sw_ne (by omega)]
    exact wk _ (by omega) i
  have v3 : ∀ i, i < 120 → xv_i w2 (B + 10 * f + 3) i = g i := fun i hi => by
    rw [hw, xv_si_ne (by omega), xv_si_ne (by omega), xv_sw_eq, e3, xCpy hi, xv_sw_ne (by omega), xv_sw_ne (by omega), hw3]
  have v4 : xv_i w2 (B + 10 * f) 2 = nI n := by
    rw [hw, xv_si_nj (by decide), xv_si_eq, wk _ (by omega)]
    exact hT.1
  have v5 : xv_i w2 (B + 10 * f) 3 = nI m := by rw [hw, xv_si_eq]
  clear hw e1 e2 e3
  have k2 : xv_k w2 = xv_k u := zz.2.2.1
  have r2' : xv_r w2 = xv_r u := zz.2.2.2.2.1
  have l2' : xv_l w2 = xv_l u := zz.2.2.2.1
  obtain ⟨b1, b2, b3, b4, b5, b6, b7, b8, b9, b10, b11⟩ := H
  obtain ⟨c1, c2, c3, c4, c5, c6⟩ := b11 f hf
  refine xv_aload_n (pc := 50) d_Desk_define_50 rfl rfl ?_
  refine xv_getR (pc := 51) d_Desk_define_51 f_Desk_10 rfl (by rw [k2]; exact k0) (by rw [r2']; exact r0) ?_
  refine xv_iconst (pc := 54) 0 d_Desk_define_54 (by decide) ?_
  refine xv_putI (pc := 55) d_Desk_define_55 f_Desk_52 (Or.inl rfl) fin_0_2 (by rw [k2]; exact hF.1) ?_
  have z3 : xSi (xDfS dr B f) u (xv_si w2 dr 2 0) := xSi_tr zz (xSi_si (Or.inl rfl))
  have u1 : ∀ b q, ¬ b = dr → xv_i (xv_si w2 dr 2 0) b q = xv_i w2 b q := fun b q hb => xv_si_ne hb
  have u2 : xv_i (xv_si w2 dr 2 0) dr 2 = 0 := xv_si_eq
  have k3 : xv_k (xv_si w2 dr 2 0) = xv_k u := k2
  have r3' : xv_r (xv_si w2 dr 2 0) = xv_r u := r2'
  have l3' : xv_l (xv_si w2 dr 2 0) = xv_l u := l2'
  generalize xv_si w2 dr 2 0 = w3 at *
  refine xv_aload_n (pc := 58) d_Desk_define_58 rfl rfl ?_
  refine xv_getR (pc := 59) d_Desk_define_59 f_Desk_19 rfl (by rw [k3]; exact k0) (by rw [r3']; exact r1) ?_
  refine xv_getR (pc := 62) d_Desk_define_62 f_Desk_66 rfl (by rw [k3]; exact b1) (by rw [r3']; exact b2) ?_
  refine xv_iload_n (pc := 65) d_Desk_define_65 rfl rfl ?_
  refine xv_aald (pc := 66) (t := 0) d_Desk_define_66 (by rw [k3]; exact b5) rfl (by rw [l3', b6]; exact vp_in_nI hf (by decide)) (by rw [hcf, r3']; exact c1) ?_
  refine xv_getI (pc := 67) d_Desk_define_67 f_Desk_52 rfl (by rw [k3]; exact c4.1) ?_
  rw [u1 _ _ (by omega), v4]
  refine xv_retiq (pc := 70) d_Desk_define_70 rfl z3.1 z3.2.1 ⟨_, rfl, Or.inr ⟨f, m, hf, hm, rfl, rfl, e, rfl, z3, u2, ⟨by rw [u1 _ _ (by omega)]; exact v4, hT.2.1, fun i hi => ?_⟩, by rw [u1 _ _ (by omega)]; exact v5, xSt_cg 41 0 hv (fun i hi => by rw [u1 _ _ (by omega)]; exact (v3 i hi).symm) hst⟩⟩
  have h40 := hT.2.1
  rw [u1 _ _ (by omega), u1 _ _ (by omega), v1 i (by omega), v2 i (by omega)]
  exact hT.2.2 i hi

