/-! the model: forge, entry, unit, count -/
theorem xRg {n : Nat} {x : Int32} (hn : n ≤ 265) : ((0 : Int32) ≤ x ∧ x ≤ nI n - 1) ↔ ∃ e, e < n ∧ x = nI e := by
  cases n with
  | zero =>
    constructor
    · intro h
      exact absurd (Int32.le_trans h.1 h.2) (by decide)
    · rintro ⟨e, he, -⟩
      omega
  | succ m =>
    rw [nI_pred]
    constructor
    · intro h
      obtain ⟨q, h1, h2, -⟩ := xIx (n := m + 1) (x := x) (fun q => q.elim (fun q => absurd q (Int32.not_lt.mpr h.1)) (fun q => absurd (Int32.le_trans q h.2) (nI_ge (by omega) (by omega)))) hn
      exact ⟨q, h1, h2⟩
    · rintro ⟨e, he, rfl⟩
      exact ⟨nI_pos0 (by omega), nI_le (by omega) (by omega)⟩
def xHw (L : Nat → Nat) (n : Nat) (x y : Int32) : Prop := ∃ e i, e < n ∧ x = nI e ∧ i < L e ∧ y = nI i
theorem xHw_no {L : Nat → Nat} {n e : Nat} {y : Int32} (hlt : n ≤ 8) (he : e < n) (hL : L e ≤ 265) (h : ¬ ((0 : Int32) ≤ y ∧ y ≤ nI (L e) - 1)) : ¬ xHw L n (nI e) y := by
  rintro ⟨e', i, h1, h2, h3, h4⟩
  have : e = e' := (nI_eq (a := e) (b := e') (by omega) (by omega)).mp h2
  subst this
  exact h ((xRg hL).mpr ⟨i, h3, h4⟩)
theorem c_Model_forge {sc : Nat × (Nat → Int32)} {u : xv_M} {M n : Nat} {L : Nat → Nat} {x y : Int32} (hM : xMo u M) (hn : xv_i u M 31 = nI n) (hlt : n ≤ 8) (hL : ∀ e, e < n → xv_i u (M + 10) (8 + e) = nI (L e) ∧ L e ≤ 265) {v : Int32} : xv_C sc 2 J_Model_forge [.ref M, .int x, .int y, .int v] u (xv_N u) (xv_S u) (xv_pi (fun r w => (¬ xHw L n x y ∧ r = -1 ∧ w = u) ∨ ∃ e i, (e < n ∧ x = nI e ∧ i < L e ∧ y = nI i) ∧ ((¬ (xFg v = true ∧ xFg (xv_i u (M + 7) (280 * (8 + e) + i)) = true ∧ xv_i u (M + 13) (280 * (8 + e) + i) = 0) ∧ r = -1 ∧ w = u) ∨ ((xFg v = true ∧ xFg (xv_i u (M + 7) (280 * (8 + e) + i)) = true ∧ xv_i u (M + 13) (280 * (8 + e) + i) = 0) ∧ r = xv_i u (M + 7) (280 * (8 + e) + i) ∧ w = xv_si u (M + 7) (280 * (8 + e) + i) v)))) := by
  refine xv_C_of (by decide) (Nat.le_refl _) (Nat.le_refl _) (xv_cat1 rfl) (Nat.le_of_ble_eq_true rfl) ?_
  show xv_X sc 2 J_Model_forge 0 [some (.ref M), some (.int x), some (.int y), some (.int v), none, none] [] u (xv_N u) (xv_S u) _
  refine xv_iload_n (pc := 0) d_Model_forge_0 rfl rfl ?_
  refine xv_iconst (pc := 1) 0 d_Model_forge_1 (by decide) ?_
  refine xv_aload_n (pc := 2) d_Model_forge_2 rfl rfl ?_
  refine xv_getI (pc := 3) d_Model_forge_3 f_Model_172 rfl hM.1 ?_
  refine xv_iconst (pc := 6) 1 d_Model_forge_6 (by decide) ?_
  refine xv_isub (pc := 7) d_Model_forge_7 ?_
  rw [hn]
  refine xv_cS3i (pc := 8) (d1 := 0) c_Model_is m_Model_is l_Model_102 d_Model_forge_8 (by omega) (Nat.le_of_ble_eq_true rfl) ⟨Nat.le_refl _, Nat.le_refl _⟩ (fun r w hw hN hS => ?_)
  obtain ⟨rfl, hw⟩ := hw
  subst w
  refine xv_if_eq (pc := 11) 40 d_Model_forge_11 (by decide) (fun h11 => ?_) (fun h11 => ?_)
  · have e0 := mt (xRg (by omega)).mpr (xw_eq h11)
    refine xv_iconst (pc := 40) (-1) d_Model_forge_40 (by decide) ?_
    exact xv_retiq (pc := 41) d_Model_forge_41 rfl rfl rfl ⟨_, rfl, Or.inl ⟨fun ⟨e, i, q1, q2, q3, q4⟩ => e0 ⟨e, q1, q2⟩, rfl, rfl⟩⟩
  obtain ⟨e, he, rfl⟩ := (xRg (by omega)).mp (xw_ne h11)
  obtain ⟨hLe, hL265⟩ := hL e he
  have hc8 : (nI (8 + e)).toNatClampNeg = 8 + e := nI_clamp (by omega)
  have hi8 : vp_in (nI (8 + e)) 24 := vp_in_nI (by omega) (by decide)
  refine xv_iload_n (pc := 14) d_Model_forge_14 rfl rfl ?_
  refine xv_iconst (pc := 15) 0 d_Model_forge_15 (by decide) ?_
  refine xv_aload_n (pc := 16) d_Model_forge_16 rfl rfl ?_
  refine xv_getR (pc := 17) d_Model_forge_17 f_Model_37 rfl hM.1 (xm_r9 hM) ?_
  refine xv_bipush (pc := 20) 8 d_Model_forge_20 (by decide) ?_
  refine xv_iload_n (pc := 22) d_Model_forge_22 rfl rfl ?_
  refine xv_iadd (pc := 23) d_Model_forge_23 ?_
  refine xv_ald (pc := 24) d_Model_forge_24 (xm_k9 hM) (by rw [x8]; exact xm_i9 hM hi8) ?_
  refine xv_iconst (pc := 25) 1 d_Model_forge_25 (by decide) ?_
  refine xv_isub (pc := 26) d_Model_forge_26 ?_
  rw [x8, hc8, hLe]
  refine xv_cS3i (pc := 27) (d1 := 0) c_Model_is m_Model_is l_Model_102 d_Model_forge_27 (by omega) (Nat.le_of_ble_eq_true rfl) ⟨Nat.le_refl _, Nat.le_refl _⟩ (fun r w hw hN hS => ?_)
  obtain ⟨rfl, hw⟩ := hw
  subst w
  refine xv_if_eq (pc := 30) 40 d_Model_forge_30 (by decide) (fun h30 => ?_) (fun h30 => ?_)
  · have e0 := xHw_no (L := L) hlt he hL265 (xw_eq h30)
    refine xv_iconst (pc := 40) (-1) d_Model_forge_40 (by decide) ?_
    exact xv_retiq (pc := 41) d_Model_forge_41 rfl rfl rfl ⟨_, rfl, Or.inl ⟨e0, rfl, rfl⟩⟩
  obtain ⟨i, hi, rfl⟩ := (xRg hL265).mp (xw_ne h30)
  have cf : (nI (280 * (8 + e) + i)).toNatClampNeg = 280 * (8 + e) + i := nI_clamp (by omega)
  have jf : vp_in (nI (280 * (8 + e) + i)) 6720 := vp_in_nI (by omega) (by decide)
  refine xv_iload_n (pc := 33) d_Model_forge_33 rfl rfl ?_
  refine xv_cS1i (pc := 34) (d1 := 1) c_Model_isForged m_Model_isForged l_Model_187 d_Model_forge_34 (by omega) (Nat.le_of_ble_eq_true rfl) ⟨Nat.le_refl _, Nat.le_refl _⟩ (fun r w hw hN hS => ?_)
  obtain ⟨rfl, hw⟩ := hw
  subst w
  refine xv_if_ne (pc := 37) 42 d_Model_forge_37 (by decide) (fun h37 => ?_) (fun h37 => ?_)
  case refine_2 =>
    have e1 := xB_eq h37
    refine xv_iconst (pc := 40) (-1) d_Model_forge_40 (by decide) ?_
    exact xv_retiq (pc := 41) d_Model_forge_41 rfl rfl rfl ⟨_, rfl, Or.inr ⟨e, i, ⟨he, rfl, hi, rfl⟩, Or.inl ⟨fun q => (by rw [e1] at q; cases q.1), rfl, rfl⟩⟩⟩
  have e1 := xB_ne h37
  refine xv_sipush (pc := 42) 280 d_Model_forge_42 (by decide) ?_
  refine xv_bipush (pc := 45) 8 d_Model_forge_45 (by decide) ?_
  refine xv_iload_n (pc := 47) d_Model_forge_47 rfl rfl ?_
  refine xv_iadd (pc := 48) d_Model_forge_48 ?_
  refine xv_imul (pc := 49) d_Model_forge_49 ?_
  refine xv_iload_n (pc := 50) d_Model_forge_50 rfl rfl ?_
  refine xv_iadd (pc := 51) d_Model_forge_51 ?_
  refine xv_istore_4 (pc := 52) d_Model_forge_52 (by decide) rfl ?_
  refine xv_aload_n (pc := 54) d_Model_forge_54 rfl rfl ?_
  refine xv_getR (pc := 55) d_Model_forge_55 f_Model_28 rfl hM.1 (xm_r6 hM) ?_
  refine xv_iload (pc := 58) d_Model_forge_58 rfl ?_
  refine xv_ald (pc := 60) d_Model_forge_60 (xm_k6 hM) (by rw [xIdx8]; exact xm_i6 hM jf) ?_
  rw [xIdx8, cf]
  refine xv_cS1i (pc := 61) (d1 := 1) c_Model_isForged m_Model_isForged l_Model_187 d_Model_forge_61 (by omega) (Nat.le_of_ble_eq_true rfl) ⟨Nat.le_refl _, Nat.le_refl _⟩ (fun r w hw hN hS => ?_)
  obtain ⟨rfl, hw⟩ := hw
  subst w
  refine xv_if_eq (pc := 64) 77 d_Model_forge_64 (by decide) (fun h64 => ?_) (fun h64 => ?_)
  · have e2 := xB_eq h64
    refine xv_iconst (pc := 77) (-1) d_Model_forge_77 (by decide) ?_
    exact xv_retiq (pc := 78) d_Model_forge_78 rfl rfl rfl ⟨_, rfl, Or.inr ⟨e, i, ⟨he, rfl, hi, rfl⟩, Or.inl ⟨fun q => (by rw [e2] at q; cases q.2.1), rfl, rfl⟩⟩⟩
  have e2 := xB_ne h64
  refine xv_aload_n (pc := 67) d_Model_forge_67 rfl rfl ?_
  refine xv_getR (pc := 68) d_Model_forge_68 f_Model_46 rfl hM.1 (xm_r12 hM) ?_
  refine xv_iload (pc := 71) d_Model_forge_71 rfl ?_
  refine xv_zald (pc := 73) d_Model_forge_73 (xm_k12 hM) (xm_i12 hM jf) ?_
  refine xv_if_eq (pc := 74) 79 d_Model_forge_74 (by decide) (fun h74 => ?_) (fun h74 => ?_)
  · rw [cf] at h74
    refine xv_aload_n (pc := 79) d_Model_forge_79 rfl rfl ?_
    refine xv_getR (pc := 80) d_Model_forge_80 f_Model_28 rfl hM.1 (xm_r6 hM) ?_
    refine xv_iload (pc := 83) d_Model_forge_83 rfl ?_
    refine xv_ald (pc := 85) d_Model_forge_85 (xm_k6 hM) (xm_i6 hM jf) ?_
    refine xv_istore_5 (pc := 86) d_Model_forge_86 (by decide) rfl ?_
    refine xv_aload_n (pc := 88) d_Model_forge_88 rfl rfl ?_
    refine xv_getR (pc := 89) d_Model_forge_89 f_Model_28 rfl hM.1 (xm_r6 hM) ?_
    refine xv_iload (pc := 92) d_Model_forge_92 rfl ?_
    refine xv_iload_n (pc := 94) d_Model_forge_94 rfl rfl ?_
    refine xv_ast (pc := 95) d_Model_forge_95 (xm_k6 hM) (xm_i6 hM jf) ?_
    refine xv_iload (pc := 96) d_Model_forge_96 rfl ?_
    rw [cf]
    exact xv_retiq (pc := 98) d_Model_forge_98 rfl rfl rfl ⟨_, rfl, Or.inr ⟨e, i, ⟨he, rfl, hi, rfl⟩, Or.inr ⟨⟨e1, e2, h74⟩, rfl, rfl⟩⟩⟩
  · rw [cf] at h74
    refine xv_iconst (pc := 77) (-1) d_Model_forge_77 (by decide) ?_
    exact xv_retiq (pc := 78) d_Model_forge_78 rfl rfl rfl ⟨_, rfl, Or.inr ⟨e, i, ⟨he, rfl, hi, rfl⟩, Or.inl ⟨fun q => h74 q.2.2, rfl, rfl⟩⟩⟩
theorem c_Model_unit {sc : Nat × (Nat → Int32)} {u : xv_M} {M n : Nat} {L : Nat → Nat} {x y : Int32} (hM : xMo u M) (hn : xv_i u M 31 = nI n) (hlt : n ≤ 8) (hL : ∀ e, e < n → xv_i u (M + 10) (8 + e) = nI (L e) ∧ L e ≤ 265) {v : Int32} : xv_C sc 2 J_Model_unit [.ref M, .int x, .int y, .int v] u (xv_N u) (xv_S u) (xv_pi (fun r w => ((¬ xHw L n x y ∧ r = -1) ∨ (∃ e i, (e < n ∧ x = nI e ∧ i < L e ∧ y = nI i) ∧ r = (if v = 0 then xv_i u (M + 7) (280 * (8 + e) + i) else if v = 1 then xv_i u (M + 8) (280 * (8 + e) + i) else if v = 2 then xv_i u (M + 9) (280 * (8 + e) + i) else -1))) ∧ w = u)) := by
  refine xv_C_of (by decide) (Nat.le_refl _) (Nat.le_refl _) (xv_cat1 rfl) (Nat.le_of_ble_eq_true rfl) ?_
  show xv_X sc 2 J_Model_unit 0 [some (.ref M), some (.int x), some (.int y), some (.int v), none] [] u (xv_N u) (xv_S u) _
  refine xv_iload_n (pc := 0) d_Model_unit_0 rfl rfl ?_
  refine xv_iconst (pc := 1) 0 d_Model_unit_1 (by decide) ?_
  refine xv_aload_n (pc := 2) d_Model_unit_2 rfl rfl ?_
  refine xv_getI (pc := 3) d_Model_unit_3 f_Model_172 rfl hM.1 ?_
  refine xv_iconst (pc := 6) 1 d_Model_unit_6 (by decide) ?_
  refine xv_isub (pc := 7) d_Model_unit_7 ?_
  rw [hn]
  refine xv_cS3i (pc := 8) (d1 := 0) c_Model_is m_Model_is l_Model_102 d_Model_unit_8 (by omega) (Nat.le_of_ble_eq_true rfl) ⟨Nat.le_refl _, Nat.le_refl _⟩ (fun r w hw hN hS => ?_)
  obtain ⟨rfl, hw⟩ := hw
  subst w
  refine xv_if_eq (pc := 11) 42 d_Model_unit_11 (by decide) (fun h11 => ?_) (fun h11 => ?_)
  · have e0 := mt (xRg (by omega)).mpr (xw_eq h11)
    refine xv_iconst (pc := 42) (-1) d_Model_unit_42 (by decide) ?_
    exact xv_retiq (pc := 43) d_Model_unit_43 rfl rfl rfl ⟨_, rfl, Or.inl ⟨fun ⟨e, i, q1, q2, q3, q4⟩ => e0 ⟨e, q1, q2⟩, rfl⟩, rfl⟩
  obtain ⟨e, he, rfl⟩ := (xRg (by omega)).mp (xw_ne h11)
  obtain ⟨hLe, hL265⟩ := hL e he
  have hc8 : (nI (8 + e)).toNatClampNeg = 8 + e := nI_clamp (by omega)
  have hi8 : vp_in (nI (8 + e)) 24 := vp_in_nI (by omega) (by decide)
  refine xv_iload_n (pc := 14) d_Model_unit_14 rfl rfl ?_
  refine xv_iconst (pc := 15) 0 d_Model_unit_15 (by decide) ?_
  refine xv_aload_n (pc := 16) d_Model_unit_16 rfl rfl ?_
  refine xv_getR (pc := 17) d_Model_unit_17 f_Model_37 rfl hM.1 (xm_r9 hM) ?_
  refine xv_bipush (pc := 20) 8 d_Model_unit_20 (by decide) ?_
  refine xv_iload_n (pc := 22) d_Model_unit_22 rfl rfl ?_
  refine xv_iadd (pc := 23) d_Model_unit_23 ?_
  refine xv_ald (pc := 24) d_Model_unit_24 (xm_k9 hM) (by rw [x8]; exact xm_i9 hM hi8) ?_
  refine xv_iconst (pc := 25) 1 d_Model_unit_25 (by decide) ?_
  refine xv_isub (pc := 26) d_Model_unit_26 ?_
  rw [x8, hc8, hLe]
  refine xv_cS3i (pc := 27) (d1 := 0) c_Model_is m_Model_is l_Model_102 d_Model_unit_27 (by omega) (Nat.le_of_ble_eq_true rfl) ⟨Nat.le_refl _, Nat.le_refl _⟩ (fun r w hw hN hS => ?_)
  obtain ⟨rfl, hw⟩ := hw
  subst w
  refine xv_if_eq (pc := 30) 42 d_Model_unit_30 (by decide) (fun h30 => ?_) (fun h30 => ?_)
  · have e0 := xHw_no (L := L) hlt he hL265 (xw_eq h30)
    refine xv_iconst (pc := 42) (-1) d_Model_unit_42 (by decide) ?_
    exact xv_retiq (pc := 43) d_Model_unit_43 rfl rfl rfl ⟨_, rfl, Or.inl ⟨e0, rfl⟩, rfl⟩
  obtain ⟨i, hi, rfl⟩ := (xRg hL265).mp (xw_ne h30)
  have cf : (nI (280 * (8 + e) + i)).toNatClampNeg = 280 * (8 + e) + i := nI_clamp (by omega)
  have jf : vp_in (nI (280 * (8 + e) + i)) 6720 := vp_in_nI (by omega) (by decide)
  refine xv_iload_n (pc := 33) d_Model_unit_33 rfl rfl ?_
  refine xv_iconst (pc := 34) 0 d_Model_unit_34 (by decide) ?_
  refine xv_iconst (pc := 35) 2 d_Model_unit_35 (by decide) ?_
  refine xv_cS3i (pc := 36) (d1 := 0) c_Model_is m_Model_is l_Model_102 d_Model_unit_36 (by omega) (Nat.le_of_ble_eq_true rfl) ⟨Nat.le_refl _, Nat.le_refl _⟩ (fun r w hw hN hS => ?_)
  obtain ⟨rfl, hw⟩ := hw
  subst w
  refine xv_if_ne (pc := 39) 44 d_Model_unit_39 (by decide) (fun h39 => ?_) (fun h39 => ?_)
  case refine_2 =>
    have e1 := xw_eq h39
    refine xv_iconst (pc := 42) (-1) d_Model_unit_42 (by decide) ?_
    exact xv_retiq (pc := 43) d_Model_unit_43 rfl rfl rfl ⟨_, rfl, Or.inr ⟨e, i, ⟨he, rfl, hi, rfl⟩, by rw [if_neg (fun q => e1 (by rw [q]; decide)), if_neg (fun q => e1 (by rw [q]; decide)), if_neg (fun q => e1 (by rw [q]; decide))]⟩, rfl⟩
  have e1 := xw_ne h39
  have tail : ∀ r : Int32, r = (if v = 0 then xv_i u (M + 7) (280 * (8 + e) + i) else if v = 1 then xv_i u (M + 8) (280 * (8 + e) + i) else if v = 2 then xv_i u (M + 9) (280 * (8 + e) + i) else -1) → xv_X sc 2 J_Model_unit 92 [some (.ref M), some (.int (nI e)), some (.int (nI i)), some (.int v), some (.int (nI (280 * (8 + e) + i)))] [.int r] u (xv_N u) (xv_S u) (xv_q (xv_N u) (xv_S u) (xv_pi (fun r w => ((¬ xHw L n (nI e) (nI i) ∧ r = -1) ∨ (∃ e' i', (e' < n ∧ nI e = nI e' ∧ i' < L e' ∧ nI i = nI i') ∧ r = (if v = 0 then xv_i u (M + 7) (280 * (8 + e') + i') else if v = 1 then xv_i u (M + 8) (280 * (8 + e') + i') else if v = 2 then xv_i u (M + 9) (280 * (8 + e') + i') else -1))) ∧ w = u))) := by
    intro r hr
    exact xv_retiq (pc := 92) d_Model_unit_92 rfl rfl rfl ⟨_, rfl, Or.inr ⟨e, i, ⟨he, rfl, hi, rfl⟩, hr⟩, rfl⟩
  refine xv_sipush (pc := 44) 280 d_Model_unit_44 (by decide) ?_
  refine xv_bipush (pc := 47) 8 d_Model_unit_47 (by decide) ?_
  refine xv_iload_n (pc := 49) d_Model_unit_49 rfl rfl ?_
  refine xv_iadd (pc := 50) d_Model_unit_50 ?_
  refine xv_imul (pc := 51) d_Model_unit_51 ?_
  refine xv_iload_n (pc := 52) d_Model_unit_52 rfl rfl ?_
  refine xv_iadd (pc := 53) d_Model_unit_53 ?_
  refine xv_istore_4 (pc := 54) d_Model_unit_54 (by decide) rfl ?_
  refine xv_iload_n (pc := 56) d_Model_unit_56 rfl rfl ?_
  refine xv_if_ne (pc := 57) 70 d_Model_unit_57 (by decide) (fun h57 => ?_) (fun h57 => ?_)
  · rw [xIdx8]
    refine xv_iload_n (pc := 70) d_Model_unit_70 rfl rfl ?_
    refine xv_iconst (pc := 71) 1 d_Model_unit_71 (by decide) ?_
    refine xv_icmp_ne (pc := 72) 85 d_Model_unit_72 (by decide) (fun h72 => ?_) (fun h72 => ?_)
    · have e2 : v = 2 := by
        obtain ⟨q, hq, rfl⟩ : ∃ q, q < 3 ∧ v = nI q := by
          obtain ⟨q, h1, h2, -⟩ := xIx (n := 3) (x := v) (fun q => q.elim (fun q => absurd q (Int32.not_lt.mpr e1.1)) (fun q => absurd (Int32.le_trans q e1.2) (by decide))) (by decide)
          exact ⟨q, h1, h2⟩
        rcases (by omega : q = 0 ∨ q = 1 ∨ q = 2) with rfl | rfl | rfl
        · exact absurd rfl h57
        · exact absurd rfl h72
        · rfl
      refine xv_aload_n (pc := 85) d_Model_unit_85 rfl rfl ?_
      refine xv_getR (pc := 86) d_Model_unit_86 f_Model_34 rfl hM.1 (xm_r8 hM) ?_
      refine xv_iload (pc := 89) d_Model_unit_89 rfl ?_
      refine xv_ald (pc := 91) d_Model_unit_91 (xm_k8 hM) (xm_i8 hM jf) ?_
      rw [cf]
      exact tail _ (by rw [if_neg h57, if_neg h72, if_pos e2])
    · skip
      refine xv_aload_n (pc := 75) d_Model_unit_75 rfl rfl ?_
      refine xv_getR (pc := 76) d_Model_unit_76 f_Model_31 rfl hM.1 (xm_r7 hM) ?_
      refine xv_iload (pc := 79) d_Model_unit_79 rfl ?_
      refine xv_ald (pc := 81) d_Model_unit_81 (xm_k7 hM) (xm_i7 hM jf) ?_
      refine xv_goto (pc := 82) 92 d_Model_unit_82 (by decide) ?_
      rw [cf]
      exact tail _ (by rw [if_neg h57, if_pos h72])
  · rw [xIdx8]
    refine xv_aload_n (pc := 60) d_Model_unit_60 rfl rfl ?_
    refine xv_getR (pc := 61) d_Model_unit_61 f_Model_28 rfl hM.1 (xm_r6 hM) ?_
    refine xv_iload (pc := 64) d_Model_unit_64 rfl ?_
    refine xv_ald (pc := 66) d_Model_unit_66 (xm_k6 hM) (xm_i6 hM jf) ?_
    refine xv_goto (pc := 67) 92 d_Model_unit_67 (by decide) ?_
    rw [cf]
    exact tail _ (by rw [if_pos h57])
theorem c_Model_entry {sc : Nat × (Nat → Int32)} {u : xv_M} {M n : Nat} {L : Nat → Nat} {x y : Int32} (hM : xMo u M) (hn : xv_i u M 31 = nI n) (hlt : n ≤ 8) (hL : ∀ e, e < n → xv_i u (M + 10) (8 + e) = nI (L e) ∧ L e ≤ 265) : xv_C sc 1 J_Model_entry [.ref M, .int x, .int y] u (xv_N u) (xv_S u) (xv_pi (fun r w => ((¬ (∃ e, e < n ∧ x = nI e) ∧ r = -1) ∨ (∃ e, (e < n ∧ x = nI e) ∧ r = (if y = 0 then xv_i u (M + 17) e else if y = 1 then xv_i u (M + 18) e else if y = 2 then nI (L e) else if y = 3 then xv_i u (M + 11) (8 + e) else if y = 4 then xv_i u (M + 19) e else if y = 5 then xB ((decide (xv_i u (M + 20) e = xv_i u (M + 17) e) && decide (xv_i u (M + 16) e = xv_i u (M + 15) e)) && xSm (fun k => xv_i u (M + 21) (280 * e + k)) (fun k => xv_i u (M + 7) (280 * (8 + e) + k)) (L e)) else -1))) ∧ w = u)) := by
  refine xv_C_of (by decide) (Nat.le_refl _) (Nat.le_refl _) (xv_cat1 rfl) (Nat.le_of_ble_eq_true rfl) ?_
  show xv_X sc 1 J_Model_entry 0 [some (.ref M), some (.int x), some (.int y)] [] u (xv_N u) (xv_S u) _
  refine xv_iload_n (pc := 0) d_Model_entry_0 rfl rfl ?_
  refine xv_iconst (pc := 1) 0 d_Model_entry_1 (by decide) ?_
  refine xv_aload_n (pc := 2) d_Model_entry_2 rfl rfl ?_
  refine xv_getI (pc := 3) d_Model_entry_3 f_Model_172 rfl hM.1 ?_
  refine xv_iconst (pc := 6) 1 d_Model_entry_6 (by decide) ?_
  refine xv_isub (pc := 7) d_Model_entry_7 ?_
  rw [hn]
  refine xv_cS3i (pc := 8) (d1 := 0) c_Model_is m_Model_is l_Model_102 d_Model_entry_8 (by omega) (Nat.le_of_ble_eq_true rfl) ⟨Nat.le_refl _, Nat.le_refl _⟩ (fun r w hw hN hS => ?_)
  obtain ⟨rfl, hw⟩ := hw
  subst w
  refine xv_if_ne (pc := 11) 16 d_Model_entry_11 (by decide) (fun h11 => ?_) (fun h11 => ?_)
  case refine_2 =>
    have e0 := mt (xRg (by omega)).mpr (xw_eq h11)
    refine xv_iconst (pc := 14) (-1) d_Model_entry_14 (by decide) ?_
    exact xv_retiq (pc := 15) d_Model_entry_15 rfl rfl rfl ⟨_, rfl, Or.inl ⟨e0, rfl⟩, rfl⟩
  obtain ⟨e, he, rfl⟩ := (xRg (by omega)).mp (xw_ne h11)
  obtain ⟨hLe, hL265⟩ := hL e he
  have hce : (nI e).toNatClampNeg = e := nI_clamp (by omega)
  have hie : vp_in (nI e) 8 := vp_in_nI (by omega) (by decide)
  have hc8 : (nI (8 + e)).toNatClampNeg = 8 + e := nI_clamp (by omega)
  have hi8 : vp_in (nI (8 + e)) 24 := vp_in_nI (by omega) (by decide)
  refine xv_iload_n (pc := 16) d_Model_entry_16 rfl rfl ?_
  by_cases y0 : y = 0
  · subst y0
    refine xv_tableIn (pc := 17) (off := 39) 56 d_Model_entry_17 (by decide) (by decide) (by decide) (by decide) ?_
    refine xv_aload_n (pc := 56) d_Model_entry_56 rfl rfl ?_
    refine xv_getR (pc := 57) d_Model_entry_57 f_Model_59 rfl hM.1 (xm_r16 hM) ?_
    refine xv_iload_n (pc := 60) d_Model_entry_60 rfl rfl ?_
    refine xv_ald (pc := 61) d_Model_entry_61 (xm_k16 hM) (xm_i16 hM hie) ?_
    exact xv_retiq (pc := 62) d_Model_entry_62 rfl rfl rfl ⟨_, rfl, Or.inr ⟨e, ⟨he, rfl⟩, by rw [hce, if_pos rfl]⟩, rfl⟩
  by_cases y1 : y = 1
  · subst y1
    refine xv_tableIn (pc := 17) (off := 46) 63 d_Model_entry_17 (by decide) (by decide) (by decide) (by decide) ?_
    refine xv_aload_n (pc := 63) d_Model_entry_63 rfl rfl ?_
    refine xv_getR (pc := 64) d_Model_entry_64 f_Model_62 rfl hM.1 (xm_r17 hM) ?_
    refine xv_iload_n (pc := 67) d_Model_entry_67 rfl rfl ?_
    refine xv_ald (pc := 68) d_Model_entry_68 (xm_k17 hM) (xm_i17 hM hie) ?_
    exact xv_retiq (pc := 69) d_Model_entry_69 rfl rfl rfl ⟨_, rfl, Or.inr ⟨e, ⟨he, rfl⟩, by rw [hce, if_neg y0, if_pos rfl]⟩, rfl⟩
  by_cases y2 : y = 2
  · subst y2
    refine xv_tableIn (pc := 17) (off := 53) 70 d_Model_entry_17 (by decide) (by decide) (by decide) (by decide) ?_
    refine xv_aload_n (pc := 70) d_Model_entry_70 rfl rfl ?_
    refine xv_getR (pc := 71) d_Model_entry_71 f_Model_37 rfl hM.1 (xm_r9 hM) ?_
    refine xv_bipush (pc := 74) 8 d_Model_entry_74 (by decide) ?_
    refine xv_iload_n (pc := 76) d_Model_entry_76 rfl rfl ?_
    refine xv_iadd (pc := 77) d_Model_entry_77 ?_
    refine xv_ald (pc := 78) d_Model_entry_78 (xm_k9 hM) (by rw [x8]; exact xm_i9 hM hi8) ?_
    exact xv_retiq (pc := 79) d_Model_entry_79 rfl rfl rfl ⟨_, rfl, Or.inr ⟨e, ⟨he, rfl⟩, by rw [x8, hc8, hLe, if_neg y0, if_neg y1, if_pos rfl]⟩, rfl⟩
  by_cases y3 : y = 3
  · subst y3
    refine xv_tableIn (pc := 17) (off := 63) 80 d_Model_entry_17 (by decide) (by decide) (by decide) (by decide) ?_
    refine xv_aload_n (pc := 80) d_Model_entry_80 rfl rfl ?_
    refine xv_getR (pc := 81) d_Model_entry_81 f_Model_40 rfl hM.1 (xm_r10 hM) ?_
    refine xv_bipush (pc := 84) 8 d_Model_entry_84 (by decide) ?_
    refine xv_iload_n (pc := 86) d_Model_entry_86 rfl rfl ?_
    refine xv_iadd (pc := 87) d_Model_entry_87 ?_
    refine xv_ald (pc := 88) d_Model_entry_88 (xm_k10 hM) (by rw [x8]; exact xm_i10 hM hi8) ?_
    exact xv_retiq (pc := 89) d_Model_entry_89 rfl rfl rfl ⟨_, rfl, Or.inr ⟨e, ⟨he, rfl⟩, by rw [x8, hc8, if_neg y0, if_neg y1, if_neg y2, if_pos rfl]⟩, rfl⟩
  by_cases y4 : y = 4
  · subst y4
    refine xv_tableIn (pc := 17) (off := 73) 90 d_Model_entry_17 (by decide) (by decide) (by decide) (by decide) ?_
    refine xv_aload_n (pc := 90) d_Model_entry_90 rfl rfl ?_
    refine xv_getR (pc := 91) d_Model_entry_91 f_Model_65 rfl hM.1 (xm_r18 hM) ?_
    refine xv_iload_n (pc := 94) d_Model_entry_94 rfl rfl ?_
    refine xv_ald (pc := 95) d_Model_entry_95 (xm_k18 hM) (xm_i18 hM hie) ?_
    exact xv_retiq (pc := 96) d_Model_entry_96 rfl rfl rfl ⟨_, rfl, Or.inr ⟨e, ⟨he, rfl⟩, by rw [hce, if_neg y0, if_neg y1, if_neg y2, if_neg y3, if_pos rfl]⟩, rfl⟩
  by_cases y5 : y = 5
  · subst y5
    refine xv_tableIn (pc := 17) (off := 80) 97 d_Model_entry_17 (by decide) (by decide) (by decide) (by decide) ?_
    refine xv_aload_n (pc := 97) d_Model_entry_97 rfl rfl ?_
    refine xv_iload_n (pc := 98) d_Model_entry_98 rfl rfl ?_
    refine xv_cV1i (pc := 99) (d1 := 0) (c_Model_goes hM (by omega) hLe (by omega)) m_Model_goes l_Model_198 d_Model_entry_99 (by omega) (by decide : 11 < xv_nc) rfl hM.1 (Nat.le_of_ble_eq_true rfl) ⟨Nat.le_refl _, Nat.le_refl _⟩ (fun r w hw hN hS => ?_)
    obtain ⟨hr, hw⟩ := hw
    subst w
    subst hr
    generalize hGG : xB ((decide (xv_i u (M + 20) e = xv_i u (M + 17) e) && decide (xv_i u (M + 16) e = xv_i u (M + 15) e)) && xSm (fun k => xv_i u (M + 21) (280 * e + k)) (fun k => xv_i u (M + 7) (280 * (8 + e) + k)) (L e)) = GG at *
    refine xv_if_eq (pc := 102) 109 d_Model_entry_102 (by decide) (fun h102 => ?_) (fun h102 => ?_)
    · refine xv_iconst (pc := 109) 0 d_Model_entry_109 (by decide) ?_
      exact xv_retiq (pc := 110) d_Model_entry_110 rfl rfl rfl ⟨_, rfl, Or.inr ⟨e, ⟨he, rfl⟩, by rw [if_neg y0, if_neg y1, if_neg y2, if_neg y3, if_neg y4, if_pos rfl, hGG, h102]⟩, rfl⟩
    · refine xv_iconst (pc := 105) 1 d_Model_entry_105 (by decide) ?_
      refine xv_goto (pc := 106) 110 d_Model_entry_106 (by decide) ?_
      exact xv_retiq (pc := 110) d_Model_entry_110 rfl rfl rfl ⟨_, rfl, Or.inr ⟨e, ⟨he, rfl⟩, by rw [if_neg y0, if_neg y1, if_neg y2, if_neg y3, if_neg y4, if_pos rfl]; rw [← hGG] at h102; rw [xB_ne h102]; rfl⟩, rfl⟩
  refine xv_tableTo (pc := 17) 111 [0, 1, 2, 3, 4, 5] d_Model_entry_17 (by decide) (by decide) (by decide) (List.forall_mem_cons.mpr ⟨lv_neT y0 (by decide), (List.forall_mem_cons.mpr ⟨lv_neT y1 (by decide), (List.forall_mem_cons.mpr ⟨lv_neT y2 (by decide), (List.forall_mem_cons.mpr ⟨lv_neT y3 (by decide), (List.forall_mem_cons.mpr ⟨lv_neT y4 (by decide), (List.forall_mem_cons.mpr ⟨lv_neT y5 (by decide), (fun _ h => absurd h List.not_mem_nil)⟩)⟩)⟩)⟩)⟩)⟩) ?_
  refine xv_iconst (pc := 111) (-1) d_Model_entry_111 (by decide) ?_
  exact xv_retiq (pc := 112) d_Model_entry_112 rfl rfl rfl ⟨_, rfl, Or.inr ⟨e, ⟨he, rfl⟩, by rw [if_neg y0, if_neg y1, if_neg y2, if_neg y3, if_neg y4, if_neg y5]⟩, rfl⟩

