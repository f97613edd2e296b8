/-! the model: damage -/
theorem c_Model_damage0 {sc : Nat × (Nat → Int32)} {u : xv_M} {M n : Nat} (hM : xMo u M) (hn : xv_i u M 31 = nI n) (hlt : n ≤ 8) {x v : Int32} : xv_C sc 1 J_Model_damage [.ref M, .int 0, .int x, .int v] u (xv_N u) (xv_S u) (xv_pi (fun r w => (¬ (0 ≤ v ∧ v ≤ 7) ∧ r = -1 ∧ w = u) ∨ ((0 ≤ v ∧ v ≤ 7) ∧ r = 1 ∧ w = xv_si u M 29 v))) := by
  refine xv_C_of (by decide) (Nat.le_refl _) (Nat.le_refl _) (xv_cat1 rfl) (Nat.le_of_ble_eq_true rfl) ?_
  show xv_X sc 1 J_Model_damage 0 [some (.ref M), some (.int 0), some (.int x), some (.int v)] [] u (xv_N u) (xv_S u) _
  refine xv_iload_n (pc := 0) d_Model_damage_0 rfl rfl ?_
  refine xv_iconst (pc := 1) 0 d_Model_damage_1 (by decide) ?_
  refine xv_iconst (pc := 2) 4 d_Model_damage_2 (by decide) ?_
  refine xv_cS3i (pc := 3) (d1 := 0) c_Model_is m_Model_is l_Model_102 d_Model_damage_3 (by omega) (Nat.le_of_ble_eq_true rfl) ⟨Nat.le_refl _, Nat.le_refl _⟩ (fun r w hw hN hS => ?_)
  obtain ⟨rfl, hw⟩ := hw
  subst w
  refine xv_if_eq (pc := 6) 62 d_Model_damage_6 (by decide) (fun h6 => ?_) (fun h6 => ?_)
  · exact absurd h6 (by decide)
  refine xv_iload_n (pc := 9) d_Model_damage_9 rfl rfl ?_
  refine xv_if_eq (pc := 10) 18 d_Model_damage_10 (by decide) (fun h10 => ?_) (fun h10 => ?_)
  case refine_2 => exact absurd rfl h10
  refine xv_iload_n (pc := 18) d_Model_damage_18 rfl rfl ?_
  refine xv_iconst (pc := 19) 0 d_Model_damage_19 (by decide) ?_
  refine xv_bipush (pc := 20) 7 d_Model_damage_20 (by decide) ?_
  refine xv_cS3i (pc := 22) (d1 := 0) c_Model_is m_Model_is l_Model_102 d_Model_damage_22 (by omega) (Nat.le_of_ble_eq_true rfl) ⟨Nat.le_refl _, Nat.le_refl _⟩ (fun r w hw hN hS => ?_)
  obtain ⟨rfl, hw⟩ := hw
  subst w
  refine xv_if_eq (pc := 25) 62 d_Model_damage_25 (by decide) (fun h25 => ?_) (fun h25 => ?_)
  · refine xv_iconst (pc := 62) (-1) d_Model_damage_62 (by decide) ?_
    exact xv_retiq (pc := 63) d_Model_damage_63 rfl rfl rfl ⟨_, rfl, Or.inl ⟨xw_eq h25, rfl, rfl⟩⟩
  have e := xw_ne h25
  refine xv_iload_n (pc := 28) d_Model_damage_28 rfl rfl ?_
  refine xv_iconst (pc := 29) 1 d_Model_damage_29 (by decide) ?_
  refine xv_icmp_ne (pc := 30) 43 d_Model_damage_30 (by decide) (fun h30 => ?_) (fun h30 => ?_)
  case refine_2 => exact absurd h30 (by decide)
  refine xv_iload_n (pc := 43) d_Model_damage_43 rfl rfl ?_
  refine xv_iconst (pc := 44) 1 d_Model_damage_44 (by decide) ?_
  refine xv_icmp_le (pc := 45) 64 d_Model_damage_45 (by decide) (fun h45 => ?_) (fun h45 => ?_)
  case refine_2 => exact absurd (by decide) h45
  refine xv_iload_n (pc := 64) d_Model_damage_64 rfl rfl ?_
  refine xv_if_ne (pc := 65) 73 d_Model_damage_65 (by decide) (fun h65 => ?_) (fun h65 => ?_)
  · exact absurd rfl h65
  refine xv_aload_n (pc := 68) d_Model_damage_68 rfl rfl ?_
  refine xv_iload_n (pc := 69) d_Model_damage_69 rfl rfl ?_
  refine xv_putI (pc := 70) d_Model_damage_70 f_Model_184 (Or.inl rfl) fin_11_29 hM.1 ?_
  refine xv_iload_n (pc := 73) d_Model_damage_73 rfl rfl ?_
  refine xv_iconst (pc := 74) 1 d_Model_damage_74 (by decide) ?_
  refine xv_icmp_ne (pc := 75) 83 d_Model_damage_75 (by decide) (fun h75 => ?_) (fun h75 => ?_)
  case refine_2 => exact absurd h75 (by decide)
  refine xv_iload_n (pc := 83) d_Model_damage_83 rfl rfl ?_
  refine xv_iconst (pc := 84) 2 d_Model_damage_84 (by decide) ?_
  refine xv_icmp_ne (pc := 85) 95 d_Model_damage_85 (by decide) (fun h85 => ?_) (fun h85 => ?_)
  case refine_2 => exact absurd h85 (by decide)
  refine xv_iload_n (pc := 95) d_Model_damage_95 rfl rfl ?_
  refine xv_iconst (pc := 96) 3 d_Model_damage_96 (by decide) ?_
  refine xv_icmp_ne (pc := 97) 120 d_Model_damage_97 (by decide) (fun h97 => ?_) (fun h97 => ?_)
  case refine_2 => exact absurd h97 (by decide)
  refine xv_iload_n (pc := 120) d_Model_damage_120 rfl rfl ?_
  refine xv_iconst (pc := 121) 4 d_Model_damage_121 (by decide) ?_
  refine xv_icmp_ne (pc := 122) 130 d_Model_damage_122 (by decide) (fun h122 => ?_) (fun h122 => ?_)
  case refine_2 => exact absurd h122 (by decide)
  refine xv_iconst (pc := 130) 1 d_Model_damage_130 (by decide) ?_
  exact xv_retiq (pc := 131) d_Model_damage_131 rfl rfl rfl ⟨_, rfl, Or.inr ⟨e, rfl, rfl⟩⟩
theorem c_Model_damage1 {sc : Nat × (Nat → Int32)} {u : xv_M} {M n : Nat} (hM : xMo u M) (hn : xv_i u M 31 = nI n) (hlt : n ≤ 8) {x v : Int32} : xv_C sc 1 J_Model_damage [.ref M, .int 1, .int x, .int v] u (xv_N u) (xv_S u) (xv_pi (fun r w => (¬ (0 ≤ v ∧ v ≤ 9) ∧ r = -1 ∧ w = u) ∨ ((0 ≤ v ∧ v ≤ 9) ∧ r = 1 ∧ w = xv_si u M 30 v))) := by
  refine xv_C_of (by decide) (Nat.le_refl _) (Nat.le_refl _) (xv_cat1 rfl) (Nat.le_of_ble_eq_true rfl) ?_
  show xv_X sc 1 J_Model_damage 0 [some (.ref M), some (.int 1), some (.int x), some (.int v)] [] u (xv_N u) (xv_S u) _
  refine xv_iload_n (pc := 0) d_Model_damage_0 rfl rfl ?_
  refine xv_iconst (pc := 1) 0 d_Model_damage_1 (by decide) ?_
  refine xv_iconst (pc := 2) 4 d_Model_damage_2 (by decide) ?_
  refine xv_cS3i (pc := 3) (d1 := 0) c_Model_is m_Model_is l_Model_102 d_Model_damage_3 (by omega) (Nat.le_of_ble_eq_true rfl) ⟨Nat.le_refl _, Nat.le_refl _⟩ (fun r w hw hN hS => ?_)
  obtain ⟨rfl, hw⟩ := hw
  subst w
  refine xv_if_eq (pc := 6) 62 d_Model_damage_6 (by decide) (fun h6 => ?_) (fun h6 => ?_)
  · exact absurd h6 (by decide)
  refine xv_iload_n (pc := 9) d_Model_damage_9 rfl rfl ?_
  refine xv_if_eq (pc := 10) 18 d_Model_damage_10 (by decide) (fun h10 => ?_) (fun h10 => ?_)
  · exact absurd h10 (by decide)
  refine xv_iload_n (pc := 13) d_Model_damage_13 rfl rfl ?_
  refine xv_iconst (pc := 14) 2 d_Model_damage_14 (by decide) ?_
  refine xv_icmp_ne (pc := 15) 28 d_Model_damage_15 (by decide) (fun h15 => ?_) (fun h15 => ?_)
  case refine_2 => exact absurd h15 (by decide)
  refine xv_iload_n (pc := 28) d_Model_damage_28 rfl rfl ?_
  refine xv_iconst (pc := 29) 1 d_Model_damage_29 (by decide) ?_
  refine xv_icmp_ne (pc := 30) 43 d_Model_damage_30 (by decide) (fun h30 => ?_) (fun h30 => ?_)
  · exact absurd rfl h30
  refine xv_iload_n (pc := 33) d_Model_damage_33 rfl rfl ?_
  refine xv_iconst (pc := 34) 0 d_Model_damage_34 (by decide) ?_
  refine xv_bipush (pc := 35) 9 d_Model_damage_35 (by decide) ?_
  refine xv_cS3i (pc := 37) (d1 := 0) c_Model_is m_Model_is l_Model_102 d_Model_damage_37 (by omega) (Nat.le_of_ble_eq_true rfl) ⟨Nat.le_refl _, Nat.le_refl _⟩ (fun r w hw hN hS => ?_)
  obtain ⟨rfl, hw⟩ := hw
  subst w
  refine xv_if_eq (pc := 40) 62 d_Model_damage_40 (by decide) (fun h40 => ?_) (fun h40 => ?_)
  · refine xv_iconst (pc := 62) (-1) d_Model_damage_62 (by decide) ?_
    exact xv_retiq (pc := 63) d_Model_damage_63 rfl rfl rfl ⟨_, rfl, Or.inl ⟨xw_eq h40, rfl, rfl⟩⟩
  have e := xw_ne h40
  refine xv_iload_n (pc := 43) d_Model_damage_43 rfl rfl ?_
  refine xv_iconst (pc := 44) 1 d_Model_damage_44 (by decide) ?_
  refine xv_icmp_le (pc := 45) 64 d_Model_damage_45 (by decide) (fun h45 => ?_) (fun h45 => ?_)
  case refine_2 => exact absurd (by decide) h45
  refine xv_iload_n (pc := 64) d_Model_damage_64 rfl rfl ?_
  refine xv_if_ne (pc := 65) 73 d_Model_damage_65 (by decide) (fun h65 => ?_) (fun h65 => ?_)
  case refine_2 => exact absurd h65 (by decide)
  refine xv_iload_n (pc := 73) d_Model_damage_73 rfl rfl ?_
  refine xv_iconst (pc := 74) 1 d_Model_damage_74 (by decide) ?_
  refine xv_icmp_ne (pc := 75) 83 d_Model_damage_75 (by decide) (fun h75 => ?_) (fun h75 => ?_)
  · exact absurd rfl h75
  refine xv_aload_n (pc := 78) d_Model_damage_78 rfl rfl ?_
  refine xv_iload_n (pc := 79) d_Model_damage_79 rfl rfl ?_
  refine xv_putI (pc := 80) d_Model_damage_80 f_Model_181 (Or.inl rfl) fin_11_30 hM.1 ?_
  refine xv_iload_n (pc := 83) d_Model_damage_83 rfl rfl ?_
  refine xv_iconst (pc := 84) 2 d_Model_damage_84 (by decide) ?_
  refine xv_icmp_ne (pc := 85) 95 d_Model_damage_85 (by decide) (fun h85 => ?_) (fun h85 => ?_)
  case refine_2 => exact absurd h85 (by decide)
  refine xv_iload_n (pc := 95) d_Model_damage_95 rfl rfl ?_
  refine xv_iconst (pc := 96) 3 d_Model_damage_96 (by decide) ?_
  refine xv_icmp_ne (pc := 97) 120 d_Model_damage_97 (by decide) (fun h97 => ?_) (fun h97 => ?_)
  case refine_2 => exact absurd h97 (by decide)
  refine xv_iload_n (pc := 120) d_Model_damage_120 rfl rfl ?_
  refine xv_iconst (pc := 121) 4 d_Model_damage_121 (by decide) ?_
  refine xv_icmp_ne (pc := 122) 130 d_Model_damage_122 (by decide) (fun h122 => ?_) (fun h122 => ?_)
  case refine_2 => exact absurd h122 (by decide)
  refine xv_iconst (pc := 130) 1 d_Model_damage_130 (by decide) ?_
  exact xv_retiq (pc := 131) d_Model_damage_131 rfl rfl rfl ⟨_, rfl, Or.inr ⟨e, rfl, rfl⟩⟩
theorem c_Model_damage2 {sc : Nat × (Nat → Int32)} {u : xv_M} {M n : Nat} (hM : xMo u M) (hn : xv_i u M 31 = nI n) (hlt : n ≤ 8) {x v : Int32} : xv_C sc 1 J_Model_damage [.ref M, .int 2, .int x, .int v] u (xv_N u) (xv_S u) (xv_pi (fun r w => (¬ ((∃ e, e < n ∧ x = nI e) ∧ 0 ≤ v ∧ v ≤ 7) ∧ r = -1 ∧ w = u) ∨ (∃ e, e < n ∧ x = nI e ∧ (0 ≤ v ∧ v ≤ 7) ∧ r = 1 ∧ w = xv_si u (M + 17) e v))) := by
  refine xv_C_of (by decide) (Nat.le_refl _) (Nat.le_refl _) (xv_cat1 rfl) (Nat.le_of_ble_eq_true rfl) ?_
  show xv_X sc 1 J_Model_damage 0 [some (.ref M), some (.int 2), some (.int x), some (.int v)] [] u (xv_N u) (xv_S u) _
  refine xv_iload_n (pc := 0) d_Model_damage_0 rfl rfl ?_
  refine xv_iconst (pc := 1) 0 d_Model_damage_1 (by decide) ?_
  refine xv_iconst (pc := 2) 4 d_Model_damage_2 (by decide) ?_
  refine xv_cS3i (pc := 3) (d1 := 0) c_Model_is m_Model_is l_Model_102 d_Model_damage_3 (by omega) (Nat.le_of_ble_eq_true rfl) ⟨Nat.le_refl _, Nat.le_refl _⟩ (fun r w hw hN hS => ?_)
  obtain ⟨rfl, hw⟩ := hw
  subst w
  refine xv_if_eq (pc := 6) 62 d_Model_damage_6 (by decide) (fun h6 => ?_) (fun h6 => ?_)
  · exact absurd h6 (by decide)
  refine xv_iload_n (pc := 9) d_Model_damage_9 rfl rfl ?_
  refine xv_if_eq (pc := 10) 18 d_Model_damage_10 (by decide) (fun h10 => ?_) (fun h10 => ?_)
  · exact absurd h10 (by decide)
  refine xv_iload_n (pc := 13) d_Model_damage_13 rfl rfl ?_
  refine xv_iconst (pc := 14) 2 d_Model_damage_14 (by decide) ?_
  refine xv_icmp_ne (pc := 15) 28 d_Model_damage_15 (by decide) (fun h15 => ?_) (fun h15 => ?_)
  · exact absurd rfl h15
  refine xv_iload_n (pc := 18) d_Model_damage_18 rfl rfl ?_
  refine xv_iconst (pc := 19) 0 d_Model_damage_19 (by decide) ?_
  refine xv_bipush (pc := 20) 7 d_Model_damage_20 (by decide) ?_
  refine xv_cS3i (pc := 22) (d1 := 0) c_Model_is m_Model_is l_Model_102 d_Model_damage_22 (by omega) (Nat.le_of_ble_eq_true rfl) ⟨Nat.le_refl _, Nat.le_refl _⟩ (fun r w hw hN hS => ?_)
  obtain ⟨rfl, hw⟩ := hw
  subst w
  refine xv_if_eq (pc := 25) 62 d_Model_damage_25 (by decide) (fun h25 => ?_) (fun h25 => ?_)
  · have e := xw_eq h25
    refine xv_iconst (pc := 62) (-1) d_Model_damage_62 (by decide) ?_
    exact xv_retiq (pc := 63) d_Model_damage_63 rfl rfl rfl ⟨_, rfl, Or.inl ⟨fun q => e q.2, rfl, rfl⟩⟩
  have e := xw_ne h25
  refine xv_iload_n (pc := 28) d_Model_damage_28 rfl rfl ?_
  refine xv_iconst (pc := 29) 1 d_Model_damage_29 (by decide) ?_
  refine xv_icmp_ne (pc := 30) 43 d_Model_damage_30 (by decide) (fun h30 => ?_) (fun h30 => ?_)
  case refine_2 => exact absurd h30 (by decide)
  refine xv_iload_n (pc := 43) d_Model_damage_43 rfl rfl ?_
  refine xv_iconst (pc := 44) 1 d_Model_damage_44 (by decide) ?_
  refine xv_icmp_le (pc := 45) 64 d_Model_damage_45 (by decide) (fun h45 => ?_) (fun h45 => ?_)
  · exact absurd h45 (by decide)
  refine xv_iload_n (pc := 48) d_Model_damage_48 rfl rfl ?_
  refine xv_iconst (pc := 49) 0 d_Model_damage_49 (by decide) ?_
  refine xv_aload_n (pc := 50) d_Model_damage_50 rfl rfl ?_
  refine xv_getI (pc := 51) d_Model_damage_51 f_Model_172 rfl hM.1 ?_
  refine xv_iconst (pc := 54) 1 d_Model_damage_54 (by decide) ?_
  refine xv_isub (pc := 55) d_Model_damage_55 ?_
  rw [hn]
  refine xv_cS3i (pc := 56) (d1 := 0) c_Model_is m_Model_is l_Model_102 d_Model_damage_56 (by omega) (Nat.le_of_ble_eq_true rfl) ⟨Nat.le_refl _, Nat.le_refl _⟩ (fun r w hw hN hS => ?_)
  obtain ⟨rfl, hw⟩ := hw
  subst w
  refine xv_if_ne (pc := 59) 64 d_Model_damage_59 (by decide) (fun h59 => ?_) (fun h59 => ?_)
  case refine_2 =>
    have e0 := mt (xRg (by omega)).mpr (xw_eq h59)
    refine xv_iconst (pc := 62) (-1) d_Model_damage_62 (by decide) ?_
    exact xv_retiq (pc := 63) d_Model_damage_63 rfl rfl rfl ⟨_, rfl, Or.inl ⟨fun q => e0 q.1, rfl, rfl⟩⟩
  obtain ⟨k, hk, rfl⟩ := (xRg (by omega)).mp (xw_ne h59)
  have hck : (nI k).toNatClampNeg = k := nI_clamp (by omega)
  refine xv_iload_n (pc := 64) d_Model_damage_64 rfl rfl ?_
  refine xv_if_ne (pc := 65) 73 d_Model_damage_65 (by decide) (fun h65 => ?_) (fun h65 => ?_)
  case refine_2 => exact absurd h65 (by decide)
  refine xv_iload_n (pc := 73) d_Model_damage_73 rfl rfl ?_
  refine xv_iconst (pc := 74) 1 d_Model_damage_74 (by decide) ?_
  refine xv_icmp_ne (pc := 75) 83 d_Model_damage_75 (by decide) (fun h75 => ?_) (fun h75 => ?_)
  case refine_2 => exact absurd h75 (by decide)
  refine xv_iload_n (pc := 83) d_Model_damage_83 rfl rfl ?_
  refine xv_iconst (pc := 84) 2 d_Model_damage_84 (by decide) ?_
  refine xv_icmp_ne (pc := 85) 95 d_Model_damage_85 (by decide) (fun h85 => ?_) (fun h85 => ?_)
  · exact absurd rfl h85
  refine xv_aload_n (pc := 88) d_Model_damage_88 rfl rfl ?_
  refine xv_getR (pc := 89) d_Model_damage_89 f_Model_59 rfl hM.1 (xm_r16 hM) ?_
  refine xv_iload_n (pc := 92) d_Model_damage_92 rfl rfl ?_
  refine xv_iload_n (pc := 93) d_Model_damage_93 rfl rfl ?_
  refine xv_ast (pc := 94) d_Model_damage_94 (xm_k16 hM) (xm_i16 hM (vp_in_nI (by omega) (by decide))) ?_
  refine xv_iload_n (pc := 95) d_Model_damage_95 rfl rfl ?_
  refine xv_iconst (pc := 96) 3 d_Model_damage_96 (by decide) ?_
  refine xv_icmp_ne (pc := 97) 120 d_Model_damage_97 (by decide) (fun h97 => ?_) (fun h97 => ?_)
  case refine_2 => exact absurd h97 (by decide)
  refine xv_iload_n (pc := 120) d_Model_damage_120 rfl rfl ?_
  refine xv_iconst (pc := 121) 4 d_Model_damage_121 (by decide) ?_
  refine xv_icmp_ne (pc := 122) 130 d_Model_damage_122 (by decide) (fun h122 => ?_) (fun h122 => ?_)
  case refine_2 => exact absurd h122 (by decide)
  rw [hck]
  refine xv_iconst (pc := 130) 1 d_Model_damage_130 (by decide) ?_
  exact xv_retiq (pc := 131) d_Model_damage_131 rfl rfl rfl ⟨_, rfl, Or.inr ⟨k, hk, rfl, e, rfl, rfl⟩⟩
theorem c_Model_damage3 {sc : Nat × (Nat → Int32)} {u : xv_M} {M n : Nat} (hM : xMo u M) (hn : xv_i u M 31 = nI n) (hlt : n ≤ 8) {x v : Int32} : xv_C sc 1 J_Model_damage [.ref M, .int 3, .int x, .int v] u (xv_N u) (xv_S u) (xv_pi (fun r w => (¬ (∃ e, e < n ∧ x = nI e) ∧ r = -1 ∧ w = u) ∨ (∃ e, e < n ∧ x = nI e ∧ r = 1 ∧ w = xv_si u (M + 15) e (if xv_i u (M + 15) e = 0 then 1 else 0)))) := by
  refine xv_C_of (by decide) (Nat.le_refl _) (Nat.le_refl _) (xv_cat1 rfl) (Nat.le_of_ble_eq_true rfl) ?_
  show xv_X sc 1 J_Model_damage 0 [some (.ref M), some (.int 3), some (.int x), some (.int v)] [] u (xv_N u) (xv_S u) _
  refine xv_iload_n (pc := 0) d_Model_damage_0 rfl rfl ?_
  refine xv_iconst (pc := 1) 0 d_Model_damage_1 (by decide) ?_
  refine xv_iconst (pc := 2) 4 d_Model_damage_2 (by decide) ?_
  refine xv_cS3i (pc := 3) (d1 := 0) c_Model_is m_Model_is l_Model_102 d_Model_damage_3 (by omega) (Nat.le_of_ble_eq_true rfl) ⟨Nat.le_refl _, Nat.le_refl _⟩ (fun r w hw hN hS => ?_)
  obtain ⟨rfl, hw⟩ := hw
  subst w
  refine xv_if_eq (pc := 6) 62 d_Model_damage_6 (by decide) (fun h6 => ?_) (fun h6 => ?_)
  · exact absurd h6 (by decide)
  refine xv_iload_n (pc := 9) d_Model_damage_9 rfl rfl ?_
  refine xv_if_eq (pc := 10) 18 d_Model_damage_10 (by decide) (fun h10 => ?_) (fun h10 => ?_)
  · exact absurd h10 (by decide)
  refine xv_iload_n (pc := 13) d_Model_damage_13 rfl rfl ?_
  refine xv_iconst (pc := 14) 2 d_Model_damage_14 (by decide) ?_
  refine xv_icmp_ne (pc := 15) 28 d_Model_damage_15 (by decide) (fun h15 => ?_) (fun h15 => ?_)
  case refine_2 => exact absurd h15 (by decide)
  refine xv_iload_n (pc := 28) d_Model_damage_28 rfl rfl ?_
  refine xv_iconst (pc := 29) 1 d_Model_damage_29 (by decide) ?_
  refine xv_icmp_ne (pc := 30) 43 d_Model_damage_30 (by decide) (fun h30 => ?_) (fun h30 => ?_)
  case refine_2 => exact absurd h30 (by decide)
  refine xv_iload_n (pc := 43) d_Model_damage_43 rfl rfl ?_
  refine xv_iconst (pc := 44) 1 d_Model_damage_44 (by decide) ?_
  refine xv_icmp_le (pc := 45) 64 d_Model_damage_45 (by decide) (fun h45 => ?_) (fun h45 => ?_)
  · exact absurd h45 (by decide)
  refine xv_iload_n (pc := 48) d_Model_damage_48 rfl rfl ?_
  refine xv_iconst (pc := 49) 0 d_Model_damage_49 (by decide) ?_
  refine xv_aload_n (pc := 50) d_Model_damage_50 rfl rfl ?_
  refine xv_getI (pc := 51) d_Model_damage_51 f_Model_172 rfl hM.1 ?_
  refine xv_iconst (pc := 54) 1 d_Model_damage_54 (by decide) ?_
  refine xv_isub (pc := 55) d_Model_damage_55 ?_
  rw [hn]
  refine xv_cS3i (pc := 56) (d1 := 0) c_Model_is m_Model_is l_Model_102 d_Model_damage_56 (by omega) (Nat.le_of_ble_eq_true rfl) ⟨Nat.le_refl _, Nat.le_refl _⟩ (fun r w hw hN hS => ?_)
  obtain ⟨rfl, hw⟩ := hw
  subst w
  refine xv_if_ne (pc := 59) 64 d_Model_damage_59 (by decide) (fun h59 => ?_) (fun h59 => ?_)
  case refine_2 =>
    have e0 := mt (xRg (by omega)).mpr (xw_eq h59)
    refine xv_iconst (pc := 62) (-1) d_Model_damage_62 (by decide) ?_
    exact xv_retiq (pc := 63) d_Model_damage_63 rfl rfl rfl ⟨_, rfl, Or.inl ⟨e0, rfl, rfl⟩⟩
  obtain ⟨k, hk, rfl⟩ := (xRg (by omega)).mp (xw_ne h59)
  have hck : (nI k).toNatClampNeg = k := nI_clamp (by omega)
  have hik : vp_in (nI k) 8 := vp_in_nI (by omega) (by decide)
  refine xv_iload_n (pc := 64) d_Model_damage_64 rfl rfl ?_
  refine xv_if_ne (pc := 65) 73 d_Model_damage_65 (by decide) (fun h65 => ?_) (fun h65 => ?_)
  case refine_2 => exact absurd h65 (by decide)
  refine xv_iload_n (pc := 73) d_Model_damage_73 rfl rfl ?_
  refine xv_iconst (pc := 74) 1 d_Model_damage_74 (by decide) ?_
  refine xv_icmp_ne (pc := 75) 83 d_Model_damage_75 (by decide) (fun h75 => ?_) (fun h75 => ?_)
  case refine_2 => exact absurd h75 (by decide)
  refine xv_iload_n (pc := 83) d_Model_damage_83 rfl rfl ?_
  refine xv_iconst (pc := 84) 2 d_Model_damage_84 (by decide) ?_
  refine xv_icmp_ne (pc := 85) 95 d_Model_damage_85 (by decide) (fun h85 => ?_) (fun h85 => ?_)
  case refine_2 => exact absurd h85 (by decide)
  refine xv_iload_n (pc := 95) d_Model_damage_95 rfl rfl ?_
  refine xv_iconst (pc := 96) 3 d_Model_damage_96 (by decide) ?_
  refine xv_icmp_ne (pc := 97) 120 d_Model_damage_97 (by decide) (fun h97 => ?_) (fun h97 => ?_)
  · exact absurd rfl h97
  refine xv_aload_n (pc := 100) d_Model_damage_100 rfl rfl ?_
  refine xv_getR (pc := 101) d_Model_damage_101 f_Model_53 rfl hM.1 (xm_r14 hM) ?_
  refine xv_iload_n (pc := 104) d_Model_damage_104 rfl rfl ?_
  refine xv_aload_n (pc := 105) d_Model_damage_105 rfl rfl ?_
  refine xv_getR (pc := 106) d_Model_damage_106 f_Model_53 rfl hM.1 (xm_r14 hM) ?_
  refine xv_iload_n (pc := 109) d_Model_damage_109 rfl rfl ?_
  refine xv_zald (pc := 110) d_Model_damage_110 (xm_k14 hM) (xm_i14 hM hik) ?_
  refine xv_if_ne (pc := 111) 118 d_Model_damage_111 (by decide) (fun h111 => ?_) (fun h111 => ?_)
  · rw [hck] at h111
    refine xv_iconst (pc := 118) 0 d_Model_damage_118 (by decide) ?_
    refine xv_zast (pc := 119) d_Model_damage_119 (xm_k14 hM) (xm_i14 hM hik) (by decide) ?_
    refine xv_iload_n (pc := 120) d_Model_damage_120 rfl rfl ?_
    refine xv_iconst (pc := 121) 4 d_Model_damage_121 (by decide) ?_
    refine xv_icmp_ne (pc := 122) 130 d_Model_damage_122 (by decide) (fun h122 => ?_) (fun h122 => ?_)
    case refine_2 => exact absurd h122 (by decide)
    rw [hck]
    refine xv_iconst (pc := 130) 1 d_Model_damage_130 (by decide) ?_
    exact xv_retiq (pc := 131) d_Model_damage_131 rfl rfl rfl ⟨_, rfl, Or.inr ⟨k, hk, rfl, rfl, by rw [if_neg h111]⟩⟩
  · rw [hck] at h111
    refine xv_iconst (pc := 114) 1 d_Model_damage_114 (by decide) ?_
    refine xv_goto (pc := 115) 119 d_Model_damage_115 (by decide) ?_
    refine xv_zast (pc := 119) d_Model_damage_119 (xm_k14 hM) (xm_i14 hM hik) (by decide) ?_
    refine xv_iload_n (pc := 120) d_Model_damage_120 rfl rfl ?_
    refine xv_iconst (pc := 121) 4 d_Model_damage_121 (by decide) ?_
    refine xv_icmp_ne (pc := 122) 130 d_Model_damage_122 (by decide) (fun h122 => ?_) (fun h122 => ?_)
    case refine_2 => exact absurd h122 (by decide)
    rw [hck]
    refine xv_iconst (pc := 130) 1 d_Model_damage_130 (by decide) ?_
    exact xv_retiq (pc := 131) d_Model_damage_131 rfl rfl rfl ⟨_, rfl, Or.inr ⟨k, hk, rfl, rfl, by rw [if_pos h111]⟩⟩
theorem c_Model_damage4 {sc : Nat × (Nat → Int32)} {u : xv_M} {M n : Nat} (hM : xMo u M) (hn : xv_i u M 31 = nI n) (hlt : n ≤ 8) {L : Nat → Nat} (hL : ∀ e, e < n → xv_i u (M + 10) (8 + e) = nI (L e) ∧ L e ≤ 265) (ho : ∀ e, e < n → xv_i u (M + 15) e = 0 ∨ xv_i u (M + 15) e = 1) {x v : Int32} : xv_C sc 1 J_Model_damage [.ref M, .int 4, .int x, .int v] u (xv_N u) (xv_S u) (xv_pi (fun r w => (¬ (∃ e, e < n ∧ x = nI e) ∧ r = -1 ∧ w = u) ∨ (∃ e, e < n ∧ x = nI e ∧ r = 1 ∧ xSeq u w M e (L e)))) := by
  refine xv_C_of (by decide) (Nat.le_refl _) (Nat.le_refl _) (xv_cat1 rfl) (Nat.le_of_ble_eq_true rfl) ?_
  show xv_X sc 1 J_Model_damage 0 [some (.ref M), some (.int 4), some (.int x), some (.int v)] [] u (xv_N u) (xv_S u) _
  refine xv_iload_n (pc := 0) d_Model_damage_0 rfl rfl ?_
  refine xv_iconst (pc := 1) 0 d_Model_damage_1 (by decide) ?_
  refine xv_iconst (pc := 2) 4 d_Model_damage_2 (by decide) ?_
  refine xv_cS3i (pc := 3) (d1 := 0) c_Model_is m_Model_is l_Model_102 d_Model_damage_3 (by omega) (Nat.le_of_ble_eq_true rfl) ⟨Nat.le_refl _, Nat.le_refl _⟩ (fun r w hw hN hS => ?_)
  obtain ⟨rfl, hw⟩ := hw
  subst w
  refine xv_if_eq (pc := 6) 62 d_Model_damage_6 (by decide) (fun h6 => ?_) (fun h6 => ?_)
  · exact absurd h6 (by decide)
  refine xv_iload_n (pc := 9) d_Model_damage_9 rfl rfl ?_
  refine xv_if_eq (pc := 10) 18 d_Model_damage_10 (by decide) (fun h10 => ?_) (fun h10 => ?_)
  · exact absurd h10 (by decide)
  refine xv_iload_n (pc := 13) d_Model_damage_13 rfl rfl ?_
  refine xv_iconst (pc := 14) 2 d_Model_damage_14 (by decide) ?_
  refine xv_icmp_ne (pc := 15) 28 d_Model_damage_15 (by decide) (fun h15 => ?_) (fun h15 => ?_)
  case refine_2 => exact absurd h15 (by decide)
  refine xv_iload_n (pc := 28) d_Model_damage_28 rfl rfl ?_
  refine xv_iconst (pc := 29) 1 d_Model_damage_29 (by decide) ?_
  refine xv_icmp_ne (pc := 30) 43 d_Model_damage_30 (by decide) (fun h30 => ?_) (fun h30 => ?_)
  case refine_2 => exact absurd h30 (by decide)
  refine xv_iload_n (pc := 43) d_Model_damage_43 rfl rfl ?_
  refine xv_iconst (pc := 44) 1 d_Model_damage_44 (by decide) ?_
  refine xv_icmp_le (pc := 45) 64 d_Model_damage_45 (by decide) (fun h45 => ?_) (fun h45 => ?_)
  · exact absurd h45 (by decide)
  refine xv_iload_n (pc := 48) d_Model_damage_48 rfl rfl ?_
  refine xv_iconst (pc := 49) 0 d_Model_damage_49 (by decide) ?_
  refine xv_aload_n (pc := 50) d_Model_damage_50 rfl rfl ?_
  refine xv_getI (pc := 51) d_Model_damage_51 f_Model_172 rfl hM.1 ?_
  refine xv_iconst (pc := 54) 1 d_Model_damage_54 (by decide) ?_
  refine xv_isub (pc := 55) d_Model_damage_55 ?_
  rw [hn]
  refine xv_cS3i (pc := 56) (d1 := 0) c_Model_is m_Model_is l_Model_102 d_Model_damage_56 (by omega) (Nat.le_of_ble_eq_true rfl) ⟨Nat.le_refl _, Nat.le_refl _⟩ (fun r w hw hN hS => ?_)
  obtain ⟨rfl, hw⟩ := hw
  subst w
  refine xv_if_ne (pc := 59) 64 d_Model_damage_59 (by decide) (fun h59 => ?_) (fun h59 => ?_)
  case refine_2 =>
    have e0 := mt (xRg (by omega)).mpr (xw_eq h59)
    refine xv_iconst (pc := 62) (-1) d_Model_damage_62 (by decide) ?_
    exact xv_retiq (pc := 63) d_Model_damage_63 rfl rfl rfl ⟨_, rfl, Or.inl ⟨e0, rfl, rfl⟩⟩
  obtain ⟨k, hk, rfl⟩ := (xRg (by omega)).mp (xw_ne h59)
  refine xv_iload_n (pc := 64) d_Model_damage_64 rfl rfl ?_
  refine xv_if_ne (pc := 65) 73 d_Model_damage_65 (by decide) (fun h65 => ?_) (fun h65 => ?_)
  case refine_2 => exact absurd h65 (by decide)
  refine xv_iload_n (pc := 73) d_Model_damage_73 rfl rfl ?_
  refine xv_iconst (pc := 74) 1 d_Model_damage_74 (by decide) ?_
  refine xv_icmp_ne (pc := 75) 83 d_Model_damage_75 (by decide) (fun h75 => ?_) (fun h75 => ?_)
  case refine_2 => exact absurd h75 (by decide)
  refine xv_iload_n (pc := 83) d_Model_damage_83 rfl rfl ?_
  refine xv_iconst (pc := 84) 2 d_Model_damage_84 (by decide) ?_
  refine xv_icmp_ne (pc := 85) 95 d_Model_damage_85 (by decide) (fun h85 => ?_) (fun h85 => ?_)
  case refine_2 => exact absurd h85 (by decide)
  refine xv_iload_n (pc := 95) d_Model_damage_95 rfl rfl ?_
  refine xv_iconst (pc := 96) 3 d_Model_damage_96 (by decide) ?_
  refine xv_icmp_ne (pc := 97) 120 d_Model_damage_97 (by decide) (fun h97 => ?_) (fun h97 => ?_)
  case refine_2 => exact absurd h97 (by decide)
  refine xv_iload_n (pc := 120) d_Model_damage_120 rfl rfl ?_
  refine xv_iconst (pc := 121) 4 d_Model_damage_121 (by decide) ?_
  refine xv_icmp_ne (pc := 122) 130 d_Model_damage_122 (by decide) (fun h122 => ?_) (fun h122 => ?_)
  · exact absurd rfl h122
  refine xv_aload_n (pc := 125) d_Model_damage_125 rfl rfl ?_
  refine xv_iload_n (pc := 126) d_Model_damage_126 rfl rfl ?_
  obtain ⟨l1, l2⟩ := hL k hk
  refine xv_cV1v (pc := 127) (d1 := 0) (c_Model_seal hM (by omega) l1 (by omega) (ho k hk)) m_Model_seal l_Model_178 d_Model_damage_127 (by omega) (by decide : 11 < xv_nc) rfl hM.1 (Nat.le_of_ble_eq_true rfl) ⟨Nat.le_refl _, Nat.le_refl _⟩ (fun w hw hN hS => ?_)
  refine xv_iconst (pc := 130) 1 d_Model_damage_130 (by decide) ?_
  exact xv_retiq (pc := 131) d_Model_damage_131 rfl hN hS ⟨_, rfl, Or.inr ⟨k, hk, rfl, rfl, hw⟩⟩
theorem c_Model_damage5 {sc : Nat × (Nat → Int32)} {u : xv_M} {M n : Nat} (hM : xMo u M) (hn : xv_i u M 31 = nI n) (hlt : n ≤ 8) {x y v : Int32} (hx : ¬ (0 ≤ x ∧ x ≤ 4)) : xv_C sc 1 J_Model_damage [.ref M, .int x, .int y, .int v] u (xv_N u) (xv_S u) (xv_pi (fun r w => r = -1 ∧ w = u)) := by
  refine xv_C_of (by decide) (Nat.le_refl _) (Nat.le_refl _) (xv_cat1 rfl) (Nat.le_of_ble_eq_true rfl) ?_
  show xv_X sc 1 J_Model_damage 0 [some (.ref M), some (.int x), some (.int y), some (.int v)] [] u (xv_N u) (xv_S u) _
  refine xv_iload_n (pc := 0) d_Model_damage_0 rfl rfl ?_
  refine xv_iconst (pc := 1) 0 d_Model_damage_1 (by decide) ?_
  refine xv_iconst (pc := 2) 4 d_Model_damage_2 (by decide) ?_
  refine xv_cS3i (pc := 3) (d1 := 0) c_Model_is m_Model_is l_Model_102 d_Model_damage_3 (by omega) (Nat.le_of_ble_eq_true rfl) ⟨Nat.le_refl _, Nat.le_refl _⟩ (fun r w hw hN hS => ?_)
  obtain ⟨rfl, hw⟩ := hw
  subst w
  refine xv_if_eq (pc := 6) 62 d_Model_damage_6 (by decide) (fun h6 => ?_) (fun h6 => ?_)
  case refine_2 => exact absurd (xw_ne h6) hx
  refine xv_iconst (pc := 62) (-1) d_Model_damage_62 (by decide) ?_
  exact xv_retiq (pc := 63) d_Model_damage_63 rfl rfl rfl ⟨_, rfl, rfl, rfl⟩

