/-! the model's static helpers -/
theorem c_Model_is {sc : Nat × (Nat → Int32)} {u : xv_M} {v l m : Int32} : xv_C sc 0 J_Model_is [.int v, .int l, .int m] u (xv_N u) (xv_S u) (xv_pi (fun r w => r = xw v l m ∧ w = u)) := by
  refine xv_C_of (by decide) (Nat.le_refl _) (Nat.le_refl _) (xv_cat1 rfl) (Nat.le_of_ble_eq_true rfl) ?_
  show xv_X sc 0 J_Model_is 0 [some (.int v), some (.int l), some (.int m)] [] u (xv_N u) (xv_S u) _
  refine xv_iload_n (pc := 0) d_Model_is_0 rfl rfl ?_
  refine xv_iload_n (pc := 1) d_Model_is_1 rfl rfl ?_
  refine xv_icmp_lt (pc := 2) 14 d_Model_is_2 (by decide) (fun h2 => ?_) (fun h2 => ?_)
  · refine xv_iconst (pc := 14) 0 d_Model_is_14 (by decide) ?_
    exact xv_retzq (pc := 15) d_Model_is_15 rfl (by decide) rfl rfl ⟨_, rfl, by unfold xw; rw [if_neg (fun q => absurd h2 (Int32.not_lt.mpr q.1))], rfl⟩
  · refine xv_iload_n (pc := 5) d_Model_is_5 rfl rfl ?_
    refine xv_iload_n (pc := 6) d_Model_is_6 rfl rfl ?_
    refine xv_icmp_gt (pc := 7) 14 d_Model_is_7 (by decide) (fun h7 => ?_) (fun h7 => ?_)
    · refine xv_iconst (pc := 14) 0 d_Model_is_14 (by decide) ?_
      exact xv_retzq (pc := 15) d_Model_is_15 rfl (by decide) rfl rfl ⟨_, rfl, by unfold xw; rw [if_neg (fun q => absurd h7 (Int32.not_lt.mpr q.2))], rfl⟩
    · refine xv_iconst (pc := 10) 1 d_Model_is_10 (by decide) ?_
      refine xv_goto (pc := 11) 15 d_Model_is_11 (by decide) ?_
      exact xv_retzq (pc := 15) d_Model_is_15 rfl (by decide) rfl rfl ⟨_, rfl, by unfold xw; rw [if_pos ⟨Int32.not_lt.mp h2, Int32.not_lt.mp h7⟩], rfl⟩
theorem c_Model_fits {sc : Nat × (Nat → Int32)} {u : xv_M} {x y : Int32} : xv_C sc 1 J_Model_fits [.int x, .int y] u (xv_N u) (xv_S u) (xv_pi (fun r w => r = xOkT x y ∧ w = u)) := by
  refine xv_C_of (by decide) (Nat.le_refl _) (Nat.le_refl _) (xv_cat1 rfl) (Nat.le_of_ble_eq_true rfl) ?_
  show xv_X sc 1 J_Model_fits 0 [some (.int x), some (.int y)] [] u (xv_N u) (xv_S u) _
  refine xv_iload_n (pc := 0) d_Model_fits_0 rfl rfl ?_
  by_cases e1 : x = 1
  · subst e1
    refine xv_tableIn (pc := 1) (off := 83) 84 d_Model_fits_1 (by decide) (by decide) (by decide) (by decide) ?_
    refine xv_iload_n (pc := 84) d_Model_fits_84 rfl rfl ?_
    refine xv_iconst (pc := 85) 0 d_Model_fits_85 (by decide) ?_
    refine xv_bipush (pc := 86) 6 d_Model_fits_86 (by decide) ?_
    refine xv_cS3i (pc := 88) (d1 := 0) c_Model_is m_Model_is l_Model_102 d_Model_fits_88 (by omega) (Nat.le_of_ble_eq_true rfl) ⟨Nat.le_refl _, Nat.le_refl _⟩ (fun r w hw hN hS => ?_)
    obtain ⟨rfl, rfl⟩ := hw
    exact xv_retzq (pc := 91) d_Model_fits_91 rfl (xw_and _ _ _) rfl rfl ⟨_, rfl, by unfold xOkT; rfl, rfl⟩
  by_cases e2 : x = 15
  · subst e2
    refine xv_tableIn (pc := 1) (off := 83) 84 d_Model_fits_1 (by decide) (by decide) (by decide) (by decide) ?_
    refine xv_iload_n (pc := 84) d_Model_fits_84 rfl rfl ?_
    refine xv_iconst (pc := 85) 0 d_Model_fits_85 (by decide) ?_
    refine xv_bipush (pc := 86) 6 d_Model_fits_86 (by decide) ?_
    refine xv_cS3i (pc := 88) (d1 := 0) c_Model_is m_Model_is l_Model_102 d_Model_fits_88 (by omega) (Nat.le_of_ble_eq_true rfl) ⟨Nat.le_refl _, Nat.le_refl _⟩ (fun r w hw hN hS => ?_)
    obtain ⟨rfl, rfl⟩ := hw
    exact xv_retzq (pc := 91) d_Model_fits_91 rfl (xw_and _ _ _) rfl rfl ⟨_, rfl, by unfold xOkT; rfl, rfl⟩
  by_cases e3 : x = 13
  · subst e3
    refine xv_tableIn (pc := 1) (off := 91) 92 d_Model_fits_1 (by decide) (by decide) (by decide) (by decide) ?_
    refine xv_iload_n (pc := 92) d_Model_fits_92 rfl rfl ?_
    refine xv_iconst (pc := 93) 0 d_Model_fits_93 (by decide) ?_
    refine xv_iconst (pc := 94) 5 d_Model_fits_94 (by decide) ?_
    refine xv_cS3i (pc := 95) (d1 := 0) c_Model_is m_Model_is l_Model_102 d_Model_fits_95 (by omega) (Nat.le_of_ble_eq_true rfl) ⟨Nat.le_refl _, Nat.le_refl _⟩ (fun r w hw hN hS => ?_)
    obtain ⟨rfl, rfl⟩ := hw
    exact xv_retzq (pc := 98) d_Model_fits_98 rfl (xw_and _ _ _) rfl rfl ⟨_, rfl, by unfold xOkT; rfl, rfl⟩
  by_cases e4 : x = 14
  · subst e4
    refine xv_tableIn (pc := 1) (off := 98) 99 d_Model_fits_1 (by decide) (by decide) (by decide) (by decide) ?_
    refine xv_iload_n (pc := 99) d_Model_fits_99 rfl rfl ?_
    refine xv_iconst (pc := 100) 3 d_Model_fits_100 (by decide) ?_
    refine xv_bipush (pc := 101) 6 d_Model_fits_101 (by decide) ?_
    refine xv_cS3i (pc := 103) (d1 := 0) c_Model_is m_Model_is l_Model_102 d_Model_fits_103 (by omega) (Nat.le_of_ble_eq_true rfl) ⟨Nat.le_refl _, Nat.le_refl _⟩ (fun r w hw hN hS => ?_)
    obtain ⟨rfl, rfl⟩ := hw
    exact xv_retzq (pc := 106) d_Model_fits_106 rfl (xw_and _ _ _) rfl rfl ⟨_, rfl, by unfold xOkT; rfl, rfl⟩
  by_cases e5 : x = 16
  · subst e5
    refine xv_tableIn (pc := 1) (off := 98) 99 d_Model_fits_1 (by decide) (by decide) (by decide) (by decide) ?_
    refine xv_iload_n (pc := 99) d_Model_fits_99 rfl rfl ?_
    refine xv_iconst (pc := 100) 3 d_Model_fits_100 (by decide) ?_
    refine xv_bipush (pc := 101) 6 d_Model_fits_101 (by decide) ?_
    refine xv_cS3i (pc := 103) (d1 := 0) c_Model_is m_Model_is l_Model_102 d_Model_fits_103 (by omega) (Nat.le_of_ble_eq_true rfl) ⟨Nat.le_refl _, Nat.le_refl _⟩ (fun r w hw hN hS => ?_)
    obtain ⟨rfl, rfl⟩ := hw
    exact xv_retzq (pc := 106) d_Model_fits_106 rfl (xw_and _ _ _) rfl rfl ⟨_, rfl, by unfold xOkT; rfl, rfl⟩
  by_cases e6 : x = 17
  · subst e6
    refine xv_tableIn (pc := 1) (off := 106) 107 d_Model_fits_1 (by decide) (by decide) (by decide) (by decide) ?_
    refine xv_iload_n (pc := 107) d_Model_fits_107 rfl rfl ?_
    refine xv_iconst (pc := 108) 0 d_Model_fits_108 (by decide) ?_
    refine xv_bipush (pc := 109) 7 d_Model_fits_109 (by decide) ?_
    refine xv_cS3i (pc := 111) (d1 := 0) c_Model_is m_Model_is l_Model_102 d_Model_fits_111 (by omega) (Nat.le_of_ble_eq_true rfl) ⟨Nat.le_refl _, Nat.le_refl _⟩ (fun r w hw hN hS => ?_)
    obtain ⟨rfl, rfl⟩ := hw
    exact xv_retzq (pc := 114) d_Model_fits_114 rfl (xw_and _ _ _) rfl rfl ⟨_, rfl, by unfold xOkT; rfl, rfl⟩
  by_cases c2 : x = 2
  · subst c2
    refine xv_tableIn (pc := 1) (off := 114) 115 d_Model_fits_1 (by decide) (by decide) (by decide) (by decide) ?_
    refine xv_iload_n (pc := 115) d_Model_fits_115 rfl rfl ?_
    refine xv_iconst (pc := 116) 0 d_Model_fits_116 (by decide) ?_
    refine xv_bipush (pc := 117) 17 d_Model_fits_117 (by decide) ?_
    refine xv_cS3i (pc := 119) (d1 := 0) c_Model_is m_Model_is l_Model_102 d_Model_fits_119 (by omega) (Nat.le_of_ble_eq_true rfl) ⟨Nat.le_refl _, Nat.le_refl _⟩ (fun r w hw hN hS => ?_)
    obtain ⟨rfl, rfl⟩ := hw
    exact xv_retzq (pc := 122) d_Model_fits_122 rfl (xw_and _ _ _) rfl rfl ⟨_, rfl, by unfold xOkT; simp only [e1, e2, e3, e4, e5, e6, or_self, if_false], rfl⟩
  by_cases c3 : x = 3
  · subst c3
    refine xv_tableIn (pc := 1) (off := 114) 115 d_Model_fits_1 (by decide) (by decide) (by decide) (by decide) ?_
    refine xv_iload_n (pc := 115) d_Model_fits_115 rfl rfl ?_
    refine xv_iconst (pc := 116) 0 d_Model_fits_116 (by decide) ?_
    refine xv_bipush (pc := 117) 17 d_Model_fits_117 (by decide) ?_
    refine xv_cS3i (pc := 119) (d1 := 0) c_Model_is m_Model_is l_Model_102 d_Model_fits_119 (by omega) (Nat.le_of_ble_eq_true rfl) ⟨Nat.le_refl _, Nat.le_refl _⟩ (fun r w hw hN hS => ?_)
    obtain ⟨rfl, rfl⟩ := hw
    exact xv_retzq (pc := 122) d_Model_fits_122 rfl (xw_and _ _ _) rfl rfl ⟨_, rfl, by unfold xOkT; simp only [e1, e2, e3, e4, e5, e6, or_self, if_false], rfl⟩
  by_cases c4 : x = 4
  · subst c4
    refine xv_tableIn (pc := 1) (off := 114) 115 d_Model_fits_1 (by decide) (by decide) (by decide) (by decide) ?_
    refine xv_iload_n (pc := 115) d_Model_fits_115 rfl rfl ?_
    refine xv_iconst (pc := 116) 0 d_Model_fits_116 (by decide) ?_
    refine xv_bipush (pc := 117) 17 d_Model_fits_117 (by decide) ?_
    refine xv_cS3i (pc := 119) (d1 := 0) c_Model_is m_Model_is l_Model_102 d_Model_fits_119 (by omega) (Nat.le_of_ble_eq_true rfl) ⟨Nat.le_refl _, Nat.le_refl _⟩ (fun r w hw hN hS => ?_)
    obtain ⟨rfl, rfl⟩ := hw
    exact xv_retzq (pc := 122) d_Model_fits_122 rfl (xw_and _ _ _) rfl rfl ⟨_, rfl, by unfold xOkT; simp only [e1, e2, e3, e4, e5, e6, or_self, if_false], rfl⟩
  by_cases c5 : x = 5
  · subst c5
    refine xv_tableIn (pc := 1) (off := 114) 115 d_Model_fits_1 (by decide) (by decide) (by decide) (by decide) ?_
    refine xv_iload_n (pc := 115) d_Model_fits_115 rfl rfl ?_
    refine xv_iconst (pc := 116) 0 d_Model_fits_116 (by decide) ?_
    refine xv_bipush (pc := 117) 17 d_Model_fits_117 (by decide) ?_
    refine xv_cS3i (pc := 119) (d1 := 0) c_Model_is m_Model_is l_Model_102 d_Model_fits_119 (by omega) (Nat.le_of_ble_eq_true rfl) ⟨Nat.le_refl _, Nat.le_refl _⟩ (fun r w hw hN hS => ?_)
    obtain ⟨rfl, rfl⟩ := hw
    exact xv_retzq (pc := 122) d_Model_fits_122 rfl (xw_and _ _ _) rfl rfl ⟨_, rfl, by unfold xOkT; simp only [e1, e2, e3, e4, e5, e6, or_self, if_false], rfl⟩
  by_cases c6 : x = 6
  · subst c6
    refine xv_tableIn (pc := 1) (off := 114) 115 d_Model_fits_1 (by decide) (by decide) (by decide) (by decide) ?_
    refine xv_iload_n (pc := 115) d_Model_fits_115 rfl rfl ?_
    refine xv_iconst (pc := 116) 0 d_Model_fits_116 (by decide) ?_
    refine xv_bipush (pc := 117) 17 d_Model_fits_117 (by decide) ?_
    refine xv_cS3i (pc := 119) (d1 := 0) c_Model_is m_Model_is l_Model_102 d_Model_fits_119 (by omega) (Nat.le_of_ble_eq_true rfl) ⟨Nat.le_refl _, Nat.le_refl _⟩ (fun r w hw hN hS => ?_)
    obtain ⟨rfl, rfl⟩ := hw
    exact xv_retzq (pc := 122) d_Model_fits_122 rfl (xw_and _ _ _) rfl rfl ⟨_, rfl, by unfold xOkT; simp only [e1, e2, e3, e4, e5, e6, or_self, if_false], rfl⟩
  by_cases c7 : x = 7
  · subst c7
    refine xv_tableIn (pc := 1) (off := 114) 115 d_Model_fits_1 (by decide) (by decide) (by decide) (by decide) ?_
    refine xv_iload_n (pc := 115) d_Model_fits_115 rfl rfl ?_
    refine xv_iconst (pc := 116) 0 d_Model_fits_116 (by decide) ?_
    refine xv_bipush (pc := 117) 17 d_Model_fits_117 (by decide) ?_
    refine xv_cS3i (pc := 119) (d1 := 0) c_Model_is m_Model_is l_Model_102 d_Model_fits_119 (by omega) (Nat.le_of_ble_eq_true rfl) ⟨Nat.le_refl _, Nat.le_refl _⟩ (fun r w hw hN hS => ?_)
    obtain ⟨rfl, rfl⟩ := hw
    exact xv_retzq (pc := 122) d_Model_fits_122 rfl (xw_and _ _ _) rfl rfl ⟨_, rfl, by unfold xOkT; simp only [e1, e2, e3, e4, e5, e6, or_self, if_false], rfl⟩
  by_cases c8 : x = 8
  · subst c8
    refine xv_tableIn (pc := 1) (off := 114) 115 d_Model_fits_1 (by decide) (by decide) (by decide) (by decide) ?_
    refine xv_iload_n (pc := 115) d_Model_fits_115 rfl rfl ?_
    refine xv_iconst (pc := 116) 0 d_Model_fits_116 (by decide) ?_
    refine xv_bipush (pc := 117) 17 d_Model_fits_117 (by decide) ?_
    refine xv_cS3i (pc := 119) (d1 := 0) c_Model_is m_Model_is l_Model_102 d_Model_fits_119 (by omega) (Nat.le_of_ble_eq_true rfl) ⟨Nat.le_refl _, Nat.le_refl _⟩ (fun r w hw hN hS => ?_)
    obtain ⟨rfl, rfl⟩ := hw
    exact xv_retzq (pc := 122) d_Model_fits_122 rfl (xw_and _ _ _) rfl rfl ⟨_, rfl, by unfold xOkT; simp only [e1, e2, e3, e4, e5, e6, or_self, if_false], rfl⟩
  by_cases c9 : x = 9
  · subst c9
    refine xv_tableIn (pc := 1) (off := 114) 115 d_Model_fits_1 (by decide) (by decide) (by decide) (by decide) ?_
    refine xv_iload_n (pc := 115) d_Model_fits_115 rfl rfl ?_
    refine xv_iconst (pc := 116) 0 d_Model_fits_116 (by decide) ?_
    refine xv_bipush (pc := 117) 17 d_Model_fits_117 (by decide) ?_
    refine xv_cS3i (pc := 119) (d1 := 0) c_Model_is m_Model_is l_Model_102 d_Model_fits_119 (by omega) (Nat.le_of_ble_eq_true rfl) ⟨Nat.le_refl _, Nat.le_refl _⟩ (fun r w hw hN hS => ?_)
    obtain ⟨rfl, rfl⟩ := hw
    exact xv_retzq (pc := 122) d_Model_fits_122 rfl (xw_and _ _ _) rfl rfl ⟨_, rfl, by unfold xOkT; simp only [e1, e2, e3, e4, e5, e6, or_self, if_false], rfl⟩
  by_cases c10 : x = 10
  · subst c10
    refine xv_tableIn (pc := 1) (off := 114) 115 d_Model_fits_1 (by decide) (by decide) (by decide) (by decide) ?_
    refine xv_iload_n (pc := 115) d_Model_fits_115 rfl rfl ?_
    refine xv_iconst (pc := 116) 0 d_Model_fits_116 (by decide) ?_
    refine xv_bipush (pc := 117) 17 d_Model_fits_117 (by decide) ?_
    refine xv_cS3i (pc := 119) (d1 := 0) c_Model_is m_Model_is l_Model_102 d_Model_fits_119 (by omega) (Nat.le_of_ble_eq_true rfl) ⟨Nat.le_refl _, Nat.le_refl _⟩ (fun r w hw hN hS => ?_)
    obtain ⟨rfl, rfl⟩ := hw
    exact xv_retzq (pc := 122) d_Model_fits_122 rfl (xw_and _ _ _) rfl rfl ⟨_, rfl, by unfold xOkT; simp only [e1, e2, e3, e4, e5, e6, or_self, if_false], rfl⟩
  by_cases c11 : x = 11
  · subst c11
    refine xv_tableIn (pc := 1) (off := 114) 115 d_Model_fits_1 (by decide) (by decide) (by decide) (by decide) ?_
    refine xv_iload_n (pc := 115) d_Model_fits_115 rfl rfl ?_
    refine xv_iconst (pc := 116) 0 d_Model_fits_116 (by decide) ?_
    refine xv_bipush (pc := 117) 17 d_Model_fits_117 (by decide) ?_
    refine xv_cS3i (pc := 119) (d1 := 0) c_Model_is m_Model_is l_Model_102 d_Model_fits_119 (by omega) (Nat.le_of_ble_eq_true rfl) ⟨Nat.le_refl _, Nat.le_refl _⟩ (fun r w hw hN hS => ?_)
    obtain ⟨rfl, rfl⟩ := hw
    exact xv_retzq (pc := 122) d_Model_fits_122 rfl (xw_and _ _ _) rfl rfl ⟨_, rfl, by unfold xOkT; simp only [e1, e2, e3, e4, e5, e6, or_self, if_false], rfl⟩
  by_cases c12 : x = 12
  · subst c12
    refine xv_tableIn (pc := 1) (off := 114) 115 d_Model_fits_1 (by decide) (by decide) (by decide) (by decide) ?_
    refine xv_iload_n (pc := 115) d_Model_fits_115 rfl rfl ?_
    refine xv_iconst (pc := 116) 0 d_Model_fits_116 (by decide) ?_
    refine xv_bipush (pc := 117) 17 d_Model_fits_117 (by decide) ?_
    refine xv_cS3i (pc := 119) (d1 := 0) c_Model_is m_Model_is l_Model_102 d_Model_fits_119 (by omega) (Nat.le_of_ble_eq_true rfl) ⟨Nat.le_refl _, Nat.le_refl _⟩ (fun r w hw hN hS => ?_)
    obtain ⟨rfl, rfl⟩ := hw
    exact xv_retzq (pc := 122) d_Model_fits_122 rfl (xw_and _ _ _) rfl rfl ⟨_, rfl, by unfold xOkT; simp only [e1, e2, e3, e4, e5, e6, or_self, if_false], rfl⟩
  refine xv_tableTo (pc := 1) 115 [1, 2, 3, 4, 5, 6, 7, 8, 9, 10, 11, 12, 13, 14, 15, 16, 17] d_Model_fits_1 (by decide) (by decide) (by decide) (List.forall_mem_cons.mpr ⟨lv_neT e1 (by decide), (List.forall_mem_cons.mpr ⟨lv_neT c2 (by decide), (List.forall_mem_cons.mpr ⟨lv_neT c3 (by decide), (List.forall_mem_cons.mpr ⟨lv_neT c4 (by decide), (List.forall_mem_cons.mpr ⟨lv_neT c5 (by decide), (List.forall_mem_cons.mpr ⟨lv_neT c6 (by decide), (List.forall_mem_cons.mpr ⟨lv_neT c7 (by decide), (List.forall_mem_cons.mpr ⟨lv_neT c8 (by decide), (List.forall_mem_cons.mpr ⟨lv_neT c9 (by decide), (List.forall_mem_cons.mpr ⟨lv_neT c10 (by decide), (List.forall_mem_cons.mpr ⟨lv_neT c11 (by decide), (List.forall_mem_cons.mpr ⟨lv_neT c12 (by decide), (List.forall_mem_cons.mpr ⟨lv_neT e3 (by decide), (List.forall_mem_cons.mpr ⟨lv_neT e4 (by decide), (List.forall_mem_cons.mpr ⟨lv_neT e2 (by decide), (List.forall_mem_cons.mpr ⟨lv_neT e5 (by decide), (List.forall_mem_cons.mpr ⟨lv_neT e6 (by decide), (fun _ h => absurd h List.not_mem_nil)⟩)⟩)⟩)⟩)⟩)⟩)⟩)⟩)⟩)⟩)⟩)⟩)⟩)⟩)⟩)⟩)⟩) ?_
  refine xv_iload_n (pc := 115) d_Model_fits_115 rfl rfl ?_
  refine xv_iconst (pc := 116) 0 d_Model_fits_116 (by decide) ?_
  refine xv_bipush (pc := 117) 17 d_Model_fits_117 (by decide) ?_
  refine xv_cS3i (pc := 119) (d1 := 0) c_Model_is m_Model_is l_Model_102 d_Model_fits_119 (by omega) (Nat.le_of_ble_eq_true rfl) ⟨Nat.le_refl _, Nat.le_refl _⟩ (fun r w hw hN hS => ?_)
  obtain ⟨rfl, rfl⟩ := hw
  exact xv_retzq (pc := 122) d_Model_fits_122 rfl (xw_and _ _ _) rfl rfl ⟨_, rfl, by unfold xOkT; simp only [e1, e2, e3, e4, e5, e6, or_self, if_false], rfl⟩
theorem c_Model_parts {sc : Nat × (Nat → Int32)} {u : xv_M} {o : Nat} (ho : o < 18) : xv_C sc 0 J_Model_parts [.int (nI o)] u (xv_N u) (xv_S u) (xv_pi (fun r w => r = nI (xPa o) ∧ w = u)) := by
  have t2 : ((2 : Int32) ≤ nI o) ↔ 2 ≤ o := nI_leI (a := 2) (by decide) (by omega)
  have t12 : (nI o < 12) ↔ o < 12 := nI_ltI (b := 12) (by omega) (by decide)
  have q12 : (nI o = 12) ↔ o = 12 := nI_eq (b := 12) (by omega) (by decide)
  have q14 : (nI o = 14) ↔ o = 14 := nI_eq (b := 14) (by omega) (by decide)
  have q15 : (nI o = 15) ↔ o = 15 := nI_eq (b := 15) (by omega) (by decide)
  have q16 : (nI o = 16) ↔ o = 16 := nI_eq (b := 16) (by omega) (by decide)
  refine xv_C_of (by decide) (Nat.le_refl _) (Nat.le_refl _) (xv_cat1 rfl) (Nat.le_of_ble_eq_true rfl) ?_
  show xv_X sc 0 J_Model_parts 0 [some (.int (nI o))] [] u (xv_N u) (xv_S u) _
  have fin : ∀ r : Int32, r = nI (xPa o) → xv_X sc 0 J_Model_parts 48 [some (.int (nI o))] [.int r] u (xv_N u) (xv_S u) (xv_q (xv_N u) (xv_S u) (xv_pi (fun r w => r = nI (xPa o) ∧ w = u))) := by
    intro r hr
    exact xv_retiq (pc := 48) d_Model_parts_48 rfl rfl rfl ⟨_, rfl, hr, rfl⟩
  have f2 : xPa o = 2 → xv_X sc 0 J_Model_parts 27 [some (.int (nI o))] [] u (xv_N u) (xv_S u) (xv_q (xv_N u) (xv_S u) (xv_pi (fun r w => r = nI (xPa o) ∧ w = u))) := by
    intro hr
    refine xv_iconst (pc := 27) 2 d_Model_parts_27 (by decide) ?_
    refine xv_goto (pc := 28) 48 d_Model_parts_28 (by decide) ?_
    exact fin _ (by rw [hr]; rfl)
  have f1 : xPa o = 1 → xv_X sc 0 J_Model_parts 43 [some (.int (nI o))] [] u (xv_N u) (xv_S u) (xv_q (xv_N u) (xv_S u) (xv_pi (fun r w => r = nI (xPa o) ∧ w = u))) := by
    intro hr
    refine xv_iconst (pc := 43) 1 d_Model_parts_43 (by decide) ?_
    refine xv_goto (pc := 44) 48 d_Model_parts_44 (by decide) ?_
    exact fin _ (by rw [hr]; rfl)
  refine xv_iload_n (pc := 0) d_Model_parts_0 rfl rfl ?_
  refine xv_iconst (pc := 1) 2 d_Model_parts_1 (by decide) ?_
  refine xv_icmp_ge (pc := 2) 9 d_Model_parts_2 (by decide) (fun h2 => ?_) (fun h2 => ?_)
  · rw [t2] at h2
    refine xv_iload_n (pc := 9) d_Model_parts_9 rfl rfl ?_
    refine xv_bipush (pc := 10) 12 d_Model_parts_10 (by decide) ?_
    refine xv_icmp_lt (pc := 12) 27 d_Model_parts_12 (by decide) (fun h12 => ?_) (fun h12 => ?_)
    · rw [t12] at h12
      have key : ∀ o, o < 18 → 2 ≤ o → o < 12 → xPa o = 2 := by decide +kernel
      exact f2 (key o ho h2 h12)
    · rw [t12] at h12
      refine xv_iload_n (pc := 15) d_Model_parts_15 rfl rfl ?_
      refine xv_bipush (pc := 16) 14 d_Model_parts_16 (by decide) ?_
      refine xv_icmp_eq (pc := 18) 27 d_Model_parts_18 (by decide) (fun h18 => ?_) (fun h18 => ?_)
      · rw [q14] at h18
        exact f2 (by rw [h18]; rfl)
      · rw [q14] at h18
        refine xv_iload_n (pc := 21) d_Model_parts_21 rfl rfl ?_
        refine xv_bipush (pc := 22) 16 d_Model_parts_22 (by decide) ?_
        refine xv_icmp_ne (pc := 24) 31 d_Model_parts_24 (by decide) (fun h24 => ?_) (fun h24 => ?_)
        · rw [q16] at h24
          refine xv_iload_n (pc := 31) d_Model_parts_31 rfl rfl ?_
          refine xv_bipush (pc := 32) 12 d_Model_parts_32 (by decide) ?_
          refine xv_icmp_eq (pc := 34) 43 d_Model_parts_34 (by decide) (fun h34 => ?_) (fun h34 => ?_)
          · rw [q12] at h34
            exact f1 (by rw [h34]; rfl)
          · rw [q12] at h34
            refine xv_iload_n (pc := 37) d_Model_parts_37 rfl rfl ?_
            refine xv_bipush (pc := 38) 15 d_Model_parts_38 (by decide) ?_
            refine xv_icmp_ne (pc := 40) 47 d_Model_parts_40 (by decide) (fun h40 => ?_) (fun h40 => ?_)
            · rw [q15] at h40
              refine xv_iconst (pc := 47) 3 d_Model_parts_47 (by decide) ?_
              have key : ∀ o, o < 18 → (¬ o < 12 ∧ ¬ o = 14 ∧ ¬ o = 16 ∧ ¬ o = 12 ∧ ¬ o = 15) → xPa o = 3 := by decide +kernel
              exact fin _ (by rw [key o ho ⟨h12, h18, h24, h34, h40⟩]; rfl)
            · rw [q15] at h40
              exact f1 (by rw [h40]; rfl)
        · rw [q16] at h24
          exact f2 (by rw [h24]; rfl)
  · rw [t2] at h2
    refine xv_iconst (pc := 5) 0 d_Model_parts_5 (by decide) ?_
    refine xv_goto (pc := 6) 48 d_Model_parts_6 (by decide) ?_
    have key : ∀ o, o < 2 → xPa o = 0 := by decide
    exact fin _ (by rw [key o (by omega)]; rfl)
theorem c_Model_takes {sc : Nat × (Nat → Int32)} {u : xv_M} {o : Nat} (ho : o < 22) : xv_C sc 0 J_Model_takes [.int (nI o)] u (xv_N u) (xv_S u) (xv_pi (fun r w => r = nI (xTa o) ∧ w = u)) := by
  have t2 : (nI o < 2) ↔ o < 2 := nI_ltI (b := 2) (by omega) (by decide)
  have t12 : (nI o < 12) ↔ o < 12 := nI_ltI (b := 12) (by omega) (by decide)
  have q15 : (nI o = 15) ↔ o = 15 := nI_eq (b := 15) (by omega) (by decide)
  have q21 : (nI o = 21) ↔ o = 21 := nI_eq (b := 21) (by omega) (by decide)
  have q20 : (nI o = 20) ↔ o = 20 := nI_eq (b := 20) (by omega) (by decide)
  have q16 : (nI o = 16) ↔ o = 16 := nI_eq (b := 16) (by omega) (by decide)
  refine xv_C_of (by decide) (Nat.le_refl _) (Nat.le_refl _) (xv_cat1 rfl) (Nat.le_of_ble_eq_true rfl) ?_
  show xv_X sc 0 J_Model_takes 0 [some (.int (nI o))] [] u (xv_N u) (xv_S u) _
  have fin : ∀ r : Int32, r = nI (xTa o) → xv_X sc 0 J_Model_takes 48 [some (.int (nI o))] [.int r] u (xv_N u) (xv_S u) (xv_q (xv_N u) (xv_S u) (xv_pi (fun r w => r = nI (xTa o) ∧ w = u))) := by
    intro r hr
    exact xv_retiq (pc := 48) d_Model_takes_48 rfl rfl rfl ⟨_, rfl, hr, rfl⟩
  have f0 : xTa o = 0 → xv_X sc 0 J_Model_takes 17 [some (.int (nI o))] [] u (xv_N u) (xv_S u) (xv_q (xv_N u) (xv_S u) (xv_pi (fun r w => r = nI (xTa o) ∧ w = u))) := by
    intro hr
    refine xv_iconst (pc := 17) 0 d_Model_takes_17 (by decide) ?_
    refine xv_goto (pc := 18) 48 d_Model_takes_18 (by decide) ?_
    exact fin _ (by rw [hr]; rfl)
  have f2 : xTa o = 2 → xv_X sc 0 J_Model_takes 33 [some (.int (nI o))] [] u (xv_N u) (xv_S u) (xv_q (xv_N u) (xv_S u) (xv_pi (fun r w => r = nI (xTa o) ∧ w = u))) := by
    intro hr
    refine xv_iconst (pc := 33) 2 d_Model_takes_33 (by decide) ?_
    refine xv_goto (pc := 34) 48 d_Model_takes_34 (by decide) ?_
    exact fin _ (by rw [hr]; rfl)
  refine xv_iload_n (pc := 0) d_Model_takes_0 rfl rfl ?_
  refine xv_iconst (pc := 1) 2 d_Model_takes_1 (by decide) ?_
  refine xv_icmp_lt (pc := 2) 17 d_Model_takes_2 (by decide) (fun h2 => ?_) (fun h2 => ?_)
  · rw [t2] at h2
    have key : ∀ o, o < 2 → xTa o = 0 := by decide
    exact f0 (key o h2)
  · rw [t2] at h2
    refine xv_iload_n (pc := 5) d_Model_takes_5 rfl rfl ?_
    refine xv_bipush (pc := 6) 15 d_Model_takes_6 (by decide) ?_
    refine xv_icmp_eq (pc := 8) 17 d_Model_takes_8 (by decide) (fun h8 => ?_) (fun h8 => ?_)
    · rw [q15] at h8
      exact f0 (by rw [h8]; rfl)
    · rw [q15] at h8
      refine xv_iload_n (pc := 11) d_Model_takes_11 rfl rfl ?_
      refine xv_bipush (pc := 12) 21 d_Model_takes_12 (by decide) ?_
      refine xv_icmp_ne (pc := 14) 21 d_Model_takes_14 (by decide) (fun h14 => ?_) (fun h14 => ?_)
      · rw [q21] at h14
        refine xv_iload_n (pc := 21) d_Model_takes_21 rfl rfl ?_
        refine xv_bipush (pc := 22) 12 d_Model_takes_22 (by decide) ?_
        refine xv_icmp_lt (pc := 24) 33 d_Model_takes_24 (by decide) (fun h24 => ?_) (fun h24 => ?_)
        · rw [t12] at h24
          have key : ∀ o, o < 22 → ¬ o < 2 → o < 12 → xTa o = 2 := by decide +kernel
          exact f2 (key o ho h2 h24)
        · rw [t12] at h24
          refine xv_iload_n (pc := 27) d_Model_takes_27 rfl rfl ?_
          refine xv_bipush (pc := 28) 20 d_Model_takes_28 (by decide) ?_
          refine xv_icmp_ne (pc := 30) 37 d_Model_takes_30 (by decide) (fun h30 => ?_) (fun h30 => ?_)
          · rw [q20] at h30
            refine xv_iload_n (pc := 37) d_Model_takes_37 rfl rfl ?_
            refine xv_bipush (pc := 38) 16 d_Model_takes_38 (by decide) ?_
            refine xv_icmp_ne (pc := 40) 47 d_Model_takes_40 (by decide) (fun h40 => ?_) (fun h40 => ?_)
            · rw [q16] at h40
              refine xv_iconst (pc := 47) 1 d_Model_takes_47 (by decide) ?_
              have key : ∀ o, o < 22 → (¬ o < 2 ∧ ¬ o = 15 ∧ ¬ o = 21 ∧ ¬ o < 12 ∧ ¬ o = 20 ∧ ¬ o = 16) → xTa o = 1 := by decide +kernel
              exact fin _ (by rw [key o ho ⟨h2, h8, h14, h24, h30, h40⟩]; rfl)
            · rw [q16] at h40
              refine xv_iconst (pc := 43) 3 d_Model_takes_43 (by decide) ?_
              refine xv_goto (pc := 44) 48 d_Model_takes_44 (by decide) ?_
              exact fin _ (by rw [h40]; rfl)
          · rw [q20] at h30
            exact f2 (by rw [h30]; rfl)
      · rw [q21] at h14
        exact f0 (by rw [h14]; rfl)
theorem c_Model_puts {sc : Nat × (Nat → Int32)} {u : xv_M} {o : Nat} (ho : o < 22) : xv_C sc 0 J_Model_puts [.int (nI o)] u (xv_N u) (xv_S u) (xv_pi (fun r w => r = nI (xLe o) ∧ w = u)) := by
  have t13 : (nI o < 13) ↔ o < 13 := nI_ltI (b := 13) (by omega) (by decide)
  have q16 : (nI o = 16) ↔ o = 16 := nI_eq (b := 16) (by omega) (by decide)
  have q19 : (nI o = 19) ↔ o = 19 := nI_eq (b := 19) (by omega) (by decide)
  have q20 : (nI o = 20) ↔ o = 20 := nI_eq (b := 20) (by omega) (by decide)
  refine xv_C_of (by decide) (Nat.le_refl _) (Nat.le_refl _) (xv_cat1 rfl) (Nat.le_of_ble_eq_true rfl) ?_
  show xv_X sc 0 J_Model_puts 0 [some (.int (nI o))] [] u (xv_N u) (xv_S u) _
  have fin : ∀ r : Int32, r = nI (xLe o) → xv_X sc 0 J_Model_puts 33 [some (.int (nI o))] [.int r] u (xv_N u) (xv_S u) (xv_q (xv_N u) (xv_S u) (xv_pi (fun r w => r = nI (xLe o) ∧ w = u))) := by
    intro r hr
    exact xv_retiq (pc := 33) d_Model_puts_33 rfl rfl rfl ⟨_, rfl, hr, rfl⟩
  have f1 : xLe o = 1 → xv_X sc 0 J_Model_puts 12 [some (.int (nI o))] [] u (xv_N u) (xv_S u) (xv_q (xv_N u) (xv_S u) (xv_pi (fun r w => r = nI (xLe o) ∧ w = u))) := by
    intro hr
    refine xv_iconst (pc := 12) 1 d_Model_puts_12 (by decide) ?_
    refine xv_goto (pc := 13) 33 d_Model_puts_13 (by decide) ?_
    exact fin _ (by rw [hr]; rfl)
  have f2 : xLe o = 2 → xv_X sc 0 J_Model_puts 28 [some (.int (nI o))] [] u (xv_N u) (xv_S u) (xv_q (xv_N u) (xv_S u) (xv_pi (fun r w => r = nI (xLe o) ∧ w = u))) := by
    intro hr
    refine xv_iconst (pc := 28) 2 d_Model_puts_28 (by decide) ?_
    refine xv_goto (pc := 29) 33 d_Model_puts_29 (by decide) ?_
    exact fin _ (by rw [hr]; rfl)
  refine xv_iload_n (pc := 0) d_Model_puts_0 rfl rfl ?_
  refine xv_bipush (pc := 1) 13 d_Model_puts_1 (by decide) ?_
  refine xv_icmp_lt (pc := 3) 12 d_Model_puts_3 (by decide) (fun h3 => ?_) (fun h3 => ?_)
  · rw [t13] at h3
    have key : ∀ o, o < 13 → xLe o = 1 := by decide
    exact f1 (key o h3)
  · rw [t13] at h3
    refine xv_iload_n (pc := 6) d_Model_puts_6 rfl rfl ?_
    refine xv_bipush (pc := 7) 16 d_Model_puts_7 (by decide) ?_
    refine xv_icmp_ne (pc := 9) 16 d_Model_puts_9 (by decide) (fun h9 => ?_) (fun h9 => ?_)
    · rw [q16] at h9
      refine xv_iload_n (pc := 16) d_Model_puts_16 rfl rfl ?_
      refine xv_bipush (pc := 17) 19 d_Model_puts_17 (by decide) ?_
      refine xv_icmp_eq (pc := 19) 28 d_Model_puts_19 (by decide) (fun h19 => ?_) (fun h19 => ?_)
      · rw [q19] at h19
        exact f2 (by rw [h19]; rfl)
      · rw [q19] at h19
        refine xv_iload_n (pc := 22) d_Model_puts_22 rfl rfl ?_
        refine xv_bipush (pc := 23) 20 d_Model_puts_23 (by decide) ?_
        refine xv_icmp_ne (pc := 25) 32 d_Model_puts_25 (by decide) (fun h25 => ?_) (fun h25 => ?_)
        · rw [q20] at h25
          refine xv_iconst (pc := 32) 0 d_Model_puts_32 (by decide) ?_
          have key : ∀ o, o < 22 → (¬ o < 13 ∧ ¬ o = 16 ∧ ¬ o = 19 ∧ ¬ o = 20) → xLe o = 0 := by decide +kernel
          exact fin _ (by rw [key o ho ⟨h3, h9, h19, h25⟩]; rfl)
        · rw [q20] at h25
          exact f2 (by rw [h25]; rfl)
    · rw [q16] at h9
      exact f1 (by rw [h9]; rfl)
theorem c_Model_isForged {sc : Nat × (Nat → Int32)} {u : xv_M} {x : Int32} : xv_C sc 1 J_Model_isForged [.int x] u (xv_N u) (xv_S u) (xv_pi (fun r w => r = xB (xFg x) ∧ w = u)) := by
  refine xv_C_of (by decide) (Nat.le_refl _) (Nat.le_refl _) (xv_cat1 rfl) (Nat.le_of_ble_eq_true rfl) ?_
  show xv_X sc 1 J_Model_isForged 0 [some (.int x)] [] u (xv_N u) (xv_S u) _
  refine xv_iload_n (pc := 0) d_Model_isForged_0 rfl rfl ?_
  refine xv_iconst (pc := 1) 2 d_Model_isForged_1 (by decide) ?_
  refine xv_bipush (pc := 2) 12 d_Model_isForged_2 (by decide) ?_
  refine xv_cS3i (pc := 4) (d1 := 0) c_Model_is m_Model_is l_Model_102 d_Model_isForged_4 (by omega) (Nat.le_of_ble_eq_true rfl) ⟨Nat.le_refl _, Nat.le_refl _⟩ (fun r w hw hN hS => ?_)
  obtain ⟨rfl, hw⟩ := hw
  subst w
  refine xv_if_ne (pc := 7) 21 d_Model_isForged_7 (by decide) (fun h7 => ?_) (fun h7 => ?_)
  · have e := xw_ne h7
    refine xv_iconst (pc := 21) 1 d_Model_isForged_21 (by decide) ?_
    refine xv_goto (pc := 22) 26 d_Model_isForged_22 (by decide) ?_
    exact xv_retzq (pc := 26) d_Model_isForged_26 rfl (by decide) rfl rfl ⟨_, rfl, by unfold xFg; rw [decide_eq_true e]; rfl, rfl⟩
  · have e := xw_eq h7
    refine xv_iload_n (pc := 10) d_Model_isForged_10 rfl rfl ?_
    refine xv_bipush (pc := 11) 17 d_Model_isForged_11 (by decide) ?_
    refine xv_bipush (pc := 13) 21 d_Model_isForged_13 (by decide) ?_
    refine xv_cS3i (pc := 15) (d1 := 0) c_Model_is m_Model_is l_Model_102 d_Model_isForged_15 (by omega) (Nat.le_of_ble_eq_true rfl) ⟨Nat.le_refl _, Nat.le_refl _⟩ (fun r w hw hN hS => ?_)
    obtain ⟨rfl, hw⟩ := hw
    subst w
    refine xv_if_eq (pc := 18) 25 d_Model_isForged_18 (by decide) (fun h18 => ?_) (fun h18 => ?_)
    · have e2 := xw_eq h18
      refine xv_iconst (pc := 25) 0 d_Model_isForged_25 (by decide) ?_
      exact xv_retzq (pc := 26) d_Model_isForged_26 rfl (by decide) rfl rfl ⟨_, rfl, by unfold xFg; rw [decide_eq_false e, decide_eq_false e2]; rfl, rfl⟩
    · have e2 := xw_ne h18
      refine xv_iconst (pc := 21) 1 d_Model_isForged_21 (by decide) ?_
      refine xv_goto (pc := 22) 26 d_Model_isForged_22 (by decide) ?_
      exact xv_retzq (pc := 26) d_Model_isForged_26 rfl (by decide) rfl rfl ⟨_, rfl, by unfold xFg; rw [decide_eq_true e2, Bool.or_true]; rfl, rfl⟩
theorem c_Model_compute {sc : Nat × (Nat → Int32)} {u : xv_M} {o : Nat} {x y : Int32} (ho : 2 ≤ o) (ho' : o < 12) (hy : (o = 5 ∨ o = 6) → ¬ y = 0) : xv_C sc 0 J_Model_compute [.int (nI o), .int x, .int y] u (xv_N u) (xv_S u) (xv_pi (fun r w => r = xOp o x y ∧ w = u)) := by
  have e31 : y &&& 31 &&& 31 = y &&& 31 := by rw [Int32.and_assoc]; rfl
  refine xv_C_of (by decide) (Nat.le_refl _) (Nat.le_refl _) (xv_cat1 rfl) (Nat.le_of_ble_eq_true rfl) ?_
  show xv_X sc 0 J_Model_compute 0 [some (.int (nI o)), some (.int x), some (.int y)] [] u (xv_N u) (xv_S u) _
  refine xv_iload_n (pc := 0) d_Model_compute_0 rfl rfl ?_
  rcases (by omega : o = 2 ∨ o = 3 ∨ o = 4 ∨ o = 5 ∨ o = 6 ∨ o = 7 ∨ o = 8 ∨ o = 9 ∨ o = 10 ∨ o = 11) with rfl | rfl | rfl | rfl | rfl | rfl | rfl | rfl | rfl | rfl
  · skip
    refine xv_tableIn (pc := 1) (off := 51) 52 d_Model_compute_1 (by decide) (by decide) (by decide) (by decide) ?_
    refine xv_iload_n (pc := 52) d_Model_compute_52 rfl rfl ?_
    refine xv_iload_n (pc := 53) d_Model_compute_53 rfl rfl ?_
    refine xv_iadd (pc := 54) d_Model_compute_54 ?_
    exact xv_retiq (pc := 55) d_Model_compute_55 rfl rfl rfl ⟨_, rfl, rfl, rfl⟩
  · skip
    refine xv_tableIn (pc := 1) (off := 55) 56 d_Model_compute_1 (by decide) (by decide) (by decide) (by decide) ?_
    refine xv_iload_n (pc := 56) d_Model_compute_56 rfl rfl ?_
    refine xv_iload_n (pc := 57) d_Model_compute_57 rfl rfl ?_
    refine xv_isub (pc := 58) d_Model_compute_58 ?_
    exact xv_retiq (pc := 59) d_Model_compute_59 rfl rfl rfl ⟨_, rfl, rfl, rfl⟩
  · skip
    refine xv_tableIn (pc := 1) (off := 59) 60 d_Model_compute_1 (by decide) (by decide) (by decide) (by decide) ?_
    refine xv_iload_n (pc := 60) d_Model_compute_60 rfl rfl ?_
    refine xv_iload_n (pc := 61) d_Model_compute_61 rfl rfl ?_
    refine xv_imul (pc := 62) d_Model_compute_62 ?_
    exact xv_retiq (pc := 63) d_Model_compute_63 rfl rfl rfl ⟨_, rfl, rfl, rfl⟩
  · skip
    refine xv_tableIn (pc := 1) (off := 63) 64 d_Model_compute_1 (by decide) (by decide) (by decide) (by decide) ?_
    refine xv_iload_n (pc := 64) d_Model_compute_64 rfl rfl ?_
    refine xv_iload_n (pc := 65) d_Model_compute_65 rfl rfl ?_
    refine xv_idiv (pc := 66) d_Model_compute_66 (hy (Or.inl rfl)) ?_
    exact xv_retiq (pc := 67) d_Model_compute_67 rfl rfl rfl ⟨_, rfl, rfl, rfl⟩
  · skip
    refine xv_tableIn (pc := 1) (off := 67) 68 d_Model_compute_1 (by decide) (by decide) (by decide) (by decide) ?_
    refine xv_iload_n (pc := 68) d_Model_compute_68 rfl rfl ?_
    refine xv_iload_n (pc := 69) d_Model_compute_69 rfl rfl ?_
    refine xv_irem (pc := 70) d_Model_compute_70 (hy (Or.inr rfl)) ?_
    exact xv_retiq (pc := 71) d_Model_compute_71 rfl rfl rfl ⟨_, rfl, rfl, rfl⟩
  · skip
    refine xv_tableIn (pc := 1) (off := 71) 72 d_Model_compute_1 (by decide) (by decide) (by decide) (by decide) ?_
    refine xv_iload_n (pc := 72) d_Model_compute_72 rfl rfl ?_
    refine xv_iload_n (pc := 73) d_Model_compute_73 rfl rfl ?_
    refine xv_iand (pc := 74) d_Model_compute_74 ?_
    exact xv_retiq (pc := 75) d_Model_compute_75 rfl rfl rfl ⟨_, rfl, rfl, rfl⟩
  · skip
    refine xv_tableIn (pc := 1) (off := 75) 76 d_Model_compute_1 (by decide) (by decide) (by decide) (by decide) ?_
    refine xv_iload_n (pc := 76) d_Model_compute_76 rfl rfl ?_
    refine xv_iload_n (pc := 77) d_Model_compute_77 rfl rfl ?_
    refine xv_ior (pc := 78) d_Model_compute_78 ?_
    exact xv_retiq (pc := 79) d_Model_compute_79 rfl rfl rfl ⟨_, rfl, rfl, rfl⟩
  · skip
    refine xv_tableIn (pc := 1) (off := 79) 80 d_Model_compute_1 (by decide) (by decide) (by decide) (by decide) ?_
    refine xv_iload_n (pc := 80) d_Model_compute_80 rfl rfl ?_
    refine xv_iload_n (pc := 81) d_Model_compute_81 rfl rfl ?_
    refine xv_ixor (pc := 82) d_Model_compute_82 ?_
    exact xv_retiq (pc := 83) d_Model_compute_83 rfl rfl rfl ⟨_, rfl, rfl, rfl⟩
  · skip
    refine xv_tableIn (pc := 1) (off := 83) 84 d_Model_compute_1 (by decide) (by decide) (by decide) (by decide) ?_
    refine xv_iload_n (pc := 84) d_Model_compute_84 rfl rfl ?_
    refine xv_iload_n (pc := 85) d_Model_compute_85 rfl rfl ?_
    refine xv_ishl (pc := 86) d_Model_compute_86 ?_
    exact xv_retiq (pc := 87) d_Model_compute_87 rfl rfl rfl ⟨_, rfl, by show x <<< (y &&& 31) = x <<< (y &&& 31 &&& 31); rw [e31], rfl⟩
  · skip
    refine xv_tableOut (pc := 1) 88 d_Model_compute_1 (by decide) (by decide) ?_
    refine xv_iload_n (pc := 88) d_Model_compute_88 rfl rfl ?_
    refine xv_iload_n (pc := 89) d_Model_compute_89 rfl rfl ?_
    refine xv_ishr (pc := 90) d_Model_compute_90 ?_
    exact xv_retiq (pc := 91) d_Model_compute_91 rfl rfl rfl ⟨_, rfl, by show x >>> (y &&& 31) = x >>> (y &&& 31 &&& 31); rw [e31], rfl⟩
theorem xSo_0 {x : Int32} : xSo (nI 0) x = decide (x = 0) := rfl
theorem xSo_1 {x : Int32} : xSo (nI 1) x = !decide (x = 0) := rfl
theorem xSo_2 {x : Int32} : xSo (nI 2) x = decide (x < 0) := rfl
theorem xSo_3 {x : Int32} : xSo (nI 3) x = !decide (x < 0) := rfl
theorem xSo_4 {x : Int32} : xSo (nI 4) x = decide (0 < x) := rfl
theorem xSo_5 {x : Int32} : xSo (nI 5) x = !decide (0 < x) := rfl
theorem c_Model_isSo {sc : Nat × (Nat → Int32)} {u : xv_M} {t : Nat} {x : Int32} (ht : t < 6) : xv_C sc 0 J_Model_isSo [.int (nI t), .int x] u (xv_N u) (xv_S u) (xv_pi (fun r w => r = xB (xSo (nI t) x) ∧ w = u)) := by
  refine xv_C_of (by decide) (Nat.le_refl _) (Nat.le_refl _) (xv_cat1 rfl) (Nat.le_of_ble_eq_true rfl) ?_
  show xv_X sc 0 J_Model_isSo 0 [some (.int (nI t)), some (.int x), none] [] u (xv_N u) (xv_S u) _
  have fin : ∀ b : Bool, (decide (t % 2 = 0) == b) = xSo (nI t) x → xv_X sc 0 J_Model_isSo 44 [some (.int (nI t)), some (.int x), some (.int (xB b))] [] u (xv_N u) (xv_S u) (xv_q (xv_N u) (xv_S u) (xv_pi (fun r w => r = xB (xSo (nI t) x) ∧ w = u))) := by
    intro b hb
    refine xv_iload_n (pc := 44) d_Model_isSo_44 rfl rfl ?_
    refine xv_iload_n (pc := 45) d_Model_isSo_45 rfl rfl ?_
    refine xv_iconst (pc := 46) 2 d_Model_isSo_46 (by decide) ?_
    refine xv_irem (pc := 47) d_Model_isSo_47 (by decide) ?_
    refine xv_if_ne (pc := 48) 55 d_Model_isSo_48 (by decide) (fun h48 => ?_) (fun h48 => ?_)
    · have e : ¬ t % 2 = 0 := by
        rcases (by omega : t = 0 ∨ t = 1 ∨ t = 2 ∨ t = 3 ∨ t = 4 ∨ t = 5) with rfl | rfl | rfl | rfl | rfl | rfl <;> first | decide | exact absurd h48 (by decide)
      rw [decide_eq_false e] at hb
      cases b with
      | true =>
        refine xv_iconst (pc := 55) 0 d_Model_isSo_55 (by decide) ?_
        refine xv_icmp_ne (pc := 56) 63 d_Model_isSo_56 (by decide) (fun h56 => ?_) (fun h56 => ?_)
        case refine_2 => exact absurd h56 (by decide)
        refine xv_iconst (pc := 63) 0 d_Model_isSo_63 (by decide) ?_
        exact xv_retzq (pc := 64) d_Model_isSo_64 rfl (by decide) rfl rfl ⟨_, rfl, by rw [← hb]; rfl, rfl⟩
      | false =>
        refine xv_iconst (pc := 55) 0 d_Model_isSo_55 (by decide) ?_
        refine xv_icmp_ne (pc := 56) 63 d_Model_isSo_56 (by decide) (fun h56 => ?_) (fun h56 => ?_)
        · exact absurd rfl h56
        refine xv_iconst (pc := 59) 1 d_Model_isSo_59 (by decide) ?_
        refine xv_goto (pc := 60) 64 d_Model_isSo_60 (by decide) ?_
        exact xv_retzq (pc := 64) d_Model_isSo_64 rfl (by decide) rfl rfl ⟨_, rfl, by rw [← hb]; rfl, rfl⟩
    · have e : t % 2 = 0 := by
        rcases (by omega : t = 0 ∨ t = 1 ∨ t = 2 ∨ t = 3 ∨ t = 4 ∨ t = 5) with rfl | rfl | rfl | rfl | rfl | rfl <;> first | decide | exact absurd h48 (by decide)
      rw [decide_eq_true e] at hb
      cases b with
      | true =>
        refine xv_iconst (pc := 51) 1 d_Model_isSo_51 (by decide) ?_
        refine xv_goto (pc := 52) 56 d_Model_isSo_52 (by decide) ?_
        refine xv_icmp_ne (pc := 56) 63 d_Model_isSo_56 (by decide) (fun h56 => ?_) (fun h56 => ?_)
        · exact absurd rfl h56
        refine xv_iconst (pc := 59) 1 d_Model_isSo_59 (by decide) ?_
        refine xv_goto (pc := 60) 64 d_Model_isSo_60 (by decide) ?_
        exact xv_retzq (pc := 64) d_Model_isSo_64 rfl (by decide) rfl rfl ⟨_, rfl, by rw [← hb]; rfl, rfl⟩
      | false =>
        refine xv_iconst (pc := 51) 1 d_Model_isSo_51 (by decide) ?_
        refine xv_goto (pc := 52) 56 d_Model_isSo_52 (by decide) ?_
        refine xv_icmp_ne (pc := 56) 63 d_Model_isSo_56 (by decide) (fun h56 => ?_) (fun h56 => ?_)
        case refine_2 => exact absurd h56 (by decide)
        refine xv_iconst (pc := 63) 0 d_Model_isSo_63 (by decide) ?_
        exact xv_retzq (pc := 64) d_Model_isSo_64 rfl (by decide) rfl rfl ⟨_, rfl, by rw [← hb]; rfl, rfl⟩
  have f43 : ∀ b : Bool, (decide (t % 2 = 0) == b) = xSo (nI t) x → xv_X sc 0 J_Model_isSo 43 [some (.int (nI t)), some (.int x), none] [.int (xB b)] u (xv_N u) (xv_S u) (xv_q (xv_N u) (xv_S u) (xv_pi (fun r w => r = xB (xSo (nI t) x) ∧ w = u))) := by
    intro b hb
    refine xv_istore_2 (pc := 43) d_Model_isSo_43 (by decide) rfl ?_
    exact fin b hb
  have t2 : ((2 : Int32) ≤ nI t) ↔ 2 ≤ t := nI_leI (a := 2) (by decide) (by omega)
  have t4 : ((4 : Int32) ≤ nI t) ↔ 4 ≤ t := nI_leI (a := 4) (by decide) (by omega)
  refine xv_iload_n (pc := 0) d_Model_isSo_0 rfl rfl ?_
  refine xv_iconst (pc := 1) 2 d_Model_isSo_1 (by decide) ?_
  refine xv_icmp_ge (pc := 2) 17 d_Model_isSo_2 (by decide) (fun h2 => ?_) (fun h2 => ?_)
  · rw [t2] at h2
    refine xv_iload_n (pc := 17) d_Model_isSo_17 rfl rfl ?_
    refine xv_iconst (pc := 18) 4 d_Model_isSo_18 (by decide) ?_
    refine xv_icmp_ge (pc := 19) 34 d_Model_isSo_19 (by decide) (fun h19 => ?_) (fun h19 => ?_)
    · rw [t4] at h19
      refine xv_iload_n (pc := 34) d_Model_isSo_34 rfl rfl ?_
      refine xv_if_le (pc := 35) 42 d_Model_isSo_35 (by decide) (fun h35 => ?_) (fun h35 => ?_)
      · refine xv_iconst (pc := 42) 0 d_Model_isSo_42 (by decide) ?_
        refine f43 false ?_
        rcases (by omega : t = 4 ∨ t = 5) with rfl | rfl
        · rw [xSo_4, decide_eq_false (Int32.not_lt.mpr h35)]; rfl
        · rw [xSo_5, decide_eq_false (Int32.not_lt.mpr h35)]; rfl
      · refine xv_iconst (pc := 38) 1 d_Model_isSo_38 (by decide) ?_
        refine xv_goto (pc := 39) 43 d_Model_isSo_39 (by decide) ?_
        refine f43 true ?_
        rcases (by omega : t = 4 ∨ t = 5) with rfl | rfl
        · rw [xSo_4, decide_eq_true (Int32.not_le.mp h35)]; rfl
        · rw [xSo_5, decide_eq_true (Int32.not_le.mp h35)]; rfl
    · rw [t4] at h19
      refine xv_iload_n (pc := 22) d_Model_isSo_22 rfl rfl ?_
      refine xv_if_ge (pc := 23) 30 d_Model_isSo_23 (by decide) (fun h23 => ?_) (fun h23 => ?_)
      · refine xv_iconst (pc := 30) 0 d_Model_isSo_30 (by decide) ?_
        refine xv_goto (pc := 31) 43 d_Model_isSo_31 (by decide) ?_
        refine f43 false ?_
        rcases (by omega : t = 2 ∨ t = 3) with rfl | rfl
        · rw [xSo_2, decide_eq_false (Int32.not_lt.mpr h23)]; rfl
        · rw [xSo_3, decide_eq_false (Int32.not_lt.mpr h23)]; rfl
      · refine xv_iconst (pc := 26) 1 d_Model_isSo_26 (by decide) ?_
        refine xv_goto (pc := 27) 43 d_Model_isSo_27 (by decide) ?_
        refine f43 true ?_
        rcases (by omega : t = 2 ∨ t = 3) with rfl | rfl
        · rw [xSo_2, decide_eq_true (Int32.not_le.mp h23)]; rfl
        · rw [xSo_3, decide_eq_true (Int32.not_le.mp h23)]; rfl
  · rw [t2] at h2
    refine xv_iload_n (pc := 5) d_Model_isSo_5 rfl rfl ?_
    refine xv_if_ne (pc := 6) 13 d_Model_isSo_6 (by decide) (fun h6 => ?_) (fun h6 => ?_)
    · refine xv_iconst (pc := 13) 0 d_Model_isSo_13 (by decide) ?_
      refine xv_goto (pc := 14) 43 d_Model_isSo_14 (by decide) ?_
      refine f43 false ?_
      rcases (by omega : t = 0 ∨ t = 1) with rfl | rfl
      · rw [xSo_0, decide_eq_false h6]; rfl
      · rw [xSo_1, decide_eq_false h6]; rfl
    · refine xv_iconst (pc := 9) 1 d_Model_isSo_9 (by decide) ?_
      refine xv_goto (pc := 10) 43 d_Model_isSo_10 (by decide) ?_
      refine f43 true ?_
      rcases (by omega : t = 0 ∨ t = 1) with rfl | rfl
      · rw [xSo_0, decide_eq_true h6]; rfl
      · rw [xSo_1, decide_eq_true h6]; rfl

