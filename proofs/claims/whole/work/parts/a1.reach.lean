/-! ways through units: pure -/
def xSu (O : Nat → Nat) (F S : Nat → Int32) (k k' : Nat) : Prop := (¬ O k = 17 ∧ ((O k = 15 ∧ k' < 1000 ∧ F k = nI k') ∨ (¬ O k = 15 ∧ k' = k + 1))) ∨ (O k = 14 ∧ k' < 1000 ∧ S k = nI k')
def xTpu (O : Nat → Nat) (k h : Nat) : Nat := h - xTa (O k) + xLe (O k)
def xRe (n : Nat) (O : Nat → Nat) (F S : Nat → Int32) : Nat → Nat → Nat → Prop
  | 0, k, h => k = 0 ∧ h = 0
  | j + 1, k, h => xRe n O F S j k h ∨ ∃ k' h', xRe n O F S j k' h' ∧ k' < n ∧ xTa (O k') ≤ h' ∧ xSu O F S k' k ∧ h = xTpu O k' h'
def xRel (n : Nat) (O : Nat → Nat) (F S : Nat → Int32) (k h : Nat) : Prop := ∃ j, xRe n O F S j k h
def xBad (n : Nat) (O : Nat → Nat) (F S : Nat → Int32) : Prop := ∃ k h, xRel n O F S k h ∧ (n ≤ k ∨ h < xTa (O k) ∨ ∃ h', xRel n O F S k h' ∧ ¬ h' = h)
def xCls (n : Nat) (O : Nat → Nat) (F S : Nat → Int32) (T : Nat → Nat → Prop) : Prop := T 0 0 ∧ ∀ k h, T k h → k < n ∧ xTa (O k) ≤ h ∧ (∀ k', xSu O F S k k' → T k' (xTpu O k h)) ∧ ∀ h', T k h' → h' = h
theorem xRel_0 {n : Nat} {O : Nat → Nat} {F S : Nat → Int32} : xRel n O F S 0 0 := ⟨0, rfl, rfl⟩
theorem xRel_s {n : Nat} {O : Nat → Nat} {F S : Nat → Int32} {k h k' : Nat} (hr : xRel n O F S k h) (hk : k < n) (ht : xTa (O k) ≤ h) (hs : xSu O F S k k') : xRel n O F S k' (xTpu O k h) := by
  obtain ⟨j, hj⟩ := hr
  exact ⟨j + 1, Or.inr ⟨k, h, hj, hk, ht, hs, rfl⟩⟩
theorem xCls_r {n : Nat} {O : Nat → Nat} {F S : Nat → Int32} {T : Nat → Nat → Prop} (h : xCls n O F S T) : ∀ k h, xRel n O F S k h → T k h := by
  have key : ∀ j k h, xRe n O F S j k h → T k h := by
    intro j
    induction j with
    | zero =>
      rintro k h' ⟨rfl, rfl⟩
      exact h.1
    | succ j ih =>
      rintro k h' (hr | ⟨k', h2, hr, hk, ht, hs, rfl⟩)
      · exact ih k h' hr
      · exact (h.2 k' h2 (ih k' h2 hr)).2.2.1 k hs
  rintro k h' ⟨j, hj⟩
  exact key j k h' hj
theorem xCls_b {n : Nat} {O : Nat → Nat} {F S : Nat → Int32} {T : Nat → Nat → Prop} (h : xCls n O F S T) : ¬ xBad n O F S := by
  rintro ⟨k, h1, hr, hb⟩
  obtain ⟨a1, a2, a3, a4⟩ := h.2 k h1 (xCls_r h k h1 hr)
  rcases hb with hb | hb | ⟨h', hr', hne⟩
  · omega
  · omega
  · exact hne (a4 h' (xCls_r h k h' hr'))
/-- the greatest height of a closed way -/
def xGdM (n : Nat) (O : Nat → Nat) (F S : Nat → Int32) (g : Nat) : Prop := ∃ T, xCls n O F S T ∧ (∀ k h, T k h → xTpu O k h ≤ g ∧ xRel n O F S k h) ∧ (g = 0 ∨ ∃ k h, T k h ∧ g = xTpu O k h)
/-! the model: reach -/
theorem x100 : ∀ h, h < 100 → nI h - nI h / 100 * 100 = nI h ∧ nI (100 + h) - nI (100 + h) / 100 * 100 = nI h := by decide +kernel
theorem c_Model_reach_out {sc : Nat × (Nat → Int32)} {u : xv_M} {M k n t : Nat} (hM : xMo u M) (hn : n ≤ 280) (ht : t < 100) (hk : n ≤ k) (hk2 : k < 1000) : xv_C sc 0 J_Model_reach [.ref M, .int (nI k), .int (nI n), .int (nI t)] u (xv_N u) (xv_S u) (xv_pi (fun r w => r = 0 ∧ w = u)) := by
  refine xv_C_of (by decide) (Nat.le_refl _) (Nat.le_refl _) (xv_cat1 rfl) (Nat.le_of_ble_eq_true rfl) ?_
  show xv_X sc 0 J_Model_reach 0 [some (.ref M), some (.int (nI k)), some (.int (nI n)), some (.int (nI t))] [] u (xv_N u) (xv_S u) _
  refine xv_iload_n (pc := 0) d_Model_reach_0 rfl rfl ?_
  refine xv_iload_n (pc := 1) d_Model_reach_1 rfl rfl ?_
  refine xv_icmp_lt (pc := 2) 7 d_Model_reach_2 (by decide) (fun h2 => ?_) (fun h2 => ?_)
  · exact absurd h2 (Int32.not_lt.mpr (nI_le hk (by omega)))
  refine xv_iconst (pc := 5) 0 d_Model_reach_5 (by decide) ?_
  exact xv_retzq (pc := 6) d_Model_reach_6 rfl (by decide) rfl rfl ⟨_, rfl, rfl, rfl⟩
theorem c_Model_reach_new {sc : Nat × (Nat → Int32)} {u : xv_M} {M k n t : Nat} (hM : xMo u M) (hn : n ≤ 280) (ht : t < 100) (hk : k < n) (hw : xv_i u (M + 12) k = -1) : xv_C sc 0 J_Model_reach [.ref M, .int (nI k), .int (nI n), .int (nI t)] u (xv_N u) (xv_S u) (xv_pi (fun r w => r = 1 ∧ w = xv_si u (M + 12) k (nI t))) := by
  have hck : (nI k).toNatClampNeg = k := nI_clamp (by omega)
  have ik : vp_in (nI k) 280 := vp_in_nI (by omega) (by decide)
  refine xv_C_of (by decide) (Nat.le_refl _) (Nat.le_refl _) (xv_cat1 rfl) (Nat.le_of_ble_eq_true rfl) ?_
  show xv_X sc 0 J_Model_reach 0 [some (.ref M), some (.int (nI k)), some (.int (nI n)), some (.int (nI t))] [] u (xv_N u) (xv_S u) _
  refine xv_iload_n (pc := 0) d_Model_reach_0 rfl rfl ?_
  refine xv_iload_n (pc := 1) d_Model_reach_1 rfl rfl ?_
  refine xv_icmp_lt (pc := 2) 7 d_Model_reach_2 (by decide) (fun h2 => ?_) (fun h2 => ?_)
  case refine_2 => exact absurd (nI_lt hk (by omega)) h2
  refine xv_aload_n (pc := 7) d_Model_reach_7 rfl rfl ?_
  refine xv_getR (pc := 8) d_Model_reach_8 f_Model_43 rfl hM.1 (xm_r11 hM) ?_
  refine xv_iload_n (pc := 11) d_Model_reach_11 rfl rfl ?_
  refine xv_ald (pc := 12) d_Model_reach_12 (xm_k11 hM) (xm_i11 hM ik) ?_
  refine xv_if_ge (pc := 13) 23 d_Model_reach_13 (by decide) (fun h13 => ?_) (fun h13 => ?_)
  · rw [hck, hw] at h13
    exact absurd h13 (by decide)
  refine xv_aload_n (pc := 16) d_Model_reach_16 rfl rfl ?_
  refine xv_getR (pc := 17) d_Model_reach_17 f_Model_43 rfl hM.1 (xm_r11 hM) ?_
  refine xv_iload_n (pc := 20) d_Model_reach_20 rfl rfl ?_
  refine xv_iload_n (pc := 21) d_Model_reach_21 rfl rfl ?_
  refine xv_ast (pc := 22) d_Model_reach_22 (xm_k11 hM) (xm_i11 hM ik) ?_
  refine xv_aload_n (pc := 23) d_Model_reach_23 rfl rfl ?_
  refine xv_getR (pc := 24) d_Model_reach_24 f_Model_43 rfl hM.1 (xm_r11 hM) ?_
  refine xv_iload_n (pc := 27) d_Model_reach_27 rfl rfl ?_
  refine xv_ald (pc := 28) d_Model_reach_28 (xm_k11 hM) (xm_i11 hM ik) ?_
  refine xv_bipush (pc := 29) 100 d_Model_reach_29 (by decide) ?_
  refine xv_irem (pc := 31) d_Model_reach_31 (by decide) ?_
  refine xv_iload_n (pc := 32) d_Model_reach_32 rfl rfl ?_
  refine xv_icmp_ne (pc := 33) 40 d_Model_reach_33 (by decide) (fun h33 => ?_) (fun h33 => ?_)
  · rw [hck, xv_si_eq, (x100 t ht).1] at h33
    exact absurd rfl h33
  rw [hck]
  refine xv_iconst (pc := 36) 1 d_Model_reach_36 (by decide) ?_
  refine xv_goto (pc := 37) 41 d_Model_reach_37 (by decide) ?_
  exact xv_retzq (pc := 41) d_Model_reach_41 rfl (by decide) rfl rfl ⟨_, rfl, rfl, rfl⟩
theorem c_Model_reach_old {sc : Nat × (Nat → Int32)} {u : xv_M} {M k n t : Nat} (hM : xMo u M) (hn : n ≤ 280) (ht : t < 100) {h c : Nat} (hk : k < n) (hh : h < 100) (hc : c = 0 ∨ c = 100) (hw : xv_i u (M + 12) k = nI (c + h)) : xv_C sc 0 J_Model_reach [.ref M, .int (nI k), .int (nI n), .int (nI t)] u (xv_N u) (xv_S u) (xv_pi (fun r w => r = xB (decide (h = t)) ∧ w = u)) := by
  have hck : (nI k).toNatClampNeg = k := nI_clamp (by omega)
  have ik : vp_in (nI k) 280 := vp_in_nI (by omega) (by decide)
  have e : nI (c + h) - nI (c + h) / 100 * 100 = nI h := by
    rcases hc with rfl | rfl
    · rw [Nat.zero_add]; exact (x100 h hh).1
    · exact (x100 h hh).2
  have q : (nI h = nI t) ↔ h = t := nI_eq (by omega) (by omega)
  refine xv_C_of (by decide) (Nat.le_refl _) (Nat.le_refl _) (xv_cat1 rfl) (Nat.le_of_ble_eq_true rfl) ?_
  show xv_X sc 0 J_Model_reach 0 [some (.ref M), some (.int (nI k)), some (.int (nI n)), some (.int (nI t))] [] u (xv_N u) (xv_S u) _
  have tail : xv_X sc 0 J_Model_reach 23 [some (.ref M), some (.int (nI k)), some (.int (nI n)), some (.int (nI t))] [] u (xv_N u) (xv_S u) (xv_q (xv_N u) (xv_S u) (xv_pi (fun r w => r = xB (decide (h = t)) ∧ w = u))) := by
    refine xv_aload_n (pc := 23) d_Model_reach_23 rfl rfl ?_
    refine xv_getR (pc := 24) d_Model_reach_24 f_Model_43 rfl hM.1 (xm_r11 hM) ?_
    refine xv_iload_n (pc := 27) d_Model_reach_27 rfl rfl ?_
    refine xv_ald (pc := 28) d_Model_reach_28 (xm_k11 hM) (xm_i11 hM ik) ?_
    refine xv_bipush (pc := 29) 100 d_Model_reach_29 (by decide) ?_
    refine xv_irem (pc := 31) d_Model_reach_31 (by decide) ?_
    refine xv_iload_n (pc := 32) d_Model_reach_32 rfl rfl ?_
    refine xv_icmp_ne (pc := 33) 40 d_Model_reach_33 (by decide) (fun h33 => ?_) (fun h33 => ?_)
    · rw [hck, hw, e, q] at h33
      refine xv_iconst (pc := 40) 0 d_Model_reach_40 (by decide) ?_
      exact xv_retzq (pc := 41) d_Model_reach_41 rfl (by decide) rfl rfl ⟨_, rfl, by rw [decide_eq_false h33]; rfl, rfl⟩
    · rw [hck, hw, e, q] at h33
      refine xv_iconst (pc := 36) 1 d_Model_reach_36 (by decide) ?_
      refine xv_goto (pc := 37) 41 d_Model_reach_37 (by decide) ?_
      exact xv_retzq (pc := 41) d_Model_reach_41 rfl (by decide) rfl rfl ⟨_, rfl, by rw [decide_eq_true h33]; rfl, rfl⟩
  refine xv_iload_n (pc := 0) d_Model_reach_0 rfl rfl ?_
  refine xv_iload_n (pc := 1) d_Model_reach_1 rfl rfl ?_
  refine xv_icmp_lt (pc := 2) 7 d_Model_reach_2 (by decide) (fun h2 => ?_) (fun h2 => ?_)
  case refine_2 => exact absurd (nI_lt hk (by omega)) h2
  refine xv_aload_n (pc := 7) d_Model_reach_7 rfl rfl ?_
  refine xv_getR (pc := 8) d_Model_reach_8 f_Model_43 rfl hM.1 (xm_r11 hM) ?_
  refine xv_iload_n (pc := 11) d_Model_reach_11 rfl rfl ?_
  refine xv_ald (pc := 12) d_Model_reach_12 (xm_k11 hM) (xm_i11 hM ik) ?_
  refine xv_if_ge (pc := 13) 23 d_Model_reach_13 (by decide) (fun h13 => ?_) (fun h13 => ?_)
  · exact tail
  · rw [hck, hw] at h13
    exact absurd (nI_le (a := 0) (Nat.zero_le _) (by omega)) h13

