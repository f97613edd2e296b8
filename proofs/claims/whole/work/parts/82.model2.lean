/-! the model: token, clear, thrown, fault, copyUnits, seal, goes -/
theorem xm_8 : vp_in 8 9 := vp_in_nI (n := 8) (N := 9) (by decide) (by decide)
theorem xNar {y : Int32} (h : y = 0 ∨ y = 1) : vp_nar .boolean y = y := by rcases h with rfl | rfl <;> decide
theorem xIdx {t k : Nat} : (280 : Int32) * nI t + nI k = nI (280 * t + k) := by rw [← nI_add, ← pk_mul]; rfl
theorem xIdx8 {e k : Nat} : (280 : Int32) * (8 + nI e) + nI k = nI (280 * (8 + e) + k) := by rw [← nI_add, ← pk_mul, ← nI_add]; rfl
theorem x8 {e : Nat} : (8 : Int32) + nI e = nI (8 + e) := by rw [← nI_add]; rfl
theorem c_Model_thrown {sc : Nat × (Nat → Int32)} {u : xv_M} {M : Nat} (hM : xMo u M) : xv_C sc 0 J_Model_thrown [.ref M] u (xv_N u) (xv_S u) (xv_pi (fun r w => r = xv_i u M 35 ∧ w = u)) := by
  refine xv_C_of (by decide) (Nat.le_refl _) (Nat.le_refl _) (xv_cat1 rfl) (Nat.le_of_ble_eq_true rfl) ?_
  show xv_X sc 0 J_Model_thrown 0 [some (.ref M)] [] u (xv_N u) (xv_S u) _
  refine xv_aload_n (pc := 0) d_Model_thrown_0 rfl rfl ?_
  refine xv_getI (pc := 1) d_Model_thrown_1 f_Model_155 rfl hM.1 ?_
  exact xv_retiq (pc := 4) d_Model_thrown_4 rfl rfl rfl ⟨_, rfl, rfl, rfl⟩
theorem c_Model_clear {sc : Nat × (Nat → Int32)} {u : xv_M} {M : Nat} (hM : xMo u M) : xv_C sc 0 J_Model_clear [.ref M] u (xv_N u) (xv_S u) (xv_pi (fun r w => r = xv_i u (M + 3) 8 ∧ w = xv_si u (M + 3) 8 0)) := by
  refine xv_C_of (by decide) (Nat.le_refl _) (Nat.le_refl _) (xv_cat1 rfl) (Nat.le_of_ble_eq_true rfl) ?_
  show xv_X sc 0 J_Model_clear 0 [some (.ref M), none] [] u (xv_N u) (xv_S u) _
  refine xv_aload_n (pc := 0) d_Model_clear_0 rfl rfl ?_
  refine xv_getR (pc := 1) d_Model_clear_1 f_Model_16 rfl hM.1 (xm_r2 hM) ?_
  refine xv_bipush (pc := 4) 8 d_Model_clear_4 (by decide) ?_
  refine xv_ald (pc := 6) d_Model_clear_6 (xm_k2 hM) (xm_i2 hM xm_8) ?_
  refine xv_istore_1 (pc := 7) d_Model_clear_7 (by decide) rfl ?_
  refine xv_aload_n (pc := 8) d_Model_clear_8 rfl rfl ?_
  refine xv_getR (pc := 9) d_Model_clear_9 f_Model_16 rfl hM.1 (xm_r2 hM) ?_
  refine xv_bipush (pc := 12) 8 d_Model_clear_12 (by decide) ?_
  refine xv_iconst (pc := 14) 0 d_Model_clear_14 (by decide) ?_
  refine xv_ast (pc := 15) d_Model_clear_15 (xm_k2 hM) (xm_i2 hM xm_8) ?_
  refine xv_iload_n (pc := 16) d_Model_clear_16 rfl rfl ?_
  exact xv_retiq (pc := 17) d_Model_clear_17 rfl rfl rfl ⟨_, rfl, rfl, rfl⟩
theorem c_Model_token {sc : Nat × (Nat → Int32)} {u : xv_M} {M : Nat} (hM : xMo u M) {n : Nat} {x y : Int32} (hn : xv_i u (M + 3) 8 = nI n) (hn40 : n ≤ 40) : xv_C sc 2 J_Model_token [.ref M, .int x, .int y] u (xv_N u) (xv_S u) (xv_pi (fun r w => (xOkT x y = 0 ∧ r = -1 ∧ w = u) ∨ (¬ xOkT x y = 0 ∧ n = 40 ∧ r = -2 ∧ w = u) ∨ (¬ xOkT x y = 0 ∧ n < 40 ∧ r = nI (n + 1) ∧ w = xv_si (xv_si (xv_si u (M + 1) (320 + n) x) (M + 2) (320 + n) y) (M + 3) 8 (nI (n + 1))))) := by
  have e8 : (8 : Int32).toNatClampNeg = 8 := by decide
  have ei : (320 : Int32) + nI n = nI (320 + n) := by rw [← nI_add]; rfl
  have hci : (nI (320 + n)).toNatClampNeg = 320 + n := nI_clamp (by omega)
  have q40 : (nI n = 40) ↔ n = 40 := nI_eq (b := 40) (by omega) (by decide)
  refine xv_C_of (by decide) (Nat.le_refl _) (Nat.le_refl _) (xv_cat1 rfl) (Nat.le_of_ble_eq_true rfl) ?_
  show xv_X sc 2 J_Model_token 0 [some (.ref M), some (.int x), some (.int y)] [] u (xv_N u) (xv_S u) _
  refine xv_iload_n (pc := 0) d_Model_token_0 rfl rfl ?_
  refine xv_iload_n (pc := 1) d_Model_token_1 rfl rfl ?_
  refine xv_cS2i (pc := 2) (d1 := 1) c_Model_fits m_Model_fits l_Model_106 d_Model_token_2 (by omega) (Nat.le_of_ble_eq_true rfl) ⟨Nat.le_refl _, Nat.le_refl _⟩ (fun r w hw hN hS => ?_)
  obtain ⟨rfl, hw⟩ := hw
  subst w
  refine xv_if_ne (pc := 5) 10 d_Model_token_5 (by decide) (fun h5 => ?_) (fun h5 => ?_)
  case refine_2 =>
    refine xv_iconst (pc := 8) (-1) d_Model_token_8 (by decide) ?_
    exact xv_retiq (pc := 9) d_Model_token_9 rfl rfl rfl ⟨_, rfl, Or.inl ⟨h5, rfl, rfl⟩⟩
  refine xv_aload_n (pc := 10) d_Model_token_10 rfl rfl ?_
  refine xv_getR (pc := 11) d_Model_token_11 f_Model_16 rfl hM.1 (xm_r2 hM) ?_
  refine xv_bipush (pc := 14) 8 d_Model_token_14 (by decide) ?_
  refine xv_ald (pc := 16) d_Model_token_16 (xm_k2 hM) (xm_i2 hM xm_8) ?_
  refine xv_bipush (pc := 17) 40 d_Model_token_17 (by decide) ?_
  refine xv_icmp_ne (pc := 19) 25 d_Model_token_19 (by decide) (fun h19 => ?_) (fun h19 => ?_)
  case refine_2 =>
    rw [e8, hn, q40] at h19
    refine xv_bipush (pc := 22) (-2) d_Model_token_22 (by decide) ?_
    exact xv_retiq (pc := 24) d_Model_token_24 rfl rfl rfl ⟨_, rfl, Or.inr (Or.inl ⟨h5, h19, rfl, rfl⟩)⟩
  rw [e8, hn, q40] at h19
  have hlt : n < 40 := by omega
  have hin : vp_in (nI (320 + n)) 360 := vp_in_nI (by omega) (by decide)
  refine xv_aload_n (pc := 25) d_Model_token_25 rfl rfl ?_
  refine xv_getR (pc := 26) d_Model_token_26 f_Model_7 rfl hM.1 (xm_r0 hM) ?_
  refine xv_sipush (pc := 29) 320 d_Model_token_29 (by decide) ?_
  refine xv_aload_n (pc := 32) d_Model_token_32 rfl rfl ?_
  refine xv_getR (pc := 33) d_Model_token_33 f_Model_16 rfl hM.1 (xm_r2 hM) ?_
  refine xv_bipush (pc := 36) 8 d_Model_token_36 (by decide) ?_
  refine xv_ald (pc := 38) d_Model_token_38 (xm_k2 hM) (xm_i2 hM xm_8) ?_
  refine xv_iadd (pc := 39) d_Model_token_39 ?_
  refine xv_iload_n (pc := 40) d_Model_token_40 rfl rfl ?_
  refine xv_ast (pc := 41) d_Model_token_41 (xm_k0 hM) (by rw [e8, hn, ei]; exact xm_i0 hM hin) ?_
  refine xv_aload_n (pc := 42) d_Model_token_42 rfl rfl ?_
  refine xv_getR (pc := 43) d_Model_token_43 f_Model_13 rfl hM.1 (xm_r1 hM) ?_
  refine xv_sipush (pc := 46) 320 d_Model_token_46 (by decide) ?_
  refine xv_aload_n (pc := 49) d_Model_token_49 rfl rfl ?_
  refine xv_getR (pc := 50) d_Model_token_50 f_Model_16 rfl hM.1 (xm_r2 hM) ?_
  refine xv_bipush (pc := 53) 8 d_Model_token_53 (by decide) ?_
  refine xv_ald (pc := 55) d_Model_token_55 (xm_k2 hM) (xm_i2 hM xm_8) ?_
  refine xv_iadd (pc := 56) d_Model_token_56 ?_
  refine xv_iload_n (pc := 57) d_Model_token_57 rfl rfl ?_
  refine xv_ast (pc := 58) d_Model_token_58 (xm_k1 hM) (by rw [e8, xv_si_ne (by omega), hn, ei]; exact xm_i1 hM hin) ?_
  refine xv_aload_n (pc := 59) d_Model_token_59 rfl rfl ?_
  refine xv_getR (pc := 60) d_Model_token_60 f_Model_16 rfl hM.1 (xm_r2 hM) ?_
  refine xv_bipush (pc := 63) 8 d_Model_token_63 (by decide) ?_
  refine xv_dup2 (pc := 65) d_Model_token_65 ?_
  refine xv_ald (pc := 66) d_Model_token_66 (xm_k2 hM) (xm_i2 hM xm_8) ?_
  refine xv_iconst (pc := 67) 1 d_Model_token_67 (by decide) ?_
  refine xv_iadd (pc := 68) d_Model_token_68 ?_
  refine xv_dup_x2 (pc := 69) d_Model_token_69 ?_
  refine xv_ast (pc := 70) d_Model_token_70 (xm_k2 hM) (xm_i2 hM xm_8) ?_
  have e1 : nI n + 1 = nI (n + 1) := by rw [nI_succ]
  have hA : xv_i (xv_si u (M + 1) (320 + n) x) (M + 3) 8 = nI n := by rw [xv_si_ne (by omega)]; exact hn
  have hB : xv_i (xv_si (xv_si u (M + 1) (320 + n) x) (M + 2) (320 + n) y) (M + 3) 8 = nI n := by rw [xv_si_ne (by omega)]; exact hA
  rw [e8, hn, ei, hci, hA, ei, hci, hB, e1]
  exact xv_retiq (pc := 71) d_Model_token_71 rfl rfl rfl ⟨_, rfl, Or.inr (Or.inr ⟨h5, hlt, rfl, rfl⟩)⟩
theorem c_Model_fault {sc : Nat × (Nat → Int32)} {u : xv_M} {M : Nat} (hM : xMo u M) {x y : Int32} : xv_C sc 0 J_Model_fault [.ref M, .int x, .int y] u (xv_N u) (xv_S u) (xv_pi (fun r w => r = x ∧ w = xv_si (xv_si u M 33 (xv_i u M 33 + 1)) M 34 y)) := by
  refine xv_C_of (by decide) (Nat.le_refl _) (Nat.le_refl _) (xv_cat1 rfl) (Nat.le_of_ble_eq_true rfl) ?_
  show xv_X sc 0 J_Model_fault 0 [some (.ref M), some (.int x), some (.int y)] [] u (xv_N u) (xv_S u) _
  refine xv_aload_n (pc := 0) d_Model_fault_0 rfl rfl ?_
  refine xv_dup_ref (pc := 1) d_Model_fault_1 ?_
  refine xv_getI (pc := 2) d_Model_fault_2 f_Model_191 rfl hM.1 ?_
  refine xv_iconst (pc := 5) 1 d_Model_fault_5 (by decide) ?_
  refine xv_iadd (pc := 6) d_Model_fault_6 ?_
  refine xv_putI (pc := 7) d_Model_fault_7 f_Model_191 (Or.inl rfl) fin_11_33 hM.1 ?_
  refine xv_aload_n (pc := 10) d_Model_fault_10 rfl rfl ?_
  refine xv_iload_n (pc := 11) d_Model_fault_11 rfl rfl ?_
  refine xv_putI (pc := 12) d_Model_fault_12 f_Model_98 (Or.inl rfl) fin_11_34 hM.1 ?_
  refine xv_iload_n (pc := 15) d_Model_fault_15 rfl rfl ?_
  exact xv_retiq (pc := 16) d_Model_fault_16 rfl rfl rfl ⟨_, rfl, rfl, rfl⟩
/-- a block of a row has been copied -/
def xBk (u w : xv_M) (c d to fr n : Nat) : Prop := (∀ q, q < to ∨ to + n ≤ q → xv_i w c q = xv_i u c q) ∧ ∀ k, k < n → xv_i w c (to + k) = xv_i u d (fr + k)
def xCU (M b : Nat) : Prop := b = M + 7 ∨ b = M + 8 ∨ b = M + 9 ∨ b = M + 10 ∨ b = M + 11 ∨ b = M + 13
def xCUq (u w : xv_M) (M t f n k : Nat) : Prop := xSi (xCU M) u w ∧ xBk u w (M + 7) (M + 7) (280 * t) (280 * f) k ∧ xBk u w (M + 8) (M + 8) (280 * t) (280 * f) k ∧ xBk u w (M + 9) (M + 9) (280 * t) (280 * f) k ∧ xBk u w (M + 13) (M + 13) (280 * t) (280 * f) k ∧ (∀ q, ¬ q = t → xv_i w (M + 10) q = xv_i u (M + 10) q) ∧ xv_i w (M + 10) t = nI n ∧ (∀ q, ¬ q = t → xv_i w (M + 11) q = xv_i u (M + 11) q) ∧ xv_i w (M + 11) t = xv_i u (M + 11) f
theorem xBk_s {u w w' : xv_M} {c d to fr n : Nat} (h : xBk u w c d to fr n) (hw : ∀ q, xv_i w' c q = if q = to + n then xv_i u d (fr + n) else xv_i w c q) : xBk u w' c d to fr (n + 1) := by
  refine ⟨fun q hq => ?_, fun k hk => ?_⟩
  · rw [hw, if_neg (by omega)]
    exact h.1 q (by omega)
  · rw [hw]
    by_cases e : k = n
    · subst e
      rw [if_pos rfl]
    · rw [if_neg (by omega)]
      exact h.2 k (by omega)
theorem xv_si_if {u : xv_M} {a j q : Nat} {v : Int32} : xv_i (xv_si u a j v) a q = if q = j then v else xv_i u a q := by
  by_cases e : q = j
  · subst e
    rw [if_pos rfl]
    exact xv_si_eq
  · rw [if_neg e]
    exact xv_si_nj e
theorem c_Model_copyUnits {sc : Nat × (Nat → Int32)} {u : xv_M} {M : Nat} (hM : xMo u M) {t f n : Nat} (htf : ¬ t = f) (ht : t < 24) (hf : f < 24) (hn : xv_i u (M + 10) f = nI n) (hn280 : n ≤ 280) (hfx : ∀ k, k < n → xv_i u (M + 13) (280 * f + k) = 0 ∨ xv_i u (M + 13) (280 * f + k) = 1) : xv_C sc 0 J_Model_copyUnits [.ref M, .int (nI t), .int (nI f)] u (xv_N u) (xv_S u) (xv_pv (fun w => xCUq u w M t f n n)) := by
  have hct : (nI t).toNatClampNeg = t := nI_clamp (by omega)
  have hcf : (nI f).toNatClampNeg = f := nI_clamp (by omega)
  have hit : vp_in (nI t) 24 := vp_in_nI ht (by decide)
  have hif : vp_in (nI f) 24 := vp_in_nI hf (by decide)
  refine xv_C_of (by decide) (Nat.le_refl _) (Nat.le_refl _) (xv_cat1 rfl) (Nat.le_of_ble_eq_true rfl) ?_
  show xv_X sc 0 J_Model_copyUnits 0 [some (.ref M), some (.int (nI t)), some (.int (nI f)), none, none, none] [] u (xv_N u) (xv_S u) _
  have loop : ∀ (r k : Nat) (w : xv_M) (a b : Option Value), k + r = n → xCUq u w M t f n k → xv_X sc 0 J_Model_copyUnits 26 [some (.ref M), some (.int (nI t)), some (.int (nI f)), some (.int (nI k)), a, b] [] w (xv_N u) (xv_S u) (xv_q (xv_N u) (xv_S u) (xv_pv (fun w => xCUq u w M t f n n))) := by
    intro r
    induction r with
    | zero =>
      intro k w a b hk H
      have hk : k = n := by omega
      subst hk
      have H0 := H
      obtain ⟨z, b1, b2, b3, b4, b5, b6, b7, b8⟩ := H
      have hMw := xSi_Mo z hM
      refine xv_iload_n (pc := 26) d_Model_copyUnits_26 rfl rfl ?_
      refine xv_aload_n (pc := 27) d_Model_copyUnits_27 rfl rfl ?_
      refine xv_getR (pc := 28) d_Model_copyUnits_28 f_Model_37 rfl hMw.1 (xm_r9 hMw) ?_
      refine xv_iload_n (pc := 31) d_Model_copyUnits_31 rfl rfl ?_
      refine xv_ald (pc := 32) d_Model_copyUnits_32 (xm_k9 hMw) (xm_i9 hMw hif) ?_
      refine xv_icmp_ge (pc := 33) 116 d_Model_copyUnits_33 (by decide) (fun h33 => ?_) (fun h33 => ?_)
      case refine_2 =>
        rw [hcf, b5 f (fun e => htf e.symm), hn] at h33
        exact absurd (Int32.le_refl _) h33
      exact xv_retvq (pc := 116) d_Model_copyUnits_116 rfl z.1 z.2.1 ⟨rfl, H0⟩
    | succ r ih =>
      intro k w a b hk H
      obtain ⟨z, b1, b2, b3, b4, b5, b6, b7, b8⟩ := H
      have hMw := xSi_Mo z hM
      have es : nI k + Int32.ofInt 1 = nI (k + 1) := by rw [nI_succ]; rfl
      have ct : (nI (280 * t + k)).toNatClampNeg = 280 * t + k := nI_clamp (by omega)
      have cf : (nI (280 * f + k)).toNatClampNeg = 280 * f + k := nI_clamp (by omega)
      have it : vp_in (nI (280 * t + k)) 6720 := vp_in_nI (by omega) (by decide)
      have jf : vp_in (nI (280 * f + k)) 6720 := vp_in_nI (by omega) (by decide)
      have hne : 280 * f + k < 280 * t ∨ 280 * t + k ≤ 280 * f + k := by omega
      refine xv_iload_n (pc := 26) d_Model_copyUnits_26 rfl rfl ?_
      refine xv_aload_n (pc := 27) d_Model_copyUnits_27 rfl rfl ?_
      refine xv_getR (pc := 28) d_Model_copyUnits_28 f_Model_37 rfl hMw.1 (xm_r9 hMw) ?_
      refine xv_iload_n (pc := 31) d_Model_copyUnits_31 rfl rfl ?_
      refine xv_ald (pc := 32) d_Model_copyUnits_32 (xm_k9 hMw) (xm_i9 hMw hif) ?_
      refine xv_icmp_ge (pc := 33) 116 d_Model_copyUnits_33 (by decide) (fun h33 => ?_) (fun h33 => ?_)
      · rw [hcf, b5 f (fun e => htf e.symm), hn] at h33
        exact absurd h33 (nI_ge (by omega) (by omega))
      refine xv_sipush (pc := 36) 280 d_Model_copyUnits_36 (by decide) ?_
      refine xv_iload_n (pc := 39) d_Model_copyUnits_39 rfl rfl ?_
      refine xv_imul (pc := 40) d_Model_copyUnits_40 ?_
      refine xv_iload_n (pc := 41) d_Model_copyUnits_41 rfl rfl ?_
      refine xv_iadd (pc := 42) d_Model_copyUnits_42 ?_
      refine xv_istore_4 (pc := 43) d_Model_copyUnits_43 (by decide) rfl ?_
      refine xv_sipush (pc := 45) 280 d_Model_copyUnits_45 (by decide) ?_
      refine xv_iload_n (pc := 48) d_Model_copyUnits_48 rfl rfl ?_
      refine xv_imul (pc := 49) d_Model_copyUnits_49 ?_
      refine xv_iload_n (pc := 50) d_Model_copyUnits_50 rfl rfl ?_
      refine xv_iadd (pc := 51) d_Model_copyUnits_51 ?_
      refine xv_istore_5 (pc := 52) d_Model_copyUnits_52 (by decide) rfl ?_
      rw [xIdx, xIdx]
      refine xv_aload_n (pc := 54) d_Model_copyUnits_54 rfl rfl ?_
      refine xv_getR (pc := 55) d_Model_copyUnits_55 f_Model_28 rfl hMw.1 (xm_r6 hMw) ?_
      refine xv_iload (pc := 58) d_Model_copyUnits_58 rfl ?_
      refine xv_aload_n (pc := 60) d_Model_copyUnits_60 rfl rfl ?_
      refine xv_getR (pc := 61) d_Model_copyUnits_61 f_Model_28 rfl hMw.1 (xm_r6 hMw) ?_
      refine xv_iload (pc := 64) d_Model_copyUnits_64 rfl ?_
      refine xv_ald (pc := 66) d_Model_copyUnits_66 (xm_k6 hMw) (xm_i6 hMw jf) ?_
      refine xv_ast (pc := 67) d_Model_copyUnits_67 (xm_k6 hMw) (xm_i6 hMw it) ?_
      refine xv_aload_n (pc := 68) d_Model_copyUnits_68 rfl rfl ?_
      refine xv_getR (pc := 69) d_Model_copyUnits_69 f_Model_31 rfl hMw.1 (xm_r7 hMw) ?_
      refine xv_iload (pc := 72) d_Model_copyUnits_72 rfl ?_
      refine xv_aload_n (pc := 74) d_Model_copyUnits_74 rfl rfl ?_
      refine xv_getR (pc := 75) d_Model_copyUnits_75 f_Model_31 rfl hMw.1 (xm_r7 hMw) ?_
      refine xv_iload (pc := 78) d_Model_copyUnits_78 rfl ?_
      refine xv_ald (pc := 80) d_Model_copyUnits_80 (xm_k7 hMw) (xm_i7 hMw jf) ?_
      refine xv_ast (pc := 81) d_Model_copyUnits_81 (xm_k7 hMw) (xm_i7 hMw it) ?_
      refine xv_aload_n (pc := 82) d_Model_copyUnits_82 rfl rfl ?_
      refine xv_getR (pc := 83) d_Model_copyUnits_83 f_Model_34 rfl hMw.1 (xm_r8 hMw) ?_
      refine xv_iload (pc := 86) d_Model_copyUnits_86 rfl ?_
      refine xv_aload_n (pc := 88) d_Model_copyUnits_88 rfl rfl ?_
      refine xv_getR (pc := 89) d_Model_copyUnits_89 f_Model_34 rfl hMw.1 (xm_r8 hMw) ?_
      refine xv_iload (pc := 92) d_Model_copyUnits_92 rfl ?_
      refine xv_ald (pc := 94) d_Model_copyUnits_94 (xm_k8 hMw) (xm_i8 hMw jf) ?_
      refine xv_ast (pc := 95) d_Model_copyUnits_95 (xm_k8 hMw) (xm_i8 hMw it) ?_
      refine xv_aload_n (pc := 96) d_Model_copyUnits_96 rfl rfl ?_
      refine xv_getR (pc := 97) d_Model_copyUnits_97 f_Model_46 rfl hMw.1 (xm_r12 hMw) ?_
      refine xv_iload (pc := 100) d_Model_copyUnits_100 rfl ?_
      refine xv_aload_n (pc := 102) d_Model_copyUnits_102 rfl rfl ?_
      refine xv_getR (pc := 103) d_Model_copyUnits_103 f_Model_46 rfl hMw.1 (xm_r12 hMw) ?_
      refine xv_iload (pc := 106) d_Model_copyUnits_106 rfl ?_
      refine xv_zald (pc := 108) d_Model_copyUnits_108 (xm_k12 hMw) (xm_i12 hMw jf) ?_
      refine xv_zast (pc := 109) d_Model_copyUnits_109 (xm_k12 hMw) (xm_i12 hMw it) (by rw [cf, xv_si_ne (by omega), xv_si_ne (by omega), xv_si_ne (by omega), b4.1 _ hne]; exact xNar (hfx k (by omega))) ?_
      refine xv_iinc_3 (pc := 110) (nI (k + 1)) d_Model_copyUnits_110 es (by decide) rfl ?_
      refine xv_goto (pc := 113) 26 d_Model_copyUnits_113 (by decide) ?_
      rw [cf, ct, b1.1 _ hne, xv_si_ne (by omega), b2.1 _ hne, xv_si_ne (by omega), xv_si_ne (by omega), b3.1 _ hne, xv_si_ne (by omega), xv_si_ne (by omega), xv_si_ne (by omega), b4.1 _ hne]
      refine ih (k + 1) _ _ _ (by omega) ⟨xSi_tr z (xSi_tr (xSi_tr (xSi_tr (xSi_si (Or.inl rfl)) (xSi_si (Or.inr (Or.inl rfl)))) (xSi_si (Or.inr (Or.inr (Or.inl rfl))))) (xSi_si (Or.inr (Or.inr (Or.inr (Or.inr (Or.inr rfl))))))), xBk_s b1 (fun q => ?_), xBk_s b2 (fun q => ?_), xBk_s b3 (fun q => ?_), xBk_s b4 (fun q => ?_), fun q hq => ?_, ?_, fun q hq => ?_, ?_⟩
      · rw [xv_si_ne (by omega), xv_si_ne (by omega), xv_si_ne (by omega), xv_si_if]
      · rw [xv_si_ne (by omega), xv_si_ne (by omega), xv_si_if, xv_si_ne (by omega)]
      · rw [xv_si_ne (by omega), xv_si_if, xv_si_ne (by omega), xv_si_ne (by omega)]
      · rw [xv_si_if, xv_si_ne (by omega), xv_si_ne (by omega), xv_si_ne (by omega)]
      · rw [xv_si_ne (by omega), xv_si_ne (by omega), xv_si_ne (by omega), xv_si_ne (by omega)]; exact b5 q hq
      · rw [xv_si_ne (by omega), xv_si_ne (by omega), xv_si_ne (by omega), xv_si_ne (by omega)]; exact b6
      · rw [xv_si_ne (by omega), xv_si_ne (by omega), xv_si_ne (by omega), xv_si_ne (by omega)]; exact b7 q hq
      · rw [xv_si_ne (by omega), xv_si_ne (by omega), xv_si_ne (by omega), xv_si_ne (by omega)]; exact b8
  refine xv_aload_n (pc := 0) d_Model_copyUnits_0 rfl rfl ?_
  refine xv_getR (pc := 1) d_Model_copyUnits_1 f_Model_37 rfl hM.1 (xm_r9 hM) ?_
  refine xv_iload_n (pc := 4) d_Model_copyUnits_4 rfl rfl ?_
  refine xv_aload_n (pc := 5) d_Model_copyUnits_5 rfl rfl ?_
  refine xv_getR (pc := 6) d_Model_copyUnits_6 f_Model_37 rfl hM.1 (xm_r9 hM) ?_
  refine xv_iload_n (pc := 9) d_Model_copyUnits_9 rfl rfl ?_
  refine xv_ald (pc := 10) d_Model_copyUnits_10 (xm_k9 hM) (xm_i9 hM hif) ?_
  refine xv_ast (pc := 11) d_Model_copyUnits_11 (xm_k9 hM) (xm_i9 hM hit) ?_
  refine xv_aload_n (pc := 12) d_Model_copyUnits_12 rfl rfl ?_
  refine xv_getR (pc := 13) d_Model_copyUnits_13 f_Model_40 rfl hM.1 (xm_r10 hM) ?_
  refine xv_iload_n (pc := 16) d_Model_copyUnits_16 rfl rfl ?_
  refine xv_aload_n (pc := 17) d_Model_copyUnits_17 rfl rfl ?_
  refine xv_getR (pc := 18) d_Model_copyUnits_18 f_Model_40 rfl hM.1 (xm_r10 hM) ?_
  refine xv_iload_n (pc := 21) d_Model_copyUnits_21 rfl rfl ?_
  refine xv_ald (pc := 22) d_Model_copyUnits_22 (xm_k10 hM) (xm_i10 hM hif) ?_
  refine xv_ast (pc := 23) d_Model_copyUnits_23 (xm_k10 hM) (xm_i10 hM hit) ?_
  refine xv_iconst (pc := 24) 0 d_Model_copyUnits_24 (by decide) ?_
  refine xv_istore_3 (pc := 25) d_Model_copyUnits_25 (by decide) rfl ?_
  rw [hcf, hct, hn, xv_si_ne (by omega)]
  refine loop n 0 _ _ _ (by omega) ⟨xSi_tr (xSi_si (Or.inr (Or.inr (Or.inr (Or.inl rfl))))) (xSi_si (Or.inr (Or.inr (Or.inr (Or.inr (Or.inl rfl)))))), ⟨fun q _ => ?_, fun k hk => absurd hk (Nat.not_lt_zero k)⟩, ⟨fun q _ => ?_, fun k hk => absurd hk (Nat.not_lt_zero k)⟩, ⟨fun q _ => ?_, fun k hk => absurd hk (Nat.not_lt_zero k)⟩, ⟨fun q _ => ?_, fun k hk => absurd hk (Nat.not_lt_zero k)⟩, fun q hq => ?_, ?_, fun q hq => ?_, ?_⟩
  · rw [xv_si_ne (by omega), xv_si_ne (by omega)]
  · rw [xv_si_ne (by omega), xv_si_ne (by omega)]
  · rw [xv_si_ne (by omega), xv_si_ne (by omega)]
  · rw [xv_si_ne (by omega), xv_si_ne (by omega)]
  · rw [xv_si_ne (by omega), xv_si_nj hq]
  · rw [xv_si_ne (by omega), xv_si_eq]
  · rw [xv_si_nj hq, xv_si_ne (by omega)]
  · rw [xv_si_eq]
def xSeS (M b : Nat) : Prop := b = M + 20 ∨ b = M + 16 ∨ b = M + 21
def xSeq (u w : xv_M) (M e k : Nat) : Prop := xSi (xSeS M) u w ∧ xBk u w (M + 21) (M + 7) (280 * e) (280 * (8 + e)) k ∧ (∀ q, ¬ q = e → xv_i w (M + 20) q = xv_i u (M + 20) q) ∧ xv_i w (M + 20) e = xv_i u (M + 17) e ∧ (∀ q, ¬ q = e → xv_i w (M + 16) q = xv_i u (M + 16) q) ∧ xv_i w (M + 16) e = xv_i u (M + 15) e
theorem c_Model_seal {sc : Nat × (Nat → Int32)} {u : xv_M} {M : Nat} (hM : xMo u M) {e n : Nat} (he : e < 8) (hn : xv_i u (M + 10) (8 + e) = nI n) (hn280 : n ≤ 280) (ho : xv_i u (M + 15) e = 0 ∨ xv_i u (M + 15) e = 1) : xv_C sc 0 J_Model_seal [.ref M, .int (nI e)] u (xv_N u) (xv_S u) (xv_pv (fun w => xSeq u w M e n)) := by
  have hce : (nI e).toNatClampNeg = e := nI_clamp (by omega)
  have hie : vp_in (nI e) 8 := vp_in_nI he (by decide)
  have hc8 : (nI (8 + e)).toNatClampNeg = 8 + e := nI_clamp (by omega)
  have hi8 : vp_in (nI (8 + e)) 24 := vp_in_nI (by omega) (by decide)
  refine xv_C_of (by decide) (Nat.le_refl _) (Nat.le_refl _) (xv_cat1 rfl) (Nat.le_of_ble_eq_true rfl) ?_
  show xv_X sc 0 J_Model_seal 0 [some (.ref M), some (.int (nI e)), none] [] u (xv_N u) (xv_S u) _
  have loop : ∀ (r k : Nat) (w : xv_M), k + r = n → xSeq u w M e k → xv_X sc 0 J_Model_seal 26 [some (.ref M), some (.int (nI e)), some (.int (nI k))] [] w (xv_N u) (xv_S u) (xv_q (xv_N u) (xv_S u) (xv_pv (fun w => xSeq u w M e n))) := by
    intro r
    induction r with
    | zero =>
      intro k w hk H
      have hk : k = n := by omega
      subst hk
      have H0 := H
      obtain ⟨z, b1, b2, b3, b4, b5⟩ := H
      have hMw := xSi_Mo z hM
      have hnw : xv_i w (M + 10) = xv_i u (M + 10) := z.2.2.2.2.2.2 _ (fun q => by unfold xSeS at q; omega)
      refine xv_iload_n (pc := 26) d_Model_seal_26 rfl rfl ?_
      refine xv_aload_n (pc := 27) d_Model_seal_27 rfl rfl ?_
      refine xv_getR (pc := 28) d_Model_seal_28 f_Model_37 rfl hMw.1 (xm_r9 hMw) ?_
      refine xv_bipush (pc := 31) 8 d_Model_seal_31 (by decide) ?_
      refine xv_iload_n (pc := 33) d_Model_seal_33 rfl rfl ?_
      refine xv_iadd (pc := 34) d_Model_seal_34 ?_
      refine xv_ald (pc := 35) d_Model_seal_35 (xm_k9 hMw) (by rw [x8]; exact xm_i9 hMw hi8) ?_
      refine xv_icmp_ge (pc := 36) 72 d_Model_seal_36 (by decide) (fun h36 => ?_) (fun h36 => ?_)
      case refine_2 =>
        rw [x8, hc8, hnw, hn] at h36
        exact absurd (Int32.le_refl _) h36
      exact xv_retvq (pc := 72) d_Model_seal_72 rfl z.1 z.2.1 ⟨rfl, H0⟩
    | succ r ih =>
      intro k w hk H
      obtain ⟨z, b1, b2, b3, b4, b5⟩ := H
      have hMw := xSi_Mo z hM
      have hnw : xv_i w (M + 10) = xv_i u (M + 10) := z.2.2.2.2.2.2 _ (fun q => by unfold xSeS at q; omega)
      have how : xv_i w (M + 7) = xv_i u (M + 7) := z.2.2.2.2.2.2 _ (fun q => by unfold xSeS at q; omega)
      have es : nI k + Int32.ofInt 1 = nI (k + 1) := by rw [nI_succ]; rfl
      have ct : (nI (280 * e + k)).toNatClampNeg = 280 * e + k := nI_clamp (by omega)
      have cf : (nI (280 * (8 + e) + k)).toNatClampNeg = 280 * (8 + e) + k := nI_clamp (by omega)
      have it : vp_in (nI (280 * e + k)) 2240 := vp_in_nI (by omega) (by decide)
      have jf : vp_in (nI (280 * (8 + e) + k)) 6720 := vp_in_nI (by omega) (by decide)
      refine xv_iload_n (pc := 26) d_Model_seal_26 rfl rfl ?_
      refine xv_aload_n (pc := 27) d_Model_seal_27 rfl rfl ?_
      refine xv_getR (pc := 28) d_Model_seal_28 f_Model_37 rfl hMw.1 (xm_r9 hMw) ?_
      refine xv_bipush (pc := 31) 8 d_Model_seal_31 (by decide) ?_
      refine xv_iload_n (pc := 33) d_Model_seal_33 rfl rfl ?_
      refine xv_iadd (pc := 34) d_Model_seal_34 ?_
      refine xv_ald (pc := 35) d_Model_seal_35 (xm_k9 hMw) (by rw [x8]; exact xm_i9 hMw hi8) ?_
      refine xv_icmp_ge (pc := 36) 72 d_Model_seal_36 (by decide) (fun h36 => ?_) (fun h36 => ?_)
      · rw [x8, hc8, hnw, hn] at h36
        exact absurd h36 (nI_ge (by omega) (by omega))
      refine xv_aload_n (pc := 39) d_Model_seal_39 rfl rfl ?_
      refine xv_getR (pc := 40) d_Model_seal_40 f_Model_71 rfl hMw.1 (xm_r20 hMw) ?_
      refine xv_sipush (pc := 43) 280 d_Model_seal_43 (by decide) ?_
      refine xv_iload_n (pc := 46) d_Model_seal_46 rfl rfl ?_
      refine xv_imul (pc := 47) d_Model_seal_47 ?_
      refine xv_iload_n (pc := 48) d_Model_seal_48 rfl rfl ?_
      refine xv_iadd (pc := 49) d_Model_seal_49 ?_
      refine xv_aload_n (pc := 50) d_Model_seal_50 rfl rfl ?_
      refine xv_getR (pc := 51) d_Model_seal_51 f_Model_28 rfl hMw.1 (xm_r6 hMw) ?_
      refine xv_sipush (pc := 54) 280 d_Model_seal_54 (by decide) ?_
      refine xv_bipush (pc := 57) 8 d_Model_seal_57 (by decide) ?_
      refine xv_iload_n (pc := 59) d_Model_seal_59 rfl rfl ?_
      refine xv_iadd (pc := 60) d_Model_seal_60 ?_
      refine xv_imul (pc := 61) d_Model_seal_61 ?_
      refine xv_iload_n (pc := 62) d_Model_seal_62 rfl rfl ?_
      refine xv_iadd (pc := 63) d_Model_seal_63 ?_
      refine xv_ald (pc := 64) d_Model_seal_64 (xm_k6 hMw) (by rw [xIdx8]; exact xm_i6 hMw jf) ?_
      refine xv_ast (pc := 65) d_Model_seal_65 (xm_k20 hMw) (by rw [xIdx]; exact xm_i20 hMw it) ?_
      refine xv_iinc_2 (pc := 66) (nI (k + 1)) d_Model_seal_66 es (by decide) rfl ?_
      refine xv_goto (pc := 69) 26 d_Model_seal_69 (by decide) ?_
      rw [xIdx, xIdx8, ct, cf, how]
      refine ih (k + 1) _ (by omega) ⟨xSi_tr z (xSi_si (Or.inr (Or.inr rfl))), xBk_s b1 (fun q => xv_si_if), fun q hq => ?_, ?_, fun q hq => ?_, ?_⟩
      · rw [xv_si_ne (by omega)]; exact b2 q hq
      · rw [xv_si_ne (by omega)]; exact b3
      · rw [xv_si_ne (by omega)]; exact b4 q hq
      · rw [xv_si_ne (by omega)]; exact b5
  refine xv_aload_n (pc := 0) d_Model_seal_0 rfl rfl ?_
  refine xv_getR (pc := 1) d_Model_seal_1 f_Model_68 rfl hM.1 (xm_r19 hM) ?_
  refine xv_iload_n (pc := 4) d_Model_seal_4 rfl rfl ?_
  refine xv_aload_n (pc := 5) d_Model_seal_5 rfl rfl ?_
  refine xv_getR (pc := 6) d_Model_seal_6 f_Model_59 rfl hM.1 (xm_r16 hM) ?_
  refine xv_iload_n (pc := 9) d_Model_seal_9 rfl rfl ?_
  refine xv_ald (pc := 10) d_Model_seal_10 (xm_k16 hM) (xm_i16 hM hie) ?_
  refine xv_ast (pc := 11) d_Model_seal_11 (xm_k19 hM) (xm_i19 hM hie) ?_
  refine xv_aload_n (pc := 12) d_Model_seal_12 rfl rfl ?_
  refine xv_getR (pc := 13) d_Model_seal_13 f_Model_56 rfl hM.1 (xm_r15 hM) ?_
  refine xv_iload_n (pc := 16) d_Model_seal_16 rfl rfl ?_
  refine xv_aload_n (pc := 17) d_Model_seal_17 rfl rfl ?_
  refine xv_getR (pc := 18) d_Model_seal_18 f_Model_53 rfl hM.1 (xm_r14 hM) ?_
  refine xv_iload_n (pc := 21) d_Model_seal_21 rfl rfl ?_
  refine xv_zald (pc := 22) d_Model_seal_22 (xm_k14 hM) (xm_i14 hM hie) ?_
  refine xv_zast (pc := 23) d_Model_seal_23 (xm_k15 hM) (xm_i15 hM hie) (by rw [hce, xv_si_ne (by omega)]; exact xNar ho) ?_
  refine xv_iconst (pc := 24) 0 d_Model_seal_24 (by decide) ?_
  refine xv_istore_2 (pc := 25) d_Model_seal_25 (by decide) rfl ?_
  rw [hce, xv_si_ne (by omega)]
  refine loop n 0 _ (by omega) ⟨xSi_tr (xSi_si (Or.inl rfl)) (xSi_si (Or.inr (Or.inl rfl))), ⟨fun q _ => ?_, fun k hk => absurd hk (Nat.not_lt_zero k)⟩, fun q hq => ?_, ?_, fun q hq => ?_, ?_⟩
  · rw [xv_si_ne (by omega), xv_si_ne (by omega)]
  · rw [xv_si_ne (by omega), xv_si_nj hq]
  · rw [xv_si_ne (by omega), xv_si_eq]
  · rw [xv_si_nj hq, xv_si_ne (by omega)]
  · rw [xv_si_eq]
theorem xB_iand (a b : Bool) : xB a &&& xB b = xB (a && b) := by cases a <;> cases b <;> decide
theorem c_Model_goes {sc : Nat × (Nat → Int32)} {u : xv_M} {M : Nat} (hM : xMo u M) {e n : Nat} (he : e < 8) (hn : xv_i u (M + 10) (8 + e) = nI n) (hn280 : n ≤ 280) : xv_C sc 0 J_Model_goes [.ref M, .int (nI e)] u (xv_N u) (xv_S u) (xv_pi (fun r w => r = xB ((decide (xv_i u (M + 20) e = xv_i u (M + 17) e) && decide (xv_i u (M + 16) e = xv_i u (M + 15) e)) && xSm (fun k => xv_i u (M + 21) (280 * e + k)) (fun k => xv_i u (M + 7) (280 * (8 + e) + k)) n) ∧ w = u)) := by
  have hce : (nI e).toNatClampNeg = e := nI_clamp (by omega)
  have hie : vp_in (nI e) 8 := vp_in_nI he (by decide)
  have hc8 : (nI (8 + e)).toNatClampNeg = 8 + e := nI_clamp (by omega)
  have hi8 : vp_in (nI (8 + e)) 24 := vp_in_nI (by omega) (by decide)
  refine xv_C_of (by decide) (Nat.le_refl _) (Nat.le_refl _) (xv_cat1 rfl) (Nat.le_of_ble_eq_true rfl) ?_
  show xv_X sc 0 J_Model_goes 0 [some (.ref M), some (.int (nI e)), none, none] [] u (xv_N u) (xv_S u) _
  generalize hG0 : (decide (xv_i u (M + 20) e = xv_i u (M + 17) e) && decide (xv_i u (M + 16) e = xv_i u (M + 15) e)) = G0
  generalize hf1 : (fun k => xv_i u (M + 21) (280 * e + k)) = f1
  generalize hf2 : (fun k => xv_i u (M + 7) (280 * (8 + e) + k)) = f2
  have loop : ∀ (r k : Nat), k + r = n → xv_X sc 0 J_Model_goes 38 [some (.ref M), some (.int (nI e)), some (.int (xB (G0 && xSm f1 f2 k))), some (.int (nI k))] [] u (xv_N u) (xv_S u) (xv_q (xv_N u) (xv_S u) (xv_pi (fun r w => r = xB (G0 && xSm f1 f2 n) ∧ w = u))) := by
    intro r
    induction r with
    | zero =>
      intro k hk
      have hk : k = n := by omega
      subst hk
      refine xv_iload_n (pc := 38) d_Model_goes_38 rfl rfl ?_
      refine xv_aload_n (pc := 39) d_Model_goes_39 rfl rfl ?_
      refine xv_getR (pc := 40) d_Model_goes_40 f_Model_37 rfl hM.1 (xm_r9 hM) ?_
      refine xv_bipush (pc := 43) 8 d_Model_goes_43 (by decide) ?_
      refine xv_iload_n (pc := 45) d_Model_goes_45 rfl rfl ?_
      refine xv_iadd (pc := 46) d_Model_goes_46 ?_
      refine xv_ald (pc := 47) d_Model_goes_47 (xm_k9 hM) (by rw [x8]; exact xm_i9 hM hi8) ?_
      refine xv_icmp_ge (pc := 48) 95 d_Model_goes_48 (by decide) (fun h48 => ?_) (fun h48 => ?_)
      case refine_2 =>
        rw [x8, hc8, hn] at h48
        exact absurd (Int32.le_refl _) h48
      refine xv_iload_n (pc := 95) d_Model_goes_95 rfl rfl ?_
      exact xv_retzq (pc := 96) d_Model_goes_96 rfl (xB_and _) rfl rfl ⟨_, rfl, rfl, rfl⟩
    | succ r ih =>
      intro k hk
      have es : nI k + Int32.ofInt 1 = nI (k + 1) := by rw [nI_succ]; rfl
      have ct : (nI (280 * e + k)).toNatClampNeg = 280 * e + k := nI_clamp (by omega)
      have cf : (nI (280 * (8 + e) + k)).toNatClampNeg = 280 * (8 + e) + k := nI_clamp (by omega)
      have it : vp_in (nI (280 * e + k)) 2240 := vp_in_nI (by omega) (by decide)
      have jf : vp_in (nI (280 * (8 + e) + k)) 6720 := vp_in_nI (by omega) (by decide)
      have h1 : f1 k = xv_i u (M + 21) (280 * e + k) := by rw [← hf1]
      have h2 : f2 k = xv_i u (M + 7) (280 * (8 + e) + k) := by rw [← hf2]
      have hs : xSm f1 f2 (k + 1) = (xSm f1 f2 k && decide (f1 k = f2 k)) := rfl
      refine xv_iload_n (pc := 38) d_Model_goes_38 rfl rfl ?_
      refine xv_aload_n (pc := 39) d_Model_goes_39 rfl rfl ?_
      refine xv_getR (pc := 40) d_Model_goes_40 f_Model_37 rfl hM.1 (xm_r9 hM) ?_
      refine xv_bipush (pc := 43) 8 d_Model_goes_43 (by decide) ?_
      refine xv_iload_n (pc := 45) d_Model_goes_45 rfl rfl ?_
      refine xv_iadd (pc := 46) d_Model_goes_46 ?_
      refine xv_ald (pc := 47) d_Model_goes_47 (xm_k9 hM) (by rw [x8]; exact xm_i9 hM hi8) ?_
      refine xv_icmp_ge (pc := 48) 95 d_Model_goes_48 (by decide) (fun h48 => ?_) (fun h48 => ?_)
      · rw [x8, hc8, hn] at h48
        exact absurd h48 (nI_ge (by omega) (by omega))
      have tail : ∀ b : Bool, b = decide (f1 k = f2 k) → xv_X sc 0 J_Model_goes 87 [some (.ref M), some (.int (nI e)), some (.int (xB (G0 && xSm f1 f2 k))), some (.int (nI k))] [.int (xB b), .int (xB (G0 && xSm f1 f2 k))] u (xv_N u) (xv_S u) (xv_q (xv_N u) (xv_S u) (xv_pi (fun r w => r = xB (G0 && xSm f1 f2 n) ∧ w = u))) := by
        intro b hb
        refine xv_iand (pc := 87) d_Model_goes_87 ?_
        refine xv_istore_2 (pc := 88) d_Model_goes_88 (by decide) rfl ?_
        refine xv_iinc_3 (pc := 89) (nI (k + 1)) d_Model_goes_89 es (by decide) rfl ?_
        refine xv_goto (pc := 92) 38 d_Model_goes_92 (by decide) ?_
        rw [xB_iand, hb, Bool.and_assoc, ← hs]
        exact ih (k + 1) (by omega)
      refine xv_iload_n (pc := 51) d_Model_goes_51 rfl rfl ?_
      refine xv_aload_n (pc := 52) d_Model_goes_52 rfl rfl ?_
      refine xv_getR (pc := 53) d_Model_goes_53 f_Model_71 rfl hM.1 (xm_r20 hM) ?_
      refine xv_sipush (pc := 56) 280 d_Model_goes_56 (by decide) ?_
      refine xv_iload_n (pc := 59) d_Model_goes_59 rfl rfl ?_
      refine xv_imul (pc := 60) d_Model_goes_60 ?_
      refine xv_iload_n (pc := 61) d_Model_goes_61 rfl rfl ?_
      refine xv_iadd (pc := 62) d_Model_goes_62 ?_
      refine xv_ald (pc := 63) d_Model_goes_63 (xm_k20 hM) (by rw [xIdx]; exact xm_i20 hM it) ?_
      refine xv_aload_n (pc := 64) d_Model_goes_64 rfl rfl ?_
      refine xv_getR (pc := 65) d_Model_goes_65 f_Model_28 rfl hM.1 (xm_r6 hM) ?_
      refine xv_sipush (pc := 68) 280 d_Model_goes_68 (by decide) ?_
      refine xv_bipush (pc := 71) 8 d_Model_goes_71 (by decide) ?_
      refine xv_iload_n (pc := 73) d_Model_goes_73 rfl rfl ?_
      refine xv_iadd (pc := 74) d_Model_goes_74 ?_
      refine xv_imul (pc := 75) d_Model_goes_75 ?_
      refine xv_iload_n (pc := 76) d_Model_goes_76 rfl rfl ?_
      refine xv_iadd (pc := 77) d_Model_goes_77 ?_
      refine xv_ald (pc := 78) d_Model_goes_78 (xm_k6 hM) (by rw [xIdx8]; exact xm_i6 hM jf) ?_
      refine xv_icmp_ne (pc := 79) 86 d_Model_goes_79 (by decide) (fun h79 => ?_) (fun h79 => ?_)
      · rw [xIdx, xIdx8, ct, cf, ← h1, ← h2] at h79
        refine xv_iconst (pc := 86) 0 d_Model_goes_86 (by decide) ?_
        exact tail false (decide_eq_false h79).symm
      · rw [xIdx, xIdx8, ct, cf, ← h1, ← h2] at h79
        refine xv_iconst (pc := 82) 1 d_Model_goes_82 (by decide) ?_
        refine xv_goto (pc := 83) 87 d_Model_goes_83 (by decide) ?_
        exact tail true (decide_eq_true h79).symm
  have st : ∀ b : Bool, b = G0 → xv_X sc 0 J_Model_goes 35 [some (.ref M), some (.int (nI e)), none, none] [.int (xB b)] u (xv_N u) (xv_S u) (xv_q (xv_N u) (xv_S u) (xv_pi (fun r w => r = xB (G0 && xSm f1 f2 n) ∧ w = u))) := by
    intro b hb
    subst hb
    refine xv_istore_2 (pc := 35) d_Model_goes_35 (by decide) rfl ?_
    refine xv_iconst (pc := 36) 0 d_Model_goes_36 (by decide) ?_
    refine xv_istore_3 (pc := 37) d_Model_goes_37 (by decide) rfl ?_
    have := loop n 0 (by omega)
    rw [show xSm f1 f2 0 = true from rfl, Bool.and_true] at this
    exact this
  refine xv_aload_n (pc := 0) d_Model_goes_0 rfl rfl ?_
  refine xv_getR (pc := 1) d_Model_goes_1 f_Model_68 rfl hM.1 (xm_r19 hM) ?_
  refine xv_iload_n (pc := 4) d_Model_goes_4 rfl rfl ?_
  refine xv_ald (pc := 5) d_Model_goes_5 (xm_k19 hM) (xm_i19 hM hie) ?_
  refine xv_aload_n (pc := 6) d_Model_goes_6 rfl rfl ?_
  refine xv_getR (pc := 7) d_Model_goes_7 f_Model_59 rfl hM.1 (xm_r16 hM) ?_
  refine xv_iload_n (pc := 10) d_Model_goes_10 rfl rfl ?_
  refine xv_ald (pc := 11) d_Model_goes_11 (xm_k16 hM) (xm_i16 hM hie) ?_
  refine xv_icmp_ne (pc := 12) 34 d_Model_goes_12 (by decide) (fun h12 => ?_) (fun h12 => ?_)
  · rw [hce] at h12
    refine xv_iconst (pc := 34) 0 d_Model_goes_34 (by decide) ?_
    exact st false (by rw [← hG0, decide_eq_false h12]; rfl)
  · rw [hce] at h12
    refine xv_aload_n (pc := 15) d_Model_goes_15 rfl rfl ?_
    refine xv_getR (pc := 16) d_Model_goes_16 f_Model_56 rfl hM.1 (xm_r15 hM) ?_
    refine xv_iload_n (pc := 19) d_Model_goes_19 rfl rfl ?_
    refine xv_zald (pc := 20) d_Model_goes_20 (xm_k15 hM) (xm_i15 hM hie) ?_
    refine xv_aload_n (pc := 21) d_Model_goes_21 rfl rfl ?_
    refine xv_getR (pc := 22) d_Model_goes_22 f_Model_53 rfl hM.1 (xm_r14 hM) ?_
    refine xv_iload_n (pc := 25) d_Model_goes_25 rfl rfl ?_
    refine xv_zald (pc := 26) d_Model_goes_26 (xm_k14 hM) (xm_i14 hM hie) ?_
    refine xv_icmp_ne (pc := 27) 34 d_Model_goes_27 (by decide) (fun h27 => ?_) (fun h27 => ?_)
    · rw [hce] at h27
      refine xv_iconst (pc := 34) 0 d_Model_goes_34 (by decide) ?_
      exact st false (by rw [← hG0, decide_eq_false h27, Bool.and_false])
    · rw [hce] at h27
      refine xv_iconst (pc := 30) 1 d_Model_goes_30 (by decide) ?_
      refine xv_goto (pc := 31) 35 d_Model_goes_31 (by decide) ?_
      exact st true (by rw [← hG0, decide_eq_true h12, decide_eq_true h27]; rfl)

