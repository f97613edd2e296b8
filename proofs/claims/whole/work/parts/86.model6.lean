/-! the model: compile -/
def xCpq (u w : xv_M) (M n f e k : Nat) : Prop := ∃ w2 w3, xCUq (xv_si (xv_si (xv_si (xv_si (if e = n then xv_si u M 31 (nI (n + 1)) else u) (M + 17) e (nI f)) (M + 19) e (nI f)) (M + 18) e (xv_i u (M + 4) f)) (M + 15) e 0) w2 M (8 + e) f k k ∧ xSeq w2 w3 M e k ∧ w = xv_si w3 M 30 (xv_i w3 M 31)
def xCpN (u : xv_M) (M : Nat) (x : Int32) : Prop := (0 ≤ x ∧ x ≤ 7) ∧ ¬ xv_i u (M + 3) x.toNatClampNeg = 0
theorem xFi_ne (f : Nat → Int32) (x : Int32) : ∀ r k, xFi f x r k < k + r → f (xFi f x r k) = x := by
  intro r
  induction r with
  | zero => intro k h; exact absurd h (Nat.lt_irrefl _)
  | succ r ih =>
    intro k h
    unfold xFi at h ⊢
    by_cases c : f k = x
    · rw [if_pos c]; exact c
    · rw [if_neg c] at h ⊢
      exact ih (k + 1) (by omega)
theorem c_Model_compile {sc : Nat × (Nat → Int32)} {u : xv_M} {M n : Nat} {U : Nat → Nat} {x : Int32} (hM : xMo u M) (hn : xv_i u M 31 = nI n) (hlt : n ≤ 8) (hU : ∀ f, f < 8 → ¬ xv_i u (M + 3) f = 0 → xv_i u (M + 10) f = nI (U f) ∧ U f ≤ 265 ∧ ∀ k, k < U f → xv_i u (M + 13) (280 * f + k) = 0 ∨ xv_i u (M + 13) (280 * f + k) = 1) : xv_C sc 1 J_Model_compile [.ref M, .int x] u (xv_N u) (xv_S u) (xv_pi (fun r w => (¬ xCpN u M x ∧ r = -1 ∧ w = u) ∨ (xCpN u M x ∧ xFi (fun e => xv_i u (M + 17) e) x n 0 = 8 ∧ r = -2 ∧ w = u) ∨ ∃ f e, f < 8 ∧ x = nI f ∧ ¬ xv_i u (M + 3) f = 0 ∧ e = xFi (fun e => xv_i u (M + 17) e) x n 0 ∧ e < 8 ∧ r = nI e ∧ xCpq u w M n f e (U f))) := by
  refine xv_C_of (by decide) (Nat.le_refl _) (Nat.le_refl _) (xv_cat1 rfl) (Nat.le_of_ble_eq_true rfl) ?_
  show xv_X sc 1 J_Model_compile 0 [some (.ref M), some (.int x), none] [] u (xv_N u) (xv_S u) _
  refine xv_iload_n (pc := 0) d_Model_compile_0 rfl rfl ?_
  refine xv_iconst (pc := 1) 0 d_Model_compile_1 (by decide) ?_
  refine xv_bipush (pc := 2) 7 d_Model_compile_2 (by decide) ?_
  refine xv_cS3i (pc := 4) (d1 := 0) c_Model_is m_Model_is l_Model_102 d_Model_compile_4 (by omega) (Nat.le_of_ble_eq_true rfl) ⟨Nat.le_refl _, Nat.le_refl _⟩ (fun r w hw hN hS => ?_)
  obtain ⟨rfl, hw⟩ := hw
  subst w
  refine xv_if_eq (pc := 7) 19 d_Model_compile_7 (by decide) (fun h7 => ?_) (fun h7 => ?_)
  · have e0 := xw_eq h7
    refine xv_iconst (pc := 19) (-1) d_Model_compile_19 (by decide) ?_
    exact xv_retiq (pc := 20) d_Model_compile_20 rfl rfl rfl ⟨_, rfl, Or.inl ⟨fun q => e0 q.1, rfl, rfl⟩⟩
  have e0 := xw_ne h7
  obtain ⟨f, hf, rfl⟩ := xI8 e0
  have hcf : (nI f).toNatClampNeg = f := nI_clamp (by omega)
  have hif8 : vp_in (nI f) 8 := vp_in_nI hf (by decide)
  refine xv_aload_n (pc := 10) d_Model_compile_10 rfl rfl ?_
  refine xv_getR (pc := 11) d_Model_compile_11 f_Model_16 rfl hM.1 (xm_r2 hM) ?_
  refine xv_iload_n (pc := 14) d_Model_compile_14 rfl rfl ?_
  refine xv_ald (pc := 15) d_Model_compile_15 (xm_k2 hM) (xm_i2 hM (vp_in_nI (by omega) (by decide))) ?_
  refine xv_if_ne (pc := 16) 21 d_Model_compile_16 (by decide) (fun h16 => ?_) (fun h16 => ?_)
  case refine_2 =>
    refine xv_iconst (pc := 19) (-1) d_Model_compile_19 (by decide) ?_
    exact xv_retiq (pc := 20) d_Model_compile_20 rfl rfl rfl ⟨_, rfl, Or.inl ⟨fun q => q.2 h16, rfl, rfl⟩⟩
  have hyes : xCpN u M (nI f) := ⟨e0, h16⟩
  rw [hcf] at h16
  obtain ⟨u1, u2, u3⟩ := hU f hf h16
  refine xv_iconst (pc := 21) 0 d_Model_compile_21 (by decide) ?_
  refine xv_istore_2 (pc := 22) d_Model_compile_22 (by decide) rfl ?_
  generalize hE : xFi (fun e => xv_i u (M + 17) e) (nI f) n 0 = E
  have hEn : E ≤ n := by have := xFi_le (fun e => xv_i u (M + 17) e) (nI f) n 0; omega
  have tail : xv_X sc 1 J_Model_compile 47 [some (.ref M), some (.int (nI f)), some (.int (nI E))] [] u (xv_N u) (xv_S u) (xv_q (xv_N u) (xv_S u) (xv_pi (fun r w => (¬ xCpN u M (nI f) ∧ r = -1 ∧ w = u) ∨ (xCpN u M (nI f) ∧ E = 8 ∧ r = -2 ∧ w = u) ∨ ∃ f' e, f' < 8 ∧ nI f = nI f' ∧ ¬ xv_i u (M + 3) f' = 0 ∧ e = E ∧ e < 8 ∧ r = nI e ∧ xCpq u w M n f' e (U f')))) := by
    have q8 : (nI E = 8) ↔ E = 8 := nI_eq (b := 8) (by omega) (by decide)
    have qn : (nI E = nI n) ↔ E = n := nI_eq (by omega) (by omega)
    have hcE : (nI E).toNatClampNeg = E := nI_clamp (by omega)
    refine xv_iload_n (pc := 47) d_Model_compile_47 rfl rfl ?_
    refine xv_bipush (pc := 48) 8 d_Model_compile_48 (by decide) ?_
    refine xv_icmp_ne (pc := 50) 56 d_Model_compile_50 (by decide) (fun h50 => ?_) (fun h50 => ?_)
    case refine_2 =>
      rw [q8] at h50
      refine xv_bipush (pc := 53) (-2) d_Model_compile_53 (by decide) ?_
      exact xv_retiq (pc := 55) d_Model_compile_55 rfl rfl rfl ⟨_, rfl, Or.inr (Or.inl ⟨hyes, h50, rfl, rfl⟩)⟩
    rw [q8] at h50
    have hE8 : E < 8 := by omega
    have hiE : vp_in (nI E) 8 := vp_in_nI hE8 (by decide)
    have fin : ∀ w0, w0 = (if E = n then xv_si u M 31 (nI (n + 1)) else u) → xv_X sc 1 J_Model_compile 74 [some (.ref M), some (.int (nI f)), some (.int (nI E))] [] w0 (xv_N u) (xv_S u) (xv_q (xv_N u) (xv_S u) (xv_pi (fun r w => (¬ xCpN u M (nI f) ∧ r = -1 ∧ w = u) ∨ (xCpN u M (nI f) ∧ E = 8 ∧ r = -2 ∧ w = u) ∨ ∃ f' e, f' < 8 ∧ nI f = nI f' ∧ ¬ xv_i u (M + 3) f' = 0 ∧ e = E ∧ e < 8 ∧ r = nI e ∧ xCpq u w M n f' e (U f')))) := by
      intro w0 hw0
      have z0 : xSi (fun b => b = M) u w0 := by
        rw [hw0]
        split
        · exact xSi_si rfl
        · exact xSi_rf
      have hM0 := xSi_Mo z0 hM
      have hpar : xv_i w0 (M + 4) f = xv_i u (M + 4) f := by rw [z0.2.2.2.2.2.2 _ (by omega)]
      have hmany : ∀ q, xv_i w0 (M + 10) q = xv_i u (M + 10) q := fun q => by rw [z0.2.2.2.2.2.2 _ (by omega)]
      have hfix : ∀ q, xv_i w0 (M + 13) q = xv_i u (M + 13) q := fun q => by rw [z0.2.2.2.2.2.2 _ (by omega)]
      refine xv_aload_n (pc := 74) d_Model_compile_74 rfl rfl ?_
      refine xv_getR (pc := 75) d_Model_compile_75 f_Model_59 rfl hM0.1 (xm_r16 hM0) ?_
      refine xv_iload_n (pc := 78) d_Model_compile_78 rfl rfl ?_
      refine xv_iload_n (pc := 79) d_Model_compile_79 rfl rfl ?_
      refine xv_ast (pc := 80) d_Model_compile_80 (xm_k16 hM0) (xm_i16 hM0 hiE) ?_
      refine xv_aload_n (pc := 81) d_Model_compile_81 rfl rfl ?_
      refine xv_getR (pc := 82) d_Model_compile_82 f_Model_65 rfl hM0.1 (xm_r18 hM0) ?_
      refine xv_iload_n (pc := 85) d_Model_compile_85 rfl rfl ?_
      refine xv_iload_n (pc := 86) d_Model_compile_86 rfl rfl ?_
      refine xv_ast (pc := 87) d_Model_compile_87 (xm_k18 hM0) (xm_i18 hM0 hiE) ?_
      refine xv_aload_n (pc := 88) d_Model_compile_88 rfl rfl ?_
      refine xv_getR (pc := 89) d_Model_compile_89 f_Model_62 rfl hM0.1 (xm_r17 hM0) ?_
      refine xv_iload_n (pc := 92) d_Model_compile_92 rfl rfl ?_
      refine xv_aload_n (pc := 93) d_Model_compile_93 rfl rfl ?_
      refine xv_getR (pc := 94) d_Model_compile_94 f_Model_19 rfl hM0.1 (xm_r3 hM0) ?_
      refine xv_iload_n (pc := 97) d_Model_compile_97 rfl rfl ?_
      refine xv_ald (pc := 98) d_Model_compile_98 (xm_k3 hM0) (xm_i3 hM0 hif8) ?_
      refine xv_ast (pc := 99) d_Model_compile_99 (xm_k17 hM0) (xm_i17 hM0 hiE) ?_
      refine xv_aload_n (pc := 100) d_Model_compile_100 rfl rfl ?_
      refine xv_getR (pc := 101) d_Model_compile_101 f_Model_53 rfl hM0.1 (xm_r14 hM0) ?_
      refine xv_iload_n (pc := 104) d_Model_compile_104 rfl rfl ?_
      refine xv_iconst (pc := 105) 0 d_Model_compile_105 (by decide) ?_
      refine xv_zast (pc := 106) d_Model_compile_106 (xm_k14 hM0) (xm_i14 hM0 hiE) (by decide) ?_
      refine xv_aload_n (pc := 107) d_Model_compile_107 rfl rfl ?_
      refine xv_bipush (pc := 108) 8 d_Model_compile_108 (by decide) ?_
      refine xv_iload_n (pc := 110) d_Model_compile_110 rfl rfl ?_
      refine xv_iadd (pc := 111) d_Model_compile_111 ?_
      refine xv_iload_n (pc := 112) d_Model_compile_112 rfl rfl ?_
      rw [hcE, hcf, xv_si_ne (by omega), xv_si_ne (by omega), hpar, x8]
      generalize hW1 : xv_si (xv_si (xv_si (xv_si w0 (M + 17) E (nI f)) (M + 19) E (nI f)) (M + 18) E (xv_i u (M + 4) f)) (M + 15) E 0 = W1
      have z1 : xSi (fun b => b = M ∨ b = M + 17 ∨ b = M + 19 ∨ b = M + 18 ∨ b = M + 15) u W1 := by
        rw [← hW1]
        exact xSi_tr (xSi_mono z0 (fun _ h => Or.inl h)) (xSi_tr (xSi_tr (xSi_tr (xSi_si (Or.inr (Or.inl rfl))) (xSi_si (Or.inr (Or.inr (Or.inl rfl))))) (xSi_si (Or.inr (Or.inr (Or.inr (Or.inl rfl)))))) (xSi_si (Or.inr (Or.inr (Or.inr (Or.inr rfl))))))
      have hM1 := xSi_Mo z1 hM
      have m1 : ∀ q, xv_i W1 (M + 10) q = xv_i u (M + 10) q := fun q => by rw [z1.2.2.2.2.2.2 _ (by omega)]
      have m2 : ∀ q, xv_i W1 (M + 13) q = xv_i u (M + 13) q := fun q => by rw [z1.2.2.2.2.2.2 _ (by omega)]
      have m3 : xv_i W1 (M + 15) E = 0 := by rw [← hW1]; exact xv_si_eq
      refine xv_cV2v (pc := 113) (d1 := 0) (c_Model_copyUnits (u := W1) (t := 8 + E) (f := f) (n := U f) hM1 (by omega) (by omega) (by omega) (by rw [m1]; exact u1) (by omega) (fun k hk => by rw [m2]; exact u3 k hk)) m_Model_copyUnits l_Model_175 d_Model_compile_113 (by omega) (by decide : 11 < xv_nc) rfl hM1.1 (Nat.le_of_ble_eq_true rfl) (xSi_le z1) (fun w2 hw2 hN hS => ?_)
      have z2 := hw2.1
      have hM2 := xSi_Mo z2 hM1
      have m4 : xv_i w2 (M + 15) E = 0 := by rw [z2.2.2.2.2.2.2 _ (fun q => by unfold xCU at q; omega)]; exact m3
      have m5 := hw2.2.2.2.2.2.2.1
      refine xv_aload_n (pc := 116) d_Model_compile_116 rfl rfl ?_
      refine xv_iload_n (pc := 117) d_Model_compile_117 rfl rfl ?_
      refine xv_cV1v (pc := 118) (d1 := 0) (c_Model_seal (u := w2) (e := E) (n := U f) hM2 hE8 m5 (by omega) (Or.inl m4)) m_Model_seal l_Model_178 d_Model_compile_118 (by omega) (by decide : 11 < xv_nc) rfl hM2.1 (Nat.le_of_ble_eq_true rfl) ⟨by rw [z2.1, z1.1]; exact Nat.le_refl _, by rw [z2.2.1, z1.2.1]; exact Nat.le_refl _⟩ (fun w3 hw3 hN hS => ?_)
      have hM3 := xSi_Mo hw3.1 hM2
      refine xv_aload_n (pc := 121) d_Model_compile_121 rfl rfl ?_
      refine xv_aload_n (pc := 122) d_Model_compile_122 rfl rfl ?_
      refine xv_getI (pc := 123) d_Model_compile_123 f_Model_172 rfl hM3.1 ?_
      refine xv_putI (pc := 126) d_Model_compile_126 f_Model_181 (Or.inl rfl) fin_11_30 hM3.1 ?_
      refine xv_iload_n (pc := 129) d_Model_compile_129 rfl rfl ?_
      exact xv_retiq (pc := 130) d_Model_compile_130 rfl (by show xv_N w3 = _; rw [hw3.1.1, z2.1, z1.1]) (by show xv_S w3 = _; rw [hw3.1.2.1, z2.2.1, z1.2.1]) ⟨_, rfl, Or.inr (Or.inr ⟨f, E, hf, rfl, h16, rfl, hE8, rfl, w2, w3, by rw [← hw0, hW1]; exact hw2, hw3, rfl⟩)⟩
    refine xv_iload_n (pc := 56) d_Model_compile_56 rfl rfl ?_
    refine xv_aload_n (pc := 57) d_Model_compile_57 rfl rfl ?_
    refine xv_getI (pc := 58) d_Model_compile_58 f_Model_172 rfl hM.1 ?_
    refine xv_icmp_ne (pc := 61) 74 d_Model_compile_61 (by decide) (fun h61 => ?_) (fun h61 => ?_)
    · rw [hn, qn] at h61
      exact fin u (by rw [if_neg h61])
    · rw [hn, qn] at h61
      have en : nI n + 1 = nI (n + 1) := by rw [nI_succ]
      refine xv_aload_n (pc := 64) d_Model_compile_64 rfl rfl ?_
      refine xv_dup_ref (pc := 65) d_Model_compile_65 ?_
      refine xv_getI (pc := 66) d_Model_compile_66 f_Model_172 rfl hM.1 ?_
      refine xv_iconst (pc := 69) 1 d_Model_compile_69 (by decide) ?_
      refine xv_iadd (pc := 70) d_Model_compile_70 ?_
      refine xv_putI (pc := 71) d_Model_compile_71 f_Model_172 (Or.inl rfl) fin_11_31 hM.1 ?_
      rw [hn, en]
      exact fin _ (by rw [if_pos h61])
  have loop : ∀ (r k : Nat), k + r = n → xFi (fun e => xv_i u (M + 17) e) (nI f) r k = E → xv_X sc 1 J_Model_compile 23 [some (.ref M), some (.int (nI f)), some (.int (nI k))] [] u (xv_N u) (xv_S u) (xv_q (xv_N u) (xv_S u) (xv_pi (fun r w => (¬ xCpN u M (nI f) ∧ r = -1 ∧ w = u) ∨ (xCpN u M (nI f) ∧ E = 8 ∧ r = -2 ∧ w = u) ∨ ∃ f' e, f' < 8 ∧ nI f = nI f' ∧ ¬ xv_i u (M + 3) f' = 0 ∧ e = E ∧ e < 8 ∧ r = nI e ∧ xCpq u w M n f' e (U f')))) := by
    intro r
    induction r with
    | zero =>
      intro k hk hx
      have hx : k = E := hx
      subst hx
      refine xv_iload_n (pc := 23) d_Model_compile_23 rfl rfl ?_
      refine xv_aload_n (pc := 24) d_Model_compile_24 rfl rfl ?_
      refine xv_getI (pc := 25) d_Model_compile_25 f_Model_172 rfl hM.1 ?_
      refine xv_icmp_ge (pc := 28) 47 d_Model_compile_28 (by decide) (fun h28 => ?_) (fun h28 => ?_)
      · exact tail
      · rw [hn] at h28
        exact absurd (nI_le (by omega) (by omega)) h28
    | succ r ih =>
      intro k hk hx
      have es : nI k + Int32.ofInt 1 = nI (k + 1) := by rw [nI_succ]; rfl
      have hck : (nI k).toNatClampNeg = k := nI_clamp (by omega)
      unfold xFi at hx
      refine xv_iload_n (pc := 23) d_Model_compile_23 rfl rfl ?_
      refine xv_aload_n (pc := 24) d_Model_compile_24 rfl rfl ?_
      refine xv_getI (pc := 25) d_Model_compile_25 f_Model_172 rfl hM.1 ?_
      refine xv_icmp_ge (pc := 28) 47 d_Model_compile_28 (by decide) (fun h28 => ?_) (fun h28 => ?_)
      · rw [hn] at h28
        exact absurd h28 (nI_ge (by omega) (by omega))
      refine xv_aload_n (pc := 31) d_Model_compile_31 rfl rfl ?_
      refine xv_getR (pc := 32) d_Model_compile_32 f_Model_59 rfl hM.1 (xm_r16 hM) ?_
      refine xv_iload_n (pc := 35) d_Model_compile_35 rfl rfl ?_
      refine xv_ald (pc := 36) d_Model_compile_36 (xm_k16 hM) (xm_i16 hM (vp_in_nI (by omega) (by decide))) ?_
      refine xv_iload_n (pc := 37) d_Model_compile_37 rfl rfl ?_
      refine xv_icmp_eq (pc := 38) 47 d_Model_compile_38 (by decide) (fun h38 => ?_) (fun h38 => ?_)
      · rw [hck] at h38
        rw [if_pos h38] at hx
        subst hx
        exact tail
      · rw [hck] at h38
        rw [if_neg h38] at hx
        refine xv_iinc_2 (pc := 41) (nI (k + 1)) d_Model_compile_41 es (by decide) rfl ?_
        refine xv_goto (pc := 44) 23 d_Model_compile_44 (by decide) ?_
        exact ih (k + 1) (by omega) hx
  exact loop n 0 (by omega) hE

