/-! the model: put, fix -/
/-- the row of units that is being made: how many, numbers, firsts, seconds, marks -/
def xMT (w : xv_M) (M f : Nat) (σ : xQ) : Prop := xv_i w M 36 = nI σ.1 ∧ (∀ i, i < σ.1 → xv_i w (M + 7) (280 * f + i) = σ.2.1 i ∧ xv_i w (M + 8) (280 * f + i) = σ.2.2.1 i ∧ xv_i w (M + 9) (280 * f + i) = σ.2.2.2.1 i ∧ xv_i w (M + 13) (280 * f + i) = σ.2.2.2.2.1 i) ∧ ∀ i, σ.1 ≤ i → i < 265 → σ.2.2.2.2.1 i = 0
def xPS (M b : Nat) : Prop := b = M ∨ b = M + 7 ∨ b = M + 8 ∨ b = M + 9 ∨ b = M + 13
/-- nothing else has changed -/
def xPF (u w : xv_M) (M f : Nat) : Prop := xSi (xPS M) u w ∧ (∀ j, ¬ j = 36 → xv_i w M j = xv_i u M j) ∧ ∀ c, c = 7 ∨ c = 8 ∨ c = 9 ∨ c = 13 → ∀ q, q < 280 * f ∨ 280 * f + 280 ≤ q → xv_i w (M + c) q = xv_i u (M + c) q
theorem xPF_rf {u : xv_M} {M f : Nat} : xPF u u M f := ⟨xSi_rf, fun _ _ => rfl, fun _ _ _ _ => rfl⟩
theorem xPF_tr {u v w : xv_M} {M f : Nat} (a : xPF u v M f) (b : xPF v w M f) : xPF u w M f := ⟨xSi_tr a.1 b.1, fun j hj => (b.2.1 j hj).trans (a.2.1 j hj), fun c hc q hq => (b.2.2 c hc q hq).trans (a.2.2 c hc q hq)⟩
theorem xPF_row {u : xv_M} {M f c i : Nat} {v : Int32} (hc : c = 7 ∨ c = 8 ∨ c = 9 ∨ c = 13) (hi : i < 280) : xPF u (xv_si u (M + c) (280 * f + i) v) M f := by
  refine ⟨xSi_si (by unfold xPS; omega), fun j hj => xv_si_ne (by omega), fun c' hc' q hq => ?_⟩
  by_cases e : c' = c
  · subst e; exact xv_si_nj (by omega)
  · exact xv_si_ne (by omega)
theorem xPF_n {u : xv_M} {M f : Nat} {v : Int32} : xPF u (xv_si u M 36 v) M f := ⟨xSi_si (Or.inl rfl), fun j hj => xv_si_nj hj, fun c hc q hq => xv_si_ne (by omega)⟩
theorem xMT_sh {w : xv_M} {M f : Nat} {σ : xQ} {y : Int32} (h : xMT w M f σ) : xMT w M f (xSh σ y) := h
theorem c_Model_put {sc : Nat × (Nat → Int32)} {u : xv_M} {M f : Nat} {σ : xQ} (hM : xMo u M) (hf : f < 8) (hT : xMT u M f σ) (hn : σ.1 < 265) {o : Nat} {a : Int32} : xv_C sc 0 J_Model_put [.ref M, .int (nI f), .int (nI o), .int a, .int 0] u (xv_N u) (xv_S u) (xv_pi (fun r w => r = nI σ.1 ∧ xMT w M f (xEm σ o a) ∧ xPF u w M f)) := by
  obtain ⟨h1, h2, h3⟩ := hT
  have ci : (nI (280 * f + σ.1)).toNatClampNeg = 280 * f + σ.1 := nI_clamp (by omega)
  have ii : vp_in (nI (280 * f + σ.1)) 6720 := vp_in_nI (by omega) (by decide)
  have es : nI σ.1 + 1 = nI (σ.1 + 1) := by rw [nI_succ]
  refine xv_C_of (by decide) (Nat.le_refl _) (Nat.le_refl _) (xv_cat1 rfl) (Nat.le_of_ble_eq_true rfl) ?_
  show xv_X sc 0 J_Model_put 0 [some (.ref M), some (.int (nI f)), some (.int (nI o)), some (.int a), some (.int 0), none] [] u (xv_N u) (xv_S u) _
  refine xv_sipush (pc := 0) 280 d_Model_put_0 (by decide) ?_
  refine xv_iload_n (pc := 3) d_Model_put_3 rfl rfl ?_
  refine xv_imul (pc := 4) d_Model_put_4 ?_
  refine xv_aload_n (pc := 5) d_Model_put_5 rfl rfl ?_
  refine xv_getI (pc := 6) d_Model_put_6 f_Model_125 rfl hM.1 ?_
  refine xv_iadd (pc := 9) d_Model_put_9 ?_
  refine xv_istore_5 (pc := 10) d_Model_put_10 (by decide) rfl ?_
  rw [h1, xIdx]
  refine xv_aload_n (pc := 12) d_Model_put_12 rfl rfl ?_
  refine xv_getR (pc := 13) d_Model_put_13 f_Model_28 rfl hM.1 (xm_r6 hM) ?_
  refine xv_iload (pc := 16) d_Model_put_16 rfl ?_
  refine xv_iload_n (pc := 18) d_Model_put_18 rfl rfl ?_
  refine xv_ast (pc := 19) d_Model_put_19 (xm_k6 hM) (xm_i6 hM ii) ?_
  refine xv_aload_n (pc := 20) d_Model_put_20 rfl rfl ?_
  refine xv_getR (pc := 21) d_Model_put_21 f_Model_31 rfl hM.1 (xm_r7 hM) ?_
  refine xv_iload (pc := 24) d_Model_put_24 rfl ?_
  refine xv_iload_n (pc := 26) d_Model_put_26 rfl rfl ?_
  refine xv_ast (pc := 27) d_Model_put_27 (xm_k7 hM) (xm_i7 hM ii) ?_
  refine xv_aload_n (pc := 28) d_Model_put_28 rfl rfl ?_
  refine xv_getR (pc := 29) d_Model_put_29 f_Model_34 rfl hM.1 (xm_r8 hM) ?_
  refine xv_iload (pc := 32) d_Model_put_32 rfl ?_
  refine xv_iload (pc := 34) d_Model_put_34 rfl ?_
  refine xv_ast (pc := 36) d_Model_put_36 (xm_k8 hM) (xm_i8 hM ii) ?_
  refine xv_aload_n (pc := 37) d_Model_put_37 rfl rfl ?_
  refine xv_getR (pc := 38) d_Model_put_38 f_Model_46 rfl hM.1 (xm_r12 hM) ?_
  refine xv_iload (pc := 41) d_Model_put_41 rfl ?_
  refine xv_iconst (pc := 43) 0 d_Model_put_43 (by decide) ?_
  refine xv_zast (pc := 44) d_Model_put_44 (xm_k12 hM) (xm_i12 hM ii) (by decide) ?_
  refine xv_aload_n (pc := 45) d_Model_put_45 rfl rfl ?_
  refine xv_dup_ref (pc := 46) d_Model_put_46 ?_
  refine xv_getI (pc := 47) d_Model_put_47 f_Model_125 rfl hM.1 ?_
  refine xv_dup_x1r (pc := 50) d_Model_put_50 ?_
  refine xv_iconst (pc := 51) 1 d_Model_put_51 (by decide) ?_
  refine xv_iadd (pc := 52) d_Model_put_52 ?_
  refine xv_putI (pc := 53) d_Model_put_53 f_Model_125 (Or.inl rfl) fin_11_36 hM.1 ?_
  rw [ci]
  have hu : xv_i (xv_si (xv_si (xv_si (xv_si u (M + 7) (280 * f + σ.1) (nI o)) (M + 8) (280 * f + σ.1) a) (M + 9) (280 * f + σ.1) 0) (M + 13) (280 * f + σ.1) 0) M 36 = nI σ.1 := by
    rw [xv_si_ne (by omega), xv_si_ne (by omega), xv_si_ne (by omega), xv_si_ne (by omega)]; exact h1
  rw [hu, es]
  refine xv_retiq (pc := 56) d_Model_put_56 rfl rfl rfl ⟨_, rfl, rfl, ⟨xv_si_eq, fun i hi => ?_, fun i hi hi2 => ?_⟩, xPF_tr (xPF_tr (xPF_tr (xPF_tr (xPF_row (Or.inl rfl) (by omega)) (xPF_row (Or.inr (Or.inl rfl)) (by omega))) (xPF_row (Or.inr (Or.inr (Or.inl rfl))) (by omega))) (xPF_row (Or.inr (Or.inr (Or.inr rfl))) (by omega))) xPF_n⟩
  · have hi : i < σ.1 + 1 := hi
    rw [xv_si_ne (by omega), xv_si_ne (by omega), xv_si_ne (by omega), xv_si_ne (by omega), xv_si_if]
    rw [xv_si_ne (by omega), xv_si_ne (by omega), xv_si_ne (by omega), xv_si_if, xv_si_ne (by omega)]
    rw [xv_si_ne (by omega), xv_si_ne (by omega), xv_si_if, xv_si_ne (by omega), xv_si_ne (by omega)]
    rw [xv_si_ne (by omega), xv_si_if, xv_si_ne (by omega), xv_si_ne (by omega), xv_si_ne (by omega)]
    show _ = upd σ.2.1 σ.1 (nI o) i ∧ _ = upd σ.2.2.1 σ.1 a i ∧ _ = upd σ.2.2.2.1 σ.1 0 i ∧ _ = σ.2.2.2.2.1 i
    by_cases c : i = σ.1
    · subst c
      rw [if_pos rfl, if_pos rfl, if_pos rfl, if_pos rfl, pk_us, pk_us, pk_us]
      exact ⟨rfl, rfl, rfl, (h3 _ (Nat.le_refl _) hn).symm⟩
    · rw [if_neg (by omega), if_neg (by omega), if_neg (by omega), if_neg (by omega), pk_un c, pk_un c, pk_un c]
      exact h2 i (by omega)
  · have hi : σ.1 + 1 ≤ i := hi
    exact h3 i (by omega) hi2
theorem c_Model_fix {sc : Nat × (Nat → Int32)} {u : xv_M} {M f : Nat} {σ : xQ} (hM : xMo u M) (hf : f < 8) (hT : xMT u M f σ) (hn : σ.1 < 265) {o : Nat} : xv_C sc 1 J_Model_fix [.ref M, .int (nI f), .int (nI o)] u (xv_N u) (xv_S u) (xv_pv (fun w => xMT w M f (xEt σ o) ∧ xPF u w M f)) := by
  have ci : (nI (280 * f + σ.1)).toNatClampNeg = 280 * f + σ.1 := nI_clamp (by omega)
  have ii : vp_in (nI (280 * f + σ.1)) 6720 := vp_in_nI (by omega) (by decide)
  refine xv_C_of (by decide) (Nat.le_refl _) (Nat.le_refl _) (xv_cat1 rfl) (Nat.le_of_ble_eq_true rfl) ?_
  show xv_X sc 1 J_Model_fix 0 [some (.ref M), some (.int (nI f)), some (.int (nI o))] [] u (xv_N u) (xv_S u) _
  refine xv_aload_n (pc := 0) d_Model_fix_0 rfl rfl ?_
  refine xv_getR (pc := 1) d_Model_fix_1 f_Model_46 rfl hM.1 (xm_r12 hM) ?_
  refine xv_sipush (pc := 4) 280 d_Model_fix_4 (by decide) ?_
  refine xv_iload_n (pc := 7) d_Model_fix_7 rfl rfl ?_
  refine xv_imul (pc := 8) d_Model_fix_8 ?_
  refine xv_aload_n (pc := 9) d_Model_fix_9 rfl rfl ?_
  refine xv_iload_n (pc := 10) d_Model_fix_10 rfl rfl ?_
  refine xv_iload_n (pc := 11) d_Model_fix_11 rfl rfl ?_
  refine xv_iconst (pc := 12) 0 d_Model_fix_12 (by decide) ?_
  refine xv_iconst (pc := 13) 0 d_Model_fix_13 (by decide) ?_
  refine xv_cV4i (pc := 14) (d1 := 0) (c_Model_put hM hf hT hn) m_Model_put l_Model_128 d_Model_fix_14 (by omega) (by decide : 11 < xv_nc) rfl hM.1 (Nat.le_of_ble_eq_true rfl) ⟨Nat.le_refl _, Nat.le_refl _⟩ (fun r w hw hN hS => ?_)
  obtain ⟨rfl, ht, hp⟩ := hw
  have hMw := xSi_Mo hp.1 hM
  refine xv_iadd (pc := 17) d_Model_fix_17 ?_
  refine xv_iconst (pc := 18) 1 d_Model_fix_18 (by decide) ?_
  refine xv_zast (pc := 19) d_Model_fix_19 (xm_k12 hMw) (by rw [xIdx]; exact xm_i12 hMw ii) (by decide) ?_
  rw [xIdx, ci]
  have pf := xPF_tr hp (xPF_row (u := w) (c := 13) (v := 1) (Or.inr (Or.inr (Or.inr rfl))) (show σ.1 < 280 by omega))
  obtain ⟨t1, t2, t3⟩ := ht
  refine xv_retvq (pc := 20) d_Model_fix_20 rfl (by rw [← hN]; rfl) (by rw [← hS]; rfl) ⟨rfl, ⟨by rw [xv_si_ne (by omega)]; exact t1, fun i hi => ?_, fun i hi hi2 => ?_⟩, pf⟩
  · have hi : i < σ.1 + 1 := hi
    obtain ⟨k1, k2, k3, k4⟩ := t2 i hi
    refine ⟨by rw [xv_si_ne (by omega)]; exact k1, by rw [xv_si_ne (by omega)]; exact k2, by rw [xv_si_ne (by omega)]; exact k3, ?_⟩
    show _ = upd σ.2.2.2.2.1 σ.1 1 i
    rw [xv_si_if]
    by_cases c : i = σ.1
    · subst c; rw [if_pos rfl, pk_us]
    · rw [if_neg (by omega), pk_un c]; exact k4
  · have hi : σ.1 + 1 ≤ i := hi
    show upd σ.2.2.2.2.1 σ.1 1 i = 0
    rw [pk_un (by omega)]
    exact t3 i hi hi2
/-- a unit's second, or first, is set -/
theorem xMT_2 {w : xv_M} {M f q : Nat} {σ : xQ} {v : Int32} (h : xMT w M f σ) (hq : q < 265) : xMT (xv_si w (M + 9) (280 * f + q) v) M f (xS2 σ q v) := by
  obtain ⟨t1, t2, t3⟩ := h
  refine ⟨by rw [xv_si_ne (by omega)]; exact t1, fun i hi => ?_, t3⟩
  obtain ⟨k1, k2, k3, k4⟩ := t2 i hi
  refine ⟨by rw [xv_si_ne (by omega)]; exact k1, by rw [xv_si_ne (by omega)]; exact k2, ?_, by rw [xv_si_ne (by omega)]; exact k4⟩
  show _ = upd σ.2.2.2.1 q v i
  rw [xv_si_if]
  by_cases c : i = q
  · subst c; rw [if_pos rfl, pk_us]
  · rw [if_neg (by omega), pk_un c]; exact k3
theorem xMT_1 {w : xv_M} {M f q : Nat} {σ : xQ} {v : Int32} (h : xMT w M f σ) (hq : q < 265) : xMT (xv_si w (M + 8) (280 * f + q) v) M f (xS1 σ q v) := by
  obtain ⟨t1, t2, t3⟩ := h
  refine ⟨by rw [xv_si_ne (by omega)]; exact t1, fun i hi => ?_, t3⟩
  obtain ⟨k1, k2, k3, k4⟩ := t2 i hi
  refine ⟨by rw [xv_si_ne (by omega)]; exact k1, ?_, by rw [xv_si_ne (by omega)]; exact k3, by rw [xv_si_ne (by omega)]; exact k4⟩
  show _ = upd σ.2.2.1 q v i
  rw [xv_si_if]
  by_cases c : i = q
  · subst c; rw [if_pos rfl, pk_us]
  · rw [if_neg (by omega), pk_un c]; exact k2
theorem xMT_o {w : xv_M} {M f c q : Nat} {σ : xQ} {v : Int32} (h : xMT w M f σ) (hc : c = 27 ∨ c = 28 ∨ c = 29) : xMT (xv_si w (M + c) q v) M f σ := by
  obtain ⟨t1, t2, t3⟩ := h
  refine ⟨by rw [xv_si_ne (by omega)]; exact t1, fun i hi => ?_, t3⟩
  obtain ⟨k1, k2, k3, k4⟩ := t2 i hi
  exact ⟨by rw [xv_si_ne (by omega)]; exact k1, by rw [xv_si_ne (by omega)]; exact k2, by rw [xv_si_ne (by omega)]; exact k3, by rw [xv_si_ne (by omega)]; exact k4⟩

