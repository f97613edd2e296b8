/-! the model's run: a unit that is no CALL -/
theorem xMF_at1 {w : xv_M} {M d base g pc : Nat} {σ : xZ} (h : xMF w M d base g pc σ) : xMF (xv_si w (M + 25) d (nI (pc + 1))) M d base g (pc + 1) σ := xMF_at h
theorem xMR_at {w : xv_M} {M d base : Nat} {v : Int32} : xMR w (xv_si w (M + 25) d v) M d base := xMR_si (Or.inr (Or.inr ⟨Or.inl rfl, Nat.le_refl _⟩))
theorem xg_simple {sc : Nat × (Nat → Int32)} {D M : Nat} {a1 a2 a3 a4 a5 : Int32} {fr n1 s1 : Nat} {P : xv_P} {d base g pc o f : Nat} {w : xv_M} {a se : Int32} {σ : xZ} (hM : xMo w M) (hd : d < 9) (hb : base ≤ 400) (hg : g < 24) (hpc : pc < 280) (hF : xMF w M d base g pc σ) (hO : xv_i w (M + 7) (280 * g + pc) = nI o) (hA : xv_i w (M + 8) (280 * g + pc) = a) (hB : xv_i w (M + 9) (280 * g + pc) = se) (hk : xOk o a σ.2.2) {q : Nat} {L : Nat → Nat} {ans : Nat → Int32 → Int32 → Int32 → xRs} {τ : xZ} (ho : xSim o) (hst : xStep ans L f o a se pc σ = .inl (nI q, τ)) (hq : q < 1000) (hN : xv_N w ≤ n1) (hS : xv_S w ≤ s1) (hD : 1 ≤ D) (k : ∀ w', xMR w w' M d base → xMF w' M d base g q τ → xGh sc D M a1 a2 a3 a4 a5 fr n1 s1 P d (base + τ.2.2) w') : xGh sc D M a1 a2 a3 a4 a5 fr n1 s1 P d (base + σ.2.2) w := by
  refine xg_pre hM hd hg hpc hF hO hA (fun j12 j13 => ?_)
  have p42 : σ.2.2 ≤ 42 := hk.2.2.1
  have o22 : o < 22 := hk.2.2.2.1
  have q17 : (nI o = 17) ↔ o = 17 := nI_eq (b := 17) (by omega) (by decide)
  have q16 : (nI o = 16) ↔ o = 16 := nI_eq (b := 16) (by omega) (by decide)
  have q14 : (nI o = 14) ↔ o = 14 := nI_eq (b := 14) (by omega) (by decide)
  have c1 := c_Model_simple (sc := sc) (u := xv_si w (M + 25) d (nI (pc + 1))) (f := f) hM hd hb (xMF_at1 hF) hk ho hst hq (by omega)
  clear hk
  refine xv_iload (pc := 70) d_Model_go_70 rfl ?_
  refine xv_bipush (pc := 72) 17 d_Model_go_72 (by decide) ?_
  refine xv_icmp_ne (pc := 74) 130 d_Model_go_74 (by decide) (fun h74 => ?_) (fun h74 => ?_)
  case refine_2 =>
    rw [q17] at h74
    unfold xSim at ho
    omega
  refine xv_iload (pc := 130) d_Model_go_130 rfl ?_
  refine xv_bipush (pc := 132) 16 d_Model_go_132 (by decide) ?_
  refine xv_icmp_ne (pc := 134) 266 d_Model_go_134 (by decide) (fun h134 => ?_) (fun h134 => ?_)
  case refine_2 =>
    rw [q16] at h134
    unfold xSim at ho
    omega
  refine xv_iload (pc := 266) d_Model_go_266 rfl ?_
  refine xv_iconst (pc := 268) 2 d_Model_go_268 (by decide) ?_
  refine xv_bipush (pc := 269) 11 d_Model_go_269 (by decide) ?_
  refine xv_cS3i (pc := 271) (d1 := 0) c_Model_is m_Model_is l_Model_102 d_Model_go_271 (by omega) (Nat.le_of_ble_eq_true rfl) ⟨hN, hS⟩ (fun r w1 hw hN2 hS2 => ?_)
  obtain ⟨rfl, hw⟩ := hw
  subst w1
  refine xv_if_eq (pc := 274) 346 d_Model_go_274 (by decide) (fun h274 => ?_) (fun h274 => ?_)
  case refine_2 =>
    have e := xw_ne h274
    have e1 : 2 ≤ o := (nI_leI (a := 2) (by decide) (by omega)).mp e.1
    have e2 : o ≤ 11 := (nI_leI (b := 11) (by omega) (by decide)).mp e.2
    unfold xSim at ho
    omega
  refine xv_iload (pc := 346) d_Model_go_346 rfl ?_
  refine xv_bipush (pc := 348) 14 d_Model_go_348 (by decide) ?_
  refine xv_icmp_ne (pc := 350) 388 d_Model_go_350 (by decide) (fun h350 => ?_) (fun h350 => ?_)
  case refine_2 =>
    rw [q14] at h350
    unfold xSim at ho
    omega
  refine xv_aload_n (pc := 388) d_Model_go_388 rfl rfl ?_
  refine xv_iload (pc := 389) d_Model_go_389 rfl ?_
  refine xv_iload (pc := 391) d_Model_go_391 rfl ?_
  refine xv_iload (pc := 393) d_Model_go_393 rfl ?_
  refine xv_iload (pc := 395) d_Model_go_395 rfl ?_
  refine xv_cV4i (pc := 397) c1 m_Model_simple l_Model_165 d_Model_go_397 (by omega) (by decide : 11 < xv_nc) rfl hM.1 (Nat.le_of_ble_eq_true rfl) ⟨hN, hS⟩ (fun r w2 hw hN2 hS2 => ?_)
  obtain ⟨rfl, r1, r2⟩ := hw
  refine xv_istore_7 (pc := 400) d_Model_go_400 (by decide) rfl ?_
  refine xv_goto (pc := 402) 26 d_Model_go_402 (by decide) ?_
  exact k w2 (xMR_tr (Nat.le_refl _) (Nat.le_refl _) xMR_at r1) r2 _ _ _ _ _
theorem xg_if {sc : Nat × (Nat → Int32)} {D M : Nat} {a1 a2 a3 a4 a5 : Int32} {fr n1 s1 : Nat} {P : xv_P} {d base g pc o f : Nat} {w : xv_M} {a se : Int32} {σ : xZ} (hM : xMo w M) (hd : d < 9) (hb : base ≤ 400) (hg : g < 24) (hpc : pc < 280) (hF : xMF w M d base g pc σ) (hO : xv_i w (M + 7) (280 * g + pc) = nI o) (hA : xv_i w (M + 8) (280 * g + pc) = a) (hB : xv_i w (M + 9) (280 * g + pc) = se) (hk : xOk o a σ.2.2) {q : Nat} {L : Nat → Nat} {ans : Nat → Int32 → Int32 → Int32 → xRs} {τ : xZ} (ho : o = 14) (hst : xStep ans L f o a se pc σ = .inl (nI q, τ)) (hq : q < 1000) (hN : xv_N w ≤ n1) (hS : xv_S w ≤ s1) (hD : 1 ≤ D) (k : ∀ w', xMR w w' M d base → xMF w' M d base g q τ → xGh sc D M a1 a2 a3 a4 a5 fr n1 s1 P d (base + τ.2.2) w') : xGh sc D M a1 a2 a3 a4 a5 fr n1 s1 P d (base + σ.2.2) w := by
  subst ho
  refine xg_pre hM hd hg hpc hF hO hA (fun j12 j13 => ?_)
  have p42 : σ.2.2 ≤ 42 := hk.2.2.1
  have n1' : 1 ≤ σ.2.2 := xOk_34 hk (Or.inr rfl)
  obtain ⟨t, ht, rfl⟩ := hk.2.2.2.2.2.1 rfl
  clear hk
  unfold xStep at hst
  rw [if_neg (by decide), if_neg (by decide), if_neg (by decide), if_pos rfl] at hst
  simp only [Sum.inl.injEq, Prod.mk.injEq] at hst
  obtain ⟨hq2, rfl⟩ := hst
  have et : nI (base + σ.2.2) + Int32.ofInt (-1) = nI (base + (σ.2.2 - 1)) := by
    rw [show base + σ.2.2 = base + (σ.2.2 - 1) + 1 by omega, nI_succ, Int32.add_assoc]
    exact Int32.add_zero _
  have ct : (nI (base + (σ.2.2 - 1))).toNatClampNeg = base + (σ.2.2 - 1) := nI_clamp (by omega)
  have it : vp_in (nI (base + (σ.2.2 - 1))) 800 := vp_in_nI (by omega) (by decide)
  have htp := xMF_tp hF n1' (j := base + (σ.2.2 - 1)) (by omega)
  have hcd : (nI d).toNatClampNeg = d := nI_clamp (by omega)
  have ci : (nI (280 * g + pc)).toNatClampNeg = 280 * g + pc := nI_clamp (by omega)
  have ii : vp_in (nI (280 * g + pc)) 6720 := vp_in_nI (by omega) (by decide)
  refine xv_iload (pc := 70) d_Model_go_70 rfl ?_
  refine xv_bipush (pc := 72) 17 d_Model_go_72 (by decide) ?_
  refine xv_icmp_ne (pc := 74) 130 d_Model_go_74 (by decide) (fun h74 => ?_) (fun h74 => ?_)
  case refine_2 => exact absurd h74 (by decide)
  refine xv_iload (pc := 130) d_Model_go_130 rfl ?_
  refine xv_bipush (pc := 132) 16 d_Model_go_132 (by decide) ?_
  refine xv_icmp_ne (pc := 134) 266 d_Model_go_134 (by decide) (fun h134 => ?_) (fun h134 => ?_)
  case refine_2 => exact absurd h134 (by decide)
  refine xv_iload (pc := 266) d_Model_go_266 rfl ?_
  refine xv_iconst (pc := 268) 2 d_Model_go_268 (by decide) ?_
  refine xv_bipush (pc := 269) 11 d_Model_go_269 (by decide) ?_
  refine xv_cS3i (pc := 271) (d1 := 0) c_Model_is m_Model_is l_Model_102 d_Model_go_271 (by omega) (Nat.le_of_ble_eq_true rfl) ⟨hN, hS⟩ (fun r w1 hw hN2 hS2 => ?_)
  obtain ⟨rfl, hw⟩ := hw
  subst w1
  refine xv_if_eq (pc := 274) 346 d_Model_go_274 (by decide) (fun h274 => ?_) (fun h274 => ?_)
  case refine_2 => exact absurd rfl h274
  refine xv_iload (pc := 346) d_Model_go_346 rfl ?_
  refine xv_bipush (pc := 348) 14 d_Model_go_348 (by decide) ?_
  refine xv_icmp_ne (pc := 350) 388 d_Model_go_350 (by decide) (fun h350 => ?_) (fun h350 => ?_)
  · exact absurd rfl h350
  refine xv_iinc_7 (pc := 353) (nI (base + (σ.2.2 - 1))) d_Model_go_353 et (by decide) rfl ?_
  refine xv_iload (pc := 356) d_Model_go_356 rfl ?_
  refine xv_aload_n (pc := 358) d_Model_go_358 rfl rfl ?_
  refine xv_getR (pc := 359) d_Model_go_359 f_Model_77 rfl hM.1 (xm_r22 hM) ?_
  refine xv_iload (pc := 362) d_Model_go_362 rfl ?_
  refine xv_ald (pc := 364) d_Model_go_364 (xm_k22 hM) (xm_i22 hM it) ?_
  rw [ct, xv_si_ne (by omega), htp]
  refine xv_cS2i (pc := 365) (d1 := 0) (c_Model_isSo ht) m_Model_isSo l_Model_162 d_Model_go_365 (by omega) (Nat.le_of_ble_eq_true rfl) ⟨hN, hS⟩ (fun r w1 hw hN2 hS2 => ?_)
  obtain ⟨rfl, hw⟩ := hw
  subst w1
  refine xv_if_ne (pc := 368) 402 d_Model_go_368 (by decide) (fun h368 => ?_) (fun h368 => ?_)
  · have e := xB_ne h368
    rw [if_pos e] at hq2
    have hqe : pc + 1 = q := (nI_eq (by omega) (by omega)).mp hq2
    subst hqe
    refine xv_goto (pc := 402) 26 d_Model_go_402 (by decide) ?_
    exact k _ xMR_at (xMF_po (xMF_at1 hF)) _ _ _ _ _
  · have e := xB_eq h368
    rw [if_neg (by rw [e]; decide)] at hq2
    refine xv_aload_n (pc := 371) d_Model_go_371 rfl rfl ?_
    refine xv_getR (pc := 372) d_Model_go_372 f_Model_83 rfl hM.1 (xm_r24 hM) ?_
    refine xv_iload (pc := 375) d_Model_go_375 rfl ?_
    refine xv_aload_n (pc := 377) d_Model_go_377 rfl rfl ?_
    refine xv_getR (pc := 378) d_Model_go_378 f_Model_34 rfl hM.1 (xm_r8 hM) ?_
    refine xv_iload (pc := 381) d_Model_go_381 rfl ?_
    refine xv_ald (pc := 383) d_Model_go_383 (xm_k8 hM) (xm_i8 hM ii) ?_
    refine xv_ast (pc := 384) d_Model_go_384 (xm_k24 hM) (xm_i24 hM (vp_in_nI hd (by decide))) ?_
    refine xv_goto (pc := 385) 402 d_Model_go_385 (by decide) ?_
    refine xv_goto (pc := 402) 26 d_Model_go_402 (by decide) ?_
    rw [ci, xv_si_ne (by omega), hB, hcd, hq2]
    exact k _ (xMR_tr (Nat.le_refl _) (Nat.le_refl _) xMR_at xMR_at) (xMF_po (xMF_at (xMF_at1 hF))) _ _ _ _ _
theorem xg_two {sc : Nat × (Nat → Int32)} {D M : Nat} {a1 a2 a3 a4 a5 : Int32} {fr n1 s1 : Nat} {P : xv_P} {d base g pc o f : Nat} {w : xv_M} {a se : Int32} {σ : xZ} (hM : xMo w M) (hd : d < 9) (hb : base ≤ 400) (hg : g < 24) (hpc : pc < 280) (hF : xMF w M d base g pc σ) (hO : xv_i w (M + 7) (280 * g + pc) = nI o) (hA : xv_i w (M + 8) (280 * g + pc) = a) (hB : xv_i w (M + 9) (280 * g + pc) = se) (hk : xOk o a σ.2.2) {q : Nat} {L : Nat → Nat} {ans : Nat → Int32 → Int32 → Int32 → xRs} {τ : xZ} (ho : 2 ≤ o ∧ o ≤ 11) (hst : xStep ans L f o a se pc σ = .inl (nI q, τ)) (hq : q < 1000) (hN : xv_N w ≤ n1) (hS : xv_S w ≤ s1) (hD : 1 ≤ D) (k : ∀ w', xMR w w' M d base → xMF w' M d base g q τ → xGh sc D M a1 a2 a3 a4 a5 fr n1 s1 P d (base + τ.2.2) w') : xGh sc D M a1 a2 a3 a4 a5 fr n1 s1 P d (base + σ.2.2) w := by
  refine xg_pre hM hd hg hpc hF hO hA (fun j12 j13 => ?_)
  have p42 : σ.2.2 ≤ 42 := hk.2.2.1
  have n2 : 2 ≤ σ.2.2 := (xRk_of hk (Or.inl ⟨ho.1, by omega⟩)).1 ho.2
  clear hk
  unfold xStep at hst
  rw [if_neg (by omega), if_neg (by omega), if_neg (by omega), if_neg (by omega), if_neg (by omega), if_neg (by omega)] at hst
  by_cases ez : (o = 5 ∨ o = 6) ∧ xTp σ = 0
  · rw [if_pos ez] at hst
    cases hst
  rw [if_neg ez] at hst
  simp only [Sum.inl.injEq, Prod.mk.injEq] at hst
  obtain ⟨hq2, hτ⟩ := hst
  have hqe : pc + 1 = q := (nI_eq (by omega) (by omega)).mp hq2
  subst hqe
  have hτ : xPu (xPo (xPo σ)) (xOp o (xTp (xPo σ)) (xTp σ)) = τ := by
    rw [← hτ]
    unfold xRw
    rw [if_neg (by omega), if_neg (by omega), if_neg (by omega), if_neg (by omega), if_neg (by omega)]
  subst hτ
  have q17 : (nI o = 17) ↔ o = 17 := nI_eq (b := 17) (by omega) (by decide)
  have q16 : (nI o = 16) ↔ o = 16 := nI_eq (b := 16) (by omega) (by decide)
  have q5 : (nI o = 5) ↔ o = 5 := nI_eq (b := 5) (by omega) (by decide)
  have q6 : (nI o = 6) ↔ o = 6 := nI_eq (b := 6) (by omega) (by decide)
  have et : nI (base + σ.2.2) + Int32.ofInt (-1) = nI (base + (σ.2.2 - 1)) := by
    rw [show base + σ.2.2 = base + (σ.2.2 - 1) + 1 by omega, nI_succ, Int32.add_assoc]
    exact Int32.add_zero _
  have et2 : nI (base + (σ.2.2 - 1)) - 1 = nI (base + (σ.2.2 - 2)) := nI_sub1 (by omega)
  have ct : (nI (base + (σ.2.2 - 1))).toNatClampNeg = base + (σ.2.2 - 1) := nI_clamp (by omega)
  have it : vp_in (nI (base + (σ.2.2 - 1))) 800 := vp_in_nI (by omega) (by decide)
  have ct2 : (nI (base + (σ.2.2 - 2))).toNatClampNeg = base + (σ.2.2 - 2) := nI_clamp (by omega)
  have it2 : vp_in (nI (base + (σ.2.2 - 2))) 800 := vp_in_nI (by omega) (by decide)
  have htp := xMF_tp hF (by omega) (j := base + (σ.2.2 - 1)) (by omega)
  have htp2 : xv_i w (M + 23) (base + (σ.2.2 - 2)) = xTp (xPo σ) := by
    rw [hF.2.2.2 (σ.2.2 - 2) (by omega)]
    show σ.2.1 (σ.2.2 - 2) = σ.2.1 (σ.2.2 - 1 - 1)
    rw [show σ.2.2 - 1 - 1 = σ.2.2 - 2 by omega]
  have fin : xv_X sc D J_Model_go 325 [some (.ref M), some (.int a1), some (.int a2), some (.int a3), some (.int a4), some (.int a5), some (.int (nI d)), some (.int (nI (base + (σ.2.2 - 1)))), some (.int (nI fr)), some (.int (nI (280 * g + pc))), some (.int (nI o)), some (.int a), some (.int (xTp (xPo σ))), some (.int (xTp σ))] [] (xv_si w (M + 25) d (nI (pc + 1))) n1 s1 P := by
    refine xv_aload_n (pc := 325) d_Model_go_325 rfl rfl ?_
    refine xv_getR (pc := 326) d_Model_go_326 f_Model_77 rfl hM.1 (xm_r22 hM) ?_
    refine xv_iload (pc := 329) d_Model_go_329 rfl ?_
    refine xv_iconst (pc := 331) 1 d_Model_go_331 (by decide) ?_
    refine xv_isub (pc := 332) d_Model_go_332 ?_
    refine xv_iload (pc := 333) d_Model_go_333 rfl ?_
    refine xv_iload (pc := 335) d_Model_go_335 rfl ?_
    refine xv_iload (pc := 337) d_Model_go_337 rfl ?_
    refine xv_cS3i (pc := 339) (d1 := 0) (c_Model_compute ho.1 (by omega) (fun q z => ez ⟨q, z⟩)) m_Model_compute l_Model_158 d_Model_go_339 (by omega) (Nat.le_of_ble_eq_true rfl) ⟨hN, hS⟩ (fun r w1 hw hN2 hS2 => ?_)
    obtain ⟨rfl, hw⟩ := hw
    subst w1
    rw [et2]
    refine xv_ast (pc := 342) d_Model_go_342 (xm_k22 hM) (xm_i22 hM it2) ?_
    refine xv_goto (pc := 343) 402 d_Model_go_343 (by decide) ?_
    refine xv_goto (pc := 402) 26 d_Model_go_402 (by decide) ?_
    rw [ct2]
    have hj : base + (σ.2.2 - 2) = base + (xPo (xPo σ)).2.2 := by show _ = base + (σ.2.2 - 1 - 1); omega
    have hsp : base + (σ.2.2 - 1) = base + (xPu (xPo (xPo σ)) (xOp o (xTp (xPo σ)) (xTp σ))).2.2 := by show _ = base + (σ.2.2 - 1 - 1 + 1); omega
    rw [hsp]
    exact k _ (xMR_tr (Nat.le_refl _) (Nat.le_refl _) xMR_at (xMR_si (Or.inl ⟨rfl, by omega⟩))) (xMF_pu (xMF_po (xMF_po (xMF_at1 hF))) hj) _ _ _ _ _
  refine xv_iload (pc := 70) d_Model_go_70 rfl ?_
  refine xv_bipush (pc := 72) 17 d_Model_go_72 (by decide) ?_
  refine xv_icmp_ne (pc := 74) 130 d_Model_go_74 (by decide) (fun h74 => ?_) (fun h74 => ?_)
  case refine_2 =>
    rw [q17] at h74
    omega
  refine xv_iload (pc := 130) d_Model_go_130 rfl ?_
  refine xv_bipush (pc := 132) 16 d_Model_go_132 (by decide) ?_
  refine xv_icmp_ne (pc := 134) 266 d_Model_go_134 (by decide) (fun h134 => ?_) (fun h134 => ?_)
  case refine_2 =>
    rw [q16] at h134
    omega
  refine xv_iload (pc := 266) d_Model_go_266 rfl ?_
  refine xv_iconst (pc := 268) 2 d_Model_go_268 (by decide) ?_
  refine xv_bipush (pc := 269) 11 d_Model_go_269 (by decide) ?_
  refine xv_cS3i (pc := 271) (d1 := 0) c_Model_is m_Model_is l_Model_102 d_Model_go_271 (by omega) (Nat.le_of_ble_eq_true rfl) ⟨hN, hS⟩ (fun r w1 hw hN2 hS2 => ?_)
  obtain ⟨rfl, hw⟩ := hw
  subst w1
  refine xv_if_eq (pc := 274) 346 d_Model_go_274 (by decide) (fun h274 => ?_) (fun h274 => ?_)
  · exact absurd ⟨nI_le (a := 2) ho.1 (by omega), nI_le (b := 11) ho.2 (by decide)⟩ (xw_eq h274)
  refine xv_iinc_7 (pc := 277) (nI (base + (σ.2.2 - 1))) d_Model_go_277 et (by decide) rfl ?_
  refine xv_aload_n (pc := 280) d_Model_go_280 rfl rfl ?_
  refine xv_getR (pc := 281) d_Model_go_281 f_Model_77 rfl hM.1 (xm_r22 hM) ?_
  refine xv_iload (pc := 284) d_Model_go_284 rfl ?_
  refine xv_iconst (pc := 286) 1 d_Model_go_286 (by decide) ?_
  refine xv_isub (pc := 287) d_Model_go_287 ?_
  refine xv_ald (pc := 288) d_Model_go_288 (xm_k22 hM) (by rw [et2]; exact xm_i22 hM it2) ?_
  refine xv_istore_12 (pc := 289) d_Model_go_289 (by decide) rfl ?_
  refine xv_aload_n (pc := 291) d_Model_go_291 rfl rfl ?_
  refine xv_getR (pc := 292) d_Model_go_292 f_Model_77 rfl hM.1 (xm_r22 hM) ?_
  refine xv_iload (pc := 295) d_Model_go_295 rfl ?_
  refine xv_ald (pc := 297) d_Model_go_297 (xm_k22 hM) (xm_i22 hM it) ?_
  refine xv_istore_13 (pc := 298) d_Model_go_298 (by decide) rfl ?_
  refine xv_iload (pc := 300) d_Model_go_300 rfl ?_
  refine xv_iconst (pc := 302) 5 d_Model_go_302 (by decide) ?_
  refine xv_icmp_eq (pc := 303) 313 d_Model_go_303 (by decide) (fun h303 => ?_) (fun h303 => ?_)
  · rw [q5] at h303
    rw [et2, ct2, ct, xv_si_ne (by omega), xv_si_ne (by omega), htp, htp2]
    refine xv_iload (pc := 313) d_Model_go_313 rfl ?_
    refine xv_if_ne (pc := 315) 325 d_Model_go_315 (by decide) (fun h315 => ?_) (fun h315 => ?_)
    · exact fin
    · exact absurd ⟨Or.inl h303, h315⟩ ez
  · rw [q5] at h303
    rw [et2, ct2, ct, xv_si_ne (by omega), xv_si_ne (by omega), htp, htp2]
    refine xv_iload (pc := 306) d_Model_go_306 rfl ?_
    refine xv_bipush (pc := 308) 6 d_Model_go_308 (by decide) ?_
    refine xv_icmp_ne (pc := 310) 325 d_Model_go_310 (by decide) (fun h310 => ?_) (fun h310 => ?_)
    · exact fin
    · rw [q6] at h310
      refine xv_iload (pc := 313) d_Model_go_313 rfl ?_
      refine xv_if_ne (pc := 315) 325 d_Model_go_315 (by decide) (fun h315 => ?_) (fun h315 => ?_)
      · exact fin
      · exact absurd ⟨Or.inr h310, h315⟩ ez
theorem xg_twox {sc : Nat × (Nat → Int32)} {D M : Nat} {a1 a2 a3 a4 a5 : Int32} {fr n1 s1 : Nat} {P : xv_P} {d base g pc o f : Nat} {w : xv_M} {a se : Int32} {σ : xZ} (hM : xMo w M) (hd : d < 9) (hb : base ≤ 400) (hg : g < 24) (hpc : pc < 280) (hF : xMF w M d base g pc σ) (hO : xv_i w (M + 7) (280 * g + pc) = nI o) (hA : xv_i w (M + 8) (280 * g + pc) = a) (hB : xv_i w (M + 9) (280 * g + pc) = se) (hk : xOk o a σ.2.2) (ho : o = 5 ∨ o = 6) (hz : xTp σ = 0) {P0 : xv_P} (hN : xv_N w = n1) (hS : xv_S w = s1) (hD : 1 ≤ D) (hP : P0 (.inl (some (.int 0))) (xv_si (xv_si w (M + 25) d (nI (pc + 1))) M 35 2)) : xGh sc D M a1 a2 a3 a4 a5 fr n1 s1 (xv_q n1 s1 P0) d (base + σ.2.2) w := by
  refine xg_pre hM hd hg hpc hF hO hA (fun j12 j13 => ?_)
  have p42 : σ.2.2 ≤ 42 := hk.2.2.1
  have n2 : 2 ≤ σ.2.2 := (xRk_of hk (Or.inl ⟨by omega, by omega⟩)).1 (by omega)
  clear hk
  have q17 : (nI o = 17) ↔ o = 17 := nI_eq (b := 17) (by omega) (by decide)
  have q16 : (nI o = 16) ↔ o = 16 := nI_eq (b := 16) (by omega) (by decide)
  have q5 : (nI o = 5) ↔ o = 5 := nI_eq (b := 5) (by omega) (by decide)
  have q6 : (nI o = 6) ↔ o = 6 := nI_eq (b := 6) (by omega) (by decide)
  have et : nI (base + σ.2.2) + Int32.ofInt (-1) = nI (base + (σ.2.2 - 1)) := by
    rw [show base + σ.2.2 = base + (σ.2.2 - 1) + 1 by omega, nI_succ, Int32.add_assoc]
    exact Int32.add_zero _
  have et2 : nI (base + (σ.2.2 - 1)) - 1 = nI (base + (σ.2.2 - 2)) := nI_sub1 (by omega)
  have ct : (nI (base + (σ.2.2 - 1))).toNatClampNeg = base + (σ.2.2 - 1) := nI_clamp (by omega)
  have it : vp_in (nI (base + (σ.2.2 - 1))) 800 := vp_in_nI (by omega) (by decide)
  have it2 : vp_in (nI (base + (σ.2.2 - 2))) 800 := vp_in_nI (by omega) (by decide)
  have htp := xMF_tp hF (by omega) (j := base + (σ.2.2 - 1)) (by omega)
  refine xv_iload (pc := 70) d_Model_go_70 rfl ?_
  refine xv_bipush (pc := 72) 17 d_Model_go_72 (by decide) ?_
  refine xv_icmp_ne (pc := 74) 130 d_Model_go_74 (by decide) (fun h74 => ?_) (fun h74 => ?_)
  case refine_2 =>
    rw [q17] at h74
    omega
  refine xv_iload (pc := 130) d_Model_go_130 rfl ?_
  refine xv_bipush (pc := 132) 16 d_Model_go_132 (by decide) ?_
  refine xv_icmp_ne (pc := 134) 266 d_Model_go_134 (by decide) (fun h134 => ?_) (fun h134 => ?_)
  case refine_2 =>
    rw [q16] at h134
    omega
  refine xv_iload (pc := 266) d_Model_go_266 rfl ?_
  refine xv_iconst (pc := 268) 2 d_Model_go_268 (by decide) ?_
  refine xv_bipush (pc := 269) 11 d_Model_go_269 (by decide) ?_
  refine xv_cS3i (pc := 271) (d1 := 0) c_Model_is m_Model_is l_Model_102 d_Model_go_271 (by omega) (Nat.le_of_ble_eq_true rfl) ⟨Nat.le_of_eq hN, Nat.le_of_eq hS⟩ (fun r w1 hw hN2 hS2 => ?_)
  obtain ⟨rfl, hw⟩ := hw
  subst w1
  refine xv_if_eq (pc := 274) 346 d_Model_go_274 (by decide) (fun h274 => ?_) (fun h274 => ?_)
  · exact absurd ⟨nI_le (a := 2) (by omega) (by omega), nI_le (b := 11) (by omega) (by decide)⟩ (xw_eq h274)
  refine xv_iinc_7 (pc := 277) (nI (base + (σ.2.2 - 1))) d_Model_go_277 et (by decide) rfl ?_
  refine xv_aload_n (pc := 280) d_Model_go_280 rfl rfl ?_
  refine xv_getR (pc := 281) d_Model_go_281 f_Model_77 rfl hM.1 (xm_r22 hM) ?_
  refine xv_iload (pc := 284) d_Model_go_284 rfl ?_
  refine xv_iconst (pc := 286) 1 d_Model_go_286 (by decide) ?_
  refine xv_isub (pc := 287) d_Model_go_287 ?_
  refine xv_ald (pc := 288) d_Model_go_288 (xm_k22 hM) (by rw [et2]; exact xm_i22 hM it2) ?_
  refine xv_istore_12 (pc := 289) d_Model_go_289 (by decide) rfl ?_
  refine xv_aload_n (pc := 291) d_Model_go_291 rfl rfl ?_
  refine xv_getR (pc := 292) d_Model_go_292 f_Model_77 rfl hM.1 (xm_r22 hM) ?_
  refine xv_iload (pc := 295) d_Model_go_295 rfl ?_
  refine xv_ald (pc := 297) d_Model_go_297 (xm_k22 hM) (xm_i22 hM it) ?_
  refine xv_istore_13 (pc := 298) d_Model_go_298 (by decide) rfl ?_
  refine xv_iload (pc := 300) d_Model_go_300 rfl ?_
  refine xv_iconst (pc := 302) 5 d_Model_go_302 (by decide) ?_
  refine xv_icmp_eq (pc := 303) 313 d_Model_go_303 (by decide) (fun h303 => ?_) (fun h303 => ?_)
  · rw [ct, xv_si_ne (by omega), xv_si_ne (by omega), htp, hz]
    refine xv_iload (pc := 313) d_Model_go_313 rfl ?_
    refine xv_if_ne (pc := 315) 325 d_Model_go_315 (by decide) (fun h315 => ?_) (fun h315 => ?_)
    · exact absurd rfl h315
    refine xv_aload_n (pc := 318) d_Model_go_318 rfl rfl ?_
    refine xv_iconst (pc := 319) 2 d_Model_go_319 (by decide) ?_
    refine xv_putI (pc := 320) d_Model_go_320 f_Model_155 (Or.inl rfl) fin_11_35 hM.1 ?_
    refine xv_iconst (pc := 323) 0 d_Model_go_323 (by decide) ?_
    exact xv_retiq (pc := 324) d_Model_go_324 rfl hN hS hP
  · rw [ct, xv_si_ne (by omega), xv_si_ne (by omega), htp, hz]
    refine xv_iload (pc := 306) d_Model_go_306 rfl ?_
    refine xv_bipush (pc := 308) 6 d_Model_go_308 (by decide) ?_
    refine xv_icmp_ne (pc := 310) 325 d_Model_go_310 (by decide) (fun h310 => ?_) (fun h310 => ?_)
    · rw [q5] at h303
      rw [q6] at h310
      omega
    refine xv_iload (pc := 313) d_Model_go_313 rfl ?_
    refine xv_if_ne (pc := 315) 325 d_Model_go_315 (by decide) (fun h315 => ?_) (fun h315 => ?_)
    · exact absurd rfl h315
    refine xv_aload_n (pc := 318) d_Model_go_318 rfl rfl ?_
    refine xv_iconst (pc := 319) 2 d_Model_go_319 (by decide) ?_
    refine xv_putI (pc := 320) d_Model_go_320 f_Model_155 (Or.inl rfl) fin_11_35 hM.1 ?_
    refine xv_iconst (pc := 323) 0 d_Model_go_323 (by decide) ?_
    exact xv_retiq (pc := 324) d_Model_go_324 rfl hN hS hP

