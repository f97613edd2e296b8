/-! the model: go, interpret, run -/
def xGP (u : xv_M) (M fr : Nat) (R : xRs) (r : Int32) (w : xv_M) : Prop := (∃ v, R = .inl v ∧ r = v ∧ xSi (xMS M) u w) ∨ (∃ e w0, R = .inr e ∧ r = 0 ∧ xSi (xMS M) u w0 ∧ w = xv_si w0 M 35 (xCode fr e))
theorem xFrom : ∀ f, f < 8 → ∀ fr, fr = 0 ∨ fr = 16 → nI (fr + f) - (nI (fr + f) - nI (fr + f) / 8 * 8) = nI fr := by
  intro f hf fr hfr
  have k0 : ∀ f, f < 8 → nI (0 + f) - (nI (0 + f) - nI (0 + f) / 8 * 8) = nI 0 := by decide
  have k1 : ∀ f, f < 8 → nI (16 + f) - (nI (16 + f) - nI (16 + f) / 8 * 8) = nI 16 := by decide
  rcases hfr with rfl | rfl
  · exact k0 f hf
  · exact k1 f hf
theorem c_Model_go {sc : Nat × (Nat → Int32)} {M : Nat} {fr : Nat} {u : xv_M} {L nP : Nat → Nat} {O : Nat → Nat → Nat} {F S : Nat → Nat → Int32} {G : Nat → Nat → Nat → Prop} {ans : Nat → Int32 → Int32 → Int32 → xRs} (hM : xMo u M) (hfr : fr = 0 ∨ fr = 16) (hU : xUt u M fr L O F S) (hPr : xPres u M fr L nP) (hA : xAnsT ans L nP O F S) (hG : xGd L O F S G) (hlow : xLwr L O F) {f : Nat} {x y z : Int32} (hf : f < 8) (hLf : 0 < L f) : xv_C sc 1 J_Model_go [.ref M, .int (nI (fr + f)), .int (nI (nP f)), .int x, .int y, .int z] u (xv_N u) (xv_S u) (xv_pi (xGP u M fr (ans f x y z))) := by
  obtain ⟨p1, p2, p3, p4⟩ := hPr f hf
  obtain ⟨kk, hkk⟩ := hA f hf hLf x y z
  refine xv_C_of (by decide) (Nat.le_refl _) (Nat.le_refl _) (xv_cat1 rfl) (Nat.le_of_ble_eq_true rfl) ?_
  show xv_X sc 1 J_Model_go 0 [some (.ref M), some (.int (nI (fr + f))), some (.int (nI (nP f))), some (.int x), some (.int y), some (.int z), none, none, none, none, none, none, none, none] [] u (xv_N u) (xv_S u) _
  refine xv_iconst (pc := 0) 0 d_Model_go_0 (by decide) ?_
  refine xv_istore_6 (pc := 1) d_Model_go_1 (by decide) rfl ?_
  refine xv_iconst (pc := 3) 0 d_Model_go_3 (by decide) ?_
  refine xv_istore_7 (pc := 4) d_Model_go_4 (by decide) rfl ?_
  refine xv_iload_n (pc := 6) d_Model_go_6 rfl rfl ?_
  refine xv_iload_n (pc := 7) d_Model_go_7 rfl rfl ?_
  refine xv_bipush (pc := 8) 8 d_Model_go_8 (by decide) ?_
  refine xv_irem (pc := 10) d_Model_go_10 (by decide) ?_
  refine xv_isub (pc := 11) d_Model_go_11 ?_
  refine xv_istore_8 (pc := 12) d_Model_go_12 (by decide) rfl ?_
  refine xv_aload_n (pc := 14) d_Model_go_14 rfl rfl ?_
  refine xv_iconst (pc := 15) 0 d_Model_go_15 (by decide) ?_
  refine xv_iload_n (pc := 16) d_Model_go_16 rfl rfl ?_
  refine xv_iload_n (pc := 17) d_Model_go_17 rfl rfl ?_
  refine xv_iload_n (pc := 18) d_Model_go_18 rfl rfl ?_
  refine xv_iload (pc := 19) d_Model_go_19 rfl ?_
  refine xv_iload (pc := 21) d_Model_go_21 rfl ?_
  rw [xFrom f hf fr hfr]
  refine xv_cV6v (pc := 23) (d1 := 0) (c_Model_enter (d := 0) (base := 0) hM (by decide) (by omega) p1) m_Model_enter l_Model_151 d_Model_go_23 (by omega) (by decide : 11 < xv_nc) rfl hM.1 (Nat.le_of_ble_eq_true rfl) ⟨Nat.le_refl _, Nat.le_refl _⟩ (fun w hw hN hS => ?_)
  obtain ⟨R, hF⟩ := hw
  have h := xGoM (sc := sc) (D := 1) (a1 := nI (fr + f)) (a2 := nI (nP f)) (a3 := x) (a4 := y) (a5 := z) (P0 := xv_pi (xGP u M fr (ans f x y z))) hM hfr hU hPr hA hG hlow (Nat.le_refl _) 8 f hf hf kk 0 0 0 _ w _ (by omega) (Nat.zero_le _) (hG.1 f hf hLf) hkk R.1 hF (fun e he w' zw' => ⟨0, rfl, Or.inr ⟨e, w', he, rfl, zw', rfl⟩⟩) (fun v hv w' pc' σ' R' F' h17 hp' htp => ?_)
  · exact h none none none none none
  · obtain ⟨k1, k2, -, -, -⟩ := hG.2 f pc' _ hf hp'
    have l1 : 1 ≤ σ'.2.2 := by
      have := k2.1
      rw [h17] at this
      exact this
    have l42 : σ'.2.2 ≤ 42 := k2.2.2.1
    clear k2
    have zw := xSi_tr R.1 R'.1
    obtain ⟨v1, v2, v3⟩ := hU f hf pc' k1
    exact xg_ret (P := fun _ _ => True) (xSi_Mo zw hM) (by omega) (by omega) F' (by rw [xMS_i zw (by omega), v1, h17]) rfl rfl l1 (by omega) zw.1 zw.2.1 ⟨_, rfl, Or.inl ⟨v, hv, htp, xSi_tr zw (xSi_si (Or.inr (Or.inr (Or.inl rfl))))⟩⟩
theorem xPres_th {u : xv_M} {M fr : Nat} {L nP : Nat → Nat} {v : Int32} (h : xPres u M fr L nP) : xPres (xv_si u M 35 v) M fr L nP := by
  intro a ha
  obtain ⟨h1, h2, h3, h4⟩ := h a ha
  have k : ∀ c q, M < c → xv_i (xv_si u M 35 v) c q = xv_i u c q := fun c q hc => xv_si_ne (by omega)
  refine ⟨h1, h2, fun q => ?_, fun q => ?_⟩
  · have := h3 q
    unfold xTh at this ⊢
    rw [k (M + 3) a (by omega), k (M + 4) a (by omega), k (M + 14) a (by omega), k (M + 22) a (by omega)]
    exact this
  · rw [k (M + 3) a (by omega), k (M + 14) a (by omega)]
    exact h4 q
theorem xUt_th {u : xv_M} {M fr : Nat} {L : Nat → Nat} {O : Nat → Nat → Nat} {F S : Nat → Nat → Int32} {v : Int32} (h : xUt u M fr L O F S) : xUt (xv_si u M 35 v) M fr L O F S := by
  intro g hg i hi
  rw [xv_si_ne (by omega), xv_si_ne (by omega), xv_si_ne (by omega)]
  exact h g hg i hi
theorem c_Model_interpret {sc : Nat × (Nat → Int32)} {M : Nat} {fr : Nat} {u : xv_M} {L nP : Nat → Nat} {O : Nat → Nat → Nat} {F S : Nat → Nat → Int32} {G : Nat → Nat → Nat → Prop} {ans : Nat → Int32 → Int32 → Int32 → xRs} (hM : xMo u M) (hfr : fr = 0 ∨ fr = 16) (hU : xUt u M fr L O F S) (hPr : xPres u M fr L nP) (hA : xAnsT ans L nP O F S) (hG : xGd L O F S G) (hlow : xLwr L O F) {f x y z : Int32} (h0 : fr = 0) : xv_C sc 2 J_Model_interpret [.ref M, .int f, .int x, .int y, .int z] u (xv_N u) (xv_S u) (xv_pi (fun r w => (¬ (∃ f', f' < 8 ∧ f = nI f' ∧ 0 < L f') ∧ r = 0 ∧ w = xv_si (xv_si u M 35 0) M 35 1) ∨ (∃ f', f' < 8 ∧ f = nI f' ∧ 0 < L f' ∧ xGP (xv_si u M 35 0) M fr (ans f' x y z) r w))) := by
  refine xv_C_of (by decide) (Nat.le_refl _) (Nat.le_refl _) (xv_cat1 rfl) (Nat.le_of_ble_eq_true rfl) ?_
  show xv_X sc 2 J_Model_interpret 0 [some (.ref M), some (.int f), some (.int x), some (.int y), some (.int z)] [] u (xv_N u) (xv_S u) _
  have no : ¬ (∃ f', f' < 8 ∧ f = nI f' ∧ 0 < L f') → xv_X sc 2 J_Model_interpret 40 [some (.ref M), some (.int f), some (.int x), some (.int y), some (.int z)] [] (xv_si u M 35 0) (xv_N u) (xv_S u) (xv_q (xv_N u) (xv_S u) (xv_pi (fun r w => (¬ (∃ f', f' < 8 ∧ f = nI f' ∧ 0 < L f') ∧ r = 0 ∧ w = xv_si (xv_si u M 35 0) M 35 1) ∨ (∃ f', f' < 8 ∧ f = nI f' ∧ 0 < L f' ∧ xGP (xv_si u M 35 0) M fr (ans f' x y z) r w)))) := by
    intro hn
    refine xv_aload_n (pc := 40) d_Model_interpret_40 rfl rfl ?_
    refine xv_iconst (pc := 41) 1 d_Model_interpret_41 (by decide) ?_
    refine xv_putI (pc := 42) d_Model_interpret_42 f_Model_155 (Or.inl rfl) fin_11_35 hM.1 ?_
    refine xv_iconst (pc := 45) 0 d_Model_interpret_45 (by decide) ?_
    exact xv_retiq (pc := 46) d_Model_interpret_46 rfl rfl rfl ⟨_, rfl, Or.inl ⟨hn, rfl, rfl⟩⟩
  refine xv_aload_n (pc := 0) d_Model_interpret_0 rfl rfl ?_
  refine xv_iconst (pc := 1) 0 d_Model_interpret_1 (by decide) ?_
  refine xv_putI (pc := 2) d_Model_interpret_2 f_Model_155 (Or.inl rfl) fin_11_35 hM.1 ?_
  refine xv_iload_n (pc := 5) d_Model_interpret_5 rfl rfl ?_
  refine xv_iconst (pc := 6) 0 d_Model_interpret_6 (by decide) ?_
  refine xv_bipush (pc := 7) 7 d_Model_interpret_7 (by decide) ?_
  refine xv_cS3i (pc := 9) (d1 := 0) c_Model_is m_Model_is l_Model_102 d_Model_interpret_9 (by omega) (Nat.le_of_ble_eq_true rfl) ⟨Nat.le_refl _, Nat.le_refl _⟩ (fun r w hw hN hS => ?_)
  obtain ⟨rfl, hw⟩ := hw
  subst w
  refine xv_if_eq (pc := 12) 40 d_Model_interpret_12 (by decide) (fun h12 => ?_) (fun h12 => ?_)
  · refine no (fun ⟨f', q1, q2, q3⟩ => xw_eq h12 ?_)
    rw [q2]
    exact ⟨nI_pos0 (by omega), nI_leI8 q1⟩
  obtain ⟨f', hf', rfl⟩ := xI8 (xw_ne h12)
  have hcf : (nI f').toNatClampNeg = f' := nI_clamp (by omega)
  obtain ⟨p1, p2, p3, p4⟩ := hPr f' hf'
  refine xv_aload_n (pc := 15) d_Model_interpret_15 rfl rfl ?_
  refine xv_getR (pc := 16) d_Model_interpret_16 f_Model_16 rfl hM.1 (xm_r2 hM) ?_
  refine xv_iload_n (pc := 19) d_Model_interpret_19 rfl rfl ?_
  refine xv_ald (pc := 20) d_Model_interpret_20 (xm_k2 hM) (xm_i2 hM (vp_in_nI (by omega) (by decide))) ?_
  refine xv_if_le (pc := 21) 40 d_Model_interpret_21 (by decide) (fun h21 => ?_) (fun h21 => ?_)
  · rw [hcf, xv_si_ne (by omega)] at h21
    refine no (fun ⟨f2, q1, q2, q3⟩ => ?_)
    have : f' = f2 := (nI_eq (by omega) (by omega)).mp q2
    subst this
    obtain ⟨l, l0, l40, e1, e2⟩ := (p3 q3).1 h0
    rw [e1] at h21
    exact absurd h21 (Int32.not_le.mpr (nI_posL l0 (by omega)))
  · rw [hcf, xv_si_ne (by omega)] at h21
    have hL : 0 < L f' := Nat.pos_of_ne_zero (fun e => by
      rw [(p4 e).1 h0] at h21
      exact absurd (Int32.le_refl _) h21)
    obtain ⟨l, l0, l40, e1, e2⟩ := (p3 hL).1 h0
    subst h0
    have hgo := c_Model_go (sc := sc) (u := xv_si u M 35 0) (x := x) (y := y) (z := z) (f := f') hM hfr (xUt_th hU) (xPres_th hPr) hA hG hlow hf' hL
    rw [Nat.zero_add] at hgo
    refine xv_aload_n (pc := 24) d_Model_interpret_24 rfl rfl ?_
    refine xv_iload_n (pc := 25) d_Model_interpret_25 rfl rfl ?_
    refine xv_aload_n (pc := 26) d_Model_interpret_26 rfl rfl ?_
    refine xv_getR (pc := 27) d_Model_interpret_27 f_Model_19 rfl hM.1 (xm_r3 hM) ?_
    refine xv_iload_n (pc := 30) d_Model_interpret_30 rfl rfl ?_
    refine xv_ald (pc := 31) d_Model_interpret_31 (xm_k3 hM) (xm_i3 hM (vp_in_nI hf' (by decide))) ?_
    refine xv_iload_n (pc := 32) d_Model_interpret_32 rfl rfl ?_
    refine xv_iload_n (pc := 33) d_Model_interpret_33 rfl rfl ?_
    refine xv_iload (pc := 34) d_Model_interpret_34 rfl ?_
    rw [hcf, xv_si_ne (by omega), e2]
    refine xv_cV5i (pc := 36) hgo m_Model_go l_Model_168 d_Model_interpret_36 (by omega) (by decide : 11 < xv_nc) rfl hM.1 (Nat.le_of_ble_eq_true rfl) ⟨Nat.le_refl _, Nat.le_refl _⟩ (fun r w hw hN hS => ?_)
    exact xv_retiq (pc := 39) d_Model_interpret_39 rfl hN hS ⟨_, rfl, Or.inr ⟨f', hf', rfl, hL, hw⟩⟩
theorem c_Model_run {sc : Nat × (Nat → Int32)} {M : Nat} {fr : Nat} {u : xv_M} {L nP : Nat → Nat} {O : Nat → Nat → Nat} {F S : Nat → Nat → Int32} {G : Nat → Nat → Nat → Prop} {ans : Nat → Int32 → Int32 → Int32 → xRs} (hM : xMo u M) (hfr : fr = 0 ∨ fr = 16) (hU : xUt u M fr L O F S) (hPr : xPres u M fr L nP) (hA : xAnsT ans L nP O F S) (hG : xGd L O F S G) (hlow : xLwr L O F) {f x y z : Int32} (h0 : fr = 16) : xv_C sc 2 J_Model_run [.ref M, .int f, .int x, .int y, .int z] u (xv_N u) (xv_S u) (xv_pi (fun r w => (¬ (∃ f', f' < 8 ∧ f = nI f' ∧ 0 < L f') ∧ r = 0 ∧ w = xv_si (xv_si u M 35 0) M 35 1) ∨ (∃ f', f' < 8 ∧ f = nI f' ∧ 0 < L f' ∧ xGP (xv_si u M 35 0) M fr (ans f' x y z) r w))) := by
  refine xv_C_of (by decide) (Nat.le_refl _) (Nat.le_refl _) (xv_cat1 rfl) (Nat.le_of_ble_eq_true rfl) ?_
  show xv_X sc 2 J_Model_run 0 [some (.ref M), some (.int f), some (.int x), some (.int y), some (.int z)] [] u (xv_N u) (xv_S u) _
  have no : ¬ (∃ f', f' < 8 ∧ f = nI f' ∧ 0 < L f') → xv_X sc 2 J_Model_run 43 [some (.ref M), some (.int f), some (.int x), some (.int y), some (.int z)] [] (xv_si u M 35 0) (xv_N u) (xv_S u) (xv_q (xv_N u) (xv_S u) (xv_pi (fun r w => (¬ (∃ f', f' < 8 ∧ f = nI f' ∧ 0 < L f') ∧ r = 0 ∧ w = xv_si (xv_si u M 35 0) M 35 1) ∨ (∃ f', f' < 8 ∧ f = nI f' ∧ 0 < L f' ∧ xGP (xv_si u M 35 0) M fr (ans f' x y z) r w)))) := by
    intro hn
    refine xv_aload_n (pc := 43) d_Model_run_43 rfl rfl ?_
    refine xv_iconst (pc := 44) 1 d_Model_run_44 (by decide) ?_
    refine xv_putI (pc := 45) d_Model_run_45 f_Model_155 (Or.inl rfl) fin_11_35 hM.1 ?_
    refine xv_iconst (pc := 48) 0 d_Model_run_48 (by decide) ?_
    exact xv_retiq (pc := 49) d_Model_run_49 rfl rfl rfl ⟨_, rfl, Or.inl ⟨hn, rfl, rfl⟩⟩
  refine xv_aload_n (pc := 0) d_Model_run_0 rfl rfl ?_
  refine xv_iconst (pc := 1) 0 d_Model_run_1 (by decide) ?_
  refine xv_putI (pc := 2) d_Model_run_2 f_Model_155 (Or.inl rfl) fin_11_35 hM.1 ?_
  refine xv_iload_n (pc := 5) d_Model_run_5 rfl rfl ?_
  refine xv_iconst (pc := 6) 0 d_Model_run_6 (by decide) ?_
  refine xv_bipush (pc := 7) 7 d_Model_run_7 (by decide) ?_
  refine xv_cS3i (pc := 9) (d1 := 0) c_Model_is m_Model_is l_Model_102 d_Model_run_9 (by omega) (Nat.le_of_ble_eq_true rfl) ⟨Nat.le_refl _, Nat.le_refl _⟩ (fun r w hw hN hS => ?_)
  obtain ⟨rfl, hw⟩ := hw
  subst w
  refine xv_if_eq (pc := 12) 43 d_Model_run_12 (by decide) (fun h12 => ?_) (fun h12 => ?_)
  · refine no (fun ⟨f', q1, q2, q3⟩ => xw_eq h12 ?_)
    rw [q2]
    exact ⟨nI_pos0 (by omega), nI_leI8 q1⟩
  obtain ⟨f', hf', rfl⟩ := xI8 (xw_ne h12)
  have hcf : (nI f').toNatClampNeg = f' := nI_clamp (by omega)
  obtain ⟨p1, p2, p3, p4⟩ := hPr f' hf'
  refine xv_aload_n (pc := 15) d_Model_run_15 rfl rfl ?_
  refine xv_getR (pc := 16) d_Model_run_16 f_Model_50 rfl hM.1 (xm_r13 hM) ?_
  refine xv_iload_n (pc := 19) d_Model_run_19 rfl rfl ?_
  refine xv_zald (pc := 20) d_Model_run_20 (xm_k13 hM) (xm_i13 hM (vp_in_nI hf' (by decide))) ?_
  refine xv_if_eq (pc := 21) 43 d_Model_run_21 (by decide) (fun h21 => ?_) (fun h21 => ?_)
  · rw [hcf, xv_si_ne (by omega)] at h21
    refine no (fun ⟨f2, q1, q2, q3⟩ => ?_)
    have : f' = f2 := (nI_eq (by omega) (by omega)).mp q2
    subst this
    obtain ⟨e1, e2⟩ := (p3 q3).2 h0
    rw [e1] at h21
    exact absurd h21 (by decide)
  · rw [hcf, xv_si_ne (by omega)] at h21
    have hL : 0 < L f' := Nat.pos_of_ne_zero (fun e => h21 ((p4 e).2 h0))
    obtain ⟨e1, e2⟩ := (p3 hL).2 h0
    subst h0
    have hgo := c_Model_go (sc := sc) (u := xv_si u M 35 0) (x := x) (y := y) (z := z) (f := f') hM hfr (xUt_th hU) (xPres_th hPr) hA hG hlow hf' hL
    have e16 : (16 : Int32) + nI f' = nI (16 + f') := by rw [← nI_add]; rfl
    refine xv_aload_n (pc := 24) d_Model_run_24 rfl rfl ?_
    refine xv_bipush (pc := 25) 16 d_Model_run_25 (by decide) ?_
    refine xv_iload_n (pc := 27) d_Model_run_27 rfl rfl ?_
    refine xv_iadd (pc := 28) d_Model_run_28 ?_
    refine xv_aload_n (pc := 29) d_Model_run_29 rfl rfl ?_
    refine xv_getR (pc := 30) d_Model_run_30 f_Model_74 rfl hM.1 (xm_r21 hM) ?_
    refine xv_iload_n (pc := 33) d_Model_run_33 rfl rfl ?_
    refine xv_ald (pc := 34) d_Model_run_34 (xm_k21 hM) (xm_i21 hM (vp_in_nI hf' (by decide))) ?_
    refine xv_iload_n (pc := 35) d_Model_run_35 rfl rfl ?_
    refine xv_iload_n (pc := 36) d_Model_run_36 rfl rfl ?_
    refine xv_iload (pc := 37) d_Model_run_37 rfl ?_
    rw [hcf, xv_si_ne (by omega), e2, e16]
    refine xv_cV5i (pc := 39) hgo m_Model_go l_Model_168 d_Model_run_39 (by omega) (by decide : 11 < xv_nc) rfl hM.1 (Nat.le_of_ble_eq_true rfl) ⟨Nat.le_refl _, Nat.le_refl _⟩ (fun r w hw hN hS => ?_)
    exact xv_retiq (pc := 42) d_Model_run_42 rfl hN hS ⟨_, rfl, Or.inr ⟨f', hf', rfl, hL, hw⟩⟩

