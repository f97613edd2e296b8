/-! OpenForms -/
def xv_Op (u : xv_M) (h p q : Nat) : Prop := xv_k u h = 3 ∧ xv_r u h 0 = some p ∧ xv_r u h 1 = some q ∧ xv_k u p = 100 ∧ xv_l u p = 40 ∧ xv_k u q = 100 ∧ xv_l u q = 40
theorem c_Opens_enter {sc : Nat × (Nat → Int32)} {u : xv_M} {h p q n : Nat} {x : Int32} (hF : xv_Op u h p q) (hn : xv_i u h 2 = nI n) (hlt : n < 40) : xv_C sc 0 J_Opens_enter [.ref h, .int x] u (xv_N u) (xv_S u) (xv_pv (fun w => w = xv_si (xv_si (xv_si u p n x) q n 0) h 2 (nI (n + 1)))) := by
  obtain ⟨k0, r0, r1, kp, lp, kq, lq⟩ := hF
  refine xv_C_of (by decide) (Nat.le_refl _) (Nat.le_refl _) (xv_cat1 rfl) (Nat.le_of_ble_eq_true rfl) ?_
  show xv_X sc 0 J_Opens_enter 0 [some (.ref h), some (.int x)] [] u (xv_N u) (xv_S u) _
  have hhp := xv_ne k0 kp (by decide)
  have hhq := xv_ne k0 kq (by decide)
  have hc : (nI n).toNatClampNeg = n := nI_clamp (by omega)
  refine xv_aload_n (pc := 0) d_Opens_enter_0 rfl rfl ?_
  refine xv_getI (pc := 1) d_Opens_enter_1 f_Opens_18 rfl k0 ?_
  refine xv_bipush (pc := 4) 40 d_Opens_enter_4 (by decide) ?_
  refine xv_icmp_ge (pc := 6) 39 d_Opens_enter_6 (by decide) (fun h6 => ?_) (fun h6 => ?_)
  · exact absurd (by rw [hn] at h6; exact h6) (nI_ge hlt (by decide))
  · refine xv_aload_n (pc := 9) d_Opens_enter_9 rfl rfl ?_
    refine xv_getR (pc := 10) d_Opens_enter_10 f_Opens_9 rfl k0 r0 ?_
    refine xv_aload_n (pc := 13) d_Opens_enter_13 rfl rfl ?_
    refine xv_getI (pc := 14) d_Opens_enter_14 f_Opens_18 rfl k0 ?_
    refine xv_iload_n (pc := 17) d_Opens_enter_17 rfl rfl ?_
    refine xv_ast (pc := 18) d_Opens_enter_18 kp (by rw [hn, lp]; exact vp_in_nI hlt (by decide)) ?_
    refine xv_aload_n (pc := 19) d_Opens_enter_19 rfl rfl ?_
    refine xv_getR (pc := 20) d_Opens_enter_20 f_Opens_15 rfl k0 r1 ?_
    refine xv_aload_n (pc := 23) d_Opens_enter_23 rfl rfl ?_
    refine xv_getI (pc := 24) d_Opens_enter_24 f_Opens_18 rfl k0 ?_
    refine xv_iconst (pc := 27) 0 d_Opens_enter_27 (by decide) ?_
    refine xv_ast (pc := 28) d_Opens_enter_28 kq (by rw [xv_si_ne hhp, hn]; show vp_in _ (xv_l u q); rw [lq]; exact vp_in_nI hlt (by decide)) ?_
    refine xv_aload_n (pc := 29) d_Opens_enter_29 rfl rfl ?_
    refine xv_dup_ref (pc := 30) d_Opens_enter_30 ?_
    refine xv_getI (pc := 31) d_Opens_enter_31 f_Opens_18 rfl k0 ?_
    refine xv_iconst (pc := 34) 1 d_Opens_enter_34 (by decide) ?_
    refine xv_iadd (pc := 35) d_Opens_enter_35 ?_
    refine xv_putI (pc := 36) d_Opens_enter_36 f_Opens_18 (Or.inl rfl) fin_2_2 k0 ?_
    exact xv_retvq (pc := 39) d_Opens_enter_39 rfl rfl rfl ⟨rfl, by simp only [xv_si_ne hhp, xv_si_ne hhq, hn, hc, ← nI_succ]⟩
theorem c_Opens_isEmpty {sc : Nat × (Nat → Int32)} {u : xv_M} {h p q n : Nat} (hF : xv_Op u h p q) (hn : xv_i u h 2 = nI n) (hlt : n ≤ 40) : xv_C sc 0 J_Opens_isEmpty [.ref h] u (xv_N u) (xv_S u) (xv_pi (fun r w => r = xB (decide (n = 0)) ∧ w = u)) := by
  obtain ⟨k0, r0, r1, kp, lp, kq, lq⟩ := hF
  refine xv_C_of (by decide) (Nat.le_refl _) (Nat.le_refl _) (xv_cat1 rfl) (Nat.le_of_ble_eq_true rfl) ?_
  show xv_X sc 0 J_Opens_isEmpty 0 [some (.ref h)] [] u (xv_N u) (xv_S u) _
  refine xv_aload_n (pc := 0) d_Opens_isEmpty_0 rfl rfl ?_
  refine xv_getI (pc := 1) d_Opens_isEmpty_1 f_Opens_18 rfl k0 ?_
  refine xv_if_ne (pc := 4) 11 d_Opens_isEmpty_4 (by decide) (fun h4 => ?_) (fun h4 => ?_)
  · rw [hn] at h4
    have e : ¬ n = 0 := fun e => h4 (by rw [e]; rfl)
    refine xv_iconst (pc := 11) 0 d_Opens_isEmpty_11 (by decide) ?_
    exact xv_retzq (pc := 12) d_Opens_isEmpty_12 rfl (by decide) rfl rfl ⟨_, rfl, by rw [decide_eq_false e]; rfl, rfl⟩
  · rw [hn] at h4
    have e : n = 0 := (nI_eq (b := 0) (by omega) (by decide)).mp h4
    refine xv_iconst (pc := 7) 1 d_Opens_isEmpty_7 (by decide) ?_
    refine xv_goto (pc := 8) 12 d_Opens_isEmpty_8 (by decide) ?_
    exact xv_retzq (pc := 12) d_Opens_isEmpty_12 rfl (by decide) rfl rfl ⟨_, rfl, by rw [decide_eq_true e]; rfl, rfl⟩
theorem c_Opens_place {sc : Nat × (Nat → Int32)} {u : xv_M} {h p q n : Nat} (hF : xv_Op u h p q) (hn : xv_i u h 2 = nI (n + 1)) (hlt : n < 40) : xv_C sc 1 J_Opens_place [.ref h] u (xv_N u) (xv_S u) (xv_pi (fun r w => r = xv_i u p n ∧ w = u)) := by
  have hF0 := hF
  obtain ⟨k0, r0, r1, kp, lp, kq, lq⟩ := hF
  have hc : (nI n).toNatClampNeg = n := nI_clamp (by omega)
  have e : xv_i u h 2 - 1 = nI n := by rw [hn, nI_pred]
  refine xv_C_of (by decide) (Nat.le_refl _) (Nat.le_refl _) (xv_cat1 rfl) (Nat.le_of_ble_eq_true rfl) ?_
  show xv_X sc 1 J_Opens_place 0 [some (.ref h)] [] u (xv_N u) (xv_S u) _
  refine xv_aload_n (pc := 0) d_Opens_place_0 rfl rfl ?_
  refine xv_cV0i (pc := 1) (c_Opens_isEmpty hF0 hn (by omega)) m_Opens_isEmpty l_Opens_26 d_Opens_place_1 (by omega) (by decide : 2 < xv_nc) rfl k0 (Nat.le_of_ble_eq_true rfl) ⟨Nat.le_refl _, Nat.le_refl _⟩ (fun r w hw hN hS => ?_)
  obtain ⟨rfl, hw⟩ := hw
  subst w
  refine xv_if_eq (pc := 4) 11 d_Opens_place_4 (by decide) (fun h4 => ?_) (fun h4 => ?_)
  · refine xv_aload_n (pc := 11) d_Opens_place_11 rfl rfl ?_
    refine xv_getR (pc := 12) d_Opens_place_12 f_Opens_9 rfl k0 r0 ?_
    refine xv_aload_n (pc := 15) d_Opens_place_15 rfl rfl ?_
    refine xv_getI (pc := 16) d_Opens_place_16 f_Opens_18 rfl k0 ?_
    refine xv_iconst (pc := 19) 1 d_Opens_place_19 (by decide) ?_
    refine xv_isub (pc := 20) d_Opens_place_20 ?_
    refine xv_ald (pc := 21) d_Opens_place_21 kp (by rw [e, lp]; exact vp_in_nI hlt (by decide)) ?_
    exact xv_retiq (pc := 22) d_Opens_place_22 rfl rfl rfl ⟨_, rfl, by rw [e, hc], rfl⟩
  · exact absurd (by rw [decide_eq_false (by omega)]; rfl) h4
theorem c_Opens_partsDone {sc : Nat × (Nat → Int32)} {u : xv_M} {h p q n : Nat} (hF : xv_Op u h p q) (hn : xv_i u h 2 = nI (n + 1)) (hlt : n < 40) : xv_C sc 1 J_Opens_partsDone [.ref h] u (xv_N u) (xv_S u) (xv_pi (fun r w => r = xv_i u q n ∧ w = u)) := by
  have hF0 := hF
  obtain ⟨k0, r0, r1, kp, lp, kq, lq⟩ := hF
  have hc : (nI n).toNatClampNeg = n := nI_clamp (by omega)
  have e : xv_i u h 2 - 1 = nI n := by rw [hn, nI_pred]
  refine xv_C_of (by decide) (Nat.le_refl _) (Nat.le_refl _) (xv_cat1 rfl) (Nat.le_of_ble_eq_true rfl) ?_
  show xv_X sc 1 J_Opens_partsDone 0 [some (.ref h)] [] u (xv_N u) (xv_S u) _
  refine xv_aload_n (pc := 0) d_Opens_partsDone_0 rfl rfl ?_
  refine xv_cV0i (pc := 1) (c_Opens_isEmpty hF0 hn (by omega)) m_Opens_isEmpty l_Opens_26 d_Opens_partsDone_1 (by omega) (by decide : 2 < xv_nc) rfl k0 (Nat.le_of_ble_eq_true rfl) ⟨Nat.le_refl _, Nat.le_refl _⟩ (fun r w hw hN hS => ?_)
  obtain ⟨rfl, hw⟩ := hw
  subst w
  refine xv_if_eq (pc := 4) 11 d_Opens_partsDone_4 (by decide) (fun h4 => ?_) (fun h4 => ?_)
  · refine xv_aload_n (pc := 11) d_Opens_partsDone_11 rfl rfl ?_
    refine xv_getR (pc := 12) d_Opens_partsDone_12 f_Opens_15 rfl k0 r1 ?_
    refine xv_aload_n (pc := 15) d_Opens_partsDone_15 rfl rfl ?_
    refine xv_getI (pc := 16) d_Opens_partsDone_16 f_Opens_18 rfl k0 ?_
    refine xv_iconst (pc := 19) 1 d_Opens_partsDone_19 (by decide) ?_
    refine xv_isub (pc := 20) d_Opens_partsDone_20 ?_
    refine xv_ald (pc := 21) d_Opens_partsDone_21 kq (by rw [e, lq]; exact vp_in_nI hlt (by decide)) ?_
    exact xv_retiq (pc := 22) d_Opens_partsDone_22 rfl rfl rfl ⟨_, rfl, by rw [e, hc], rfl⟩
  · exact absurd (by rw [decide_eq_false (by omega)]; rfl) h4
theorem c_Opens_leave {sc : Nat × (Nat → Int32)} {u : xv_M} {h p q n : Nat} (hF : xv_Op u h p q) (hn : xv_i u h 2 = nI (n + 1)) (hlt : n < 40) : xv_C sc 1 J_Opens_leave [.ref h] u (xv_N u) (xv_S u) (xv_pv (fun w => w = xv_si u h 2 (nI n))) := by
  have hF0 := hF
  obtain ⟨k0, r0, r1, kp, lp, kq, lq⟩ := hF
  have e : xv_i u h 2 - 1 = nI n := by rw [hn, nI_pred]
  refine xv_C_of (by decide) (Nat.le_refl _) (Nat.le_refl _) (xv_cat1 rfl) (Nat.le_of_ble_eq_true rfl) ?_
  show xv_X sc 1 J_Opens_leave 0 [some (.ref h)] [] u (xv_N u) (xv_S u) _
  refine xv_aload_n (pc := 0) d_Opens_leave_0 rfl rfl ?_
  refine xv_cV0i (pc := 1) (c_Opens_isEmpty hF0 hn (by omega)) m_Opens_isEmpty l_Opens_26 d_Opens_leave_1 (by omega) (by decide : 2 < xv_nc) rfl k0 (Nat.le_of_ble_eq_true rfl) ⟨Nat.le_refl _, Nat.le_refl _⟩ (fun r w hw hN hS => ?_)
  obtain ⟨rfl, hw⟩ := hw
  subst w
  refine xv_if_ne (pc := 4) 17 d_Opens_leave_4 (by decide) (fun h4 => ?_) (fun h4 => ?_)
  · exact absurd (by rw [decide_eq_false (by omega)]; rfl) h4
  · refine xv_aload_n (pc := 7) d_Opens_leave_7 rfl rfl ?_
    refine xv_dup_ref (pc := 8) d_Opens_leave_8 ?_
    refine xv_getI (pc := 9) d_Opens_leave_9 f_Opens_18 rfl k0 ?_
    refine xv_iconst (pc := 12) 1 d_Opens_leave_12 (by decide) ?_
    refine xv_isub (pc := 13) d_Opens_leave_13 ?_
    refine xv_putI (pc := 14) d_Opens_leave_14 f_Opens_18 (Or.inl rfl) fin_2_2 k0 ?_
    exact xv_retvq (pc := 17) d_Opens_leave_17 rfl rfl rfl ⟨rfl, by rw [e]⟩
theorem c_Opens_goOnAs {sc : Nat × (Nat → Int32)} {u : xv_M} {h p q n : Nat} {x : Int32} (hF : xv_Op u h p q) (hn : xv_i u h 2 = nI (n + 1)) (hlt : n < 40) : xv_C sc 2 J_Opens_goOnAs [.ref h, .int x] u (xv_N u) (xv_S u) (xv_pv (fun w => w = xv_si (xv_si (xv_si (xv_si u h 2 (nI n)) p n x) q n 0) h 2 (nI (n + 1)))) := by
  refine xv_C_of (by decide) (Nat.le_refl _) (Nat.le_refl _) (xv_cat1 rfl) (Nat.le_of_ble_eq_true rfl) ?_
  show xv_X sc 2 J_Opens_goOnAs 0 [some (.ref h), some (.int x)] [] u (xv_N u) (xv_S u) _
  refine xv_aload_n (pc := 0) d_Opens_goOnAs_0 rfl rfl ?_
  refine xv_cV0v (pc := 1) (c_Opens_leave hF hn hlt) m_Opens_leave l_Opens_30 d_Opens_goOnAs_1 (by omega) (by decide : 2 < xv_nc) rfl hF.1 (Nat.le_of_ble_eq_true rfl) ⟨Nat.le_refl _, Nat.le_refl _⟩ (fun w hw hN hS => ?_)
  subst w
  refine xv_aload_n (pc := 4) d_Opens_goOnAs_4 rfl rfl ?_
  refine xv_iload_n (pc := 5) d_Opens_goOnAs_5 rfl rfl ?_
  refine xv_cV1v (pc := 6) (c_Opens_enter (u := xv_si u h 2 (nI n)) hF xv_si_eq hlt) m_Opens_enter l_Opens_22 d_Opens_goOnAs_6 (by omega) (by decide : 2 < xv_nc) rfl hF.1 (Nat.le_of_ble_eq_true rfl) ⟨Nat.le_refl _, Nat.le_refl _⟩ (fun w hw hN hS => ?_)
  subst w
  exact xv_retvq (pc := 9) d_Opens_goOnAs_9 rfl rfl rfl ⟨rfl, rfl⟩
theorem c_Opens_begin {sc : Nat × (Nat → Int32)} {u : xv_M} {h p q : Nat} (hF : xv_Op u h p q) : xv_C sc 1 J_Opens_begin [.ref h] u (xv_N u) (xv_S u) (xv_pv (fun w => w = xv_si (xv_si (xv_si (xv_si u h 2 0) p 0 0) q 0 0) h 2 (nI 1))) := by
  refine xv_C_of (by decide) (Nat.le_refl _) (Nat.le_refl _) (xv_cat1 rfl) (Nat.le_of_ble_eq_true rfl) ?_
  show xv_X sc 1 J_Opens_begin 0 [some (.ref h)] [] u (xv_N u) (xv_S u) _
  refine xv_aload_n (pc := 0) d_Opens_begin_0 rfl rfl ?_
  refine xv_iconst (pc := 1) 0 d_Opens_begin_1 (by decide) ?_
  refine xv_putI (pc := 2) d_Opens_begin_2 f_Opens_18 (Or.inl rfl) fin_2_2 hF.1 ?_
  refine xv_aload_n (pc := 5) d_Opens_begin_5 rfl rfl ?_
  refine xv_iconst (pc := 6) 0 d_Opens_begin_6 (by decide) ?_
  refine xv_cV1v (pc := 7) (c_Opens_enter (u := xv_si u h 2 0) (n := 0) hF xv_si_eq (by decide)) m_Opens_enter l_Opens_22 d_Opens_begin_7 (by omega) (by decide : 2 < xv_nc) rfl hF.1 (Nat.le_of_ble_eq_true rfl) ⟨Nat.le_refl _, Nat.le_refl _⟩ (fun w hw hN hS => ?_)
  subst w
  exact xv_retvq (pc := 10) d_Opens_begin_10 rfl rfl rfl ⟨rfl, rfl⟩
theorem c_Opens_enterPart {sc : Nat × (Nat → Int32)} {u : xv_M} {h p q n : Nat} {x : Int32} (hF : xv_Op u h p q) (hn : xv_i u h 2 = nI (n + 1)) (hlt : n + 1 < 40) : xv_C sc 1 J_Opens_enterPart [.ref h, .int x] u (xv_N u) (xv_S u) (xv_pv (fun w => w = xv_si (xv_si (xv_si (xv_si u q n (xv_i u q n + 1)) p (n + 1) x) q (n + 1) 0) h 2 (nI (n + 2)))) := by
  have hF0 := hF
  obtain ⟨k0, r0, r1, kp, lp, kq, lq⟩ := hF
  have hhq := xv_ne k0 kq (by decide)
  have hc : (nI n).toNatClampNeg = n := nI_clamp (by omega)
  have e : xv_i u h 2 - 1 = nI n := by rw [hn, nI_pred]
  refine xv_C_of (by decide) (Nat.le_refl _) (Nat.le_refl _) (xv_cat1 rfl) (Nat.le_of_ble_eq_true rfl) ?_
  show xv_X sc 1 J_Opens_enterPart 0 [some (.ref h), some (.int x)] [] u (xv_N u) (xv_S u) _
  refine xv_aload_n (pc := 0) d_Opens_enterPart_0 rfl rfl ?_
  refine xv_cV0i (pc := 1) (c_Opens_isEmpty hF0 hn (by omega)) m_Opens_isEmpty l_Opens_26 d_Opens_enterPart_1 (by omega) (by decide : 2 < xv_nc) rfl k0 (Nat.le_of_ble_eq_true rfl) ⟨Nat.le_refl _, Nat.le_refl _⟩ (fun r w hw hN hS => ?_)
  obtain ⟨rfl, hw⟩ := hw
  subst w
  refine xv_if_ne (pc := 4) 22 d_Opens_enterPart_4 (by decide) (fun h4 => ?_) (fun h4 => ?_)
  · exact absurd (by rw [decide_eq_false (by omega)]; rfl) h4
  · refine xv_aload_n (pc := 7) d_Opens_enterPart_7 rfl rfl ?_
    refine xv_getR (pc := 8) d_Opens_enterPart_8 f_Opens_15 rfl k0 r1 ?_
    refine xv_aload_n (pc := 11) d_Opens_enterPart_11 rfl rfl ?_
    refine xv_getI (pc := 12) d_Opens_enterPart_12 f_Opens_18 rfl k0 ?_
    refine xv_iconst (pc := 15) 1 d_Opens_enterPart_15 (by decide) ?_
    refine xv_isub (pc := 16) d_Opens_enterPart_16 ?_
    refine xv_dup2 (pc := 17) d_Opens_enterPart_17 ?_
    refine xv_ald (pc := 18) d_Opens_enterPart_18 kq (by rw [e, lq]; exact vp_in_nI (by omega) (by decide)) ?_
    refine xv_iconst (pc := 19) 1 d_Opens_enterPart_19 (by decide) ?_
    refine xv_iadd (pc := 20) d_Opens_enterPart_20 ?_
    refine xv_ast (pc := 21) d_Opens_enterPart_21 kq (by rw [e, lq]; exact vp_in_nI (by omega) (by decide)) ?_
    refine xv_aload_n (pc := 22) d_Opens_enterPart_22 rfl rfl ?_
    refine xv_iload_n (pc := 23) d_Opens_enterPart_23 rfl rfl ?_
    rw [e, hc]
    refine xv_cV1v (pc := 24) (c_Opens_enter (u := xv_si u q n (xv_i u q n + 1)) (n := n + 1) hF0 (by rw [xv_si_ne hhq]; exact hn) (by omega)) m_Opens_enter l_Opens_22 d_Opens_enterPart_24 (by omega) (by decide : 2 < xv_nc) rfl k0 (Nat.le_of_ble_eq_true rfl) ⟨Nat.le_refl _, Nat.le_refl _⟩ (fun w hw hN hS => ?_)
    subst w
    exact xv_retvq (pc := 27) d_Opens_enterPart_27 rfl rfl rfl ⟨rfl, rfl⟩

