/-! FaslDesk: the small methods -/
def xDk (u : xv_M) (h dr it cp ar im : Nat) : Prop := xv_k u h = 11 ∧ xv_r u h 0 = some dr ∧ xv_r u h 1 = some it ∧ xv_r u h 2 = some cp ∧ xv_r u h 3 = some ar ∧ xv_r u h 4 = some im
theorem c_Desk_clear {sc : Nat × (Nat → Int32)} {u : xv_M} {h dr it cp ar im : Nat} (hD : xDk u h dr it cp ar im) {o a t : Nat} (hF : xv_Fo u dr o a t) : xv_C sc 0 J_Desk_clear [.ref h] u (xv_N u) (xv_S u) (xv_pi (fun r w => r = xv_i u dr 2 ∧ w = xv_si u dr 2 0)) := by
  obtain ⟨k0, r0, r1, r2, r3, r4⟩ := hD
  refine xv_C_of (by decide) (Nat.le_refl _) (Nat.le_refl _) (xv_cat1 rfl) (Nat.le_of_ble_eq_true rfl) ?_
  show xv_X sc 0 J_Desk_clear 0 [some (.ref h), none] [] u (xv_N u) (xv_S u) _
  refine xv_aload_n (pc := 0) d_Desk_clear_0 rfl rfl ?_
  refine xv_getR (pc := 1) d_Desk_clear_1 f_Desk_10 rfl k0 r0 ?_
  refine xv_getI (pc := 4) d_Desk_clear_4 f_Desk_52 rfl hF.1 ?_
  refine xv_istore_1 (pc := 7) d_Desk_clear_7 (by decide) rfl ?_
  refine xv_aload_n (pc := 8) d_Desk_clear_8 rfl rfl ?_
  refine xv_getR (pc := 9) d_Desk_clear_9 f_Desk_10 rfl k0 r0 ?_
  refine xv_iconst (pc := 12) 0 d_Desk_clear_12 (by decide) ?_
  refine xv_putI (pc := 13) d_Desk_clear_13 f_Desk_52 (Or.inl rfl) fin_0_2 hF.1 ?_
  refine xv_iload_n (pc := 16) d_Desk_clear_16 rfl rfl ?_
  exact xv_retiq (pc := 17) d_Desk_clear_17 rfl rfl rfl ⟨_, rfl, rfl, rfl⟩
theorem c_Desk_token {sc : Nat × (Nat → Int32)} {u : xv_M} {h dr it cp ar im : Nat} (hD : xDk u h dr it cp ar im) {o a t n : Nat} {x y : Int32} (hF : xv_Fo u dr o a t) (hoa : o ≠ a) (hn : xv_i u dr 2 = nI n) (hn40 : n ≤ 40) : xv_C sc 2 J_Desk_token [.ref h, .int x, .int y] u (xv_N u) (xv_S u) (xv_pi (fun r w => (xOkT x y = 0 ∧ r = -1 ∧ w = u) ∨ (¬ xOkT x y = 0 ∧ n = 40 ∧ r = -2 ∧ w = u) ∨ (¬ xOkT x y = 0 ∧ n < 40 ∧ r = nI (n + 1) ∧ w = xv_si (xv_si (xv_si u o n x) a n y) dr 2 (nI (n + 1))))) := by
  obtain ⟨k0, r0, r1, r2, r3, r4⟩ := hD
  refine xv_C_of (by decide) (Nat.le_refl _) (Nat.le_refl _) (xv_cat1 rfl) (Nat.le_of_ble_eq_true rfl) ?_
  show xv_X sc 2 J_Desk_token 0 [some (.ref h), some (.int x), some (.int y)] [] u (xv_N u) (xv_S u) _
  refine xv_iload_n (pc := 0) d_Desk_token_0 rfl rfl ?_
  refine xv_iload_n (pc := 1) d_Desk_token_1 rfl rfl ?_
  refine xv_cS2i (pc := 2) (d1 := 1) c_Form_allows m_Form_allows l_Desk_48 d_Desk_token_2 (by omega) (Nat.le_of_ble_eq_true rfl) ⟨Nat.le_refl _, Nat.le_refl _⟩ (fun r w hw hN hS => ?_)
  obtain ⟨rfl, hw⟩ := hw
  subst w
  refine xv_if_ne (pc := 5) 10 d_Desk_token_5 (by decide) (fun h5 => ?_) (fun h5 => ?_)
  case refine_2 =>
    refine xv_iconst (pc := 8) (-1) d_Desk_token_8 (by decide) ?_
    exact xv_retiq (pc := 9) d_Desk_token_9 rfl rfl rfl ⟨_, rfl, Or.inl ⟨h5, rfl, rfl⟩⟩
  refine xv_aload_n (pc := 10) d_Desk_token_10 rfl rfl ?_
  refine xv_getR (pc := 11) d_Desk_token_11 f_Desk_10 rfl k0 r0 ?_
  refine xv_getI (pc := 14) d_Desk_token_14 f_Desk_52 rfl hF.1 ?_
  refine xv_bipush (pc := 17) 40 d_Desk_token_17 (by decide) ?_
  refine xv_icmp_lt (pc := 19) 25 d_Desk_token_19 (by decide) (fun h19 => ?_) (fun h19 => ?_)
  case refine_2 =>
    rw [hn] at h19
    have e : n = 40 := by
      by_cases c : n < 40
      · exact absurd (nI_lt (b := 40) c (by decide)) h19
      · omega
    refine xv_bipush (pc := 22) (-2) d_Desk_token_22 (by decide) ?_
    exact xv_retiq (pc := 24) d_Desk_token_24 rfl rfl rfl ⟨_, rfl, Or.inr (Or.inl ⟨h5, e, rfl, rfl⟩)⟩
  rw [hn] at h19
  have e : n < 40 := Nat.not_le.mp (fun q => absurd (nI_le (a := 40) q (by omega)) (Int32.not_le.mpr h19))
  refine xv_aload_n (pc := 25) d_Desk_token_25 rfl rfl ?_
  refine xv_getR (pc := 26) d_Desk_token_26 f_Desk_10 rfl k0 r0 ?_
  refine xv_iload_n (pc := 29) d_Desk_token_29 rfl rfl ?_
  refine xv_iload_n (pc := 30) d_Desk_token_30 rfl rfl ?_
  refine xv_cV2v (pc := 31) (d1 := 0) (c_Form_append hF hoa hn e) m_Form_append l_Desk_55 d_Desk_token_31 (by omega) (by decide : 0 < xv_nc) rfl hF.1 (Nat.le_of_ble_eq_true rfl) ⟨Nat.le_refl _, Nat.le_refl _⟩ (fun w hw hN hS => ?_)
  subst w
  refine xv_aload_n (pc := 34) d_Desk_token_34 rfl rfl ?_
  refine xv_getR (pc := 35) d_Desk_token_35 f_Desk_10 rfl k0 r0 ?_
  refine xv_getI (pc := 38) d_Desk_token_38 f_Desk_52 rfl hF.1 ?_
  exact xv_retiq (pc := 41) d_Desk_token_41 rfl rfl rfl ⟨_, rfl, Or.inr (Or.inr ⟨h5, e, xv_si_eq, rfl⟩)⟩
theorem c_Desk_damageMagic {sc : Nat × (Nat → Int32)} {u : xv_M} {h dr it cp ar im : Nat} (hD : xDk u h dr it cp ar im) {ea cc : Nat} {x : Int32} (hA : xv_Ar u ar ea cc) : xv_C sc 1 J_Desk_damageMagic [.ref h, .int x] u (xv_N u) (xv_S u) (xv_pi (fun r w => (¬ (0 ≤ x ∧ x ≤ 7) ∧ r = -1 ∧ w = u) ∨ ((0 ≤ x ∧ x ≤ 7) ∧ r = 1 ∧ w = xv_si u ar 2 x))) := by
  obtain ⟨k0, r0, r1, r2, r3, r4⟩ := hD
  refine xv_C_of (by decide) (Nat.le_refl _) (Nat.le_refl _) (xv_cat1 rfl) (Nat.le_of_ble_eq_true rfl) ?_
  show xv_X sc 1 J_Desk_damageMagic 0 [some (.ref h), some (.int x)] [] u (xv_N u) (xv_S u) _
  refine xv_iload_n (pc := 0) d_Desk_damageMagic_0 rfl rfl ?_
  refine xv_iconst (pc := 1) 0 d_Desk_damageMagic_1 (by decide) ?_
  refine xv_bipush (pc := 2) 7 d_Desk_damageMagic_2 (by decide) ?_
  refine xv_cS3i (pc := 4) (d1 := 0) c_Desk_within m_Desk_within l_Desk_59 d_Desk_damageMagic_4 (by omega) (Nat.le_of_ble_eq_true rfl) ⟨Nat.le_refl _, Nat.le_refl _⟩ (fun r w hw hN hS => ?_)
  obtain ⟨rfl, hw⟩ := hw
  subst w
  refine xv_if_ne (pc := 7) 12 d_Desk_damageMagic_7 (by decide) (fun h7 => ?_) (fun h7 => ?_)
  case refine_2 =>
    refine xv_iconst (pc := 10) (-1) d_Desk_damageMagic_10 (by decide) ?_
    exact xv_retiq (pc := 11) d_Desk_damageMagic_11 rfl rfl rfl ⟨_, rfl, Or.inl ⟨xw_eq h7, rfl, rfl⟩⟩
  refine xv_aload_n (pc := 12) d_Desk_damageMagic_12 rfl rfl ?_
  refine xv_getR (pc := 13) d_Desk_damageMagic_13 f_Desk_33 rfl k0 r3 ?_
  refine xv_iload_n (pc := 16) d_Desk_damageMagic_16 rfl rfl ?_
  refine xv_putI (pc := 17) d_Desk_damageMagic_17 f_Desk_201 (Or.inl rfl) fin_8_2 hA.1 ?_
  refine xv_iconst (pc := 20) 1 d_Desk_damageMagic_20 (by decide) ?_
  exact xv_retiq (pc := 21) d_Desk_damageMagic_21 rfl rfl rfl ⟨_, rfl, Or.inr ⟨xw_ne h7, rfl, rfl⟩⟩
theorem c_Desk_damageStated {sc : Nat × (Nat → Int32)} {u : xv_M} {h dr it cp ar im : Nat} (hD : xDk u h dr it cp ar im) {ea cc : Nat} {x : Int32} (hA : xv_Ar u ar ea cc) : xv_C sc 1 J_Desk_damageStated [.ref h, .int x] u (xv_N u) (xv_S u) (xv_pi (fun r w => (¬ (0 ≤ x ∧ x ≤ 9) ∧ r = -1 ∧ w = u) ∨ ((0 ≤ x ∧ x ≤ 9) ∧ r = 1 ∧ w = xv_si u ar 3 x))) := by
  obtain ⟨k0, r0, r1, r2, r3, r4⟩ := hD
  refine xv_C_of (by decide) (Nat.le_refl _) (Nat.le_refl _) (xv_cat1 rfl) (Nat.le_of_ble_eq_true rfl) ?_
  show xv_X sc 1 J_Desk_damageStated 0 [some (.ref h), some (.int x)] [] u (xv_N u) (xv_S u) _
  refine xv_iload_n (pc := 0) d_Desk_damageStated_0 rfl rfl ?_
  refine xv_iconst (pc := 1) 0 d_Desk_damageStated_1 (by decide) ?_
  refine xv_bipush (pc := 2) 9 d_Desk_damageStated_2 (by decide) ?_
  refine xv_cS3i (pc := 4) (d1 := 0) c_Desk_within m_Desk_within l_Desk_59 d_Desk_damageStated_4 (by omega) (Nat.le_of_ble_eq_true rfl) ⟨Nat.le_refl _, Nat.le_refl _⟩ (fun r w hw hN hS => ?_)
  obtain ⟨rfl, hw⟩ := hw
  subst w
  refine xv_if_ne (pc := 7) 12 d_Desk_damageStated_7 (by decide) (fun h7 => ?_) (fun h7 => ?_)
  case refine_2 =>
    refine xv_iconst (pc := 10) (-1) d_Desk_damageStated_10 (by decide) ?_
    exact xv_retiq (pc := 11) d_Desk_damageStated_11 rfl rfl rfl ⟨_, rfl, Or.inl ⟨xw_eq h7, rfl, rfl⟩⟩
  refine xv_aload_n (pc := 12) d_Desk_damageStated_12 rfl rfl ?_
  refine xv_getR (pc := 13) d_Desk_damageStated_13 f_Desk_33 rfl k0 r3 ?_
  refine xv_iload_n (pc := 16) d_Desk_damageStated_16 rfl rfl ?_
  refine xv_putI (pc := 17) d_Desk_damageStated_17 f_Desk_197 (Or.inl rfl) fin_8_3 hA.1 ?_
  refine xv_iconst (pc := 20) 1 d_Desk_damageStated_20 (by decide) ?_
  exact xv_retiq (pc := 21) d_Desk_damageStated_21 rfl rfl rfl ⟨_, rfl, Or.inr ⟨xw_ne h7, rfl, rfl⟩⟩
/-- an index of the archive, as the number that it is -/
theorem xIe {n : Nat} {x : Int32} (h : 0 ≤ x ∧ x < nI n) (hn : n ≤ 8) : ∃ e, e < n ∧ x = nI e ∧ x.toNatClampNeg = e := xIx (fun q => q.elim (fun q => absurd q (Int32.not_lt.mpr h.1)) (fun q => absurd h.2 (Int32.not_lt.mpr q))) (by omega)
theorem c_Desk_damageNumber {sc : Nat × (Nat → Int32)} {u : xv_M} {h dr it cp ar im : Nat} (hD : xDk u h dr it cp ar im) {ea cc n : Nat} {E : Nat → Nat} {x : Int32} (hA : xv_Ar u ar ea cc) (hE : xv_Es u ea E) (hn : xv_i u ar 1 = nI n) (hlt : n ≤ 8) {y : Int32} : xv_C sc 1 J_Desk_damageNumber [.ref h, .int x, .int y] u (xv_N u) (xv_S u) (xv_pi (fun r w => (¬ ((0 ≤ x ∧ x < nI n) ∧ 0 ≤ y ∧ y ≤ 7) ∧ r = -1 ∧ w = u) ∨ (∃ e, e < n ∧ x = nI e ∧ (0 ≤ y ∧ y ≤ 7) ∧ r = 1 ∧ w = xv_si u (E e) 2 y))) := by
  obtain ⟨k0, r0, r1, r2, r3, r4⟩ := hD
  refine xv_C_of (by decide) (Nat.le_refl _) (Nat.le_refl _) (xv_cat1 rfl) (Nat.le_of_ble_eq_true rfl) ?_
  show xv_X sc 1 J_Desk_damageNumber 0 [some (.ref h), some (.int x), some (.int y)] [] u (xv_N u) (xv_S u) _
  refine xv_aload_n (pc := 0) d_Desk_damageNumber_0 rfl rfl ?_
  refine xv_getR (pc := 1) d_Desk_damageNumber_1 f_Desk_33 rfl k0 r3 ?_
  refine xv_iload_n (pc := 4) d_Desk_damageNumber_4 rfl rfl ?_
  refine xv_cV1i (pc := 5) (d1 := 0) (c_Arch_has hA) m_Arch_has l_Desk_139 d_Desk_damageNumber_5 (by omega) (by decide : 8 < xv_nc) rfl hA.1 (Nat.le_of_ble_eq_true rfl) ⟨Nat.le_refl _, Nat.le_refl _⟩ (fun r w hw hN hS => ?_)
  obtain ⟨rfl, hw⟩ := hw
  subst w
  rw [hn]
  refine xv_if_eq (pc := 8) 21 d_Desk_damageNumber_8 (by decide) (fun h8 => ?_) (fun h8 => ?_)
  · have e := of_decide_eq_false (xB_eq h8)
    refine xv_iconst (pc := 21) (-1) d_Desk_damageNumber_21 (by decide) ?_
    exact xv_retiq (pc := 22) d_Desk_damageNumber_22 rfl rfl rfl ⟨_, rfl, Or.inl ⟨fun q => e q.1, rfl, rfl⟩⟩
  have e := of_decide_eq_true (xB_ne h8)
  refine xv_iload_n (pc := 11) d_Desk_damageNumber_11 rfl rfl ?_
  refine xv_iconst (pc := 12) 0 d_Desk_damageNumber_12 (by decide) ?_
  refine xv_bipush (pc := 13) 7 d_Desk_damageNumber_13 (by decide) ?_
  refine xv_cS3i (pc := 15) (d1 := 0) c_Desk_within m_Desk_within l_Desk_59 d_Desk_damageNumber_15 (by omega) (Nat.le_of_ble_eq_true rfl) ⟨Nat.le_refl _, Nat.le_refl _⟩ (fun r w hw hN hS => ?_)
  obtain ⟨rfl, hw⟩ := hw
  subst w
  refine xv_if_ne (pc := 18) 23 d_Desk_damageNumber_18 (by decide) (fun h18 => ?_) (fun h18 => ?_)
  case refine_2 =>
    refine xv_iconst (pc := 21) (-1) d_Desk_damageNumber_21 (by decide) ?_
    exact xv_retiq (pc := 22) d_Desk_damageNumber_22 rfl rfl rfl ⟨_, rfl, Or.inl ⟨fun q => xw_eq h18 q.2, rfl, rfl⟩⟩
  obtain ⟨i, hi, hx, hc⟩ := xIe e hlt
  obtain ⟨e1, e2⟩ := hE i (by omega)
  refine xv_aload_n (pc := 23) d_Desk_damageNumber_23 rfl rfl ?_
  refine xv_getR (pc := 24) d_Desk_damageNumber_24 f_Desk_33 rfl k0 r3 ?_
  refine xv_getR (pc := 27) d_Desk_damageNumber_27 f_Desk_86 rfl hA.1 hA.2.1 ?_
  refine xv_iload_n (pc := 30) d_Desk_damageNumber_30 rfl rfl ?_
  refine xv_aald (pc := 31) (t := 3) d_Desk_damageNumber_31 hA.2.2.2.1 rfl (by rw [hA.2.2.2.2, hx]; exact vp_in_nI (by omega) (by decide)) (by rw [hc]; exact e1) ?_
  refine xv_iload_n (pc := 32) d_Desk_damageNumber_32 rfl rfl ?_
  refine xv_putI (pc := 33) d_Desk_damageNumber_33 f_Desk_169 (Or.inl rfl) fin_5_2 e2.1 ?_
  refine xv_iconst (pc := 36) 1 d_Desk_damageNumber_36 (by decide) ?_
  exact xv_retiq (pc := 37) d_Desk_damageNumber_37 rfl rfl rfl ⟨_, rfl, Or.inr ⟨i, hi, hx, xw_ne h18, rfl, rfl⟩⟩
theorem c_Desk_damageOctet {sc : Nat × (Nat → Int32)} {u : xv_M} {h dr it cp ar im : Nat} (hD : xDk u h dr it cp ar im) {ea cc n : Nat} {E : Nat → Nat} {x : Int32} (hA : xv_Ar u ar ea cc) (hE : xv_Es u ea E) (hn : xv_i u ar 1 = nI n) (hlt : n ≤ 8) (ho : ∀ e, e < 8 → xv_i u (E e) 6 = 0 ∨ xv_i u (E e) 6 = 1) : xv_C sc 1 J_Desk_damageOctet [.ref h, .int x] u (xv_N u) (xv_S u) (xv_pi (fun r w => (¬ (0 ≤ x ∧ x < nI n) ∧ r = -1 ∧ w = u) ∨ (∃ e, e < n ∧ x = nI e ∧ r = 1 ∧ w = xv_si u (E e) 6 (if xv_i u (E e) 6 = 0 then 1 else 0)))) := by
  obtain ⟨k0, r0, r1, r2, r3, r4⟩ := hD
  refine xv_C_of (by decide) (Nat.le_refl _) (Nat.le_refl _) (xv_cat1 rfl) (Nat.le_of_ble_eq_true rfl) ?_
  show xv_X sc 1 J_Desk_damageOctet 0 [some (.ref h), some (.int x), none] [] u (xv_N u) (xv_S u) _
  refine xv_aload_n (pc := 0) d_Desk_damageOctet_0 rfl rfl ?_
  refine xv_getR (pc := 1) d_Desk_damageOctet_1 f_Desk_33 rfl k0 r3 ?_
  refine xv_iload_n (pc := 4) d_Desk_damageOctet_4 rfl rfl ?_
  refine xv_cV1i (pc := 5) (d1 := 0) (c_Arch_has hA) m_Arch_has l_Desk_139 d_Desk_damageOctet_5 (by omega) (by decide : 8 < xv_nc) rfl hA.1 (Nat.le_of_ble_eq_true rfl) ⟨Nat.le_refl _, Nat.le_refl _⟩ (fun r w hw hN hS => ?_)
  obtain ⟨rfl, hw⟩ := hw
  subst w
  rw [hn]
  refine xv_if_ne (pc := 8) 13 d_Desk_damageOctet_8 (by decide) (fun h8 => ?_) (fun h8 => ?_)
  case refine_2 =>
    have e := of_decide_eq_false (xB_eq h8)
    refine xv_iconst (pc := 11) (-1) d_Desk_damageOctet_11 (by decide) ?_
    exact xv_retiq (pc := 12) d_Desk_damageOctet_12 rfl rfl rfl ⟨_, rfl, Or.inl ⟨e, rfl, rfl⟩⟩
  have e := of_decide_eq_true (xB_ne h8)
  obtain ⟨i, hi, hx, hc⟩ := xIe e hlt
  obtain ⟨e1, e2⟩ := hE i (by omega)
  refine xv_aload_n (pc := 13) d_Desk_damageOctet_13 rfl rfl ?_
  refine xv_getR (pc := 14) d_Desk_damageOctet_14 f_Desk_33 rfl k0 r3 ?_
  refine xv_getR (pc := 17) d_Desk_damageOctet_17 f_Desk_86 rfl hA.1 hA.2.1 ?_
  refine xv_iload_n (pc := 20) d_Desk_damageOctet_20 rfl rfl ?_
  refine xv_aald (pc := 21) (t := 3) d_Desk_damageOctet_21 hA.2.2.2.1 rfl (by rw [hA.2.2.2.2, hx]; exact vp_in_nI (by omega) (by decide)) (by rw [hc]; exact e1) ?_
  refine xv_astore_2 (pc := 22) d_Desk_damageOctet_22 (by decide) rfl ?_
  refine xv_aload_n (pc := 23) d_Desk_damageOctet_23 rfl rfl ?_
  refine xv_aload_n (pc := 24) d_Desk_damageOctet_24 rfl rfl ?_
  refine xv_getI (pc := 25) d_Desk_damageOctet_25 f_Desk_204 rfl e2.1 ?_
  refine xv_if_ne (pc := 28) 35 d_Desk_damageOctet_28 (by decide) (fun h28 => ?_) (fun h28 => ?_)
  · skip
    refine xv_iconst (pc := 35) 0 d_Desk_damageOctet_35 (by decide) ?_
    refine xv_putI (pc := 36) d_Desk_damageOctet_36 f_Desk_204 (Or.inr ⟨rfl, (Or.inl rfl)⟩) fin_5_6 e2.1 ?_
    refine xv_iconst (pc := 39) 1 d_Desk_damageOctet_39 (by decide) ?_
    exact xv_retiq (pc := 40) d_Desk_damageOctet_40 rfl rfl rfl ⟨_, rfl, Or.inr ⟨i, hi, hx, rfl, by rw [if_neg h28]⟩⟩
  · skip
    refine xv_iconst (pc := 31) 1 d_Desk_damageOctet_31 (by decide) ?_
    refine xv_goto (pc := 32) 36 d_Desk_damageOctet_32 (by decide) ?_
    refine xv_putI (pc := 36) d_Desk_damageOctet_36 f_Desk_204 (Or.inr ⟨rfl, (Or.inr rfl)⟩) fin_5_6 e2.1 ?_
    refine xv_iconst (pc := 39) 1 d_Desk_damageOctet_39 (by decide) ?_
    exact xv_retiq (pc := 40) d_Desk_damageOctet_40 rfl rfl rfl ⟨_, rfl, Or.inr ⟨i, hi, hx, rfl, by rw [if_pos h28]⟩⟩
theorem c_Desk_sealAnew {sc : Nat × (Nat → Int32)} {u : xv_M} {h dr it cp ar im : Nat} (hD : xDk u h dr it cp ar im) {ea cc n : Nat} {E : Nat → Nat} {x : Int32} (hA : xv_Ar u ar ea cc) (hE : xv_Es u ea E) (hn : xv_i u ar 1 = nI n) (hlt : n ≤ 8) {L : Nat → Nat} (ho : ∀ e, e < 8 → xv_i u (E e) 6 = 0 ∨ xv_i u (E e) 6 = 1) (hL : ∀ e, e < 8 → xv_i u (E e + 1) 3 = nI (L e) ∧ L e ≤ 265) : xv_C sc 2 J_Desk_sealAnew [.ref h, .int x] u (xv_N u) (xv_S u) (xv_pi (fun r w => (¬ (0 ≤ x ∧ x < nI n) ∧ r = -1 ∧ w = u) ∨ (∃ e, e < n ∧ x = nI e ∧ r = 1 ∧ w = xv_sw (xv_si (xv_si u (E e) 8 (xv_i u (E e) 2)) (E e) 9 (xv_i u (E e) 6)) (E e + 6) (va_cpy (xv_i u (E e + 2)) (xv_i u (E e + 6)) 0 0 (L e))))) := by
  obtain ⟨k0, r0, r1, r2, r3, r4⟩ := hD
  refine xv_C_of (by decide) (Nat.le_refl _) (Nat.le_refl _) (xv_cat1 rfl) (Nat.le_of_ble_eq_true rfl) ?_
  show xv_X sc 2 J_Desk_sealAnew 0 [some (.ref h), some (.int x)] [] u (xv_N u) (xv_S u) _
  refine xv_aload_n (pc := 0) d_Desk_sealAnew_0 rfl rfl ?_
  refine xv_getR (pc := 1) d_Desk_sealAnew_1 f_Desk_33 rfl k0 r3 ?_
  refine xv_iload_n (pc := 4) d_Desk_sealAnew_4 rfl rfl ?_
  refine xv_cV1i (pc := 5) (d1 := 0) (c_Arch_has hA) m_Arch_has l_Desk_139 d_Desk_sealAnew_5 (by omega) (by decide : 8 < xv_nc) rfl hA.1 (Nat.le_of_ble_eq_true rfl) ⟨Nat.le_refl _, Nat.le_refl _⟩ (fun r w hw hN hS => ?_)
  obtain ⟨rfl, hw⟩ := hw
  subst w
  rw [hn]
  refine xv_if_ne (pc := 8) 13 d_Desk_sealAnew_8 (by decide) (fun h8 => ?_) (fun h8 => ?_)
  case refine_2 =>
    have e := of_decide_eq_false (xB_eq h8)
    refine xv_iconst (pc := 11) (-1) d_Desk_sealAnew_11 (by decide) ?_
    exact xv_retiq (pc := 12) d_Desk_sealAnew_12 rfl rfl rfl ⟨_, rfl, Or.inl ⟨e, rfl, rfl⟩⟩
  have e := of_decide_eq_true (xB_ne h8)
  obtain ⟨i, hi, hx, hc⟩ := xIe e hlt
  obtain ⟨e1, e2⟩ := hE i (by omega)
  refine xv_aload_n (pc := 13) d_Desk_sealAnew_13 rfl rfl ?_
  refine xv_getR (pc := 14) d_Desk_sealAnew_14 f_Desk_33 rfl k0 r3 ?_
  refine xv_getR (pc := 17) d_Desk_sealAnew_17 f_Desk_86 rfl hA.1 hA.2.1 ?_
  refine xv_iload_n (pc := 20) d_Desk_sealAnew_20 rfl rfl ?_
  refine xv_aald (pc := 21) (t := 3) d_Desk_sealAnew_21 hA.2.2.2.1 rfl (by rw [hA.2.2.2.2, hx]; exact vp_in_nI (by omega) (by decide)) (by rw [hc]; exact e1) ?_
  refine xv_cV0v (pc := 22) (d1 := 1) (c_Entry_makeSeal e2 (ho i (by omega)) (hL i (by omega)).1 (hL i (by omega)).2) m_Entry_makeSeal l_Desk_208 d_Desk_sealAnew_22 (by omega) (by decide : 5 < xv_nc) rfl e2.1 (Nat.le_of_ble_eq_true rfl) ⟨Nat.le_refl _, Nat.le_refl _⟩ (fun w hw hN hS => ?_)
  subst w
  refine xv_iconst (pc := 25) 1 d_Desk_sealAnew_25 (by decide) ?_
  exact xv_retiq (pc := 26) d_Desk_sealAnew_26 rfl rfl rfl ⟨_, rfl, Or.inr ⟨i, hi, hx, rfl, rfl⟩⟩
theorem c_Desk_drop {sc : Nat × (Nat → Int32)} {u : xv_M} {h dr it cp ar im : Nat} (hD : xDk u h dr it cp ar im) {ea cc n : Nat} {E : Nat → Nat} {x : Int32} (hA : xv_Ar u ar ea cc) (hE : xv_Es u ea E) (hn : xv_i u ar 1 = nI n) (hlt : n ≤ 8) : xv_C sc 1 J_Desk_drop [.ref h, .int x] u (xv_N u) (xv_S u) (xv_pi (fun r w => (¬ (0 ≤ x ∧ x < nI n) ∧ r = -1 ∧ w = u) ∨ (∃ e, e < n ∧ x = nI e ∧ r = xv_i u (E e) 2 ∧ ∃ ρ, (∀ j, j < 8 → ρ j = some (xRm E e n j)) ∧ w = xv_si (xv_si (xRow u ea ρ) ar 1 (nI (n - 1))) ar 3 (nI (n - 1))))) := by
  obtain ⟨k0, r0, r1, r2, r3, r4⟩ := hD
  refine xv_C_of (by decide) (Nat.le_refl _) (Nat.le_refl _) (xv_cat1 rfl) (Nat.le_of_ble_eq_true rfl) ?_
  show xv_X sc 1 J_Desk_drop 0 [some (.ref h), some (.int x)] [] u (xv_N u) (xv_S u) _
  refine xv_aload_n (pc := 0) d_Desk_drop_0 rfl rfl ?_
  refine xv_getR (pc := 1) d_Desk_drop_1 f_Desk_33 rfl k0 r3 ?_
  refine xv_iload_n (pc := 4) d_Desk_drop_4 rfl rfl ?_
  refine xv_cV1i (pc := 5) (d1 := 0) (c_Arch_has hA) m_Arch_has l_Desk_139 d_Desk_drop_5 (by omega) (by decide : 8 < xv_nc) rfl hA.1 (Nat.le_of_ble_eq_true rfl) ⟨Nat.le_refl _, Nat.le_refl _⟩ (fun r w hw hN hS => ?_)
  obtain ⟨rfl, hw⟩ := hw
  subst w
  rw [hn]
  refine xv_if_eq (pc := 8) 22 d_Desk_drop_8 (by decide) (fun h8 => ?_) (fun h8 => ?_)
  · have e := of_decide_eq_false (xB_eq h8)
    refine xv_iconst (pc := 22) (-1) d_Desk_drop_22 (by decide) ?_
    exact xv_retiq (pc := 23) d_Desk_drop_23 rfl rfl rfl ⟨_, rfl, Or.inl ⟨e, rfl, rfl⟩⟩
  have e := of_decide_eq_true (xB_ne h8)
  obtain ⟨i, hi, hx, hc⟩ := xIe e hlt
  obtain ⟨m, rfl⟩ : ∃ m, n = m + 1 := ⟨n - 1, by omega⟩
  subst hx
  refine xv_aload_n (pc := 11) d_Desk_drop_11 rfl rfl ?_
  refine xv_getR (pc := 12) d_Desk_drop_12 f_Desk_33 rfl k0 r3 ?_
  refine xv_iload_n (pc := 15) d_Desk_drop_15 rfl rfl ?_
  refine xv_cV1i (pc := 16) (d1 := 0) (c_Arch_remove hA hE hn (by omega) (by omega)) m_Arch_remove l_Desk_140 d_Desk_drop_16 (by omega) (by decide : 8 < xv_nc) rfl hA.1 (Nat.le_of_ble_eq_true rfl) ⟨Nat.le_refl _, Nat.le_refl _⟩ (fun r w hw hN hS => ?_)
  obtain ⟨hr, ρ, hρ, hw⟩ := hw
  refine xv_goto (pc := 19) 23 d_Desk_drop_19 (by decide) ?_
  exact xv_retiq (pc := 23) d_Desk_drop_23 rfl (by rw [hw]; rfl) (by rw [hw]; rfl) ⟨_, rfl, Or.inr ⟨i, hi, rfl, hr, ρ, hρ, hw⟩⟩

