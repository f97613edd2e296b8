/-! Image.answerOfLower that throws -/
theorem c_Image_low_i {sc : Nat × (Nat → Int32)} {u : xv_M} {h ca fa B f a d : Nat} {L : Nat → Nat} {O : Nat → Nat → Nat} {F S : Nat → Nat → Int32} {σ : xZ} (H : xMI u h ca fa B L O F S) (hf : f < 8) (ha : a < 8) (hs : xFs u (B + 7 * f + 4) σ) (h3 : 3 ≤ σ.2.2) (h42 : σ.2.2 ≤ 42) (hno : ¬ (a < f ∧ 0 < L a)) (hd : 6 ≤ d) : xv_C sc (d + 2) J_Image_answerOfLower [.ref h, .int (nI f), .int (nI a)] u (xv_N u + 1) (xv_S u + 6) (xv_px 14 (fun e w => ∃ w0, xSi (xSF B f) u w0 ∧ e = xv_N u ∧ w = xv_nw w0 15 0 6)) := by
  have H0 := H
  obtain ⟨⟨k0, r0, r1, kc, lc, kf, lf, hfs⟩, hU⟩ := H
  obtain ⟨f1, f2, f3, f4⟩ := hfs f hf
  have hcf : (nI f).toNatClampNeg = f := nI_clamp (by omega)
  have hca : (nI a).toNatClampNeg = a := nI_clamp (by omega)
  have hif : vp_in (nI f) 8 := vp_in_nI hf (by decide)
  obtain ⟨n, hn⟩ : ∃ n, σ.2.2 = n + 1 := ⟨σ.2.2 - 1, by omega⟩
  obtain ⟨m, hm⟩ : ∃ m, n = m + 1 := ⟨n - 1, by omega⟩
  obtain ⟨l, hl⟩ : ∃ l, m = l + 1 := ⟨m - 1, by omega⟩
  refine xv_C_of (by decide) (by omega) (by omega) (xv_cat1 rfl) (Nat.le_of_ble_eq_true rfl) ?_
  show xv_X sc (d + 2) J_Image_answerOfLower 0 [some (.ref h), some (.int (nI f)), some (.int (nI a)), none, none, none, none] [] u (xv_N u + 1) (xv_S u + 6) _
  refine xv_aload_n (pc := 0) d_Image_answerOfLower_0 rfl rfl ?_
  refine xv_getR (pc := 1) d_Image_answerOfLower_1 f_Image_19 rfl k0 r1 ?_
  refine xv_iload_n (pc := 4) d_Image_answerOfLower_4 rfl rfl ?_
  refine xv_aald (pc := 5) (t := 1) d_Image_answerOfLower_5 kf rfl (by rw [lf]; exact hif) (by rw [hcf]; exact f2) ?_
  refine xv_astore_3 (pc := 6) d_Image_answerOfLower_6 (by decide) rfl ?_
  refine xv_aload_n (pc := 7) d_Image_answerOfLower_7 rfl rfl ?_
  refine xv_cV0i (pc := 8) (c_Frame_pop (n := n) f4 (by rw [hs.2.2, hn]) (by omega)) m_Frame_pop l_Image_72 d_Image_answerOfLower_8 (by omega) (by decide : 1 < xv_nc) rfl f4.1 (Nat.le_of_ble_eq_true rfl) ⟨by omega, by omega⟩ (fun r w hw hN hS => ?_)
  obtain ⟨hr, hw⟩ := hw
  have hr : r = xTp σ := by rw [hr, hs.2.1 n (by omega)]; unfold xTp; rw [hn]; rfl
  subst hr
  obtain ⟨g1, s1⟩ := xFs_po hs hn hw
  clear hw
  have F1 := xSi_Fr s1 f4
  have n1 : (xPo σ).2.2 = n := by show σ.2.2 - 1 = n; omega
  refine xv_istore_4 (pc := 11) d_Image_answerOfLower_11 (by decide) rfl ?_
  refine xv_aload_n (pc := 13) d_Image_answerOfLower_13 rfl rfl ?_
  refine xv_cV0i (pc := 14) (c_Frame_pop (u := w) (n := m) F1 (by rw [g1.2.2, n1, hm]) (by omega)) m_Frame_pop l_Image_72 d_Image_answerOfLower_14 (by omega) (by decide : 1 < xv_nc) rfl F1.1 (Nat.le_of_ble_eq_true rfl) ⟨by have := s1.1; omega, by have := s1.2.1; omega⟩ (fun r w2 hw hN hS => ?_)
  obtain ⟨hr, hw⟩ := hw
  have hr : r = xTp (xPo σ) := by rw [hr, g1.2.1 m (by omega)]; unfold xTp; rw [n1, hm]; rfl
  subst hr
  obtain ⟨g2, s2⟩ := xFs_po g1 (n1.trans hm) hw
  clear hw
  have s3 := xSi_tr s1 s2
  have F2 := xSi_Fr s3 f4
  have n2 : (xPo (xPo σ)).2.2 = m := by show (xPo σ).2.2 - 1 = m; omega
  refine xv_istore_5 (pc := 17) d_Image_answerOfLower_17 (by decide) rfl ?_
  refine xv_aload_n (pc := 19) d_Image_answerOfLower_19 rfl rfl ?_
  refine xv_cV0i (pc := 20) (c_Frame_pop (u := w2) (n := l) F2 (by rw [g2.2.2, n2, hl]) (by omega)) m_Frame_pop l_Image_72 d_Image_answerOfLower_20 (by omega) (by decide : 1 < xv_nc) rfl F2.1 (Nat.le_of_ble_eq_true rfl) ⟨by have := s3.1; omega, by have := s3.2.1; omega⟩ (fun r w3 hw hN hS => ?_)
  obtain ⟨hr, hw⟩ := hw
  have hr : r = xTp (xPo (xPo σ)) := by rw [hr, g2.2.1 l (by omega)]; unfold xTp; rw [n2, hl]; rfl
  subst hr
  obtain ⟨g3, s4⟩ := xFs_po g2 (n2.trans hl) hw
  clear hw
  have s5 := xSi_F (xSi_tr s3 s4)
  have H3 := xSi_MI s5 H0
  refine xv_istore_6 (pc := 23) d_Image_answerOfLower_23 (by decide) rfl ?_
  refine xv_iload_n (pc := 25) d_Image_answerOfLower_25 rfl rfl ?_
  refine xv_iload_n (pc := 26) d_Image_answerOfLower_26 rfl rfl ?_
  refine xv_icmp_ge (pc := 27) 38 d_Image_answerOfLower_27 (by decide) (fun h27 => ?_) (fun h27 => ?_)
  · rw [← s5.1, ← s5.2.1]
    exact xv_throw (pc := 38) (k := 14) (by decide) rfl (List.mem_of_getElem? (i := 3) rfl) (List.mem_of_getElem? (i := 3) rfl) k_787 k_22 k_788 (by decide +kernel) d_Image_answerOfLower_38 d_Image_answerOfLower_41 d_Image_answerOfLower_42 d_Image_answerOfLower_44 d_Image_answerOfLower_47 (by omega) (Nat.le_of_ble_eq_true rfl) (Nat.le_refl _) (Nat.le_refl _) ⟨⟨_, rfl, w3, s5, rfl, rfl⟩, rfl, rfl⟩
  have haf : a < f := Nat.not_le.mp (fun q => h27 (nI_le q (by omega)))
  refine xv_aload_n (pc := 30) d_Image_answerOfLower_30 rfl rfl ?_
  refine xv_iload_n (pc := 31) d_Image_answerOfLower_31 rfl rfl ?_
  refine xv_cV1i (pc := 32) (d1 := 1) (c_Image_has H3.1) m_Image_has l_Image_33 d_Image_answerOfLower_32 (by omega) (by decide : 9 < xv_nc) rfl H3.1.1 (Nat.le_of_ble_eq_true rfl) ⟨by have := s5.1; omega, by have := s5.2.1; omega⟩ (fun r w4 hw hN hS => ?_)
  obtain ⟨hr, hw⟩ := hw
  have hL0 : L a = 0 := Nat.eq_zero_of_not_pos (fun q => hno ⟨haf, q⟩)
  rw [hca, (H3.2 a ha).1, hL0, decide_eq_false (fun q => absurd q.2 (by decide))] at hr
  subst hr
  subst hw
  refine xv_if_ne (pc := 35) 48 d_Image_answerOfLower_35 (by decide) (fun h35 => ?_) (fun h35 => ?_)
  · exact absurd rfl h35
  rw [← s5.1, ← s5.2.1]
  exact xv_throw (pc := 38) (k := 14) (by decide) rfl (List.mem_of_getElem? (i := 3) rfl) (List.mem_of_getElem? (i := 3) rfl) k_787 k_22 k_788 (by decide +kernel) d_Image_answerOfLower_38 d_Image_answerOfLower_41 d_Image_answerOfLower_42 d_Image_answerOfLower_44 d_Image_answerOfLower_47 (by omega) (Nat.le_of_ble_eq_true rfl) (Nat.le_refl _) (Nat.le_refl _) ⟨⟨_, rfl, w4, s5, rfl, rfl⟩, rfl, rfl⟩
theorem c_Image_low_x {sc : Nat × (Nat → Int32)} {u : xv_M} {h ca fa B f a d : Nat} {L : Nat → Nat} {O : Nat → Nat → Nat} {F S : Nat → Nat → Int32} {σ : xZ} (H : xMI u h ca fa B L O F S) (hf : f < 8) (ha : a < 8) (hs : xFs u (B + 7 * f + 4) σ) (h3 : 3 ≤ σ.2.2) (h42 : σ.2.2 ≤ 42) (haf : a < f) (hLa : 0 < L a) {k : Nat} (hans : ∀ u', xMI u' h ca fa B L O F S → xv_C sc d J_Image_answer [.ref h, .int (nI a), .int (xTp (xPo (xPo σ))), .int (xTp (xPo σ)), .int (xTp σ)] u' (xv_N u' + 1) (xv_S u' + 6) (xv_px k (fun e w => ∃ w0, xSi (xSF B a) u' w0 ∧ e = xv_N u' ∧ w = xv_nw w0 (k + 1) 0 6))) : xv_C sc (d + 2) J_Image_answerOfLower [.ref h, .int (nI f), .int (nI a)] u (xv_N u + 1) (xv_S u + 6) (xv_px k (fun e w => ∃ w0, xSi (xSF B f) u w0 ∧ e = xv_N u ∧ w = xv_nw w0 (k + 1) 0 6)) := by
  have H0 := H
  obtain ⟨⟨k0, r0, r1, kc, lc, kf, lf, hfs⟩, hU⟩ := H
  obtain ⟨f1, f2, f3, f4⟩ := hfs f hf
  have hcf : (nI f).toNatClampNeg = f := nI_clamp (by omega)
  have hca : (nI a).toNatClampNeg = a := nI_clamp (by omega)
  have hif : vp_in (nI f) 8 := vp_in_nI hf (by decide)
  obtain ⟨n, hn⟩ : ∃ n, σ.2.2 = n + 1 := ⟨σ.2.2 - 1, by omega⟩
  obtain ⟨m, hm⟩ : ∃ m, n = m + 1 := ⟨n - 1, by omega⟩
  obtain ⟨l, hl⟩ : ∃ l, m = l + 1 := ⟨m - 1, by omega⟩
  refine xv_C_of (by decide) (by omega) (by omega) (xv_cat1 rfl) (Nat.le_of_ble_eq_true rfl) ?_
  show xv_X sc (d + 2) J_Image_answerOfLower 0 [some (.ref h), some (.int (nI f)), some (.int (nI a)), none, none, none, none] [] u (xv_N u + 1) (xv_S u + 6) _
  refine xv_aload_n (pc := 0) d_Image_answerOfLower_0 rfl rfl ?_
  refine xv_getR (pc := 1) d_Image_answerOfLower_1 f_Image_19 rfl k0 r1 ?_
  refine xv_iload_n (pc := 4) d_Image_answerOfLower_4 rfl rfl ?_
  refine xv_aald (pc := 5) (t := 1) d_Image_answerOfLower_5 kf rfl (by rw [lf]; exact hif) (by rw [hcf]; exact f2) ?_
  refine xv_astore_3 (pc := 6) d_Image_answerOfLower_6 (by decide) rfl ?_
  refine xv_aload_n (pc := 7) d_Image_answerOfLower_7 rfl rfl ?_
  refine xv_cV0i (pc := 8) (c_Frame_pop (n := n) f4 (by rw [hs.2.2, hn]) (by omega)) m_Frame_pop l_Image_72 d_Image_answerOfLower_8 (by omega) (by decide : 1 < xv_nc) rfl f4.1 (Nat.le_of_ble_eq_true rfl) ⟨by omega, by omega⟩ (fun r w hw hN hS => ?_)
  obtain ⟨hr, hw⟩ := hw
  have hr : r = xTp σ := by rw [hr, hs.2.1 n (by omega)]; unfold xTp; rw [hn]; rfl
  subst hr
  obtain ⟨g1, s1⟩ := xFs_po hs hn hw
  clear hw
  have F1 := xSi_Fr s1 f4
  have n1 : (xPo σ).2.2 = n := by show σ.2.2 - 1 = n; omega
  refine xv_istore_4 (pc := 11) d_Image_answerOfLower_11 (by decide) rfl ?_
  refine xv_aload_n (pc := 13) d_Image_answerOfLower_13 rfl rfl ?_
  refine xv_cV0i (pc := 14) (c_Frame_pop (u := w) (n := m) F1 (by rw [g1.2.2, n1, hm]) (by omega)) m_Frame_pop l_Image_72 d_Image_answerOfLower_14 (by omega) (by decide : 1 < xv_nc) rfl F1.1 (Nat.le_of_ble_eq_true rfl) ⟨by have := s1.1; omega, by have := s1.2.1; omega⟩ (fun r w2 hw hN hS => ?_)
  obtain ⟨hr, hw⟩ := hw
  have hr : r = xTp (xPo σ) := by rw [hr, g1.2.1 m (by omega)]; unfold xTp; rw [n1, hm]; rfl
  subst hr
  obtain ⟨g2, s2⟩ := xFs_po g1 (n1.trans hm) hw
  clear hw
  have s3 := xSi_tr s1 s2
  have F2 := xSi_Fr s3 f4
  have n2 : (xPo (xPo σ)).2.2 = m := by show (xPo σ).2.2 - 1 = m; omega
  refine xv_istore_5 (pc := 17) d_Image_answerOfLower_17 (by decide) rfl ?_
  refine xv_aload_n (pc := 19) d_Image_answerOfLower_19 rfl rfl ?_
  refine xv_cV0i (pc := 20) (c_Frame_pop (u := w2) (n := l) F2 (by rw [g2.2.2, n2, hl]) (by omega)) m_Frame_pop l_Image_72 d_Image_answerOfLower_20 (by omega) (by decide : 1 < xv_nc) rfl F2.1 (Nat.le_of_ble_eq_true rfl) ⟨by have := s3.1; omega, by have := s3.2.1; omega⟩ (fun r w3 hw hN hS => ?_)
  obtain ⟨hr, hw⟩ := hw
  have hr : r = xTp (xPo (xPo σ)) := by rw [hr, g2.2.1 l (by omega)]; unfold xTp; rw [n2, hl]; rfl
  subst hr
  obtain ⟨g3, s4⟩ := xFs_po g2 (n2.trans hl) hw
  clear hw
  have s5 := xSi_F (xSi_tr s3 s4)
  have H3 := xSi_MI s5 H0
  refine xv_istore_6 (pc := 23) d_Image_answerOfLower_23 (by decide) rfl ?_
  refine xv_iload_n (pc := 25) d_Image_answerOfLower_25 rfl rfl ?_
  refine xv_iload_n (pc := 26) d_Image_answerOfLower_26 rfl rfl ?_
  refine xv_icmp_ge (pc := 27) 38 d_Image_answerOfLower_27 (by decide) (fun h27 => ?_) (fun h27 => ?_)
  · exact absurd h27 (nI_ge haf (by omega))
  refine xv_aload_n (pc := 30) d_Image_answerOfLower_30 rfl rfl ?_
  refine xv_iload_n (pc := 31) d_Image_answerOfLower_31 rfl rfl ?_
  refine xv_cV1i (pc := 32) (d1 := 1) (c_Image_has H3.1) m_Image_has l_Image_33 d_Image_answerOfLower_32 (by omega) (by decide : 9 < xv_nc) rfl H3.1.1 (Nat.le_of_ble_eq_true rfl) ⟨by have := s5.1; omega, by have := s5.2.1; omega⟩ (fun r w4 hw hN hS => ?_)
  obtain ⟨hr, hw⟩ := hw
  rw [hca, (H3.2 a ha).1, decide_eq_true ⟨⟨nI_pos0 (by omega), nI_leI8 ha⟩, nI_posL hLa (Nat.le_trans (H3.2 a ha).2.1 (by decide))⟩] at hr
  subst hr
  subst hw
  refine xv_if_ne (pc := 35) 48 d_Image_answerOfLower_35 (by decide) (fun h35 => ?_) (fun h35 => ?_)
  case refine_2 => exact absurd h35 (by decide)
  rw [← s5.1, ← s5.2.1]
  refine xv_aload_n (pc := 48) d_Image_answerOfLower_48 rfl rfl ?_
  refine xv_iload_n (pc := 49) d_Image_answerOfLower_49 rfl rfl ?_
  refine xv_iload (pc := 50) d_Image_answerOfLower_50 rfl ?_
  refine xv_iload (pc := 52) d_Image_answerOfLower_52 rfl ?_
  refine xv_iload (pc := 54) d_Image_answerOfLower_54 rfl ?_
  exact xv_tV4 (pc := 56) (hans _ H3) m_Image_answer l_Image_113 d_Image_answerOfLower_56 (by omega) (by decide : 9 < xv_nc) rfl H3.1.1 (Nat.le_of_ble_eq_true rfl) ⟨Nat.le_refl _, Nat.le_refl _⟩ (fun e w ⟨w0, z1, z2⟩ g2 g3 => ⟨⟨_, rfl, w0, xSi_tr s5 (xSi_up z1 (Nat.le_of_lt haf)), z2⟩, g2, g3⟩)

