/-! Interpreter.advance -/
theorem c_adv_pre {sc : Nat × (Nat → Int32)} {u : xv_M} {h ma fa oa B f p j o m d n1 s1 : Nat} {π : xY} {P : xv_P} (hI : xIn u h ma fa oa B) (hf : f < 8) (hπ : xOs u (B + 10 * f + 7) π) (hm : π.2.2 = m + 1) (hp : π.1 m = p) (hj : π.2.1 m = j) (hm40 : m < 40) (hp40 : p < 40) (hO : xv_i u (B + 10 * f + 1) p = nI o) (hd : 2 ≤ d) (hN : xv_N u ≤ n1) (hS : xv_S u ≤ s1) (k : xv_X sc d J_Interp_advance 36 [some (.ref h), some (.int (nI f)), some (.ref (B + 10 * f)), some (.int (nI p)), some (.int (nI j)), some (.int (nI o))] [] u n1 s1 P) : xv_X sc d J_Interp_advance 0 [some (.ref h), some (.int (nI f)), none, none, none, none] [] u n1 s1 P := by
  obtain ⟨k0, r0, r1, r2, kc, lc, kf, lf, ko, lo, hfs⟩ := hI
  obtain ⟨f1, f2, f3, f4, f5, f6⟩ := hfs f hf
  have hcf : (nI f).toNatClampNeg = f := nI_clamp (by omega)
  have hcp : (nI p).toNatClampNeg = p := nI_clamp (by omega)
  have hif : vp_in (nI f) 8 := vp_in_nI hf (by decide)
  refine xv_aload_n (pc := 0) d_Interp_advance_0 rfl rfl ?_
  refine xv_getR (pc := 1) d_Interp_advance_1 f_Interp_11 rfl k0 r0 ?_
  refine xv_iload_n (pc := 4) d_Interp_advance_4 rfl rfl ?_
  refine xv_aald (pc := 5) (t := 0) d_Interp_advance_5 kc rfl (by rw [lc]; exact hif) (by rw [hcf]; exact f1) ?_
  refine xv_astore_2 (pc := 6) d_Interp_advance_6 (by decide) rfl ?_
  refine xv_aload_n (pc := 7) d_Interp_advance_7 rfl rfl ?_
  refine xv_getR (pc := 8) d_Interp_advance_8 f_Interp_25 rfl k0 r2 ?_
  refine xv_iload_n (pc := 11) d_Interp_advance_11 rfl rfl ?_
  refine xv_aald (pc := 12) (t := 2) d_Interp_advance_12 ko rfl (by rw [lo]; exact hif) (by rw [hcf]; exact f3) ?_
  refine xv_cV0i (pc := 13) (d1 := 1) (c_Opens_place (n := m) f6 (by rw [hπ.2.2, hm]) hm40) m_Opens_place l_Interp_73 d_Interp_advance_13 (by omega) (by decide : 2 < xv_nc) rfl f6.1 (Nat.le_of_ble_eq_true rfl) ⟨hN, hS⟩ (fun r w hw hN2 hS2 => ?_)
  obtain ⟨hr, hw⟩ := hw
  subst hw
  have hr : r = nI p := by rw [hr, hπ.1 m (by omega), hp]
  subst hr
  refine xv_istore_3 (pc := 16) d_Interp_advance_16 (by decide) rfl ?_
  refine xv_aload_n (pc := 17) d_Interp_advance_17 rfl rfl ?_
  refine xv_getR (pc := 18) d_Interp_advance_18 f_Interp_25 rfl k0 r2 ?_
  refine xv_iload_n (pc := 21) d_Interp_advance_21 rfl rfl ?_
  refine xv_aald (pc := 22) (t := 2) d_Interp_advance_22 ko rfl (by rw [lo]; exact hif) (by rw [hcf]; exact f3) ?_
  refine xv_cV0i (pc := 23) (d1 := 1) (c_Opens_partsDone (n := m) f6 (by rw [hπ.2.2, hm]) hm40) m_Opens_partsDone l_Interp_76 d_Interp_advance_23 (by omega) (by decide : 2 < xv_nc) rfl f6.1 (Nat.le_of_ble_eq_true rfl) ⟨hN, hS⟩ (fun r w hw hN2 hS2 => ?_)
  obtain ⟨hr, hw⟩ := hw
  subst hw
  have hr : r = nI j := by rw [hr, hπ.2.1 m (by omega), hj]
  subst hr
  refine xv_istore_4 (pc := 26) d_Interp_advance_26 (by decide) rfl ?_
  refine xv_aload_n (pc := 28) d_Interp_advance_28 rfl rfl ?_
  refine xv_getR (pc := 29) d_Interp_advance_29 f_Interp_79 rfl f4.1 f4.2.1 ?_
  refine xv_iload_n (pc := 32) d_Interp_advance_32 rfl rfl ?_
  refine xv_ald (pc := 33) d_Interp_advance_33 f4.2.2.2.2.1 (by rw [f4.2.2.2.2.2.1]; exact vp_in_nI hp40 (by decide)) ?_
  refine xv_istore_5 (pc := 34) d_Interp_advance_34 (by decide) rfl ?_
  rw [hcp, hO]
  exact k
theorem c_adv_146 {sc : Nat × (Nat → Int32)} {u : xv_M} {h B f p j o d n1 s1 : Nat} {P : xv_P} (ho : o < 18) (hj : j < 100) (h13 : ¬ (o = 13 ∧ j = 1)) (h14 : ¬ (o = 14 ∧ j = 1)) (h16 : ¬ (o = 16 ∧ 0 < j)) (k : xv_X sc d J_Interp_advance 146 [some (.ref h), some (.int (nI f)), some (.ref (B + 10 * f)), some (.int (nI p)), some (.int (nI j)), some (.int (nI o))] [] u n1 s1 P) : xv_X sc d J_Interp_advance 36 [some (.ref h), some (.int (nI f)), some (.ref (B + 10 * f)), some (.int (nI p)), some (.int (nI j)), some (.int (nI o))] [] u n1 s1 P := by
  have t13 : (nI o = 13) ↔ o = 13 := nI_eq (b := 13) (by omega) (by decide)
  have t14 : (nI o = 14) ↔ o = 14 := nI_eq (b := 14) (by omega) (by decide)
  have t16 : (nI o = 16) ↔ o = 16 := nI_eq (b := 16) (by omega) (by decide)
  have j1 : (nI j = 1) ↔ j = 1 := nI_eq (b := 1) (by omega) (by decide)
  suffices j58 : xv_X sc d J_Interp_advance 58 [some (.ref h), some (.int (nI f)), some (.ref (B + 10 * f)), some (.int (nI p)), some (.int (nI j)), some (.int (nI o))] [] u n1 s1 P by
    refine xv_iload (pc := 36) d_Interp_advance_36 rfl ?_
    refine xv_bipush (pc := 38) 13 d_Interp_advance_38 (by decide) ?_
    refine xv_icmp_ne (pc := 40) 58 d_Interp_advance_40 (by decide) (fun h40 => ?_) (fun h40 => ?_)
    · exact j58
    · refine xv_iload (pc := 43) d_Interp_advance_43 rfl ?_
      refine xv_iconst (pc := 45) 1 d_Interp_advance_45 (by decide) ?_
      refine xv_icmp_ne (pc := 46) 58 d_Interp_advance_46 (by decide) (fun h46 => ?_) (fun h46 => ?_)
      · exact j58
      · exact absurd ⟨t13.mp h40, j1.mp h46⟩ h13
  suffices j114 : xv_X sc d J_Interp_advance 114 [some (.ref h), some (.int (nI f)), some (.ref (B + 10 * f)), some (.int (nI p)), some (.int (nI j)), some (.int (nI o))] [] u n1 s1 P by
    refine xv_iload (pc := 58) d_Interp_advance_58 rfl ?_
    refine xv_bipush (pc := 60) 14 d_Interp_advance_60 (by decide) ?_
    refine xv_icmp_ne (pc := 62) 114 d_Interp_advance_62 (by decide) (fun h62 => ?_) (fun h62 => ?_)
    · exact j114
    · refine xv_iload (pc := 65) d_Interp_advance_65 rfl ?_
      refine xv_iconst (pc := 67) 1 d_Interp_advance_67 (by decide) ?_
      refine xv_icmp_ne (pc := 68) 114 d_Interp_advance_68 (by decide) (fun h68 => ?_) (fun h68 => ?_)
      · exact j114
      · exact absurd ⟨t14.mp h62, j1.mp h68⟩ h14
  refine xv_iload (pc := 114) d_Interp_advance_114 rfl ?_
  refine xv_bipush (pc := 116) 16 d_Interp_advance_116 (by decide) ?_
  refine xv_icmp_ne (pc := 118) 146 d_Interp_advance_118 (by decide) (fun h118 => ?_) (fun h118 => ?_)
  · exact k
  · refine xv_iload (pc := 121) d_Interp_advance_121 rfl ?_
    refine xv_if_le (pc := 123) 146 d_Interp_advance_123 (by decide) (fun h123 => ?_) (fun h123 => ?_)
    · exact k
    · exact absurd ⟨t16.mp h118, Nat.pos_of_ne_zero (fun e => h123 (by rw [e]; exact Int32.le_refl _))⟩ h16
theorem c_adv_enter {sc : Nat × (Nat → Int32)} {u : xv_M} {h ma fa oa B f p j m : Nat} {L nP : Nat → Nat} {O : Nat → Nat → Nat} {A : Nat → Nat → Int32} {σ : xZ} {π : xY} (H : xII u h ma fa oa B L nP O A) (hf : f < 8) (hs : xFs u (B + 10 * f + 4) σ) (hπ : xOs u (B + 10 * f + 7) π) (hm : π.2.2 = m + 1) (hp : π.1 m = p) (hj : π.2.1 m = j) (hm40 : m < 40) (hpl : p < L f) (hj9 : j < 100) (h13 : ¬ (O f p = 13 ∧ j = 1)) (h14 : ¬ (O f p = 14 ∧ j = 1)) (h16 : ¬ (O f p = 16 ∧ 0 < j)) {s : Nat} (hpj : j < xPa (O f p)) (hst : xv_i u (B + 10 * f + 3) (p * 3 + j) = nI s) (hm1 : m + 1 < 40) : xv_C sc 3 J_Interp_advance [.ref h, .int (nI f)] u (xv_N u) (xv_S u) (xv_pv (fun w => xFs w (B + 10 * f + 4) σ ∧ xOs w (B + 10 * f + 7) (xOe π s) ∧ xSi (xIF B f) u w)) := by
  have H0 := H
  obtain ⟨hI, hC⟩ := H
  obtain ⟨⟨hn, hn40, htk⟩, hnp, hst0⟩ := hC f hf
  obtain ⟨hO, hO18, hA⟩ := htk p hpl
  have hP3 := xPa_3 (O f p)
  refine xv_C_of (by decide) (Nat.le_refl _) (Nat.le_refl _) (xv_cat1 rfl) (Nat.le_of_ble_eq_true rfl) ?_
  show xv_X sc 3 J_Interp_advance 0 [some (.ref h), some (.int (nI f)), none, none, none, none] [] u (xv_N u) (xv_S u) _
  refine c_adv_pre hI hf hπ hm hp hj hm40 (by omega) hO (by decide) (Nat.le_refl _) (Nat.le_refl _) ?_
  refine c_adv_146 hO18 hj9 h13 h14 h16 ?_
  obtain ⟨k0, r0, r1, r2, kc, lc, kf, lf, ko, lo, hfs⟩ := hI
  obtain ⟨f1, f2, f3, f4, f5, f6⟩ := hfs f hf
  have hcf : (nI f).toNatClampNeg = f := nI_clamp (by omega)
  have hif : vp_in (nI f) 8 := vp_in_nI hf (by decide)
  refine xv_iload (pc := 146) d_Interp_advance_146 rfl ?_
  refine xv_gets (pc := 148) d_Interp_advance_148 (by decide : 0 < xv_ns) s_Interp_104 ?_
  refine xv_iload (pc := 151) d_Interp_advance_151 rfl ?_
  refine xv_aldS (pc := 153) d_Interp_advance_153 (by decide) (vp_in_nI hO18 (by decide)) ?_
  refine xv_icmp_ge (pc := 154) 176 d_Interp_advance_154 (by decide) (fun h154 => ?_) (fun h154 => ?_)
  · rw [nI_clamp (by omega), xPa_sf _ hO18] at h154
    exact absurd h154 (nI_ge hpj (by omega))
  refine xv_aload_n (pc := 157) d_Interp_advance_157 rfl rfl ?_
  refine xv_getR (pc := 158) d_Interp_advance_158 f_Interp_25 rfl k0 r2 ?_
  refine xv_iload_n (pc := 161) d_Interp_advance_161 rfl rfl ?_
  refine xv_aald (pc := 162) (t := 2) d_Interp_advance_162 ko rfl (by rw [lo]; exact hif) (by rw [hcf]; exact f3) ?_
  refine xv_aload_n (pc := 163) d_Interp_advance_163 rfl rfl ?_
  refine xv_iload_n (pc := 164) d_Interp_advance_164 rfl rfl ?_
  refine xv_iload (pc := 165) d_Interp_advance_165 rfl ?_
  refine xv_cV2i (pc := 167) (d1 := 0) (c_Form_start (j := j) f4 (by omega) (by omega)) m_Form_start l_Interp_93 d_Interp_advance_167 (by omega) (by decide : 0 < xv_nc) rfl f4.1 (Nat.le_of_ble_eq_true rfl) ⟨Nat.le_refl _, Nat.le_refl _⟩ (fun r5 w3 hw hN hS => ?_)
  obtain ⟨hr5, hw⟩ := hw
  rw [hst] at hr5
  subst hr5
  subst hw
  refine xv_cV1v (pc := 170) (d1 := 1) (c_Opens_enterPart (n := m) f6 (by rw [hπ.2.2, hm]) hm1) m_Opens_enterPart l_Interp_107 d_Interp_advance_170 (by omega) (by decide : 2 < xv_nc) rfl f6.1 (Nat.le_of_ble_eq_true rfl) ⟨Nat.le_refl _, Nat.le_refl _⟩ (fun w4 hw hN hS => ?_)
  obtain ⟨o2, s3⟩ := xOs_e hπ hm hw
  have s4 := xSi_OI (xSi_mono (S' := xFO B f) s3 (fun a z => Or.inr z))
  refine xv_goto (pc := 173) 198 d_Interp_advance_173 (by decide) ?_
  exact xv_retvq (pc := 198) d_Interp_advance_198 rfl s4.1 s4.2.1 ⟨rfl, xFs_far s3 (Or.inl (by omega)) hs, o2, s4⟩
theorem c_adv_fin {sc : Nat × (Nat → Int32)} {u : xv_M} {h ma fa oa B f p j m : Nat} {L nP : Nat → Nat} {O : Nat → Nat → Nat} {A : Nat → Nat → Int32} {σ : xZ} {π : xY} (H : xII u h ma fa oa B L nP O A) (hf : f < 8) (hs : xFs u (B + 10 * f + 4) σ) (hπ : xOs u (B + 10 * f + 7) π) (hm : π.2.2 = m + 1) (hp : π.1 m = p) (hj : π.2.1 m = j) (hm40 : m < 40) (hpl : p < L f) (hj9 : j < 100) (h13 : ¬ (O f p = 13 ∧ j = 1)) (h14 : ¬ (O f p = 14 ∧ j = 1)) (h16 : ¬ (O f p = 16 ∧ 0 < j)) {d : Nat} {τ : xZ} (hd : 2 ≤ d) (hpj : xPa (O f p) ≤ j) (hfin : ∀ u', xII u' h ma fa oa B L nP O A → xFs u' (B + 10 * f + 4) σ → xv_C sc d J_Interp_finish [.ref h, .int (nI f), .int (nI (O f p)), .int (A f p)] u' (xv_N u') (xv_S u') (xv_pv (fun w => xFs w (B + 10 * f + 4) τ ∧ xSi (xIL B f) u' w))) : xv_C sc (d + 1) J_Interp_advance [.ref h, .int (nI f)] u (xv_N u) (xv_S u) (xv_pv (fun w => xFs w (B + 10 * f + 4) τ ∧ xOs w (B + 10 * f + 7) (xOl π) ∧ xSi (xIF B f) u w)) := by
  have H0 := H
  obtain ⟨hI, hC⟩ := H
  obtain ⟨⟨hn, hn40, htk⟩, hnp, hst0⟩ := hC f hf
  obtain ⟨hO, hO18, hA⟩ := htk p hpl
  have hP3 := xPa_3 (O f p)
  refine xv_C_of (by decide) (Nat.le_refl _) (Nat.le_refl _) (xv_cat1 rfl) (Nat.le_of_ble_eq_true rfl) ?_
  show xv_X sc (d + 1) J_Interp_advance 0 [some (.ref h), some (.int (nI f)), none, none, none, none] [] u (xv_N u) (xv_S u) _
  refine c_adv_pre hI hf hπ hm hp hj hm40 (by omega) hO (by omega) (Nat.le_refl _) (Nat.le_refl _) ?_
  refine c_adv_146 hO18 hj9 h13 h14 h16 ?_
  obtain ⟨k0, r0, r1, r2, kc, lc, kf, lf, ko, lo, hfs⟩ := hI
  obtain ⟨f1, f2, f3, f4, f5, f6⟩ := hfs f hf
  have hcf : (nI f).toNatClampNeg = f := nI_clamp (by omega)
  have hcp : (nI p).toNatClampNeg = p := nI_clamp (by omega)
  have hif : vp_in (nI f) 8 := vp_in_nI hf (by decide)
  refine xv_iload (pc := 146) d_Interp_advance_146 rfl ?_
  refine xv_gets (pc := 148) d_Interp_advance_148 (by decide : 0 < xv_ns) s_Interp_104 ?_
  refine xv_iload (pc := 151) d_Interp_advance_151 rfl ?_
  refine xv_aldS (pc := 153) d_Interp_advance_153 (by decide) (vp_in_nI hO18 (by decide)) ?_
  refine xv_icmp_ge (pc := 154) 176 d_Interp_advance_154 (by decide) (fun h154 => ?_) (fun h154 => ?_)
  case refine_2 =>
    rw [nI_clamp (by omega), xPa_sf _ hO18] at h154
    exact absurd (nI_le hpj (by omega)) h154
  refine xv_aload_n (pc := 176) d_Interp_advance_176 rfl rfl ?_
  refine xv_getR (pc := 177) d_Interp_advance_177 f_Interp_25 rfl k0 r2 ?_
  refine xv_iload_n (pc := 180) d_Interp_advance_180 rfl rfl ?_
  refine xv_aald (pc := 181) (t := 2) d_Interp_advance_181 ko rfl (by rw [lo]; exact hif) (by rw [hcf]; exact f3) ?_
  refine xv_cV0v (pc := 182) (d1 := 1) (c_Opens_leave (n := m) f6 (by rw [hπ.2.2, hm]) hm40) m_Opens_leave l_Interp_110 d_Interp_advance_182 (by omega) (by decide : 2 < xv_nc) rfl f6.1 (Nat.le_of_ble_eq_true rfl) ⟨Nat.le_refl _, Nat.le_refl _⟩ (fun w4 hw hN hS => ?_)
  obtain ⟨o2, s3⟩ := xOs_l hπ hm hw
  have s4 := xSi_OI (xSi_mono (S' := xFO B f) s3 (fun a z => Or.inr z))
  have H4 := xSi_II s4 H0
  have g4 := xFs_far s3 (Or.inl (by omega)) hs
  have hA4 : xv_i w4 (B + 10 * f + 2) p = A f p := ((H4.2 f hf).1.2.2 p hpl).2.2
  have F4 := ((H4.1).2.2.2.2.2.2.2.2.2.2 f hf).2.2.2.1
  refine xv_aload_n (pc := 185) d_Interp_advance_185 rfl rfl ?_
  refine xv_iload_n (pc := 186) d_Interp_advance_186 rfl rfl ?_
  refine xv_iload (pc := 187) d_Interp_advance_187 rfl ?_
  refine xv_aload_n (pc := 189) d_Interp_advance_189 rfl rfl ?_
  refine xv_getR (pc := 190) d_Interp_advance_190 f_Interp_90 rfl F4.1 F4.2.2.1 ?_
  refine xv_iload_n (pc := 193) d_Interp_advance_193 rfl rfl ?_
  refine xv_ald (pc := 194) d_Interp_advance_194 F4.2.2.2.2.2.2.1 (by rw [F4.2.2.2.2.2.2.2.1]; exact vp_in_nI (by omega) (by decide)) ?_
  rw [hcp, hA4]
  refine xv_cV3v (pc := 195) (hfin _ H4 g4) m_Interp_finish l_Interp_113 d_Interp_advance_195 (by omega) (by decide : 3 < xv_nc) rfl H4.1.1 (Nat.le_of_ble_eq_true rfl) (xSi_le s4) (fun w5 hw hN hS => ?_)
  obtain ⟨g5, s5⟩ := hw
  have s6 := xSi_tr s4 (xSi_LI s5)
  exact xv_retvq (pc := 198) d_Interp_advance_198 rfl s6.1 s6.2.1 ⟨rfl, g5, xOs_keepI s5 o2, s6⟩
theorem c_adv_finx {sc : Nat × (Nat → Int32)} {u : xv_M} {h ma fa oa B f p j m : Nat} {L nP : Nat → Nat} {O : Nat → Nat → Nat} {A : Nat → Nat → Int32} {σ : xZ} {π : xY} (H : xII u h ma fa oa B L nP O A) (hf : f < 8) (hs : xFs u (B + 10 * f + 4) σ) (hπ : xOs u (B + 10 * f + 7) π) (hm : π.2.2 = m + 1) (hp : π.1 m = p) (hj : π.2.1 m = j) (hm40 : m < 40) (hpl : p < L f) (hj9 : j < 100) (h13 : ¬ (O f p = 13 ∧ j = 1)) (h14 : ¬ (O f p = 14 ∧ j = 1)) (h16 : ¬ (O f p = 16 ∧ 0 < j)) {d k : Nat} (hd : 2 ≤ d) (hpj : xPa (O f p) ≤ j) (hfin : ∀ u', xII u' h ma fa oa B L nP O A → xFs u' (B + 10 * f + 4) σ → xv_C sc d J_Interp_finish [.ref h, .int (nI f), .int (nI (O f p)), .int (A f p)] u' (xv_N u' + 1) (xv_S u' + 6) (xv_px k (fun e w => ∃ w0, xSi (xIL B f) u' w0 ∧ e = xv_N u' ∧ w = xv_nw w0 (k + 1) 0 6))) : xv_C sc (d + 1) J_Interp_advance [.ref h, .int (nI f)] u (xv_N u + 1) (xv_S u + 6) (xv_px k (fun e w => ∃ w0, xSi (xIF B f) u w0 ∧ e = xv_N u ∧ w = xv_nw w0 (k + 1) 0 6)) := by
  have H0 := H
  obtain ⟨hI, hC⟩ := H
  obtain ⟨⟨hn, hn40, htk⟩, hnp, hst0⟩ := hC f hf
  obtain ⟨hO, hO18, hA⟩ := htk p hpl
  have hP3 := xPa_3 (O f p)
  refine xv_C_of (by decide) (by omega) (by omega) (xv_cat1 rfl) (Nat.le_of_ble_eq_true rfl) ?_
  show xv_X sc (d + 1) J_Interp_advance 0 [some (.ref h), some (.int (nI f)), none, none, none, none] [] u (xv_N u + 1) (xv_S u + 6) _
  refine c_adv_pre hI hf hπ hm hp hj hm40 (by omega) hO (by omega) (by omega) (by omega) ?_
  refine c_adv_146 hO18 hj9 h13 h14 h16 ?_
  obtain ⟨k0, r0, r1, r2, kc, lc, kf, lf, ko, lo, hfs⟩ := hI
  obtain ⟨f1, f2, f3, f4, f5, f6⟩ := hfs f hf
  have hcf : (nI f).toNatClampNeg = f := nI_clamp (by omega)
  have hcp : (nI p).toNatClampNeg = p := nI_clamp (by omega)
  have hif : vp_in (nI f) 8 := vp_in_nI hf (by decide)
  refine xv_iload (pc := 146) d_Interp_advance_146 rfl ?_
  refine xv_gets (pc := 148) d_Interp_advance_148 (by decide : 0 < xv_ns) s_Interp_104 ?_
  refine xv_iload (pc := 151) d_Interp_advance_151 rfl ?_
  refine xv_aldS (pc := 153) d_Interp_advance_153 (by decide) (vp_in_nI hO18 (by decide)) ?_
  refine xv_icmp_ge (pc := 154) 176 d_Interp_advance_154 (by decide) (fun h154 => ?_) (fun h154 => ?_)
  case refine_2 =>
    rw [nI_clamp (by omega), xPa_sf _ hO18] at h154
    exact absurd (nI_le hpj (by omega)) h154
  refine xv_aload_n (pc := 176) d_Interp_advance_176 rfl rfl ?_
  refine xv_getR (pc := 177) d_Interp_advance_177 f_Interp_25 rfl k0 r2 ?_
  refine xv_iload_n (pc := 180) d_Interp_advance_180 rfl rfl ?_
  refine xv_aald (pc := 181) (t := 2) d_Interp_advance_181 ko rfl (by rw [lo]; exact hif) (by rw [hcf]; exact f3) ?_
  refine xv_cV0v (pc := 182) (d1 := 1) (c_Opens_leave (n := m) f6 (by rw [hπ.2.2, hm]) hm40) m_Opens_leave l_Interp_110 d_Interp_advance_182 (by omega) (by decide : 2 < xv_nc) rfl f6.1 (Nat.le_of_ble_eq_true rfl) ⟨by omega, by omega⟩ (fun w4 hw hN hS => ?_)
  obtain ⟨o2, s3⟩ := xOs_l hπ hm hw
  clear hw
  have s4 := xSi_OI (xSi_mono (S' := xFO B f) s3 (fun a z => Or.inr z))
  have H4 := xSi_II s4 H0
  have g4 := xFs_far s3 (Or.inl (by omega)) hs
  have hA4 : xv_i w4 (B + 10 * f + 2) p = A f p := ((H4.2 f hf).1.2.2 p hpl).2.2
  have F4 := ((H4.1).2.2.2.2.2.2.2.2.2.2 f hf).2.2.2.1
  refine xv_aload_n (pc := 185) d_Interp_advance_185 rfl rfl ?_
  refine xv_iload_n (pc := 186) d_Interp_advance_186 rfl rfl ?_
  refine xv_iload (pc := 187) d_Interp_advance_187 rfl ?_
  refine xv_aload_n (pc := 189) d_Interp_advance_189 rfl rfl ?_
  refine xv_getR (pc := 190) d_Interp_advance_190 f_Interp_90 rfl F4.1 F4.2.2.1 ?_
  refine xv_iload_n (pc := 193) d_Interp_advance_193 rfl rfl ?_
  refine xv_ald (pc := 194) d_Interp_advance_194 F4.2.2.2.2.2.2.1 (by rw [F4.2.2.2.2.2.2.2.1]; exact vp_in_nI (by omega) (by decide)) ?_
  rw [hcp, hA4, ← s4.1, ← s4.2.1]
  exact xv_tV3 (pc := 195) (hfin _ H4 g4) m_Interp_finish l_Interp_113 d_Interp_advance_195 (by omega) (by decide : 3 < xv_nc) rfl H4.1.1 (Nat.le_of_ble_eq_true rfl) ⟨Nat.le_refl _, Nat.le_refl _⟩ (fun e w ⟨w0, z1, z2⟩ g2 g3 => ⟨⟨_, rfl, w0, xSi_tr s4 (xSi_LI z1), z2⟩, g2, g3⟩)

