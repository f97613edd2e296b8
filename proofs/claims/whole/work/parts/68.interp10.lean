/-! Interpreter.advance at an IF, a LET, a TIMES -/
theorem c_adv_if {sc : Nat × (Nat → Int32)} {u : xv_M} {h ma fa oa B f p j m : Nat} {L nP : Nat → Nat} {O : Nat → Nat → Nat} {A : Nat → Nat → Int32} {σ : xZ} {π : xY} {s : Nat → Nat} (H : xII u h ma fa oa B L nP O A) (hf : f < 8) (hs : xFs u (B + 10 * f + 4) σ) (hπ : xOs u (B + 10 * f + 7) π) (hm : π.2.2 = m + 1) (hp : π.1 m = p) (hj : π.2.1 m = j) (hm40 : m < 40) (hpl : p < L f) (h1 : 1 ≤ σ.2.2) (h42 : σ.2.2 ≤ 42) {t : Nat} (ho : O f p = 13) (hj1 : j = 1) (ha : A f p = nI t) (ht : t < 6) (hst : ∀ j, j < 3 → xv_i u (B + 10 * f + 3) (p * 3 + j) = nI (s j)) : xv_C sc 4 J_Interp_advance [.ref h, .int (nI f)] u (xv_N u) (xv_S u) (xv_pv (fun w => xFs w (B + 10 * f + 4) (xPo σ) ∧ xOs w (B + 10 * f + 7) (xOg π (s (if xSo (nI t) (xTp σ) = true then 1 else 2))) ∧ xSi (xIF B f) u w)) := by
  obtain ⟨hI, hC⟩ := H
  obtain ⟨⟨hn, hn40, htk⟩, hnp, hst0⟩ := hC f hf
  obtain ⟨hO, hO18, hA⟩ := htk p hpl
  subst hj1
  refine xv_C_of (by decide) (Nat.le_refl _) (Nat.le_refl _) (xv_cat1 rfl) (Nat.le_of_ble_eq_true rfl) ?_
  show xv_X sc 4 J_Interp_advance 0 [some (.ref h), some (.int (nI f)), none, none, none, none] [] u (xv_N u) (xv_S u) _
  refine c_adv_pre hI hf hπ hm hp hj hm40 (by omega) hO (by decide) (Nat.le_refl _) (Nat.le_refl _) ?_
  rw [ho]
  refine xv_iload (pc := 36) d_Interp_advance_36 rfl ?_
  refine xv_bipush (pc := 38) 13 d_Interp_advance_38 (by decide) ?_
  refine xv_icmp_ne (pc := 40) 58 d_Interp_advance_40 (by decide) (fun h40 => ?_) (fun h40 => ?_)
  · exact absurd rfl h40
  refine xv_iload (pc := 43) d_Interp_advance_43 rfl ?_
  refine xv_iconst (pc := 45) 1 d_Interp_advance_45 (by decide) ?_
  refine xv_icmp_ne (pc := 46) 58 d_Interp_advance_46 (by decide) (fun h46 => ?_) (fun h46 => ?_)
  · exact absurd rfl h46
  refine xv_aload_n (pc := 49) d_Interp_advance_49 rfl rfl ?_
  refine xv_iload_n (pc := 50) d_Interp_advance_50 rfl rfl ?_
  refine xv_iload_n (pc := 51) d_Interp_advance_51 rfl rfl ?_
  refine xv_cV2v (pc := 52) (c_Interp_choose hI hf hs hπ h1 h42 (by omega) (by omega) (by omega) (hA.trans ha) ht hst) m_Interp_choose l_Interp_83 d_Interp_advance_52 (by omega) (by decide : 3 < xv_nc) rfl hI.1 (Nat.le_of_ble_eq_true rfl) ⟨Nat.le_refl _, Nat.le_refl _⟩ (fun w hw hN hS => ?_)
  obtain ⟨g1, g2, g3⟩ := hw
  refine xv_goto (pc := 55) 198 d_Interp_advance_55 (by decide) ?_
  exact xv_retvq (pc := 198) d_Interp_advance_198 rfl g3.1 g3.2.1 ⟨rfl, g1, g2, xSi_OI g3⟩
theorem c_adv_let {sc : Nat × (Nat → Int32)} {u : xv_M} {h ma fa oa B f p j m : Nat} {L nP : Nat → Nat} {O : Nat → Nat → Nat} {A : Nat → Nat → Int32} {σ : xZ} {π : xY} {s : Nat → Nat} (H : xII u h ma fa oa B L nP O A) (hf : f < 8) (hs : xFs u (B + 10 * f + 4) σ) (hπ : xOs u (B + 10 * f + 7) π) (hm : π.2.2 = m + 1) (hp : π.1 m = p) (hj : π.2.1 m = j) (hm40 : m < 40) (hpl : p < L f) (h1 : 1 ≤ σ.2.2) (h42 : σ.2.2 ≤ 42) {v : Nat} (ho : O f p = 14) (hj1 : j = 1) (ha : A f p = nI v) (hv : v < 7) (hst : xv_i u (B + 10 * f + 3) (p * 3 + 1) = nI (s 1)) : xv_C sc 3 J_Interp_advance [.ref h, .int (nI f)] u (xv_N u) (xv_S u) (xv_pv (fun w => xFs w (B + 10 * f + 4) (xSv (xPo σ) v (xTp σ)) ∧ xOs w (B + 10 * f + 7) (xOg π (s 1)) ∧ xSi (xIF B f) u w)) := by
  have H0 := H
  obtain ⟨hI, hC⟩ := H
  obtain ⟨⟨hn, hn40, htk⟩, hnp, hst0⟩ := hC f hf
  obtain ⟨hO, hO18, hA⟩ := htk p hpl
  subst hj1
  refine xv_C_of (by decide) (Nat.le_refl _) (Nat.le_refl _) (xv_cat1 rfl) (Nat.le_of_ble_eq_true rfl) ?_
  show xv_X sc 3 J_Interp_advance 0 [some (.ref h), some (.int (nI f)), none, none, none, none] [] u (xv_N u) (xv_S u) _
  refine c_adv_pre hI hf hπ hm hp hj hm40 (by omega) hO (by decide) (Nat.le_refl _) (Nat.le_refl _) ?_
  rw [ho]
  obtain ⟨k0, r0, r1, r2, kc, lc, kf, lf, ko, lo, hfs⟩ := hI
  obtain ⟨f1, f2, f3, f4, f5, f6⟩ := hfs f hf
  have hcf : (nI f).toNatClampNeg = f := nI_clamp (by omega)
  have hcp : (nI p).toNatClampNeg = p := nI_clamp (by omega)
  have hcv : (nI v).toNatClampNeg = v := nI_clamp (by omega)
  have hif : vp_in (nI f) 8 := vp_in_nI hf (by decide)
  obtain ⟨n, hn1⟩ : ∃ n, σ.2.2 = n + 1 := ⟨σ.2.2 - 1, by omega⟩
  refine xv_iload (pc := 36) d_Interp_advance_36 rfl ?_
  refine xv_bipush (pc := 38) 13 d_Interp_advance_38 (by decide) ?_
  refine xv_icmp_ne (pc := 40) 58 d_Interp_advance_40 (by decide) (fun h40 => ?_) (fun h40 => ?_)
  case refine_2 => exact absurd h40 (by decide)
  refine xv_iload (pc := 58) d_Interp_advance_58 rfl ?_
  refine xv_bipush (pc := 60) 14 d_Interp_advance_60 (by decide) ?_
  refine xv_icmp_ne (pc := 62) 114 d_Interp_advance_62 (by decide) (fun h62 => ?_) (fun h62 => ?_)
  · exact absurd rfl h62
  refine xv_iload (pc := 65) d_Interp_advance_65 rfl ?_
  refine xv_iconst (pc := 67) 1 d_Interp_advance_67 (by decide) ?_
  refine xv_icmp_ne (pc := 68) 114 d_Interp_advance_68 (by decide) (fun h68 => ?_) (fun h68 => ?_)
  · exact absurd rfl h68
  refine xv_aload_n (pc := 71) d_Interp_advance_71 rfl rfl ?_
  refine xv_getR (pc := 72) d_Interp_advance_72 f_Interp_19 rfl k0 r1 ?_
  refine xv_iload_n (pc := 75) d_Interp_advance_75 rfl rfl ?_
  refine xv_aald (pc := 76) (t := 1) d_Interp_advance_76 kf rfl (by rw [lf]; exact hif) (by rw [hcf]; exact f2) ?_
  refine xv_getR (pc := 77) d_Interp_advance_77 f_Interp_87 rfl f5.1 f5.2.1 ?_
  refine xv_aload_n (pc := 80) d_Interp_advance_80 rfl rfl ?_
  refine xv_getR (pc := 81) d_Interp_advance_81 f_Interp_90 rfl f4.1 f4.2.2.1 ?_
  refine xv_iload_n (pc := 84) d_Interp_advance_84 rfl rfl ?_
  refine xv_ald (pc := 85) d_Interp_advance_85 f4.2.2.2.2.2.2.1 (by rw [f4.2.2.2.2.2.2.2.1]; exact vp_in_nI (by omega) (by decide)) ?_
  refine xv_aload_n (pc := 86) d_Interp_advance_86 rfl rfl ?_
  refine xv_getR (pc := 87) d_Interp_advance_87 f_Interp_19 rfl k0 r1 ?_
  refine xv_iload_n (pc := 90) d_Interp_advance_90 rfl rfl ?_
  refine xv_aald (pc := 91) (t := 1) d_Interp_advance_91 kf rfl (by rw [lf]; exact hif) (by rw [hcf]; exact f2) ?_
  rw [hcp, hA, ha]
  refine xv_cV0i (pc := 92) (c_Frame_pop (n := n) f5 (by rw [hs.2.2, hn1]) (by omega)) m_Frame_pop l_Interp_69 d_Interp_advance_92 (by omega) (by decide : 1 < xv_nc) rfl f5.1 (Nat.le_of_ble_eq_true rfl) ⟨Nat.le_refl _, Nat.le_refl _⟩ (fun r w hw hN hS => ?_)
  obtain ⟨hr, hw⟩ := hw
  have hr : r = xTp σ := by rw [hr, hs.2.1 n (by omega)]; unfold xTp; rw [hn1]; rfl
  subst hr
  obtain ⟨g1, s1⟩ := xFs_po hs hn1 hw
  clear hw
  have F1 := xSi_Fr s1 f5
  obtain ⟨g2, t2⟩ := xFs_sv (v := v) (x := xTp σ) g1
  have s2 := xSi_tr s1 t2
  have s3 := xSi_LI (xSi_FI s2)
  refine xv_ast (pc := 95) d_Interp_advance_95 F1.2.2.2.1 (by rw [F1.2.2.2.2.1]; exact vp_in_nI hv (by decide)) ?_
  rw [hcv]
  have o1 := xOs_far s2 (Or.inr (by omega)) hπ
  have H4 := xSi_II s3 H0
  have hst4 : xv_i (xv_si w (B + 10 * f + 4 + 1) v (xTp σ)) (B + 10 * f + 3) (p * 3 + 1) = nI (s 1) := by
    rw [s2.2.2.2.2.2.2 _ (fun q => by unfold xFS at q; omega)]; exact hst
  obtain ⟨k0, r0, r1, r2, kc, lc, kf, lf, ko, lo, hfs⟩ := H4.1
  obtain ⟨f1, f2, f3, f4, f5, f6⟩ := hfs f hf
  refine xv_aload_n (pc := 96) d_Interp_advance_96 rfl rfl ?_
  refine xv_getR (pc := 97) d_Interp_advance_97 f_Interp_25 rfl k0 r2 ?_
  refine xv_iload_n (pc := 100) d_Interp_advance_100 rfl rfl ?_
  refine xv_aald (pc := 101) (t := 2) d_Interp_advance_101 ko rfl (by rw [lo]; exact hif) (by rw [hcf]; exact f3) ?_
  refine xv_aload_n (pc := 102) d_Interp_advance_102 rfl rfl ?_
  refine xv_iload_n (pc := 103) d_Interp_advance_103 rfl rfl ?_
  refine xv_iconst (pc := 104) 1 d_Interp_advance_104 (by decide) ?_
  refine xv_cV2i (pc := 105) (d1 := 0) (c_Form_start (j := 1) f4 (by omega) (by decide)) m_Form_start l_Interp_93 d_Interp_advance_105 (by omega) (by decide : 0 < xv_nc) rfl f4.1 (Nat.le_of_ble_eq_true rfl) (xSi_le s2) (fun r5 w3 hw hN hS => ?_)
  obtain ⟨hr5, hw⟩ := hw
  rw [hst4] at hr5
  subst hr5
  subst hw
  refine xv_cV1v (pc := 108) (d1 := 2) (c_Opens_goOnAs (n := m) f6 (by rw [o1.2.2, hm]) hm40) m_Opens_goOnAs l_Interp_97 d_Interp_advance_108 (by omega) (by decide : 2 < xv_nc) rfl f6.1 (Nat.le_of_ble_eq_true rfl) (xSi_le s2) (fun w4 hw hN hS => ?_)
  obtain ⟨o2, s5⟩ := xOs_g o1 hm hw
  have s6 := xSi_tr s3 (xSi_OI (xSi_mono (S' := xFO B f) s5 (fun a z => Or.inr z)))
  refine xv_goto (pc := 111) 198 d_Interp_advance_111 (by decide) ?_
  exact xv_retvq (pc := 198) d_Interp_advance_198 rfl s6.1 s6.2.1 ⟨rfl, xFs_far s5 (Or.inl (by omega)) g2, o2, s6⟩
theorem c_adv_times {sc : Nat × (Nat → Int32)} {u : xv_M} {h ma fa oa B f p j m : Nat} {L nP : Nat → Nat} {O : Nat → Nat → Nat} {A : Nat → Nat → Int32} {σ : xZ} {π : xY} {s : Nat → Nat} (H : xII u h ma fa oa B L nP O A) (hf : f < 8) (hs : xFs u (B + 10 * f + 4) σ) (hπ : xOs u (B + 10 * f + 7) π) (hm : π.2.2 = m + 1) (hp : π.1 m = p) (hj : π.2.1 m = j) (hm40 : m < 40) (hpl : p < L f) (h1 : 1 ≤ σ.2.2) (h42 : σ.2.2 ≤ 42) {v : Nat} (ho : O f p = 16) (hj1 : 1 ≤ j) (hj9 : j < 100) (ha : A f p = nI v) (hv : v < 7) (hm1 : m + 1 < 40) (hst : ∀ j, j < 2 → xv_i u (B + 10 * f + 3) (p * 3 + j) = nI (s j)) : xv_C sc 4 J_Interp_advance [.ref h, .int (nI f)] u (xv_N u) (xv_S u) (xv_pv (fun w => ((¬ xRd (decide (j = 1)) σ v = 0 ∧ xFs w (B + 10 * f + 4) (xSv (xPo σ) v (xRd (decide (j = 1)) σ v)) ∧ xOs w (B + 10 * f + 7) (xOe π (s 1))) ∨ (xRd (decide (j = 1)) σ v = 0 ∧ xFs w (B + 10 * f + 4) (xPu (xSv (xPo σ) v (xRd (decide (j = 1)) σ v)) 0) ∧ xOs w (B + 10 * f + 7) (xOl π))) ∧ xSi (xIF B f) u w)) := by
  obtain ⟨hI, hC⟩ := H
  obtain ⟨⟨hn, hn40, htk⟩, hnp, hst0⟩ := hC f hf
  obtain ⟨hO, hO18, hA⟩ := htk p hpl
  have j1 : (nI j = 1) ↔ j = 1 := nI_eq (b := 1) (by omega) (by decide)
  refine xv_C_of (by decide) (Nat.le_refl _) (Nat.le_refl _) (xv_cat1 rfl) (Nat.le_of_ble_eq_true rfl) ?_
  show xv_X sc 4 J_Interp_advance 0 [some (.ref h), some (.int (nI f)), none, none, none, none] [] u (xv_N u) (xv_S u) _
  refine c_adv_pre hI hf hπ hm hp hj hm40 (by omega) hO (by decide) (Nat.le_refl _) (Nat.le_refl _) ?_
  rw [ho]
  have hc := c_Interp_goRound (sc := sc) (first := decide (j = 1)) hI hf hs hπ h1 h42 (by omega) (by omega) (by omega) (hA.trans ha) hv hst
  refine xv_iload (pc := 36) d_Interp_advance_36 rfl ?_
  refine xv_bipush (pc := 38) 13 d_Interp_advance_38 (by decide) ?_
  refine xv_icmp_ne (pc := 40) 58 d_Interp_advance_40 (by decide) (fun h40 => ?_) (fun h40 => ?_)
  case refine_2 => exact absurd h40 (by decide)
  refine xv_iload (pc := 58) d_Interp_advance_58 rfl ?_
  refine xv_bipush (pc := 60) 14 d_Interp_advance_60 (by decide) ?_
  refine xv_icmp_ne (pc := 62) 114 d_Interp_advance_62 (by decide) (fun h62 => ?_) (fun h62 => ?_)
  case refine_2 => exact absurd h62 (by decide)
  refine xv_iload (pc := 114) d_Interp_advance_114 rfl ?_
  refine xv_bipush (pc := 116) 16 d_Interp_advance_116 (by decide) ?_
  refine xv_icmp_ne (pc := 118) 146 d_Interp_advance_118 (by decide) (fun h118 => ?_) (fun h118 => ?_)
  · exact absurd rfl h118
  refine xv_iload (pc := 121) d_Interp_advance_121 rfl ?_
  refine xv_if_le (pc := 123) 146 d_Interp_advance_123 (by decide) (fun h123 => ?_) (fun h123 => ?_)
  · exact absurd h123 (Int32.not_le.mpr (nI_posL (by omega) (by omega)))
  have tail : xv_X sc 4 J_Interp_advance 140 [some (.ref h), some (.int (nI f)), some (.ref (B + 10 * f)), some (.int (nI p)), some (.int (nI j)), some (.int (nI 16))] [.int (xB (decide (j = 1))), .int (nI p), .int (nI f), .ref h] u (xv_N u) (xv_S u) (xv_q (xv_N u) (xv_S u) (xv_pv (fun w => ((¬ xRd (decide (j = 1)) σ v = 0 ∧ xFs w (B + 10 * f + 4) (xSv (xPo σ) v (xRd (decide (j = 1)) σ v)) ∧ xOs w (B + 10 * f + 7) (xOe π (s 1))) ∨ (xRd (decide (j = 1)) σ v = 0 ∧ xFs w (B + 10 * f + 4) (xPu (xSv (xPo σ) v (xRd (decide (j = 1)) σ v)) 0) ∧ xOs w (B + 10 * f + 7) (xOl π))) ∧ xSi (xIF B f) u w))) := by
    refine xv_cV3v (pc := 140) hc m_Interp_goRound l_Interp_100 d_Interp_advance_140 (by omega) (by decide : 3 < xv_nc) rfl hI.1 (Nat.le_of_ble_eq_true rfl) ⟨Nat.le_refl _, Nat.le_refl _⟩ (fun w hw hN hS => ?_)
    obtain ⟨g1, g3⟩ := hw
    refine xv_goto (pc := 143) 198 d_Interp_advance_143 (by decide) ?_
    exact xv_retvq (pc := 198) d_Interp_advance_198 rfl g3.1 g3.2.1 ⟨rfl, g1, xSi_OI g3⟩
  refine xv_aload_n (pc := 126) d_Interp_advance_126 rfl rfl ?_
  refine xv_iload_n (pc := 127) d_Interp_advance_127 rfl rfl ?_
  refine xv_iload_n (pc := 128) d_Interp_advance_128 rfl rfl ?_
  refine xv_iload (pc := 129) d_Interp_advance_129 rfl ?_
  refine xv_iconst (pc := 131) 1 d_Interp_advance_131 (by decide) ?_
  refine xv_icmp_ne (pc := 132) 139 d_Interp_advance_132 (by decide) (fun h132 => ?_) (fun h132 => ?_)
  · rw [decide_eq_false (fun e => h132 (j1.mpr e))] at tail hc ⊢
    refine xv_iconst (pc := 139) 0 d_Interp_advance_139 (by decide) ?_
    exact tail
  · rw [decide_eq_true (j1.mp h132)] at tail hc ⊢
    refine xv_iconst (pc := 135) 1 d_Interp_advance_135 (by decide) ?_
    refine xv_goto (pc := 136) 140 d_Interp_advance_136 (by decide) ?_
    exact tail

