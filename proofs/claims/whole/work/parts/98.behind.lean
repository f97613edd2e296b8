/-! the model: behind -/
theorem xb_75 {sc : Nat × (Nat → Int32)} {D M f d p o s n1 s1 : Nat} {w : xv_M} {a : Int32} {P : xv_P} {j8 : Option Value} (ho : o < 18) (hs : s < 100) (hN : xv_N w ≤ n1) (hS : xv_S w ≤ s1) (hD : 1 ≤ D) (h : ¬ (o < 13 ∧ s = xPa o)) (k : xv_X sc D J_Model_behind 75 [some (.ref M), some (.int (nI f)), some (.int (nI d)), some (.int (nI p)), some (.int (nI o)), some (.int a), some (.int (nI s)), some (.int (nI (280 * f))), j8] [] w n1 s1 P) : xv_X sc D J_Model_behind 48 [some (.ref M), some (.int (nI f)), some (.int (nI d)), some (.int (nI p)), some (.int (nI o)), some (.int a), some (.int (nI s)), some (.int (nI (280 * f))), j8] [] w n1 s1 P := by
  have hP3 := xPa_3 o
  have t : ((13 : Int32) ≤ nI o) ↔ 13 ≤ o := nI_leI (a := 13) (by decide) (by omega)
  have q : (nI s = nI (xPa o)) ↔ s = xPa o := nI_eq (by omega) (by omega)
  refine xv_iload (pc := 48) d_Model_behind_48 rfl ?_
  refine xv_bipush (pc := 50) 13 d_Model_behind_50 (by decide) ?_
  refine xv_icmp_ge (pc := 52) 75 d_Model_behind_52 (by decide) (fun h52 => ?_) (fun h52 => ?_)
  · exact k
  rw [t] at h52
  refine xv_iload (pc := 55) d_Model_behind_55 rfl ?_
  refine xv_iload (pc := 57) d_Model_behind_57 rfl ?_
  refine xv_cS1i (pc := 59) (d1 := 0) (c_Model_parts ho) m_Model_parts l_Model_110 d_Model_behind_59 (by omega) (Nat.le_of_ble_eq_true rfl) ⟨hN, hS⟩ (fun r w2 hw hN2 hS2 => ?_)
  obtain ⟨rfl, hw⟩ := hw
  subst w2
  refine xv_icmp_ne (pc := 62) 75 d_Model_behind_62 (by decide) (fun h62 => ?_) (fun h62 => ?_)
  · exact k
  rw [q] at h62
  exact absurd ⟨by omega, h62⟩ h
theorem xb_104 {sc : Nat × (Nat → Int32)} {D M f d p o s n1 s1 : Nat} {w : xv_M} {a : Int32} {P : xv_P} {j8 : Option Value} (ho : o < 18) (hs : s < 100) (h : ¬ (o = 13 ∧ s = 1)) (k : xv_X sc D J_Model_behind 104 [some (.ref M), some (.int (nI f)), some (.int (nI d)), some (.int (nI p)), some (.int (nI o)), some (.int a), some (.int (nI s)), some (.int (nI (280 * f))), j8] [] w n1 s1 P) : xv_X sc D J_Model_behind 75 [some (.ref M), some (.int (nI f)), some (.int (nI d)), some (.int (nI p)), some (.int (nI o)), some (.int a), some (.int (nI s)), some (.int (nI (280 * f))), j8] [] w n1 s1 P := by
  have q1 : (nI o = 13) ↔ o = 13 := nI_eq (b := 13) (by omega) (by decide)
  have q2 : (nI s = 1) ↔ s = 1 := nI_eq (b := 1) (by omega) (by decide)
  refine xv_iload (pc := 75) d_Model_behind_75 rfl ?_
  refine xv_bipush (pc := 77) 13 d_Model_behind_77 (by decide) ?_
  refine xv_icmp_ne (pc := 79) 104 d_Model_behind_79 (by decide) (fun h79 => ?_) (fun h79 => ?_)
  · exact k
  rw [q1] at h79
  refine xv_iload (pc := 82) d_Model_behind_82 rfl ?_
  refine xv_iconst (pc := 84) 1 d_Model_behind_84 (by decide) ?_
  refine xv_icmp_ne (pc := 85) 104 d_Model_behind_85 (by decide) (fun h85 => ?_) (fun h85 => ?_)
  · exact k
  rw [q2] at h85
  exact absurd ⟨h79, h85⟩ h
theorem xb_154 {sc : Nat × (Nat → Int32)} {D M f d p o s n1 s1 : Nat} {w : xv_M} {a : Int32} {P : xv_P} {j8 : Option Value} (ho : o < 18) (hs : s < 100) (h : ¬ (o = 13 ∧ s = 2)) (k : xv_X sc D J_Model_behind 154 [some (.ref M), some (.int (nI f)), some (.int (nI d)), some (.int (nI p)), some (.int (nI o)), some (.int a), some (.int (nI s)), some (.int (nI (280 * f))), j8] [] w n1 s1 P) : xv_X sc D J_Model_behind 104 [some (.ref M), some (.int (nI f)), some (.int (nI d)), some (.int (nI p)), some (.int (nI o)), some (.int a), some (.int (nI s)), some (.int (nI (280 * f))), j8] [] w n1 s1 P := by
  have q1 : (nI o = 13) ↔ o = 13 := nI_eq (b := 13) (by omega) (by decide)
  have q2 : (nI s = 2) ↔ s = 2 := nI_eq (b := 2) (by omega) (by decide)
  refine xv_iload (pc := 104) d_Model_behind_104 rfl ?_
  refine xv_bipush (pc := 106) 13 d_Model_behind_106 (by decide) ?_
  refine xv_icmp_ne (pc := 108) 154 d_Model_behind_108 (by decide) (fun h108 => ?_) (fun h108 => ?_)
  · exact k
  rw [q1] at h108
  refine xv_iload (pc := 111) d_Model_behind_111 rfl ?_
  refine xv_iconst (pc := 113) 2 d_Model_behind_113 (by decide) ?_
  refine xv_icmp_ne (pc := 114) 154 d_Model_behind_114 (by decide) (fun h114 => ?_) (fun h114 => ?_)
  · exact k
  rw [q2] at h114
  exact absurd ⟨h108, h114⟩ h
theorem xb_185 {sc : Nat × (Nat → Int32)} {D M f d p o s n1 s1 : Nat} {w : xv_M} {a : Int32} {P : xv_P} {j8 : Option Value} (ho : o < 18) (hs : s < 100) (h : ¬ (o = 13 ∧ s = 3)) (k : xv_X sc D J_Model_behind 185 [some (.ref M), some (.int (nI f)), some (.int (nI d)), some (.int (nI p)), some (.int (nI o)), some (.int a), some (.int (nI s)), some (.int (nI (280 * f))), j8] [] w n1 s1 P) : xv_X sc D J_Model_behind 154 [some (.ref M), some (.int (nI f)), some (.int (nI d)), some (.int (nI p)), some (.int (nI o)), some (.int a), some (.int (nI s)), some (.int (nI (280 * f))), j8] [] w n1 s1 P := by
  have q1 : (nI o = 13) ↔ o = 13 := nI_eq (b := 13) (by omega) (by decide)
  have q2 : (nI s = 3) ↔ s = 3 := nI_eq (b := 3) (by omega) (by decide)
  refine xv_iload (pc := 154) d_Model_behind_154 rfl ?_
  refine xv_bipush (pc := 156) 13 d_Model_behind_156 (by decide) ?_
  refine xv_icmp_ne (pc := 158) 185 d_Model_behind_158 (by decide) (fun h158 => ?_) (fun h158 => ?_)
  · exact k
  rw [q1] at h158
  refine xv_iload (pc := 161) d_Model_behind_161 rfl ?_
  refine xv_iconst (pc := 163) 3 d_Model_behind_163 (by decide) ?_
  refine xv_icmp_ne (pc := 164) 185 d_Model_behind_164 (by decide) (fun h164 => ?_) (fun h164 => ?_)
  · exact k
  rw [q2] at h164
  exact absurd ⟨h158, h164⟩ h
theorem xb_209 {sc : Nat × (Nat → Int32)} {D M f d p o s n1 s1 : Nat} {w : xv_M} {a : Int32} {P : xv_P} {j8 : Option Value} (ho : o < 18) (hs : s < 100) (h : ¬ (o = 14 ∧ s = 1)) (k : xv_X sc D J_Model_behind 209 [some (.ref M), some (.int (nI f)), some (.int (nI d)), some (.int (nI p)), some (.int (nI o)), some (.int a), some (.int (nI s)), some (.int (nI (280 * f))), j8] [] w n1 s1 P) : xv_X sc D J_Model_behind 185 [some (.ref M), some (.int (nI f)), some (.int (nI d)), some (.int (nI p)), some (.int (nI o)), some (.int a), some (.int (nI s)), some (.int (nI (280 * f))), j8] [] w n1 s1 P := by
  have q1 : (nI o = 14) ↔ o = 14 := nI_eq (b := 14) (by omega) (by decide)
  have q2 : (nI s = 1) ↔ s = 1 := nI_eq (b := 1) (by omega) (by decide)
  refine xv_iload (pc := 185) d_Model_behind_185 rfl ?_
  refine xv_bipush (pc := 187) 14 d_Model_behind_187 (by decide) ?_
  refine xv_icmp_ne (pc := 189) 209 d_Model_behind_189 (by decide) (fun h189 => ?_) (fun h189 => ?_)
  · exact k
  rw [q1] at h189
  refine xv_iload (pc := 192) d_Model_behind_192 rfl ?_
  refine xv_iconst (pc := 194) 1 d_Model_behind_194 (by decide) ?_
  refine xv_icmp_ne (pc := 195) 209 d_Model_behind_195 (by decide) (fun h195 => ?_) (fun h195 => ?_)
  · exact k
  rw [q2] at h195
  exact absurd ⟨h189, h195⟩ h
theorem xb_303 {sc : Nat × (Nat → Int32)} {D M f d p o s n1 s1 : Nat} {w : xv_M} {a : Int32} {P : xv_P} {j8 : Option Value} (ho : o < 18) (hs : s < 100) (h : ¬ (o = 16 ∧ s = 1)) (k : xv_X sc D J_Model_behind 303 [some (.ref M), some (.int (nI f)), some (.int (nI d)), some (.int (nI p)), some (.int (nI o)), some (.int a), some (.int (nI s)), some (.int (nI (280 * f))), j8] [] w n1 s1 P) : xv_X sc D J_Model_behind 237 [some (.ref M), some (.int (nI f)), some (.int (nI d)), some (.int (nI p)), some (.int (nI o)), some (.int a), some (.int (nI s)), some (.int (nI (280 * f))), j8] [] w n1 s1 P := by
  have q1 : (nI o = 16) ↔ o = 16 := nI_eq (b := 16) (by omega) (by decide)
  have q2 : (nI s = 1) ↔ s = 1 := nI_eq (b := 1) (by omega) (by decide)
  refine xv_iload (pc := 237) d_Model_behind_237 rfl ?_
  refine xv_bipush (pc := 239) 16 d_Model_behind_239 (by decide) ?_
  refine xv_icmp_ne (pc := 241) 303 d_Model_behind_241 (by decide) (fun h241 => ?_) (fun h241 => ?_)
  · exact k
  rw [q1] at h241
  refine xv_iload (pc := 244) d_Model_behind_244 rfl ?_
  refine xv_iconst (pc := 246) 1 d_Model_behind_246 (by decide) ?_
  refine xv_icmp_ne (pc := 247) 303 d_Model_behind_247 (by decide) (fun h247 => ?_) (fun h247 => ?_)
  · exact k
  rw [q2] at h247
  exact absurd ⟨h241, h247⟩ h
theorem xb_403 {sc : Nat × (Nat → Int32)} {D M f d p o s n1 s1 : Nat} {w : xv_M} {a : Int32} {P : xv_P} {j8 : Option Value} (ho : o < 18) (hs : s < 100) (h : ¬ (o = 16 ∧ s = 2)) (k : xv_X sc D J_Model_behind 403 [some (.ref M), some (.int (nI f)), some (.int (nI d)), some (.int (nI p)), some (.int (nI o)), some (.int a), some (.int (nI s)), some (.int (nI (280 * f))), j8] [] w n1 s1 P) : xv_X sc D J_Model_behind 303 [some (.ref M), some (.int (nI f)), some (.int (nI d)), some (.int (nI p)), some (.int (nI o)), some (.int a), some (.int (nI s)), some (.int (nI (280 * f))), j8] [] w n1 s1 P := by
  have q1 : (nI o = 16) ↔ o = 16 := nI_eq (b := 16) (by omega) (by decide)
  have q2 : (nI s = 2) ↔ s = 2 := nI_eq (b := 2) (by omega) (by decide)
  refine xv_iload (pc := 303) d_Model_behind_303 rfl ?_
  refine xv_bipush (pc := 305) 16 d_Model_behind_305 (by decide) ?_
  refine xv_icmp_ne (pc := 307) 403 d_Model_behind_307 (by decide) (fun h307 => ?_) (fun h307 => ?_)
  · exact k
  rw [q1] at h307
  refine xv_iload (pc := 310) d_Model_behind_310 rfl ?_
  refine xv_iconst (pc := 312) 2 d_Model_behind_312 (by decide) ?_
  refine xv_icmp_ne (pc := 313) 403 d_Model_behind_313 (by decide) (fun h313 => ?_) (fun h313 => ?_)
  · exact k
  rw [q2] at h313
  exact absurd ⟨h307, h313⟩ h
theorem xb_427 {sc : Nat × (Nat → Int32)} {D M f d p o s n1 s1 : Nat} {w : xv_M} {a : Int32} {P : xv_P} {j8 : Option Value} (ho : o < 18) (hs : s < 100) (h : ¬ (o = 17 ∧ s = 3)) (k : xv_X sc D J_Model_behind 427 [some (.ref M), some (.int (nI f)), some (.int (nI d)), some (.int (nI p)), some (.int (nI o)), some (.int a), some (.int (nI s)), some (.int (nI (280 * f))), j8] [] w n1 s1 P) : xv_X sc D J_Model_behind 403 [some (.ref M), some (.int (nI f)), some (.int (nI d)), some (.int (nI p)), some (.int (nI o)), some (.int a), some (.int (nI s)), some (.int (nI (280 * f))), j8] [] w n1 s1 P := by
  have q1 : (nI o = 17) ↔ o = 17 := nI_eq (b := 17) (by omega) (by decide)
  have q2 : (nI s = 3) ↔ s = 3 := nI_eq (b := 3) (by omega) (by decide)
  refine xv_iload (pc := 403) d_Model_behind_403 rfl ?_
  refine xv_bipush (pc := 405) 17 d_Model_behind_405 (by decide) ?_
  refine xv_icmp_ne (pc := 407) 427 d_Model_behind_407 (by decide) (fun h407 => ?_) (fun h407 => ?_)
  · exact k
  rw [q1] at h407
  refine xv_iload (pc := 410) d_Model_behind_410 rfl ?_
  refine xv_iconst (pc := 412) 3 d_Model_behind_412 (by decide) ?_
  refine xv_icmp_ne (pc := 413) 427 d_Model_behind_413 (by decide) (fun h413 => ?_) (fun h413 => ?_)
  · exact k
  rw [q2] at h413
  exact absurd ⟨h407, h413⟩ h
theorem xb_237 {sc : Nat × (Nat → Int32)} {D M f d p o s n1 s1 : Nat} {w : xv_M} {a : Int32} {P : xv_P} {j8 : Option Value} (ho : o < 18) (hs : s < 100) (h : ¬ o = 15) (k : xv_X sc D J_Model_behind 237 [some (.ref M), some (.int (nI f)), some (.int (nI d)), some (.int (nI p)), some (.int (nI o)), some (.int a), some (.int (nI s)), some (.int (nI (280 * f))), j8] [] w n1 s1 P) : xv_X sc D J_Model_behind 209 [some (.ref M), some (.int (nI f)), some (.int (nI d)), some (.int (nI p)), some (.int (nI o)), some (.int a), some (.int (nI s)), some (.int (nI (280 * f))), j8] [] w n1 s1 P := by
  have q1 : (nI o = 15) ↔ o = 15 := nI_eq (b := 15) (by omega) (by decide)
  refine xv_iload (pc := 209) d_Model_behind_209 rfl ?_
  refine xv_bipush (pc := 211) 15 d_Model_behind_211 (by decide) ?_
  refine xv_icmp_ne (pc := 213) 237 d_Model_behind_213 (by decide) (fun h213 => ?_) (fun h213 => ?_)
  · exact k
  rw [q1] at h213
  exact absurd h213 h
theorem xb_fin {sc : Nat × (Nat → Int32)} {D M f d p o s n1 s1 : Nat} {w : xv_M} {a : Int32} {P : xv_P} {j8 : Option Value} (ho : o < 18) (hs : s < 100) {P0 : xv_P} (hN : xv_N w = n1) (hS : xv_S w = s1) (hD : 1 ≤ D) (hP : P0 (.inl (some (.int (xB (decide (s = xPa o)))))) w) : xv_X sc D J_Model_behind 427 [some (.ref M), some (.int (nI f)), some (.int (nI d)), some (.int (nI p)), some (.int (nI o)), some (.int a), some (.int (nI s)), some (.int (nI (280 * f))), j8] [] w n1 s1 (xv_q n1 s1 P0) := by
  have hP3 := xPa_3 o
  have q : (nI s = nI (xPa o)) ↔ s = xPa o := nI_eq (by omega) (by omega)
  refine xv_iload (pc := 427) d_Model_behind_427 rfl ?_
  refine xv_iload (pc := 429) d_Model_behind_429 rfl ?_
  refine xv_cS1i (pc := 431) (d1 := 0) (c_Model_parts ho) m_Model_parts l_Model_110 d_Model_behind_431 (by omega) (Nat.le_of_ble_eq_true rfl) ⟨Nat.le_of_eq hN, Nat.le_of_eq hS⟩ (fun r w2 hw hN2 hS2 => ?_)
  obtain ⟨rfl, hw⟩ := hw
  subst w2
  refine xv_icmp_ne (pc := 434) 441 d_Model_behind_434 (by decide) (fun h434 => ?_) (fun h434 => ?_)
  · rw [q] at h434
    rw [decide_eq_false h434] at hP
    refine xv_iconst (pc := 441) 0 d_Model_behind_441 (by decide) ?_
    exact xv_retzq (pc := 442) d_Model_behind_442 rfl (by decide) hN hS hP
  · rw [q] at h434
    rw [decide_eq_true h434] at hP
    refine xv_iconst (pc := 437) 1 d_Model_behind_437 (by decide) ?_
    refine xv_goto (pc := 438) 442 d_Model_behind_438 (by decide) ?_
    exact xv_retzq (pc := 442) d_Model_behind_442 rfl (by decide) hN hS hP
/-- what behind finds: the form at depth d, its token, how many of its parts are made -/
def xBq (w : xv_M) (M f d p o : Nat) (a : Int32) (s : Nat) : Prop := xv_i w (M + 27) d = nI p ∧ xv_i w (M + 1) (40 * f + p) = nI o ∧ xv_i w (M + 2) (40 * f + p) = a ∧ xv_i w (M + 28) d = nI s
theorem xIdx40 {f k : Nat} : (40 : Int32) * nI f + nI k = nI (40 * f + k) := by rw [← nI_add, ← pk_mul]; rfl
theorem xIdx0 {f : Nat} : (280 : Int32) * nI f = nI (280 * f) := by rw [← pk_mul]; rfl
theorem xb_pre {sc : Nat × (Nat → Int32)} {D M f d p o s n1 s1 : Nat} {w : xv_M} {a : Int32} {P : xv_P} (hM : xMo w M) (hf : f < 8) (hd : d < 48) (hp : p < 40) (hB : xBq w M f d p o a s) (k : xv_X sc D J_Model_behind 48 [some (.ref M), some (.int (nI f)), some (.int (nI d)), some (.int (nI p)), some (.int (nI o)), some (.int a), some (.int (nI s)), some (.int (nI (280 * f))), none] [] w n1 s1 P) : xv_X sc D J_Model_behind 0 [some (.ref M), some (.int (nI f)), some (.int (nI d)), none, none, none, none, none, none] [] w n1 s1 P := by
  obtain ⟨b1, b2, b3, b4⟩ := hB
  have hcd : (nI d).toNatClampNeg = d := nI_clamp (by omega)
  have idd : vp_in (nI d) 48 := vp_in_nI hd (by decide)
  have ci : (nI (40 * f + p)).toNatClampNeg = 40 * f + p := nI_clamp (by omega)
  have ii : vp_in (nI (40 * f + p)) 360 := vp_in_nI (by omega) (by decide)
  refine xv_aload_n (pc := 0) d_Model_behind_0 rfl rfl ?_
  refine xv_getR (pc := 1) d_Model_behind_1 f_Model_89 rfl hM.1 (xm_r26 hM) ?_
  refine xv_iload_n (pc := 4) d_Model_behind_4 rfl rfl ?_
  refine xv_ald (pc := 5) d_Model_behind_5 (xm_k26 hM) (xm_i26 hM idd) ?_
  refine xv_istore_3 (pc := 6) d_Model_behind_6 (by decide) rfl ?_
  rw [hcd, b1]
  refine xv_aload_n (pc := 7) d_Model_behind_7 rfl rfl ?_
  refine xv_getR (pc := 8) d_Model_behind_8 f_Model_7 rfl hM.1 (xm_r0 hM) ?_
  refine xv_bipush (pc := 11) 40 d_Model_behind_11 (by decide) ?_
  refine xv_iload_n (pc := 13) d_Model_behind_13 rfl rfl ?_
  refine xv_imul (pc := 14) d_Model_behind_14 ?_
  refine xv_iload_n (pc := 15) d_Model_behind_15 rfl rfl ?_
  refine xv_iadd (pc := 16) d_Model_behind_16 ?_
  refine xv_ald (pc := 17) d_Model_behind_17 (xm_k0 hM) (by rw [xIdx40]; exact xm_i0 hM ii) ?_
  refine xv_istore_4 (pc := 18) d_Model_behind_18 (by decide) rfl ?_
  refine xv_aload_n (pc := 20) d_Model_behind_20 rfl rfl ?_
  refine xv_getR (pc := 21) d_Model_behind_21 f_Model_13 rfl hM.1 (xm_r1 hM) ?_
  refine xv_bipush (pc := 24) 40 d_Model_behind_24 (by decide) ?_
  refine xv_iload_n (pc := 26) d_Model_behind_26 rfl rfl ?_
  refine xv_imul (pc := 27) d_Model_behind_27 ?_
  refine xv_iload_n (pc := 28) d_Model_behind_28 rfl rfl ?_
  refine xv_iadd (pc := 29) d_Model_behind_29 ?_
  refine xv_ald (pc := 30) d_Model_behind_30 (xm_k1 hM) (by rw [xIdx40]; exact xm_i1 hM ii) ?_
  refine xv_istore_5 (pc := 31) d_Model_behind_31 (by decide) rfl ?_
  refine xv_aload_n (pc := 33) d_Model_behind_33 rfl rfl ?_
  refine xv_getR (pc := 34) d_Model_behind_34 f_Model_92 rfl hM.1 (xm_r27 hM) ?_
  refine xv_iload_n (pc := 37) d_Model_behind_37 rfl rfl ?_
  refine xv_ald (pc := 38) d_Model_behind_38 (xm_k27 hM) (xm_i27 hM idd) ?_
  refine xv_istore_6 (pc := 39) d_Model_behind_39 (by decide) rfl ?_
  refine xv_sipush (pc := 41) 280 d_Model_behind_41 (by decide) ?_
  refine xv_iload_n (pc := 44) d_Model_behind_44 rfl rfl ?_
  refine xv_imul (pc := 45) d_Model_behind_45 ?_
  refine xv_istore_7 (pc := 46) d_Model_behind_46 (by decide) rfl ?_
  rw [xIdx40, ci, b2, b3, hcd, b4, xIdx0]
  exact k
def xBS (M b : Nat) : Prop := xPS M b ∨ b = M + 29
def xBF (u w : xv_M) (M f d : Nat) : Prop := xSi (xBS M) u w ∧ (∀ j, ¬ j = 36 → xv_i w M j = xv_i u M j) ∧ (∀ c, c = 7 ∨ c = 8 ∨ c = 9 ∨ c = 13 → ∀ q, q < 280 * f ∨ 280 * f + 280 ≤ q → xv_i w (M + c) q = xv_i u (M + c) q) ∧ ∀ q, ¬ q = d → xv_i w (M + 29) q = xv_i u (M + 29) q
theorem xBF_P {u w : xv_M} {M f d : Nat} (h : xPF u w M f) : xBF u w M f d := ⟨xSi_mono h.1 (fun _ z => Or.inl z), h.2.1, h.2.2, fun q _ => by rw [h.1.2.2.2.2.2.2 _ (fun z => by unfold xPS at z; omega)]⟩
theorem xBF_tr {u v w : xv_M} {M f d : Nat} (a : xBF u v M f d) (b : xBF v w M f d) : xBF u w M f d := ⟨xSi_tr a.1 b.1, fun j hj => (b.2.1 j hj).trans (a.2.1 j hj), fun c hc q hq => (b.2.2.1 c hc q hq).trans (a.2.2.1 c hc q hq), fun q hq => (b.2.2.2 q hq).trans (a.2.2.2 q hq)⟩
theorem xBF_p {u : xv_M} {M f d : Nat} {v : Int32} : xBF u (xv_si u (M + 29) d v) M f d := ⟨xSi_si (Or.inr rfl), fun j _ => xv_si_ne (by omega), fun c hc q _ => xv_si_ne (by omega), fun q hq => xv_si_nj hq⟩
theorem c_behind_none {sc : Nat × (Nat → Int32)} {u : xv_M} {M f d p o s : Nat} {a : Int32} {σ : xQ} (hM : xMo u M) (hf : f < 8) (hd : d < 48) (hp : p < 40) (ho : o < 18) (hs : s < 100) (hB : xBq u M f d p o a s) (hT : xMT u M f σ) (h0 : ¬ (o < 13 ∧ s = xPa o)) (h1 : ¬ (o = 13 ∧ s = 1)) (h2 : ¬ (o = 13 ∧ s = 2)) (h3 : ¬ (o = 13 ∧ s = 3)) (h4 : ¬ (o = 14 ∧ s = 1)) (h5 : ¬ o = 15) (h6 : ¬ (o = 16 ∧ s = 1)) (h7 : ¬ (o = 16 ∧ s = 2)) (h8 : ¬ (o = 17 ∧ s = 3)) : xv_C sc 2 J_Model_behind [.ref M, .int (nI f), .int (nI d)] u (xv_N u) (xv_S u) (xv_pi (fun r w => r = xB (decide (s = xPa o)) ∧ w = u)) := by
  refine xv_C_of (by decide) (Nat.le_refl _) (Nat.le_refl _) (xv_cat1 rfl) (Nat.le_of_ble_eq_true rfl) ?_
  show xv_X sc 2 J_Model_behind 0 [some (.ref M), some (.int (nI f)), some (.int (nI d)), none, none, none, none, none, none] [] u (xv_N u) (xv_S u) _
  refine xb_pre hM hf hd hp hB ?_
  refine xb_75 ho hs (Nat.le_refl _) (Nat.le_refl _) (by decide) h0 ?_
  refine xb_104 ho hs h1 ?_
  refine xb_154 ho hs h2 ?_
  refine xb_185 ho hs h3 ?_
  refine xb_209 ho hs h4 ?_
  refine xb_237 ho hs h5 ?_
  refine xb_303 ho hs h6 ?_
  refine xb_403 ho hs h7 ?_
  refine xb_427 ho hs h8 ?_
  exact xb_fin (P := fun _ _ => True) ho hs rfl rfl (by decide) ⟨_, rfl, rfl, rfl⟩
theorem c_behind_op {sc : Nat × (Nat → Int32)} {u : xv_M} {M f d p o s : Nat} {a : Int32} {σ : xQ} (hM : xMo u M) (hf : f < 8) (hd : d < 48) (hp : p < 40) (ho : o < 18) (hs : s < 100) (hB : xBq u M f d p o a s) (hT : xMT u M f σ) (hn : σ.1 < 265) (h0 : o < 13 ∧ s = xPa o) : xv_C sc 2 J_Model_behind [.ref M, .int (nI f), .int (nI d)] u (xv_N u) (xv_S u) (xv_pi (fun r w => r = xB (decide (s = xPa o)) ∧ xMT w M f (xEm σ o 0) ∧ xBF u w M f d)) := by
  refine xv_C_of (by decide) (Nat.le_refl _) (Nat.le_refl _) (xv_cat1 rfl) (Nat.le_of_ble_eq_true rfl) ?_
  show xv_X sc 2 J_Model_behind 0 [some (.ref M), some (.int (nI f)), some (.int (nI d)), none, none, none, none, none, none] [] u (xv_N u) (xv_S u) _
  refine xb_pre hM hf hd hp hB ?_
  have hP3 := xPa_3 o
  have t : ((13 : Int32) ≤ nI o) ↔ 13 ≤ o := nI_leI (a := 13) (by decide) (by omega)
  have q : (nI s = nI (xPa o)) ↔ s = xPa o := nI_eq (by omega) (by omega)
  have ho13 := h0.1
  refine xv_iload (pc := 48) d_Model_behind_48 rfl ?_
  refine xv_bipush (pc := 50) 13 d_Model_behind_50 (by decide) ?_
  refine xv_icmp_ge (pc := 52) 75 d_Model_behind_52 (by decide) (fun h52 => ?_) (fun h52 => ?_)
  · rw [t] at h52
    exact absurd h52 (by omega)
  refine xv_iload (pc := 55) d_Model_behind_55 rfl ?_
  refine xv_iload (pc := 57) d_Model_behind_57 rfl ?_
  refine xv_cS1i (pc := 59) (d1 := 0) (c_Model_parts ho) m_Model_parts l_Model_110 d_Model_behind_59 (by omega) (Nat.le_of_ble_eq_true rfl) ⟨Nat.le_refl _, Nat.le_refl _⟩ (fun r w2 hw hN2 hS2 => ?_)
  obtain ⟨rfl, hw⟩ := hw
  subst w2
  refine xv_icmp_ne (pc := 62) 75 d_Model_behind_62 (by decide) (fun h62 => ?_) (fun h62 => ?_)
  · rw [q] at h62
    exact absurd h0.2 h62
  refine xv_aload_n (pc := 65) d_Model_behind_65 rfl rfl ?_
  refine xv_iload_n (pc := 66) d_Model_behind_66 rfl rfl ?_
  refine xv_iload (pc := 67) d_Model_behind_67 rfl ?_
  refine xv_iconst (pc := 69) 0 d_Model_behind_69 (by decide) ?_
  refine xv_iconst (pc := 70) 0 d_Model_behind_70 (by decide) ?_
  refine xv_cV4i (pc := 71) (d1 := 0) (c_Model_put hM hf hT hn) m_Model_put l_Model_128 d_Model_behind_71 (by omega) (by decide : 11 < xv_nc) rfl hM.1 (Nat.le_of_ble_eq_true rfl) ⟨Nat.le_refl _, Nat.le_refl _⟩ (fun r w1 hw hN hS => ?_)
  obtain ⟨rfl, t1, p1⟩ := hw
  refine xv_pop_int (pc := 74) d_Model_behind_74 ?_
  refine xb_104 ho hs (by omega) ?_
  refine xb_154 ho hs (by omega) ?_
  refine xb_185 ho hs (by omega) ?_
  refine xb_209 ho hs (by omega) ?_
  refine xb_237 ho hs (by omega) ?_
  refine xb_303 ho hs (by omega) ?_
  refine xb_403 ho hs (by omega) ?_
  refine xb_427 ho hs (by omega) ?_
  exact xb_fin (P := fun _ _ => True) ho hs hN hS (by decide) ⟨_, rfl, rfl, t1, xBF_P p1⟩
theorem c_behind_if1 {sc : Nat × (Nat → Int32)} {u : xv_M} {M f d p o s : Nat} {a : Int32} {σ : xQ} (hM : xMo u M) (hf : f < 8) (hd : d < 48) (hp : p < 40) (ho : o < 18) (hs : s < 100) (hB : xBq u M f d p o a s) (hT : xMT u M f σ) (hn : σ.1 < 265) (h0 : o = 13 ∧ s = 1) : xv_C sc 2 J_Model_behind [.ref M, .int (nI f), .int (nI d)] u (xv_N u) (xv_S u) (xv_pi (fun r w => r = xB (decide (s = xPa o)) ∧ xMT w M f (xEm σ 14 a) ∧ xBF u w M f d ∧ xv_i w (M + 29) d = nI σ.1)) := by
  refine xv_C_of (by decide) (Nat.le_refl _) (Nat.le_refl _) (xv_cat1 rfl) (Nat.le_of_ble_eq_true rfl) ?_
  show xv_X sc 2 J_Model_behind 0 [some (.ref M), some (.int (nI f)), some (.int (nI d)), none, none, none, none, none, none] [] u (xv_N u) (xv_S u) _
  refine xb_pre hM hf hd hp hB ?_
  have hcd : (nI d).toNatClampNeg = d := nI_clamp (by omega)
  have idd : vp_in (nI d) 48 := vp_in_nI hd (by decide)
  have o13 := h0.1
  refine xb_75 ho hs (Nat.le_refl _) (Nat.le_refl _) (by decide) (by omega) ?_
  obtain ⟨rfl, rfl⟩ := h0
  refine xv_iload (pc := 75) d_Model_behind_75 rfl ?_
  refine xv_bipush (pc := 77) 13 d_Model_behind_77 (by decide) ?_
  refine xv_icmp_ne (pc := 79) 104 d_Model_behind_79 (by decide) (fun h79 => ?_) (fun h79 => ?_)
  · exact absurd rfl h79
  refine xv_iload (pc := 82) d_Model_behind_82 rfl ?_
  refine xv_iconst (pc := 84) 1 d_Model_behind_84 (by decide) ?_
  refine xv_icmp_ne (pc := 85) 104 d_Model_behind_85 (by decide) (fun h85 => ?_) (fun h85 => ?_)
  · exact absurd rfl h85
  refine xv_aload_n (pc := 88) d_Model_behind_88 rfl rfl ?_
  refine xv_getR (pc := 89) d_Model_behind_89 f_Model_95 rfl hM.1 (xm_r28 hM) ?_
  refine xv_iload_n (pc := 92) d_Model_behind_92 rfl rfl ?_
  refine xv_aload_n (pc := 93) d_Model_behind_93 rfl rfl ?_
  refine xv_iload_n (pc := 94) d_Model_behind_94 rfl rfl ?_
  refine xv_bipush (pc := 95) 14 d_Model_behind_95 (by decide) ?_
  refine xv_iload (pc := 97) d_Model_behind_97 rfl ?_
  refine xv_iconst (pc := 99) 0 d_Model_behind_99 (by decide) ?_
  refine xv_cV4i (pc := 100) (d1 := 0) (c_Model_put hM hf hT hn) m_Model_put l_Model_128 d_Model_behind_100 (by omega) (by decide : 11 < xv_nc) rfl hM.1 (Nat.le_of_ble_eq_true rfl) ⟨Nat.le_refl _, Nat.le_refl _⟩ (fun r w1 hw hN hS => ?_)
  obtain ⟨rfl, t1, p1⟩ := hw
  have hMw := xSi_Mo p1.1 hM
  refine xv_ast (pc := 103) d_Model_behind_103 (xm_k28 hMw) (xm_i28 hMw idd) ?_
  rw [hcd]
  refine xb_154 ho hs (by omega) ?_
  refine xb_185 ho hs (by omega) ?_
  refine xb_209 ho hs (by omega) ?_
  refine xb_237 ho hs (by omega) ?_
  refine xb_303 ho hs (by omega) ?_
  refine xb_403 ho hs (by omega) ?_
  refine xb_427 ho hs (by omega) ?_
  exact xb_fin (P := fun _ _ => True) ho hs (by rw [← hN]; rfl) (by rw [← hS]; rfl) (by decide) ⟨_, rfl, rfl, xMT_o t1 (Or.inr (Or.inr rfl)), xBF_tr (xBF_P p1) xBF_p, xv_si_eq⟩
theorem c_behind_if2 {sc : Nat × (Nat → Int32)} {u : xv_M} {M f d p o s : Nat} {a : Int32} {σ : xQ} (hM : xMo u M) (hf : f < 8) (hd : d < 48) (hp : p < 40) (ho : o < 18) (hs : s < 100) (hB : xBq u M f d p o a s) (hT : xMT u M f σ) {q : Nat} (hq : xv_i u (M + 29) d = nI q) (hq2 : q < 265) (hn : σ.1 < 265) (h0 : o = 13 ∧ s = 2) : xv_C sc 2 J_Model_behind [.ref M, .int (nI f), .int (nI d)] u (xv_N u) (xv_S u) (xv_pi (fun r w => r = xB (decide (s = xPa o)) ∧ xMT w M f (xS2 (xEm σ 15 0) q (nI (σ.1 + 1))) ∧ xBF u w M f d ∧ xv_i w (M + 29) d = nI σ.1)) := by
  refine xv_C_of (by decide) (Nat.le_refl _) (Nat.le_refl _) (xv_cat1 rfl) (Nat.le_of_ble_eq_true rfl) ?_
  show xv_X sc 2 J_Model_behind 0 [some (.ref M), some (.int (nI f)), some (.int (nI d)), none, none, none, none, none, none] [] u (xv_N u) (xv_S u) _
  refine xb_pre hM hf hd hp hB ?_
  have hcd : (nI d).toNatClampNeg = d := nI_clamp (by omega)
  have idd : vp_in (nI d) 48 := vp_in_nI hd (by decide)
  have ci : (nI (280 * f + q)).toNatClampNeg = 280 * f + q := nI_clamp (by omega)
  have ii : vp_in (nI (280 * f + q)) 6720 := vp_in_nI (by omega) (by decide)
  have ei : nI (280 * f) + nI q = nI (280 * f + q) := by rw [← nI_add]
  refine xb_75 ho hs (Nat.le_refl _) (Nat.le_refl _) (by decide) (by omega) ?_
  refine xb_104 ho hs (by omega) ?_
  obtain ⟨rfl, rfl⟩ := h0
  refine xv_iload (pc := 104) d_Model_behind_104 rfl ?_
  refine xv_bipush (pc := 106) 13 d_Model_behind_106 (by decide) ?_
  refine xv_icmp_ne (pc := 108) 154 d_Model_behind_108 (by decide) (fun h108 => ?_) (fun h108 => ?_)
  · exact absurd rfl h108
  refine xv_iload (pc := 111) d_Model_behind_111 rfl ?_
  refine xv_iconst (pc := 113) 2 d_Model_behind_113 (by decide) ?_
  refine xv_icmp_ne (pc := 114) 154 d_Model_behind_114 (by decide) (fun h114 => ?_) (fun h114 => ?_)
  · exact absurd rfl h114
  refine xv_aload_n (pc := 117) d_Model_behind_117 rfl rfl ?_
  refine xv_iload_n (pc := 118) d_Model_behind_118 rfl rfl ?_
  refine xv_bipush (pc := 119) 15 d_Model_behind_119 (by decide) ?_
  refine xv_iconst (pc := 121) 0 d_Model_behind_121 (by decide) ?_
  refine xv_iconst (pc := 122) 0 d_Model_behind_122 (by decide) ?_
  refine xv_cV4i (pc := 123) (d1 := 0) (c_Model_put hM hf hT hn) m_Model_put l_Model_128 d_Model_behind_123 (by omega) (by decide : 11 < xv_nc) rfl hM.1 (Nat.le_of_ble_eq_true rfl) ⟨Nat.le_refl _, Nat.le_refl _⟩ (fun r w1 hw hN hS => ?_)
  obtain ⟨rfl, t1, p1⟩ := hw
  have hMw := xSi_Mo p1.1 hM
  have hpq : xv_i w1 (M + 29) d = nI q := by rw [p1.1.2.2.2.2.2.2 _ (fun z => by unfold xPS at z; omega)]; exact hq
  have hun : xv_i w1 M 36 = nI (σ.1 + 1) := t1.1
  refine xv_istore_8 (pc := 126) d_Model_behind_126 (by decide) rfl ?_
  refine xv_aload_n (pc := 128) d_Model_behind_128 rfl rfl ?_
  refine xv_getR (pc := 129) d_Model_behind_129 f_Model_34 rfl hMw.1 (xm_r8 hMw) ?_
  refine xv_iload (pc := 132) d_Model_behind_132 rfl ?_
  refine xv_aload_n (pc := 134) d_Model_behind_134 rfl rfl ?_
  refine xv_getR (pc := 135) d_Model_behind_135 f_Model_95 rfl hMw.1 (xm_r28 hMw) ?_
  refine xv_iload_n (pc := 138) d_Model_behind_138 rfl rfl ?_
  refine xv_ald (pc := 139) d_Model_behind_139 (xm_k28 hMw) (xm_i28 hMw idd) ?_
  refine xv_iadd (pc := 140) d_Model_behind_140 ?_
  refine xv_aload_n (pc := 141) d_Model_behind_141 rfl rfl ?_
  refine xv_getI (pc := 142) d_Model_behind_142 f_Model_125 rfl hMw.1 ?_
  refine xv_ast (pc := 145) d_Model_behind_145 (xm_k8 hMw) (by rw [hcd, hpq, ei]; exact xm_i8 hMw ii) ?_
  refine xv_aload_n (pc := 146) d_Model_behind_146 rfl rfl ?_
  refine xv_getR (pc := 147) d_Model_behind_147 f_Model_95 rfl hMw.1 (xm_r28 hMw) ?_
  refine xv_iload_n (pc := 150) d_Model_behind_150 rfl rfl ?_
  refine xv_iload (pc := 151) d_Model_behind_151 rfl ?_
  refine xv_ast (pc := 153) d_Model_behind_153 (xm_k28 hMw) (xm_i28 hMw idd) ?_
  rw [hcd, hpq, ei, ci, hun]
  refine xb_185 ho hs (by omega) ?_
  refine xb_209 ho hs (by omega) ?_
  refine xb_237 ho hs (by omega) ?_
  refine xb_303 ho hs (by omega) ?_
  refine xb_403 ho hs (by omega) ?_
  refine xb_427 ho hs (by omega) ?_
  exact xb_fin (P := fun _ _ => True) ho hs (by rw [← hN]; rfl) (by rw [← hS]; rfl) (by decide) ⟨_, rfl, rfl, xMT_o (xMT_2 t1 hq2) (Or.inr (Or.inr rfl)), xBF_tr (xBF_tr (xBF_P p1) (xBF_P (xPF_row (Or.inr (Or.inr (Or.inl rfl))) (by omega)))) xBF_p, xv_si_eq⟩
theorem c_behind_if3 {sc : Nat × (Nat → Int32)} {u : xv_M} {M f d p o s : Nat} {a : Int32} {σ : xQ} (hM : xMo u M) (hf : f < 8) (hd : d < 48) (hp : p < 40) (ho : o < 18) (hs : s < 100) (hB : xBq u M f d p o a s) (hT : xMT u M f σ) {q : Nat} (hq : xv_i u (M + 29) d = nI q) (hq2 : q < 265) (h0 : o = 13 ∧ s = 3) : xv_C sc 2 J_Model_behind [.ref M, .int (nI f), .int (nI d)] u (xv_N u) (xv_S u) (xv_pi (fun r w => r = xB (decide (s = xPa o)) ∧ xMT w M f (xS1 σ q (nI σ.1)) ∧ xBF u w M f d)) := by
  refine xv_C_of (by decide) (Nat.le_refl _) (Nat.le_refl _) (xv_cat1 rfl) (Nat.le_of_ble_eq_true rfl) ?_
  show xv_X sc 2 J_Model_behind 0 [some (.ref M), some (.int (nI f)), some (.int (nI d)), none, none, none, none, none, none] [] u (xv_N u) (xv_S u) _
  refine xb_pre hM hf hd hp hB ?_
  have hcd : (nI d).toNatClampNeg = d := nI_clamp (by omega)
  have idd : vp_in (nI d) 48 := vp_in_nI hd (by decide)
  have ci : (nI (280 * f + q)).toNatClampNeg = 280 * f + q := nI_clamp (by omega)
  have ii : vp_in (nI (280 * f + q)) 6720 := vp_in_nI (by omega) (by decide)
  have ei : nI (280 * f) + nI q = nI (280 * f + q) := by rw [← nI_add]
  refine xb_75 ho hs (Nat.le_refl _) (Nat.le_refl _) (by decide) (by omega) ?_
  refine xb_104 ho hs (by omega) ?_
  refine xb_154 ho hs (by omega) ?_
  obtain ⟨rfl, rfl⟩ := h0
  refine xv_iload (pc := 154) d_Model_behind_154 rfl ?_
  refine xv_bipush (pc := 156) 13 d_Model_behind_156 (by decide) ?_
  refine xv_icmp_ne (pc := 158) 185 d_Model_behind_158 (by decide) (fun h158 => ?_) (fun h158 => ?_)
  · exact absurd rfl h158
  refine xv_iload (pc := 161) d_Model_behind_161 rfl ?_
  refine xv_iconst (pc := 163) 3 d_Model_behind_163 (by decide) ?_
  refine xv_icmp_ne (pc := 164) 185 d_Model_behind_164 (by decide) (fun h164 => ?_) (fun h164 => ?_)
  · exact absurd rfl h164
  refine xv_aload_n (pc := 167) d_Model_behind_167 rfl rfl ?_
  refine xv_getR (pc := 168) d_Model_behind_168 f_Model_31 rfl hM.1 (xm_r7 hM) ?_
  refine xv_iload (pc := 171) d_Model_behind_171 rfl ?_
  refine xv_aload_n (pc := 173) d_Model_behind_173 rfl rfl ?_
  refine xv_getR (pc := 174) d_Model_behind_174 f_Model_95 rfl hM.1 (xm_r28 hM) ?_
  refine xv_iload_n (pc := 177) d_Model_behind_177 rfl rfl ?_
  refine xv_ald (pc := 178) d_Model_behind_178 (xm_k28 hM) (xm_i28 hM idd) ?_
  refine xv_iadd (pc := 179) d_Model_behind_179 ?_
  refine xv_aload_n (pc := 180) d_Model_behind_180 rfl rfl ?_
  refine xv_getI (pc := 181) d_Model_behind_181 f_Model_125 rfl hM.1 ?_
  refine xv_ast (pc := 184) d_Model_behind_184 (xm_k7 hM) (by rw [hcd, hq, ei]; exact xm_i7 hM ii) ?_
  rw [hcd, hq, ei, ci, hT.1]
  refine xb_209 ho hs (by omega) ?_
  refine xb_237 ho hs (by omega) ?_
  refine xb_303 ho hs (by omega) ?_
  refine xb_403 ho hs (by omega) ?_
  refine xb_427 ho hs (by omega) ?_
  exact xb_fin (P := fun _ _ => True) ho hs rfl rfl (by decide) ⟨_, rfl, rfl, xMT_1 hT hq2, xBF_P (xPF_row (Or.inr (Or.inl rfl)) (by omega))⟩
theorem c_behind_let {sc : Nat × (Nat → Int32)} {u : xv_M} {M f d p o s : Nat} {a : Int32} {σ : xQ} (hM : xMo u M) (hf : f < 8) (hd : d < 48) (hp : p < 40) (ho : o < 18) (hs : s < 100) (hB : xBq u M f d p o a s) (hT : xMT u M f σ) (hn : σ.1 < 265) (h0 : o = 14 ∧ s = 1) : xv_C sc 2 J_Model_behind [.ref M, .int (nI f), .int (nI d)] u (xv_N u) (xv_S u) (xv_pi (fun r w => r = xB (decide (s = xPa o)) ∧ xMT w M f (xEm σ 13 a) ∧ xBF u w M f d)) := by
  refine xv_C_of (by decide) (Nat.le_refl _) (Nat.le_refl _) (xv_cat1 rfl) (Nat.le_of_ble_eq_true rfl) ?_
  show xv_X sc 2 J_Model_behind 0 [some (.ref M), some (.int (nI f)), some (.int (nI d)), none, none, none, none, none, none] [] u (xv_N u) (xv_S u) _
  refine xb_pre hM hf hd hp hB ?_
  refine xb_75 ho hs (Nat.le_refl _) (Nat.le_refl _) (by decide) (by omega) ?_
  refine xb_104 ho hs (by omega) ?_
  refine xb_154 ho hs (by omega) ?_
  refine xb_185 ho hs (by omega) ?_
  obtain ⟨rfl, rfl⟩ := h0
  refine xv_iload (pc := 185) d_Model_behind_185 rfl ?_
  refine xv_bipush (pc := 187) 14 d_Model_behind_187 (by decide) ?_
  refine xv_icmp_ne (pc := 189) 209 d_Model_behind_189 (by decide) (fun h189 => ?_) (fun h189 => ?_)
  · exact absurd rfl h189
  refine xv_iload (pc := 192) d_Model_behind_192 rfl ?_
  refine xv_iconst (pc := 194) 1 d_Model_behind_194 (by decide) ?_
  refine xv_icmp_ne (pc := 195) 209 d_Model_behind_195 (by decide) (fun h195 => ?_) (fun h195 => ?_)
  · exact absurd rfl h195
  refine xv_aload_n (pc := 198) d_Model_behind_198 rfl rfl ?_
  refine xv_iload_n (pc := 199) d_Model_behind_199 rfl rfl ?_
  refine xv_bipush (pc := 200) 13 d_Model_behind_200 (by decide) ?_
  refine xv_iload (pc := 202) d_Model_behind_202 rfl ?_
  refine xv_iconst (pc := 204) 0 d_Model_behind_204 (by decide) ?_
  refine xv_cV4i (pc := 205) (d1 := 0) (c_Model_put hM hf hT hn) m_Model_put l_Model_128 d_Model_behind_205 (by omega) (by decide : 11 < xv_nc) rfl hM.1 (Nat.le_of_ble_eq_true rfl) ⟨Nat.le_refl _, Nat.le_refl _⟩ (fun r w1 hw hN hS => ?_)
  obtain ⟨rfl, t1, p1⟩ := hw
  refine xv_pop_int (pc := 208) d_Model_behind_208 ?_
  refine xb_237 ho hs (by omega) ?_
  refine xb_303 ho hs (by omega) ?_
  refine xb_403 ho hs (by omega) ?_
  refine xb_427 ho hs (by omega) ?_
  exact xb_fin (P := fun _ _ => True) ho hs hN hS (by decide) ⟨_, rfl, rfl, t1, xBF_P p1⟩
theorem c_behind_set {sc : Nat × (Nat → Int32)} {u : xv_M} {M f d p o s : Nat} {a : Int32} {σ : xQ} (hM : xMo u M) (hf : f < 8) (hd : d < 48) (hp : p < 40) (ho : o < 18) (hs : s < 100) (hB : xBq u M f d p o a s) (hT : xMT u M f σ) (hn : σ.1 < 264) (h0 : o = 15) : xv_C sc 2 J_Model_behind [.ref M, .int (nI f), .int (nI d)] u (xv_N u) (xv_S u) (xv_pi (fun r w => r = xB (decide (s = xPa o)) ∧ xMT w M f (xEm (xEm σ 19 0) 13 a) ∧ xBF u w M f d)) := by
  refine xv_C_of (by decide) (Nat.le_refl _) (Nat.le_refl _) (xv_cat1 rfl) (Nat.le_of_ble_eq_true rfl) ?_
  show xv_X sc 2 J_Model_behind 0 [some (.ref M), some (.int (nI f)), some (.int (nI d)), none, none, none, none, none, none] [] u (xv_N u) (xv_S u) _
  refine xb_pre hM hf hd hp hB ?_
  refine xb_75 ho hs (Nat.le_refl _) (Nat.le_refl _) (by decide) (by omega) ?_
  refine xb_104 ho hs (by omega) ?_
  refine xb_154 ho hs (by omega) ?_
  refine xb_185 ho hs (by omega) ?_
  refine xb_209 ho hs (by omega) ?_
  subst h0
  refine xv_iload (pc := 209) d_Model_behind_209 rfl ?_
  refine xv_bipush (pc := 211) 15 d_Model_behind_211 (by decide) ?_
  refine xv_icmp_ne (pc := 213) 237 d_Model_behind_213 (by decide) (fun h213 => ?_) (fun h213 => ?_)
  · exact absurd rfl h213
  refine xv_aload_n (pc := 216) d_Model_behind_216 rfl rfl ?_
  refine xv_iload_n (pc := 217) d_Model_behind_217 rfl rfl ?_
  refine xv_bipush (pc := 218) 19 d_Model_behind_218 (by decide) ?_
  refine xv_iconst (pc := 220) 0 d_Model_behind_220 (by decide) ?_
  refine xv_iconst (pc := 221) 0 d_Model_behind_221 (by decide) ?_
  refine xv_cV4i (pc := 222) (d1 := 0) (c_Model_put hM hf hT (by omega)) m_Model_put l_Model_128 d_Model_behind_222 (by omega) (by decide : 11 < xv_nc) rfl hM.1 (Nat.le_of_ble_eq_true rfl) ⟨Nat.le_refl _, Nat.le_refl _⟩ (fun r w1 hw hN hS => ?_)
  obtain ⟨rfl, t1, p1⟩ := hw
  have hM1 := xSi_Mo p1.1 hM
  refine xv_pop_int (pc := 225) d_Model_behind_225 ?_
  refine xv_aload_n (pc := 226) d_Model_behind_226 rfl rfl ?_
  refine xv_iload_n (pc := 227) d_Model_behind_227 rfl rfl ?_
  refine xv_bipush (pc := 228) 13 d_Model_behind_228 (by decide) ?_
  refine xv_iload (pc := 230) d_Model_behind_230 rfl ?_
  refine xv_iconst (pc := 232) 0 d_Model_behind_232 (by decide) ?_
  refine xv_cV4i (pc := 233) (d1 := 0) (c_Model_put hM1 hf t1 (show σ.1 + 1 < 265 by omega)) m_Model_put l_Model_128 d_Model_behind_233 (by omega) (by decide : 11 < xv_nc) rfl hM1.1 (Nat.le_of_ble_eq_true rfl) ⟨Nat.le_of_eq hN, Nat.le_of_eq hS⟩ (fun r w2 hw hN2 hS2 => ?_)
  obtain ⟨rfl, t2, p2⟩ := hw
  refine xv_pop_int (pc := 236) d_Model_behind_236 ?_
  refine xb_303 ho hs (by omega) ?_
  refine xb_403 ho hs (by omega) ?_
  refine xb_427 ho hs (by omega) ?_
  exact xb_fin (P := fun _ _ => True) ho hs (hN2.trans hN) (hS2.trans hS) (by decide) ⟨_, rfl, rfl, t2, xBF_P (xPF_tr p1 p2)⟩
theorem c_behind_times1 {sc : Nat × (Nat → Int32)} {u : xv_M} {M f d p o s : Nat} {a : Int32} {σ : xQ} (hM : xMo u M) (hf : f < 8) (hd : d < 48) (hp : p < 40) (ho : o < 18) (hs : s < 100) (hB : xBq u M f d p o a s) (hT : xMT u M f σ) (hn : σ.1 < 260) (h0 : o = 16 ∧ s = 1) : xv_C sc 2 J_Model_behind [.ref M, .int (nI f), .int (nI d)] u (xv_N u) (xv_S u) (xv_pi (fun r w => r = xB (decide (s = xPa o)) ∧ xMT w M f (xEm (xEm (xEm (xEt (xEm σ 0 7) 7) 13 a) 1 a) 14 1) ∧ xBF u w M f d ∧ xv_i w (M + 29) d = nI (σ.1 + 3))) := by
  refine xv_C_of (by decide) (Nat.le_refl _) (Nat.le_refl _) (xv_cat1 rfl) (Nat.le_of_ble_eq_true rfl) ?_
  show xv_X sc 2 J_Model_behind 0 [some (.ref M), some (.int (nI f)), some (.int (nI d)), none, none, none, none, none, none] [] u (xv_N u) (xv_S u) _
  refine xb_pre hM hf hd hp hB ?_
  have hcd : (nI d).toNatClampNeg = d := nI_clamp (by omega)
  have idd : vp_in (nI d) 48 := vp_in_nI hd (by decide)
  have hM0 := hM
  have t0 := hT
  have N0 : xv_N u = xv_N u := rfl
  have S0 : xv_S u = xv_S u := rfl
  refine xb_75 ho hs (Nat.le_refl _) (Nat.le_refl _) (by decide) (by omega) ?_
  refine xb_104 ho hs (by omega) ?_
  refine xb_154 ho hs (by omega) ?_
  refine xb_185 ho hs (by omega) ?_
  refine xb_209 ho hs (by omega) ?_
  refine xb_237 ho hs (by omega) ?_
  obtain ⟨rfl, rfl⟩ := h0
  refine xv_iload (pc := 237) d_Model_behind_237 rfl ?_
  refine xv_bipush (pc := 239) 16 d_Model_behind_239 (by decide) ?_
  refine xv_icmp_ne (pc := 241) 303 d_Model_behind_241 (by decide) (fun h241 => ?_) (fun h241 => ?_)
  · exact absurd rfl h241
  refine xv_iload (pc := 244) d_Model_behind_244 rfl ?_
  refine xv_iconst (pc := 246) 1 d_Model_behind_246 (by decide) ?_
  refine xv_icmp_ne (pc := 247) 303 d_Model_behind_247 (by decide) (fun h247 => ?_) (fun h247 => ?_)
  · exact absurd rfl h247
  refine xv_aload_n (pc := 250) d_Model_behind_250 rfl rfl ?_
  refine xv_iload_n (pc := 251) d_Model_behind_251 rfl rfl ?_
  refine xv_iconst (pc := 252) 0 d_Model_behind_252 (by decide) ?_
  refine xv_bipush (pc := 253) 7 d_Model_behind_253 (by decide) ?_
  refine xv_iconst (pc := 255) 0 d_Model_behind_255 (by decide) ?_
  refine xv_cV4i (pc := 256) (d1 := 0) (c_Model_put hM0 hf t0 (show σ.1 < 265 by omega)) m_Model_put l_Model_128 d_Model_behind_256 (by omega) (by decide : 11 < xv_nc) rfl hM.1 (Nat.le_of_ble_eq_true rfl) ⟨Nat.le_of_eq N0, Nat.le_of_eq S0⟩ (fun r w1 hw hN1 hS1 => ?_)
  obtain ⟨rfl, t1, p1⟩ := hw
  have hM1 := xSi_Mo p1.1 hM0
  have N1 := hN1.trans N0
  have S1 := hS1.trans S0
  refine xv_pop_int (pc := 259) d_Model_behind_259 ?_
  refine xv_aload_n (pc := 260) d_Model_behind_260 rfl rfl ?_
  refine xv_iload_n (pc := 261) d_Model_behind_261 rfl rfl ?_
  refine xv_bipush (pc := 262) 7 d_Model_behind_262 (by decide) ?_
  refine xv_cV2v (pc := 264) (d1 := 1) (c_Model_fix hM1 hf t1 (show σ.1 + 1 < 265 by omega)) m_Model_fix l_Model_138 d_Model_behind_264 (by omega) (by decide : 11 < xv_nc) rfl hM1.1 (Nat.le_of_ble_eq_true rfl) ⟨Nat.le_of_eq N1, Nat.le_of_eq S1⟩ (fun w2 hw hN2 hS2 => ?_)
  obtain ⟨t2, p2⟩ := hw
  have hM2 := xSi_Mo p2.1 hM1
  have N2 := hN2.trans N1
  have S2 := hS2.trans S1
  refine xv_aload_n (pc := 267) d_Model_behind_267 rfl rfl ?_
  refine xv_iload_n (pc := 268) d_Model_behind_268 rfl rfl ?_
  refine xv_bipush (pc := 269) 13 d_Model_behind_269 (by decide) ?_
  refine xv_iload (pc := 271) d_Model_behind_271 rfl ?_
  refine xv_iconst (pc := 273) 0 d_Model_behind_273 (by decide) ?_
  refine xv_cV4i (pc := 274) (d1 := 0) (c_Model_put hM2 hf t2 (show σ.1 + 1 + 1 < 265 by omega)) m_Model_put l_Model_128 d_Model_behind_274 (by omega) (by decide : 11 < xv_nc) rfl hM2.1 (Nat.le_of_ble_eq_true rfl) ⟨Nat.le_of_eq N2, Nat.le_of_eq S2⟩ (fun r w3 hw hN3 hS3 => ?_)
  obtain ⟨rfl, t3, p3⟩ := hw
  have hM3 := xSi_Mo p3.1 hM2
  have N3 := hN3.trans N2
  have S3 := hS3.trans S2
  refine xv_pop_int (pc := 277) d_Model_behind_277 ?_
  refine xv_aload_n (pc := 278) d_Model_behind_278 rfl rfl ?_
  refine xv_getR (pc := 279) d_Model_behind_279 f_Model_95 rfl hM3.1 (xm_r28 hM3) ?_
  refine xv_iload_n (pc := 282) d_Model_behind_282 rfl rfl ?_
  refine xv_aload_n (pc := 283) d_Model_behind_283 rfl rfl ?_
  refine xv_iload_n (pc := 284) d_Model_behind_284 rfl rfl ?_
  refine xv_iconst (pc := 285) 1 d_Model_behind_285 (by decide) ?_
  refine xv_iload (pc := 286) d_Model_behind_286 rfl ?_
  refine xv_iconst (pc := 288) 0 d_Model_behind_288 (by decide) ?_
  refine xv_cV4i (pc := 289) (d1 := 0) (c_Model_put hM3 hf t3 (show σ.1 + 1 + 1 + 1 < 265 by omega)) m_Model_put l_Model_128 d_Model_behind_289 (by omega) (by decide : 11 < xv_nc) rfl hM3.1 (Nat.le_of_ble_eq_true rfl) ⟨Nat.le_of_eq N3, Nat.le_of_eq S3⟩ (fun r w4 hw hN4 hS4 => ?_)
  obtain ⟨rfl, t4, p4⟩ := hw
  have hM4 := xSi_Mo p4.1 hM3
  have N4 := hN4.trans N3
  have S4 := hS4.trans S3
  refine xv_ast (pc := 292) d_Model_behind_292 (xm_k28 hM4) (xm_i28 hM4 idd) ?_
  refine xv_aload_n (pc := 293) d_Model_behind_293 rfl rfl ?_
  refine xv_iload_n (pc := 294) d_Model_behind_294 rfl rfl ?_
  refine xv_bipush (pc := 295) 14 d_Model_behind_295 (by decide) ?_
  refine xv_iconst (pc := 297) 1 d_Model_behind_297 (by decide) ?_
  refine xv_iconst (pc := 298) 0 d_Model_behind_298 (by decide) ?_
  rw [hcd]
  have t4' := xMT_o (q := d) (v := nI (σ.1 + 3)) t4 (Or.inr (Or.inr rfl))
  have hM4' : xMo (xv_si w4 (M + 29) d (nI (σ.1 + 3))) M := hM4
  have N4' : xv_N (xv_si w4 (M + 29) d (nI (σ.1 + 3))) = xv_N u := N4
  have S4' : xv_S (xv_si w4 (M + 29) d (nI (σ.1 + 3))) = xv_S u := S4
  refine xv_cV4i (pc := 299) (d1 := 0) (c_Model_put hM4' hf t4' (show σ.1 + 1 + 1 + 1 + 1 < 265 by omega)) m_Model_put l_Model_128 d_Model_behind_299 (by omega) (by decide : 11 < xv_nc) rfl hM4.1 (Nat.le_of_ble_eq_true rfl) ⟨Nat.le_of_eq N4', Nat.le_of_eq S4'⟩ (fun r w5 hw hN5 hS5 => ?_)
  obtain ⟨rfl, t5, p5⟩ := hw
  refine xv_pop_int (pc := 302) d_Model_behind_302 ?_
  refine xb_403 ho hs (by omega) ?_
  refine xb_427 ho hs (by omega) ?_
  exact xb_fin (P := fun _ _ => True) ho hs (hN5.trans N4') (hS5.trans S4') (by decide) ⟨_, rfl, rfl, t5, xBF_tr (xBF_tr (xBF_P (xPF_tr (xPF_tr (xPF_tr p1 p2) p3) p4)) xBF_p) (xBF_P p5), by rw [p5.1.2.2.2.2.2.2 _ (fun z => by unfold xPS at z; omega)]; exact xv_si_eq⟩
theorem c_behind_times2 {sc : Nat × (Nat → Int32)} {u : xv_M} {M f d p o s : Nat} {a : Int32} {σ : xQ} (hM : xMo u M) (hf : f < 8) (hd : d < 48) (hp : p < 40) (ho : o < 18) (hs : s < 100) (hB : xBq u M f d p o a s) (hT : xMT u M f σ) {q : Nat} (hq : xv_i u (M + 29) d = nI q) (hq2 : q + 1 < 265) (hn : σ.1 < 258) (h0 : o = 16 ∧ s = 2) : xv_C sc 2 J_Model_behind [.ref M, .int (nI f), .int (nI d)] u (xv_N u) (xv_S u) (xv_pi (fun r w => r = xB (decide (s = xPa o)) ∧ xMT w M f (xEm (xS2 (xEm (xEm (xEt (xEm (xEm (xEt σ 18) 1 a) 0 1) 3) 13 a) 15 (nI q)) (q + 1) (nI (σ.1 + 6))) 0 0) ∧ xBF u w M f d)) := by
  refine xv_C_of (by decide) (Nat.le_refl _) (Nat.le_refl _) (xv_cat1 rfl) (Nat.le_of_ble_eq_true rfl) ?_
  show xv_X sc 2 J_Model_behind 0 [some (.ref M), some (.int (nI f)), some (.int (nI d)), none, none, none, none, none, none] [] u (xv_N u) (xv_S u) _
  refine xb_pre hM hf hd hp hB ?_
  have hcd : (nI d).toNatClampNeg = d := nI_clamp (by omega)
  have idd : vp_in (nI d) 48 := vp_in_nI hd (by decide)
  have hM0 := hM
  have t0 := hT
  have N0 : xv_N u = xv_N u := rfl
  have S0 : xv_S u = xv_S u := rfl
  have ci : (nI (280 * f + (q + 1))).toNatClampNeg = 280 * f + (q + 1) := nI_clamp (by omega)
  have ii : vp_in (nI (280 * f + (q + 1))) 6720 := vp_in_nI (by omega) (by decide)
  have ei : nI (280 * f) + nI q + 1 = nI (280 * f + (q + 1)) := by
    rw [show 280 * f + (q + 1) = 280 * f + q + 1 by omega, nI_succ, ← nI_add]
  refine xb_75 ho hs (Nat.le_refl _) (Nat.le_refl _) (by decide) (by omega) ?_
  refine xb_104 ho hs (by omega) ?_
  refine xb_154 ho hs (by omega) ?_
  refine xb_185 ho hs (by omega) ?_
  refine xb_209 ho hs (by omega) ?_
  refine xb_237 ho hs (by omega) ?_
  refine xb_303 ho hs (by omega) ?_
  obtain ⟨rfl, rfl⟩ := h0
  refine xv_iload (pc := 303) d_Model_behind_303 rfl ?_
  refine xv_bipush (pc := 305) 16 d_Model_behind_305 (by decide) ?_
  refine xv_icmp_ne (pc := 307) 403 d_Model_behind_307 (by decide) (fun h307 => ?_) (fun h307 => ?_)
  · exact absurd rfl h307
  refine xv_iload (pc := 310) d_Model_behind_310 rfl ?_
  refine xv_iconst (pc := 312) 2 d_Model_behind_312 (by decide) ?_
  refine xv_icmp_ne (pc := 313) 403 d_Model_behind_313 (by decide) (fun h313 => ?_) (fun h313 => ?_)
  · exact absurd rfl h313
  refine xv_aload_n (pc := 316) d_Model_behind_316 rfl rfl ?_
  refine xv_iload_n (pc := 317) d_Model_behind_317 rfl rfl ?_
  refine xv_bipush (pc := 318) 18 d_Model_behind_318 (by decide) ?_
  refine xv_cV2v (pc := 320) (d1 := 1) (c_Model_fix hM0 hf t0 (show σ.1 < 265 by omega)) m_Model_fix l_Model_138 d_Model_behind_320 (by omega) (by decide : 11 < xv_nc) rfl hM.1 (Nat.le_of_ble_eq_true rfl) ⟨Nat.le_of_eq N0, Nat.le_of_eq S0⟩ (fun w1 hw hN1 hS1 => ?_)
  obtain ⟨t1, p1⟩ := hw
  have hM1 := xSi_Mo p1.1 hM0
  have N1 := hN1.trans N0
  have S1 := hS1.trans S0
  refine xv_aload_n (pc := 323) d_Model_behind_323 rfl rfl ?_
  refine xv_iload_n (pc := 324) d_Model_behind_324 rfl rfl ?_
  refine xv_iconst (pc := 325) 1 d_Model_behind_325 (by decide) ?_
  refine xv_iload (pc := 326) d_Model_behind_326 rfl ?_
  refine xv_iconst (pc := 328) 0 d_Model_behind_328 (by decide) ?_
  refine xv_cV4i (pc := 329) (d1 := 0) (c_Model_put hM1 hf t1 (show σ.1 + 1 < 265 by omega)) m_Model_put l_Model_128 d_Model_behind_329 (by omega) (by decide : 11 < xv_nc) rfl hM1.1 (Nat.le_of_ble_eq_true rfl) ⟨Nat.le_of_eq N1, Nat.le_of_eq S1⟩ (fun r w2 hw hN2 hS2 => ?_)
  obtain ⟨rfl, t2, p2⟩ := hw
  have hM2 := xSi_Mo p2.1 hM1
  have N2 := hN2.trans N1
  have S2 := hS2.trans S1
  refine xv_pop_int (pc := 332) d_Model_behind_332 ?_
  refine xv_aload_n (pc := 333) d_Model_behind_333 rfl rfl ?_
  refine xv_iload_n (pc := 334) d_Model_behind_334 rfl rfl ?_
  refine xv_iconst (pc := 335) 0 d_Model_behind_335 (by decide) ?_
  refine xv_iconst (pc := 336) 1 d_Model_behind_336 (by decide) ?_
  refine xv_iconst (pc := 337) 0 d_Model_behind_337 (by decide) ?_
  refine xv_cV4i (pc := 338) (d1 := 0) (c_Model_put hM2 hf t2 (show σ.1 + 1 + 1 < 265 by omega)) m_Model_put l_Model_128 d_Model_behind_338 (by omega) (by decide : 11 < xv_nc) rfl hM2.1 (Nat.le_of_ble_eq_true rfl) ⟨Nat.le_of_eq N2, Nat.le_of_eq S2⟩ (fun r w3 hw hN3 hS3 => ?_)
  obtain ⟨rfl, t3, p3⟩ := hw
  have hM3 := xSi_Mo p3.1 hM2
  have N3 := hN3.trans N2
  have S3 := hS3.trans S2
  refine xv_pop_int (pc := 341) d_Model_behind_341 ?_
  refine xv_aload_n (pc := 342) d_Model_behind_342 rfl rfl ?_
  refine xv_iload_n (pc := 343) d_Model_behind_343 rfl rfl ?_
  refine xv_iconst (pc := 344) 3 d_Model_behind_344 (by decide) ?_
  refine xv_cV2v (pc := 345) (d1 := 1) (c_Model_fix hM3 hf t3 (show σ.1 + 1 + 1 + 1 < 265 by omega)) m_Model_fix l_Model_138 d_Model_behind_345 (by omega) (by decide : 11 < xv_nc) rfl hM3.1 (Nat.le_of_ble_eq_true rfl) ⟨Nat.le_of_eq N3, Nat.le_of_eq S3⟩ (fun w4 hw hN4 hS4 => ?_)
  obtain ⟨t4, p4⟩ := hw
  have hM4 := xSi_Mo p4.1 hM3
  have N4 := hN4.trans N3
  have S4 := hS4.trans S3
  refine xv_aload_n (pc := 348) d_Model_behind_348 rfl rfl ?_
  refine xv_iload_n (pc := 349) d_Model_behind_349 rfl rfl ?_
  refine xv_bipush (pc := 350) 13 d_Model_behind_350 (by decide) ?_
  refine xv_iload (pc := 352) d_Model_behind_352 rfl ?_
  refine xv_iconst (pc := 354) 0 d_Model_behind_354 (by decide) ?_
  refine xv_cV4i (pc := 355) (d1 := 0) (c_Model_put hM4 hf t4 (show σ.1 + 1 + 1 + 1 + 1 < 265 by omega)) m_Model_put l_Model_128 d_Model_behind_355 (by omega) (by decide : 11 < xv_nc) rfl hM4.1 (Nat.le_of_ble_eq_true rfl) ⟨Nat.le_of_eq N4, Nat.le_of_eq S4⟩ (fun r w5 hw hN5 hS5 => ?_)
  obtain ⟨rfl, t5, p5⟩ := hw
  have hM5 := xSi_Mo p5.1 hM4
  have N5 := hN5.trans N4
  have S5 := hS5.trans S4
  have pf5 := xPF_tr (xPF_tr (xPF_tr (xPF_tr p1 p2) p3) p4) p5
  have hpq5 : xv_i w5 (M + 29) d = nI q := by rw [pf5.1.2.2.2.2.2.2 _ (fun z => by unfold xPS at z; omega)]; exact hq
  refine xv_pop_int (pc := 358) d_Model_behind_358 ?_
  refine xv_aload_n (pc := 359) d_Model_behind_359 rfl rfl ?_
  refine xv_iload_n (pc := 360) d_Model_behind_360 rfl rfl ?_
  refine xv_bipush (pc := 361) 15 d_Model_behind_361 (by decide) ?_
  refine xv_aload_n (pc := 363) d_Model_behind_363 rfl rfl ?_
  refine xv_getR (pc := 364) d_Model_behind_364 f_Model_95 rfl hM5.1 (xm_r28 hM5) ?_
  refine xv_iload_n (pc := 367) d_Model_behind_367 rfl rfl ?_
  refine xv_ald (pc := 368) d_Model_behind_368 (xm_k28 hM5) (xm_i28 hM5 idd) ?_
  refine xv_iconst (pc := 369) 0 d_Model_behind_369 (by decide) ?_
  rw [hcd, hpq5]
  refine xv_cV4i (pc := 370) (d1 := 0) (c_Model_put hM5 hf t5 (show σ.1 + 1 + 1 + 1 + 1 + 1 < 265 by omega)) m_Model_put l_Model_128 d_Model_behind_370 (by omega) (by decide : 11 < xv_nc) rfl hM5.1 (Nat.le_of_ble_eq_true rfl) ⟨Nat.le_of_eq N5, Nat.le_of_eq S5⟩ (fun r w6 hw hN6 hS6 => ?_)
  obtain ⟨rfl, t6, p6⟩ := hw
  have hM6 := xSi_Mo p6.1 hM5
  have N6 := hN6.trans N5
  have S6 := hS6.trans S5
  have pf6 := xPF_tr pf5 p6
  have hpq6 : xv_i w6 (M + 29) d = nI q := by rw [pf6.1.2.2.2.2.2.2 _ (fun z => by unfold xPS at z; omega)]; exact hq
  have hun : xv_i w6 M 36 = nI (σ.1 + 6) := t6.1
  refine xv_pop_int (pc := 373) d_Model_behind_373 ?_
  refine xv_aload_n (pc := 374) d_Model_behind_374 rfl rfl ?_
  refine xv_getR (pc := 375) d_Model_behind_375 f_Model_34 rfl hM6.1 (xm_r8 hM6) ?_
  refine xv_iload (pc := 378) d_Model_behind_378 rfl ?_
  refine xv_aload_n (pc := 380) d_Model_behind_380 rfl rfl ?_
  refine xv_getR (pc := 381) d_Model_behind_381 f_Model_95 rfl hM6.1 (xm_r28 hM6) ?_
  refine xv_iload_n (pc := 384) d_Model_behind_384 rfl rfl ?_
  refine xv_ald (pc := 385) d_Model_behind_385 (xm_k28 hM6) (xm_i28 hM6 idd) ?_
  refine xv_iadd (pc := 386) d_Model_behind_386 ?_
  refine xv_iconst (pc := 387) 1 d_Model_behind_387 (by decide) ?_
  refine xv_iadd (pc := 388) d_Model_behind_388 ?_
  refine xv_aload_n (pc := 389) d_Model_behind_389 rfl rfl ?_
  refine xv_getI (pc := 390) d_Model_behind_390 f_Model_125 rfl hM6.1 ?_
  refine xv_ast (pc := 393) d_Model_behind_393 (xm_k8 hM6) (by rw [hcd, hpq6, ei]; exact xm_i8 hM6 ii) ?_
  refine xv_aload_n (pc := 394) d_Model_behind_394 rfl rfl ?_
  refine xv_iload_n (pc := 395) d_Model_behind_395 rfl rfl ?_
  refine xv_iconst (pc := 396) 0 d_Model_behind_396 (by decide) ?_
  refine xv_iconst (pc := 397) 0 d_Model_behind_397 (by decide) ?_
  refine xv_iconst (pc := 398) 0 d_Model_behind_398 (by decide) ?_
  rw [hcd, hpq6, ei, ci, hun]
  have t7 := xMT_2 (q := q + 1) (v := nI (σ.1 + 6)) t6 hq2
  have hM7 : xMo (xv_si w6 (M + 9) (280 * f + (q + 1)) (nI (σ.1 + 6))) M := hM6
  have N7 : xv_N (xv_si w6 (M + 9) (280 * f + (q + 1)) (nI (σ.1 + 6))) = xv_N u := N6
  have S7 : xv_S (xv_si w6 (M + 9) (280 * f + (q + 1)) (nI (σ.1 + 6))) = xv_S u := S6
  refine xv_cV4i (pc := 399) (d1 := 0) (c_Model_put hM7 hf t7 (show σ.1 + 1 + 1 + 1 + 1 + 1 + 1 < 265 by omega)) m_Model_put l_Model_128 d_Model_behind_399 (by omega) (by decide : 11 < xv_nc) rfl hM6.1 (Nat.le_of_ble_eq_true rfl) ⟨Nat.le_of_eq N7, Nat.le_of_eq S7⟩ (fun r w8 hw hN8 hS8 => ?_)
  obtain ⟨rfl, t8, p8⟩ := hw
  refine xv_pop_int (pc := 402) d_Model_behind_402 ?_
  refine xb_427 ho hs (by omega) ?_
  exact xb_fin (P := fun _ _ => True) ho hs (hN8.trans N7) (hS8.trans S7) (by decide) ⟨_, rfl, rfl, t8, xBF_P (xPF_tr (xPF_tr pf6 (xPF_row (Or.inr (Or.inr (Or.inl rfl))) (by omega))) p8)⟩
theorem c_behind_call {sc : Nat × (Nat → Int32)} {u : xv_M} {M f d p o s : Nat} {a : Int32} {σ : xQ} (hM : xMo u M) (hf : f < 8) (hd : d < 48) (hp : p < 40) (ho : o < 18) (hs : s < 100) (hB : xBq u M f d p o a s) (hT : xMT u M f σ) (hn : σ.1 < 265) (h0 : o = 17 ∧ s = 3) : xv_C sc 2 J_Model_behind [.ref M, .int (nI f), .int (nI d)] u (xv_N u) (xv_S u) (xv_pi (fun r w => r = xB (decide (s = xPa o)) ∧ xMT w M f (xEm σ 16 a) ∧ xBF u w M f d)) := by
  refine xv_C_of (by decide) (Nat.le_refl _) (Nat.le_refl _) (xv_cat1 rfl) (Nat.le_of_ble_eq_true rfl) ?_
  show xv_X sc 2 J_Model_behind 0 [some (.ref M), some (.int (nI f)), some (.int (nI d)), none, none, none, none, none, none] [] u (xv_N u) (xv_S u) _
  refine xb_pre hM hf hd hp hB ?_
  refine xb_75 ho hs (Nat.le_refl _) (Nat.le_refl _) (by decide) (by omega) ?_
  refine xb_104 ho hs (by omega) ?_
  refine xb_154 ho hs (by omega) ?_
  refine xb_185 ho hs (by omega) ?_
  refine xb_209 ho hs (by omega) ?_
  refine xb_237 ho hs (by omega) ?_
  refine xb_303 ho hs (by omega) ?_
  refine xb_403 ho hs (by omega) ?_
  obtain ⟨rfl, rfl⟩ := h0
  refine xv_iload (pc := 403) d_Model_behind_403 rfl ?_
  refine xv_bipush (pc := 405) 17 d_Model_behind_405 (by decide) ?_
  refine xv_icmp_ne (pc := 407) 427 d_Model_behind_407 (by decide) (fun h407 => ?_) (fun h407 => ?_)
  · exact absurd rfl h407
  refine xv_iload (pc := 410) d_Model_behind_410 rfl ?_
  refine xv_iconst (pc := 412) 3 d_Model_behind_412 (by decide) ?_
  refine xv_icmp_ne (pc := 413) 427 d_Model_behind_413 (by decide) (fun h413 => ?_) (fun h413 => ?_)
  · exact absurd rfl h413
  refine xv_aload_n (pc := 416) d_Model_behind_416 rfl rfl ?_
  refine xv_iload_n (pc := 417) d_Model_behind_417 rfl rfl ?_
  refine xv_bipush (pc := 418) 16 d_Model_behind_418 (by decide) ?_
  refine xv_iload (pc := 420) d_Model_behind_420 rfl ?_
  refine xv_iconst (pc := 422) 0 d_Model_behind_422 (by decide) ?_
  refine xv_cV4i (pc := 423) (d1 := 0) (c_Model_put hM hf hT hn) m_Model_put l_Model_128 d_Model_behind_423 (by omega) (by decide : 11 < xv_nc) rfl hM.1 (Nat.le_of_ble_eq_true rfl) ⟨Nat.le_refl _, Nat.le_refl _⟩ (fun r w1 hw hN hS => ?_)
  obtain ⟨rfl, t1, p1⟩ := hw
  refine xv_pop_int (pc := 426) d_Model_behind_426 ?_
  exact xb_fin (P := fun _ _ => True) ho hs hN hS (by decide) ⟨_, rfl, rfl, t1, xBF_P p1⟩

