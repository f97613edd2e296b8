/-! Image.perform at a CALL -/
theorem c_Image_perform_c {sc : Nat × (Nat → Int32)} {u : xv_M} {h ca fa B f p a d : Nat} {L : Nat → Nat} {O : Nat → Nat → Nat} {F S : Nat → Nat → Int32} {σ : xZ} (H : xMI u h ca fa B L O F S) (hf : f < 8) (hp : p < L f) (hs : xFs u (B + 7 * f + 4) σ) (hk : xOk (O f p) (F f p) σ.2.2) (e16 : O f p = 16) (hFa : F f p = nI a) (ha : a < 8) (haf : a < f) (hLa : 0 < L a) {v : Int32} (hans : ∀ u', xMI u' h ca fa B L O F S → xv_C sc d J_Image_answer [.ref h, .int (nI a), .int (xTp (xPo (xPo σ))), .int (xTp (xPo σ)), .int (xTp σ)] u' (xv_N u') (xv_S u') (xv_pi (fun r w => r = v ∧ xSi (xSF B a) u' w))) : xv_C sc (d + 3) J_Image_perform [.ref h, .int (nI f), .int (nI p)] u (xv_N u) (xv_S u) (xv_pi (fun r' w => r' = nI (p + 1) ∧ xFs w (B + 7 * f + 4) (xPu (xPo (xPo (xPo σ))) v) ∧ xSi (xSF B f) u w)) := by
  have H0 := H
  obtain ⟨⟨k0, r0, r1, kc, lc, kf, lf, hfs⟩, hU⟩ := H
  obtain ⟨f1, f2, f3, f4⟩ := hfs f hf
  obtain ⟨uL, uLe, uU⟩ := hU f hf
  obtain ⟨eO, hO22, eF, eS⟩ := uU p hp
  have f40 := f4
  obtain ⟨qk, q0, q1, qkv, qlv, qks, qls⟩ := f4
  obtain ⟨ck, c0, c1, c2, cko, clo, ckf, clf, ckg, clg⟩ := f3
  have hcf : (nI f).toNatClampNeg = f := nI_clamp (by omega)
  have hcp : (nI p).toNatClampNeg = p := nI_clamp (by omega)
  have hif : vp_in (nI f) 8 := vp_in_nI hf (by decide)
  have hip : vp_in (nI p) 265 := vp_in_nI (by omega) (by decide)
  have es : nI p + 1 = nI (p + 1) := by rw [nI_succ]
  have p42 : σ.2.2 ≤ 42 := hk.2.2.1
  have p3 : 3 ≤ σ.2.2 := by rw [e16] at hk; exact xOk_16 hk
  clear hk
  refine xv_C_of (by decide) (Nat.le_refl _) (Nat.le_refl _) (xv_cat1 rfl) (Nat.le_of_ble_eq_true rfl) ?_
  show xv_X sc (d + 3) J_Image_perform 0 [some (.ref h), some (.int (nI f)), some (.int (nI p)), none, none] [] u (xv_N u) (xv_S u) _
  refine xv_aload_n (pc := 0) d_Image_perform_0 rfl rfl ?_
  refine xv_getR (pc := 1) d_Image_perform_1 f_Image_19 rfl k0 r1 ?_
  refine xv_iload_n (pc := 4) d_Image_perform_4 rfl rfl ?_
  refine xv_aald (pc := 5) (t := 1) d_Image_perform_5 kf rfl (by rw [lf]; exact hif) (by rw [hcf]; exact f2) ?_
  refine xv_astore_3 (pc := 6) d_Image_perform_6 (by decide) rfl ?_
  refine xv_aload_n (pc := 7) d_Image_perform_7 rfl rfl ?_
  refine xv_getR (pc := 8) d_Image_perform_8 f_Image_11 rfl k0 r0 ?_
  refine xv_iload_n (pc := 11) d_Image_perform_11 rfl rfl ?_
  refine xv_aald (pc := 12) (t := 4) d_Image_perform_12 kc rfl (by rw [lc]; exact hif) (by rw [hcf]; exact f1) ?_
  refine xv_getR (pc := 13) d_Image_perform_13 f_Image_76 rfl ck c1 ?_
  refine xv_iload_n (pc := 16) d_Image_perform_16 rfl rfl ?_
  refine xv_ald (pc := 17) d_Image_perform_17 ckf (by rw [clf]; exact hip) ?_
  refine xv_istore_4 (pc := 18) d_Image_perform_18 (by decide) rfl ?_
  refine xv_aload_n (pc := 20) d_Image_perform_20 rfl rfl ?_
  refine xv_getR (pc := 21) d_Image_perform_21 f_Image_11 rfl k0 r0 ?_
  refine xv_iload_n (pc := 24) d_Image_perform_24 rfl rfl ?_
  refine xv_aald (pc := 25) (t := 4) d_Image_perform_25 kc rfl (by rw [lc]; exact hif) (by rw [hcf]; exact f1) ?_
  refine xv_getR (pc := 26) d_Image_perform_26 f_Image_64 rfl ck c0 ?_
  refine xv_iload_n (pc := 29) d_Image_perform_29 rfl rfl ?_
  refine xv_ald (pc := 30) d_Image_perform_30 cko (by rw [clo]; exact hip) ?_
  rw [hcp, eF, eO, e16, hFa]
  refine xv_tableIn (pc := 31) (off := 151) 182 d_Image_perform_31 (by decide) (by decide) (by decide) (by decide) ?_
  refine xv_aload_n (pc := 182) d_Image_perform_182 rfl rfl ?_
  refine xv_aload_n (pc := 183) d_Image_perform_183 rfl rfl ?_
  refine xv_iload_n (pc := 184) d_Image_perform_184 rfl rfl ?_
  refine xv_iload (pc := 185) d_Image_perform_185 rfl ?_
  refine xv_cV2i (pc := 187) (c_Image_low H0 hf ha hs p3 p42 haf hLa hans) m_Image_answerOfLower l_Image_95 d_Image_perform_187 (by omega) (by decide : 9 < xv_nc) rfl k0 (Nat.le_of_ble_eq_true rfl) ⟨Nat.le_refl _, Nat.le_refl _⟩ (fun r w hw hN hS => ?_)
  obtain ⟨hr, g1, s1⟩ := hw
  subst hr
  have F1 := xSi_Fr s1 f40
  have n1 : (xPo (xPo (xPo σ))).2.2 = σ.2.2 - 1 - 1 - 1 := rfl
  refine xv_cV1v (pc := 190) (c_Frame_push (n := (xPo (xPo (xPo σ))).2.2) F1 g1.2.2 (by omega)) m_Frame_push l_Image_79 d_Image_perform_190 (by omega) (by decide : 1 < xv_nc) rfl F1.1 (Nat.le_of_ble_eq_true rfl) (xSi_le s1) (fun w2 hw hN hS => ?_)
  obtain ⟨g2, s2⟩ := xFs_pu g1 hw
  have s3 := xSi_tr s1 (xSi_F s2)
  refine xv_goto (pc := 193) 211 d_Image_perform_193 (by decide) ?_
  refine xv_iload_n (pc := 211) d_Image_perform_211 rfl rfl ?_
  refine xv_iconst (pc := 212) 1 d_Image_perform_212 (by decide) ?_
  refine xv_iadd (pc := 213) d_Image_perform_213 ?_
  exact xv_retiq (pc := 214) d_Image_perform_214 rfl s3.1 s3.2.1 ⟨_, rfl, es, g2, s3⟩
theorem c_Image_perform_ci {sc : Nat × (Nat → Int32)} {u : xv_M} {h ca fa B f p a d : Nat} {L : Nat → Nat} {O : Nat → Nat → Nat} {F S : Nat → Nat → Int32} {σ : xZ} (H : xMI u h ca fa B L O F S) (hf : f < 8) (hp : p < L f) (hs : xFs u (B + 7 * f + 4) σ) (hk : xOk (O f p) (F f p) σ.2.2) (e16 : O f p = 16) (hFa : F f p = nI a) (ha : a < 8) (hno : ¬ (a < f ∧ 0 < L a)) (hd : 6 ≤ d) : xv_C sc (d + 3) J_Image_perform [.ref h, .int (nI f), .int (nI p)] u (xv_N u + 1) (xv_S u + 6) (xv_px 14 (fun e w => ∃ w0, xSi (xSF B f) u w0 ∧ e = xv_N u ∧ w = xv_nw w0 15 0 6)) := by
  have H0 := H
  obtain ⟨⟨k0, r0, r1, kc, lc, kf, lf, hfs⟩, hU⟩ := H
  obtain ⟨f1, f2, f3, f4⟩ := hfs f hf
  obtain ⟨uL, uLe, uU⟩ := hU f hf
  obtain ⟨eO, hO22, eF, eS⟩ := uU p hp
  have f40 := f4
  obtain ⟨qk, q0, q1, qkv, qlv, qks, qls⟩ := f4
  obtain ⟨ck, c0, c1, c2, cko, clo, ckf, clf, ckg, clg⟩ := f3
  have hcf : (nI f).toNatClampNeg = f := nI_clamp (by omega)
  have hcp : (nI p).toNatClampNeg = p := nI_clamp (by omega)
  have hif : vp_in (nI f) 8 := vp_in_nI hf (by decide)
  have hip : vp_in (nI p) 265 := vp_in_nI (by omega) (by decide)
  have es : nI p + 1 = nI (p + 1) := by rw [nI_succ]
  have p42 : σ.2.2 ≤ 42 := hk.2.2.1
  have p3 : 3 ≤ σ.2.2 := by rw [e16] at hk; exact xOk_16 hk
  clear hk
  refine xv_C_of (by decide) (by omega) (by omega) (xv_cat1 rfl) (Nat.le_of_ble_eq_true rfl) ?_
  show xv_X sc (d + 3) J_Image_perform 0 [some (.ref h), some (.int (nI f)), some (.int (nI p)), none, none] [] u (xv_N u + 1) (xv_S u + 6) _
  refine xv_aload_n (pc := 0) d_Image_perform_0 rfl rfl ?_
  refine xv_getR (pc := 1) d_Image_perform_1 f_Image_19 rfl k0 r1 ?_
  refine xv_iload_n (pc := 4) d_Image_perform_4 rfl rfl ?_
  refine xv_aald (pc := 5) (t := 1) d_Image_perform_5 kf rfl (by rw [lf]; exact hif) (by rw [hcf]; exact f2) ?_
  refine xv_astore_3 (pc := 6) d_Image_perform_6 (by decide) rfl ?_
  refine xv_aload_n (pc := 7) d_Image_perform_7 rfl rfl ?_
  refine xv_getR (pc := 8) d_Image_perform_8 f_Image_11 rfl k0 r0 ?_
  refine xv_iload_n (pc := 11) d_Image_perform_11 rfl rfl ?_
  refine xv_aald (pc := 12) (t := 4) d_Image_perform_12 kc rfl (by rw [lc]; exact hif) (by rw [hcf]; exact f1) ?_
  refine xv_getR (pc := 13) d_Image_perform_13 f_Image_76 rfl ck c1 ?_
  refine xv_iload_n (pc := 16) d_Image_perform_16 rfl rfl ?_
  refine xv_ald (pc := 17) d_Image_perform_17 ckf (by rw [clf]; exact hip) ?_
  refine xv_istore_4 (pc := 18) d_Image_perform_18 (by decide) rfl ?_
  refine xv_aload_n (pc := 20) d_Image_perform_20 rfl rfl ?_
  refine xv_getR (pc := 21) d_Image_perform_21 f_Image_11 rfl k0 r0 ?_
  refine xv_iload_n (pc := 24) d_Image_perform_24 rfl rfl ?_
  refine xv_aald (pc := 25) (t := 4) d_Image_perform_25 kc rfl (by rw [lc]; exact hif) (by rw [hcf]; exact f1) ?_
  refine xv_getR (pc := 26) d_Image_perform_26 f_Image_64 rfl ck c0 ?_
  refine xv_iload_n (pc := 29) d_Image_perform_29 rfl rfl ?_
  refine xv_ald (pc := 30) d_Image_perform_30 cko (by rw [clo]; exact hip) ?_
  rw [hcp, eF, eO, e16, hFa]
  refine xv_tableIn (pc := 31) (off := 151) 182 d_Image_perform_31 (by decide) (by decide) (by decide) (by decide) ?_
  refine xv_aload_n (pc := 182) d_Image_perform_182 rfl rfl ?_
  refine xv_aload_n (pc := 183) d_Image_perform_183 rfl rfl ?_
  refine xv_iload_n (pc := 184) d_Image_perform_184 rfl rfl ?_
  refine xv_iload (pc := 185) d_Image_perform_185 rfl ?_
  exact xv_tV2 (pc := 187) (c_Image_low_i (d := d) H0 hf ha hs p3 p42 hno hd) m_Image_answerOfLower l_Image_95 d_Image_perform_187 (by omega) (by decide : 9 < xv_nc) rfl k0 (Nat.le_of_ble_eq_true rfl) ⟨Nat.le_refl _, Nat.le_refl _⟩ (fun e w hp g2 g3 => ⟨⟨_, rfl, hp⟩, g2, g3⟩)
theorem c_Image_perform_cx {sc : Nat × (Nat → Int32)} {u : xv_M} {h ca fa B f p a d : Nat} {L : Nat → Nat} {O : Nat → Nat → Nat} {F S : Nat → Nat → Int32} {σ : xZ} (H : xMI u h ca fa B L O F S) (hf : f < 8) (hp : p < L f) (hs : xFs u (B + 7 * f + 4) σ) (hk : xOk (O f p) (F f p) σ.2.2) (e16 : O f p = 16) (hFa : F f p = nI a) (ha : a < 8) (haf : a < f) (hLa : 0 < L a) {k : Nat} (hans : ∀ u', xMI u' h ca fa B L O F S → xv_C sc d J_Image_answer [.ref h, .int (nI a), .int (xTp (xPo (xPo σ))), .int (xTp (xPo σ)), .int (xTp σ)] u' (xv_N u' + 1) (xv_S u' + 6) (xv_px k (fun e w => ∃ w0, xSi (xSF B a) u' w0 ∧ e = xv_N u' ∧ w = xv_nw w0 (k + 1) 0 6))) : xv_C sc (d + 3) J_Image_perform [.ref h, .int (nI f), .int (nI p)] u (xv_N u + 1) (xv_S u + 6) (xv_px k (fun e w => ∃ w0, xSi (xSF B f) u w0 ∧ e = xv_N u ∧ w = xv_nw w0 (k + 1) 0 6)) := by
  have H0 := H
  obtain ⟨⟨k0, r0, r1, kc, lc, kf, lf, hfs⟩, hU⟩ := H
  obtain ⟨f1, f2, f3, f4⟩ := hfs f hf
  obtain ⟨uL, uLe, uU⟩ := hU f hf
  obtain ⟨eO, hO22, eF, eS⟩ := uU p hp
  have f40 := f4
  obtain ⟨qk, q0, q1, qkv, qlv, qks, qls⟩ := f4
  obtain ⟨ck, c0, c1, c2, cko, clo, ckf, clf, ckg, clg⟩ := f3
  have hcf : (nI f).toNatClampNeg = f := nI_clamp (by omega)
  have hcp : (nI p).toNatClampNeg = p := nI_clamp (by omega)
  have hif : vp_in (nI f) 8 := vp_in_nI hf (by decide)
  have hip : vp_in (nI p) 265 := vp_in_nI (by omega) (by decide)
  have es : nI p + 1 = nI (p + 1) := by rw [nI_succ]
  have p42 : σ.2.2 ≤ 42 := hk.2.2.1
  have p3 : 3 ≤ σ.2.2 := by rw [e16] at hk; exact xOk_16 hk
  clear hk
  refine xv_C_of (by decide) (by omega) (by omega) (xv_cat1 rfl) (Nat.le_of_ble_eq_true rfl) ?_
  show xv_X sc (d + 3) J_Image_perform 0 [some (.ref h), some (.int (nI f)), some (.int (nI p)), none, none] [] u (xv_N u + 1) (xv_S u + 6) _
  refine xv_aload_n (pc := 0) d_Image_perform_0 rfl rfl ?_
  refine xv_getR (pc := 1) d_Image_perform_1 f_Image_19 rfl k0 r1 ?_
  refine xv_iload_n (pc := 4) d_Image_perform_4 rfl rfl ?_
  refine xv_aald (pc := 5) (t := 1) d_Image_perform_5 kf rfl (by rw [lf]; exact hif) (by rw [hcf]; exact f2) ?_
  refine xv_astore_3 (pc := 6) d_Image_perform_6 (by decide) rfl ?_
  refine xv_aload_n (pc := 7) d_Image_perform_7 rfl rfl ?_
  refine xv_getR (pc := 8) d_Image_perform_8 f_Image_11 rfl k0 r0 ?_
  refine xv_iload_n (pc := 11) d_Image_perform_11 rfl rfl ?_
  refine xv_aald (pc := 12) (t := 4) d_Image_perform_12 kc rfl (by rw [lc]; exact hif) (by rw [hcf]; exact f1) ?_
  refine xv_getR (pc := 13) d_Image_perform_13 f_Image_76 rfl ck c1 ?_
  refine xv_iload_n (pc := 16) d_Image_perform_16 rfl rfl ?_
  refine xv_ald (pc := 17) d_Image_perform_17 ckf (by rw [clf]; exact hip) ?_
  refine xv_istore_4 (pc := 18) d_Image_perform_18 (by decide) rfl ?_
  refine xv_aload_n (pc := 20) d_Image_perform_20 rfl rfl ?_
  refine xv_getR (pc := 21) d_Image_perform_21 f_Image_11 rfl k0 r0 ?_
  refine xv_iload_n (pc := 24) d_Image_perform_24 rfl rfl ?_
  refine xv_aald (pc := 25) (t := 4) d_Image_perform_25 kc rfl (by rw [lc]; exact hif) (by rw [hcf]; exact f1) ?_
  refine xv_getR (pc := 26) d_Image_perform_26 f_Image_64 rfl ck c0 ?_
  refine xv_iload_n (pc := 29) d_Image_perform_29 rfl rfl ?_
  refine xv_ald (pc := 30) d_Image_perform_30 cko (by rw [clo]; exact hip) ?_
  rw [hcp, eF, eO, e16, hFa]
  refine xv_tableIn (pc := 31) (off := 151) 182 d_Image_perform_31 (by decide) (by decide) (by decide) (by decide) ?_
  refine xv_aload_n (pc := 182) d_Image_perform_182 rfl rfl ?_
  refine xv_aload_n (pc := 183) d_Image_perform_183 rfl rfl ?_
  refine xv_iload_n (pc := 184) d_Image_perform_184 rfl rfl ?_
  refine xv_iload (pc := 185) d_Image_perform_185 rfl ?_
  exact xv_tV2 (pc := 187) (c_Image_low_x (d := d) H0 hf ha hs p3 p42 haf hLa hans) m_Image_answerOfLower l_Image_95 d_Image_perform_187 (by omega) (by decide : 9 < xv_nc) rfl k0 (Nat.le_of_ble_eq_true rfl) ⟨Nat.le_refl _, Nat.le_refl _⟩ (fun e w hp g2 g3 => ⟨⟨_, rfl, hp⟩, g2, g3⟩)

