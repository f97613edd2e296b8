/-! Image.perform, but for CALL -/
theorem xFs_sv {w : xv_M} {h v : Nat} {σ : xZ} {x : Int32} (hs : xFs w h σ) : xFs (xv_si w (h + 1) v x) h (xSv σ v x) ∧ xSi (xFS h) w (xv_si w (h + 1) v x) := by
  obtain ⟨g1, g2, g3⟩ := hs
  refine ⟨⟨fun q hq => ?_, fun q hq => ?_, ?_⟩, xSi_si (Or.inr (Or.inl rfl))⟩
  · show _ = upd σ.1 v x q
    by_cases e : q = v
    · subst e
      rw [xv_si_eq]
      exact pk_us.symm
    · rw [xv_si_nj e, g1 q hq]
      exact (pk_un e).symm
  · rw [xv_si_ne (by omega)]; exact g2 q hq
  · rw [xv_si_ne (by omega)]; exact g3
theorem xSi_F {u w : xv_M} {B f : Nat} (h : xSi (xFS (B + 7 * f + 4)) u w) : xSi (xSF B f) u w := xSi_mono h (fun a ha => ⟨f, Nat.le_refl _, ha⟩)
theorem xOk_01 {o n : Nat} {fi : Int32} (h : xOk o fi n) (ho : o = 0 ∨ o = 1) : n < 42 := by
  obtain ⟨-, h2, -⟩ := h
  rcases ho with rfl | rfl
  · rw [xTa_0, xLe_0] at h2; exact h2
  · rw [xTa_1, xLe_1] at h2; exact h2
theorem xOk_34 {o n : Nat} {fi : Int32} (h : xOk o fi n) (ho : o = 13 ∨ o = 14) : 1 ≤ n := by
  obtain ⟨h1, -⟩ := h
  rcases ho with rfl | rfl
  · rw [xTa_13] at h1; exact h1
  · rw [xTa_14] at h1; exact h1
theorem xOk_16 {n : Nat} {fi : Int32} (h : xOk 16 fi n) : 3 ≤ n := by
  obtain ⟨h1, -⟩ := h
  rw [xTa_16] at h1; exact h1
theorem xRo_of {o : Nat} (h : o < 22) (e0 : ¬ o = 0) (e1 : ¬ o = 1) (e13 : ¬ o = 13) (e14 : ¬ o = 14) (e15 : ¬ o = 15) (e16 : ¬ o = 16) (e17 : ¬ o = 17) : xRo o := by unfold xRo; omega
theorem c_Image_perform {sc : Nat × (Nat → Int32)} {u : xv_M} {h ca fa B f p : Nat} {L : Nat → Nat} {O : Nat → Nat → Nat} {F S : Nat → Nat → Int32} {σ : xZ} {ans : Nat → Int32 → Int32 → Int32 → xRs} (H : xMI u h ca fa B L O F S) (hf : f < 8) (hp : p < L f) (hs : xFs u (B + 7 * f + 4) σ) (hk : xOk (O f p) (F f p) σ.2.2) (ho : ¬ O f p = 17) (ho6 : ¬ O f p = 16) {r : Int32} {τ : xZ} (hst : xStep ans L f (O f p) (F f p) (S f p) p σ = .inl (r, τ)) : xv_C sc 3 J_Image_perform [.ref h, .int (nI f), .int (nI p)] u (xv_N u) (xv_S u) (xv_pi (fun r' w => r' = r ∧ xFs w (B + 7 * f + 4) τ ∧ xSi (xSF B f) u w)) := by
  have H0 := H
  obtain ⟨⟨k0, r0, r1, kc, lc, kf, lf, hfs⟩, hU⟩ := H
  obtain ⟨f1, f2, f3, f4⟩ := hfs f hf
  obtain ⟨uL, uLe, uU⟩ := hU f hf
  obtain ⟨eO, hO22, eF, eS⟩ := uU p hp
  have f40 := f4
  obtain ⟨qk, q0, q1, qkv, qlv, qks, qls⟩ := f4
  obtain ⟨ck, c0, c1, c2, cko, clo, ckf, clf, ckg, clg⟩ := f3
  have hcf : (nI f).toNatClampNeg = f := nI_clamp (by omega)
  have hcp : (nI p).toNatClampNeg = p := nI_clamp (by omega)
  have hif : vp_in (nI f) 8 := vp_in_nI hf (by decide)
  have hip : vp_in (nI p) 265 := vp_in_nI (by omega) (by decide)
  have es : nI p + 1 = nI (p + 1) := by rw [nI_succ]
  have p0 := xOk_01 hk
  have p1 := xOk_34 hk
  have p42 : σ.2.2 ≤ 42 := hk.2.2.1
  have kk5 := hk.2.2.2.2.1
  have kk6 := hk.2.2.2.2.2.1
  have hkr := xRk_of hk
  clear hk
  unfold xStep at hst
  refine xv_C_of (by decide) (Nat.le_refl _) (Nat.le_refl _) (xv_cat1 rfl) (Nat.le_of_ble_eq_true rfl) ?_
  show xv_X sc 3 J_Image_perform 0 [some (.ref h), some (.int (nI f)), some (.int (nI p)), none, none] [] u (xv_N u) (xv_S u) _
  refine xv_aload_n (pc := 0) d_Image_perform_0 rfl rfl ?_
  refine xv_getR (pc := 1) d_Image_perform_1 f_Image_19 rfl k0 r1 ?_
  refine xv_iload_n (pc := 4) d_Image_perform_4 rfl rfl ?_
  refine xv_aald (pc := 5) (t := 1) d_Image_perform_5 kf rfl (by rw [lf]; exact hif) (by rw [hcf]; exact f2) ?_
  refine xv_astore_3 (pc := 6) d_Image_perform_6 (by decide) rfl ?_
  refine xv_aload_n (pc := 7) d_Image_perform_7 rfl rfl ?_
  refine xv_getR (pc := 8) d_Image_perform_8 f_Image_11 rfl k0 r0 ?_
  refine xv_iload_n (pc := 11) d_Image_perform_11 rfl rfl ?_
  refine xv_aald (pc := 12) (t := 4) d_Image_perform_12 kc rfl (by rw [lc]; exact hif) (by rw [hcf]; exact f1) ?_
  refine xv_getR (pc := 13) d_Image_perform_13 f_Image_76 rfl ck c1 ?_
  refine xv_iload_n (pc := 16) d_Image_perform_16 rfl rfl ?_
  refine xv_ald (pc := 17) d_Image_perform_17 ckf (by rw [clf]; exact hip) ?_
  refine xv_istore_4 (pc := 18) d_Image_perform_18 (by decide) rfl ?_
  refine xv_aload_n (pc := 20) d_Image_perform_20 rfl rfl ?_
  refine xv_getR (pc := 21) d_Image_perform_21 f_Image_11 rfl k0 r0 ?_
  refine xv_iload_n (pc := 24) d_Image_perform_24 rfl rfl ?_
  refine xv_aald (pc := 25) (t := 4) d_Image_perform_25 kc rfl (by rw [lc]; exact hif) (by rw [hcf]; exact f1) ?_
  refine xv_getR (pc := 26) d_Image_perform_26 f_Image_64 rfl ck c0 ?_
  refine xv_iload_n (pc := 29) d_Image_perform_29 rfl rfl ?_
  refine xv_ald (pc := 30) d_Image_perform_30 cko (by rw [clo]; exact hip) ?_
  rw [hcp, eF, eO]
  by_cases e0 : O f p = 0
  · rw [if_pos e0] at hst
    have n42 := p0 (Or.inl e0)
    rw [e0]
    simp only [Sum.inl.injEq, Prod.mk.injEq] at hst
    obtain ⟨rfl, rfl⟩ := hst
    refine xv_tableIn (pc := 31) (off := 81) 112 d_Image_perform_31 (by decide) (by decide) (by decide) (by decide) ?_
    refine xv_aload_n (pc := 112) d_Image_perform_112 rfl rfl ?_
    refine xv_iload (pc := 113) d_Image_perform_113 rfl ?_
    refine xv_cV1v (pc := 115) (c_Frame_push (n := σ.2.2) f40 hs.2.2 n42) m_Frame_push l_Image_79 d_Image_perform_115 (by omega) (by decide : 1 < xv_nc) rfl qk (Nat.le_of_ble_eq_true rfl) ⟨Nat.le_refl _, Nat.le_refl _⟩ (fun w hw hN hS => ?_)
    obtain ⟨g1, s1⟩ := xFs_pu hs hw
    refine xv_goto (pc := 118) 211 d_Image_perform_118 (by decide) ?_
    refine xv_iload_n (pc := 211) d_Image_perform_211 rfl rfl ?_
    refine xv_iconst (pc := 212) 1 d_Image_perform_212 (by decide) ?_
    refine xv_iadd (pc := 213) d_Image_perform_213 ?_
    exact xv_retiq (pc := 214) d_Image_perform_214 rfl s1.1 s1.2.1 ⟨_, rfl, es, g1, xSi_F s1⟩
  rw [if_neg e0] at hst
  by_cases e1 : O f p = 1
  · rw [if_pos e1] at hst
    obtain ⟨v, hv, ev⟩ := kk5 (Or.inl e1)
    have hcv : (nI v).toNatClampNeg = v := nI_clamp (by omega)
    have n42 := p0 (Or.inr e1)
    rw [e1]
    rw [ev, hcv] at hst
    rw [ev]
    simp only [Sum.inl.injEq, Prod.mk.injEq] at hst
    obtain ⟨rfl, rfl⟩ := hst
    refine xv_tableIn (pc := 31) (off := 90) 121 d_Image_perform_31 (by decide) (by decide) (by decide) (by decide) ?_
    refine xv_aload_n (pc := 121) d_Image_perform_121 rfl rfl ?_
    refine xv_aload_n (pc := 122) d_Image_perform_122 rfl rfl ?_
    refine xv_getR (pc := 123) d_Image_perform_123 f_Image_83 rfl qk q0 ?_
    refine xv_iload (pc := 126) d_Image_perform_126 rfl ?_
    refine xv_ald (pc := 128) d_Image_perform_128 qkv (by rw [qlv]; exact vp_in_nI hv (by decide)) ?_
    rw [hcv, hs.1 v hv]
    refine xv_cV1v (pc := 129) (c_Frame_push (n := σ.2.2) f40 hs.2.2 n42) m_Frame_push l_Image_79 d_Image_perform_129 (by omega) (by decide : 1 < xv_nc) rfl qk (Nat.le_of_ble_eq_true rfl) ⟨Nat.le_refl _, Nat.le_refl _⟩ (fun w hw hN hS => ?_)
    obtain ⟨g1, s1⟩ := xFs_pu hs hw
    refine xv_goto (pc := 132) 211 d_Image_perform_132 (by decide) ?_
    refine xv_iload_n (pc := 211) d_Image_perform_211 rfl rfl ?_
    refine xv_iconst (pc := 212) 1 d_Image_perform_212 (by decide) ?_
    refine xv_iadd (pc := 213) d_Image_perform_213 ?_
    exact xv_retiq (pc := 214) d_Image_perform_214 rfl s1.1 s1.2.1 ⟨_, rfl, es, g1, xSi_F s1⟩
  rw [if_neg e1] at hst
  by_cases e13 : O f p = 13
  · rw [if_pos e13] at hst
    obtain ⟨v, hv, ev⟩ := kk5 (Or.inr e13)
    have hcv : (nI v).toNatClampNeg = v := nI_clamp (by omega)
    have n1 := p1 (Or.inl e13)
    rw [e13]
    rw [ev, hcv] at hst
    rw [ev]
    simp only [Sum.inl.injEq, Prod.mk.injEq] at hst
    obtain ⟨rfl, rfl⟩ := hst
    obtain ⟨n, hn⟩ : ∃ n, σ.2.2 = n + 1 := ⟨σ.2.2 - 1, by omega⟩
    refine xv_tableIn (pc := 31) (off := 104) 135 d_Image_perform_31 (by decide) (by decide) (by decide) (by decide) ?_
    refine xv_aload_n (pc := 135) d_Image_perform_135 rfl rfl ?_
    refine xv_getR (pc := 136) d_Image_perform_136 f_Image_83 rfl qk q0 ?_
    refine xv_iload (pc := 139) d_Image_perform_139 rfl ?_
    refine xv_aload_n (pc := 141) d_Image_perform_141 rfl rfl ?_
    refine xv_cV0i (pc := 142) (c_Frame_pop (n := n) f40 (by rw [hs.2.2, hn]) (by omega)) m_Frame_pop l_Image_72 d_Image_perform_142 (by omega) (by decide : 1 < xv_nc) rfl qk (Nat.le_of_ble_eq_true rfl) ⟨Nat.le_refl _, Nat.le_refl _⟩ (fun r w hw hN hS => ?_)
    obtain ⟨hr, hw⟩ := hw
    have hr : r = xTp σ := by rw [hr, hs.2.1 n (by omega)]; unfold xTp; rw [hn]; rfl
    subst hr
    obtain ⟨g1, s1⟩ := xFs_po hs hn hw
    clear hw
    have F1 := xSi_Fr s1 f40
    refine xv_ast (pc := 145) d_Image_perform_145 F1.2.2.2.1 (by rw [F1.2.2.2.2.1]; exact vp_in_nI hv (by decide)) ?_
    refine xv_goto (pc := 146) 211 d_Image_perform_146 (by decide) ?_
    refine xv_iload_n (pc := 211) d_Image_perform_211 rfl rfl ?_
    refine xv_iconst (pc := 212) 1 d_Image_perform_212 (by decide) ?_
    refine xv_iadd (pc := 213) d_Image_perform_213 ?_
    rw [hcv]
    obtain ⟨g2, s2⟩ := xFs_sv (v := v) (x := xTp σ) g1
    have s3 := xSi_tr s1 s2
    exact xv_retiq (pc := 214) d_Image_perform_214 rfl s3.1 s3.2.1 ⟨_, rfl, es, g2, xSi_F s3⟩
  rw [if_neg e13] at hst
  by_cases e14 : O f p = 14
  · rw [if_pos e14] at hst
    obtain ⟨t, ht, et⟩ := kk6 e14
    have n1 := p1 (Or.inr e14)
    rw [e14]
    rw [et] at hst ⊢
    simp only [Sum.inl.injEq, Prod.mk.injEq] at hst
    obtain ⟨hr2, rfl⟩ := hst
    obtain ⟨n, hn⟩ : ∃ n, σ.2.2 = n + 1 := ⟨σ.2.2 - 1, by omega⟩
    refine xv_tableIn (pc := 31) (off := 118) 149 d_Image_perform_31 (by decide) (by decide) (by decide) (by decide) ?_
    refine xv_iload (pc := 149) d_Image_perform_149 rfl ?_
    refine xv_aload_n (pc := 151) d_Image_perform_151 rfl rfl ?_
    refine xv_cV0i (pc := 152) (c_Frame_pop (n := n) f40 (by rw [hs.2.2, hn]) (by omega)) m_Frame_pop l_Image_72 d_Image_perform_152 (by omega) (by decide : 1 < xv_nc) rfl qk (Nat.le_of_ble_eq_true rfl) ⟨Nat.le_refl _, Nat.le_refl _⟩ (fun r3 w hw hN hS => ?_)
    obtain ⟨hr, hw⟩ := hw
    have hr : r3 = xTp σ := by rw [hr, hs.2.1 n (by omega)]; unfold xTp; rw [hn]; rfl
    subst hr
    obtain ⟨g1, s1⟩ := xFs_po hs hn hw
    clear hw
    have s2 := xSi_F s1
    obtain ⟨⟨k0w, r0w, r1w, kcw, lcw, kfw, lfw, hfsw⟩, hUw⟩ := xSi_MI s2 H0
    obtain ⟨f1w, f2w, f3w, f4w⟩ := hfsw f hf
    obtain ⟨uLw, uLew, uUw⟩ := hUw f hf
    obtain ⟨eOw, hO22w, eFw, eSw⟩ := uUw p hp
    obtain ⟨ckw, c0w, c1w, c2w, ckow, clow, ckfw, clfw, ckgw, clgw⟩ := f3w
    refine xv_cS2i (pc := 155) (c_Ints_isAsSaid (u := w) ht) m_Ints_isAsSaid l_Image_86 d_Image_perform_155 (by omega) (Nat.le_of_ble_eq_true rfl) (xSi_le s1) (fun r4 w2 hw hN hS => ?_)
    obtain ⟨hr4, hw⟩ := hw
    subst hr4
    subst hw
    refine xv_if_eq (pc := 158) 167 d_Image_perform_158 (by decide) (fun h158 => ?_) (fun h158 => ?_)
    · have e := xB_eq h158
      rw [if_neg (by rw [e]; decide)] at hr2
      refine xv_aload_n (pc := 167) d_Image_perform_167 rfl rfl ?_
      refine xv_getR (pc := 168) d_Image_perform_168 f_Image_11 rfl k0w r0w ?_
      refine xv_iload_n (pc := 171) d_Image_perform_171 rfl rfl ?_
      refine xv_aald (pc := 172) (t := 4) d_Image_perform_172 kcw rfl (by rw [lcw]; exact hif) (by rw [hcf]; exact f1w) ?_
      refine xv_getR (pc := 173) d_Image_perform_173 f_Image_92 rfl ckw c2w ?_
      refine xv_iload_n (pc := 176) d_Image_perform_176 rfl rfl ?_
      refine xv_ald (pc := 177) d_Image_perform_177 ckgw (by rw [clgw]; exact hip) ?_
      exact xv_retiq (pc := 178) d_Image_perform_178 rfl s1.1 s1.2.1 ⟨_, rfl, by rw [hcp, eSw, hr2], g1, s2⟩
    · have e := xB_ne h158
      rw [if_pos e] at hr2
      refine xv_iload_n (pc := 161) d_Image_perform_161 rfl rfl ?_
      refine xv_iconst (pc := 162) 1 d_Image_perform_162 (by decide) ?_
      refine xv_iadd (pc := 163) d_Image_perform_163 ?_
      refine xv_goto (pc := 164) 178 d_Image_perform_164 (by decide) ?_
      exact xv_retiq (pc := 178) d_Image_perform_178 rfl s1.1 s1.2.1 ⟨_, rfl, by rw [es, hr2], g1, s2⟩
  rw [if_neg e14] at hst
  by_cases e15 : O f p = 15
  · rw [if_pos e15] at hst
    rw [e15]
    simp only [Sum.inl.injEq, Prod.mk.injEq] at hst
    obtain ⟨hr2, rfl⟩ := hst
    refine xv_tableIn (pc := 31) (off := 148) 179 d_Image_perform_31 (by decide) (by decide) (by decide) (by decide) ?_
    refine xv_iload (pc := 179) d_Image_perform_179 rfl ?_
    exact xv_retiq (pc := 181) d_Image_perform_181 rfl rfl rfl ⟨_, rfl, hr2, hs, xSi_rf⟩
  rw [if_neg e15, if_neg ho6] at hst
  clear kk5 kk6 p0 p1
  have hro : xRo (O f p) := xRo_of hO22 e0 e1 e13 e14 e15 ho6 ho
  by_cases ez : (O f p = 5 ∨ O f p = 6) ∧ xTp σ = 0
  · rw [if_pos ez] at hst
    cases hst
  rw [if_neg ez] at hst
  simp only [Sum.inl.injEq, Prod.mk.injEq] at hst
  obtain ⟨hr2, rfl⟩ := hst
  refine xv_tableTo (pc := 31) 196 [0, 1, 13, 14, 15, 16] d_Image_perform_31 (by decide) (by decide) (by decide) (List.forall_mem_cons.mpr ⟨nI_neT (by omega) e0, (List.forall_mem_cons.mpr ⟨nI_neT (by omega) e1, (List.forall_mem_cons.mpr ⟨nI_neT (by omega) e13, (List.forall_mem_cons.mpr ⟨nI_neT (by omega) e14, (List.forall_mem_cons.mpr ⟨nI_neT (by omega) e15, (List.forall_mem_cons.mpr ⟨nI_neT (by omega) ho6, (fun _ h => absurd h List.not_mem_nil)⟩)⟩)⟩)⟩)⟩)⟩) ?_
  refine xv_aload_n (pc := 196) d_Image_perform_196 rfl rfl ?_
  refine xv_getR (pc := 197) d_Image_perform_197 f_Image_11 rfl k0 r0 ?_
  refine xv_iload_n (pc := 200) d_Image_perform_200 rfl rfl ?_
  refine xv_aald (pc := 201) (t := 4) d_Image_perform_201 kc rfl (by rw [lc]; exact hif) (by rw [hcf]; exact f1) ?_
  refine xv_getR (pc := 202) d_Image_perform_202 f_Image_64 rfl ck c0 ?_
  refine xv_iload_n (pc := 205) d_Image_perform_205 rfl rfl ?_
  refine xv_ald (pc := 206) d_Image_perform_206 cko (by rw [clo]; exact hip) ?_
  refine xv_aload_n (pc := 207) d_Image_perform_207 rfl rfl ?_
  rw [hcp, eO]
  refine xv_cS2v (pc := 208) (c_Image_rework f40 hs hro (hkr hro) (fun e z => ez ⟨e, z⟩)) m_Image_rework l_Image_98 d_Image_perform_208 (by omega) (Nat.le_of_ble_eq_true rfl) ⟨Nat.le_refl _, Nat.le_refl _⟩ (fun w hw hN hS => ?_)
  obtain ⟨g1, s1⟩ := hw
  refine xv_iload_n (pc := 211) d_Image_perform_211 rfl rfl ?_
  refine xv_iconst (pc := 212) 1 d_Image_perform_212 (by decide) ?_
  refine xv_iadd (pc := 213) d_Image_perform_213 ?_
  exact xv_retiq (pc := 214) d_Image_perform_214 rfl s1.1 s1.2.1 ⟨_, rfl, by rw [es, hr2], g1, xSi_F s1⟩
theorem c_Image_perform_z {sc : Nat × (Nat → Int32)} {u : xv_M} {h ca fa B f p : Nat} {L : Nat → Nat} {O : Nat → Nat → Nat} {F S : Nat → Nat → Int32} {σ : xZ} {ans : Nat → Int32 → Int32 → Int32 → xRs} (H : xMI u h ca fa B L O F S) (hf : f < 8) (hp : p < L f) (hs : xFs u (B + 7 * f + 4) σ) (hk : xOk (O f p) (F f p) σ.2.2) (ho : ¬ O f p = 17) (ho6 : ¬ O f p = 16) {k : Nat} (hst : xStep ans L f (O f p) (F f p) (S f p) p σ = .inr k) : xv_C sc 9 J_Image_perform [.ref h, .int (nI f), .int (nI p)] u (xv_N u + 1) (xv_S u + 6) (xv_px k (fun a w => ∃ w0, xSi (xSF B f) u w0 ∧ a = xv_N u ∧ w = xv_nw w0 (k + 1) 0 6)) := by
  have H0 := H
  obtain ⟨⟨k0, r0, r1, kc, lc, kf, lf, hfs⟩, hU⟩ := H
  obtain ⟨f1, f2, f3, f4⟩ := hfs f hf
  obtain ⟨uL, uLe, uU⟩ := hU f hf
  obtain ⟨eO, hO22, eF, eS⟩ := uU p hp
  have f40 := f4
  obtain ⟨qk, q0, q1, qkv, qlv, qks, qls⟩ := f4
  obtain ⟨ck, c0, c1, c2, cko, clo, ckf, clf, ckg, clg⟩ := f3
  have hcf : (nI f).toNatClampNeg = f := nI_clamp (by omega)
  have hcp : (nI p).toNatClampNeg = p := nI_clamp (by omega)
  have hif : vp_in (nI f) 8 := vp_in_nI hf (by decide)
  have hip : vp_in (nI p) 265 := vp_in_nI (by omega) (by decide)
  have p42 : σ.2.2 ≤ 42 := hk.2.2.1
  have hkr := xRk_of hk
  clear hk
  unfold xStep at hst
  by_cases e0 : O f p = 0
  · rw [if_pos e0] at hst; cases hst
  rw [if_neg e0] at hst
  by_cases e1 : O f p = 1
  · rw [if_pos e1] at hst; cases hst
  rw [if_neg e1] at hst
  by_cases e13 : O f p = 13
  · rw [if_pos e13] at hst; cases hst
  rw [if_neg e13] at hst
  by_cases e14 : O f p = 14
  · rw [if_pos e14] at hst; cases hst
  rw [if_neg e14] at hst
  by_cases e15 : O f p = 15
  · rw [if_pos e15] at hst; cases hst
  rw [if_neg e15, if_neg ho6] at hst
  have hro : xRo (O f p) := xRo_of hO22 e0 e1 e13 e14 e15 ho6 ho
  by_cases ez : (O f p = 5 ∨ O f p = 6) ∧ xTp σ = 0
  case neg => rw [if_neg ez] at hst; cases hst
  rw [if_pos ez] at hst
  cases hst
  have n2 : 2 ≤ σ.2.2 := (hkr hro).1 (by omega)
  refine xv_C_of (by decide) (by omega) (by omega) (xv_cat1 rfl) (Nat.le_of_ble_eq_true rfl) ?_
  show xv_X sc 9 J_Image_perform 0 [some (.ref h), some (.int (nI f)), some (.int (nI p)), none, none] [] u (xv_N u + 1) (xv_S u + 6) _
  refine xv_aload_n (pc := 0) d_Image_perform_0 rfl rfl ?_
  refine xv_getR (pc := 1) d_Image_perform_1 f_Image_19 rfl k0 r1 ?_
  refine xv_iload_n (pc := 4) d_Image_perform_4 rfl rfl ?_
  refine xv_aald (pc := 5) (t := 1) d_Image_perform_5 kf rfl (by rw [lf]; exact hif) (by rw [hcf]; exact f2) ?_
  refine xv_astore_3 (pc := 6) d_Image_perform_6 (by decide) rfl ?_
  refine xv_aload_n (pc := 7) d_Image_perform_7 rfl rfl ?_
  refine xv_getR (pc := 8) d_Image_perform_8 f_Image_11 rfl k0 r0 ?_
  refine xv_iload_n (pc := 11) d_Image_perform_11 rfl rfl ?_
  refine xv_aald (pc := 12) (t := 4) d_Image_perform_12 kc rfl (by rw [lc]; exact hif) (by rw [hcf]; exact f1) ?_
  refine xv_getR (pc := 13) d_Image_perform_13 f_Image_76 rfl ck c1 ?_
  refine xv_iload_n (pc := 16) d_Image_perform_16 rfl rfl ?_
  refine xv_ald (pc := 17) d_Image_perform_17 ckf (by rw [clf]; exact hip) ?_
  refine xv_istore_4 (pc := 18) d_Image_perform_18 (by decide) rfl ?_
  refine xv_aload_n (pc := 20) d_Image_perform_20 rfl rfl ?_
  refine xv_getR (pc := 21) d_Image_perform_21 f_Image_11 rfl k0 r0 ?_
  refine xv_iload_n (pc := 24) d_Image_perform_24 rfl rfl ?_
  refine xv_aald (pc := 25) (t := 4) d_Image_perform_25 kc rfl (by rw [lc]; exact hif) (by rw [hcf]; exact f1) ?_
  refine xv_getR (pc := 26) d_Image_perform_26 f_Image_64 rfl ck c0 ?_
  refine xv_iload_n (pc := 29) d_Image_perform_29 rfl rfl ?_
  refine xv_ald (pc := 30) d_Image_perform_30 cko (by rw [clo]; exact hip) ?_
  rw [hcp, eF, eO]
  refine xv_tableTo (pc := 31) 196 [0, 1, 13, 14, 15, 16] d_Image_perform_31 (by decide) (by decide) (by decide) (List.forall_mem_cons.mpr ⟨nI_neT (by omega) e0, (List.forall_mem_cons.mpr ⟨nI_neT (by omega) e1, (List.forall_mem_cons.mpr ⟨nI_neT (by omega) e13, (List.forall_mem_cons.mpr ⟨nI_neT (by omega) e14, (List.forall_mem_cons.mpr ⟨nI_neT (by omega) e15, (List.forall_mem_cons.mpr ⟨nI_neT (by omega) ho6, (fun _ h => absurd h List.not_mem_nil)⟩)⟩)⟩)⟩)⟩)⟩) ?_
  refine xv_aload_n (pc := 196) d_Image_perform_196 rfl rfl ?_
  refine xv_getR (pc := 197) d_Image_perform_197 f_Image_11 rfl k0 r0 ?_
  refine xv_iload_n (pc := 200) d_Image_perform_200 rfl rfl ?_
  refine xv_aald (pc := 201) (t := 4) d_Image_perform_201 kc rfl (by rw [lc]; exact hif) (by rw [hcf]; exact f1) ?_
  refine xv_getR (pc := 202) d_Image_perform_202 f_Image_64 rfl ck c0 ?_
  refine xv_iload_n (pc := 205) d_Image_perform_205 rfl rfl ?_
  refine xv_ald (pc := 206) d_Image_perform_206 cko (by rw [clo]; exact hip) ?_
  refine xv_aload_n (pc := 207) d_Image_perform_207 rfl rfl ?_
  rw [hcp, eO]
  exact xv_tS2 (pc := 208) (c_Image_rework_x f40 hs ez.1 n2 p42 ez.2) m_Image_rework l_Image_98 d_Image_perform_208 (by omega) (Nat.le_of_ble_eq_true rfl) ⟨Nat.le_refl _, Nat.le_refl _⟩ (fun a w ⟨w0, z1, z2⟩ g2 g3 => ⟨⟨_, rfl, w0, xSi_F z1, z2⟩, g2, g3⟩)

