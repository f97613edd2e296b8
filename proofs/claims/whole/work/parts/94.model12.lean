/-! the model's run: a CALL -/
/-- a function that the run may call: its form, or its image, is there; how many parameters it has -/
def xTh (w : xv_M) (M fr a n : Nat) : Prop := (fr = 0 → ∃ l, 0 < l ∧ l ≤ 40 ∧ xv_i w (M + 3) a = nI l ∧ xv_i w (M + 4) a = nI n) ∧ (fr = 16 → xv_i w (M + 14) a = 1 ∧ xv_i w (M + 22) a = nI n)
theorem xg_call {sc : Nat × (Nat → Int32)} {D M : Nat} {a1 a2 a3 a4 a5 : Int32} {fr n1 s1 : Nat} {P : xv_P} {d base g pc a : Nat} {w : xv_M} {σ : xZ} (hM : xMo w M) (hd : d < 8) (hb : base ≤ 400) (hg : g < 24) (hpc : pc < 280) (hF : xMF w M d base g pc σ) (hO : xv_i w (M + 7) (280 * g + pc) = nI 16) (hA : xv_i w (M + 8) (280 * g + pc) = nI a) (ha : a < 8) (h3 : 3 ≤ σ.2.2) (h42 : σ.2.2 ≤ 42) (hfr : fr = 0 ∨ fr = 16) {n : Nat} (hth : xTh w M fr a n) (hn3 : n ≤ 3) (hN : xv_N w ≤ n1) (hS : xv_S w ≤ s1) (hD : 1 ≤ D) (k : ∀ w', xMR w w' M d (base + (σ.2.2 - 3)) → xMF w' M d base g (pc + 1) (xPo (xPo (xPo σ))) → xv_i w' (M + 27) d = nI (base + (σ.2.2 - 3)) → xMF w' M (d + 1) (base + (σ.2.2 - 3)) (fr + a) 0 (xArg (nI n) (xTp (xPo (xPo σ))) (xTp (xPo σ)) (xTp σ), fun _ => 0, 0) → xGh sc D M a1 a2 a3 a4 a5 fr n1 s1 P (d + 1) (base + (σ.2.2 - 3)) w') : xGh sc D M a1 a2 a3 a4 a5 fr n1 s1 P d (base + σ.2.2) w := by
  refine xg_pre hM (by omega) hg hpc hF hO hA (fun j12 j13 => ?_)
  have hca : (nI a).toNatClampNeg = a := nI_clamp (by omega)
  have hcd : (nI d).toNatClampNeg = d := nI_clamp (by omega)
  have e3 : nI (base + σ.2.2) + Int32.ofInt (-3) = nI (base + (σ.2.2 - 3)) := by
    rw [show base + σ.2.2 = base + (σ.2.2 - 3) + 3 by omega, ← nI_add, Int32.add_assoc]
    exact Int32.add_zero _
  have ed : nI d + Int32.ofInt 1 = nI (d + 1) := by rw [nI_succ]; rfl
  have x1 : nI (base + (σ.2.2 - 3)) + 1 = nI (base + (σ.2.2 - 2)) := by rw [show base + (σ.2.2 - 2) = base + (σ.2.2 - 3) + 1 by omega, nI_succ]
  have x2 : nI (base + (σ.2.2 - 3)) + 2 = nI (base + (σ.2.2 - 1)) := by rw [show base + (σ.2.2 - 1) = base + (σ.2.2 - 3) + 2 by omega]; generalize base + (σ.2.2 - 3) = X; rw [← nI_add]; rfl
  have c0 : (nI (base + (σ.2.2 - 3))).toNatClampNeg = base + (σ.2.2 - 3) := nI_clamp (by omega)
  have c1 : (nI (base + (σ.2.2 - 2))).toNatClampNeg = base + (σ.2.2 - 2) := nI_clamp (by omega)
  have c2 : (nI (base + (σ.2.2 - 1))).toNatClampNeg = base + (σ.2.2 - 1) := nI_clamp (by omega)
  have i0 : vp_in (nI (base + (σ.2.2 - 3))) 800 := vp_in_nI (by omega) (by decide)
  have i1 : vp_in (nI (base + (σ.2.2 - 2))) 800 := vp_in_nI (by omega) (by decide)
  have i2 : vp_in (nI (base + (σ.2.2 - 1))) 800 := vp_in_nI (by omega) (by decide)
  have v2 := xMF_tp hF (by omega) (j := base + (σ.2.2 - 1)) (by omega)
  have v1 : xv_i w (M + 23) (base + (σ.2.2 - 2)) = xTp (xPo σ) := by
    rw [hF.2.2.2 (σ.2.2 - 2) (by omega)]
    show σ.2.1 (σ.2.2 - 2) = σ.2.1 (σ.2.2 - 1 - 1)
    rw [show σ.2.2 - 1 - 1 = σ.2.2 - 2 by omega]
  have v0 : xv_i w (M + 23) (base + (σ.2.2 - 3)) = xTp (xPo (xPo σ)) := by
    rw [hF.2.2.2 (σ.2.2 - 3) (by omega)]
    show σ.2.1 (σ.2.2 - 3) = σ.2.1 (σ.2.2 - 1 - 1 - 1)
    rw [show σ.2.2 - 1 - 1 - 1 = σ.2.2 - 3 by omega]
  have ef : nI fr + nI a = nI (fr + a) := by rw [← nI_add]
  have tail : ∀ j12 j13 : Option Value, xv_X sc D J_Model_go 235 [some (.ref M), some (.int a1), some (.int a2), some (.int a3), some (.int a4), some (.int a5), some (.int (nI (d + 1))), some (.int (nI (base + (σ.2.2 - 3)))), some (.int (nI fr)), some (.int (nI (280 * g + pc))), some (.int (nI 16)), some (.int (nI a)), j12, j13] [.int (nI n), .int (nI (fr + a)), .int (nI (d + 1)), .ref M] (xv_si (xv_si w (M + 25) d (nI (pc + 1))) (M + 27) d (nI (base + (σ.2.2 - 3)))) n1 s1 P := by
    intro j12 j13
    have ce := c_Model_enter (sc := sc) (u := (xv_si (xv_si w (M + 25) d (nI (pc + 1))) (M + 27) d (nI (base + (σ.2.2 - 3))))) (M := M) (d := d + 1) (base := base + (σ.2.2 - 3)) (g := fr + a) (n := n) (x := xTp (xPo (xPo σ))) (y := xTp (xPo σ)) (z := xTp σ) hM (by omega) (by omega) hn3
    refine xv_aload_n (pc := 235) d_Model_go_235 rfl rfl ?_
    refine xv_getR (pc := 236) d_Model_go_236 f_Model_77 rfl hM.1 (xm_r22 hM) ?_
    refine xv_iload (pc := 239) d_Model_go_239 rfl ?_
    refine xv_ald (pc := 241) d_Model_go_241 (xm_k22 hM) (xm_i22 hM i0) ?_
    refine xv_aload_n (pc := 242) d_Model_go_242 rfl rfl ?_
    refine xv_getR (pc := 243) d_Model_go_243 f_Model_77 rfl hM.1 (xm_r22 hM) ?_
    refine xv_iload (pc := 246) d_Model_go_246 rfl ?_
    refine xv_iconst (pc := 248) 1 d_Model_go_248 (by decide) ?_
    refine xv_iadd (pc := 249) d_Model_go_249 ?_
    refine xv_ald (pc := 250) d_Model_go_250 (xm_k22 hM) (by rw [x1]; exact xm_i22 hM i1) ?_
    refine xv_aload_n (pc := 251) d_Model_go_251 rfl rfl ?_
    refine xv_getR (pc := 252) d_Model_go_252 f_Model_77 rfl hM.1 (xm_r22 hM) ?_
    refine xv_iload (pc := 255) d_Model_go_255 rfl ?_
    refine xv_iconst (pc := 257) 2 d_Model_go_257 (by decide) ?_
    refine xv_iadd (pc := 258) d_Model_go_258 ?_
    refine xv_ald (pc := 259) d_Model_go_259 (xm_k22 hM) (by rw [x2]; exact xm_i22 hM i2) ?_
    rw [x1, x2, c0, c1, c2, xv_si_ne (by omega), xv_si_ne (by omega), xv_si_ne (by omega), xv_si_ne (by omega), xv_si_ne (by omega), xv_si_ne (by omega), v0, v1, v2]
    refine xv_cV6v (pc := 260) ce m_Model_enter l_Model_151 d_Model_go_260 (by omega) (by decide : 11 < xv_nc) rfl hM.1 (Nat.le_of_ble_eq_true rfl) ⟨hN, hS⟩ (fun w2 hw hN2 hS2 => ?_)
    obtain ⟨r1, r2⟩ := hw
    refine xv_goto (pc := 263) 402 d_Model_go_263 (by decide) ?_
    refine xv_goto (pc := 402) 26 d_Model_go_402 (by decide) ?_
    have R : xMR w w2 M d (base + (σ.2.2 - 3)) := xMR_tr (Nat.le_succ d) (Nat.le_refl _) (xMR_tr (Nat.le_refl _) (Nat.le_refl _) xMR_at (xMR_si (Or.inr (Or.inr ⟨Or.inr (Or.inr rfl), Nat.le_refl _⟩)))) r1
    obtain ⟨f1, f2, f3, f4⟩ := hF
    obtain ⟨q1, q2, q3, q4⟩ := r1
    obtain ⟨t1, t2, t3⟩ := q4 d (Nat.lt_succ_self d)
    refine k w2 R ⟨?_, ?_, fun q hq => ?_, fun q hq => ?_⟩ ?_ r2 _ _ _ _ _
    · rw [t2, xv_si_ne (by omega), xv_si_ne (by omega)]; exact f1
    · rw [t1, xv_si_ne (by omega), xv_si_eq]
    · rw [q3 (7 * d + q) (by omega), xv_si_ne (by omega), xv_si_ne (by omega)]; exact f3 q hq
    · have hq : q < σ.2.2 - 1 - 1 - 1 := hq
      rw [q2 (base + q) (by omega), xv_si_ne (by omega), xv_si_ne (by omega)]; exact f4 q (by omega)
    · rw [t3, xv_si_eq]
  have mid : ∀ j13 : Option Value, xv_X sc D J_Model_go 169 [some (.ref M), some (.int a1), some (.int a2), some (.int a3), some (.int a4), some (.int a5), some (.int (nI d)), some (.int (nI (base + σ.2.2))), some (.int (nI fr)), some (.int (nI (280 * g + pc))), some (.int (nI 16)), some (.int (nI a)), some (.int 1), j13] [] (xv_si w (M + 25) d (nI (pc + 1))) n1 s1 P := by
    intro j13
    refine xv_iload (pc := 169) d_Model_go_169 rfl ?_
    refine xv_if_ne (pc := 171) 190 d_Model_go_171 (by decide) (fun h171 => ?_) (fun h171 => ?_)
    case refine_2 => exact absurd h171 (by decide)
    refine xv_iinc_7 (pc := 190) (nI (base + (σ.2.2 - 3))) d_Model_go_190 e3 (by decide) rfl ?_
    refine xv_aload_n (pc := 193) d_Model_go_193 rfl rfl ?_
    refine xv_getR (pc := 194) d_Model_go_194 f_Model_89 rfl hM.1 (xm_r26 hM) ?_
    refine xv_iload (pc := 197) d_Model_go_197 rfl ?_
    refine xv_iload (pc := 199) d_Model_go_199 rfl ?_
    refine xv_ast (pc := 201) d_Model_go_201 (xm_k26 hM) (xm_i26 hM (vp_in_nI (by omega) (by decide))) ?_
    refine xv_iinc_6 (pc := 202) (nI (d + 1)) d_Model_go_202 ed (by decide) rfl ?_
    refine xv_aload_n (pc := 205) d_Model_go_205 rfl rfl ?_
    refine xv_iload (pc := 206) d_Model_go_206 rfl ?_
    refine xv_iload (pc := 208) d_Model_go_208 rfl ?_
    refine xv_iload (pc := 210) d_Model_go_210 rfl ?_
    refine xv_iadd (pc := 212) d_Model_go_212 ?_
    refine xv_iload (pc := 213) d_Model_go_213 rfl ?_
    refine xv_if_ne (pc := 215) 228 d_Model_go_215 (by decide) (fun h215 => ?_) (fun h215 => ?_)
    · rw [hcd, ef]
      have hf : fr = 16 := by
        rcases hfr with q | q
        · subst q; exact absurd rfl h215
        · exact q
      obtain ⟨_, p2⟩ := hth.2 hf
      refine xv_aload_n (pc := 228) d_Model_go_228 rfl rfl ?_
      refine xv_getR (pc := 229) d_Model_go_229 f_Model_74 rfl hM.1 (xm_r21 hM) ?_
      refine xv_iload (pc := 232) d_Model_go_232 rfl ?_
      refine xv_ald (pc := 234) d_Model_go_234 (xm_k21 hM) (xm_i21 hM (vp_in_nI ha (by decide))) ?_
      rw [hca, xv_si_ne (by omega), xv_si_ne (by omega), p2]
      exact tail _ _
    · rw [hcd, ef]
      have hf : fr = 0 := by
        rcases hfr with q | q
        · exact q
        · subst q; exact absurd h215 (by decide)
      obtain ⟨l, _, _, _, p2⟩ := hth.1 hf
      refine xv_aload_n (pc := 218) d_Model_go_218 rfl rfl ?_
      refine xv_getR (pc := 219) d_Model_go_219 f_Model_19 rfl hM.1 (xm_r3 hM) ?_
      refine xv_iload (pc := 222) d_Model_go_222 rfl ?_
      refine xv_ald (pc := 224) d_Model_go_224 (xm_k3 hM) (xm_i3 hM (vp_in_nI ha (by decide))) ?_
      refine xv_goto (pc := 225) 235 d_Model_go_225 (by decide) ?_
      rw [hca, xv_si_ne (by omega), xv_si_ne (by omega), p2]
      exact tail _ _
  refine xv_iload (pc := 70) d_Model_go_70 rfl ?_
  refine xv_bipush (pc := 72) 17 d_Model_go_72 (by decide) ?_
  refine xv_icmp_ne (pc := 74) 130 d_Model_go_74 (by decide) (fun h74 => ?_) (fun h74 => ?_)
  case refine_2 => exact absurd h74 (by decide)
  refine xv_iload (pc := 130) d_Model_go_130 rfl ?_
  refine xv_bipush (pc := 132) 16 d_Model_go_132 (by decide) ?_
  refine xv_icmp_ne (pc := 134) 266 d_Model_go_134 (by decide) (fun h134 => ?_) (fun h134 => ?_)
  · exact absurd rfl h134
  refine xv_iload (pc := 137) d_Model_go_137 rfl ?_
  refine xv_if_ne (pc := 139) 160 d_Model_go_139 (by decide) (fun h139 => ?_) (fun h139 => ?_)
  · have hf : fr = 16 := by
      rcases hfr with q | q
      · subst q; exact absurd rfl h139
      · exact q
    obtain ⟨p1, _⟩ := hth.2 hf
    refine xv_aload_n (pc := 160) d_Model_go_160 rfl rfl ?_
    refine xv_getR (pc := 161) d_Model_go_161 f_Model_50 rfl hM.1 (xm_r13 hM) ?_
    refine xv_iload (pc := 164) d_Model_go_164 rfl ?_
    refine xv_zald (pc := 166) d_Model_go_166 (xm_k13 hM) (xm_i13 hM (vp_in_nI ha (by decide))) ?_
    refine xv_istore_12 (pc := 167) d_Model_go_167 (by decide) rfl ?_
    rw [hca, xv_si_ne (by omega), p1]
    exact mid _
  · have hf : fr = 0 := by
      rcases hfr with q | q
      · exact q
      · subst q; exact absurd h139 (by decide)
    obtain ⟨l, l0, l40, p1, _⟩ := hth.1 hf
    refine xv_aload_n (pc := 142) d_Model_go_142 rfl rfl ?_
    refine xv_getR (pc := 143) d_Model_go_143 f_Model_16 rfl hM.1 (xm_r2 hM) ?_
    refine xv_iload (pc := 146) d_Model_go_146 rfl ?_
    refine xv_ald (pc := 148) d_Model_go_148 (xm_k2 hM) (xm_i2 hM (vp_in_nI (by omega) (by decide))) ?_
    refine xv_if_le (pc := 149) 156 d_Model_go_149 (by decide) (fun h149 => ?_) (fun h149 => ?_)
    · rw [hca, xv_si_ne (by omega), p1] at h149
      exact absurd h149 (Int32.not_le.mpr (nI_posL l0 (by omega)))
    refine xv_iconst (pc := 152) 1 d_Model_go_152 (by decide) ?_
    refine xv_goto (pc := 153) 167 d_Model_go_153 (by decide) ?_
    refine xv_istore_12 (pc := 167) d_Model_go_167 (by decide) rfl ?_
    exact mid _
theorem xg_nocall {sc : Nat × (Nat → Int32)} {D M : Nat} {a1 a2 a3 a4 a5 : Int32} {fr n1 s1 : Nat} {P : xv_P} {d base g pc a : Nat} {w : xv_M} {σ : xZ} (hM : xMo w M) (hd : d < 8) (hb : base ≤ 400) (hg : g < 24) (hpc : pc < 280) (hF : xMF w M d base g pc σ) (hO : xv_i w (M + 7) (280 * g + pc) = nI 16) (hA : xv_i w (M + 8) (280 * g + pc) = nI a) (ha : a < 8) (h3 : 3 ≤ σ.2.2) (h42 : σ.2.2 ≤ 42) (hfr : fr = 0 ∨ fr = 16) (h0 : fr = 0 → xv_i w (M + 3) a = 0) (h16 : fr = 16 → xv_i w (M + 14) a = 0) {P0 : xv_P} (hN : xv_N w = n1) (hS : xv_S w = s1) (hD : 1 ≤ D) (hP : P0 (.inl (some (.int 0))) (xv_si (xv_si w (M + 25) d (nI (pc + 1))) M 35 (if fr = 0 then 1 else 3))) : xGh sc D M a1 a2 a3 a4 a5 fr n1 s1 (xv_q n1 s1 P0) d (base + σ.2.2) w := by
  refine xg_pre hM (by omega) hg hpc hF hO hA (fun j12 j13 => ?_)
  have hca : (nI a).toNatClampNeg = a := nI_clamp (by omega)
  have mid : ∀ j13 : Option Value, xv_X sc D J_Model_go 169 [some (.ref M), some (.int a1), some (.int a2), some (.int a3), some (.int a4), some (.int a5), some (.int (nI d)), some (.int (nI (base + σ.2.2))), some (.int (nI fr)), some (.int (nI (280 * g + pc))), some (.int (nI 16)), some (.int (nI a)), some (.int 0), j13] [] (xv_si w (M + 25) d (nI (pc + 1))) n1 s1 (xv_q n1 s1 P0) := by
    intro j13
    refine xv_iload (pc := 169) d_Model_go_169 rfl ?_
    refine xv_if_ne (pc := 171) 190 d_Model_go_171 (by decide) (fun h171 => ?_) (fun h171 => ?_)
    · exact absurd rfl h171
    refine xv_aload_n (pc := 174) d_Model_go_174 rfl rfl ?_
    refine xv_iload (pc := 175) d_Model_go_175 rfl ?_
    refine xv_if_ne (pc := 177) 184 d_Model_go_177 (by decide) (fun h177 => ?_) (fun h177 => ?_)
    · have hf : fr = 16 := by
        rcases hfr with q | q
        · subst q; exact absurd rfl h177
        · exact q
      rw [if_neg (by omega)] at hP
      refine xv_iconst (pc := 184) 3 d_Model_go_184 (by decide) ?_
      refine xv_putI (pc := 185) d_Model_go_185 f_Model_155 (Or.inl rfl) fin_11_35 hM.1 ?_
      refine xv_iconst (pc := 188) 0 d_Model_go_188 (by decide) ?_
      exact xv_retiq (pc := 189) d_Model_go_189 rfl hN hS hP
    · have hf : fr = 0 := by
        rcases hfr with q | q
        · exact q
        · subst q; exact absurd h177 (by decide)
      rw [if_pos hf] at hP
      refine xv_iconst (pc := 180) 1 d_Model_go_180 (by decide) ?_
      refine xv_goto (pc := 181) 185 d_Model_go_181 (by decide) ?_
      refine xv_putI (pc := 185) d_Model_go_185 f_Model_155 (Or.inl rfl) fin_11_35 hM.1 ?_
      refine xv_iconst (pc := 188) 0 d_Model_go_188 (by decide) ?_
      exact xv_retiq (pc := 189) d_Model_go_189 rfl hN hS hP
  refine xv_iload (pc := 70) d_Model_go_70 rfl ?_
  refine xv_bipush (pc := 72) 17 d_Model_go_72 (by decide) ?_
  refine xv_icmp_ne (pc := 74) 130 d_Model_go_74 (by decide) (fun h74 => ?_) (fun h74 => ?_)
  case refine_2 => exact absurd h74 (by decide)
  refine xv_iload (pc := 130) d_Model_go_130 rfl ?_
  refine xv_bipush (pc := 132) 16 d_Model_go_132 (by decide) ?_
  refine xv_icmp_ne (pc := 134) 266 d_Model_go_134 (by decide) (fun h134 => ?_) (fun h134 => ?_)
  · exact absurd rfl h134
  refine xv_iload (pc := 137) d_Model_go_137 rfl ?_
  refine xv_if_ne (pc := 139) 160 d_Model_go_139 (by decide) (fun h139 => ?_) (fun h139 => ?_)
  · have hf : fr = 16 := by
      rcases hfr with q | q
      · subst q; exact absurd rfl h139
      · exact q
    refine xv_aload_n (pc := 160) d_Model_go_160 rfl rfl ?_
    refine xv_getR (pc := 161) d_Model_go_161 f_Model_50 rfl hM.1 (xm_r13 hM) ?_
    refine xv_iload (pc := 164) d_Model_go_164 rfl ?_
    refine xv_zald (pc := 166) d_Model_go_166 (xm_k13 hM) (xm_i13 hM (vp_in_nI ha (by decide))) ?_
    refine xv_istore_12 (pc := 167) d_Model_go_167 (by decide) rfl ?_
    rw [hca, xv_si_ne (by omega), h16 hf]
    exact mid _
  · have hf : fr = 0 := by
      rcases hfr with q | q
      · exact q
      · subst q; exact absurd h139 (by decide)
    refine xv_aload_n (pc := 142) d_Model_go_142 rfl rfl ?_
    refine xv_getR (pc := 143) d_Model_go_143 f_Model_16 rfl hM.1 (xm_r2 hM) ?_
    refine xv_iload (pc := 146) d_Model_go_146 rfl ?_
    refine xv_ald (pc := 148) d_Model_go_148 (xm_k2 hM) (xm_i2 hM (vp_in_nI (by omega) (by decide))) ?_
    refine xv_if_le (pc := 149) 156 d_Model_go_149 (by decide) (fun h149 => ?_) (fun h149 => ?_)
    case refine_2 =>
      rw [hca, xv_si_ne (by omega), h0 hf] at h149
      exact absurd (by decide) h149
    refine xv_iconst (pc := 156) 0 d_Model_go_156 (by decide) ?_
    refine xv_goto (pc := 157) 167 d_Model_go_157 (by decide) ?_
    refine xv_istore_12 (pc := 167) d_Model_go_167 (by decide) rfl ?_
    exact mid _

