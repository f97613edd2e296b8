/-! the model: simple -/
theorem xMF_cg {w : xv_M} {M d base g pc : Nat} {σ τ : xZ} (h : xMF w M d base g pc σ) (h1 : σ.1 = τ.1) (h2 : τ.2.2 = σ.2.2) (h3 : ∀ q, q < τ.2.2 → σ.2.1 q = τ.2.1 q) : xMF w M d base g pc τ := by
  obtain ⟨a1, a2, a3, a4⟩ := h
  exact ⟨a1, a2, fun q hq => by rw [← h1]; exact a3 q hq, fun q hq => by rw [a4 q (by omega)]; exact h3 q hq⟩
theorem xMF_pu {w : xv_M} {M d base g pc j : Nat} {σ : xZ} {x : Int32} (h : xMF w M d base g pc σ) (hj : j = base + σ.2.2) : xMF (xv_si w (M + 23) j x) M d base g pc (xPu σ x) := by
  obtain ⟨a1, a2, a3, a4⟩ := h
  subst hj
  refine ⟨by rw [xv_si_ne (by omega)]; exact a1, by rw [xv_si_ne (by omega)]; exact a2, fun q hq => by rw [xv_si_ne (by omega)]; exact a3 q hq, fun q hq => ?_⟩
  have hq : q < σ.2.2 + 1 := hq
  show _ = upd σ.2.1 σ.2.2 x q
  rw [xv_si_if]
  by_cases e : q = σ.2.2
  · subst e; rw [if_pos rfl, pk_us]
  · rw [if_neg (by omega), pk_un e]; exact a4 q (by omega)
theorem xMF_po {w : xv_M} {M d base g pc : Nat} {σ : xZ} (h : xMF w M d base g pc σ) : xMF w M d base g pc (xPo σ) := by
  obtain ⟨a1, a2, a3, a4⟩ := h
  exact ⟨a1, a2, a3, fun q hq => a4 q (by have hq : q < σ.2.2 - 1 := hq; omega)⟩
theorem xMF_sv {w : xv_M} {M d base g pc v : Nat} {σ : xZ} {x : Int32} (h : xMF w M d base g pc σ) (hv : v < 7) : xMF (xv_si w (M + 24) (7 * d + v) x) M d base g pc (xSv σ v x) := by
  obtain ⟨a1, a2, a3, a4⟩ := h
  refine ⟨by rw [xv_si_ne (by omega)]; exact a1, by rw [xv_si_ne (by omega)]; exact a2, fun q hq => ?_, fun q hq => by rw [xv_si_ne (by omega)]; exact a4 q hq⟩
  show _ = upd σ.1 v x q
  rw [xv_si_if]
  by_cases e : q = v
  · subst e; rw [if_pos rfl, pk_us]
  · rw [if_neg (by omega), pk_un e]; exact a3 q hq
theorem xMF_at {w : xv_M} {M d base g pc q : Nat} {σ : xZ} (h : xMF w M d base g pc σ) : xMF (xv_si w (M + 25) d (nI q)) M d base g q σ := by
  obtain ⟨a1, a2, a3, a4⟩ := h
  exact ⟨by rw [xv_si_ne (by omega)]; exact a1, xv_si_eq, fun q hq => by rw [xv_si_ne (by omega)]; exact a3 q hq, fun q hq => by rw [xv_si_ne (by omega)]; exact a4 q hq⟩
theorem xMF_tp {w : xv_M} {M d base g pc j : Nat} {σ : xZ} (h : xMF w M d base g pc σ) (h1 : 1 ≤ σ.2.2) (hj : j + 1 = base + σ.2.2) : xv_i w (M + 23) j = xTp σ := by
  have := h.2.2.2 (σ.2.2 - 1) (by omega)
  rw [show j = base + (σ.2.2 - 1) by omega]
  exact this
def xSim (o : Nat) : Prop := o = 0 ∨ o = 1 ∨ o = 12 ∨ o = 13 ∨ o = 15 ∨ o = 18 ∨ o = 19 ∨ o = 20 ∨ o = 21
theorem c_Model_simple {sc : Nat × (Nat → Int32)} {u : xv_M} {M d base g pc q o f : Nat} {L : Nat → Nat} {ans : Nat → Int32 → Int32 → Int32 → xRs} {a se : Int32} {σ τ : xZ} (hM : xMo u M) (hd : d < 9) (hb : base ≤ 400) (hF : xMF u M d base g (pc + 1) σ) (hk : xOk o a σ.2.2) (ho : xSim o) (hst : xStep ans L f o a se pc σ = .inl (nI q, τ)) (hq : q < 1000) (hpc : pc < 900) : xv_C sc 0 J_Model_simple [.ref M, .int (nI o), .int a, .int (nI d), .int (nI (base + σ.2.2))] u (xv_N u) (xv_S u) (xv_pi (fun r w => r = nI (base + τ.2.2) ∧ xMR u w M d base ∧ xMF w M d base g q τ)) := by
  have hcd : (nI d).toNatClampNeg = d := nI_clamp (by omega)
  have hid : vp_in (nI d) 9 := vp_in_nI hd (by decide)
  have p0 := xOk_01 hk
  have p1 := xOk_34 hk
  have p42 : σ.2.2 ≤ 42 := hk.2.2.1
  have kk5 := hk.2.2.2.2.1
  have hkr := xRk_of hk
  clear hk
  have hcs : (nI (base + σ.2.2)).toNatClampNeg = base + σ.2.2 := nI_clamp (by omega)
  have his : vp_in (nI (base + σ.2.2)) 800 := vp_in_nI (by omega) (by decide)
  have e1s : nI (base + σ.2.2) + 1 = nI (base + (σ.2.2 + 1)) := by rw [show base + (σ.2.2 + 1) = base + σ.2.2 + 1 by omega, nI_succ]
  unfold xStep at hst
  refine xv_C_of (by decide) (Nat.le_refl _) (Nat.le_refl _) (xv_cat1 rfl) (Nat.le_of_ble_eq_true rfl) ?_
  show xv_X sc 0 J_Model_simple 0 [some (.ref M), some (.int (nI o)), some (.int a), some (.int (nI d)), some (.int (nI (base + σ.2.2))), none] [] u (xv_N u) (xv_S u) _
  refine xv_iload_n (pc := 0) d_Model_simple_0 rfl rfl ?_
  rcases ho with rfl | rfl | rfl | rfl | rfl | rfl | rfl | rfl | rfl
  · rw [if_pos rfl] at hst
    simp only [Sum.inl.injEq, Prod.mk.injEq] at hst
    obtain ⟨h1, rfl⟩ := hst
    have hqe : pc + 1 = q := (nI_eq (by omega) (by omega)).mp h1
    subst hqe
    refine xv_tableIn (pc := 1) (off := 99) 100 d_Model_simple_1 (by decide) (by decide) (by decide) (by decide) ?_
    refine xv_aload_n (pc := 100) d_Model_simple_100 rfl rfl ?_
    refine xv_getR (pc := 101) d_Model_simple_101 f_Model_77 rfl hM.1 (xm_r22 hM) ?_
    refine xv_iload (pc := 104) d_Model_simple_104 rfl ?_
    refine xv_iload_n (pc := 106) d_Model_simple_106 rfl rfl ?_
    refine xv_ast (pc := 107) d_Model_simple_107 (xm_k22 hM) (xm_i22 hM his) ?_
    refine xv_iload (pc := 108) d_Model_simple_108 rfl ?_
    refine xv_iconst (pc := 110) 1 d_Model_simple_110 (by decide) ?_
    refine xv_iadd (pc := 111) d_Model_simple_111 ?_
    rw [hcs, e1s]
    exact xv_retiq (pc := 112) d_Model_simple_112 rfl rfl rfl ⟨_, rfl, rfl, xMR_si (Or.inl ⟨rfl, by omega⟩), xMF_pu hF rfl⟩
  · rw [if_neg (by decide), if_pos rfl] at hst
    simp only [Sum.inl.injEq, Prod.mk.injEq] at hst
    obtain ⟨h1, rfl⟩ := hst
    have hqe : pc + 1 = q := (nI_eq (by omega) (by omega)).mp h1
    subst hqe
    obtain ⟨v, hv, rfl⟩ := kk5 (Or.inl rfl)
    have hcv : (nI v).toNatClampNeg = v := nI_clamp (by omega)
    have ci : (nI (7 * d + v)).toNatClampNeg = 7 * d + v := nI_clamp (by omega)
    have ii : vp_in (nI (7 * d + v)) 63 := vp_in_nI (by omega) (by decide)
    refine xv_tableIn (pc := 1) (off := 112) 113 d_Model_simple_1 (by decide) (by decide) (by decide) (by decide) ?_
    refine xv_aload_n (pc := 113) d_Model_simple_113 rfl rfl ?_
    refine xv_getR (pc := 114) d_Model_simple_114 f_Model_77 rfl hM.1 (xm_r22 hM) ?_
    refine xv_iload (pc := 117) d_Model_simple_117 rfl ?_
    refine xv_aload_n (pc := 119) d_Model_simple_119 rfl rfl ?_
    refine xv_getR (pc := 120) d_Model_simple_120 f_Model_80 rfl hM.1 (xm_r23 hM) ?_
    refine xv_bipush (pc := 123) 7 d_Model_simple_123 (by decide) ?_
    refine xv_iload_n (pc := 125) d_Model_simple_125 rfl rfl ?_
    refine xv_imul (pc := 126) d_Model_simple_126 ?_
    refine xv_iload_n (pc := 127) d_Model_simple_127 rfl rfl ?_
    refine xv_iadd (pc := 128) d_Model_simple_128 ?_
    refine xv_ald (pc := 129) d_Model_simple_129 (xm_k23 hM) (by rw [xIdx7]; exact xm_i23 hM ii) ?_
    refine xv_ast (pc := 130) d_Model_simple_130 (xm_k22 hM) (xm_i22 hM his) ?_
    refine xv_iload (pc := 131) d_Model_simple_131 rfl ?_
    refine xv_iconst (pc := 133) 1 d_Model_simple_133 (by decide) ?_
    refine xv_iadd (pc := 134) d_Model_simple_134 ?_
    rw [hcs, e1s, xIdx7, ci, hF.2.2.1 v hv]
    exact xv_retiq (pc := 135) d_Model_simple_135 rfl rfl rfl ⟨_, rfl, rfl, xMR_si (Or.inl ⟨rfl, by omega⟩), by rw [hcv]; exact xMF_pu hF rfl⟩
  · rw [if_neg (by decide), if_neg (by decide), if_neg (by decide), if_neg (by decide), if_neg (by decide), if_neg (by decide), if_neg (by omega)] at hst
    simp only [Sum.inl.injEq, Prod.mk.injEq] at hst
    obtain ⟨h1, rfl⟩ := hst
    have hqe : pc + 1 = q := (nI_eq (by omega) (by omega)).mp h1
    subst hqe
    have n1 : 1 ≤ σ.2.2 := (hkr (Or.inl ⟨by decide, by decide⟩)).2.1 rfl
    have et : nI (base + σ.2.2) - 1 = nI (base + (σ.2.2 - 1)) := nI_sub1 (by omega)
    have ct : (nI (base + (σ.2.2 - 1))).toNatClampNeg = base + (σ.2.2 - 1) := nI_clamp (by omega)
    have it : vp_in (nI (base + (σ.2.2 - 1))) 800 := vp_in_nI (by omega) (by decide)
    have htp := xMF_tp hF n1 (j := base + (σ.2.2 - 1)) (by omega)
    refine xv_tableIn (pc := 1) (off := 135) 136 d_Model_simple_1 (by decide) (by decide) (by decide) (by decide) ?_
    refine xv_aload_n (pc := 136) d_Model_simple_136 rfl rfl ?_
    refine xv_getR (pc := 137) d_Model_simple_137 f_Model_77 rfl hM.1 (xm_r22 hM) ?_
    refine xv_iload (pc := 140) d_Model_simple_140 rfl ?_
    refine xv_iconst (pc := 142) 1 d_Model_simple_142 (by decide) ?_
    refine xv_isub (pc := 143) d_Model_simple_143 ?_
    refine xv_aload_n (pc := 144) d_Model_simple_144 rfl rfl ?_
    refine xv_getR (pc := 145) d_Model_simple_145 f_Model_77 rfl hM.1 (xm_r22 hM) ?_
    refine xv_iload (pc := 148) d_Model_simple_148 rfl ?_
    refine xv_iconst (pc := 150) 1 d_Model_simple_150 (by decide) ?_
    refine xv_isub (pc := 151) d_Model_simple_151 ?_
    refine xv_ald (pc := 152) d_Model_simple_152 (xm_k22 hM) (by rw [et]; exact xm_i22 hM it) ?_
    refine xv_ineg (pc := 153) d_Model_simple_153 ?_
    refine xv_ast (pc := 154) d_Model_simple_154 (xm_k22 hM) (by rw [et]; exact xm_i22 hM it) ?_
    refine xv_iload (pc := 155) d_Model_simple_155 rfl ?_
    rw [et, ct, htp]
    exact xv_retiq (pc := 157) d_Model_simple_157 rfl rfl rfl ⟨_, rfl, by show _ = nI (base + (σ.2.2 - 1 + 1)); rw [show σ.2.2 - 1 + 1 = σ.2.2 by omega], xMR_si (Or.inl ⟨rfl, by omega⟩), xMF_pu (xMF_po hF) rfl⟩
  · rw [if_neg (by decide), if_neg (by decide), if_pos rfl] at hst
    simp only [Sum.inl.injEq, Prod.mk.injEq] at hst
    obtain ⟨h1, rfl⟩ := hst
    have hqe : pc + 1 = q := (nI_eq (by omega) (by omega)).mp h1
    subst hqe
    obtain ⟨v, hv, rfl⟩ := kk5 (Or.inr rfl)
    have hcv : (nI v).toNatClampNeg = v := nI_clamp (by omega)
    have ci : (nI (7 * d + v)).toNatClampNeg = 7 * d + v := nI_clamp (by omega)
    have ii : vp_in (nI (7 * d + v)) 63 := vp_in_nI (by omega) (by decide)
    have n1 : 1 ≤ σ.2.2 := p1 (Or.inl rfl)
    have et : nI (base + σ.2.2) - 1 = nI (base + (σ.2.2 - 1)) := nI_sub1 (by omega)
    have ct : (nI (base + (σ.2.2 - 1))).toNatClampNeg = base + (σ.2.2 - 1) := nI_clamp (by omega)
    have it : vp_in (nI (base + (σ.2.2 - 1))) 800 := vp_in_nI (by omega) (by decide)
    have htp := xMF_tp hF n1 (j := base + (σ.2.2 - 1)) (by omega)
    refine xv_tableIn (pc := 1) (off := 157) 158 d_Model_simple_1 (by decide) (by decide) (by decide) (by decide) ?_
    refine xv_aload_n (pc := 158) d_Model_simple_158 rfl rfl ?_
    refine xv_getR (pc := 159) d_Model_simple_159 f_Model_80 rfl hM.1 (xm_r23 hM) ?_
    refine xv_bipush (pc := 162) 7 d_Model_simple_162 (by decide) ?_
    refine xv_iload_n (pc := 164) d_Model_simple_164 rfl rfl ?_
    refine xv_imul (pc := 165) d_Model_simple_165 ?_
    refine xv_iload_n (pc := 166) d_Model_simple_166 rfl rfl ?_
    refine xv_iadd (pc := 167) d_Model_simple_167 ?_
    refine xv_aload_n (pc := 168) d_Model_simple_168 rfl rfl ?_
    refine xv_getR (pc := 169) d_Model_simple_169 f_Model_77 rfl hM.1 (xm_r22 hM) ?_
    refine xv_iload (pc := 172) d_Model_simple_172 rfl ?_
    refine xv_iconst (pc := 174) 1 d_Model_simple_174 (by decide) ?_
    refine xv_isub (pc := 175) d_Model_simple_175 ?_
    refine xv_ald (pc := 176) d_Model_simple_176 (xm_k22 hM) (by rw [et]; exact xm_i22 hM it) ?_
    refine xv_ast (pc := 177) d_Model_simple_177 (xm_k23 hM) (by rw [xIdx7]; exact xm_i23 hM ii) ?_
    refine xv_iload (pc := 178) d_Model_simple_178 rfl ?_
    refine xv_iconst (pc := 180) 1 d_Model_simple_180 (by decide) ?_
    refine xv_isub (pc := 181) d_Model_simple_181 ?_
    rw [et, ct, htp, xIdx7, ci]
    exact xv_retiq (pc := 182) d_Model_simple_182 rfl rfl rfl ⟨_, rfl, rfl, xMR_si (Or.inr (Or.inl ⟨rfl, by omega⟩)), by rw [hcv]; exact xMF_sv (xMF_po hF) hv⟩
  · rw [if_neg (by decide), if_neg (by decide), if_neg (by decide), if_neg (by decide), if_pos rfl] at hst
    simp only [Sum.inl.injEq, Prod.mk.injEq] at hst
    obtain ⟨h1, rfl⟩ := hst
    subst h1
    refine xv_tableIn (pc := 1) (off := 182) 183 d_Model_simple_1 (by decide) (by decide) (by decide) (by decide) ?_
    refine xv_aload_n (pc := 183) d_Model_simple_183 rfl rfl ?_
    refine xv_getR (pc := 184) d_Model_simple_184 f_Model_83 rfl hM.1 (xm_r24 hM) ?_
    refine xv_iload_n (pc := 187) d_Model_simple_187 rfl rfl ?_
    refine xv_iload_n (pc := 188) d_Model_simple_188 rfl rfl ?_
    refine xv_ast (pc := 189) d_Model_simple_189 (xm_k24 hM) (xm_i24 hM hid) ?_
    refine xv_iload (pc := 190) d_Model_simple_190 rfl ?_
    rw [hcd]
    exact xv_retiq (pc := 192) d_Model_simple_192 rfl rfl rfl ⟨_, rfl, rfl, xMR_si (Or.inr (Or.inr ⟨Or.inl rfl, Nat.le_refl _⟩)), xMF_at hF⟩
  · rw [if_neg (by decide), if_neg (by decide), if_neg (by decide), if_neg (by decide), if_neg (by decide), if_neg (by decide), if_neg (by omega)] at hst
    simp only [Sum.inl.injEq, Prod.mk.injEq] at hst
    obtain ⟨h1, rfl⟩ := hst
    have hqe : pc + 1 = q := (nI_eq (by omega) (by omega)).mp h1
    subst hqe
    have n1 : 1 ≤ σ.2.2 := (hkr (Or.inr ⟨by decide, by decide⟩)).2.2.1 rfl
    have et : nI (base + σ.2.2) - 1 = nI (base + (σ.2.2 - 1)) := nI_sub1 (by omega)
    refine xv_tableIn (pc := 1) (off := 192) 193 d_Model_simple_1 (by decide) (by decide) (by decide) (by decide) ?_
    refine xv_iload (pc := 193) d_Model_simple_193 rfl ?_
    refine xv_iconst (pc := 195) 1 d_Model_simple_195 (by decide) ?_
    refine xv_isub (pc := 196) d_Model_simple_196 ?_
    rw [et]
    exact xv_retiq (pc := 197) d_Model_simple_197 rfl rfl rfl ⟨_, rfl, rfl, xMR_rf, xMF_po hF⟩
  · rw [if_neg (by decide), if_neg (by decide), if_neg (by decide), if_neg (by decide), if_neg (by decide), if_neg (by decide), if_neg (by omega)] at hst
    simp only [Sum.inl.injEq, Prod.mk.injEq] at hst
    obtain ⟨h1, rfl⟩ := hst
    have hqe : pc + 1 = q := (nI_eq (by omega) (by omega)).mp h1
    subst hqe
    obtain ⟨n1, n42⟩ := (hkr (Or.inr ⟨by decide, by decide⟩)).2.2.2.1 rfl
    have et : nI (base + σ.2.2) - 1 = nI (base + (σ.2.2 - 1)) := nI_sub1 (by omega)
    have ct : (nI (base + (σ.2.2 - 1))).toNatClampNeg = base + (σ.2.2 - 1) := nI_clamp (by omega)
    have it : vp_in (nI (base + (σ.2.2 - 1))) 800 := vp_in_nI (by omega) (by decide)
    have htp := xMF_tp hF n1 (j := base + (σ.2.2 - 1)) (by omega)
    have hn2 : (xRw 19 σ).2.2 = σ.2.2 + 1 := by show σ.2.2 - 1 + 1 + 1 = _; omega
    refine xv_tableIn (pc := 1) (off := 197) 198 d_Model_simple_1 (by decide) (by decide) (by decide) (by decide) ?_
    refine xv_aload_n (pc := 198) d_Model_simple_198 rfl rfl ?_
    refine xv_getR (pc := 199) d_Model_simple_199 f_Model_77 rfl hM.1 (xm_r22 hM) ?_
    refine xv_iload (pc := 202) d_Model_simple_202 rfl ?_
    refine xv_aload_n (pc := 204) d_Model_simple_204 rfl rfl ?_
    refine xv_getR (pc := 205) d_Model_simple_205 f_Model_77 rfl hM.1 (xm_r22 hM) ?_
    refine xv_iload (pc := 208) d_Model_simple_208 rfl ?_
    refine xv_iconst (pc := 210) 1 d_Model_simple_210 (by decide) ?_
    refine xv_isub (pc := 211) d_Model_simple_211 ?_
    refine xv_ald (pc := 212) d_Model_simple_212 (xm_k22 hM) (by rw [et]; exact xm_i22 hM it) ?_
    refine xv_ast (pc := 213) d_Model_simple_213 (xm_k22 hM) (xm_i22 hM his) ?_
    refine xv_iload (pc := 214) d_Model_simple_214 rfl ?_
    refine xv_iconst (pc := 216) 1 d_Model_simple_216 (by decide) ?_
    refine xv_iadd (pc := 217) d_Model_simple_217 ?_
    rw [et, ct, htp, hcs, e1s]
    exact xv_retiq (pc := 218) d_Model_simple_218 rfl rfl rfl ⟨_, rfl, by rw [hn2], xMR_si (Or.inl ⟨rfl, by omega⟩), xMF_cg (xMF_pu hF rfl) rfl (by rw [hn2]; rfl) (fun q hq => by
      rw [hn2] at hq
      show upd σ.2.1 σ.2.2 (xTp σ) q = upd (upd σ.2.1 (σ.2.2 - 1) (xTp σ)) (σ.2.2 - 1 + 1) (xTp σ) q
      rw [show σ.2.2 - 1 + 1 = σ.2.2 by omega]
      by_cases c : q = σ.2.2
      · subst c; rw [pk_us, pk_us]
      · rw [pk_un c, pk_un c]
        by_cases c2 : q = σ.2.2 - 1
        · subst c2; rw [pk_us]; rfl
        · rw [pk_un c2])⟩
  · rw [if_neg (by decide), if_neg (by decide), if_neg (by decide), if_neg (by decide), if_neg (by decide), if_neg (by decide), if_neg (by omega)] at hst
    simp only [Sum.inl.injEq, Prod.mk.injEq] at hst
    obtain ⟨h1, rfl⟩ := hst
    have hqe : pc + 1 = q := (nI_eq (by omega) (by omega)).mp h1
    subst hqe
    have n2 : 2 ≤ σ.2.2 := (hkr (Or.inr ⟨by decide, by decide⟩)).2.2.2.2.1 rfl
    have et : nI (base + σ.2.2) - 1 = nI (base + (σ.2.2 - 1)) := nI_sub1 (by omega)
    have ct : (nI (base + (σ.2.2 - 1))).toNatClampNeg = base + (σ.2.2 - 1) := nI_clamp (by omega)
    have it : vp_in (nI (base + (σ.2.2 - 1))) 800 := vp_in_nI (by omega) (by decide)
    have et2 : nI (base + σ.2.2) - 2 = nI (base + (σ.2.2 - 2)) := nI_sub2 (by omega)
    have ct2 : (nI (base + (σ.2.2 - 2))).toNatClampNeg = base + (σ.2.2 - 2) := nI_clamp (by omega)
    have it2 : vp_in (nI (base + (σ.2.2 - 2))) 800 := vp_in_nI (by omega) (by decide)
    have htp := xMF_tp hF (by omega) (j := base + (σ.2.2 - 1)) (by omega)
    have htp2 : xv_i u (M + 23) (base + (σ.2.2 - 2)) = xTp (xPo σ) := by
      rw [hF.2.2.2 (σ.2.2 - 2) (by omega)]
      show σ.2.1 (σ.2.2 - 2) = σ.2.1 (σ.2.2 - 1 - 1)
      rw [show σ.2.2 - 1 - 1 = σ.2.2 - 2 by omega]
    have hn2 : (xRw 20 σ).2.2 = σ.2.2 := by show σ.2.2 - 1 - 1 + 1 + 1 = _; omega
    refine xv_tableIn (pc := 1) (off := 218) 219 d_Model_simple_1 (by decide) (by decide) (by decide) (by decide) ?_
    refine xv_aload_n (pc := 219) d_Model_simple_219 rfl rfl ?_
    refine xv_getR (pc := 220) d_Model_simple_220 f_Model_77 rfl hM.1 (xm_r22 hM) ?_
    refine xv_iload (pc := 223) d_Model_simple_223 rfl ?_
    refine xv_iconst (pc := 225) 1 d_Model_simple_225 (by decide) ?_
    refine xv_isub (pc := 226) d_Model_simple_226 ?_
    refine xv_ald (pc := 227) d_Model_simple_227 (xm_k22 hM) (by rw [et]; exact xm_i22 hM it) ?_
    refine xv_istore_5 (pc := 228) d_Model_simple_228 (by decide) rfl ?_
    refine xv_aload_n (pc := 230) d_Model_simple_230 rfl rfl ?_
    refine xv_getR (pc := 231) d_Model_simple_231 f_Model_77 rfl hM.1 (xm_r22 hM) ?_
    refine xv_iload (pc := 234) d_Model_simple_234 rfl ?_
    refine xv_iconst (pc := 236) 1 d_Model_simple_236 (by decide) ?_
    refine xv_isub (pc := 237) d_Model_simple_237 ?_
    refine xv_aload_n (pc := 238) d_Model_simple_238 rfl rfl ?_
    refine xv_getR (pc := 239) d_Model_simple_239 f_Model_77 rfl hM.1 (xm_r22 hM) ?_
    refine xv_iload (pc := 242) d_Model_simple_242 rfl ?_
    refine xv_iconst (pc := 244) 2 d_Model_simple_244 (by decide) ?_
    refine xv_isub (pc := 245) d_Model_simple_245 ?_
    refine xv_ald (pc := 246) d_Model_simple_246 (xm_k22 hM) (by rw [et2]; exact xm_i22 hM it2) ?_
    refine xv_ast (pc := 247) d_Model_simple_247 (xm_k22 hM) (by rw [et]; exact xm_i22 hM it) ?_
    refine xv_aload_n (pc := 248) d_Model_simple_248 rfl rfl ?_
    refine xv_getR (pc := 249) d_Model_simple_249 f_Model_77 rfl hM.1 (xm_r22 hM) ?_
    refine xv_iload (pc := 252) d_Model_simple_252 rfl ?_
    refine xv_iconst (pc := 254) 2 d_Model_simple_254 (by decide) ?_
    refine xv_isub (pc := 255) d_Model_simple_255 ?_
    refine xv_iload (pc := 256) d_Model_simple_256 rfl ?_
    refine xv_ast (pc := 258) d_Model_simple_258 (xm_k22 hM) (by rw [et2]; exact xm_i22 hM it2) ?_
    refine xv_iload (pc := 259) d_Model_simple_259 rfl ?_
    rw [et, et2, ct, ct2, htp, htp2]
    exact xv_retiq (pc := 261) d_Model_simple_261 rfl rfl rfl ⟨_, rfl, by rw [hn2], xMR_tr (Nat.le_refl _) (Nat.le_refl _) (xMR_si (Or.inl ⟨rfl, by omega⟩)) (xMR_si (Or.inl ⟨rfl, by omega⟩)), by
      obtain ⟨a1, a2, a3, a4⟩ := hF
      refine ⟨by rw [xv_si_ne (by omega), xv_si_ne (by omega)]; exact a1, by rw [xv_si_ne (by omega), xv_si_ne (by omega)]; exact a2, fun q hq => by rw [xv_si_ne (by omega), xv_si_ne (by omega)]; exact a3 q hq, fun q hq => ?_⟩
      rw [hn2] at hq
      show _ = upd (upd σ.2.1 (σ.2.2 - 1 - 1) (xTp σ)) (σ.2.2 - 1 - 1 + 1) (xTp (xPo σ)) q
      rw [show σ.2.2 - 1 - 1 + 1 = σ.2.2 - 1 by omega, show σ.2.2 - 1 - 1 = σ.2.2 - 2 by omega, xv_si_if, xv_si_if]
      by_cases c1 : q = σ.2.2 - 2
      · subst c1; rw [if_pos rfl, pk_un (by omega), pk_us]
      · rw [if_neg (by omega)]
        by_cases c2 : q = σ.2.2 - 1
        · subst c2; rw [if_pos rfl, pk_us]
        · rw [if_neg (by omega), pk_un c2, pk_un c1]
          exact a4 q hq⟩
  · rw [if_neg (by decide), if_neg (by decide), if_neg (by decide), if_neg (by decide), if_neg (by decide), if_neg (by decide), if_neg (by omega)] at hst
    simp only [Sum.inl.injEq, Prod.mk.injEq] at hst
    obtain ⟨h1, rfl⟩ := hst
    have hqe : pc + 1 = q := (nI_eq (by omega) (by omega)).mp h1
    subst hqe
    refine xv_tableOut (pc := 1) 262 d_Model_simple_1 (by decide) (by decide) ?_
    refine xv_iload (pc := 262) d_Model_simple_262 rfl ?_
    exact xv_retiq (pc := 264) d_Model_simple_264 rfl rfl rfl ⟨_, rfl, rfl, xMR_rf, hF⟩

