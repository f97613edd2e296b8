/-! the model: translate's loop over the tokens -/
def xTS (M b : Nat) : Prop := xBS M b ∨ b = M + 27 ∨ b = M + 28
/-- what a form's translation leaves as it was, below depth d -/
def xTQ (u w : xv_M) (M f d : Nat) : Prop := xSi (xTS M) u w ∧ (∀ j, ¬ j = 36 → xv_i w M j = xv_i u M j) ∧ (∀ c, c = 7 ∨ c = 8 ∨ c = 9 ∨ c = 13 → ∀ q, q < 280 * f ∨ 280 * f + 280 ≤ q → xv_i w (M + c) q = xv_i u (M + c) q) ∧ ∀ q, q < d → xv_i w (M + 27) q = xv_i u (M + 27) q ∧ xv_i w (M + 28) q = xv_i u (M + 28) q ∧ xv_i w (M + 29) q = xv_i u (M + 29) q
theorem xTQ_tr {u v w : xv_M} {M f d d' : Nat} (hd : d ≤ d') (a : xTQ u v M f d) (b : xTQ v w M f d') : xTQ u w M f d := by
  refine ⟨xSi_tr a.1 b.1, fun j hj => (b.2.1 j hj).trans (a.2.1 j hj), fun c hc q hq => (b.2.2.1 c hc q hq).trans (a.2.2.1 c hc q hq), fun q hq => ?_⟩
  obtain ⟨c1, c2, c3⟩ := b.2.2.2 q (by omega)
  obtain ⟨e1, e2, e3⟩ := a.2.2.2 q hq
  exact ⟨c1.trans e1, c2.trans e2, c3.trans e3⟩
theorem xTQ_rf {u : xv_M} {M f d : Nat} : xTQ u u M f d := ⟨xSi_rf, fun _ _ => rfl, fun _ _ _ _ => rfl, fun _ _ => ⟨rfl, rfl, rfl⟩⟩
theorem xTQ_B {u w : xv_M} {M f d : Nat} (h : xBF u w M f d) : xTQ u w M f d := ⟨xSi_mono h.1 (fun _ z => Or.inl z), h.2.1, h.2.2.1, fun q hq => ⟨by rw [h.1.2.2.2.2.2.2 _ (fun z => by unfold xBS xPS at z; omega)], by rw [h.1.2.2.2.2.2.2 _ (fun z => by unfold xBS xPS at z; omega)], h.2.2.2 q (by omega)⟩⟩
theorem xTQ_P {u w : xv_M} {M f d : Nat} (h : xPF u w M f) : xTQ u w M f d := xTQ_B (xBF_P h)
theorem xTQ_s {u : xv_M} {M f d c q : Nat} {v : Int32} (hc : c = 27 ∨ c = 28) (hq : d ≤ q) : xTQ u (xv_si u (M + c) q v) M f d := by
  refine ⟨xSi_si (by unfold xTS; omega), fun j _ => xv_si_ne (by omega), fun c' hc' q' _ => xv_si_ne (by omega), fun j hj => ⟨?_, ?_, ?_⟩⟩
  · by_cases e : M + 27 = M + c
    · rw [← e]; exact xv_si_nj (by omega)
    · exact xv_si_ne e
  · by_cases e : M + 28 = M + c
    · rw [← e]; exact xv_si_nj (by omega)
    · exact xv_si_ne e
  · exact xv_si_ne (by omega)
/-- the tokens of function f in the model -/
def xFm (u : xv_M) (M f n : Nat) (O : Nat → Nat) (A : Nat → Int32) : Prop := xv_i u (M + 3) f = nI n ∧ n ≤ 40 ∧ ∀ k, k < n → xv_i u (M + 1) (40 * f + k) = nI (O k) ∧ O k < 18 ∧ xv_i u (M + 2) (40 * f + k) = A k
theorem xFm_w {u w : xv_M} {M f n : Nat} {O : Nat → Nat} {A : Nat → Int32} {d : Nat} (z : xTQ u w M f d) (h : xFm u M f n O A) : xFm w M f n O A := by
  have k : ∀ c, c ≤ 3 → 1 ≤ c → xv_i w (M + c) = xv_i u (M + c) := fun c h1 h2 => z.1.2.2.2.2.2.2 _ (fun q => by unfold xTS xBS xPS at q; omega)
  unfold xFm
  rw [k 1 (by decide) (by decide), k 2 (by decide) (by decide), k 3 (by decide) (by decide)]
  exact h
def xH1 (sc : Nat × (Nat → Int32)) (D M f n1 s1 : Nat) (P : xv_P) (k d : Nat) (w : xv_M) : Prop := xv_X sc D J_Model_translate 47 [some (.ref M), some (.int (nI f)), some (.int (nI d)), some (.int (nI k)), none, none, none, none] [] w n1 s1 P
def xH2 (sc : Nat × (Nat → Int32)) (D M f n1 s1 : Nat) (P : xv_P) (k d : Nat) (w : xv_M) : Prop := xv_X sc D J_Model_translate 126 [some (.ref M), some (.int (nI f)), some (.int (nI d)), some (.int (nI k)), none, none, some (.int 1), none] [] w n1 s1 P
theorem xt_leaf {sc : Nat × (Nat → Int32)} {D M f n n1 s1 : Nat} {P : xv_P} {O : Nat → Nat} {A : Nat → Int32} {w : xv_M} (hM : xMo w M) (hf : f < 8) (hF : xFm w M f n O A) (hN : xv_N w ≤ n1) (hS : xv_S w ≤ s1) (hD : 3 ≤ D) {k d : Nat} {σ : xQ} (hk : k < n) (hT : xMT w M f σ) (hn : σ.1 < 265) (ho : O k < 2) (c : ∀ w', xMT w' M f (xEm σ (O k) (A k)) → xPF w w' M f → xv_N w' = xv_N w → xv_S w' = xv_S w → xH2 sc D M f n1 s1 P k d w') : xH1 sc D M f n1 s1 P k d w := by
  unfold xH1
  obtain ⟨hn1, hn40, htk⟩ := hF
  obtain ⟨tO, tO18, tA⟩ := htk k hk
  have hcf : (nI f).toNatClampNeg = f := nI_clamp (by omega)
  have ci : (nI (40 * f + k)).toNatClampNeg = 40 * f + k := nI_clamp (by omega)
  have ii : vp_in (nI (40 * f + k)) 360 := vp_in_nI (by omega) (by decide)
  have t2 : ((2 : Int32) ≤ nI (O k)) ↔ 2 ≤ O k := nI_leI (a := 2) (by decide) (by omega)
  refine xv_iload_n (pc := 47) d_Model_translate_47 rfl rfl ?_
  refine xv_aload_n (pc := 48) d_Model_translate_48 rfl rfl ?_
  refine xv_getR (pc := 49) d_Model_translate_49 f_Model_16 rfl hM.1 (xm_r2 hM) ?_
  refine xv_iload_n (pc := 52) d_Model_translate_52 rfl rfl ?_
  refine xv_ald (pc := 53) d_Model_translate_53 (xm_k2 hM) (xm_i2 hM (vp_in_nI (by omega) (by decide))) ?_
  refine xv_icmp_ge (pc := 54) 177 d_Model_translate_54 (by decide) (fun h54 => ?_) (fun h54 => ?_)
  · rw [hcf, hn1] at h54
    exact absurd h54 (nI_ge hk (by omega))
  refine xv_aload_n (pc := 57) d_Model_translate_57 rfl rfl ?_
  refine xv_getR (pc := 58) d_Model_translate_58 f_Model_7 rfl hM.1 (xm_r0 hM) ?_
  refine xv_bipush (pc := 61) 40 d_Model_translate_61 (by decide) ?_
  refine xv_iload_n (pc := 63) d_Model_translate_63 rfl rfl ?_
  refine xv_imul (pc := 64) d_Model_translate_64 ?_
  refine xv_iload_n (pc := 65) d_Model_translate_65 rfl rfl ?_
  refine xv_iadd (pc := 66) d_Model_translate_66 ?_
  refine xv_ald (pc := 67) d_Model_translate_67 (xm_k0 hM) (by rw [xIdx40]; exact xm_i0 hM ii) ?_
  refine xv_istore_4 (pc := 68) d_Model_translate_68 (by decide) rfl ?_
  refine xv_aload_n (pc := 70) d_Model_translate_70 rfl rfl ?_
  refine xv_getR (pc := 71) d_Model_translate_71 f_Model_13 rfl hM.1 (xm_r1 hM) ?_
  refine xv_bipush (pc := 74) 40 d_Model_translate_74 (by decide) ?_
  refine xv_iload_n (pc := 76) d_Model_translate_76 rfl rfl ?_
  refine xv_imul (pc := 77) d_Model_translate_77 ?_
  refine xv_iload_n (pc := 78) d_Model_translate_78 rfl rfl ?_
  refine xv_iadd (pc := 79) d_Model_translate_79 ?_
  refine xv_ald (pc := 80) d_Model_translate_80 (xm_k1 hM) (by rw [xIdx40]; exact xm_i1 hM ii) ?_
  refine xv_istore_5 (pc := 81) d_Model_translate_81 (by decide) rfl ?_
  refine xv_iload (pc := 83) d_Model_translate_83 rfl ?_
  refine xv_iconst (pc := 85) 2 d_Model_translate_85 (by decide) ?_
  refine xv_icmp_ge (pc := 86) 103 d_Model_translate_86 (by decide) (fun h86 => ?_) (fun h86 => ?_)
  · rw [xIdx40, ci, tO, t2] at h86
    exact absurd h86 (by omega)
  rw [xIdx40, ci, tO, tA]
  refine xv_aload_n (pc := 89) d_Model_translate_89 rfl rfl ?_
  refine xv_iload_n (pc := 90) d_Model_translate_90 rfl rfl ?_
  refine xv_iload (pc := 91) d_Model_translate_91 rfl ?_
  refine xv_iload (pc := 93) d_Model_translate_93 rfl ?_
  refine xv_iconst (pc := 95) 0 d_Model_translate_95 (by decide) ?_
  refine xv_cV4i (pc := 96) (d1 := 0) (c_Model_put hM hf hT hn) m_Model_put l_Model_128 d_Model_translate_96 (by omega) (by decide : 11 < xv_nc) rfl hM.1 (Nat.le_of_ble_eq_true rfl) ⟨hN, hS⟩ (fun r w1 hw hN2 hS2 => ?_)
  obtain ⟨rfl, t1, p1⟩ := hw
  refine xv_pop_int (pc := 99) d_Model_translate_99 ?_
  refine xv_goto (pc := 100) 123 d_Model_translate_100 (by decide) ?_
  refine xv_iconst (pc := 123) 1 d_Model_translate_123 (by decide) ?_
  refine xv_istore_6 (pc := 124) d_Model_translate_124 (by decide) rfl ?_
  exact xv_no_4 (xv_no_5 (xv_no_7 (c w1 t1 p1 hN2 hS2)))
theorem xt_open {sc : Nat × (Nat → Int32)} {D M f n n1 s1 : Nat} {P : xv_P} {O : Nat → Nat} {A : Nat → Int32} {w : xv_M} (hM : xMo w M) (hf : f < 8) (hF : xFm w M f n O A) (hN : xv_N w ≤ n1) (hS : xv_S w ≤ s1) (hD : 3 ≤ D) {k d : Nat} (hk : k < n) (hd : d < 48) (ho : 2 ≤ O k) (c : xH1 sc D M f n1 s1 P (k + 1) (d + 1) (xv_si (xv_si w (M + 27) d (nI k)) (M + 28) d 0)) : xH1 sc D M f n1 s1 P k d w := by
  unfold xH1
  obtain ⟨hn1, hn40, htk⟩ := hF
  obtain ⟨tO, tO18, tA⟩ := htk k hk
  have hcf : (nI f).toNatClampNeg = f := nI_clamp (by omega)
  have hcd : (nI d).toNatClampNeg = d := nI_clamp (by omega)
  have idd : vp_in (nI d) 48 := vp_in_nI hd (by decide)
  have ci : (nI (40 * f + k)).toNatClampNeg = 40 * f + k := nI_clamp (by omega)
  have ii : vp_in (nI (40 * f + k)) 360 := vp_in_nI (by omega) (by decide)
  have t2 : ((2 : Int32) ≤ nI (O k)) ↔ 2 ≤ O k := nI_leI (a := 2) (by decide) (by omega)
  have es : nI k + Int32.ofInt 1 = nI (k + 1) := by rw [nI_succ]; rfl
  have ed : nI d + Int32.ofInt 1 = nI (d + 1) := by rw [nI_succ]; rfl
  refine xv_iload_n (pc := 47) d_Model_translate_47 rfl rfl ?_
  refine xv_aload_n (pc := 48) d_Model_translate_48 rfl rfl ?_
  refine xv_getR (pc := 49) d_Model_translate_49 f_Model_16 rfl hM.1 (xm_r2 hM) ?_
  refine xv_iload_n (pc := 52) d_Model_translate_52 rfl rfl ?_
  refine xv_ald (pc := 53) d_Model_translate_53 (xm_k2 hM) (xm_i2 hM (vp_in_nI (by omega) (by decide))) ?_
  refine xv_icmp_ge (pc := 54) 177 d_Model_translate_54 (by decide) (fun h54 => ?_) (fun h54 => ?_)
  · rw [hcf, hn1] at h54
    exact absurd h54 (nI_ge hk (by omega))
  refine xv_aload_n (pc := 57) d_Model_translate_57 rfl rfl ?_
  refine xv_getR (pc := 58) d_Model_translate_58 f_Model_7 rfl hM.1 (xm_r0 hM) ?_
  refine xv_bipush (pc := 61) 40 d_Model_translate_61 (by decide) ?_
  refine xv_iload_n (pc := 63) d_Model_translate_63 rfl rfl ?_
  refine xv_imul (pc := 64) d_Model_translate_64 ?_
  refine xv_iload_n (pc := 65) d_Model_translate_65 rfl rfl ?_
  refine xv_iadd (pc := 66) d_Model_translate_66 ?_
  refine xv_ald (pc := 67) d_Model_translate_67 (xm_k0 hM) (by rw [xIdx40]; exact xm_i0 hM ii) ?_
  refine xv_istore_4 (pc := 68) d_Model_translate_68 (by decide) rfl ?_
  refine xv_aload_n (pc := 70) d_Model_translate_70 rfl rfl ?_
  refine xv_getR (pc := 71) d_Model_translate_71 f_Model_13 rfl hM.1 (xm_r1 hM) ?_
  refine xv_bipush (pc := 74) 40 d_Model_translate_74 (by decide) ?_
  refine xv_iload_n (pc := 76) d_Model_translate_76 rfl rfl ?_
  refine xv_imul (pc := 77) d_Model_translate_77 ?_
  refine xv_iload_n (pc := 78) d_Model_translate_78 rfl rfl ?_
  refine xv_iadd (pc := 79) d_Model_translate_79 ?_
  refine xv_ald (pc := 80) d_Model_translate_80 (xm_k1 hM) (by rw [xIdx40]; exact xm_i1 hM ii) ?_
  refine xv_istore_5 (pc := 81) d_Model_translate_81 (by decide) rfl ?_
  refine xv_iload (pc := 83) d_Model_translate_83 rfl ?_
  refine xv_iconst (pc := 85) 2 d_Model_translate_85 (by decide) ?_
  refine xv_icmp_ge (pc := 86) 103 d_Model_translate_86 (by decide) (fun h86 => ?_) (fun h86 => ?_)
  case refine_2 =>
    rw [xIdx40, ci, tO, t2] at h86
    exact absurd ho h86
  refine xv_aload_n (pc := 103) d_Model_translate_103 rfl rfl ?_
  refine xv_getR (pc := 104) d_Model_translate_104 f_Model_89 rfl hM.1 (xm_r26 hM) ?_
  refine xv_iload_n (pc := 107) d_Model_translate_107 rfl rfl ?_
  refine xv_iload_n (pc := 108) d_Model_translate_108 rfl rfl ?_
  refine xv_ast (pc := 109) d_Model_translate_109 (xm_k26 hM) (xm_i26 hM idd) ?_
  refine xv_aload_n (pc := 110) d_Model_translate_110 rfl rfl ?_
  refine xv_getR (pc := 111) d_Model_translate_111 f_Model_92 rfl hM.1 (xm_r27 hM) ?_
  refine xv_iload_n (pc := 114) d_Model_translate_114 rfl rfl ?_
  refine xv_iinc_2 (pc := 115) (nI (d + 1)) d_Model_translate_115 ed (by decide) rfl ?_
  refine xv_iconst (pc := 118) 0 d_Model_translate_118 (by decide) ?_
  refine xv_ast (pc := 119) d_Model_translate_119 (xm_k27 hM) (xm_i27 hM idd) ?_
  refine xv_goto (pc := 120) 171 d_Model_translate_120 (by decide) ?_
  refine xv_iinc_3 (pc := 171) (nI (k + 1)) d_Model_translate_171 es (by decide) rfl ?_
  refine xv_goto (pc := 174) 47 d_Model_translate_174 (by decide) ?_
  rw [hcd]
  exact xv_no_4 (xv_no_5 (xv_no_6 (xv_no_7 c)))
theorem xt_behind {sc : Nat × (Nat → Int32)} {D M f n n1 s1 : Nat} {P : xv_P} {O : Nat → Nat} {A : Nat → Int32} {w : xv_M} (hM : xMo w M) (hf : f < 8) (hF : xFm w M f n O A) (hN : xv_N w ≤ n1) (hS : xv_S w ≤ s1) (hD : 3 ≤ D) {k d s : Nat} {b : Bool} {Q : xv_M → Prop} (hd : d < 48) (hs : s < 100) (hst : xv_i w (M + 28) d = nI s) (cb : xv_C sc 2 J_Model_behind [.ref M, .int (nI f), .int (nI d)] (xv_si w (M + 28) d (nI (s + 1))) (xv_N w) (xv_S w) (xv_pi (fun r w' => r = xB b ∧ Q w'))) (c1 : b = true → ∀ w', Q w' → xv_N w' = xv_N w → xv_S w' = xv_S w → xH2 sc D M f n1 s1 P k d w') (c0 : b = false → ∀ w', Q w' → xv_N w' = xv_N w → xv_S w' = xv_S w → xH1 sc D M f n1 s1 P (k + 1) (d + 1) w') : xH2 sc D M f n1 s1 P k (d + 1) w := by
  unfold xH2
  have hcd : (nI d).toNatClampNeg = d := nI_clamp (by omega)
  have idd : vp_in (nI d) 48 := vp_in_nI hd (by decide)
  have ep : nI (d + 1) - 1 = nI d := nI_pred d
  have es : nI k + Int32.ofInt 1 = nI (k + 1) := by rw [nI_succ]; rfl
  have e1 : nI s + 1 = nI (s + 1) := by rw [nI_succ]
  have ed : nI (d + 1) + Int32.ofInt (-1) = nI d := by
    rw [nI_succ, Int32.add_assoc]
    exact Int32.add_zero _
  refine xv_iload (pc := 126) d_Model_translate_126 rfl ?_
  refine xv_if_eq (pc := 128) 171 d_Model_translate_128 (by decide) (fun h128 => ?_) (fun h128 => ?_)
  · exact absurd h128 (by decide)
  refine xv_iload_n (pc := 131) d_Model_translate_131 rfl rfl ?_
  refine xv_if_le (pc := 132) 171 d_Model_translate_132 (by decide) (fun h132 => ?_) (fun h132 => ?_)
  · rw [nI_le0 (by omega)] at h132
    omega
  refine xv_iload_n (pc := 135) d_Model_translate_135 rfl rfl ?_
  refine xv_iconst (pc := 136) 1 d_Model_translate_136 (by decide) ?_
  refine xv_isub (pc := 137) d_Model_translate_137 ?_
  refine xv_istore_7 (pc := 138) d_Model_translate_138 (by decide) rfl ?_
  refine xv_aload_n (pc := 140) d_Model_translate_140 rfl rfl ?_
  refine xv_getR (pc := 141) d_Model_translate_141 f_Model_92 rfl hM.1 (xm_r27 hM) ?_
  refine xv_iload (pc := 144) d_Model_translate_144 rfl ?_
  refine xv_dup2 (pc := 146) d_Model_translate_146 ?_
  refine xv_ald (pc := 147) d_Model_translate_147 (xm_k27 hM) (by rw [ep]; exact xm_i27 hM idd) ?_
  refine xv_iconst (pc := 148) 1 d_Model_translate_148 (by decide) ?_
  refine xv_iadd (pc := 149) d_Model_translate_149 ?_
  refine xv_ast (pc := 150) d_Model_translate_150 (xm_k27 hM) (by rw [ep]; exact xm_i27 hM idd) ?_
  refine xv_aload_n (pc := 151) d_Model_translate_151 rfl rfl ?_
  refine xv_iload_n (pc := 152) d_Model_translate_152 rfl rfl ?_
  refine xv_iload (pc := 153) d_Model_translate_153 rfl ?_
  rw [ep, hcd, hst, e1]
  refine xv_cV2i (pc := 155) cb m_Model_behind l_Model_132 d_Model_translate_155 (by omega) (by decide : 11 < xv_nc) rfl hM.1 (Nat.le_of_ble_eq_true rfl) ⟨hN, hS⟩ (fun r w1 hw hN2 hS2 => ?_)
  obtain ⟨rfl, hq⟩ := hw
  refine xv_istore_6 (pc := 158) d_Model_translate_158 (by decide) rfl ?_
  refine xv_iload (pc := 160) d_Model_translate_160 rfl ?_
  refine xv_if_eq (pc := 162) 168 d_Model_translate_162 (by decide) (fun h162 => ?_) (fun h162 => ?_)
  · have e := xB_eq h162
    subst e
    refine xv_goto (pc := 168) 126 d_Model_translate_168 (by decide) ?_
    refine xv_iload (pc := 126) d_Model_translate_126 rfl ?_
    refine xv_if_eq (pc := 128) 171 d_Model_translate_128 (by decide) (fun h128 => ?_) (fun h128 => ?_)
    · skip
      refine xv_iinc_3 (pc := 171) (nI (k + 1)) d_Model_translate_171 es (by decide) rfl ?_
      refine xv_goto (pc := 174) 47 d_Model_translate_174 (by decide) ?_
      exact xv_no_4 (xv_no_5 (xv_no_6 (xv_no_7 (c0 rfl w1 hq hN2 hS2))))
    · exact absurd rfl h128
  · have e := xB_ne h162
    subst e
    refine xv_iinc_2 (pc := 165) (nI d) d_Model_translate_165 ed (by decide) rfl ?_
    refine xv_goto (pc := 168) 126 d_Model_translate_168 (by decide) ?_
    exact xv_no_4 (xv_no_5 (xv_no_7 (c1 rfl w1 hq hN2 hS2)))

