/-! Interpreter.finish at a CALL, and where it throws -/
theorem c_Interp_finish_c {sc : Nat × (Nat → Int32)} {u : xv_M} {h ma fa oa B f a d : Nat} {L nP : Nat → Nat} {O : Nat → Nat → Nat} {A : Nat → Nat → Int32} {σ : xZ} (H : xII u h ma fa oa B L nP O A) (hf : f < 8) (haf : a < f) (hs : xFs u (B + 10 * f + 4) σ) (h3 : 3 ≤ σ.2.2) (h42 : σ.2.2 ≤ 42) {v : Int32} (hans : ∀ u', xII u' h ma fa oa B L nP O A → xv_C sc d J_Interp_answer [.ref h, .int (nI a), .int (xTp (xPo (xPo σ))), .int (xTp (xPo σ)), .int (xTp σ)] u' (xv_N u') (xv_S u') (xv_pi (fun r w => r = v ∧ xSi (xIF B a) u' w))) : xv_C sc (d + 3) J_Interp_finish [.ref h, .int (nI f), .int (nI 17), .int (nI a)] u (xv_N u) (xv_S u) (xv_pv (fun w => xFs w (B + 10 * f + 4) (xPu (xPo (xPo (xPo σ))) v) ∧ xSi (xIL B f) u w)) := by
  have H0 := H
  obtain ⟨⟨k0, r0, r1, r2, kc, lc, kf, lf, ko, lo, hfs⟩, hU⟩ := H
  obtain ⟨f1, f2, f3, f4, f5, f6⟩ := hfs f hf
  have hcf : (nI f).toNatClampNeg = f := nI_clamp (by omega)
  have hif : vp_in (nI f) 8 := vp_in_nI hf (by decide)
  refine xv_C_of (by decide) (Nat.le_refl _) (Nat.le_refl _) (xv_cat1 rfl) (Nat.le_of_ble_eq_true rfl) ?_
  show xv_X sc (d + 3) J_Interp_finish 0 [some (.ref h), some (.int (nI f)), some (.int (nI 17)), some (.int (nI a)), none, none] [] u (xv_N u) (xv_S u) _
  refine xv_aload_n (pc := 0) d_Interp_finish_0 rfl rfl ?_
  refine xv_getR (pc := 1) d_Interp_finish_1 f_Interp_19 rfl k0 r1 ?_
  refine xv_iload_n (pc := 4) d_Interp_finish_4 rfl rfl ?_
  refine xv_aald (pc := 5) (t := 1) d_Interp_finish_5 kf rfl (by rw [lf]; exact hif) (by rw [hcf]; exact f2) ?_
  refine xv_astore_4 (pc := 6) d_Interp_finish_6 (by decide) rfl ?_
  refine xv_iload_n (pc := 8) d_Interp_finish_8 rfl rfl ?_
  refine xv_lookup (pc := 9) (off := 104) 113 d_Interp_finish_9 (by decide) (by decide) (by decide) ?_
  refine xv_aload (pc := 113) d_Interp_finish_113 rfl ?_
  refine xv_aload_n (pc := 115) d_Interp_finish_115 rfl rfl ?_
  refine xv_iload_n (pc := 116) d_Interp_finish_116 rfl rfl ?_
  refine xv_iload_n (pc := 117) d_Interp_finish_117 rfl rfl ?_
  refine xv_cV2i (pc := 118) (c_Interp_low H0 hf haf hs h3 h42 hans) m_Interp_answerOfLower l_Interp_129 d_Interp_finish_118 (by omega) (by decide : 3 < xv_nc) rfl k0 (Nat.le_of_ble_eq_true rfl) ⟨Nat.le_refl _, Nat.le_refl _⟩ (fun r w hw hN hS => ?_)
  obtain ⟨hr, g1, s1⟩ := hw
  subst hr
  have F1 := xSi_Fr s1 f5
  have n1 : (xPo (xPo (xPo σ))).2.2 = σ.2.2 - 1 - 1 - 1 := rfl
  refine xv_cV1v (pc := 121) (c_Frame_push (n := (xPo (xPo (xPo σ))).2.2) F1 g1.2.2 (by omega)) m_Frame_push l_Interp_123 d_Interp_finish_121 (by omega) (by decide : 1 < xv_nc) rfl F1.1 (Nat.le_of_ble_eq_true rfl) (xSi_le s1) (fun w2 hw hN hS => ?_)
  obtain ⟨g2, s2⟩ := xFs_pu g1 hw
  have s3 := xSi_tr s1 (xSi_FI s2)
  refine xv_goto (pc := 124) 150 d_Interp_finish_124 (by decide) ?_
  exact xv_retvq (pc := 150) d_Interp_finish_150 rfl s3.1 s3.2.1 ⟨rfl, g2, s3⟩
theorem c_Interp_finish_cx {sc : Nat × (Nat → Int32)} {u : xv_M} {h ma fa oa B f a d : Nat} {L nP : Nat → Nat} {O : Nat → Nat → Nat} {A : Nat → Nat → Int32} {σ : xZ} (H : xII u h ma fa oa B L nP O A) (hf : f < 8) (haf : a < f) (hs : xFs u (B + 10 * f + 4) σ) (h3 : 3 ≤ σ.2.2) (h42 : σ.2.2 ≤ 42) {k : Nat} (hans : ∀ u', xII u' h ma fa oa B L nP O A → xv_C sc d J_Interp_answer [.ref h, .int (nI a), .int (xTp (xPo (xPo σ))), .int (xTp (xPo σ)), .int (xTp σ)] u' (xv_N u' + 1) (xv_S u' + 6) (xv_px k (fun e w => ∃ w0, xSi (xIF B a) u' w0 ∧ e = xv_N u' ∧ w = xv_nw w0 (k + 1) 0 6))) : xv_C sc (d + 3) J_Interp_finish [.ref h, .int (nI f), .int (nI 17), .int (nI a)] u (xv_N u + 1) (xv_S u + 6) (xv_px k (fun e w => ∃ w0, xSi (xIL B f) u w0 ∧ e = xv_N u ∧ w = xv_nw w0 (k + 1) 0 6)) := by
  have H0 := H
  obtain ⟨⟨k0, r0, r1, r2, kc, lc, kf, lf, ko, lo, hfs⟩, hU⟩ := H
  obtain ⟨f1, f2, f3, f4, f5, f6⟩ := hfs f hf
  have hcf : (nI f).toNatClampNeg = f := nI_clamp (by omega)
  have hif : vp_in (nI f) 8 := vp_in_nI hf (by decide)
  refine xv_C_of (by decide) (by omega) (by omega) (xv_cat1 rfl) (Nat.le_of_ble_eq_true rfl) ?_
  show xv_X sc (d + 3) J_Interp_finish 0 [some (.ref h), some (.int (nI f)), some (.int (nI 17)), some (.int (nI a)), none, none] [] u (xv_N u + 1) (xv_S u + 6) _
  refine xv_aload_n (pc := 0) d_Interp_finish_0 rfl rfl ?_
  refine xv_getR (pc := 1) d_Interp_finish_1 f_Interp_19 rfl k0 r1 ?_
  refine xv_iload_n (pc := 4) d_Interp_finish_4 rfl rfl ?_
  refine xv_aald (pc := 5) (t := 1) d_Interp_finish_5 kf rfl (by rw [lf]; exact hif) (by rw [hcf]; exact f2) ?_
  refine xv_astore_4 (pc := 6) d_Interp_finish_6 (by decide) rfl ?_
  refine xv_iload_n (pc := 8) d_Interp_finish_8 rfl rfl ?_
  refine xv_lookup (pc := 9) (off := 104) 113 d_Interp_finish_9 (by decide) (by decide) (by decide) ?_
  refine xv_aload (pc := 113) d_Interp_finish_113 rfl ?_
  refine xv_aload_n (pc := 115) d_Interp_finish_115 rfl rfl ?_
  refine xv_iload_n (pc := 116) d_Interp_finish_116 rfl rfl ?_
  refine xv_iload_n (pc := 117) d_Interp_finish_117 rfl rfl ?_
  exact xv_tV2 (pc := 118) (c_Interp_low_x (d := d) H0 hf haf hs h3 h42 hans) m_Interp_answerOfLower l_Interp_129 d_Interp_finish_118 (by omega) (by decide : 3 < xv_nc) rfl k0 (Nat.le_of_ble_eq_true rfl) ⟨Nat.le_refl _, Nat.le_refl _⟩ (fun e w hp g2 g3 => ⟨⟨_, rfl, hp⟩, g2, g3⟩)
theorem c_Interp_finish_x {sc : Nat × (Nat → Int32)} {u : xv_M} {h ma fa oa B f o : Nat} {σ : xZ} {a : Int32} (hI : xIn u h ma fa oa B) (hf : f < 8) (hs : xFs u (B + 10 * f + 4) σ) (ho : o = 5 ∨ o = 6) (h42 : σ.2.2 ≤ 42) (h2 : 2 ≤ σ.2.2) (hz : xTp σ = 0) : xv_C sc 8 J_Interp_finish [.ref h, .int (nI f), .int (nI o), .int a] u (xv_N u + 1) (xv_S u + 6) (xv_px 13 (fun e w => ∃ w0, xSi (xIL B f) u w0 ∧ e = xv_N u ∧ w = xv_nw w0 14 0 6)) := by
  obtain ⟨k0, r0, r1, r2, kc, lc, kf, lf, ko, lo, hfs⟩ := hI
  obtain ⟨f1, f2, f3, f4, f5, f6⟩ := hfs f hf
  have hcf : (nI f).toNatClampNeg = f := nI_clamp (by omega)
  have hif : vp_in (nI f) 8 := vp_in_nI hf (by decide)
  refine xv_C_of (by decide) (by omega) (by omega) (xv_cat1 rfl) (Nat.le_of_ble_eq_true rfl) ?_
  show xv_X sc 8 J_Interp_finish 0 [some (.ref h), some (.int (nI f)), some (.int (nI o)), some (.int a), none, none] [] u (xv_N u + 1) (xv_S u + 6) _
  refine xv_aload_n (pc := 0) d_Interp_finish_0 rfl rfl ?_
  refine xv_getR (pc := 1) d_Interp_finish_1 f_Interp_19 rfl k0 r1 ?_
  refine xv_iload_n (pc := 4) d_Interp_finish_4 rfl rfl ?_
  refine xv_aald (pc := 5) (t := 1) d_Interp_finish_5 kf rfl (by rw [lf]; exact hif) (by rw [hcf]; exact f2) ?_
  refine xv_astore_4 (pc := 6) d_Interp_finish_6 (by decide) rfl ?_
  refine xv_iload_n (pc := 8) d_Interp_finish_8 rfl rfl ?_
  have e0 : ¬ o = 0 := by omega
  have e1 : ¬ o = 1 := by omega
  have e12 : ¬ o = 12 := by omega
  have e15 : ¬ o = 15 := by omega
  have e17 : ¬ o = 17 := by omega
  obtain ⟨n, hn⟩ : ∃ n, σ.2.2 = n + 1 := ⟨σ.2.2 - 1, by omega⟩
  obtain ⟨m, hm⟩ : ∃ m, n = m + 1 := ⟨n - 1, by omega⟩
  refine xv_lookTo (pc := 9) 127 [0, 1, 12, 15, 17] d_Interp_finish_9 (by decide) (by decide) (by decide) (List.forall_mem_cons.mpr ⟨nI_neT (by omega) e0, (List.forall_mem_cons.mpr ⟨nI_neT (by omega) e1, (List.forall_mem_cons.mpr ⟨nI_neT (by omega) e12, (List.forall_mem_cons.mpr ⟨nI_neT (by omega) e15, (List.forall_mem_cons.mpr ⟨nI_neT (by omega) e17, (fun _ h => absurd h List.not_mem_nil)⟩)⟩)⟩)⟩)⟩) ?_
  refine xv_aload (pc := 127) d_Interp_finish_127 rfl ?_
  refine xv_cV0i (pc := 129) (c_Frame_pop (n := n) f5 (by rw [hs.2.2, hn]) (by omega)) m_Frame_pop l_Interp_69 d_Interp_finish_129 (by omega) (by decide : 1 < xv_nc) rfl f5.1 (Nat.le_of_ble_eq_true rfl) ⟨by omega, by omega⟩ (fun r w hw hN hS => ?_)
  obtain ⟨hr, hw⟩ := hw
  have hr : r = 0 := by rw [hr, hs.2.1 n (by omega), ← hz]; unfold xTp; rw [hn]; rfl
  subst hr
  obtain ⟨g1, s1⟩ := xFs_po hs hn hw
  clear hw
  have F1 := xSi_Fr s1 f5
  have n1 : (xPo σ).2.2 = n := by show σ.2.2 - 1 = n; omega
  refine xv_istore_5 (pc := 132) d_Interp_finish_132 (by decide) rfl ?_
  refine xv_aload (pc := 134) d_Interp_finish_134 rfl ?_
  refine xv_iload_n (pc := 136) d_Interp_finish_136 rfl rfl ?_
  refine xv_aload (pc := 137) d_Interp_finish_137 rfl ?_
  refine xv_cV0i (pc := 139) (c_Frame_pop (u := w) (n := m) F1 (by rw [g1.2.2, n1, hm]) (by omega)) m_Frame_pop l_Interp_69 d_Interp_finish_139 (by omega) (by decide : 1 < xv_nc) rfl F1.1 (Nat.le_of_ble_eq_true rfl) ⟨by have := s1.1; omega, by have := s1.2.1; omega⟩ (fun r w2 hw hN hS => ?_)
  obtain ⟨hr, hw⟩ := hw
  obtain ⟨g2, s2⟩ := xFs_po g1 (n1.trans hm) hw
  clear hw
  have s3 := xSi_tr s1 s2
  rw [← s3.1, ← s3.2.1]
  refine xv_iload (pc := 142) d_Interp_finish_142 rfl ?_
  exact xv_tS3 (pc := 144) (c_Ints_reckon_x (u := w2) ho) m_Ints_reckon l_Interp_132 d_Interp_finish_144 (by omega) (Nat.le_of_ble_eq_true rfl) ⟨Nat.le_refl _, Nat.le_refl _⟩ (fun a w hp g2 g3 => ⟨⟨_, rfl, w2, xSi_FI s3, hp⟩, g2, g3⟩)

