/-! Compiler.emitForm, translate -/
def xVF (O : Nat → Nat) (n : Nat) : Nat → Nat → Prop
  | 0, _ => False
  | k + 1, p => p < n ∧ ∀ j, j < xPa (O p) → xVF O n k (xIt (xNx O k) j (p + 1))
theorem xSumN_mono {f : Nat → Nat} {i j : Nat} (h : i ≤ j) : xSumN f i ≤ xSumN f j := by
  induction h with
  | refl => exact Nat.le_refl _
  | step _ ih => exact Nat.le_trans ih (Nat.le_add_right _ _)
theorem c_Comp_emitForm {sc : Nat × (Nat → Int32)} {u : xv_M} {h x fm o a t n : Nat} {O : Nat → Nat} {A : Nat → Int32} (hC : xCp u h x fm o a t) (hT : xTk u fm o a n O A) : ∀ (k p : Nat) (σ : xQ), xVF O n k p → xSt O (xv_i u t) k p → σ.1 + xSz O k p ≤ 264 → xv_C sc (2 * k + 2) J_Comp_emitForm [.ref h, .int (nI p)] (xEM u h x σ) (xv_N u) (xv_S u) (xv_pv (fun w => w = xEM u h x (xEmF O A k p σ))) := by
  have hC0 := hC
  have hap := xCp_ap hC
  have hro := fun σ => xCp_o (σ := σ) hC
  obtain ⟨k0, r0, r1, r2, hE, hFo, hno⟩ := hC
  obtain ⟨ke, e0, e1, e7, kt, lt, ks, ls, kc, c0, c1, c2, ko, lo, kf, lf, kg, lg⟩ := hE
  obtain ⟨kF, f0, f1, f4, kO, lO, kA, lA, kT, lT⟩ := hFo
  obtain ⟨hn, hn40, htk⟩ := hT
  intro k
  induction k with
  | zero => intro p σ hv; exact absurd hv id
  | succ k ih =>
    intro p σ hv hst hlt
    obtain ⟨hpn, hv⟩ := hv
    obtain ⟨hO, hO18, hA⟩ := htk p hpn
    have hcp : (nI p).toNatClampNeg = p := nI_clamp (by omega)
    have hP3 := xPa_3 (O p)
    have hs : ∀ j, j < xPa (O p) → xv_i u t (p * 3 + j) = nI (xIt (xNx O k) j (p + 1)) := fun j hj => (hst j hj).1
    have hR : ∀ j, j < xPa (O p) → xRec sc u h x (2 * k + 2) (xEmF O A k) (xSz O k) (xIt (xNx O k) j (p + 1)) := fun j hj σ' hσ => ih _ σ' (hv j hj) (hst j hj).2 hσ
    have hF : ∀ j σ, (xEmF O A k (xIt (xNx O k) j (p + 1)) σ).1 = σ.1 + xSz O k (xIt (xNx O k) j (p + 1)) := fun j σ => xEmF_n k _ σ
    have hG : xEmF O A (k + 1) p σ = xEo (xEmF O A k) (fun j => xIt (xNx O k) j (p + 1)) (O p) (A p) σ := rfl
    have hlt : σ.1 + (xOwn (O p) + xSumN (fun j => xSz O k (xIt (xNx O k) j (p + 1))) (xPa (O p))) ≤ 264 := hlt
    rw [hG]
    clear hG
    generalize hss : (fun j => xIt (xNx O k) j (p + 1)) = s at *
    have hs : ∀ j, j < xPa (O p) → xv_i u t (p * 3 + j) = nI (s j) := fun j hj => by rw [← hss]; exact hs j hj
    have hR : ∀ j, j < xPa (O p) → xRec sc u h x (2 * k + 2) (xEmF O A k) (xSz O k) (s j) := fun j hj => by rw [← hss]; exact hR j hj
    have hF : ∀ j σ, (xEmF O A k (s j) σ).1 = σ.1 + xSz O k (s j) := fun j σ => by rw [← hss]; exact hF j σ
    have hlt : σ.1 + (xOwn (O p) + xSumN (fun j => xSz O k (s j)) (xPa (O p))) ≤ 264 := by rw [← hss]; exact hlt
    clear hss hst hv ih
    rw [show 2 * (k + 1) + 2 = 2 * k + 4 by omega]
    refine xv_C_of (by decide) (Nat.le_refl _) (Nat.le_refl _) (xv_cat1 rfl) (Nat.le_of_ble_eq_true rfl) ?_
    show xv_X sc (2 * k + 4) J_Comp_emitForm 0 [some (.ref h), some (.int (nI p)), none, none, none] [] (xEM u h x σ) (xv_N u) (xv_S u) _
    refine xv_iload_n (pc := 0) d_Comp_emitForm_0 rfl rfl ?_
    refine xv_if_lt (pc := 1) 15 d_Comp_emitForm_1 (by decide) (fun h1 => ?_) (fun h1 => ?_)
    · exact absurd h1 (nI_pos (by omega))
    refine xv_iload_n (pc := 4) d_Comp_emitForm_4 rfl rfl ?_
    refine xv_aload_n (pc := 5) d_Comp_emitForm_5 rfl rfl ?_
    refine xv_getR (pc := 6) d_Comp_emitForm_6 f_Comp_9 rfl k0 r0 ?_
    refine xv_getI (pc := 9) d_Comp_emitForm_9 f_Comp_74 rfl kF ?_
    refine xv_icmp_lt (pc := 12) 16 d_Comp_emitForm_12 (by decide) (fun h12 => ?_) (fun h12 => ?_)
    case refine_2 =>
      rw [(hro _).1, hn] at h12
      exact absurd (nI_lt hpn (by omega)) h12
    refine xv_aload_n (pc := 16) d_Comp_emitForm_16 rfl rfl ?_
    refine xv_getR (pc := 17) d_Comp_emitForm_17 f_Comp_9 rfl k0 r0 ?_
    refine xv_getR (pc := 20) d_Comp_emitForm_20 f_Comp_75 rfl kF f0 ?_
    refine xv_iload_n (pc := 23) d_Comp_emitForm_23 rfl rfl ?_
    refine xv_ald (pc := 24) d_Comp_emitForm_24 kO (by show vp_in _ (xv_l u o); rw [lO]; exact vp_in_nI (by omega) (by decide)) ?_
    refine xv_istore_2 (pc := 25) d_Comp_emitForm_25 (by decide) rfl ?_
    refine xv_aload_n (pc := 26) d_Comp_emitForm_26 rfl rfl ?_
    refine xv_getR (pc := 27) d_Comp_emitForm_27 f_Comp_9 rfl k0 r0 ?_
    refine xv_getR (pc := 30) d_Comp_emitForm_30 f_Comp_78 rfl kF f1 ?_
    refine xv_iload_n (pc := 33) d_Comp_emitForm_33 rfl rfl ?_
    refine xv_ald (pc := 34) d_Comp_emitForm_34 kA (by show vp_in _ (xv_l u a); rw [lA]; exact vp_in_nI (by omega) (by decide)) ?_
    refine xv_istore_3 (pc := 35) d_Comp_emitForm_35 (by decide) rfl ?_
    refine xv_iload_n (pc := 36) d_Comp_emitForm_36 rfl rfl ?_
    rw [hcp, (hro _).2.1, (hro _).2.2.1, hO, hA]
    by_cases e0 : O p = 0
    · rw [e0] at hlt ⊢
      have hlt : σ.1 + (1 + 0) ≤ 264 := hlt
      refine xv_tableIn (pc := 37) (off := 83) 120 d_Comp_emitForm_37 (by decide) (by decide) (by decide) (by decide) ?_
      refine xv_aload_n (pc := 120) d_Comp_emitForm_120 rfl rfl ?_
      refine xv_iconst (pc := 121) 0 d_Comp_emitForm_121 (by decide) ?_
      refine xv_iload_n (pc := 122) d_Comp_emitForm_122 rfl rfl ?_
      refine xv_cV2v (pc := 123) (c_emV (op := 0) rfl hC0 (by decide) (by omega)) m_Comp_emit l_Comp_41 d_Comp_emitForm_123 (by omega) (by decide : 6 < xv_nc) rfl k0 (Nat.le_of_ble_eq_true rfl) ⟨Nat.le_refl _, Nat.le_refl _⟩ (fun w hw hN hS => ?_)
      subst w
      refine xv_goto (pc := 126) 280 d_Comp_emitForm_126 (by decide) ?_
      exact xv_retvq (pc := 280) d_Comp_emitForm_280 rfl rfl rfl ⟨rfl, rfl⟩
    by_cases e1 : O p = 1
    · rw [e1] at hlt ⊢
      have hlt : σ.1 + (1 + 0) ≤ 264 := hlt
      refine xv_tableIn (pc := 37) (off := 92) 129 d_Comp_emitForm_37 (by decide) (by decide) (by decide) (by decide) ?_
      refine xv_aload_n (pc := 129) d_Comp_emitForm_129 rfl rfl ?_
      refine xv_iconst (pc := 130) 1 d_Comp_emitForm_130 (by decide) ?_
      refine xv_iload_n (pc := 131) d_Comp_emitForm_131 rfl rfl ?_
      refine xv_cV2v (pc := 132) (c_emV (op := 1) rfl hC0 (by decide) (by omega)) m_Comp_emit l_Comp_41 d_Comp_emitForm_132 (by omega) (by decide : 6 < xv_nc) rfl k0 (Nat.le_of_ble_eq_true rfl) ⟨Nat.le_refl _, Nat.le_refl _⟩ (fun w hw hN hS => ?_)
      subst w
      refine xv_goto (pc := 135) 280 d_Comp_emitForm_135 (by decide) ?_
      exact xv_retvq (pc := 280) d_Comp_emitForm_280 rfl rfl rfl ⟨rfl, rfl⟩
    by_cases e13 : O p = 13
    · rw [e13] at hlt hs hR ⊢
      have hlt : σ.1 + (2 + (((0 + xSz O k (s 0)) + xSz O k (s 1)) + xSz O k (s 2))) ≤ 264 := hlt
      refine xv_tableIn (pc := 37) (off := 101) 138 d_Comp_emitForm_37 (by decide) (by decide) (by decide) (by decide) ?_
      refine xv_aload_n (pc := 138) d_Comp_emitForm_138 rfl rfl ?_
      refine xv_iload_n (pc := 139) d_Comp_emitForm_139 rfl rfl ?_
      refine xv_cV1v (pc := 140) (c_Comp_emitIf (d := 2 * k + 1) (F := xEmF O A k) (z := xSz O k) (s := s) hC0 (by omega) hA hF hs hR hlt) m_Comp_emitIf l_Comp_81 d_Comp_emitForm_140 (by omega) (by decide : 6 < xv_nc) rfl k0 (Nat.le_of_ble_eq_true rfl) ⟨Nat.le_refl _, Nat.le_refl _⟩ (fun w hw hN hS => ?_)
      subst w
      refine xv_goto (pc := 143) 280 d_Comp_emitForm_143 (by decide) ?_
      exact xv_retvq (pc := 280) d_Comp_emitForm_280 rfl rfl rfl ⟨rfl, rfl⟩
    by_cases e14 : O p = 14
    · rw [e14] at hlt hs hR ⊢
      have hlt : σ.1 + (1 + ((0 + xSz O k (s 0)) + xSz O k (s 1))) ≤ 264 := hlt
      refine xv_tableIn (pc := 37) (off := 109) 146 d_Comp_emitForm_37 (by decide) (by decide) (by decide) (by decide) ?_
      refine xv_aload_n (pc := 146) d_Comp_emitForm_146 rfl rfl ?_
      refine xv_aload_n (pc := 147) d_Comp_emitForm_147 rfl rfl ?_
      refine xv_getR (pc := 148) d_Comp_emitForm_148 f_Comp_9 rfl k0 r0 ?_
      refine xv_iload_n (pc := 151) d_Comp_emitForm_151 rfl rfl ?_
      refine xv_iconst (pc := 152) 0 d_Comp_emitForm_152 (by decide) ?_
      refine xv_cV2i (pc := 153) (c_stV (j := 0) rfl hC0 (by omega) (by decide) (hs 0 (by decide))) m_Form_start l_Comp_84 d_Comp_emitForm_153 (by omega) (by decide : 0 < xv_nc) rfl kF (Nat.le_of_ble_eq_true rfl) ⟨Nat.le_refl _, Nat.le_refl _⟩ (fun r w hw hN hS => ?_)
      obtain ⟨rfl, hw⟩ := hw
      subst w
      refine xv_cV1v (pc := 156) (hR 0 (by decide) σ (by omega)) m_Comp_emitForm l_Comp_45 d_Comp_emitForm_156 (by omega) (by decide : 6 < xv_nc) rfl k0 (Nat.le_of_ble_eq_true rfl) ⟨Nat.le_refl _, Nat.le_refl _⟩ (fun w hw hN hS => ?_)
      subst w
      have n1 := hF 0 σ
      refine xv_aload_n (pc := 159) d_Comp_emitForm_159 rfl rfl ?_
      refine xv_bipush (pc := 160) 13 d_Comp_emitForm_160 (by decide) ?_
      refine xv_iload_n (pc := 162) d_Comp_emitForm_162 rfl rfl ?_
      refine xv_cV2v (pc := 163) (c_emV (op := 13) rfl hC0 (by decide) (by omega)) m_Comp_emit l_Comp_41 d_Comp_emitForm_163 (by omega) (by decide : 6 < xv_nc) rfl k0 (Nat.le_of_ble_eq_true rfl) ⟨Nat.le_refl _, Nat.le_refl _⟩ (fun w hw hN hS => ?_)
      subst w
      have n2 : (xEm (xEmF O A k (s 0) σ) 13 (A p)).1 = (xEmF O A k (s 0) σ).1 + 1 := rfl
      refine xv_aload_n (pc := 166) d_Comp_emitForm_166 rfl rfl ?_
      refine xv_aload_n (pc := 167) d_Comp_emitForm_167 rfl rfl ?_
      refine xv_getR (pc := 168) d_Comp_emitForm_168 f_Comp_9 rfl k0 r0 ?_
      refine xv_iload_n (pc := 171) d_Comp_emitForm_171 rfl rfl ?_
      refine xv_iconst (pc := 172) 1 d_Comp_emitForm_172 (by decide) ?_
      refine xv_cV2i (pc := 173) (c_stV (j := 1) rfl hC0 (by omega) (by decide) (hs 1 (by decide))) m_Form_start l_Comp_84 d_Comp_emitForm_173 (by omega) (by decide : 0 < xv_nc) rfl kF (Nat.le_of_ble_eq_true rfl) ⟨Nat.le_refl _, Nat.le_refl _⟩ (fun r w hw hN hS => ?_)
      obtain ⟨rfl, hw⟩ := hw
      subst w
      refine xv_cV1v (pc := 176) (hR 1 (by decide) _ (by omega)) m_Comp_emitForm l_Comp_45 d_Comp_emitForm_176 (by omega) (by decide : 6 < xv_nc) rfl k0 (Nat.le_of_ble_eq_true rfl) ⟨Nat.le_refl _, Nat.le_refl _⟩ (fun w hw hN hS => ?_)
      subst w
      refine xv_goto (pc := 179) 280 d_Comp_emitForm_179 (by decide) ?_
      exact xv_retvq (pc := 280) d_Comp_emitForm_280 rfl rfl rfl ⟨rfl, rfl⟩
    by_cases e15 : O p = 15
    · rw [e15] at hlt hs hR ⊢
      have hlt : σ.1 + (2 + (0 + xSz O k (s 0))) ≤ 264 := hlt
      refine xv_tableIn (pc := 37) (off := 145) 182 d_Comp_emitForm_37 (by decide) (by decide) (by decide) (by decide) ?_
      refine xv_aload_n (pc := 182) d_Comp_emitForm_182 rfl rfl ?_
      refine xv_aload_n (pc := 183) d_Comp_emitForm_183 rfl rfl ?_
      refine xv_getR (pc := 184) d_Comp_emitForm_184 f_Comp_9 rfl k0 r0 ?_
      refine xv_iload_n (pc := 187) d_Comp_emitForm_187 rfl rfl ?_
      refine xv_iconst (pc := 188) 0 d_Comp_emitForm_188 (by decide) ?_
      refine xv_cV2i (pc := 189) (c_stV (j := 0) rfl hC0 (by omega) (by decide) (hs 0 (by decide))) m_Form_start l_Comp_84 d_Comp_emitForm_189 (by omega) (by decide : 0 < xv_nc) rfl kF (Nat.le_of_ble_eq_true rfl) ⟨Nat.le_refl _, Nat.le_refl _⟩ (fun r w hw hN hS => ?_)
      obtain ⟨rfl, hw⟩ := hw
      subst w
      refine xv_cV1v (pc := 192) (hR 0 (by decide) σ (by omega)) m_Comp_emitForm l_Comp_45 d_Comp_emitForm_192 (by omega) (by decide : 6 < xv_nc) rfl k0 (Nat.le_of_ble_eq_true rfl) ⟨Nat.le_refl _, Nat.le_refl _⟩ (fun w hw hN hS => ?_)
      subst w
      have n1 := hF 0 σ
      refine xv_aload_n (pc := 195) d_Comp_emitForm_195 rfl rfl ?_
      refine xv_bipush (pc := 196) 19 d_Comp_emitForm_196 (by decide) ?_
      refine xv_iconst (pc := 198) 0 d_Comp_emitForm_198 (by decide) ?_
      refine xv_cV2v (pc := 199) (c_emV (op := 19) rfl hC0 (by decide) (by omega)) m_Comp_emit l_Comp_41 d_Comp_emitForm_199 (by omega) (by decide : 6 < xv_nc) rfl k0 (Nat.le_of_ble_eq_true rfl) ⟨Nat.le_refl _, Nat.le_refl _⟩ (fun w hw hN hS => ?_)
      subst w
      have n2 : (xEm (xEmF O A k (s 0) σ) 19 0).1 = (xEmF O A k (s 0) σ).1 + 1 := rfl
      refine xv_aload_n (pc := 202) d_Comp_emitForm_202 rfl rfl ?_
      refine xv_bipush (pc := 203) 13 d_Comp_emitForm_203 (by decide) ?_
      refine xv_iload_n (pc := 205) d_Comp_emitForm_205 rfl rfl ?_
      refine xv_cV2v (pc := 206) (c_emV (op := 13) rfl hC0 (by decide) (by omega)) m_Comp_emit l_Comp_41 d_Comp_emitForm_206 (by omega) (by decide : 6 < xv_nc) rfl k0 (Nat.le_of_ble_eq_true rfl) ⟨Nat.le_refl _, Nat.le_refl _⟩ (fun w hw hN hS => ?_)
      subst w
      refine xv_goto (pc := 209) 280 d_Comp_emitForm_209 (by decide) ?_
      exact xv_retvq (pc := 280) d_Comp_emitForm_280 rfl rfl rfl ⟨rfl, rfl⟩
    by_cases e16 : O p = 16
    · rw [e16] at hlt hs hR ⊢
      have hlt : σ.1 + (12 + ((0 + xSz O k (s 0)) + xSz O k (s 1))) ≤ 264 := hlt
      refine xv_tableIn (pc := 37) (off := 175) 212 d_Comp_emitForm_37 (by decide) (by decide) (by decide) (by decide) ?_
      refine xv_aload_n (pc := 212) d_Comp_emitForm_212 rfl rfl ?_
      refine xv_iload_n (pc := 213) d_Comp_emitForm_213 rfl rfl ?_
      refine xv_cV1v (pc := 214) (c_Comp_emitTimes (d := 2 * k + 1) (F := xEmF O A k) (z := xSz O k) (s := s) hC0 (by omega) hA hF hs hR hlt (by omega)) m_Comp_emitTimes l_Comp_87 d_Comp_emitForm_214 (by omega) (by decide : 6 < xv_nc) rfl k0 (Nat.le_of_ble_eq_true rfl) ⟨Nat.le_refl _, Nat.le_refl _⟩ (fun w hw hN hS => ?_)
      subst w
      refine xv_goto (pc := 217) 280 d_Comp_emitForm_217 (by decide) ?_
      exact xv_retvq (pc := 280) d_Comp_emitForm_280 rfl rfl rfl ⟨rfl, rfl⟩
    have eo : xEo (xEmF O A k) s (O p) (A p) σ = if O p = 17 then xEm (xEp (xEmF O A k) s (xPa (O p)) σ) 16 (A p) else xEm (xEp (xEmF O A k) s (xPa (O p)) σ) (O p) 0 := by
      unfold xEo
      rw [if_neg e0, if_neg e1, if_neg e13, if_neg e14, if_neg e15, if_neg e16]
    rw [eo]
    have ho : xOwn (O p) = 1 := by unfold xOwn; rw [if_neg (by omega), if_neg e16]
    rw [ho] at hlt
    have nE : ∀ m, (xEp (xEmF O A k) s m σ).1 = σ.1 + xSumN (fun j => xSz O k (s j)) m := fun m => xEp_n (z := fun j => xSz O k (s j)) hF m
    have hT17 : (nI (O p) = 17) ↔ O p = 17 := nI_eq (b := 17) (by omega) (by decide)
    refine xv_tableTo (pc := 37) 220 [0, 1, 13, 14, 15, 16] d_Comp_emitForm_37 (by decide) (by decide) (by decide) (List.forall_mem_cons.mpr ⟨nI_neT (by omega) e0, (List.forall_mem_cons.mpr ⟨nI_neT (by omega) e1, (List.forall_mem_cons.mpr ⟨nI_neT (by omega) e13, (List.forall_mem_cons.mpr ⟨nI_neT (by omega) e14, (List.forall_mem_cons.mpr ⟨nI_neT (by omega) e15, (List.forall_mem_cons.mpr ⟨nI_neT (by omega) e16, (fun _ h => absurd h List.not_mem_nil)⟩)⟩)⟩)⟩)⟩)⟩) ?_
    refine xv_iconst (pc := 220) 0 d_Comp_emitForm_220 (by decide) ?_
    refine xv_istore_4 (pc := 221) d_Comp_emitForm_221 (by decide) rfl ?_
    have loop : ∀ (r j : Nat), j + r = xPa (O p) → xv_X sc (2 * k + 4) J_Comp_emitForm 223 [some (.ref h), some (.int (nI p)), some (.int (nI (O p))), some (.int (A p)), some (.int (nI j))] [] (xEM u h x (xEp (xEmF O A k) s j σ)) (xv_N u) (xv_S u) (xv_q (xv_N u) (xv_S u) (xv_pv (fun w => w = xEM u h x (if O p = 17 then xEm (xEp (xEmF O A k) s (xPa (O p)) σ) 16 (A p) else xEm (xEp (xEmF O A k) s (xPa (O p)) σ) (O p) 0)))) := by
      intro r
      induction r with
      | zero =>
        intro j hj
        have hj : j = xPa (O p) := by omega
        subst hj
        refine xv_iload (pc := 223) d_Comp_emitForm_223 rfl ?_
        refine xv_gets (pc := 225) d_Comp_emitForm_225 (by decide : 0 < xv_ns) s_Comp_90 ?_
        refine xv_iload_n (pc := 228) d_Comp_emitForm_228 rfl rfl ?_
        refine xv_aldS (pc := 229) d_Comp_emitForm_229 (by decide) (vp_in_nI hO18 (by decide)) ?_
        refine xv_icmp_ge (pc := 230) 253 d_Comp_emitForm_230 (by decide) (fun h230 => ?_) (fun h230 => ?_)
        case refine_2 =>
          rw [nI_clamp (by omega), xPa_sf _ hO18] at h230
          exact absurd (nI_le (Nat.le_refl _) (by omega)) h230
        have nP := nE (xPa (O p))
        refine xv_aload_n (pc := 253) d_Comp_emitForm_253 rfl rfl ?_
        refine xv_iload_n (pc := 254) d_Comp_emitForm_254 rfl rfl ?_
        refine xv_bipush (pc := 255) 17 d_Comp_emitForm_255 (by decide) ?_
        refine xv_icmp_ne (pc := 257) 265 d_Comp_emitForm_257 (by decide) (fun h257 => ?_) (fun h257 => ?_)
        · have e17 : ¬ O p = 17 := fun e => h257 (hT17.mpr e)
          rw [if_neg e17]
          refine xv_iload_n (pc := 265) d_Comp_emitForm_265 rfl rfl ?_
          refine xv_iload_n (pc := 266) d_Comp_emitForm_266 rfl rfl ?_
          refine xv_bipush (pc := 267) 17 d_Comp_emitForm_267 (by decide) ?_
          refine xv_icmp_ne (pc := 269) 276 d_Comp_emitForm_269 (by decide) (fun h269 => ?_) (fun h269 => ?_)
          · refine xv_iconst (pc := 276) 0 d_Comp_emitForm_276 (by decide) ?_
            refine xv_cV2v (pc := 277) (c_emV (op := O p) rfl hC0 (by omega) (by omega)) m_Comp_emit l_Comp_41 d_Comp_emitForm_277 (by omega) (by decide : 6 < xv_nc) rfl k0 (Nat.le_of_ble_eq_true rfl) ⟨Nat.le_refl _, Nat.le_refl _⟩ (fun w hw hN hS => ?_)
            subst w
            exact xv_retvq (pc := 280) d_Comp_emitForm_280 rfl rfl rfl ⟨rfl, rfl⟩
          · exact absurd h269 h257
        · have e17 : O p = 17 := hT17.mp h257
          rw [if_pos e17]
          refine xv_bipush (pc := 260) 16 d_Comp_emitForm_260 (by decide) ?_
          refine xv_goto (pc := 262) 266 d_Comp_emitForm_262 (by decide) ?_
          refine xv_iload_n (pc := 266) d_Comp_emitForm_266 rfl rfl ?_
          refine xv_bipush (pc := 267) 17 d_Comp_emitForm_267 (by decide) ?_
          refine xv_icmp_ne (pc := 269) 276 d_Comp_emitForm_269 (by decide) (fun h269 => ?_) (fun h269 => ?_)
          · exact absurd h257 h269
          · refine xv_iload_n (pc := 272) d_Comp_emitForm_272 rfl rfl ?_
            refine xv_goto (pc := 273) 277 d_Comp_emitForm_273 (by decide) ?_
            refine xv_cV2v (pc := 277) (c_emV (op := 16) rfl hC0 (by decide) (by omega)) m_Comp_emit l_Comp_41 d_Comp_emitForm_277 (by omega) (by decide : 6 < xv_nc) rfl k0 (Nat.le_of_ble_eq_true rfl) ⟨Nat.le_refl _, Nat.le_refl _⟩ (fun w hw hN hS => ?_)
            subst w
            exact xv_retvq (pc := 280) d_Comp_emitForm_280 rfl rfl rfl ⟨rfl, rfl⟩
      | succ r ihr =>
        intro j hj
        have es : nI j + Int32.ofInt 1 = nI (j + 1) := by rw [nI_succ]; rfl
        refine xv_iload (pc := 223) d_Comp_emitForm_223 rfl ?_
        refine xv_gets (pc := 225) d_Comp_emitForm_225 (by decide : 0 < xv_ns) s_Comp_90 ?_
        refine xv_iload_n (pc := 228) d_Comp_emitForm_228 rfl rfl ?_
        refine xv_aldS (pc := 229) d_Comp_emitForm_229 (by decide) (vp_in_nI hO18 (by decide)) ?_
        refine xv_icmp_ge (pc := 230) 253 d_Comp_emitForm_230 (by decide) (fun h230 => ?_) (fun h230 => ?_)
        · rw [nI_clamp (by omega), xPa_sf _ hO18] at h230
          exact absurd h230 (nI_ge (by omega) (by omega))
        have nJ := nE j
        have hsum : xSumN (fun j => xSz O k (s j)) (j + 1) ≤ xSumN (fun j => xSz O k (s j)) (xPa (O p)) := xSumN_mono (by omega)
        have hsum : xSumN (fun j => xSz O k (s j)) j + xSz O k (s j) ≤ xSumN (fun j => xSz O k (s j)) (xPa (O p)) := hsum
        refine xv_aload_n (pc := 233) d_Comp_emitForm_233 rfl rfl ?_
        refine xv_aload_n (pc := 234) d_Comp_emitForm_234 rfl rfl ?_
        refine xv_getR (pc := 235) d_Comp_emitForm_235 f_Comp_9 rfl k0 r0 ?_
        refine xv_iload_n (pc := 238) d_Comp_emitForm_238 rfl rfl ?_
        refine xv_iload (pc := 239) d_Comp_emitForm_239 rfl ?_
        refine xv_cV2i (pc := 241) (c_stV (j := j) rfl hC0 (by omega) (by omega) (hs j (by omega))) m_Form_start l_Comp_84 d_Comp_emitForm_241 (by omega) (by decide : 0 < xv_nc) rfl kF (Nat.le_of_ble_eq_true rfl) ⟨Nat.le_refl _, Nat.le_refl _⟩ (fun r2 w hw hN hS => ?_)
        obtain ⟨rfl, hw⟩ := hw
        subst w
        refine xv_cV1v (pc := 244) (hR j (by omega) _ (by omega)) m_Comp_emitForm l_Comp_45 d_Comp_emitForm_244 (by omega) (by decide : 6 < xv_nc) rfl k0 (Nat.le_of_ble_eq_true rfl) ⟨Nat.le_refl _, Nat.le_refl _⟩ (fun w hw hN hS => ?_)
        subst w
        refine xv_iinc_4 (pc := 247) (nI (j + 1)) d_Comp_emitForm_247 es (by decide) rfl ?_
        refine xv_goto (pc := 250) 223 d_Comp_emitForm_250 (by decide) ?_
        exact ihr (j + 1) (by omega)
    exact loop (xPa (O p)) 0 (by omega)

