/-! the interpreter's forms; Interpreter.answerOfLower -/
theorem xv_C_mono {sc : Nat × (Nat → Int32)} {d : Nat} {J : xv_J} {as : List Value} {u : xv_M} {n1 s1 : Nat} {P P' : xv_P} (h : ∀ o w, P o w → P' o w) (c : xv_C sc d J as u n1 s1 P) : xv_C sc d J as u n1 s1 P' := by
  obtain ⟨c1, c2, c3⟩ := c
  refine ⟨c1, c2, fun l G hG hL => MetFree.mono (c3 l G hG hL) (fun _ _ hp => hp) (fun _ _ _ _ _ hk => hk) (fun a s o s' _ hq => ?_)⟩
  obtain ⟨⟨o1, w, q1, q2⟩, q3⟩ := hq
  exact ⟨⟨o1, w, h _ _ q1, q2⟩, q3⟩
def xFc (u : xv_M) (B : Nat) (L nP : Nat → Nat) (O : Nat → Nat → Nat) (A : Nat → Nat → Int32) : Prop := ∀ g, g < 8 → xTk u (B + 10 * g) (B + 10 * g + 1) (B + 10 * g + 2) (L g) (O g) (A g) ∧ xv_i u (B + 10 * g) 3 = nI (nP g) ∧ (0 < L g → xSt (O g) (xv_i u (B + 10 * g + 3)) 41 0)
def xII (u : xv_M) (h ma fa oa B : Nat) (L nP : Nat → Nat) (O : Nat → Nat → Nat) (A : Nat → Nat → Int32) : Prop := xIn u h ma fa oa B ∧ xFc u B L nP O A
def xIF (B f b : Nat) : Prop := ∃ g, g ≤ f ∧ xFO B g b
def xIL (B f b : Nat) : Prop := xFS (B + 10 * f + 4) b ∨ ∃ g, g < f ∧ xFO B g b
theorem xIL_IF {B f b : Nat} (h : xIL B f b) : xIF B f b := by
  rcases h with h | ⟨g, hg, h⟩
  · exact ⟨f, Nat.le_refl _, Or.inl h⟩
  · exact ⟨g, Nat.le_of_lt hg, h⟩
theorem xFO_n {B g b : Nat} (h : xFO B g b) : B + 10 * g + 4 ≤ b ∧ b ≤ B + 10 * g + 9 := by
  unfold xFO xFS at h
  omega
theorem xSi_II {u w : xv_M} {h ma fa oa B f : Nat} {L nP : Nat → Nat} {O : Nat → Nat → Nat} {A : Nat → Nat → Int32} (z : xSi (xIF B f) u w) (H : xII u h ma fa oa B L nP O A) : xII w h ma fa oa B L nP O A := by
  refine ⟨xSi_In z H.1, fun g hg => ?_⟩
  have key : ∀ i, i ≤ 3 → xv_i w (B + 10 * g + i) = xv_i u (B + 10 * g + i) := fun i hi => z.2.2.2.2.2.2 _ (fun q => by
    obtain ⟨g', -, hq⟩ := q
    have := xFO_n hq
    omega)
  have k0 : xv_i w (B + 10 * g) = xv_i u (B + 10 * g) := key 0 (by decide)
  unfold xTk
  rw [k0, key 1 (by decide), key 2 (by decide), key 3 (by decide)]
  exact H.2 g hg
theorem xSi_FI {u w : xv_M} {B f : Nat} (h : xSi (xFS (B + 10 * f + 4)) u w) : xSi (xIL B f) u w := xSi_mono h (fun _ ha => Or.inl ha)
theorem xSi_LI {u w : xv_M} {B f : Nat} (h : xSi (xIL B f) u w) : xSi (xIF B f) u w := xSi_mono h (fun _ ha => xIL_IF ha)
theorem xSi_OI {u w : xv_M} {B f : Nat} (h : xSi (xFO B f) u w) : xSi (xIF B f) u w := xSi_mono h (fun _ ha => ⟨f, Nat.le_refl _, ha⟩)
theorem xSi_aL {u w : xv_M} {B a f : Nat} (h : xSi (xIF B a) u w) (haf : a < f) : xSi (xIL B f) u w := xSi_mono h (fun _ ha => by
  obtain ⟨g, hg, hq⟩ := ha
  exact Or.inr ⟨g, by omega, hq⟩)
theorem xFs_keepI {u w : xv_M} {B a f : Nat} {σ : xZ} (z : xSi (xIF B a) u w) (haf : a < f) (hs : xFs u (B + 10 * f + 4) σ) : xFs w (B + 10 * f + 4) σ := by
  have key : ∀ i, i ≤ 2 → xv_i w (B + 10 * f + 4 + i) = xv_i u (B + 10 * f + 4 + i) := fun i hi => z.2.2.2.2.2.2 _ (fun q => by
    obtain ⟨g', hg, hq⟩ := q
    have := xFO_n hq
    omega)
  have k0 : xv_i w (B + 10 * f + 4) = xv_i u (B + 10 * f + 4) := key 0 (by decide)
  unfold xFs
  rw [k0, key 1 (by decide), key 2 (by decide)]
  exact hs
theorem xOs_keepI {u w : xv_M} {B f : Nat} {π : xY} (z : xSi (xIL B f) u w) (hs : xOs u (B + 10 * f + 7) π) : xOs w (B + 10 * f + 7) π := by
  have key : ∀ i, i ≤ 2 → xv_i w (B + 10 * f + 7 + i) = xv_i u (B + 10 * f + 7 + i) := fun i hi => z.2.2.2.2.2.2 _ (fun q => by
    rcases q with q | ⟨g', hg, hq⟩
    · unfold xFS at q
      omega
    · have := xFO_n hq
      omega)
  have k0 : xv_i w (B + 10 * f + 7) = xv_i u (B + 10 * f + 7) := key 0 (by decide)
  unfold xOs
  rw [k0, key 1 (by decide), key 2 (by decide)]
  exact hs
theorem c_Interp_low {sc : Nat × (Nat → Int32)} {u : xv_M} {h ma fa oa B f a d : Nat} {L nP : Nat → Nat} {O : Nat → Nat → Nat} {A : Nat → Nat → Int32} {σ : xZ} (H : xII u h ma fa oa B L nP O A) (hf : f < 8) (haf : a < f) (hs : xFs u (B + 10 * f + 4) σ) (h3 : 3 ≤ σ.2.2) (h42 : σ.2.2 ≤ 42) {v : Int32} (hans : ∀ u', xII u' h ma fa oa B L nP O A → xv_C sc d J_Interp_answer [.ref h, .int (nI a), .int (xTp (xPo (xPo σ))), .int (xTp (xPo σ)), .int (xTp σ)] u' (xv_N u') (xv_S u') (xv_pi (fun r w => r = v ∧ xSi (xIF B a) u' w))) : xv_C sc (d + 2) J_Interp_answerOfLower [.ref h, .int (nI f), .int (nI a)] u (xv_N u) (xv_S u) (xv_pi (fun r w => r = v ∧ xFs w (B + 10 * f + 4) (xPo (xPo (xPo σ))) ∧ xSi (xIL B f) u w)) := by
  have H0 := H
  obtain ⟨⟨k0, r0, r1, r2, kc, lc, kf, lf, ko, lo, hfs⟩, hU⟩ := H
  obtain ⟨f1, f2, f3, f5, f4, f6⟩ := hfs f hf
  have hcf : (nI f).toNatClampNeg = f := nI_clamp (by omega)
  have hif : vp_in (nI f) 8 := vp_in_nI hf (by decide)
  obtain ⟨n, hn⟩ : ∃ n, σ.2.2 = n + 1 := ⟨σ.2.2 - 1, by omega⟩
  obtain ⟨m, hm⟩ : ∃ m, n = m + 1 := ⟨n - 1, by omega⟩
  obtain ⟨l, hl⟩ : ∃ l, m = l + 1 := ⟨m - 1, by omega⟩
  refine xv_C_of (by decide) (Nat.le_refl _) (Nat.le_refl _) (xv_cat1 rfl) (Nat.le_of_ble_eq_true rfl) ?_
  show xv_X sc (d + 2) J_Interp_answerOfLower 0 [some (.ref h), some (.int (nI f)), some (.int (nI a)), none, none, none, none] [] u (xv_N u) (xv_S u) _
  refine xv_aload_n (pc := 0) d_Interp_answerOfLower_0 rfl rfl ?_
  refine xv_getR (pc := 1) d_Interp_answerOfLower_1 f_Interp_19 rfl k0 r1 ?_
  refine xv_iload_n (pc := 4) d_Interp_answerOfLower_4 rfl rfl ?_
  refine xv_aald (pc := 5) (t := 1) d_Interp_answerOfLower_5 kf rfl (by rw [lf]; exact hif) (by rw [hcf]; exact f2) ?_
  refine xv_astore_3 (pc := 6) d_Interp_answerOfLower_6 (by decide) rfl ?_
  refine xv_aload_n (pc := 7) d_Interp_answerOfLower_7 rfl rfl ?_
  refine xv_cV0i (pc := 8) (c_Frame_pop (n := n) f4 (by rw [hs.2.2, hn]) (by omega)) m_Frame_pop l_Interp_69 d_Interp_answerOfLower_8 (by omega) (by decide : 1 < xv_nc) rfl f4.1 (Nat.le_of_ble_eq_true rfl) ⟨Nat.le_refl _, Nat.le_refl _⟩ (fun r w hw hN hS => ?_)
  obtain ⟨hr, hw⟩ := hw
  have hr : r = xTp σ := by rw [hr, hs.2.1 n (by omega)]; unfold xTp; rw [hn]; rfl
  subst hr
  obtain ⟨g1, s1⟩ := xFs_po hs hn hw
  clear hw
  have F1 := xSi_Fr s1 f4
  have n1 : (xPo σ).2.2 = n := by show σ.2.2 - 1 = n; omega
  refine xv_istore_4 (pc := 11) d_Interp_answerOfLower_11 (by decide) rfl ?_
  refine xv_aload_n (pc := 13) d_Interp_answerOfLower_13 rfl rfl ?_
  refine xv_cV0i (pc := 14) (c_Frame_pop (u := w) (n := m) F1 (by rw [g1.2.2, n1, hm]) (by omega)) m_Frame_pop l_Interp_69 d_Interp_answerOfLower_14 (by omega) (by decide : 1 < xv_nc) rfl F1.1 (Nat.le_of_ble_eq_true rfl) (xSi_le s1) (fun r w2 hw hN hS => ?_)
  obtain ⟨hr, hw⟩ := hw
  have hr : r = xTp (xPo σ) := by rw [hr, g1.2.1 m (by omega)]; unfold xTp; rw [n1, hm]; rfl
  subst hr
  obtain ⟨g2, s2⟩ := xFs_po g1 (n1.trans hm) hw
  clear hw
  have s3 := xSi_tr s1 s2
  have F2 := xSi_Fr s3 f4
  have n2 : (xPo (xPo σ)).2.2 = m := by show (xPo σ).2.2 - 1 = m; omega
  refine xv_istore_5 (pc := 17) d_Interp_answerOfLower_17 (by decide) rfl ?_
  refine xv_aload_n (pc := 19) d_Interp_answerOfLower_19 rfl rfl ?_
  refine xv_cV0i (pc := 20) (c_Frame_pop (u := w2) (n := l) F2 (by rw [g2.2.2, n2, hl]) (by omega)) m_Frame_pop l_Interp_69 d_Interp_answerOfLower_20 (by omega) (by decide : 1 < xv_nc) rfl F2.1 (Nat.le_of_ble_eq_true rfl) (xSi_le s3) (fun r w3 hw hN hS => ?_)
  obtain ⟨hr, hw⟩ := hw
  have hr : r = xTp (xPo (xPo σ)) := by rw [hr, g2.2.1 l (by omega)]; unfold xTp; rw [n2, hl]; rfl
  subst hr
  obtain ⟨g3, s4⟩ := xFs_po g2 (n2.trans hl) hw
  clear hw
  have s5 := xSi_FI (xSi_tr s3 s4)
  have H3 := xSi_II (xSi_LI s5) H0
  refine xv_istore_6 (pc := 23) d_Interp_answerOfLower_23 (by decide) rfl ?_
  refine xv_aload_n (pc := 25) d_Interp_answerOfLower_25 rfl rfl ?_
  refine xv_iload_n (pc := 26) d_Interp_answerOfLower_26 rfl rfl ?_
  refine xv_iload_n (pc := 27) d_Interp_answerOfLower_27 rfl rfl ?_
  refine xv_icmp_ge (pc := 28) 35 d_Interp_answerOfLower_28 (by decide) (fun h28 => ?_) (fun h28 => ?_)
  · exact absurd h28 (nI_ge haf (by omega))
  refine xv_iload_n (pc := 31) d_Interp_answerOfLower_31 rfl rfl ?_
  refine xv_goto (pc := 32) 36 d_Interp_answerOfLower_32 (by decide) ?_
  refine xv_iload (pc := 36) d_Interp_answerOfLower_36 rfl ?_
  refine xv_iload (pc := 38) d_Interp_answerOfLower_38 rfl ?_
  refine xv_iload (pc := 40) d_Interp_answerOfLower_40 rfl ?_
  refine xv_cV4i (pc := 42) (hans _ H3) m_Interp_answer l_Interp_136 d_Interp_answerOfLower_42 (by omega) (by decide : 3 < xv_nc) rfl H3.1.1 (Nat.le_of_ble_eq_true rfl) (xSi_le s5) (fun r w5 hw hN hS => ?_)
  obtain ⟨hr, s6⟩ := hw
  subst hr
  have s7 := xSi_tr s5 (xSi_aL s6 haf)
  exact xv_retiq (pc := 45) d_Interp_answerOfLower_45 rfl s7.1 s7.2.1 ⟨_, rfl, rfl, xFs_keepI s6 haf g3, s7⟩
theorem c_Interp_low_x {sc : Nat × (Nat → Int32)} {u : xv_M} {h ma fa oa B f a d : Nat} {L nP : Nat → Nat} {O : Nat → Nat → Nat} {A : Nat → Nat → Int32} {σ : xZ} (H : xII u h ma fa oa B L nP O A) (hf : f < 8) (haf : a < f) (hs : xFs u (B + 10 * f + 4) σ) (h3 : 3 ≤ σ.2.2) (h42 : σ.2.2 ≤ 42) {k : Nat} (hans : ∀ u', xII u' h ma fa oa B L nP O A → xv_C sc d J_Interp_answer [.ref h, .int (nI a), .int (xTp (xPo (xPo σ))), .int (xTp (xPo σ)), .int (xTp σ)] u' (xv_N u' + 1) (xv_S u' + 6) (xv_px k (fun e w => ∃ w0, xSi (xIF B a) u' w0 ∧ e = xv_N u' ∧ w = xv_nw w0 (k + 1) 0 6))) : xv_C sc (d + 2) J_Interp_answerOfLower [.ref h, .int (nI f), .int (nI a)] u (xv_N u + 1) (xv_S u + 6) (xv_px k (fun e w => ∃ w0, xSi (xIL B f) u w0 ∧ e = xv_N u ∧ w = xv_nw w0 (k + 1) 0 6)) := by
  have H0 := H
  obtain ⟨⟨k0, r0, r1, r2, kc, lc, kf, lf, ko, lo, hfs⟩, hU⟩ := H
  obtain ⟨f1, f2, f3, f5, f4, f6⟩ := hfs f hf
  have hcf : (nI f).toNatClampNeg = f := nI_clamp (by omega)
  have hif : vp_in (nI f) 8 := vp_in_nI hf (by decide)
  obtain ⟨n, hn⟩ : ∃ n, σ.2.2 = n + 1 := ⟨σ.2.2 - 1, by omega⟩
  obtain ⟨m, hm⟩ : ∃ m, n = m + 1 := ⟨n - 1, by omega⟩
  obtain ⟨l, hl⟩ : ∃ l, m = l + 1 := ⟨m - 1, by omega⟩
  refine xv_C_of (by decide) (by omega) (by omega) (xv_cat1 rfl) (Nat.le_of_ble_eq_true rfl) ?_
  show xv_X sc (d + 2) J_Interp_answerOfLower 0 [some (.ref h), some (.int (nI f)), some (.int (nI a)), none, none, none, none] [] u (xv_N u + 1) (xv_S u + 6) _
  refine xv_aload_n (pc := 0) d_Interp_answerOfLower_0 rfl rfl ?_
  refine xv_getR (pc := 1) d_Interp_answerOfLower_1 f_Interp_19 rfl k0 r1 ?_
  refine xv_iload_n (pc := 4) d_Interp_answerOfLower_4 rfl rfl ?_
  refine xv_aald (pc := 5) (t := 1) d_Interp_answerOfLower_5 kf rfl (by rw [lf]; exact hif) (by rw [hcf]; exact f2) ?_
  refine xv_astore_3 (pc := 6) d_Interp_answerOfLower_6 (by decide) rfl ?_
  refine xv_aload_n (pc := 7) d_Interp_answerOfLower_7 rfl rfl ?_
  refine xv_cV0i (pc := 8) (c_Frame_pop (n := n) f4 (by rw [hs.2.2, hn]) (by omega)) m_Frame_pop l_Interp_69 d_Interp_answerOfLower_8 (by omega) (by decide : 1 < xv_nc) rfl f4.1 (Nat.le_of_ble_eq_true rfl) ⟨by omega, by omega⟩ (fun r w hw hN hS => ?_)
  obtain ⟨hr, hw⟩ := hw
  have hr : r = xTp σ := by rw [hr, hs.2.1 n (by omega)]; unfold xTp; rw [hn]; rfl
  subst hr
  obtain ⟨g1, s1⟩ := xFs_po hs hn hw
  clear hw
  have F1 := xSi_Fr s1 f4
  have n1 : (xPo σ).2.2 = n := by show σ.2.2 - 1 = n; omega
  refine xv_istore_4 (pc := 11) d_Interp_answerOfLower_11 (by decide) rfl ?_
  refine xv_aload_n (pc := 13) d_Interp_answerOfLower_13 rfl rfl ?_
  refine xv_cV0i (pc := 14) (c_Frame_pop (u := w) (n := m) F1 (by rw [g1.2.2, n1, hm]) (by omega)) m_Frame_pop l_Interp_69 d_Interp_answerOfLower_14 (by omega) (by decide : 1 < xv_nc) rfl F1.1 (Nat.le_of_ble_eq_true rfl) ⟨by have := s1.1; omega, by have := s1.2.1; omega⟩ (fun r w2 hw hN hS => ?_)
  obtain ⟨hr, hw⟩ := hw
  have hr : r = xTp (xPo σ) := by rw [hr, g1.2.1 m (by omega)]; unfold xTp; rw [n1, hm]; rfl
  subst hr
  obtain ⟨g2, s2⟩ := xFs_po g1 (n1.trans hm) hw
  clear hw
  have s3 := xSi_tr s1 s2
  have F2 := xSi_Fr s3 f4
  have n2 : (xPo (xPo σ)).2.2 = m := by show (xPo σ).2.2 - 1 = m; omega
  refine xv_istore_5 (pc := 17) d_Interp_answerOfLower_17 (by decide) rfl ?_
  refine xv_aload_n (pc := 19) d_Interp_answerOfLower_19 rfl rfl ?_
  refine xv_cV0i (pc := 20) (c_Frame_pop (u := w2) (n := l) F2 (by rw [g2.2.2, n2, hl]) (by omega)) m_Frame_pop l_Interp_69 d_Interp_answerOfLower_20 (by omega) (by decide : 1 < xv_nc) rfl F2.1 (Nat.le_of_ble_eq_true rfl) ⟨by have := s3.1; omega, by have := s3.2.1; omega⟩ (fun r w3 hw hN hS => ?_)
  obtain ⟨hr, hw⟩ := hw
  have hr : r = xTp (xPo (xPo σ)) := by rw [hr, g2.2.1 l (by omega)]; unfold xTp; rw [n2, hl]; rfl
  subst hr
  obtain ⟨g3, s4⟩ := xFs_po g2 (n2.trans hl) hw
  clear hw
  have s5 := xSi_FI (xSi_tr s3 s4)
  have H3 := xSi_II (xSi_LI s5) H0
  refine xv_istore_6 (pc := 23) d_Interp_answerOfLower_23 (by decide) rfl ?_
  refine xv_aload_n (pc := 25) d_Interp_answerOfLower_25 rfl rfl ?_
  refine xv_iload_n (pc := 26) d_Interp_answerOfLower_26 rfl rfl ?_
  refine xv_iload_n (pc := 27) d_Interp_answerOfLower_27 rfl rfl ?_
  refine xv_icmp_ge (pc := 28) 35 d_Interp_answerOfLower_28 (by decide) (fun h28 => ?_) (fun h28 => ?_)
  · exact absurd h28 (nI_ge haf (by omega))
  rw [← s5.1, ← s5.2.1]
  refine xv_iload_n (pc := 31) d_Interp_answerOfLower_31 rfl rfl ?_
  refine xv_goto (pc := 32) 36 d_Interp_answerOfLower_32 (by decide) ?_
  refine xv_iload (pc := 36) d_Interp_answerOfLower_36 rfl ?_
  refine xv_iload (pc := 38) d_Interp_answerOfLower_38 rfl ?_
  refine xv_iload (pc := 40) d_Interp_answerOfLower_40 rfl ?_
  exact xv_tV4 (pc := 42) (hans _ H3) m_Interp_answer l_Interp_136 d_Interp_answerOfLower_42 (by omega) (by decide : 3 < xv_nc) rfl H3.1.1 (Nat.le_of_ble_eq_true rfl) ⟨Nat.le_refl _, Nat.le_refl _⟩ (fun e w ⟨w0, z1, z2⟩ g2 g3 => ⟨⟨_, rfl, w0, xSi_tr s5 (xSi_aL z1 haf), z2⟩, g2, g3⟩)

