/-! the model: load, up to the image -/
theorem xFi_dup {num : Nat → Int32} {n e : Nat} (he : e < n) : xFi num (num e) n 0 < e ↔ ∃ k, k < e ∧ num k = num e := by
  have key : ∀ (x : Int32) r k, (∀ j, k ≤ j → j < xFi num x r k → ¬ num j = x) ∧ k ≤ xFi num x r k := by
    intro x r
    induction r with
    | zero => intro k; exact ⟨fun j h1 h2 => absurd h2 (by show ¬ j < k; omega), Nat.le_refl _⟩
    | succ r ih =>
      intro k
      unfold xFi
      by_cases c : num k = x
      · rw [if_pos c]; exact ⟨fun j h1 h2 => by omega, Nat.le_refl _⟩
      · rw [if_neg c]
        obtain ⟨a, b⟩ := ih (k + 1)
        refine ⟨fun j h1 h2 => ?_, by omega⟩
        by_cases e2 : j = k
        · subst e2; exact c
        · exact a j (by omega) h2
  constructor
  · intro h
    exact ⟨_, h, xFi_ne num (num e) n 0 (by omega)⟩
  · rintro ⟨k, hk, hx⟩
    exact Nat.not_le.mp (fun q => (key (num e) n 0).1 k (Nat.zero_le _) (by omega) hx)
/-- what load looks at -/
def xLv (u : xv_M) (M n : Nat) (L : Nat → Nat) (O : Nat → Nat → Nat) (sl ver : Nat → Bool) : Prop := xv_i u M 31 = nI n ∧ n ≤ 8 ∧ ∀ e, e < n → (xv_i u (M + 10) (8 + e) = nI (L e) ∧ 0 < L e ∧ L e ≤ 265) ∧ (∀ i, i < L e → xv_i u (M + 7) (280 * (8 + e) + i) = nI (O e i)) ∧
  sl e = ((decide (xv_i u (M + 20) e = xv_i u (M + 17) e) && decide (xv_i u (M + 16) e = xv_i u (M + 15) e)) && xSm (fun k => xv_i u (M + 21) (280 * e + k)) (fun k => xv_i u (M + 7) (280 * (8 + e) + k)) (L e)) ∧
  (∃ β, xHB (L e) (O e) (fun i => xv_i u (M + 8) (280 * (8 + e) + i)) (fun i => xv_i u (M + 9) (280 * (8 + e) + i)) β) ∧
  (xBad (L e) (O e) (fun i => xv_i u (M + 8) (280 * (8 + e) + i)) (fun i => xv_i u (M + 9) (280 * (8 + e) + i)) → ver e = false) ∧
  ∀ g, g ≤ 100 → xGdM (L e) (O e) (fun i => xv_i u (M + 8) (280 * (8 + e) + i)) (fun i => xv_i u (M + 9) (280 * (8 + e) + i)) g → (ver e = true ↔ nI g ≤ xv_i u (M + 11) (8 + e))
/-- a fault is told -/
def xFt (u : xv_M) (M : Nat) (p : Int32 × Int32) (r : Int32) (w : xv_M) : Prop := ¬ p.1 = 0 ∧ r = p.1 ∧ ∃ w0, xSi (xM12 M) u w0 ∧ w = xv_si (xv_si w0 M 33 (xv_i u M 33 + 1)) M 34 p.2
theorem c_load_pre {sc : Nat × (Nat → Int32)} {u : xv_M} {M n : Nat} {L : Nat → Nat} {O : Nat → Nat → Nat} {sl ver : Nat → Bool} {P0 : xv_P} (hM : xMo u M) (hV : xLv u M n L O sl ver) (hbad : ∀ r w, xFt u M (xFF (xv_i u M 29) (xv_i u M 30) (xv_i u M 31) n sl (fun e => xv_i u (M + 17) e) (fun e => xv_i u (M + 19) e) (fun e => xv_i u (M + 15) e) ver) r w → P0 (.inl (some (.int r))) w)
    (hgood : (xFF (xv_i u M 29) (xv_i u M 30) (xv_i u M 31) n sl (fun e => xv_i u (M + 17) e) (fun e => xv_i u (M + 19) e) (fun e => xv_i u (M + 15) e) ver).1 = 0 → ∀ (w : xv_M) (j2 : Option Value), xSi (xM12 M) u w → xv_X sc 2 J_Model_load 221 [some (.ref M), some (.int 0), none] [] w (xv_N u) (xv_S u) (xv_q (xv_N u) (xv_S u) P0)) : xv_X sc 2 J_Model_load 0 [some (.ref M), none, none] [] u (xv_N u) (xv_S u) (xv_q (xv_N u) (xv_S u) P0) := by
  obtain ⟨hn, hlt, hE⟩ := hV
  generalize hff : (xFF (xv_i u M 29) (xv_i u M 30) (xv_i u M 31) n sl (fun e => xv_i u (M + 17) e) (fun e => xv_i u (M + 19) e) (fun e => xv_i u (M + 15) e) ver) = FF at *
  unfold xFF at hff
  have tell : ∀ (w : xv_M) (c : Int32) (at_ : Int32), xSi (xM12 M) u w → FF = (c, at_) → ¬ c = 0 → ∀ r w', (r = c ∧ w' = xv_si (xv_si w M 33 (xv_i w M 33 + 1)) M 34 at_) → P0 (.inl (some (.int r))) w' := by
    intro w c at_ z hF hc r w' h
    obtain ⟨h1, h2⟩ := h
    refine hbad r w' ⟨by rw [hF]; exact hc, by rw [hF]; exact h1, w, z, ?_⟩
    rw [h2, hF, show xv_i w M 33 = xv_i u M 33 by rw [z.2.2.2.2.2.2 _ (fun q => by unfold xM12 at q; omega)]]
  refine xv_aload_n (pc := 0) d_Model_load_0 rfl rfl ?_
  refine xv_getI (pc := 1) d_Model_load_1 f_Model_184 rfl hM.1 ?_
  refine xv_if_eq (pc := 4) 14 d_Model_load_4 (by decide) (fun h4 => ?_) (fun h4 => ?_)
  case refine_2 =>
    rw [if_pos h4] at hff
    refine xv_aload_n (pc := 7) d_Model_load_7 rfl rfl ?_
    refine xv_iconst (pc := 8) 1 d_Model_load_8 (by decide) ?_
    refine xv_iconst (pc := 9) (-1) d_Model_load_9 (by decide) ?_
    refine xv_cV2i (pc := 10) (d1 := 0) (c_Model_fault hM) m_Model_fault l_Model_194 d_Model_load_10 (by omega) (by decide : 11 < xv_nc) rfl hM.1 (Nat.le_of_ble_eq_true rfl) ⟨Nat.le_refl _, Nat.le_refl _⟩ (fun r w hw hN hS => ?_)
    exact xv_retiq (pc := 13) d_Model_load_13 rfl hN hS (tell u 1 (-1) xSi_rf hff.symm (by decide) r w hw)
  rw [if_neg (fun q => q h4)] at hff
  refine xv_aload_n (pc := 14) d_Model_load_14 rfl rfl ?_
  refine xv_getI (pc := 15) d_Model_load_15 f_Model_181 rfl hM.1 ?_
  refine xv_aload_n (pc := 18) d_Model_load_18 rfl rfl ?_
  refine xv_getI (pc := 19) d_Model_load_19 f_Model_172 rfl hM.1 ?_
  refine xv_icmp_eq (pc := 22) 47 d_Model_load_22 (by decide) (fun h22 => ?_) (fun h22 => ?_)
  case refine_2 =>
    rw [if_pos h22] at hff
    refine xv_aload_n (pc := 25) d_Model_load_25 rfl rfl ?_
    refine xv_aload_n (pc := 26) d_Model_load_26 rfl rfl ?_
    refine xv_getI (pc := 27) d_Model_load_27 f_Model_181 rfl hM.1 ?_
    refine xv_aload_n (pc := 30) d_Model_load_30 rfl rfl ?_
    refine xv_getI (pc := 31) d_Model_load_31 f_Model_172 rfl hM.1 ?_
    refine xv_icmp_le (pc := 34) 41 d_Model_load_34 (by decide) (fun h34 => ?_) (fun h34 => ?_)
    · rw [if_neg (Int32.not_lt.mpr h34)] at hff
      refine xv_iconst (pc := 41) 3 d_Model_load_41 (by decide) ?_
      refine xv_iconst (pc := 42) (-1) d_Model_load_42 (by decide) ?_
      refine xv_cV2i (pc := 43) (d1 := 0) (c_Model_fault hM) m_Model_fault l_Model_194 d_Model_load_43 (by omega) (by decide : 11 < xv_nc) rfl hM.1 (Nat.le_of_ble_eq_true rfl) ⟨Nat.le_refl _, Nat.le_refl _⟩ (fun r w hw hN hS => ?_)
      exact xv_retiq (pc := 46) d_Model_load_46 rfl hN hS (tell u 3 (-1) xSi_rf hff.symm (by decide) r w hw)
    · rw [if_pos (Int32.not_le.mp h34)] at hff
      refine xv_iconst (pc := 37) 2 d_Model_load_37 (by decide) ?_
      refine xv_goto (pc := 38) 42 d_Model_load_38 (by decide) ?_
      refine xv_iconst (pc := 42) (-1) d_Model_load_42 (by decide) ?_
      refine xv_cV2i (pc := 43) (d1 := 0) (c_Model_fault hM) m_Model_fault l_Model_194 d_Model_load_43 (by omega) (by decide : 11 < xv_nc) rfl hM.1 (Nat.le_of_ble_eq_true rfl) ⟨Nat.le_refl _, Nat.le_refl _⟩ (fun r w hw hN hS => ?_)
      exact xv_retiq (pc := 46) d_Model_load_46 rfl hN hS (tell u 2 (-1) xSi_rf hff.symm (by decide) r w hw)
  rw [if_neg (fun q => q h22)] at hff
  generalize hR1 : xOd1 sl (fun e => xv_i u (M + 17) e) n n 0 (-1) = R1 at hff
  generalize hR2 : xOd2 (fun e => xv_i u (M + 17) e) (fun e => xv_i u (M + 19) e) (fun e => xv_i u (M + 15) e) n 0 R1.2 = R2 at hff
  generalize hR3 : xOd3 ver n 0 R2.2 = R3 at hff
  -- the third loop: the code
  have loop3 : R1.1 = 0 → R2.1 = 0 → ∀ (q e : Nat) (at_ : Int32) (w : xv_M), e + q = n → xOd3 ver q e at_ = R3 → xSi (xM12 M) u w → xv_X sc 2 J_Model_load 171 [some (.ref M), some (.int (nI e)), none] [] w (xv_N u) (xv_S u) (xv_q (xv_N u) (xv_S u) P0) := by
    intro r1 r2 q
    rw [if_neg (fun z => z r1), if_neg (fun z => z r2)] at hff
    induction q with
    | zero =>
      intro e at_ w he hx z
      have he : e = n := by omega
      subst he
      have hMw := xSi_Mo z hM
      have h31 : xv_i w M 31 = nI e := by rw [z.2.2.2.2.2.2 _ (fun q => by unfold xM12 at q; omega)]; exact hn
      refine xv_iload_n (pc := 171) d_Model_load_171 rfl rfl ?_
      refine xv_aload_n (pc := 172) d_Model_load_172 rfl rfl ?_
      refine xv_getI (pc := 173) d_Model_load_173 f_Model_172 rfl hMw.1 ?_
      refine xv_icmp_ge (pc := 176) 219 d_Model_load_176 (by decide) (fun h176 => ?_) (fun h176 => ?_)
      case refine_2 =>
        rw [h31] at h176
        exact absurd (Int32.le_refl _) h176
      refine xv_iconst (pc := 219) 0 d_Model_load_219 (by decide) ?_
      refine xv_istore_1 (pc := 220) d_Model_load_220 (by decide) rfl ?_
      refine hgood ?_ w none z
      rw [← hff, ← hx]
      rfl
    | succ q ih =>
      intro e at_ w he hx z
      have hMw := xSi_Mo z hM
      have kp : ∀ c q, ¬ c = 12 → xv_i w (M + c) q = xv_i u (M + c) q := fun c q hc => by rw [z.2.2.2.2.2.2 _ (fun q => by unfold xM12 at q; omega)]
      have h31 : xv_i w M 31 = nI n := (kp 0 31 (by decide)).trans hn
      obtain ⟨⟨l1, l2, l3⟩, lO, -, ⟨β, lb⟩, lbad, lgd⟩ := hE e (by omega)
      have hRu : xRu w M (8 + e) (L e) (O e) (fun i => xv_i u (M + 8) (280 * (8 + e) + i)) (fun i => xv_i u (M + 9) (280 * (8 + e) + i)) := ⟨by rw [kp 10 _ (by decide)]; exact l1, l2, l3, fun i hi => ⟨by rw [kp 7 _ (by decide)]; exact lO i hi, kp 8 _ (by decide), kp 9 _ (by decide)⟩⟩
      have es : nI e + Int32.ofInt 1 = nI (e + 1) := by rw [nI_succ]; rfl
      have hc8 : (nI (8 + e)).toNatClampNeg = 8 + e := nI_clamp (by omega)
      have cm := c_Model_measure (sc := sc) (r := 8 + e) hMw (by omega) hRu lb
      unfold xOd3 at hx
      refine xv_iload_n (pc := 171) d_Model_load_171 rfl rfl ?_
      refine xv_aload_n (pc := 172) d_Model_load_172 rfl rfl ?_
      refine xv_getI (pc := 173) d_Model_load_173 f_Model_172 rfl hMw.1 ?_
      refine xv_icmp_ge (pc := 176) 219 d_Model_load_176 (by decide) (fun h176 => ?_) (fun h176 => ?_)
      · rw [h31] at h176
        exact absurd h176 (nI_ge (by omega) (by omega))
      refine xv_aload_n (pc := 179) d_Model_load_179 rfl rfl ?_
      refine xv_bipush (pc := 180) 8 d_Model_load_180 (by decide) ?_
      refine xv_iload_n (pc := 182) d_Model_load_182 rfl rfl ?_
      refine xv_iadd (pc := 183) d_Model_load_183 ?_
      rw [x8]
      refine xv_cV1i (pc := 184) (d1 := 1) cm m_Model_measure l_Model_135 d_Model_load_184 (by omega) (by decide : 11 < xv_nc) rfl hMw.1 (Nat.le_of_ble_eq_true rfl) (xSi_le z) (fun r w2 hw hN hS => ?_)
      obtain ⟨z2, hres⟩ := hw
      have zz := xSi_tr z z2
      have hM2 := xSi_Mo zz hM
      have k2 : ∀ c q, ¬ c = 12 → xv_i w2 (M + c) q = xv_i u (M + c) q := fun c q hc => by rw [zz.2.2.2.2.2.2 _ (fun q => by unfold xM12 at q; omega)]
      have no : ver e = false → xv_X sc 2 J_Model_load 205 [some (.ref M), some (.int (nI e)), some (.int r)] [] w2 (xv_N u) (xv_S u) (xv_q (xv_N u) (xv_S u) P0) := by
        intro hv
        rw [if_pos hv] at hx
        refine xv_aload_n (pc := 205) d_Model_load_205 rfl rfl ?_
        refine xv_bipush (pc := 206) 8 d_Model_load_206 (by decide) ?_
        refine xv_iload_n (pc := 208) d_Model_load_208 rfl rfl ?_
        refine xv_cV2i (pc := 209) (d1 := 0) (c_Model_fault hM2) m_Model_fault l_Model_194 d_Model_load_209 (by omega) (by decide : 11 < xv_nc) rfl hM2.1 (Nat.le_of_ble_eq_true rfl) (xSi_le zz) (fun r3 w3 hw3 hN3 hS3 => ?_)
        exact xv_retiq (pc := 212) d_Model_load_212 rfl (hN3.trans zz.1) (hS3.trans zz.2.1) (tell w2 8 (nI e) zz (by rw [← hff, ← hx]) (by decide) r3 w3 hw3)
      rcases hres with ⟨rfl, hb⟩ | ⟨g, rfl, hg, hgd⟩
      · skip
        refine xv_istore_2 (pc := 187) d_Model_load_187 (by decide) rfl ?_
        refine xv_iload_n (pc := 188) d_Model_load_188 rfl rfl ?_
        refine xv_if_lt (pc := 189) 205 d_Model_load_189 (by decide) (fun h189 => ?_) (fun h189 => ?_)
        · exact no (lbad hb)
        · exact absurd (by decide) h189
      · skip
        refine xv_istore_2 (pc := 187) d_Model_load_187 (by decide) rfl ?_
        refine xv_iload_n (pc := 188) d_Model_load_188 rfl rfl ?_
        refine xv_if_lt (pc := 189) 205 d_Model_load_189 (by decide) (fun h189 => ?_) (fun h189 => ?_)
        · exact absurd h189 (nI_pos (by omega))
        refine xv_iload_n (pc := 192) d_Model_load_192 rfl rfl ?_
        refine xv_aload_n (pc := 193) d_Model_load_193 rfl rfl ?_
        refine xv_getR (pc := 194) d_Model_load_194 f_Model_40 rfl hM2.1 (xm_r10 hM2) ?_
        refine xv_bipush (pc := 197) 8 d_Model_load_197 (by decide) ?_
        refine xv_iload_n (pc := 199) d_Model_load_199 rfl rfl ?_
        refine xv_iadd (pc := 200) d_Model_load_200 ?_
        refine xv_ald (pc := 201) d_Model_load_201 (xm_k10 hM2) (by rw [x8]; exact xm_i10 hM2 (vp_in_nI (by omega) (by decide))) ?_
        refine xv_icmp_le (pc := 202) 213 d_Model_load_202 (by decide) (fun h202 => ?_) (fun h202 => ?_)
        · rw [x8, hc8, k2 11 _ (by decide)] at h202
          have hv : ver e = true := (lgd g hg hgd).mpr h202
          rw [if_neg (by rw [hv]; decide)] at hx
          refine xv_iinc_1 (pc := 213) (nI (e + 1)) d_Model_load_213 es (by decide) rfl ?_
          refine xv_goto (pc := 216) 171 d_Model_load_216 (by decide) ?_
          exact xv_no_2 (ih (e + 1) _ w2 (by omega) hx zz)
        · rw [x8, hc8, k2 11 _ (by decide)] at h202
          exact no (by
            cases hv : ver e with
            | false => rfl
            | true => exact absurd ((lgd g hg hgd).mp hv) h202)
  -- the second loop: octets and names
  have loop2 : R1.1 = 0 → ∀ (q e : Nat) (at_ : Int32), e + q = n → xOd2 (fun e => xv_i u (M + 17) e) (fun e => xv_i u (M + 19) e) (fun e => xv_i u (M + 15) e) q e at_ = R2 → xv_X sc 2 J_Model_load 115 [some (.ref M), some (.int (nI e)), none] [] u (xv_N u) (xv_S u) (xv_q (xv_N u) (xv_S u) P0) := by
    intro r1 q
    have hff2 := hff
    rw [if_neg (fun z => z r1)] at hff2
    induction q with
    | zero =>
      intro e at_ he hx
      have he : e = n := by omega
      subst he
      refine xv_iload_n (pc := 115) d_Model_load_115 rfl rfl ?_
      refine xv_aload_n (pc := 116) d_Model_load_116 rfl rfl ?_
      refine xv_getI (pc := 117) d_Model_load_117 f_Model_172 rfl hM.1 ?_
      refine xv_icmp_ge (pc := 120) 169 d_Model_load_120 (by decide) (fun h120 => ?_) (fun h120 => ?_)
      case refine_2 =>
        rw [hn] at h120
        exact absurd (Int32.le_refl _) h120
      refine xv_iconst (pc := 169) 0 d_Model_load_169 (by decide) ?_
      refine xv_istore_1 (pc := 170) d_Model_load_170 (by decide) rfl ?_
      exact loop3 r1 (by rw [← hx]; rfl) e 0 _ u (by omega) hR3 xSi_rf
    | succ q ih =>
      intro e at_ he hx
      have hce : (nI e).toNatClampNeg = e := nI_clamp (by omega)
      have ie : vp_in (nI e) 8 := vp_in_nI (by omega) (by decide)
      have es : nI e + Int32.ofInt 1 = nI (e + 1) := by rw [nI_succ]; rfl
      unfold xOd2 at hx
      refine xv_iload_n (pc := 115) d_Model_load_115 rfl rfl ?_
      refine xv_aload_n (pc := 116) d_Model_load_116 rfl rfl ?_
      refine xv_getI (pc := 117) d_Model_load_117 f_Model_172 rfl hM.1 ?_
      refine xv_icmp_ge (pc := 120) 169 d_Model_load_120 (by decide) (fun h120 => ?_) (fun h120 => ?_)
      · rw [hn] at h120
        exact absurd h120 (nI_ge (by omega) (by omega))
      refine xv_aload_n (pc := 123) d_Model_load_123 rfl rfl ?_
      refine xv_getR (pc := 124) d_Model_load_124 f_Model_53 rfl hM.1 (xm_r14 hM) ?_
      refine xv_iload_n (pc := 127) d_Model_load_127 rfl rfl ?_
      refine xv_zald (pc := 128) d_Model_load_128 (xm_k14 hM) (xm_i14 hM ie) ?_
      refine xv_if_eq (pc := 129) 140 d_Model_load_129 (by decide) (fun h129 => ?_) (fun h129 => ?_)
      case refine_2 =>
        rw [hce] at h129
        rw [if_pos h129] at hx
        refine xv_aload_n (pc := 132) d_Model_load_132 rfl rfl ?_
        refine xv_bipush (pc := 133) 6 d_Model_load_133 (by decide) ?_
        refine xv_iload_n (pc := 135) d_Model_load_135 rfl rfl ?_
        refine xv_cV2i (pc := 136) (d1 := 0) (c_Model_fault hM) m_Model_fault l_Model_194 d_Model_load_136 (by omega) (by decide : 11 < xv_nc) rfl hM.1 (Nat.le_of_ble_eq_true rfl) ⟨Nat.le_refl _, Nat.le_refl _⟩ (fun r3 w3 hw3 hN3 hS3 => ?_)
        exact xv_retiq (pc := 139) d_Model_load_139 rfl hN3 hS3 (tell u 6 (nI e) xSi_rf (by rw [← hff2, ← hx, if_pos (show ¬ (6 : Int32) = 0 by decide)]) (by decide) r3 w3 hw3)
      rw [hce] at h129
      rw [if_neg (fun q => q h129)] at hx
      refine xv_aload_n (pc := 140) d_Model_load_140 rfl rfl ?_
      refine xv_getR (pc := 141) d_Model_load_141 f_Model_65 rfl hM.1 (xm_r18 hM) ?_
      refine xv_iload_n (pc := 144) d_Model_load_144 rfl rfl ?_
      refine xv_ald (pc := 145) d_Model_load_145 (xm_k18 hM) (xm_i18 hM ie) ?_
      refine xv_aload_n (pc := 146) d_Model_load_146 rfl rfl ?_
      refine xv_getR (pc := 147) d_Model_load_147 f_Model_59 rfl hM.1 (xm_r16 hM) ?_
      refine xv_iload_n (pc := 150) d_Model_load_150 rfl rfl ?_
      refine xv_ald (pc := 151) d_Model_load_151 (xm_k16 hM) (xm_i16 hM ie) ?_
      refine xv_icmp_eq (pc := 152) 163 d_Model_load_152 (by decide) (fun h152 => ?_) (fun h152 => ?_)
      case refine_2 =>
        rw [hce] at h152
        rw [if_pos h152] at hx
        refine xv_aload_n (pc := 155) d_Model_load_155 rfl rfl ?_
        refine xv_bipush (pc := 156) 7 d_Model_load_156 (by decide) ?_
        refine xv_iload_n (pc := 158) d_Model_load_158 rfl rfl ?_
        refine xv_cV2i (pc := 159) (d1 := 0) (c_Model_fault hM) m_Model_fault l_Model_194 d_Model_load_159 (by omega) (by decide : 11 < xv_nc) rfl hM.1 (Nat.le_of_ble_eq_true rfl) ⟨Nat.le_refl _, Nat.le_refl _⟩ (fun r3 w3 hw3 hN3 hS3 => ?_)
        exact xv_retiq (pc := 162) d_Model_load_162 rfl hN3 hS3 (tell u 7 (nI e) xSi_rf (by rw [← hff2, ← hx, if_pos (show ¬ (7 : Int32) = 0 by decide)]) (by decide) r3 w3 hw3)
      rw [hce] at h152
      rw [if_neg (fun q => q h152)] at hx
      refine xv_iinc_1 (pc := 163) (nI (e + 1)) d_Model_load_163 es (by decide) rfl ?_
      refine xv_goto (pc := 166) 115 d_Model_load_166 (by decide) ?_
      exact ih (e + 1) _ (by omega) hx
  -- the first loop: seals, numbers that stand twice
  have loop1 : ∀ (q e : Nat) (at_ : Int32), e + q = n → xOd1 sl (fun e => xv_i u (M + 17) e) n q e at_ = R1 → xv_X sc 2 J_Model_load 49 [some (.ref M), some (.int (nI e)), none] [] u (xv_N u) (xv_S u) (xv_q (xv_N u) (xv_S u) P0) := by
    intro q
    induction q with
    | zero =>
      intro e at_ he hx
      have he : e = n := by omega
      subst he
      refine xv_iload_n (pc := 49) d_Model_load_49 rfl rfl ?_
      refine xv_aload_n (pc := 50) d_Model_load_50 rfl rfl ?_
      refine xv_getI (pc := 51) d_Model_load_51 f_Model_172 rfl hM.1 ?_
      refine xv_icmp_ge (pc := 54) 113 d_Model_load_54 (by decide) (fun h54 => ?_) (fun h54 => ?_)
      case refine_2 =>
        rw [hn] at h54
        exact absurd (Int32.le_refl _) h54
      refine xv_iconst (pc := 113) 0 d_Model_load_113 (by decide) ?_
      refine xv_istore_1 (pc := 114) d_Model_load_114 (by decide) rfl ?_
      exact loop2 (by rw [← hx]; rfl) e 0 _ (by omega) hR2
    | succ q ih =>
      intro e at_ he hx
      have hce : (nI e).toNatClampNeg = e := nI_clamp (by omega)
      have ie : vp_in (nI e) 8 := vp_in_nI (by omega) (by decide)
      have es : nI e + Int32.ofInt 1 = nI (e + 1) := by rw [nI_succ]; rfl
      obtain ⟨⟨l1, l2, l3⟩, lO, lsl, -⟩ := hE e (by omega)
      unfold xOd1 at hx
      have hff1 : ∀ c : Int32, ¬ c = 0 → R1 = (c, nI e) → FF = (c, nI e) := fun c hc h => by
        rw [← hff, h, if_pos (show ¬ (c, nI e).1 = 0 from hc)]
      refine xv_iload_n (pc := 49) d_Model_load_49 rfl rfl ?_
      refine xv_aload_n (pc := 50) d_Model_load_50 rfl rfl ?_
      refine xv_getI (pc := 51) d_Model_load_51 f_Model_172 rfl hM.1 ?_
      refine xv_icmp_ge (pc := 54) 113 d_Model_load_54 (by decide) (fun h54 => ?_) (fun h54 => ?_)
      · rw [hn] at h54
        exact absurd h54 (nI_ge (by omega) (by omega))
      refine xv_aload_n (pc := 57) d_Model_load_57 rfl rfl ?_
      refine xv_iload_n (pc := 58) d_Model_load_58 rfl rfl ?_
      refine xv_cV1i (pc := 59) (d1 := 0) (c_Model_goes hM (by omega) l1 (by omega)) m_Model_goes l_Model_198 d_Model_load_59 (by omega) (by decide : 11 < xv_nc) rfl hM.1 (Nat.le_of_ble_eq_true rfl) ⟨Nat.le_refl _, Nat.le_refl _⟩ (fun r w hw hN hS => ?_)
      obtain ⟨hr, hw⟩ := hw
      subst w
      rw [← lsl] at hr
      subst hr
      refine xv_if_ne (pc := 62) 72 d_Model_load_62 (by decide) (fun h62 => ?_) (fun h62 => ?_)
      case refine_2 =>
        have hs := xB_eq h62
        rw [if_pos hs] at hx
        refine xv_aload_n (pc := 65) d_Model_load_65 rfl rfl ?_
        refine xv_iconst (pc := 66) 4 d_Model_load_66 (by decide) ?_
        refine xv_iload_n (pc := 67) d_Model_load_67 rfl rfl ?_
        refine xv_cV2i (pc := 68) (d1 := 0) (c_Model_fault hM) m_Model_fault l_Model_194 d_Model_load_68 (by omega) (by decide : 11 < xv_nc) rfl hM.1 (Nat.le_of_ble_eq_true rfl) ⟨Nat.le_refl _, Nat.le_refl _⟩ (fun r3 w3 hw3 hN3 hS3 => ?_)
        exact xv_retiq (pc := 71) d_Model_load_71 rfl hN3 hS3 (tell u 4 (nI e) xSi_rf (hff1 4 (by decide) hx.symm) (by decide) r3 w3 hw3)
      have hs := xB_ne h62
      rw [if_neg (by rw [hs]; decide)] at hx
      have inner : ∀ (p k : Nat), k + p = e → (∀ j, j < k → ¬ xv_i u (M + 17) j = xv_i u (M + 17) e) → xv_X sc 2 J_Model_load 74 [some (.ref M), some (.int (nI e)), some (.int (nI k))] [] u (xv_N u) (xv_S u) (xv_q (xv_N u) (xv_S u) P0) := by
        intro p
        induction p with
        | zero =>
          intro k hk hno
          have hk : k = e := by omega
          subst hk
          have hd : ¬ xFi (fun e => xv_i u (M + 17) e) ((fun e => xv_i u (M + 17) e) k) n 0 < k := fun q => by
            obtain ⟨j, q1, q2⟩ := (xFi_dup (num := fun e => xv_i u (M + 17) e) (by omega)).mp q
            exact hno j q1 q2
          rw [if_neg hd] at hx
          refine xv_iload_n (pc := 74) d_Model_load_74 rfl rfl ?_
          refine xv_iload_n (pc := 75) d_Model_load_75 rfl rfl ?_
          refine xv_icmp_ge (pc := 76) 107 d_Model_load_76 (by decide) (fun h76 => ?_) (fun h76 => ?_)
          case refine_2 => exact absurd (Int32.le_refl _) h76
          refine xv_iinc_1 (pc := 107) (nI (k + 1)) d_Model_load_107 es (by decide) rfl ?_
          refine xv_goto (pc := 110) 49 d_Model_load_110 (by decide) ?_
          exact xv_no_2 (ih (k + 1) _ (by omega) hx)
        | succ p ihp =>
          intro k hk hno
          have hck : (nI k).toNatClampNeg = k := nI_clamp (by omega)
          have ek : nI k + Int32.ofInt 1 = nI (k + 1) := by rw [nI_succ]; rfl
          refine xv_iload_n (pc := 74) d_Model_load_74 rfl rfl ?_
          refine xv_iload_n (pc := 75) d_Model_load_75 rfl rfl ?_
          refine xv_icmp_ge (pc := 76) 107 d_Model_load_76 (by decide) (fun h76 => ?_) (fun h76 => ?_)
          · exact absurd h76 (nI_ge (by omega) (by omega))
          refine xv_aload_n (pc := 79) d_Model_load_79 rfl rfl ?_
          refine xv_getR (pc := 80) d_Model_load_80 f_Model_59 rfl hM.1 (xm_r16 hM) ?_
          refine xv_iload_n (pc := 83) d_Model_load_83 rfl rfl ?_
          refine xv_ald (pc := 84) d_Model_load_84 (xm_k16 hM) (xm_i16 hM (vp_in_nI (by omega) (by decide))) ?_
          refine xv_aload_n (pc := 85) d_Model_load_85 rfl rfl ?_
          refine xv_getR (pc := 86) d_Model_load_86 f_Model_59 rfl hM.1 (xm_r16 hM) ?_
          refine xv_iload_n (pc := 89) d_Model_load_89 rfl rfl ?_
          refine xv_ald (pc := 90) d_Model_load_90 (xm_k16 hM) (xm_i16 hM ie) ?_
          refine xv_icmp_ne (pc := 91) 101 d_Model_load_91 (by decide) (fun h91 => ?_) (fun h91 => ?_)
          · rw [hck, hce] at h91
            refine xv_iinc_2 (pc := 101) (nI (k + 1)) d_Model_load_101 ek (by decide) rfl ?_
            refine xv_goto (pc := 104) 74 d_Model_load_104 (by decide) ?_
            refine ihp (k + 1) (by omega) (fun j hj => ?_)
            by_cases c : j = k
            · subst c; exact h91
            · exact hno j (by omega)
          · rw [hck, hce] at h91
            rw [if_pos ((xFi_dup (num := fun e => xv_i u (M + 17) e) (by omega)).mpr ⟨k, by omega, h91⟩)] at hx
            refine xv_aload_n (pc := 94) d_Model_load_94 rfl rfl ?_
            refine xv_iconst (pc := 95) 5 d_Model_load_95 (by decide) ?_
            refine xv_iload_n (pc := 96) d_Model_load_96 rfl rfl ?_
            refine xv_cV2i (pc := 97) (d1 := 0) (c_Model_fault hM) m_Model_fault l_Model_194 d_Model_load_97 (by omega) (by decide : 11 < xv_nc) rfl hM.1 (Nat.le_of_ble_eq_true rfl) ⟨Nat.le_refl _, Nat.le_refl _⟩ (fun r3 w3 hw3 hN3 hS3 => ?_)
            exact xv_retiq (pc := 100) d_Model_load_100 rfl hN3 hS3 (tell u 5 (nI e) xSi_rf (hff1 5 (by decide) hx.symm) (by decide) r3 w3 hw3)
      refine xv_iconst (pc := 72) 0 d_Model_load_72 (by decide) ?_
      refine xv_istore_2 (pc := 73) d_Model_load_73 (by decide) rfl ?_
      exact inner e 0 (by omega) (fun j hj => absurd hj (Nat.not_lt_zero j))
  refine xv_iconst (pc := 47) 0 d_Model_load_47 (by decide) ?_
  refine xv_istore_1 (pc := 48) d_Model_load_48 (by decide) rfl ?_
  exact loop1 n 0 _ (by omega) hR1

