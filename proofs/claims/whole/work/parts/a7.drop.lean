/-! the model: drop -/
def xDrS (M b : Nat) : Prop := b = M ∨ (M + 7 ≤ b ∧ b ≤ M + 11) ∨ b = M + 13 ∨ (M + 15 ≤ b ∧ b ≤ M + 21)
/-- the entries behind e, up to k, have moved down -/
def xDq (u w : xv_M) (M e k : Nat) (L : Nat → Nat) : Prop := xSi (xDrS M) u w ∧ (∀ j, ¬ j = 31 → xv_i w M j = xv_i u M j) ∧
  (∀ c, 15 ≤ c ∧ c ≤ 20 → ∀ q, xv_i w (M + c) q = if e ≤ q ∧ q < k then xv_i u (M + c) (q + 1) else xv_i u (M + c) q) ∧
  (∀ c, c = 10 ∨ c = 11 → ∀ q, xv_i w (M + c) q = if 8 + e ≤ q ∧ q < 8 + k then xv_i u (M + c) (q + 1) else xv_i u (M + c) q) ∧
  (∀ c, c = 7 ∨ c = 8 ∨ c = 9 ∨ c = 13 → (∀ q, q < 280 * (8 + e) ∨ 280 * (8 + k) ≤ q → xv_i w (M + c) q = xv_i u (M + c) q) ∧ ∀ j i, e ≤ j → j < k → i < L (j + 1) → xv_i w (M + c) (280 * (8 + j) + i) = xv_i u (M + c) (280 * (9 + j) + i)) ∧
  (∀ q, q < 280 * e ∨ 280 * k ≤ q → xv_i w (M + 21) q = xv_i u (M + 21) q) ∧ ∀ j i, e ≤ j → j < k → i < L (j + 1) → xv_i w (M + 21) (280 * j + i) = xv_i u (M + 21) (280 * (j + 1) + i)
theorem xSix {w : xv_M} {M k : Nat} : (∀ c, 15 ≤ c ∧ c ≤ 20 → ∀ q, xv_i (xv_si (xv_si (xv_si (xv_si (xv_si (xv_si w (M + 17) k (xv_i w (M + 17) (k + 1))) (M + 19) k (xv_i w (M + 19) (k + 1))) (M + 18) k (xv_i w (M + 18) (k + 1))) (M + 15) k (xv_i w (M + 15) (k + 1))) (M + 20) k (xv_i w (M + 20) (k + 1))) (M + 16) k (xv_i w (M + 16) (k + 1))) (M + c) q = if q = k then xv_i w (M + c) (k + 1) else xv_i w (M + c) q) ∧ (∀ b, ¬ (M + 15 ≤ b ∧ b ≤ M + 20) → ∀ q, xv_i (xv_si (xv_si (xv_si (xv_si (xv_si (xv_si w (M + 17) k (xv_i w (M + 17) (k + 1))) (M + 19) k (xv_i w (M + 19) (k + 1))) (M + 18) k (xv_i w (M + 18) (k + 1))) (M + 15) k (xv_i w (M + 15) (k + 1))) (M + 20) k (xv_i w (M + 20) (k + 1))) (M + 16) k (xv_i w (M + 16) (k + 1))) b q = xv_i w b q) := by
  refine ⟨fun c hc q => ?_, fun b hb q => ?_⟩
  · rcases (by omega : c = 15 ∨ c = 16 ∨ c = 17 ∨ c = 18 ∨ c = 19 ∨ c = 20) with rfl | rfl | rfl | rfl | rfl | rfl
    · rw [xv_si_ne (by omega), xv_si_ne (by omega), xv_si_if, xv_si_ne (by omega), xv_si_ne (by omega), xv_si_ne (by omega)]
    · rw [xv_si_if, xv_si_ne (by omega), xv_si_ne (by omega), xv_si_ne (by omega), xv_si_ne (by omega), xv_si_ne (by omega)]
    · rw [xv_si_ne (by omega), xv_si_ne (by omega), xv_si_ne (by omega), xv_si_ne (by omega), xv_si_ne (by omega), xv_si_if]
    · rw [xv_si_ne (by omega), xv_si_ne (by omega), xv_si_ne (by omega), xv_si_if, xv_si_ne (by omega), xv_si_ne (by omega)]
    · rw [xv_si_ne (by omega), xv_si_ne (by omega), xv_si_ne (by omega), xv_si_ne (by omega), xv_si_if, xv_si_ne (by omega)]
    · rw [xv_si_ne (by omega), xv_si_if, xv_si_ne (by omega), xv_si_ne (by omega), xv_si_ne (by omega), xv_si_ne (by omega)]
  · rw [xv_si_ne (by omega), xv_si_ne (by omega), xv_si_ne (by omega), xv_si_ne (by omega), xv_si_ne (by omega), xv_si_ne (by omega)]
theorem xDq_s {u w w2 w3 : xv_M} {M e k : Nat} {L : Nat → Nat} (hek : e ≤ k) (hLa : ∀ j, j ≤ k → L (j + 1) ≤ 265) (D : xDq u w M e k L) (B : xCUq (xv_si (xv_si (xv_si (xv_si (xv_si (xv_si w (M + 17) k (xv_i w (M + 17) (k + 1))) (M + 19) k (xv_i w (M + 19) (k + 1))) (M + 18) k (xv_i w (M + 18) (k + 1))) (M + 15) k (xv_i w (M + 15) (k + 1))) (M + 20) k (xv_i w (M + 20) (k + 1))) (M + 16) k (xv_i w (M + 16) (k + 1))) w2 M (8 + k) (9 + k) (L (k + 1)) (L (k + 1))) (C : xSi (fun b => b = M + 21) w2 w3) (C2 : xBk w2 w3 (M + 21) (M + 21) (280 * k) (280 * (k + 1)) (L (k + 1))) (hmany : xv_i w (M + 10) (9 + k) = nI (L (k + 1))) : xDq u w3 M e (k + 1) L := by
  have hL := hLa k (Nat.le_refl _)
  obtain ⟨d1, d2, d3, d4, d5, d6, d7⟩ := D
  obtain ⟨b1, b2, b3, b4, b5, b6, b7, b8, b9⟩ := B
  obtain ⟨s1, s2⟩ := xSix (w := w) (M := M) (k := k)
  have c3 : ∀ b q, ¬ b = M + 21 → xv_i w3 b q = xv_i w2 b q := fun b q hb => by rw [C.2.2.2.2.2.2 b hb]
  have c2 : ∀ b q, ¬ xCU M b → xv_i w2 b q = xv_i (xv_si (xv_si (xv_si (xv_si (xv_si (xv_si w (M + 17) k (xv_i w (M + 17) (k + 1))) (M + 19) k (xv_i w (M + 19) (k + 1))) (M + 18) k (xv_i w (M + 18) (k + 1))) (M + 15) k (xv_i w (M + 15) (k + 1))) (M + 20) k (xv_i w (M + 20) (k + 1))) (M + 16) k (xv_i w (M + 16) (k + 1))) b q := fun b q hb => by rw [b1.2.2.2.2.2.2 b hb]
  have six : xSi (xDrS M) w (xv_si (xv_si (xv_si (xv_si (xv_si (xv_si w (M + 17) k (xv_i w (M + 17) (k + 1))) (M + 19) k (xv_i w (M + 19) (k + 1))) (M + 18) k (xv_i w (M + 18) (k + 1))) (M + 15) k (xv_i w (M + 15) (k + 1))) (M + 20) k (xv_i w (M + 20) (k + 1))) (M + 16) k (xv_i w (M + 16) (k + 1))) := xSi_tr (xSi_tr (xSi_tr (xSi_tr (xSi_tr (xSi_si (by unfold xDrS; omega)) (xSi_si (by unfold xDrS; omega))) (xSi_si (by unfold xDrS; omega))) (xSi_si (by unfold xDrS; omega))) (xSi_si (by unfold xDrS; omega))) (xSi_si (by unfold xDrS; omega))
  refine ⟨xSi_tr (xSi_tr (xSi_tr d1 six) (xSi_mono b1 (fun b h => by unfold xCU at h; unfold xDrS; omega))) (xSi_mono C (fun b h => by unfold xDrS; omega)), fun j hj => ?_, fun c hc q => ?_, fun c hc q => ?_, fun c hc => ⟨fun q hq => ?_, fun j i h1 h2 h3 => ?_⟩, fun q hq => ?_, fun j i h1 h2 h3 => ?_⟩
  · rw [c3 M j (by omega), c2 M j (by unfold xCU; omega), s2 M (by omega)]
    exact d2 j hj
  · rw [c3 _ q (by omega), c2 _ q (by unfold xCU; omega), s1 c hc q]
    by_cases e1 : q = k
    · subst e1
      rw [if_pos rfl, if_pos (by omega), d3 c hc, if_neg (by omega)]
    · rw [if_neg e1, d3 c hc]
      by_cases e2 : e ≤ q ∧ q < k
      · rw [if_pos e2, if_pos (by omega)]
      · rw [if_neg e2, if_neg (by omega)]
  · have key : xv_i w3 (M + c) q = if q = 8 + k then xv_i w (M + c) (9 + k) else xv_i w (M + c) q := by
      rcases hc with rfl | rfl
      · rw [c3 _ q (by omega)]
        by_cases e1 : q = 8 + k
        · subst e1
          rw [if_pos rfl, b7, hmany]
        · rw [if_neg e1, b6 q e1, s2 _ (by omega)]
      · rw [c3 _ q (by omega)]
        by_cases e1 : q = 8 + k
        · subst e1
          rw [if_pos rfl, b9, s2 _ (by omega)]
        · rw [if_neg e1, b8 q e1, s2 _ (by omega)]
    rw [key]
    by_cases e1 : q = 8 + k
    · subst e1
      rw [if_pos rfl, if_pos (by omega), d4 c hc, if_neg (by omega), show 9 + k = 8 + k + 1 by omega]
    · rw [if_neg e1, d4 c hc]
      by_cases e2 : 8 + e ≤ q ∧ q < 8 + k
      · rw [if_pos e2, if_pos (by omega)]
      · rw [if_neg e2, if_neg (by omega)]
  · have hb : xBk (xv_si (xv_si (xv_si (xv_si (xv_si (xv_si w (M + 17) k (xv_i w (M + 17) (k + 1))) (M + 19) k (xv_i w (M + 19) (k + 1))) (M + 18) k (xv_i w (M + 18) (k + 1))) (M + 15) k (xv_i w (M + 15) (k + 1))) (M + 20) k (xv_i w (M + 20) (k + 1))) (M + 16) k (xv_i w (M + 16) (k + 1))) w2 (M + c) (M + c) (280 * (8 + k)) (280 * (9 + k)) (L (k + 1)) := by
      rcases hc with rfl | rfl | rfl | rfl
      · exact b2
      · exact b3
      · exact b4
      · exact b5
    rw [c3 _ q (by omega), hb.1 q (by omega), s2 _ (by omega)]
    exact (d5 c hc).1 q (by omega)
  · have hb : xBk (xv_si (xv_si (xv_si (xv_si (xv_si (xv_si w (M + 17) k (xv_i w (M + 17) (k + 1))) (M + 19) k (xv_i w (M + 19) (k + 1))) (M + 18) k (xv_i w (M + 18) (k + 1))) (M + 15) k (xv_i w (M + 15) (k + 1))) (M + 20) k (xv_i w (M + 20) (k + 1))) (M + 16) k (xv_i w (M + 16) (k + 1))) w2 (M + c) (M + c) (280 * (8 + k)) (280 * (9 + k)) (L (k + 1)) := by
      rcases hc with rfl | rfl | rfl | rfl
      · exact b2
      · exact b3
      · exact b4
      · exact b5
    rw [c3 _ _ (by omega)]
    by_cases e1 : j = k
    · subst e1
      rw [hb.2 i h3, s2 _ (by omega)]
      exact (d5 c hc).1 _ (by omega)
    · have := hLa j (by omega)
      rw [hb.1 _ (by omega), s2 _ (by omega)]
      exact (d5 c hc).2 j i h1 (by omega) h3
  · rw [C2.1 q (by omega), c2 _ q (by unfold xCU; omega), s2 _ (by omega)]
    exact d6 q (by omega)
  · by_cases e1 : j = k
    · subst e1
      rw [C2.2 i h3, c2 _ _ (by unfold xCU; omega), s2 _ (by omega)]
      exact d6 _ (by omega)
    · have := hLa j (by omega)
      rw [C2.1 _ (by omega), c2 _ _ (by unfold xCU; omega), s2 _ (by omega)]
      exact d7 j i h1 (by omega) h3
theorem x9 {k : Nat} : (9 : Int32) + nI k = nI (9 + k) := by rw [← nI_add]; rfl
theorem xIdx1 {k j : Nat} : (280 : Int32) * nI (k + 1) + nI j = nI (280 * (k + 1) + j) := xIdx
set_option maxHeartbeats 1000000 in
theorem c_Model_drop {sc : Nat × (Nat → Int32)} {u : xv_M} {M n : Nat} {L : Nat → Nat} {x : Int32} (hM : xMo u M) (hn : xv_i u M 31 = nI n) (hlt : n ≤ 8) (hL : ∀ e, e < n → xv_i u (M + 10) (8 + e) = nI (L e) ∧ L e ≤ 265) (hfx : ∀ e k, e < n → k < L e → xv_i u (M + 13) (280 * (8 + e) + k) = 0 ∨ xv_i u (M + 13) (280 * (8 + e) + k) = 1) (ho : ∀ e, e < n → (xv_i u (M + 15) e = 0 ∨ xv_i u (M + 15) e = 1) ∧ (xv_i u (M + 16) e = 0 ∨ xv_i u (M + 16) e = 1)) : xv_C sc 1 J_Model_drop [.ref M, .int x] u (xv_N u) (xv_S u) (xv_pi (fun r w => (¬ (∃ e, e < n ∧ x = nI e) ∧ r = -1 ∧ w = u) ∨ (∃ e w1, e < n ∧ x = nI e ∧ r = xv_i u (M + 17) e ∧ xDq u w1 M e (n - 1) L ∧ xv_i w1 M 31 = nI (n - 1) ∧ w = xv_si w1 M 30 (nI (n - 1))))) := by
  refine xv_C_of (by decide) (Nat.le_refl _) (Nat.le_refl _) (xv_cat1 rfl) (Nat.le_of_ble_eq_true rfl) ?_
  show xv_X sc 1 J_Model_drop 0 [some (.ref M), some (.int x), none, none, none] [] u (xv_N u) (xv_S u) _
  refine xv_iload_n (pc := 0) d_Model_drop_0 rfl rfl ?_
  refine xv_iconst (pc := 1) 0 d_Model_drop_1 (by decide) ?_
  refine xv_aload_n (pc := 2) d_Model_drop_2 rfl rfl ?_
  refine xv_getI (pc := 3) d_Model_drop_3 f_Model_172 rfl hM.1 ?_
  refine xv_iconst (pc := 6) 1 d_Model_drop_6 (by decide) ?_
  refine xv_isub (pc := 7) d_Model_drop_7 ?_
  rw [hn]
  refine xv_cS3i (pc := 8) (d1 := 0) c_Model_is m_Model_is l_Model_102 d_Model_drop_8 (by omega) (Nat.le_of_ble_eq_true rfl) ⟨Nat.le_refl _, Nat.le_refl _⟩ (fun r w hw hN hS => ?_)
  obtain ⟨rfl, hw⟩ := hw
  subst w
  refine xv_if_ne (pc := 11) 16 d_Model_drop_11 (by decide) (fun h11 => ?_) (fun h11 => ?_)
  case refine_2 =>
    have e0 := mt (xRg (by omega)).mpr (xw_eq h11)
    refine xv_iconst (pc := 14) (-1) d_Model_drop_14 (by decide) ?_
    exact xv_retiq (pc := 15) d_Model_drop_15 rfl rfl rfl ⟨_, rfl, Or.inl ⟨e0, rfl, rfl⟩⟩
  obtain ⟨e, he, rfl⟩ := (xRg (by omega)).mp (xw_ne h11)
  have hce : (nI e).toNatClampNeg = e := nI_clamp (by omega)
  have en : nI n - 1 = nI (n - 1) := nI_sub1 (by omega)
  refine xv_aload_n (pc := 16) d_Model_drop_16 rfl rfl ?_
  refine xv_getR (pc := 17) d_Model_drop_17 f_Model_59 rfl hM.1 (xm_r16 hM) ?_
  refine xv_iload_n (pc := 20) d_Model_drop_20 rfl rfl ?_
  refine xv_ald (pc := 21) d_Model_drop_21 (xm_k16 hM) (xm_i16 hM (vp_in_nI (by omega) (by decide))) ?_
  refine xv_istore_2 (pc := 22) d_Model_drop_22 (by decide) rfl ?_
  refine xv_aload_n (pc := 23) d_Model_drop_23 rfl rfl ?_
  refine xv_dup_ref (pc := 24) d_Model_drop_24 ?_
  refine xv_getI (pc := 25) d_Model_drop_25 f_Model_172 rfl hM.1 ?_
  refine xv_iconst (pc := 28) 1 d_Model_drop_28 (by decide) ?_
  refine xv_isub (pc := 29) d_Model_drop_29 ?_
  refine xv_putI (pc := 30) d_Model_drop_30 f_Model_172 (Or.inl rfl) fin_11_31 hM.1 ?_
  refine xv_iload_n (pc := 33) d_Model_drop_33 rfl rfl ?_
  refine xv_istore_3 (pc := 34) d_Model_drop_34 (by decide) rfl ?_
  rw [hce, hn, en]
  have loop : ∀ (q k : Nat) (w : xv_M), k + q = n - 1 → e ≤ k → xDq u w M e k L → xv_i w M 31 = nI (n - 1) → xv_X sc 1 J_Model_drop 35 [some (.ref M), some (.int (nI e)), some (.int (xv_i u (M + 17) e)), some (.int (nI k)), none] [] w (xv_N u) (xv_S u) (xv_q (xv_N u) (xv_S u) (xv_pi (fun r w => (¬ (∃ e', e' < n ∧ nI e = nI e') ∧ r = -1 ∧ w = u) ∨ (∃ e' w1, e' < n ∧ nI e = nI e' ∧ r = xv_i u (M + 17) e' ∧ xDq u w1 M e' (n - 1) L ∧ xv_i w1 M 31 = nI (n - 1) ∧ w = xv_si w1 M 30 (nI (n - 1)))))) := by
    intro q
    induction q with
    | zero =>
      intro k w hk hek D h31
      have hk : k = n - 1 := by omega
      subst hk
      have hMw := xSi_Mo D.1 hM
      refine xv_iload_n (pc := 35) d_Model_drop_35 rfl rfl ?_
      refine xv_aload_n (pc := 36) d_Model_drop_36 rfl rfl ?_
      refine xv_getI (pc := 37) d_Model_drop_37 f_Model_172 rfl hMw.1 ?_
      refine xv_icmp_ge (pc := 40) 196 d_Model_drop_40 (by decide) (fun h40 => ?_) (fun h40 => ?_)
      case refine_2 =>
        rw [h31] at h40
        exact absurd (Int32.le_refl _) h40
      refine xv_aload_n (pc := 196) d_Model_drop_196 rfl rfl ?_
      refine xv_aload_n (pc := 197) d_Model_drop_197 rfl rfl ?_
      refine xv_getI (pc := 198) d_Model_drop_198 f_Model_172 rfl hMw.1 ?_
      refine xv_putI (pc := 201) d_Model_drop_201 f_Model_181 (Or.inl rfl) fin_11_30 hMw.1 ?_
      refine xv_iload_n (pc := 204) d_Model_drop_204 rfl rfl ?_
      rw [h31]
      exact xv_retiq (pc := 205) d_Model_drop_205 rfl D.1.1 D.1.2.1 ⟨_, rfl, Or.inr ⟨e, w, he, rfl, rfl, D, h31, rfl⟩⟩
    | succ q ih =>
      intro k w hk hek D h31
      have D0 := D
      obtain ⟨d1, d2, d3, d4, d5, d6, d7⟩ := D
      have hMw := xSi_Mo d1 hM
      have hck : (nI k).toNatClampNeg = k := nI_clamp (by omega)
      have hck1 : (nI (k + 1)).toNatClampNeg = k + 1 := nI_clamp (by omega)
      have ik : vp_in (nI k) 8 := vp_in_nI (by omega) (by decide)
      have ik1 : vp_in (nI (k + 1)) 8 := vp_in_nI (by omega) (by decide)
      have e1 : nI k + 1 = nI (k + 1) := by rw [nI_succ]
      have es : nI k + Int32.ofInt 1 = nI (k + 1) := by rw [nI_succ]; rfl
      obtain ⟨l1, l2⟩ := hL (k + 1) (by omega)
      have lk : xv_i w (M + 10) (9 + k) = nI (L (k + 1)) := by
        rw [d4 10 (Or.inl rfl), if_neg (by omega), show 9 + k = 8 + (k + 1) by omega]; exact l1
      have fx : ∀ j, j < L (k + 1) → xv_i w (M + 13) (280 * (9 + k) + j) = 0 ∨ xv_i w (M + 13) (280 * (9 + k) + j) = 1 := fun j hj => by
        rw [(d5 13 (by omega)).1 _ (by omega), show 280 * (9 + k) = 280 * (8 + (k + 1)) by omega]; exact hfx (k + 1) j (by omega) hj
      have o15 : xv_i w (M + 15) (k + 1) = 0 ∨ xv_i w (M + 15) (k + 1) = 1 := by rw [d3 15 (by omega), if_neg (by omega)]; exact (ho (k + 1) (by omega)).1
      have o16 : xv_i w (M + 16) (k + 1) = 0 ∨ xv_i w (M + 16) (k + 1) = 1 := by rw [d3 16 (by omega), if_neg (by omega)]; exact (ho (k + 1) (by omega)).2
      refine xv_iload_n (pc := 35) d_Model_drop_35 rfl rfl ?_
      refine xv_aload_n (pc := 36) d_Model_drop_36 rfl rfl ?_
      refine xv_getI (pc := 37) d_Model_drop_37 f_Model_172 rfl hMw.1 ?_
      refine xv_icmp_ge (pc := 40) 196 d_Model_drop_40 (by decide) (fun h40 => ?_) (fun h40 => ?_)
      · rw [h31] at h40
        exact absurd h40 (nI_ge (by omega) (by omega))
      refine xv_aload_n (pc := 43) d_Model_drop_43 rfl rfl ?_
      refine xv_getR (pc := 44) d_Model_drop_44 f_Model_59 rfl hMw.1 (xm_r16 hMw) ?_
      refine xv_iload_n (pc := 47) d_Model_drop_47 rfl rfl ?_
      refine xv_aload_n (pc := 48) d_Model_drop_48 rfl rfl ?_
      refine xv_getR (pc := 49) d_Model_drop_49 f_Model_59 rfl hMw.1 (xm_r16 hMw) ?_
      refine xv_iload_n (pc := 52) d_Model_drop_52 rfl rfl ?_
      refine xv_iconst (pc := 53) 1 d_Model_drop_53 (by decide) ?_
      refine xv_iadd (pc := 54) d_Model_drop_54 ?_
      refine xv_ald (pc := 55) d_Model_drop_55 (xm_k16 hMw) (by rw [e1]; exact xm_i16 hMw ik1) ?_
      refine xv_ast (pc := 56) d_Model_drop_56 (xm_k16 hMw) (xm_i16 hMw ik) ?_
      refine xv_aload_n (pc := 57) d_Model_drop_57 rfl rfl ?_
      refine xv_getR (pc := 58) d_Model_drop_58 f_Model_65 rfl hMw.1 (xm_r18 hMw) ?_
      refine xv_iload_n (pc := 61) d_Model_drop_61 rfl rfl ?_
      refine xv_aload_n (pc := 62) d_Model_drop_62 rfl rfl ?_
      refine xv_getR (pc := 63) d_Model_drop_63 f_Model_65 rfl hMw.1 (xm_r18 hMw) ?_
      refine xv_iload_n (pc := 66) d_Model_drop_66 rfl rfl ?_
      refine xv_iconst (pc := 67) 1 d_Model_drop_67 (by decide) ?_
      refine xv_iadd (pc := 68) d_Model_drop_68 ?_
      refine xv_ald (pc := 69) d_Model_drop_69 (xm_k18 hMw) (by rw [e1]; exact xm_i18 hMw ik1) ?_
      refine xv_ast (pc := 70) d_Model_drop_70 (xm_k18 hMw) (xm_i18 hMw ik) ?_
      refine xv_aload_n (pc := 71) d_Model_drop_71 rfl rfl ?_
      refine xv_getR (pc := 72) d_Model_drop_72 f_Model_62 rfl hMw.1 (xm_r17 hMw) ?_
      refine xv_iload_n (pc := 75) d_Model_drop_75 rfl rfl ?_
      refine xv_aload_n (pc := 76) d_Model_drop_76 rfl rfl ?_
      refine xv_getR (pc := 77) d_Model_drop_77 f_Model_62 rfl hMw.1 (xm_r17 hMw) ?_
      refine xv_iload_n (pc := 80) d_Model_drop_80 rfl rfl ?_
      refine xv_iconst (pc := 81) 1 d_Model_drop_81 (by decide) ?_
      refine xv_iadd (pc := 82) d_Model_drop_82 ?_
      refine xv_ald (pc := 83) d_Model_drop_83 (xm_k17 hMw) (by rw [e1]; exact xm_i17 hMw ik1) ?_
      refine xv_ast (pc := 84) d_Model_drop_84 (xm_k17 hMw) (xm_i17 hMw ik) ?_
      refine xv_aload_n (pc := 85) d_Model_drop_85 rfl rfl ?_
      refine xv_getR (pc := 86) d_Model_drop_86 f_Model_53 rfl hMw.1 (xm_r14 hMw) ?_
      refine xv_iload_n (pc := 89) d_Model_drop_89 rfl rfl ?_
      refine xv_aload_n (pc := 90) d_Model_drop_90 rfl rfl ?_
      refine xv_getR (pc := 91) d_Model_drop_91 f_Model_53 rfl hMw.1 (xm_r14 hMw) ?_
      refine xv_iload_n (pc := 94) d_Model_drop_94 rfl rfl ?_
      refine xv_iconst (pc := 95) 1 d_Model_drop_95 (by decide) ?_
      refine xv_iadd (pc := 96) d_Model_drop_96 ?_
      refine xv_zald (pc := 97) d_Model_drop_97 (xm_k14 hMw) (by rw [e1]; exact xm_i14 hMw ik1) ?_
      refine xv_zast (pc := 98) d_Model_drop_98 (xm_k14 hMw) (xm_i14 hMw ik) (by rw [e1, hck1, xv_si_ne (by omega), xv_si_ne (by omega), xv_si_ne (by omega)]; exact xNar o15) ?_
      refine xv_aload_n (pc := 99) d_Model_drop_99 rfl rfl ?_
      refine xv_getR (pc := 100) d_Model_drop_100 f_Model_68 rfl hMw.1 (xm_r19 hMw) ?_
      refine xv_iload_n (pc := 103) d_Model_drop_103 rfl rfl ?_
      refine xv_aload_n (pc := 104) d_Model_drop_104 rfl rfl ?_
      refine xv_getR (pc := 105) d_Model_drop_105 f_Model_68 rfl hMw.1 (xm_r19 hMw) ?_
      refine xv_iload_n (pc := 108) d_Model_drop_108 rfl rfl ?_
      refine xv_iconst (pc := 109) 1 d_Model_drop_109 (by decide) ?_
      refine xv_iadd (pc := 110) d_Model_drop_110 ?_
      refine xv_ald (pc := 111) d_Model_drop_111 (xm_k19 hMw) (by rw [e1]; exact xm_i19 hMw ik1) ?_
      refine xv_ast (pc := 112) d_Model_drop_112 (xm_k19 hMw) (xm_i19 hMw ik) ?_
      refine xv_aload_n (pc := 113) d_Model_drop_113 rfl rfl ?_
      refine xv_getR (pc := 114) d_Model_drop_114 f_Model_56 rfl hMw.1 (xm_r15 hMw) ?_
      refine xv_iload_n (pc := 117) d_Model_drop_117 rfl rfl ?_
      refine xv_aload_n (pc := 118) d_Model_drop_118 rfl rfl ?_
      refine xv_getR (pc := 119) d_Model_drop_119 f_Model_56 rfl hMw.1 (xm_r15 hMw) ?_
      refine xv_iload_n (pc := 122) d_Model_drop_122 rfl rfl ?_
      refine xv_iconst (pc := 123) 1 d_Model_drop_123 (by decide) ?_
      refine xv_iadd (pc := 124) d_Model_drop_124 ?_
      refine xv_zald (pc := 125) d_Model_drop_125 (xm_k15 hMw) (by rw [e1]; exact xm_i15 hMw ik1) ?_
      refine xv_zast (pc := 126) d_Model_drop_126 (xm_k15 hMw) (xm_i15 hMw ik) (by rw [e1, hck1, xv_si_ne (by omega), xv_si_ne (by omega), xv_si_ne (by omega), xv_si_ne (by omega), xv_si_ne (by omega)]; exact xNar o16) ?_
      refine xv_aload_n (pc := 127) d_Model_drop_127 rfl rfl ?_
      refine xv_bipush (pc := 128) 8 d_Model_drop_128 (by decide) ?_
      refine xv_iload_n (pc := 130) d_Model_drop_130 rfl rfl ?_
      refine xv_iadd (pc := 131) d_Model_drop_131 ?_
      refine xv_bipush (pc := 132) 9 d_Model_drop_132 (by decide) ?_
      refine xv_iload_n (pc := 134) d_Model_drop_134 rfl rfl ?_
      refine xv_iadd (pc := 135) d_Model_drop_135 ?_
      have hsix : ∀ w', w' = xv_si (xv_si (xv_si (xv_si (xv_si (xv_si w (M + 17) k (xv_i w (M + 17) (k + 1))) (M + 19) k (xv_i w (M + 19) (k + 1))) (M + 18) k (xv_i w (M + 18) (k + 1))) (M + 15) k (xv_i w (M + 15) (k + 1))) (M + 20) k (xv_i w (M + 20) (k + 1))) (M + 16) k (xv_i w (M + 16) (k + 1)) → xMo w' M ∧ xv_N w' = xv_N u ∧ xv_S w' = xv_S u := by
        intro w' hw'
        subst hw'
        exact ⟨hMw, d1.1, d1.2.1⟩
      rw [e1, hck, hck1, xv_si_ne (by omega), xv_si_ne (by omega), xv_si_ne (by omega), xv_si_ne (by omega), xv_si_ne (by omega), xv_si_ne (by omega), xv_si_ne (by omega), xv_si_ne (by omega), xv_si_ne (by omega), xv_si_ne (by omega), xv_si_ne (by omega), xv_si_ne (by omega), xv_si_ne (by omega), xv_si_ne (by omega), xv_si_ne (by omega)]
      rw [x8, x9]
      obtain ⟨hM1, hN1, hS1⟩ := hsix _ rfl
      obtain ⟨s1, s2⟩ := xSix (w := w) (M := M) (k := k)
      have cu := c_Model_copyUnits (sc := sc) (t := 8 + k) (f := 9 + k) (n := L (k + 1)) hM1 (by omega) (by omega) (by omega) (by rw [s2 _ (by omega)]; exact lk) (by omega) (fun j hj => by rw [s2 _ (by omega)]; exact fx j hj)
      refine xv_cV2v (pc := 136) cu m_Model_copyUnits l_Model_175 d_Model_drop_136 (by omega) (by decide : 11 < xv_nc) rfl hM1.1 (Nat.le_of_ble_eq_true rfl) ⟨Nat.le_of_eq hN1, Nat.le_of_eq hS1⟩ (fun w2 hw2 hN2 hS2 => ?_)
      have hM2 := xSi_Mo hw2.1 hM1
      have N2 := hN2.trans hN1
      have S2 := hS2.trans hS1
      have inner : ∀ (p j : Nat) (w3 : xv_M), j + p = L (k + 1) → xSi (fun b => b = M + 21) w2 w3 → xBk w2 w3 (M + 21) (M + 21) (280 * k) (280 * (k + 1)) j → xv_X sc 1 J_Model_drop 142 [some (.ref M), some (.int (nI e)), some (.int (xv_i u (M + 17) e)), some (.int (nI k)), some (.int (nI j))] [] w3 (xv_N u) (xv_S u) (xv_q (xv_N u) (xv_S u) (xv_pi (fun r w => (¬ (∃ e', e' < n ∧ nI e = nI e') ∧ r = -1 ∧ w = u) ∨ (∃ e' w1, e' < n ∧ nI e = nI e' ∧ r = xv_i u (M + 17) e' ∧ xDq u w1 M e' (n - 1) L ∧ xv_i w1 M 31 = nI (n - 1) ∧ w = xv_si w1 M 30 (nI (n - 1)))))) := by
        intro p
        induction p with
        | zero =>
          intro j w3 hj z3 b3
          have hj : j = L (k + 1) := by omega
          have hM3 := xSi_Mo z3 hM2
          have hm3 : xv_i w3 (M + 10) (8 + k) = nI (L (k + 1)) := by rw [z3.2.2.2.2.2.2 _ (by omega)]; exact hw2.2.2.2.2.2.2.1
          refine xv_iload (pc := 142) d_Model_drop_142 rfl ?_
          refine xv_aload_n (pc := 144) d_Model_drop_144 rfl rfl ?_
          refine xv_getR (pc := 145) d_Model_drop_145 f_Model_37 rfl hM3.1 (xm_r9 hM3) ?_
          refine xv_bipush (pc := 148) 8 d_Model_drop_148 (by decide) ?_
          refine xv_iload_n (pc := 150) d_Model_drop_150 rfl rfl ?_
          refine xv_iadd (pc := 151) d_Model_drop_151 ?_
          refine xv_ald (pc := 152) d_Model_drop_152 (xm_k9 hM3) (by rw [x8]; exact xm_i9 hM3 (vp_in_nI (by omega) (by decide))) ?_
          refine xv_icmp_ge (pc := 153) 190 d_Model_drop_153 (by decide) (fun h153 => ?_) (fun h153 => ?_)
          case refine_2 =>
            rw [x8, nI_clamp (by omega), hm3, hj] at h153
            exact absurd (Int32.le_refl _) h153
          refine xv_iinc_3 (pc := 190) (nI (k + 1)) d_Model_drop_190 es (by decide) rfl ?_
          refine xv_goto (pc := 193) 35 d_Model_drop_193 (by decide) ?_
          rw [hj] at b3
          refine xv_no_4 (ih (k + 1) w3 (by omega) (by omega) (xDq_s hek (fun j hj => (hL (j + 1) (by omega)).2) D0 hw2 z3 b3 lk) ?_)
          rw [z3.2.2.2.2.2.2 _ (by omega), hw2.1.2.2.2.2.2.2 _ (fun q => by unfold xCU at q; omega), s2 _ (by omega)]
          exact h31
        | succ p ihp =>
          intro j w3 hj z3 b3
          have hM3 := xSi_Mo z3 hM2
          have hm3 : xv_i w3 (M + 10) (8 + k) = nI (L (k + 1)) := by rw [z3.2.2.2.2.2.2 _ (by omega)]; exact hw2.2.2.2.2.2.2.1
          have ej : nI j + Int32.ofInt 1 = nI (j + 1) := by rw [nI_succ]; rfl
          have c1 : (nI (280 * k + j)).toNatClampNeg = 280 * k + j := nI_clamp (by omega)
          have c2 : (nI (280 * (k + 1) + j)).toNatClampNeg = 280 * (k + 1) + j := nI_clamp (by omega)
          refine xv_iload (pc := 142) d_Model_drop_142 rfl ?_
          refine xv_aload_n (pc := 144) d_Model_drop_144 rfl rfl ?_
          refine xv_getR (pc := 145) d_Model_drop_145 f_Model_37 rfl hM3.1 (xm_r9 hM3) ?_
          refine xv_bipush (pc := 148) 8 d_Model_drop_148 (by decide) ?_
          refine xv_iload_n (pc := 150) d_Model_drop_150 rfl rfl ?_
          refine xv_iadd (pc := 151) d_Model_drop_151 ?_
          refine xv_ald (pc := 152) d_Model_drop_152 (xm_k9 hM3) (by rw [x8]; exact xm_i9 hM3 (vp_in_nI (by omega) (by decide))) ?_
          refine xv_icmp_ge (pc := 153) 190 d_Model_drop_153 (by decide) (fun h153 => ?_) (fun h153 => ?_)
          · rw [x8, nI_clamp (by omega), hm3] at h153
            exact absurd h153 (nI_ge (by omega) (by omega))
          refine xv_aload_n (pc := 156) d_Model_drop_156 rfl rfl ?_
          refine xv_getR (pc := 157) d_Model_drop_157 f_Model_71 rfl hM3.1 (xm_r20 hM3) ?_
          refine xv_sipush (pc := 160) 280 d_Model_drop_160 (by decide) ?_
          refine xv_iload_n (pc := 163) d_Model_drop_163 rfl rfl ?_
          refine xv_imul (pc := 164) d_Model_drop_164 ?_
          refine xv_iload (pc := 165) d_Model_drop_165 rfl ?_
          refine xv_iadd (pc := 167) d_Model_drop_167 ?_
          refine xv_aload_n (pc := 168) d_Model_drop_168 rfl rfl ?_
          refine xv_getR (pc := 169) d_Model_drop_169 f_Model_71 rfl hM3.1 (xm_r20 hM3) ?_
          refine xv_sipush (pc := 172) 280 d_Model_drop_172 (by decide) ?_
          refine xv_iload_n (pc := 175) d_Model_drop_175 rfl rfl ?_
          refine xv_iconst (pc := 176) 1 d_Model_drop_176 (by decide) ?_
          refine xv_iadd (pc := 177) d_Model_drop_177 ?_
          refine xv_imul (pc := 178) d_Model_drop_178 ?_
          refine xv_iload (pc := 179) d_Model_drop_179 rfl ?_
          refine xv_iadd (pc := 181) d_Model_drop_181 ?_
          refine xv_ald (pc := 182) d_Model_drop_182 (xm_k20 hM3) (by rw [e1, xIdx1]; exact xm_i20 hM3 (vp_in_nI (by omega) (by decide))) ?_
          refine xv_ast (pc := 183) d_Model_drop_183 (xm_k20 hM3) (by rw [xIdx]; exact xm_i20 hM3 (vp_in_nI (by omega) (by decide))) ?_
          refine xv_iinc_4 (pc := 184) (nI (j + 1)) d_Model_drop_184 ej (by decide) rfl ?_
          refine xv_goto (pc := 187) 142 d_Model_drop_187 (by decide) ?_
          rw [e1, xIdx1, xIdx, c1, c2, b3.1 _ (by omega)]
          exact ihp (j + 1) _ (by omega) (xSi_tr z3 (xSi_si rfl)) (xBk_s b3 (fun q => xv_si_if))
      refine xv_iconst (pc := 139) 0 d_Model_drop_139 (by decide) ?_
      refine xv_istore_4 (pc := 140) d_Model_drop_140 (by decide) rfl ?_
      exact inner (L (k + 1)) 0 w2 (by omega) xSi_rf ⟨fun q _ => rfl, fun k hk => absurd hk (Nat.not_lt_zero k)⟩
  refine loop (n - 1 - e) e _ (by omega) (Nat.le_refl _) ⟨xSi_si (Or.inl rfl), fun j hj => xv_si_nj hj, fun c hc q => ?_, fun c hc q => ?_, fun c hc => ⟨fun q hq => xv_si_ne (by omega), fun j i h1 h2 => absurd h2 (by omega)⟩, fun q hq => xv_si_ne (by omega), fun j i h1 h2 => absurd h2 (by omega)⟩ xv_si_eq
  · rw [xv_si_ne (by omega), if_neg (by omega)]
  · rw [xv_si_ne (by omega), if_neg (by omega)]

