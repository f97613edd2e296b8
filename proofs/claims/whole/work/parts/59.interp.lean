/-! the interpreter's memory, from B on; Interpreter.has, size -/
def xIn (u : xv_M) (h ma fa oa B : Nat) : Prop := xv_k u h = 4 ∧ xv_r u h 0 = some ma ∧ xv_r u h 1 = some fa ∧ xv_r u h 2 = some oa ∧ xv_k u ma = 103 ∧ xv_l u ma = 8 ∧ xv_k u fa = 104 ∧ xv_l u fa = 8 ∧ xv_k u oa = 105 ∧ xv_l u oa = 8 ∧ ∀ f, f < 8 → xv_r u ma f = some (B + 10 * f) ∧ xv_r u fa f = some (B + 10 * f + 4) ∧ xv_r u oa f = some (B + 10 * f + 7) ∧ xv_Fo u (B + 10 * f) (B + 10 * f + 1) (B + 10 * f + 2) (B + 10 * f + 3) ∧ xv_Fr u (B + 10 * f + 4) (B + 10 * f + 4 + 1) (B + 10 * f + 4 + 2) ∧ xv_Op u (B + 10 * f + 7) (B + 10 * f + 7 + 1) (B + 10 * f + 7 + 2)
theorem xSi_In {S : Nat → Prop} {u w : xv_M} {h ma fa oa B : Nat} (z : xSi S u w) (hI : xIn u h ma fa oa B) : xIn w h ma fa oa B := by
  obtain ⟨a1, a2, a3, a4, a5, a6, a7⟩ := z
  unfold xIn xv_Fo xv_Fr xv_Op
  rw [a3, a4, a5]
  exact hI
theorem c_Interp_has {sc : Nat × (Nat → Int32)} {u : xv_M} {h ma fa oa B : Nat} {x : Int32} (hI : xIn u h ma fa oa B) : xv_C sc 1 J_Interp_has [.ref h, .int x] u (xv_N u) (xv_S u) (xv_pi (fun r w => r = xB (decide ((0 ≤ x ∧ x ≤ 7) ∧ 0 < xv_i u (B + 10 * x.toNatClampNeg) 2)) ∧ w = u)) := by
  obtain ⟨k0, r0, r1, r2, kc, lc, kf, lf, ko, lo, hf⟩ := hI
  refine xv_C_of (by decide) (Nat.le_refl _) (Nat.le_refl _) (xv_cat1 rfl) (Nat.le_of_ble_eq_true rfl) ?_
  show xv_X sc 1 J_Interp_has 0 [some (.ref h), some (.int x)] [] u (xv_N u) (xv_S u) _
  refine xv_iload_n (pc := 0) d_Interp_has_0 rfl rfl ?_
  refine xv_iconst (pc := 1) 0 d_Interp_has_1 (by decide) ?_
  refine xv_bipush (pc := 2) 7 d_Interp_has_2 (by decide) ?_
  refine xv_cSN3i (pc := 4) (d1 := 0) c_Desk_within m_Desk_within l_Interp_32 d_Interp_has_4 (by omega) (Nat.le_of_ble_eq_true rfl) ⟨Nat.le_refl _, Nat.le_refl _⟩ (fun r w hw hN hS => ?_)
  obtain ⟨rfl, hw⟩ := hw
  subst w
  refine xv_if_eq (pc := 7) 26 d_Interp_has_7 (by decide) (fun h7 => ?_) (fun h7 => ?_)
  · have e := xw_eq h7
    refine xv_iconst (pc := 26) 0 d_Interp_has_26 (by decide) ?_
    exact xv_retzq (pc := 27) d_Interp_has_27 rfl (by decide) rfl rfl ⟨_, rfl, by rw [decide_eq_false (fun q => e q.1)]; rfl, rfl⟩
  · have e := xw_ne h7
    obtain ⟨i, hi, hxi⟩ : ∃ i, i < 8 ∧ x = nI i := xI8 e
    have hc : x.toNatClampNeg = i := by rw [hxi]; exact nI_clamp (by omega)
    obtain ⟨f1, f2, f3, f4, f5, f6⟩ := hf i hi
    refine xv_aload_n (pc := 10) d_Interp_has_10 rfl rfl ?_
    refine xv_getR (pc := 11) d_Interp_has_11 f_Interp_11 rfl k0 r0 ?_
    refine xv_iload_n (pc := 14) d_Interp_has_14 rfl rfl ?_
    refine xv_aald (pc := 15) (t := 0) d_Interp_has_15 kc rfl (by rw [lc, hxi]; exact vp_in_nI hi (by decide)) (by rw [hc]; exact f1) ?_
    refine xv_getI (pc := 16) d_Interp_has_16 f_Interp_36 rfl f4.1 ?_
    refine xv_if_le (pc := 19) 26 d_Interp_has_19 (by decide) (fun h19 => ?_) (fun h19 => ?_)
    · refine xv_iconst (pc := 26) 0 d_Interp_has_26 (by decide) ?_
      exact xv_retzq (pc := 27) d_Interp_has_27 rfl (by decide) rfl rfl ⟨_, rfl, by rw [hc, decide_eq_false (fun q => absurd q.2 (Int32.not_lt.mpr h19))]; rfl, rfl⟩
    · refine xv_iconst (pc := 22) 1 d_Interp_has_22 (by decide) ?_
      refine xv_goto (pc := 23) 27 d_Interp_has_23 (by decide) ?_
      exact xv_retzq (pc := 27) d_Interp_has_27 rfl (by decide) rfl rfl ⟨_, rfl, by rw [hc, decide_eq_true ⟨e, Int32.not_le.mp h19⟩]; rfl, rfl⟩
theorem c_Interp_size {sc : Nat × (Nat → Int32)} {u : xv_M} {h ma fa oa B : Nat} {L : Nat → Nat} (H : xIn u h ma fa oa B ∧ ∀ f, f < 8 → xv_i u (B + 10 * f) 2 = nI (L f) ∧ L f ≤ 40) : xv_C sc 2 J_Interp_size [.ref h] u (xv_N u) (xv_S u) (xv_pi (fun r w => r = nI (xCn (fun i => decide (0 < L i)) 8) ∧ w = u)) := by
  refine xv_C_of (by decide) (Nat.le_refl _) (Nat.le_refl _) (xv_cat1 rfl) (Nat.le_of_ble_eq_true rfl) ?_
  show xv_X sc 2 J_Interp_size 0 [some (.ref h), none, none] [] u (xv_N u) (xv_S u) _
  refine xv_iconst (pc := 0) 0 d_Interp_size_0 (by decide) ?_
  refine xv_istore_1 (pc := 1) d_Interp_size_1 (by decide) rfl ?_
  refine xv_iconst (pc := 2) 0 d_Interp_size_2 (by decide) ?_
  refine xv_istore_2 (pc := 3) d_Interp_size_3 (by decide) rfl ?_
  have loop : ∀ (r k : Nat), k + r = 8 → xv_X sc 2 J_Interp_size 4 [some (.ref h), some (.int (nI (xCn (fun i => decide (0 < L i)) k))), some (.int (nI k))] [] u (xv_N u) (xv_S u) (xv_q (xv_N u) (xv_S u) (xv_pi (fun r w => r = nI (xCn (fun i => decide (0 < L i)) 8) ∧ w = u))) := by
    intro r
    induction r with
    | zero =>
      intro k hk
      have hk : k = 8 := by omega
      subst hk
      refine xv_iload_n (pc := 4) d_Interp_size_4 rfl rfl ?_
      refine xv_bipush (pc := 5) 8 d_Interp_size_5 (by decide) ?_
      refine xv_icmp_ge (pc := 7) 27 d_Interp_size_7 (by decide) (fun h7 => ?_) (fun h7 => ?_)
      · refine xv_iload_n (pc := 27) d_Interp_size_27 rfl rfl ?_
        exact xv_retiq (pc := 28) d_Interp_size_28 rfl rfl rfl ⟨_, rfl, rfl, rfl⟩
      · exact absurd (by decide) h7
    | succ r ih =>
      intro k hk
      have es : nI k + Int32.ofInt 1 = nI (k + 1) := by rw [nI_succ]; rfl
      have hck : (nI k).toNatClampNeg = k := nI_clamp (by omega)
      obtain ⟨hL, hL2⟩ := H.2 k (by omega)
      have hle := xCn_le (fun i => decide (0 < L i)) k
      have es2 : nI (xCn (fun i => decide (0 < L i)) k) + Int32.ofInt 1 = nI (xCn (fun i => decide (0 < L i)) k + 1) := by rw [nI_succ]; rfl
      refine xv_iload_n (pc := 4) d_Interp_size_4 rfl rfl ?_
      refine xv_bipush (pc := 5) 8 d_Interp_size_5 (by decide) ?_
      refine xv_icmp_ge (pc := 7) 27 d_Interp_size_7 (by decide) (fun h7 => ?_) (fun h7 => ?_)
      · exact absurd h7 (nI_ge (b := 8) (by omega) (by decide))
      refine xv_aload_n (pc := 10) d_Interp_size_10 rfl rfl ?_
      refine xv_iload_n (pc := 11) d_Interp_size_11 rfl rfl ?_
      refine xv_cV1i (pc := 12) (d1 := 1) (c_Interp_has H.1) m_Interp_has l_Interp_40 d_Interp_size_12 (by omega) (by decide : 3 < xv_nc) rfl H.1.1 (Nat.le_of_ble_eq_true rfl) ⟨Nat.le_refl _, Nat.le_refl _⟩ (fun r2 w hw hN hS => ?_)
      obtain ⟨hr, hw⟩ := hw
      subst hw
      rw [hck, hL] at hr
      by_cases c : 0 < L k
      · rw [decide_eq_true ⟨⟨nI_pos0 (by omega), nI_leI8 (by omega)⟩, nI_posL c (by omega)⟩] at hr
        subst hr
        have hx : xCn (fun i => decide (0 < L i)) (k + 1) = xCn (fun i => decide (0 < L i)) k + 1 := by
          show _ + (if decide (0 < L k) = true then 1 else 0) = _
          rw [decide_eq_true c]; rfl
        refine xv_if_eq (pc := 15) 21 d_Interp_size_15 (by decide) (fun h15 => ?_) (fun h15 => ?_)
        · exact absurd h15 (by decide)
        refine xv_iinc_1 (pc := 18) (nI (xCn (fun i => decide (0 < L i)) k + 1)) d_Interp_size_18 es2 (by decide) rfl ?_
        refine xv_iinc_2 (pc := 21) (nI (k + 1)) d_Interp_size_21 es (by decide) rfl ?_
        refine xv_goto (pc := 24) 4 d_Interp_size_24 (by decide) ?_
        rw [← hx]
        exact ih (k + 1) (by omega)
      · have hL0 : L k = 0 := by omega
        rw [hL0, decide_eq_false (fun q => absurd q.2 (by decide))] at hr
        subst hr
        have hx : xCn (fun i => decide (0 < L i)) (k + 1) = xCn (fun i => decide (0 < L i)) k := by
          show _ + (if decide (0 < L k) = true then 1 else 0) = _
          rw [decide_eq_false c]; rfl
        refine xv_if_eq (pc := 15) 21 d_Interp_size_15 (by decide) (fun h15 => ?_) (fun h15 => ?_)
        · skip
          refine xv_iinc_2 (pc := 21) (nI (k + 1)) d_Interp_size_21 es (by decide) rfl ?_
          refine xv_goto (pc := 24) 4 d_Interp_size_24 (by decide) ?_
          rw [← hx]
          exact ih (k + 1) (by omega)
        · exact absurd rfl h15
  exact loop 8 0 (by omega)

