/-! CodeCheck.goes -/
theorem xNeg2 {l : Int32} (h : ¬ l < 0) (k : Nat) (hk : k ≤ 2) : ¬ l + nI k = -1 := by
  obtain ⟨j, hj, rfl⟩ := nI_of h
  rw [nI_add]
  intro e
  have h1 := congrArg (fun x : Int32 => x.toBitVec.toNat) e
  have h1 : (nI (j + k)).toBitVec.toNat = (-1 : Int32).toBitVec.toNat := h1
  rw [pk_tn (by omega), show (-1 : Int32).toBitVec.toNat = 4294967295 by decide] at h1
  omega
theorem xLe_2 : ∀ o, o < 22 → xLe o ≤ 2 := by decide +kernel
def xLp (n : Nat) (O : Nat → Nat) (F S : Nat → Int32) (m : Int32) : Nat → Nat → Bool → xCS → Bool × xCS
  | 0, _, b, σ => (b, σ)
  | r + 1, k, b, σ => if k < σ.2.2 ∧ k < 265 ∧ b = true then xLp n O F S m r (k + 1) (xPs n O F S m σ (σ.2.1 k).toNatClampNeg).1 (xPs n O F S m σ (σ.2.1 k).toNatClampNeg).2 else (b, σ)
theorem xv_sw_comm {u : xv_M} {h j a : Nat} {v : Int32} {f : Nat → Int32} (hne : h ≠ a) : xv_sw (xv_si u h j v) a f = xv_si (xv_sw u a f) h j v := by
  unfold xv_sw xv_si
  congr 1
  funext c q
  simp only [xv_i, xv_mk]
  by_cases e1 : c = a
  · subst e1
    simp [Ne.symm hne]
  · by_cases e2 : c = h
    · subst e2; simp [e1]
    · simp [e1, e2]
theorem xCM_seta {u : xv_M} {h a b k : Nat} {σ : xCS} {v : Int32} (hha : h ≠ a) (hab : a ≠ b) : xv_si (xCM u h a b σ) a k v = xCM u h a b (upd σ.1 k v, σ.2.1, σ.2.2) := by
  unfold xCM xv_si xv_sw
  congr 1
  funext c q
  simp only [xv_i, xv_mk]
  by_cases e5 : c = a
  · subst e5
    by_cases e6 : q = k
    · subst e6; simp [Ne.symm hha, hab, upd]
    · simp [Ne.symm hha, hab, e6, upd]
  · simp [e5]
theorem xCk_ps {n : Nat} {O : Nat → Nat} {F S : Nat → Int32} {m : Int32} {σ : xCS} {q : Nat} (hk : xCk n σ) (hn : n ≤ 265) (hO : O q < 22) : xCk n (xPs n O F S m σ q).2 := by
  unfold xPs
  split
  · exact hk
  · rename_i h1
    have hy := xNeg2 (not_or.mp h1).1 (xLe (O q)) (xLe_2 _ hO)
    split
    · exact hk
    · split
      · exact xCk_rch hk hn hy
      · split
        · split
          · exact xCk_rch (xCk_rch hk hn hy) hn hy
          · exact xCk_rch hk hn hy
        · exact xCk_rch hk hn hy
set_option maxHeartbeats 1000000 in
theorem c_Check_goes {sc : Nat × (Nat → Int32)} {u : xv_M} {h a b c o f g n : Nat} {O : Nat → Nat} {F S : Nat → Int32} {m : Int32} (hF : xv_Ck u h a b) (hC : xv_Co u c o f g) (hn : xv_i u c 3 = nI n) (hlt : n ≤ 265) (hU : ∀ i, i < n → xv_i u o i = nI (O i) ∧ O i < 22 ∧ xv_i u f i = F i ∧ xv_i u g i = S i) (hoa : o ≠ a) (hob : o ≠ b) (hfa : f ≠ a) (hfb : f ≠ b) (hga : g ≠ a) (hgb : g ≠ b) : xv_C sc 2 J_Check_goes [.ref h, .ref c, .int m] u (xv_N u) (xv_S u) (xv_pi (fun r w => ∃ (σ : xCS) (τ : xCS), σ.2.2 = 0 ∧ (∀ i, i < n → σ.1 i = -1) ∧ r = xB (xLp n O F S m 266 0 (xRch n σ 0 0).1 (xRch n σ 0 0).2).1 ∧ w = xCM (xv_sr u h 3 (some c)) h a b τ)) := by
  have hF0 : xv_Ck (xv_sr u h 3 (some c)) h a b := by
    obtain ⟨k0, r0, r1, ka, la, kb, lb, hab⟩ := hF
    exact ⟨k0, by show (if _ then _ else _) = _; rw [if_neg (fun z => absurd z.2 (by decide))]; exact r0, by show (if _ then _ else _) = _; rw [if_neg (fun z => absurd z.2 (by decide))]; exact r1, ka, la, kb, lb, hab⟩
  have hch : c ≠ h := xv_ne hC.1 hF.1 (by decide)
  have hC0 : xv_Co (xv_sr u h 3 (some c)) c o f g := by
    obtain ⟨kc, c0, c1, c2, ko, lo, kf, lf, kg, lg⟩ := hC
    exact ⟨kc, by show (if _ then _ else _) = _; rw [if_neg (fun z => hch z.1)]; exact c0, by show (if _ then _ else _) = _; rw [if_neg (fun z => hch z.1)]; exact c1, by show (if _ then _ else _) = _; rw [if_neg (fun z => hch z.1)]; exact c2, ko, lo, kf, lf, kg, lg⟩
  have hr0 : xv_r (xv_sr u h 3 (some c)) h 3 = some c := if_pos ⟨rfl, rfl⟩
  obtain ⟨k0, r0, r1, ka, la, kb, lb, hab⟩ := hF0
  have hF1 : xv_Ck (xv_sr u h 3 (some c)) h a b := ⟨k0, r0, r1, ka, la, kb, lb, hab⟩
  have hha := xv_ne k0 ka (by decide)
  have hhb := xv_ne k0 kb (by decide)
  have c2 := xv_ne hC.1 hF.2.2.2.1 (by decide)
  have c3 := xv_ne hC.1 hF.2.2.2.2.2.1 (by decide)
  refine xv_C_of (by decide) (Nat.le_refl _) (Nat.le_refl _) (xv_cat1 rfl) (Nat.le_of_ble_eq_true rfl) ?_
  show xv_X sc 2 J_Check_goes 0 [some (.ref h), some (.ref c), some (.int m), none, none] [] u (xv_N u) (xv_S u) _
  refine xv_aload_n (pc := 0) d_Check_goes_0 rfl rfl ?_
  refine xv_aload_n (pc := 1) d_Check_goes_1 rfl rfl ?_
  refine xv_putR (pc := 2) d_Check_goes_2 f_Check_18 rfl fin_7_3 hF.1 ?_
  refine xv_aload_n (pc := 5) d_Check_goes_5 rfl rfl ?_
  refine xv_iconst (pc := 6) 0 d_Check_goes_6 (by decide) ?_
  refine xv_putI (pc := 7) d_Check_goes_7 f_Check_22 (Or.inl rfl) fin_7_2 hF.1 ?_
  refine xv_iconst (pc := 10) 0 d_Check_goes_10 (by decide) ?_
  refine xv_istore_3 (pc := 11) d_Check_goes_11 (by decide) rfl ?_
  have loop1 : ∀ (r k : Nat) (φ : Nat → Int32), k + r = n → (∀ i, i < k → φ i = -1) → xv_X sc 2 J_Check_goes 12 [some (.ref h), some (.ref c), some (.int m), some (.int (nI k)), none] [] (xCM (xv_sr u h 3 (some c)) h a b (φ, xv_i u b, 0)) (xv_N u) (xv_S u) (xv_q (xv_N u) (xv_S u) (xv_pi (fun r w => ∃ (σ : xCS) (τ : xCS), σ.2.2 = 0 ∧ (∀ i, i < n → σ.1 i = -1) ∧ r = xB (xLp n O F S m 266 0 (xRch n σ 0 0).1 (xRch n σ 0 0).2).1 ∧ w = xCM (xv_sr u h 3 (some c)) h a b τ))) := by
    intro r
    induction r with
    | zero =>
      intro k φ hk hφ
      have hk : k = n := by omega
      subst hk
      refine xv_iload_n (pc := 12) d_Check_goes_12 rfl rfl ?_
      refine xv_aload_n (pc := 13) d_Check_goes_13 rfl rfl ?_
      refine xv_getR (pc := 14) d_Check_goes_14 f_Check_18 rfl hF.1 hr0 ?_
      refine xv_getI (pc := 17) d_Check_goes_17 f_Check_26 rfl hC.1 ?_
      refine xv_icmp_ge (pc := 20) 36 d_Check_goes_20 (by decide) (fun h20 => ?_) (fun h20 => ?_)
      case refine_2 =>
        rw [xCM_o hch c2 c3] at h20
        exact absurd (by show xv_i u c 3 ≤ _; rw [hn]; exact nI_le (Nat.le_refl _) (by omega)) h20
      refine xv_aload_n (pc := 36) d_Check_goes_36 rfl rfl ?_
      refine xv_iconst (pc := 37) 0 d_Check_goes_37 (by decide) ?_
      refine xv_iconst (pc := 38) 0 d_Check_goes_38 (by decide) ?_
      have hk0 : xCk k (φ, xv_i u b, 0) := ⟨fun _ => 0, fun i hi => absurd hi (Nat.not_lt_zero i), fun i j hi => absurd hi (Nat.not_lt_zero i)⟩
      have hrc : ∀ (σ' : xCS) (x y : Int32), xCk k σ' → xv_C sc 0 J_Check_reach [.ref h, .int x, .int y] (xCM (xv_sr u h 3 (some c)) h a b σ') (xv_N (xv_sr u h 3 (some c))) (xv_S (xv_sr u h 3 (some c))) (xv_pi (fun r w => r = xB (xRch k σ' x y).1 ∧ w = xCM (xv_sr u h 3 (some c)) h a b (xRch k σ' x y).2)) := fun σ' x y hk' => by
        refine c_Check_reach hF1 hC0 hr0 hn hlt (Nat.le_trans (xCk_le hk') hlt) (fun g1 g2 => ?_)
        obtain ⟨z, hz, -, hcz⟩ := xIx g1 hlt
        rw [hcz] at g2
        exact Nat.lt_of_lt_of_le (xCk_lt hk' hz g2) hlt
      refine xv_cV2i (pc := 39) (hrc _ 0 0 hk0) m_Check_reach l_Check_31 d_Check_goes_39 (by omega) (by decide : 7 < xv_nc) rfl hF.1 (Nat.le_of_ble_eq_true rfl) ⟨Nat.le_refl _, Nat.le_refl _⟩ (fun r w hw hN hS => ?_)
      obtain ⟨rfl, hw⟩ := hw
      subst w
      refine xv_istore_3 (pc := 42) d_Check_goes_42 (by decide) rfl ?_
      refine xv_iconst (pc := 43) 0 d_Check_goes_43 (by decide) ?_
      refine xv_istore_4 (pc := 44) d_Check_goes_44 (by decide) rfl ?_
      have hk1 : xCk k (xRch k (φ, xv_i u b, 0) 0 0).2 := xCk_rch hk0 hlt (by decide)
      have loop2 : ∀ (r j : Nat) (v : Bool) (τ : xCS), j + r = 266 → xCk k τ → (∀ R, R = (xLp k O F S m r j v τ).1 → R = (xLp k O F S m 266 0 (xRch k (φ, xv_i u b, 0) 0 0).1 (xRch k (φ, xv_i u b, 0) 0 0).2).1) → xv_X sc 2 J_Check_goes 46 [some (.ref h), some (.ref c), some (.int m), some (.int (xB v)), some (.int (nI j))] [] (xCM (xv_sr u h 3 (some c)) h a b τ) (xv_N u) (xv_S u) (xv_q (xv_N u) (xv_S u) (xv_pi (fun r w => ∃ (σ : xCS) (τ : xCS), σ.2.2 = 0 ∧ (∀ i, i < k → σ.1 i = -1) ∧ r = xB (xLp k O F S m 266 0 (xRch k σ 0 0).1 (xRch k σ 0 0).2).1 ∧ w = xCM (xv_sr u h 3 (some c)) h a b τ))) := by
        intro r
        induction r with
        | zero =>
          intro j v τ hj hτ hR
          refine xv_iload (pc := 46) d_Check_goes_46 rfl ?_
          refine xv_aload_n (pc := 48) d_Check_goes_48 rfl rfl ?_
          refine xv_getI (pc := 49) d_Check_goes_49 f_Check_22 rfl hF.1 ?_
          refine xv_icmp_ge (pc := 52) 86 d_Check_goes_52 (by decide) (fun h52 => ?_) (fun h52 => ?_)
          · refine xv_iload_n (pc := 86) d_Check_goes_86 rfl rfl ?_
            exact xv_retzq (pc := 87) d_Check_goes_87 rfl (xB_and _) rfl rfl ⟨_, rfl, _, τ, rfl, hφ, by rw [← hR _ rfl]; rfl, rfl⟩
          · refine xv_iload (pc := 55) d_Check_goes_55 rfl ?_
            refine xv_sipush (pc := 57) 265 d_Check_goes_57 (by decide) ?_
            refine xv_icmp_ge (pc := 60) 86 d_Check_goes_60 (by decide) (fun h60 => ?_) (fun h60 => ?_)
            · refine xv_iload_n (pc := 86) d_Check_goes_86 rfl rfl ?_
              exact xv_retzq (pc := 87) d_Check_goes_87 rfl (xB_and _) rfl rfl ⟨_, rfl, _, τ, rfl, hφ, by rw [← hR _ rfl]; rfl, rfl⟩
            · exact absurd (nI_le (a := 265) (by omega) (by omega)) h60
        | succ r ih =>
          intro j v τ hj hτ hR
          have es : nI j + Int32.ofInt 1 = nI (j + 1) := by rw [nI_succ]; rfl
          have hcj : (nI j).toNatClampNeg = j := nI_clamp (by omega)
          have hml := Nat.le_trans (xCk_le hτ) hlt
          have stop : ¬ (j < τ.2.2 ∧ j < 265 ∧ v = true) → xLp k O F S m (r + 1) j v τ = (v, τ) := fun z => by
            show (if _ then _ else _) = _
            rw [if_neg z]
          refine xv_iload (pc := 46) d_Check_goes_46 rfl ?_
          refine xv_aload_n (pc := 48) d_Check_goes_48 rfl rfl ?_
          refine xv_getI (pc := 49) d_Check_goes_49 f_Check_22 rfl hF.1 ?_
          refine xv_icmp_ge (pc := 52) 86 d_Check_goes_52 (by decide) (fun h52 => ?_) (fun h52 => ?_)
          · have z : ¬ j < τ.2.2 := by
              rw [xCM_m] at h52
              have := (nI_leI (a := τ.2.2) (b := j) (by omega) (by omega)).mp h52
              omega
            refine xv_iload_n (pc := 86) d_Check_goes_86 rfl rfl ?_
            exact xv_retzq (pc := 87) d_Check_goes_87 rfl (xB_and _) rfl rfl ⟨_, rfl, _, τ, rfl, hφ, by rw [← hR _ rfl, stop (fun q => z q.1)], rfl⟩
          have z1 : j < τ.2.2 := by
            rw [xCM_m] at h52
            exact Nat.not_le.mp (fun q => h52 (nI_le q (by omega)))
          refine xv_iload (pc := 55) d_Check_goes_55 rfl ?_
          refine xv_sipush (pc := 57) 265 d_Check_goes_57 (by decide) ?_
          refine xv_icmp_ge (pc := 60) 86 d_Check_goes_60 (by decide) (fun h60 => ?_) (fun h60 => ?_)
          · exact absurd h60 (nI_ge (b := 265) (by omega) (by omega))
          refine xv_iload_n (pc := 63) d_Check_goes_63 rfl rfl ?_
          refine xv_if_eq (pc := 64) 86 d_Check_goes_64 (by decide) (fun h64 => ?_) (fun h64 => ?_)
          · have e := xB_eq h64
            refine xv_iload_n (pc := 86) d_Check_goes_86 rfl rfl ?_
            exact xv_retzq (pc := 87) d_Check_goes_87 rfl (xB_and _) rfl rfl ⟨_, rfl, _, τ, rfl, hφ, by rw [← hR _ rfl, stop (fun q => by rw [e] at q; exact absurd q.2.2 (by decide))], rfl⟩
          have e := xB_ne h64
          have go : xLp k O F S m (r + 1) j v τ = xLp k O F S m r (j + 1) (xPs k O F S m τ (τ.2.1 j).toNatClampNeg).1 (xPs k O F S m τ (τ.2.1 j).toNatClampNeg).2 := by
            show (if _ then _ else _) = _
            rw [if_pos ⟨z1, by omega, e⟩]
          rw [go] at hR
          obtain ⟨ρ, p1, p2⟩ := id hτ
          obtain ⟨q1, q2, q3⟩ := p1 j z1
          have hcr : (nI (ρ j)).toNatClampNeg = ρ j := nI_clamp (by omega)
          refine xv_aload_n (pc := 67) d_Check_goes_67 rfl rfl ?_
          refine xv_aload_n (pc := 68) d_Check_goes_68 rfl rfl ?_
          refine xv_getR (pc := 69) d_Check_goes_69 f_Check_15 rfl hF.1 r1 ?_
          refine xv_iload (pc := 72) d_Check_goes_72 rfl ?_
          refine xv_ald (pc := 74) d_Check_goes_74 kb (by show vp_in _ (xv_l u b); rw [show xv_l u b = 265 from lb]; exact vp_in_nI (by omega) (by decide)) ?_
          refine xv_iload_n (pc := 75) d_Check_goes_75 rfl rfl ?_
          rw [hcj, xCM_r hhb, q2]
          rw [q2, hcr] at hR
          have hps := c_Check_passes (sc := sc) (m := m) (σ := τ) hF1 hC0 hr0 hn hlt hτ hU hoa hob hfa hfb hga hgb q1 (by
            by_cases hl : τ.1 (ρ j) - nI (xTa (O (ρ j))) < 0
            · exact Or.inr (Or.inl hl)
            · exact Or.inl (xNeg2 hl _ (xLe_2 _ (hU _ q1).2.1)))
          refine xv_cV2i (pc := 76) hps m_Check_passes l_Check_35 d_Check_goes_76 (by omega) (by decide : 7 < xv_nc) rfl hF.1 (Nat.le_of_ble_eq_true rfl) ⟨Nat.le_refl _, Nat.le_refl _⟩ (fun r2 w hw hN hS => ?_)
          obtain ⟨rfl, hw⟩ := hw
          subst w
          refine xv_istore_3 (pc := 79) d_Check_goes_79 (by decide) rfl ?_
          refine xv_iinc_4 (pc := 80) (nI (j + 1)) d_Check_goes_80 es (by decide) rfl ?_
          refine xv_goto (pc := 83) 46 d_Check_goes_83 (by decide) ?_
          exact ih (j + 1) _ _ (by omega) (xCk_ps hτ hlt (hU _ q1).2.1) hR
      rw [← nI_0]
      exact loop2 266 0 _ _ (by omega) hk1 (fun R hR => hR)
    | succ r ih =>
      intro k φ hk hφ
      have es : nI k + Int32.ofInt 1 = nI (k + 1) := by rw [nI_succ]; rfl
      have hc : (nI k).toNatClampNeg = k := nI_clamp (by omega)
      refine xv_iload_n (pc := 12) d_Check_goes_12 rfl rfl ?_
      refine xv_aload_n (pc := 13) d_Check_goes_13 rfl rfl ?_
      refine xv_getR (pc := 14) d_Check_goes_14 f_Check_18 rfl hF.1 hr0 ?_
      refine xv_getI (pc := 17) d_Check_goes_17 f_Check_26 rfl hC.1 ?_
      refine xv_icmp_ge (pc := 20) 36 d_Check_goes_20 (by decide) (fun h20 => ?_) (fun h20 => ?_)
      · rw [xCM_o hch c2 c3] at h20
        have h20 : xv_i u c 3 ≤ nI k := h20
        rw [hn] at h20
        exact absurd h20 (nI_ge (by omega) (by omega))
      refine xv_aload_n (pc := 23) d_Check_goes_23 rfl rfl ?_
      refine xv_getR (pc := 24) d_Check_goes_24 f_Check_9 rfl hF.1 r0 ?_
      refine xv_iload_n (pc := 27) d_Check_goes_27 rfl rfl ?_
      refine xv_iconst (pc := 28) (-1) d_Check_goes_28 (by decide) ?_
      refine xv_ast (pc := 29) d_Check_goes_29 ka (by show vp_in _ (xv_l u a); rw [show xv_l u a = 265 from la]; exact vp_in_nI (by omega) (by decide)) ?_
      refine xv_iinc_3 (pc := 30) (nI (k + 1)) d_Check_goes_30 es (by decide) rfl ?_
      refine xv_goto (pc := 33) 12 d_Check_goes_33 (by decide) ?_
      rw [hc]
      have e1 : xv_si (xCM (xv_sr u h 3 (some c)) h a b (φ, xv_i u b, 0)) a k (-1) = xCM (xv_sr u h 3 (some c)) h a b (upd φ k (-1), xv_i u b, 0) := xCM_seta hha hab
      rw [e1]
      refine ih (k + 1) _ (by omega) (fun i hi => ?_)
      by_cases h9 : i = k
      · subst h9; exact pk_us
      · rw [xw_upd h9]; exact hφ i (by omega)
  have hs := loop1 n 0 (xv_i u a) (by omega) (fun i hi => absurd hi (Nat.not_lt_zero i))
  have e0 : xCM (xv_sr u h 3 (some c)) h a b (xv_i u a, xv_i u b, 0) = xv_si (xv_sr u h 3 (some c)) h 2 0 := by
    unfold xCM
    show xv_si (xv_sw (xv_sw (xv_sr u h 3 (some c)) a (xv_i (xv_sr u h 3 (some c)) a)) b (xv_i (xv_sr u h 3 (some c)) b)) h 2 (nI 0) = _
    rw [xv_sw_id, xv_sw_id]
    rfl
  rw [e0] at hs
  exact hs

