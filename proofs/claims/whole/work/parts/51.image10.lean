/-! Image.answer -/
theorem c_ansN {sc : Nat × (Nat → Int32)} {u : xv_M} {h ca fa B M m f : Nat} {L : Nat → Nat} {O : Nat → Nat → Nat} {F S : Nat → Nat → Int32} {G : Nat → Nat → Nat → Prop} {x y z : Int32} (hM : M = 1000000) (hG : xGd L O F S G) (ih : ∀ a, a < m → a < 8 → 0 < L a → xAc sc h ca fa B M L O F S m a) (H : xMI u h ca fa B L O F S) (hf : f < 8) (hfm : f ≤ m) (hLf : 0 < L f) {v : Int32} (hx : xAn M L O F S (m + 1) f x y z = .inl v) : xv_C sc (4 * m + 16) J_Image_answer [.ref h, .int (nI f), .int x, .int y, .int z] u (xv_N u) (xv_S u) (xv_pi (fun r w => r = v ∧ xSi (xSF B f) u w)) := by
  have H0 := H
  obtain ⟨⟨kh, r0, r1, kc, lc, kf, lf, hfs⟩, hU⟩ := H
  obtain ⟨f1, f2, f3, f4⟩ := hfs f hf
  have hcf : (nI f).toNatClampNeg = f := nI_clamp (by omega)
  have hif : vp_in (nI f) 8 := vp_in_nI hf (by decide)
  unfold xAn at hx
  generalize hstp : (fun p σ => xStep (xAn M L O F S m) L f (O f p) (F f p) (S f p) p σ) = stp at hx
  refine xv_C_of (by decide) (Nat.le_refl _) (Nat.le_refl _) (xv_cat1 rfl) (Nat.le_of_ble_eq_true rfl) ?_
  show xv_X sc (4 * m + 16) J_Image_answer 0 [some (.ref h), some (.int (nI f)), some (.int x), some (.int y), some (.int z), none, none, none] [] u (xv_N u) (xv_S u) _
  refine xv_aload_n (pc := 0) d_Image_answer_0 rfl rfl ?_
  refine xv_getR (pc := 1) d_Image_answer_1 f_Image_11 rfl kh r0 ?_
  refine xv_iload_n (pc := 4) d_Image_answer_4 rfl rfl ?_
  refine xv_aald (pc := 5) (t := 4) d_Image_answer_5 kc rfl (by rw [lc]; exact hif) (by rw [hcf]; exact f1) ?_
  refine xv_astore_5 (pc := 6) d_Image_answer_6 (by decide) rfl ?_
  refine xv_aload_n (pc := 8) d_Image_answer_8 rfl rfl ?_
  refine xv_getR (pc := 9) d_Image_answer_9 f_Image_19 rfl kh r1 ?_
  refine xv_iload_n (pc := 12) d_Image_answer_12 rfl rfl ?_
  refine xv_aald (pc := 13) (t := 1) d_Image_answer_13 kf rfl (by rw [lf]; exact hif) (by rw [hcf]; exact f2) ?_
  refine xv_iconst (pc := 14) 3 d_Image_answer_14 (by decide) ?_
  refine xv_iload_n (pc := 15) d_Image_answer_15 rfl rfl ?_
  refine xv_iload_n (pc := 16) d_Image_answer_16 rfl rfl ?_
  refine xv_iload (pc := 17) d_Image_answer_17 rfl ?_
  refine xv_cV4v (pc := 19) (d1 := 1) (c_Frame_begin (n := 3) f4) m_Frame_begin l_Image_59 d_Image_answer_19 (by omega) (by decide : 1 < xv_nc) rfl f4.1 (Nat.le_of_ble_eq_true rfl) ⟨Nat.le_refl _, Nat.le_refl _⟩ (fun w hw hN hS => ?_)
  obtain ⟨fv, hw, hfv⟩ := hw
  have hw1 : xFs w (B + 7 * f + 4) (xArg 3 x y z, fun _ => 0, 0) ∧ xSi (xSF B f) u w := by
    subst hw
    refine ⟨⟨fun q hq => ?_, fun q hq => absurd hq (Nat.not_lt_zero q), xv_si_eq⟩, xSi_F (xSi_tr (xSi_sw (Or.inr (Or.inl rfl))) (xSi_si (Or.inl rfl)))⟩
    rw [xv_si_ne (by omega), xv_sw_eq]
    exact hfv q hq
  clear hw
  refine xv_iconst (pc := 22) 0 d_Image_answer_22 (by decide) ?_
  refine xv_istore_6 (pc := 23) d_Image_answer_23 (by decide) rfl ?_
  refine xv_iconst (pc := 25) 0 d_Image_answer_25 (by decide) ?_
  refine xv_istore_7 (pc := 26) d_Image_answer_26 (by decide) rfl ?_
  have tail : ∀ (k p : Nat) (σ : xZ) (w : xv_M), xSi (xSF B f) u w → xFs w (B + 7 * f + 4) σ → σ.2.2 ≤ 42 → xTop σ = v → xv_X sc (4 * m + 16) J_Image_answer 73 [some (.ref h), some (.int (nI f)), some (.int x), some (.int y), some (.int z), some (.ref (B + 7 * f)), some (.int (nI p)), some (.int (nI k))] [] w (xv_N u) (xv_S u) (xv_q (xv_N u) (xv_S u) (xv_pi (fun r w => r = v ∧ xSi (xSF B f) u w))) := by
    intro k p σ w zw hs h42 ht
    obtain ⟨⟨khw, r0w, r1w, kcw, lcw, kfw, lfw, hfsw⟩, hUw⟩ := xSi_MI zw H0
    obtain ⟨f1w, f2w, f3w, f4w⟩ := hfsw f hf
    refine xv_aload_n (pc := 73) d_Image_answer_73 rfl rfl ?_
    refine xv_getR (pc := 74) d_Image_answer_74 f_Image_19 rfl khw r1w ?_
    refine xv_iload_n (pc := 77) d_Image_answer_77 rfl rfl ?_
    refine xv_aald (pc := 78) (t := 1) d_Image_answer_78 kfw rfl (by rw [lfw]; exact hif) (by rw [hcf]; exact f2w) ?_
    unfold xTop at ht
    by_cases e : σ.2.2 = 0
    · rw [if_pos e] at ht
      refine xv_cV0i (pc := 79) (c_Frame_pop0 f4w (by rw [hs.2.2, e]; rfl)) m_Frame_pop l_Image_72 d_Image_answer_79 (by omega) (by decide : 1 < xv_nc) rfl f4w.1 (Nat.le_of_ble_eq_true rfl) (xSi_le zw) (fun r w2 hw hN hS => ?_)
      obtain ⟨hr, hw⟩ := hw
      subst hr
      subst hw
      exact xv_retiq (pc := 82) d_Image_answer_82 rfl zw.1 zw.2.1 ⟨_, rfl, ht, zw⟩
    · rw [if_neg e] at ht
      obtain ⟨n, hn⟩ : ∃ n, σ.2.2 = n + 1 := ⟨σ.2.2 - 1, by omega⟩
      refine xv_cV0i (pc := 79) (c_Frame_pop (n := n) f4w (by rw [hs.2.2, hn]) (by omega)) m_Frame_pop l_Image_72 d_Image_answer_79 (by omega) (by decide : 1 < xv_nc) rfl f4w.1 (Nat.le_of_ble_eq_true rfl) (xSi_le zw) (fun r w2 hw hN hS => ?_)
      obtain ⟨hr, hw⟩ := hw
      have hr : r = xTp σ := by rw [hr, hs.2.1 n (by omega)]; unfold xTp; rw [hn]; rfl
      subst hr
      obtain ⟨g1, s1⟩ := xFs_po hs hn hw
      have s2 := xSi_tr zw (xSi_F s1)
      exact xv_retiq (pc := 82) d_Image_answer_82 rfl s2.1 s2.2.1 ⟨_, rfl, ht, s2⟩
  have loop : ∀ (r k p : Nat) (σ : xZ) (w : xv_M), k + r = M → xSi (xSF B f) u w → xFs w (B + 7 * f + 4) σ → G f p σ.2.2 → xGo stp (O f) (L f) r (nI p) σ = .inl v → xv_X sc (4 * m + 16) J_Image_answer 28 [some (.ref h), some (.int (nI f)), some (.int x), some (.int y), some (.int z), some (.ref (B + 7 * f)), some (.int (nI p)), some (.int (nI k))] [] w (xv_N u) (xv_S u) (xv_q (xv_N u) (xv_S u) (xv_pi (fun r w => r = v ∧ xSi (xSF B f) u w))) := by
    intro r
    induction r with
    | zero =>
      intro k p σ w hk zw hs hp hx
      unfold xGo at hx
      have h42 := (hG.2 f p _ hf hp).2.1.2.2.1
      have hk : k = 1000000 := by omega
      subst hk
      refine xv_iload (pc := 28) d_Image_answer_28 rfl ?_
      refine xv_ldc (pc := 30) 1000000 d_Image_answer_30 k_775 ?_
      refine xv_icmp_ge (pc := 32) 73 d_Image_answer_32 (by decide) (fun h32 => ?_) (fun h32 => ?_)
      · skip
        cases hx
        exact tail _ _ _ _ zw hs h42 rfl
      · exact absurd (by rw [nI_M]; exact Int32.le_refl _) h32
    | succ r ihr =>
      intro k p σ w hk zw hs hp hx
      have Hw := xSi_MI zw H0
      obtain ⟨⟨khw, r0w, r1w, kcw, lcw, kfw, lfw, hfsw⟩, hUw⟩ := Hw
      obtain ⟨f1w, f2w, f3w, f4w⟩ := hfsw f hf
      obtain ⟨hpl, hok, -⟩ := hG.2 f p _ hf hp
      have hn42 := hok.2.2.1
      clear hok
      obtain ⟨uL, uLe, uU⟩ := hUw f hf
      obtain ⟨eO, hO22, eF, eS⟩ := uU p hpl
      have hcp : (nI p).toNatClampNeg = p := nI_clamp (by omega)
      have es : nI k + Int32.ofInt 1 = nI (k + 1) := by rw [nI_succ]; rfl
      have hT17 : (nI (O f p) = 17) ↔ O f p = 17 := nI_eq (b := 17) (by omega) (by decide)
      unfold xGo at hx
      rw [hcp] at hx
      refine xv_iload (pc := 28) d_Image_answer_28 rfl ?_
      refine xv_ldc (pc := 30) 1000000 d_Image_answer_30 k_775 ?_
      refine xv_icmp_ge (pc := 32) 73 d_Image_answer_32 (by decide) (fun h32 => ?_) (fun h32 => ?_)
      · rw [← nI_M] at h32
        exact absurd h32 (nI_ge (by omega) (by decide))
      refine xv_iload (pc := 35) d_Image_answer_35 rfl ?_
      refine xv_aload (pc := 37) d_Image_answer_37 rfl ?_
      refine xv_getI (pc := 39) d_Image_answer_39 f_Image_29 rfl f3w.1 ?_
      refine xv_icmp_ge (pc := 42) 73 d_Image_answer_42 (by decide) (fun h42 => ?_) (fun h42 => ?_)
      · rw [uL] at h42
        exact absurd h42 (nI_ge hpl (by omega))
      refine xv_aload (pc := 45) d_Image_answer_45 rfl ?_
      refine xv_getR (pc := 47) d_Image_answer_47 f_Image_64 rfl f3w.1 f3w.2.1 ?_
      refine xv_iload (pc := 50) d_Image_answer_50 rfl ?_
      refine xv_ald (pc := 52) d_Image_answer_52 f3w.2.2.2.2.1 (by rw [f3w.2.2.2.2.2.1]; exact vp_in_nI (by omega) (by decide)) ?_
      refine xv_bipush (pc := 53) 17 d_Image_answer_53 (by decide) ?_
      refine xv_icmp_eq (pc := 55) 73 d_Image_answer_55 (by decide) (fun h55 => ?_) (fun h55 => ?_)
      · rw [hcp, eO] at h55
        have e17 := hT17.mp h55
        rw [if_pos (Or.inr e17)] at hx
        cases hx
        exact tail _ _ _ _ zw hs hn42 rfl
      rw [hcp, eO] at h55
      have e17 : ¬ O f p = 17 := fun e => h55 (hT17.mpr e)
      rw [if_neg (fun q => q.elim (nI_ge hpl (by omega)) e17), show stp p σ = xStep (xAn M L O F S m) L f (O f p) (F f p) (S f p) p σ by rw [← hstp]] at hx
      have hH := xSi_MI zw H0
      cases hst : xStep (xAn M L O F S m) L f (O f p) (F f p) (S f p) p σ with
      | inr e =>
        rw [hst] at hx
        have hx : (.inr e : xRs) = .inl v := hx
        cases hx
      | inl q =>
        obtain ⟨r', τ⟩ := q
        rw [hst] at hx
        have hx : xGo stp (O f) (L f) r r' τ = .inl v := hx
        obtain ⟨p', hr', hp'⟩ := xStep_G hG hf hp e17 hst
        subst hr'
        refine xv_aload_n (pc := 58) d_Image_answer_58 rfl rfl ?_
        refine xv_iload_n (pc := 59) d_Image_answer_59 rfl rfl ?_
        refine xv_iload (pc := 60) d_Image_answer_60 rfl ?_
        rcases c_stepN hG ih hH hf hfm hs hp e17 hst with hc | hc
        · refine xv_cV2i (pc := 62) hc m_Image_perform l_Image_68 d_Image_answer_62 (by omega) (by decide : 9 < xv_nc) rfl khw (Nat.le_of_ble_eq_true rfl) (xSi_le zw) (fun r2 w2 hw hN hS => ?_)
          obtain ⟨hr, g1, s1⟩ := hw
          subst hr
          refine xv_istore_6 (pc := 65) d_Image_answer_65 (by decide) rfl ?_
          refine xv_iinc_7 (pc := 67) (nI (k + 1)) d_Image_answer_67 es (by decide) rfl ?_
          refine xv_goto (pc := 70) 28 d_Image_answer_70 (by decide) ?_
          exact ihr (k + 1) p' τ w2 (by omega) (xSi_tr zw s1) g1 hp' hx
        · skip
          refine xv_cV2i (pc := 62) hc m_Image_perform l_Image_68 d_Image_answer_62 (by omega) (by decide : 9 < xv_nc) rfl khw (Nat.le_of_ble_eq_true rfl) (xSi_le zw) (fun r2 w2 hw hN hS => ?_)
          obtain ⟨hr, g1, s1⟩ := hw
          subst hr
          refine xv_istore_6 (pc := 65) d_Image_answer_65 (by decide) rfl ?_
          refine xv_iinc_7 (pc := 67) (nI (k + 1)) d_Image_answer_67 es (by decide) rfl ?_
          refine xv_goto (pc := 70) 28 d_Image_answer_70 (by decide) ?_
          exact ihr (k + 1) p' τ w2 (by omega) (xSi_tr zw s1) g1 hp' hx
  exact loop M 0 0 _ w (by omega) hw1.2 hw1.1 (hG.1 f hf hLf) hx
theorem c_ansX {sc : Nat × (Nat → Int32)} {u : xv_M} {h ca fa B M m f : Nat} {L : Nat → Nat} {O : Nat → Nat → Nat} {F S : Nat → Nat → Int32} {G : Nat → Nat → Nat → Prop} {x y z : Int32} (hM : M = 1000000) (hG : xGd L O F S G) (ih : ∀ a, a < m → a < 8 → 0 < L a → xAc sc h ca fa B M L O F S m a) (H : xMI u h ca fa B L O F S) (hf : f < 8) (hfm : f ≤ m) (hLf : 0 < L f) {k0 : Nat} (hx : xAn M L O F S (m + 1) f x y z = .inr k0) : xv_C sc (4 * m + 16) J_Image_answer [.ref h, .int (nI f), .int x, .int y, .int z] u (xv_N u + 1) (xv_S u + 6) (xv_px k0 (fun e w => ∃ w0, xSi (xSF B f) u w0 ∧ e = xv_N u ∧ w = xv_nw w0 (k0 + 1) 0 6)) := by
  have H0 := H
  obtain ⟨⟨kh, r0, r1, kc, lc, kf, lf, hfs⟩, hU⟩ := H
  obtain ⟨f1, f2, f3, f4⟩ := hfs f hf
  have hcf : (nI f).toNatClampNeg = f := nI_clamp (by omega)
  have hif : vp_in (nI f) 8 := vp_in_nI hf (by decide)
  unfold xAn at hx
  generalize hstp : (fun p σ => xStep (xAn M L O F S m) L f (O f p) (F f p) (S f p) p σ) = stp at hx
  refine xv_C_of (by decide) (by omega) (by omega) (xv_cat1 rfl) (Nat.le_of_ble_eq_true rfl) ?_
  show xv_X sc (4 * m + 16) J_Image_answer 0 [some (.ref h), some (.int (nI f)), some (.int x), some (.int y), some (.int z), none, none, none] [] u (xv_N u + 1) (xv_S u + 6) _
  refine xv_aload_n (pc := 0) d_Image_answer_0 rfl rfl ?_
  refine xv_getR (pc := 1) d_Image_answer_1 f_Image_11 rfl kh r0 ?_
  refine xv_iload_n (pc := 4) d_Image_answer_4 rfl rfl ?_
  refine xv_aald (pc := 5) (t := 4) d_Image_answer_5 kc rfl (by rw [lc]; exact hif) (by rw [hcf]; exact f1) ?_
  refine xv_astore_5 (pc := 6) d_Image_answer_6 (by decide) rfl ?_
  refine xv_aload_n (pc := 8) d_Image_answer_8 rfl rfl ?_
  refine xv_getR (pc := 9) d_Image_answer_9 f_Image_19 rfl kh r1 ?_
  refine xv_iload_n (pc := 12) d_Image_answer_12 rfl rfl ?_
  refine xv_aald (pc := 13) (t := 1) d_Image_answer_13 kf rfl (by rw [lf]; exact hif) (by rw [hcf]; exact f2) ?_
  refine xv_iconst (pc := 14) 3 d_Image_answer_14 (by decide) ?_
  refine xv_iload_n (pc := 15) d_Image_answer_15 rfl rfl ?_
  refine xv_iload_n (pc := 16) d_Image_answer_16 rfl rfl ?_
  refine xv_iload (pc := 17) d_Image_answer_17 rfl ?_
  refine xv_cV4v (pc := 19) (d1 := 1) (c_Frame_begin (n := 3) f4) m_Frame_begin l_Image_59 d_Image_answer_19 (by omega) (by decide : 1 < xv_nc) rfl f4.1 (Nat.le_of_ble_eq_true rfl) ⟨by omega, by omega⟩ (fun w hw hN hS => ?_)
  obtain ⟨fv, hw, hfv⟩ := hw
  have hw1 : xFs w (B + 7 * f + 4) (xArg 3 x y z, fun _ => 0, 0) ∧ xSi (xSF B f) u w := by
    subst hw
    refine ⟨⟨fun q hq => ?_, fun q hq => absurd hq (Nat.not_lt_zero q), xv_si_eq⟩, xSi_F (xSi_tr (xSi_sw (Or.inr (Or.inl rfl))) (xSi_si (Or.inl rfl)))⟩
    rw [xv_si_ne (by omega), xv_sw_eq]
    exact hfv q hq
  clear hw
  refine xv_iconst (pc := 22) 0 d_Image_answer_22 (by decide) ?_
  refine xv_istore_6 (pc := 23) d_Image_answer_23 (by decide) rfl ?_
  refine xv_iconst (pc := 25) 0 d_Image_answer_25 (by decide) ?_
  refine xv_istore_7 (pc := 26) d_Image_answer_26 (by decide) rfl ?_
  have loop : ∀ (r k p : Nat) (σ : xZ) (w : xv_M), k + r = M → xSi (xSF B f) u w → xFs w (B + 7 * f + 4) σ → G f p σ.2.2 → xGo stp (O f) (L f) r (nI p) σ = .inr k0 → xv_X sc (4 * m + 16) J_Image_answer 28 [some (.ref h), some (.int (nI f)), some (.int x), some (.int y), some (.int z), some (.ref (B + 7 * f)), some (.int (nI p)), some (.int (nI k))] [] w (xv_N u + 1) (xv_S u + 6) (xv_q (xv_N u + 1) (xv_S u + 6) (xv_px k0 (fun e w => ∃ w0, xSi (xSF B f) u w0 ∧ e = xv_N u ∧ w = xv_nw w0 (k0 + 1) 0 6))) := by
    intro r
    induction r with
    | zero =>
      intro k p σ w hk zw hs hp hx
      unfold xGo at hx
      cases hx
    | succ r ihr =>
      intro k p σ w hk zw hs hp hx
      have Hw := xSi_MI zw H0
      obtain ⟨⟨khw, r0w, r1w, kcw, lcw, kfw, lfw, hfsw⟩, hUw⟩ := Hw
      obtain ⟨f1w, f2w, f3w, f4w⟩ := hfsw f hf
      obtain ⟨hpl, hok, -⟩ := hG.2 f p _ hf hp
      have hn42 := hok.2.2.1
      clear hok
      obtain ⟨uL, uLe, uU⟩ := hUw f hf
      obtain ⟨eO, hO22, eF, eS⟩ := uU p hpl
      have hcp : (nI p).toNatClampNeg = p := nI_clamp (by omega)
      have es : nI k + Int32.ofInt 1 = nI (k + 1) := by rw [nI_succ]; rfl
      have hT17 : (nI (O f p) = 17) ↔ O f p = 17 := nI_eq (b := 17) (by omega) (by decide)
      unfold xGo at hx
      rw [hcp] at hx
      refine xv_iload (pc := 28) d_Image_answer_28 rfl ?_
      refine xv_ldc (pc := 30) 1000000 d_Image_answer_30 k_775 ?_
      refine xv_icmp_ge (pc := 32) 73 d_Image_answer_32 (by decide) (fun h32 => ?_) (fun h32 => ?_)
      · rw [← nI_M] at h32
        exact absurd h32 (nI_ge (by omega) (by decide))
      refine xv_iload (pc := 35) d_Image_answer_35 rfl ?_
      refine xv_aload (pc := 37) d_Image_answer_37 rfl ?_
      refine xv_getI (pc := 39) d_Image_answer_39 f_Image_29 rfl f3w.1 ?_
      refine xv_icmp_ge (pc := 42) 73 d_Image_answer_42 (by decide) (fun h42 => ?_) (fun h42 => ?_)
      · rw [uL] at h42
        exact absurd h42 (nI_ge hpl (by omega))
      refine xv_aload (pc := 45) d_Image_answer_45 rfl ?_
      refine xv_getR (pc := 47) d_Image_answer_47 f_Image_64 rfl f3w.1 f3w.2.1 ?_
      refine xv_iload (pc := 50) d_Image_answer_50 rfl ?_
      refine xv_ald (pc := 52) d_Image_answer_52 f3w.2.2.2.2.1 (by rw [f3w.2.2.2.2.2.1]; exact vp_in_nI (by omega) (by decide)) ?_
      refine xv_bipush (pc := 53) 17 d_Image_answer_53 (by decide) ?_
      refine xv_icmp_eq (pc := 55) 73 d_Image_answer_55 (by decide) (fun h55 => ?_) (fun h55 => ?_)
      · rw [hcp, eO] at h55
        have e17 := hT17.mp h55
        rw [if_pos (Or.inr e17)] at hx
        cases hx
      rw [hcp, eO] at h55
      have e17 : ¬ O f p = 17 := fun e => h55 (hT17.mpr e)
      rw [if_neg (fun q => q.elim (nI_ge hpl (by omega)) e17), show stp p σ = xStep (xAn M L O F S m) L f (O f p) (F f p) (S f p) p σ by rw [← hstp]] at hx
      have hH := xSi_MI zw H0
      cases hst : xStep (xAn M L O F S m) L f (O f p) (F f p) (S f p) p σ with
      | inr e =>
        rw [hst] at hx
        have hx : (.inr e : xRs) = .inr k0 := hx
        cases hx
        rw [← zw.1, ← zw.2.1]
        refine xv_aload_n (pc := 58) d_Image_answer_58 rfl rfl ?_
        refine xv_iload_n (pc := 59) d_Image_answer_59 rfl rfl ?_
        refine xv_iload (pc := 60) d_Image_answer_60 rfl ?_
        rcases c_stepX hG ih hH hf hfm hs hp e17 hst with hc | hc
        · exact xv_tV2 (pc := 62) hc m_Image_perform l_Image_68 d_Image_answer_62 (by omega) (by decide : 9 < xv_nc) rfl khw (Nat.le_of_ble_eq_true rfl) ⟨Nat.le_refl _, Nat.le_refl _⟩ (fun e w ⟨w0, z1, z2⟩ g2 g3 => ⟨⟨_, rfl, w0, xSi_tr zw z1, z2⟩, g2, g3⟩)
        · skip
          exact xv_tV2 (pc := 62) hc m_Image_perform l_Image_68 d_Image_answer_62 (by omega) (by decide : 9 < xv_nc) rfl khw (Nat.le_of_ble_eq_true rfl) ⟨Nat.le_refl _, Nat.le_refl _⟩ (fun e w ⟨w0, z1, z2⟩ g2 g3 => ⟨⟨_, rfl, w0, xSi_tr zw z1, z2⟩, g2, g3⟩)
      | inl q =>
        obtain ⟨r', τ⟩ := q
        rw [hst] at hx
        have hx : xGo stp (O f) (L f) r r' τ = .inr k0 := hx
        obtain ⟨p', hr', hp'⟩ := xStep_G hG hf hp e17 hst
        subst hr'
        refine xv_aload_n (pc := 58) d_Image_answer_58 rfl rfl ?_
        refine xv_iload_n (pc := 59) d_Image_answer_59 rfl rfl ?_
        refine xv_iload (pc := 60) d_Image_answer_60 rfl ?_
        rcases c_stepN hG ih hH hf hfm hs hp e17 hst with hc | hc
        · refine xv_cV2i (pc := 62) hc m_Image_perform l_Image_68 d_Image_answer_62 (by omega) (by decide : 9 < xv_nc) rfl khw (Nat.le_of_ble_eq_true rfl) ⟨by have := zw.1; omega, by have := zw.2.1; omega⟩ (fun r2 w2 hw hN hS => ?_)
          obtain ⟨hr, g1, s1⟩ := hw
          subst hr
          refine xv_istore_6 (pc := 65) d_Image_answer_65 (by decide) rfl ?_
          refine xv_iinc_7 (pc := 67) (nI (k + 1)) d_Image_answer_67 es (by decide) rfl ?_
          refine xv_goto (pc := 70) 28 d_Image_answer_70 (by decide) ?_
          exact ihr (k + 1) p' τ w2 (by omega) (xSi_tr zw s1) g1 hp' hx
        · skip
          refine xv_cV2i (pc := 62) hc m_Image_perform l_Image_68 d_Image_answer_62 (by omega) (by decide : 9 < xv_nc) rfl khw (Nat.le_of_ble_eq_true rfl) ⟨by have := zw.1; omega, by have := zw.2.1; omega⟩ (fun r2 w2 hw hN hS => ?_)
          obtain ⟨hr, g1, s1⟩ := hw
          subst hr
          refine xv_istore_6 (pc := 65) d_Image_answer_65 (by decide) rfl ?_
          refine xv_iinc_7 (pc := 67) (nI (k + 1)) d_Image_answer_67 es (by decide) rfl ?_
          refine xv_goto (pc := 70) 28 d_Image_answer_70 (by decide) ?_
          exact ihr (k + 1) p' τ w2 (by omega) (xSi_tr zw s1) g1 hp' hx
  exact loop M 0 0 _ w (by omega) hw1.2 hw1.1 (hG.1 f hf hLf) hx
theorem c_Image_answer {sc : Nat × (Nat → Int32)} {h ca fa B M : Nat} {L : Nat → Nat} {O : Nat → Nat → Nat} {F S : Nat → Nat → Int32} {G : Nat → Nat → Nat → Prop} (hM : M = 1000000) (hG : xGd L O F S G) : ∀ m f, f < m → f < 8 → 0 < L f → xAc sc h ca fa B M L O F S m f := by
  intro m
  induction m with
  | zero => intro f h; omega
  | succ m ih =>
    intro f hfm hf hL u x y z H
    exact ⟨fun v hx => c_ansN hM hG ih H hf (by omega) hL hx, fun k hx => c_ansX hM hG ih H hf (by omega) hL hx⟩

