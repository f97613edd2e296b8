/-! FaslDesk: compile -/
theorem xv_k_sw {u : xv_M} {a : Nat} {f : Nat → Int32} : xv_k (xv_sw u a f) = xv_k u := rfl
theorem xv_l_sw {u : xv_M} {a : Nat} {f : Nat → Int32} : xv_l (xv_sw u a f) = xv_l u := rfl
theorem xv_r_sw {u : xv_M} {a : Nat} {f : Nat → Int32} : xv_r (xv_sw u a f) = xv_r u := rfl
theorem xv_g_sw {u : xv_M} {a : Nat} {f : Nat → Int32} : xv_g (xv_sw u a f) = xv_g u := rfl
theorem xv_g_si {u : xv_M} {a j : Nat} {v : Int32} : xv_g (xv_si u a j v) = xv_g u := rfl
theorem xv_g_sr {u : xv_M} {a j : Nat} {v : Option Nat} : xv_g (xv_sr u a j v) = xv_g u := rfl
theorem xEM_g {u : xv_M} {h x : Nat} {σ : xQ} : xv_g (xEM u h x σ) = xv_g u := rfl
theorem xEM_r {u : xv_M} {h x : Nat} {σ : xQ} : xv_r (xEM u h x σ) = xv_r u := rfl
theorem xEM_k {u : xv_M} {h x : Nat} {σ : xQ} : xv_k (xEM u h x σ) = xv_k u := rfl
theorem xEM_l {u : xv_M} {h x : Nat} {σ : xQ} : xv_l (xEM u h x σ) = xv_l u := rfl
theorem xTr_n {O : Nat → Nat} {A : Nat → Int32} {k m : Nat} {σ : xQ} : (xTr O A k m σ).1 = σ.1 + 2 * (7 - m) + xSz O k 0 + 1 := by
  show (xEmF O A k 0 (xPre (7 - m) m σ)).1 + 1 = _
  rw [xEmF_n, xPre_n]
theorem xTr_265 {O : Nat → Nat} {A : Nat → Int32} {k m : Nat} {σ : xQ} (h : xSz O k 0 ≤ 250) (h0 : σ.1 = 0) : (xTr O A k m σ).1 ≤ 265 := by
  rw [xTr_n]
  omega
/-- what a memory's ints and references have in common with another's -/
def xSm2 (u w : xv_M) (S R : Nat → Prop) : Prop := xv_N w = xv_N u ∧ xv_S w = xv_S u ∧ xv_k w = xv_k u ∧ xv_l w = xv_l u ∧ (∀ b, ¬ R b → ∀ q, xv_r w b q = xv_r u b q) ∧ xv_g w = xv_g u ∧ ∀ b, ¬ S b → ∀ q, xv_i w b q = xv_i u b q
def xCoS (cp ar x b : Nat) : Prop := b = cp ∨ b = ar ∨ (x ≤ b ∧ b ≤ x + 6)
/-- an entry as compile makes it -/
def xCoE (w : xv_M) (x m : Nat) (X : Int32) (σ : xQ) : Prop := xv_i w (x + 1) 3 = nI σ.1 ∧ (∀ i, xv_i w (x + 2) i = σ.2.1 i ∧ xv_i w (x + 3) i = σ.2.2.1 i ∧ xv_i w (x + 4) i = σ.2.2.2.1 i ∧ xv_i w (x + 5) i = σ.2.2.2.2.1 i) ∧ xv_i w x 2 = X ∧ xv_i w x 3 = nI m ∧ xv_i w x 4 = σ.2.2.2.2.2.2 ∧ xv_i w x 5 = X ∧ xv_i w x 6 = 0 ∧ xv_i w x 8 = X ∧ xv_i w x 9 = 0 ∧ ∀ i, i < σ.1 → xv_i w (x + 6) i = σ.2.1 i
theorem c_compile_22 {sc : Nat × (Nat → Int32)} {u : xv_M} {h dr it cp ar im : Nat} (hD : xDk u h dr it cp ar im) {ma fa oa B ea cc n k : Nat} {L nP E : Nat → Nat} {O : Nat → Nat → Nat} {A : Nat → Nat → Int32} (H : xIn u it ma fa oa B ∧ ∀ g, g < 8 → xTk u (B + 10 * g) (B + 10 * g + 1) (B + 10 * g + 2) (L g) (O g) (A g)) (hG : ∀ f, f < 8 → 0 < L f → xv_i u (B + 10 * f) 3 = nI (nP f) ∧ nP f ≤ 3 ∧ xVF (O f) (L f) k 0 ∧ xSt (O f) (xv_i u (B + 10 * f + 3)) k 0 ∧ xSz (O f) k 0 ≤ 250) (kcp : xv_k u cp = 7) (hA : xv_Ar u ar ea cc) (hE : xv_Es u ea E) (hn : xv_i u ar 1 = nI n) (hlt : n ≤ 8) (hap : ∀ e, e < 8 → h < cp ∧ cp < ar ∧ it < cp ∧ ma < cp ∧ ar < ea ∧ ea < E e ∧ B + 80 ≤ cp) {f ex : Nat} (hf : f < 8) (hLf : 0 < L f) (hex : ex ≤ n) : xv_X sc (2 * k + 4) J_Desk_compile 22 [some (.ref h), some (.int (nI f)), some (.int (nI ex))] [] u (xv_N u) (xv_S u) (xv_q (xv_N u) (xv_S u) (xv_pi (fun r w => (¬ (∃ f', f' < 8 ∧ nI f = nI f' ∧ 0 < L f') ∧ r = -1 ∧ w = u) ∨ ((∃ f', f' < 8 ∧ nI f = nI f' ∧ 0 < L f') ∧ ex = 8 ∧ r = -2 ∧ w = u) ∨ ∃ f' e φ, f' < 8 ∧ nI f = nI f' ∧ 0 < L f' ∧ e = ex ∧ e < 8 ∧ r = nI e ∧ (∀ i, i < 265 → φ i = 0) ∧ xSm2 u w (xCoS cp ar (E e)) (fun b => b = cp) ∧ xCoE w (E e) (nP f') (nI f) (xTr (O f') (A f') k (nP f') (0, xv_i u (E e + 2), xv_i u (E e + 3), xv_i u (E e + 4), φ, 0, 0)) ∧ xv_i w ar 1 = nI (if n < e + 1 then e + 1 else n) ∧ xv_i w ar 3 = nI (if n < e + 1 then e + 1 else n) ∧ ∀ j, ¬ j = 1 → ¬ j = 3 → xv_i w ar j = xv_i u ar j))) := by
  obtain ⟨k0, r0, r1, r2, r3, r4⟩ := hD
  have t8 : (nI ex < 8) ↔ ex < 8 := nI_ltI (b := 8) (by omega) (by decide)
  refine xv_iload_n (pc := 22) d_Desk_compile_22 rfl rfl ?_
  refine xv_bipush (pc := 23) 8 d_Desk_compile_23 (by decide) ?_
  refine xv_icmp_lt (pc := 25) 31 d_Desk_compile_25 (by decide) (fun h25 => ?_) (fun h25 => ?_)
  case refine_2 =>
    rw [t8] at h25
    refine xv_bipush (pc := 28) (-2) d_Desk_compile_28 (by decide) ?_
    exact xv_retiq (pc := 30) d_Desk_compile_30 rfl rfl rfl ⟨_, rfl, Or.inr (Or.inl ⟨⟨f, hf, rfl, hLf⟩, by omega, rfl, rfl⟩)⟩
  rw [t8] at h25
  have hcf : (nI f).toNatClampNeg = f := nI_clamp (by omega)
  have hce : (nI ex).toNatClampNeg = ex := nI_clamp (by omega)
  obtain ⟨p1, p2, p3, p4, p5, p6, p7⟩ := hap ex h25
  obtain ⟨hnp, hn3, hv, hst, hsz⟩ := hG f hf hLf
  have hTk := H.2 f hf
  obtain ⟨q1, q2, q3, q4, q5, q6, q7, q8, q9, q10, q11⟩ := H.1
  obtain ⟨f1, f2, f3, f4, f5, f6⟩ := q11 f hf
  obtain ⟨e1, e2⟩ := hE ex h25
  obtain ⟨g1, g2, g3, g4, g5⟩ := hA
  refine xv_aload_n (pc := 31) d_Desk_compile_31 rfl rfl ?_
  refine xv_getR (pc := 32) d_Desk_compile_32 f_Desk_26 rfl k0 r2 ?_
  refine xv_aload_n (pc := 35) d_Desk_compile_35 rfl rfl ?_
  refine xv_getR (pc := 36) d_Desk_compile_36 f_Desk_19 rfl k0 r1 ?_
  refine xv_getR (pc := 39) d_Desk_compile_39 f_Desk_66 rfl H.1.1 q2 ?_
  refine xv_iload_n (pc := 42) d_Desk_compile_42 rfl rfl ?_
  refine xv_aald (pc := 43) (t := 0) d_Desk_compile_43 q5 rfl (by rw [q6]; exact vp_in_nI hf (by decide)) (by rw [hcf]; exact f1) ?_
  refine xv_aload_n (pc := 44) d_Desk_compile_44 rfl rfl ?_
  refine xv_getR (pc := 45) d_Desk_compile_45 f_Desk_33 rfl k0 r3 ?_
  refine xv_getR (pc := 48) d_Desk_compile_48 f_Desk_86 rfl g1 g2 ?_
  refine xv_iload_n (pc := 51) d_Desk_compile_51 rfl rfl ?_
  refine xv_aald (pc := 52) (t := 3) d_Desk_compile_52 g4 rfl (by rw [g5]; exact vp_in_nI h25 (by decide)) (by rw [hce]; exact e1) ?_
  refine xv_cV2v (pc := 53) (c_Comp_translate (k := k) kcp e2 f4 (fun d hd => ⟨by omega, by omega, by omega⟩) hTk hnp hn3 hv hst hsz) m_Comp_translate l_Desk_90 d_Desk_compile_53 (by omega) (by decide : 6 < xv_nc) rfl kcp (Nat.le_of_ble_eq_true rfl) ⟨Nat.le_refl _, Nat.le_refl _⟩ (fun w1 hw hN hS => ?_)
  obtain ⟨φ, hφ, hw⟩ := hw
  generalize hσ : xTr (O f) (A f) k (nP f) (0, xv_i u (E ex + 2), xv_i u (E ex + 3), xv_i u (E ex + 4), φ, 0, 0) = σ at hw
  have hσn : σ.1 ≤ 265 := by rw [← hσ]; exact xTr_265 hsz rfl
  clear hsz hv hst
  have i1 : ∀ b q, ¬ (b = cp ∨ (E ex ≤ b ∧ b ≤ E ex + 5)) → xv_i w1 b q = xv_i u b q := fun b q hb => by
    rw [hw, xEM_i]
    unfold xQi
    rw [if_neg (by omega), if_neg (by omega), if_neg (by omega), if_neg (by omega), if_neg (by omega), if_neg (by omega), if_neg (by omega), xv_si_ne (by omega), xv_i_sr, xv_i_sr, xv_i_sr]
  have i2 : xv_i w1 (E ex + 1) 3 = nI σ.1 := by
    rw [hw, xEM_i]
    unfold xQi
    rw [if_neg (by omega), if_neg (by omega), if_neg (by omega), if_neg (by omega), if_pos ⟨rfl, rfl⟩]
  have i3 : ∀ i, xv_i w1 (E ex + 2) i = σ.2.1 i ∧ xv_i w1 (E ex + 3) i = σ.2.2.1 i ∧ xv_i w1 (E ex + 4) i = σ.2.2.2.1 i ∧ xv_i w1 (E ex + 5) i = σ.2.2.2.2.1 i := fun i => by
    rw [hw, xEM_i, xEM_i, xEM_i, xEM_i]
    unfold xQi
    rw [if_pos rfl, if_neg (by omega), if_pos rfl, if_neg (by omega), if_neg (by omega), if_pos rfl, if_neg (by omega), if_neg (by omega), if_neg (by omega), if_pos rfl]
    exact ⟨rfl, rfl, rfl, rfl⟩
  have i4 : xv_i w1 (E ex) 3 = nI (nP f) ∧ xv_i w1 (E ex) 4 = σ.2.2.2.2.2.2 := by
    rw [hw, xEM_i, xEM_i]
    unfold xQi
    rw [if_neg (by omega), if_neg (by omega), if_neg (by omega), if_neg (by omega), if_neg (by omega), if_neg (by omega), if_neg (by omega), xv_si_eq, if_neg (by omega), if_neg (by omega), if_neg (by omega), if_neg (by omega), if_neg (by omega), if_neg (by omega), if_pos ⟨rfl, rfl⟩]
    exact ⟨rfl, rfl⟩
  have rr1 : ∀ b, ¬ b = cp → ∀ q, xv_r w1 b q = xv_r u b q := fun b hb q => by
    rw [hw, xEM_r, xv_r_si, xv_sr_ne hb, xv_sr_ne hb, xv_sr_ne hb]
  have kk1 : xv_k w1 = xv_k u := by rw [hw, xEM_k, xv_k_si, xv_k_sr, xv_k_sr, xv_k_sr]
  have ll1 : xv_l w1 = xv_l u := by rw [hw, xEM_l, xv_l_si, xv_l_sr, xv_l_sr, xv_l_sr]
  have gg1 : xv_g w1 = xv_g u := by rw [hw, xEM_g, xv_g_si, xv_g_sr, xv_g_sr, xv_g_sr]
  have nn1 : xv_N w1 = xv_N u := hN
  have ss1 : xv_S w1 = xv_S u := hS
  clear hw hN hS
  have E1 : xv_En w1 (E ex) (E ex + 1) (E ex + 2) (E ex + 3) (E ex + 4) (E ex + 5) (E ex + 6) := by
    obtain ⟨a1, a2, a3, a4, a5, a6, a7, a8, a9, a10, a11, a12, a13, a14, a15, a16, a17, a18⟩ := e2
    unfold xv_En xv_Co
    rw [kk1, ll1, rr1 _ (by omega), rr1 _ (by omega), rr1 _ (by omega), rr1 _ (by omega), rr1 _ (by omega), rr1 _ (by omega)]
    exact ⟨a1, a2, a3, a4, a5, a6, a7, a8, a9, a10, a11, a12, a13, a14, a15, a16, a17, a18⟩
  refine xv_aload_n (pc := 56) d_Desk_compile_56 rfl rfl ?_
  refine xv_getR (pc := 57) d_Desk_compile_57 f_Desk_33 rfl (by rw [kk1]; exact k0) (by rw [rr1 _ (by omega)]; exact r3) ?_
  refine xv_getR (pc := 60) d_Desk_compile_60 f_Desk_86 rfl (by rw [kk1]; exact g1) (by rw [rr1 _ (by omega)]; exact g2) ?_
  refine xv_iload_n (pc := 63) d_Desk_compile_63 rfl rfl ?_
  refine xv_aald (pc := 64) (t := 3) d_Desk_compile_64 (by rw [kk1]; exact g4) rfl (by rw [ll1, g5]; exact vp_in_nI h25 (by decide)) (by rw [hce, rr1 _ (by omega)]; exact e1) ?_
  refine xv_iload_n (pc := 65) d_Desk_compile_65 rfl rfl ?_
  refine xv_cV1v (pc := 66) (d1 := 2) (c_Entry_finishFor E1 i2 hσn) m_Entry_finishFor l_Desk_94 d_Desk_compile_66 (by omega) (by decide : 5 < xv_nc) rfl E1.1 (Nat.le_of_ble_eq_true rfl) ⟨Nat.le_of_eq nn1, Nat.le_of_eq ss1⟩ (fun w2 hw hN hS => ?_)
  obtain ⟨w0, hw0, hw⟩ := hw
  have h02 : xv_i w0 (E ex) 2 = nI f := by rw [hw0, xv_si_nj (by decide), xv_si_nj (by decide), xv_si_eq]
  have h06 : xv_i w0 (E ex) 6 = 0 := by rw [hw0, xv_si_eq]
  have h0o : ∀ b q, ¬ b = E ex → xv_i w0 b q = xv_i w1 b q := fun b q hb => by rw [hw0, xv_si_ne hb, xv_si_ne hb, xv_si_ne hb]
  have h05 : xv_i w0 (E ex) 5 = nI f := by rw [hw0, xv_si_nj (by decide), xv_si_eq]
  have h0q : ∀ q, ¬ q = 2 → ¬ q = 5 → ¬ q = 6 → xv_i w0 (E ex) q = xv_i w1 (E ex) q := fun q a b c => by rw [hw0, xv_si_nj c, xv_si_nj b, xv_si_nj a]
  have kk2 : xv_k w2 = xv_k u := by rw [hw, xv_k_sw, xv_k_si, xv_k_si, hw0, xv_k_si, xv_k_si, xv_k_si]; exact kk1
  have ll2 : xv_l w2 = xv_l u := by rw [hw, xv_l_sw, xv_l_si, xv_l_si, hw0, xv_l_si, xv_l_si, xv_l_si]; exact ll1
  have gg2 : xv_g w2 = xv_g u := by rw [hw, xv_g_sw, xv_g_si, xv_g_si, hw0, xv_g_si, xv_g_si, xv_g_si]; exact gg1
  have rr2 : ∀ b, ¬ b = cp → ∀ q, xv_r w2 b q = xv_r u b q := fun b hb q => by rw [hw, xv_r_sw, xv_r_si, xv_r_si, hw0, xv_r_si, xv_r_si, xv_r_si]; exact rr1 b hb q
  have j1 : ∀ b q, ¬ b = E ex → ¬ b = E ex + 6 → xv_i w2 b q = xv_i w1 b q := fun b q a c => by
    rw [hw, xv_sw_ne c, xv_si_ne a, xv_si_ne a]; exact h0o b q a
  have j6 : ∀ i, i < σ.1 → xv_i w2 (E ex + 6) i = σ.2.1 i := fun i hi => by
    rw [hw, xv_sw_eq, xCpy hi, h0o _ _ (by omega)]; exact (i3 i).1
  have j8 : xv_i w2 (E ex) 8 = nI f := by rw [hw, xv_sw_ne (by omega), xv_si_nj (by decide), xv_si_eq]; exact h02
  have j9 : xv_i w2 (E ex) 9 = 0 := by rw [hw, xv_sw_ne (by omega), xv_si_eq]; exact h06
  have jq : ∀ q, ¬ q = 8 → ¬ q = 9 → xv_i w2 (E ex) q = xv_i w0 (E ex) q := fun q a b => by rw [hw, xv_sw_ne (by omega), xv_si_nj b, xv_si_nj a]
  have nn2 : xv_N w2 = xv_N u := hN.trans nn1
  have ss2 : xv_S w2 = xv_S u := hS.trans ss1
  clear hw hw0 hN hS
  have A2 : xv_Ar w2 ar ea cc := by
    unfold xv_Ar
    rw [kk2, ll2, rr2 _ (by omega), rr2 _ (by omega)]
    exact ⟨g1, g2, g3, g4, g5⟩
  have har : xv_i w2 ar 1 = nI n := by rw [j1 _ _ (by omega) (by omega), i1 _ _ (by omega)]; exact hn
  refine xv_aload_n (pc := 69) d_Desk_compile_69 rfl rfl ?_
  refine xv_getR (pc := 70) d_Desk_compile_70 f_Desk_33 rfl (by rw [kk2]; exact k0) (by rw [rr2 _ (by omega)]; exact r3) ?_
  refine xv_iload_n (pc := 73) d_Desk_compile_73 rfl rfl ?_
  refine xv_cV1v (pc := 74) (d1 := 1) (c_Arch_keepWith A2) m_Arch_keepWith l_Desk_100 d_Desk_compile_74 (by omega) (by decide : 8 < xv_nc) rfl A2.1 (Nat.le_of_ble_eq_true rfl) ⟨Nat.le_of_eq nn2, Nat.le_of_eq ss2⟩ (fun w3 hw hN hS => ?_)
  obtain ⟨z, hz, hw⟩ := hw
  have hz : z = nI (if n < ex + 1 then ex + 1 else n) := by
    rw [hz, har, show nI ex + 1 = nI (ex + 1) by rw [nI_succ]]
    by_cases c : n < ex + 1
    · rw [if_pos (nI_lt c (by omega)), if_pos c]
    · rw [if_neg (fun q => c ((nI_ltI (by omega) (by omega)).mp q)), if_neg c]
  have m1 : ∀ b q, ¬ b = ar → xv_i w3 b q = xv_i w2 b q := fun b q a => by rw [hw, xv_si_ne a, xv_si_ne a]
  refine xv_iload_n (pc := 77) d_Desk_compile_77 rfl rfl ?_
  refine xv_retiq (pc := 78) d_Desk_compile_78 rfl (hN.trans nn2) (hS.trans ss2) ⟨_, rfl, Or.inr (Or.inr ⟨f, ex, φ, hf, rfl, hLf, rfl, h25, rfl, hφ, ⟨hN.trans nn2, hS.trans ss2, by rw [hw, xv_k_si, xv_k_si]; exact kk2, by rw [hw, xv_l_si, xv_l_si]; exact ll2, fun b hb q => by rw [hw, xv_r_si, xv_r_si]; exact rr2 b hb q, by rw [hw, xv_g_si, xv_g_si]; exact gg2, fun b hb q => ?_⟩, ?_, by rw [hw, xv_si_nj (by decide), xv_si_eq, hz], by rw [hw, xv_si_eq, hz], fun j a b => ?_⟩)⟩
  · unfold xCoS at hb
    rw [m1 _ _ (by omega), j1 _ _ (by omega) (by omega), i1 _ _ (by omega)]
  · rw [hσ]
    refine ⟨by rw [m1 _ _ (by omega), j1 _ _ (by omega) (by omega)]; exact i2, fun i => ?_, ?_, ?_, ?_, ?_, ?_, ?_, ?_, fun i hi => ?_⟩
    · rw [m1 _ _ (by omega), j1 _ _ (by omega) (by omega), m1 _ _ (by omega), j1 _ _ (by omega) (by omega), m1 _ _ (by omega), j1 _ _ (by omega) (by omega), m1 _ _ (by omega), j1 _ _ (by omega) (by omega)]
      exact i3 i
    · rw [m1 _ _ (by omega), jq 2 (by decide) (by decide)]; exact h02
    · rw [m1 _ _ (by omega), jq 3 (by decide) (by decide), h0q 3 (by decide) (by decide) (by decide)]; exact i4.1
    · rw [m1 _ _ (by omega), jq 4 (by decide) (by decide), h0q 4 (by decide) (by decide) (by decide)]; exact i4.2
    · rw [m1 _ _ (by omega), jq 5 (by decide) (by decide)]; exact h05
    · rw [m1 _ _ (by omega), jq 6 (by decide) (by decide)]; exact h06
    · rw [m1 _ _ (by omega)]; exact j8
    · rw [m1 _ _ (by omega)]; exact j9
    · rw [m1 _ _ (by omega)]; exact j6 i hi
  · rw [hw, xv_si_nj b, xv_si_nj a, j1 _ _ (by omega) (by omega), i1 _ _ (by omega)]
theorem c_Desk_compile {sc : Nat × (Nat → Int32)} {u : xv_M} {h dr it cp ar im : Nat} (hD : xDk u h dr it cp ar im) {ma fa oa B ea cc n k : Nat} {L nP E : Nat → Nat} {O : Nat → Nat → Nat} {A : Nat → Nat → Int32} {x : Int32} (H : xIn u it ma fa oa B ∧ ∀ g, g < 8 → xTk u (B + 10 * g) (B + 10 * g + 1) (B + 10 * g + 2) (L g) (O g) (A g)) (hG : ∀ f, f < 8 → 0 < L f → xv_i u (B + 10 * f) 3 = nI (nP f) ∧ nP f ≤ 3 ∧ xVF (O f) (L f) k 0 ∧ xSt (O f) (xv_i u (B + 10 * f + 3)) k 0 ∧ xSz (O f) k 0 ≤ 250) (kcp : xv_k u cp = 7) (hA : xv_Ar u ar ea cc) (hE : xv_Es u ea E) (hn : xv_i u ar 1 = nI n) (hlt : n ≤ 8) (hap : ∀ e, e < 8 → h < cp ∧ cp < ar ∧ it < cp ∧ ma < cp ∧ ar < ea ∧ ea < E e ∧ B + 80 ≤ cp) : xv_C sc (2 * k + 4) J_Desk_compile [.ref h, .int x] u (xv_N u) (xv_S u) (xv_pi (fun r w => (¬ (∃ f, f < 8 ∧ x = nI f ∧ 0 < L f) ∧ r = -1 ∧ w = u) ∨ ((∃ f, f < 8 ∧ x = nI f ∧ 0 < L f) ∧ xFi (fun e => xv_i u (E e) 2) x n 0 = 8 ∧ r = -2 ∧ w = u) ∨ ∃ f e φ, f < 8 ∧ x = nI f ∧ 0 < L f ∧ e = xFi (fun e => xv_i u (E e) 2) x n 0 ∧ e < 8 ∧ r = nI e ∧ (∀ i, i < 265 → φ i = 0) ∧ xSm2 u w (xCoS cp ar (E e)) (fun b => b = cp) ∧ xCoE w (E e) (nP f) x (xTr (O f) (A f) k (nP f) (0, xv_i u (E e + 2), xv_i u (E e + 3), xv_i u (E e + 4), φ, 0, 0)) ∧ xv_i w ar 1 = nI (if n < e + 1 then e + 1 else n) ∧ xv_i w ar 3 = nI (if n < e + 1 then e + 1 else n) ∧ ∀ j, ¬ j = 1 → ¬ j = 3 → xv_i w ar j = xv_i u ar j)) := by
  obtain ⟨k0, r0, r1, r2, r3, r4⟩ := hD
  have hap0 := hap 0 (by decide)
  refine xv_C_of (by decide) (Nat.le_refl _) (Nat.le_refl _) (xv_cat1 rfl) (Nat.le_of_ble_eq_true rfl) ?_
  show xv_X sc (2 * k + 4) J_Desk_compile 0 [some (.ref h), some (.int x), none] [] u (xv_N u) (xv_S u) _
  refine xv_aload_n (pc := 0) d_Desk_compile_0 rfl rfl ?_
  refine xv_getR (pc := 1) d_Desk_compile_1 f_Desk_19 rfl k0 r1 ?_
  refine xv_iload_n (pc := 4) d_Desk_compile_4 rfl rfl ?_
  refine xv_cV1i (pc := 5) (d1 := 1) (c_Interp_has H.1) m_Interp_has l_Desk_78 d_Desk_compile_5 (by omega) (by decide : 3 < xv_nc) rfl H.1.1 (Nat.le_of_ble_eq_true rfl) ⟨Nat.le_refl _, Nat.le_refl _⟩ (fun r w hw hN hS => ?_)
  obtain ⟨hr, hw⟩ := hw
  subst w
  have hiff : ((0 ≤ x ∧ x ≤ 7) ∧ 0 < xv_i u (B + 10 * x.toNatClampNeg) 2) ↔ ∃ f, f < 8 ∧ x = nI f ∧ 0 < L f := by
    constructor
    · rintro ⟨q1, q2⟩
      obtain ⟨f, hf, rfl⟩ := xI8 q1
      rw [nI_clamp (by omega), (H.2 f hf).1] at q2
      exact ⟨f, hf, rfl, Nat.pos_of_ne_zero (fun e => by rw [e] at q2; exact absurd q2 (by decide))⟩
    · rintro ⟨f, hf, rfl, hL⟩
      have l40 := (H.2 f hf).2.1
      rw [nI_clamp (by omega), (H.2 f hf).1]
      exact ⟨⟨nI_pos0 (by omega), nI_leI8 hf⟩, nI_posL hL (by omega)⟩
  subst hr
  refine xv_if_ne (pc := 8) 13 d_Desk_compile_8 (by decide) (fun h8 => ?_) (fun h8 => ?_)
  case refine_2 =>
    have e := of_decide_eq_false (xB_eq h8)
    refine xv_iconst (pc := 11) (-1) d_Desk_compile_11 (by decide) ?_
    exact xv_retiq (pc := 12) d_Desk_compile_12 rfl rfl rfl ⟨_, rfl, Or.inl ⟨fun q => e (hiff.mpr q), rfl, rfl⟩⟩
  have hyes := hiff.mp (of_decide_eq_true (xB_ne h8))
  obtain ⟨f, hf, rfl, hLf⟩ := hyes
  refine xv_aload_n (pc := 13) d_Desk_compile_13 rfl rfl ?_
  refine xv_getR (pc := 14) d_Desk_compile_14 f_Desk_33 rfl k0 r3 ?_
  refine xv_iload_n (pc := 17) d_Desk_compile_17 rfl rfl ?_
  refine xv_cV1i (pc := 18) (d1 := 0) (c_Arch_placeFor hA hE hn hlt) m_Arch_placeFor l_Desk_82 d_Desk_compile_18 (by omega) (by decide : 8 < xv_nc) rfl hA.1 (Nat.le_of_ble_eq_true rfl) ⟨Nat.le_refl _, Nat.le_refl _⟩ (fun r w hw hN hS => ?_)
  obtain ⟨rfl, hw⟩ := hw
  subst w
  have hle := xFi_le (fun e => xv_i u (E e) 2) (nI f) n 0
  obtain ⟨ex, hex⟩ : ∃ ex, xFi (fun e => xv_i u (E e) 2) (nI f) n 0 = ex := ⟨_, rfl⟩
  rw [hex] at hle ⊢
  refine xv_istore_2 (pc := 21) d_Desk_compile_21 (by decide) rfl ?_
  exact c_compile_22 ⟨k0, r0, r1, r2, r3, r4⟩ H hG kcp hA hE hn hlt hap hf hLf (by omega)

