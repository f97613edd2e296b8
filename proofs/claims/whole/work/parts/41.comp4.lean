/-! a weaker end; Compiler.translate -/
theorem xv_X_mono {sc : Nat × (Nat → Int32)} {d : Nat} {J : xv_J} {pc : Nat} {lv : List (Option Value)} {st : List Value} {u : xv_M} {n1 s1 : Nat} {P P' : xv_P} (h : ∀ o w, P o w → P' o w) (k : xv_X sc d J pc lv st u n1 s1 P) : xv_X sc d J pc lv st u n1 s1 P' := by
  intro p l e R s m args below meth c G N0 S0 Q H locs ls ha
  refine k p l e R s m args below meth c G N0 S0 Q H locs ls ?_
  obtain ⟨a1, a2, a3, a4, a5, a6, a7, a8, a9, a10, a11, a12, a13⟩ := ha
  exact ⟨a1, a2, a3, a4, a5, a6, a7, a8, a9, a10, a11, a12, fun v w pc ls i H locs hP => a13.1 v w pc ls i H locs (h _ _ hP), fun k a w U locs hP => a13.2 k a w U locs (h _ _ hP)⟩
theorem xv_sr_eq {u : xv_M} {a j : Nat} {v : Option Nat} : xv_r (xv_sr u a j v) a j = v := if_pos ⟨rfl, rfl⟩
theorem xv_sr_nj {u : xv_M} {a j b q : Nat} {v : Option Nat} (h : q ≠ j) : xv_r (xv_sr u a j v) b q = xv_r u b q := if_neg (fun z => h z.2)
theorem xv_sr_ne {u : xv_M} {a j b q : Nat} {v : Option Nat} (h : b ≠ a) : xv_r (xv_sr u a j v) b q = xv_r u b q := if_neg (fun z => h z.1)
theorem xEM_start {u : xv_M} {h x : Nat} {φ : Nat → Int32} {pr : Int32} (H : xAp h x) : xv_sw (xv_si (xv_si (xv_si (xv_si u h 3 0) (x + 1) 3 0) x 3 pr) x 4 0) (x + 5) φ = xEM (xv_si u x 3 pr) h x (0, xv_i u (x + 2), xv_i u (x + 3), xv_i u (x + 4), φ, 0, 0) := by
  obtain ⟨h0, h1, h2, h3, h4, h5⟩ := H
  unfold xv_sw xEM
  congr 1
  funext b q
  show (if b = x + 5 then φ q else (if b = x ∧ q = 4 then 0 else if b = x ∧ q = 3 then pr else if b = x + 1 ∧ q = 3 then 0 else if b = h ∧ q = 3 then 0 else xv_i u b q)) = if b = x + 2 then xv_i u (x + 2) q else if b = x + 3 then xv_i u (x + 3) q else if b = x + 4 then xv_i u (x + 4) q else if b = x + 5 then φ q else if b = x + 1 ∧ q = 3 then 0 else if b = h ∧ q = 3 then 0 else if b = x ∧ q = 4 then 0 else (if b = x ∧ q = 3 then pr else xv_i u b q)
  by_cases b5 : b = x + 5
  · rw [if_pos b5, if_neg (by omega), if_neg (by omega), if_neg (by omega), if_pos b5]
  rw [if_neg b5]
  by_cases b0 : b = x
  · subst b0
    simp only [true_and, show ¬ b = b + 1 by omega, show ¬ b = b + 2 by omega, show ¬ b = b + 3 by omega, show ¬ b = b + 4 by omega, show ¬ b = b + 5 by omega, show ¬ b = h from fun e => h0 e.symm, false_and, if_false]
  simp only [b0, false_and, if_false]
  by_cases b2 : b = x + 2
  · subst b2
    simp only [show ¬ x + 2 = x + 1 by omega, show ¬ x + 2 = h from fun e => h2 e.symm, false_and, if_false, if_true]
  rw [if_neg b2]
  by_cases b3 : b = x + 3
  · subst b3
    simp only [show ¬ x + 3 = x + 1 by omega, show ¬ x + 3 = h from fun e => h3 e.symm, false_and, if_false, if_true]
  rw [if_neg b3]
  by_cases b4 : b = x + 4
  · subst b4
    simp only [show ¬ x + 4 = x + 1 by omega, show ¬ x + 4 = h from fun e => h4 e.symm, false_and, if_false, if_true]
  rw [if_neg b4, if_neg b5]
def xPre : Nat → Nat → xQ → xQ
  | 0, _, σ => σ
  | r + 1, v, σ => xPre r (v + 1) (xEm (xEm σ 0 0) 13 (nI v))
theorem xPre_n : ∀ (r v : Nat) (σ : xQ), (xPre r v σ).1 = σ.1 + 2 * r := by
  intro r
  induction r with
  | zero => intro v σ; rfl
  | succ r ih =>
    intro v σ
    show (xPre r (v + 1) _).1 = _
    rw [ih]
    show σ.1 + 1 + 1 + 2 * r = _
    omega
def xTr (O : Nat → Nat) (A : Nat → Int32) (k m : Nat) (σ : xQ) : xQ := xEm (xEmF O A k 0 (xPre (7 - m) m σ)) 17 0
theorem xv_k_sr {u : xv_M} {a j : Nat} {v : Option Nat} : xv_k (xv_sr u a j v) = xv_k u := rfl
theorem xv_l_sr {u : xv_M} {a j : Nat} {v : Option Nat} : xv_l (xv_sr u a j v) = xv_l u := rfl
theorem xv_i_sr {u : xv_M} {a j : Nat} {v : Option Nat} : xv_i (xv_sr u a j v) = xv_i u := rfl
theorem xv_k_si {u : xv_M} {a j : Nat} {v : Int32} : xv_k (xv_si u a j v) = xv_k u := rfl
theorem xv_l_si {u : xv_M} {a j : Nat} {v : Int32} : xv_l (xv_si u a j v) = xv_l u := rfl
theorem xv_r_si {u : xv_M} {a j : Nat} {v : Int32} : xv_r (xv_si u a j v) = xv_r u := rfl
theorem c_tr_loop {sc : Nat × (Nat → Int32)} {u : xv_M} {h x fm o a t n m k : Nat} {O : Nat → Nat} {A : Nat → Int32} {σ0 : xQ} (hC : xCp u h x fm o a t) (hT' : xTk u fm o a n O A) (hm3 : m ≤ 3) (hv : xVF O n k 0) (hst' : xSt O (xv_i u t) k 0) (hsz : xSz O k 0 ≤ 250) (h0 : σ0.1 = 0) : xv_X sc (2 * k + 3) J_Comp_translate 45 [some (.ref h), some (.ref fm), some (.ref x), some (.int (nI m))] [] (xEM u h x σ0) (xv_N u) (xv_S u) (xv_q (xv_N u) (xv_S u) (xv_pv (fun w => w = xEM u h x (xTr O A k m σ0)))) := by
  unfold xTr
  generalize hτ : xPre (7 - m) m σ0 = τ
  have loop : ∀ (r v : Nat) (σ : xQ), v + r = 7 → σ.1 + 2 * r ≤ 14 → xPre r v σ = τ → xv_X sc (2 * k + 3) J_Comp_translate 45 [some (.ref h), some (.ref fm), some (.ref x), some (.int (nI v))] [] (xEM u h x σ) (xv_N u) (xv_S u) (xv_q (xv_N u) (xv_S u) (xv_pv (fun w => w = xEM u h x (xEm (xEmF O A k 0 τ) 17 0)))) := by
    intro r
    induction r with
    | zero =>
      intro v σ hr hs hx
      have hr : v = 7 := by omega
      subst hr
      unfold xPre at hx
      refine xv_iload_n (pc := 45) d_Comp_translate_45 rfl rfl ?_
      refine xv_bipush (pc := 46) 7 d_Comp_translate_46 (by decide) ?_
      refine xv_icmp_ge (pc := 48) 70 d_Comp_translate_48 (by decide) (fun h48 => ?_) (fun h48 => ?_)
      case refine_2 => exact absurd (by decide) h48
      refine xv_aload_n (pc := 70) d_Comp_translate_70 rfl rfl ?_
      refine xv_iconst (pc := 71) 0 d_Comp_translate_71 (by decide) ?_
      refine xv_cV1v (pc := 72) (c_Comp_emitForm (A := A) hC hT' k 0 σ hv hst' (by omega)) m_Comp_emitForm l_Comp_45 d_Comp_translate_72 (by omega) (by decide : 6 < xv_nc) rfl hC.1 (Nat.le_of_ble_eq_true rfl) ⟨Nat.le_refl _, Nat.le_refl _⟩ (fun w hw hN hS => ?_)
      subst w
      have n4 := xEmF_n (O := O) (A := A) k 0 σ
      refine xv_aload_n (pc := 75) d_Comp_translate_75 rfl rfl ?_
      refine xv_bipush (pc := 76) 17 d_Comp_translate_76 (by decide) ?_
      refine xv_iconst (pc := 78) 0 d_Comp_translate_78 (by decide) ?_
      refine xv_cV2v (pc := 79) (c_emV (op := 17) rfl hC (by decide) (by omega)) m_Comp_emit l_Comp_41 d_Comp_translate_79 (by omega) (by decide : 6 < xv_nc) rfl hC.1 (Nat.le_of_ble_eq_true rfl) ⟨Nat.le_refl _, Nat.le_refl _⟩ (fun w hw hN hS => ?_)
      subst w
      exact xv_retvq (pc := 82) d_Comp_translate_82 rfl rfl rfl ⟨rfl, by rw [hx]⟩
    | succ r ih =>
      intro v σ hr hs hx
      have es : nI v + Int32.ofInt 1 = nI (v + 1) := by rw [nI_succ]; rfl
      unfold xPre at hx
      refine xv_iload_n (pc := 45) d_Comp_translate_45 rfl rfl ?_
      refine xv_bipush (pc := 46) 7 d_Comp_translate_46 (by decide) ?_
      refine xv_icmp_ge (pc := 48) 70 d_Comp_translate_48 (by decide) (fun h48 => ?_) (fun h48 => ?_)
      · exact absurd h48 (nI_ge (b := 7) (by omega) (by decide))
      refine xv_aload_n (pc := 51) d_Comp_translate_51 rfl rfl ?_
      refine xv_iconst (pc := 52) 0 d_Comp_translate_52 (by decide) ?_
      refine xv_iconst (pc := 53) 0 d_Comp_translate_53 (by decide) ?_
      refine xv_cV2v (pc := 54) (c_emV (op := 0) rfl hC (by decide) (by omega)) m_Comp_emit l_Comp_41 d_Comp_translate_54 (by omega) (by decide : 6 < xv_nc) rfl hC.1 (Nat.le_of_ble_eq_true rfl) ⟨Nat.le_refl _, Nat.le_refl _⟩ (fun w hw hN hS => ?_)
      subst w
      have n4 : (xEm σ 0 0).1 = σ.1 + 1 := rfl
      refine xv_aload_n (pc := 57) d_Comp_translate_57 rfl rfl ?_
      refine xv_bipush (pc := 58) 13 d_Comp_translate_58 (by decide) ?_
      refine xv_iload_n (pc := 60) d_Comp_translate_60 rfl rfl ?_
      refine xv_cV2v (pc := 61) (c_emV (op := 13) rfl hC (by decide) (by omega)) m_Comp_emit l_Comp_41 d_Comp_translate_61 (by omega) (by decide : 6 < xv_nc) rfl hC.1 (Nat.le_of_ble_eq_true rfl) ⟨Nat.le_refl _, Nat.le_refl _⟩ (fun w hw hN hS => ?_)
      subst w
      have n5 : (xEm (xEm σ 0 0) 13 (nI v)).1 = σ.1 + 2 := rfl
      refine xv_iinc_3 (pc := 64) (nI (v + 1)) d_Comp_translate_64 es (by decide) rfl ?_
      refine xv_goto (pc := 67) 45 d_Comp_translate_67 (by decide) ?_
      exact ih (v + 1) _ (by omega) (by omega) hx
  exact loop (7 - m) m σ0 (by omega) (by omega) hτ
theorem c_tr_18 {sc : Nat × (Nat → Int32)} {W : xv_M} {h x fm o a t n m k : Nat} {O : Nat → Nat} {A : Nat → Int32} (hW : xCp W h x fm o a t) (hT1 : xTk W fm o a n O A) (hm : xv_i W fm 3 = nI m) (hm3 : m ≤ 3) (hv : xVF O n k 0) (hst : xSt O (xv_i W t) k 0) (hsz : xSz O k 0 ≤ 250) : xv_X sc (2 * k + 3) J_Comp_translate 18 [some (.ref h), some (.ref fm), some (.ref x), none] [] W (xv_N W) (xv_S W) (xv_q (xv_N W) (xv_S W) (xv_pv (fun w => ∃ φ, (∀ i, i < 265 → φ i = 0) ∧ w = xEM (xv_si W x 3 (nI m)) h x (xTr O A k m (0, xv_i W (x + 2), xv_i W (x + 3), xv_i W (x + 4), φ, 0, 0))))) := by
  have hap := xCp_ap hW
  have hC : xCp (xv_si W x 3 (nI m)) h x fm o a t := hW
  obtain ⟨k0, g0, g1, g2, hE1, hF1, hno⟩ := hW
  have kF := hF1.1
  have ke := hE1.1
  have hfh : fm ≠ h := xv_ne kF k0 (by decide)
  have hfx : fm ≠ x := xv_ne kF ke (by decide)
  have iu : ∀ b q, b ≠ x → xv_i (xv_si W x 3 (nI m)) b q = xv_i W b q := fun b q hb => xv_si_ne hb
  obtain ⟨n1, n2, n3⟩ := hno 0 (by decide)
  have hT' : xTk (xv_si W x 3 (nI m)) fm o a n O A := ⟨by rw [iu _ _ hfx]; exact hT1.1, hT1.2.1, fun i hi => ⟨by rw [iu _ _ n1]; exact (hT1.2.2 i hi).1, (hT1.2.2 i hi).2.1, by rw [iu _ _ n2]; exact (hT1.2.2 i hi).2.2⟩⟩
  have hst' : xSt O (xv_i (xv_si W x 3 (nI m)) t) k 0 := by
    rw [show xv_i (xv_si W x 3 (nI m)) t = xv_i W t from funext fun q => iu t q n3]
    exact hst
  have hpar : xv_i (xv_si W h 3 0) fm 3 = nI m := by rw [xv_si_ne hfh]; exact hm
  refine xv_aload_n (pc := 18) d_Comp_translate_18 rfl rfl ?_
  refine xv_iconst (pc := 19) 0 d_Comp_translate_19 (by decide) ?_
  refine xv_putI (pc := 20) d_Comp_translate_20 f_Comp_26 (Or.inl rfl) fin_6_3 k0 ?_
  refine xv_aload_n (pc := 23) d_Comp_translate_23 rfl rfl ?_
  refine xv_getR (pc := 24) d_Comp_translate_24 f_Comp_15 rfl k0 g1 ?_
  refine xv_aload_n (pc := 27) d_Comp_translate_27 rfl rfl ?_
  refine xv_getR (pc := 28) d_Comp_translate_28 f_Comp_9 rfl k0 g0 ?_
  refine xv_getI (pc := 31) d_Comp_translate_31 f_Comp_30 rfl kF ?_
  rw [hpar]
  refine xv_cV1v (pc := 34) (c_Entry_startWith (u := xv_si W h 3 0) hE1) m_Entry_startWith l_Comp_35 d_Comp_translate_34 (by omega) (by decide : 5 < xv_nc) rfl ke (Nat.le_of_ble_eq_true rfl) ⟨Nat.le_refl _, Nat.le_refl _⟩ (fun w hw hN hS => ?_)
  obtain ⟨φ, hw, hφ⟩ := hw
  rw [xEM_start hap] at hw
  subst w
  refine xv_aload_n (pc := 37) d_Comp_translate_37 rfl rfl ?_
  refine xv_getR (pc := 38) d_Comp_translate_38 f_Comp_9 rfl k0 g0 ?_
  refine xv_getI (pc := 41) d_Comp_translate_41 f_Comp_30 rfl kF ?_
  refine xv_istore_3 (pc := 44) d_Comp_translate_44 (by decide) rfl ?_
  rw [(xCp_o hC).1, iu _ _ hfx, hm]
  have hl := c_tr_loop (sc := sc) (σ0 := (0, xv_i W (x + 2), xv_i W (x + 3), xv_i W (x + 4), φ, 0, 0)) hC hT' hm3 hv hst' hsz rfl
  refine xv_X_mono ?_ hl
  intro o w hw
  exact ⟨⟨hw.1.1, φ, hφ, hw.1.2⟩, hw.2⟩
theorem c_Comp_translate {sc : Nat × (Nat → Int32)} {u : xv_M} {h x fm o a t n m k : Nat} {O : Nat → Nat} {A : Nat → Int32} (k0 : xv_k u h = 7) (hE : xv_En u x (x + 1) (x + 2) (x + 3) (x + 4) (x + 5) (x + 6)) (hFo : xv_Fo u fm o a t) (hno : ∀ d, d ≤ 5 → o ≠ x + d ∧ a ≠ x + d ∧ t ≠ x + d) (hT : xTk u fm o a n O A) (hm : xv_i u fm 3 = nI m) (hm3 : m ≤ 3) (hv : xVF O n k 0) (hst : xSt O (xv_i u t) k 0) (hsz : xSz O k 0 ≤ 250) : xv_C sc (2 * k + 3) J_Comp_translate [.ref h, .ref fm, .ref x] u (xv_N u) (xv_S u) (xv_pv (fun w => ∃ φ, (∀ i, i < 265 → φ i = 0) ∧ w = xEM (xv_si (xv_sr (xv_sr (xv_sr u h 0 (some fm)) h 1 (some x)) h 2 (some (x + 1))) x 3 (nI m)) h x (xTr O A k m (0, xv_i u (x + 2), xv_i u (x + 3), xv_i u (x + 4), φ, 0, 0)))) := by
  obtain ⟨ke, e0, e1, e7, kt, lt, ks, ls, kc, c0, c1, c2, ko, lo, kf, lf, kg, lg⟩ := hE
  obtain ⟨kF, f0, f1, f4, kO, lO, kA, lA, kT, lT⟩ := hFo
  have hxh : x ≠ h := xv_ne ke k0 (by decide)
  have hch : x + 1 ≠ h := xv_ne kc k0 (by decide)
  have hfh : fm ≠ h := xv_ne kF k0 (by decide)
  have hfx : fm ≠ x := xv_ne kF ke (by decide)
  have ek0 : xv_k (xv_sr (xv_sr (xv_sr u h 0 (some fm)) h 1 (some x)) h 2 (some (x + 1))) = xv_k u := by rw [xv_k_sr, xv_k_sr, xv_k_sr]
  have el0 : xv_l (xv_sr (xv_sr (xv_sr u h 0 (some fm)) h 1 (some x)) h 2 (some (x + 1))) = xv_l u := by rw [xv_l_sr, xv_l_sr, xv_l_sr]
  have ei0 : xv_i (xv_sr (xv_sr (xv_sr u h 0 (some fm)) h 1 (some x)) h 2 (some (x + 1))) = xv_i u := by rw [xv_i_sr, xv_i_sr, xv_i_sr]
  have er0 : ∀ b q, b ≠ h → xv_r (xv_sr (xv_sr (xv_sr u h 0 (some fm)) h 1 (some x)) h 2 (some (x + 1))) b q = xv_r u b q := fun b q hb => by rw [xv_sr_ne hb, xv_sr_ne hb, xv_sr_ne hb]
  have g0 : xv_r (xv_sr (xv_sr (xv_sr u h 0 (some fm)) h 1 (some x)) h 2 (some (x + 1))) h 0 = some fm := by rw [xv_sr_nj (by decide), xv_sr_nj (by decide), xv_sr_eq]
  have g1 : xv_r (xv_sr (xv_sr (xv_sr u h 0 (some fm)) h 1 (some x)) h 2 (some (x + 1))) h 1 = some x := by rw [xv_sr_nj (by decide), xv_sr_eq]
  have g2 : xv_r (xv_sr (xv_sr (xv_sr u h 0 (some fm)) h 1 (some x)) h 2 (some (x + 1))) h 2 = some (x + 1) := xv_sr_eq
  have p0 : xv_r (xv_sr (xv_sr u h 0 (some fm)) h 1 (some x)) x 0 = some (x + 1) := by rw [xv_sr_ne hxh, xv_sr_ne hxh]; exact e0
  have hn0 : xv_N (xv_sr (xv_sr (xv_sr u h 0 (some fm)) h 1 (some x)) h 2 (some (x + 1))) = xv_N u := rfl
  have hs0 : xv_S (xv_sr (xv_sr (xv_sr u h 0 (some fm)) h 1 (some x)) h 2 (some (x + 1))) = xv_S u := rfl
  refine xv_C_of (by decide) (Nat.le_refl _) (Nat.le_refl _) (xv_cat1 rfl) (Nat.le_of_ble_eq_true rfl) ?_
  show xv_X sc (2 * k + 3) J_Comp_translate 0 [some (.ref h), some (.ref fm), some (.ref x), none] [] u (xv_N u) (xv_S u) _
  refine xv_aload_n (pc := 0) d_Comp_translate_0 rfl rfl ?_
  refine xv_aload_n (pc := 1) d_Comp_translate_1 rfl rfl ?_
  refine xv_putR (pc := 2) d_Comp_translate_2 f_Comp_9 rfl fin_6_0 k0 ?_
  refine xv_aload_n (pc := 5) d_Comp_translate_5 rfl rfl ?_
  refine xv_aload_n (pc := 6) d_Comp_translate_6 rfl rfl ?_
  refine xv_putR (pc := 7) d_Comp_translate_7 f_Comp_15 rfl fin_6_1 k0 ?_
  refine xv_aload_n (pc := 10) d_Comp_translate_10 rfl rfl ?_
  refine xv_aload_n (pc := 11) d_Comp_translate_11 rfl rfl ?_
  refine xv_getR (pc := 12) d_Comp_translate_12 f_Comp_19 rfl ke p0 ?_
  refine xv_putR (pc := 15) d_Comp_translate_15 f_Comp_25 rfl fin_6_2 k0 ?_
  have hE1 : xv_En (xv_sr (xv_sr (xv_sr u h 0 (some fm)) h 1 (some x)) h 2 (some (x + 1))) x (x + 1) (x + 2) (x + 3) (x + 4) (x + 5) (x + 6) := by
    unfold xv_En xv_Co
    rw [ek0, el0, er0 _ _ hxh, er0 _ _ hxh, er0 _ _ hxh, er0 _ _ hch, er0 _ _ hch, er0 _ _ hch]
    exact ⟨ke, e0, e1, e7, kt, lt, ks, ls, kc, c0, c1, c2, ko, lo, kf, lf, kg, lg⟩
  have hF1 : xv_Fo (xv_sr (xv_sr (xv_sr u h 0 (some fm)) h 1 (some x)) h 2 (some (x + 1))) fm o a t := by
    unfold xv_Fo
    rw [ek0, el0, er0 _ _ hfh, er0 _ _ hfh, er0 _ _ hfh]
    exact ⟨kF, f0, f1, f4, kO, lO, kA, lA, kT, lT⟩
  have hT1 : xTk (xv_sr (xv_sr (xv_sr u h 0 (some fm)) h 1 (some x)) h 2 (some (x + 1))) fm o a n O A := by unfold xTk; rw [ei0]; exact hT
  have hk0 : xv_k (xv_sr (xv_sr (xv_sr u h 0 (some fm)) h 1 (some x)) h 2 (some (x + 1))) h = 7 := by rw [ek0]; exact k0
  have hr := c_tr_18 (sc := sc) (W := (xv_sr (xv_sr (xv_sr u h 0 (some fm)) h 1 (some x)) h 2 (some (x + 1)))) (k := k) ⟨hk0, g0, g1, g2, hE1, hF1, hno⟩ hT1 (by rw [ei0]; exact hm) hm3 hv (by rw [ei0]; exact hst) hsz
  rw [hn0, hs0, ei0] at hr
  exact hr

