/-! constructors: Archive, Image -/
def xAP (w : xv_M) (h N k : Nat) : Prop := xv_Ar w h N (N + 1) ∧ xv_Ck w (N + 1) (N + 2) (N + 3) ∧ ∀ e, e < k → xv_r w N e = some (N + 4 + 7 * e) ∧ xv_En w (N + 4 + 7 * e) (N + 4 + 7 * e + 1) (N + 4 + 7 * e + 2) (N + 4 + 7 * e + 3) (N + 4 + 7 * e + 4) (N + 4 + 7 * e + 5) (N + 4 + 7 * e + 6)
theorem c_Arch_init {sc : Nat × (Nat → Int32)} {u : xv_M} {h : Nat} (k0 : xv_k u h = 9) (hh : h < xv_N u) : xv_C sc 3 J_Arch_init [.ref h] u (xv_N u + 60) (xv_S u + 11254) (xv_pv (fun w => xGr u w h 60 11254 ∧ xAP w h (xv_N u) 8)) := by
  have loop : ∀ (q k : Nat) (w : xv_M), k + q = 8 → xGr u w h (4 + 7 * k) (542 + 1339 * k) → xAP w h (xv_N u) k → xv_X sc 3 J_Arch_init 26 [some (.ref h), some (.int (nI k))] [] w (xv_N u + 60) (xv_S u + 11254) (xv_q (xv_N u + 60) (xv_S u + 11254) (xv_pv (fun w => xGr u w h 60 11254 ∧ xAP w h (xv_N u) 8))) := by
    intro q
    induction q with
    | zero =>
      intro k w hk G I
      have hk : k = 8 := by omega
      subst hk
      refine xv_iload_n (pc := 26) d_Arch_init_26 rfl rfl ?_
      refine xv_bipush (pc := 27) 8 d_Arch_init_27 (by decide) ?_
      refine xv_icmp_ge (pc := 29) 51 d_Arch_init_29 (by decide) (fun h29 => ?_) (fun h29 => ?_)
      case refine_2 => exact absurd (by decide) h29
      exact xv_retvq (pc := 51) d_Arch_init_51 rfl G.1 G.2.1 ⟨rfl, G, I⟩
    | succ q ih =>
      intro k w hk G I
      have nw := G.1
      have sw := G.2.1
      have es : nI k + Int32.ofInt 1 = nI (k + 1) := by rw [nI_succ]; rfl
      have hck : (nI k).toNatClampNeg = k := nI_clamp (by omega)
      have ik : vp_in (nI k) 8 := vp_in_nI (by omega) (by decide)
      obtain ⟨⟨i0, i1, i2, i3, i4⟩, i5, i6⟩ := I
      generalize hN : xv_N u = N at *
      refine xv_iload_n (pc := 26) d_Arch_init_26 rfl rfl ?_
      refine xv_bipush (pc := 27) 8 d_Arch_init_27 (by decide) ?_
      refine xv_icmp_ge (pc := 29) 51 d_Arch_init_29 (by decide) (fun h29 => ?_) (fun h29 => ?_)
      · exact absurd h29 (nI_ge (b := 8) (by omega) (by decide))
      refine xv_aload_n (pc := 32) d_Arch_init_32 rfl rfl ?_
      refine xv_getR (pc := 33) d_Arch_init_33 f_Arch_11 rfl i0 i1 ?_
      refine xv_iload_n (pc := 36) d_Arch_init_36 rfl rfl ?_
      refine xv_newO (pc := 37) (ci := 5) d_Arch_init_37 (by decide) k_144 k_165 k_9 (by omega) (by omega) ?_
      refine xv_dup_ref (pc := 40) d_Arch_init_40 ?_
      rw [nw]
      have kA : xv_k (xv_nw w 6 0 10) (N + (4 + 7 * k)) = 6 := by rw [xv_nw_k, if_pos nw.symm]
      refine xv_cIN0v (pc := 41) (d1 := 2) (c_Entry_init kA (by show _ < xv_N w + 1; omega)) m_Entry_init l_Arch_24 d_Arch_init_41 (by omega) (Nat.le_of_ble_eq_true rfl) ⟨by show xv_N w + 1 + 6 ≤ _; omega, by show xv_S w + 10 + 1329 ≤ _; omega⟩ (fun wB hw hN1 hS1 => ?_)
      obtain ⟨GB, FB⟩ := hw
      have nA : xv_N (xv_nw w 6 0 10) = N + (4 + 7 * k) + 1 := by show xv_N w + 1 = _; omega
      rw [nA] at FB
      have nB : xv_N wB = N + (4 + 7 * k) + 7 := by rw [GB.1, nA]
      have KB : xKp w wB (fun b => N + (4 + 7 * k) ≤ b ∨ b = N) := xKp_tr xKp_n (xKp_m (xKp_g GB) (fun b _ e => Or.inl (by omega)))
      refine xv_aast (pc := 44) (t := 3) (ci := 5) d_Arch_init_44 ((KB.2 N (by omega)).1.trans i3) (by decide) rfl (by rw [(KB.2 N (by omega)).2.1, i4]; exact ik) ((FB).1) ?_
      rw [hck]
      have KC : xKp w (xv_sr wB N k (some (N + (4 + 7 * k)))) (fun b => N + (4 + 7 * k) ≤ b ∨ b = N) := xKp_tr KB (xKp_m xKp_s (fun b _ e => Or.inr e))
      have FC : xv_En (xv_sr wB N k (some (N + (4 + 7 * k)))) (N + (4 + 7 * k)) (N + (4 + 7 * k) + 1) (N + (4 + 7 * k) + 1 + 1) (N + (4 + 7 * k) + 1 + 2) (N + (4 + 7 * k) + 1 + 3) (N + (4 + 7 * k) + 1 + 4) (N + (4 + 7 * k) + 1 + 5) := xKp_En xKp_s (by omega) (by omega) (by omega) (by omega) (by omega) (by omega) (by omega) (by omega) (by omega) FB
      have rN : ∀ f, xv_r (xv_sr wB N k (some (N + (4 + 7 * k)))) N f = if f = k then some (N + (4 + 7 * k)) else xv_r w N f := fun f => by
        by_cases e : f = k
        · subst e; rw [if_pos rfl]; exact xv_sr_eq
        · rw [if_neg e, xv_sr_nj e, (GB.2.2.1 N (by show N < xv_N w + 1; omega)).2.2.2.2 (by omega) f, xv_nw_r, if_neg (by omega)]
      have GC : xGr u (xv_sr wB N k (some (N + (4 + 7 * k)))) h (4 + 7 * (k + 1)) (542 + 1339 * (k + 1)) := by
        have := xGr_sr (b := N) (j := k) (v := some (N + (4 + 7 * k))) (xGr_new G (by rw [nw]; exact GB)) (Or.inr (by omega))
        rw [show 4 + 7 * (k + 1) = 4 + 7 * k + 1 + 6 by omega, show 542 + 1339 * (k + 1) = 542 + 1339 * k + 10 + 1329 by omega]
        exact this
      generalize xv_sr wB N k (some (N + (4 + 7 * k))) = wC at *
      have jh := (KC.2 h (by omega))
      have jN := KC.2 N (by omega)
      refine xv_iinc_1 (pc := 45) (nI (k + 1)) d_Arch_init_45 es (by decide) rfl ?_
      refine xv_goto (pc := 48) 26 d_Arch_init_48 (by decide) ?_
      refine ih (k + 1) wC (by omega) GC ⟨⟨jh.1.trans i0, (jh.2.2 (by omega) 0).trans i1, (jh.2.2 (by omega) 5).trans i2, jN.1.trans i3, jN.2.1.trans i4⟩, xKp_Ck KC (by omega) (by omega) (by omega) (by omega) i5, fun f hf => ?_⟩
      rw [rN f]
      by_cases e : f = k
      · subst e
        rw [if_pos rfl, show N + 4 + 7 * f = N + (4 + 7 * f) by omega]
        exact ⟨rfl, FC⟩
      · rw [if_neg e]
        obtain ⟨g1, g2⟩ := i6 f (by omega)
        exact ⟨g1, xKp_En KC (by omega) (by omega) (by omega) (by omega) (by omega) (by omega) (by omega) (by omega) (by omega) g2⟩
  obtain ⟨G1, r1, q1, kk1, ll1, o1⟩ := xRowN (k := 103 + 3) (n := 8) (j := 0) (xGr_rf (u := u) (h := h)) hh (fun _ _ => rfl)
  refine xv_C_of (by decide) (by omega) (by omega) (xv_cat1 rfl) (Nat.le_of_ble_eq_true rfl) ?_
  show xv_X sc 3 J_Arch_init 0 [some (.ref h), none] [] u (xv_N u + 60) (xv_S u + 11254) _
  refine xv_aload_n (pc := 0) d_Arch_init_0 rfl rfl ?_
  refine xv_obj (pc := 1) d_Arch_init_1 k_143 k_29 k_30 (by omega) (Nat.le_of_ble_eq_true rfl) ?_
  refine xv_aload_n (pc := 4) d_Arch_init_4 rfl rfl ?_
  refine xv_bipush (pc := 5) 8 d_Arch_init_5 (by decide) ?_
  refine xv_newR (pc := 7) (N' := 8) (t := 3) d_Arch_init_7 rfl k_144 (by decide) (by decide) (by decide) (by omega) (by omega) ?_
  refine xv_putRF (pc := 10) d_Arch_init_10 f_Arch_11 rfl fin_8_0 rfl rfl ((xKo hh).trans k0) ?_
  refine xv_aload_n (pc := 13) d_Arch_init_13 rfl rfl ?_
  generalize hW1 : xv_sr (xv_nw u (103 + 3) 8 8) h 0 (some (xv_N u)) = w1
  rw [show xv_sr (xv_nw u (103 + 3) 8 8) h 0 (some (xv_N u + 0)) = w1 from hW1] at G1 r1 q1 kk1 ll1 o1
  have n1 := G1.1
  have s1 := G1.2.1
  have k1 := (xGr_k G1 hh).trans k0
  refine xv_newO (pc := 14) (ci := 7) d_Arch_init_14 (by decide) k_146 k_147 k_8 (by omega) (by omega) ?_
  refine xv_dup_ref (pc := 17) d_Arch_init_17 ?_
  rw [show xv_N w1 = xv_N u + 1 from n1]
  have kc : xv_k (xv_nw w1 8 0 4) (xv_N u + 1) = 8 := by rw [xv_nw_k, if_pos (by omega)]
  refine xv_cIN0v (pc := 18) (d1 := 1) (c_Check_init kc (by show _ < xv_N w1 + 1; omega)) m_Check_init l_Arch_19 d_Arch_init_18 (by omega) (Nat.le_of_ble_eq_true rfl) ⟨by show xv_N w1 + 1 + 2 ≤ _; omega, by show xv_S w1 + 4 + 530 ≤ _; omega⟩ (fun w2 hw hN hS => ?_)
  obtain ⟨G0, C0⟩ := hw
  have nA : xv_N (xv_nw w1 8 0 4) = xv_N u + 2 := by show xv_N w1 + 1 = _; omega
  rw [nA] at C0
  have G2 : xGr u w2 h (0 + 1 + 1 + 2) (0 + 8 + 4 + 530) := xGr_new G1 (by rw [n1]; exact G0)
  have n2 := G2.1
  have K2 : xKp w1 w2 (fun b => xv_N u + 1 ≤ b) := xKp_tr xKp_n (xKp_m (xKp_g G0) (fun b _ e => by omega))
  have jh := K2.2 h (by omega)
  have jN := K2.2 (xv_N u) (by omega)
  refine xv_putRF (pc := 21) d_Arch_init_21 f_Arch_20 rfl fin_8_5 rfl rfl (jh.1.trans k1) ?_
  refine xv_iconst (pc := 24) 0 d_Arch_init_24 (by decide) ?_
  refine xv_istore_1 (pc := 25) d_Arch_init_25 (by decide) rfl ?_
  have G3 := xGr_sr (b := h) (j := 5) (v := some (xv_N u + 1)) G2 (Or.inl rfl)
  refine loop 8 0 _ (by omega) G3 ⟨⟨jh.1.trans k1, ?_, xv_sr_eq, jN.1.trans kk1, jN.2.1.trans ll1⟩, xKp_Ck xKp_s (by omega) (by omega) (by omega) (by omega) C0, fun e he => absurd he (Nat.not_lt_zero e)⟩
  rw [xv_sr_nj (by decide), jh.2.2 (by omega) 0]
  exact r1
def xMP (w : xv_M) (h N k : Nat) : Prop := xv_k w h = 10 ∧ xv_r w h 0 = some N ∧ xv_r w h 1 = some (N + 1) ∧ xv_k w N = 107 ∧ xv_l w N = 8 ∧ xv_k w (N + 1) = 104 ∧ xv_l w (N + 1) = 8 ∧ ∀ f, f < k → xv_r w N f = some (N + 2 + 7 * f) ∧ xv_r w (N + 1) f = some (N + 2 + 7 * f + 4) ∧ xv_Co w (N + 2 + 7 * f) (N + 2 + 7 * f + 1) (N + 2 + 7 * f + 2) (N + 2 + 7 * f + 3) ∧ xv_Fr w (N + 2 + 7 * f + 4) (N + 2 + 7 * f + 4 + 1) (N + 2 + 7 * f + 4 + 2)
theorem c_Image_init {sc : Nat × (Nat → Int32)} {u : xv_M} {h : Nat} (k0 : xv_k u h = 10) (hh : h < xv_N u) : xv_C sc 2 J_Image_init [.ref h] u (xv_N u + 58) (xv_S u + 6824) (xv_pv (fun w => xGr u w h 58 6824 ∧ xIm w h (xv_N u) (xv_N u + 1) (xv_N u + 2))) := by
  have loop : ∀ (q k : Nat) (w : xv_M), k + q = 8 → xGr u w h (2 + 7 * k) (16 + 851 * k) → xMP w h (xv_N u) k → xv_X sc 2 J_Image_init 24 [some (.ref h), some (.int (nI k))] [] w (xv_N u + 58) (xv_S u + 6824) (xv_q (xv_N u + 58) (xv_S u + 6824) (xv_pv (fun w => xGr u w h 58 6824 ∧ xIm w h (xv_N u) (xv_N u + 1) (xv_N u + 2)))) := by
    intro q
    induction q with
    | zero =>
      intro k w hk G I
      have hk : k = 8 := by omega
      subst hk
      refine xv_iload_n (pc := 24) d_Image_init_24 rfl rfl ?_
      refine xv_bipush (pc := 25) 8 d_Image_init_25 (by decide) ?_
      refine xv_icmp_ge (pc := 27) 62 d_Image_init_27 (by decide) (fun h27 => ?_) (fun h27 => ?_)
      case refine_2 => exact absurd (by decide) h27
      exact xv_retvq (pc := 62) d_Image_init_62 rfl G.1 G.2.1 ⟨rfl, G, I⟩
    | succ q ih =>
      intro k w hk G I
      have nw := G.1
      have sw := G.2.1
      have es : nI k + Int32.ofInt 1 = nI (k + 1) := by rw [nI_succ]; rfl
      have hck : (nI k).toNatClampNeg = k := nI_clamp (by omega)
      have ik : vp_in (nI k) 8 := vp_in_nI (by omega) (by decide)
      obtain ⟨i0, i1, i2, i4, i5, i6, i7, i10⟩ := I
      generalize hN : xv_N u = N at *
      refine xv_iload_n (pc := 24) d_Image_init_24 rfl rfl ?_
      refine xv_bipush (pc := 25) 8 d_Image_init_25 (by decide) ?_
      refine xv_icmp_ge (pc := 27) 62 d_Image_init_27 (by decide) (fun h27 => ?_) (fun h27 => ?_)
      · exact absurd h27 (nI_ge (b := 8) (by omega) (by decide))
      refine xv_aload_n (pc := 30) d_Image_init_30 rfl rfl ?_
      refine xv_getR (pc := 31) d_Image_init_31 f_Image_11 rfl i0 i1 ?_
      refine xv_iload_n (pc := 34) d_Image_init_34 rfl rfl ?_
      refine xv_newO (pc := 35) (ci := 4) d_Image_init_35 (by decide) k_287 k_171 k_10 (by omega) (by omega) ?_
      refine xv_dup_ref (pc := 38) d_Image_init_38 ?_
      rw [nw]
      have kA : xv_k (xv_nw w 5 0 4) (N + (2 + 7 * k)) = 5 := by rw [xv_nw_k, if_pos nw.symm]
      refine xv_cIN0v (pc := 39) (d1 := 1) (c_Code_init kA (by show _ < xv_N w + 1; omega)) m_Code_init l_Image_23 d_Image_init_39 (by omega) (Nat.le_of_ble_eq_true rfl) ⟨by show xv_N w + 1 + 3 ≤ _; omega, by show xv_S w + 4 + 795 ≤ _; omega⟩ (fun wB hw hN1 hS1 => ?_)
      obtain ⟨GB, FB⟩ := hw
      have nA : xv_N (xv_nw w 5 0 4) = N + (2 + 7 * k) + 1 := by show xv_N w + 1 = _; omega
      rw [nA] at FB
      have nB : xv_N wB = N + (2 + 7 * k) + 4 := by rw [GB.1, nA]
      have sB : xv_S wB = xv_S u + (16 + 851 * k) + 799 := by rw [GB.2.1]; show xv_S w + 4 + 795 = _; omega
      have KB : xKp w wB (fun b => N + (2 + 7 * k) ≤ b ∨ b = N) := xKp_tr xKp_n (xKp_m (xKp_g GB) (fun b _ e => Or.inl (by omega)))
      refine xv_aast (pc := 42) (t := 4) (ci := 4) d_Image_init_42 ((KB.2 N (by omega)).1.trans i4) (by decide) rfl (by rw [(KB.2 N (by omega)).2.1, i5]; exact ik) ((FB).1) ?_
      rw [hck]
      have KC : xKp w (xv_sr wB N k (some (N + (2 + 7 * k)))) (fun b => N + (2 + 7 * k) ≤ b ∨ b = N) := xKp_tr KB (xKp_m xKp_s (fun b _ e => Or.inr e))
      have FC : xv_Co (xv_sr wB N k (some (N + (2 + 7 * k)))) (N + (2 + 7 * k)) (N + (2 + 7 * k) + 1) (N + (2 + 7 * k) + 2) (N + (2 + 7 * k) + 3) := xKp_Co xKp_s (by omega) (by omega) (by omega) (by omega) (by omega) FB
      have rN : ∀ f, xv_r (xv_sr wB N k (some (N + (2 + 7 * k)))) N f = if f = k then some (N + (2 + 7 * k)) else xv_r w N f := fun f => by
        by_cases e : f = k
        · subst e; rw [if_pos rfl]; exact xv_sr_eq
        · rw [if_neg e, xv_sr_nj e, (GB.2.2.1 N (by show N < xv_N w + 1; omega)).2.2.2.2 (by omega) f, xv_nw_r, if_neg (by omega)]
      have GC : xGr u (xv_sr wB N k (some (N + (2 + 7 * k)))) h (2 + 7 * k + 1 + 3) (16 + 851 * k + 4 + 795) := xGr_sr (xGr_new G (by rw [nw]; exact GB)) (Or.inr (by omega))
      have nC : xv_N (xv_sr wB N k (some (N + (2 + 7 * k)))) = N + (2 + 7 * k) + 4 := nB
      have sC : xv_S (xv_sr wB N k (some (N + (2 + 7 * k)))) = xv_S u + (16 + 851 * k) + 799 := sB
      generalize xv_sr wB N k (some (N + (2 + 7 * k))) = wC at *
      clear hN1 hS1 GB FB KB nB sB
      have jh := (KC.2 h (by omega))
      have j1 := KC.2 (N + 1) (by omega)
      refine xv_aload_n (pc := 43) d_Image_init_43 rfl rfl ?_
      refine xv_getR (pc := 44) d_Image_init_44 f_Image_19 rfl (jh.1.trans i0) ((jh.2.2 (by omega) 1).trans i2) ?_
      refine xv_iload_n (pc := 47) d_Image_init_47 rfl rfl ?_
      refine xv_newO (pc := 48) (ci := 1) d_Image_init_48 (by decide) k_289 k_76 k_4 (by omega) (by omega) ?_
      refine xv_dup_ref (pc := 51) d_Image_init_51 ?_
      rw [nC]
      have kD : xv_k (xv_nw wC 2 0 3) (N + (2 + 7 * k) + 4) = 2 := by rw [xv_nw_k, if_pos nC.symm]
      refine xv_cIN0v (pc := 52) (d1 := 1) (c_Frame_init kD (by show _ < xv_N wC + 1; omega)) m_Frame_init l_Image_24 d_Image_init_52 (by omega) (Nat.le_of_ble_eq_true rfl) ⟨by show xv_N wC + 1 + 2 ≤ _; omega, by show xv_S wC + 3 + 49 ≤ _; omega⟩ (fun wE hw hN1 hS1 => ?_)
      obtain ⟨GE, FE⟩ := hw
      have nD : xv_N (xv_nw wC 2 0 3) = N + (2 + 7 * k) + 4 + 1 := by show xv_N wC + 1 = _; omega
      rw [nD] at FE
      have nE : xv_N wE = N + (2 + 7 * k) + 7 := by rw [GE.1, nD]
      have KE : xKp wC wE (fun b => N + (2 + 7 * k) + 4 ≤ b ∨ b = N + 1) := xKp_tr xKp_n (xKp_m (xKp_g GE) (fun b _ e => Or.inl (by omega)))
      refine xv_aast (pc := 55) (t := 1) (ci := 1) d_Image_init_55 ((KE.2 (N + 1) (by omega)).1.trans (j1.1.trans i6)) (by decide) rfl (by rw [(KE.2 (N + 1) (by omega)).2.1, j1.2.1, i7]; exact ik) ((FE).1) ?_
      rw [hck]
      have KF : xKp wC (xv_sr wE (N + 1) k (some (N + (2 + 7 * k) + 4))) (fun b => N + (2 + 7 * k) + 4 ≤ b ∨ b = N + 1) := xKp_tr KE (xKp_m xKp_s (fun b _ e => Or.inr e))
      have FF : xv_Fr (xv_sr wE (N + 1) k (some (N + (2 + 7 * k) + 4))) (N + (2 + 7 * k) + 4) (N + (2 + 7 * k) + 4 + 1) (N + (2 + 7 * k) + 4 + 2) := xKp_Fr xKp_s (by omega) (by omega) (by omega) (by omega) FE
      have rN1 : ∀ f, xv_r (xv_sr wE (N + 1) k (some (N + (2 + 7 * k) + 4))) (N + 1) f = if f = k then some (N + (2 + 7 * k) + 4) else xv_r wC (N + 1) f := fun f => by
        by_cases e : f = k
        · subst e; rw [if_pos rfl]; exact xv_sr_eq
        · rw [if_neg e, xv_sr_nj e, (GE.2.2.1 (N + 1) (by show N + 1 < xv_N wC + 1; omega)).2.2.2.2 (by omega) f, xv_nw_r, if_neg (by omega)]
      have GF : xGr u (xv_sr wE (N + 1) k (some (N + (2 + 7 * k) + 4))) h (2 + 7 * (k + 1)) (16 + 851 * (k + 1)) := by
        have := xGr_sr (b := N + 1) (j := k) (v := some (N + (2 + 7 * k) + 4)) (xGr_new GC (by rw [nC]; exact GE)) (Or.inr (by omega))
        rw [show 2 + 7 * (k + 1) = 2 + 7 * k + 1 + 3 + 1 + 2 by omega, show 16 + 851 * (k + 1) = 16 + 851 * k + 4 + 795 + 3 + 49 by omega]
        exact this
      generalize xv_sr wE (N + 1) k (some (N + (2 + 7 * k) + 4)) = wF at *
      clear hN1 hS1 GE FE KE nE
      have jh2 := (KF.2 h (by omega))
      have a0 := KF.2 N (by omega)
      have aC := KC.2 N (by omega)
      have b11 := KF.2 (N + 1) (by omega)
      refine xv_iinc_1 (pc := 56) (nI (k + 1)) d_Image_init_56 es (by decide) rfl ?_
      refine xv_goto (pc := 59) 24 d_Image_init_59 (by decide) ?_
      refine ih (k + 1) wF (by omega) GF ⟨jh2.1.trans (jh.1.trans i0), (jh2.2.2 (by omega) 0).trans ((jh.2.2 (by omega) 0).trans i1), (jh2.2.2 (by omega) 1).trans ((jh.2.2 (by omega) 1).trans i2), a0.1.trans (aC.1.trans i4), a0.2.1.trans (aC.2.1.trans i5), b11.1.trans (j1.1.trans i6), b11.2.1.trans (j1.2.1.trans i7), fun f hf => ?_⟩
      rw [a0.2.2 (by omega) f, rN f, rN1 f, j1.2.2 (by omega) f]
      by_cases e : f = k
      · subst e
        rw [if_pos rfl, if_pos rfl, show N + 2 + 7 * f = N + (2 + 7 * f) by omega]
        exact ⟨rfl, rfl, xKp_Co KF (by omega) (by omega) (by omega) (by omega) (by omega) FC, FF⟩
      · rw [if_neg e, if_neg e]
        obtain ⟨g1, g2, g4, g5⟩ := i10 f (by omega)
        refine ⟨g1, g2, ?_, ?_⟩
        · exact xKp_Co KF (by omega) (by omega) (by omega) (by omega) (by omega) (xKp_Co KC (by omega) (by omega) (by omega) (by omega) (by omega) g4)
        · exact xKp_Fr KF (by omega) (by omega) (by omega) (by omega) (xKp_Fr KC (by omega) (by omega) (by omega) (by omega) g5)
  obtain ⟨G1, r1, q1, kk1, ll1, o1⟩ := xRowN (k := 103 + 4) (n := 8) (j := 0) (xGr_rf (u := u) (h := h)) hh (fun _ _ => rfl)
  refine xv_C_of (by decide) (by omega) (by omega) (xv_cat1 rfl) (Nat.le_of_ble_eq_true rfl) ?_
  show xv_X sc 2 J_Image_init 0 [some (.ref h), none] [] u (xv_N u + 58) (xv_S u + 6824) _
  refine xv_aload_n (pc := 0) d_Image_init_0 rfl rfl ?_
  refine xv_obj (pc := 1) d_Image_init_1 k_286 k_29 k_30 (by omega) (Nat.le_of_ble_eq_true rfl) ?_
  refine xv_aload_n (pc := 4) d_Image_init_4 rfl rfl ?_
  refine xv_bipush (pc := 5) 8 d_Image_init_5 (by decide) ?_
  refine xv_newR (pc := 7) (N' := 8) (t := 4) d_Image_init_7 rfl k_287 (by decide) (by decide) (by decide) (by omega) (by omega) ?_
  refine xv_putRF (pc := 10) d_Image_init_10 f_Image_11 rfl fin_9_0 rfl rfl ((xKo hh).trans k0) ?_
  refine xv_aload_n (pc := 13) d_Image_init_13 rfl rfl ?_
  refine xv_bipush (pc := 14) 8 d_Image_init_14 (by decide) ?_
  generalize hW1 : xv_sr (xv_nw u (103 + 4) 8 8) h 0 (some (xv_N u)) = w1
  rw [show xv_sr (xv_nw u (103 + 4) 8 8) h 0 (some (xv_N u + 0)) = w1 from hW1] at G1 r1 q1 kk1 ll1 o1
  obtain ⟨G2, r2, q2, kk2, ll2, o2⟩ := xRowN (k := 103 + 1) (n := 8) (j := 1) G1 hh (fun _ _ => rfl)
  have n1 := G1.1
  have s1 := G1.2.1
  have k1 := (xGr_k G1 hh).trans k0
  refine xv_newR (pc := 16) (N' := 8) (t := 1) d_Image_init_16 rfl k_289 (by decide) (by decide) (by decide) (by omega) (by omega) ?_
  refine xv_putRF (pc := 19) d_Image_init_19 f_Image_19 rfl fin_9_1 rfl rfl ((xKo (by omega)).trans k1) ?_
  refine xv_iconst (pc := 22) 0 d_Image_init_22 (by decide) ?_
  refine xv_istore_1 (pc := 23) d_Image_init_23 (by decide) rfl ?_
  rw [show xv_N w1 = xv_N u + 1 from n1]
  generalize hW2 : xv_sr (xv_nw w1 (103 + 1) 8 8) h 1 (some (xv_N u + 1)) = w2
  rw [show xv_sr (xv_nw w1 (103 + 1) 8 8) h 1 (some (xv_N u + (0 + 1))) = w2 from hW2] at G2 r2 q2 kk2 ll2 o2
  exact loop 8 0 w2 (by omega) G2 ⟨(xGr_k G2 hh).trans k0, by rw [q2 0 (by decide)]; exact r1, r2, (o2 _ (by omega)).1.trans kk1, (o2 _ (by omega)).2.trans ll1, kk2, ll2, fun f hf => absurd hf (Nat.not_lt_zero f)⟩

