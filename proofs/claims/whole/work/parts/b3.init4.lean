/-! constructors: Interpreter -/
/-- the interpreter with its first k functions -/
def xIP (w : xv_M) (h N k : Nat) : Prop := xv_k w h = 4 ∧ xv_r w h 0 = some N ∧ xv_r w h 1 = some (N + 1) ∧ xv_r w h 2 = some (N + 2) ∧ xv_k w N = 103 ∧ xv_l w N = 8 ∧ xv_k w (N + 1) = 104 ∧ xv_l w (N + 1) = 8 ∧ xv_k w (N + 2) = 105 ∧ xv_l w (N + 2) = 8 ∧ ∀ f, f < k → xv_r w N f = some (N + 3 + 10 * f) ∧ xv_r w (N + 1) f = some (N + 3 + 10 * f + 4) ∧ xv_r w (N + 2) f = some (N + 3 + 10 * f + 7) ∧ xv_Fo w (N + 3 + 10 * f) (N + 3 + 10 * f + 1) (N + 3 + 10 * f + 2) (N + 3 + 10 * f + 3) ∧ xv_Fr w (N + 3 + 10 * f + 4) (N + 3 + 10 * f + 4 + 1) (N + 3 + 10 * f + 4 + 2) ∧ xv_Op w (N + 3 + 10 * f + 7) (N + 3 + 10 * f + 7 + 1) (N + 3 + 10 * f + 7 + 2)
theorem c_Interp_init {sc : Nat × (Nat → Int32)} {u : xv_M} {h : Nat} (k0 : xv_k u h = 4) (hh : h < xv_N u) : xv_C sc 2 J_Interp_init [.ref h] u (xv_N u + 83) (xv_S u + 2744) (xv_pv (fun w => xGr u w h 83 2744 ∧ xIn w h (xv_N u) (xv_N u + 1) (xv_N u + 2) (xv_N u + 3))) := by
  have loop : ∀ (q k : Nat) (w : xv_M), k + q = 8 → xGr u w h (3 + 10 * k) (24 + 340 * k) → xIP w h (xv_N u) k → xv_X sc 2 J_Interp_init 33 [some (.ref h), some (.int (nI k))] [] w (xv_N u + 83) (xv_S u + 2744) (xv_q (xv_N u + 83) (xv_S u + 2744) (xv_pv (fun w => xGr u w h 83 2744 ∧ xIn w h (xv_N u) (xv_N u + 1) (xv_N u + 2) (xv_N u + 3)))) := by
    intro q
    induction q with
    | zero =>
      intro k w hk G I
      have hk : k = 8 := by omega
      subst hk
      refine xv_iload_n (pc := 33) d_Interp_init_33 rfl rfl ?_
      refine xv_bipush (pc := 34) 8 d_Interp_init_34 (by decide) ?_
      refine xv_icmp_ge (pc := 36) 84 d_Interp_init_36 (by decide) (fun h36 => ?_) (fun h36 => ?_)
      case refine_2 => exact absurd (by decide) h36
      exact xv_retvq (pc := 84) d_Interp_init_84 rfl G.1 G.2.1 ⟨rfl, G, I⟩
    | succ q ih =>
      intro k w hk G I
      have nw := G.1
      have sw := G.2.1
      have es : nI k + Int32.ofInt 1 = nI (k + 1) := by rw [nI_succ]; rfl
      have hck : (nI k).toNatClampNeg = k := nI_clamp (by omega)
      have ik : vp_in (nI k) 8 := vp_in_nI (by omega) (by decide)
      obtain ⟨i0, i1, i2, i3, i4, i5, i6, i7, i8, i9, i10⟩ := I
      generalize hN : xv_N u = N at *
      refine xv_iload_n (pc := 33) d_Interp_init_33 rfl rfl ?_
      refine xv_bipush (pc := 34) 8 d_Interp_init_34 (by decide) ?_
      refine xv_icmp_ge (pc := 36) 84 d_Interp_init_36 (by decide) (fun h36 => ?_) (fun h36 => ?_)
      · exact absurd h36 (nI_ge (b := 8) (by omega) (by decide))
      refine xv_aload_n (pc := 39) d_Interp_init_39 rfl rfl ?_
      refine xv_getR (pc := 40) d_Interp_init_40 f_Interp_11 rfl i0 i1 ?_
      refine xv_iload_n (pc := 43) d_Interp_init_43 rfl rfl ?_
      -- the form
      refine xv_newO (pc := 44) (ci := 0) d_Interp_init_44 (by decide) k_69 k_32 k_2 (by omega) (by omega) ?_
      refine xv_dup_ref (pc := 47) d_Interp_init_47 ?_
      rw [nw]
      have kA : xv_k (xv_nw w 1 0 5) (N + (3 + 10 * k)) = 1 := by rw [xv_nw_k, if_pos nw.symm]
      refine xv_cIN0v (pc := 48) (d1 := 1) (c_Form_init kA (by show _ < xv_N w + 1; omega)) m_Form_init l_Interp_29 d_Interp_init_48 (by omega) (Nat.le_of_ble_eq_true rfl) ⟨by show xv_N w + 1 + 3 ≤ _; omega, by show xv_S w + 5 + 200 ≤ _; omega⟩ (fun wB hw hN1 hS1 => ?_)
      obtain ⟨GB, FB⟩ := hw
      have nA : xv_N (xv_nw w 1 0 5) = N + (3 + 10 * k) + 1 := by show xv_N w + 1 = _; omega
      rw [nA] at FB
      have nB : xv_N wB = N + (3 + 10 * k) + 4 := by rw [GB.1, nA]
      have sB : xv_S wB = xv_S u + (24 + 340 * k) + 205 := by rw [GB.2.1]; show xv_S w + 5 + 200 = _; omega
      have KB : xKp w wB (fun b => N + (3 + 10 * k) ≤ b ∨ b = N) := xKp_tr xKp_n (xKp_m (xKp_g GB) (fun b _ e => Or.inl (by omega)))
      refine xv_aast (pc := 51) (t := 0) (ci := 0) d_Interp_init_51 ((KB.2 N (by omega)).1.trans i4) (by decide) rfl (by rw [(KB.2 N (by omega)).2.1, i5]; exact ik) ((FB).1) ?_
      rw [hck]
      have KC : xKp w (xv_sr wB N k (some (N + (3 + 10 * k)))) (fun b => N + (3 + 10 * k) ≤ b ∨ b = N) := xKp_tr KB (xKp_m xKp_s (fun b _ e => Or.inr e))
      have FC : xv_Fo (xv_sr wB N k (some (N + (3 + 10 * k)))) (N + (3 + 10 * k)) (N + (3 + 10 * k) + 1) (N + (3 + 10 * k) + 2) (N + (3 + 10 * k) + 3) := xKp_Fo xKp_s (by omega) (by omega) (by omega) (by omega) (by omega) FB
      have rN : ∀ f, xv_r (xv_sr wB N k (some (N + (3 + 10 * k)))) N f = if f = k then some (N + (3 + 10 * k)) else xv_r w N f := fun f => by
        by_cases e : f = k
        · subst e; rw [if_pos rfl]; exact xv_sr_eq
        · rw [if_neg e, xv_sr_nj e, (GB.2.2.1 N (by show N < xv_N w + 1; omega)).2.2.2.2 (by omega) f, xv_nw_r, if_neg (by omega)]
      have GC : xGr u (xv_sr wB N k (some (N + (3 + 10 * k)))) h (3 + 10 * k + 1 + 3) (24 + 340 * k + 5 + 200) := xGr_sr (xGr_new G (by rw [nw]; exact GB)) (Or.inr (by omega))
      have nC : xv_N (xv_sr wB N k (some (N + (3 + 10 * k)))) = N + (3 + 10 * k) + 4 := nB
      have sC : xv_S (xv_sr wB N k (some (N + (3 + 10 * k)))) = xv_S u + (24 + 340 * k) + 205 := sB
      generalize xv_sr wB N k (some (N + (3 + 10 * k))) = wC at *
      clear hN1 hS1 GB FB KB nB sB
      have jh := (KC.2 h (by omega))
      -- the frame
      refine xv_aload_n (pc := 52) d_Interp_init_52 rfl rfl ?_
      refine xv_getR (pc := 53) d_Interp_init_53 f_Interp_19 rfl (jh.1.trans i0) ((jh.2.2 (by omega) 1).trans i2) ?_
      refine xv_iload_n (pc := 56) d_Interp_init_56 rfl rfl ?_
      refine xv_newO (pc := 57) (ci := 1) d_Interp_init_57 (by decide) k_71 k_76 k_4 (by omega) (by omega) ?_
      refine xv_dup_ref (pc := 60) d_Interp_init_60 ?_
      rw [nC]
      have kD : xv_k (xv_nw wC 2 0 3) (N + (3 + 10 * k) + 4) = 2 := by rw [xv_nw_k, if_pos nC.symm]
      refine xv_cIN0v (pc := 61) (d1 := 1) (c_Frame_init kD (by show _ < xv_N wC + 1; omega)) m_Frame_init l_Interp_30 d_Interp_init_61 (by omega) (Nat.le_of_ble_eq_true rfl) ⟨by show xv_N wC + 1 + 2 ≤ _; omega, by show xv_S wC + 3 + 49 ≤ _; omega⟩ (fun wE hw hN1 hS1 => ?_)
      obtain ⟨GE, FE⟩ := hw
      have nD : xv_N (xv_nw wC 2 0 3) = N + (3 + 10 * k) + 4 + 1 := by show xv_N wC + 1 = _; omega
      rw [nD] at FE
      have nE : xv_N wE = N + (3 + 10 * k) + 7 := by rw [GE.1, nD]
      have sE : xv_S wE = xv_S u + (24 + 340 * k) + 257 := by rw [GE.2.1]; show xv_S wC + 3 + 49 = _; omega
      have KE : xKp wC wE (fun b => N + (3 + 10 * k) + 4 ≤ b ∨ b = N + 1) := xKp_tr xKp_n (xKp_m (xKp_g GE) (fun b _ e => Or.inl (by omega)))
      have j1 := KC.2 (N + 1) (by omega)
      have j2 := KC.2 (N + 2) (by omega)
      refine xv_aast (pc := 64) (t := 1) (ci := 1) d_Interp_init_64 ((KE.2 (N + 1) (by omega)).1.trans (j1.1.trans i6)) (by decide) rfl (by rw [(KE.2 (N + 1) (by omega)).2.1, j1.2.1, i7]; exact ik) ((FE).1) ?_
      rw [hck]
      have KF : xKp wC (xv_sr wE (N + 1) k (some (N + (3 + 10 * k) + 4))) (fun b => N + (3 + 10 * k) + 4 ≤ b ∨ b = N + 1) := xKp_tr KE (xKp_m xKp_s (fun b _ e => Or.inr e))
      have FF : xv_Fr (xv_sr wE (N + 1) k (some (N + (3 + 10 * k) + 4))) (N + (3 + 10 * k) + 4) (N + (3 + 10 * k) + 4 + 1) (N + (3 + 10 * k) + 4 + 2) := xKp_Fr xKp_s (by omega) (by omega) (by omega) (by omega) FE
      have rN1 : ∀ f, xv_r (xv_sr wE (N + 1) k (some (N + (3 + 10 * k) + 4))) (N + 1) f = if f = k then some (N + (3 + 10 * k) + 4) else xv_r wC (N + 1) f := fun f => by
        by_cases e : f = k
        · subst e; rw [if_pos rfl]; exact xv_sr_eq
        · rw [if_neg e, xv_sr_nj e, (GE.2.2.1 (N + 1) (by show N + 1 < xv_N wC + 1; omega)).2.2.2.2 (by omega) f, xv_nw_r, if_neg (by omega)]
      have GF : xGr u (xv_sr wE (N + 1) k (some (N + (3 + 10 * k) + 4))) h (3 + 10 * k + 1 + 3 + 1 + 2) (24 + 340 * k + 5 + 200 + 3 + 49) := xGr_sr (xGr_new GC (by rw [nC]; exact GE)) (Or.inr (by omega))
      have nF : xv_N (xv_sr wE (N + 1) k (some (N + (3 + 10 * k) + 4))) = N + (3 + 10 * k) + 7 := nE
      have sF : xv_S (xv_sr wE (N + 1) k (some (N + (3 + 10 * k) + 4))) = xv_S u + (24 + 340 * k) + 257 := sE
      generalize xv_sr wE (N + 1) k (some (N + (3 + 10 * k) + 4)) = wF at *
      clear hN1 hS1 GE FE KE nE sE
      have jh2 := (KF.2 h (by omega))
      have j22 := KF.2 (N + 2) (by omega)
      -- the open forms
      refine xv_aload_n (pc := 65) d_Interp_init_65 rfl rfl ?_
      refine xv_getR (pc := 66) d_Interp_init_66 f_Interp_25 rfl (jh2.1.trans (jh.1.trans i0)) ((jh2.2.2 (by omega) 2).trans ((jh.2.2 (by omega) 2).trans i3)) ?_
      refine xv_iload_n (pc := 69) d_Interp_init_69 rfl rfl ?_
      refine xv_newO (pc := 70) (ci := 2) d_Interp_init_70 (by decide) k_73 k_93 k_5 (by omega) (by omega) ?_
      refine xv_dup_ref (pc := 73) d_Interp_init_73 ?_
      rw [nF]
      have kG : xv_k (xv_nw wF 3 0 3) (N + (3 + 10 * k) + 7) = 3 := by rw [xv_nw_k, if_pos nF.symm]
      refine xv_cIN0v (pc := 74) (d1 := 1) (c_Opens_init kG (by show _ < xv_N wF + 1; omega)) m_Opens_init l_Interp_31 d_Interp_init_74 (by omega) (Nat.le_of_ble_eq_true rfl) ⟨by show xv_N wF + 1 + 2 ≤ _; omega, by show xv_S wF + 3 + 80 ≤ _; omega⟩ (fun wH hw hN1 hS1 => ?_)
      obtain ⟨GH, FH⟩ := hw
      have nG : xv_N (xv_nw wF 3 0 3) = N + (3 + 10 * k) + 7 + 1 := by show xv_N wF + 1 = _; omega
      rw [nG] at FH
      have nH : xv_N wH = N + (3 + 10 * k) + 10 := by rw [GH.1, nG]
      have KH : xKp wF wH (fun b => N + (3 + 10 * k) + 7 ≤ b ∨ b = N + 2) := xKp_tr xKp_n (xKp_m (xKp_g GH) (fun b _ e => Or.inl (by omega)))
      refine xv_aast (pc := 77) (t := 2) (ci := 2) d_Interp_init_77 ((KH.2 (N + 2) (by omega)).1.trans (j22.1.trans (j2.1.trans i8))) (by decide) rfl (by rw [(KH.2 (N + 2) (by omega)).2.1, j22.2.1, j2.2.1, i9]; exact ik) ((FH).1) ?_
      rw [hck]
      have KI : xKp wF (xv_sr wH (N + 2) k (some (N + (3 + 10 * k) + 7))) (fun b => N + (3 + 10 * k) + 7 ≤ b ∨ b = N + 2) := xKp_tr KH (xKp_m xKp_s (fun b _ e => Or.inr e))
      have FI : xv_Op (xv_sr wH (N + 2) k (some (N + (3 + 10 * k) + 7))) (N + (3 + 10 * k) + 7) (N + (3 + 10 * k) + 7 + 1) (N + (3 + 10 * k) + 7 + 2) := xKp_Op xKp_s (by omega) (by omega) (by omega) (by omega) FH
      have rN2 : ∀ f, xv_r (xv_sr wH (N + 2) k (some (N + (3 + 10 * k) + 7))) (N + 2) f = if f = k then some (N + (3 + 10 * k) + 7) else xv_r wF (N + 2) f := fun f => by
        by_cases e : f = k
        · subst e; rw [if_pos rfl]; exact xv_sr_eq
        · rw [if_neg e, xv_sr_nj e, (GH.2.2.1 (N + 2) (by show N + 2 < xv_N wF + 1; omega)).2.2.2.2 (by omega) f, xv_nw_r, if_neg (by omega)]
      have GI : xGr u (xv_sr wH (N + 2) k (some (N + (3 + 10 * k) + 7))) h (3 + 10 * (k + 1)) (24 + 340 * (k + 1)) := by
        have := xGr_sr (b := N + 2) (j := k) (v := some (N + (3 + 10 * k) + 7)) (xGr_new GF (by rw [nF]; exact GH)) (Or.inr (by omega))
        rw [show 3 + 10 * (k + 1) = 3 + 10 * k + 1 + 3 + 1 + 2 + 1 + 2 by omega, show 24 + 340 * (k + 1) = 24 + 340 * k + 5 + 200 + 3 + 49 + 3 + 80 by omega]
        exact this
      generalize xv_sr wH (N + 2) k (some (N + (3 + 10 * k) + 7)) = wI at *
      clear hN1 hS1 GH FH KH nH
      have jh3 := KI.2 h (by omega)
      have a0 := KF.2 N (by omega)
      have a1 := KI.2 N (by omega)
      have b1 := KI.2 (N + 1) (by omega)
      have b2 := KI.2 (N + 2) (by omega)
      have b11 := KF.2 (N + 1) (by omega)
      have aC := KC.2 N (by omega)
      -- rows of the earlier functions in wC, wF, wI
      have q1 : ∀ f, xv_r wI N f = if f = k then some (N + (3 + 10 * k)) else xv_r w N f := fun f => by rw [a1.2.2 (by omega) f, a0.2.2 (by omega) f]; exact rN f
      refine xv_iinc_1 (pc := 78) (nI (k + 1)) d_Interp_init_78 es (by decide) rfl ?_
      refine xv_goto (pc := 81) 33 d_Interp_init_81 (by decide) ?_
      refine ih (k + 1) wI (by omega) GI ⟨jh3.1.trans (jh2.1.trans (jh.1.trans i0)), (jh3.2.2 (by omega) 0).trans ((jh2.2.2 (by omega) 0).trans ((jh.2.2 (by omega) 0).trans i1)), (jh3.2.2 (by omega) 1).trans ((jh2.2.2 (by omega) 1).trans ((jh.2.2 (by omega) 1).trans i2)), (jh3.2.2 (by omega) 2).trans ((jh2.2.2 (by omega) 2).trans ((jh.2.2 (by omega) 2).trans i3)), a1.1.trans (a0.1.trans (aC.1.trans i4)), a1.2.1.trans (a0.2.1.trans (aC.2.1.trans i5)), b1.1.trans (b11.1.trans (j1.1.trans i6)), b1.2.1.trans (b11.2.1.trans (j1.2.1.trans i7)), b2.1.trans (j22.1.trans (j2.1.trans i8)), b2.2.1.trans (j22.2.1.trans (j2.2.1.trans i9)), fun f hf => ?_⟩
      have q2 : ∀ f, xv_r wI (N + 1) f = if f = k then some (N + (3 + 10 * k) + 4) else xv_r w (N + 1) f := fun f => by
        rw [b1.2.2 (by omega) f, rN1 f, j1.2.2 (by omega) f]
      have q3 : ∀ f, xv_r wI (N + 2) f = if f = k then some (N + (3 + 10 * k) + 7) else xv_r w (N + 2) f := fun f => by
        rw [rN2 f, j22.2.2 (by omega) f, j2.2.2 (by omega) f]
      rw [q1 f, q2 f, q3 f]
      by_cases e : f = k
      · subst e
        rw [if_pos rfl, if_pos rfl, if_pos rfl, show N + 3 + 10 * f = N + (3 + 10 * f) by omega]
        exact ⟨rfl, rfl, rfl, xKp_Fo KI (by omega) (by omega) (by omega) (by omega) (by omega) (xKp_Fo KF (by omega) (by omega) (by omega) (by omega) (by omega) FC), xKp_Fr KI (by omega) (by omega) (by omega) (by omega) FF, FI⟩
      · rw [if_neg e, if_neg e, if_neg e]
        obtain ⟨g1, g2, g3, g4, g5, g6⟩ := i10 f (by omega)
        refine ⟨g1, g2, g3, ?_, ?_, ?_⟩
        · exact xKp_Fo KI (by omega) (by omega) (by omega) (by omega) (by omega) (xKp_Fo KF (by omega) (by omega) (by omega) (by omega) (by omega) (xKp_Fo KC (by omega) (by omega) (by omega) (by omega) (by omega) g4))
        · exact xKp_Fr KI (by omega) (by omega) (by omega) (by omega) (xKp_Fr KF (by omega) (by omega) (by omega) (by omega) (xKp_Fr KC (by omega) (by omega) (by omega) (by omega) g5))
        · exact xKp_Op KI (by omega) (by omega) (by omega) (by omega) (xKp_Op KF (by omega) (by omega) (by omega) (by omega) (xKp_Op KC (by omega) (by omega) (by omega) (by omega) g6))
  obtain ⟨G1, r1, q1, kk1, ll1, o1⟩ := xRowN (k := 103 + 0) (n := 8) (j := 0) (xGr_rf (u := u) (h := h)) hh (fun _ _ => rfl)
  refine xv_C_of (by decide) (by omega) (by omega) (xv_cat1 rfl) (Nat.le_of_ble_eq_true rfl) ?_
  show xv_X sc 2 J_Interp_init 0 [some (.ref h), none] [] u (xv_N u + 83) (xv_S u + 2744) _
  refine xv_aload_n (pc := 0) d_Interp_init_0 rfl rfl ?_
  refine xv_obj (pc := 1) d_Interp_init_1 k_68 k_29 k_30 (by omega) (Nat.le_of_ble_eq_true rfl) ?_
  refine xv_aload_n (pc := 4) d_Interp_init_4 rfl rfl ?_
  refine xv_bipush (pc := 5) 8 d_Interp_init_5 (by decide) ?_
  refine xv_newR (pc := 7) (N' := 8) (t := 0) d_Interp_init_7 rfl k_69 (by decide) (by decide) (by decide) (by omega) (by omega) ?_
  refine xv_putRF (pc := 10) d_Interp_init_10 f_Interp_11 rfl fin_3_0 rfl rfl ((xKo hh).trans k0) ?_
  refine xv_aload_n (pc := 13) d_Interp_init_13 rfl rfl ?_
  refine xv_bipush (pc := 14) 8 d_Interp_init_14 (by decide) ?_
  generalize hW1 : xv_sr (xv_nw u (103 + 0) 8 8) h 0 (some (xv_N u)) = w1
  rw [show xv_sr (xv_nw u (103 + 0) 8 8) h 0 (some (xv_N u + 0)) = w1 from hW1] at G1 r1 q1 kk1 ll1 o1
  obtain ⟨G2, r2, q2, kk2, ll2, o2⟩ := xRowN (k := 103 + 1) (n := 8) (j := 1) G1 hh (fun _ _ => rfl)
  have n1 := G1.1
  have s1 := G1.2.1
  have k1 := (xGr_k G1 hh).trans k0
  refine xv_newR (pc := 16) (N' := 8) (t := 1) d_Interp_init_16 rfl k_71 (by decide) (by decide) (by decide) (by omega) (by omega) ?_
  refine xv_putRF (pc := 19) d_Interp_init_19 f_Interp_19 rfl fin_3_1 rfl rfl ((xKo (by omega)).trans k1) ?_
  refine xv_aload_n (pc := 22) d_Interp_init_22 rfl rfl ?_
  refine xv_bipush (pc := 23) 8 d_Interp_init_23 (by decide) ?_
  rw [show xv_N w1 = xv_N u + 1 from n1]
  generalize hW2 : xv_sr (xv_nw w1 (103 + 1) 8 8) h 1 (some (xv_N u + 1)) = w2
  rw [show xv_sr (xv_nw w1 (103 + 1) 8 8) h 1 (some (xv_N u + (0 + 1))) = w2 from hW2] at G2 r2 q2 kk2 ll2 o2
  obtain ⟨G3, r3, q3, kk3, ll3, o3⟩ := xRowN (k := 103 + 2) (n := 8) (j := 2) G2 hh (fun _ _ => rfl)
  have n2 := G2.1
  have s2 := G2.2.1
  have k2 := (xGr_k G2 hh).trans k0
  refine xv_newR (pc := 25) (N' := 8) (t := 2) d_Interp_init_25 rfl k_73 (by decide) (by decide) (by decide) (by omega) (by omega) ?_
  refine xv_putRF (pc := 28) d_Interp_init_28 f_Interp_25 rfl fin_3_2 rfl rfl ((xKo (by omega)).trans k2) ?_
  refine xv_iconst (pc := 31) 0 d_Interp_init_31 (by decide) ?_
  refine xv_istore_1 (pc := 32) d_Interp_init_32 (by decide) rfl ?_
  rw [show xv_N w2 = xv_N u + 2 from n2]
  generalize hW3 : xv_sr (xv_nw w2 (103 + 2) 8 8) h 2 (some (xv_N u + 2)) = w3
  rw [show xv_sr (xv_nw w2 (103 + 2) 8 8) h 2 (some (xv_N u + (0 + 1 + 1))) = w3 from hW3] at G3 r3 q3 kk3 ll3 o3
  exact loop 8 0 w3 (by omega) G3 ⟨(xGr_k G3 hh).trans k0, by rw [q3 0 (by decide), q2 0 (by decide)]; exact r1, by rw [q3 1 (by decide)]; exact r2, r3, (o3 _ (by omega)).1.trans ((o2 _ (by omega)).1.trans kk1), (o3 _ (by omega)).2.trans ((o2 _ (by omega)).2.trans ll1), (o3 _ (by omega)).1.trans kk2, (o3 _ (by omega)).2.trans ll2, kk3, ll3, fun f hf => absurd hf (Nat.not_lt_zero f)⟩

