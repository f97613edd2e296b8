/-! constructors: FaslDesk -/
theorem xKp_In {w w2 : xv_M} {X : Nat → Prop} {h ma fa oa B : Nat} (K : xKp w w2 X) (hh : h < xv_N w ∧ ¬ X h) (hm : ma < xv_N w ∧ ¬ X ma) (hf : fa < xv_N w ∧ ¬ X fa) (ho : oa < xv_N w ∧ ¬ X oa) (hB : B + 80 ≤ xv_N w ∧ ∀ b, B ≤ b → b < B + 80 → ¬ X b) (H : xIn w h ma fa oa B) : xIn w2 h ma fa oa B := by
  obtain ⟨a1, a2, a3, a4, a5, a6, a7, a8, a9, a10, a11⟩ := H
  have rh := (K.2 h hh.1).2.2 hh.2
  refine ⟨(K.2 h hh.1).1.trans a1, (rh 0).trans a2, (rh 1).trans a3, (rh 2).trans a4, (K.2 ma hm.1).1.trans a5, (K.2 ma hm.1).2.1.trans a6, (K.2 fa hf.1).1.trans a7, (K.2 fa hf.1).2.1.trans a8, (K.2 oa ho.1).1.trans a9, (K.2 oa ho.1).2.1.trans a10, fun f hf8 => ?_⟩
  obtain ⟨b1, b2, b3, b4, b5, b6⟩ := a11 f hf8
  refine ⟨((K.2 ma hm.1).2.2 hm.2 f).trans b1, ((K.2 fa hf.1).2.2 hf.2 f).trans b2, ((K.2 oa ho.1).2.2 ho.2 f).trans b3, ?_, ?_, ?_⟩
  · exact xKp_Fo K (hB.2 _ (by omega) (by omega)) (by omega) (by omega) (by omega) (by omega) b4
  · exact xKp_Fr K (hB.2 _ (by omega) (by omega)) (by omega) (by omega) (by omega) b5
  · exact xKp_Op K (hB.2 _ (by omega) (by omega)) (by omega) (by omega) (by omega) b6
theorem xKp_AP {w w2 : xv_M} {X : Nat → Prop} {h N : Nat} (K : xKp w w2 X) (hh : h < xv_N w ∧ ¬ X h) (hB : N + 60 ≤ xv_N w ∧ ∀ b, N ≤ b → b < N + 60 → ¬ X b) (H : xAP w h N 8) : xAP w2 h N 8 := by
  obtain ⟨⟨a1, a2, a3, a4, a5⟩, a6, a7⟩ := H
  have rh := (K.2 h hh.1).2.2 hh.2
  have rN := K.2 N (by omega)
  refine ⟨⟨(K.2 h hh.1).1.trans a1, (rh 0).trans a2, (rh 5).trans a3, rN.1.trans a4, rN.2.1.trans a5⟩, xKp_Ck K (hB.2 _ (by omega) (by omega)) (by omega) (by omega) (by omega) a6, fun e he => ?_⟩
  obtain ⟨b1, b2⟩ := a7 e he
  exact ⟨(rN.2.2 (hB.2 _ (by omega) (by omega)) e).trans b1, xKp_En K (hB.2 _ (by omega) (by omega)) (hB.2 _ (by omega) (by omega)) (by omega) (by omega) (by omega) (by omega) (by omega) (by omega) (by omega) b2⟩
def xDL (w : xv_M) (h N : Nat) : Prop := xDk w h N (N + 4) (N + 88) (N + 89) (N + 150) ∧ xv_Fo w N (N + 1) (N + 2) (N + 3) ∧ xIn w (N + 4) (N + 5) (N + 6) (N + 7) (N + 8) ∧ xv_k w (N + 88) = 7 ∧ xAP w (N + 89) (N + 90) 8 ∧ xIm w (N + 150) (N + 151) (N + 152) (N + 153)
theorem c_Desk_init {sc : Nat × (Nat → Int32)} {u : xv_M} {h : Nat} (k0 : xv_k u h = 11) (hh : h < xv_N u) : xv_C sc 4 J_Desk_init [.ref h] u (xv_N u + 209) (xv_S u + 21042) (xv_pv (fun w => ∃ w0, xGr u w0 h 209 21042 ∧ xDL w0 h (xv_N u) ∧ w = xv_si w0 h 7 (-1))) := by
  refine xv_C_of (by decide) (by omega) (by omega) (xv_cat1 rfl) (Nat.le_of_ble_eq_true rfl) ?_
  show xv_X sc 4 J_Desk_init 0 [some (.ref h)] [] u (xv_N u + 209) (xv_S u + 21042) _
  generalize hN : xv_N u = N at *
  refine xv_aload_n (pc := 0) d_Desk_init_0 rfl rfl ?_
  refine xv_obj (pc := 1) d_Desk_init_1 k_28 k_29 k_30 (by omega) (Nat.le_of_ble_eq_true rfl) ?_
  refine xv_aload_n (pc := 4) d_Desk_init_4 rfl rfl ?_
  -- the draft
  refine xv_newO (pc := 5) (ci := 0) d_Desk_init_5 (by decide) k_31 k_32 k_2 (by omega) (by omega) ?_
  refine xv_dup_ref (pc := 8) d_Desk_init_8 ?_
  rw [hN]
  have kA : xv_k (xv_nw u 1 0 5) N = 1 := by rw [xv_nw_k, if_pos hN.symm]
  refine xv_cIN0v (pc := 9) (d1 := 1) (c_Form_init kA (by show _ < xv_N u + 1; omega)) m_Form_init l_Desk_9 d_Desk_init_9 (by omega) (Nat.le_of_ble_eq_true rfl) ⟨by show xv_N u + 1 + 3 ≤ _; omega, by show xv_S u + 5 + 200 ≤ _; omega⟩ (fun w1 hw hN1 hS1 => ?_)
  obtain ⟨G1, F1⟩ := hw
  have nA : xv_N (xv_nw u 1 0 5) = N + 1 := by show xv_N u + 1 = _; omega
  rw [nA] at F1
  have H1 : xGr u w1 h (0 + 1 + 3) (0 + 5 + 200) := xGr_new xGr_rf (by rw [hN]; exact G1)
  have n1 := H1.1
  have k1 := (xGr_k H1 (by omega)).trans k0
  refine xv_putRF (pc := 12) d_Desk_init_12 f_Desk_10 rfl fin_10_0 rfl rfl k1 ?_
  have H1' := xGr_sr (b := h) (j := 0) (v := some N) H1 (Or.inl rfl)
  have r1 : xv_r (xv_sr w1 h 0 (some N)) h 0 = some N := xv_sr_eq
  have F1' : xv_Fo (xv_sr w1 h 0 (some N)) N (N + 1) (N + 2) (N + 3) := xKp_Fo xKp_s (by omega) (by omega) (by omega) (by omega) (by omega) F1
  generalize xv_sr w1 h 0 (some N) = v1 at *
  clear G1 F1 H1 n1 k1 hN1 hS1
  have n1 : xv_N v1 = N + 4 := by have := H1'.1; omega
  have s1 := H1'.2.1
  have k1 := (xGr_k H1' (by omega)).trans k0
  -- the interpreter
  refine xv_aload_n (pc := 15) d_Desk_init_15 rfl rfl ?_
  refine xv_newO (pc := 16) (ci := 3) d_Desk_init_16 (by decide) k_63 k_64 k_3 (by omega) (by omega) ?_
  refine xv_dup_ref (pc := 19) d_Desk_init_19 ?_
  rw [n1]
  have kB : xv_k (xv_nw v1 4 0 3) (N + 4) = 4 := by rw [xv_nw_k, if_pos n1.symm]
  refine xv_cI0v (pc := 20) (d1 := 2) (c_Interp_init kB (by show _ < xv_N v1 + 1; omega)) m_Interp_init l_Desk_18 d_Desk_init_20 (by omega) (Nat.le_of_ble_eq_true rfl) ⟨by show xv_N v1 + 1 + 83 ≤ _; omega, by show xv_S v1 + 3 + 2744 ≤ _; omega⟩ (fun w2 hw hN1 hS1 => ?_)
  obtain ⟨G2, F2⟩ := hw
  have nB : xv_N (xv_nw v1 4 0 3) = N + 5 := by show xv_N v1 + 1 = _; omega
  rw [nB] at F2
  have H2 : xGr u w2 h (0 + 1 + 3 + 1 + 83) (0 + 5 + 200 + 3 + 2744) := xGr_new H1' (by rw [n1]; exact G2)
  have n2 := H2.1
  have k2 := (xGr_k H2 (by omega)).trans k0
  have K2 : xKp v1 w2 (fun b => N + 4 ≤ b) := xKp_tr xKp_n (xKp_m (xKp_g G2) (fun b _ e => by omega))
  have j2 := K2.2 h (by omega)
  refine xv_putRF (pc := 23) d_Desk_init_23 f_Desk_19 rfl fin_10_1 rfl rfl k2 ?_
  have H2' := xGr_sr (b := h) (j := 1) (v := some (N + 4)) H2 (Or.inl rfl)
  have KS2 : xKp w2 (xv_sr w2 h 1 (some (N + 4))) (fun b => b = h) := xKp_s
  have r20 : xv_r (xv_sr w2 h 1 (some (N + 4))) h 0 = some N := by rw [xv_sr_nj (by decide), j2.2.2 (by omega) 0]; exact r1
  have r21 : xv_r (xv_sr w2 h 1 (some (N + 4))) h 1 = some (N + 4) := xv_sr_eq
  have F12 := xKp_Fo KS2 (by omega) (by omega) (by omega) (by omega) (by omega) (xKp_Fo K2 (by omega) (by omega) (by omega) (by omega) (by omega) F1')
  have F2' := xKp_In KS2 ⟨by omega, by omega⟩ ⟨by omega, by omega⟩ ⟨by omega, by omega⟩ ⟨by omega, by omega⟩ ⟨by omega, fun b _ _ => by omega⟩ F2
  generalize xv_sr w2 h 1 (some (N + 4)) = v2 at *
  clear G2 F2 H2 n2 k2 hN1 hS1 KS2 K2 j2 F1' r1 k1 s1 n1 H1'
  have n2 : xv_N v2 = N + 88 := by have := H2'.1; omega
  have s2 := H2'.2.1
  have k2 := (xGr_k H2' (by omega)).trans k0
  -- the compiler
  refine xv_aload_n (pc := 26) d_Desk_init_26 rfl rfl ?_
  refine xv_newO (pc := 27) (ci := 6) d_Desk_init_27 (by decide) k_119 k_120 k_6 (by omega) (by omega) ?_
  refine xv_dup_ref (pc := 30) d_Desk_init_30 ?_
  rw [n2]
  refine xv_cIN0v (pc := 31) (d1 := 1) c_Comp_init m_Comp_init l_Desk_25 d_Desk_init_31 (by omega) (Nat.le_of_ble_eq_true rfl) ⟨by show xv_N v2 + 1 ≤ _; omega, by show xv_S v2 + 4 ≤ _; omega⟩ (fun w3 hw hN1 hS1 => ?_)
  subst hw
  have H3 : xGr u (xv_nw v2 7 0 4) h (0 + 1 + 3 + 1 + 83 + 1) (0 + 5 + 200 + 3 + 2744 + 4) := xGr_nw H2'
  have K3 : xKp v2 (xv_nw v2 7 0 4) (fun _ => False) := xKp_n
  have kk3 : xv_k (xv_nw v2 7 0 4) (N + 88) = 7 := by rw [xv_nw_k, if_pos n2.symm]
  refine xv_putRF (pc := 34) d_Desk_init_34 f_Desk_26 rfl fin_10_2 rfl rfl ((xKo (by omega)).trans k2) ?_
  have H3' := xGr_sr (b := h) (j := 2) (v := some (N + 88)) H3 (Or.inl rfl)
  have K3' : xKp v2 (xv_sr (xv_nw v2 7 0 4) h 2 (some (N + 88))) (fun b => b = h) := xKp_tr xKp_n xKp_s
  have r30 : xv_r (xv_sr (xv_nw v2 7 0 4) h 2 (some (N + 88))) h 0 = some N := by rw [xv_sr_nj (by decide), xv_nw_r, if_neg (by omega)]; exact r20
  have r31 : xv_r (xv_sr (xv_nw v2 7 0 4) h 2 (some (N + 88))) h 1 = some (N + 4) := by rw [xv_sr_nj (by decide), xv_nw_r, if_neg (by omega)]; exact r21
  have r32 : xv_r (xv_sr (xv_nw v2 7 0 4) h 2 (some (N + 88))) h 2 = some (N + 88) := xv_sr_eq
  have kk3' : xv_k (xv_sr (xv_nw v2 7 0 4) h 2 (some (N + 88))) (N + 88) = 7 := kk3
  have F13 := xKp_Fo K3' (by omega) (by omega) (by omega) (by omega) (by omega) F12
  have F23 := xKp_In K3' ⟨by omega, by omega⟩ ⟨by omega, by omega⟩ ⟨by omega, by omega⟩ ⟨by omega, by omega⟩ ⟨by omega, fun b _ _ => by omega⟩ F2'
  generalize xv_sr (xv_nw v2 7 0 4) h 2 (some (N + 88)) = v3 at *
  clear H3 K3 kk3 K3' F12 F2' r20 r21 hN1 hS1 n2 s2 k2 H2'
  have n3 : xv_N v3 = N + 89 := by have := H3'.1; omega
  have s3 := H3'.2.1
  have k3 := (xGr_k H3' (by omega)).trans k0
  -- the archive
  refine xv_aload_n (pc := 37) d_Desk_init_37 rfl rfl ?_
  refine xv_newO (pc := 38) (ci := 8) d_Desk_init_38 (by decide) k_138 k_139 k_7 (by omega) (by omega) ?_
  refine xv_dup_ref (pc := 41) d_Desk_init_41 ?_
  rw [n3]
  have kD : xv_k (xv_nw v3 9 0 6) (N + 89) = 9 := by rw [xv_nw_k, if_pos n3.symm]
  refine xv_cI0v (pc := 42) (d1 := 3) (c_Arch_init kD (by show _ < xv_N v3 + 1; omega)) m_Arch_init l_Desk_32 d_Desk_init_42 (by omega) (Nat.le_of_ble_eq_true rfl) ⟨by show xv_N v3 + 1 + 60 ≤ _; omega, by show xv_S v3 + 6 + 11254 ≤ _; omega⟩ (fun w4 hw hN1 hS1 => ?_)
  obtain ⟨G4, F4⟩ := hw
  have nD : xv_N (xv_nw v3 9 0 6) = N + 90 := by show xv_N v3 + 1 = _; omega
  rw [nD] at F4
  have H4 : xGr u w4 h (0 + 1 + 3 + 1 + 83 + 1 + 1 + 60) (0 + 5 + 200 + 3 + 2744 + 4 + 6 + 11254) := xGr_new H3' (by rw [n3]; exact G4)
  have n4 := H4.1
  have k4 := (xGr_k H4 (by omega)).trans k0
  have K4 : xKp v3 w4 (fun b => N + 89 ≤ b) := xKp_tr xKp_n (xKp_m (xKp_g G4) (fun b _ e => by omega))
  have j4 := K4.2 h (by omega)
  refine xv_putRF (pc := 45) d_Desk_init_45 f_Desk_33 rfl fin_10_3 rfl rfl k4 ?_
  have H4' := xGr_sr (b := h) (j := 3) (v := some (N + 89)) H4 (Or.inl rfl)
  have KS4 : xKp w4 (xv_sr w4 h 3 (some (N + 89))) (fun b => b = h) := xKp_s
  have r40 : xv_r (xv_sr w4 h 3 (some (N + 89))) h 0 = some N := by rw [xv_sr_nj (by decide), j4.2.2 (by omega) 0]; exact r30
  have r41 : xv_r (xv_sr w4 h 3 (some (N + 89))) h 1 = some (N + 4) := by rw [xv_sr_nj (by decide), j4.2.2 (by omega) 1]; exact r31
  have r42 : xv_r (xv_sr w4 h 3 (some (N + 89))) h 2 = some (N + 88) := by rw [xv_sr_nj (by decide), j4.2.2 (by omega) 2]; exact r32
  have r43 : xv_r (xv_sr w4 h 3 (some (N + 89))) h 3 = some (N + 89) := xv_sr_eq
  have kk4 : xv_k (xv_sr w4 h 3 (some (N + 89))) (N + 88) = 7 := (KS4.2 _ (by omega)).1.trans ((K4.2 _ (by omega)).1.trans kk3')
  have F14 := xKp_Fo KS4 (by omega) (by omega) (by omega) (by omega) (by omega) (xKp_Fo K4 (by omega) (by omega) (by omega) (by omega) (by omega) F13)
  have F24 := xKp_In KS4 ⟨by omega, by omega⟩ ⟨by omega, by omega⟩ ⟨by omega, by omega⟩ ⟨by omega, by omega⟩ ⟨by omega, fun b _ _ => by omega⟩ (xKp_In K4 ⟨by omega, by omega⟩ ⟨by omega, by omega⟩ ⟨by omega, by omega⟩ ⟨by omega, by omega⟩ ⟨by omega, fun b _ _ => by omega⟩ F23)
  have F44 := xKp_AP KS4 ⟨by omega, by omega⟩ ⟨by omega, fun b _ _ => by omega⟩ F4
  generalize xv_sr w4 h 3 (some (N + 89)) = v4 at *
  clear G4 F4 H4 n4 k4 hN1 hS1 KS4 K4 j4 F13 F23 r30 r31 r32 kk3' n3 s3 k3 H3'
  have n4 : xv_N v4 = N + 150 := by have := H4'.1; omega
  have s4 := H4'.2.1
  have k4 := (xGr_k H4' (by omega)).trans k0
  -- the image
  refine xv_aload_n (pc := 48) d_Desk_init_48 rfl rfl ?_
  refine xv_newO (pc := 49) (ci := 9) d_Desk_init_49 (by decide) k_281 k_282 k_11 (by omega) (by omega) ?_
  refine xv_dup_ref (pc := 52) d_Desk_init_52 ?_
  rw [n4]
  have kE : xv_k (xv_nw v4 10 0 2) (N + 150) = 10 := by rw [xv_nw_k, if_pos n4.symm]
  refine xv_cI0v (pc := 53) (d1 := 2) (c_Image_init kE (by show _ < xv_N v4 + 1; omega)) m_Image_init l_Desk_39 d_Desk_init_53 (by omega) (Nat.le_of_ble_eq_true rfl) ⟨by show xv_N v4 + 1 + 58 ≤ _; omega, by show xv_S v4 + 2 + 6824 ≤ _; omega⟩ (fun w5 hw hN1 hS1 => ?_)
  obtain ⟨G5, F5⟩ := hw
  have nE : xv_N (xv_nw v4 10 0 2) = N + 151 := by show xv_N v4 + 1 = _; omega
  rw [nE] at F5
  have H5 : xGr u w5 h (0 + 1 + 3 + 1 + 83 + 1 + 1 + 60 + 1 + 58) (0 + 5 + 200 + 3 + 2744 + 4 + 6 + 11254 + 2 + 6824) := xGr_new H4' (by rw [n4]; exact G5)
  have n5 := H5.1
  have k5 := (xGr_k H5 (by omega)).trans k0
  have K5 : xKp v4 w5 (fun b => N + 150 ≤ b) := xKp_tr xKp_n (xKp_m (xKp_g G5) (fun b _ e => by omega))
  have j5 := K5.2 h (by omega)
  have KS5 : xKp w5 (xv_sr w5 h 4 (some (N + 150))) (fun b => b = h) := xKp_s
  have H5' := xGr_sr (b := h) (j := 4) (v := some (N + 150)) H5 (Or.inl rfl)
  have DL : xDL (xv_sr w5 h 4 (some (N + 150))) h N := by
    refine ⟨⟨k5, ?_, ?_, ?_, ?_, xv_sr_eq⟩, ?_, ?_, ?_, ?_, ?_⟩
    · rw [xv_sr_nj (by decide), j5.2.2 (by omega) 0]; exact r40
    · rw [xv_sr_nj (by decide), j5.2.2 (by omega) 1]; exact r41
    · rw [xv_sr_nj (by decide), j5.2.2 (by omega) 2]; exact r42
    · rw [xv_sr_nj (by decide), j5.2.2 (by omega) 3]; exact r43
    · exact xKp_Fo KS5 (by omega) (by omega) (by omega) (by omega) (by omega) (xKp_Fo K5 (by omega) (by omega) (by omega) (by omega) (by omega) F14)
    · exact xKp_In KS5 ⟨by omega, by omega⟩ ⟨by omega, by omega⟩ ⟨by omega, by omega⟩ ⟨by omega, by omega⟩ ⟨by omega, fun b _ _ => by omega⟩ (xKp_In K5 ⟨by omega, by omega⟩ ⟨by omega, by omega⟩ ⟨by omega, by omega⟩ ⟨by omega, by omega⟩ ⟨by omega, fun b _ _ => by omega⟩ F24)
    · exact (K5.2 _ (by omega)).1.trans kk4
    · exact xKp_AP KS5 ⟨by omega, by omega⟩ ⟨by omega, fun b _ _ => by omega⟩ (xKp_AP K5 ⟨by omega, by omega⟩ ⟨by omega, fun b _ _ => by omega⟩ F44)
    · obtain ⟨a1, a2, a3, a4, a5, a6, a7, a8⟩ := F5
      have q : ∀ b, ¬ b = h → ∀ j, xv_r (xv_sr w5 h 4 (some (N + 150))) b j = xv_r w5 b j := fun b hb j => xv_sr_ne hb
      refine ⟨a1, (q _ (by omega) 0).trans a2, (q _ (by omega) 1).trans a3, a4, a5, a6, a7, fun f hf => ?_⟩
      obtain ⟨b1, b2, b3, b4⟩ := a8 f hf
      exact ⟨(q _ (by omega) f).trans b1, (q _ (by omega) f).trans b2, xKp_Co KS5 (by omega) (by omega) (by omega) (by omega) (by omega) b3, xKp_Fr KS5 (by omega) (by omega) (by omega) (by omega) b4⟩
  refine xv_putRF (pc := 56) d_Desk_init_56 f_Desk_40 rfl fin_10_4 rfl rfl k5 ?_
  refine xv_aload_n (pc := 59) d_Desk_init_59 rfl rfl ?_
  refine xv_iconst (pc := 60) (-1) d_Desk_init_60 (by decide) ?_
  refine xv_putI (pc := 61) d_Desk_init_61 f_Desk_44 (Or.inl rfl) fin_10_7 k5 ?_
  exact xv_retvq (pc := 64) d_Desk_init_64 rfl (by have := H5'.1; show xv_N (xv_sr w5 h 4 (some (N + 150))) = _; omega) (by have := H5'.2.1; show xv_S (xv_sr w5 h 4 (some (N + 150))) = _; omega) ⟨rfl, _, H5', DL, rfl⟩

