/-! constructors: Frame, OpenForms, Code, CodeCheck, Compiler -/
theorem c_Frame_init {sc : Nat × (Nat → Int32)} {u : xv_M} {h : Nat} (k0 : xv_k u h = 2) (hh : h < xv_N u) : xv_C sc 1 J_Frame_init [.ref h] u (xv_N u + 2) (xv_S u + 49) (xv_pv (fun w => xGr u w h 2 49 ∧ xv_Fr w h (xv_N u) (xv_N u + 1))) := by
  obtain ⟨G1, r1, q1, kk1, ll1, o1⟩ := xRowN (k := 100) (n := 7) (j := 0) (xGr_rf (u := u) (h := h)) hh (fun _ _ => rfl)
  refine xv_C_of (by decide) (by omega) (by omega) (xv_cat1 rfl) (Nat.le_of_ble_eq_true rfl) ?_
  show xv_X sc 1 J_Frame_init 0 [some (.ref h)] [] u (xv_N u + 2) (xv_S u + 49) _
  refine xv_aload_n (pc := 0) d_Frame_init_0 rfl rfl ?_
  refine xv_obj (pc := 1) d_Frame_init_1 k_80 k_29 k_30 (by omega) (Nat.le_of_ble_eq_true rfl) ?_
  refine xv_aload_n (pc := 4) d_Frame_init_4 rfl rfl ?_
  refine xv_bipush (pc := 5) 7 d_Frame_init_5 (by decide) ?_
  refine xv_newI (pc := 7) (N' := 7) d_Frame_init_7 k_62 (by decide) (by decide) (by decide) (by omega) (by omega) ?_
  refine xv_putRF (pc := 9) d_Frame_init_9 f_Frame_9 rfl fin_1_0 rfl rfl ((xKo hh).trans k0) ?_
  refine xv_aload_n (pc := 12) d_Frame_init_12 rfl rfl ?_
  refine xv_bipush (pc := 13) 42 d_Frame_init_13 (by decide) ?_
  generalize hW1 : xv_sr (xv_nw u 100 7 7) h 0 (some (xv_N u)) = w1
  rw [show xv_sr (xv_nw u 100 7 7) h 0 (some (xv_N u + (0))) = w1 from hW1] at G1 r1 q1 kk1 ll1 o1
  obtain ⟨G2, r2, q2, kk2, ll2, o2⟩ := xRowN (k := 100) (n := 42) (j := 1) G1 hh (fun _ _ => rfl)
  have n1 := G1.1
  have s1 := G1.2.1
  have k1 := (xGr_k G1 hh).trans k0
  refine xv_newI (pc := 15) (N' := 42) d_Frame_init_15 k_62 (by decide) (by decide) (by decide) (by omega) (by omega) ?_
  refine xv_putRF (pc := 17) d_Frame_init_17 f_Frame_15 rfl fin_1_1 rfl rfl ((xKo (by omega)).trans k1) ?_
  rw [show xv_N w1 = xv_N u + 1 from n1]
  generalize hW2 : xv_sr (xv_nw w1 100 42 42) h 1 (some (xv_N u + 1)) = w2
  rw [show xv_sr (xv_nw w1 100 42 42) h 1 (some (xv_N u + (0 + 1))) = w2 from hW2] at G2 r2 q2 kk2 ll2 o2
  exact xv_retvq (pc := 20) d_Frame_init_20 rfl G2.1 G2.2.1 ⟨rfl, G2, (xGr_k G2 hh).trans k0, by rw [q2 0 (by decide)]; exact r1, r2, ((o2 _ (by omega)).1.trans kk1), ((o2 _ (by omega)).2.trans ll1), kk2, ll2⟩
theorem c_Opens_init {sc : Nat × (Nat → Int32)} {u : xv_M} {h : Nat} (k0 : xv_k u h = 3) (hh : h < xv_N u) : xv_C sc 1 J_Opens_init [.ref h] u (xv_N u + 2) (xv_S u + 80) (xv_pv (fun w => xGr u w h 2 80 ∧ xv_Op w h (xv_N u) (xv_N u + 1))) := by
  obtain ⟨G1, r1, q1, kk1, ll1, o1⟩ := xRowN (k := 100) (n := 40) (j := 0) (xGr_rf (u := u) (h := h)) hh (fun _ _ => rfl)
  refine xv_C_of (by decide) (by omega) (by omega) (xv_cat1 rfl) (Nat.le_of_ble_eq_true rfl) ?_
  show xv_X sc 1 J_Opens_init 0 [some (.ref h)] [] u (xv_N u + 2) (xv_S u + 80) _
  refine xv_aload_n (pc := 0) d_Opens_init_0 rfl rfl ?_
  refine xv_obj (pc := 1) d_Opens_init_1 k_97 k_29 k_30 (by omega) (Nat.le_of_ble_eq_true rfl) ?_
  refine xv_aload_n (pc := 4) d_Opens_init_4 rfl rfl ?_
  refine xv_bipush (pc := 5) 40 d_Opens_init_5 (by decide) ?_
  refine xv_newI (pc := 7) (N' := 40) d_Opens_init_7 k_62 (by decide) (by decide) (by decide) (by omega) (by omega) ?_
  refine xv_putRF (pc := 9) d_Opens_init_9 f_Opens_9 rfl fin_2_0 rfl rfl ((xKo hh).trans k0) ?_
  refine xv_aload_n (pc := 12) d_Opens_init_12 rfl rfl ?_
  refine xv_bipush (pc := 13) 40 d_Opens_init_13 (by decide) ?_
  generalize hW1 : xv_sr (xv_nw u 100 40 40) h 0 (some (xv_N u)) = w1
  rw [show xv_sr (xv_nw u 100 40 40) h 0 (some (xv_N u + (0))) = w1 from hW1] at G1 r1 q1 kk1 ll1 o1
  obtain ⟨G2, r2, q2, kk2, ll2, o2⟩ := xRowN (k := 100) (n := 40) (j := 1) G1 hh (fun _ _ => rfl)
  have n1 := G1.1
  have s1 := G1.2.1
  have k1 := (xGr_k G1 hh).trans k0
  refine xv_newI (pc := 15) (N' := 40) d_Opens_init_15 k_62 (by decide) (by decide) (by decide) (by omega) (by omega) ?_
  refine xv_putRF (pc := 17) d_Opens_init_17 f_Opens_15 rfl fin_2_1 rfl rfl ((xKo (by omega)).trans k1) ?_
  rw [show xv_N w1 = xv_N u + 1 from n1]
  generalize hW2 : xv_sr (xv_nw w1 100 40 40) h 1 (some (xv_N u + 1)) = w2
  rw [show xv_sr (xv_nw w1 100 40 40) h 1 (some (xv_N u + (0 + 1))) = w2 from hW2] at G2 r2 q2 kk2 ll2 o2
  exact xv_retvq (pc := 20) d_Opens_init_20 rfl G2.1 G2.2.1 ⟨rfl, G2, (xGr_k G2 hh).trans k0, by rw [q2 0 (by decide)]; exact r1, r2, ((o2 _ (by omega)).1.trans kk1), ((o2 _ (by omega)).2.trans ll1), kk2, ll2⟩
theorem c_Code_init {sc : Nat × (Nat → Int32)} {u : xv_M} {h : Nat} (k0 : xv_k u h = 5) (hh : h < xv_N u) : xv_C sc 1 J_Code_init [.ref h] u (xv_N u + 3) (xv_S u + 795) (xv_pv (fun w => xGr u w h 3 795 ∧ xv_Co w h (xv_N u) (xv_N u + 1) (xv_N u + 2))) := by
  obtain ⟨G1, r1, q1, kk1, ll1, o1⟩ := xRowN (k := 100) (n := 265) (j := 0) (xGr_rf (u := u) (h := h)) hh (fun _ _ => rfl)
  refine xv_C_of (by decide) (by omega) (by omega) (xv_cat1 rfl) (Nat.le_of_ble_eq_true rfl) ?_
  show xv_X sc 1 J_Code_init 0 [some (.ref h)] [] u (xv_N u + 3) (xv_S u + 795) _
  refine xv_aload_n (pc := 0) d_Code_init_0 rfl rfl ?_
  refine xv_obj (pc := 1) d_Code_init_1 k_175 k_29 k_30 (by omega) (Nat.le_of_ble_eq_true rfl) ?_
  refine xv_aload_n (pc := 4) d_Code_init_4 rfl rfl ?_
  refine xv_sipush (pc := 5) 265 d_Code_init_5 (by decide) ?_
  refine xv_newI (pc := 8) (N' := 265) d_Code_init_8 k_62 (by decide) (by decide) (by decide) (by omega) (by omega) ?_
  refine xv_putRF (pc := 10) d_Code_init_10 f_Code_9 rfl fin_4_0 rfl rfl ((xKo hh).trans k0) ?_
  refine xv_aload_n (pc := 13) d_Code_init_13 rfl rfl ?_
  refine xv_sipush (pc := 14) 265 d_Code_init_14 (by decide) ?_
  generalize hW1 : xv_sr (xv_nw u 100 265 265) h 0 (some (xv_N u)) = w1
  rw [show xv_sr (xv_nw u 100 265 265) h 0 (some (xv_N u + (0))) = w1 from hW1] at G1 r1 q1 kk1 ll1 o1
  obtain ⟨G2, r2, q2, kk2, ll2, o2⟩ := xRowN (k := 100) (n := 265) (j := 1) G1 hh (fun _ _ => rfl)
  have n1 := G1.1
  have s1 := G1.2.1
  have k1 := (xGr_k G1 hh).trans k0
  refine xv_newI (pc := 17) (N' := 265) d_Code_init_17 k_62 (by decide) (by decide) (by decide) (by omega) (by omega) ?_
  refine xv_putRF (pc := 19) d_Code_init_19 f_Code_15 rfl fin_4_1 rfl rfl ((xKo (by omega)).trans k1) ?_
  refine xv_aload_n (pc := 22) d_Code_init_22 rfl rfl ?_
  refine xv_sipush (pc := 23) 265 d_Code_init_23 (by decide) ?_
  rw [show xv_N w1 = xv_N u + 1 from n1]
  generalize hW2 : xv_sr (xv_nw w1 100 265 265) h 1 (some (xv_N u + 1)) = w2
  rw [show xv_sr (xv_nw w1 100 265 265) h 1 (some (xv_N u + (0 + 1))) = w2 from hW2] at G2 r2 q2 kk2 ll2 o2
  obtain ⟨G3, r3, q3, kk3, ll3, o3⟩ := xRowN (k := 100) (n := 265) (j := 2) G2 hh (fun _ _ => rfl)
  have n2 := G2.1
  have s2 := G2.2.1
  have k2 := (xGr_k G2 hh).trans k0
  refine xv_newI (pc := 26) (N' := 265) d_Code_init_26 k_62 (by decide) (by decide) (by decide) (by omega) (by omega) ?_
  refine xv_putRF (pc := 28) d_Code_init_28 f_Code_18 rfl fin_4_2 rfl rfl ((xKo (by omega)).trans k2) ?_
  rw [show xv_N w2 = xv_N u + 2 from n2]
  generalize hW3 : xv_sr (xv_nw w2 100 265 265) h 2 (some (xv_N u + 2)) = w3
  rw [show xv_sr (xv_nw w2 100 265 265) h 2 (some (xv_N u + (0 + 1 + 1))) = w3 from hW3] at G3 r3 q3 kk3 ll3 o3
  exact xv_retvq (pc := 31) d_Code_init_31 rfl G3.1 G3.2.1 ⟨rfl, G3, (xGr_k G3 hh).trans k0, by rw [q3 0 (by decide), q2 0 (by decide)]; exact r1, by rw [q3 1 (by decide)]; exact r2, r3, ((o3 _ (by omega)).1.trans ((o2 _ (by omega)).1.trans kk1)), ((o3 _ (by omega)).2.trans ((o2 _ (by omega)).2.trans ll1)), ((o3 _ (by omega)).1.trans kk2), ((o3 _ (by omega)).2.trans ll2), kk3, ll3⟩
theorem c_Check_init {sc : Nat × (Nat → Int32)} {u : xv_M} {h : Nat} (k0 : xv_k u h = 8) (hh : h < xv_N u) : xv_C sc 1 J_Check_init [.ref h] u (xv_N u + 2) (xv_S u + 530) (xv_pv (fun w => xGr u w h 2 530 ∧ xv_Ck w h (xv_N u) (xv_N u + 1))) := by
  obtain ⟨G1, r1, q1, kk1, ll1, o1⟩ := xRowN (k := 100) (n := 265) (j := 0) (xGr_rf (u := u) (h := h)) hh (fun _ _ => rfl)
  refine xv_C_of (by decide) (by omega) (by omega) (xv_cat1 rfl) (Nat.le_of_ble_eq_true rfl) ?_
  show xv_X sc 1 J_Check_init 0 [some (.ref h)] [] u (xv_N u + 2) (xv_S u + 530) _
  refine xv_aload_n (pc := 0) d_Check_init_0 rfl rfl ?_
  refine xv_obj (pc := 1) d_Check_init_1 k_151 k_29 k_30 (by omega) (Nat.le_of_ble_eq_true rfl) ?_
  refine xv_aload_n (pc := 4) d_Check_init_4 rfl rfl ?_
  refine xv_sipush (pc := 5) 265 d_Check_init_5 (by decide) ?_
  refine xv_newI (pc := 8) (N' := 265) d_Check_init_8 k_62 (by decide) (by decide) (by decide) (by omega) (by omega) ?_
  refine xv_putRF (pc := 10) d_Check_init_10 f_Check_9 rfl fin_7_0 rfl rfl ((xKo hh).trans k0) ?_
  refine xv_aload_n (pc := 13) d_Check_init_13 rfl rfl ?_
  refine xv_sipush (pc := 14) 265 d_Check_init_14 (by decide) ?_
  generalize hW1 : xv_sr (xv_nw u 100 265 265) h 0 (some (xv_N u)) = w1
  rw [show xv_sr (xv_nw u 100 265 265) h 0 (some (xv_N u + (0))) = w1 from hW1] at G1 r1 q1 kk1 ll1 o1
  obtain ⟨G2, r2, q2, kk2, ll2, o2⟩ := xRowN (k := 100) (n := 265) (j := 1) G1 hh (fun _ _ => rfl)
  have n1 := G1.1
  have s1 := G1.2.1
  have k1 := (xGr_k G1 hh).trans k0
  refine xv_newI (pc := 17) (N' := 265) d_Check_init_17 k_62 (by decide) (by decide) (by decide) (by omega) (by omega) ?_
  refine xv_putRF (pc := 19) d_Check_init_19 f_Check_15 rfl fin_7_1 rfl rfl ((xKo (by omega)).trans k1) ?_
  rw [show xv_N w1 = xv_N u + 1 from n1]
  generalize hW2 : xv_sr (xv_nw w1 100 265 265) h 1 (some (xv_N u + 1)) = w2
  rw [show xv_sr (xv_nw w1 100 265 265) h 1 (some (xv_N u + (0 + 1))) = w2 from hW2] at G2 r2 q2 kk2 ll2 o2
  exact xv_retvq (pc := 22) d_Check_init_22 rfl G2.1 G2.2.1 ⟨rfl, G2, (xGr_k G2 hh).trans k0, by rw [q2 0 (by decide)]; exact r1, r2, ((o2 _ (by omega)).1.trans kk1), ((o2 _ (by omega)).2.trans ll1), kk2, ll2, by omega⟩
theorem c_Comp_init {sc : Nat × (Nat → Int32)} {u : xv_M} {h : Nat} : xv_C sc 1 J_Comp_init [.ref h] u (xv_N u) (xv_S u) (xv_pv (fun w => w = u)) := by
  refine xv_C_of (by decide) (Nat.le_refl _) (Nat.le_refl _) (xv_cat1 rfl) (Nat.le_of_ble_eq_true rfl) ?_
  show xv_X sc 1 J_Comp_init 0 [some (.ref h)] [] u (xv_N u) (xv_S u) _
  refine xv_aload_n (pc := 0) d_Comp_init_0 rfl rfl ?_
  refine xv_obj (pc := 1) d_Comp_init_1 k_124 k_29 k_30 (by omega) (Nat.le_of_ble_eq_true rfl) ?_
  exact xv_retvq (pc := 4) d_Comp_init_4 rfl rfl rfl ⟨rfl, rfl⟩

