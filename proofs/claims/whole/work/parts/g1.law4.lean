/-! the law: from its entry to the loop -/
theorem xDL_z {T : Nat → Prop} {u w : xv_M} {h N : Nat} (z : zS T u w) (th : T h) (tb : ∀ b, N ≤ b → b < N + 209 → T b) (H : xDL u h N) : xDL w h N := by
  obtain ⟨d1, d2, d3, d4, ⟨d5, d6, d7⟩, d8⟩ := H
  refine ⟨?_, xFo_z z (tb _ (by omega) (by omega)) (tb _ (by omega) (by omega)) (tb _ (by omega) (by omega)) (tb _ (by omega) (by omega)) d2, xIn_z z (tb _ (by omega) (by omega)) (tb _ (by omega) (by omega)) (tb _ (by omega) (by omega)) (tb _ (by omega) (by omega)) (fun b h1 h2 => tb _ (by omega) (by omega)) d3, (z _ (tb _ (by omega) (by omega))).1.trans d4, ⟨?_, xCk_z z (tb _ (by omega) (by omega)) (tb _ (by omega) (by omega)) (tb _ (by omega) (by omega)) d6, fun e he => ⟨((z _ (tb _ (by omega) (by omega))).2.2 e).trans (d7 e he).1, xEn_z z (fun b h1 h2 => tb _ (by omega) (by omega)) (d7 e he).2⟩⟩, xIm_z z (tb _ (by omega) (by omega)) (tb _ (by omega) (by omega)) (tb _ (by omega) (by omega)) (fun b h1 h2 => tb _ (by omega) (by omega)) d8⟩
  · obtain ⟨e1, e2, e3, e4, e5, e6⟩ := d1
    have zh := z h th
    exact ⟨zh.1.trans e1, (zh.2.2 0).trans e2, (zh.2.2 1).trans e3, (zh.2.2 2).trans e4, (zh.2.2 3).trans e5, (zh.2.2 4).trans e6⟩
  · obtain ⟨e1, e2, e3, e4, e5⟩ := d5
    have za := z (N + 89) (tb _ (by omega) (by omega))
    have ze := z (N + 90) (tb _ (by omega) (by omega))
    exact ⟨za.1.trans e1, (za.2.2 0).trans e2, (za.2.2 5).trans e3, ze.1.trans e4, ze.2.1.trans e5⟩
def xv_0 : xv_M := xv_mk 0 0 (fun _ => 0) (fun _ => 0) (fun _ _ => 0) (fun _ _ => none) (fun _ _ => 0)
theorem lw_start_open {sc : Nat × (Nat → Int32)} {d : Nat} {n1 s1 : Nat} {P : xv_P} {j4 j5 j6 : Option Value} (hd : 100 ≤ d) (hn : 241 ≤ n1) (hs : 52442 ≤ s1) (k : ∀ u, yTi u 0 1 210 → xv_N u = 241 → xv_S u = 52442 → xv_X sc d J_Law_law 23 [some (.retAddr 9), some (.ref 0), some (.ref 210), some (.ref 240), some (.int (nI 0)), j5, j6] [] u n1 s1 P) {j1 j2 j3 : Option Value} : xv_X sc d J_Law_law 0 [some (.retAddr 9), j1, j2, j3, j4, j5, j6] [] xv_0 n1 s1 P := by
  have N0 : xv_N xv_0 = 0 := rfl
  have S0 : xv_S xv_0 = 0 := rfl
  refine xv_newO (pc := 0) (ci := 10) d_Law_law_0 (by decide) k_23 k_24 k_1 (by omega) (by omega) ?_
  refine xv_dup_ref (pc := 3) d_Law_law_3 ?_
  rw [N0]
  have k1 : xv_k (xv_nw xv_0 11 0 8) 0 = 11 := rfl
  refine xv_cI0v (pc := 4) (d1 := 4) (c_Desk_init k1 (by show 0 < 0 + 1; omega)) m_Desk_init l_Law_22 d_Law_law_4 (by omega) (Nat.le_of_ble_eq_true rfl) ⟨by show 0 + 1 + 209 ≤ n1; omega, by show 0 + 8 + 21042 ≤ s1; omega⟩ (fun w hw hN hS => ?_)
  obtain ⟨w0, G1, D1, ew⟩ := hw
  have hN : xv_N w = 210 := hN
  have hS : xv_S w = 21050 := hS
  have D1 : xDL w0 0 1 := D1
  refine xv_astore_1 (pc := 7) d_Law_law_7 (by decide) rfl ?_
  refine xv_newO (pc := 8) (ci := 11) d_Law_law_8 (by decide) k_808 k_809 k_12 (by omega) (by omega) ?_
  refine xv_dup_ref (pc := 11) d_Law_law_11 ?_
  rw [hN]
  have k2 : xv_k (xv_nw w 12 0 37) 210 = 12 := by show (if 210 = xv_N w then 12 else _) = 12; rw [if_pos hN.symm]
  refine xv_cI0v (pc := 12) (d1 := 1) (c_Model_init k2 (by show xv_N w + 1 = 210 + 1; omega)) m_Model_init l_Law_25 d_Law_law_12 (by omega) (Nat.le_of_ble_eq_true rfl) ⟨by show xv_N w + 1 + 29 ≤ n1; omega, by show xv_S w + 37 + 31354 ≤ s1; omega⟩ (fun v hv hN2 hS2 => ?_)
  obtain ⟨v0, G2, M2, ev⟩ := hv
  have hN2 : xv_N v = xv_N w + 1 + 29 := hN2
  have hS2 : xv_S v = xv_S w + 37 + 31354 := hS2
  have hv240 : xv_N v = 240 := by omega
  refine xv_astore_2 (pc := 15) d_Law_law_15 (by decide) rfl ?_
  refine xv_iconst (pc := 16) 1 d_Law_law_16 (by decide) ?_
  refine xv_newL (pc := 17) (N' := 1) d_Law_law_17 k_1066 (by decide) (by decide) (by decide) (by omega) (by omega) ?_
  refine xv_astore_3 (pc := 19) d_Law_law_19 (by decide) rfl ?_
  refine xv_iconst (pc := 20) 0 d_Law_law_20 (by decide) ?_
  refine xv_istore_4 (pc := 21) d_Law_law_21 (by decide) rfl ?_
  rw [hv240]
  refine k (xv_nw v 102 1 1) ?_ (by show xv_N v + 1 = _; omega) (by show xv_S v + 1 = _; omega)
  -- what has become of the cells
  obtain ⟨g1, g2, g3, g4⟩ := G1
  obtain ⟨q1, q2, q3, q4⟩ := G2
  have w0N : xv_N w0 = 210 := by rw [ew] at hN; exact hN
  have v0N : xv_N v0 = 240 := by rw [ev] at hv240; exact hv240
  have nwN : xv_N (xv_nw w 12 0 37) = 211 := by show xv_N w + 1 = 211; omega
  have z1 : zS (fun b => b < 210) w0 w := by rw [ew]; exact zS_1
  have z2 : zS (fun b => b < 210) w (xv_nw w 12 0 37) := zS_nw (by omega)
  have z3 : zS (fun b => b < 210) (xv_nw w 12 0 37) v0 := fun b (hb : b < 210) => by
    obtain ⟨c1, c2, -, -, c5⟩ := q3 b (by omega)
    exact ⟨c1, c2, c5 (by omega)⟩
  have z4 : zS (fun b => b < 240) v0 v := by rw [ev]; exact zS_1
  have z5 : zS (fun b => b < 240) v (xv_nw v 102 1 1) := zS_nw (by omega)
  have zA : zS (fun b => b < 210) w0 (xv_nw v 102 1 1) := zS_tr z1 (zS_tr z2 (zS_tr z3 (fun b (hb : b < 210) => ⟨(z5 b (by show b < 240; omega)).1.trans (z4 b (by show b < 240; omega)).1, (z5 b (by show b < 240; omega)).2.1.trans (z4 b (by show b < 240; omega)).2.1, fun q => ((z5 b (by show b < 240; omega)).2.2 q).trans ((z4 b (by show b < 240; omega)).2.2 q)⟩)))
  have DL : xDL (xv_nw v 102 1 1) 0 1 := xDL_z zA (by show 0 < 210; omega) (fun b h1 h2 => by show b < 210; omega) D1
  have MO : xMo (xv_nw v 102 1 1) 210 := xMo_z (zS_tr z4 z5) (fun b h1 h2 => by show b < 240; omega) M2
  have o1 : xv_k (xv_nw v 102 1 1) (210 + 30) = 102 ∧ xv_l (xv_nw v 102 1 1) (210 + 30) = 1 := ⟨if_pos hv240.symm, if_pos hv240.symm⟩
  refine yTi_0 (yCl_0 DL MO o1 (by show 210 + 31 ≤ xv_N v + 1; omega) (by omega) (by omega)) (fun b q hb h1 h2 => ?_) ?_ ?_
  · show (if b = xv_N v then 0 else xv_i v b q) = 0
    by_cases c : b = xv_N v
    · rw [if_pos c]
    · rw [if_neg c, ev, xv_si_if2, if_neg (by omega)]
      by_cases c2 : b < 211
      · rw [(q3 b (by omega)).2.2.1 q]
        show (if b = xv_N w then 0 else xv_i w b q) = 0
        by_cases c3 : b = xv_N w
        · rw [if_pos c3]
        · rw [if_neg c3, ew, xv_si_if2, if_neg (by omega)]
          by_cases c4 : b < 1
          · rw [(g3 b c4).2.2.1 q]
            show (if b = 0 then 0 else _) = _
            rw [if_pos (by omega)]
          · exact g4 b (by show 0 + 1 ≤ b; omega) (by show b < 0 + 1 + 209; omega) q
      · exact q4 b (by omega) (by omega) q
  · show (if 0 = xv_N v then 0 else xv_i v 0 7) = -1
    rw [if_neg (by omega), ev, xv_si_ne (by omega), (q3 0 (by omega)).2.2.1 7]
    show (if 0 = xv_N w then 0 else xv_i w 0 7) = -1
    rw [if_neg (by omega), ew, xv_si_eq]
  · show (if 210 = xv_N v then 0 else xv_i v 210 34) = -1
    rw [if_neg (by omega), ev, xv_si_eq]

