/-! constructors: FaslDeskModel -/
def xMp (u w : xv_M) (M i s : Nat) : Prop := xGr u w M i s ∧ xv_k w M = 12 ∧ ∀ j, j < i → xv_r w M j = some (M + (j + 1)) ∧ xv_k w (M + (j + 1)) = xMk j ∧ xv_l w (M + (j + 1)) = xMl j
theorem xMp_s {u w : xv_M} {M i s : Nat} (hu : xv_N u = M + 1) (H : xMp u w M i s) : xMp u (xv_sr (xv_nw w (xMk i) (xMl i) (xMl i)) M i (some (M + (i + 1)))) M (i + 1) (s + xMl i) := by
  obtain ⟨G, k, h⟩ := H
  have n := G.1
  refine ⟨xGr_sr (xGr_nw G) (Or.inl rfl), ?_, fun j hj => ?_⟩
  · show xv_k (xv_nw w (xMk i) (xMl i) (xMl i)) M = 12
    rw [xv_nw_k, if_neg (by omega)]; exact k
  · show xv_r (xv_sr (xv_nw w (xMk i) (xMl i) (xMl i)) M i (some (M + (i + 1)))) M j = _ ∧ xv_k (xv_nw w (xMk i) (xMl i) (xMl i)) _ = _ ∧ xv_l (xv_nw w (xMk i) (xMl i) (xMl i)) _ = _
    rw [xv_nw_k, xv_nw_l]
    by_cases e : j = i
    · subst e
      rw [if_pos (by omega), if_pos (by omega)]
      exact ⟨xv_sr_eq, rfl, rfl⟩
    · rw [if_neg (by omega), if_neg (by omega), xv_sr_nj e, xv_nw_r, if_neg (by omega)]
      exact h j (by omega)
theorem xMp_n {u w : xv_M} {M i s : Nat} (hu : xv_N u = M + 1) (H : xMp u w M i s) : xv_N w = M + (i + 1) := by have := H.1.1; omega
theorem xMp_b {u w : xv_M} {M i s t T : Nat} (H : xMp u w M i s) (h1 : i < 29) (h2 : s + t ≤ T) : xv_N w + 1 ≤ xv_N u + 29 ∧ xv_S w + t ≤ xv_S u + T := by have a := H.1.1; have b := H.1.2.1; exact ⟨by omega, by omega⟩
theorem mi_0 {sc : Nat × (Nat → Int32)} {u w : xv_M} {M : Nat} {P : xv_P} (hu : xv_N u = M + 1) (S : xMp u w M 0 0) (k : ∀ w', xMp u w' M 1 360 → xv_X sc 1 J_Model_init 13 [some (.ref M)] [] w' (xv_N u + 29) (xv_S u + 31354) P) : xv_X sc 1 J_Model_init 4 [some (.ref M)] [] w (xv_N u + 29) (xv_S u + 31354) P := by
  have b := xMp_b (t := 360) (T := 31354) S (by decide) (by decide)
  have hn := xMp_n hu S
  have kM : xv_k (xv_nw w 100 360 360) M = 12 := (xKo (by omega)).trans S.2.1
  have S' : xMp u (xv_sr (xv_nw w 100 360 360) M 0 (some (xv_N w))) M 1 360 := by rw [hn]; exact xMp_s hu S
  refine xv_aload_n (pc := 4) d_Model_init_4 rfl rfl ?_
  refine xv_sipush (pc := 5) 360 d_Model_init_5 (by decide) ?_
  refine xv_newI (pc := 8) (N' := 360) d_Model_init_8 k_62 (by decide) (by decide) (by decide) b.1 b.2 ?_
  refine xv_putRF (pc := 10) d_Model_init_10 f_Model_7 rfl fin_11_0 rfl rfl kM ?_
  exact k _ S'
theorem mi_1 {sc : Nat × (Nat → Int32)} {u w : xv_M} {M : Nat} {P : xv_P} (hu : xv_N u = M + 1) (S : xMp u w M 1 360) (k : ∀ w', xMp u w' M 2 720 → xv_X sc 1 J_Model_init 22 [some (.ref M)] [] w' (xv_N u + 29) (xv_S u + 31354) P) : xv_X sc 1 J_Model_init 13 [some (.ref M)] [] w (xv_N u + 29) (xv_S u + 31354) P := by
  have b := xMp_b (t := 360) (T := 31354) S (by decide) (by decide)
  have hn := xMp_n hu S
  have kM : xv_k (xv_nw w 100 360 360) M = 12 := (xKo (by omega)).trans S.2.1
  have S' : xMp u (xv_sr (xv_nw w 100 360 360) M 1 (some (xv_N w))) M 2 720 := by rw [hn]; exact xMp_s hu S
  refine xv_aload_n (pc := 13) d_Model_init_13 rfl rfl ?_
  refine xv_sipush (pc := 14) 360 d_Model_init_14 (by decide) ?_
  refine xv_newI (pc := 17) (N' := 360) d_Model_init_17 k_62 (by decide) (by decide) (by decide) b.1 b.2 ?_
  refine xv_putRF (pc := 19) d_Model_init_19 f_Model_13 rfl fin_11_1 rfl rfl kM ?_
  exact k _ S'
theorem mi_2 {sc : Nat × (Nat → Int32)} {u w : xv_M} {M : Nat} {P : xv_P} (hu : xv_N u = M + 1) (S : xMp u w M 2 720) (k : ∀ w', xMp u w' M 3 729 → xv_X sc 1 J_Model_init 30 [some (.ref M)] [] w' (xv_N u + 29) (xv_S u + 31354) P) : xv_X sc 1 J_Model_init 22 [some (.ref M)] [] w (xv_N u + 29) (xv_S u + 31354) P := by
  have b := xMp_b (t := 9) (T := 31354) S (by decide) (by decide)
  have hn := xMp_n hu S
  have kM : xv_k (xv_nw w 100 9 9) M = 12 := (xKo (by omega)).trans S.2.1
  have S' : xMp u (xv_sr (xv_nw w 100 9 9) M 2 (some (xv_N w))) M 3 729 := by rw [hn]; exact xMp_s hu S
  refine xv_aload_n (pc := 22) d_Model_init_22 rfl rfl ?_
  refine xv_bipush (pc := 23) 9 d_Model_init_23 (by decide) ?_
  refine xv_newI (pc := 25) (N' := 9) d_Model_init_25 k_62 (by decide) (by decide) (by decide) b.1 b.2 ?_
  refine xv_putRF (pc := 27) d_Model_init_27 f_Model_16 rfl fin_11_2 rfl rfl kM ?_
  exact k _ S'
theorem mi_3 {sc : Nat × (Nat → Int32)} {u w : xv_M} {M : Nat} {P : xv_P} (hu : xv_N u = M + 1) (S : xMp u w M 3 729) (k : ∀ w', xMp u w' M 4 737 → xv_X sc 1 J_Model_init 38 [some (.ref M)] [] w' (xv_N u + 29) (xv_S u + 31354) P) : xv_X sc 1 J_Model_init 30 [some (.ref M)] [] w (xv_N u + 29) (xv_S u + 31354) P := by
  have b := xMp_b (t := 8) (T := 31354) S (by decide) (by decide)
  have hn := xMp_n hu S
  have kM : xv_k (xv_nw w 100 8 8) M = 12 := (xKo (by omega)).trans S.2.1
  have S' : xMp u (xv_sr (xv_nw w 100 8 8) M 3 (some (xv_N w))) M 4 737 := by rw [hn]; exact xMp_s hu S
  refine xv_aload_n (pc := 30) d_Model_init_30 rfl rfl ?_
  refine xv_bipush (pc := 31) 8 d_Model_init_31 (by decide) ?_
  refine xv_newI (pc := 33) (N' := 8) d_Model_init_33 k_62 (by decide) (by decide) (by decide) b.1 b.2 ?_
  refine xv_putRF (pc := 35) d_Model_init_35 f_Model_19 rfl fin_11_3 rfl rfl kM ?_
  exact k _ S'
theorem mi_4 {sc : Nat × (Nat → Int32)} {u w : xv_M} {M : Nat} {P : xv_P} (hu : xv_N u = M + 1) (S : xMp u w M 4 737) (k : ∀ w', xMp u w' M 5 777 → xv_X sc 1 J_Model_init 46 [some (.ref M)] [] w' (xv_N u + 29) (xv_S u + 31354) P) : xv_X sc 1 J_Model_init 38 [some (.ref M)] [] w (xv_N u + 29) (xv_S u + 31354) P := by
  have b := xMp_b (t := 40) (T := 31354) S (by decide) (by decide)
  have hn := xMp_n hu S
  have kM : xv_k (xv_nw w 100 40 40) M = 12 := (xKo (by omega)).trans S.2.1
  have S' : xMp u (xv_sr (xv_nw w 100 40 40) M 4 (some (xv_N w))) M 5 777 := by rw [hn]; exact xMp_s hu S
  refine xv_aload_n (pc := 38) d_Model_init_38 rfl rfl ?_
  refine xv_bipush (pc := 39) 40 d_Model_init_39 (by decide) ?_
  refine xv_newI (pc := 41) (N' := 40) d_Model_init_41 k_62 (by decide) (by decide) (by decide) b.1 b.2 ?_
  refine xv_putRF (pc := 43) d_Model_init_43 f_Model_22 rfl fin_11_4 rfl rfl kM ?_
  exact k _ S'
theorem mi_5 {sc : Nat × (Nat → Int32)} {u w : xv_M} {M : Nat} {P : xv_P} (hu : xv_N u = M + 1) (S : xMp u w M 5 777) (k : ∀ w', xMp u w' M 6 817 → xv_X sc 1 J_Model_init 54 [some (.ref M)] [] w' (xv_N u + 29) (xv_S u + 31354) P) : xv_X sc 1 J_Model_init 46 [some (.ref M)] [] w (xv_N u + 29) (xv_S u + 31354) P := by
  have b := xMp_b (t := 40) (T := 31354) S (by decide) (by decide)
  have hn := xMp_n hu S
  have kM : xv_k (xv_nw w 100 40 40) M = 12 := (xKo (by omega)).trans S.2.1
  have S' : xMp u (xv_sr (xv_nw w 100 40 40) M 5 (some (xv_N w))) M 6 817 := by rw [hn]; exact xMp_s hu S
  refine xv_aload_n (pc := 46) d_Model_init_46 rfl rfl ?_
  refine xv_bipush (pc := 47) 40 d_Model_init_47 (by decide) ?_
  refine xv_newI (pc := 49) (N' := 40) d_Model_init_49 k_62 (by decide) (by decide) (by decide) b.1 b.2 ?_
  refine xv_putRF (pc := 51) d_Model_init_51 f_Model_25 rfl fin_11_5 rfl rfl kM ?_
  exact k _ S'
theorem mi_6 {sc : Nat × (Nat → Int32)} {u w : xv_M} {M : Nat} {P : xv_P} (hu : xv_N u = M + 1) (S : xMp u w M 6 817) (k : ∀ w', xMp u w' M 7 7537 → xv_X sc 1 J_Model_init 63 [some (.ref M)] [] w' (xv_N u + 29) (xv_S u + 31354) P) : xv_X sc 1 J_Model_init 54 [some (.ref M)] [] w (xv_N u + 29) (xv_S u + 31354) P := by
  have b := xMp_b (t := 6720) (T := 31354) S (by decide) (by decide)
  have hn := xMp_n hu S
  have kM : xv_k (xv_nw w 100 6720 6720) M = 12 := (xKo (by omega)).trans S.2.1
  have S' : xMp u (xv_sr (xv_nw w 100 6720 6720) M 6 (some (xv_N w))) M 7 7537 := by rw [hn]; exact xMp_s hu S
  refine xv_aload_n (pc := 54) d_Model_init_54 rfl rfl ?_
  refine xv_sipush (pc := 55) 6720 d_Model_init_55 (by decide) ?_
  refine xv_newI (pc := 58) (N' := 6720) d_Model_init_58 k_62 (by decide) (by decide) (by decide) b.1 b.2 ?_
  refine xv_putRF (pc := 60) d_Model_init_60 f_Model_28 rfl fin_11_6 rfl rfl kM ?_
  exact k _ S'
theorem mi_7 {sc : Nat × (Nat → Int32)} {u w : xv_M} {M : Nat} {P : xv_P} (hu : xv_N u = M + 1) (S : xMp u w M 7 7537) (k : ∀ w', xMp u w' M 8 14257 → xv_X sc 1 J_Model_init 72 [some (.ref M)] [] w' (xv_N u + 29) (xv_S u + 31354) P) : xv_X sc 1 J_Model_init 63 [some (.ref M)] [] w (xv_N u + 29) (xv_S u + 31354) P := by
  have b := xMp_b (t := 6720) (T := 31354) S (by decide) (by decide)
  have hn := xMp_n hu S
  have kM : xv_k (xv_nw w 100 6720 6720) M = 12 := (xKo (by omega)).trans S.2.1
  have S' : xMp u (xv_sr (xv_nw w 100 6720 6720) M 7 (some (xv_N w))) M 8 14257 := by rw [hn]; exact xMp_s hu S
  refine xv_aload_n (pc := 63) d_Model_init_63 rfl rfl ?_
  refine xv_sipush (pc := 64) 6720 d_Model_init_64 (by decide) ?_
  refine xv_newI (pc := 67) (N' := 6720) d_Model_init_67 k_62 (by decide) (by decide) (by decide) b.1 b.2 ?_
  refine xv_putRF (pc := 69) d_Model_init_69 f_Model_31 rfl fin_11_7 rfl rfl kM ?_
  exact k _ S'
theorem mi_8 {sc : Nat × (Nat → Int32)} {u w : xv_M} {M : Nat} {P : xv_P} (hu : xv_N u = M + 1) (S : xMp u w M 8 14257) (k : ∀ w', xMp u w' M 9 20977 → xv_X sc 1 J_Model_init 81 [some (.ref M)] [] w' (xv_N u + 29) (xv_S u + 31354) P) : xv_X sc 1 J_Model_init 72 [some (.ref M)] [] w (xv_N u + 29) (xv_S u + 31354) P := by
  have b := xMp_b (t := 6720) (T := 31354) S (by decide) (by decide)
  have hn := xMp_n hu S
  have kM : xv_k (xv_nw w 100 6720 6720) M = 12 := (xKo (by omega)).trans S.2.1
  have S' : xMp u (xv_sr (xv_nw w 100 6720 6720) M 8 (some (xv_N w))) M 9 20977 := by rw [hn]; exact xMp_s hu S
  refine xv_aload_n (pc := 72) d_Model_init_72 rfl rfl ?_
  refine xv_sipush (pc := 73) 6720 d_Model_init_73 (by decide) ?_
  refine xv_newI (pc := 76) (N' := 6720) d_Model_init_76 k_62 (by decide) (by decide) (by decide) b.1 b.2 ?_
  refine xv_putRF (pc := 78) d_Model_init_78 f_Model_34 rfl fin_11_8 rfl rfl kM ?_
  exact k _ S'
theorem mi_9 {sc : Nat × (Nat → Int32)} {u w : xv_M} {M : Nat} {P : xv_P} (hu : xv_N u = M + 1) (S : xMp u w M 9 20977) (k : ∀ w', xMp u w' M 10 21001 → xv_X sc 1 J_Model_init 89 [some (.ref M)] [] w' (xv_N u + 29) (xv_S u + 31354) P) : xv_X sc 1 J_Model_init 81 [some (.ref M)] [] w (xv_N u + 29) (xv_S u + 31354) P := by
  have b := xMp_b (t := 24) (T := 31354) S (by decide) (by decide)
  have hn := xMp_n hu S
  have kM : xv_k (xv_nw w 100 24 24) M = 12 := (xKo (by omega)).trans S.2.1
  have S' : xMp u (xv_sr (xv_nw w 100 24 24) M 9 (some (xv_N w))) M 10 21001 := by rw [hn]; exact xMp_s hu S
  refine xv_aload_n (pc := 81) d_Model_init_81 rfl rfl ?_
  refine xv_bipush (pc := 82) 24 d_Model_init_82 (by decide) ?_
  refine xv_newI (pc := 84) (N' := 24) d_Model_init_84 k_62 (by decide) (by decide) (by decide) b.1 b.2 ?_
  refine xv_putRF (pc := 86) d_Model_init_86 f_Model_37 rfl fin_11_9 rfl rfl kM ?_
  exact k _ S'
theorem mi_10 {sc : Nat × (Nat → Int32)} {u w : xv_M} {M : Nat} {P : xv_P} (hu : xv_N u = M + 1) (S : xMp u w M 10 21001) (k : ∀ w', xMp u w' M 11 21025 → xv_X sc 1 J_Model_init 97 [some (.ref M)] [] w' (xv_N u + 29) (xv_S u + 31354) P) : xv_X sc 1 J_Model_init 89 [some (.ref M)] [] w (xv_N u + 29) (xv_S u + 31354) P := by
  have b := xMp_b (t := 24) (T := 31354) S (by decide) (by decide)
  have hn := xMp_n hu S
  have kM : xv_k (xv_nw w 100 24 24) M = 12 := (xKo (by omega)).trans S.2.1
  have S' : xMp u (xv_sr (xv_nw w 100 24 24) M 10 (some (xv_N w))) M 11 21025 := by rw [hn]; exact xMp_s hu S
  refine xv_aload_n (pc := 89) d_Model_init_89 rfl rfl ?_
  refine xv_bipush (pc := 90) 24 d_Model_init_90 (by decide) ?_
  refine xv_newI (pc := 92) (N' := 24) d_Model_init_92 k_62 (by decide) (by decide) (by decide) b.1 b.2 ?_
  refine xv_putRF (pc := 94) d_Model_init_94 f_Model_40 rfl fin_11_10 rfl rfl kM ?_
  exact k _ S'
theorem mi_11 {sc : Nat × (Nat → Int32)} {u w : xv_M} {M : Nat} {P : xv_P} (hu : xv_N u = M + 1) (S : xMp u w M 11 21025) (k : ∀ w', xMp u w' M 12 21305 → xv_X sc 1 J_Model_init 106 [some (.ref M)] [] w' (xv_N u + 29) (xv_S u + 31354) P) : xv_X sc 1 J_Model_init 97 [some (.ref M)] [] w (xv_N u + 29) (xv_S u + 31354) P := by
  have b := xMp_b (t := 280) (T := 31354) S (by decide) (by decide)
  have hn := xMp_n hu S
  have kM : xv_k (xv_nw w 100 280 280) M = 12 := (xKo (by omega)).trans S.2.1
  have S' : xMp u (xv_sr (xv_nw w 100 280 280) M 11 (some (xv_N w))) M 12 21305 := by rw [hn]; exact xMp_s hu S
  refine xv_aload_n (pc := 97) d_Model_init_97 rfl rfl ?_
  refine xv_sipush (pc := 98) 280 d_Model_init_98 (by decide) ?_
  refine xv_newI (pc := 101) (N' := 280) d_Model_init_101 k_62 (by decide) (by decide) (by decide) b.1 b.2 ?_
  refine xv_putRF (pc := 103) d_Model_init_103 f_Model_43 rfl fin_11_11 rfl rfl kM ?_
  exact k _ S'
theorem mi_12 {sc : Nat × (Nat → Int32)} {u w : xv_M} {M : Nat} {P : xv_P} (hu : xv_N u = M + 1) (S : xMp u w M 12 21305) (k : ∀ w', xMp u w' M 13 28025 → xv_X sc 1 J_Model_init 115 [some (.ref M)] [] w' (xv_N u + 29) (xv_S u + 31354) P) : xv_X sc 1 J_Model_init 106 [some (.ref M)] [] w (xv_N u + 29) (xv_S u + 31354) P := by
  have b := xMp_b (t := 6720) (T := 31354) S (by decide) (by decide)
  have hn := xMp_n hu S
  have kM : xv_k (xv_nw w 101 6720 6720) M = 12 := (xKo (by omega)).trans S.2.1
  have S' : xMp u (xv_sr (xv_nw w 101 6720 6720) M 12 (some (xv_N w))) M 13 28025 := by rw [hn]; exact xMp_s hu S
  refine xv_aload_n (pc := 106) d_Model_init_106 rfl rfl ?_
  refine xv_sipush (pc := 107) 6720 d_Model_init_107 (by decide) ?_
  refine xv_newZ (pc := 110) (N' := 6720) d_Model_init_110 k_254 (by decide) (by decide) (by decide) b.1 b.2 ?_
  refine xv_putRF (pc := 112) d_Model_init_112 f_Model_46 rfl fin_11_12 rfl rfl kM ?_
  exact k _ S'
theorem mi_13 {sc : Nat × (Nat → Int32)} {u w : xv_M} {M : Nat} {P : xv_P} (hu : xv_N u = M + 1) (S : xMp u w M 13 28025) (k : ∀ w', xMp u w' M 14 28033 → xv_X sc 1 J_Model_init 123 [some (.ref M)] [] w' (xv_N u + 29) (xv_S u + 31354) P) : xv_X sc 1 J_Model_init 115 [some (.ref M)] [] w (xv_N u + 29) (xv_S u + 31354) P := by
  have b := xMp_b (t := 8) (T := 31354) S (by decide) (by decide)
  have hn := xMp_n hu S
  have kM : xv_k (xv_nw w 101 8 8) M = 12 := (xKo (by omega)).trans S.2.1
  have S' : xMp u (xv_sr (xv_nw w 101 8 8) M 13 (some (xv_N w))) M 14 28033 := by rw [hn]; exact xMp_s hu S
  refine xv_aload_n (pc := 115) d_Model_init_115 rfl rfl ?_
  refine xv_bipush (pc := 116) 8 d_Model_init_116 (by decide) ?_
  refine xv_newZ (pc := 118) (N' := 8) d_Model_init_118 k_254 (by decide) (by decide) (by decide) b.1 b.2 ?_
  refine xv_putRF (pc := 120) d_Model_init_120 f_Model_50 rfl fin_11_13 rfl rfl kM ?_
  exact k _ S'
theorem mi_14 {sc : Nat × (Nat → Int32)} {u w : xv_M} {M : Nat} {P : xv_P} (hu : xv_N u = M + 1) (S : xMp u w M 14 28033) (k : ∀ w', xMp u w' M 15 28041 → xv_X sc 1 J_Model_init 131 [some (.ref M)] [] w' (xv_N u + 29) (xv_S u + 31354) P) : xv_X sc 1 J_Model_init 123 [some (.ref M)] [] w (xv_N u + 29) (xv_S u + 31354) P := by
  have b := xMp_b (t := 8) (T := 31354) S (by decide) (by decide)
  have hn := xMp_n hu S
  have kM : xv_k (xv_nw w 101 8 8) M = 12 := (xKo (by omega)).trans S.2.1
  have S' : xMp u (xv_sr (xv_nw w 101 8 8) M 14 (some (xv_N w))) M 15 28041 := by rw [hn]; exact xMp_s hu S
  refine xv_aload_n (pc := 123) d_Model_init_123 rfl rfl ?_
  refine xv_bipush (pc := 124) 8 d_Model_init_124 (by decide) ?_
  refine xv_newZ (pc := 126) (N' := 8) d_Model_init_126 k_254 (by decide) (by decide) (by decide) b.1 b.2 ?_
  refine xv_putRF (pc := 128) d_Model_init_128 f_Model_53 rfl fin_11_14 rfl rfl kM ?_
  exact k _ S'
theorem mi_15 {sc : Nat × (Nat → Int32)} {u w : xv_M} {M : Nat} {P : xv_P} (hu : xv_N u = M + 1) (S : xMp u w M 15 28041) (k : ∀ w', xMp u w' M 16 28049 → xv_X sc 1 J_Model_init 139 [some (.ref M)] [] w' (xv_N u + 29) (xv_S u + 31354) P) : xv_X sc 1 J_Model_init 131 [some (.ref M)] [] w (xv_N u + 29) (xv_S u + 31354) P := by
  have b := xMp_b (t := 8) (T := 31354) S (by decide) (by decide)
  have hn := xMp_n hu S
  have kM : xv_k (xv_nw w 101 8 8) M = 12 := (xKo (by omega)).trans S.2.1
  have S' : xMp u (xv_sr (xv_nw w 101 8 8) M 15 (some (xv_N w))) M 16 28049 := by rw [hn]; exact xMp_s hu S
  refine xv_aload_n (pc := 131) d_Model_init_131 rfl rfl ?_
  refine xv_bipush (pc := 132) 8 d_Model_init_132 (by decide) ?_
  refine xv_newZ (pc := 134) (N' := 8) d_Model_init_134 k_254 (by decide) (by decide) (by decide) b.1 b.2 ?_
  refine xv_putRF (pc := 136) d_Model_init_136 f_Model_56 rfl fin_11_15 rfl rfl kM ?_
  exact k _ S'
theorem mi_16 {sc : Nat × (Nat → Int32)} {u w : xv_M} {M : Nat} {P : xv_P} (hu : xv_N u = M + 1) (S : xMp u w M 16 28049) (k : ∀ w', xMp u w' M 17 28057 → xv_X sc 1 J_Model_init 147 [some (.ref M)] [] w' (xv_N u + 29) (xv_S u + 31354) P) : xv_X sc 1 J_Model_init 139 [some (.ref M)] [] w (xv_N u + 29) (xv_S u + 31354) P := by
  have b := xMp_b (t := 8) (T := 31354) S (by decide) (by decide)
  have hn := xMp_n hu S
  have kM : xv_k (xv_nw w 100 8 8) M = 12 := (xKo (by omega)).trans S.2.1
  have S' : xMp u (xv_sr (xv_nw w 100 8 8) M 16 (some (xv_N w))) M 17 28057 := by rw [hn]; exact xMp_s hu S
  refine xv_aload_n (pc := 139) d_Model_init_139 rfl rfl ?_
  refine xv_bipush (pc := 140) 8 d_Model_init_140 (by decide) ?_
  refine xv_newI (pc := 142) (N' := 8) d_Model_init_142 k_62 (by decide) (by decide) (by decide) b.1 b.2 ?_
  refine xv_putRF (pc := 144) d_Model_init_144 f_Model_59 rfl fin_11_16 rfl rfl kM ?_
  exact k _ S'
theorem mi_17 {sc : Nat × (Nat → Int32)} {u w : xv_M} {M : Nat} {P : xv_P} (hu : xv_N u = M + 1) (S : xMp u w M 17 28057) (k : ∀ w', xMp u w' M 18 28065 → xv_X sc 1 J_Model_init 155 [some (.ref M)] [] w' (xv_N u + 29) (xv_S u + 31354) P) : xv_X sc 1 J_Model_init 147 [some (.ref M)] [] w (xv_N u + 29) (xv_S u + 31354) P := by
  have b := xMp_b (t := 8) (T := 31354) S (by decide) (by decide)
  have hn := xMp_n hu S
  have kM : xv_k (xv_nw w 100 8 8) M = 12 := (xKo (by omega)).trans S.2.1
  have S' : xMp u (xv_sr (xv_nw w 100 8 8) M 17 (some (xv_N w))) M 18 28065 := by rw [hn]; exact xMp_s hu S
  refine xv_aload_n (pc := 147) d_Model_init_147 rfl rfl ?_
  refine xv_bipush (pc := 148) 8 d_Model_init_148 (by decide) ?_
  refine xv_newI (pc := 150) (N' := 8) d_Model_init_150 k_62 (by decide) (by decide) (by decide) b.1 b.2 ?_
  refine xv_putRF (pc := 152) d_Model_init_152 f_Model_62 rfl fin_11_17 rfl rfl kM ?_
  exact k _ S'
theorem mi_18 {sc : Nat × (Nat → Int32)} {u w : xv_M} {M : Nat} {P : xv_P} (hu : xv_N u = M + 1) (S : xMp u w M 18 28065) (k : ∀ w', xMp u w' M 19 28073 → xv_X sc 1 J_Model_init 163 [some (.ref M)] [] w' (xv_N u + 29) (xv_S u + 31354) P) : xv_X sc 1 J_Model_init 155 [some (.ref M)] [] w (xv_N u + 29) (xv_S u + 31354) P := by
  have b := xMp_b (t := 8) (T := 31354) S (by decide) (by decide)
  have hn := xMp_n hu S
  have kM : xv_k (xv_nw w 100 8 8) M = 12 := (xKo (by omega)).trans S.2.1
  have S' : xMp u (xv_sr (xv_nw w 100 8 8) M 18 (some (xv_N w))) M 19 28073 := by rw [hn]; exact xMp_s hu S
  refine xv_aload_n (pc := 155) d_Model_init_155 rfl rfl ?_
  refine xv_bipush (pc := 156) 8 d_Model_init_156 (by decide) ?_
  refine xv_newI (pc := 158) (N' := 8) d_Model_init_158 k_62 (by decide) (by decide) (by decide) b.1 b.2 ?_
  refine xv_putRF (pc := 160) d_Model_init_160 f_Model_65 rfl fin_11_18 rfl rfl kM ?_
  exact k _ S'
theorem mi_19 {sc : Nat × (Nat → Int32)} {u w : xv_M} {M : Nat} {P : xv_P} (hu : xv_N u = M + 1) (S : xMp u w M 19 28073) (k : ∀ w', xMp u w' M 20 28081 → xv_X sc 1 J_Model_init 171 [some (.ref M)] [] w' (xv_N u + 29) (xv_S u + 31354) P) : xv_X sc 1 J_Model_init 163 [some (.ref M)] [] w (xv_N u + 29) (xv_S u + 31354) P := by
  have b := xMp_b (t := 8) (T := 31354) S (by decide) (by decide)
  have hn := xMp_n hu S
  have kM : xv_k (xv_nw w 100 8 8) M = 12 := (xKo (by omega)).trans S.2.1
  have S' : xMp u (xv_sr (xv_nw w 100 8 8) M 19 (some (xv_N w))) M 20 28081 := by rw [hn]; exact xMp_s hu S
  refine xv_aload_n (pc := 163) d_Model_init_163 rfl rfl ?_
  refine xv_bipush (pc := 164) 8 d_Model_init_164 (by decide) ?_
  refine xv_newI (pc := 166) (N' := 8) d_Model_init_166 k_62 (by decide) (by decide) (by decide) b.1 b.2 ?_
  refine xv_putRF (pc := 168) d_Model_init_168 f_Model_68 rfl fin_11_19 rfl rfl kM ?_
  exact k _ S'
theorem mi_20 {sc : Nat × (Nat → Int32)} {u w : xv_M} {M : Nat} {P : xv_P} (hu : xv_N u = M + 1) (S : xMp u w M 20 28081) (k : ∀ w', xMp u w' M 21 30321 → xv_X sc 1 J_Model_init 180 [some (.ref M)] [] w' (xv_N u + 29) (xv_S u + 31354) P) : xv_X sc 1 J_Model_init 171 [some (.ref M)] [] w (xv_N u + 29) (xv_S u + 31354) P := by
  have b := xMp_b (t := 2240) (T := 31354) S (by decide) (by decide)
  have hn := xMp_n hu S
  have kM : xv_k (xv_nw w 100 2240 2240) M = 12 := (xKo (by omega)).trans S.2.1
  have S' : xMp u (xv_sr (xv_nw w 100 2240 2240) M 20 (some (xv_N w))) M 21 30321 := by rw [hn]; exact xMp_s hu S
  refine xv_aload_n (pc := 171) d_Model_init_171 rfl rfl ?_
  refine xv_sipush (pc := 172) 2240 d_Model_init_172 (by decide) ?_
  refine xv_newI (pc := 175) (N' := 2240) d_Model_init_175 k_62 (by decide) (by decide) (by decide) b.1 b.2 ?_
  refine xv_putRF (pc := 177) d_Model_init_177 f_Model_71 rfl fin_11_20 rfl rfl kM ?_
  exact k _ S'
theorem mi_21 {sc : Nat × (Nat → Int32)} {u w : xv_M} {M : Nat} {P : xv_P} (hu : xv_N u = M + 1) (S : xMp u w M 21 30321) (k : ∀ w', xMp u w' M 22 30329 → xv_X sc 1 J_Model_init 188 [some (.ref M)] [] w' (xv_N u + 29) (xv_S u + 31354) P) : xv_X sc 1 J_Model_init 180 [some (.ref M)] [] w (xv_N u + 29) (xv_S u + 31354) P := by
  have b := xMp_b (t := 8) (T := 31354) S (by decide) (by decide)
  have hn := xMp_n hu S
  have kM : xv_k (xv_nw w 100 8 8) M = 12 := (xKo (by omega)).trans S.2.1
  have S' : xMp u (xv_sr (xv_nw w 100 8 8) M 21 (some (xv_N w))) M 22 30329 := by rw [hn]; exact xMp_s hu S
  refine xv_aload_n (pc := 180) d_Model_init_180 rfl rfl ?_
  refine xv_bipush (pc := 181) 8 d_Model_init_181 (by decide) ?_
  refine xv_newI (pc := 183) (N' := 8) d_Model_init_183 k_62 (by decide) (by decide) (by decide) b.1 b.2 ?_
  refine xv_putRF (pc := 185) d_Model_init_185 f_Model_74 rfl fin_11_21 rfl rfl kM ?_
  exact k _ S'
theorem mi_22 {sc : Nat × (Nat → Int32)} {u w : xv_M} {M : Nat} {P : xv_P} (hu : xv_N u = M + 1) (S : xMp u w M 22 30329) (k : ∀ w', xMp u w' M 23 31129 → xv_X sc 1 J_Model_init 197 [some (.ref M)] [] w' (xv_N u + 29) (xv_S u + 31354) P) : xv_X sc 1 J_Model_init 188 [some (.ref M)] [] w (xv_N u + 29) (xv_S u + 31354) P := by
  have b := xMp_b (t := 800) (T := 31354) S (by decide) (by decide)
  have hn := xMp_n hu S
  have kM : xv_k (xv_nw w 100 800 800) M = 12 := (xKo (by omega)).trans S.2.1
  have S' : xMp u (xv_sr (xv_nw w 100 800 800) M 22 (some (xv_N w))) M 23 31129 := by rw [hn]; exact xMp_s hu S
  refine xv_aload_n (pc := 188) d_Model_init_188 rfl rfl ?_
  refine xv_sipush (pc := 189) 800 d_Model_init_189 (by decide) ?_
  refine xv_newI (pc := 192) (N' := 800) d_Model_init_192 k_62 (by decide) (by decide) (by decide) b.1 b.2 ?_
  refine xv_putRF (pc := 194) d_Model_init_194 f_Model_77 rfl fin_11_22 rfl rfl kM ?_
  exact k _ S'
theorem mi_23 {sc : Nat × (Nat → Int32)} {u w : xv_M} {M : Nat} {P : xv_P} (hu : xv_N u = M + 1) (S : xMp u w M 23 31129) (k : ∀ w', xMp u w' M 24 31192 → xv_X sc 1 J_Model_init 205 [some (.ref M)] [] w' (xv_N u + 29) (xv_S u + 31354) P) : xv_X sc 1 J_Model_init 197 [some (.ref M)] [] w (xv_N u + 29) (xv_S u + 31354) P := by
  have b := xMp_b (t := 63) (T := 31354) S (by decide) (by decide)
  have hn := xMp_n hu S
  have kM : xv_k (xv_nw w 100 63 63) M = 12 := (xKo (by omega)).trans S.2.1
  have S' : xMp u (xv_sr (xv_nw w 100 63 63) M 23 (some (xv_N w))) M 24 31192 := by rw [hn]; exact xMp_s hu S
  refine xv_aload_n (pc := 197) d_Model_init_197 rfl rfl ?_
  refine xv_bipush (pc := 198) 63 d_Model_init_198 (by decide) ?_
  refine xv_newI (pc := 200) (N' := 63) d_Model_init_200 k_62 (by decide) (by decide) (by decide) b.1 b.2 ?_
  refine xv_putRF (pc := 202) d_Model_init_202 f_Model_80 rfl fin_11_23 rfl rfl kM ?_
  exact k _ S'
theorem mi_24 {sc : Nat × (Nat → Int32)} {u w : xv_M} {M : Nat} {P : xv_P} (hu : xv_N u = M + 1) (S : xMp u w M 24 31192) (k : ∀ w', xMp u w' M 25 31201 → xv_X sc 1 J_Model_init 213 [some (.ref M)] [] w' (xv_N u + 29) (xv_S u + 31354) P) : xv_X sc 1 J_Model_init 205 [some (.ref M)] [] w (xv_N u + 29) (xv_S u + 31354) P := by
  have b := xMp_b (t := 9) (T := 31354) S (by decide) (by decide)
  have hn := xMp_n hu S
  have kM : xv_k (xv_nw w 100 9 9) M = 12 := (xKo (by omega)).trans S.2.1
  have S' : xMp u (xv_sr (xv_nw w 100 9 9) M 24 (some (xv_N w))) M 25 31201 := by rw [hn]; exact xMp_s hu S
  refine xv_aload_n (pc := 205) d_Model_init_205 rfl rfl ?_
  refine xv_bipush (pc := 206) 9 d_Model_init_206 (by decide) ?_
  refine xv_newI (pc := 208) (N' := 9) d_Model_init_208 k_62 (by decide) (by decide) (by decide) b.1 b.2 ?_
  refine xv_putRF (pc := 210) d_Model_init_210 f_Model_83 rfl fin_11_24 rfl rfl kM ?_
  exact k _ S'
theorem mi_25 {sc : Nat × (Nat → Int32)} {u w : xv_M} {M : Nat} {P : xv_P} (hu : xv_N u = M + 1) (S : xMp u w M 25 31201) (k : ∀ w', xMp u w' M 26 31210 → xv_X sc 1 J_Model_init 221 [some (.ref M)] [] w' (xv_N u + 29) (xv_S u + 31354) P) : xv_X sc 1 J_Model_init 213 [some (.ref M)] [] w (xv_N u + 29) (xv_S u + 31354) P := by
  have b := xMp_b (t := 9) (T := 31354) S (by decide) (by decide)
  have hn := xMp_n hu S
  have kM : xv_k (xv_nw w 100 9 9) M = 12 := (xKo (by omega)).trans S.2.1
  have S' : xMp u (xv_sr (xv_nw w 100 9 9) M 25 (some (xv_N w))) M 26 31210 := by rw [hn]; exact xMp_s hu S
  refine xv_aload_n (pc := 213) d_Model_init_213 rfl rfl ?_
  refine xv_bipush (pc := 214) 9 d_Model_init_214 (by decide) ?_
  refine xv_newI (pc := 216) (N' := 9) d_Model_init_216 k_62 (by decide) (by decide) (by decide) b.1 b.2 ?_
  refine xv_putRF (pc := 218) d_Model_init_218 f_Model_86 rfl fin_11_25 rfl rfl kM ?_
  exact k _ S'
theorem mi_26 {sc : Nat × (Nat → Int32)} {u w : xv_M} {M : Nat} {P : xv_P} (hu : xv_N u = M + 1) (S : xMp u w M 26 31210) (k : ∀ w', xMp u w' M 27 31258 → xv_X sc 1 J_Model_init 229 [some (.ref M)] [] w' (xv_N u + 29) (xv_S u + 31354) P) : xv_X sc 1 J_Model_init 221 [some (.ref M)] [] w (xv_N u + 29) (xv_S u + 31354) P := by
  have b := xMp_b (t := 48) (T := 31354) S (by decide) (by decide)
  have hn := xMp_n hu S
  have kM : xv_k (xv_nw w 100 48 48) M = 12 := (xKo (by omega)).trans S.2.1
  have S' : xMp u (xv_sr (xv_nw w 100 48 48) M 26 (some (xv_N w))) M 27 31258 := by rw [hn]; exact xMp_s hu S
  refine xv_aload_n (pc := 221) d_Model_init_221 rfl rfl ?_
  refine xv_bipush (pc := 222) 48 d_Model_init_222 (by decide) ?_
  refine xv_newI (pc := 224) (N' := 48) d_Model_init_224 k_62 (by decide) (by decide) (by decide) b.1 b.2 ?_
  refine xv_putRF (pc := 226) d_Model_init_226 f_Model_89 rfl fin_11_26 rfl rfl kM ?_
  exact k _ S'
theorem mi_27 {sc : Nat × (Nat → Int32)} {u w : xv_M} {M : Nat} {P : xv_P} (hu : xv_N u = M + 1) (S : xMp u w M 27 31258) (k : ∀ w', xMp u w' M 28 31306 → xv_X sc 1 J_Model_init 237 [some (.ref M)] [] w' (xv_N u + 29) (xv_S u + 31354) P) : xv_X sc 1 J_Model_init 229 [some (.ref M)] [] w (xv_N u + 29) (xv_S u + 31354) P := by
  have b := xMp_b (t := 48) (T := 31354) S (by decide) (by decide)
  have hn := xMp_n hu S
  have kM : xv_k (xv_nw w 100 48 48) M = 12 := (xKo (by omega)).trans S.2.1
  have S' : xMp u (xv_sr (xv_nw w 100 48 48) M 27 (some (xv_N w))) M 28 31306 := by rw [hn]; exact xMp_s hu S
  refine xv_aload_n (pc := 229) d_Model_init_229 rfl rfl ?_
  refine xv_bipush (pc := 230) 48 d_Model_init_230 (by decide) ?_
  refine xv_newI (pc := 232) (N' := 48) d_Model_init_232 k_62 (by decide) (by decide) (by decide) b.1 b.2 ?_
  refine xv_putRF (pc := 234) d_Model_init_234 f_Model_92 rfl fin_11_27 rfl rfl kM ?_
  exact k _ S'
theorem mi_28 {sc : Nat × (Nat → Int32)} {u w : xv_M} {M : Nat} {P : xv_P} (hu : xv_N u = M + 1) (S : xMp u w M 28 31306) (k : ∀ w', xMp u w' M 29 31354 → xv_X sc 1 J_Model_init 245 [some (.ref M)] [] w' (xv_N u + 29) (xv_S u + 31354) P) : xv_X sc 1 J_Model_init 237 [some (.ref M)] [] w (xv_N u + 29) (xv_S u + 31354) P := by
  have b := xMp_b (t := 48) (T := 31354) S (by decide) (by decide)
  have hn := xMp_n hu S
  have kM : xv_k (xv_nw w 100 48 48) M = 12 := (xKo (by omega)).trans S.2.1
  have S' : xMp u (xv_sr (xv_nw w 100 48 48) M 28 (some (xv_N w))) M 29 31354 := by rw [hn]; exact xMp_s hu S
  refine xv_aload_n (pc := 237) d_Model_init_237 rfl rfl ?_
  refine xv_bipush (pc := 238) 48 d_Model_init_238 (by decide) ?_
  refine xv_newI (pc := 240) (N' := 48) d_Model_init_240 k_62 (by decide) (by decide) (by decide) b.1 b.2 ?_
  refine xv_putRF (pc := 242) d_Model_init_242 f_Model_95 rfl fin_11_28 rfl rfl kM ?_
  exact k _ S'
theorem c_Model_init {sc : Nat × (Nat → Int32)} {u : xv_M} {M : Nat} (k0 : xv_k u M = 12) (hu : xv_N u = M + 1) : xv_C sc 1 J_Model_init [.ref M] u (xv_N u + 29) (xv_S u + 31354) (xv_pv (fun w => ∃ w0, xGr u w0 M 29 31354 ∧ xMo w0 M ∧ w = xv_si w0 M 34 (-1))) := by
  have S0 : xMp u u M 0 0 := ⟨xGr_rf, k0, fun j hj => absurd hj (Nat.not_lt_zero j)⟩
  refine xv_C_of (by decide) (by omega) (by omega) (xv_cat1 rfl) (Nat.le_of_ble_eq_true rfl) ?_
  show xv_X sc 1 J_Model_init 0 [some (.ref M)] [] u (xv_N u + 29) (xv_S u + 31354) _
  refine xv_aload_n (pc := 0) d_Model_init_0 rfl rfl ?_
  refine xv_obj (pc := 1) d_Model_init_1 k_813 k_29 k_30 (by omega) (Nat.le_of_ble_eq_true rfl) ?_
  refine mi_0 hu S0 (fun v1 S1 => ?_)
  refine mi_1 hu S1 (fun v2 S2 => ?_)
  clear S1
  refine mi_2 hu S2 (fun v3 S3 => ?_)
  clear S2
  refine mi_3 hu S3 (fun v4 S4 => ?_)
  clear S3
  refine mi_4 hu S4 (fun v5 S5 => ?_)
  clear S4
  refine mi_5 hu S5 (fun v6 S6 => ?_)
  clear S5
  refine mi_6 hu S6 (fun v7 S7 => ?_)
  clear S6
  refine mi_7 hu S7 (fun v8 S8 => ?_)
  clear S7
  refine mi_8 hu S8 (fun v9 S9 => ?_)
  clear S8
  refine mi_9 hu S9 (fun v10 S10 => ?_)
  clear S9
  refine mi_10 hu S10 (fun v11 S11 => ?_)
  clear S10
  refine mi_11 hu S11 (fun v12 S12 => ?_)
  clear S11
  refine mi_12 hu S12 (fun v13 S13 => ?_)
  clear S12
  refine mi_13 hu S13 (fun v14 S14 => ?_)
  clear S13
  refine mi_14 hu S14 (fun v15 S15 => ?_)
  clear S14
  refine mi_15 hu S15 (fun v16 S16 => ?_)
  clear S15
  refine mi_16 hu S16 (fun v17 S17 => ?_)
  clear S16
  refine mi_17 hu S17 (fun v18 S18 => ?_)
  clear S17
  refine mi_18 hu S18 (fun v19 S19 => ?_)
  clear S18
  refine mi_19 hu S19 (fun v20 S20 => ?_)
  clear S19
  refine mi_20 hu S20 (fun v21 S21 => ?_)
  clear S20
  refine mi_21 hu S21 (fun v22 S22 => ?_)
  clear S21
  refine mi_22 hu S22 (fun v23 S23 => ?_)
  clear S22
  refine mi_23 hu S23 (fun v24 S24 => ?_)
  clear S23
  refine mi_24 hu S24 (fun v25 S25 => ?_)
  clear S24
  refine mi_25 hu S25 (fun v26 S26 => ?_)
  clear S25
  refine mi_26 hu S26 (fun v27 S27 => ?_)
  clear S26
  refine mi_27 hu S27 (fun v28 S28 => ?_)
  clear S27
  refine mi_28 hu S28 (fun v29 S29 => ?_)
  clear S28
  refine xv_aload_n (pc := 245) d_Model_init_245 rfl rfl ?_
  refine xv_iconst (pc := 246) (-1) d_Model_init_246 (by decide) ?_
  refine xv_putI (pc := 247) d_Model_init_247 f_Model_98 (Or.inl rfl) fin_11_34 S29.2.1 ?_
  exact xv_retvq (pc := 250) d_Model_init_250 rfl (by show xv_N v29 = _; exact S29.1.1) (by show xv_S v29 = _; exact S29.1.2.1) ⟨rfl, v29, S29.1, ⟨S29.2.1, S29.2.2⟩, rfl⟩

