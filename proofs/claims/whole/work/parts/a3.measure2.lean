/-! the model: measure -/
theorem nI_subN {a b : Nat} (h : b ≤ a) : nI a - nI b = nI (a - b) := by
  have e : nI a = nI (a - b) + nI b := by rw [nI_add, show a - b + b = a by omega]
  rw [e]
  exact Int32.add_sub_cancel _ _
theorem xNegT : ∀ h, h < 4 → ∀ t, t < 4 → h < t → ¬ (0 : Int32) ≤ nI h - nI t := by decide
theorem xTa_3 : ∀ o, o < 22 → xTa o ≤ 3 ∧ xLe o ≤ 2 := by decide +kernel
/-- the row's units -/
def xRu (u : xv_M) (M r n : Nat) (O : Nat → Nat) (F S : Nat → Int32) : Prop := xv_i u (M + 10) r = nI n ∧ 0 < n ∧ n ≤ 265 ∧ ∀ i, i < n → xv_i u (M + 7) (280 * r + i) = nI (O i) ∧ xv_i u (M + 8) (280 * r + i) = F i ∧ xv_i u (M + 9) (280 * r + i) = S i
def xM12 (M b : Nat) : Prop := b = M + 12
/-- how the memory stands -/
def xJw (u w : xv_M) (M n : Nat) (st h : Nat → Nat) : Prop := xSi (xM12 M) u w ∧ ∀ k, k < n → xv_i w (M + 12) k = xWv st h k
/-- reach, whichever unit it is -/
theorem c_reach {sc : Nat × (Nat → Int32)} {u : xv_M} {M r n : Nat} {O : Nat → Nat} {F S : Nat → Int32} {β : Nat → Nat} (hM : xMo u M) (hr : r < 24) (hU : xRu u M r n O F S) (H : xHB n O F S β) {w : xv_M} {st h : Nat → Nat} {g k k' : Nat} {X : Nat → Nat → Prop} (J : xJp n O F S β st h g X) (W : xJw u w M n st h) (hk : k < n) (h2 : st k = 2) (hs : xSu O F S k k') (hk1 : k' < 1000) : xv_C sc 0 J_Model_reach [.ref M, .int (nI k'), .int (nI n), .int (nI (xTpu O k (h k)))] w (xv_N w) (xv_S w) (xv_pi (fun z w' => (z = 0 ∧ w' = w ∧ xBad n O F S) ∨ (z = 1 ∧ ∃ st' h', xJp n O F S β st' h' g (fun a b => X a b ∧ ¬ (a = k ∧ b = k')) ∧ xJw u w' M n st' h' ∧ (∀ j, ¬ st j = 0 → st' j = st j ∧ h' j = h j) ∧ (∀ j, st' j = 2 ↔ st j = 2)))) := by
  obtain ⟨u1, u2, u3, u4⟩ := hU
  have hMw := xSi_Mo W.1 hM
  obtain ⟨j1, j2, j3, j4, j5⟩ := J
  have ht := (j3 k hk h2).1
  have hrel := ((j2 k hk).2 (by omega)).1
  have hβk := ((j2 k hk).2 (by omega)).2
  have o22 := (H.2.2.2 k hk).1
  have tl := xTa_3 (O k) o22
  have b90 := H.1 k
  have t100 : xTpu O k (h k) < 100 := by unfold xTpu; omega
  by_cases hkn : k' < n
  · by_cases h0 : st k' = 0
    · obtain ⟨J', h90⟩ := xJ_new H ⟨j1, j2, j3, j4, j5⟩ hk h2 hs hkn h0
      refine xv_C_mono (fun o w' hq => ?_) (c_Model_reach_new hMw (by omega) t100 hkn (by rw [W.2 k' hkn]; unfold xWv; rw [if_pos h0]))
      obtain ⟨z, h1, h3, h4⟩ := hq
      refine ⟨z, h1, Or.inr ⟨h3, _, _, J', ?_, fun j hj => ?_, fun j => ?_⟩⟩
      · subst h4
        refine ⟨xSi_tr W.1 (xSi_si rfl), fun j hj => ?_⟩
        rw [xv_si_if]
        unfold xWv
        by_cases e : j = k'
        · subst e
          rw [if_pos rfl, xPt_eq, xPt_eq, if_neg (by decide), if_pos rfl, Nat.zero_add]
        · rw [if_neg e, xPt_ne e, xPt_ne e]
          exact W.2 j hj
      · have e : ¬ j = k' := fun e => by subst e; exact hj h0
        rw [xPt_ne e, xPt_ne e]
        exact ⟨rfl, rfl⟩
      · by_cases e : j = k'
        · subst e; rw [xPt_eq]; omega
        · rw [xPt_ne e]
    · have q2 := (j2 k' hkn).1
      obtain ⟨r1, r2⟩ := (j2 k' hkn).2 h0
      have b90' := H.1 k'
      have hw : ∃ c, (c = 0 ∨ c = 100) ∧ xv_i w (M + 12) k' = nI (c + h k') := by
        rw [W.2 k' hkn]
        unfold xWv
        rw [if_neg h0]
        by_cases e : st k' = 1
        · rw [if_pos e]; exact ⟨0, Or.inl rfl, rfl⟩
        · rw [if_neg e]; exact ⟨100, Or.inr rfl, rfl⟩
      obtain ⟨c, hc, hw⟩ := hw
      refine xv_C_mono (fun o w' hq => ?_) (c_Model_reach_old (h := h k') hMw (by omega) t100 hkn (by omega) hc hw)
      obtain ⟨z, h1, h3, h4⟩ := hq
      by_cases e : h k' = xTpu O k (h k)
      · rw [decide_eq_true e] at h3
        exact ⟨z, h1, Or.inr ⟨h3, st, h, xJ_old ⟨j1, j2, j3, j4, j5⟩ hkn h0 e, by rw [h4]; exact W, fun j _ => ⟨rfl, rfl⟩, fun j => Iff.rfl⟩⟩
      · rw [decide_eq_false e] at h3
        exact ⟨z, h1, Or.inl ⟨h3, h4, k', h k', r1, Or.inr (Or.inr ⟨_, xRel_s hrel hk ht hs, fun q => e q.symm⟩)⟩⟩
  · refine xv_C_mono (fun o w' hq => ?_) (c_Model_reach_out hMw (by omega) t100 (by omega) hk1)
    obtain ⟨z, h1, h3, h4⟩ := hq
    exact ⟨z, h1, Or.inl ⟨h3, h4, k', _, xRel_s hrel hk ht hs, Or.inl (by omega)⟩⟩
def xCt2 (n : Nat) (st : Nat → Nat) : Nat := xCn (fun j => decide (¬ st j = 2)) n
theorem xCt2_cg {n : Nat} {st st' : Nat → Nat} (h : ∀ j, st' j = 2 ↔ st j = 2) : xCt2 n st' = xCt2 n st := by
  unfold xCt2
  congr 1
  funext j
  exact decide_eq_decide.mpr (not_congr (h j))
/-- the loop over the units, at unit k -/
def xMi (sc : Nat × (Nat → Int32)) (u w : xv_M) (M r n : Nat) (O : Nat → Nat) (F S : Nat → Int32) (g : Nat) (b : Bool) (k : Nat) : Prop := ∀ t3 : Int32, xv_X sc 1 J_Model_measure 56 [some (.ref M), some (.int (nI r)), some (.int (nI n)), some (.int t3), some (.int (nI g)), some (.int (xB b)), some (.int (nI k)), none, none] [] w (xv_N u) (xv_S u) (xv_q (xv_N u) (xv_S u) (xv_pi (fun z w => xSi (xM12 M) u w ∧ ((z = -1 ∧ xBad n O F S) ∨ ∃ g, z = nI g ∧ g ≤ 100 ∧ xGdM n O F S g))))
def xMoL (sc : Nat × (Nat → Int32)) (u w : xv_M) (M r n : Nat) (O : Nat → Nat) (F S : Nat → Int32) (g : Nat) (b : Bool) : Prop := ∀ (t3 : Int32) (j6 : Option Value), xv_X sc 1 J_Model_measure 45 [some (.ref M), some (.int (nI r)), some (.int (nI n)), some (.int t3), some (.int (nI g)), some (.int (xB b)), none, none, none] [] w (xv_N u) (xv_S u) (xv_q (xv_N u) (xv_S u) (xv_pi (fun z w => xSi (xM12 M) u w ∧ ((z = -1 ∧ xBad n O F S) ∨ ∃ g, z = nI g ∧ g ≤ 100 ∧ xGdM n O F S g))))
/-- a unit that is skipped -/
theorem xm_skip {sc : Nat × (Nat → Int32)} {u : xv_M} {M r n : Nat} {O : Nat → Nat} {F S : Nat → Int32} {β : Nat → Nat} (hM : xMo u M) (hr : r < 24) (hU : xRu u M r n O F S) (H : xHB n O F S β) {w : xv_M} {st h : Nat → Nat} {g k : Nat} {b : Bool} (J : xJp n O F S β st h g (fun _ _ => False)) (W : xJw u w M n st h) (hk : k < n) (h1 : ¬ st k = 1) (c : xMi sc u w M r n O F S g b (k + 1)) : xMi sc u w M r n O F S g b k := by
  intro t3
  obtain ⟨u1, u2, u3, u4⟩ := hU
  have hMw := xSi_Mo W.1 hM
  have hck : (nI k).toNatClampNeg = k := nI_clamp (by omega)
  have ik : vp_in (nI k) 280 := vp_in_nI (by omega) (by decide)
  have ii : vp_in (nI (280 * r + k)) 6720 := vp_in_nI (by omega) (by decide)
  have es : nI k + Int32.ofInt 1 = nI (k + 1) := by rw [nI_succ]; rfl
  have hw := W.2 k hk
  have hs2 := (J.2.1 k hk).1
  have b90 := H.1 k
  refine xv_iload (pc := 56) d_Model_measure_56 rfl ?_
  refine xv_iload_n (pc := 58) d_Model_measure_58 rfl rfl ?_
  refine xv_icmp_ge (pc := 59) 238 d_Model_measure_59 (by decide) (fun h59 => ?_) (fun h59 => ?_)
  · exact absurd h59 (nI_ge hk (by omega))
  refine xv_aload_n (pc := 62) d_Model_measure_62 rfl rfl ?_
  refine xv_getR (pc := 63) d_Model_measure_63 f_Model_28 rfl hMw.1 (xm_r6 hMw) ?_
  refine xv_sipush (pc := 66) 280 d_Model_measure_66 (by decide) ?_
  refine xv_iload_n (pc := 69) d_Model_measure_69 rfl rfl ?_
  refine xv_imul (pc := 70) d_Model_measure_70 ?_
  refine xv_iload (pc := 71) d_Model_measure_71 rfl ?_
  refine xv_iadd (pc := 73) d_Model_measure_73 ?_
  refine xv_ald (pc := 74) d_Model_measure_74 (xm_k6 hMw) (by rw [xIdx]; exact xm_i6 hMw ii) ?_
  refine xv_istore_7 (pc := 75) d_Model_measure_75 (by decide) rfl ?_
  refine xv_aload_n (pc := 77) d_Model_measure_77 rfl rfl ?_
  refine xv_getR (pc := 78) d_Model_measure_78 f_Model_43 rfl hMw.1 (xm_r11 hMw) ?_
  refine xv_iload (pc := 81) d_Model_measure_81 rfl ?_
  refine xv_ald (pc := 83) d_Model_measure_83 (xm_k11 hMw) (xm_i11 hMw ik) ?_
  refine xv_if_lt (pc := 84) 232 d_Model_measure_84 (by decide) (fun h84 => ?_) (fun h84 => ?_)
  · skip
    refine xv_iinc_6 (pc := 232) (nI (k + 1)) d_Model_measure_232 es (by decide) rfl ?_
    refine xv_goto (pc := 235) 56 d_Model_measure_235 (by decide) ?_
    exact xv_no_7 (c t3)
  · rw [hck, hw] at h84
    have h0 : ¬ st k = 0 := fun e => h84 (by unfold xWv; rw [if_pos e]; decide)
    have h2 : st k = 2 := by omega
    refine xv_aload_n (pc := 87) d_Model_measure_87 rfl rfl ?_
    refine xv_getR (pc := 88) d_Model_measure_88 f_Model_43 rfl hMw.1 (xm_r11 hMw) ?_
    refine xv_iload (pc := 91) d_Model_measure_91 rfl ?_
    refine xv_ald (pc := 93) d_Model_measure_93 (xm_k11 hMw) (xm_i11 hMw ik) ?_
    refine xv_bipush (pc := 94) 99 d_Model_measure_94 (by decide) ?_
    refine xv_icmp_le (pc := 96) 102 d_Model_measure_96 (by decide) (fun h96 => ?_) (fun h96 => ?_)
    · rw [hck, hw] at h96
      unfold xWv at h96
      rw [if_neg h0, if_neg h1] at h96
      have := (nI_leI (a := 100 + h k) (b := 99) (by have := ((J.2.1 k hk).2 h0).2; omega) (by decide)).mp h96
      omega
    · skip
      refine xv_goto (pc := 99) 232 d_Model_measure_99 (by decide) ?_
      refine xv_iinc_6 (pc := 232) (nI (k + 1)) d_Model_measure_232 es (by decide) rfl ?_
      refine xv_goto (pc := 235) 56 d_Model_measure_235 (by decide) ?_
      exact xv_no_7 (c t3)
set_option maxHeartbeats 1000000 in
/-- a unit that is done now -/
theorem xm_do {sc : Nat × (Nat → Int32)} {u : xv_M} {M r n : Nat} {O : Nat → Nat} {F S : Nat → Int32} {β : Nat → Nat} (hM : xMo u M) (hr : r < 24) (hU : xRu u M r n O F S) (H : xHB n O F S β) {w : xv_M} {st h : Nat → Nat} {g k : Nat} {b : Bool} (J : xJp n O F S β st h g (fun _ _ => False)) (W : xJw u w M n st h) (hg : g ≤ 100) (hk : k < n) (h1 : st k = 1) (c : ∀ w' st' h' g', g' ≤ 100 → xJp n O F S β st' h' g' (fun _ _ => False) → xJw u w' M n st' h' → xCt2 n st' + 1 = xCt2 n st → xMi sc u w' M r n O F S g' true (k + 1)) : xMi sc u w M r n O F S g b k := by
  intro t3
  have hU0 := hU
  obtain ⟨u1, u2, u3, u4⟩ := hU
  have hMw := xSi_Mo W.1 hM
  have hck : (nI k).toNatClampNeg = k := nI_clamp (by omega)
  have ik : vp_in (nI k) 280 := vp_in_nI (by omega) (by decide)
  have ci : (nI (280 * r + k)).toNatClampNeg = 280 * r + k := nI_clamp (by omega)
  have ii : vp_in (nI (280 * r + k)) 6720 := vp_in_nI (by omega) (by decide)
  have es : nI k + Int32.ofInt 1 = nI (k + 1) := by rw [nI_succ]; rfl
  have row : ∀ (w : xv_M), xSi (xM12 M) u w → xv_i w (M + 7) (280 * r + k) = nI (O k) ∧ xv_i w (M + 8) (280 * r + k) = F k ∧ xv_i w (M + 9) (280 * r + k) = S k := fun w z => by
    have key : ∀ c, ¬ c = 12 → xv_i w (M + c) = xv_i u (M + c) := fun c hc => z.2.2.2.2.2.2 _ (fun q => by unfold xM12 at q; omega)
    rw [key 7 (by decide), key 8 (by decide), key 9 (by decide)]
    exact u4 k hk
  have hw : xv_i w (M + 12) k = nI (h k) := by rw [W.2 k hk]; unfold xWv; rw [if_neg (by omega), if_pos h1, Nat.zero_add]
  obtain ⟨hrel, hβk⟩ := (J.2.1 k hk).2 (by omega)
  have b90 := H.1 k
  obtain ⟨o22, oF, oS⟩ := H.2.2.2 k hk
  have tl := xTa_3 (O k) o22
  have q15 : (nI (O k) = 15) ↔ O k = 15 := nI_eq (b := 15) (by omega) (by decide)
  have q17 : (nI (O k) = 17) ↔ O k = 17 := nI_eq (b := 17) (by omega) (by decide)
  have q14 : (nI (O k) = 14) ↔ O k = 14 := nI_eq (b := 14) (by omega) (by decide)
  refine xv_iload (pc := 56) d_Model_measure_56 rfl ?_
  refine xv_iload_n (pc := 58) d_Model_measure_58 rfl rfl ?_
  refine xv_icmp_ge (pc := 59) 238 d_Model_measure_59 (by decide) (fun h59 => ?_) (fun h59 => ?_)
  · exact absurd h59 (nI_ge hk (by omega))
  refine xv_aload_n (pc := 62) d_Model_measure_62 rfl rfl ?_
  refine xv_getR (pc := 63) d_Model_measure_63 f_Model_28 rfl hMw.1 (xm_r6 hMw) ?_
  refine xv_sipush (pc := 66) 280 d_Model_measure_66 (by decide) ?_
  refine xv_iload_n (pc := 69) d_Model_measure_69 rfl rfl ?_
  refine xv_imul (pc := 70) d_Model_measure_70 ?_
  refine xv_iload (pc := 71) d_Model_measure_71 rfl ?_
  refine xv_iadd (pc := 73) d_Model_measure_73 ?_
  refine xv_ald (pc := 74) d_Model_measure_74 (xm_k6 hMw) (by rw [xIdx]; exact xm_i6 hMw ii) ?_
  refine xv_istore_7 (pc := 75) d_Model_measure_75 (by decide) rfl ?_
  refine xv_aload_n (pc := 77) d_Model_measure_77 rfl rfl ?_
  refine xv_getR (pc := 78) d_Model_measure_78 f_Model_43 rfl hMw.1 (xm_r11 hMw) ?_
  refine xv_iload (pc := 81) d_Model_measure_81 rfl ?_
  refine xv_ald (pc := 83) d_Model_measure_83 (xm_k11 hMw) (xm_i11 hMw ik) ?_
  refine xv_if_lt (pc := 84) 232 d_Model_measure_84 (by decide) (fun h84 => ?_) (fun h84 => ?_)
  · rw [hck, hw] at h84
    exact absurd h84 (nI_pos (by omega))
  refine xv_aload_n (pc := 87) d_Model_measure_87 rfl rfl ?_
  refine xv_getR (pc := 88) d_Model_measure_88 f_Model_43 rfl hMw.1 (xm_r11 hMw) ?_
  refine xv_iload (pc := 91) d_Model_measure_91 rfl ?_
  refine xv_ald (pc := 93) d_Model_measure_93 (xm_k11 hMw) (xm_i11 hMw ik) ?_
  refine xv_bipush (pc := 94) 99 d_Model_measure_94 (by decide) ?_
  refine xv_icmp_le (pc := 96) 102 d_Model_measure_96 (by decide) (fun h96 => ?_) (fun h96 => ?_)
  case refine_2 =>
    rw [hck, hw] at h96
    exact absurd (nI_le (b := 99) (by omega) (by decide)) h96
  refine xv_aload_n (pc := 102) d_Model_measure_102 rfl rfl ?_
  refine xv_getR (pc := 103) d_Model_measure_103 f_Model_43 rfl hMw.1 (xm_r11 hMw) ?_
  refine xv_iload (pc := 106) d_Model_measure_106 rfl ?_
  refine xv_ald (pc := 108) d_Model_measure_108 (xm_k11 hMw) (xm_i11 hMw ik) ?_
  refine xv_iload (pc := 109) d_Model_measure_109 rfl ?_
  rw [xIdx, ci, (row w W.1).1, hck, hw]
  refine xv_cS1i (pc := 111) (d1 := 0) (c_Model_takes o22) m_Model_takes l_Model_142 d_Model_measure_111 (by omega) (Nat.le_of_ble_eq_true rfl) (xSi_le W.1) (fun z w1 hz hN hS => ?_)
  obtain ⟨rfl, hz⟩ := hz
  subst w1
  refine xv_isub (pc := 114) d_Model_measure_114 ?_
  refine xv_istore_3 (pc := 115) d_Model_measure_115 (by decide) rfl ?_
  refine xv_iload_n (pc := 116) d_Model_measure_116 rfl rfl ?_
  refine xv_if_ge (pc := 117) 122 d_Model_measure_117 (by decide) (fun h117 => ?_) (fun h117 => ?_)
  case refine_2 =>
    have hlt : h k < xTa (O k) := Nat.not_le.mp (fun q => h117 (by rw [nI_subN q]; exact nI_le (a := 0) (Nat.zero_le _) (by omega)))
    refine xv_iconst (pc := 120) (-1) d_Model_measure_120 (by decide) ?_
    exact xv_retiq (pc := 121) d_Model_measure_121 rfl W.1.1 W.1.2.1 ⟨_, rfl, W.1, Or.inl ⟨rfl, k, h k, hrel, Or.inr (Or.inl hlt)⟩⟩
  have ht : xTa (O k) ≤ h k := Nat.not_lt.mp (fun q => xNegT (h k) (by omega) (xTa (O k)) (by omega) q h117)
  rw [nI_subN ht]
  refine xv_iload_n (pc := 122) d_Model_measure_122 rfl rfl ?_
  refine xv_iload (pc := 123) d_Model_measure_123 rfl ?_
  refine xv_cS1i (pc := 125) (d1 := 0) (c_Model_puts o22) m_Model_puts l_Model_145 d_Model_measure_125 (by omega) (Nat.le_of_ble_eq_true rfl) (xSi_le W.1) (fun z w1 hz hN hS => ?_)
  obtain ⟨rfl, hz⟩ := hz
  subst w1
  refine xv_iadd (pc := 128) d_Model_measure_128 ?_
  refine xv_istore_3 (pc := 129) d_Model_measure_129 (by decide) rfl ?_
  rw [nI_add, show h k - xTa (O k) + xLe (O k) = xTpu O k (h k) from rfl]
  have t100 : xTpu O k (h k) ≤ 100 := by unfold xTpu; omega
  have tg : (nI (xTpu O k (h k)) ≤ nI g) ↔ xTpu O k (h k) ≤ g := nI_leI (by omega) (by omega)
  have at139 : ∀ g', g' = (if g < xTpu O k (h k) then xTpu O k (h k) else g) → xv_X sc 1 J_Model_measure 139 [some (.ref M), some (.int (nI r)), some (.int (nI n)), some (.int (nI (xTpu O k (h k)))), some (.int (nI g')), some (.int (xB b)), some (.int (nI k)), some (.int (nI (O k))), none] [] w (xv_N u) (xv_S u) (xv_q (xv_N u) (xv_S u) (xv_pi (fun z w => xSi (xM12 M) u w ∧ ((z = -1 ∧ xBad n O F S) ∨ ∃ g, z = nI g ∧ g ≤ 100 ∧ xGdM n O F S g)))) := by
    intro g' hg'
    have hg100 : g' ≤ 100 := by rw [hg']; split <;> omega
    have J1 := xJ_do (X := fun _ _ => False) J hk h1 ht hg'
    have e100 : nI (h k) + 100 = nI (100 + h k) := by rw [show (100 : Int32) = nI 100 from rfl, nI_add, Nat.add_comm]
    have W1 : xJw u (xv_si w (M + 12) k (nI (100 + h k))) M n (xPt st k 2) h := by
      refine ⟨xSi_tr W.1 (xSi_si rfl), fun j hj => ?_⟩
      rw [xv_si_if]
      by_cases e : j = k
      · subst e
        rw [if_pos rfl]
        unfold xWv
        rw [xPt_eq, if_neg (by decide), if_neg (by decide)]
      · rw [if_neg e, W.2 j hj]
        unfold xWv
        rw [xPt_ne e]
    have hs2 : xPt st k 2 k = 2 := xPt_eq
    have hcount : xCt2 n (xPt st k 2) + 1 = xCt2 n st := xCn_less n k hk (decide_eq_true (by omega)) (decide_eq_false (fun q => q xPt_eq)) (fun j hj => by rw [xPt_ne hj])
    generalize hW1 : xv_si w (M + 12) k (nI (100 + h k)) = w1 at W1
    generalize hst1 : xPt st k 2 = st1 at *
    have hM1 := xSi_Mo W1.1 hM
    -- the end of the step
    have at232 : ∀ (w2 : xv_M) (st2 h2 : Nat → Nat) (k' : Nat), xJp n O F S β st2 h2 g' (fun _ _ => False) → xJw u w2 M n st2 h2 → (∀ j, st2 j = 2 ↔ st1 j = 2) → xv_X sc 1 J_Model_measure 232 [some (.ref M), some (.int (nI r)), some (.int (nI n)), some (.int (nI (xTpu O k (h k)))), some (.int (nI g')), some (.int 1), some (.int (nI k)), some (.int (nI (O k))), some (.int (nI k'))] [] w2 (xv_N u) (xv_S u) (xv_q (xv_N u) (xv_S u) (xv_pi (fun z w => xSi (xM12 M) u w ∧ ((z = -1 ∧ xBad n O F S) ∨ ∃ g, z = nI g ∧ g ≤ 100 ∧ xGdM n O F S g)))) := by
      intro w2 st2 h2 k' J2 W2 c2
      refine xv_iinc_6 (pc := 232) (nI (k + 1)) d_Model_measure_232 es (by decide) rfl ?_
      refine xv_goto (pc := 235) 56 d_Model_measure_235 (by decide) ?_
      exact xv_no_7 (xv_no_8 (c w2 st2 h2 g' hg100 J2 W2 (by rw [xCt2_cg c2]; exact hcount) _))
    have at230 : ∀ (w2 : xv_M) (k' : Nat), xSi (xM12 M) u w2 → xBad n O F S → xv_X sc 1 J_Model_measure 230 [some (.ref M), some (.int (nI r)), some (.int (nI n)), some (.int (nI (xTpu O k (h k)))), some (.int (nI g')), some (.int 1), some (.int (nI k)), some (.int (nI (O k))), some (.int (nI k'))] [] w2 (xv_N u) (xv_S u) (xv_q (xv_N u) (xv_S u) (xv_pi (fun z w => xSi (xM12 M) u w ∧ ((z = -1 ∧ xBad n O F S) ∨ ∃ g, z = nI g ∧ g ≤ 100 ∧ xGdM n O F S g)))) := by
      intro w2 k' z2 hb
      refine xv_iconst (pc := 230) (-1) d_Model_measure_230 (by decide) ?_
      exact xv_retiq (pc := 231) d_Model_measure_231 rfl z2.1 z2.2.1 ⟨_, rfl, z2, Or.inl ⟨rfl, hb⟩⟩
    -- the second way of an IF
    have at201 : ∀ (w2 : xv_M) (st2 h2 : Nat → Nat) (k' : Nat) (X : Nat → Nat → Prop), xJp n O F S β st2 h2 g' X → xJw u w2 M n st2 h2 → (∀ j, st2 j = 2 ↔ st1 j = 2) → h2 k = h k → (∀ a b', X a b' → xSu O F S a b' → a = k ∧ O k = 14 ∧ b' < 1000 ∧ S k = nI b') → xv_X sc 1 J_Model_measure 201 [some (.ref M), some (.int (nI r)), some (.int (nI n)), some (.int (nI (xTpu O k (h k)))), some (.int (nI g')), some (.int 1), some (.int (nI k)), some (.int (nI (O k))), some (.int (nI k'))] [] w2 (xv_N u) (xv_S u) (xv_q (xv_N u) (xv_S u) (xv_pi (fun z w => xSi (xM12 M) u w ∧ ((z = -1 ∧ xBad n O F S) ∨ ∃ g, z = nI g ∧ g ≤ 100 ∧ xGdM n O F S g)))) := by
      intro w2 st2 h2 k' X J2 W2 c2 hh2 hX
      have hM2 := xSi_Mo W2.1 hM
      refine xv_iload (pc := 201) d_Model_measure_201 rfl ?_
      refine xv_bipush (pc := 203) 14 d_Model_measure_203 (by decide) ?_
      refine xv_icmp_ne (pc := 205) 232 d_Model_measure_205 (by decide) (fun h205 => ?_) (fun h205 => ?_)
      · rw [q14] at h205
        exact at232 w2 st2 h2 k' (xJ_X J2 (fun a b' hs hx => h205 (hX a b' hx hs).2.1)) W2 c2
      · rw [q14] at h205
        obtain ⟨q, hq, eS⟩ := oS h205
        have hsu : xSu O F S k q := Or.inr ⟨h205, hq, eS⟩
        have hk2 : st2 k = 2 := (c2 k).mpr hs2
        have cr := c_reach (sc := sc) hM hr hU0 H J2 W2 hk hk2 hsu hq
        rw [hh2] at cr
        refine xv_aload_n (pc := 208) d_Model_measure_208 rfl rfl ?_
        refine xv_aload_n (pc := 209) d_Model_measure_209 rfl rfl ?_
        refine xv_getR (pc := 210) d_Model_measure_210 f_Model_34 rfl hM2.1 (xm_r8 hM2) ?_
        refine xv_sipush (pc := 213) 280 d_Model_measure_213 (by decide) ?_
        refine xv_iload_n (pc := 216) d_Model_measure_216 rfl rfl ?_
        refine xv_imul (pc := 217) d_Model_measure_217 ?_
        refine xv_iload (pc := 218) d_Model_measure_218 rfl ?_
        refine xv_iadd (pc := 220) d_Model_measure_220 ?_
        refine xv_ald (pc := 221) d_Model_measure_221 (xm_k8 hM2) (by rw [xIdx]; exact xm_i8 hM2 ii) ?_
        refine xv_iload_n (pc := 222) d_Model_measure_222 rfl rfl ?_
        refine xv_iload_n (pc := 223) d_Model_measure_223 rfl rfl ?_
        rw [xIdx, ci, (row w2 W2.1).2.2, eS]
        refine xv_cV3i (pc := 224) cr m_Model_reach l_Model_148 d_Model_measure_224 (by omega) (by decide : 11 < xv_nc) rfl hM2.1 (Nat.le_of_ble_eq_true rfl) (xSi_le W2.1) (fun z w3 hz hN hS => ?_)
        rcases hz with ⟨rfl, hz2, hb⟩ | ⟨rfl, st3, h3, J3, W3, c3, c4⟩
        · subst hz2
          refine xv_if_ne (pc := 227) 232 d_Model_measure_227 (by decide) (fun h227 => ?_) (fun h227 => ?_)
          · exact absurd rfl h227
          exact at230 w3 k' W2.1 hb
        · skip
          refine xv_if_ne (pc := 227) 232 d_Model_measure_227 (by decide) (fun h227 => ?_) (fun h227 => ?_)
          case refine_2 => exact absurd h227 (by decide)
          refine at232 w3 st3 h3 k' (xJ_X J3 (fun a b' hs hx => ?_)) W3 (fun j => (c4 j).trans (c2 j))
          obtain ⟨x1, x2⟩ := hx
          obtain ⟨e1, e2, e3, e4⟩ := hX a b' x1 hs
          exact x2 ⟨e1, (nI_eq (by omega) (by omega)).mp (e4.symm.trans eS)⟩
    -- the first way on
    have at181 : ∀ k', k' < 1000 → (¬ O k = 17 → xSu O F S k k') → (∀ b', xSu O F S k b' → ¬ b' = k' → O k = 14 ∧ b' < 1000 ∧ S k = nI b') → xv_X sc 1 J_Model_measure 181 [some (.ref M), some (.int (nI r)), some (.int (nI n)), some (.int (nI (xTpu O k (h k)))), some (.int (nI g')), some (.int 1), some (.int (nI k)), some (.int (nI (O k))), none] [.int (nI k')] w1 (xv_N u) (xv_S u) (xv_q (xv_N u) (xv_S u) (xv_pi (fun z w => xSi (xM12 M) u w ∧ ((z = -1 ∧ xBad n O F S) ∨ ∃ g, z = nI g ∧ g ≤ 100 ∧ xGdM n O F S g)))) := by
      intro k' hk1 hsu hoth
      refine xv_istore_8 (pc := 181) d_Model_measure_181 (by decide) rfl ?_
      refine xv_iload (pc := 183) d_Model_measure_183 rfl ?_
      refine xv_bipush (pc := 185) 17 d_Model_measure_185 (by decide) ?_
      refine xv_icmp_eq (pc := 187) 201 d_Model_measure_187 (by decide) (fun h187 => ?_) (fun h187 => ?_)
      · rw [q17] at h187
        refine at201 w1 st1 h k' _ J1 W1 (fun _ => Iff.rfl) rfl (fun a b' hx hs => ?_)
        obtain ⟨e1, e2⟩ := hx
        rcases e2 with ⟨q, -⟩ | ⟨q, -⟩
        · exact absurd h187 q
        · omega
      · rw [q17] at h187
        have cr := c_reach (sc := sc) hM hr hU0 H J1 W1 hk hs2 (hsu h187) hk1
        refine xv_aload_n (pc := 190) d_Model_measure_190 rfl rfl ?_
        refine xv_iload (pc := 191) d_Model_measure_191 rfl ?_
        refine xv_iload_n (pc := 193) d_Model_measure_193 rfl rfl ?_
        refine xv_iload_n (pc := 194) d_Model_measure_194 rfl rfl ?_
        refine xv_cV3i (pc := 195) cr m_Model_reach l_Model_148 d_Model_measure_195 (by omega) (by decide : 11 < xv_nc) rfl hM1.1 (Nat.le_of_ble_eq_true rfl) (xSi_le W1.1) (fun z w3 hz hN hS => ?_)
        rcases hz with ⟨rfl, hz2, hb⟩ | ⟨rfl, st3, h3, J3, W3, c3, c4⟩
        · subst hz2
          refine xv_if_eq (pc := 198) 230 d_Model_measure_198 (by decide) (fun h198 => ?_) (fun h198 => ?_)
          · exact at230 w3 k' W1.1 hb
          exact absurd rfl h198
        · skip
          refine xv_if_eq (pc := 198) 230 d_Model_measure_198 (by decide) (fun h198 => ?_) (fun h198 => ?_)
          · exact absurd h198 (by decide)
          refine at201 w3 st3 h3 k' _ J3 W3 c4 (c3 k (by omega)).2 (fun a b' hx hs => ?_)
          obtain ⟨⟨x1, x2⟩, x3⟩ := hx
          subst x1
          exact ⟨rfl, hoth b' hs (fun e => x3 ⟨rfl, e⟩)⟩
    refine xv_aload_n (pc := 139) d_Model_measure_139 rfl rfl ?_
    refine xv_getR (pc := 140) d_Model_measure_140 f_Model_43 rfl hMw.1 (xm_r11 hMw) ?_
    refine xv_iload (pc := 143) d_Model_measure_143 rfl ?_
    refine xv_dup2 (pc := 145) d_Model_measure_145 ?_
    refine xv_ald (pc := 146) d_Model_measure_146 (xm_k11 hMw) (xm_i11 hMw ik) ?_
    refine xv_bipush (pc := 147) 100 d_Model_measure_147 (by decide) ?_
    refine xv_iadd (pc := 149) d_Model_measure_149 ?_
    refine xv_ast (pc := 150) d_Model_measure_150 (xm_k11 hMw) (xm_i11 hMw ik) ?_
    refine xv_iconst (pc := 151) 1 d_Model_measure_151 (by decide) ?_
    refine xv_istore_5 (pc := 152) d_Model_measure_152 (by decide) rfl ?_
    rw [hck, hw, e100, hW1]
    refine xv_iload (pc := 154) d_Model_measure_154 rfl ?_
    refine xv_bipush (pc := 156) 15 d_Model_measure_156 (by decide) ?_
    refine xv_icmp_ne (pc := 158) 177 d_Model_measure_158 (by decide) (fun h158 => ?_) (fun h158 => ?_)
    · rw [q15] at h158
      refine xv_iload (pc := 177) d_Model_measure_177 rfl ?_
      refine xv_iconst (pc := 179) 1 d_Model_measure_179 (by decide) ?_
      refine xv_iadd (pc := 180) d_Model_measure_180 ?_
      rw [show nI k + 1 = nI (k + 1) by rw [nI_succ]]
      refine at181 (k + 1) (by omega) (fun h17 => Or.inl ⟨h17, Or.inr ⟨h158, rfl⟩⟩) (fun b' hs hne => ?_)
      rcases hs with ⟨-, ⟨q, -⟩ | ⟨-, q⟩⟩ | q
      · exact absurd q h158
      · exact absurd q hne
      · exact q
    · rw [q15] at h158
      obtain ⟨q, hq, eF⟩ := oF h158
      refine xv_aload_n (pc := 161) d_Model_measure_161 rfl rfl ?_
      refine xv_getR (pc := 162) d_Model_measure_162 f_Model_31 rfl hM1.1 (xm_r7 hM1) ?_
      refine xv_sipush (pc := 165) 280 d_Model_measure_165 (by decide) ?_
      refine xv_iload_n (pc := 168) d_Model_measure_168 rfl rfl ?_
      refine xv_imul (pc := 169) d_Model_measure_169 ?_
      refine xv_iload (pc := 170) d_Model_measure_170 rfl ?_
      refine xv_iadd (pc := 172) d_Model_measure_172 ?_
      refine xv_ald (pc := 173) d_Model_measure_173 (xm_k7 hM1) (by rw [xIdx]; exact xm_i7 hM1 ii) ?_
      refine xv_goto (pc := 174) 181 d_Model_measure_174 (by decide) ?_
      rw [xIdx, ci, (row w1 W1.1).2.1, eF]
      refine at181 q hq (fun h17 => Or.inl ⟨h17, Or.inl ⟨h158, hq, eF⟩⟩) (fun b' hs hne => ?_)
      rcases hs with ⟨-, ⟨-, q1, q2⟩ | ⟨q1, -⟩⟩ | ⟨q1, -⟩
      · exact absurd ((nI_eq (by omega) (by omega)).mp (q2.symm.trans eF)) hne
      · exact absurd h158 q1
      · omega
  refine xv_iload_n (pc := 130) d_Model_measure_130 rfl rfl ?_
  refine xv_iload (pc := 131) d_Model_measure_131 rfl ?_
  refine xv_icmp_le (pc := 133) 139 d_Model_measure_133 (by decide) (fun h133 => ?_) (fun h133 => ?_)
  · rw [tg] at h133
    exact at139 g (by rw [if_neg (by omega)])
  · rw [tg] at h133
    refine xv_iload_n (pc := 136) d_Model_measure_136 rfl rfl ?_
    refine xv_istore_4 (pc := 137) d_Model_measure_137 (by decide) rfl ?_
    exact at139 _ (by rw [if_pos (by omega)])

