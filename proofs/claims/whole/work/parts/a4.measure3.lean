/-! the model: measure as a whole -/
theorem xm_out {sc : Nat × (Nat → Int32)} {u : xv_M} {M r n : Nat} {O : Nat → Nat} {F S : Nat → Int32} {β : Nat → Nat} (hM : xMo u M) (hr : r < 24) (hU : xRu u M r n O F S) (H : xHB n O F S β) : ∀ (N : Nat) (st h : Nat → Nat) (g : Nat) (w : xv_M), xCt2 n st < N → xJp n O F S β st h g (fun _ _ => False) → xJw u w M n st h → g ≤ 100 → xMoL sc u w M r n O F S g true := by
  intro N
  induction N with
  | zero => intro st h g w hc; omega
  | succ N ihN =>
    intro st h g w hc J W hg
    have inner : ∀ (q k : Nat) (st h : Nat → Nat) (g : Nat) (b : Bool) (w : xv_M), k + q = n → xJp n O F S β st h g (fun _ _ => False) → xJw u w M n st h → g ≤ 100 → (b = true → xCt2 n st < N) → (b = false → (∀ j, j < k → ¬ st j = 1) ∧ xCt2 n st < N + 1) → xMi sc u w M r n O F S g b k := by
      intro q
      induction q with
      | zero =>
        intro k st h g b w hk J W hg hb1 hb0 t3
        have hk : k = n := by omega
        subst hk
        obtain ⟨u1, u2, u3, u4⟩ := hU
        refine xv_iload (pc := 56) d_Model_measure_56 rfl ?_
        refine xv_iload_n (pc := 58) d_Model_measure_58 rfl rfl ?_
        refine xv_icmp_ge (pc := 59) 238 d_Model_measure_59 (by decide) (fun h59 => ?_) (fun h59 => ?_)
        case refine_2 => exact absurd (Int32.le_refl _) h59
        refine xv_goto (pc := 238) 45 d_Model_measure_238 (by decide) ?_
        cases b with
        | true => exact xv_no_6 (ihN st h g w (hb1 rfl) J W hg t3 none)
        | false =>
          refine xv_iload (pc := 45) d_Model_measure_45 rfl ?_
          refine xv_if_eq (pc := 47) 241 d_Model_measure_47 (by decide) (fun h47 => ?_) (fun h47 => ?_)
          case refine_2 => exact absurd rfl h47
          refine xv_iload (pc := 241) d_Model_measure_241 rfl ?_
          exact xv_retiq (pc := 243) d_Model_measure_243 rfl W.1.1 W.1.2.1 ⟨_, rfl, W.1, Or.inr ⟨g, rfl, hg, xJ_end (X := fun _ _ => False) u2 J (hb0 rfl).1⟩⟩
      | succ q ihq =>
        intro k st h g b w hk J W hg hb1 hb0
        by_cases h1 : st k = 1
        · refine xm_do hM hr hU H J W hg (by omega) h1 (fun w' st' h' g' hg' J' W' hc' => ?_)
          refine ihq (k + 1) st' h' g' true w' (by omega) J' W' hg' (fun _ => ?_) (fun e => by cases e)
          cases b with
          | true => have := hb1 rfl; omega
          | false => have := (hb0 rfl).2; omega
        · refine xm_skip hM hr hU H J W (by omega) h1 (ihq (k + 1) st h g b w (by omega) J W hg hb1 (fun e => ⟨fun j hj => ?_, (hb0 e).2⟩))
          by_cases c : j = k
          · subst c; exact h1
          · exact (hb0 e).1 j (by omega)
    intro t3 j6
    refine xv_iload (pc := 45) d_Model_measure_45 rfl ?_
    refine xv_if_eq (pc := 47) 241 d_Model_measure_47 (by decide) (fun h47 => ?_) (fun h47 => ?_)
    · exact absurd h47 (by decide)
    refine xv_iconst (pc := 50) 0 d_Model_measure_50 (by decide) ?_
    refine xv_istore_5 (pc := 51) d_Model_measure_51 (by decide) rfl ?_
    refine xv_iconst (pc := 53) 0 d_Model_measure_53 (by decide) ?_
    refine xv_istore_6 (pc := 54) d_Model_measure_54 (by decide) rfl ?_
    exact inner n 0 st h g false w (by omega) J W hg (fun e => by cases e) (fun _ => ⟨fun j hj => absurd hj (Nat.not_lt_zero j), hc⟩) t3
theorem c_Model_measure {sc : Nat × (Nat → Int32)} {u : xv_M} {M r n : Nat} {O : Nat → Nat} {F S : Nat → Int32} {β : Nat → Nat} (hM : xMo u M) (hr : r < 24) (hU : xRu u M r n O F S) (H : xHB n O F S β) : xv_C sc 1 J_Model_measure [.ref M, .int (nI r)] u (xv_N u) (xv_S u) (xv_pi (fun z w => xSi (xM12 M) u w ∧ ((z = -1 ∧ xBad n O F S) ∨ ∃ g, z = nI g ∧ g ≤ 100 ∧ xGdM n O F S g))) := by
  have hU0 := hU
  obtain ⟨u1, u2, u3, u4⟩ := hU
  have hcr : (nI r).toNatClampNeg = r := nI_clamp (by omega)
  refine xv_C_of (by decide) (Nat.le_refl _) (Nat.le_refl _) (xv_cat1 rfl) (Nat.le_of_ble_eq_true rfl) ?_
  show xv_X sc 1 J_Model_measure 0 [some (.ref M), some (.int (nI r)), none, none, none, none, none, none, none] [] u (xv_N u) (xv_S u) _
  have loop : ∀ (q k : Nat) (w : xv_M), k + q = n → xSi (xM12 M) u w → (∀ j, j < k → xv_i w (M + 12) j = -1) → xv_X sc 1 J_Model_measure 15 [some (.ref M), some (.int (nI r)), some (.int (nI n)), some (.int 0), some (.int 0), some (.int (nI k)), none, none, none] [] w (xv_N u) (xv_S u) (xv_q (xv_N u) (xv_S u) (xv_pi (fun z w => xSi (xM12 M) u w ∧ ((z = -1 ∧ xBad n O F S) ∨ ∃ g, z = nI g ∧ g ≤ 100 ∧ xGdM n O F S g)))) := by
    intro q
    induction q with
    | zero =>
      intro k w hk z hw
      have hk : k = n := by omega
      subst hk
      have hMw := xSi_Mo z hM
      refine xv_iload (pc := 15) d_Model_measure_15 rfl ?_
      refine xv_iload_n (pc := 17) d_Model_measure_17 rfl rfl ?_
      refine xv_icmp_ge (pc := 18) 35 d_Model_measure_18 (by decide) (fun h18 => ?_) (fun h18 => ?_)
      case refine_2 => exact absurd (Int32.le_refl _) h18
      refine xv_aload_n (pc := 35) d_Model_measure_35 rfl rfl ?_
      refine xv_getR (pc := 36) d_Model_measure_36 f_Model_43 rfl hMw.1 (xm_r11 hMw) ?_
      refine xv_iconst (pc := 39) 0 d_Model_measure_39 (by decide) ?_
      refine xv_iconst (pc := 40) 0 d_Model_measure_40 (by decide) ?_
      refine xv_ast (pc := 41) d_Model_measure_41 (xm_k11 hMw) (xm_i11 hMw (vp_in_nI (n := 0) (by decide) (by decide))) ?_
      refine xv_iconst (pc := 42) 1 d_Model_measure_42 (by decide) ?_
      refine xv_istore_5 (pc := 43) d_Model_measure_43 (by decide) rfl ?_
      have := xm_out (sc := sc) hM hr hU0 H (xCt2 k (fun j => if j = 0 then 1 else 0) + 1) (fun j => if j = 0 then 1 else 0) (fun _ => 0) 0 (xv_si w (M + 12) 0 0) (Nat.lt_succ_self _) ⟨⟨by decide, rfl⟩, fun j hj => ⟨?_, fun h0 => ?_⟩, fun j hj h2 => ?_, Or.inl rfl, fun a b ha ho hb1 hb hle y hy1 hy2 hs => ?_⟩ ⟨xSi_tr z (xSi_si rfl), fun j hj => ?_⟩ (by decide) 0 none
      · exact this
      · show (if j = 0 then 1 else 0) ≤ 2
        split <;> omega
      · have e : j = 0 := Classical.byContradiction (fun q => h0 (if_neg q))
        subst e
        exact ⟨xRel_0, Nat.zero_le _⟩
      · have h2 : (if j = 0 then 1 else 0) = 2 := h2
        split at h2 <;> omega
      · exact absurd (if_neg (by omega)) hs
      · rw [xv_si_if]
        unfold xWv
        by_cases e : j = 0
        · subst e; rfl
        · rw [if_neg e, if_pos (if_neg e)]
          exact hw j hj
    | succ q ih =>
      intro k w hk z hw
      have hMw := xSi_Mo z hM
      have hck : (nI k).toNatClampNeg = k := nI_clamp (by omega)
      have es : nI k + Int32.ofInt 1 = nI (k + 1) := by rw [nI_succ]; rfl
      refine xv_iload (pc := 15) d_Model_measure_15 rfl ?_
      refine xv_iload_n (pc := 17) d_Model_measure_17 rfl rfl ?_
      refine xv_icmp_ge (pc := 18) 35 d_Model_measure_18 (by decide) (fun h18 => ?_) (fun h18 => ?_)
      · exact absurd h18 (nI_ge (by omega) (by omega))
      refine xv_aload_n (pc := 21) d_Model_measure_21 rfl rfl ?_
      refine xv_getR (pc := 22) d_Model_measure_22 f_Model_43 rfl hMw.1 (xm_r11 hMw) ?_
      refine xv_iload (pc := 25) d_Model_measure_25 rfl ?_
      refine xv_iconst (pc := 27) (-1) d_Model_measure_27 (by decide) ?_
      refine xv_ast (pc := 28) d_Model_measure_28 (xm_k11 hMw) (xm_i11 hMw (vp_in_nI (by omega) (by decide))) ?_
      refine xv_iinc_5 (pc := 29) (nI (k + 1)) d_Model_measure_29 es (by decide) rfl ?_
      refine xv_goto (pc := 32) 15 d_Model_measure_32 (by decide) ?_
      rw [hck]
      refine ih (k + 1) _ (by omega) (xSi_tr z (xSi_si rfl)) (fun j hj => ?_)
      rw [xv_si_if]
      by_cases e : j = k
      · rw [if_pos e]
      · rw [if_neg e]; exact hw j (by omega)
  refine xv_aload_n (pc := 0) d_Model_measure_0 rfl rfl ?_
  refine xv_getR (pc := 1) d_Model_measure_1 f_Model_37 rfl hM.1 (xm_r9 hM) ?_
  refine xv_iload_n (pc := 4) d_Model_measure_4 rfl rfl ?_
  refine xv_ald (pc := 5) d_Model_measure_5 (xm_k9 hM) (xm_i9 hM (vp_in_nI hr (by decide))) ?_
  refine xv_istore_2 (pc := 6) d_Model_measure_6 (by decide) rfl ?_
  refine xv_iconst (pc := 7) 0 d_Model_measure_7 (by decide) ?_
  refine xv_istore_3 (pc := 8) d_Model_measure_8 (by decide) rfl ?_
  refine xv_iconst (pc := 9) 0 d_Model_measure_9 (by decide) ?_
  refine xv_istore_4 (pc := 10) d_Model_measure_10 (by decide) rfl ?_
  refine xv_iconst (pc := 12) 0 d_Model_measure_12 (by decide) ?_
  refine xv_istore_5 (pc := 13) d_Model_measure_13 (by decide) rfl ?_
  rw [hcr, u1]
  exact loop n 0 u (by omega) xSi_rf (fun j hj => absurd hj (Nat.not_lt_zero j))

