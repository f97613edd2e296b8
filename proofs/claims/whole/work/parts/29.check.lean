/-! CodeCheck -/
def xv_Ck (u : xv_M) (h a b : Nat) : Prop := xv_k u h = 8 ∧ xv_r u h 0 = some a ∧ xv_r u h 1 = some b ∧ xv_k u a = 100 ∧ xv_l u a = 265 ∧ xv_k u b = 100 ∧ xv_l u b = 265 ∧ a ≠ b
theorem c_Check_reach_out {sc : Nat × (Nat → Int32)} {u : xv_M} {h a b c o f g n : Nat} {x y : Int32} (hF : xv_Ck u h a b) (hC : xv_Co u c o f g) (hr : xv_r u h 3 = some c) (hn : xv_i u c 3 = nI n) (hlt : n ≤ 265) (hx : x < 0 ∨ nI n ≤ x) : xv_C sc 0 J_Check_reach [.ref h, .int x, .int y] u (xv_N u) (xv_S u) (xv_pi (fun r w => r = 0 ∧ w = u)) := by
  obtain ⟨k0, r0, r1, ka, la, kb, lb, hab⟩ := hF
  refine xv_C_of (by decide) (Nat.le_refl _) (Nat.le_refl _) (xv_cat1 rfl) (Nat.le_of_ble_eq_true rfl) ?_
  show xv_X sc 0 J_Check_reach 0 [some (.ref h), some (.int x), some (.int y)] [] u (xv_N u) (xv_S u) _
  refine xv_iload_n (pc := 0) d_Check_reach_0 rfl rfl ?_
  refine xv_if_lt (pc := 1) 15 d_Check_reach_1 (by decide) (fun h1 => ?_) (fun h1 => ?_)
  · refine xv_iconst (pc := 15) 0 d_Check_reach_15 (by decide) ?_
    exact xv_retzq (pc := 16) d_Check_reach_16 rfl (by decide) rfl rfl ⟨_, rfl, rfl, rfl⟩
  · refine xv_iload_n (pc := 4) d_Check_reach_4 rfl rfl ?_
    refine xv_aload_n (pc := 5) d_Check_reach_5 rfl rfl ?_
    refine xv_getR (pc := 6) d_Check_reach_6 f_Check_18 rfl k0 hr ?_
    refine xv_getI (pc := 9) d_Check_reach_9 f_Check_26 rfl hC.1 ?_
    refine xv_icmp_lt (pc := 12) 17 d_Check_reach_12 (by decide) (fun h12 => ?_) (fun h12 => ?_)
    · rw [hn] at h12
      exact absurd h12 (Int32.not_lt.mpr (hx.elim (fun q => absurd q h1) id))
    · refine xv_iconst (pc := 15) 0 d_Check_reach_15 (by decide) ?_
      exact xv_retzq (pc := 16) d_Check_reach_16 rfl (by decide) rfl rfl ⟨_, rfl, rfl, rfl⟩
theorem c_Check_reach_new {sc : Nat × (Nat → Int32)} {u : xv_M} {h a b c o f g n : Nat} {x m : Nat} {y : Int32} (hF : xv_Ck u h a b) (hC : xv_Co u c o f g) (hr : xv_r u h 3 = some c) (hn : xv_i u c 3 = nI n) (hlt : n ≤ 265) (hx : x < n) (hm : xv_i u h 2 = nI m) (hm' : m < 265) (hH : xv_i u a x = -1) : xv_C sc 0 J_Check_reach [.ref h, .int (nI x), .int y] u (xv_N u) (xv_S u) (xv_pi (fun r w => r = 1 ∧ w = xv_si (xv_si (xv_si u a x y) b m (nI x)) h 2 (nI (m + 1)))) := by
  obtain ⟨k0, r0, r1, ka, la, kb, lb, hab⟩ := hF
  have hha := xv_ne k0 ka (by decide)
  have hhb := xv_ne k0 kb (by decide)
  have hcx : (nI x).toNatClampNeg = x := nI_clamp (by omega)
  have hcm : (nI m).toNatClampNeg = m := nI_clamp (by omega)
  refine xv_C_of (by decide) (Nat.le_refl _) (Nat.le_refl _) (xv_cat1 rfl) (Nat.le_of_ble_eq_true rfl) ?_
  show xv_X sc 0 J_Check_reach 0 [some (.ref h), some (.int (nI x)), some (.int y)] [] u (xv_N u) (xv_S u) _
  refine xv_iload_n (pc := 0) d_Check_reach_0 rfl rfl ?_
  refine xv_if_lt (pc := 1) 15 d_Check_reach_1 (by decide) (fun h1 => ?_) (fun h1 => ?_)
  · exact absurd h1 (nI_pos (by omega))
  refine xv_iload_n (pc := 4) d_Check_reach_4 rfl rfl ?_
  refine xv_aload_n (pc := 5) d_Check_reach_5 rfl rfl ?_
  refine xv_getR (pc := 6) d_Check_reach_6 f_Check_18 rfl k0 hr ?_
  refine xv_getI (pc := 9) d_Check_reach_9 f_Check_26 rfl hC.1 ?_
  refine xv_icmp_lt (pc := 12) 17 d_Check_reach_12 (by decide) (fun h12 => ?_) (fun h12 => ?_)
  case refine_2 =>
    rw [hn] at h12
    exact absurd (nI_lt hx (by omega)) h12
  refine xv_aload_n (pc := 17) d_Check_reach_17 rfl rfl ?_
  refine xv_getR (pc := 18) d_Check_reach_18 f_Check_9 rfl k0 r0 ?_
  refine xv_iload_n (pc := 21) d_Check_reach_21 rfl rfl ?_
  refine xv_ald (pc := 22) d_Check_reach_22 ka (by rw [la]; exact vp_in_nI (by omega) (by decide)) ?_
  refine xv_iconst (pc := 23) (-1) d_Check_reach_23 (by decide) ?_
  refine xv_icmp_ne (pc := 24) 54 d_Check_reach_24 (by decide) (fun h24 => ?_) (fun h24 => ?_)
  · rw [hcx] at h24
    exact absurd hH h24
  refine xv_aload_n (pc := 27) d_Check_reach_27 rfl rfl ?_
  refine xv_getR (pc := 28) d_Check_reach_28 f_Check_9 rfl k0 r0 ?_
  refine xv_iload_n (pc := 31) d_Check_reach_31 rfl rfl ?_
  refine xv_iload_n (pc := 32) d_Check_reach_32 rfl rfl ?_
  refine xv_ast (pc := 33) d_Check_reach_33 ka (by rw [la]; exact vp_in_nI (by omega) (by decide)) ?_
  refine xv_aload_n (pc := 34) d_Check_reach_34 rfl rfl ?_
  refine xv_getR (pc := 35) d_Check_reach_35 f_Check_15 rfl k0 r1 ?_
  refine xv_aload_n (pc := 38) d_Check_reach_38 rfl rfl ?_
  refine xv_getI (pc := 39) d_Check_reach_39 f_Check_22 rfl k0 ?_
  refine xv_iload_n (pc := 42) d_Check_reach_42 rfl rfl ?_
  refine xv_ast (pc := 43) d_Check_reach_43 kb (by rw [xv_si_ne hha, hm]; show vp_in _ (xv_l u b); rw [lb]; exact vp_in_nI hm' (by decide)) ?_
  refine xv_aload_n (pc := 44) d_Check_reach_44 rfl rfl ?_
  refine xv_dup_ref (pc := 45) d_Check_reach_45 ?_
  refine xv_getI (pc := 46) d_Check_reach_46 f_Check_22 rfl k0 ?_
  refine xv_iconst (pc := 49) 1 d_Check_reach_49 (by decide) ?_
  refine xv_iadd (pc := 50) d_Check_reach_50 ?_
  refine xv_putI (pc := 51) d_Check_reach_51 f_Check_22 (Or.inl rfl) fin_7_2 k0 ?_
  have e1 : xv_si (xv_si (xv_si u a (nI x).toNatClampNeg y) b (xv_i (xv_si u a (nI x).toNatClampNeg y) h 2).toNatClampNeg (nI x)) h 2 (xv_i (xv_si (xv_si u a (nI x).toNatClampNeg y) b (xv_i (xv_si u a (nI x).toNatClampNeg y) h 2).toNatClampNeg (nI x)) h 2 + 1) = xv_si (xv_si (xv_si u a x y) b m (nI x)) h 2 (nI (m + 1)) := by
    simp only [xv_si_ne hha, xv_si_ne hhb, hm, hcm, hcx, ← nI_succ]
  rw [e1]
  refine xv_aload_n (pc := 54) d_Check_reach_54 rfl rfl ?_
  refine xv_getR (pc := 55) d_Check_reach_55 f_Check_9 rfl k0 r0 ?_
  refine xv_iload_n (pc := 58) d_Check_reach_58 rfl rfl ?_
  refine xv_ald (pc := 59) d_Check_reach_59 ka (by show vp_in _ (xv_l u a); rw [la]; exact vp_in_nI (by omega) (by decide)) ?_
  refine xv_iload_n (pc := 60) d_Check_reach_60 rfl rfl ?_
  refine xv_icmp_ne (pc := 61) 68 d_Check_reach_61 (by decide) (fun h61 => ?_) (fun h61 => ?_)
  case refine_2 =>
    refine xv_iconst (pc := 64) 1 d_Check_reach_64 (by decide) ?_
    refine xv_goto (pc := 65) 69 d_Check_reach_65 (by decide) ?_
    exact xv_retzq (pc := 69) d_Check_reach_69 rfl (by decide) rfl rfl ⟨_, rfl, rfl, rfl⟩
  rw [hcx] at h61
  exact absurd (by rw [xv_si_ne (fun e => hha e.symm), xv_si_ne hab, xv_si_eq]) h61
theorem c_Check_reach_old {sc : Nat × (Nat → Int32)} {u : xv_M} {h a b c o f g n : Nat} {x : Nat} {y : Int32} (hF : xv_Ck u h a b) (hC : xv_Co u c o f g) (hr : xv_r u h 3 = some c) (hn : xv_i u c 3 = nI n) (hlt : n ≤ 265) (hx : x < n) (hH : ¬ xv_i u a x = -1) : xv_C sc 0 J_Check_reach [.ref h, .int (nI x), .int y] u (xv_N u) (xv_S u) (xv_pi (fun r w => r = xB (decide (xv_i u a x = y)) ∧ w = u)) := by
  obtain ⟨k0, r0, r1, ka, la, kb, lb, hab⟩ := hF
  have hcx : (nI x).toNatClampNeg = x := nI_clamp (by omega)
  refine xv_C_of (by decide) (Nat.le_refl _) (Nat.le_refl _) (xv_cat1 rfl) (Nat.le_of_ble_eq_true rfl) ?_
  show xv_X sc 0 J_Check_reach 0 [some (.ref h), some (.int (nI x)), some (.int y)] [] u (xv_N u) (xv_S u) _
  refine xv_iload_n (pc := 0) d_Check_reach_0 rfl rfl ?_
  refine xv_if_lt (pc := 1) 15 d_Check_reach_1 (by decide) (fun h1 => ?_) (fun h1 => ?_)
  · exact absurd h1 (nI_pos (by omega))
  refine xv_iload_n (pc := 4) d_Check_reach_4 rfl rfl ?_
  refine xv_aload_n (pc := 5) d_Check_reach_5 rfl rfl ?_
  refine xv_getR (pc := 6) d_Check_reach_6 f_Check_18 rfl k0 hr ?_
  refine xv_getI (pc := 9) d_Check_reach_9 f_Check_26 rfl hC.1 ?_
  refine xv_icmp_lt (pc := 12) 17 d_Check_reach_12 (by decide) (fun h12 => ?_) (fun h12 => ?_)
  case refine_2 =>
    rw [hn] at h12
    exact absurd (nI_lt hx (by omega)) h12
  refine xv_aload_n (pc := 17) d_Check_reach_17 rfl rfl ?_
  refine xv_getR (pc := 18) d_Check_reach_18 f_Check_9 rfl k0 r0 ?_
  refine xv_iload_n (pc := 21) d_Check_reach_21 rfl rfl ?_
  refine xv_ald (pc := 22) d_Check_reach_22 ka (by rw [la]; exact vp_in_nI (by omega) (by decide)) ?_
  refine xv_iconst (pc := 23) (-1) d_Check_reach_23 (by decide) ?_
  refine xv_icmp_ne (pc := 24) 54 d_Check_reach_24 (by decide) (fun h24 => ?_) (fun h24 => ?_)
  case refine_2 =>
    rw [hcx] at h24
    exact absurd h24 hH
  refine xv_aload_n (pc := 54) d_Check_reach_54 rfl rfl ?_
  refine xv_getR (pc := 55) d_Check_reach_55 f_Check_9 rfl k0 r0 ?_
  refine xv_iload_n (pc := 58) d_Check_reach_58 rfl rfl ?_
  refine xv_ald (pc := 59) d_Check_reach_59 ka (by rw [la]; exact vp_in_nI (by omega) (by decide)) ?_
  refine xv_iload_n (pc := 60) d_Check_reach_60 rfl rfl ?_
  refine xv_icmp_ne (pc := 61) 68 d_Check_reach_61 (by decide) (fun h61 => ?_) (fun h61 => ?_)
  · rw [hcx] at h61
    refine xv_iconst (pc := 68) 0 d_Check_reach_68 (by decide) ?_
    exact xv_retzq (pc := 69) d_Check_reach_69 rfl (by decide) rfl rfl ⟨_, rfl, by rw [decide_eq_false h61]; rfl, rfl⟩
  · rw [hcx] at h61
    refine xv_iconst (pc := 64) 1 d_Check_reach_64 (by decide) ?_
    refine xv_goto (pc := 65) 69 d_Check_reach_65 (by decide) ?_
    exact xv_retzq (pc := 69) d_Check_reach_69 rfl (by decide) rfl rfl ⟨_, rfl, by rw [decide_eq_true h61]; rfl, rfl⟩
/-! the check's memory: heights H, reached R, m of them -/
abbrev xCS : Type := (Nat → Int32) × (Nat → Int32) × Nat
def xCM (u : xv_M) (h a b : Nat) (σ : xCS) : xv_M := xv_si (xv_sw (xv_sw u a σ.1) b σ.2.1) h 2 (nI σ.2.2)
theorem xCM_new {u : xv_M} {h a b x : Nat} {σ : xCS} {y z : Int32} (hha : h ≠ a) (hhb : h ≠ b) (hab : a ≠ b) : xv_si (xv_si (xv_si (xCM u h a b σ) a x y) b σ.2.2 z) h 2 (nI (σ.2.2 + 1)) = xCM u h a b (upd σ.1 x y, upd σ.2.1 σ.2.2 z, σ.2.2 + 1) := by
  unfold xCM xv_si xv_sw
  congr 1
  funext c q
  simp only [xv_i, xv_mk]
  by_cases e1 : c = h
  · subst e1
    by_cases e2 : q = 2
    · subst e2; simp
    · simp [e2, hha, hhb]
  · by_cases e3 : c = b
    · subst e3
      by_cases e4 : q = σ.2.2
      · subst e4; simp [e1, upd]
      · simp [e1, e4, upd, Ne.symm hab]
    · by_cases e5 : c = a
      · subst e5
        by_cases e6 : q = x
        · subst e6; simp [e1, e3, upd]
        · simp [e1, e3, e6, upd]
      · simp [e1, e3, e5]
def xRch (n : Nat) (σ : xCS) (x y : Int32) : Bool × xCS := if x < 0 ∨ nI n ≤ x then (false, σ) else if σ.1 x.toNatClampNeg = -1 then (true, (upd σ.1 x.toNatClampNeg y, upd σ.2.1 σ.2.2 x, σ.2.2 + 1)) else (decide (σ.1 x.toNatClampNeg = y), σ)
theorem xCM_h {u : xv_M} {h a b : Nat} {σ : xCS} (hha : h ≠ a) (hab : a ≠ b) (q : Nat) : xv_i (xCM u h a b σ) a q = σ.1 q := by
  unfold xCM
  rw [xv_si_ne (Ne.symm hha), xv_sw_ne hab, xv_sw_eq]
theorem xCM_r {u : xv_M} {h a b : Nat} {σ : xCS} (hhb : h ≠ b) (q : Nat) : xv_i (xCM u h a b σ) b q = σ.2.1 q := by
  unfold xCM
  rw [xv_si_ne (Ne.symm hhb), xv_sw_eq]
theorem xCM_m {u : xv_M} {h a b : Nat} {σ : xCS} : xv_i (xCM u h a b σ) h 2 = nI σ.2.2 := xv_si_eq
theorem xCM_o {u : xv_M} {h a b c : Nat} {σ : xCS} (h1 : c ≠ h) (h2 : c ≠ a) (h3 : c ≠ b) (q : Nat) : xv_i (xCM u h a b σ) c q = xv_i u c q := by
  unfold xCM
  rw [xv_si_ne h1, xv_sw_ne h3, xv_sw_ne h2]
theorem c_Check_reach {sc : Nat × (Nat → Int32)} {u : xv_M} {h a b c o f g n : Nat} {σ : xCS} {x y : Int32} (hF : xv_Ck u h a b) (hC : xv_Co u c o f g) (hr : xv_r u h 3 = some c) (hn : xv_i u c 3 = nI n) (hlt : n ≤ 265) (hm : σ.2.2 ≤ 265) (hnew : ¬ (x < 0 ∨ nI n ≤ x) → σ.1 x.toNatClampNeg = -1 → σ.2.2 < 265) : xv_C sc 0 J_Check_reach [.ref h, .int x, .int y] (xCM u h a b σ) (xv_N u) (xv_S u) (xv_pi (fun r w => r = xB (xRch n σ x y).1 ∧ w = xCM u h a b (xRch n σ x y).2)) := by
  have hF0 := hF
  obtain ⟨k0, r0, r1, ka, la, kb, lb, hab⟩ := hF
  have hha := xv_ne k0 ka (by decide)
  have hhb := xv_ne k0 kb (by decide)
  have c1 := xv_ne hC.1 k0 (by decide)
  have c2 := xv_ne hC.1 ka (by decide)
  have c3 := xv_ne hC.1 kb (by decide)
  have hn' : xv_i (xCM u h a b σ) c 3 = nI n := by rw [xCM_o c1 c2 c3]; exact hn
  by_cases h1 : x < 0 ∨ nI n ≤ x
  · have e : xRch n σ x y = (false, σ) := if_pos h1
    rw [e]
    exact c_Check_reach_out (u := xCM u h a b σ) hF0 hC hr hn' hlt h1
  · obtain ⟨h2, h3⟩ := not_or.mp h1
    obtain ⟨q, hq, rfl⟩ : ∃ q : Nat, q < n ∧ x = nI q := by
      obtain ⟨q, hq, hx⟩ := nI_of h2
      exact ⟨q, Nat.not_le.mp (fun z => h3 (by rw [hx]; exact nI_le z (by omega))), hx⟩
    have hcq : (nI q).toNatClampNeg = q := nI_clamp (by omega)
    by_cases h4 : σ.1 q = -1
    · have e : xRch n σ (nI q) y = (true, (upd σ.1 q y, upd σ.2.1 σ.2.2 (nI q), σ.2.2 + 1)) := by
        unfold xRch
        rw [if_neg h1, hcq, if_pos h4]
      rw [e]
      have := c_Check_reach_new (sc := sc) (u := xCM u h a b σ) (y := y) hF0 hC hr hn' hlt hq xCM_m (hnew h1 (by rw [hcq]; exact h4)) (by rw [xCM_h hha hab]; exact h4)
      rw [xCM_new hha hhb hab] at this
      exact this
    · have e : xRch n σ (nI q) y = (decide (σ.1 q = y), σ) := by
        unfold xRch
        rw [if_neg h1, hcq, if_neg h4]
      rw [e]
      have := c_Check_reach_old (sc := sc) (u := xCM u h a b σ) (y := y) hF0 hC hr hn' hlt hq (by rw [xCM_h hha hab]; exact h4)
      rw [xCM_h hha hab] at this
      exact this

