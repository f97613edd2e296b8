/-! Code -/
def xv_Co (u : xv_M) (h o f g : Nat) : Prop := xv_k u h = 5 ∧ xv_r u h 0 = some o ∧ xv_r u h 1 = some f ∧ xv_r u h 2 = some g ∧ xv_k u o = 100 ∧ xv_l u o = 265 ∧ xv_k u f = 100 ∧ xv_l u f = 265 ∧ xv_k u g = 100 ∧ xv_l u g = 265
theorem c_Code_append {sc : Nat × (Nat → Int32)} {u : xv_M} {h o f g n : Nat} {x y : Int32} (hF : xv_Co u h o f g) (hn : xv_i u h 3 = nI n) (hlt : n < 265) : xv_C sc 0 J_Code_append [.ref h, .int x, .int y] u (xv_N u) (xv_S u) (xv_pv (fun w => w = xv_si (xv_si (xv_si (xv_si u o n x) f n y) g n 0) h 3 (nI (n + 1)))) := by
  obtain ⟨k0, r0, r1, r2, ko, lo, kf, lf, kg, lg⟩ := hF
  refine xv_C_of (by decide) (Nat.le_refl _) (Nat.le_refl _) (xv_cat1 rfl) (Nat.le_of_ble_eq_true rfl) ?_
  show xv_X sc 0 J_Code_append 0 [some (.ref h), some (.int x), some (.int y)] [] u (xv_N u) (xv_S u) _
  have hho := xv_ne k0 ko (by decide)
  have hhf := xv_ne k0 kf (by decide)
  have hhg := xv_ne k0 kg (by decide)
  have hc : (nI n).toNatClampNeg = n := nI_clamp (by omega)
  refine xv_aload_n (pc := 0) d_Code_append_0 rfl rfl ?_
  refine xv_getI (pc := 1) d_Code_append_1 f_Code_25 rfl k0 ?_
  refine xv_sipush (pc := 4) 265 d_Code_append_4 (by decide) ?_
  refine xv_icmp_ge (pc := 7) 50 d_Code_append_7 (by decide) (fun h7 => ?_) (fun h7 => ?_)
  · exact absurd (by rw [hn] at h7; exact h7) (nI_ge hlt (by decide))
  · refine xv_aload_n (pc := 10) d_Code_append_10 rfl rfl ?_
    refine xv_getR (pc := 11) d_Code_append_11 f_Code_9 rfl k0 r0 ?_
    refine xv_aload_n (pc := 14) d_Code_append_14 rfl rfl ?_
    refine xv_getI (pc := 15) d_Code_append_15 f_Code_25 rfl k0 ?_
    refine xv_iload_n (pc := 18) d_Code_append_18 rfl rfl ?_
    refine xv_ast (pc := 19) d_Code_append_19 ko (by rw [hn, lo]; exact vp_in_nI hlt (by decide)) ?_
    refine xv_aload_n (pc := 20) d_Code_append_20 rfl rfl ?_
    refine xv_getR (pc := 21) d_Code_append_21 f_Code_15 rfl k0 r1 ?_
    refine xv_aload_n (pc := 24) d_Code_append_24 rfl rfl ?_
    refine xv_getI (pc := 25) d_Code_append_25 f_Code_25 rfl k0 ?_
    refine xv_iload_n (pc := 28) d_Code_append_28 rfl rfl ?_
    refine xv_ast (pc := 29) d_Code_append_29 kf (by rw [xv_si_ne hho, hn]; show vp_in _ (xv_l u f); rw [lf]; exact vp_in_nI hlt (by decide)) ?_
    refine xv_aload_n (pc := 30) d_Code_append_30 rfl rfl ?_
    refine xv_getR (pc := 31) d_Code_append_31 f_Code_18 rfl k0 r2 ?_
    refine xv_aload_n (pc := 34) d_Code_append_34 rfl rfl ?_
    refine xv_getI (pc := 35) d_Code_append_35 f_Code_25 rfl k0 ?_
    refine xv_iconst (pc := 38) 0 d_Code_append_38 (by decide) ?_
    refine xv_ast (pc := 39) d_Code_append_39 kg (by rw [xv_si_ne hhf, xv_si_ne hho, hn]; show vp_in _ (xv_l u g); rw [lg]; exact vp_in_nI hlt (by decide)) ?_
    refine xv_aload_n (pc := 40) d_Code_append_40 rfl rfl ?_
    refine xv_dup_ref (pc := 41) d_Code_append_41 ?_
    refine xv_getI (pc := 42) d_Code_append_42 f_Code_25 rfl k0 ?_
    refine xv_iconst (pc := 45) 1 d_Code_append_45 (by decide) ?_
    refine xv_iadd (pc := 46) d_Code_append_46 ?_
    refine xv_putI (pc := 47) d_Code_append_47 f_Code_25 (Or.inl rfl) fin_4_3 k0 ?_
    exact xv_retvq (pc := 50) d_Code_append_50 rfl rfl rfl ⟨rfl, by simp only [xv_si_ne hho, xv_si_ne hhf, xv_si_ne hhg, hn, hc, ← nI_succ]⟩
def xFg (x : Int32) : Bool := decide (2 ≤ x ∧ x ≤ 12) || decide (17 ≤ x ∧ x ≤ 21)
theorem xw_ne {v l m : Int32} (h : ¬ xw v l m = 0) : l ≤ v ∧ v ≤ m := by
  unfold xw at h
  split at h
  · assumption
  · exact absurd rfl h
theorem xw_eq {v l m : Int32} (h : xw v l m = 0) : ¬ (l ≤ v ∧ v ≤ m) := by
  unfold xw at h
  split at h
  · exact absurd h (by decide)
  · assumption
theorem c_Code_forgeable {sc : Nat × (Nat → Int32)} {u : xv_M} {x : Int32} : xv_C sc 1 J_Code_forgeable [.int x] u (xv_N u) (xv_S u) (xv_pi (fun r w => r = xB (xFg x) ∧ w = u)) := by
  refine xv_C_of (by decide) (Nat.le_refl _) (Nat.le_refl _) (xv_cat1 rfl) (Nat.le_of_ble_eq_true rfl) ?_
  show xv_X sc 1 J_Code_forgeable 0 [some (.int x)] [] u (xv_N u) (xv_S u) _
  refine xv_iload_n (pc := 0) d_Code_forgeable_0 rfl rfl ?_
  refine xv_iconst (pc := 1) 2 d_Code_forgeable_1 (by decide) ?_
  refine xv_bipush (pc := 2) 12 d_Code_forgeable_2 (by decide) ?_
  refine xv_cSN3i (pc := 4) (d1 := 0) c_Desk_within m_Desk_within l_Code_21 d_Code_forgeable_4 (by omega) (Nat.le_of_ble_eq_true rfl) ⟨Nat.le_refl _, Nat.le_refl _⟩ (fun r w hw hN hS => ?_)
  obtain ⟨rfl, hw⟩ := hw
  subst w
  refine xv_if_ne (pc := 7) 21 d_Code_forgeable_7 (by decide) (fun h7 => ?_) (fun h7 => ?_)
  · have e := xw_ne h7
    refine xv_iconst (pc := 21) 1 d_Code_forgeable_21 (by decide) ?_
    refine xv_goto (pc := 22) 26 d_Code_forgeable_22 (by decide) ?_
    exact xv_retzq (pc := 26) d_Code_forgeable_26 rfl (by decide) rfl rfl ⟨_, rfl, by unfold xFg; rw [decide_eq_true e]; rfl, rfl⟩
  · have e := xw_eq h7
    refine xv_iload_n (pc := 10) d_Code_forgeable_10 rfl rfl ?_
    refine xv_bipush (pc := 11) 17 d_Code_forgeable_11 (by decide) ?_
    refine xv_bipush (pc := 13) 21 d_Code_forgeable_13 (by decide) ?_
    refine xv_cSN3i (pc := 15) (d1 := 0) c_Desk_within m_Desk_within l_Code_21 d_Code_forgeable_15 (by omega) (Nat.le_of_ble_eq_true rfl) ⟨Nat.le_refl _, Nat.le_refl _⟩ (fun r w hw hN hS => ?_)
    obtain ⟨rfl, hw⟩ := hw
    subst w
    refine xv_if_eq (pc := 18) 25 d_Code_forgeable_18 (by decide) (fun h18 => ?_) (fun h18 => ?_)
    · have e2 := xw_eq h18
      refine xv_iconst (pc := 25) 0 d_Code_forgeable_25 (by decide) ?_
      exact xv_retzq (pc := 26) d_Code_forgeable_26 rfl (by decide) rfl rfl ⟨_, rfl, by unfold xFg; rw [decide_eq_false e, decide_eq_false e2]; rfl, rfl⟩
    · have e2 := xw_ne h18
      refine xv_iconst (pc := 21) 1 d_Code_forgeable_21 (by decide) ?_
      refine xv_goto (pc := 22) 26 d_Code_forgeable_22 (by decide) ?_
      exact xv_retzq (pc := 26) d_Code_forgeable_26 rfl (by decide) rfl rfl ⟨_, rfl, by unfold xFg; rw [decide_eq_false e, decide_eq_true e2]; rfl, rfl⟩

