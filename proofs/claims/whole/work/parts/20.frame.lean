/-! Frame -/
def xv_Fr (u : xv_M) (h v s : Nat) : Prop := xv_k u h = 2 ∧ xv_r u h 0 = some v ∧ xv_r u h 1 = some s ∧ xv_k u v = 100 ∧ xv_l u v = 7 ∧ xv_k u s = 100 ∧ xv_l u s = 42
theorem c_Frame_push {sc : Nat × (Nat → Int32)} {u : xv_M} {h v s n : Nat} {x : Int32} (hF : xv_Fr u h v s) (hn : xv_i u h 2 = nI n) (hlt : n < 42) : xv_C sc 0 J_Frame_push [.ref h, .int x] u (xv_N u) (xv_S u) (xv_pv (fun w => w = xv_si (xv_si u s n x) h 2 (nI (n + 1)))) := by
  obtain ⟨k0, r0, r1, kv, lv, ks, ls⟩ := hF
  refine xv_C_of (by decide) (Nat.le_refl _) (Nat.le_refl _) (xv_cat1 rfl) (Nat.le_of_ble_eq_true rfl) ?_
  show xv_X sc 0 J_Frame_push 0 [some (.ref h), some (.int x)] [] u (xv_N u) (xv_S u) _
  have hne := xv_ne k0 ks (by decide)
  have hc : (nI n).toNatClampNeg = n := nI_clamp (by omega)
  refine xv_aload_n (pc := 0) d_Frame_push_0 rfl rfl ?_
  refine xv_getI (pc := 1) d_Frame_push_1 f_Frame_24 rfl k0 ?_
  refine xv_bipush (pc := 4) 42 d_Frame_push_4 (by decide) ?_
  refine xv_icmp_ge (pc := 6) 29 d_Frame_push_6 (by decide) (fun h6 => ?_) (fun h6 => ?_)
  · exact absurd (by rw [hn] at h6; exact h6) (nI_ge hlt (by decide))
  · refine xv_aload_n (pc := 9) d_Frame_push_9 rfl rfl ?_
    refine xv_getR (pc := 10) d_Frame_push_10 f_Frame_15 rfl k0 r1 ?_
    refine xv_aload_n (pc := 13) d_Frame_push_13 rfl rfl ?_
    refine xv_getI (pc := 14) d_Frame_push_14 f_Frame_24 rfl k0 ?_
    refine xv_iload_n (pc := 17) d_Frame_push_17 rfl rfl ?_
    refine xv_ast (pc := 18) d_Frame_push_18 ks (by rw [hn, ls]; exact vp_in_nI hlt (by decide)) ?_
    refine xv_aload_n (pc := 19) d_Frame_push_19 rfl rfl ?_
    refine xv_dup_ref (pc := 20) d_Frame_push_20 ?_
    refine xv_getI (pc := 21) d_Frame_push_21 f_Frame_24 rfl k0 ?_
    refine xv_iconst (pc := 24) 1 d_Frame_push_24 (by decide) ?_
    refine xv_iadd (pc := 25) d_Frame_push_25 ?_
    refine xv_putI (pc := 26) d_Frame_push_26 f_Frame_24 (Or.inl rfl) fin_1_2 k0 ?_
    exact xv_retvq (pc := 29) d_Frame_push_29 rfl rfl rfl ⟨rfl, by rw [xv_si_ne hne, hn, hc, ← nI_succ]⟩
theorem c_Frame_pop {sc : Nat × (Nat → Int32)} {u : xv_M} {h v s n : Nat} (hF : xv_Fr u h v s) (hn : xv_i u h 2 = nI (n + 1)) (hlt : n < 42) : xv_C sc 0 J_Frame_pop [.ref h] u (xv_N u) (xv_S u) (xv_pi (fun r w => r = xv_i u s n ∧ w = xv_si u h 2 (nI n))) := by
  obtain ⟨k0, r0, r1, kv, lv, ks, ls⟩ := hF
  refine xv_C_of (by decide) (Nat.le_refl _) (Nat.le_refl _) (xv_cat1 rfl) (Nat.le_of_ble_eq_true rfl) ?_
  show xv_X sc 0 J_Frame_pop 0 [some (.ref h)] [] u (xv_N u) (xv_S u) _
  have hne := (xv_ne k0 ks (by decide)).symm
  have hc : (nI n).toNatClampNeg = n := nI_clamp (by omega)
  have e : xv_i u h 2 - 1 = nI n := by rw [hn, nI_pred]
  refine xv_aload_n (pc := 0) d_Frame_pop_0 rfl rfl ?_
  refine xv_getI (pc := 1) d_Frame_pop_1 f_Frame_24 rfl k0 ?_
  refine xv_if_ne (pc := 4) 9 d_Frame_pop_4 (by decide) (fun h4 => ?_) (fun h4 => ?_)
  · refine xv_aload_n (pc := 9) d_Frame_pop_9 rfl rfl ?_
    refine xv_dup_ref (pc := 10) d_Frame_pop_10 ?_
    refine xv_getI (pc := 11) d_Frame_pop_11 f_Frame_24 rfl k0 ?_
    refine xv_iconst (pc := 14) 1 d_Frame_pop_14 (by decide) ?_
    refine xv_isub (pc := 15) d_Frame_pop_15 ?_
    refine xv_putI (pc := 16) d_Frame_pop_16 f_Frame_24 (Or.inl rfl) fin_1_2 k0 ?_
    refine xv_aload_n (pc := 19) d_Frame_pop_19 rfl rfl ?_
    refine xv_getR (pc := 20) d_Frame_pop_20 f_Frame_15 rfl k0 r1 ?_
    refine xv_aload_n (pc := 23) d_Frame_pop_23 rfl rfl ?_
    refine xv_getI (pc := 24) d_Frame_pop_24 f_Frame_24 rfl k0 ?_
    refine xv_ald (pc := 27) d_Frame_pop_27 ks (by rw [xv_si_eq, e]; show vp_in _ (xv_l u s); rw [ls]; exact vp_in_nI hlt (by decide)) ?_
    exact xv_retiq (pc := 28) d_Frame_pop_28 rfl rfl rfl ⟨_, rfl, by rw [xv_si_eq, e, hc, xv_si_ne hne], by rw [e]⟩
  · exact absurd (by rw [hn] at h4; exact h4) (nI_ne0 (by omega) (by omega))
theorem c_Frame_top {sc : Nat × (Nat → Int32)} {u : xv_M} {h v s n : Nat} (hF : xv_Fr u h v s) (hn : xv_i u h 2 = nI (n + 1)) (hlt : n < 42) : xv_C sc 0 J_Frame_top [.ref h] u (xv_N u) (xv_S u) (xv_pi (fun r w => r = xv_i u s n ∧ w = u)) := by
  obtain ⟨k0, r0, r1, kv, lv, ks, ls⟩ := hF
  refine xv_C_of (by decide) (Nat.le_refl _) (Nat.le_refl _) (xv_cat1 rfl) (Nat.le_of_ble_eq_true rfl) ?_
  show xv_X sc 0 J_Frame_top 0 [some (.ref h)] [] u (xv_N u) (xv_S u) _
  have hc : (nI n).toNatClampNeg = n := nI_clamp (by omega)
  have e : xv_i u h 2 - 1 = nI n := by rw [hn, nI_pred]
  refine xv_aload_n (pc := 0) d_Frame_top_0 rfl rfl ?_
  refine xv_getI (pc := 1) d_Frame_top_1 f_Frame_24 rfl k0 ?_
  refine xv_if_ne (pc := 4) 11 d_Frame_top_4 (by decide) (fun h4 => ?_) (fun h4 => ?_)
  · refine xv_aload_n (pc := 11) d_Frame_top_11 rfl rfl ?_
    refine xv_getR (pc := 12) d_Frame_top_12 f_Frame_15 rfl k0 r1 ?_
    refine xv_aload_n (pc := 15) d_Frame_top_15 rfl rfl ?_
    refine xv_getI (pc := 16) d_Frame_top_16 f_Frame_24 rfl k0 ?_
    refine xv_iconst (pc := 19) 1 d_Frame_top_19 (by decide) ?_
    refine xv_isub (pc := 20) d_Frame_top_20 ?_
    refine xv_ald (pc := 21) d_Frame_top_21 ks (by rw [e, ls]; exact vp_in_nI hlt (by decide)) ?_
    exact xv_retiq (pc := 22) d_Frame_top_22 rfl rfl rfl ⟨_, rfl, by rw [e, hc], rfl⟩
  · exact absurd (by rw [hn] at h4; exact h4) (nI_ne0 (by omega) (by omega))

