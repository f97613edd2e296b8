/-! the law's two helpers: their contracts, and what the law sees of their calls -/
theorem xw_hi : xv_hh J_Law_interpret.1 = [(0, 14, 17, 13), (0, 14, 21, 15)] := by decide +kernel
theorem xw_hr : xv_hh J_Law_run.1 = [(0, 14, 17, 13), (0, 14, 21, 15), (0, 14, 25, 20)] := by decide +kernel
theorem xw_ok_i12 : xw_ok J_Law_interpret.1.cls 9 12 17 (xv_hh J_Law_interpret.1) := by
  rw [xw_hi]
  exact ⟨⟨by decide, by decide, by decide⟩, 12, ⟨by decide, by decide⟩, k_578, Or.inl ⟨rfl, rfl⟩⟩
theorem xw_ok_i13 : xw_ok J_Law_interpret.1.cls 9 13 21 (xv_hh J_Law_interpret.1) := by
  rw [xw_hi]
  exact ⟨⟨by decide, by decide, by decide⟩, 12, ⟨by decide, by decide⟩, k_578, Or.inr ⟨by decide, ⟨⟨by decide, by decide, by decide⟩, 13, ⟨by decide, by decide⟩, k_579, Or.inl ⟨rfl, rfl⟩⟩⟩⟩
theorem xw_ok_r12 : xw_ok J_Law_run.1.cls 9 12 17 (xv_hh J_Law_run.1) := by
  rw [xw_hr]
  exact ⟨⟨by decide, by decide, by decide⟩, 12, ⟨by decide, by decide⟩, k_578, Or.inl ⟨rfl, rfl⟩⟩
theorem xw_ok_r13 : xw_ok J_Law_run.1.cls 9 13 21 (xv_hh J_Law_run.1) := by
  rw [xw_hr]
  exact ⟨⟨by decide, by decide, by decide⟩, 12, ⟨by decide, by decide⟩, k_578, Or.inr ⟨by decide, ⟨⟨by decide, by decide, by decide⟩, 13, ⟨by decide, by decide⟩, k_579, Or.inl ⟨rfl, rfl⟩⟩⟩⟩
theorem xw_ok_r14 : xw_ok J_Law_run.1.cls 9 14 25 (xv_hh J_Law_run.1) := by
  rw [xw_hr]
  exact ⟨⟨by decide, by decide, by decide⟩, 12, ⟨by decide, by decide⟩, k_578, Or.inr ⟨by decide, ⟨⟨by decide, by decide, by decide⟩, 13, ⟨by decide, by decide⟩, k_579, Or.inr ⟨by decide, ⟨⟨by decide, by decide, by decide⟩, 14, ⟨by decide, by decide⟩, k_761, Or.inl ⟨rfl, rfl⟩⟩⟩⟩⟩⟩
set_option maxRecDepth 100000 in
theorem xw_mi : Cond.codeWith J_Law_interpret.1 J_Law_interpret.2.1 J_Law_interpret.2.2.1 J_Law_interpret.2.2.2 (xv_hh J_Law_interpret.1) ∈ xv_BIG := by
  rw [xw_hi]
  exact xv_in 577 rfl rfl
set_option maxRecDepth 100000 in
theorem xw_mr : Cond.codeWith J_Law_run.1 J_Law_run.2.1 J_Law_run.2.2.1 J_Law_run.2.2.2 (xv_hh J_Law_run.1) ∈ xv_BIG := by
  rw [xw_hr]
  exact xv_in 760 rfl rfl
theorem yHq_0 {sc : Nat × (Nat → Int32)} {J : xv_J} {h N M : Nat} {f x y z v : Int32} {u w : xv_M} (hN : xv_N w = xv_N u) (hS : xv_S w = xv_S u) (hpm : yPM sc J h N M f x y z w 0 v) : yHq sc J h N M f x y z u 0 v (xv_sg w (M + 30) 0 v.toInt64) := by
  refine ⟨⟨Nat.le_of_eq hN.symm, ?_, Nat.le_of_eq hS.symm, ?_⟩, hpm.1, fun _ => if_pos ⟨rfl, rfl⟩, hpm.2 _ ⟨rfl, fun b => ⟨rfl, rfl, fun _ => rfl, fun _ => rfl⟩⟩⟩
  · show xv_N w ≤ _
    omega
  · show xv_S w ≤ _
    omega
theorem yHq_1 {sc : Nat × (Nat → Int32)} {J : xv_J} {h N M : Nat} {f x y z c v : Int32} {u w : xv_M} (hN : xv_N w = xv_N u + 1) (hS : xv_S w = xv_S u + 6) (hc : c ≠ 0) (hpm : yPM sc J h N M f x y z w c v) : yHq sc J h N M f x y z u c v w := by
  exact ⟨⟨by omega, by omega, by omega, by omega⟩, hpm.1, fun h => absurd h hc, hpm.2 _ ⟨rfl, fun b => ⟨rfl, rfl, fun _ => rfl, fun _ => rfl⟩⟩⟩
theorem lw_hI {sc : Nat × (Nat → Int32)} {u : xv_M} {h N M : Nat} (H : yTi u h N M) (f x y z : Int32) : ∃ (c v : Int32) (n s : Nat), (xv_N u ≤ n ∧ n ≤ xv_N u + 1 ∧ xv_S u ≤ s ∧ s ≤ xv_S u + 6) ∧ xv_Cw sc 52 J_Law_interpret [.ref h, .int f, .int x, .int y, .int z, .ref (M + 30)] u n s (xv_pi (fun r w => r = c ∧ yHq sc J_Model_interpret h N M f x y z u c v w)) := by
  have hk := yTi_k H
  obtain ⟨c, v, ⟨hc, hC⟩ | ⟨k, hkc, hC⟩⟩ := t_interp (sc := sc) H f x y z
  · subst hc
    refine ⟨0, v, xv_N u, xv_S u, ⟨by omega, by omega, by omega, by omega⟩, ?_⟩
    refine xv_Cw_of (by decide) (Nat.le_refl _) (Nat.le_refl _) (xv_cat1 rfl) (Nat.le_of_ble_eq_true rfl) ?_
    show xv_X sc 52 J_Law_interpret 0 [some (.ref h), some (.int f), some (.int x), some (.int y), some (.int z), some (.ref (M + 30)), none] [] u (xv_N u) (xv_S u) _
    refine xv_aload (pc := 0) d_Law_interpret_0 rfl ?_
    refine xv_iconst (pc := 2) 0 d_Law_interpret_2 (by decide) ?_
    refine xv_aload_n (pc := 3) d_Law_interpret_3 rfl rfl ?_
    refine xv_iload_n (pc := 4) d_Law_interpret_4 rfl rfl ?_
    refine xv_iload_n (pc := 5) d_Law_interpret_5 rfl rfl ?_
    refine xv_iload_n (pc := 6) d_Law_interpret_6 rfl rfl ?_
    refine xv_iload (pc := 7) d_Law_interpret_7 rfl ?_
    refine xv_cV4i (pc := 9) (d1 := 51) hC m_Desk_interpret l_Law_7 d_Law_interpret_9 (by omega) (by decide : 10 < xv_nc) rfl hk.1 (Nat.le_of_ble_eq_true rfl) ⟨Nat.le_refl _, Nat.le_refl _⟩ (fun r w hw hN hS => ?_)
    obtain ⟨hr, hpm⟩ := hw
    subst hr
    refine xv_i2l (pc := 12) d_Law_interpret_12 ?_
    refine xv_last (pc := 13) d_Law_interpret_13 hpm.1.2.1 (by show vp_in 0 (xv_l w (M + 30)); rw [hpm.1.2.2]; exact vp_in_nI (n := 0) (by omega) (by decide)) ?_
    refine xv_goto (pc := 14) 25 d_Law_interpret_14 (by decide) ?_
    refine xv_iconst (pc := 25) 0 d_Law_interpret_25 (by decide) ?_
    exact xv_retiq (pc := 26) d_Law_interpret_26 rfl hN hS ⟨_, rfl, rfl, yHq_0 hN hS hpm⟩
  · refine ⟨c, v, xv_N u + 1, xv_S u + 6, ⟨by omega, by omega, by omega, by omega⟩, ?_⟩
    refine xv_Cw_of (by decide) (Nat.le_succ _) (Nat.le_add_right _ _) (xv_cat1 rfl) (Nat.le_of_ble_eq_true rfl) ?_
    show xv_X sc 52 J_Law_interpret 0 [some (.ref h), some (.int f), some (.int x), some (.int y), some (.int z), some (.ref (M + 30)), none] [] u (xv_N u + 1) (xv_S u + 6) _
    refine xv_aload (pc := 0) d_Law_interpret_0 rfl ?_
    refine xv_iconst (pc := 2) 0 d_Law_interpret_2 (by decide) ?_
    refine xv_aload_n (pc := 3) d_Law_interpret_3 rfl rfl ?_
    refine xv_iload_n (pc := 4) d_Law_interpret_4 rfl rfl ?_
    refine xv_iload_n (pc := 5) d_Law_interpret_5 rfl rfl ?_
    refine xv_iload_n (pc := 6) d_Law_interpret_6 rfl rfl ?_
    refine xv_iload (pc := 7) d_Law_interpret_7 rfl ?_
    rcases hkc with ⟨rfl, rfl⟩ | ⟨rfl, rfl⟩
    · refine xv_catV (pc := 9) (hpc := 17) (k := 12) (as := [.int f, .int x, .int y, .int z]) (st := [.int 0, .ref (M + 30)]) hC (fun o w h => by obtain ⟨a, h, -⟩ := h; exact ⟨a, h⟩) m_Desk_interpret l_Law_7 rfl (by omega) (by decide : 10 < xv_nc) rfl hk.1 (Nat.le_of_ble_eq_true rfl) d_Law_interpret_9 ⟨Nat.le_refl _, Nat.le_refl _⟩ ⟨by decide, by decide⟩ xw_ok_i12 (fun b w hw hN hS => ?_)
      obtain ⟨a, -, hpm⟩ := hw
      refine xv_astore_6 (pc := 17) d_Law_interpret_17 (by decide) rfl ?_
      refine xv_iconst (pc := 19) 1 d_Law_interpret_19 (by decide) ?_
      exact xv_retiq (pc := 20) d_Law_interpret_20 rfl hN hS ⟨_, rfl, rfl, yHq_1 hN hS (by decide) hpm⟩
    · refine xv_catV (pc := 9) (hpc := 21) (k := 13) (as := [.int f, .int x, .int y, .int z]) (st := [.int 0, .ref (M + 30)]) hC (fun o w h => by obtain ⟨a, h, -⟩ := h; exact ⟨a, h⟩) m_Desk_interpret l_Law_7 rfl (by omega) (by decide : 10 < xv_nc) rfl hk.1 (Nat.le_of_ble_eq_true rfl) d_Law_interpret_9 ⟨Nat.le_refl _, Nat.le_refl _⟩ ⟨by decide, by decide⟩ xw_ok_i13 (fun b w hw hN hS => ?_)
      obtain ⟨a, -, hpm⟩ := hw
      refine xv_astore_6 (pc := 21) d_Law_interpret_21 (by decide) rfl ?_
      refine xv_iconst (pc := 23) 2 d_Law_interpret_23 (by decide) ?_
      exact xv_retiq (pc := 24) d_Law_interpret_24 rfl hN hS ⟨_, rfl, rfl, yHq_1 hN hS (by decide) hpm⟩
theorem lw_hR {sc : Nat × (Nat → Int32)} {u : xv_M} {h N M : Nat} (H : yTi u h N M) (f x y z : Int32) : ∃ (c v : Int32) (n s : Nat), (xv_N u ≤ n ∧ n ≤ xv_N u + 1 ∧ xv_S u ≤ s ∧ s ≤ xv_S u + 6) ∧ xv_Cw sc 46 J_Law_run [.ref h, .int f, .int x, .int y, .int z, .ref (M + 30)] u n s (xv_pi (fun r w => r = c ∧ yHq sc J_Model_run h N M f x y z u c v w)) := by
  have hk := yTi_k H
  obtain ⟨c, v, ⟨hc, hC⟩ | ⟨k, hkc, hC⟩⟩ := t_run (sc := sc) H f x y z
  · subst hc
    refine ⟨0, v, xv_N u, xv_S u, ⟨by omega, by omega, by omega, by omega⟩, ?_⟩
    refine xv_Cw_of (by decide) (Nat.le_refl _) (Nat.le_refl _) (xv_cat1 rfl) (Nat.le_of_ble_eq_true rfl) ?_
    show xv_X sc 46 J_Law_run 0 [some (.ref h), some (.int f), some (.int x), some (.int y), some (.int z), some (.ref (M + 30)), none] [] u (xv_N u) (xv_S u) _
    refine xv_aload (pc := 0) d_Law_run_0 rfl ?_
    refine xv_iconst (pc := 2) 0 d_Law_run_2 (by decide) ?_
    refine xv_aload_n (pc := 3) d_Law_run_3 rfl rfl ?_
    refine xv_iload_n (pc := 4) d_Law_run_4 rfl rfl ?_
    refine xv_iload_n (pc := 5) d_Law_run_5 rfl rfl ?_
    refine xv_iload_n (pc := 6) d_Law_run_6 rfl rfl ?_
    refine xv_iload (pc := 7) d_Law_run_7 rfl ?_
    refine xv_cV4i (pc := 9) (d1 := 45) hC m_Desk_run l_Law_17 d_Law_run_9 (by omega) (by decide : 10 < xv_nc) rfl hk.1 (Nat.le_of_ble_eq_true rfl) ⟨Nat.le_refl _, Nat.le_refl _⟩ (fun r w hw hN hS => ?_)
    obtain ⟨hr, hpm⟩ := hw
    subst hr
    refine xv_i2l (pc := 12) d_Law_run_12 ?_
    refine xv_last (pc := 13) d_Law_run_13 hpm.1.2.1 (by show vp_in 0 (xv_l w (M + 30)); rw [hpm.1.2.2]; exact vp_in_nI (n := 0) (by omega) (by decide)) ?_
    refine xv_goto (pc := 14) 29 d_Law_run_14 (by decide) ?_
    refine xv_iconst (pc := 29) 0 d_Law_run_29 (by decide) ?_
    exact xv_retiq (pc := 30) d_Law_run_30 rfl hN hS ⟨_, rfl, rfl, yHq_0 hN hS hpm⟩
  · refine ⟨c, v, xv_N u + 1, xv_S u + 6, ⟨by omega, by omega, by omega, by omega⟩, ?_⟩
    refine xv_Cw_of (by decide) (Nat.le_succ _) (Nat.le_add_right _ _) (xv_cat1 rfl) (Nat.le_of_ble_eq_true rfl) ?_
    show xv_X sc 46 J_Law_run 0 [some (.ref h), some (.int f), some (.int x), some (.int y), some (.int z), some (.ref (M + 30)), none] [] u (xv_N u + 1) (xv_S u + 6) _
    refine xv_aload (pc := 0) d_Law_run_0 rfl ?_
    refine xv_iconst (pc := 2) 0 d_Law_run_2 (by decide) ?_
    refine xv_aload_n (pc := 3) d_Law_run_3 rfl rfl ?_
    refine xv_iload_n (pc := 4) d_Law_run_4 rfl rfl ?_
    refine xv_iload_n (pc := 5) d_Law_run_5 rfl rfl ?_
    refine xv_iload_n (pc := 6) d_Law_run_6 rfl rfl ?_
    refine xv_iload (pc := 7) d_Law_run_7 rfl ?_
    rcases hkc with ⟨rfl, rfl⟩ | ⟨rfl, rfl⟩ | ⟨rfl, rfl⟩
    · refine xv_catV (pc := 9) (hpc := 17) (k := 12) (as := [.int f, .int x, .int y, .int z]) (st := [.int 0, .ref (M + 30)]) hC (fun o w h => by obtain ⟨a, h, -⟩ := h; exact ⟨a, h⟩) m_Desk_run l_Law_17 rfl (by omega) (by decide : 10 < xv_nc) rfl hk.1 (Nat.le_of_ble_eq_true rfl) d_Law_run_9 ⟨Nat.le_refl _, Nat.le_refl _⟩ ⟨by decide, by decide⟩ xw_ok_r12 (fun b w hw hN hS => ?_)
      obtain ⟨a, -, hpm⟩ := hw
      refine xv_astore_6 (pc := 17) d_Law_run_17 (by decide) rfl ?_
      refine xv_iconst (pc := 19) 1 d_Law_run_19 (by decide) ?_
      exact xv_retiq (pc := 20) d_Law_run_20 rfl hN hS ⟨_, rfl, rfl, yHq_1 hN hS (by decide) hpm⟩
    · refine xv_catV (pc := 9) (hpc := 21) (k := 13) (as := [.int f, .int x, .int y, .int z]) (st := [.int 0, .ref (M + 30)]) hC (fun o w h => by obtain ⟨a, h, -⟩ := h; exact ⟨a, h⟩) m_Desk_run l_Law_17 rfl (by omega) (by decide : 10 < xv_nc) rfl hk.1 (Nat.le_of_ble_eq_true rfl) d_Law_run_9 ⟨Nat.le_refl _, Nat.le_refl _⟩ ⟨by decide, by decide⟩ xw_ok_r13 (fun b w hw hN hS => ?_)
      obtain ⟨a, -, hpm⟩ := hw
      refine xv_astore_6 (pc := 21) d_Law_run_21 (by decide) rfl ?_
      refine xv_iconst (pc := 23) 2 d_Law_run_23 (by decide) ?_
      exact xv_retiq (pc := 24) d_Law_run_24 rfl hN hS ⟨_, rfl, rfl, yHq_1 hN hS (by decide) hpm⟩
    · refine xv_catV (pc := 9) (hpc := 25) (k := 14) (as := [.int f, .int x, .int y, .int z]) (st := [.int 0, .ref (M + 30)]) hC (fun o w h => by obtain ⟨a, h, -⟩ := h; exact ⟨a, h⟩) m_Desk_run l_Law_17 rfl (by omega) (by decide : 10 < xv_nc) rfl hk.1 (Nat.le_of_ble_eq_true rfl) d_Law_run_9 ⟨Nat.le_refl _, Nat.le_refl _⟩ ⟨by decide, by decide⟩ xw_ok_r14 (fun b w hw hN hS => ?_)
      obtain ⟨a, -, hpm⟩ := hw
      refine xv_astore_6 (pc := 25) d_Law_run_25 (by decide) rfl ?_
      refine xv_iconst (pc := 27) 3 d_Law_run_27 (by decide) ?_
      exact xv_retiq (pc := 28) d_Law_run_28 rfl hN hS ⟨_, rfl, rfl, yHq_1 hN hS (by decide) hpm⟩
set_option maxRecDepth 100000 in
theorem xw_si : Cond.static J_Law_interpret.1 ∈ xv_BIG := xv_in 576 rfl rfl
set_option maxRecDepth 100000 in
theorem xw_sr : Cond.static J_Law_run.1 ∈ xv_BIG := xv_in 759 rfl rfl
set_option maxRecDepth 100000 in
theorem xw_il : Cond.initialized "FaslDeskLaw" ∈ xv_BIG := xv_in 0 rfl rfl
theorem xw_pi {p : Int32 → xv_M → Prop} : ∀ o w, xv_pi p o w → ∃ v, o = .inl v := fun _ _ h => by obtain ⟨a, h, -⟩ := h; exact ⟨_, h⟩
theorem lw_cI {sc : Nat × (Nat → Int32)} {d : Nat} {u : xv_M} {h N M n1 s1 : Nat} {lv : List (Option Value)} {P : xv_P} (hd : 100 ≤ d) (hn1 : xv_N u + 1 ≤ n1) (hs1 : xv_S u + 6 ≤ s1) (H : yTi u h N M) : yHr sc d 217 J_Model_interpret h N M lv u n1 s1 P := by
  intro f x y z k
  obtain ⟨c, v, n, s, ⟨b1, b2, b3, b4⟩, hC⟩ := lw_hI (sc := sc) H f x y z
  refine xv_calSw (pc := 217) (n := 6) (as := [.ref h, .int f, .int x, .int y, .int z, .ref (M + 30)]) (st := []) hC xw_pi xw_mi xw_si xw_il ⟨by decide, by decide, by decide +kernel⟩ (by decide) l_Law_40 rfl (by omega) (Nat.le_of_ble_eq_true rfl) d_Law_law_217 ⟨by omega, by omega⟩ (fun v' w hw hN hS => ?_)
  obtain ⟨r, hv, hr, hq⟩ := hw
  injection hv with hv
  subst hv
  subst hr
  exact k _ v w hq
theorem lw_cR {sc : Nat × (Nat → Int32)} {d : Nat} {u : xv_M} {h N M n1 s1 : Nat} {lv : List (Option Value)} {P : xv_P} (hd : 100 ≤ d) (hn1 : xv_N u + 1 ≤ n1) (hs1 : xv_S u + 6 ≤ s1) (H : yTi u h N M) : yHr sc d 470 J_Model_run h N M lv u n1 s1 P := by
  intro f x y z k
  obtain ⟨c, v, n, s, ⟨b1, b2, b3, b4⟩, hC⟩ := lw_hR (sc := sc) H f x y z
  refine xv_calSw (pc := 470) (n := 6) (as := [.ref h, .int f, .int x, .int y, .int z, .ref (M + 30)]) (st := []) hC xw_pi xw_mr xw_sr xw_il ⟨by decide, by decide, by decide +kernel⟩ (by decide) l_Law_71 rfl (by omega) (Nat.le_of_ble_eq_true rfl) d_Law_law_470 ⟨by omega, by omega⟩ (fun v' w hw hN hS => ?_)
  obtain ⟨r, hv, hr, hq⟩ := hw
  injection hv with hv
  subst hv
  subst hr
  exact k _ v w hq

