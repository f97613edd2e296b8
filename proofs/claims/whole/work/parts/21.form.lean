/-! Form: rows of tokens -/
def xv_Fo (u : xv_M) (h o a t : Nat) : Prop := xv_k u h = 1 ∧ xv_r u h 0 = some o ∧ xv_r u h 1 = some a ∧ xv_r u h 4 = some t ∧ xv_k u o = 100 ∧ xv_l u o = 40 ∧ xv_k u a = 100 ∧ xv_l u a = 40 ∧ xv_k u t = 100 ∧ xv_l u t = 120
def xOkT (o a : Int32) : Int32 := if o = 1 ∨ o = 15 then xw a 0 6 else if o = 13 then xw a 0 5 else if o = 14 ∨ o = 16 then xw a 3 6 else if o = 17 then xw a 0 7 else xw o 0 17
theorem c_Form_allows {sc : Nat × (Nat → Int32)} {u : xv_M} {x y : Int32} : xv_C sc 1 J_Form_allows [.int x, .int y] u (xv_N u) (xv_S u) (xv_pi (fun r w => r = xOkT x y ∧ w = u)) := by
  refine xv_C_of (by decide) (Nat.le_refl _) (Nat.le_refl _) (xv_cat1 rfl) (Nat.le_of_ble_eq_true rfl) ?_
  show xv_X sc 1 J_Form_allows 0 [some (.int x), some (.int y)] [] u (xv_N u) (xv_S u) _
  refine xv_iload_n (pc := 0) d_Form_allows_0 rfl rfl ?_
  by_cases e1 : x = 1
  · subst e1
    refine xv_tableIn (pc := 1) (off := 83) 84 d_Form_allows_1 (by decide) (by decide) (by decide) (by decide) ?_
    refine xv_iload_n (pc := 84) d_Form_allows_84 rfl rfl ?_
    refine xv_iconst (pc := 85) 0 d_Form_allows_85 (by decide) ?_
    refine xv_bipush (pc := 86) 6 d_Form_allows_86 (by decide) ?_
    refine xv_cSN3i (pc := 88) (d1 := 0) c_Desk_within m_Desk_within l_Form_21 d_Form_allows_88 (by omega) (Nat.le_of_ble_eq_true rfl) ⟨Nat.le_refl _, Nat.le_refl _⟩ (fun r w hw hN hS => ?_)
    obtain ⟨rfl, rfl⟩ := hw
    exact xv_retzq (pc := 91) d_Form_allows_91 rfl (xw_and _ _ _) rfl rfl ⟨_, rfl, by unfold xOkT; rfl, rfl⟩
  by_cases e2 : x = 15
  · subst e2
    refine xv_tableIn (pc := 1) (off := 83) 84 d_Form_allows_1 (by decide) (by decide) (by decide) (by decide) ?_
    refine xv_iload_n (pc := 84) d_Form_allows_84 rfl rfl ?_
    refine xv_iconst (pc := 85) 0 d_Form_allows_85 (by decide) ?_
    refine xv_bipush (pc := 86) 6 d_Form_allows_86 (by decide) ?_
    refine xv_cSN3i (pc := 88) (d1 := 0) c_Desk_within m_Desk_within l_Form_21 d_Form_allows_88 (by omega) (Nat.le_of_ble_eq_true rfl) ⟨Nat.le_refl _, Nat.le_refl _⟩ (fun r w hw hN hS => ?_)
    obtain ⟨rfl, rfl⟩ := hw
    exact xv_retzq (pc := 91) d_Form_allows_91 rfl (xw_and _ _ _) rfl rfl ⟨_, rfl, by unfold xOkT; rfl, rfl⟩
  by_cases e3 : x = 13
  · subst e3
    refine xv_tableIn (pc := 1) (off := 91) 92 d_Form_allows_1 (by decide) (by decide) (by decide) (by decide) ?_
    refine xv_iload_n (pc := 92) d_Form_allows_92 rfl rfl ?_
    refine xv_iconst (pc := 93) 0 d_Form_allows_93 (by decide) ?_
    refine xv_iconst (pc := 94) 5 d_Form_allows_94 (by decide) ?_
    refine xv_cSN3i (pc := 95) (d1 := 0) c_Desk_within m_Desk_within l_Form_21 d_Form_allows_95 (by omega) (Nat.le_of_ble_eq_true rfl) ⟨Nat.le_refl _, Nat.le_refl _⟩ (fun r w hw hN hS => ?_)
    obtain ⟨rfl, rfl⟩ := hw
    exact xv_retzq (pc := 98) d_Form_allows_98 rfl (xw_and _ _ _) rfl rfl ⟨_, rfl, by unfold xOkT; rfl, rfl⟩
  by_cases e4 : x = 14
  · subst e4
    refine xv_tableIn (pc := 1) (off := 98) 99 d_Form_allows_1 (by decide) (by decide) (by decide) (by decide) ?_
    refine xv_iload_n (pc := 99) d_Form_allows_99 rfl rfl ?_
    refine xv_iconst (pc := 100) 3 d_Form_allows_100 (by decide) ?_
    refine xv_bipush (pc := 101) 6 d_Form_allows_101 (by decide) ?_
    refine xv_cSN3i (pc := 103) (d1 := 0) c_Desk_within m_Desk_within l_Form_21 d_Form_allows_103 (by omega) (Nat.le_of_ble_eq_true rfl) ⟨Nat.le_refl _, Nat.le_refl _⟩ (fun r w hw hN hS => ?_)
    obtain ⟨rfl, rfl⟩ := hw
    exact xv_retzq (pc := 106) d_Form_allows_106 rfl (xw_and _ _ _) rfl rfl ⟨_, rfl, by unfold xOkT; rfl, rfl⟩
  by_cases e5 : x = 16
  · subst e5
    refine xv_tableIn (pc := 1) (off := 98) 99 d_Form_allows_1 (by decide) (by decide) (by decide) (by decide) ?_
    refine xv_iload_n (pc := 99) d_Form_allows_99 rfl rfl ?_
    refine xv_iconst (pc := 100) 3 d_Form_allows_100 (by decide) ?_
    refine xv_bipush (pc := 101) 6 d_Form_allows_101 (by decide) ?_
    refine xv_cSN3i (pc := 103) (d1 := 0) c_Desk_within m_Desk_within l_Form_21 d_Form_allows_103 (by omega) (Nat.le_of_ble_eq_true rfl) ⟨Nat.le_refl _, Nat.le_refl _⟩ (fun r w hw hN hS => ?_)
    obtain ⟨rfl, rfl⟩ := hw
    exact xv_retzq (pc := 106) d_Form_allows_106 rfl (xw_and _ _ _) rfl rfl ⟨_, rfl, by unfold xOkT; rfl, rfl⟩
  by_cases e6 : x = 17
  · subst e6
    refine xv_tableIn (pc := 1) (off := 106) 107 d_Form_allows_1 (by decide) (by decide) (by decide) (by decide) ?_
    refine xv_iload_n (pc := 107) d_Form_allows_107 rfl rfl ?_
    refine xv_iconst (pc := 108) 0 d_Form_allows_108 (by decide) ?_
    refine xv_bipush (pc := 109) 7 d_Form_allows_109 (by decide) ?_
    refine xv_cSN3i (pc := 111) (d1 := 0) c_Desk_within m_Desk_within l_Form_21 d_Form_allows_111 (by omega) (Nat.le_of_ble_eq_true rfl) ⟨Nat.le_refl _, Nat.le_refl _⟩ (fun r w hw hN hS => ?_)
    obtain ⟨rfl, rfl⟩ := hw
    exact xv_retzq (pc := 114) d_Form_allows_114 rfl (xw_and _ _ _) rfl rfl ⟨_, rfl, by unfold xOkT; rfl, rfl⟩
  refine xv_tableTo (pc := 1) 115 [1, 13, 14, 15, 16, 17] d_Form_allows_1 (by decide) (by decide) (by decide) (List.forall_mem_cons.mpr ⟨lv_neT e1 (by decide), (List.forall_mem_cons.mpr ⟨lv_neT e3 (by decide), (List.forall_mem_cons.mpr ⟨lv_neT e4 (by decide), (List.forall_mem_cons.mpr ⟨lv_neT e2 (by decide), (List.forall_mem_cons.mpr ⟨lv_neT e5 (by decide), (List.forall_mem_cons.mpr ⟨lv_neT e6 (by decide), (fun _ h => absurd h List.not_mem_nil)⟩)⟩)⟩)⟩)⟩)⟩) ?_
  refine xv_iload_n (pc := 115) d_Form_allows_115 rfl rfl ?_
  refine xv_iconst (pc := 116) 0 d_Form_allows_116 (by decide) ?_
  refine xv_bipush (pc := 117) 17 d_Form_allows_117 (by decide) ?_
  refine xv_cSN3i (pc := 119) (d1 := 0) c_Desk_within m_Desk_within l_Form_21 d_Form_allows_119 (by omega) (Nat.le_of_ble_eq_true rfl) ⟨Nat.le_refl _, Nat.le_refl _⟩ (fun r w hw hN hS => ?_)
  obtain ⟨rfl, rfl⟩ := hw
  exact xv_retzq (pc := 122) d_Form_allows_122 rfl (xw_and _ _ _) rfl rfl ⟨_, rfl, by unfold xOkT; simp only [e1, e2, e3, e4, e5, e6, or_self, if_false], rfl⟩
theorem c_Form_append {sc : Nat × (Nat → Int32)} {u : xv_M} {h o a t n : Nat} {x y : Int32} (hF : xv_Fo u h o a t) (hoa : o ≠ a) (hn : xv_i u h 2 = nI n) (hlt : n < 40) : xv_C sc 0 J_Form_append [.ref h, .int x, .int y] u (xv_N u) (xv_S u) (xv_pv (fun w => w = xv_si (xv_si (xv_si u o n x) a n y) h 2 (nI (n + 1)))) := by
  obtain ⟨k0, r0, r1, r4, ko, lo, ka, la, kt, lt⟩ := hF
  refine xv_C_of (by decide) (Nat.le_refl _) (Nat.le_refl _) (xv_cat1 rfl) (Nat.le_of_ble_eq_true rfl) ?_
  show xv_X sc 0 J_Form_append 0 [some (.ref h), some (.int x), some (.int y)] [] u (xv_N u) (xv_S u) _
  have hho := xv_ne k0 ko (by decide)
  have hha := xv_ne k0 ka (by decide)
  have hc : (nI n).toNatClampNeg = n := nI_clamp (by omega)
  refine xv_aload_n (pc := 0) d_Form_append_0 rfl rfl ?_
  refine xv_getI (pc := 1) d_Form_append_1 f_Form_25 rfl k0 ?_
  refine xv_bipush (pc := 4) 40 d_Form_append_4 (by decide) ?_
  refine xv_icmp_ge (pc := 6) 39 d_Form_append_6 (by decide) (fun h6 => ?_) (fun h6 => ?_)
  · exact absurd (by rw [hn] at h6; exact h6) (nI_ge hlt (by decide))
  · refine xv_aload_n (pc := 9) d_Form_append_9 rfl rfl ?_
    refine xv_getR (pc := 10) d_Form_append_10 f_Form_9 rfl k0 r0 ?_
    refine xv_aload_n (pc := 13) d_Form_append_13 rfl rfl ?_
    refine xv_getI (pc := 14) d_Form_append_14 f_Form_25 rfl k0 ?_
    refine xv_iload_n (pc := 17) d_Form_append_17 rfl rfl ?_
    refine xv_ast (pc := 18) d_Form_append_18 ko (by rw [hn, lo]; exact vp_in_nI hlt (by decide)) ?_
    refine xv_aload_n (pc := 19) d_Form_append_19 rfl rfl ?_
    refine xv_getR (pc := 20) d_Form_append_20 f_Form_15 rfl k0 r1 ?_
    refine xv_aload_n (pc := 23) d_Form_append_23 rfl rfl ?_
    refine xv_getI (pc := 24) d_Form_append_24 f_Form_25 rfl k0 ?_
    refine xv_iload_n (pc := 27) d_Form_append_27 rfl rfl ?_
    refine xv_ast (pc := 28) d_Form_append_28 ka (by rw [xv_si_ne hho, hn]; show vp_in _ (xv_l u a); rw [la]; exact vp_in_nI hlt (by decide)) ?_
    refine xv_aload_n (pc := 29) d_Form_append_29 rfl rfl ?_
    refine xv_dup_ref (pc := 30) d_Form_append_30 ?_
    refine xv_getI (pc := 31) d_Form_append_31 f_Form_25 rfl k0 ?_
    refine xv_iconst (pc := 34) 1 d_Form_append_34 (by decide) ?_
    refine xv_iadd (pc := 35) d_Form_append_35 ?_
    refine xv_putI (pc := 36) d_Form_append_36 f_Form_25 (Or.inl rfl) fin_0_2 k0 ?_
    exact xv_retvq (pc := 39) d_Form_append_39 rfl rfl rfl ⟨rfl, by simp only [xv_si_ne hho, xv_si_ne hha, hn, hc, ← nI_succ]⟩
theorem c_Form_start {sc : Nat × (Nat → Int32)} {u : xv_M} {h o a t p j : Nat} (hF : xv_Fo u h o a t) (hp : p < 40) (hj : j < 3) : xv_C sc 0 J_Form_start [.ref h, .int (nI p), .int (nI j)] u (xv_N u) (xv_S u) (xv_pi (fun r w => r = xv_i u t (p * 3 + j) ∧ w = u)) := by
  obtain ⟨k0, r0, r1, r4, ko, lo, ka, la, kt, lt⟩ := hF
  refine xv_C_of (by decide) (Nat.le_refl _) (Nat.le_refl _) (xv_cat1 rfl) (Nat.le_of_ble_eq_true rfl) ?_
  show xv_X sc 0 J_Form_start 0 [some (.ref h), some (.int (nI p)), some (.int (nI j))] [] u (xv_N u) (xv_S u) _
  have e : nI p * 3 + nI j = nI (p * 3 + j) := by rw [← nI_add, ← pk_mul]; rfl
  have hc : (nI (p * 3 + j)).toNatClampNeg = p * 3 + j := nI_clamp (by omega)
  refine xv_aload_n (pc := 0) d_Form_start_0 rfl rfl ?_
  refine xv_getR (pc := 1) d_Form_start_1 f_Form_18 rfl k0 r4 ?_
  refine xv_iload_n (pc := 4) d_Form_start_4 rfl rfl ?_
  refine xv_iconst (pc := 5) 3 d_Form_start_5 (by decide) ?_
  refine xv_imul (pc := 6) d_Form_start_6 ?_
  refine xv_iload_n (pc := 7) d_Form_start_7 rfl rfl ?_
  refine xv_iadd (pc := 8) d_Form_start_8 ?_
  refine xv_ald (pc := 9) d_Form_start_9 kt (by rw [e, lt]; exact vp_in_nI (by omega) (by decide)) ?_
  exact xv_retiq (pc := 10) d_Form_start_10 rfl rfl rfl ⟨_, rfl, by rw [e, hc], rfl⟩
theorem c_Form_becomes {sc : Nat × (Nat → Int32)} {u : xv_M} {h o a t g o' a' t' : Nat} {p : Int32} (hF : xv_Fo u h o a t) (hG : xv_Fo u g o' a' t') : xv_C sc 1 J_Form_becomes [.ref h, .ref g, .int p] u (xv_N u) (xv_S u) (xv_pv (fun w => ∃ f1 f2 f3, w = xv_si (xv_si (xv_sw (xv_sw (xv_sw u o f1) a f2) t f3) h 2 (xv_i u g 2)) h 3 p ∧ f1 = va_cpy (xv_i u o') (xv_i u o) 0 0 40 ∧ f2 = va_cpy (xv_i (xv_sw u o f1) a') (xv_i (xv_sw u o f1) a) 0 0 40 ∧ f3 = va_cpy (xv_i (xv_sw (xv_sw u o f1) a f2) t') (xv_i (xv_sw (xv_sw u o f1) a f2) t) 0 0 120)) := by
  obtain ⟨k0, r0, r1, r4, ko, lo, ka, la, kt, lt⟩ := hF
  obtain ⟨k0', r0', r1', r4', ko', lo', ka', la', kt', lt'⟩ := hG
  refine xv_C_of (by decide) (Nat.le_refl _) (Nat.le_refl _) (xv_cat1 rfl) (Nat.le_of_ble_eq_true rfl) ?_
  show xv_X sc 1 J_Form_becomes 0 [some (.ref h), some (.ref g), some (.int p)] [] u (xv_N u) (xv_S u) _
  have n1 := xv_ne k0' ko (by decide)
  have n2 := xv_ne k0' ka (by decide)
  have n3 := xv_ne k0' kt (by decide)
  refine xv_aload_n (pc := 0) d_Form_becomes_0 rfl rfl ?_
  refine xv_getR (pc := 1) d_Form_becomes_1 f_Form_9 rfl k0' r0' ?_
  refine xv_iconst (pc := 4) 0 d_Form_becomes_4 (by decide) ?_
  refine xv_aload_n (pc := 5) d_Form_becomes_5 rfl rfl ?_
  refine xv_getR (pc := 6) d_Form_becomes_6 f_Form_9 rfl k0 r0 ?_
  refine xv_iconst (pc := 9) 0 d_Form_becomes_9 (by decide) ?_
  refine xv_bipush (pc := 10) 40 d_Form_becomes_10 (by decide) ?_
  refine xv_copy (pc := 12) d_Form_becomes_12 k_365 k_367 k_366 k_13 (by omega) (Nat.le_of_ble_eq_true rfl) ko' ko (by decide) (by decide) (by decide) (by rw [lo']; decide) (by rw [lo]; decide) ?_
  refine xv_aload_n (pc := 15) d_Form_becomes_15 rfl rfl ?_
  refine xv_getR (pc := 16) d_Form_becomes_16 f_Form_15 rfl k0' r1' ?_
  refine xv_iconst (pc := 19) 0 d_Form_becomes_19 (by decide) ?_
  refine xv_aload_n (pc := 20) d_Form_becomes_20 rfl rfl ?_
  refine xv_getR (pc := 21) d_Form_becomes_21 f_Form_15 rfl k0 r1 ?_
  refine xv_iconst (pc := 24) 0 d_Form_becomes_24 (by decide) ?_
  refine xv_bipush (pc := 25) 40 d_Form_becomes_25 (by decide) ?_
  refine xv_copy (pc := 27) d_Form_becomes_27 k_365 k_367 k_366 k_13 (by omega) (Nat.le_of_ble_eq_true rfl) ka' ka (by decide) (by decide) (by decide) (by show _ ≤ xv_l u a'; rw [la']; decide) (by show _ ≤ xv_l u a; rw [la]; decide) ?_
  refine xv_aload_n (pc := 30) d_Form_becomes_30 rfl rfl ?_
  refine xv_getR (pc := 31) d_Form_becomes_31 f_Form_18 rfl k0' r4' ?_
  refine xv_iconst (pc := 34) 0 d_Form_becomes_34 (by decide) ?_
  refine xv_aload_n (pc := 35) d_Form_becomes_35 rfl rfl ?_
  refine xv_getR (pc := 36) d_Form_becomes_36 f_Form_18 rfl k0 r4 ?_
  refine xv_iconst (pc := 39) 0 d_Form_becomes_39 (by decide) ?_
  refine xv_bipush (pc := 40) 120 d_Form_becomes_40 (by decide) ?_
  refine xv_copy (pc := 42) d_Form_becomes_42 k_365 k_367 k_366 k_13 (by omega) (Nat.le_of_ble_eq_true rfl) kt' kt (by decide) (by decide) (by decide) (by show _ ≤ xv_l u t'; rw [lt']; decide) (by show _ ≤ xv_l u t; rw [lt]; decide) ?_
  refine xv_aload_n (pc := 45) d_Form_becomes_45 rfl rfl ?_
  refine xv_aload_n (pc := 46) d_Form_becomes_46 rfl rfl ?_
  refine xv_getI (pc := 47) d_Form_becomes_47 f_Form_25 rfl k0' ?_
  refine xv_putI (pc := 50) d_Form_becomes_50 f_Form_25 (Or.inl rfl) fin_0_2 k0 ?_
  refine xv_aload_n (pc := 53) d_Form_becomes_53 rfl rfl ?_
  refine xv_iload_n (pc := 54) d_Form_becomes_54 rfl rfl ?_
  refine xv_putI (pc := 55) d_Form_becomes_55 f_Form_35 (Or.inl rfl) fin_0_3 k0 ?_
  exact xv_retvq (pc := 58) d_Form_becomes_58 rfl rfl rfl ⟨rfl, _, _, _, by rw [show xv_i (xv_sw (xv_sw (xv_sw u o _) a _) t _) g 2 = xv_i u g 2 from by rw [xv_sw_ne n3, xv_sw_ne n2, xv_sw_ne n1]]; rfl, rfl, rfl, rfl⟩
/-! how many CALLS, and whether all lead lower -/
def xCnt (f : Nat → Int32) : Nat → Nat
  | 0 => 0
  | k + 1 => xCnt f k + (if f k = 17 then 1 else 0)
def xLow (f g : Nat → Int32) (b : Int32) : Nat → Bool
  | 0 => true
  | k + 1 => xLow f g b k && (!decide (f k = 17) || decide (g k < b))
theorem xCnt_le (f : Nat → Int32) (k : Nat) : xCnt f k ≤ k := by
  induction k with
  | zero => exact Nat.le_refl _
  | succ k ih => unfold xCnt; split <;> omega
def xB (b : Bool) : Int32 := if b = true then 1 else 0
theorem xB_and (b : Bool) : xB b &&& 1 = xB b := by cases b <;> decide
theorem c_Form_callsGo {sc : Nat × (Nat → Int32)} {u : xv_M} {h o a t n : Nat} {f : Int32} (hF : xv_Fo u h o a t) (hn : xv_i u h 2 = nI n) (hlt : n ≤ 40) : xv_C sc 0 J_Form_callsGo [.ref h, .int f] u (xv_N u) (xv_S u) (xv_pi (fun r w => r = xB (xLow (xv_i u o) (xv_i u a) f n && decide (xCnt (xv_i u o) n ≤ 2)) ∧ w = u)) := by
  obtain ⟨k0, r0, r1, r4, ko, lo, ka, la, kt, lt⟩ := hF
  refine xv_C_of (by decide) (Nat.le_refl _) (Nat.le_refl _) (xv_cat1 rfl) (Nat.le_of_ble_eq_true rfl) ?_
  show xv_X sc 0 J_Form_callsGo 0 [some (.ref h), some (.int f), none, none, none] [] u (xv_N u) (xv_S u) _
  refine xv_iconst (pc := 0) 0 d_Form_callsGo_0 (by decide) ?_
  refine xv_istore_2 (pc := 1) d_Form_callsGo_1 (by decide) rfl ?_
  refine xv_iconst (pc := 2) 1 d_Form_callsGo_2 (by decide) ?_
  refine xv_istore_3 (pc := 3) d_Form_callsGo_3 (by decide) rfl ?_
  refine xv_iconst (pc := 4) 0 d_Form_callsGo_4 (by decide) ?_
  refine xv_istore_4 (pc := 5) d_Form_callsGo_5 (by decide) rfl ?_
  have loop : ∀ (j k : Nat), k + j = n → xv_X sc 0 J_Form_callsGo 7 [some (.ref h), some (.int f), some (.int (nI (xCnt (xv_i u o) k))), some (.int (xB (xLow (xv_i u o) (xv_i u a) f k))), some (.int (nI k))] [] u (xv_N u) (xv_S u) (xv_q (xv_N u) (xv_S u) (xv_pi (fun r w => r = xB (xLow (xv_i u o) (xv_i u a) f n && decide (xCnt (xv_i u o) n ≤ 2)) ∧ w = u))) := by
    intro j
    induction j with
    | zero =>
      intro k hk
      have hk : k = n := by omega
      subst hk
      refine xv_iload (pc := 7) d_Form_callsGo_7 rfl ?_
      refine xv_aload_n (pc := 9) d_Form_callsGo_9 rfl rfl ?_
      refine xv_getI (pc := 10) d_Form_callsGo_10 f_Form_25 rfl k0 ?_
      refine xv_icmp_ge (pc := 13) 58 d_Form_callsGo_13 (by decide) (fun h13 => ?_) (fun h13 => ?_)
      · refine xv_iload_n (pc := 58) d_Form_callsGo_58 rfl rfl ?_
        refine xv_if_eq (pc := 59) 71 d_Form_callsGo_59 (by decide) (fun h59 => ?_) (fun h59 => ?_)
        · refine xv_iconst (pc := 71) 0 d_Form_callsGo_71 (by decide) ?_
          exact xv_retzq (pc := 72) d_Form_callsGo_72 rfl (by decide) rfl rfl ⟨_, rfl, by
            have : xLow (xv_i u o) (xv_i u a) f k = false := by
              cases hq : xLow (xv_i u o) (xv_i u a) f k
              · rfl
              · rw [hq] at h59; exact absurd h59 (by decide)
            rw [this]; rfl, rfl⟩
        · refine xv_iload_n (pc := 62) d_Form_callsGo_62 rfl rfl ?_
          refine xv_iconst (pc := 63) 2 d_Form_callsGo_63 (by decide) ?_
          refine xv_icmp_gt (pc := 64) 71 d_Form_callsGo_64 (by decide) (fun h64 => ?_) (fun h64 => ?_)
          · refine xv_iconst (pc := 71) 0 d_Form_callsGo_71 (by decide) ?_
            exact xv_retzq (pc := 72) d_Form_callsGo_72 rfl (by decide) rfl rfl ⟨_, rfl, by
              have h2 : ¬ xCnt (xv_i u o) k ≤ 2 := by
                have := xCnt_le (xv_i u o) k
                have h3 := (nI_ltI (a := 2) (b := xCnt (xv_i u o) k) (by decide) (by omega)).mp h64
                omega
              simp [h2, xB], rfl⟩
          · refine xv_iconst (pc := 67) 1 d_Form_callsGo_67 (by decide) ?_
            refine xv_goto (pc := 68) 72 d_Form_callsGo_68 (by decide) ?_
            exact xv_retzq (pc := 72) d_Form_callsGo_72 rfl (by decide) rfl rfl ⟨_, rfl, by
              have : xLow (xv_i u o) (xv_i u a) f k = true := by
                cases hq : xLow (xv_i u o) (xv_i u a) f k
                · rw [hq] at h59; exact absurd rfl h59
                · rfl
              have h2 : xCnt (xv_i u o) k ≤ 2 := by
                have := xCnt_le (xv_i u o) k
                have h3 := mt (nI_ltI (a := 2) (b := xCnt (xv_i u o) k) (by decide) (by omega)).mpr h64
                omega
              simp [this, h2, xB], rfl⟩
      · exact absurd (by rw [hn]; exact nI_le (Nat.le_refl _) (by omega)) h13
    | succ j ih =>
      intro k hk
      have hkn : k < n := by omega
      have hc : (nI k).toNatClampNeg = k := nI_clamp (by omega)
      have hin : vp_in (nI k) 40 := vp_in_nI (by omega) (by decide)
      have es : nI k + Int32.ofInt 1 = nI (k + 1) := by rw [nI_succ]; rfl
      refine xv_iload (pc := 7) d_Form_callsGo_7 rfl ?_
      refine xv_aload_n (pc := 9) d_Form_callsGo_9 rfl rfl ?_
      refine xv_getI (pc := 10) d_Form_callsGo_10 f_Form_25 rfl k0 ?_
      refine xv_icmp_ge (pc := 13) 58 d_Form_callsGo_13 (by decide) (fun h13 => ?_) (fun h13 => ?_)
      · exact absurd (by rw [hn] at h13; exact h13) (nI_ge hkn (by omega))
      · refine xv_aload_n (pc := 16) d_Form_callsGo_16 rfl rfl ?_
        refine xv_getR (pc := 17) d_Form_callsGo_17 f_Form_9 rfl k0 r0 ?_
        refine xv_iload (pc := 20) d_Form_callsGo_20 rfl ?_
        refine xv_ald (pc := 22) d_Form_callsGo_22 ko (by rw [lo]; exact hin) ?_
        refine xv_bipush (pc := 23) 17 d_Form_callsGo_23 (by decide) ?_
        refine xv_icmp_ne (pc := 25) 52 d_Form_callsGo_25 (by decide) (fun h25 => ?_) (fun h25 => ?_)
        · rw [hc] at h25
          have e1 : xCnt (xv_i u o) (k + 1) = xCnt (xv_i u o) k := by simp [xCnt, h25]
          have e2 : xLow (xv_i u o) (xv_i u a) f (k + 1) = xLow (xv_i u o) (xv_i u a) f k := by simp [xLow, h25]
          refine xv_iinc_4 (pc := 52) (nI (k + 1)) d_Form_callsGo_52 es (by decide) rfl ?_
          refine xv_goto (pc := 55) 7 d_Form_callsGo_55 (by decide) ?_
          rw [← e1, ← e2]
          exact ih (k + 1) (by omega)
        · rw [hc] at h25
          have e1 : xCnt (xv_i u o) (k + 1) = xCnt (xv_i u o) k + 1 := by simp [xCnt, h25]
          refine xv_iinc_2 (pc := 28) (nI (xCnt (xv_i u o) (k + 1))) d_Form_callsGo_28 (by rw [e1, nI_succ]; rfl) (by decide) rfl ?_
          refine xv_iload_n (pc := 31) d_Form_callsGo_31 rfl rfl ?_
          refine xv_if_eq (pc := 32) 50 d_Form_callsGo_32 (by decide) (fun h32 => ?_) (fun h32 => ?_)
          · have e0 : xLow (xv_i u o) (xv_i u a) f k = false := by
              cases hq : xLow (xv_i u o) (xv_i u a) f k
              · rfl
              · rw [hq] at h32; exact absurd h32 (by decide)
            have e2 : xB (xLow (xv_i u o) (xv_i u a) f (k + 1)) = 0 := by simp [xLow, e0, xB]
            refine xv_iconst (pc := 50) 0 d_Form_callsGo_50 (by decide) ?_
            refine xv_istore_3 (pc := 51) d_Form_callsGo_51 (by decide) rfl ?_
            refine xv_iinc_4 (pc := 52) (nI (k + 1)) d_Form_callsGo_52 es (by decide) rfl ?_
            refine xv_goto (pc := 55) 7 d_Form_callsGo_55 (by decide) ?_
            rw [← e2]
            exact ih (k + 1) (by omega)
          · have e0 : xLow (xv_i u o) (xv_i u a) f k = true := by
              cases hq : xLow (xv_i u o) (xv_i u a) f k
              · rw [hq] at h32; exact absurd rfl h32
              · rfl
            refine xv_aload_n (pc := 35) d_Form_callsGo_35 rfl rfl ?_
            refine xv_getR (pc := 36) d_Form_callsGo_36 f_Form_15 rfl k0 r1 ?_
            refine xv_iload (pc := 39) d_Form_callsGo_39 rfl ?_
            refine xv_ald (pc := 41) d_Form_callsGo_41 ka (by rw [la]; exact hin) ?_
            refine xv_iload_n (pc := 42) d_Form_callsGo_42 rfl rfl ?_
            refine xv_icmp_ge (pc := 43) 50 d_Form_callsGo_43 (by decide) (fun h43 => ?_) (fun h43 => ?_)
            · rw [hc] at h43
              have e2 : xB (xLow (xv_i u o) (xv_i u a) f (k + 1)) = 0 := by simp [xLow, e0, h25, xB, Int32.not_lt.mpr h43]
              refine xv_iconst (pc := 50) 0 d_Form_callsGo_50 (by decide) ?_
              refine xv_istore_3 (pc := 51) d_Form_callsGo_51 (by decide) rfl ?_
              refine xv_iinc_4 (pc := 52) (nI (k + 1)) d_Form_callsGo_52 es (by decide) rfl ?_
              refine xv_goto (pc := 55) 7 d_Form_callsGo_55 (by decide) ?_
              rw [← e2]
              exact ih (k + 1) (by omega)
            · rw [hc] at h43
              have e2 : xB (xLow (xv_i u o) (xv_i u a) f (k + 1)) = 1 := by simp [xLow, e0, h25, xB, Int32.not_le.mp h43]
              refine xv_iconst (pc := 46) 1 d_Form_callsGo_46 (by decide) ?_
              refine xv_goto (pc := 47) 51 d_Form_callsGo_47 (by decide) ?_
              refine xv_istore_3 (pc := 51) d_Form_callsGo_51 (by decide) rfl ?_
              refine xv_iinc_4 (pc := 52) (nI (k + 1)) d_Form_callsGo_52 es (by decide) rfl ?_
              refine xv_goto (pc := 55) 7 d_Form_callsGo_55 (by decide) ?_
              rw [← e2]
              exact ih (k + 1) (by omega)
  exact loop n 0 (by omega)

