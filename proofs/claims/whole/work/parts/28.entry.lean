/-! Arrays.fill, Frame.begin -/
theorem c_Arrays_fill {sc : Nat × (Nat → Int32)} {u : xv_M} {a n : Nat} {x : Int32} (hk : xv_k u a = 100) (hl : xv_l u a = n) (hn : n < 1000) : xv_C sc 0 J_Arrays_fill [.ref a, .int x] u (xv_N u) (xv_S u) (xv_pv (fun w => ∃ f, w = xv_sw u a f ∧ ∀ i, i < n → f i = x)) := by
  refine xv_C_of (by decide) (Nat.le_refl _) (Nat.le_refl _) (xv_cat1 rfl) (Nat.le_of_ble_eq_true rfl) ?_
  show xv_X sc 0 J_Arrays_fill 0 [some (.ref a), some (.int x), none, none] [] u (xv_N u) (xv_S u) _
  refine xv_iconst (pc := 0) 0 d_Arrays_fill_0 (by decide) ?_
  refine xv_istore_2 (pc := 1) d_Arrays_fill_1 (by decide) rfl ?_
  refine xv_aload_n (pc := 2) d_Arrays_fill_2 rfl rfl ?_
  refine xv_alen (pc := 3) (t := 0) d_Arrays_fill_3 hk (fun _ => rfl) (by rw [hl]) ?_
  refine xv_istore_3 (pc := 4) d_Arrays_fill_4 (by decide) rfl ?_
  have loop : ∀ (r k : Nat) (f : Nat → Int32), k + r = n → (∀ i, i < k → f i = x) → xv_X sc 0 J_Arrays_fill 5 [some (.ref a), some (.int x), some (.int (nI k)), some (.int (nI n))] [] (xv_sw u a f) (xv_N u) (xv_S u) (xv_q (xv_N u) (xv_S u) (xv_pv (fun w => ∃ f, w = xv_sw u a f ∧ ∀ i, i < n → f i = x))) := by
    intro r
    induction r with
    | zero =>
      intro k f hk' hf
      have hk' : k = n := by omega
      subst hk'
      refine xv_iload_n (pc := 5) d_Arrays_fill_5 rfl rfl ?_
      refine xv_iload_n (pc := 6) d_Arrays_fill_6 rfl rfl ?_
      refine xv_icmp_ge (pc := 7) 20 d_Arrays_fill_7 (by decide) (fun h7 => ?_) (fun h7 => ?_)
      · skip
        exact xv_retvq (pc := 20) d_Arrays_fill_20 rfl rfl rfl ⟨rfl, f, rfl, hf⟩
      · exact absurd (nI_le (Nat.le_refl _) (by omega)) h7
    | succ r ih =>
      intro k f hk' hf
      have es : nI k + Int32.ofInt 1 = nI (k + 1) := by rw [nI_succ]; rfl
      have hc : (nI k).toNatClampNeg = k := nI_clamp (by omega)
      refine xv_iload_n (pc := 5) d_Arrays_fill_5 rfl rfl ?_
      refine xv_iload_n (pc := 6) d_Arrays_fill_6 rfl rfl ?_
      refine xv_icmp_ge (pc := 7) 20 d_Arrays_fill_7 (by decide) (fun h7 => ?_) (fun h7 => ?_)
      · exact absurd h7 (nI_ge (by omega) (by omega))
      · skip
        refine xv_aload_n (pc := 10) d_Arrays_fill_10 rfl rfl ?_
        refine xv_iload_n (pc := 11) d_Arrays_fill_11 rfl rfl ?_
        refine xv_iload_n (pc := 12) d_Arrays_fill_12 rfl rfl ?_
        refine xv_ast (pc := 13) d_Arrays_fill_13 hk (by show vp_in _ (xv_l u a); rw [hl]; exact vp_in_nI (by omega) (by omega)) ?_
        refine xv_iinc_2 (pc := 14) (nI (k + 1)) d_Arrays_fill_14 es (by decide) rfl ?_
        refine xv_goto (pc := 17) 5 d_Arrays_fill_17 (by decide) ?_
        rw [hc, xv_sw_si]
        refine ih (k + 1) _ (by omega) (fun i hi => ?_)
        by_cases h9 : i = k
        · subst h9; exact pk_us
        · rw [xw_upd h9]; exact hf i (by omega)
  have hs := loop n 0 (xv_i u a) (by omega) (fun i hi => absurd hi (Nat.not_lt_zero i))
  rw [xv_sw_id] at hs
  exact hs
def xArg (n : Int32) (x y z : Int32) (i : Nat) : Int32 := if i = 0 then (if 0 < n then x else 0) else if i = 1 then (if 1 < n then y else 0) else if i = 2 then (if 2 < n then z else 0) else 0
theorem xArg_if {c : Prop} [Decidable c] {x : Int32} (h : c) : (if c then x else 0) = x := if_pos h
theorem c_Frame_begin {sc : Nat × (Nat → Int32)} {u : xv_M} {h v s : Nat} {n x y z : Int32} (hF : xv_Fr u h v s) : xv_C sc 1 J_Frame_begin [.ref h, .int n, .int x, .int y, .int z] u (xv_N u) (xv_S u) (xv_pv (fun w => ∃ f, w = xv_si (xv_sw u v f) h 2 0 ∧ ∀ i, i < 7 → f i = xArg n x y z i)) := by
  obtain ⟨k0, r0, r1, kv, lv, ks, ls⟩ := hF
  refine xv_C_of (by decide) (Nat.le_refl _) (Nat.le_refl _) (xv_cat1 rfl) (Nat.le_of_ble_eq_true rfl) ?_
  show xv_X sc 1 J_Frame_begin 0 [some (.ref h), some (.int n), some (.int x), some (.int y), some (.int z)] [] u (xv_N u) (xv_S u) _
  refine xv_aload_n (pc := 0) d_Frame_begin_0 rfl rfl ?_
  refine xv_getR (pc := 1) d_Frame_begin_1 f_Frame_9 rfl k0 r0 ?_
  refine xv_iconst (pc := 4) 0 d_Frame_begin_4 (by decide) ?_
  refine xv_cS2v (pc := 5) (c_Arrays_fill kv lv (by decide)) m_Arrays_fill l_Frame_18 d_Frame_begin_5 (by omega) (Nat.le_of_ble_eq_true rfl) ⟨Nat.le_refl _, Nat.le_refl _⟩ (fun w hw hN hS => ?_)
  obtain ⟨f, hw, hf⟩ := hw
  subst w
  suffices j22 : xv_X sc 1 J_Frame_begin 22 [some (.ref h), some (.int n), some (.int x), some (.int y), some (.int z)] [.int (if 0 < n then x else 0), .int 0, .ref v] (xv_sw u v f) (xv_N u) (xv_S u) (xv_q (xv_N u) (xv_S u) (xv_pv (fun w => ∃ f, w = xv_si (xv_sw u v f) h 2 0 ∧ ∀ i, i < 7 → f i = xArg n x y z i))) by
    refine xv_aload_n (pc := 8) d_Frame_begin_8 rfl rfl ?_
    refine xv_getR (pc := 9) d_Frame_begin_9 f_Frame_9 rfl k0 r0 ?_
    refine xv_iconst (pc := 12) 0 d_Frame_begin_12 (by decide) ?_
    refine xv_iload_n (pc := 13) d_Frame_begin_13 rfl rfl ?_
    refine xv_if_le (pc := 14) 21 d_Frame_begin_14 (by decide) (fun h14 => ?_) (fun h14 => ?_)
    · rw [if_neg (Int32.not_lt.mpr h14)] at j22
      refine xv_iconst (pc := 21) 0 d_Frame_begin_21 (by decide) ?_
      exact j22
    · rw [if_pos (Int32.not_le.mp h14)] at j22
      refine xv_iload_n (pc := 17) d_Frame_begin_17 rfl rfl ?_
      refine xv_goto (pc := 18) 22 d_Frame_begin_18 (by decide) ?_
      exact j22
  suffices j38 : xv_X sc 1 J_Frame_begin 38 [some (.ref h), some (.int n), some (.int x), some (.int y), some (.int z)] [.int (if 1 < n then y else 0), .int 1, .ref v] (xv_sw u v (upd f 0 (if 0 < n then x else 0))) (xv_N u) (xv_S u) (xv_q (xv_N u) (xv_S u) (xv_pv (fun w => ∃ f, w = xv_si (xv_sw u v f) h 2 0 ∧ ∀ i, i < 7 → f i = xArg n x y z i))) by
    refine xv_ast (pc := 22) d_Frame_begin_22 kv (by show vp_in _ (xv_l u v); rw [lv]; unfold vp_in; decide) ?_
    refine xv_aload_n (pc := 23) d_Frame_begin_23 rfl rfl ?_
    refine xv_getR (pc := 24) d_Frame_begin_24 f_Frame_9 rfl k0 r0 ?_
    refine xv_iconst (pc := 27) 1 d_Frame_begin_27 (by decide) ?_
    refine xv_iload_n (pc := 28) d_Frame_begin_28 rfl rfl ?_
    refine xv_iconst (pc := 29) 1 d_Frame_begin_29 (by decide) ?_
    refine xv_icmp_le (pc := 30) 37 d_Frame_begin_30 (by decide) (fun h30 => ?_) (fun h30 => ?_)
    · rw [show (0 : Int32).toNatClampNeg = 0 from rfl, xv_sw_si]
      rw [if_neg (Int32.not_lt.mpr h30)] at j38
      refine xv_iconst (pc := 37) 0 d_Frame_begin_37 (by decide) ?_
      exact j38
    · rw [show (0 : Int32).toNatClampNeg = 0 from rfl, xv_sw_si]
      rw [if_pos (Int32.not_le.mp h30)] at j38
      refine xv_iload_n (pc := 33) d_Frame_begin_33 rfl rfl ?_
      refine xv_goto (pc := 34) 38 d_Frame_begin_34 (by decide) ?_
      exact j38
  suffices j55 : xv_X sc 1 J_Frame_begin 55 [some (.ref h), some (.int n), some (.int x), some (.int y), some (.int z)] [.int (if 2 < n then z else 0), .int 2, .ref v] (xv_sw u v (upd (upd f 0 (if 0 < n then x else 0)) 1 (if 1 < n then y else 0))) (xv_N u) (xv_S u) (xv_q (xv_N u) (xv_S u) (xv_pv (fun w => ∃ f, w = xv_si (xv_sw u v f) h 2 0 ∧ ∀ i, i < 7 → f i = xArg n x y z i))) by
    refine xv_ast (pc := 38) d_Frame_begin_38 kv (by show vp_in _ (xv_l u v); rw [lv]; unfold vp_in; decide) ?_
    refine xv_aload_n (pc := 39) d_Frame_begin_39 rfl rfl ?_
    refine xv_getR (pc := 40) d_Frame_begin_40 f_Frame_9 rfl k0 r0 ?_
    refine xv_iconst (pc := 43) 2 d_Frame_begin_43 (by decide) ?_
    refine xv_iload_n (pc := 44) d_Frame_begin_44 rfl rfl ?_
    refine xv_iconst (pc := 45) 2 d_Frame_begin_45 (by decide) ?_
    refine xv_icmp_le (pc := 46) 54 d_Frame_begin_46 (by decide) (fun h46 => ?_) (fun h46 => ?_)
    · rw [show (1 : Int32).toNatClampNeg = 1 from rfl, xv_sw_si]
      rw [if_neg (Int32.not_lt.mpr h46)] at j55
      refine xv_iconst (pc := 54) 0 d_Frame_begin_54 (by decide) ?_
      exact j55
    · rw [show (1 : Int32).toNatClampNeg = 1 from rfl, xv_sw_si]
      rw [if_pos (Int32.not_le.mp h46)] at j55
      refine xv_iload (pc := 49) d_Frame_begin_49 rfl ?_
      refine xv_goto (pc := 51) 55 d_Frame_begin_51 (by decide) ?_
      exact j55
  refine xv_ast (pc := 55) d_Frame_begin_55 kv (by show vp_in _ (xv_l u v); rw [lv]; unfold vp_in; decide) ?_
  refine xv_aload_n (pc := 56) d_Frame_begin_56 rfl rfl ?_
  refine xv_iconst (pc := 57) 0 d_Frame_begin_57 (by decide) ?_
  refine xv_putI (pc := 58) d_Frame_begin_58 f_Frame_24 (Or.inl rfl) fin_1_2 k0 ?_
  rw [show (2 : Int32).toNatClampNeg = 2 from rfl, xv_sw_si]
  refine xv_retvq (pc := 61) d_Frame_begin_61 rfl rfl rfl ⟨rfl, _, rfl, fun i hi => ?_⟩
  unfold xArg
  by_cases h2 : i = 2
  · subst h2; exact pk_us
  rw [xw_upd h2]
  by_cases h1 : i = 1
  · subst h1; exact pk_us
  rw [xw_upd h1]
  by_cases h0 : i = 0
  · subst h0; exact pk_us
  rw [xw_upd h0, if_neg h0, if_neg h1, if_neg h2]
  exact hf i hi
/-! Entry -/
def xv_En (u : xv_M) (h c o f g t s : Nat) : Prop := xv_k u h = 6 ∧ xv_r u h 0 = some c ∧ xv_r u h 1 = some t ∧ xv_r u h 7 = some s ∧ xv_k u t = 101 ∧ xv_l u t = 265 ∧ xv_k u s = 100 ∧ xv_l u s = 265 ∧ xv_Co u c o f g
theorem c_Entry_startWith {sc : Nat × (Nat → Int32)} {u : xv_M} {h c o f g t s : Nat} {x : Int32} (hF : xv_En u h c o f g t s) : xv_C sc 0 J_Entry_startWith [.ref h, .int x] u (xv_N u) (xv_S u) (xv_pv (fun w => ∃ φ, w = xv_sw (xv_si (xv_si (xv_si u c 3 0) h 3 x) h 4 0) t φ ∧ ∀ i, i < 265 → φ i = 0)) := by
  obtain ⟨k0, r0, r1, r7, kt, lt, ks, ls, hC⟩ := hF
  refine xv_C_of (by decide) (Nat.le_refl _) (Nat.le_refl _) (xv_cat1 rfl) (Nat.le_of_ble_eq_true rfl) ?_
  show xv_X sc 0 J_Entry_startWith 0 [some (.ref h), some (.int x), none] [] u (xv_N u) (xv_S u) _
  refine xv_aload_n (pc := 0) d_Entry_startWith_0 rfl rfl ?_
  refine xv_getR (pc := 1) d_Entry_startWith_1 f_Entry_12 rfl k0 r0 ?_
  refine xv_iconst (pc := 4) 0 d_Entry_startWith_4 (by decide) ?_
  refine xv_putI (pc := 5) d_Entry_startWith_5 f_Entry_26 (Or.inl rfl) fin_4_3 hC.1 ?_
  refine xv_aload_n (pc := 8) d_Entry_startWith_8 rfl rfl ?_
  refine xv_iload_n (pc := 9) d_Entry_startWith_9 rfl rfl ?_
  refine xv_putI (pc := 10) d_Entry_startWith_10 f_Entry_30 (Or.inl rfl) fin_5_3 k0 ?_
  refine xv_aload_n (pc := 13) d_Entry_startWith_13 rfl rfl ?_
  refine xv_iconst (pc := 14) 0 d_Entry_startWith_14 (by decide) ?_
  refine xv_putI (pc := 15) d_Entry_startWith_15 f_Entry_33 (Or.inl rfl) fin_5_4 k0 ?_
  refine xv_iconst (pc := 18) 0 d_Entry_startWith_18 (by decide) ?_
  refine xv_istore_2 (pc := 19) d_Entry_startWith_19 (by decide) rfl ?_
  have loop : ∀ (r k : Nat) (φ : Nat → Int32), k + r = 265 → (∀ i, i < k → φ i = 0) → xv_X sc 0 J_Entry_startWith 20 [some (.ref h), some (.int x), some (.int (nI k))] [] (xv_sw (xv_si (xv_si (xv_si u c 3 0) h 3 x) h 4 0) t φ) (xv_N u) (xv_S u) (xv_q (xv_N u) (xv_S u) (xv_pv (fun w => ∃ φ, w = xv_sw (xv_si (xv_si (xv_si u c 3 0) h 3 x) h 4 0) t φ ∧ ∀ i, i < 265 → φ i = 0))) := by
    intro r
    induction r with
    | zero =>
      intro k φ hk' hf
      have hk' : k = 265 := by omega
      subst hk'
      refine xv_iload_n (pc := 20) d_Entry_startWith_20 rfl rfl ?_
      refine xv_sipush (pc := 21) 265 d_Entry_startWith_21 (by decide) ?_
      refine xv_icmp_ge (pc := 24) 40 d_Entry_startWith_24 (by decide) (fun h24 => ?_) (fun h24 => ?_)
      · skip
        exact xv_retvq (pc := 40) d_Entry_startWith_40 rfl rfl rfl ⟨rfl, φ, rfl, hf⟩
      · exact absurd (by decide) h24
    | succ r ih =>
      intro k φ hk' hf
      have es : nI k + Int32.ofInt 1 = nI (k + 1) := by rw [nI_succ]; rfl
      have hc : (nI k).toNatClampNeg = k := nI_clamp (by omega)
      refine xv_iload_n (pc := 20) d_Entry_startWith_20 rfl rfl ?_
      refine xv_sipush (pc := 21) 265 d_Entry_startWith_21 (by decide) ?_
      refine xv_icmp_ge (pc := 24) 40 d_Entry_startWith_24 (by decide) (fun h24 => ?_) (fun h24 => ?_)
      · exact absurd h24 (nI_ge (b := 265) (by omega) (by omega))
      · skip
        refine xv_aload_n (pc := 27) d_Entry_startWith_27 rfl rfl ?_
        refine xv_getR (pc := 28) d_Entry_startWith_28 f_Entry_18 rfl k0 r1 ?_
        refine xv_iload_n (pc := 31) d_Entry_startWith_31 rfl rfl ?_
        refine xv_iconst (pc := 32) 0 d_Entry_startWith_32 (by decide) ?_
        refine xv_zast (pc := 33) d_Entry_startWith_33 kt (by show vp_in _ (xv_l u t); rw [lt]; exact vp_in_nI (by omega) (by omega)) rfl ?_
        refine xv_iinc_2 (pc := 34) (nI (k + 1)) d_Entry_startWith_34 es (by decide) rfl ?_
        refine xv_goto (pc := 37) 20 d_Entry_startWith_37 (by decide) ?_
        rw [hc, xv_sw_si]
        refine ih (k + 1) _ (by omega) (fun i hi => ?_)
        by_cases h9 : i = k
        · subst h9; exact pk_us
        · rw [xw_upd h9]; exact hf i (by omega)
  have hs := loop 265 0 (xv_i (xv_si (xv_si (xv_si u c 3 0) h 3 x) h 4 0) t) (by omega) (fun i hi => absurd hi (Nat.not_lt_zero i))
  rw [xv_sw_id] at hs
  exact hs
theorem c_Entry_makeSeal {sc : Nat × (Nat → Int32)} {u : xv_M} {h c o f g t s n : Nat} (hF : xv_En u h c o f g t s) (ho : xv_i u h 6 = 0 ∨ xv_i u h 6 = 1) (hn : xv_i u c 3 = nI n) (hlt : n ≤ 265) : xv_C sc 1 J_Entry_makeSeal [.ref h] u (xv_N u) (xv_S u) (xv_pv (fun w => w = xv_sw (xv_si (xv_si u h 8 (xv_i u h 2)) h 9 (xv_i u h 6)) s (va_cpy (xv_i u o) (xv_i u s) 0 0 n))) := by
  obtain ⟨k0, r0, r1, r7, kt, lt, ks, ls, hC⟩ := hF
  have hC0 := hC
  obtain ⟨kc, c0, c1, c2, ko, lo, kf, lf, kg, lg⟩ := hC
  have hch := xv_ne kc k0 (by decide)
  have hoh := xv_ne ko k0 (by decide)
  have hsh := xv_ne ks k0 (by decide)
  have hc : (nI n).toNatClampNeg = n := nI_clamp (by omega)
  refine xv_C_of (by decide) (Nat.le_refl _) (Nat.le_refl _) (xv_cat1 rfl) (Nat.le_of_ble_eq_true rfl) ?_
  show xv_X sc 1 J_Entry_makeSeal 0 [some (.ref h)] [] u (xv_N u) (xv_S u) _
  refine xv_aload_n (pc := 0) d_Entry_makeSeal_0 rfl rfl ?_
  refine xv_aload_n (pc := 1) d_Entry_makeSeal_1 rfl rfl ?_
  refine xv_getI (pc := 2) d_Entry_makeSeal_2 f_Entry_36 rfl k0 ?_
  refine xv_putI (pc := 5) d_Entry_makeSeal_5 f_Entry_49 (Or.inl rfl) fin_5_8 k0 ?_
  refine xv_aload_n (pc := 8) d_Entry_makeSeal_8 rfl rfl ?_
  refine xv_aload_n (pc := 9) d_Entry_makeSeal_9 rfl rfl ?_
  refine xv_getI (pc := 10) d_Entry_makeSeal_10 f_Entry_42 rfl k0 ?_
  refine xv_putI (pc := 13) d_Entry_makeSeal_13 f_Entry_52 (Or.inr ⟨rfl, (by rw [xv_si_nj (by decide)]; exact ho)⟩) fin_5_9 k0 ?_
  refine xv_aload_n (pc := 16) d_Entry_makeSeal_16 rfl rfl ?_
  refine xv_getR (pc := 17) d_Entry_makeSeal_17 f_Entry_12 rfl k0 r0 ?_
  refine xv_getR (pc := 20) d_Entry_makeSeal_20 f_Entry_55 rfl kc c0 ?_
  refine xv_iconst (pc := 23) 0 d_Entry_makeSeal_23 (by decide) ?_
  refine xv_aload_n (pc := 24) d_Entry_makeSeal_24 rfl rfl ?_
  refine xv_getR (pc := 25) d_Entry_makeSeal_25 f_Entry_22 rfl k0 r7 ?_
  refine xv_iconst (pc := 28) 0 d_Entry_makeSeal_28 (by decide) ?_
  refine xv_aload_n (pc := 29) d_Entry_makeSeal_29 rfl rfl ?_
  refine xv_getR (pc := 30) d_Entry_makeSeal_30 f_Entry_12 rfl k0 r0 ?_
  refine xv_getI (pc := 33) d_Entry_makeSeal_33 f_Entry_26 rfl kc ?_
  rw [xv_si_ne hch, xv_si_ne hch, hn, xv_si_nj (q := 6) (j := 8) (by decide)]
  refine xv_copy (pc := 36) d_Entry_makeSeal_36 k_445 k_367 k_366 k_13 (by omega) (Nat.le_of_ble_eq_true rfl) ko ks (by decide) (by decide) (by first | decide | exact nI_pos (by omega)) (by show _ ≤ xv_l u o; rw [lo, hc]; simpa using hlt) (by show _ ≤ xv_l u s; rw [ls, hc]; simpa using hlt) ?_
  refine xv_retvq (pc := 39) d_Entry_makeSeal_39 rfl rfl rfl ⟨rfl, ?_⟩
  rw [hc]
  congr 1
  have e1 : ∀ b j v, b ≠ h → xv_i (xv_si u h j v) b = xv_i u b := fun b j v hb => funext fun q => xv_si_ne hb
  have e2 : ∀ b j v j' v', b ≠ h → xv_i (xv_si (xv_si u h j v) h j' v') b = xv_i u b := fun b j v j' v' hb => funext fun q => by rw [xv_si_ne hb, xv_si_ne hb]
  rw [e2 _ _ _ _ _ hoh, e2 _ _ _ _ _ hsh]
  rfl
theorem c_Entry_finishFor {sc : Nat × (Nat → Int32)} {u : xv_M} {h c o f g t s n : Nat} {x : Int32} (hF : xv_En u h c o f g t s) (hn : xv_i u c 3 = nI n) (hlt : n ≤ 265) : xv_C sc 2 J_Entry_finishFor [.ref h, .int x] u (xv_N u) (xv_S u) (xv_pv (fun w => ∃ w0, w0 = xv_si (xv_si (xv_si u h 2 x) h 5 x) h 6 0 ∧ w = xv_sw (xv_si (xv_si w0 h 8 (xv_i w0 h 2)) h 9 (xv_i w0 h 6)) s (va_cpy (xv_i w0 o) (xv_i w0 s) 0 0 n))) := by
  have hF0 := hF
  obtain ⟨k0, r0, r1, r7, kt, lt, ks, ls, hC⟩ := hF
  have hch := xv_ne hC.1 k0 (by decide)
  refine xv_C_of (by decide) (Nat.le_refl _) (Nat.le_refl _) (xv_cat1 rfl) (Nat.le_of_ble_eq_true rfl) ?_
  show xv_X sc 2 J_Entry_finishFor 0 [some (.ref h), some (.int x)] [] u (xv_N u) (xv_S u) _
  refine xv_aload_n (pc := 0) d_Entry_finishFor_0 rfl rfl ?_
  refine xv_iload_n (pc := 1) d_Entry_finishFor_1 rfl rfl ?_
  refine xv_putI (pc := 2) d_Entry_finishFor_2 f_Entry_36 (Or.inl rfl) fin_5_2 k0 ?_
  refine xv_aload_n (pc := 5) d_Entry_finishFor_5 rfl rfl ?_
  refine xv_iload_n (pc := 6) d_Entry_finishFor_6 rfl rfl ?_
  refine xv_putI (pc := 7) d_Entry_finishFor_7 f_Entry_39 (Or.inl rfl) fin_5_5 k0 ?_
  refine xv_aload_n (pc := 10) d_Entry_finishFor_10 rfl rfl ?_
  refine xv_iconst (pc := 11) 0 d_Entry_finishFor_11 (by decide) ?_
  refine xv_putI (pc := 12) d_Entry_finishFor_12 f_Entry_42 (Or.inr ⟨rfl, (Or.inl rfl)⟩) fin_5_6 k0 ?_
  refine xv_aload_n (pc := 15) d_Entry_finishFor_15 rfl rfl ?_
  refine xv_cV0v (pc := 16) (c_Entry_makeSeal (u := xv_si (xv_si (xv_si u h 2 x) h 5 x) h 6 0) hF0 (Or.inl xv_si_eq) (by rw [xv_si_ne hch, xv_si_ne hch, xv_si_ne hch]; exact hn) hlt) m_Entry_makeSeal l_Entry_46 d_Entry_finishFor_16 (by omega) (by decide : 5 < xv_nc) rfl k0 (Nat.le_of_ble_eq_true rfl) ⟨Nat.le_refl _, Nat.le_refl _⟩ (fun w hw hN hS => ?_)
  subst w
  exact xv_retvq (pc := 19) d_Entry_finishFor_19 rfl rfl rfl ⟨rfl, _, rfl, rfl⟩
def xSm (f g : Nat → Int32) : Nat → Bool
  | 0 => true
  | k + 1 => xSm f g k && decide (f k = g k)
theorem xSm_mono {f g : Nat → Int32} {a : Nat} (h : xSm f g a = false) : ∀ b, a ≤ b → xSm f g b = false := by
  intro b hb
  induction hb with
  | refl => exact h
  | step _ ih => show (_ && _) = false; rw [ih]; rfl
theorem c_Entry_sealGoes {sc : Nat × (Nat → Int32)} {u : xv_M} {h c o f g t s n : Nat} (hF : xv_En u h c o f g t s) (hn : xv_i u c 3 = nI n) (hlt : n ≤ 265) : xv_C sc 0 J_Entry_sealGoes [.ref h] u (xv_N u) (xv_S u) (xv_pi (fun r w => r = xB ((decide (xv_i u h 8 = xv_i u h 2) && decide (xv_i u h 9 = xv_i u h 6)) && xSm (xv_i u s) (xv_i u o) n) ∧ w = u)) := by
  obtain ⟨k0, r0, r1, r7, kt, lt, ks, ls, hC⟩ := hF
  obtain ⟨kc, c0, c1, c2, ko, lo, kf, lf, kg, lg⟩ := hC
  refine xv_C_of (by decide) (Nat.le_refl _) (Nat.le_refl _) (xv_cat1 rfl) (Nat.le_of_ble_eq_true rfl) ?_
  show xv_X sc 0 J_Entry_sealGoes 0 [some (.ref h), none, none] [] u (xv_N u) (xv_S u) _
  suffices j27 : xv_X sc 0 J_Entry_sealGoes 27 [some (.ref h), none, none] [.int (xB (decide (xv_i u h 8 = xv_i u h 2) && decide (xv_i u h 9 = xv_i u h 6)))] u (xv_N u) (xv_S u) (xv_q (xv_N u) (xv_S u) (xv_pi (fun r w => r = xB ((decide (xv_i u h 8 = xv_i u h 2) && decide (xv_i u h 9 = xv_i u h 6)) && xSm (xv_i u s) (xv_i u o) n) ∧ w = u))) by
    refine xv_aload_n (pc := 0) d_Entry_sealGoes_0 rfl rfl ?_
    refine xv_getI (pc := 1) d_Entry_sealGoes_1 f_Entry_49 rfl k0 ?_
    refine xv_aload_n (pc := 4) d_Entry_sealGoes_4 rfl rfl ?_
    refine xv_getI (pc := 5) d_Entry_sealGoes_5 f_Entry_36 rfl k0 ?_
    refine xv_icmp_ne (pc := 8) 26 d_Entry_sealGoes_8 (by decide) (fun h8 => ?_) (fun h8 => ?_)
    · rw [show xB (decide (xv_i u h 8 = xv_i u h 2) && decide (xv_i u h 9 = xv_i u h 6)) = 0 by rw [decide_eq_false h8]; rfl] at j27
      refine xv_iconst (pc := 26) 0 d_Entry_sealGoes_26 (by decide) ?_
      exact j27
    · refine xv_aload_n (pc := 11) d_Entry_sealGoes_11 rfl rfl ?_
      refine xv_getI (pc := 12) d_Entry_sealGoes_12 f_Entry_52 rfl k0 ?_
      refine xv_aload_n (pc := 15) d_Entry_sealGoes_15 rfl rfl ?_
      refine xv_getI (pc := 16) d_Entry_sealGoes_16 f_Entry_42 rfl k0 ?_
      refine xv_icmp_ne (pc := 19) 26 d_Entry_sealGoes_19 (by decide) (fun h19 => ?_) (fun h19 => ?_)
      · rw [show xB (decide (xv_i u h 8 = xv_i u h 2) && decide (xv_i u h 9 = xv_i u h 6)) = 0 by rw [decide_eq_false h19, Bool.and_false]; rfl] at j27
        refine xv_iconst (pc := 26) 0 d_Entry_sealGoes_26 (by decide) ?_
        exact j27
      · rw [show xB (decide (xv_i u h 8 = xv_i u h 2) && decide (xv_i u h 9 = xv_i u h 6)) = 1 by rw [decide_eq_true h8, decide_eq_true h19]; rfl] at j27
        refine xv_iconst (pc := 22) 1 d_Entry_sealGoes_22 (by decide) ?_
        refine xv_goto (pc := 23) 27 d_Entry_sealGoes_23 (by decide) ?_
        exact j27
  generalize (decide (xv_i u h 8 = xv_i u h 2) && decide (xv_i u h 9 = xv_i u h 6)) = b
  have loop : ∀ (r k : Nat), k + r = n → xv_X sc 0 J_Entry_sealGoes 30 [some (.ref h), some (.int (xB (b && xSm (xv_i u s) (xv_i u o) k))), some (.int (nI k))] [] u (xv_N u) (xv_S u) (xv_q (xv_N u) (xv_S u) (xv_pi (fun r w => r = xB (b && xSm (xv_i u s) (xv_i u o) n) ∧ w = u))) := by
    intro r
    induction r with
    | zero =>
      intro k hk
      have hk : k = n := by omega
      subst hk
      refine xv_iload_n (pc := 30) d_Entry_sealGoes_30 rfl rfl ?_
      refine xv_aload_n (pc := 31) d_Entry_sealGoes_31 rfl rfl ?_
      refine xv_getR (pc := 32) d_Entry_sealGoes_32 f_Entry_12 rfl k0 r0 ?_
      refine xv_getI (pc := 35) d_Entry_sealGoes_35 f_Entry_26 rfl kc ?_
      refine xv_icmp_ge (pc := 38) 75 d_Entry_sealGoes_38 (by decide) (fun h38 => ?_) (fun h38 => ?_)
      · refine xv_iload_n (pc := 75) d_Entry_sealGoes_75 rfl rfl ?_
        exact xv_retzq (pc := 76) d_Entry_sealGoes_76 rfl (xB_and _) rfl rfl ⟨_, rfl, rfl, rfl⟩
      · exact absurd (by rw [hn]; exact nI_le (Nat.le_refl _) (by omega)) h38
    | succ r ih =>
      intro k hk
      have es : nI k + Int32.ofInt 1 = nI (k + 1) := by rw [nI_succ]; rfl
      have hc : (nI k).toNatClampNeg = k := nI_clamp (by omega)
      refine xv_iload_n (pc := 30) d_Entry_sealGoes_30 rfl rfl ?_
      refine xv_aload_n (pc := 31) d_Entry_sealGoes_31 rfl rfl ?_
      refine xv_getR (pc := 32) d_Entry_sealGoes_32 f_Entry_12 rfl k0 r0 ?_
      refine xv_getI (pc := 35) d_Entry_sealGoes_35 f_Entry_26 rfl kc ?_
      refine xv_icmp_ge (pc := 38) 75 d_Entry_sealGoes_38 (by decide) (fun h38 => ?_) (fun h38 => ?_)
      · exact absurd (by rw [hn] at h38; exact h38) (nI_ge (by omega) (by omega))
      · refine xv_iload_n (pc := 41) d_Entry_sealGoes_41 rfl rfl ?_
        refine xv_if_eq (pc := 42) 75 d_Entry_sealGoes_42 (by decide) (fun h42 => ?_) (fun h42 => ?_)
        · have e := xB_eq h42
          refine xv_iload_n (pc := 75) d_Entry_sealGoes_75 rfl rfl ?_
          exact xv_retzq (pc := 76) d_Entry_sealGoes_76 rfl (xB_and _) rfl rfl ⟨_, rfl, by
            rw [e]
            cases hbb : b
            · rfl
            · rw [hbb] at e
              rw [xSm_mono (a := k) (by simpa using e) n (by omega)]
              rfl, rfl⟩
        · have e := xB_ne h42
          refine xv_aload_n (pc := 45) d_Entry_sealGoes_45 rfl rfl ?_
          refine xv_getR (pc := 46) d_Entry_sealGoes_46 f_Entry_22 rfl k0 r7 ?_
          refine xv_iload_n (pc := 49) d_Entry_sealGoes_49 rfl rfl ?_
          refine xv_ald (pc := 50) d_Entry_sealGoes_50 ks (by rw [ls]; exact vp_in_nI (by omega) (by decide)) ?_
          refine xv_aload_n (pc := 51) d_Entry_sealGoes_51 rfl rfl ?_
          refine xv_getR (pc := 52) d_Entry_sealGoes_52 f_Entry_12 rfl k0 r0 ?_
          refine xv_getR (pc := 55) d_Entry_sealGoes_55 f_Entry_55 rfl kc c0 ?_
          refine xv_iload_n (pc := 58) d_Entry_sealGoes_58 rfl rfl ?_
          refine xv_ald (pc := 59) d_Entry_sealGoes_59 ko (by rw [lo]; exact vp_in_nI (by omega) (by decide)) ?_
          refine xv_icmp_ne (pc := 60) 67 d_Entry_sealGoes_60 (by decide) (fun h60 => ?_) (fun h60 => ?_)
          · rw [hc] at h60
            refine xv_iconst (pc := 67) 0 d_Entry_sealGoes_67 (by decide) ?_
            refine xv_istore_1 (pc := 68) d_Entry_sealGoes_68 (by decide) rfl ?_
            refine xv_iinc_2 (pc := 69) (nI (k + 1)) d_Entry_sealGoes_69 es (by decide) rfl ?_
            refine xv_goto (pc := 72) 30 d_Entry_sealGoes_72 (by decide) ?_
            have e2 : xB (b && xSm (xv_i u s) (xv_i u o) (k + 1)) = 0 := by
              show xB (b && (_ && _)) = 0
              rw [decide_eq_false h60, Bool.and_false, Bool.and_false]
              rfl
            rw [← e2]
            exact ih (k + 1) (by omega)
          · rw [hc] at h60
            refine xv_iconst (pc := 63) 1 d_Entry_sealGoes_63 (by decide) ?_
            refine xv_goto (pc := 64) 68 d_Entry_sealGoes_64 (by decide) ?_
            refine xv_istore_1 (pc := 68) d_Entry_sealGoes_68 (by decide) rfl ?_
            refine xv_iinc_2 (pc := 69) (nI (k + 1)) d_Entry_sealGoes_69 es (by decide) rfl ?_
            refine xv_goto (pc := 72) 30 d_Entry_sealGoes_72 (by decide) ?_
            have e2 : xB (b && xSm (xv_i u s) (xv_i u o) (k + 1)) = 1 := by
              show xB (b && (_ && _)) = 1
              rw [decide_eq_true h60, Bool.and_true, e]
              rfl
            rw [← e2]
            exact ih (k + 1) (by omega)
  refine xv_istore_1 (pc := 27) d_Entry_sealGoes_27 (by decide) rfl ?_
  refine xv_iconst (pc := 28) 0 d_Entry_sealGoes_28 (by decide) ?_
  refine xv_istore_2 (pc := 29) d_Entry_sealGoes_29 (by decide) rfl ?_
  have e0 : b = (b && xSm (xv_i u s) (xv_i u o) 0) := by show b = (b && true); rw [Bool.and_true]
  rw [e0]
  have := loop n 0 (by omega)
  rw [← e0] at this ⊢
  exact this

