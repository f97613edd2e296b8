/-! Code.becomes -/
theorem c_Code_becomes {sc : Nat × (Nat → Int32)} {u : xv_M} {h o f g h' o' f' g' n : Nat} (hF : xv_Co u h o f g) (hG : xv_Co u h' o' f' g') (hn : xv_i u h' 3 = nI n) (hlt : n ≤ 265) (a1 : f' ≠ o) (a2 : g' ≠ o) (a3 : g' ≠ f) : xv_C sc 1 J_Code_becomes [.ref h, .ref h'] u (xv_N u) (xv_S u) (xv_pv (fun w => ∃ f1 f2 f3, w = xv_si (xv_sw (xv_sw (xv_sw u o f1) f f2) g f3) h 3 (nI n) ∧ ∀ i, i < n → f1 i = xv_i u o' i ∧ f2 i = xv_i u f' i ∧ f3 i = xv_i u g' i)) := by
  obtain ⟨k0, r0, r1, r2, ko, lo, kf, lf, kg, lg⟩ := hF
  obtain ⟨k0', r0', r1', r2', ko', lo', kf', lf', kg', lg'⟩ := hG
  have n1 := xv_ne k0' ko (by decide)
  have n2 := xv_ne k0' kf (by decide)
  have n3 := xv_ne k0' kg (by decide)
  have hc : (nI n).toNatClampNeg = n := nI_clamp (by omega)
  refine xv_C_of (by decide) (Nat.le_refl _) (Nat.le_refl _) (xv_cat1 rfl) (Nat.le_of_ble_eq_true rfl) ?_
  show xv_X sc 1 J_Code_becomes 0 [some (.ref h), some (.ref h')] [] u (xv_N u) (xv_S u) _
  refine xv_aload_n (pc := 0) d_Code_becomes_0 rfl rfl ?_
  refine xv_getR (pc := 1) d_Code_becomes_1 f_Code_9 rfl k0' r0' ?_
  refine xv_iconst (pc := 4) 0 d_Code_becomes_4 (by decide) ?_
  refine xv_aload_n (pc := 5) d_Code_becomes_5 rfl rfl ?_
  refine xv_getR (pc := 6) d_Code_becomes_6 f_Code_9 rfl k0 r0 ?_
  refine xv_iconst (pc := 9) 0 d_Code_becomes_9 (by decide) ?_
  refine xv_aload_n (pc := 10) d_Code_becomes_10 rfl rfl ?_
  refine xv_getI (pc := 11) d_Code_becomes_11 f_Code_25 rfl k0' ?_
  rw [hn]
  refine xv_copy (pc := 14) d_Code_becomes_14 k_547 k_367 k_366 k_13 (by omega) (Nat.le_of_ble_eq_true rfl) ko' ko (by decide) (by decide) (by first | decide | exact nI_pos (by omega)) (by rw [lo', hc]; simpa using hlt) (by rw [lo, hc]; simpa using hlt) ?_
  refine xv_aload_n (pc := 17) d_Code_becomes_17 rfl rfl ?_
  refine xv_getR (pc := 18) d_Code_becomes_18 f_Code_15 rfl k0' r1' ?_
  refine xv_iconst (pc := 21) 0 d_Code_becomes_21 (by decide) ?_
  refine xv_aload_n (pc := 22) d_Code_becomes_22 rfl rfl ?_
  refine xv_getR (pc := 23) d_Code_becomes_23 f_Code_15 rfl k0 r1 ?_
  refine xv_iconst (pc := 26) 0 d_Code_becomes_26 (by decide) ?_
  refine xv_aload_n (pc := 27) d_Code_becomes_27 rfl rfl ?_
  refine xv_getI (pc := 28) d_Code_becomes_28 f_Code_25 rfl k0' ?_
  rw [xv_sw_ne n1, hn]
  refine xv_copy (pc := 31) d_Code_becomes_31 k_547 k_367 k_366 k_13 (by omega) (Nat.le_of_ble_eq_true rfl) kf' kf (by decide) (by decide) (by first | decide | exact nI_pos (by omega)) (by show _ ≤ xv_l u f'; rw [lf', hc]; simpa using hlt) (by show _ ≤ xv_l u f; rw [lf, hc]; simpa using hlt) ?_
  refine xv_aload_n (pc := 34) d_Code_becomes_34 rfl rfl ?_
  refine xv_getR (pc := 35) d_Code_becomes_35 f_Code_18 rfl k0' r2' ?_
  refine xv_iconst (pc := 38) 0 d_Code_becomes_38 (by decide) ?_
  refine xv_aload_n (pc := 39) d_Code_becomes_39 rfl rfl ?_
  refine xv_getR (pc := 40) d_Code_becomes_40 f_Code_18 rfl k0 r2 ?_
  refine xv_iconst (pc := 43) 0 d_Code_becomes_43 (by decide) ?_
  refine xv_aload_n (pc := 44) d_Code_becomes_44 rfl rfl ?_
  refine xv_getI (pc := 45) d_Code_becomes_45 f_Code_25 rfl k0' ?_
  rw [xv_sw_ne n2, xv_sw_ne n1, hn]
  refine xv_copy (pc := 48) d_Code_becomes_48 k_547 k_367 k_366 k_13 (by omega) (Nat.le_of_ble_eq_true rfl) kg' kg (by decide) (by decide) (by first | decide | exact nI_pos (by omega)) (by show _ ≤ xv_l u g'; rw [lg', hc]; simpa using hlt) (by show _ ≤ xv_l u g; rw [lg, hc]; simpa using hlt) ?_
  refine xv_aload_n (pc := 51) d_Code_becomes_51 rfl rfl ?_
  refine xv_aload_n (pc := 52) d_Code_becomes_52 rfl rfl ?_
  refine xv_getI (pc := 53) d_Code_becomes_53 f_Code_25 rfl k0' ?_
  refine xv_putI (pc := 56) d_Code_becomes_56 f_Code_25 (Or.inl rfl) fin_4_3 k0 ?_
  rw [hc]
  refine xv_retvq (pc := 59) d_Code_becomes_59 rfl rfl rfl ⟨rfl, _, _, _, by rw [show ∀ p q r, xv_i (xv_sw (xv_sw (xv_sw u o p) f q) g r) h' 3 = nI n from fun p q r => by rw [xv_sw_ne n3, xv_sw_ne n2, xv_sw_ne n1, hn]], fun i hi => ⟨?_, ?_, ?_⟩⟩
  · exact sb_cpy0 hi
  · refine (sb_cpy0 hi).trans ?_
    exact xv_sw_ne a1
  · refine (sb_cpy0 hi).trans ?_
    rw [xv_sw_ne a3, xv_sw_ne a2]

