/-! the model: enter, and how a frame of its run stands -/
def xMS (M b : Nat) : Prop := b = M + 23 ∨ b = M + 24 ∨ b = M + 25 ∨ b = M + 26 ∨ b = M + 27
/-- the run of depth d, its values from base on: row of units, unit, variables and values -/
def xMF (w : xv_M) (M d base g pc : Nat) (σ : xZ) : Prop := xv_i w (M + 26) d = nI g ∧ xv_i w (M + 25) d = nI pc ∧ (∀ q, q < 7 → xv_i w (M + 24) (7 * d + q) = σ.1 q) ∧ ∀ q, q < σ.2.2 → xv_i w (M + 23) (base + q) = σ.2.1 q
/-- what lies below depth d and base stays -/
def xMR (u w : xv_M) (M d base : Nat) : Prop := xSi (xMS M) u w ∧ (∀ q, q < base → xv_i w (M + 23) q = xv_i u (M + 23) q) ∧ (∀ q, q < 7 * d → xv_i w (M + 24) q = xv_i u (M + 24) q) ∧ (∀ q, q < d → xv_i w (M + 25) q = xv_i u (M + 25) q ∧ xv_i w (M + 26) q = xv_i u (M + 26) q ∧ xv_i w (M + 27) q = xv_i u (M + 27) q)
theorem xMR_rf {u : xv_M} {M d base : Nat} : xMR u u M d base := ⟨xSi_rf, fun _ _ => rfl, fun _ _ => rfl, fun _ _ => ⟨rfl, rfl, rfl⟩⟩
theorem xMR_tr {u v w : xv_M} {M d base d' base' : Nat} (hd : d ≤ d') (hb : base ≤ base') (a : xMR u v M d base) (b : xMR v w M d' base') : xMR u w M d base := by
  obtain ⟨a1, a2, a3, a4⟩ := a
  obtain ⟨b1, b2, b3, b4⟩ := b
  refine ⟨xSi_tr a1 b1, fun q hq => (b2 q (by omega)).trans (a2 q hq), fun q hq => (b3 q (by omega)).trans (a3 q hq), fun q hq => ?_⟩
  obtain ⟨c1, c2, c3⟩ := b4 q (by omega)
  obtain ⟨e1, e2, e3⟩ := a4 q hq
  exact ⟨c1.trans e1, c2.trans e2, c3.trans e3⟩
theorem xMR_si {u : xv_M} {M d base c q : Nat} {v : Int32} (h : (c = M + 23 ∧ base ≤ q) ∨ (c = M + 24 ∧ 7 * d ≤ q) ∨ ((c = M + 25 ∨ c = M + 26 ∨ c = M + 27) ∧ d ≤ q)) : xMR u (xv_si u c q v) M d base := by
  refine ⟨xSi_si (by unfold xMS; omega), fun j hj => ?_, fun j hj => ?_, fun j hj => ⟨?_, ?_, ?_⟩⟩
  · by_cases e : M + 23 = c
    · subst e; exact xv_si_nj (by omega)
    · exact xv_si_ne e
  · by_cases e : M + 24 = c
    · subst e; exact xv_si_nj (by omega)
    · exact xv_si_ne e
  · by_cases e : M + 25 = c
    · subst e; exact xv_si_nj (by omega)
    · exact xv_si_ne e
  · by_cases e : M + 26 = c
    · subst e; exact xv_si_nj (by omega)
    · exact xv_si_ne e
  · by_cases e : M + 27 = c
    · subst e; exact xv_si_nj (by omega)
    · exact xv_si_ne e
theorem xIdx7 {d v : Nat} : (7 : Int32) * nI d + nI v = nI (7 * d + v) := by rw [← nI_add, ← pk_mul]; rfl
theorem c_Model_enter {sc : Nat × (Nat → Int32)} {u : xv_M} {M d base g n : Nat} {x y z : Int32} (hM : xMo u M) (hd : d < 9) (hg : g < 24) (hn : n ≤ 3) : xv_C sc 0 J_Model_enter [.ref M, .int (nI d), .int (nI g), .int (nI n), .int x, .int y, .int z] u (xv_N u) (xv_S u) (xv_pv (fun w => xMR u w M d base ∧ xMF w M d base g 0 (xArg (nI n) x y z, fun _ => 0, 0))) := by
  have hcd : (nI d).toNatClampNeg = d := nI_clamp (by omega)
  have hid : vp_in (nI d) 9 := vp_in_nI hd (by decide)
  refine xv_C_of (by decide) (Nat.le_refl _) (Nat.le_refl _) (xv_cat1 rfl) (Nat.le_of_ble_eq_true rfl) ?_
  show xv_X sc 0 J_Model_enter 0 [some (.ref M), some (.int (nI d)), some (.int (nI g)), some (.int (nI n)), some (.int x), some (.int y), some (.int z), none] [] u (xv_N u) (xv_S u) _
  have loop : ∀ (r v : Nat) (w : xv_M), v + r = 7 → xMR u w M d base → xv_i w (M + 26) d = nI g → xv_i w (M + 25) d = nI 0 → (∀ q, q < v → xv_i w (M + 24) (7 * d + q) = xArg (nI n) x y z q) → xv_X sc 0 J_Model_enter 17 [some (.ref M), some (.int (nI d)), some (.int (nI g)), some (.int (nI n)), some (.int x), some (.int y), some (.int z), some (.int (nI v))] [] w (xv_N u) (xv_S u) (xv_q (xv_N u) (xv_S u) (xv_pv (fun w => xMR u w M d base ∧ xMF w M d base g 0 (xArg (nI n) x y z, fun _ => 0, 0)))) := by
    intro r
    induction r with
    | zero =>
      intro v w hv R h1 h2 h3
      have hv : v = 7 := by omega
      subst hv
      refine xv_iload (pc := 17) d_Model_enter_17 rfl ?_
      refine xv_bipush (pc := 19) 7 d_Model_enter_19 (by decide) ?_
      refine xv_icmp_ge (pc := 21) 75 d_Model_enter_21 (by decide) (fun h21 => ?_) (fun h21 => ?_)
      case refine_2 => exact absurd (by decide) h21
      exact xv_retvq (pc := 75) d_Model_enter_75 rfl R.1.1 R.1.2.1 ⟨rfl, R, h1, h2, h3, fun q hq => absurd hq (Nat.not_lt_zero q)⟩
    | succ r ih =>
      intro v w hv R h1 h2 h3
      have hMw := xSi_Mo R.1 hM
      have es : nI v + Int32.ofInt 1 = nI (v + 1) := by rw [nI_succ]; rfl
      have ci : (nI (7 * d + v)).toNatClampNeg = 7 * d + v := nI_clamp (by omega)
      have ii : vp_in (nI (7 * d + v)) 63 := vp_in_nI (by omega) (by decide)
      have tv : (nI v < nI n) ↔ v < n := nI_ltI (by omega) (by omega)
      have q0 : (nI v = 0) ↔ v = 0 := nI_eq (b := 0) (by omega) (by decide)
      have q1 : (nI v = 1) ↔ v = 1 := nI_eq (b := 1) (by omega) (by decide)
      have st : ∀ t : Int32, t = xArg (nI n) x y z v → xv_X sc 0 J_Model_enter 68 [some (.ref M), some (.int (nI d)), some (.int (nI g)), some (.int (nI n)), some (.int x), some (.int y), some (.int z), some (.int (nI v))] [.int t, .int (nI (7 * d + v)), .ref (M + 24)] w (xv_N u) (xv_S u) (xv_q (xv_N u) (xv_S u) (xv_pv (fun w => xMR u w M d base ∧ xMF w M d base g 0 (xArg (nI n) x y z, fun _ => 0, 0)))) := by
        intro t ht
        refine xv_ast (pc := 68) d_Model_enter_68 (xm_k23 hMw) (xm_i23 hMw ii) ?_
        refine xv_iinc_7 (pc := 69) (nI (v + 1)) d_Model_enter_69 es (by decide) rfl ?_
        refine xv_goto (pc := 72) 17 d_Model_enter_72 (by decide) ?_
        rw [ci]
        refine ih (v + 1) _ (by omega) (xMR_tr (Nat.le_refl _) (Nat.le_refl _) R (xMR_si (Or.inr (Or.inl ⟨rfl, by omega⟩)))) ?_ ?_ (fun q hq => ?_)
        · rw [xv_si_ne (by omega)]; exact h1
        · rw [xv_si_ne (by omega)]; exact h2
        · rw [xv_si_if]
          by_cases e : q = v
          · subst e; rw [if_pos rfl, ht]
          · rw [if_neg (by omega)]; exact h3 q (by omega)
      have ax : v < n → xArg (nI n) x y z v = (if v = 0 then x else if v = 1 then y else z) := by
        intro h
        rcases (by omega : (v = 0 ∧ (n = 1 ∨ n = 2 ∨ n = 3)) ∨ (v = 1 ∧ (n = 2 ∨ n = 3)) ∨ (v = 2 ∧ n = 3)) with ⟨rfl, rfl | rfl | rfl⟩ | ⟨rfl, rfl | rfl⟩ | ⟨rfl, rfl⟩ <;> rfl
      have ax0 : ¬ v < n → xArg (nI n) x y z v = 0 := by
        intro h
        rcases (by omega : v = 0 ∨ v = 1 ∨ v = 2 ∨ 3 ≤ v) with rfl | rfl | rfl | h3
        · rcases (by omega : n = 0) with rfl; rfl
        · rcases (by omega : n = 0 ∨ n = 1) with rfl | rfl <;> rfl
        · rcases (by omega : n = 0 ∨ n = 1 ∨ n = 2) with rfl | rfl | rfl <;> rfl
        · rcases (by omega : v = 3 ∨ v = 4 ∨ v = 5 ∨ v = 6) with rfl | rfl | rfl | rfl <;> rfl
      refine xv_iload (pc := 17) d_Model_enter_17 rfl ?_
      refine xv_bipush (pc := 19) 7 d_Model_enter_19 (by decide) ?_
      refine xv_icmp_ge (pc := 21) 75 d_Model_enter_21 (by decide) (fun h21 => ?_) (fun h21 => ?_)
      · exact absurd h21 (nI_ge (b := 7) (by omega) (by decide))
      refine xv_aload_n (pc := 24) d_Model_enter_24 rfl rfl ?_
      refine xv_getR (pc := 25) d_Model_enter_25 f_Model_80 rfl hMw.1 (xm_r23 hMw) ?_
      refine xv_bipush (pc := 28) 7 d_Model_enter_28 (by decide) ?_
      refine xv_iload_n (pc := 30) d_Model_enter_30 rfl rfl ?_
      refine xv_imul (pc := 31) d_Model_enter_31 ?_
      refine xv_iload (pc := 32) d_Model_enter_32 rfl ?_
      refine xv_iadd (pc := 34) d_Model_enter_34 ?_
      refine xv_iload (pc := 35) d_Model_enter_35 rfl ?_
      refine xv_iload_n (pc := 37) d_Model_enter_37 rfl rfl ?_
      refine xv_icmp_lt (pc := 38) 45 d_Model_enter_38 (by decide) (fun h38 => ?_) (fun h38 => ?_)
      · rw [tv] at h38
        rw [xIdx7]
        refine xv_iload (pc := 45) d_Model_enter_45 rfl ?_
        refine xv_if_ne (pc := 47) 55 d_Model_enter_47 (by decide) (fun h47 => ?_) (fun h47 => ?_)
        · rw [q0] at h47
          refine xv_iload (pc := 55) d_Model_enter_55 rfl ?_
          refine xv_iconst (pc := 57) 1 d_Model_enter_57 (by decide) ?_
          refine xv_icmp_ne (pc := 58) 66 d_Model_enter_58 (by decide) (fun h58 => ?_) (fun h58 => ?_)
          · rw [q1] at h58
            refine xv_iload (pc := 66) d_Model_enter_66 rfl ?_
            exact st z (by rw [ax h38, if_neg h47, if_neg h58])
          · rw [q1] at h58
            refine xv_iload (pc := 61) d_Model_enter_61 rfl ?_
            refine xv_goto (pc := 63) 68 d_Model_enter_63 (by decide) ?_
            exact st y (by rw [ax h38, if_neg h47, if_pos h58])
        · rw [q0] at h47
          refine xv_iload (pc := 50) d_Model_enter_50 rfl ?_
          refine xv_goto (pc := 52) 68 d_Model_enter_52 (by decide) ?_
          exact st x (by rw [ax h38, if_pos h47])
      · rw [tv] at h38
        rw [xIdx7]
        refine xv_iconst (pc := 41) 0 d_Model_enter_41 (by decide) ?_
        refine xv_goto (pc := 42) 68 d_Model_enter_42 (by decide) ?_
        exact st 0 (ax0 h38).symm
  refine xv_aload_n (pc := 0) d_Model_enter_0 rfl rfl ?_
  refine xv_getR (pc := 1) d_Model_enter_1 f_Model_86 rfl hM.1 (xm_r25 hM) ?_
  refine xv_iload_n (pc := 4) d_Model_enter_4 rfl rfl ?_
  refine xv_iload_n (pc := 5) d_Model_enter_5 rfl rfl ?_
  refine xv_ast (pc := 6) d_Model_enter_6 (xm_k25 hM) (xm_i25 hM hid) ?_
  refine xv_aload_n (pc := 7) d_Model_enter_7 rfl rfl ?_
  refine xv_getR (pc := 8) d_Model_enter_8 f_Model_83 rfl hM.1 (xm_r24 hM) ?_
  refine xv_iload_n (pc := 11) d_Model_enter_11 rfl rfl ?_
  refine xv_iconst (pc := 12) 0 d_Model_enter_12 (by decide) ?_
  refine xv_ast (pc := 13) d_Model_enter_13 (xm_k24 hM) (xm_i24 hM hid) ?_
  refine xv_iconst (pc := 14) 0 d_Model_enter_14 (by decide) ?_
  refine xv_istore_7 (pc := 15) d_Model_enter_15 (by decide) rfl ?_
  rw [hcd]
  refine loop 7 0 _ (by omega) (xMR_tr (Nat.le_refl _) (Nat.le_refl _) (xMR_si (Or.inr (Or.inr ⟨Or.inr (Or.inl rfl), Nat.le_refl _⟩))) (xMR_si (Or.inr (Or.inr ⟨Or.inl rfl, Nat.le_refl _⟩)))) ?_ ?_ (fun q hq => absurd hq (Nat.not_lt_zero q))
  · rw [xv_si_ne (by omega), xv_si_eq]
  · rw [xv_si_eq]
    rfl

