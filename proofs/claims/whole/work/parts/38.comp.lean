/-! the compiler's memory: how many units, their numbers, firsts, seconds, marks of TIMES; the height, the stack -/
abbrev xQ : Type := Nat × (Nat → Int32) × (Nat → Int32) × (Nat → Int32) × (Nat → Int32) × Int32 × Int32
def xQi (h x : Nat) (σ : xQ) (i : Nat → Nat → Int32) (b q : Nat) : Int32 := if b = x + 2 then σ.2.1 q else if b = x + 3 then σ.2.2.1 q else if b = x + 4 then σ.2.2.2.1 q else if b = x + 5 then σ.2.2.2.2.1 q else if b = x + 1 ∧ q = 3 then nI σ.1 else if b = h ∧ q = 3 then σ.2.2.2.2.2.1 else if b = x ∧ q = 4 then σ.2.2.2.2.2.2 else i b q
def xEM (u : xv_M) (h x : Nat) (σ : xQ) : xv_M := xv_mk (xv_N u) (xv_S u) (xv_k u) (xv_l u) (xQi h x σ (xv_i u)) (xv_r u) (xv_g u)
def xAp (h x : Nat) : Prop := h ≠ x ∧ h ≠ x + 1 ∧ h ≠ x + 2 ∧ h ≠ x + 3 ∧ h ≠ x + 4 ∧ h ≠ x + 5
theorem xEM_x {u : xv_M} {h x a j : Nat} {σ τ : xQ} {v : Int32} (H : ∀ b q, (if b = a ∧ q = j then v else xQi h x σ (xv_i u) b q) = xQi h x τ (xv_i u) b q) : xv_si (xEM u h x σ) a j v = xEM u h x τ := by
  unfold xv_si xEM
  congr 1
  exact funext fun b => funext fun q => H b q
theorem xEM_2 {u : xv_M} {h x j n : Nat} {v ht st : Int32} {o f g t : Nat → Int32} : xv_si (xEM u h x (n, o, f, g, t, ht, st)) (x + 2) j v = xEM u h x (n, upd o j v, f, g, t, ht, st) := xEM_x (fun b q => by
  unfold xQi
  by_cases e : b = x + 2
  · subst e
    simp only [true_and, if_true]
    rfl
  · simp only [e, false_and, if_false])
theorem xEM_3 {u : xv_M} {h x j n : Nat} {v ht st : Int32} {o f g t : Nat → Int32} : xv_si (xEM u h x (n, o, f, g, t, ht, st)) (x + 3) j v = xEM u h x (n, o, upd f j v, g, t, ht, st) := xEM_x (fun b q => by
  unfold xQi
  by_cases e : b = x + 3
  · subst e
    simp only [true_and, if_true, show ¬ x + 3 = x + 2 by omega, if_false]
    rfl
  · simp only [e, false_and, if_false])
theorem xEM_4 {u : xv_M} {h x j n : Nat} {v ht st : Int32} {o f g t : Nat → Int32} : xv_si (xEM u h x (n, o, f, g, t, ht, st)) (x + 4) j v = xEM u h x (n, o, f, upd g j v, t, ht, st) := xEM_x (fun b q => by
  unfold xQi
  by_cases e : b = x + 4
  · subst e
    simp only [true_and, if_true, show ¬ x + 4 = x + 2 by omega, show ¬ x + 4 = x + 3 by omega, if_false]
    rfl
  · simp only [e, false_and, if_false])
theorem xEM_5 {u : xv_M} {h x j n : Nat} {v ht st : Int32} {o f g t : Nat → Int32} : xv_si (xEM u h x (n, o, f, g, t, ht, st)) (x + 5) j v = xEM u h x (n, o, f, g, upd t j v, ht, st) := xEM_x (fun b q => by
  unfold xQi
  by_cases e : b = x + 5
  · subst e
    simp only [true_and, if_true, show ¬ x + 5 = x + 2 by omega, show ¬ x + 5 = x + 3 by omega, show ¬ x + 5 = x + 4 by omega, if_false]
    rfl
  · simp only [e, false_and, if_false])
theorem xEM_1 {u : xv_M} {h x n m : Nat} {ht st : Int32} {o f g t : Nat → Int32} : xv_si (xEM u h x (n, o, f, g, t, ht, st)) (x + 1) 3 (nI m) = xEM u h x (m, o, f, g, t, ht, st) := xEM_x (fun b q => by
  unfold xQi
  by_cases e : b = x + 1 ∧ q = 3
  · obtain ⟨rfl, rfl⟩ := e
    simp only [and_self, if_true, show ¬ x + 1 = x + 2 by omega, show ¬ x + 1 = x + 3 by omega, show ¬ x + 1 = x + 4 by omega, show ¬ x + 1 = x + 5 by omega, if_false]
  · simp only [e, if_false])
theorem xEM_h {u : xv_M} {h x n : Nat} {v ht st : Int32} {o f g t : Nat → Int32} (H : xAp h x) : xv_si (xEM u h x (n, o, f, g, t, ht, st)) h 3 v = xEM u h x (n, o, f, g, t, v, st) := xEM_x (fun b q => by
  obtain ⟨h0, h1, h2, h3, h4, h5⟩ := H
  unfold xQi
  by_cases e : b = h ∧ q = 3
  · obtain ⟨rfl, rfl⟩ := e
    simp only [and_self, if_true, h1, h2, h3, h4, h5, false_and, if_false]
  · simp only [e, if_false])
theorem xEM_s {u : xv_M} {h x n : Nat} {v ht st : Int32} {o f g t : Nat → Int32} (H : xAp h x) : xv_si (xEM u h x (n, o, f, g, t, ht, st)) x 4 v = xEM u h x (n, o, f, g, t, ht, v) := xEM_x (fun b q => by
  obtain ⟨h0, h1, h2, h3, h4, h5⟩ := H
  unfold xQi
  by_cases e : b = x ∧ q = 4
  · obtain ⟨rfl, rfl⟩ := e
    simp only [and_self, if_true, show ¬ b = b + 1 by omega, show ¬ b = b + 2 by omega, show ¬ b = b + 3 by omega, show ¬ b = b + 4 by omega, show ¬ b = b + 5 by omega, show ¬ b = h from fun e => h0 e.symm, false_and, if_false]
  · simp only [e, if_false])
theorem xEM_i {u : xv_M} {h x b q : Nat} {σ : xQ} : xv_i (xEM u h x σ) b q = xQi h x σ (xv_i u) b q := rfl
theorem xEM_rn {u : xv_M} {h x : Nat} {σ : xQ} : xv_i (xEM u h x σ) (x + 1) 3 = nI σ.1 := by
  rw [xEM_i]; unfold xQi
  simp only [and_self, if_true, show ¬ x + 1 = x + 2 by omega, show ¬ x + 1 = x + 3 by omega, show ¬ x + 1 = x + 4 by omega, show ¬ x + 1 = x + 5 by omega, if_false]
theorem xEM_rh {u : xv_M} {h x : Nat} {σ : xQ} (H : xAp h x) : xv_i (xEM u h x σ) h 3 = σ.2.2.2.2.2.1 := by
  obtain ⟨h0, h1, h2, h3, h4, h5⟩ := H
  rw [xEM_i]; unfold xQi
  simp only [and_self, if_true, h1, h2, h3, h4, h5, false_and, if_false]
theorem xEM_rs {u : xv_M} {h x : Nat} {σ : xQ} (H : xAp h x) : xv_i (xEM u h x σ) x 4 = σ.2.2.2.2.2.2 := by
  obtain ⟨h0, h1, h2, h3, h4, h5⟩ := H
  rw [xEM_i]; unfold xQi
  simp only [and_self, if_true, show ¬ x = x + 1 by omega, show ¬ x = x + 2 by omega, show ¬ x = x + 3 by omega, show ¬ x = x + 4 by omega, show ¬ x = x + 5 by omega, show ¬ x = h from fun e => h0 e.symm, false_and, if_false]
/-- elsewhere it is as it was -/
theorem xEM_ro {u : xv_M} {h x b q : Nat} {σ : xQ} (h0 : b ≠ x) (h1 : b ≠ x + 1) (h2 : b ≠ x + 2) (h3 : b ≠ x + 3) (h4 : b ≠ x + 4) (h5 : b ≠ x + 5) (h6 : b ≠ h) : xv_i (xEM u h x σ) b q = xv_i u b q := by
  rw [xEM_i]; unfold xQi
  simp only [h0, h1, h2, h3, h4, h5, h6, false_and, if_false]
/-! Compiler -/
def xCp (u : xv_M) (h x fm o a t : Nat) : Prop := xv_k u h = 7 ∧ xv_r u h 0 = some fm ∧ xv_r u h 1 = some x ∧ xv_r u h 2 = some (x + 1) ∧ xv_En u x (x + 1) (x + 2) (x + 3) (x + 4) (x + 5) (x + 6) ∧ xv_Fo u fm o a t ∧ (∀ d, d ≤ 5 → o ≠ x + d ∧ a ≠ x + d ∧ t ≠ x + d)
theorem xCp_ap {u : xv_M} {h x fm o a t : Nat} (H : xCp u h x fm o a t) : xAp h x := by
  obtain ⟨k0, -, -, -, hE, -, -⟩ := H
  obtain ⟨ke, e0, e1, e7, kt, lt, ks, ls, kc, c0, c1, c2, ko, lo, kf, lf, kg, lg⟩ := hE
  exact ⟨xv_ne k0 ke (by decide), xv_ne k0 kc (by decide), xv_ne k0 ko (by decide), xv_ne k0 kf (by decide), xv_ne k0 kg (by decide), xv_ne k0 kt (by decide)⟩
def xHt (ht : Int32) (op : Nat) : Int32 := ht + (xv_sf 2 op - xv_sf 1 op)
def xEm (σ : xQ) (op : Nat) (y : Int32) : xQ := (σ.1 + 1, upd σ.2.1 σ.1 (nI op), upd σ.2.2.1 σ.1 y, upd σ.2.2.2.1 σ.1 0, σ.2.2.2.2.1, xHt σ.2.2.2.2.2.1 op, if σ.2.2.2.2.2.2 < xHt σ.2.2.2.2.2.1 op then xHt σ.2.2.2.2.2.1 op else σ.2.2.2.2.2.2)
theorem c_Comp_emit {sc : Nat × (Nat → Int32)} {u : xv_M} {h x fm o a t op : Nat} {σ : xQ} {y : Int32} (hC : xCp u h x fm o a t) (hop : op < 22) (hlt : σ.1 < 265) : xv_C sc 1 J_Comp_emit [.ref h, .int (nI op), .int y] (xEM u h x σ) (xv_N u) (xv_S u) (xv_pv (fun w => w = xEM u h x (xEm σ op y))) := by
  have hap := xCp_ap hC
  obtain ⟨k0, r0, r1, r2, hE, hFo, hno⟩ := hC
  have hco : (nI op).toNatClampNeg = op := nI_clamp (by omega)
  obtain ⟨ke, e0, e1, e7, kt, lt, ks, ls, hCo⟩ := hE
  obtain ⟨n, ro, rf, rg, rt, ht, st⟩ := σ
  have hlt : n < 265 := hlt
  refine xv_C_of (by decide) (Nat.le_refl _) (Nat.le_refl _) (xv_cat1 rfl) (Nat.le_of_ble_eq_true rfl) ?_
  show xv_X sc 1 J_Comp_emit 0 [some (.ref h), some (.int (nI op)), some (.int y)] [] (xEM u h x (n, ro, rf, rg, rt, ht, st)) (xv_N u) (xv_S u) _
  refine xv_aload_n (pc := 0) d_Comp_emit_0 rfl rfl ?_
  refine xv_getR (pc := 1) d_Comp_emit_1 f_Comp_25 rfl k0 r2 ?_
  refine xv_iload_n (pc := 4) d_Comp_emit_4 rfl rfl ?_
  refine xv_iload_n (pc := 5) d_Comp_emit_5 rfl rfl ?_
  refine xv_cV2v (pc := 6) (c_Code_append (u := xEM u h x (n, ro, rf, rg, rt, ht, st)) hCo xEM_rn hlt) m_Code_append l_Comp_48 d_Comp_emit_6 (by omega) (by decide : 4 < xv_nc) rfl hCo.1 (Nat.le_of_ble_eq_true rfl) ⟨Nat.le_refl _, Nat.le_refl _⟩ (fun w hw hN hS => ?_)
  rw [xEM_2, xEM_3, xEM_4, xEM_1] at hw
  subst w
  refine xv_aload_n (pc := 9) d_Comp_emit_9 rfl rfl ?_
  refine xv_dup_ref (pc := 10) d_Comp_emit_10 ?_
  refine xv_getI (pc := 11) d_Comp_emit_11 f_Comp_26 rfl k0 ?_
  refine xv_gets (pc := 14) d_Comp_emit_14 (by decide : 2 < xv_ns) s_Comp_51 ?_
  refine xv_iload_n (pc := 17) d_Comp_emit_17 rfl rfl ?_
  refine xv_aldS (pc := 18) d_Comp_emit_18 (by decide) (vp_in_nI hop (by decide)) ?_
  refine xv_gets (pc := 19) d_Comp_emit_19 (by decide : 1 < xv_ns) s_Comp_55 ?_
  refine xv_iload_n (pc := 22) d_Comp_emit_22 rfl rfl ?_
  refine xv_aldS (pc := 23) d_Comp_emit_23 (by decide) (vp_in_nI hop (by decide)) ?_
  refine xv_isub (pc := 24) d_Comp_emit_24 ?_
  refine xv_iadd (pc := 25) d_Comp_emit_25 ?_
  refine xv_putI (pc := 26) d_Comp_emit_26 f_Comp_26 (Or.inl rfl) fin_6_3 k0 ?_
  refine xv_aload_n (pc := 29) d_Comp_emit_29 rfl rfl ?_
  refine xv_getR (pc := 30) d_Comp_emit_30 f_Comp_15 rfl k0 r1 ?_
  refine xv_aload_n (pc := 33) d_Comp_emit_33 rfl rfl ?_
  refine xv_getR (pc := 34) d_Comp_emit_34 f_Comp_15 rfl k0 r1 ?_
  refine xv_getI (pc := 37) d_Comp_emit_37 f_Comp_58 rfl ke ?_
  refine xv_aload_n (pc := 40) d_Comp_emit_40 rfl rfl ?_
  refine xv_getI (pc := 41) d_Comp_emit_41 f_Comp_26 rfl k0 ?_
  rw [hco, xEM_rh hap, xEM_h hap, xEM_rs hap, xEM_rh hap]
  refine xv_max (pc := 44) d_Comp_emit_44 k_405 k_406 k_21 k_407 (by omega) (Nat.le_of_ble_eq_true rfl) ⟨Nat.le_refl _, Nat.le_refl _⟩ ?_
  refine xv_putI (pc := 47) d_Comp_emit_47 f_Comp_58 (Or.inl rfl) fin_5_4 ke ?_
  rw [xEM_s hap]
  exact xv_retvq (pc := 50) d_Comp_emit_50 rfl rfl rfl ⟨rfl, rfl⟩
theorem c_Comp_setFirst {sc : Nat × (Nat → Int32)} {u : xv_M} {h x fm o a t at_ n : Nat} {ro rf rg rt : Nat → Int32} {ht st : Int32} {y : Int32} (hC : xCp u h x fm o a t) (hat : at_ < n) (hlt : n ≤ 265) : xv_C sc 0 J_Comp_setFirst [.ref h, .int (nI at_), .int y] (xEM u h x (n, ro, rf, rg, rt, ht, st)) (xv_N u) (xv_S u) (xv_pv (fun w => w = xEM u h x (n, ro, upd rf at_ y, rg, rt, ht, st))) := by
  have hap := xCp_ap hC
  obtain ⟨k0, r0, r1, r2, hE, hFo, hno⟩ := hC
  have hca : (nI at_).toNatClampNeg = at_ := nI_clamp (by omega)
  obtain ⟨ke, e0, e1, e7, kt, lt, ks, ls, kc, c0, c1, c2, ko, lo, kf, lf, kg, lg⟩ := hE
  refine xv_C_of (by decide) (Nat.le_refl _) (Nat.le_refl _) (xv_cat1 rfl) (Nat.le_of_ble_eq_true rfl) ?_
  show xv_X sc 0 J_Comp_setFirst 0 [some (.ref h), some (.int (nI at_)), some (.int y)] [] (xEM u h x (n, ro, rf, rg, rt, ht, st)) (xv_N u) (xv_S u) _
  refine xv_iload_n (pc := 0) d_Comp_setFirst_0 rfl rfl ?_
  refine xv_aload_n (pc := 1) d_Comp_setFirst_1 rfl rfl ?_
  refine xv_getR (pc := 2) d_Comp_setFirst_2 f_Comp_25 rfl k0 r2 ?_
  refine xv_getI (pc := 5) d_Comp_setFirst_5 f_Comp_67 rfl kc ?_
  refine xv_icmp_ge (pc := 8) 21 d_Comp_setFirst_8 (by decide) (fun h8 => ?_) (fun h8 => ?_)
  · rw [xEM_rn] at h8
    exact absurd h8 (nI_ge hat (by omega))
  · skip
    refine xv_aload_n (pc := 11) d_Comp_setFirst_11 rfl rfl ?_
    refine xv_getR (pc := 12) d_Comp_setFirst_12 f_Comp_25 rfl k0 r2 ?_
    refine xv_getR (pc := 15) d_Comp_setFirst_15 f_Comp_102 rfl kc c1 ?_
    refine xv_iload_n (pc := 18) d_Comp_setFirst_18 rfl rfl ?_
    refine xv_iload_n (pc := 19) d_Comp_setFirst_19 rfl rfl ?_
    refine xv_ast (pc := 20) d_Comp_setFirst_20 kf (by show vp_in _ (xv_l u (x + 3)); rw [lf]; exact vp_in_nI (by omega) (by decide)) ?_
    rw [hca, xEM_3]
    exact xv_retvq (pc := 21) d_Comp_setFirst_21 rfl rfl rfl ⟨rfl, rfl⟩
theorem c_Comp_setSecond {sc : Nat × (Nat → Int32)} {u : xv_M} {h x fm o a t at_ n : Nat} {ro rf rg rt : Nat → Int32} {ht st : Int32} {y : Int32} (hC : xCp u h x fm o a t) (hat : at_ < n) (hlt : n ≤ 265) : xv_C sc 0 J_Comp_setSecond [.ref h, .int (nI at_), .int y] (xEM u h x (n, ro, rf, rg, rt, ht, st)) (xv_N u) (xv_S u) (xv_pv (fun w => w = xEM u h x (n, ro, rf, upd rg at_ y, rt, ht, st))) := by
  have hap := xCp_ap hC
  obtain ⟨k0, r0, r1, r2, hE, hFo, hno⟩ := hC
  have hca : (nI at_).toNatClampNeg = at_ := nI_clamp (by omega)
  obtain ⟨ke, e0, e1, e7, kt, lt, ks, ls, kc, c0, c1, c2, ko, lo, kf, lf, kg, lg⟩ := hE
  refine xv_C_of (by decide) (Nat.le_refl _) (Nat.le_refl _) (xv_cat1 rfl) (Nat.le_of_ble_eq_true rfl) ?_
  show xv_X sc 0 J_Comp_setSecond 0 [some (.ref h), some (.int (nI at_)), some (.int y)] [] (xEM u h x (n, ro, rf, rg, rt, ht, st)) (xv_N u) (xv_S u) _
  refine xv_iload_n (pc := 0) d_Comp_setSecond_0 rfl rfl ?_
  refine xv_aload_n (pc := 1) d_Comp_setSecond_1 rfl rfl ?_
  refine xv_getR (pc := 2) d_Comp_setSecond_2 f_Comp_25 rfl k0 r2 ?_
  refine xv_getI (pc := 5) d_Comp_setSecond_5 f_Comp_67 rfl kc ?_
  refine xv_icmp_ge (pc := 8) 21 d_Comp_setSecond_8 (by decide) (fun h8 => ?_) (fun h8 => ?_)
  · rw [xEM_rn] at h8
    exact absurd h8 (nI_ge hat (by omega))
  · skip
    refine xv_aload_n (pc := 11) d_Comp_setSecond_11 rfl rfl ?_
    refine xv_getR (pc := 12) d_Comp_setSecond_12 f_Comp_25 rfl k0 r2 ?_
    refine xv_getR (pc := 15) d_Comp_setSecond_15 f_Comp_105 rfl kc c2 ?_
    refine xv_iload_n (pc := 18) d_Comp_setSecond_18 rfl rfl ?_
    refine xv_iload_n (pc := 19) d_Comp_setSecond_19 rfl rfl ?_
    refine xv_ast (pc := 20) d_Comp_setSecond_20 kg (by show vp_in _ (xv_l u (x + 4)); rw [lg]; exact vp_in_nI (by omega) (by decide)) ?_
    rw [hca, xEM_4]
    exact xv_retvq (pc := 21) d_Comp_setSecond_21 rfl rfl rfl ⟨rfl, rfl⟩
def xEt (σ : xQ) (op : Nat) : xQ := ((xEm σ op 0).1, (xEm σ op 0).2.1, (xEm σ op 0).2.2.1, (xEm σ op 0).2.2.2.1, upd σ.2.2.2.2.1 σ.1 1, (xEm σ op 0).2.2.2.2.2)
theorem c_Comp_emitOfTimes {sc : Nat × (Nat → Int32)} {u : xv_M} {h x fm o a t op : Nat} {σ : xQ} (hC : xCp u h x fm o a t) (hop : op < 22) (hlt : σ.1 < 265) : xv_C sc 2 J_Comp_emitOfTimes [.ref h, .int (nI op)] (xEM u h x σ) (xv_N u) (xv_S u) (xv_pv (fun w => w = xEM u h x (xEt σ op))) := by
  have hC0 := hC
  have hap := xCp_ap hC
  obtain ⟨k0, r0, r1, r2, hE, hFo, hno⟩ := hC
  obtain ⟨ke, e0, e1, e7, kt, lt, ks, ls, kc, c0, c1, c2, ko, lo, kf, lf, kg, lg⟩ := hE
  have hcn : (nI σ.1).toNatClampNeg = σ.1 := nI_clamp (by omega)
  refine xv_C_of (by decide) (Nat.le_refl _) (Nat.le_refl _) (xv_cat1 rfl) (Nat.le_of_ble_eq_true rfl) ?_
  show xv_X sc 2 J_Comp_emitOfTimes 0 [some (.ref h), some (.int (nI op)), none] [] (xEM u h x σ) (xv_N u) (xv_S u) _
  refine xv_aload_n (pc := 0) d_Comp_emitOfTimes_0 rfl rfl ?_
  refine xv_getR (pc := 1) d_Comp_emitOfTimes_1 f_Comp_25 rfl k0 r2 ?_
  refine xv_getI (pc := 4) d_Comp_emitOfTimes_4 f_Comp_67 rfl kc ?_
  refine xv_istore_2 (pc := 7) d_Comp_emitOfTimes_7 (by decide) rfl ?_
  refine xv_aload_n (pc := 8) d_Comp_emitOfTimes_8 rfl rfl ?_
  refine xv_iload_n (pc := 9) d_Comp_emitOfTimes_9 rfl rfl ?_
  refine xv_iconst (pc := 10) 0 d_Comp_emitOfTimes_10 (by decide) ?_
  rw [xEM_rn]
  refine xv_cV2v (pc := 11) (c_Comp_emit (u := u) (σ := σ) hC0 hop hlt) m_Comp_emit l_Comp_41 d_Comp_emitOfTimes_11 (by omega) (by decide : 6 < xv_nc) rfl k0 (Nat.le_of_ble_eq_true rfl) ⟨Nat.le_refl _, Nat.le_refl _⟩ (fun w hw hN hS => ?_)
  subst w
  refine xv_iload_n (pc := 14) d_Comp_emitOfTimes_14 rfl rfl ?_
  refine xv_aload_n (pc := 15) d_Comp_emitOfTimes_15 rfl rfl ?_
  refine xv_getR (pc := 16) d_Comp_emitOfTimes_16 f_Comp_25 rfl k0 r2 ?_
  refine xv_getI (pc := 19) d_Comp_emitOfTimes_19 f_Comp_67 rfl kc ?_
  refine xv_icmp_ge (pc := 22) 35 d_Comp_emitOfTimes_22 (by decide) (fun h22 => ?_) (fun h22 => ?_)
  · rw [xEM_rn] at h22
    exact absurd h22 (nI_ge (a := σ.1) (b := σ.1 + 1) (by omega) (by omega))
  · skip
    refine xv_aload_n (pc := 25) d_Comp_emitOfTimes_25 rfl rfl ?_
    refine xv_getR (pc := 26) d_Comp_emitOfTimes_26 f_Comp_15 rfl k0 r1 ?_
    refine xv_getR (pc := 29) d_Comp_emitOfTimes_29 f_Comp_70 rfl ke e1 ?_
    refine xv_iload_n (pc := 32) d_Comp_emitOfTimes_32 rfl rfl ?_
    refine xv_iconst (pc := 33) 1 d_Comp_emitOfTimes_33 (by decide) ?_
    refine xv_zast (pc := 34) d_Comp_emitOfTimes_34 kt (by show vp_in _ (xv_l u (x + 5)); rw [lt]; exact vp_in_nI hlt (by decide)) rfl ?_
    rw [hcn]
    refine xv_retvq (pc := 35) d_Comp_emitOfTimes_35 rfl rfl rfl ⟨rfl, ?_⟩
    unfold xEt xEm
    exact xEM_5

