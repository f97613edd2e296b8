/-! a row of references anew; Archive.remove -/
def xRow (u : xv_M) (a : Nat) (ρ : Nat → Option Nat) : xv_M := xv_mk (xv_N u) (xv_S u) (xv_k u) (xv_l u) (xv_i u) (fun b q => if b = a then ρ q else xv_r u b q) (xv_g u)
theorem xRow_sr {u : xv_M} {a j : Nat} {ρ : Nat → Option Nat} {v : Option Nat} : xv_sr (xRow u a ρ) a j v = xRow u a (fun q => if q = j then v else ρ q) := by
  unfold xv_sr xRow
  congr 1
  funext b q
  simp only [xv_r, xv_mk]
  by_cases e : b = a
  · subst e; simp
  · simp [e]
theorem xRow_id {u : xv_M} {a : Nat} : xRow u a (xv_r u a) = u := by
  unfold xRow
  obtain ⟨⟨a1, b⟩, c, d, e, f, g⟩ := u
  show ((_, _), _) = _
  congr 1
  congr 1
  congr 1
  congr 1
  congr 1
  funext b q
  by_cases e : b = a
  · simp [e, xv_r]
  · simp [e, xv_r]
theorem xRow_ne {u : xv_M} {a b q : Nat} {ρ : Nat → Option Nat} (h : b ≠ a) : xv_r (xRow u a ρ) b q = xv_r u b q := if_neg h
theorem xRow_eq {u : xv_M} {a q : Nat} {ρ : Nat → Option Nat} : xv_r (xRow u a ρ) a q = ρ q := if_pos rfl
/-- the row without the one at e, which goes behind the others (n in all) -/
def xRm (E : Nat → Nat) (e n j : Nat) : Nat := if j < e then E j else if j + 1 < n then E (j + 1) else if j + 1 = n then E e else E j
theorem c_Arch_remove {sc : Nat × (Nat → Int32)} {u : xv_M} {h ea cc m e : Nat} {E : Nat → Nat} (hA : xv_Ar u h ea cc) (hE : xv_Es u ea E) (hn : xv_i u h 1 = nI (m + 1)) (hlt : m < 8) (he : e ≤ m) : xv_C sc 0 J_Arch_remove [.ref h, .int (nI e)] u (xv_N u) (xv_S u) (xv_pi (fun r w => r = xv_i u (E e) 2 ∧ ∃ ρ, (∀ j, j < 8 → ρ j = some (xRm E e (m + 1) j)) ∧ w = xv_si (xv_si (xRow u ea ρ) h 1 (nI m)) h 3 (nI m))) := by
  obtain ⟨k0, r0, r5, ke, le⟩ := hA
  have hhe : h ≠ ea := xv_ne k0 ke (by decide)
  have hce : (nI e).toNatClampNeg = e := nI_clamp (by omega)
  have hcm : (nI m).toNatClampNeg = m := nI_clamp (by omega)
  obtain ⟨e1, e2⟩ := hE e (by omega)
  have hs1 : xv_i u h 1 - 1 = nI m := by rw [hn, nI_pred]
  refine xv_C_of (by decide) (Nat.le_refl _) (Nat.le_refl _) (xv_cat1 rfl) (Nat.le_of_ble_eq_true rfl) ?_
  show xv_X sc 0 J_Arch_remove 0 [some (.ref h), some (.int (nI e)), none, none] [] u (xv_N u) (xv_S u) _
  refine xv_aload_n (pc := 0) d_Arch_remove_0 rfl rfl ?_
  refine xv_getR (pc := 1) d_Arch_remove_1 f_Arch_11 rfl k0 r0 ?_
  refine xv_iload_n (pc := 4) d_Arch_remove_4 rfl rfl ?_
  refine xv_aald (pc := 5) (t := 3) d_Arch_remove_5 ke rfl (by rw [le]; exact vp_in_nI (by omega) (by decide)) (by rw [hce]; exact e1) ?_
  refine xv_astore_2 (pc := 6) d_Arch_remove_6 (by decide) rfl ?_
  refine xv_iload_n (pc := 7) d_Arch_remove_7 rfl rfl ?_
  refine xv_istore_3 (pc := 8) d_Arch_remove_8 (by decide) rfl ?_
  have loop : ∀ (r k : Nat) (ρ : Nat → Option Nat), e ≤ k → k + r = m → (∀ j, j < 8 → ρ j = some (if e ≤ j ∧ j < k then E (j + 1) else E j)) → xv_X sc 0 J_Arch_remove 9 [some (.ref h), some (.int (nI e)), some (.ref (E e)), some (.int (nI k))] [] (xRow u ea ρ) (xv_N u) (xv_S u) (xv_q (xv_N u) (xv_S u) (xv_pi (fun r w => r = xv_i u (E e) 2 ∧ ∃ ρ, (∀ j, j < 8 → ρ j = some (xRm E e (m + 1) j)) ∧ w = xv_si (xv_si (xRow u ea ρ) h 1 (nI m)) h 3 (nI m)))) := by
    intro r
    induction r with
    | zero =>
      intro k ρ hk1 hk hρ
      have hk : k = m := by omega
      subst hk
      refine xv_iload_n (pc := 9) d_Arch_remove_9 rfl rfl ?_
      refine xv_aload_n (pc := 10) d_Arch_remove_10 rfl rfl ?_
      refine xv_getI (pc := 11) d_Arch_remove_11 f_Arch_25 rfl k0 ?_
      refine xv_iconst (pc := 14) 1 d_Arch_remove_14 (by decide) ?_
      refine xv_isub (pc := 15) d_Arch_remove_15 ?_
      refine xv_icmp_ge (pc := 16) 39 d_Arch_remove_16 (by decide) (fun h16 => ?_) (fun h16 => ?_)
      · skip
        refine xv_aload_n (pc := 39) d_Arch_remove_39 rfl rfl ?_
        refine xv_dup_ref (pc := 40) d_Arch_remove_40 ?_
        refine xv_getI (pc := 41) d_Arch_remove_41 f_Arch_25 rfl k0 ?_
        refine xv_iconst (pc := 44) 1 d_Arch_remove_44 (by decide) ?_
        refine xv_isub (pc := 45) d_Arch_remove_45 ?_
        refine xv_putI (pc := 46) d_Arch_remove_46 f_Arch_25 (Or.inl rfl) fin_8_1 k0 ?_
        refine xv_aload_n (pc := 49) d_Arch_remove_49 rfl rfl ?_
        refine xv_getR (pc := 50) d_Arch_remove_50 f_Arch_11 rfl k0 ((xRow_ne (u := u) (ρ := ρ) hhe).trans r0) ?_
        refine xv_aload_n (pc := 53) d_Arch_remove_53 rfl rfl ?_
        refine xv_getI (pc := 54) d_Arch_remove_54 f_Arch_25 rfl k0 ?_
        refine xv_aload_n (pc := 57) d_Arch_remove_57 rfl rfl ?_
        refine xv_aast (pc := 58) (t := 3) (ci := 5) d_Arch_remove_58 ke (by decide) rfl (by rw [xv_si_eq]; show vp_in (xv_i u h 1 - 1) (xv_l u ea); rw [hs1, le]; exact vp_in_nI (by omega) (by decide)) e2.1 ?_
        refine xv_aload_n (pc := 59) d_Arch_remove_59 rfl rfl ?_
        refine xv_aload_n (pc := 60) d_Arch_remove_60 rfl rfl ?_
        refine xv_getI (pc := 61) d_Arch_remove_61 f_Arch_25 rfl k0 ?_
        refine xv_putI (pc := 64) d_Arch_remove_64 f_Arch_38 (Or.inl rfl) fin_8_3 k0 ?_
        refine xv_aload_n (pc := 67) d_Arch_remove_67 rfl rfl ?_
        refine xv_getI (pc := 68) d_Arch_remove_68 f_Arch_29 rfl e2.1 ?_
        refine xv_retiq (pc := 71) d_Arch_remove_71 rfl rfl rfl ⟨_, rfl, ?_, (fun q => if q = k then some (E e) else ρ q), ?_, ?_⟩
        · show xv_i (xv_si (xv_si u h 1 _) h 3 _) (E e) 2 = _
          rw [xv_si_nj (by decide), xv_si_nj (by decide)]
        · intro j hj
          show (if j = k then some (E e) else ρ j) = _
          unfold xRm
          by_cases h1 : j = k
          · subst h1
            rw [if_pos rfl, if_neg (by omega), if_neg (by omega), if_pos rfl]
          · rw [if_neg h1, hρ j hj]
            by_cases h2 : j < e
            · rw [if_pos h2, if_neg (by omega)]
            · rw [if_neg h2]
              by_cases h3 : j + 1 < k + 1
              · rw [if_pos h3, if_pos (by omega)]
              · rw [if_neg h3, if_neg (by omega), if_neg (by omega)]
        · have hs2 : xv_i (xRow u ea ρ) h 1 - 1 = nI k := hs1
          rw [hs2]
          have hs3 : ∀ v, xv_i (xv_sr (xv_si (xRow u ea ρ) h 1 (nI k)) ea (xv_i (xv_si (xRow u ea ρ) h 1 (nI k)) h 1).toNatClampNeg v) h 1 = nI k := fun v => xv_si_eq
          rw [hs3, xv_si_eq, hcm, ← xRow_sr]
          rfl
      · exact absurd (by show xv_i u h 1 - 1 ≤ _; rw [hs1]; exact nI_le (Nat.le_refl _) (by omega)) h16
    | succ r ih =>
      intro k ρ hk1 hk hρ
      have es : nI k + Int32.ofInt 1 = nI (k + 1) := by rw [nI_succ]; rfl
      have es' : nI k + 1 = nI (k + 1) := es
      have hc : (nI k).toNatClampNeg = k := nI_clamp (by omega)
      have hc1 : (nI (k + 1)).toNatClampNeg = k + 1 := nI_clamp (by omega)
      refine xv_iload_n (pc := 9) d_Arch_remove_9 rfl rfl ?_
      refine xv_aload_n (pc := 10) d_Arch_remove_10 rfl rfl ?_
      refine xv_getI (pc := 11) d_Arch_remove_11 f_Arch_25 rfl k0 ?_
      refine xv_iconst (pc := 14) 1 d_Arch_remove_14 (by decide) ?_
      refine xv_isub (pc := 15) d_Arch_remove_15 ?_
      refine xv_icmp_ge (pc := 16) 39 d_Arch_remove_16 (by decide) (fun h16 => ?_) (fun h16 => ?_)
      · exact absurd (by have h16 : xv_i u h 1 - 1 ≤ _ := h16; rw [hs1] at h16; exact h16) (nI_ge (by omega) (by omega))
      · skip
        refine xv_aload_n (pc := 19) d_Arch_remove_19 rfl rfl ?_
        refine xv_getR (pc := 20) d_Arch_remove_20 f_Arch_11 rfl k0 ((xRow_ne (u := u) (ρ := ρ) hhe).trans r0) ?_
        refine xv_iload_n (pc := 23) d_Arch_remove_23 rfl rfl ?_
        refine xv_aload_n (pc := 24) d_Arch_remove_24 rfl rfl ?_
        refine xv_getR (pc := 25) d_Arch_remove_25 f_Arch_11 rfl k0 ((xRow_ne (u := u) (ρ := ρ) hhe).trans r0) ?_
        refine xv_iload_n (pc := 28) d_Arch_remove_28 rfl rfl ?_
        refine xv_iconst (pc := 29) 1 d_Arch_remove_29 (by decide) ?_
        refine xv_iadd (pc := 30) d_Arch_remove_30 ?_
        refine xv_aald (pc := 31) (t := 3) d_Arch_remove_31 ke rfl (by rw [es']; show vp_in _ (xv_l u ea); rw [le]; exact vp_in_nI (by omega) (by decide)) (by rw [es', hc1, xRow_eq, hρ (k + 1) (by omega), if_neg (by omega)]) ?_
        refine xv_aast (pc := 32) (t := 3) (ci := 5) d_Arch_remove_32 ke (by decide) rfl (by show vp_in _ (xv_l u ea); rw [le]; exact vp_in_nI (by omega) (by decide)) (hE (k + 1) (by omega)).2.1 ?_
        refine xv_iinc_3 (pc := 33) (nI (k + 1)) d_Arch_remove_33 es (by decide) rfl ?_
        refine xv_goto (pc := 36) 9 d_Arch_remove_36 (by decide) ?_
        rw [hc, xRow_sr]
        refine ih (k + 1) _ (by omega) (by omega) (fun j hj => ?_)
        show (if j = k then some (E (k + 1)) else ρ j) = _
        by_cases h1 : j = k
        · subst h1
          rw [if_pos rfl, if_pos (by omega)]
        · rw [if_neg h1, hρ j hj]
          by_cases h2 : e ≤ j ∧ j < k
          · rw [if_pos h2, if_pos (by omega)]
          · rw [if_neg h2, if_neg (by omega)]
  have hs := loop (m - e) e (xv_r u ea) (Nat.le_refl _) (by omega) (fun j hj => by rw [(hE j hj).1, if_neg (by omega)])
  rw [xRow_id] at hs
  exact hs

