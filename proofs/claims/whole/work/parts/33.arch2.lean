/-! what lay in the check's rows before doesn't matter -/
def xEqv (n : Nat) (σ τ : xCS) : Prop := σ.2.2 = τ.2.2 ∧ (∀ i, i < n → σ.1 i = τ.1 i) ∧ ∀ i, i < σ.2.2 → σ.2.1 i = τ.2.1 i
theorem xEqv_rch {n : Nat} {σ τ : xCS} {x y : Int32} (h : xEqv n σ τ) (hn : n ≤ 265) : (xRch n σ x y).1 = (xRch n τ x y).1 ∧ xEqv n (xRch n σ x y).2 (xRch n τ x y).2 := by
  obtain ⟨h1, h2, h3⟩ := h
  by_cases hx : x < 0 ∨ nI n ≤ x
  · unfold xRch
    rw [if_pos hx, if_pos hx]
    exact ⟨rfl, h1, h2, h3⟩
  · obtain ⟨q, hq, -, hcq⟩ := xIx hx hn
    unfold xRch
    rw [if_neg hx, if_neg hx, hcq, h2 q hq]
    by_cases hH : τ.1 q = -1
    · rw [if_pos hH, if_pos hH]
      refine ⟨rfl, by show σ.2.2 + 1 = _; rw [h1], fun i hi => ?_, fun i hi => ?_⟩
      · show upd σ.1 q y i = upd τ.1 q y i
        by_cases e : i = q
        · subst e; rw [pk_us, pk_us]
        · rw [pk_un e, pk_un e]; exact h2 i hi
      · have hi : i < σ.2.2 + 1 := hi
        show upd σ.2.1 σ.2.2 x i = upd τ.2.1 τ.2.2 x i
        rw [← h1]
        by_cases e : i = σ.2.2
        · subst e; rw [pk_us, pk_us]
        · rw [pk_un e, pk_un e]; exact h3 i (by omega)
    · rw [if_neg hH, if_neg hH]
      exact ⟨rfl, h1, h2, h3⟩
theorem xEqv_ps {n : Nat} {O : Nat → Nat} {F S : Nat → Int32} {m : Int32} {σ τ : xCS} {q : Nat} (h : xEqv n σ τ) (hn : n ≤ 265) (hq : q < n) : (xPs n O F S m σ q).1 = (xPs n O F S m τ q).1 ∧ xEqv n (xPs n O F S m σ q).2 (xPs n O F S m τ q).2 := by
  unfold xPs
  rw [h.2.1 q hq]
  split
  · exact ⟨rfl, h⟩
  · split
    · exact ⟨rfl, h⟩
    · split
      · exact xEqv_rch h hn
      · split
        · obtain ⟨g1, g2⟩ := xEqv_rch (x := nI q + 1) (y := τ.1 q - nI (xTa (O q)) + nI (xLe (O q))) h hn
          rw [g1]
          split
          · exact xEqv_rch g2 hn
          · exact ⟨rfl, g2⟩
        · exact xEqv_rch h hn
theorem xEqv_lp {n : Nat} {O : Nat → Nat} {F S : Nat → Int32} {m : Int32} (hn : n ≤ 265) (hO : ∀ i, i < n → O i < 22) : ∀ (r k : Nat) (b : Bool) (σ τ : xCS), xEqv n σ τ → xCk n σ → (xLp n O F S m r k b σ).1 = (xLp n O F S m r k b τ).1 := by
  intro r
  induction r with
  | zero => intro k b σ τ _ _; rfl
  | succ r ih =>
    intro k b σ τ h hk
    unfold xLp
    rw [← h.1]
    by_cases hc : k < σ.2.2 ∧ k < 265 ∧ b = true
    · rw [if_pos hc, if_pos hc, ← h.2.2 k hc.1]
      obtain ⟨ρ, p1, p2⟩ := id hk
      obtain ⟨q1, q2, q3⟩ := p1 k hc.1
      rw [q2, nI_clamp (by omega)]
      obtain ⟨g1, g2⟩ := xEqv_ps (O := O) (F := F) (S := S) (m := m) h hn q1
      rw [g1]
      exact ih _ _ _ _ g2 (xCk_ps hk hn (hO _ q1))
    · rw [if_neg hc, if_neg hc]
def xC0 : xCS := (fun _ => -1, fun _ => 0, 0)
/-- the check's verdict -/
def xVer (n : Nat) (O : Nat → Nat) (F S : Nat → Int32) (m : Int32) : Bool := (xLp n O F S m 266 0 (xRch n xC0 0 0).1 (xRch n xC0 0 0).2).1
theorem xVer_of {n : Nat} {O : Nat → Nat} {F S : Nat → Int32} {m : Int32} {σ : xCS} (hn : n ≤ 265) (hO : ∀ i, i < n → O i < 22) (h1 : σ.2.2 = 0) (h2 : ∀ i, i < n → σ.1 i = -1) : (xLp n O F S m 266 0 (xRch n σ 0 0).1 (xRch n σ 0 0).2).1 = xVer n O F S m := by
  have he : xEqv n σ xC0 := ⟨h1, fun i hi => h2 i hi, fun i hi => by rw [h1] at hi; exact absurd hi (Nat.not_lt_zero i)⟩
  have hk : xCk n σ := ⟨fun _ => 0, fun i hi => by rw [h1] at hi; exact absurd hi (Nat.not_lt_zero i), fun i j hi => by rw [h1] at hi; exact absurd hi (Nat.not_lt_zero i)⟩
  obtain ⟨g1, g2⟩ := xEqv_rch (x := 0) (y := 0) he hn
  unfold xVer
  rw [g1]
  exact xEqv_lp hn hO _ _ _ _ _ g2 (xCk_rch hk hn (by decide))
theorem c_Arch_findOddClass {sc : Nat × (Nat → Int32)} {u : xv_M} {h ea cc n : Nat} {E : Nat → Nat} (hA : xv_Ar u h ea cc) (hE : xv_Es u ea E) (hn : xv_i u h 1 = nI n) (hlt : n ≤ 8) : xv_C sc 1 J_Arch_findOddClass [.ref h] u (xv_N u) (xv_S u) (xv_pi (fun r w => ∃ z, (r, z) = xOd2 (fun e => xv_i u (E e) 2) (fun e => xv_i u (E e) 5) (fun e => xv_i u (E e) 6) n 0 (xv_i u h 4) ∧ w = xv_si u h 4 z)) := by
  obtain ⟨k0, r0, r5, ke, le⟩ := hA
  refine xv_C_of (by decide) (Nat.le_refl _) (Nat.le_refl _) (xv_cat1 rfl) (Nat.le_of_ble_eq_true rfl) ?_
  show xv_X sc 1 J_Arch_findOddClass 0 [some (.ref h), none] [] u (xv_N u) (xv_S u) _
  refine xv_iconst (pc := 0) 0 d_Arch_findOddClass_0 (by decide) ?_
  refine xv_istore_1 (pc := 1) d_Arch_findOddClass_1 (by decide) rfl ?_
  have loop : ∀ (r k : Nat) (z : Int32), k + r = n → xOd2 (fun e => xv_i u (E e) 2) (fun e => xv_i u (E e) 5) (fun e => xv_i u (E e) 6) r k z = xOd2 (fun e => xv_i u (E e) 2) (fun e => xv_i u (E e) 5) (fun e => xv_i u (E e) 6) n 0 (xv_i u h 4) → xv_X sc 1 J_Arch_findOddClass 2 [some (.ref h), some (.int (nI k))] [] (xv_si u h 4 z) (xv_N u) (xv_S u) (xv_q (xv_N u) (xv_S u) (xv_pi (fun r w => ∃ z, (r, z) = xOd2 (fun e => xv_i u (E e) 2) (fun e => xv_i u (E e) 5) (fun e => xv_i u (E e) 6) n 0 (xv_i u h 4) ∧ w = xv_si u h 4 z))) := by
    intro r
    induction r with
    | zero =>
      intro k z hk hx
      have hk : k = n := by omega
      subst hk
      refine xv_iload_n (pc := 2) d_Arch_findOddClass_2 rfl rfl ?_
      refine xv_aload_n (pc := 3) d_Arch_findOddClass_3 rfl rfl ?_
      refine xv_getI (pc := 4) d_Arch_findOddClass_4 f_Arch_25 rfl k0 ?_
      refine xv_icmp_ge (pc := 7) 60 d_Arch_findOddClass_7 (by decide) (fun h7 => ?_) (fun h7 => ?_)
      · refine xv_iconst (pc := 60) 0 d_Arch_findOddClass_60 (by decide) ?_
        exact xv_retiq (pc := 61) d_Arch_findOddClass_61 rfl rfl rfl ⟨_, rfl, z, by rw [← hx]; rfl, rfl⟩
      · exact absurd (by rw [xv_si_nj (by decide), hn]; exact nI_le (Nat.le_refl _) (by omega)) h7
    | succ r ih =>
      intro k z hk hx
      have es : nI k + Int32.ofInt 1 = nI (k + 1) := by rw [nI_succ]; rfl
      have hc : (nI k).toNatClampNeg = k := nI_clamp (by omega)
      obtain ⟨e1, e2⟩ := hE k (by omega)
      have hne : E k ≠ h := xv_ne e2.1 k0 (by decide)
      have hin : vp_in (nI k) 8 := vp_in_nI (by omega) (by decide)
      refine xv_iload_n (pc := 2) d_Arch_findOddClass_2 rfl rfl ?_
      refine xv_aload_n (pc := 3) d_Arch_findOddClass_3 rfl rfl ?_
      refine xv_getI (pc := 4) d_Arch_findOddClass_4 f_Arch_25 rfl k0 ?_
      refine xv_icmp_ge (pc := 7) 60 d_Arch_findOddClass_7 (by decide) (fun h7 => ?_) (fun h7 => ?_)
      · exact absurd (by rw [xv_si_nj (by decide), hn] at h7; exact h7) (nI_ge (by omega) (by omega))
      · skip
        refine xv_aload_n (pc := 10) d_Arch_findOddClass_10 rfl rfl ?_
        refine xv_iload_n (pc := 11) d_Arch_findOddClass_11 rfl rfl ?_
        refine xv_putI (pc := 12) d_Arch_findOddClass_12 f_Arch_41 (Or.inl rfl) fin_8_4 k0 ?_
        refine xv_aload_n (pc := 15) d_Arch_findOddClass_15 rfl rfl ?_
        refine xv_getR (pc := 16) d_Arch_findOddClass_16 f_Arch_11 rfl k0 r0 ?_
        refine xv_iload_n (pc := 19) d_Arch_findOddClass_19 rfl rfl ?_
        refine xv_aald (pc := 20) (t := 3) d_Arch_findOddClass_20 ke rfl (by show vp_in _ (xv_l u ea); rw [le]; exact hin) (by rw [hc]; exact e1) ?_
        refine xv_getI (pc := 21) d_Arch_findOddClass_21 f_Arch_65 rfl e2.1 ?_
        refine xv_if_eq (pc := 24) 30 d_Arch_findOddClass_24 (by decide) (fun h24 => ?_) (fun h24 => ?_)
        · rw [xv_si_ne hne, xv_si_ne hne] at h24
          refine xv_aload_n (pc := 30) d_Arch_findOddClass_30 rfl rfl ?_
          refine xv_getR (pc := 31) d_Arch_findOddClass_31 f_Arch_11 rfl k0 r0 ?_
          refine xv_iload_n (pc := 34) d_Arch_findOddClass_34 rfl rfl ?_
          refine xv_aald (pc := 35) (t := 3) d_Arch_findOddClass_35 ke rfl (by show vp_in _ (xv_l u ea); rw [le]; exact hin) (by rw [hc]; exact e1) ?_
          refine xv_getI (pc := 36) d_Arch_findOddClass_36 f_Arch_69 rfl e2.1 ?_
          refine xv_aload_n (pc := 39) d_Arch_findOddClass_39 rfl rfl ?_
          refine xv_getR (pc := 40) d_Arch_findOddClass_40 f_Arch_11 rfl k0 r0 ?_
          refine xv_iload_n (pc := 43) d_Arch_findOddClass_43 rfl rfl ?_
          refine xv_aald (pc := 44) (t := 3) d_Arch_findOddClass_44 ke rfl (by show vp_in _ (xv_l u ea); rw [le]; exact hin) (by rw [hc]; exact e1) ?_
          refine xv_getI (pc := 45) d_Arch_findOddClass_45 f_Arch_29 rfl e2.1 ?_
          refine xv_icmp_eq (pc := 48) 54 d_Arch_findOddClass_48 (by decide) (fun h48 => ?_) (fun h48 => ?_)
          · rw [xv_si_ne hne, xv_si_ne hne, xv_si_ne hne, xv_si_ne hne] at h48
            refine xv_iinc_1 (pc := 54) (nI (k + 1)) d_Arch_findOddClass_54 es (by decide) rfl ?_
            refine xv_goto (pc := 57) 2 d_Arch_findOddClass_57 (by decide) ?_
            rw [xv_si_si]
            refine ih (k + 1) (nI k) (by omega) ?_
            rw [← hx]
            show _ = (if _ then _ else _)
            rw [if_neg (not_not_intro h24), if_neg (not_not_intro h48)]
          · rw [xv_si_ne hne, xv_si_ne hne, xv_si_ne hne, xv_si_ne hne] at h48
            refine xv_bipush (pc := 51) 7 d_Arch_findOddClass_51 (by decide) ?_
            exact xv_retiq (pc := 53) d_Arch_findOddClass_53 rfl rfl rfl ⟨_, rfl, nI k, by
              rw [← hx]
              show _ = (if _ then _ else _)
              rw [if_neg (not_not_intro h24), if_pos h48], xv_si_si⟩
        · rw [xv_si_ne hne, xv_si_ne hne] at h24
          refine xv_bipush (pc := 27) 6 d_Arch_findOddClass_27 (by decide) ?_
          exact xv_retiq (pc := 29) d_Arch_findOddClass_29 rfl rfl rfl ⟨_, rfl, nI k, by
            rw [← hx]
            show _ = (if _ then _ else _)
            rw [if_pos h24], xv_si_si⟩
  have hs := loop n 0 (xv_i u h 4) (by omega) rfl
  rw [xv_si_id] at hs
  exact hs

