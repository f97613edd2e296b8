/-! CodeCheck: the reached units are apart, so there is room for each -/
theorem pigeon : ∀ (n m : Nat) (r : Nat → Nat), (∀ i, i < m → r i < n) → (∀ i j, i < m → j < m → r i = r j → i = j) → m ≤ n := by
  intro n
  induction n with
  | zero =>
    intro m r h _
    cases m with
    | zero => exact Nat.le_refl _
    | succ m => exact absurd (h 0 (Nat.zero_lt_succ m)) (Nat.not_lt_zero _)
  | succ n ih =>
    intro m r h hj
    by_cases hx : ∃ i, i < m ∧ r i = n
    · obtain ⟨i0, h0, e0⟩ := hx
      have := ih (m - 1) (fun i => if i < i0 then r i else r (i + 1)) (fun i hi => by
        show (if i < i0 then r i else r (i + 1)) < n
        split
        · have h1 := h i (by omega)
          have h2 : r i ≠ n := fun e => by
            have := hj i i0 (by omega) h0 (e.trans e0.symm)
            omega
          omega
        · have h1 := h (i + 1) (by omega)
          have h2 : r (i + 1) ≠ n := fun e => by
            have := hj (i + 1) i0 (by omega) h0 (e.trans e0.symm)
            omega
          omega) (fun i j hi hj' e => by
        have e : (if i < i0 then r i else r (i + 1)) = (if j < i0 then r j else r (j + 1)) := e
        split at e <;> split at e
        · exact hj i j (by omega) (by omega) e
        · have := hj i (j + 1) (by omega) (by omega) e
          omega
        · have := hj (i + 1) j (by omega) (by omega) e
          omega
        · have := hj (i + 1) (j + 1) (by omega) (by omega) e
          omega)
      omega
    · exact Nat.le_succ_of_le (ih m r (fun i hi => by
        have h1 := h i hi
        have h2 : r i ≠ n := fun e => hx ⟨i, hi, e⟩
        omega) hj)
def xCk (n : Nat) (σ : xCS) : Prop := ∃ r : Nat → Nat, (∀ i, i < σ.2.2 → r i < n ∧ σ.2.1 i = nI (r i) ∧ ¬ σ.1 (r i) = -1) ∧ ∀ i j, i < σ.2.2 → j < σ.2.2 → r i = r j → i = j
theorem xCk_le {n : Nat} {σ : xCS} (h : xCk n σ) : σ.2.2 ≤ n := by
  obtain ⟨r, h1, h2⟩ := h
  exact pigeon n _ r (fun i hi => (h1 i hi).1) h2
theorem xCk_lt {n q : Nat} {σ : xCS} (h : xCk n σ) (hq : q < n) (hH : σ.1 q = -1) : σ.2.2 < n := by
  obtain ⟨r, h1, h2⟩ := h
  have hne : ∀ i, i < σ.2.2 → r i ≠ q := fun i hi e => (h1 i hi).2.2 (by rw [e]; exact hH)
  refine pigeon n (σ.2.2 + 1) (fun i => if i = σ.2.2 then q else r i) (fun i hi => ?_) (fun i j hi hj e => ?_)
  · show (if i = σ.2.2 then q else r i) < n
    split
    · exact hq
    · exact (h1 i (by omega)).1
  · have e : (if i = σ.2.2 then q else r i) = (if j = σ.2.2 then q else r j) := e
    split at e <;> split at e
    · omega
    · exact absurd e.symm (hne j (by omega))
    · exact absurd e (hne i (by omega))
    · exact h2 i j (by omega) (by omega) e
theorem xIx {n : Nat} {x : Int32} (h : ¬ (x < 0 ∨ nI n ≤ x)) (hn : n ≤ 265) : ∃ q : Nat, q < n ∧ x = nI q ∧ x.toNatClampNeg = q := by
  obtain ⟨h2, h3⟩ := not_or.mp h
  obtain ⟨q, hq, hx⟩ := nI_of h2
  exact ⟨q, Nat.not_le.mp (fun z => h3 (by rw [hx]; exact nI_le z (by omega))), hx, by rw [hx]; exact nI_clamp hq⟩
theorem xCk_rch {n : Nat} {σ : xCS} {x y : Int32} (h : xCk n σ) (hn : n ≤ 265) (hy : ¬ y = -1) : xCk n (xRch n σ x y).2 := by
  by_cases h1 : x < 0 ∨ nI n ≤ x
  · unfold xRch
    rw [if_pos h1]
    exact h
  · unfold xRch
    rw [if_neg h1]
    obtain ⟨q, hq, hx, hcq⟩ := xIx h1 hn
    rw [hcq]
    split
    · rename_i hH
      obtain ⟨r, g1, g2⟩ := h
      have hne : ∀ i, i < σ.2.2 → r i ≠ q := fun i hi e => (g1 i hi).2.2 (by rw [e]; exact hH)
      refine ⟨fun i => if i = σ.2.2 then q else r i, fun i hi => ?_, fun i j hi hj e => ?_⟩
      · have hi : i < σ.2.2 + 1 := hi
        by_cases e : i = σ.2.2
        · subst e
          simp only [↓reduceIte]
          exact ⟨hq, by rw [pk_us]; exact hx, by rw [pk_us]; exact hy⟩
        · simp only [if_neg e]
          obtain ⟨a1, a2, a3⟩ := g1 i (by omega)
          exact ⟨a1, by rw [pk_un e]; exact a2, by rw [pk_un (hne i (by omega))]; exact a3⟩
      · have hi : i < σ.2.2 + 1 := hi
        have hj : j < σ.2.2 + 1 := hj
        have e : (if i = σ.2.2 then q else r i) = (if j = σ.2.2 then q else r j) := e
        split at e <;> split at e
        · omega
        · exact absurd e.symm (hne j (by omega))
        · exact absurd e (hne i (by omega))
        · exact g2 i j (by omega) (by omega) e
    · exact h
def xTa (o : Nat) : Nat := ([0, 0, 2, 2, 2, 2, 2, 2, 2, 2, 2, 2, 1, 1, 1, 0, 3, 1, 1, 1, 2, 0] : List Nat).getD o 0
def xLe (o : Nat) : Nat := ([1, 1, 1, 1, 1, 1, 1, 1, 1, 1, 1, 1, 1, 0, 0, 0, 1, 0, 0, 2, 2, 0] : List Nat).getD o 0
theorem xTa_sf : ∀ o, o < 22 → xv_sf 1 o = nI (xTa o) := by decide +kernel
theorem xLe_sf : ∀ o, o < 22 → xv_sf 2 o = nI (xLe o) := by decide +kernel
def xPs (n : Nat) (O : Nat → Nat) (F S : Nat → Int32) (m : Int32) (σ : xCS) (q : Nat) : Bool × xCS :=
  if σ.1 q - nI (xTa (O q)) < 0 ∨ m < σ.1 q - nI (xTa (O q)) + nI (xLe (O q)) then (false, σ)
  else if O q = 17 then (true, σ)
  else if O q = 15 then xRch n σ (F q) (σ.1 q - nI (xTa (O q)) + nI (xLe (O q)))
  else if O q = 14 then
    if (xRch n σ (nI q + 1) (σ.1 q - nI (xTa (O q)) + nI (xLe (O q)))).1 = true then xRch n (xRch n σ (nI q + 1) (σ.1 q - nI (xTa (O q)) + nI (xLe (O q)))).2 (S q) (σ.1 q - nI (xTa (O q)) + nI (xLe (O q)))
    else (false, (xRch n σ (nI q + 1) (σ.1 q - nI (xTa (O q)) + nI (xLe (O q)))).2)
  else xRch n σ (nI q + 1) (σ.1 q - nI (xTa (O q)) + nI (xLe (O q)))
theorem xNeg {l : Int32} (h : ¬ l < 0) (k : Nat) (hk : k ≤ 2) {m : Int32} (hm : ¬ m < l + nI k) (hm2 : m ≤ 100000) (hl : l ≤ 100000) : ¬ l + nI k = -1 := by
  obtain ⟨j, hj, rfl⟩ := nI_of h
  have : j ≤ 100000 := (nI_leI (b := 100000) (by omega) (by decide)).mp hl
  rw [nI_add]
  intro e
  exact absurd (show nI (j + k) < 0 by rw [e]; decide) (nI_pos (by omega))
set_option maxHeartbeats 1000000 in
theorem c_Check_passes {sc : Nat × (Nat → Int32)} {u : xv_M} {h a b c o f g n : Nat} {σ : xCS} {O : Nat → Nat} {F S : Nat → Int32} {q : Nat} {m : Int32} (hF : xv_Ck u h a b) (hC : xv_Co u c o f g) (hr : xv_r u h 3 = some c) (hn : xv_i u c 3 = nI n) (hlt : n ≤ 265) (hk : xCk n σ) (hU : ∀ i, i < n → xv_i u o i = nI (O i) ∧ O i < 22 ∧ xv_i u f i = F i ∧ xv_i u g i = S i) (hoa : o ≠ a) (hob : o ≠ b) (hfa : f ≠ a) (hfb : f ≠ b) (hga : g ≠ a) (hgb : g ≠ b) (hq : q < n) (hy : ¬ σ.1 q - nI (xTa (O q)) + nI (xLe (O q)) = -1 ∨ (σ.1 q - nI (xTa (O q)) < 0 ∨ m < σ.1 q - nI (xTa (O q)) + nI (xLe (O q)))) : xv_C sc 1 J_Check_passes [.ref h, .int (nI q), .int m] (xCM u h a b σ) (xv_N u) (xv_S u) (xv_pi (fun r w => r = xB (xPs n O F S m σ q).1 ∧ w = xCM u h a b (xPs n O F S m σ q).2)) := by
  have hF0 := hF
  have hC0 := hC
  obtain ⟨k0, r0, r1, ka, la, kb, lb, hab⟩ := hF
  obtain ⟨kc, c0, c1, c2, ko, lo, kf, lf, kg, lg⟩ := hC
  have hha := xv_ne k0 ka (by decide)
  have hhb := xv_ne k0 kb (by decide)
  have hoh := xv_ne ko k0 (by decide)
  have hfh := xv_ne kf k0 (by decide)
  have hgh := xv_ne kg k0 (by decide)
  obtain ⟨eO, hO, eF, eS⟩ := hU q hq
  have hcq : (nI q).toNatClampNeg = q := nI_clamp (by omega)
  have hcO : (nI (O q)).toNatClampNeg = O q := nI_clamp (by omega)
  have iO : xv_i (xCM u h a b σ) o q = nI (O q) := by rw [xCM_o hoh hoa hob]; exact eO
  have iH := xCM_h (u := u) (σ := σ) hha hab q
  have hin : vp_in (nI q) 265 := vp_in_nI (by omega) (by decide)
  have hin2 : vp_in (nI (O q)) 22 := vp_in_nI (by omega) (by decide)
  have rule : ∀ (σ' : xCS) (x y : Int32), xCk n σ' → xv_C sc 0 J_Check_reach [.ref h, .int x, .int y] (xCM u h a b σ') (xv_N u) (xv_S u) (xv_pi (fun r w => r = xB (xRch n σ' x y).1 ∧ w = xCM u h a b (xRch n σ' x y).2)) := fun σ' x y hk' => by
    refine c_Check_reach hF0 hC0 hr hn hlt (Nat.le_trans (xCk_le hk') hlt) (fun g1 g2 => ?_)
    obtain ⟨z, hz, -, hcz⟩ := xIx g1 hlt
    rw [hcz] at g2
    exact Nat.lt_of_lt_of_le (xCk_lt hk' hz g2) hlt
  refine xv_C_of (by decide) (Nat.le_refl _) (Nat.le_refl _) (xv_cat1 rfl) (Nat.le_of_ble_eq_true rfl) ?_
  show xv_X sc 1 J_Check_passes 0 [some (.ref h), some (.int (nI q)), some (.int m), none, none, none] [] (xCM u h a b σ) (xv_N u) (xv_S u) _
  refine xv_aload_n (pc := 0) d_Check_passes_0 rfl rfl ?_
  refine xv_getR (pc := 1) d_Check_passes_1 f_Check_18 rfl k0 hr ?_
  refine xv_getR (pc := 4) d_Check_passes_4 f_Check_38 rfl kc c0 ?_
  refine xv_iload_n (pc := 7) d_Check_passes_7 rfl rfl ?_
  refine xv_ald (pc := 8) d_Check_passes_8 ko (by show vp_in _ (xv_l u o); rw [lo]; exact hin) ?_
  refine xv_istore_3 (pc := 9) d_Check_passes_9 (by decide) rfl ?_
  rw [hcq, iO]
  refine xv_aload_n (pc := 10) d_Check_passes_10 rfl rfl ?_
  refine xv_getR (pc := 11) d_Check_passes_11 f_Check_9 rfl k0 r0 ?_
  refine xv_iload_n (pc := 14) d_Check_passes_14 rfl rfl ?_
  refine xv_ald (pc := 15) d_Check_passes_15 ka (by show vp_in _ (xv_l u a); rw [la]; exact hin) ?_
  refine xv_gets (pc := 16) d_Check_passes_16 (by decide : 1 < xv_ns) s_Check_41 ?_
  refine xv_iload_n (pc := 19) d_Check_passes_19 rfl rfl ?_
  refine xv_aldS (pc := 20) d_Check_passes_20 (by decide) hin2 ?_
  refine xv_isub (pc := 21) d_Check_passes_21 ?_
  refine xv_istore_4 (pc := 22) d_Check_passes_22 (by decide) rfl ?_
  rw [hcq, iH, hcO, xTa_sf _ hO]
  have eP : ∀ l y, l = σ.1 q - nI (xTa (O q)) → y = l + nI (xLe (O q)) → xPs n O F S m σ q = if l < 0 ∨ m < y then (false, σ) else if O q = 17 then (true, σ) else if O q = 15 then xRch n σ (F q) y else if O q = 14 then if (xRch n σ (nI q + 1) y).1 = true then xRch n (xRch n σ (nI q + 1) y).2 (S q) y else (false, (xRch n σ (nI q + 1) y).2) else xRch n σ (nI q + 1) y := fun l y e1 e2 => by rw [e2, e1]; rfl
  generalize hl : σ.1 q - nI (xTa (O q)) = l at hy
  have eP := eP l _ hl.symm rfl
  generalize hyy : l + nI (xLe (O q)) = y at hy eP
  refine xv_iload (pc := 24) d_Check_passes_24 rfl ?_
  refine xv_if_lt (pc := 26) 41 d_Check_passes_26 (by decide) (fun h26 => ?_) (fun h26 => ?_)
  · refine xv_iconst (pc := 41) 0 d_Check_passes_41 (by decide) ?_
    exact xv_retzq (pc := 42) d_Check_passes_42 rfl (by decide) rfl rfl ⟨_, rfl, by rw [eP, if_pos (Or.inl h26)]; rfl, by rw [eP, if_pos (Or.inl h26)]⟩
  refine xv_iload (pc := 29) d_Check_passes_29 rfl ?_
  refine xv_gets (pc := 31) d_Check_passes_31 (by decide : 2 < xv_ns) s_Check_44 ?_
  refine xv_iload_n (pc := 34) d_Check_passes_34 rfl rfl ?_
  refine xv_aldS (pc := 35) d_Check_passes_35 (by decide) hin2 ?_
  refine xv_iadd (pc := 36) d_Check_passes_36 ?_
  refine xv_iload_n (pc := 37) d_Check_passes_37 rfl rfl ?_
  refine xv_icmp_le (pc := 38) 43 d_Check_passes_38 (by decide) (fun h38 => ?_) (fun h38 => ?_)
  case refine_2 =>
    rw [hcO, xLe_sf _ hO, hyy] at h38
    have e := Int32.not_le.mp h38
    refine xv_iconst (pc := 41) 0 d_Check_passes_41 (by decide) ?_
    exact xv_retzq (pc := 42) d_Check_passes_42 rfl (by decide) rfl rfl ⟨_, rfl, by rw [eP, if_pos (Or.inr e)]; rfl, by rw [eP, if_pos (Or.inr e)]⟩
  rw [hcO, xLe_sf _ hO, hyy] at h38
  have hno : ¬ (l < 0 ∨ m < y) := fun z => z.elim h26 (fun z => absurd z (Int32.not_lt.mpr h38))
  rw [if_neg hno] at eP
  have hy1 : ¬ y = -1 := hy.elim id (fun z => absurd z hno)
  refine xv_iload (pc := 43) d_Check_passes_43 rfl ?_
  refine xv_gets (pc := 45) d_Check_passes_45 (by decide : 2 < xv_ns) s_Check_44 ?_
  refine xv_iload_n (pc := 48) d_Check_passes_48 rfl rfl ?_
  refine xv_aldS (pc := 49) d_Check_passes_49 (by decide) hin2 ?_
  refine xv_iadd (pc := 50) d_Check_passes_50 ?_
  refine xv_istore_5 (pc := 51) d_Check_passes_51 (by decide) rfl ?_
  refine xv_iload_n (pc := 53) d_Check_passes_53 rfl rfl ?_
  rw [hcO, xLe_sf _ hO, hyy]
  by_cases e17 : O q = 17
  · rw [if_pos e17] at eP
    rw [e17]
    refine xv_tableIn (pc := 54) (off := 30) 84 d_Check_passes_54 (by decide) (by decide) (by decide) (by decide) ?_
    refine xv_iconst (pc := 84) 1 d_Check_passes_84 (by decide) ?_
    exact xv_retzq (pc := 85) d_Check_passes_85 rfl (by decide) rfl rfl ⟨_, rfl, by rw [eP]; rfl, by rw [eP]⟩
  rw [if_neg e17] at eP
  by_cases e15 : O q = 15
  · rw [if_pos e15] at eP
    rw [e15]
    refine xv_tableIn (pc := 54) (off := 32) 86 d_Check_passes_54 (by decide) (by decide) (by decide) (by decide) ?_
    refine xv_aload_n (pc := 86) d_Check_passes_86 rfl rfl ?_
    refine xv_aload_n (pc := 87) d_Check_passes_87 rfl rfl ?_
    refine xv_getR (pc := 88) d_Check_passes_88 f_Check_18 rfl k0 hr ?_
    refine xv_getR (pc := 91) d_Check_passes_91 f_Check_47 rfl kc c1 ?_
    refine xv_iload_n (pc := 94) d_Check_passes_94 rfl rfl ?_
    refine xv_ald (pc := 95) d_Check_passes_95 kf (by show vp_in _ (xv_l u f); rw [lf]; exact hin) ?_
    refine xv_iload (pc := 96) d_Check_passes_96 rfl ?_
    rw [hcq, xCM_o hfh hfa hfb, eF]
    refine xv_cV2i (pc := 98) (rule σ (F q) y hk) m_Check_reach l_Check_31 d_Check_passes_98 (by omega) (by decide : 7 < xv_nc) rfl k0 (Nat.le_of_ble_eq_true rfl) ⟨Nat.le_refl _, Nat.le_refl _⟩ (fun r w hw hN hS => ?_)
    obtain ⟨rfl, hw⟩ := hw
    subst w
    exact xv_retzq (pc := 101) d_Check_passes_101 rfl (xB_and _) rfl rfl ⟨_, rfl, by rw [eP], by rw [eP]⟩
  rw [if_neg e15] at eP
  by_cases e14 : O q = 14
  · rw [if_pos e14] at eP
    rw [e14]
    refine xv_tableIn (pc := 54) (off := 48) 102 d_Check_passes_54 (by decide) (by decide) (by decide) (by decide) ?_
    refine xv_aload_n (pc := 102) d_Check_passes_102 rfl rfl ?_
    refine xv_iload_n (pc := 103) d_Check_passes_103 rfl rfl ?_
    refine xv_iconst (pc := 104) 1 d_Check_passes_104 (by decide) ?_
    refine xv_iadd (pc := 105) d_Check_passes_105 ?_
    refine xv_iload (pc := 106) d_Check_passes_106 rfl ?_
    refine xv_cV2i (pc := 108) (rule σ (nI q + 1) y hk) m_Check_reach l_Check_31 d_Check_passes_108 (by omega) (by decide : 7 < xv_nc) rfl k0 (Nat.le_of_ble_eq_true rfl) ⟨Nat.le_refl _, Nat.le_refl _⟩ (fun r w hw hN hS => ?_)
    obtain ⟨rfl, hw⟩ := hw
    subst w
    refine xv_if_eq (pc := 111) 136 d_Check_passes_111 (by decide) (fun h111 => ?_) (fun h111 => ?_)
    · have e1 := xB_eq h111
      rw [if_neg (by rw [e1]; decide)] at eP
      refine xv_iconst (pc := 136) 0 d_Check_passes_136 (by decide) ?_
      exact xv_retzq (pc := 137) d_Check_passes_137 rfl (by decide) rfl rfl ⟨_, rfl, by rw [eP]; rfl, by rw [eP]⟩
    · have e1 := xB_ne h111
      rw [if_pos e1] at eP
      refine xv_aload_n (pc := 114) d_Check_passes_114 rfl rfl ?_
      refine xv_aload_n (pc := 115) d_Check_passes_115 rfl rfl ?_
      refine xv_getR (pc := 116) d_Check_passes_116 f_Check_18 rfl k0 hr ?_
      refine xv_getR (pc := 119) d_Check_passes_119 f_Check_50 rfl kc c2 ?_
      refine xv_iload_n (pc := 122) d_Check_passes_122 rfl rfl ?_
      refine xv_ald (pc := 123) d_Check_passes_123 kg (by show vp_in _ (xv_l u g); rw [lg]; exact hin) ?_
      refine xv_iload (pc := 124) d_Check_passes_124 rfl ?_
      rw [hcq, xCM_o hgh hga hgb, eS]
      refine xv_cV2i (pc := 126) (rule (xRch n σ (nI q + 1) y).2 (S q) y (xCk_rch hk hlt hy1)) m_Check_reach l_Check_31 d_Check_passes_126 (by omega) (by decide : 7 < xv_nc) rfl k0 (Nat.le_of_ble_eq_true rfl) ⟨Nat.le_refl _, Nat.le_refl _⟩ (fun r w hw hN hS => ?_)
      obtain ⟨rfl, hw⟩ := hw
      subst w
      refine xv_if_eq (pc := 129) 136 d_Check_passes_129 (by decide) (fun h129 => ?_) (fun h129 => ?_)
      · have e2 := xB_eq h129
        refine xv_iconst (pc := 136) 0 d_Check_passes_136 (by decide) ?_
        exact xv_retzq (pc := 137) d_Check_passes_137 rfl (by decide) rfl rfl ⟨_, rfl, by rw [eP, e2]; rfl, by rw [eP]⟩
      · have e2 := xB_ne h129
        refine xv_iconst (pc := 132) 1 d_Check_passes_132 (by decide) ?_
        refine xv_goto (pc := 133) 137 d_Check_passes_133 (by decide) ?_
        exact xv_retzq (pc := 137) d_Check_passes_137 rfl (by decide) rfl rfl ⟨_, rfl, by rw [eP, e2]; rfl, by rw [eP]⟩
  rw [if_neg e14] at eP
  refine xv_tableTo (pc := 54) 138 [14, 15, 17] d_Check_passes_54 (by decide) (by decide) (by decide) (List.forall_mem_cons.mpr ⟨nI_neT (by omega) e14, (List.forall_mem_cons.mpr ⟨nI_neT (by omega) e15, (List.forall_mem_cons.mpr ⟨nI_neT (by omega) e17, (fun _ h => absurd h List.not_mem_nil)⟩)⟩)⟩) ?_
  refine xv_aload_n (pc := 138) d_Check_passes_138 rfl rfl ?_
  refine xv_iload_n (pc := 139) d_Check_passes_139 rfl rfl ?_
  refine xv_iconst (pc := 140) 1 d_Check_passes_140 (by decide) ?_
  refine xv_iadd (pc := 141) d_Check_passes_141 ?_
  refine xv_iload (pc := 142) d_Check_passes_142 rfl ?_
  refine xv_cV2i (pc := 144) (rule σ (nI q + 1) y hk) m_Check_reach l_Check_31 d_Check_passes_144 (by omega) (by decide : 7 < xv_nc) rfl k0 (Nat.le_of_ble_eq_true rfl) ⟨Nat.le_refl _, Nat.le_refl _⟩ (fun r w hw hN hS => ?_)
  obtain ⟨rfl, hw⟩ := hw
  subst w
  exact xv_retzq (pc := 147) d_Check_passes_147 rfl (xB_and _) rfl rfl ⟨_, rfl, by rw [eP], by rw [eP]⟩

