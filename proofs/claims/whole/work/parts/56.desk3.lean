/-! FaslDesk: forge, entry -/
theorem c_Desk_forge {sc : Nat × (Nat → Int32)} {u : xv_M} {h dr it cp ar im : Nat} (hD : xDk u h dr it cp ar im) {ea cc n : Nat} {E L : Nat → Nat} {x y : Int32} (hA : xv_Ar u ar ea cc) (hE : xv_Es u ea E) (hn : xv_i u ar 1 = nI n) (hlt : n ≤ 8) (hL : ∀ e, e < 8 → xv_i u (E e + 1) 3 = nI (L e) ∧ L e ≤ 265) {v : Int32} : xv_C sc 2 J_Desk_forge [.ref h, .int x, .int y, .int v] u (xv_N u) (xv_S u) (xv_pi (fun r w => (¬ xHu E L n x y ∧ r = -1 ∧ w = u) ∨ ∃ e i, (e < n ∧ x = nI e ∧ i < L e ∧ y = nI i) ∧ ((¬ (xFg v = true ∧ xFg (xv_i u (E e + 2) i) = true ∧ xv_i u (E e + 5) i = 0) ∧ r = -1 ∧ w = u) ∨ ((xFg v = true ∧ xFg (xv_i u (E e + 2) i) = true ∧ xv_i u (E e + 5) i = 0) ∧ r = xv_i u (E e + 2) i ∧ w = xv_si u (E e + 2) i v)))) := by
  have hD0 := hD
  obtain ⟨k0, r0, r1, r2, r3, r4⟩ := hD
  refine xv_C_of (by decide) (Nat.le_refl _) (Nat.le_refl _) (xv_cat1 rfl) (Nat.le_of_ble_eq_true rfl) ?_
  show xv_X sc 2 J_Desk_forge 0 [some (.ref h), some (.int x), some (.int y), some (.int v), none, none] [] u (xv_N u) (xv_S u) _
  refine xv_aload_n (pc := 0) d_Desk_forge_0 rfl rfl ?_
  refine xv_iload_n (pc := 1) d_Desk_forge_1 rfl rfl ?_
  refine xv_iload_n (pc := 2) d_Desk_forge_2 rfl rfl ?_
  refine xv_cV2i (pc := 3) (d1 := 1) (c_Desk_hasUnit hD0 hA hE hn hlt hL) m_Desk_hasUnit l_Desk_119 d_Desk_forge_3 (by omega) (by decide : 10 < xv_nc) rfl k0 (Nat.le_of_ble_eq_true rfl) ⟨Nat.le_refl _, Nat.le_refl _⟩ (fun r w hw hN hS => ?_)
  obtain ⟨hr, hw⟩ := hw
  subst hw
  refine xv_if_eq (pc := 6) 16 d_Desk_forge_6 (by decide) (fun h6 => ?_) (fun h6 => ?_)
  · have hno : ¬ xHu E L n x y := hr.elim (fun q => absurd (q.1.symm.trans h6) (by decide)) (fun q => q.2)
    refine xv_iconst (pc := 16) (-1) d_Desk_forge_16 (by decide) ?_
    exact xv_retiq (pc := 17) d_Desk_forge_17 rfl rfl rfl ⟨_, rfl, Or.inl ⟨hno, rfl, rfl⟩⟩
  have hyes : xHu E L n x y := hr.elim (fun q => q.2) (fun q => absurd q.1 h6)
  obtain ⟨e, i, ha, hx, hi, hy⟩ := hyes
  obtain ⟨l1, l2⟩ := hL e (by omega)
  have hc : x.toNatClampNeg = e := by rw [hx]; exact nI_clamp (by omega)
  have hci : y.toNatClampNeg = i := by rw [hy]; exact nI_clamp (by omega)
  have hiy : vp_in y 265 := by rw [hy]; exact vp_in_nI (by omega) (by decide)
  obtain ⟨e1, e2⟩ := hE e (by omega)
  obtain ⟨ck, c0, c1, c2, cko, clo, ckf, clf, ckg, clg⟩ := e2.2.2.2.2.2.2.2.2
  refine xv_iload_n (pc := 9) d_Desk_forge_9 rfl rfl ?_
  refine xv_cS1i (pc := 10) (d1 := 1) c_Code_forgeable m_Code_forgeable l_Desk_122 d_Desk_forge_10 (by omega) (Nat.le_of_ble_eq_true rfl) ⟨Nat.le_refl _, Nat.le_refl _⟩ (fun r2 w2 hw hN hS => ?_)
  obtain ⟨rfl, hw⟩ := hw
  subst w2
  refine xv_if_ne (pc := 13) 18 d_Desk_forge_13 (by decide) (fun h13 => ?_) (fun h13 => ?_)
  case refine_2 =>
    have e3 := xB_eq h13
    refine xv_iconst (pc := 16) (-1) d_Desk_forge_16 (by decide) ?_
    exact xv_retiq (pc := 17) d_Desk_forge_17 rfl rfl rfl ⟨_, rfl, Or.inr ⟨e, i, ⟨ha, hx, hi, hy⟩, Or.inl ⟨fun q => absurd q.1 (by rw [e3]; decide), rfl, rfl⟩⟩⟩
  have e3 := xB_ne h13
  refine xv_aload_n (pc := 18) d_Desk_forge_18 rfl rfl ?_
  refine xv_getR (pc := 19) d_Desk_forge_19 f_Desk_33 rfl k0 r3 ?_
  refine xv_getR (pc := 22) d_Desk_forge_22 f_Desk_86 rfl hA.1 hA.2.1 ?_
  refine xv_iload_n (pc := 25) d_Desk_forge_25 rfl rfl ?_
  refine xv_aald (pc := 26) (t := 3) d_Desk_forge_26 hA.2.2.2.1 rfl (by rw [hA.2.2.2.2, hx]; exact vp_in_nI (by omega) (by decide)) (by rw [hc]; exact e1) ?_
  refine xv_astore_4 (pc := 27) d_Desk_forge_27 (by decide) rfl ?_
  refine xv_aload (pc := 29) d_Desk_forge_29 rfl ?_
  refine xv_getR (pc := 31) d_Desk_forge_31 f_Desk_127 rfl e2.1 e2.2.1 ?_
  refine xv_getR (pc := 34) d_Desk_forge_34 f_Desk_131 rfl ck c0 ?_
  refine xv_iload_n (pc := 37) d_Desk_forge_37 rfl rfl ?_
  refine xv_ald (pc := 38) d_Desk_forge_38 cko (by rw [clo]; exact hiy) ?_
  refine xv_istore_5 (pc := 39) d_Desk_forge_39 (by decide) rfl ?_
  refine xv_iload (pc := 41) d_Desk_forge_41 rfl ?_
  rw [hci]
  refine xv_cS1i (pc := 43) (d1 := 1) c_Code_forgeable m_Code_forgeable l_Desk_122 d_Desk_forge_43 (by omega) (Nat.le_of_ble_eq_true rfl) ⟨Nat.le_refl _, Nat.le_refl _⟩ (fun r2 w2 hw hN hS => ?_)
  obtain ⟨rfl, hw⟩ := hw
  subst w2
  refine xv_if_eq (pc := 46) 59 d_Desk_forge_46 (by decide) (fun h46 => ?_) (fun h46 => ?_)
  · have e4 := xB_eq h46
    refine xv_iconst (pc := 59) (-1) d_Desk_forge_59 (by decide) ?_
    exact xv_retiq (pc := 60) d_Desk_forge_60 rfl rfl rfl ⟨_, rfl, Or.inr ⟨e, i, ⟨ha, hx, hi, hy⟩, Or.inl ⟨fun q => absurd q.2.1 (by rw [e4]; decide), rfl, rfl⟩⟩⟩
  have e4 := xB_ne h46
  refine xv_aload (pc := 49) d_Desk_forge_49 rfl ?_
  refine xv_getR (pc := 51) d_Desk_forge_51 f_Desk_135 rfl e2.1 e2.2.2.1 ?_
  refine xv_iload_n (pc := 54) d_Desk_forge_54 rfl rfl ?_
  refine xv_zald (pc := 55) d_Desk_forge_55 e2.2.2.2.2.1 (by rw [e2.2.2.2.2.2.1]; exact hiy) ?_
  refine xv_if_eq (pc := 56) 61 d_Desk_forge_56 (by decide) (fun h56 => ?_) (fun h56 => ?_)
  case refine_2 =>
    rw [hci] at h56
    refine xv_iconst (pc := 59) (-1) d_Desk_forge_59 (by decide) ?_
    exact xv_retiq (pc := 60) d_Desk_forge_60 rfl rfl rfl ⟨_, rfl, Or.inr ⟨e, i, ⟨ha, hx, hi, hy⟩, Or.inl ⟨fun q => h56 q.2.2, rfl, rfl⟩⟩⟩
  rw [hci] at h56
  refine xv_aload (pc := 61) d_Desk_forge_61 rfl ?_
  refine xv_getR (pc := 63) d_Desk_forge_63 f_Desk_127 rfl e2.1 e2.2.1 ?_
  refine xv_getR (pc := 66) d_Desk_forge_66 f_Desk_131 rfl ck c0 ?_
  refine xv_iload_n (pc := 69) d_Desk_forge_69 rfl rfl ?_
  refine xv_iload_n (pc := 70) d_Desk_forge_70 rfl rfl ?_
  refine xv_ast (pc := 71) d_Desk_forge_71 cko (by rw [clo]; exact hiy) ?_
  refine xv_iload (pc := 72) d_Desk_forge_72 rfl ?_
  rw [hci]
  exact xv_retiq (pc := 74) d_Desk_forge_74 rfl rfl rfl ⟨_, rfl, Or.inr ⟨e, i, ⟨ha, hx, hi, hy⟩, Or.inr ⟨⟨e3, e4, h56⟩, rfl, rfl⟩⟩⟩
theorem c_Desk_entry {sc : Nat × (Nat → Int32)} {u : xv_M} {h dr it cp ar im : Nat} (hD : xDk u h dr it cp ar im) {ea cc n : Nat} {E L : Nat → Nat} {x y : Int32} (hA : xv_Ar u ar ea cc) (hE : xv_Es u ea E) (hn : xv_i u ar 1 = nI n) (hlt : n ≤ 8) (hL : ∀ e, e < 8 → xv_i u (E e + 1) 3 = nI (L e) ∧ L e ≤ 265) : xv_C sc 1 J_Desk_entry [.ref h, .int x, .int y] u (xv_N u) (xv_S u) (xv_pi (fun r w => ((¬ (0 ≤ x ∧ x < nI n) ∧ r = -1) ∨ (∃ e, (e < n ∧ x = nI e) ∧ r = (if y = 0 then xv_i u (E e) 2 else if y = 1 then xv_i u (E e) 3 else if y = 2 then nI (L e) else if y = 3 then xv_i u (E e) 4 else if y = 4 then xv_i u (E e) 5 else if y = 5 then xB (xSl u E L e) else -1))) ∧ w = u)) := by
  obtain ⟨k0, r0, r1, r2, r3, r4⟩ := hD
  refine xv_C_of (by decide) (Nat.le_refl _) (Nat.le_refl _) (xv_cat1 rfl) (Nat.le_of_ble_eq_true rfl) ?_
  show xv_X sc 1 J_Desk_entry 0 [some (.ref h), some (.int x), some (.int y), none] [] u (xv_N u) (xv_S u) _
  refine xv_aload_n (pc := 0) d_Desk_entry_0 rfl rfl ?_
  refine xv_getR (pc := 1) d_Desk_entry_1 f_Desk_33 rfl k0 r3 ?_
  refine xv_iload_n (pc := 4) d_Desk_entry_4 rfl rfl ?_
  refine xv_cV1i (pc := 5) (d1 := 0) (c_Arch_has hA) m_Arch_has l_Desk_139 d_Desk_entry_5 (by omega) (by decide : 8 < xv_nc) rfl hA.1 (Nat.le_of_ble_eq_true rfl) ⟨Nat.le_refl _, Nat.le_refl _⟩ (fun r w hw hN hS => ?_)
  obtain ⟨rfl, hw⟩ := hw
  subst w
  rw [hn]
  refine xv_if_ne (pc := 8) 13 d_Desk_entry_8 (by decide) (fun h8 => ?_) (fun h8 => ?_)
  case refine_2 =>
    have e := of_decide_eq_false (xB_eq h8)
    refine xv_iconst (pc := 11) (-1) d_Desk_entry_11 (by decide) ?_
    exact xv_retiq (pc := 12) d_Desk_entry_12 rfl rfl rfl ⟨_, rfl, Or.inl ⟨e, rfl⟩, rfl⟩
  have e := of_decide_eq_true (xB_ne h8)
  obtain ⟨i, hi, hx, hc⟩ := xIe e hlt
  obtain ⟨e1, e2⟩ := hE i (by omega)
  obtain ⟨l1, l2⟩ := hL i (by omega)
  refine xv_aload_n (pc := 13) d_Desk_entry_13 rfl rfl ?_
  refine xv_getR (pc := 14) d_Desk_entry_14 f_Desk_33 rfl k0 r3 ?_
  refine xv_getR (pc := 17) d_Desk_entry_17 f_Desk_86 rfl hA.1 hA.2.1 ?_
  refine xv_iload_n (pc := 20) d_Desk_entry_20 rfl rfl ?_
  refine xv_aald (pc := 21) (t := 3) d_Desk_entry_21 hA.2.2.2.1 rfl (by rw [hA.2.2.2.2, hx]; exact vp_in_nI (by omega) (by decide)) (by rw [hc]; exact e1) ?_
  refine xv_astore_3 (pc := 22) d_Desk_entry_22 (by decide) rfl ?_
  refine xv_iload_n (pc := 23) d_Desk_entry_23 rfl rfl ?_
  by_cases v0 : y = 0
  · subst v0
    refine xv_tableIn (pc := 24) (off := 40) 64 d_Desk_entry_24 (by decide) (by decide) (by decide) (by decide) ?_
    refine xv_aload_n (pc := 64) d_Desk_entry_64 rfl rfl ?_
    refine xv_getI (pc := 65) d_Desk_entry_65 f_Desk_169 rfl e2.1 ?_
    exact xv_retiq (pc := 68) d_Desk_entry_68 rfl rfl rfl ⟨_, rfl, Or.inr ⟨i, ⟨hi, hx⟩, by rw [if_pos rfl]⟩, rfl⟩
  by_cases v1 : y = 1
  · subst v1
    refine xv_tableIn (pc := 24) (off := 45) 69 d_Desk_entry_24 (by decide) (by decide) (by decide) (by decide) ?_
    refine xv_aload_n (pc := 69) d_Desk_entry_69 rfl rfl ?_
    refine xv_getI (pc := 70) d_Desk_entry_70 f_Desk_172 rfl e2.1 ?_
    exact xv_retiq (pc := 73) d_Desk_entry_73 rfl rfl rfl ⟨_, rfl, Or.inr ⟨i, ⟨hi, hx⟩, by rw [if_neg v0, if_pos rfl]⟩, rfl⟩
  by_cases v2 : y = 2
  · subst v2
    refine xv_tableIn (pc := 24) (off := 50) 74 d_Desk_entry_24 (by decide) (by decide) (by decide) (by decide) ?_
    refine xv_aload_n (pc := 74) d_Desk_entry_74 rfl rfl ?_
    refine xv_getR (pc := 75) d_Desk_entry_75 f_Desk_127 rfl e2.1 e2.2.1 ?_
    refine xv_getI (pc := 78) d_Desk_entry_78 f_Desk_175 rfl e2.2.2.2.2.2.2.2.2.1 ?_
    exact xv_retiq (pc := 81) d_Desk_entry_81 rfl rfl rfl ⟨_, rfl, Or.inr ⟨i, ⟨hi, hx⟩, by rw [if_neg v0, if_neg v1, if_pos rfl, l1]⟩, rfl⟩
  by_cases v3 : y = 3
  · subst v3
    refine xv_tableIn (pc := 24) (off := 58) 82 d_Desk_entry_24 (by decide) (by decide) (by decide) (by decide) ?_
    refine xv_aload_n (pc := 82) d_Desk_entry_82 rfl rfl ?_
    refine xv_getI (pc := 83) d_Desk_entry_83 f_Desk_176 rfl e2.1 ?_
    exact xv_retiq (pc := 86) d_Desk_entry_86 rfl rfl rfl ⟨_, rfl, Or.inr ⟨i, ⟨hi, hx⟩, by rw [if_neg v0, if_neg v1, if_neg v2, if_pos rfl]⟩, rfl⟩
  by_cases v4 : y = 4
  · subst v4
    refine xv_tableIn (pc := 24) (off := 63) 87 d_Desk_entry_24 (by decide) (by decide) (by decide) (by decide) ?_
    refine xv_aload_n (pc := 87) d_Desk_entry_87 rfl rfl ?_
    refine xv_getI (pc := 88) d_Desk_entry_88 f_Desk_179 rfl e2.1 ?_
    exact xv_retiq (pc := 91) d_Desk_entry_91 rfl rfl rfl ⟨_, rfl, Or.inr ⟨i, ⟨hi, hx⟩, by rw [if_neg v0, if_neg v1, if_neg v2, if_neg v3, if_pos rfl]⟩, rfl⟩
  by_cases v5 : y = 5
  · subst v5
    refine xv_tableIn (pc := 24) (off := 68) 92 d_Desk_entry_24 (by decide) (by decide) (by decide) (by decide) ?_
    refine xv_aload_n (pc := 92) d_Desk_entry_92 rfl rfl ?_
    refine xv_cV0i (pc := 93) (d1 := 0) (c_Entry_sealGoes e2 l1 l2) m_Entry_sealGoes l_Desk_182 d_Desk_entry_93 (by omega) (by decide : 5 < xv_nc) rfl e2.1 (Nat.le_of_ble_eq_true rfl) ⟨Nat.le_refl _, Nat.le_refl _⟩ (fun r2 w2 hw hN hS => ?_)
    obtain ⟨hr, hw⟩ := hw
    subst w2
    have hr : r2 = xB (xSl u E L i) := hr
    subst hr
    refine xv_if_eq (pc := 96) 103 d_Desk_entry_96 (by decide) (fun h96 => ?_) (fun h96 => ?_)
    · have e3 := xB_eq h96
      refine xv_iconst (pc := 103) 0 d_Desk_entry_103 (by decide) ?_
      exact xv_retiq (pc := 104) d_Desk_entry_104 rfl rfl rfl ⟨_, rfl, Or.inr ⟨i, ⟨hi, hx⟩, by rw [if_neg v0, if_neg v1, if_neg v2, if_neg v3, if_neg v4, if_pos rfl, e3]; rfl⟩, rfl⟩
    · have e3 := xB_ne h96
      refine xv_iconst (pc := 99) 1 d_Desk_entry_99 (by decide) ?_
      refine xv_goto (pc := 100) 104 d_Desk_entry_100 (by decide) ?_
      exact xv_retiq (pc := 104) d_Desk_entry_104 rfl rfl rfl ⟨_, rfl, Or.inr ⟨i, ⟨hi, hx⟩, by rw [if_neg v0, if_neg v1, if_neg v2, if_neg v3, if_neg v4, if_pos rfl, e3]; rfl⟩, rfl⟩
  refine xv_tableTo (pc := 24) 105 [0, 1, 2, 3, 4, 5] d_Desk_entry_24 (by decide) (by decide) (by decide) (List.forall_mem_cons.mpr ⟨lv_neT v0 (by decide), (List.forall_mem_cons.mpr ⟨lv_neT v1 (by decide), (List.forall_mem_cons.mpr ⟨lv_neT v2 (by decide), (List.forall_mem_cons.mpr ⟨lv_neT v3 (by decide), (List.forall_mem_cons.mpr ⟨lv_neT v4 (by decide), (List.forall_mem_cons.mpr ⟨lv_neT v5 (by decide), (fun _ h => absurd h List.not_mem_nil)⟩)⟩)⟩)⟩)⟩)⟩) ?_
  refine xv_iconst (pc := 105) (-1) d_Desk_entry_105 (by decide) ?_
  exact xv_retiq (pc := 106) d_Desk_entry_106 rfl rfl rfl ⟨_, rfl, Or.inr ⟨i, ⟨hi, hx⟩, by rw [if_neg v0, if_neg v1, if_neg v2, if_neg v3, if_neg v4, if_neg v5]⟩, rfl⟩

