/-! FaslDesk: hasUnit, unit, forge, entry -/
def xHu (E L : Nat → Nat) (n : Nat) (x y : Int32) : Prop := ∃ e i, e < n ∧ x = nI e ∧ i < L e ∧ y = nI i
theorem c_Desk_hasUnit {sc : Nat × (Nat → Int32)} {u : xv_M} {h dr it cp ar im : Nat} (hD : xDk u h dr it cp ar im) {ea cc n : Nat} {E L : Nat → Nat} {x y : Int32} (hA : xv_Ar u ar ea cc) (hE : xv_Es u ea E) (hn : xv_i u ar 1 = nI n) (hlt : n ≤ 8) (hL : ∀ e, e < 8 → xv_i u (E e + 1) 3 = nI (L e) ∧ L e ≤ 265) : xv_C sc 1 J_Desk_hasUnit [.ref h, .int x, .int y] u (xv_N u) (xv_S u) (xv_pi (fun r w => ((r = 1 ∧ xHu E L n x y) ∨ (r = 0 ∧ ¬ xHu E L n x y)) ∧ w = u)) := by
  obtain ⟨k0, r0, r1, r2, r3, r4⟩ := hD
  refine xv_C_of (by decide) (Nat.le_refl _) (Nat.le_refl _) (xv_cat1 rfl) (Nat.le_of_ble_eq_true rfl) ?_
  show xv_X sc 1 J_Desk_hasUnit 0 [some (.ref h), some (.int x), some (.int y)] [] u (xv_N u) (xv_S u) _
  refine xv_aload_n (pc := 0) d_Desk_hasUnit_0 rfl rfl ?_
  refine xv_getR (pc := 1) d_Desk_hasUnit_1 f_Desk_33 rfl k0 r3 ?_
  refine xv_iload_n (pc := 4) d_Desk_hasUnit_4 rfl rfl ?_
  refine xv_cV1i (pc := 5) (d1 := 0) (c_Arch_has hA) m_Arch_has l_Desk_139 d_Desk_hasUnit_5 (by omega) (by decide : 8 < xv_nc) rfl hA.1 (Nat.le_of_ble_eq_true rfl) ⟨Nat.le_refl _, Nat.le_refl _⟩ (fun r w hw hN hS => ?_)
  obtain ⟨rfl, hw⟩ := hw
  subst w
  rw [hn]
  refine xv_if_eq (pc := 8) 38 d_Desk_hasUnit_8 (by decide) (fun h8 => ?_) (fun h8 => ?_)
  · have e := of_decide_eq_false (xB_eq h8)
    refine xv_iconst (pc := 38) 0 d_Desk_hasUnit_38 (by decide) ?_
    exact xv_retzq (pc := 39) d_Desk_hasUnit_39 rfl (by decide) rfl rfl ⟨_, rfl, Or.inr ⟨rfl, fun ⟨a, i, ha, hx, hi, hy⟩ => e (by rw [hx]; exact ⟨nI_pos0 (by omega), nI_lt ha (by omega)⟩)⟩, rfl⟩
  have e := of_decide_eq_true (xB_ne h8)
  obtain ⟨a, ha, hx, hc⟩ := xIe e hlt
  obtain ⟨e1, e2⟩ := hE a (by omega)
  obtain ⟨l1, l2⟩ := hL a (by omega)
  refine xv_iload_n (pc := 11) d_Desk_hasUnit_11 rfl rfl ?_
  refine xv_if_lt (pc := 12) 38 d_Desk_hasUnit_12 (by decide) (fun h12 => ?_) (fun h12 => ?_)
  · refine xv_iconst (pc := 38) 0 d_Desk_hasUnit_38 (by decide) ?_
    exact xv_retzq (pc := 39) d_Desk_hasUnit_39 rfl (by decide) rfl rfl ⟨_, rfl, Or.inr ⟨rfl, fun ⟨b, i, hb, hx', hi, hy⟩ => by
      have hLb := (hL b (by omega)).2
      rw [hy] at h12
      exact absurd h12 (Int32.not_lt.mpr (nI_pos0 (by omega)))⟩, rfl⟩
  refine xv_iload_n (pc := 15) d_Desk_hasUnit_15 rfl rfl ?_
  refine xv_aload_n (pc := 16) d_Desk_hasUnit_16 rfl rfl ?_
  refine xv_getR (pc := 17) d_Desk_hasUnit_17 f_Desk_33 rfl k0 r3 ?_
  refine xv_getR (pc := 20) d_Desk_hasUnit_20 f_Desk_86 rfl hA.1 hA.2.1 ?_
  refine xv_iload_n (pc := 23) d_Desk_hasUnit_23 rfl rfl ?_
  refine xv_aald (pc := 24) (t := 3) d_Desk_hasUnit_24 hA.2.2.2.1 rfl (by rw [hA.2.2.2.2, hx]; exact vp_in_nI (by omega) (by decide)) (by rw [hc]; exact e1) ?_
  refine xv_getR (pc := 25) d_Desk_hasUnit_25 f_Desk_127 rfl e2.1 e2.2.1 ?_
  refine xv_getI (pc := 28) d_Desk_hasUnit_28 f_Desk_175 rfl e2.2.2.2.2.2.2.2.2.1 ?_
  refine xv_icmp_ge (pc := 31) 38 d_Desk_hasUnit_31 (by decide) (fun h31 => ?_) (fun h31 => ?_)
  · rw [l1] at h31
    refine xv_iconst (pc := 38) 0 d_Desk_hasUnit_38 (by decide) ?_
    exact xv_retzq (pc := 39) d_Desk_hasUnit_39 rfl (by decide) rfl rfl ⟨_, rfl, Or.inr ⟨rfl, fun ⟨b, i, hb, hx', hi, hy⟩ => by
      have hLb := (hL b (by omega)).2
      have hab : b = a := by
        rw [hx] at hx'
        exact ((nI_eq (by omega) (by omega)).mp hx').symm
      subst hab
      rw [hy] at h31
      exact absurd h31 (nI_ge hi (by omega))⟩, rfl⟩
  rw [l1] at h31
  obtain ⟨i, hi, hy, hcy⟩ := xIx (n := L a) (x := y) (fun q => q.elim h12 h31) l2
  refine xv_iconst (pc := 34) 1 d_Desk_hasUnit_34 (by decide) ?_
  refine xv_goto (pc := 35) 39 d_Desk_hasUnit_35 (by decide) ?_
  exact xv_retzq (pc := 39) d_Desk_hasUnit_39 rfl (by decide) rfl rfl ⟨_, rfl, Or.inl ⟨rfl, a, i, ha, hx, hi, hy⟩, rfl⟩
theorem c_Desk_unit {sc : Nat × (Nat → Int32)} {u : xv_M} {h dr it cp ar im : Nat} (hD : xDk u h dr it cp ar im) {ea cc n : Nat} {E L : Nat → Nat} {x y : Int32} (hA : xv_Ar u ar ea cc) (hE : xv_Es u ea E) (hn : xv_i u ar 1 = nI n) (hlt : n ≤ 8) (hL : ∀ e, e < 8 → xv_i u (E e + 1) 3 = nI (L e) ∧ L e ≤ 265) {v : Int32} : xv_C sc 2 J_Desk_unit [.ref h, .int x, .int y, .int v] u (xv_N u) (xv_S u) (xv_pi (fun r w => ((¬ xHu E L n x y ∧ r = -1) ∨ (∃ e i, (e < n ∧ x = nI e ∧ i < L e ∧ y = nI i) ∧ r = (if v = 0 then xv_i u (E e + 2) i else if v = 1 then xv_i u (E e + 3) i else if v = 2 then xv_i u (E e + 4) i else -1))) ∧ w = u)) := by
  have hD0 := hD
  obtain ⟨k0, r0, r1, r2, r3, r4⟩ := hD
  refine xv_C_of (by decide) (Nat.le_refl _) (Nat.le_refl _) (xv_cat1 rfl) (Nat.le_of_ble_eq_true rfl) ?_
  show xv_X sc 2 J_Desk_unit 0 [some (.ref h), some (.int x), some (.int y), some (.int v), none] [] u (xv_N u) (xv_S u) _
  refine xv_aload_n (pc := 0) d_Desk_unit_0 rfl rfl ?_
  refine xv_iload_n (pc := 1) d_Desk_unit_1 rfl rfl ?_
  refine xv_iload_n (pc := 2) d_Desk_unit_2 rfl rfl ?_
  refine xv_cV2i (pc := 3) (d1 := 1) (c_Desk_hasUnit hD0 hA hE hn hlt hL) m_Desk_hasUnit l_Desk_119 d_Desk_unit_3 (by omega) (by decide : 10 < xv_nc) rfl k0 (Nat.le_of_ble_eq_true rfl) ⟨Nat.le_refl _, Nat.le_refl _⟩ (fun r w hw hN hS => ?_)
  obtain ⟨hr, hw⟩ := hw
  subst hw
  refine xv_if_ne (pc := 6) 11 d_Desk_unit_6 (by decide) (fun h6 => ?_) (fun h6 => ?_)
  case refine_2 =>
    have hno : ¬ xHu E L n x y := hr.elim (fun q => absurd (q.1.symm.trans h6) (by decide)) (fun q => q.2)
    refine xv_iconst (pc := 9) (-1) d_Desk_unit_9 (by decide) ?_
    exact xv_retiq (pc := 10) d_Desk_unit_10 rfl rfl rfl ⟨_, rfl, Or.inl ⟨hno, rfl⟩, rfl⟩
  have hyes : xHu E L n x y := hr.elim (fun q => q.2) (fun q => absurd q.1 h6)
  obtain ⟨a, i, ha, hx, hi, hy⟩ := hyes
  obtain ⟨l1, l2⟩ := hL a (by omega)
  have hc : x.toNatClampNeg = a := by rw [hx]; exact nI_clamp (by omega)
  have hci : y.toNatClampNeg = i := by rw [hy]; exact nI_clamp (by omega)
  have hiy : vp_in y 265 := by rw [hy]; exact vp_in_nI (by omega) (by decide)
  obtain ⟨e1, e2⟩ := hE a (by omega)
  obtain ⟨ck, c0, c1, c2, cko, clo, ckf, clf, ckg, clg⟩ := e2.2.2.2.2.2.2.2.2
  refine xv_aload_n (pc := 11) d_Desk_unit_11 rfl rfl ?_
  refine xv_getR (pc := 12) d_Desk_unit_12 f_Desk_33 rfl k0 r3 ?_
  refine xv_getR (pc := 15) d_Desk_unit_15 f_Desk_86 rfl hA.1 hA.2.1 ?_
  refine xv_iload_n (pc := 18) d_Desk_unit_18 rfl rfl ?_
  refine xv_aald (pc := 19) (t := 3) d_Desk_unit_19 hA.2.2.2.1 rfl (by rw [hA.2.2.2.2, hx]; exact vp_in_nI (by omega) (by decide)) (by rw [hc]; exact e1) ?_
  refine xv_getR (pc := 20) d_Desk_unit_20 f_Desk_127 rfl e2.1 e2.2.1 ?_
  refine xv_astore_4 (pc := 23) d_Desk_unit_23 (by decide) rfl ?_
  refine xv_iload_n (pc := 25) d_Desk_unit_25 rfl rfl ?_
  by_cases v0 : v = 0
  · subst v0
    refine xv_tableIn (pc := 26) (off := 26) 52 d_Desk_unit_26 (by decide) (by decide) (by decide) (by decide) ?_
    refine xv_aload (pc := 52) d_Desk_unit_52 rfl ?_
    refine xv_getR (pc := 54) d_Desk_unit_54 f_Desk_131 rfl ck c0 ?_
    refine xv_iload_n (pc := 57) d_Desk_unit_57 rfl rfl ?_
    refine xv_ald (pc := 58) d_Desk_unit_58 cko (by rw [clo]; exact hiy) ?_
    exact xv_retiq (pc := 59) d_Desk_unit_59 rfl rfl rfl ⟨_, rfl, Or.inr ⟨a, i, ⟨ha, hx, hi, hy⟩, by rw [if_pos rfl, hci]⟩, rfl⟩
  by_cases v1 : v = 1
  · subst v1
    refine xv_tableIn (pc := 26) (off := 34) 60 d_Desk_unit_26 (by decide) (by decide) (by decide) (by decide) ?_
    refine xv_aload (pc := 60) d_Desk_unit_60 rfl ?_
    refine xv_getR (pc := 62) d_Desk_unit_62 f_Desk_186 rfl ck c1 ?_
    refine xv_iload_n (pc := 65) d_Desk_unit_65 rfl rfl ?_
    refine xv_ald (pc := 66) d_Desk_unit_66 ckf (by rw [clf]; exact hiy) ?_
    exact xv_retiq (pc := 67) d_Desk_unit_67 rfl rfl rfl ⟨_, rfl, Or.inr ⟨a, i, ⟨ha, hx, hi, hy⟩, by rw [if_neg v0, if_pos rfl, hci]⟩, rfl⟩
  by_cases v2 : v = 2
  · subst v2
    refine xv_tableIn (pc := 26) (off := 42) 68 d_Desk_unit_26 (by decide) (by decide) (by decide) (by decide) ?_
    refine xv_aload (pc := 68) d_Desk_unit_68 rfl ?_
    refine xv_getR (pc := 70) d_Desk_unit_70 f_Desk_189 rfl ck c2 ?_
    refine xv_iload_n (pc := 73) d_Desk_unit_73 rfl rfl ?_
    refine xv_ald (pc := 74) d_Desk_unit_74 ckg (by rw [clg]; exact hiy) ?_
    exact xv_retiq (pc := 75) d_Desk_unit_75 rfl rfl rfl ⟨_, rfl, Or.inr ⟨a, i, ⟨ha, hx, hi, hy⟩, by rw [if_neg v0, if_neg v1, if_pos rfl, hci]⟩, rfl⟩
  refine xv_tableTo (pc := 26) 76 [0, 1, 2] d_Desk_unit_26 (by decide) (by decide) (by decide) (List.forall_mem_cons.mpr ⟨lv_neT v0 (by decide), (List.forall_mem_cons.mpr ⟨lv_neT v1 (by decide), (List.forall_mem_cons.mpr ⟨lv_neT v2 (by decide), (fun _ h => absurd h List.not_mem_nil)⟩)⟩)⟩) ?_
  refine xv_iconst (pc := 76) (-1) d_Desk_unit_76 (by decide) ?_
  exact xv_retiq (pc := 77) d_Desk_unit_77 rfl rfl rfl ⟨_, rfl, Or.inr ⟨a, i, ⟨ha, hx, hi, hy⟩, by rw [if_neg v0, if_neg v1, if_neg v2]⟩, rfl⟩

