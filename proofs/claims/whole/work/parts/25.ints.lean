/-! Ints -/
theorem c_Ints_divisor {sc : Nat × (Nat → Int32)} {u : xv_M} {y : Int32} (hy : ¬ y = 0) : xv_C sc 0 J_Ints_divisor [.int y] u (xv_N u) (xv_S u) (xv_pi (fun r w => r = y ∧ w = u)) := by
  refine xv_C_of (by decide) (Nat.le_refl _) (Nat.le_refl _) (xv_cat1 rfl) (Nat.le_of_ble_eq_true rfl) ?_
  show xv_X sc 0 J_Ints_divisor 0 [some (.int y)] [] u (xv_N u) (xv_S u) _
  refine xv_iload_n (pc := 0) d_Ints_divisor_0 rfl rfl ?_
  refine xv_if_ne (pc := 1) 14 d_Ints_divisor_1 (by decide) (fun h1 => ?_) (fun h1 => ?_)
  · refine xv_iload_n (pc := 14) d_Ints_divisor_14 rfl rfl ?_
    exact xv_retiq (pc := 15) d_Ints_divisor_15 rfl rfl rfl ⟨_, rfl, rfl, rfl⟩
  · exact absurd h1 hy
theorem c_Ints_divisor_x {sc : Nat × (Nat → Int32)} {u : xv_M} : xv_C sc 6 J_Ints_divisor [.int 0] u (xv_N u + 1) (xv_S u + 6) (xv_px 13 (fun a w => a = xv_N u ∧ w = xv_nw u 14 0 6)) := by
  refine xv_C_of (by decide) (by omega) (by omega) (xv_cat1 rfl) (Nat.le_of_ble_eq_true rfl) ?_
  show xv_X sc 6 J_Ints_divisor 0 [some (.int 0)] [] u (xv_N u + 1) (xv_S u + 6) _
  refine xv_iload_n (pc := 0) d_Ints_divisor_0 rfl rfl ?_
  refine xv_if_ne (pc := 1) 14 d_Ints_divisor_1 (by decide) (fun h1 => ?_) (fun h1 => ?_)
  · exact absurd rfl h1
  · skip
    exact xv_throw (pc := 4) (k := 13) (by decide) rfl (List.mem_of_getElem? (i := 0) rfl) (List.mem_of_getElem? (i := 0) rfl) k_742 k_20 k_743 (by decide +kernel) d_Ints_divisor_4 d_Ints_divisor_7 d_Ints_divisor_8 d_Ints_divisor_10 d_Ints_divisor_13 (by omega) (Nat.le_of_ble_eq_true rfl) (Nat.le_refl _) (Nat.le_refl _) ⟨⟨_, rfl, rfl, rfl⟩, rfl, rfl⟩
def xSo (a v : Int32) : Bool := if a = 0 then decide (v = 0) else if a = 1 then !decide (v = 0) else if a = 2 then decide (v < 0) else if a = 3 then !decide (v < 0) else if a = 4 then decide (0 < v) else !decide (0 < v)
def xOp (o : Nat) (x y : Int32) : Int32 := match o with
  | 2 => x + y
  | 3 => x - y
  | 4 => x * y
  | 5 => x / y
  | 6 => x - x / y * y
  | 7 => x &&& y
  | 8 => x ||| y
  | 9 => x ^^^ y
  | 10 => x <<< (y &&& 31 &&& 31)
  | _ => x >>> (y &&& 31 &&& 31)
theorem c_Ints_reckon {sc : Nat × (Nat → Int32)} {u : xv_M} {o : Nat} {x y : Int32} (ho : 2 ≤ o) (ho' : o < 12) (hy : (o = 5 ∨ o = 6) → ¬ y = 0) : xv_C sc 1 J_Ints_reckon [.int (nI o), .int x, .int y] u (xv_N u) (xv_S u) (xv_pi (fun r w => r = xOp o x y ∧ w = u)) := by
  refine xv_C_of (by decide) (Nat.le_refl _) (Nat.le_refl _) (xv_cat1 rfl) (Nat.le_of_ble_eq_true rfl) ?_
  show xv_X sc 1 J_Ints_reckon 0 [some (.int (nI o)), some (.int x), some (.int y)] [] u (xv_N u) (xv_S u) _
  refine xv_iload_n (pc := 0) d_Ints_reckon_0 rfl rfl ?_
  rcases (by omega : o = 2 ∨ o = 3 ∨ o = 4 ∨ o = 5 ∨ o = 6 ∨ o = 7 ∨ o = 8 ∨ o = 9 ∨ o = 10 ∨ o = 11) with rfl | rfl | rfl | rfl | rfl | rfl | rfl | rfl | rfl | rfl
  · skip
    refine xv_tableIn (pc := 1) (off := 51) 52 d_Ints_reckon_1 (by decide) (by decide) (by decide) (by decide) ?_
    refine xv_iload_n (pc := 52) d_Ints_reckon_52 rfl rfl ?_
    refine xv_iload_n (pc := 53) d_Ints_reckon_53 rfl rfl ?_
    refine xv_iadd (pc := 54) d_Ints_reckon_54 ?_
    exact xv_retiq (pc := 55) d_Ints_reckon_55 rfl rfl rfl ⟨_, rfl, rfl, rfl⟩
  · skip
    refine xv_tableIn (pc := 1) (off := 55) 56 d_Ints_reckon_1 (by decide) (by decide) (by decide) (by decide) ?_
    refine xv_iload_n (pc := 56) d_Ints_reckon_56 rfl rfl ?_
    refine xv_iload_n (pc := 57) d_Ints_reckon_57 rfl rfl ?_
    refine xv_isub (pc := 58) d_Ints_reckon_58 ?_
    exact xv_retiq (pc := 59) d_Ints_reckon_59 rfl rfl rfl ⟨_, rfl, rfl, rfl⟩
  · skip
    refine xv_tableIn (pc := 1) (off := 59) 60 d_Ints_reckon_1 (by decide) (by decide) (by decide) (by decide) ?_
    refine xv_iload_n (pc := 60) d_Ints_reckon_60 rfl rfl ?_
    refine xv_iload_n (pc := 61) d_Ints_reckon_61 rfl rfl ?_
    refine xv_imul (pc := 62) d_Ints_reckon_62 ?_
    exact xv_retiq (pc := 63) d_Ints_reckon_63 rfl rfl rfl ⟨_, rfl, rfl, rfl⟩
  · skip
    refine xv_tableIn (pc := 1) (off := 63) 64 d_Ints_reckon_1 (by decide) (by decide) (by decide) (by decide) ?_
    refine xv_iload_n (pc := 64) d_Ints_reckon_64 rfl rfl ?_
    refine xv_iload_n (pc := 65) d_Ints_reckon_65 rfl rfl ?_
    refine xv_cS1i (pc := 66) (c_Ints_divisor (hy (Or.inl rfl))) m_Ints_divisor l_Ints_7 d_Ints_reckon_66 (by omega) (Nat.le_of_ble_eq_true rfl) ⟨Nat.le_refl _, Nat.le_refl _⟩ (fun r w hw hN hS => ?_)
    obtain ⟨rfl, hw⟩ := hw
    subst w
    refine xv_idiv (pc := 69) d_Ints_reckon_69 (hy (Or.inl rfl)) ?_
    exact xv_retiq (pc := 70) d_Ints_reckon_70 rfl rfl rfl ⟨_, rfl, rfl, rfl⟩
  · skip
    refine xv_tableIn (pc := 1) (off := 70) 71 d_Ints_reckon_1 (by decide) (by decide) (by decide) (by decide) ?_
    refine xv_iload_n (pc := 71) d_Ints_reckon_71 rfl rfl ?_
    refine xv_iload_n (pc := 72) d_Ints_reckon_72 rfl rfl ?_
    refine xv_cS1i (pc := 73) (c_Ints_divisor (hy (Or.inr rfl))) m_Ints_divisor l_Ints_7 d_Ints_reckon_73 (by omega) (Nat.le_of_ble_eq_true rfl) ⟨Nat.le_refl _, Nat.le_refl _⟩ (fun r w hw hN hS => ?_)
    obtain ⟨rfl, hw⟩ := hw
    subst w
    refine xv_irem (pc := 76) d_Ints_reckon_76 (hy (Or.inr rfl)) ?_
    exact xv_retiq (pc := 77) d_Ints_reckon_77 rfl rfl rfl ⟨_, rfl, rfl, rfl⟩
  · skip
    refine xv_tableIn (pc := 1) (off := 77) 78 d_Ints_reckon_1 (by decide) (by decide) (by decide) (by decide) ?_
    refine xv_iload_n (pc := 78) d_Ints_reckon_78 rfl rfl ?_
    refine xv_iload_n (pc := 79) d_Ints_reckon_79 rfl rfl ?_
    refine xv_iand (pc := 80) d_Ints_reckon_80 ?_
    exact xv_retiq (pc := 81) d_Ints_reckon_81 rfl rfl rfl ⟨_, rfl, rfl, rfl⟩
  · skip
    refine xv_tableIn (pc := 1) (off := 81) 82 d_Ints_reckon_1 (by decide) (by decide) (by decide) (by decide) ?_
    refine xv_iload_n (pc := 82) d_Ints_reckon_82 rfl rfl ?_
    refine xv_iload_n (pc := 83) d_Ints_reckon_83 rfl rfl ?_
    refine xv_ior (pc := 84) d_Ints_reckon_84 ?_
    exact xv_retiq (pc := 85) d_Ints_reckon_85 rfl rfl rfl ⟨_, rfl, rfl, rfl⟩
  · skip
    refine xv_tableIn (pc := 1) (off := 85) 86 d_Ints_reckon_1 (by decide) (by decide) (by decide) (by decide) ?_
    refine xv_iload_n (pc := 86) d_Ints_reckon_86 rfl rfl ?_
    refine xv_iload_n (pc := 87) d_Ints_reckon_87 rfl rfl ?_
    refine xv_ixor (pc := 88) d_Ints_reckon_88 ?_
    exact xv_retiq (pc := 89) d_Ints_reckon_89 rfl rfl rfl ⟨_, rfl, rfl, rfl⟩
  · skip
    refine xv_tableIn (pc := 1) (off := 89) 90 d_Ints_reckon_1 (by decide) (by decide) (by decide) (by decide) ?_
    refine xv_iload_n (pc := 90) d_Ints_reckon_90 rfl rfl ?_
    refine xv_iload_n (pc := 91) d_Ints_reckon_91 rfl rfl ?_
    refine xv_bipush (pc := 92) 31 d_Ints_reckon_92 (by decide) ?_
    refine xv_iand (pc := 94) d_Ints_reckon_94 ?_
    refine xv_ishl (pc := 95) d_Ints_reckon_95 ?_
    exact xv_retiq (pc := 96) d_Ints_reckon_96 rfl rfl rfl ⟨_, rfl, rfl, rfl⟩
  · skip
    refine xv_tableOut (pc := 1) 97 d_Ints_reckon_1 (by decide) (by decide) ?_
    refine xv_iload_n (pc := 97) d_Ints_reckon_97 rfl rfl ?_
    refine xv_iload_n (pc := 98) d_Ints_reckon_98 rfl rfl ?_
    refine xv_bipush (pc := 99) 31 d_Ints_reckon_99 (by decide) ?_
    refine xv_iand (pc := 101) d_Ints_reckon_101 ?_
    refine xv_ishr (pc := 102) d_Ints_reckon_102 ?_
    exact xv_retiq (pc := 103) d_Ints_reckon_103 rfl rfl rfl ⟨_, rfl, rfl, rfl⟩
theorem c_Ints_reckon_x {sc : Nat × (Nat → Int32)} {u : xv_M} {o : Nat} {x : Int32} (ho : o = 5 ∨ o = 6) : xv_C sc 7 J_Ints_reckon [.int (nI o), .int x, .int 0] u (xv_N u + 1) (xv_S u + 6) (xv_px 13 (fun a w => a = xv_N u ∧ w = xv_nw u 14 0 6)) := by
  refine xv_C_of (by decide) (by omega) (by omega) (xv_cat1 rfl) (Nat.le_of_ble_eq_true rfl) ?_
  show xv_X sc 7 J_Ints_reckon 0 [some (.int (nI o)), some (.int x), some (.int 0)] [] u (xv_N u + 1) (xv_S u + 6) _
  refine xv_iload_n (pc := 0) d_Ints_reckon_0 rfl rfl ?_
  rcases ho with rfl | rfl
  · skip
    refine xv_tableIn (pc := 1) (off := 63) 64 d_Ints_reckon_1 (by decide) (by decide) (by decide) (by decide) ?_
    refine xv_iload_n (pc := 64) d_Ints_reckon_64 rfl rfl ?_
    refine xv_iload_n (pc := 65) d_Ints_reckon_65 rfl rfl ?_
    exact xv_tS1 (pc := 66) c_Ints_divisor_x m_Ints_divisor l_Ints_7 d_Ints_reckon_66 (by omega) (Nat.le_of_ble_eq_true rfl) ⟨Nat.le_refl _, Nat.le_refl _⟩ (fun a w h g2 g3 => ⟨⟨_, rfl, h⟩, g2, g3⟩)
  · skip
    refine xv_tableIn (pc := 1) (off := 70) 71 d_Ints_reckon_1 (by decide) (by decide) (by decide) (by decide) ?_
    refine xv_iload_n (pc := 71) d_Ints_reckon_71 rfl rfl ?_
    refine xv_iload_n (pc := 72) d_Ints_reckon_72 rfl rfl ?_
    exact xv_tS1 (pc := 73) c_Ints_divisor_x m_Ints_divisor l_Ints_7 d_Ints_reckon_73 (by omega) (Nat.le_of_ble_eq_true rfl) ⟨Nat.le_refl _, Nat.le_refl _⟩ (fun a w h g2 g3 => ⟨⟨_, rfl, h⟩, g2, g3⟩)
theorem c_Ints_isAsSaid {sc : Nat × (Nat → Int32)} {u : xv_M} {o : Nat} {x : Int32} (ho : o < 6) : xv_C sc 0 J_Ints_isAsSaid [.int (nI o), .int x] u (xv_N u) (xv_S u) (xv_pi (fun r w => r = xB (xSo (nI o) x) ∧ w = u)) := by
  refine xv_C_of (by decide) (Nat.le_refl _) (Nat.le_refl _) (xv_cat1 rfl) (Nat.le_of_ble_eq_true rfl) ?_
  show xv_X sc 0 J_Ints_isAsSaid 0 [some (.int (nI o)), some (.int x)] [] u (xv_N u) (xv_S u) _
  refine xv_iload_n (pc := 0) d_Ints_isAsSaid_0 rfl rfl ?_
  rcases (by omega : o = 0 ∨ o = 1 ∨ o = 2 ∨ o = 3 ∨ o = 4 ∨ o = 5) with rfl | rfl | rfl | rfl | rfl | rfl
  · skip
    refine xv_tableIn (pc := 1) (off := 35) 36 d_Ints_isAsSaid_1 (by decide) (by decide) (by decide) (by decide) ?_
    refine xv_iload_n (pc := 36) d_Ints_isAsSaid_36 rfl rfl ?_
    refine xv_if_ne (pc := 37) 44 d_Ints_isAsSaid_37 (by decide) (fun h37 => ?_) (fun h37 => ?_)
    · refine xv_iconst (pc := 44) 0 d_Ints_isAsSaid_44 (by decide) ?_
      exact xv_retzq (pc := 45) d_Ints_isAsSaid_45 rfl (by decide) rfl rfl ⟨_, rfl, by show _ = xB (xSo 0 x); simp [xSo, xB, h37], rfl⟩
    · refine xv_iconst (pc := 40) 1 d_Ints_isAsSaid_40 (by decide) ?_
      refine xv_goto (pc := 41) 45 d_Ints_isAsSaid_41 (by decide) ?_
      exact xv_retzq (pc := 45) d_Ints_isAsSaid_45 rfl (by decide) rfl rfl ⟨_, rfl, by show _ = xB (xSo 0 x); simp [xSo, xB, h37], rfl⟩
  · skip
    refine xv_tableIn (pc := 1) (off := 45) 46 d_Ints_isAsSaid_1 (by decide) (by decide) (by decide) (by decide) ?_
    refine xv_iload_n (pc := 46) d_Ints_isAsSaid_46 rfl rfl ?_
    refine xv_if_eq (pc := 47) 54 d_Ints_isAsSaid_47 (by decide) (fun h47 => ?_) (fun h47 => ?_)
    · refine xv_iconst (pc := 54) 0 d_Ints_isAsSaid_54 (by decide) ?_
      exact xv_retzq (pc := 55) d_Ints_isAsSaid_55 rfl (by decide) rfl rfl ⟨_, rfl, by show _ = xB (xSo 1 x); simp [xSo, xB, h47], rfl⟩
    · refine xv_iconst (pc := 50) 1 d_Ints_isAsSaid_50 (by decide) ?_
      refine xv_goto (pc := 51) 55 d_Ints_isAsSaid_51 (by decide) ?_
      exact xv_retzq (pc := 55) d_Ints_isAsSaid_55 rfl (by decide) rfl rfl ⟨_, rfl, by show _ = xB (xSo 1 x); simp [xSo, xB, h47], rfl⟩
  · skip
    refine xv_tableIn (pc := 1) (off := 55) 56 d_Ints_isAsSaid_1 (by decide) (by decide) (by decide) (by decide) ?_
    refine xv_iload_n (pc := 56) d_Ints_isAsSaid_56 rfl rfl ?_
    refine xv_if_ge (pc := 57) 64 d_Ints_isAsSaid_57 (by decide) (fun h57 => ?_) (fun h57 => ?_)
    · refine xv_iconst (pc := 64) 0 d_Ints_isAsSaid_64 (by decide) ?_
      exact xv_retzq (pc := 65) d_Ints_isAsSaid_65 rfl (by decide) rfl rfl ⟨_, rfl, by show _ = xB (xSo 2 x); simp [xSo, xB, Int32.not_lt.mpr h57], rfl⟩
    · refine xv_iconst (pc := 60) 1 d_Ints_isAsSaid_60 (by decide) ?_
      refine xv_goto (pc := 61) 65 d_Ints_isAsSaid_61 (by decide) ?_
      exact xv_retzq (pc := 65) d_Ints_isAsSaid_65 rfl (by decide) rfl rfl ⟨_, rfl, by show _ = xB (xSo 2 x); simp [xSo, xB, Int32.not_le.mp h57], rfl⟩
  · skip
    refine xv_tableIn (pc := 1) (off := 65) 66 d_Ints_isAsSaid_1 (by decide) (by decide) (by decide) (by decide) ?_
    refine xv_iload_n (pc := 66) d_Ints_isAsSaid_66 rfl rfl ?_
    refine xv_if_lt (pc := 67) 74 d_Ints_isAsSaid_67 (by decide) (fun h67 => ?_) (fun h67 => ?_)
    · refine xv_iconst (pc := 74) 0 d_Ints_isAsSaid_74 (by decide) ?_
      exact xv_retzq (pc := 75) d_Ints_isAsSaid_75 rfl (by decide) rfl rfl ⟨_, rfl, by show _ = xB (xSo 3 x); simp [xSo, xB, h67], rfl⟩
    · refine xv_iconst (pc := 70) 1 d_Ints_isAsSaid_70 (by decide) ?_
      refine xv_goto (pc := 71) 75 d_Ints_isAsSaid_71 (by decide) ?_
      exact xv_retzq (pc := 75) d_Ints_isAsSaid_75 rfl (by decide) rfl rfl ⟨_, rfl, by show _ = xB (xSo 3 x); simp [xSo, xB, h67], rfl⟩
  · skip
    refine xv_tableIn (pc := 1) (off := 75) 76 d_Ints_isAsSaid_1 (by decide) (by decide) (by decide) (by decide) ?_
    refine xv_iload_n (pc := 76) d_Ints_isAsSaid_76 rfl rfl ?_
    refine xv_if_le (pc := 77) 84 d_Ints_isAsSaid_77 (by decide) (fun h77 => ?_) (fun h77 => ?_)
    · refine xv_iconst (pc := 84) 0 d_Ints_isAsSaid_84 (by decide) ?_
      exact xv_retzq (pc := 85) d_Ints_isAsSaid_85 rfl (by decide) rfl rfl ⟨_, rfl, by show _ = xB (xSo 4 x); simp [xSo, xB, Int32.not_lt.mpr h77], rfl⟩
    · refine xv_iconst (pc := 80) 1 d_Ints_isAsSaid_80 (by decide) ?_
      refine xv_goto (pc := 81) 85 d_Ints_isAsSaid_81 (by decide) ?_
      exact xv_retzq (pc := 85) d_Ints_isAsSaid_85 rfl (by decide) rfl rfl ⟨_, rfl, by show _ = xB (xSo 4 x); simp [xSo, xB, Int32.not_le.mp h77], rfl⟩
  · skip
    refine xv_tableOut (pc := 1) 86 d_Ints_isAsSaid_1 (by decide) (by decide) ?_
    refine xv_iload_n (pc := 86) d_Ints_isAsSaid_86 rfl rfl ?_
    refine xv_if_gt (pc := 87) 94 d_Ints_isAsSaid_87 (by decide) (fun h87 => ?_) (fun h87 => ?_)
    · refine xv_iconst (pc := 94) 0 d_Ints_isAsSaid_94 (by decide) ?_
      exact xv_retzq (pc := 95) d_Ints_isAsSaid_95 rfl (by decide) rfl rfl ⟨_, rfl, by show _ = xB (xSo 5 x); simp [xSo, xB, h87], rfl⟩
    · refine xv_iconst (pc := 90) 1 d_Ints_isAsSaid_90 (by decide) ?_
      refine xv_goto (pc := 91) 95 d_Ints_isAsSaid_91 (by decide) ?_
      exact xv_retzq (pc := 95) d_Ints_isAsSaid_95 rfl (by decide) rfl rfl ⟨_, rfl, by show _ = xB (xSo 5 x); simp [xSo, xB, h87], rfl⟩

