/-! FaslDesk.damage -/
theorem c_Desk_damage0 {sc : Nat × (Nat → Int32)} {u : xv_M} {h dr it cp ar im : Nat} (hD : xDk u h dr it cp ar im) {e0 : Int32} {ea cc : Nat} {x : Int32} (hA : xv_Ar u ar ea cc) : xv_C sc 2 J_Desk_damage [.ref h, .int 0, .int e0, .int x] u (xv_N u) (xv_S u) (xv_pi (fun r w => (¬ (0 ≤ x ∧ x ≤ 7) ∧ r = -1 ∧ w = u) ∨ ((0 ≤ x ∧ x ≤ 7) ∧ r = 1 ∧ w = xv_si u ar 2 x))) := by
  refine xv_C_of (by decide) (Nat.le_refl _) (Nat.le_refl _) (xv_cat1 rfl) (Nat.le_of_ble_eq_true rfl) ?_
  show xv_X sc 2 J_Desk_damage 0 [some (.ref h), some (.int 0), some (.int e0), some (.int x)] [] u (xv_N u) (xv_S u) _
  refine xv_iload_n (pc := 0) d_Desk_damage_0 rfl rfl ?_
  refine xv_tableIn (pc := 1) (off := 35) 36 d_Desk_damage_1 (by decide) (by decide) (by decide) (by decide) ?_
  refine xv_aload_n (pc := 36) d_Desk_damage_36 rfl rfl ?_
  refine xv_iload_n (pc := 37) d_Desk_damage_37 rfl rfl ?_
  refine xv_cV1i (pc := 38) (d1 := 1) (c_Desk_damageMagic hD hA) m_Desk_damageMagic l_Desk_103 d_Desk_damage_38 (by omega) (by decide : 10 < xv_nc) rfl hD.1 (Nat.le_of_ble_eq_true rfl) ⟨Nat.le_refl _, Nat.le_refl _⟩ (fun r w hw hN hS => ?_)
  exact xv_retiq (pc := 41) d_Desk_damage_41 rfl hN hS ⟨_, rfl, hw⟩
theorem c_Desk_damage1 {sc : Nat × (Nat → Int32)} {u : xv_M} {h dr it cp ar im : Nat} (hD : xDk u h dr it cp ar im) {e0 : Int32} {ea cc : Nat} {x : Int32} (hA : xv_Ar u ar ea cc) : xv_C sc 2 J_Desk_damage [.ref h, .int 1, .int e0, .int x] u (xv_N u) (xv_S u) (xv_pi (fun r w => (¬ (0 ≤ x ∧ x ≤ 9) ∧ r = -1 ∧ w = u) ∨ ((0 ≤ x ∧ x ≤ 9) ∧ r = 1 ∧ w = xv_si u ar 3 x))) := by
  refine xv_C_of (by decide) (Nat.le_refl _) (Nat.le_refl _) (xv_cat1 rfl) (Nat.le_of_ble_eq_true rfl) ?_
  show xv_X sc 2 J_Desk_damage 0 [some (.ref h), some (.int 1), some (.int e0), some (.int x)] [] u (xv_N u) (xv_S u) _
  refine xv_iload_n (pc := 0) d_Desk_damage_0 rfl rfl ?_
  refine xv_tableIn (pc := 1) (off := 41) 42 d_Desk_damage_1 (by decide) (by decide) (by decide) (by decide) ?_
  refine xv_aload_n (pc := 42) d_Desk_damage_42 rfl rfl ?_
  refine xv_iload_n (pc := 43) d_Desk_damage_43 rfl rfl ?_
  refine xv_cV1i (pc := 44) (d1 := 1) (c_Desk_damageStated hD hA) m_Desk_damageStated l_Desk_106 d_Desk_damage_44 (by omega) (by decide : 10 < xv_nc) rfl hD.1 (Nat.le_of_ble_eq_true rfl) ⟨Nat.le_refl _, Nat.le_refl _⟩ (fun r w hw hN hS => ?_)
  exact xv_retiq (pc := 47) d_Desk_damage_47 rfl hN hS ⟨_, rfl, hw⟩
theorem c_Desk_damage2 {sc : Nat × (Nat → Int32)} {u : xv_M} {h dr it cp ar im : Nat} (hD : xDk u h dr it cp ar im) {ea cc n : Nat} {E : Nat → Nat} {x : Int32} (hA : xv_Ar u ar ea cc) (hE : xv_Es u ea E) (hn : xv_i u ar 1 = nI n) (hlt : n ≤ 8) {y : Int32} : xv_C sc 2 J_Desk_damage [.ref h, .int 2, .int x, .int y] u (xv_N u) (xv_S u) (xv_pi (fun r w => (¬ ((0 ≤ x ∧ x < nI n) ∧ 0 ≤ y ∧ y ≤ 7) ∧ r = -1 ∧ w = u) ∨ (∃ e, e < n ∧ x = nI e ∧ (0 ≤ y ∧ y ≤ 7) ∧ r = 1 ∧ w = xv_si u (E e) 2 y))) := by
  refine xv_C_of (by decide) (Nat.le_refl _) (Nat.le_refl _) (xv_cat1 rfl) (Nat.le_of_ble_eq_true rfl) ?_
  show xv_X sc 2 J_Desk_damage 0 [some (.ref h), some (.int 2), some (.int x), some (.int y)] [] u (xv_N u) (xv_S u) _
  refine xv_iload_n (pc := 0) d_Desk_damage_0 rfl rfl ?_
  refine xv_tableIn (pc := 1) (off := 47) 48 d_Desk_damage_1 (by decide) (by decide) (by decide) (by decide) ?_
  refine xv_aload_n (pc := 48) d_Desk_damage_48 rfl rfl ?_
  refine xv_iload_n (pc := 49) d_Desk_damage_49 rfl rfl ?_
  refine xv_iload_n (pc := 50) d_Desk_damage_50 rfl rfl ?_
  refine xv_cV2i (pc := 51) (d1 := 1) (c_Desk_damageNumber hD hA hE hn hlt) m_Desk_damageNumber l_Desk_109 d_Desk_damage_51 (by omega) (by decide : 10 < xv_nc) rfl hD.1 (Nat.le_of_ble_eq_true rfl) ⟨Nat.le_refl _, Nat.le_refl _⟩ (fun r w hw hN hS => ?_)
  exact xv_retiq (pc := 54) d_Desk_damage_54 rfl hN hS ⟨_, rfl, hw⟩
theorem c_Desk_damage3 {sc : Nat × (Nat → Int32)} {u : xv_M} {h dr it cp ar im : Nat} (hD : xDk u h dr it cp ar im) {v0 : Int32} {ea cc n : Nat} {E : Nat → Nat} {x : Int32} (hA : xv_Ar u ar ea cc) (hE : xv_Es u ea E) (hn : xv_i u ar 1 = nI n) (hlt : n ≤ 8) (ho : ∀ e, e < 8 → xv_i u (E e) 6 = 0 ∨ xv_i u (E e) 6 = 1) : xv_C sc 2 J_Desk_damage [.ref h, .int 3, .int x, .int v0] u (xv_N u) (xv_S u) (xv_pi (fun r w => (¬ (0 ≤ x ∧ x < nI n) ∧ r = -1 ∧ w = u) ∨ (∃ e, e < n ∧ x = nI e ∧ r = 1 ∧ w = xv_si u (E e) 6 (if xv_i u (E e) 6 = 0 then 1 else 0)))) := by
  refine xv_C_of (by decide) (Nat.le_refl _) (Nat.le_refl _) (xv_cat1 rfl) (Nat.le_of_ble_eq_true rfl) ?_
  show xv_X sc 2 J_Desk_damage 0 [some (.ref h), some (.int 3), some (.int x), some (.int v0)] [] u (xv_N u) (xv_S u) _
  refine xv_iload_n (pc := 0) d_Desk_damage_0 rfl rfl ?_
  refine xv_tableIn (pc := 1) (off := 54) 55 d_Desk_damage_1 (by decide) (by decide) (by decide) (by decide) ?_
  refine xv_aload_n (pc := 55) d_Desk_damage_55 rfl rfl ?_
  refine xv_iload_n (pc := 56) d_Desk_damage_56 rfl rfl ?_
  refine xv_cV1i (pc := 57) (d1 := 1) (c_Desk_damageOctet hD hA hE hn hlt ho) m_Desk_damageOctet l_Desk_113 d_Desk_damage_57 (by omega) (by decide : 10 < xv_nc) rfl hD.1 (Nat.le_of_ble_eq_true rfl) ⟨Nat.le_refl _, Nat.le_refl _⟩ (fun r w hw hN hS => ?_)
  exact xv_retiq (pc := 60) d_Desk_damage_60 rfl hN hS ⟨_, rfl, hw⟩
theorem c_Desk_damage4 {sc : Nat × (Nat → Int32)} {u : xv_M} {h dr it cp ar im : Nat} (hD : xDk u h dr it cp ar im) {v0 : Int32} {ea cc n : Nat} {E : Nat → Nat} {x : Int32} (hA : xv_Ar u ar ea cc) (hE : xv_Es u ea E) (hn : xv_i u ar 1 = nI n) (hlt : n ≤ 8) {L : Nat → Nat} (ho : ∀ e, e < 8 → xv_i u (E e) 6 = 0 ∨ xv_i u (E e) 6 = 1) (hL : ∀ e, e < 8 → xv_i u (E e + 1) 3 = nI (L e) ∧ L e ≤ 265) : xv_C sc 3 J_Desk_damage [.ref h, .int 4, .int x, .int v0] u (xv_N u) (xv_S u) (xv_pi (fun r w => (¬ (0 ≤ x ∧ x < nI n) ∧ r = -1 ∧ w = u) ∨ (∃ e, e < n ∧ x = nI e ∧ r = 1 ∧ w = xv_sw (xv_si (xv_si u (E e) 8 (xv_i u (E e) 2)) (E e) 9 (xv_i u (E e) 6)) (E e + 6) (va_cpy (xv_i u (E e + 2)) (xv_i u (E e + 6)) 0 0 (L e))))) := by
  refine xv_C_of (by decide) (Nat.le_refl _) (Nat.le_refl _) (xv_cat1 rfl) (Nat.le_of_ble_eq_true rfl) ?_
  show xv_X sc 3 J_Desk_damage 0 [some (.ref h), some (.int 4), some (.int x), some (.int v0)] [] u (xv_N u) (xv_S u) _
  refine xv_iload_n (pc := 0) d_Desk_damage_0 rfl rfl ?_
  refine xv_tableIn (pc := 1) (off := 60) 61 d_Desk_damage_1 (by decide) (by decide) (by decide) (by decide) ?_
  refine xv_aload_n (pc := 61) d_Desk_damage_61 rfl rfl ?_
  refine xv_iload_n (pc := 62) d_Desk_damage_62 rfl rfl ?_
  refine xv_cV1i (pc := 63) (d1 := 2) (c_Desk_sealAnew hD hA hE hn hlt ho hL) m_Desk_sealAnew l_Desk_116 d_Desk_damage_63 (by omega) (by decide : 10 < xv_nc) rfl hD.1 (Nat.le_of_ble_eq_true rfl) ⟨Nat.le_refl _, Nat.le_refl _⟩ (fun r w hw hN hS => ?_)
  exact xv_retiq (pc := 66) d_Desk_damage_66 rfl hN hS ⟨_, rfl, hw⟩
theorem c_Desk_damage5 {sc : Nat × (Nat → Int32)} {u : xv_M} {h dr it cp ar im : Nat} (hD : xDk u h dr it cp ar im) {x y z : Int32} (h0 : ¬ x = 0) (h1 : ¬ x = 1) (h2 : ¬ x = 2) (h3 : ¬ x = 3) (h4 : ¬ x = 4) : xv_C sc 0 J_Desk_damage [.ref h, .int x, .int y, .int z] u (xv_N u) (xv_S u) (xv_pi (fun r w => r = -1 ∧ w = u)) := by
  refine xv_C_of (by decide) (Nat.le_refl _) (Nat.le_refl _) (xv_cat1 rfl) (Nat.le_of_ble_eq_true rfl) ?_
  show xv_X sc 0 J_Desk_damage 0 [some (.ref h), some (.int x), some (.int y), some (.int z)] [] u (xv_N u) (xv_S u) _
  refine xv_iload_n (pc := 0) d_Desk_damage_0 rfl rfl ?_
  refine xv_tableTo (pc := 1) 67 [0, 1, 2, 3, 4] d_Desk_damage_1 (by decide) (by decide) (by decide) (List.forall_mem_cons.mpr ⟨lv_neT h0 (by decide), (List.forall_mem_cons.mpr ⟨lv_neT h1 (by decide), (List.forall_mem_cons.mpr ⟨lv_neT h2 (by decide), (List.forall_mem_cons.mpr ⟨lv_neT h3 (by decide), (List.forall_mem_cons.mpr ⟨lv_neT h4 (by decide), (fun _ h => absurd h List.not_mem_nil)⟩)⟩)⟩)⟩)⟩) ?_
  refine xv_iconst (pc := 67) (-1) d_Desk_damage_67 (by decide) ?_
  exact xv_retiq (pc := 68) d_Desk_damage_68 rfl rfl rfl ⟨_, rfl, rfl, rfl⟩

