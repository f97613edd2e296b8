def xFF (mg st sz : Int32) (n : Nat) (sl : Nat → Bool) (num nam oct : Nat → Int32) (ver : Nat → Bool) : Int32 × Int32 :=
  if ¬ mg = 0 then (1, -1) else if ¬ st = sz then (if sz < st then 2 else 3, -1)
  else if ¬ (xOd1 sl num n n 0 (-1)).1 = 0 then xOd1 sl num n n 0 (-1)
  else if ¬ (xOd2 num nam oct n 0 (xOd1 sl num n n 0 (-1)).2).1 = 0 then xOd2 num nam oct n 0 (xOd1 sl num n n 0 (-1)).2
  else xOd3 ver n 0 (xOd2 num nam oct n 0 (xOd1 sl num n n 0 (-1)).2).2
theorem xPair {α β : Type} {a : α} {b : β} {p : α × β} (h : (a, b) = p) : a = p.1 ∧ b = p.2 := by cases h; exact ⟨rfl, rfl⟩
set_option maxRecDepth 100000 in
set_option maxHeartbeats 1000000 in
theorem c_Arch_findFault {sc : Nat × (Nat → Int32)} {u : xv_M} {h ea cc ca cb n : Nat} {E L : Nat → Nat} {O : Nat → Nat → Nat} {F S : Nat → Nat → Int32} (hA : xv_Ar u h ea cc) (hE : xv_Es u ea E) (hn : xv_i u h 1 = nI n) (hlt : n ≤ 8) (hL : xUs u E L O F S) (hck : xv_Ck u cc ca cb) (hapart : ∀ e, e < 8 → ∀ d, d ≤ 4 → E e + d ≠ ca ∧ E e + d ≠ cb) (heac : ea ≠ cc ∧ ea ≠ ca ∧ ea ≠ cb) : xv_C sc 4 J_Arch_findFault [.ref h] u (xv_N u) (xv_S u) (xv_pi (fun r w => ∃ z, (r, z) = (xFF (xv_i u h 2) (xv_i u h 3) (xv_i u h 1) n (xSl u E L) (fun e => xv_i u (E e) 2) (fun e => xv_i u (E e) 5) (fun e => xv_i u (E e) 6) (xV3 u E L O F S)) ∧ xSame (xS3 cc ca cb) (xv_si u h 4 z) w ∧ xv_Ck w cc ca cb)) := by
  have k0 := hA.1
  have hEh : ∀ e, e < 8 → E e ≠ h := fun e he => xv_ne (hE e he).2.1 k0 (by decide)
  have hEd : ∀ e, e < 8 → E e + 1 ≠ h ∧ E e + 2 ≠ h ∧ E e + 3 ≠ h ∧ E e + 4 ≠ h ∧ E e + 6 ≠ h := fun e he => by
    have e2 := (hE e he).2
    have hC := e2.2.2.2.2.2.2.2.2
    exact ⟨xv_ne hC.1 k0 (by decide), xv_ne hC.2.2.2.2.1 k0 (by decide), xv_ne hC.2.2.2.2.2.2.1 k0 (by decide), xv_ne hC.2.2.2.2.2.2.2.2.1 k0 (by decide), xv_ne e2.2.2.2.2.2.2.1 k0 (by decide)⟩
  have eN : ∀ (j : Nat) (y : Int32), j ≠ 4 → (fun e => xv_i (xv_si u h 4 y) (E e) j) = fun e => xv_i u (E e) j := fun j y hj => funext fun e => xv_si_nj hj
  have hLy : ∀ y, xUs (xv_si u h 4 y) E L O F S := fun y e he => by
    obtain ⟨l1, l2, l3⟩ := hL e he
    obtain ⟨d1, d2, d3, d4, d6⟩ := hEd e he
    refine ⟨by rw [xv_si_ne d1]; exact l1, l2, fun i hi => ?_⟩
    rw [xv_si_ne d2, xv_si_ne d3, xv_si_ne d4]
    exact l3 i hi
  have eSl : ∀ y e, e < 8 → xSl (xv_si u h 4 y) E L e = xSl u E L e := fun y e he => by
    obtain ⟨d1, d2, d3, d4, d6⟩ := hEd e he
    unfold xSl
    rw [show xv_i (xv_si u h 4 y) (E e + 6) = xv_i u (E e + 6) from funext fun q => xv_si_ne d6, show xv_i (xv_si u h 4 y) (E e + 2) = xv_i u (E e + 2) from funext fun q => xv_si_ne d2]
    simp only [xv_si_ne (hEh e he)]
  have eV : ∀ y e, e < 8 → xV3 (xv_si u h 4 y) E L O F S e = xV3 u E L O F S e := fun y e he => by
    unfold xV3
    rw [xv_si_ne (hEh e he)]
  have cOd1 : ∀ (y : Int32) (num : Nat → Int32) (r k : Nat) (z : Int32), k + r ≤ 8 → xOd1 (xSl (xv_si u h 4 y) E L) num n r k z = xOd1 (xSl u E L) num n r k z := by
    intro y num r
    induction r with
    | zero => intro k z _; unfold xOd1; rfl
    | succ r ih =>
      intro k z hk
      unfold xOd1
      rw [eSl y k (by omega), ih (k + 1) _ (by omega)]
  have cOd3 : ∀ (y : Int32) (r k : Nat) (z : Int32), k + r ≤ 8 → xOd3 (xV3 (xv_si u h 4 y) E L O F S) r k z = xOd3 (xV3 u E L O F S) r k z := by
    intro y r
    induction r with
    | zero => intro k z _; unfold xOd3; rfl
    | succ r ih =>
      intro k z hk
      unfold xOd3
      rw [eV y k (by omega), ih (k + 1) _ (by omega)]
  refine xv_C_of (by decide) (Nat.le_refl _) (Nat.le_refl _) (xv_cat1 rfl) (Nat.le_of_ble_eq_true rfl) ?_
  show xv_X sc 4 J_Arch_findFault 0 [some (.ref h), none] [] u (xv_N u) (xv_S u) _
  refine xv_aload_n (pc := 0) d_Arch_findFault_0 rfl rfl ?_
  refine xv_iconst (pc := 1) (-1) d_Arch_findFault_1 (by decide) ?_
  refine xv_putI (pc := 2) d_Arch_findFault_2 f_Arch_41 (Or.inl rfl) fin_8_4 k0 ?_
  refine xv_aload_n (pc := 5) d_Arch_findFault_5 rfl rfl ?_
  refine xv_getI (pc := 6) d_Arch_findFault_6 f_Arch_44 rfl k0 ?_
  refine xv_if_eq (pc := 9) 14 d_Arch_findFault_9 (by decide) (fun h9 => ?_) (fun h9 => ?_)
  case refine_2 =>
    rw [xv_si_nj (by decide)] at h9
    refine xv_iconst (pc := 12) 1 d_Arch_findFault_12 (by decide) ?_
    exact xv_retiq (pc := 13) d_Arch_findFault_13 rfl rfl rfl ⟨_, rfl, -1, by unfold xFF; rw [if_pos h9], xSame_rf, hck⟩
  rw [xv_si_nj (by decide)] at h9
  refine xv_aload_n (pc := 14) d_Arch_findFault_14 rfl rfl ?_
  refine xv_getI (pc := 15) d_Arch_findFault_15 f_Arch_38 rfl k0 ?_
  refine xv_aload_n (pc := 18) d_Arch_findFault_18 rfl rfl ?_
  refine xv_getI (pc := 19) d_Arch_findFault_19 f_Arch_25 rfl k0 ?_
  refine xv_icmp_eq (pc := 22) 42 d_Arch_findFault_22 (by decide) (fun h22 => ?_) (fun h22 => ?_)
  case refine_2 =>
    rw [xv_si_nj (by decide), xv_si_nj (by decide)] at h22
    refine xv_aload_n (pc := 25) d_Arch_findFault_25 rfl rfl ?_
    refine xv_getI (pc := 26) d_Arch_findFault_26 f_Arch_38 rfl k0 ?_
    refine xv_aload_n (pc := 29) d_Arch_findFault_29 rfl rfl ?_
    refine xv_getI (pc := 30) d_Arch_findFault_30 f_Arch_25 rfl k0 ?_
    refine xv_icmp_le (pc := 33) 40 d_Arch_findFault_33 (by decide) (fun h33 => ?_) (fun h33 => ?_)
    · rw [xv_si_nj (by decide), xv_si_nj (by decide)] at h33
      refine xv_iconst (pc := 40) 3 d_Arch_findFault_40 (by decide) ?_
      exact xv_retiq (pc := 41) d_Arch_findFault_41 rfl rfl rfl ⟨_, rfl, -1, by unfold xFF; rw [if_neg (not_not_intro h9), if_pos h22, if_neg (Int32.not_lt.mpr h33)], xSame_rf, hck⟩
    · rw [xv_si_nj (by decide), xv_si_nj (by decide)] at h33
      refine xv_iconst (pc := 36) 2 d_Arch_findFault_36 (by decide) ?_
      refine xv_goto (pc := 37) 41 d_Arch_findFault_37 (by decide) ?_
      exact xv_retiq (pc := 41) d_Arch_findFault_41 rfl rfl rfl ⟨_, rfl, -1, by unfold xFF; rw [if_neg (not_not_intro h9), if_pos h22, if_pos (Int32.not_le.mp h33)], xSame_rf, hck⟩
  rw [xv_si_nj (by decide), xv_si_nj (by decide)] at h22
  have hFF : (xFF (xv_i u h 2) (xv_i u h 3) (xv_i u h 1) n (xSl u E L) (fun e => xv_i u (E e) 2) (fun e => xv_i u (E e) 5) (fun e => xv_i u (E e) 6) (xV3 u E L O F S)) = if ¬ (xOd1 (xSl u E L) (fun e => xv_i u (E e) 2) n n 0 (-1)).1 = 0 then xOd1 (xSl u E L) (fun e => xv_i u (E e) 2) n n 0 (-1) else if ¬ (xOd2 (fun e => xv_i u (E e) 2) (fun e => xv_i u (E e) 5) (fun e => xv_i u (E e) 6) n 0 (xOd1 (xSl u E L) (fun e => xv_i u (E e) 2) n n 0 (-1)).2).1 = 0 then xOd2 (fun e => xv_i u (E e) 2) (fun e => xv_i u (E e) 5) (fun e => xv_i u (E e) 6) n 0 (xOd1 (xSl u E L) (fun e => xv_i u (E e) 2) n n 0 (-1)).2 else xOd3 (xV3 u E L O F S) n 0 (xOd2 (fun e => xv_i u (E e) 2) (fun e => xv_i u (E e) 5) (fun e => xv_i u (E e) 6) n 0 (xOd1 (xSl u E L) (fun e => xv_i u (E e) 2) n n 0 (-1)).2).2 := by
    unfold xFF
    rw [if_neg (not_not_intro h9), if_neg (not_not_intro h22)]
  refine xv_aload_n (pc := 42) d_Arch_findFault_42 rfl rfl ?_
  refine xv_cV0i (pc := 43) (c_Arch_findOddEntry (u := xv_si u h 4 (-1)) (E := E) (L := L) hA hE (by rw [xv_si_nj (by decide)]; exact hn) hlt (fun e he => ⟨(hLy (-1) e he).1, (hLy (-1) e he).2.1⟩)) m_Arch_findOddEntry l_Arch_47 d_Arch_findFault_43 (by omega) (by decide : 8 < xv_nc) rfl k0 (Nat.le_of_ble_eq_true rfl) ⟨Nat.le_refl _, Nat.le_refl _⟩ (fun r1 w hw hN hS => ?_)
  obtain ⟨z1, hz1, hw⟩ := hw
  rw [xv_si_si] at hw
  subst w
  rw [xv_si_eq, eN 2 _ (by decide), cOd1 _ _ _ _ _ (by omega)] at hz1
  obtain ⟨e1, f1⟩ := xPair hz1
  rw [← e1, ← f1] at hFF
  refine xv_istore_1 (pc := 46) d_Arch_findFault_46 (by decide) rfl ?_
  refine xv_iload_n (pc := 47) d_Arch_findFault_47 rfl rfl ?_
  refine xv_if_ne (pc := 48) 56 d_Arch_findFault_48 (by decide) (fun h48 => ?_) (fun h48 => ?_)
  case refine_1 =>
    rw [if_pos h48] at hFF
    refine xv_iload_n (pc := 56) d_Arch_findFault_56 rfl rfl ?_
    refine xv_if_ne (pc := 57) 65 d_Arch_findFault_57 (by decide) (fun h57 => ?_) (fun h57 => ?_)
    case refine_2 => exact absurd h57 h48
    refine xv_iload_n (pc := 65) d_Arch_findFault_65 rfl rfl ?_
    exact xv_retiq (pc := 66) d_Arch_findFault_66 rfl rfl rfl ⟨_, rfl, z1, by rw [hFF]; exact hz1, xSame_rf, hck⟩
  rw [if_neg (not_not_intro h48)] at hFF
  refine xv_aload_n (pc := 51) d_Arch_findFault_51 rfl rfl ?_
  refine xv_cV0i (pc := 52) (c_Arch_findOddClass (u := xv_si u h 4 z1) (E := E) hA hE (by rw [xv_si_nj (by decide)]; exact hn) hlt) m_Arch_findOddClass l_Arch_51 d_Arch_findFault_52 (by omega) (by decide : 8 < xv_nc) rfl k0 (Nat.le_of_ble_eq_true rfl) ⟨Nat.le_refl _, Nat.le_refl _⟩ (fun r2 w hw hN hS => ?_)
  obtain ⟨z2, hz2, hw⟩ := hw
  rw [xv_si_si] at hw
  subst w
  rw [xv_si_eq, eN 2 _ (by decide), eN 5 _ (by decide), eN 6 _ (by decide)] at hz2
  obtain ⟨e2, f2⟩ := xPair hz2
  rw [← e2, ← f2] at hFF
  refine xv_istore_1 (pc := 55) d_Arch_findFault_55 (by decide) rfl ?_
  refine xv_iload_n (pc := 56) d_Arch_findFault_56 rfl rfl ?_
  refine xv_if_ne (pc := 57) 65 d_Arch_findFault_57 (by decide) (fun h57 => ?_) (fun h57 => ?_)
  case refine_1 =>
    rw [if_pos h57] at hFF
    refine xv_iload_n (pc := 65) d_Arch_findFault_65 rfl rfl ?_
    exact xv_retiq (pc := 66) d_Arch_findFault_66 rfl rfl rfl ⟨_, rfl, z2, by rw [hFF]; exact hz2, xSame_rf, hck⟩
  rw [if_neg (not_not_intro h57)] at hFF
  refine xv_aload_n (pc := 60) d_Arch_findFault_60 rfl rfl ?_
  refine xv_cV0i (pc := 61) (c_Arch_findOddCode (u := xv_si u h 4 z2) (E := E) (L := L) (O := O) (F := F) (S := S) hA hE (by rw [xv_si_nj (by decide)]; exact hn) hlt (hLy z2) hck hapart heac) m_Arch_findOddCode l_Arch_54 d_Arch_findFault_61 (by omega) (by decide : 8 < xv_nc) rfl k0 (Nat.le_of_ble_eq_true rfl) ⟨Nat.le_refl _, Nat.le_refl _⟩ (fun r3 w hw hN hS => ?_)
  obtain ⟨z3, hz3, hw, hcw⟩ := hw
  rw [xv_si_si] at hw
  rw [xv_si_eq, cOd3 _ _ _ _ (by omega)] at hz3
  refine xv_istore_1 (pc := 64) d_Arch_findFault_64 (by decide) rfl ?_
  refine xv_iload_n (pc := 65) d_Arch_findFault_65 rfl rfl ?_
  exact xv_retiq (pc := 66) d_Arch_findFault_66 rfl hN hS ⟨_, rfl, z3, by rw [hFF]; exact hz3, hw, hcw⟩

