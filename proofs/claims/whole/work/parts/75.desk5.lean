/-! FaslDesk: interpret, run, count -/
theorem c_Desk_interp_v {sc : Nat × (Nat → Int32)} {u : xv_M} {h dr it cp ar im : Nat} (hD : xDk u h dr it cp ar im) {d : Nat} {f x y z v : Int32} {Q : xv_M → Prop} (hI : xv_k u it = 4) (hc : xv_C sc d J_Interp_answer [.ref it, .int f, .int x, .int y, .int z] u (xv_N u) (xv_S u) (xv_pi (fun r w => r = v ∧ Q w))) : xv_C sc (d + 1) J_Desk_interpret [.ref h, .int f, .int x, .int y, .int z] u (xv_N u) (xv_S u) (xv_pi (fun r w => r = v ∧ Q w)) := by
  obtain ⟨k0, r0, r1, r2, r3, r4⟩ := hD
  refine xv_C_of (by decide) (Nat.le_refl _) (Nat.le_refl _) (xv_cat1 rfl) (Nat.le_of_ble_eq_true rfl) ?_
  show xv_X sc (d + 1) J_Desk_interpret 0 [some (.ref h), some (.int f), some (.int x), some (.int y), some (.int z)] [] u (xv_N u) (xv_S u) _
  refine xv_aload_n (pc := 0) d_Desk_interpret_0 rfl rfl ?_
  refine xv_getR (pc := 1) d_Desk_interpret_1 f_Desk_19 rfl k0 r1 ?_
  refine xv_iload_n (pc := 4) d_Desk_interpret_4 rfl rfl ?_
  refine xv_iload_n (pc := 5) d_Desk_interpret_5 rfl rfl ?_
  refine xv_iload_n (pc := 6) d_Desk_interpret_6 rfl rfl ?_
  refine xv_iload (pc := 7) d_Desk_interpret_7 rfl ?_
  refine xv_cVN4i (pc := 9) hc m_Interp_answer l_Desk_74 d_Desk_interpret_9 (by omega) (by decide : 3 < xv_nc) rfl hI (Nat.le_of_ble_eq_true rfl) ⟨Nat.le_refl _, Nat.le_refl _⟩ (fun r w hw hN hS => ?_)
  exact xv_retiq (pc := 12) d_Desk_interpret_12 rfl hN hS ⟨_, rfl, hw⟩
theorem c_Desk_interp_x {sc : Nat × (Nat → Int32)} {u : xv_M} {h dr it cp ar im : Nat} (hD : xDk u h dr it cp ar im) {d k : Nat} {f x y z : Int32} {Q : Nat → xv_M → Prop} (hI : xv_k u it = 4) (hc : xv_C sc d J_Interp_answer [.ref it, .int f, .int x, .int y, .int z] u (xv_N u + 1) (xv_S u + 6) (xv_px k Q)) : xv_C sc (d + 1) J_Desk_interpret [.ref h, .int f, .int x, .int y, .int z] u (xv_N u + 1) (xv_S u + 6) (xv_px k Q) := by
  obtain ⟨k0, r0, r1, r2, r3, r4⟩ := hD
  refine xv_C_of (by decide) (by omega) (by omega) (xv_cat1 rfl) (Nat.le_of_ble_eq_true rfl) ?_
  show xv_X sc (d + 1) J_Desk_interpret 0 [some (.ref h), some (.int f), some (.int x), some (.int y), some (.int z)] [] u (xv_N u + 1) (xv_S u + 6) _
  refine xv_aload_n (pc := 0) d_Desk_interpret_0 rfl rfl ?_
  refine xv_getR (pc := 1) d_Desk_interpret_1 f_Desk_19 rfl k0 r1 ?_
  refine xv_iload_n (pc := 4) d_Desk_interpret_4 rfl rfl ?_
  refine xv_iload_n (pc := 5) d_Desk_interpret_5 rfl rfl ?_
  refine xv_iload_n (pc := 6) d_Desk_interpret_6 rfl rfl ?_
  refine xv_iload (pc := 7) d_Desk_interpret_7 rfl ?_
  exact xv_tVN4 (pc := 9) hc m_Interp_answer l_Desk_74 d_Desk_interpret_9 (by omega) (by decide : 3 < xv_nc) rfl hI (Nat.le_of_ble_eq_true rfl) ⟨Nat.le_refl _, Nat.le_refl _⟩ (fun a w hp g2 g3 => ⟨⟨_, rfl, hp⟩, g2, g3⟩)
theorem c_Desk_run_n {sc : Nat × (Nat → Int32)} {u : xv_M} {h dr it cp ar im : Nat} (hD : xDk u h dr it cp ar im) {ca fa B : Nat} {f x y z : Int32} (hI : xIm u im ca fa B) (hno : ¬ ((0 ≤ f ∧ f ≤ 7) ∧ 0 < xv_i u (B + 7 * f.toNatClampNeg) 3)) : xv_C sc 10 J_Desk_run [.ref h, .int f, .int x, .int y, .int z] u (xv_N u + 1) (xv_S u + 6) (xv_px 12 (fun e w => e = xv_N u ∧ w = xv_nw u 13 0 6)) := by
  obtain ⟨k0, r0, r1, r2, r3, r4⟩ := hD
  refine xv_C_of (by decide) (by omega) (by omega) (xv_cat1 rfl) (Nat.le_of_ble_eq_true rfl) ?_
  show xv_X sc 10 J_Desk_run 0 [some (.ref h), some (.int f), some (.int x), some (.int y), some (.int z)] [] u (xv_N u + 1) (xv_S u + 6) _
  refine xv_aload_n (pc := 0) d_Desk_run_0 rfl rfl ?_
  refine xv_getR (pc := 1) d_Desk_run_1 f_Desk_40 rfl k0 r4 ?_
  refine xv_iload_n (pc := 4) d_Desk_run_4 rfl rfl ?_
  refine xv_cV1i (pc := 5) (d1 := 1) (c_Image_has hI) m_Image_has l_Desk_160 d_Desk_run_5 (by omega) (by decide : 9 < xv_nc) rfl hI.1 (Nat.le_of_ble_eq_true rfl) ⟨by omega, by omega⟩ (fun r w hw hN hS => ?_)
  obtain ⟨hr, hw⟩ := hw
  subst hw
  rw [decide_eq_false hno] at hr
  subst hr
  refine xv_if_ne (pc := 8) 21 d_Desk_run_8 (by decide) (fun h8 => ?_) (fun h8 => ?_)
  · exact absurd rfl h8
  exact xv_throw (pc := 11) (k := 12) (by decide) rfl (List.mem_of_getElem? (i := 2) rfl) (List.mem_of_getElem? (i := 2) rfl) k_767 k_17 k_589 (by decide +kernel) d_Desk_run_11 d_Desk_run_14 d_Desk_run_15 d_Desk_run_17 d_Desk_run_20 (by omega) (Nat.le_of_ble_eq_true rfl) (Nat.le_refl _) (Nat.le_refl _) ⟨⟨_, rfl, rfl, rfl⟩, rfl, rfl⟩
theorem c_Desk_run_v {sc : Nat × (Nat → Int32)} {u : xv_M} {h dr it cp ar im : Nat} (hD : xDk u h dr it cp ar im) {ca fa B d : Nat} {f x y z v : Int32} {Q : xv_M → Prop} (hd : 1 ≤ d) (hI : xIm u im ca fa B) (hyes : (0 ≤ f ∧ f ≤ 7) ∧ 0 < xv_i u (B + 7 * f.toNatClampNeg) 3) (hc : xv_C sc d J_Image_answer [.ref im, .int f, .int x, .int y, .int z] u (xv_N u) (xv_S u) (xv_pi (fun r w => r = v ∧ Q w))) : xv_C sc (d + 1) J_Desk_run [.ref h, .int f, .int x, .int y, .int z] u (xv_N u) (xv_S u) (xv_pi (fun r w => r = v ∧ Q w)) := by
  obtain ⟨k0, r0, r1, r2, r3, r4⟩ := hD
  refine xv_C_of (by decide) (Nat.le_refl _) (Nat.le_refl _) (xv_cat1 rfl) (Nat.le_of_ble_eq_true rfl) ?_
  show xv_X sc (d + 1) J_Desk_run 0 [some (.ref h), some (.int f), some (.int x), some (.int y), some (.int z)] [] u (xv_N u) (xv_S u) _
  refine xv_aload_n (pc := 0) d_Desk_run_0 rfl rfl ?_
  refine xv_getR (pc := 1) d_Desk_run_1 f_Desk_40 rfl k0 r4 ?_
  refine xv_iload_n (pc := 4) d_Desk_run_4 rfl rfl ?_
  refine xv_cV1i (pc := 5) (d1 := 1) (c_Image_has hI) m_Image_has l_Desk_160 d_Desk_run_5 (by omega) (by decide : 9 < xv_nc) rfl hI.1 (Nat.le_of_ble_eq_true rfl) ⟨Nat.le_refl _, Nat.le_refl _⟩ (fun r w hw hN hS => ?_)
  obtain ⟨hr, hw⟩ := hw
  subst hw
  rw [decide_eq_true hyes] at hr
  subst hr
  refine xv_if_ne (pc := 8) 21 d_Desk_run_8 (by decide) (fun h8 => ?_) (fun h8 => ?_)
  case refine_2 => exact absurd h8 (by decide)
  refine xv_aload_n (pc := 21) d_Desk_run_21 rfl rfl ?_
  refine xv_getR (pc := 22) d_Desk_run_22 f_Desk_40 rfl k0 r4 ?_
  refine xv_iload_n (pc := 25) d_Desk_run_25 rfl rfl ?_
  refine xv_iload_n (pc := 26) d_Desk_run_26 rfl rfl ?_
  refine xv_iload_n (pc := 27) d_Desk_run_27 rfl rfl ?_
  refine xv_iload (pc := 28) d_Desk_run_28 rfl ?_
  refine xv_cVN4i (pc := 30) hc m_Image_answer l_Desk_168 d_Desk_run_30 (by omega) (by decide : 9 < xv_nc) rfl hI.1 (Nat.le_of_ble_eq_true rfl) ⟨Nat.le_refl _, Nat.le_refl _⟩ (fun r w2 hw hN hS => ?_)
  exact xv_retiq (pc := 33) d_Desk_run_33 rfl hN hS ⟨_, rfl, hw⟩
theorem c_Desk_run_x {sc : Nat × (Nat → Int32)} {u : xv_M} {h dr it cp ar im : Nat} (hD : xDk u h dr it cp ar im) {ca fa B d k : Nat} {f x y z : Int32} {Q : Nat → xv_M → Prop} (hd : 1 ≤ d) (hI : xIm u im ca fa B) (hyes : (0 ≤ f ∧ f ≤ 7) ∧ 0 < xv_i u (B + 7 * f.toNatClampNeg) 3) (hc : xv_C sc d J_Image_answer [.ref im, .int f, .int x, .int y, .int z] u (xv_N u + 1) (xv_S u + 6) (xv_px k Q)) : xv_C sc (d + 1) J_Desk_run [.ref h, .int f, .int x, .int y, .int z] u (xv_N u + 1) (xv_S u + 6) (xv_px k Q) := by
  obtain ⟨k0, r0, r1, r2, r3, r4⟩ := hD
  refine xv_C_of (by decide) (by omega) (by omega) (xv_cat1 rfl) (Nat.le_of_ble_eq_true rfl) ?_
  show xv_X sc (d + 1) J_Desk_run 0 [some (.ref h), some (.int f), some (.int x), some (.int y), some (.int z)] [] u (xv_N u + 1) (xv_S u + 6) _
  refine xv_aload_n (pc := 0) d_Desk_run_0 rfl rfl ?_
  refine xv_getR (pc := 1) d_Desk_run_1 f_Desk_40 rfl k0 r4 ?_
  refine xv_iload_n (pc := 4) d_Desk_run_4 rfl rfl ?_
  refine xv_cV1i (pc := 5) (d1 := 1) (c_Image_has hI) m_Image_has l_Desk_160 d_Desk_run_5 (by omega) (by decide : 9 < xv_nc) rfl hI.1 (Nat.le_of_ble_eq_true rfl) ⟨by omega, by omega⟩ (fun r w hw hN hS => ?_)
  obtain ⟨hr, hw⟩ := hw
  subst hw
  rw [decide_eq_true hyes] at hr
  subst hr
  refine xv_if_ne (pc := 8) 21 d_Desk_run_8 (by decide) (fun h8 => ?_) (fun h8 => ?_)
  case refine_2 => exact absurd h8 (by decide)
  refine xv_aload_n (pc := 21) d_Desk_run_21 rfl rfl ?_
  refine xv_getR (pc := 22) d_Desk_run_22 f_Desk_40 rfl k0 r4 ?_
  refine xv_iload_n (pc := 25) d_Desk_run_25 rfl rfl ?_
  refine xv_iload_n (pc := 26) d_Desk_run_26 rfl rfl ?_
  refine xv_iload_n (pc := 27) d_Desk_run_27 rfl rfl ?_
  refine xv_iload (pc := 28) d_Desk_run_28 rfl ?_
  exact xv_tVN4 (pc := 30) hc m_Image_answer l_Desk_168 d_Desk_run_30 (by omega) (by decide : 9 < xv_nc) rfl hI.1 (Nat.le_of_ble_eq_true rfl) ⟨Nat.le_refl _, Nat.le_refl _⟩ (fun a w hp g2 g3 => ⟨⟨_, rfl, hp⟩, g2, g3⟩)
/-- what count answers -/
def xCt (u : xv_M) (h dr ar : Nat) (a b : Nat) (x : Int32) : Int32 := if x = 0 then nI a else if x = 1 then xv_i u ar 1 else if x = 2 then xv_i u ar 3 else if x = 3 then nI b else if x = 4 then xv_i u h 5 else if x = 5 then xv_i u h 6 else if x = 6 then xv_i u h 7 else if x = 7 then xv_i u dr 2 else -1
theorem c_Desk_count {sc : Nat × (Nat → Int32)} {u : xv_M} {h dr it cp ar im : Nat} (hD : xDk u h dr it cp ar im) {ma fa oa B ca fb B' ea cc a b : Nat} {x : Int32} {L L' : Nat → Nat} (hA : xv_Ar u ar ea cc) (hdr : xv_k u dr = 1) (H : xIn u it ma fa oa B ∧ ∀ f, f < 8 → xv_i u (B + 10 * f) 2 = nI (L f) ∧ L f ≤ 40) (ha : a = xCn (fun i => decide (0 < L i)) 8) {O' : Nat → Nat → Nat} {F' S' : Nat → Nat → Int32} (hI : xMI u im ca fb B' L' O' F' S') (hb : b = xCn (fun i => decide (0 < L' i)) 8) : xv_C sc 3 J_Desk_count [.ref h, .int x] u (xv_N u) (xv_S u) (xv_pi (fun r w => r = xCt u h dr ar a b x ∧ w = u)) := by
  obtain ⟨k0, r0, r1, r2, r3, r4⟩ := hD
  unfold xCt
  refine xv_C_of (by decide) (Nat.le_refl _) (Nat.le_refl _) (xv_cat1 rfl) (Nat.le_of_ble_eq_true rfl) ?_
  show xv_X sc 3 J_Desk_count 0 [some (.ref h), some (.int x)] [] u (xv_N u) (xv_S u) _
  refine xv_iload_n (pc := 0) d_Desk_count_0 rfl rfl ?_
  by_cases e0 : x = 0
  · subst e0
    refine xv_tableIn (pc := 1) (off := 47) 48 d_Desk_count_1 (by decide) (by decide) (by decide) (by decide) ?_
    refine xv_aload_n (pc := 48) d_Desk_count_48 rfl rfl ?_
    refine xv_getR (pc := 49) d_Desk_count_49 f_Desk_19 rfl k0 r1 ?_
    refine xv_cV0i (pc := 52) (d1 := 2) (c_Interp_size H) m_Interp_size l_Desk_192 d_Desk_count_52 (by omega) (by decide : 3 < xv_nc) rfl H.1.1 (Nat.le_of_ble_eq_true rfl) ⟨Nat.le_refl _, Nat.le_refl _⟩ (fun r w hw hN hS => ?_)
    obtain ⟨hr, hw⟩ := hw
    subst hw
    exact xv_retiq (pc := 55) d_Desk_count_55 rfl rfl rfl ⟨_, rfl, by rw [hr, if_pos rfl, ha], rfl⟩
  rw [if_neg e0]
  by_cases e1 : x = 1
  · subst e1
    refine xv_tableIn (pc := 1) (off := 55) 56 d_Desk_count_1 (by decide) (by decide) (by decide) (by decide) ?_
    refine xv_aload_n (pc := 56) d_Desk_count_56 rfl rfl ?_
    refine xv_getR (pc := 57) d_Desk_count_57 f_Desk_33 rfl k0 r3 ?_
    refine xv_getI (pc := 60) d_Desk_count_60 f_Desk_195 rfl hA.1 ?_
    exact xv_retiq (pc := 63) d_Desk_count_63 rfl rfl rfl ⟨_, rfl, by rw [if_pos rfl], rfl⟩
  rw [if_neg e1]
  by_cases e2 : x = 2
  · subst e2
    refine xv_tableIn (pc := 1) (off := 63) 64 d_Desk_count_1 (by decide) (by decide) (by decide) (by decide) ?_
    refine xv_aload_n (pc := 64) d_Desk_count_64 rfl rfl ?_
    refine xv_getR (pc := 65) d_Desk_count_65 f_Desk_33 rfl k0 r3 ?_
    refine xv_getI (pc := 68) d_Desk_count_68 f_Desk_197 rfl hA.1 ?_
    exact xv_retiq (pc := 71) d_Desk_count_71 rfl rfl rfl ⟨_, rfl, by rw [if_pos rfl], rfl⟩
  rw [if_neg e2]
  by_cases e3 : x = 3
  · subst e3
    refine xv_tableIn (pc := 1) (off := 71) 72 d_Desk_count_1 (by decide) (by decide) (by decide) (by decide) ?_
    refine xv_aload_n (pc := 72) d_Desk_count_72 rfl rfl ?_
    refine xv_getR (pc := 73) d_Desk_count_73 f_Desk_40 rfl k0 r4 ?_
    refine xv_cV0i (pc := 76) (d1 := 2) (c_Image_size hI) m_Image_size l_Desk_200 d_Desk_count_76 (by omega) (by decide : 9 < xv_nc) rfl hI.1.1 (Nat.le_of_ble_eq_true rfl) ⟨Nat.le_refl _, Nat.le_refl _⟩ (fun r w hw hN hS => ?_)
    obtain ⟨hr, hw⟩ := hw
    subst hw
    exact xv_retiq (pc := 79) d_Desk_count_79 rfl rfl rfl ⟨_, rfl, by rw [hr, if_pos rfl, hb], rfl⟩
  rw [if_neg e3]
  by_cases e4 : x = 4
  · subst e4
    refine xv_tableIn (pc := 1) (off := 79) 80 d_Desk_count_1 (by decide) (by decide) (by decide) (by decide) ?_
    refine xv_aload_n (pc := 80) d_Desk_count_80 rfl rfl ?_
    refine xv_getI (pc := 81) d_Desk_count_81 f_Desk_157 rfl k0 ?_
    exact xv_retiq (pc := 84) d_Desk_count_84 rfl rfl rfl ⟨_, rfl, by rw [if_pos rfl], rfl⟩
  rw [if_neg e4]
  by_cases e5 : x = 5
  · subst e5
    refine xv_tableIn (pc := 1) (off := 84) 85 d_Desk_count_1 (by decide) (by decide) (by decide) (by decide) ?_
    refine xv_aload_n (pc := 85) d_Desk_count_85 rfl rfl ?_
    refine xv_getI (pc := 86) d_Desk_count_86 f_Desk_147 rfl k0 ?_
    exact xv_retiq (pc := 89) d_Desk_count_89 rfl rfl rfl ⟨_, rfl, by rw [if_pos rfl], rfl⟩
  rw [if_neg e5]
  by_cases e6 : x = 6
  · subst e6
    refine xv_tableIn (pc := 1) (off := 89) 90 d_Desk_count_1 (by decide) (by decide) (by decide) (by decide) ?_
    refine xv_aload_n (pc := 90) d_Desk_count_90 rfl rfl ?_
    refine xv_getI (pc := 91) d_Desk_count_91 f_Desk_44 rfl k0 ?_
    exact xv_retiq (pc := 94) d_Desk_count_94 rfl rfl rfl ⟨_, rfl, by rw [if_pos rfl], rfl⟩
  rw [if_neg e6]
  by_cases e7 : x = 7
  · subst e7
    refine xv_tableIn (pc := 1) (off := 94) 95 d_Desk_count_1 (by decide) (by decide) (by decide) (by decide) ?_
    refine xv_aload_n (pc := 95) d_Desk_count_95 rfl rfl ?_
    refine xv_getR (pc := 96) d_Desk_count_96 f_Desk_10 rfl k0 r0 ?_
    refine xv_getI (pc := 99) d_Desk_count_99 f_Desk_52 rfl hdr ?_
    exact xv_retiq (pc := 102) d_Desk_count_102 rfl rfl rfl ⟨_, rfl, by rw [if_pos rfl], rfl⟩
  rw [if_neg e7]
  refine xv_tableTo (pc := 1) 103 [0, 1, 2, 3, 4, 5, 6, 7] d_Desk_count_1 (by decide) (by decide) (by decide) (List.forall_mem_cons.mpr ⟨lv_neT e0 (by decide), (List.forall_mem_cons.mpr ⟨lv_neT e1 (by decide), (List.forall_mem_cons.mpr ⟨lv_neT e2 (by decide), (List.forall_mem_cons.mpr ⟨lv_neT e3 (by decide), (List.forall_mem_cons.mpr ⟨lv_neT e4 (by decide), (List.forall_mem_cons.mpr ⟨lv_neT e5 (by decide), (List.forall_mem_cons.mpr ⟨lv_neT e6 (by decide), (List.forall_mem_cons.mpr ⟨lv_neT e7 (by decide), (fun _ h => absurd h List.not_mem_nil)⟩)⟩)⟩)⟩)⟩)⟩)⟩)⟩) ?_
  refine xv_iconst (pc := 103) (-1) d_Desk_count_103 (by decide) ?_
  exact xv_retiq (pc := 104) d_Desk_count_104 rfl rfl rfl ⟨_, rfl, rfl, rfl⟩

