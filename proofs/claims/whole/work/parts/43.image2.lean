/-! Image.rework that throws -/
theorem c_Image_rework_x {sc : Nat × (Nat → Int32)} {u : xv_M} {h o : Nat} {σ : xZ} (hF : xv_Fr u h (h + 1) (h + 2)) (hs : xFs u h σ) (ho : o = 5 ∨ o = 6) (h2 : 2 ≤ σ.2.2) (h42 : σ.2.2 ≤ 42) (hz : xTp σ = 0) : xv_C sc 8 J_Image_rework [.int (nI o), .ref h] u (xv_N u + 1) (xv_S u + 6) (xv_px 13 (fun a w => ∃ w0, xSi (xFS h) u w0 ∧ a = xv_N u ∧ w = xv_nw w0 14 0 6)) := by
  have hT : (nI o = 21) ↔ o = 21 := nI_eq (b := 21) (by omega) (by decide)
  refine xv_C_of (by decide) (by omega) (by omega) (xv_cat1 rfl) (Nat.le_of_ble_eq_true rfl) ?_
  show xv_X sc 8 J_Image_rework 0 [some (.int (nI o)), some (.ref h), none, none] [] u (xv_N u + 1) (xv_S u + 6) _
  refine xv_iload_n (pc := 0) d_Image_rework_0 rfl rfl ?_
  refine xv_bipush (pc := 1) 21 d_Image_rework_1 (by decide) ?_
  refine xv_icmp_ne (pc := 3) 7 d_Image_rework_3 (by decide) (fun h3 => ?_) (fun h3 => ?_)
  case refine_2 => exact absurd (hT.mp h3) (by omega)
  obtain ⟨n, hn⟩ : ∃ n, σ.2.2 = n + 1 := ⟨σ.2.2 - 1, by omega⟩
  refine xv_aload_n (pc := 7) d_Image_rework_7 rfl rfl ?_
  refine xv_cV0i (pc := 8) (c_Frame_pop (n := n) hF (by rw [hs.2.2, hn]) (by omega)) m_Frame_pop l_Image_72 d_Image_rework_8 (by omega) (by decide : 1 < xv_nc) rfl hF.1 (Nat.le_of_ble_eq_true rfl) ⟨by omega, by omega⟩ (fun r w hw hN hS => ?_)
  obtain ⟨hr, hw⟩ := hw
  have hr : r = 0 := by rw [hr, hs.2.1 n (by omega), ← hz]; unfold xTp; rw [hn]; rfl
  subst hr
  obtain ⟨f1, s1⟩ := xFs_po hs hn hw
  clear hw
  have F1 := xSi_Fr s1 hF
  have n1 : (xPo σ).2.2 = n := by show σ.2.2 - 1 = n; omega
  obtain ⟨m, hm⟩ : ∃ m, n = m + 1 := ⟨n - 1, by omega⟩
  refine xv_istore_2 (pc := 11) d_Image_rework_11 (by decide) rfl ?_
  refine xv_iload_n (pc := 12) d_Image_rework_12 rfl rfl ?_
  have e12 : ¬ o = 12 := by omega
  have e18 : ¬ o = 18 := by omega
  have e19 : ¬ o = 19 := by omega
  have e20 : ¬ o = 20 := by omega
  refine xv_tableTo (pc := 13) 107 [12, 18, 19, 20] d_Image_rework_13 (by decide) (by decide) (by decide) (List.forall_mem_cons.mpr ⟨nI_neT (by omega) e12, (List.forall_mem_cons.mpr ⟨nI_neT (by omega) e18, (List.forall_mem_cons.mpr ⟨nI_neT (by omega) e19, (List.forall_mem_cons.mpr ⟨nI_neT (by omega) e20, (fun _ h => absurd h List.not_mem_nil)⟩)⟩)⟩)⟩) ?_
  refine xv_aload_n (pc := 107) d_Image_rework_107 rfl rfl ?_
  refine xv_iload_n (pc := 108) d_Image_rework_108 rfl rfl ?_
  refine xv_aload_n (pc := 109) d_Image_rework_109 rfl rfl ?_
  refine xv_cV0i (pc := 110) (c_Frame_pop (u := w) (n := m) F1 (by rw [f1.2.2, n1, hm]) (by omega)) m_Frame_pop l_Image_72 d_Image_rework_110 (by omega) (by decide : 1 < xv_nc) rfl F1.1 (Nat.le_of_ble_eq_true rfl) ⟨by omega, by omega⟩ (fun r w2 hw hN hS => ?_)
  obtain ⟨hr, hw⟩ := hw
  obtain ⟨f2, s2⟩ := xFs_po f1 (n1.trans hm) hw
  clear hw
  have s3 := xSi_tr s1 s2
  rw [← s3.1, ← s3.2.1]
  refine xv_iload_n (pc := 113) d_Image_rework_113 rfl rfl ?_
  exact xv_tS3 (pc := 114) (c_Ints_reckon_x (u := w2) ho) m_Ints_reckon l_Image_102 d_Image_rework_114 (by omega) (Nat.le_of_ble_eq_true rfl) ⟨Nat.le_refl _, Nat.le_refl _⟩ (fun a w hp g2 g3 => ⟨⟨_, rfl, w2, s3, hp⟩, g2, g3⟩)
/-! the image: its codes and frames, from B on -/
def xIm (u : xv_M) (h ca fa B : Nat) : Prop := xv_k u h = 10 ∧ xv_r u h 0 = some ca ∧ xv_r u h 1 = some fa ∧ xv_k u ca = 107 ∧ xv_l u ca = 8 ∧ xv_k u fa = 104 ∧ xv_l u fa = 8 ∧ ∀ f, f < 8 → xv_r u ca f = some (B + 7 * f) ∧ xv_r u fa f = some (B + 7 * f + 4) ∧ xv_Co u (B + 7 * f) (B + 7 * f + 1) (B + 7 * f + 2) (B + 7 * f + 3) ∧ xv_Fr u (B + 7 * f + 4) (B + 7 * f + 4 + 1) (B + 7 * f + 4 + 2)
theorem xSi_Im {S : Nat → Prop} {u w : xv_M} {h ca fa B : Nat} (z : xSi S u w) (hI : xIm u h ca fa B) : xIm w h ca fa B := by
  obtain ⟨a1, a2, a3, a4, a5, a6, a7⟩ := z
  unfold xIm xv_Co xv_Fr
  rw [a3, a4, a5]
  exact hI
/-- the units of a FUNCTION in the image -/
def xUn (u : xv_M) (c n : Nat) (O : Nat → Nat) (F S : Nat → Int32) : Prop := xv_i u c 3 = nI n ∧ n ≤ 265 ∧ ∀ i, i < n → xv_i u (c + 1) i = nI (O i) ∧ O i < 22 ∧ xv_i u (c + 2) i = F i ∧ xv_i u (c + 3) i = S i
theorem xI8 {x : Int32} (h : (0 : Int32) ≤ x ∧ x ≤ 7) : ∃ i, i < 8 ∧ x = nI i := by
  obtain ⟨z, hz, h1, h2⟩ := xIx (n := 8) (x := x) (fun q => q.elim (fun q => absurd q (Int32.not_lt.mpr h.1)) (fun q => absurd (Int32.le_trans q h.2) (by decide))) (by decide)
  exact ⟨z, hz, h1⟩
theorem c_Image_has {sc : Nat × (Nat → Int32)} {u : xv_M} {h ca fa B : Nat} {x : Int32} (hI : xIm u h ca fa B) : xv_C sc 1 J_Image_has [.ref h, .int x] u (xv_N u) (xv_S u) (xv_pi (fun r w => r = xB (decide ((0 ≤ x ∧ x ≤ 7) ∧ 0 < xv_i u (B + 7 * x.toNatClampNeg) 3)) ∧ w = u)) := by
  obtain ⟨k0, r0, r1, kc, lc, kf, lf, hf⟩ := hI
  refine xv_C_of (by decide) (Nat.le_refl _) (Nat.le_refl _) (xv_cat1 rfl) (Nat.le_of_ble_eq_true rfl) ?_
  show xv_X sc 1 J_Image_has 0 [some (.ref h), some (.int x)] [] u (xv_N u) (xv_S u) _
  refine xv_iload_n (pc := 0) d_Image_has_0 rfl rfl ?_
  refine xv_iconst (pc := 1) 0 d_Image_has_1 (by decide) ?_
  refine xv_bipush (pc := 2) 7 d_Image_has_2 (by decide) ?_
  refine xv_cSN3i (pc := 4) (d1 := 0) c_Desk_within m_Desk_within l_Image_25 d_Image_has_4 (by omega) (Nat.le_of_ble_eq_true rfl) ⟨Nat.le_refl _, Nat.le_refl _⟩ (fun r w hw hN hS => ?_)
  obtain ⟨rfl, hw⟩ := hw
  subst w
  refine xv_if_eq (pc := 7) 26 d_Image_has_7 (by decide) (fun h7 => ?_) (fun h7 => ?_)
  · have e := xw_eq h7
    refine xv_iconst (pc := 26) 0 d_Image_has_26 (by decide) ?_
    exact xv_retzq (pc := 27) d_Image_has_27 rfl (by decide) rfl rfl ⟨_, rfl, by rw [decide_eq_false (fun q => e q.1)]; rfl, rfl⟩
  · have e := xw_ne h7
    obtain ⟨i, hi, hxi⟩ : ∃ i, i < 8 ∧ x = nI i := xI8 e
    have hc : x.toNatClampNeg = i := by rw [hxi]; exact nI_clamp (by omega)
    obtain ⟨f1, f2, f3, f4⟩ := hf i hi
    refine xv_aload_n (pc := 10) d_Image_has_10 rfl rfl ?_
    refine xv_getR (pc := 11) d_Image_has_11 f_Image_11 rfl k0 r0 ?_
    refine xv_iload_n (pc := 14) d_Image_has_14 rfl rfl ?_
    refine xv_aald (pc := 15) (t := 4) d_Image_has_15 kc rfl (by rw [lc, hxi]; exact vp_in_nI hi (by decide)) (by rw [hc]; exact f1) ?_
    refine xv_getI (pc := 16) d_Image_has_16 f_Image_29 rfl f3.1 ?_
    refine xv_if_le (pc := 19) 26 d_Image_has_19 (by decide) (fun h19 => ?_) (fun h19 => ?_)
    · refine xv_iconst (pc := 26) 0 d_Image_has_26 (by decide) ?_
      exact xv_retzq (pc := 27) d_Image_has_27 rfl (by decide) rfl rfl ⟨_, rfl, by rw [hc, decide_eq_false (fun q => absurd q.2 (Int32.not_lt.mpr h19))]; rfl, rfl⟩
    · refine xv_iconst (pc := 22) 1 d_Image_has_22 (by decide) ?_
      refine xv_goto (pc := 23) 27 d_Image_has_23 (by decide) ?_
      exact xv_retzq (pc := 27) d_Image_has_27 rfl (by decide) rfl rfl ⟨_, rfl, by rw [hc, decide_eq_true ⟨e, Int32.not_le.mp h19⟩]; rfl, rfl⟩

