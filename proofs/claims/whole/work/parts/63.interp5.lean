/-! Interpreter.choose -/
def xFO (B f b : Nat) : Prop := xFS (B + 10 * f + 4) b ∨ xFS (B + 10 * f + 7) b
theorem xFs_far {u w : xv_M} {h g : Nat} {σ : xZ} (z : xSi (xFS g) u w) (hg : h + 2 < g ∨ g + 2 < h) (hs : xFs u h σ) : xFs w h σ := by
  have key : ∀ i, i ≤ 2 → xv_i w (h + i) = xv_i u (h + i) := fun i hi => z.2.2.2.2.2.2 _ (fun q => by unfold xFS at q; omega)
  have k0 : xv_i w h = xv_i u h := key 0 (by decide)
  unfold xFs
  rw [k0, key 1 (by decide), key 2 (by decide)]
  exact hs
theorem xOs_far {u w : xv_M} {h g : Nat} {π : xY} (z : xSi (xFS g) u w) (hg : h + 2 < g ∨ g + 2 < h) (hs : xOs u h π) : xOs w h π := by
  have key : ∀ i, i ≤ 2 → xv_i w (h + i) = xv_i u (h + i) := fun i hi => z.2.2.2.2.2.2 _ (fun q => by unfold xFS at q; omega)
  have k0 : xv_i w h = xv_i u h := key 0 (by decide)
  unfold xOs
  rw [k0, key 1 (by decide), key 2 (by decide)]
  exact hs
theorem c_Interp_choose {sc : Nat × (Nat → Int32)} {u : xv_M} {h ma fa oa B f p t : Nat} {s : Nat → Nat} {σ : xZ} {π : xY} (hI : xIn u h ma fa oa B) (hf : f < 8) (hs : xFs u (B + 10 * f + 4) σ) (hπ : xOs u (B + 10 * f + 7) π) (h1 : 1 ≤ σ.2.2) (h42 : σ.2.2 ≤ 42) (h1' : 1 ≤ π.2.2) (h40 : π.2.2 ≤ 40) (hp : p < 40) (ha : xv_i u (B + 10 * f + 2) p = nI t) (ht : t < 6) (hst : ∀ j, j < 3 → xv_i u (B + 10 * f + 3) (p * 3 + j) = nI (s j)) : xv_C sc 3 J_Interp_choose [.ref h, .int (nI f), .int (nI p)] u (xv_N u) (xv_S u) (xv_pv (fun w => xFs w (B + 10 * f + 4) (xPo σ) ∧ xOs w (B + 10 * f + 7) (xOg π (s (if xSo (nI t) (xTp σ) = true then 1 else 2))) ∧ xSi (xFO B f) u w)) := by
  have hI0 := hI
  obtain ⟨k0, r0, r1, r2, kc, lc, kf, lf, ko, lo, hfs⟩ := hI
  obtain ⟨f1, f2, f3, f4, f5, f6⟩ := hfs f hf
  have hcf : (nI f).toNatClampNeg = f := nI_clamp (by omega)
  have hcp : (nI p).toNatClampNeg = p := nI_clamp (by omega)
  have hif : vp_in (nI f) 8 := vp_in_nI hf (by decide)
  obtain ⟨n, hn⟩ : ∃ n, σ.2.2 = n + 1 := ⟨σ.2.2 - 1, by omega⟩
  obtain ⟨m, hm⟩ : ∃ m, π.2.2 = m + 1 := ⟨π.2.2 - 1, by omega⟩
  refine xv_C_of (by decide) (Nat.le_refl _) (Nat.le_refl _) (xv_cat1 rfl) (Nat.le_of_ble_eq_true rfl) ?_
  show xv_X sc 3 J_Interp_choose 0 [some (.ref h), some (.int (nI f)), some (.int (nI p)), none] [] u (xv_N u) (xv_S u) _
  refine xv_aload_n (pc := 0) d_Interp_choose_0 rfl rfl ?_
  refine xv_getR (pc := 1) d_Interp_choose_1 f_Interp_11 rfl k0 r0 ?_
  refine xv_iload_n (pc := 4) d_Interp_choose_4 rfl rfl ?_
  refine xv_aald (pc := 5) (t := 0) d_Interp_choose_5 kc rfl (by rw [lc]; exact hif) (by rw [hcf]; exact f1) ?_
  refine xv_getR (pc := 6) d_Interp_choose_6 f_Interp_90 rfl f4.1 f4.2.2.1 ?_
  refine xv_iload_n (pc := 9) d_Interp_choose_9 rfl rfl ?_
  refine xv_ald (pc := 10) d_Interp_choose_10 f4.2.2.2.2.2.2.1 (by rw [f4.2.2.2.2.2.2.2.1]; exact vp_in_nI hp (by decide)) ?_
  refine xv_aload_n (pc := 11) d_Interp_choose_11 rfl rfl ?_
  refine xv_getR (pc := 12) d_Interp_choose_12 f_Interp_19 rfl k0 r1 ?_
  refine xv_iload_n (pc := 15) d_Interp_choose_15 rfl rfl ?_
  refine xv_aald (pc := 16) (t := 1) d_Interp_choose_16 kf rfl (by rw [lf]; exact hif) (by rw [hcf]; exact f2) ?_
  rw [hcp, ha]
  refine xv_cV0i (pc := 17) (d1 := 0) (c_Frame_pop (n := n) f5 (by rw [hs.2.2, hn]) (by omega)) m_Frame_pop l_Interp_69 d_Interp_choose_17 (by omega) (by decide : 1 < xv_nc) rfl f5.1 (Nat.le_of_ble_eq_true rfl) ⟨Nat.le_refl _, Nat.le_refl _⟩ (fun r w hw hN hS => ?_)
  obtain ⟨hr, hw⟩ := hw
  have hr : r = xTp σ := by rw [hr, hs.2.1 n (by omega)]; unfold xTp; rw [hn]; rfl
  subst hr
  obtain ⟨g1, s1⟩ := xFs_po hs hn hw
  clear hw
  have o1 := xOs_far s1 (Or.inr (by omega)) hπ
  have hst1 : ∀ j, j < 3 → xv_i w (B + 10 * f + 3) (p * 3 + j) = nI (s j) := fun j hj => by
    rw [s1.2.2.2.2.2.2 _ (fun q => by unfold xFS at q; omega)]; exact hst j hj
  refine xv_cS2i (pc := 20) (d1 := 0) (c_Ints_isAsSaid (u := w) ht) m_Ints_isAsSaid l_Interp_117 d_Interp_choose_20 (by omega) (Nat.le_of_ble_eq_true rfl) (xSi_le s1) (fun r4 w2 hw hN hS => ?_)
  obtain ⟨hr4, hw⟩ := hw
  subst hr4
  subst hw
  obtain ⟨k0, r0, r1, r2, kc, lc, kf, lf, ko, lo, hfs⟩ := xSi_In s1 hI0
  obtain ⟨f1, f2, f3, f4, f5, f6⟩ := hfs f hf
  refine xv_istore_3 (pc := 23) d_Interp_choose_23 (by decide) rfl ?_
  refine xv_aload_n (pc := 24) d_Interp_choose_24 rfl rfl ?_
  refine xv_getR (pc := 25) d_Interp_choose_25 f_Interp_25 rfl k0 r2 ?_
  refine xv_iload_n (pc := 28) d_Interp_choose_28 rfl rfl ?_
  refine xv_aald (pc := 29) (t := 2) d_Interp_choose_29 ko rfl (by rw [lo]; exact hif) (by rw [hcf]; exact f3) ?_
  refine xv_aload_n (pc := 30) d_Interp_choose_30 rfl rfl ?_
  refine xv_getR (pc := 31) d_Interp_choose_31 f_Interp_11 rfl k0 r0 ?_
  refine xv_iload_n (pc := 34) d_Interp_choose_34 rfl rfl ?_
  refine xv_aald (pc := 35) (t := 0) d_Interp_choose_35 kc rfl (by rw [lc]; exact hif) (by rw [hcf]; exact f1) ?_
  refine xv_iload_n (pc := 36) d_Interp_choose_36 rfl rfl ?_
  refine xv_iload_n (pc := 37) d_Interp_choose_37 rfl rfl ?_
  refine xv_if_eq (pc := 38) 45 d_Interp_choose_38 (by decide) (fun h38 => ?_) (fun h38 => ?_)
  · have e := xB_eq h38
    rw [if_neg (by rw [e]; decide)]
    refine xv_iconst (pc := 45) 2 d_Interp_choose_45 (by decide) ?_
    refine xv_cV2i (pc := 46) (d1 := 0) (c_Form_start (j := 2) f4 hp (by decide)) m_Form_start l_Interp_93 d_Interp_choose_46 (by omega) (by decide : 0 < xv_nc) rfl f4.1 (Nat.le_of_ble_eq_true rfl) (xSi_le s1) (fun r5 w3 hw hN hS => ?_)
    obtain ⟨hr5, hw⟩ := hw
    rw [hst1 2 (by decide)] at hr5
    subst hr5
    subst hw
    refine xv_cV1v (pc := 49) (d1 := 2) (c_Opens_goOnAs (n := m) f6 (by rw [o1.2.2, hm]) (by omega)) m_Opens_goOnAs l_Interp_97 d_Interp_choose_49 (by omega) (by decide : 2 < xv_nc) rfl f6.1 (Nat.le_of_ble_eq_true rfl) (xSi_le s1) (fun w4 hw hN hS => ?_)
    obtain ⟨o2, s2⟩ := xOs_g o1 hm hw
    have s3 := xSi_tr (xSi_mono s1 (fun a z => Or.inl z)) (xSi_mono (S' := xFO B f) s2 (fun a z => Or.inr z))
    exact xv_retvq (pc := 52) d_Interp_choose_52 rfl s3.1 s3.2.1 ⟨rfl, xFs_far s2 (Or.inl (by omega)) g1, o2, s3⟩
  · have e := xB_ne h38
    rw [if_pos e]
    refine xv_iconst (pc := 41) 1 d_Interp_choose_41 (by decide) ?_
    refine xv_goto (pc := 42) 46 d_Interp_choose_42 (by decide) ?_
    refine xv_cV2i (pc := 46) (d1 := 0) (c_Form_start (j := 1) f4 hp (by decide)) m_Form_start l_Interp_93 d_Interp_choose_46 (by omega) (by decide : 0 < xv_nc) rfl f4.1 (Nat.le_of_ble_eq_true rfl) (xSi_le s1) (fun r5 w3 hw hN hS => ?_)
    obtain ⟨hr5, hw⟩ := hw
    rw [hst1 1 (by decide)] at hr5
    subst hr5
    subst hw
    refine xv_cV1v (pc := 49) (d1 := 2) (c_Opens_goOnAs (n := m) f6 (by rw [o1.2.2, hm]) (by omega)) m_Opens_goOnAs l_Interp_97 d_Interp_choose_49 (by omega) (by decide : 2 < xv_nc) rfl f6.1 (Nat.le_of_ble_eq_true rfl) (xSi_le s1) (fun w4 hw hN hS => ?_)
    obtain ⟨o2, s2⟩ := xOs_g o1 hm hw
    have s3 := xSi_tr (xSi_mono s1 (fun a z => Or.inl z)) (xSi_mono (S' := xFO B f) s2 (fun a z => Or.inr z))
    exact xv_retvq (pc := 52) d_Interp_choose_52 rfl s3.1 s3.2.1 ⟨rfl, xFs_far s2 (Or.inl (by omega)) g1, o2, s3⟩

