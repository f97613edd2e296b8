/-! Interpreter.goRound -/
def xRd (first : Bool) (σ : xZ) (v : Nat) : Int32 := if first = true then xTp σ &&& 7 else σ.1 v - 1
theorem c_Interp_goRound {sc : Nat × (Nat → Int32)} {u : xv_M} {h ma fa oa B f p v : Nat} {s : Nat → Nat} {σ : xZ} {π : xY} (hI : xIn u h ma fa oa B) (hf : f < 8) (hs : xFs u (B + 10 * f + 4) σ) (hπ : xOs u (B + 10 * f + 7) π) (h1 : 1 ≤ σ.2.2) (h42 : σ.2.2 ≤ 42) (h1' : 1 ≤ π.2.2) (h40 : π.2.2 < 40) (hp : p < 40) (ha : xv_i u (B + 10 * f + 2) p = nI v) (hv : v < 7) (hst : ∀ j, j < 2 → xv_i u (B + 10 * f + 3) (p * 3 + j) = nI (s j)) {first : Bool} : xv_C sc 3 J_Interp_goRound [.ref h, .int (nI f), .int (nI p), .int (xB first)] u (xv_N u) (xv_S u) (xv_pv (fun w => ((¬ (xRd first σ v) = 0 ∧ xFs w (B + 10 * f + 4) (xSv (xPo σ) v (xRd first σ v)) ∧ xOs w (B + 10 * f + 7) (xOe π (s 1))) ∨ ((xRd first σ v) = 0 ∧ xFs w (B + 10 * f + 4) (xPu (xSv (xPo σ) v (xRd first σ v)) 0) ∧ xOs w (B + 10 * f + 7) (xOl π))) ∧ xSi (xFO B f) u w)) := by
  have hI0 := hI
  obtain ⟨k0, r0, r1, r2, kc, lc, kf, lf, ko, lo, hfs⟩ := hI
  obtain ⟨f1, f2, f3, f4, f5, f6⟩ := hfs f hf
  have f50 := f5
  have hcf : (nI f).toNatClampNeg = f := nI_clamp (by omega)
  have hcp : (nI p).toNatClampNeg = p := nI_clamp (by omega)
  have hcv : (nI v).toNatClampNeg = v := nI_clamp (by omega)
  have hif : vp_in (nI f) 8 := vp_in_nI hf (by decide)
  have hiv : vp_in (nI v) 7 := vp_in_nI hv (by decide)
  obtain ⟨n, hn⟩ : ∃ n, σ.2.2 = n + 1 := ⟨σ.2.2 - 1, by omega⟩
  obtain ⟨m, hm⟩ : ∃ m, π.2.2 = m + 1 := ⟨π.2.2 - 1, by omega⟩
  refine xv_C_of (by decide) (Nat.le_refl _) (Nat.le_refl _) (xv_cat1 rfl) (Nat.le_of_ble_eq_true rfl) ?_
  show xv_X sc 3 J_Interp_goRound 0 [some (.ref h), some (.int (nI f)), some (.int (nI p)), some (.int (xB first)), none, none, none] [] u (xv_N u) (xv_S u) _
  refine xv_aload_n (pc := 0) d_Interp_goRound_0 rfl rfl ?_
  refine xv_getR (pc := 1) d_Interp_goRound_1 f_Interp_19 rfl k0 r1 ?_
  refine xv_iload_n (pc := 4) d_Interp_goRound_4 rfl rfl ?_
  refine xv_aald (pc := 5) (t := 1) d_Interp_goRound_5 kf rfl (by rw [lf]; exact hif) (by rw [hcf]; exact f2) ?_
  refine xv_getR (pc := 6) d_Interp_goRound_6 f_Interp_87 rfl f5.1 f5.2.1 ?_
  refine xv_astore_4 (pc := 9) d_Interp_goRound_9 (by decide) rfl ?_
  refine xv_aload_n (pc := 11) d_Interp_goRound_11 rfl rfl ?_
  refine xv_getR (pc := 12) d_Interp_goRound_12 f_Interp_11 rfl k0 r0 ?_
  refine xv_iload_n (pc := 15) d_Interp_goRound_15 rfl rfl ?_
  refine xv_aald (pc := 16) (t := 0) d_Interp_goRound_16 kc rfl (by rw [lc]; exact hif) (by rw [hcf]; exact f1) ?_
  refine xv_getR (pc := 17) d_Interp_goRound_17 f_Interp_90 rfl f4.1 f4.2.2.1 ?_
  refine xv_iload_n (pc := 20) d_Interp_goRound_20 rfl rfl ?_
  refine xv_ald (pc := 21) d_Interp_goRound_21 f4.2.2.2.2.2.2.1 (by rw [f4.2.2.2.2.2.2.2.1]; exact vp_in_nI hp (by decide)) ?_
  refine xv_istore_5 (pc := 22) d_Interp_goRound_22 (by decide) rfl ?_
  refine xv_aload_n (pc := 24) d_Interp_goRound_24 rfl rfl ?_
  refine xv_getR (pc := 25) d_Interp_goRound_25 f_Interp_19 rfl k0 r1 ?_
  refine xv_iload_n (pc := 28) d_Interp_goRound_28 rfl rfl ?_
  refine xv_aald (pc := 29) (t := 1) d_Interp_goRound_29 kf rfl (by rw [lf]; exact hif) (by rw [hcf]; exact f2) ?_
  rw [hcp, ha]
  refine xv_cV0i (pc := 30) (d1 := 0) (c_Frame_pop (n := n) f5 (by rw [hs.2.2, hn]) (by omega)) m_Frame_pop l_Interp_69 d_Interp_goRound_30 (by omega) (by decide : 1 < xv_nc) rfl f5.1 (Nat.le_of_ble_eq_true rfl) ⟨Nat.le_refl _, Nat.le_refl _⟩ (fun r w hw hN hS => ?_)
  obtain ⟨hr, hw⟩ := hw
  have hr : r = xTp σ := by rw [hr, hs.2.1 n (by omega)]; unfold xTp; rw [hn]; rfl
  subst hr
  obtain ⟨g1, s1⟩ := xFs_po hs hn hw
  clear hw
  have F1 := xSi_Fr s1 f50
  obtain ⟨g2, t2⟩ := xFs_sv (v := v) (x := (xRd first σ v)) g1
  have s2 := xSi_tr s1 t2
  have o1 := xOs_far s2 (Or.inr (by omega)) hπ
  have F2 := xSi_Fr s2 f50
  have n2 : ((xSv (xPo σ) v (xRd first σ v))).2.2 = n := by show σ.2.2 - 1 = n; omega
  suffices j58 : xv_X sc 3 J_Interp_goRound 58 [some (.ref h), some (.int (nI f)), some (.int (nI p)), some (.int (xB first)), some (.ref (B + 10 * f + 4 + 1)), some (.int (nI v)), some (.int (xTp σ))] [.int (xRd first σ v), .int (nI v), .ref (B + 10 * f + 4 + 1)] w (xv_N u) (xv_S u) (xv_q (xv_N u) (xv_S u) (xv_pv (fun w => ((¬ (xRd first σ v) = 0 ∧ xFs w (B + 10 * f + 4) (xSv (xPo σ) v (xRd first σ v)) ∧ xOs w (B + 10 * f + 7) (xOe π (s 1))) ∨ ((xRd first σ v) = 0 ∧ xFs w (B + 10 * f + 4) (xPu (xSv (xPo σ) v (xRd first σ v)) 0) ∧ xOs w (B + 10 * f + 7) (xOl π))) ∧ xSi (xFO B f) u w))) by
    refine xv_istore_6 (pc := 33) d_Interp_goRound_33 (by decide) rfl ?_
    refine xv_aload (pc := 35) d_Interp_goRound_35 rfl ?_
    refine xv_iload (pc := 37) d_Interp_goRound_37 rfl ?_
    refine xv_iload_n (pc := 39) d_Interp_goRound_39 rfl rfl ?_
    refine xv_if_eq (pc := 40) 51 d_Interp_goRound_40 (by decide) (fun h40 => ?_) (fun h40 => ?_)
    · have e := xB_eq h40
      have en : (xRd first σ v) = σ.1 v - 1 := by unfold xRd; rw [if_neg (by rw [e]; decide)]
      refine xv_aload (pc := 51) d_Interp_goRound_51 rfl ?_
      refine xv_iload (pc := 53) d_Interp_goRound_53 rfl ?_
      refine xv_ald (pc := 55) d_Interp_goRound_55 F1.2.2.2.1 (by rw [F1.2.2.2.2.1]; exact hiv) ?_
      refine xv_iconst (pc := 56) 1 d_Interp_goRound_56 (by decide) ?_
      refine xv_isub (pc := 57) d_Interp_goRound_57 ?_
      rw [hcv, g1.1 v hv]
      rw [show (xPo σ).1 v - 1 = (xRd first σ v) from en.symm]
      exact j58
    · have e := xB_ne h40
      have en : (xRd first σ v) = xTp σ &&& 7 := by unfold xRd; rw [if_pos e]
      refine xv_iload (pc := 43) d_Interp_goRound_43 rfl ?_
      refine xv_bipush (pc := 45) 7 d_Interp_goRound_45 (by decide) ?_
      refine xv_iand (pc := 47) d_Interp_goRound_47 ?_
      refine xv_goto (pc := 48) 58 d_Interp_goRound_48 (by decide) ?_
      rw [← en]
      exact j58
  have hst2 : ∀ j, j < 2 → xv_i (xv_si w (B + 10 * f + 4 + 1) v (xRd first σ v)) (B + 10 * f + 3) (p * 3 + j) = nI (s j) := fun j hj => by
    rw [s2.2.2.2.2.2.2 _ (fun q => by unfold xFS at q; omega)]; exact hst j hj
  obtain ⟨k0, r0, r1, r2, kc, lc, kf, lf, ko, lo, hfs⟩ := xSi_In s2 hI0
  obtain ⟨f1, f2, f3, f4, f5, f6⟩ := hfs f hf
  refine xv_ast (pc := 58) d_Interp_goRound_58 F1.2.2.2.1 (by rw [F1.2.2.2.2.1]; exact hiv) ?_
  rw [hcv]
  generalize hW : xv_si w (B + 10 * f + 4 + 1) v (xRd first σ v) = W at *
  have hvv : xv_i W (B + 10 * f + 4 + 1) v = (xRd first σ v) := by rw [← hW]; exact xv_si_eq
  refine xv_aload (pc := 59) d_Interp_goRound_59 rfl ?_
  refine xv_iload (pc := 61) d_Interp_goRound_61 rfl ?_
  refine xv_ald (pc := 63) d_Interp_goRound_63 F2.2.2.2.1 (by rw [F2.2.2.2.2.1]; exact hiv) ?_
  refine xv_if_eq (pc := 64) 90 d_Interp_goRound_64 (by decide) (fun h64 => ?_) (fun h64 => ?_)
  · rw [hcv, hvv] at h64
    refine xv_aload_n (pc := 90) d_Interp_goRound_90 rfl rfl ?_
    refine xv_getR (pc := 91) d_Interp_goRound_91 f_Interp_25 rfl k0 r2 ?_
    refine xv_iload_n (pc := 94) d_Interp_goRound_94 rfl rfl ?_
    refine xv_aald (pc := 95) (t := 2) d_Interp_goRound_95 ko rfl (by rw [lo]; exact hif) (by rw [hcf]; exact f3) ?_
    refine xv_cV0v (pc := 96) (d1 := 1) (c_Opens_leave (n := m) f6 (by rw [o1.2.2, hm]) (by omega)) m_Opens_leave l_Interp_110 d_Interp_goRound_96 (by omega) (by decide : 2 < xv_nc) rfl f6.1 (Nat.le_of_ble_eq_true rfl) (xSi_le s2) (fun w4 hw hN hS => ?_)
    obtain ⟨o2, s3⟩ := xOs_l o1 hm hw
    clear hw
    have g3 := xFs_far s3 (Or.inl (by omega)) g2
    have s4 := xSi_tr (xSi_mono s2 (fun a z => Or.inl z)) (xSi_mono (S' := xFO B f) s3 (fun a z => Or.inr z))
    obtain ⟨k0, r0, r1, r2, kc, lc, kf, lf, ko, lo, hfs⟩ := xSi_In s4 hI0
    obtain ⟨f1, f2, f3, f4, f5, f6⟩ := hfs f hf
    refine xv_aload_n (pc := 99) d_Interp_goRound_99 rfl rfl ?_
    refine xv_getR (pc := 100) d_Interp_goRound_100 f_Interp_19 rfl k0 r1 ?_
    refine xv_iload_n (pc := 103) d_Interp_goRound_103 rfl rfl ?_
    refine xv_aald (pc := 104) (t := 1) d_Interp_goRound_104 kf rfl (by rw [lf]; exact hif) (by rw [hcf]; exact f2) ?_
    refine xv_iconst (pc := 105) 0 d_Interp_goRound_105 (by decide) ?_
    refine xv_cV1v (pc := 106) (d1 := 0) (c_Frame_push (n := n) f5 (by rw [g3.2.2, n2]) (by omega)) m_Frame_push l_Interp_123 d_Interp_goRound_106 (by omega) (by decide : 1 < xv_nc) rfl f5.1 (Nat.le_of_ble_eq_true rfl) (xSi_le s4) (fun w5 hw hN hS => ?_)
    rw [← n2] at hw
    obtain ⟨g4, s5⟩ := xFs_pu g3 hw
    have s6 := xSi_tr s4 (xSi_mono (S' := xFO B f) s5 (fun a z => Or.inl z))
    exact xv_retvq (pc := 109) d_Interp_goRound_109 rfl s6.1 s6.2.1 ⟨rfl, Or.inr ⟨h64, g4, xOs_far s5 (Or.inr (by omega)) o2⟩, s6⟩
  · rw [hcv, hvv] at h64
    refine xv_aload_n (pc := 67) d_Interp_goRound_67 rfl rfl ?_
    refine xv_getR (pc := 68) d_Interp_goRound_68 f_Interp_25 rfl k0 r2 ?_
    refine xv_iload_n (pc := 71) d_Interp_goRound_71 rfl rfl ?_
    refine xv_aald (pc := 72) (t := 2) d_Interp_goRound_72 ko rfl (by rw [lo]; exact hif) (by rw [hcf]; exact f3) ?_
    refine xv_aload_n (pc := 73) d_Interp_goRound_73 rfl rfl ?_
    refine xv_getR (pc := 74) d_Interp_goRound_74 f_Interp_11 rfl k0 r0 ?_
    refine xv_iload_n (pc := 77) d_Interp_goRound_77 rfl rfl ?_
    refine xv_aald (pc := 78) (t := 0) d_Interp_goRound_78 kc rfl (by rw [lc]; exact hif) (by rw [hcf]; exact f1) ?_
    refine xv_iload_n (pc := 79) d_Interp_goRound_79 rfl rfl ?_
    refine xv_iconst (pc := 80) 1 d_Interp_goRound_80 (by decide) ?_
    refine xv_cV2i (pc := 81) (d1 := 0) (c_Form_start (j := 1) f4 hp (by decide)) m_Form_start l_Interp_93 d_Interp_goRound_81 (by omega) (by decide : 0 < xv_nc) rfl f4.1 (Nat.le_of_ble_eq_true rfl) (xSi_le s2) (fun r5 w3 hw hN hS => ?_)
    obtain ⟨hr5, hw⟩ := hw
    rw [hst2 1 (by decide)] at hr5
    subst hr5
    subst hw
    refine xv_cV1v (pc := 84) (d1 := 1) (c_Opens_enterPart (n := m) f6 (by rw [o1.2.2, hm]) (by omega)) m_Opens_enterPart l_Interp_107 d_Interp_goRound_84 (by omega) (by decide : 2 < xv_nc) rfl f6.1 (Nat.le_of_ble_eq_true rfl) (xSi_le s2) (fun w4 hw hN hS => ?_)
    obtain ⟨o2, s3⟩ := xOs_e o1 hm hw
    have s4 := xSi_tr (xSi_mono s2 (fun a z => Or.inl z)) (xSi_mono (S' := xFO B f) s3 (fun a z => Or.inr z))
    refine xv_goto (pc := 87) 109 d_Interp_goRound_87 (by decide) ?_
    exact xv_retvq (pc := 109) d_Interp_goRound_109 rfl s4.1 s4.2.1 ⟨rfl, Or.inl ⟨h64, xFs_far s3 (Or.inl (by omega)) g2, o2⟩, s4⟩

