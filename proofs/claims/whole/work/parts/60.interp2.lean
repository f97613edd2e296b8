/-! Interpreter.finish, but for CALL -/
def xFin (o : Nat) (a : Int32) (σ : xZ) : xZ :=
  if o = 0 then xPu σ a else if o = 1 then xPu σ (σ.1 a.toNatClampNeg) else if o = 12 then xPu (xPo σ) (-xTp σ)
  else if o = 15 then xSv σ a.toNatClampNeg (xTp σ) else xPu (xPo (xPo σ)) (xOp o (xTp (xPo σ)) (xTp σ))
theorem c_Interp_finish {sc : Nat × (Nat → Int32)} {u : xv_M} {h ma fa oa B f o : Nat} {σ : xZ} {a : Int32} (hI : xIn u h ma fa oa B) (hf : f < 8) (hs : xFs u (B + 10 * f + 4) σ) (ho : o ≤ 12 ∨ o = 15) (h42 : σ.2.2 ≤ 42) (q0 : o = 0 ∨ o = 1 → σ.2.2 < 42) (q1 : o = 12 ∨ o = 15 → 1 ≤ σ.2.2) (q2 : 2 ≤ o ∧ o ≤ 11 → 2 ≤ σ.2.2) (qv : o = 1 ∨ o = 15 → ∃ v, v < 7 ∧ a = nI v) (hz : o = 5 ∨ o = 6 → ¬ xTp σ = 0) : xv_C sc 2 J_Interp_finish [.ref h, .int (nI f), .int (nI o), .int a] u (xv_N u) (xv_S u) (xv_pv (fun w => xFs w (B + 10 * f + 4) (xFin o a σ) ∧ xSi (xFS (B + 10 * f + 4)) u w)) := by
  obtain ⟨k0, r0, r1, r2, kc, lc, kf, lf, ko, lo, hfs⟩ := hI
  obtain ⟨f1, f2, f3, f4, f5, f6⟩ := hfs f hf
  have hcf : (nI f).toNatClampNeg = f := nI_clamp (by omega)
  have hif : vp_in (nI f) 8 := vp_in_nI hf (by decide)
  refine xv_C_of (by decide) (Nat.le_refl _) (Nat.le_refl _) (xv_cat1 rfl) (Nat.le_of_ble_eq_true rfl) ?_
  show xv_X sc 2 J_Interp_finish 0 [some (.ref h), some (.int (nI f)), some (.int (nI o)), some (.int a), none, none] [] u (xv_N u) (xv_S u) _
  refine xv_aload_n (pc := 0) d_Interp_finish_0 rfl rfl ?_
  refine xv_getR (pc := 1) d_Interp_finish_1 f_Interp_19 rfl k0 r1 ?_
  refine xv_iload_n (pc := 4) d_Interp_finish_4 rfl rfl ?_
  refine xv_aald (pc := 5) (t := 1) d_Interp_finish_5 kf rfl (by rw [lf]; exact hif) (by rw [hcf]; exact f2) ?_
  refine xv_astore_4 (pc := 6) d_Interp_finish_6 (by decide) rfl ?_
  refine xv_iload_n (pc := 8) d_Interp_finish_8 rfl rfl ?_
  by_cases e0 : o = 0
  · subst e0
    refine xv_lookup (pc := 9) (off := 51) 60 d_Interp_finish_9 (by decide) (by decide) (by decide) ?_
    refine xv_aload (pc := 60) d_Interp_finish_60 rfl ?_
    refine xv_iload_n (pc := 62) d_Interp_finish_62 rfl rfl ?_
    refine xv_cV1v (pc := 63) (c_Frame_push (n := σ.2.2) f5 hs.2.2 (q0 (Or.inl rfl))) m_Frame_push l_Interp_123 d_Interp_finish_63 (by omega) (by decide : 1 < xv_nc) rfl f5.1 (Nat.le_of_ble_eq_true rfl) ⟨Nat.le_refl _, Nat.le_refl _⟩ (fun w hw hN hS => ?_)
    obtain ⟨g1, s1⟩ := xFs_pu hs hw
    refine xv_goto (pc := 66) 150 d_Interp_finish_66 (by decide) ?_
    exact xv_retvq (pc := 150) d_Interp_finish_150 rfl s1.1 s1.2.1 ⟨rfl, g1, s1⟩
  by_cases e1 : o = 1
  · subst e1
    obtain ⟨v, hv, rfl⟩ := qv (Or.inl rfl)
    have hcv : (nI v).toNatClampNeg = v := nI_clamp (by omega)
    refine xv_lookup (pc := 9) (off := 60) 69 d_Interp_finish_9 (by decide) (by decide) (by decide) ?_
    refine xv_aload (pc := 69) d_Interp_finish_69 rfl ?_
    refine xv_aload (pc := 71) d_Interp_finish_71 rfl ?_
    refine xv_getR (pc := 73) d_Interp_finish_73 f_Interp_87 rfl f5.1 f5.2.1 ?_
    refine xv_iload_n (pc := 76) d_Interp_finish_76 rfl rfl ?_
    refine xv_ald (pc := 77) d_Interp_finish_77 f5.2.2.2.1 (by rw [f5.2.2.2.2.1]; exact vp_in_nI hv (by decide)) ?_
    rw [hcv, hs.1 v hv]
    refine xv_cV1v (pc := 78) (c_Frame_push (n := σ.2.2) f5 hs.2.2 (q0 (Or.inr rfl))) m_Frame_push l_Interp_123 d_Interp_finish_78 (by omega) (by decide : 1 < xv_nc) rfl f5.1 (Nat.le_of_ble_eq_true rfl) ⟨Nat.le_refl _, Nat.le_refl _⟩ (fun w hw hN hS => ?_)
    obtain ⟨g1, s1⟩ := xFs_pu hs hw
    refine xv_goto (pc := 81) 150 d_Interp_finish_81 (by decide) ?_
    exact xv_retvq (pc := 150) d_Interp_finish_150 rfl s1.1 s1.2.1 ⟨rfl, by unfold xFin; rw [if_neg (by decide), if_pos rfl, hcv]; exact g1, s1⟩
  by_cases e12 : o = 12
  · subst e12
    have h1 := q1 (Or.inl rfl)
    obtain ⟨n, hn⟩ : ∃ n, σ.2.2 = n + 1 := ⟨σ.2.2 - 1, by omega⟩
    refine xv_lookup (pc := 9) (off := 75) 84 d_Interp_finish_9 (by decide) (by decide) (by decide) ?_
    refine xv_aload (pc := 84) d_Interp_finish_84 rfl ?_
    refine xv_aload (pc := 86) d_Interp_finish_86 rfl ?_
    refine xv_cV0i (pc := 88) (c_Frame_pop (n := n) f5 (by rw [hs.2.2, hn]) (by omega)) m_Frame_pop l_Interp_69 d_Interp_finish_88 (by omega) (by decide : 1 < xv_nc) rfl f5.1 (Nat.le_of_ble_eq_true rfl) ⟨Nat.le_refl _, Nat.le_refl _⟩ (fun r w hw hN hS => ?_)
    obtain ⟨hr, hw⟩ := hw
    have hr : r = xTp σ := by rw [hr, hs.2.1 n (by omega)]; unfold xTp; rw [hn]; rfl
    subst hr
    obtain ⟨g1, s1⟩ := xFs_po hs hn hw
    clear hw
    have F1 := xSi_Fr s1 f5
    have n1 : (xPo σ).2.2 = n := by show σ.2.2 - 1 = n; omega
    refine xv_ineg (pc := 91) d_Interp_finish_91 ?_
    refine xv_cV1v (pc := 92) (c_Frame_push (u := w) (n := n) F1 (by rw [g1.2.2, n1]) (by omega)) m_Frame_push l_Interp_123 d_Interp_finish_92 (by omega) (by decide : 1 < xv_nc) rfl F1.1 (Nat.le_of_ble_eq_true rfl) (xSi_le s1) (fun w2 hw hN hS => ?_)
    rw [← n1] at hw
    obtain ⟨g2, s2⟩ := xFs_pu g1 hw
    have s3 := xSi_tr s1 s2
    refine xv_goto (pc := 95) 150 d_Interp_finish_95 (by decide) ?_
    exact xv_retvq (pc := 150) d_Interp_finish_150 rfl s3.1 s3.2.1 ⟨rfl, g2, s3⟩
  by_cases e15 : o = 15
  · subst e15
    have h1 := q1 (Or.inr rfl)
    obtain ⟨v, hv, rfl⟩ := qv (Or.inr rfl)
    have hcv : (nI v).toNatClampNeg = v := nI_clamp (by omega)
    obtain ⟨n, hn⟩ : ∃ n, σ.2.2 = n + 1 := ⟨σ.2.2 - 1, by omega⟩
    refine xv_lookup (pc := 9) (off := 89) 98 d_Interp_finish_9 (by decide) (by decide) (by decide) ?_
    refine xv_aload (pc := 98) d_Interp_finish_98 rfl ?_
    refine xv_getR (pc := 100) d_Interp_finish_100 f_Interp_87 rfl f5.1 f5.2.1 ?_
    refine xv_iload_n (pc := 103) d_Interp_finish_103 rfl rfl ?_
    refine xv_aload (pc := 104) d_Interp_finish_104 rfl ?_
    refine xv_cV0i (pc := 106) (c_Frame_top (n := n) f5 (by rw [hs.2.2, hn]) (by omega)) m_Frame_top l_Interp_126 d_Interp_finish_106 (by omega) (by decide : 1 < xv_nc) rfl f5.1 (Nat.le_of_ble_eq_true rfl) ⟨Nat.le_refl _, Nat.le_refl _⟩ (fun r w hw hN hS => ?_)
    obtain ⟨hr, hw⟩ := hw
    have hr : r = xTp σ := by rw [hr, hs.2.1 n (by omega)]; unfold xTp; rw [hn]; rfl
    subst hr
    subst hw
    refine xv_ast (pc := 109) d_Interp_finish_109 f5.2.2.2.1 (by rw [f5.2.2.2.2.1]; exact vp_in_nI hv (by decide)) ?_
    refine xv_goto (pc := 110) 150 d_Interp_finish_110 (by decide) ?_
    rw [hcv]
    obtain ⟨g2, s2⟩ := xFs_sv (v := v) (x := xTp σ) hs
    exact xv_retvq (pc := 150) d_Interp_finish_150 rfl s2.1 s2.2.1 ⟨rfl, by unfold xFin; rw [if_neg (by decide), if_neg (by decide), if_neg (by decide), if_pos rfl, hcv]; exact g2, s2⟩
  have ho2 : 2 ≤ o ∧ o < 12 := by clear qv; omega
  have h2 := q2 (by omega)
  clear qv
  have e17 : ¬ o = 17 := by omega
  obtain ⟨n, hn⟩ : ∃ n, σ.2.2 = n + 1 := ⟨σ.2.2 - 1, by omega⟩
  obtain ⟨m, hm⟩ : ∃ m, n = m + 1 := ⟨n - 1, by omega⟩
  refine xv_lookTo (pc := 9) 127 [0, 1, 12, 15, 17] d_Interp_finish_9 (by decide) (by decide) (by decide) (List.forall_mem_cons.mpr ⟨nI_neT (by omega) e0, (List.forall_mem_cons.mpr ⟨nI_neT (by omega) e1, (List.forall_mem_cons.mpr ⟨nI_neT (by omega) e12, (List.forall_mem_cons.mpr ⟨nI_neT (by omega) e15, (List.forall_mem_cons.mpr ⟨nI_neT (by omega) e17, (fun _ h => absurd h List.not_mem_nil)⟩)⟩)⟩)⟩)⟩) ?_
  refine xv_aload (pc := 127) d_Interp_finish_127 rfl ?_
  refine xv_cV0i (pc := 129) (c_Frame_pop (n := n) f5 (by rw [hs.2.2, hn]) (by omega)) m_Frame_pop l_Interp_69 d_Interp_finish_129 (by omega) (by decide : 1 < xv_nc) rfl f5.1 (Nat.le_of_ble_eq_true rfl) ⟨Nat.le_refl _, Nat.le_refl _⟩ (fun r w hw hN hS => ?_)
  obtain ⟨hr, hw⟩ := hw
  have hr : r = xTp σ := by rw [hr, hs.2.1 n (by omega)]; unfold xTp; rw [hn]; rfl
  subst hr
  obtain ⟨g1, s1⟩ := xFs_po hs hn hw
  clear hw
  have F1 := xSi_Fr s1 f5
  have n1 : (xPo σ).2.2 = n := by show σ.2.2 - 1 = n; omega
  refine xv_istore_5 (pc := 132) d_Interp_finish_132 (by decide) rfl ?_
  refine xv_aload (pc := 134) d_Interp_finish_134 rfl ?_
  refine xv_iload_n (pc := 136) d_Interp_finish_136 rfl rfl ?_
  refine xv_aload (pc := 137) d_Interp_finish_137 rfl ?_
  refine xv_cV0i (pc := 139) (c_Frame_pop (u := w) (n := m) F1 (by rw [g1.2.2, n1, hm]) (by omega)) m_Frame_pop l_Interp_69 d_Interp_finish_139 (by omega) (by decide : 1 < xv_nc) rfl F1.1 (Nat.le_of_ble_eq_true rfl) (xSi_le s1) (fun r w2 hw hN hS => ?_)
  obtain ⟨hr, hw⟩ := hw
  have hr : r = xTp (xPo σ) := by rw [hr, g1.2.1 m (by omega)]; unfold xTp; rw [n1, hm]; rfl
  subst hr
  obtain ⟨g2, s2⟩ := xFs_po g1 (n1.trans hm) hw
  clear hw
  have s3 := xSi_tr s1 s2
  have F2 := xSi_Fr s3 f5
  have n2 : (xPo (xPo σ)).2.2 = m := by show (xPo σ).2.2 - 1 = m; omega
  refine xv_iload (pc := 142) d_Interp_finish_142 rfl ?_
  refine xv_cS3i (pc := 144) (c_Ints_reckon (u := w2) ho2.1 ho2.2 hz) m_Ints_reckon l_Interp_132 d_Interp_finish_144 (by omega) (Nat.le_of_ble_eq_true rfl) (xSi_le s3) (fun r w3 hw hN hS => ?_)
  obtain ⟨hr, hw⟩ := hw
  subst hr
  subst hw
  refine xv_cV1v (pc := 147) (c_Frame_push (n := m) F2 (by rw [g2.2.2, n2]) (by omega)) m_Frame_push l_Interp_123 d_Interp_finish_147 (by omega) (by decide : 1 < xv_nc) rfl F2.1 (Nat.le_of_ble_eq_true rfl) (xSi_le s3) (fun w4 hw hN hS => ?_)
  rw [← n2] at hw
  obtain ⟨g3, s4⟩ := xFs_pu g2 hw
  have s5 := xSi_tr s3 s4
  exact xv_retvq (pc := 150) d_Interp_finish_150 rfl s5.1 s5.2.1 ⟨rfl, by unfold xFin; rw [if_neg e0, if_neg e1, if_neg e12, if_neg e15]; exact g3, s5⟩

