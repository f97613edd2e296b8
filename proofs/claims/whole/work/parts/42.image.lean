/-! memories that differ in ints of some cells; a frame's content: variables, values, how many -/
def xSi (S : Nat → Prop) (u w : xv_M) : Prop := xv_N w = xv_N u ∧ xv_S w = xv_S u ∧ xv_k w = xv_k u ∧ xv_l w = xv_l u ∧ xv_r w = xv_r u ∧ xv_g w = xv_g u ∧ ∀ a, ¬ S a → xv_i w a = xv_i u a
theorem xSi_rf {S : Nat → Prop} {u : xv_M} : xSi S u u := ⟨rfl, rfl, rfl, rfl, rfl, rfl, fun _ _ => rfl⟩
theorem xSi_tr {S : Nat → Prop} {u v w : xv_M} (h : xSi S u v) (g : xSi S v w) : xSi S u w := by
  obtain ⟨a1, a2, a3, a4, a5, a6, a7⟩ := h
  obtain ⟨b1, b2, b3, b4, b5, b6, b7⟩ := g
  exact ⟨b1.trans a1, b2.trans a2, b3.trans a3, b4.trans a4, b5.trans a5, b6.trans a6, fun a ha => (b7 a ha).trans (a7 a ha)⟩
theorem xSi_mono {S S' : Nat → Prop} {u w : xv_M} (h : xSi S u w) (hS : ∀ a, S a → S' a) : xSi S' u w := by
  obtain ⟨a1, a2, a3, a4, a5, a6, a7⟩ := h
  exact ⟨a1, a2, a3, a4, a5, a6, fun a ha => a7 a (fun z => ha (hS a z))⟩
theorem xSi_si {S : Nat → Prop} {u : xv_M} {a j : Nat} {v : Int32} (ha : S a) : xSi S u (xv_si u a j v) := ⟨rfl, rfl, rfl, rfl, rfl, rfl, fun b hb => funext fun q => xv_si_ne (fun e => hb (by rw [e]; exact ha))⟩
theorem xSi_sw {S : Nat → Prop} {u : xv_M} {a : Nat} {f : Nat → Int32} (ha : S a) : xSi S u (xv_sw u a f) := ⟨rfl, rfl, rfl, rfl, rfl, rfl, fun b hb => funext fun q => xv_sw_ne (fun e => hb (by rw [e]; exact ha))⟩
theorem xSi_le {S : Nat → Prop} {u w : xv_M} (h : xSi S u w) : xv_N w ≤ xv_N u ∧ xv_S w ≤ xv_S u := ⟨Nat.le_of_eq h.1, Nat.le_of_eq h.2.1⟩
theorem xSi_Fr {S : Nat → Prop} {u w : xv_M} {h v s : Nat} (g : xSi S u w) (hF : xv_Fr u h v s) : xv_Fr w h v s := by
  obtain ⟨a1, a2, a3, a4, a5, a6, a7⟩ := g
  unfold xv_Fr
  rw [a3, a4, a5]
  exact hF
theorem xSi_Co {S : Nat → Prop} {u w : xv_M} {h o f g : Nat} (z : xSi S u w) (hF : xv_Co u h o f g) : xv_Co w h o f g := by
  obtain ⟨a1, a2, a3, a4, a5, a6, a7⟩ := z
  unfold xv_Co
  rw [a3, a4, a5]
  exact hF
abbrev xZ : Type := (Nat → Int32) × (Nat → Int32) × Nat
def xFs (w : xv_M) (h : Nat) (σ : xZ) : Prop := (∀ q, q < 7 → xv_i w (h + 1) q = σ.1 q) ∧ (∀ q, q < σ.2.2 → xv_i w (h + 2) q = σ.2.1 q) ∧ xv_i w h 2 = nI σ.2.2
def xFS (h b : Nat) : Prop := b = h ∨ b = h + 1 ∨ b = h + 2
def xPu (σ : xZ) (x : Int32) : xZ := (σ.1, upd σ.2.1 σ.2.2 x, σ.2.2 + 1)
def xPo (σ : xZ) : xZ := (σ.1, σ.2.1, σ.2.2 - 1)
def xTp (σ : xZ) : Int32 := σ.2.1 (σ.2.2 - 1)
theorem xFs_pu {u : xv_M} {h : Nat} {σ : xZ} {x : Int32} (hs : xFs u h σ) {w : xv_M} (hw : w = xv_si (xv_si u (h + 2) σ.2.2 x) h 2 (nI (σ.2.2 + 1))) : xFs w h (xPu σ x) ∧ xSi (xFS h) u w := by
  subst hw
  obtain ⟨g1, g2, g3⟩ := hs
  refine ⟨⟨fun q hq => ?_, fun q hq => ?_, xv_si_eq⟩, xSi_tr (xSi_si (Or.inr (Or.inr rfl))) (xSi_si (Or.inl rfl))⟩
  · rw [xv_si_ne (by omega), xv_si_ne (by omega)]; exact g1 q hq
  · rw [xv_si_ne (by omega)]
    by_cases e : q = σ.2.2
    · subst e
      rw [xv_si_eq]
      exact pk_us.symm
    · have hq : q < σ.2.2 + 1 := hq
      rw [xv_si_nj e, g2 q (by omega)]
      exact (pk_un e).symm
theorem xFs_po {u : xv_M} {h n : Nat} {σ : xZ} (hs : xFs u h σ) (hn : σ.2.2 = n + 1) {w : xv_M} (hw : w = xv_si u h 2 (nI n)) : xFs w h (xPo σ) ∧ xSi (xFS h) u w := by
  subst hw
  obtain ⟨g1, g2, g3⟩ := hs
  refine ⟨⟨fun q hq => ?_, fun q hq => ?_, ?_⟩, xSi_si (Or.inl rfl)⟩
  · rw [xv_si_ne (by omega)]; exact g1 q hq
  · have hq : q < σ.2.2 - 1 := hq
    rw [xv_si_ne (by omega)]; exact g2 q (by omega)
  · rw [xv_si_eq]
    show nI n = nI (σ.2.2 - 1)
    rw [hn]
    rfl
/-! Image.rework -/
def xRw (o : Nat) (σ : xZ) : xZ :=
  if o = 21 then σ else if o = 12 then xPu (xPo σ) (-xTp σ) else if o = 18 then xPo σ
  else if o = 19 then xPu (xPu (xPo σ) (xTp σ)) (xTp σ) else if o = 20 then xPu (xPu (xPo (xPo σ)) (xTp σ)) (xTp (xPo σ))
  else xPu (xPo (xPo σ)) (xOp o (xTp (xPo σ)) (xTp σ))
def xRo (o : Nat) : Prop := (2 ≤ o ∧ o ≤ 12) ∨ (18 ≤ o ∧ o ≤ 21)
def xRk (o : Nat) (n : Nat) : Prop := (o ≤ 11 → 2 ≤ n) ∧ (o = 12 → 1 ≤ n) ∧ (o = 18 → 1 ≤ n) ∧ (o = 19 → 1 ≤ n ∧ n < 42) ∧ (o = 20 → 2 ≤ n) ∧ n ≤ 42
theorem c_Image_rework {sc : Nat × (Nat → Int32)} {u : xv_M} {h o : Nat} {σ : xZ} (hF : xv_Fr u h (h + 1) (h + 2)) (hs : xFs u h σ) (ho : xRo o) (hk : xRk o σ.2.2) (hz : o = 5 ∨ o = 6 → ¬ xTp σ = 0) : xv_C sc 2 J_Image_rework [.int (nI o), .ref h] u (xv_N u) (xv_S u) (xv_pv (fun w => xFs w h (xRw o σ) ∧ xSi (xFS h) u w)) := by
  obtain ⟨q1, q2, q3, q4, q5, q6⟩ := hk
  have hT : (nI o = 21) ↔ o = 21 := nI_eq (b := 21) (by unfold xRo at ho; omega) (by decide)
  refine xv_C_of (by decide) (Nat.le_refl _) (Nat.le_refl _) (xv_cat1 rfl) (Nat.le_of_ble_eq_true rfl) ?_
  show xv_X sc 2 J_Image_rework 0 [some (.int (nI o)), some (.ref h), none, none] [] u (xv_N u) (xv_S u) _
  refine xv_iload_n (pc := 0) d_Image_rework_0 rfl rfl ?_
  refine xv_bipush (pc := 1) 21 d_Image_rework_1 (by decide) ?_
  refine xv_icmp_ne (pc := 3) 7 d_Image_rework_3 (by decide) (fun h3 => ?_) (fun h3 => ?_)
  case refine_2 =>
    have e := hT.mp h3
    exact xv_retvq (pc := 6) d_Image_rework_6 rfl rfl rfl ⟨rfl, by unfold xRw; rw [if_pos e]; exact hs, xSi_rf⟩
  have e21 : ¬ o = 21 := fun e => h3 (hT.mpr e)
  have h1 : 1 ≤ σ.2.2 := by unfold xRo at ho; omega
  obtain ⟨n, hn⟩ : ∃ n, σ.2.2 = n + 1 := ⟨σ.2.2 - 1, by omega⟩
  refine xv_aload_n (pc := 7) d_Image_rework_7 rfl rfl ?_
  refine xv_cV0i (pc := 8) (c_Frame_pop (n := n) hF (by rw [hs.2.2, hn]) (by omega)) m_Frame_pop l_Image_72 d_Image_rework_8 (by omega) (by decide : 1 < xv_nc) rfl hF.1 (Nat.le_of_ble_eq_true rfl) ⟨Nat.le_refl _, Nat.le_refl _⟩ (fun r w hw hN hS => ?_)
  obtain ⟨hr, hw⟩ := hw
  have hr : r = xTp σ := by rw [hr, hs.2.1 n (by omega)]; unfold xTp; rw [hn]; rfl
  subst hr
  obtain ⟨f1, s1⟩ := xFs_po hs hn hw
  clear hw
  have F1 := xSi_Fr s1 hF
  have n1 : (xPo σ).2.2 = n := by show σ.2.2 - 1 = n; omega
  refine xv_istore_2 (pc := 11) d_Image_rework_11 (by decide) rfl ?_
  refine xv_iload_n (pc := 12) d_Image_rework_12 rfl rfl ?_
  by_cases e12 : o = 12
  · subst e12
    refine xv_tableIn (pc := 13) (off := 51) 64 d_Image_rework_13 (by decide) (by decide) (by decide) (by decide) ?_
    refine xv_aload_n (pc := 64) d_Image_rework_64 rfl rfl ?_
    refine xv_iload_n (pc := 65) d_Image_rework_65 rfl rfl ?_
    refine xv_ineg (pc := 66) d_Image_rework_66 ?_
    refine xv_cV1v (pc := 67) (c_Frame_push (u := w) (n := n) F1 (by rw [f1.2.2, n1]) (by omega)) m_Frame_push l_Image_79 d_Image_rework_67 (by omega) (by decide : 1 < xv_nc) rfl F1.1 (Nat.le_of_ble_eq_true rfl) (xSi_le s1) (fun w2 hw hN hS => ?_)
    rw [← n1] at hw
    obtain ⟨f2, s2⟩ := xFs_pu f1 hw
    have s3 := xSi_tr s1 s2
    refine xv_goto (pc := 70) 120 d_Image_rework_70 (by decide) ?_
    exact xv_retvq (pc := 120) d_Image_rework_120 rfl s3.1 s3.2.1 ⟨rfl, f2, s3⟩
  by_cases e18 : o = 18
  · subst e18
    refine xv_tableIn (pc := 13) (off := 60) 73 d_Image_rework_13 (by decide) (by decide) (by decide) (by decide) ?_
    refine xv_goto (pc := 73) 120 d_Image_rework_73 (by decide) ?_
    exact xv_retvq (pc := 120) d_Image_rework_120 rfl s1.1 s1.2.1 ⟨rfl, f1, s1⟩
  by_cases e19 : o = 19
  · subst e19
    have hn42 := (q4 rfl).2
    refine xv_tableIn (pc := 13) (off := 63) 76 d_Image_rework_13 (by decide) (by decide) (by decide) (by decide) ?_
    refine xv_aload_n (pc := 76) d_Image_rework_76 rfl rfl ?_
    refine xv_iload_n (pc := 77) d_Image_rework_77 rfl rfl ?_
    refine xv_cV1v (pc := 78) (c_Frame_push (u := w) (n := n) (x := xTp σ) F1 (by rw [f1.2.2, n1]) (by omega)) m_Frame_push l_Image_79 d_Image_rework_78 (by omega) (by decide : 1 < xv_nc) rfl F1.1 (Nat.le_of_ble_eq_true rfl) (xSi_le s1) (fun w2 hw hN hS => ?_)
    rw [← n1] at hw
    obtain ⟨f2, s2⟩ := xFs_pu f1 hw
    clear hw
    have s3 := xSi_tr s1 s2
    have F2 := xSi_Fr s3 hF
    have n2 : (xPu (xPo σ) (xTp σ)).2.2 = n + 1 := by show (xPo σ).2.2 + 1 = n + 1; omega
    refine xv_aload_n (pc := 81) d_Image_rework_81 rfl rfl ?_
    refine xv_iload_n (pc := 82) d_Image_rework_82 rfl rfl ?_
    refine xv_cV1v (pc := 83) (c_Frame_push (u := w2) (n := n + 1) (x := xTp σ) F2 (by rw [f2.2.2, n2]) (by omega)) m_Frame_push l_Image_79 d_Image_rework_83 (by omega) (by decide : 1 < xv_nc) rfl F2.1 (Nat.le_of_ble_eq_true rfl) (xSi_le s3) (fun w3 hw hN hS => ?_)
    rw [← n2] at hw
    obtain ⟨f3, s4⟩ := xFs_pu f2 hw
    have s5 := xSi_tr s3 s4
    refine xv_goto (pc := 86) 120 d_Image_rework_86 (by decide) ?_
    exact xv_retvq (pc := 120) d_Image_rework_120 rfl s5.1 s5.2.1 ⟨rfl, f3, s5⟩
  by_cases e20 : o = 20
  · subst e20
    obtain ⟨m, hm⟩ : ∃ m, n = m + 1 := ⟨n - 1, by have := q5 rfl; omega⟩
    refine xv_tableIn (pc := 13) (off := 76) 89 d_Image_rework_13 (by decide) (by decide) (by decide) (by decide) ?_
    refine xv_aload_n (pc := 89) d_Image_rework_89 rfl rfl ?_
    refine xv_cV0i (pc := 90) (c_Frame_pop (u := w) (n := m) F1 (by rw [f1.2.2, n1, hm]) (by omega)) m_Frame_pop l_Image_72 d_Image_rework_90 (by omega) (by decide : 1 < xv_nc) rfl F1.1 (Nat.le_of_ble_eq_true rfl) (xSi_le s1) (fun r w2 hw hN hS => ?_)
    obtain ⟨hr, hw⟩ := hw
    have hr : r = xTp (xPo σ) := by rw [hr, f1.2.1 m (by omega)]; unfold xTp; rw [n1, hm]; rfl
    subst hr
    obtain ⟨f2, s2⟩ := xFs_po f1 (n1.trans hm) hw
    clear hw
    have s3 := xSi_tr s1 s2
    have F2 := xSi_Fr s3 hF
    have n2 : (xPo (xPo σ)).2.2 = m := by show (xPo σ).2.2 - 1 = m; omega
    refine xv_istore_3 (pc := 93) d_Image_rework_93 (by decide) rfl ?_
    refine xv_aload_n (pc := 94) d_Image_rework_94 rfl rfl ?_
    refine xv_iload_n (pc := 95) d_Image_rework_95 rfl rfl ?_
    refine xv_cV1v (pc := 96) (c_Frame_push (u := w2) (n := m) (x := xTp σ) F2 (by rw [f2.2.2, n2]) (by omega)) m_Frame_push l_Image_79 d_Image_rework_96 (by omega) (by decide : 1 < xv_nc) rfl F2.1 (Nat.le_of_ble_eq_true rfl) (xSi_le s3) (fun w3 hw hN hS => ?_)
    rw [← n2] at hw
    obtain ⟨f3, s4⟩ := xFs_pu f2 hw
    clear hw
    have s5 := xSi_tr s3 s4
    have F3 := xSi_Fr s5 hF
    have n3 : (xPu (xPo (xPo σ)) (xTp σ)).2.2 = m + 1 := by show (xPo (xPo σ)).2.2 + 1 = m + 1; omega
    refine xv_aload_n (pc := 99) d_Image_rework_99 rfl rfl ?_
    refine xv_iload_n (pc := 100) d_Image_rework_100 rfl rfl ?_
    refine xv_cV1v (pc := 101) (c_Frame_push (u := w3) (n := m + 1) (x := xTp (xPo σ)) F3 (by rw [f3.2.2, n3]) (by omega)) m_Frame_push l_Image_79 d_Image_rework_101 (by omega) (by decide : 1 < xv_nc) rfl F3.1 (Nat.le_of_ble_eq_true rfl) (xSi_le s5) (fun w4 hw hN hS => ?_)
    rw [← n3] at hw
    obtain ⟨f4, s6⟩ := xFs_pu f3 hw
    have s7 := xSi_tr s5 s6
    refine xv_goto (pc := 104) 120 d_Image_rework_104 (by decide) ?_
    exact xv_retvq (pc := 120) d_Image_rework_120 rfl s7.1 s7.2.1 ⟨rfl, f4, s7⟩
  have ho2 : 2 ≤ o ∧ o < 12 := by unfold xRo at ho; omega
  obtain ⟨m, hm⟩ : ∃ m, n = m + 1 := ⟨n - 1, by have := q1 (by omega); omega⟩
  refine xv_tableTo (pc := 13) 107 [12, 18, 19, 20] d_Image_rework_13 (by decide) (by decide) (by decide) (List.forall_mem_cons.mpr ⟨nI_neT (by omega) e12, (List.forall_mem_cons.mpr ⟨nI_neT (by omega) e18, (List.forall_mem_cons.mpr ⟨nI_neT (by omega) e19, (List.forall_mem_cons.mpr ⟨nI_neT (by omega) e20, (fun _ h => absurd h List.not_mem_nil)⟩)⟩)⟩)⟩) ?_
  refine xv_aload_n (pc := 107) d_Image_rework_107 rfl rfl ?_
  refine xv_iload_n (pc := 108) d_Image_rework_108 rfl rfl ?_
  refine xv_aload_n (pc := 109) d_Image_rework_109 rfl rfl ?_
  refine xv_cV0i (pc := 110) (c_Frame_pop (u := w) (n := m) F1 (by rw [f1.2.2, n1, hm]) (by omega)) m_Frame_pop l_Image_72 d_Image_rework_110 (by omega) (by decide : 1 < xv_nc) rfl F1.1 (Nat.le_of_ble_eq_true rfl) (xSi_le s1) (fun r w2 hw hN hS => ?_)
  obtain ⟨hr, hw⟩ := hw
  have hr : r = xTp (xPo σ) := by rw [hr, f1.2.1 m (by omega)]; unfold xTp; rw [n1, hm]; rfl
  subst hr
  obtain ⟨f2, s2⟩ := xFs_po f1 (n1.trans hm) hw
  clear hw
  have s3 := xSi_tr s1 s2
  have F2 := xSi_Fr s3 hF
  have n2 : (xPo (xPo σ)).2.2 = m := by show (xPo σ).2.2 - 1 = m; omega
  refine xv_iload_n (pc := 113) d_Image_rework_113 rfl rfl ?_
  refine xv_cS3i (pc := 114) (c_Ints_reckon (u := w2) ho2.1 ho2.2 hz) m_Ints_reckon l_Image_102 d_Image_rework_114 (by omega) (Nat.le_of_ble_eq_true rfl) (xSi_le s3) (fun r w3 hw hN hS => ?_)
  obtain ⟨hr, hw⟩ := hw
  subst hr
  subst hw
  refine xv_cV1v (pc := 117) (c_Frame_push (n := m) F2 (by rw [f2.2.2, n2]) (by omega)) m_Frame_push l_Image_79 d_Image_rework_117 (by omega) (by decide : 1 < xv_nc) rfl F2.1 (Nat.le_of_ble_eq_true rfl) (xSi_le s3) (fun w4 hw hN hS => ?_)
  rw [← n2] at hw
  obtain ⟨f3, s4⟩ := xFs_pu f2 hw
  have s5 := xSi_tr s3 s4
  exact xv_retvq (pc := 120) d_Image_rework_120 rfl s5.1 s5.2.1 ⟨rfl, by unfold xRw; rw [if_neg e21, if_neg e12, if_neg e18, if_neg e19, if_neg e20]; exact f3, s5⟩

