/-! the model: relate -/
theorem nI_sub1 {a b : Nat} (h : a = b + 1) : nI a - 1 = nI b := by rw [h]; exact nI_pred _
theorem nI_sub2 {a b : Nat} (h : a = b + 2) : nI a - 2 = nI b := by
  rw [h, show (2 : Int32) = nI 2 from rfl, ← nI_add]
  exact Int32.add_sub_cancel _ _
abbrev xRh : Type := Nat × (Nat → Nat) × (Nat → Nat) × (Nat → Int32) × (Nat → Nat)
/-- the forms that still want parts: how many, their places, how many parts each has; above whom each token stands, as which part -/
def xR0 (k : Nat) (ρ : xRh) (d : Nat) (sg : Nat → Nat) (up : Int32) (pt : Nat) (m : Nat) : xRh := if 0 < m then (d + 1, xPt ρ.2.1 d k, xPt sg d 0, xPt ρ.2.2.2.1 k up, xPt ρ.2.2.2.2 k pt) else (d, ρ.2.1, sg, xPt ρ.2.2.2.1 k up, xPt ρ.2.2.2.2 k pt)
def xR1 (O : Nat → Nat) (k : Nat) (ρ : xRh) : xRh :=
  if ρ.1 = 0 then xR0 k ρ 0 ρ.2.2.1 (-1) 0 (xPa (O k))
  else xR0 k ρ (if ρ.2.2.1 (ρ.1 - 1) + 1 = xPa (O (ρ.2.1 (ρ.1 - 1))) then ρ.1 - 1 else ρ.1) (xPt ρ.2.2.1 (ρ.1 - 1) (ρ.2.2.1 (ρ.1 - 1) + 1)) (nI (ρ.2.1 (ρ.1 - 1))) (ρ.2.2.1 (ρ.1 - 1) + 1) (xPa (O k))
def xRl (O : Nat → Nat) : Nat → xRh
  | 0 => (0, fun _ => 0, fun _ => 0, fun _ => 0, fun _ => 0)
  | k + 1 => xR1 O k (xRl O k)
def xRok (O : Nat → Nat) (n : Nat) : Prop := 0 < n ∧ (xRl O n).1 = 0 ∧ ∀ k, k < n → 0 < k → ¬ (xRl O k).1 = 0
/-- how the memory stands with them -/
def xRm4 (w : xv_M) (M k : Nat) (ρ : xRh) : Prop := (∀ q, q < ρ.1 → xv_i w (M + 27) q = nI (ρ.2.1 q)) ∧ (∀ q, q < ρ.1 → xv_i w (M + 28) q = nI (ρ.2.2.1 q)) ∧ (∀ q, q < k → xv_i w (M + 5) q = ρ.2.2.2.1 q) ∧ (∀ q, q < k → xv_i w (M + 6) q = nI (ρ.2.2.2.2 q))
def xRS (M b : Nat) : Prop := b = M + 5 ∨ b = M + 6 ∨ b = M + 27 ∨ b = M + 28
/-- depths and stages stay within bounds -/
def xRg4 (O : Nat → Nat) (k : Nat) (ρ : xRh) : Prop := ρ.1 ≤ k ∧ (∀ q, q < ρ.1 → ρ.2.1 q < k) ∧ (∀ q, q < ρ.1 → ρ.2.2.1 q < xPa (O (ρ.2.1 q)))
theorem xR1_g {O : Nat → Nat} {k : Nat} {ρ : xRh} (h : xRg4 O k ρ) : xRg4 O (k + 1) (xR1 O k ρ) := by
  obtain ⟨h1, h2, h3⟩ := h
  have key : ∀ (d : Nat) (sg : Nat → Nat) (up : Int32) (pt : Nat), d ≤ ρ.1 → (∀ q, q < d → sg q < xPa (O (ρ.2.1 q))) → xRg4 O (k + 1) (xR0 k ρ d sg up pt (xPa (O k))) := by
    intro d sg up pt hd hsg
    unfold xR0
    split
    · rename_i c
      refine ⟨by show d + 1 ≤ k + 1; omega, fun q hq => ?_, fun q hq => ?_⟩
      · have hq : q < d + 1 := hq
        show xPt ρ.2.1 d k q < k + 1
        by_cases e : q = d
        · subst e; rw [xPt_eq]; omega
        · rw [xPt_ne e]; have := h2 q (by omega); omega
      · have hq : q < d + 1 := hq
        show xPt sg d 0 q < xPa (O (xPt ρ.2.1 d k q))
        by_cases e : q = d
        · subst e; rw [xPt_eq, xPt_eq]; exact c
        · rw [xPt_ne e, xPt_ne e]; exact hsg q (by omega)
    · exact ⟨by show d ≤ k + 1; omega, fun q hq => by have hq : q < d := hq; show ρ.2.1 q < k + 1; have := h2 q (by omega); omega, fun q hq => hsg q hq⟩
  unfold xR1
  by_cases e : ρ.1 = 0
  · rw [if_pos e]
    exact key 0 _ _ _ (Nat.zero_le _) (fun q hq => absurd hq (Nat.not_lt_zero q))
  · rw [if_neg e]
    have l4 := h3 (ρ.1 - 1) (by omega)
    split
    · rename_i c
      refine key _ _ _ _ (by omega) (fun q hq => ?_)
      rw [xPt_ne (by omega)]
      exact h3 q (by omega)
    · rename_i c
      refine key _ _ _ _ (Nat.le_refl _) (fun q hq => ?_)
      by_cases e2 : q = ρ.1 - 1
      · subst e2; rw [xPt_eq]; omega
      · rw [xPt_ne e2]; exact h3 q hq
theorem xRl_g (O : Nat → Nat) : ∀ k, xRg4 O k (xRl O k) := by
  intro k
  induction k with
  | zero => exact ⟨Nat.le_refl _, fun q hq => absurd hq (Nat.not_lt_zero q), fun q hq => absurd hq (Nat.not_lt_zero q)⟩
  | succ k ih => exact xR1_g ih
theorem x320 {k : Nat} : (320 : Int32) + nI k = nI (320 + k) := by rw [← nI_add]; rfl
theorem nI_le0 {n : Nat} (hn : n < 2 ^ 31) : (nI n ≤ 0) ↔ n = 0 := by
  rw [show (0 : Int32) = nI 0 from rfl, nI_leI hn (by decide)]
  omega
theorem nI_eq0 {n : Nat} (hn : n < 2 ^ 31) : (nI n = 0) ↔ n = 0 := nI_eq (b := 0) hn (by decide)
/-- the draft's tokens in the model -/
def xDm (u : xv_M) (M n : Nat) (O : Nat → Nat) (A : Nat → Int32) : Prop := xv_i u (M + 3) 8 = nI n ∧ n ≤ 40 ∧ ∀ k, k < n → xv_i u (M + 1) (320 + k) = nI (O k) ∧ O k < 18 ∧ xv_i u (M + 2) (320 + k) = A k
set_option maxHeartbeats 1000000 in
theorem c_Model_relate {sc : Nat × (Nat → Int32)} {u : xv_M} {M n : Nat} {O : Nat → Nat} {A : Nat → Int32} (hM : xMo u M) (hD : xDm u M n O A) : xv_C sc 1 J_Model_relate [.ref M] u (xv_N u) (xv_S u) (xv_pi (fun r w => xSi (xRS M) u w ∧ ((r = 1 ∧ xRok O n ∧ (∀ q, q < n → xv_i w (M + 5) q = (xRl O n).2.2.2.1 q ∧ xv_i w (M + 6) q = nI ((xRl O n).2.2.2.2 q))) ∨ (r = 0 ∧ ¬ xRok O n)))) := by
  obtain ⟨hn, hn40, htk⟩ := hD
  have e8 : (8 : Int32).toNatClampNeg = 8 := by decide
  refine xv_C_of (by decide) (Nat.le_refl _) (Nat.le_refl _) (xv_cat1 rfl) (Nat.le_of_ble_eq_true rfl) ?_
  show xv_X sc 1 J_Model_relate 0 [some (.ref M), none, none, none] [] u (xv_N u) (xv_S u) _
  have loop : ∀ (r k d : Nat) (w : xv_M), k + r = n → d = (xRl O k).1 → xSi (xRS M) u w → xRm4 w M k (xRl O k) → (∀ j, j < k → 0 < j → ¬ (xRl O j).1 = 0) → xv_X sc 1 J_Model_relate 12 [some (.ref M), some (.int (nI n)), some (.int (nI d)), some (.int (nI k))] [] w (xv_N u) (xv_S u) (xv_q (xv_N u) (xv_S u) (xv_pi (fun r w => xSi (xRS M) u w ∧ ((r = 1 ∧ xRok O n ∧ (∀ q, q < n → xv_i w (M + 5) q = (xRl O n).2.2.2.1 q ∧ xv_i w (M + 6) q = nI ((xRl O n).2.2.2.2 q))) ∨ (r = 0 ∧ ¬ xRok O n))))) := by
    intro r
    induction r with
    | zero =>
      intro k d w hk hd zw hm hpos
      have hk : k = n := by omega
      subst hk
      have hdk := (xRl_g O k).1
      rw [← hd] at hdk
      refine xv_iload_n (pc := 12) d_Model_relate_12 rfl rfl ?_
      refine xv_iload_n (pc := 13) d_Model_relate_13 rfl rfl ?_
      refine xv_icmp_ge (pc := 14) 152 d_Model_relate_14 (by decide) (fun h14 => ?_) (fun h14 => ?_)
      case refine_2 => exact absurd (Int32.le_refl _) h14
      refine xv_iload_n (pc := 152) d_Model_relate_152 rfl rfl ?_
      refine xv_if_le (pc := 153) 164 d_Model_relate_153 (by decide) (fun h153 => ?_) (fun h153 => ?_)
      · rw [nI_le0 (by omega)] at h153
        refine xv_iconst (pc := 164) 0 d_Model_relate_164 (by decide) ?_
        exact xv_retzq (pc := 165) d_Model_relate_165 rfl (by decide) zw.1 zw.2.1 ⟨_, rfl, zw, Or.inr ⟨rfl, fun q => by have := q.1; omega⟩⟩
      · rw [nI_le0 (by omega)] at h153
        refine xv_iload_n (pc := 156) d_Model_relate_156 rfl rfl ?_
        refine xv_if_ne (pc := 157) 164 d_Model_relate_157 (by decide) (fun h157 => ?_) (fun h157 => ?_)
        · rw [nI_eq0 (by omega)] at h157
          refine xv_iconst (pc := 164) 0 d_Model_relate_164 (by decide) ?_
          exact xv_retzq (pc := 165) d_Model_relate_165 rfl (by decide) zw.1 zw.2.1 ⟨_, rfl, zw, Or.inr ⟨rfl, fun q => h157 (hd.trans q.2.1)⟩⟩
        · rw [nI_eq0 (by omega)] at h157
          refine xv_iconst (pc := 160) 1 d_Model_relate_160 (by decide) ?_
          refine xv_goto (pc := 161) 165 d_Model_relate_161 (by decide) ?_
          exact xv_retzq (pc := 165) d_Model_relate_165 rfl (by decide) zw.1 zw.2.1 ⟨_, rfl, zw, Or.inl ⟨rfl, ⟨by omega, by rw [← hd]; exact h157, hpos⟩, fun q hq => ⟨hm.2.2.1 q hq, hm.2.2.2 q hq⟩⟩⟩
    | succ r ih =>
      intro k d w hk hd zw hm hpos
      have hg := xRl_g O k
      have hdk := hg.1
      rw [← hd] at hdk
      have hMw := xSi_Mo zw hM
      have hck : (nI k).toNatClampNeg = k := nI_clamp (by omega)
      have ik : vp_in (nI k) 40 := vp_in_nI (by omega) (by decide)
      have es : nI k + Int32.ofInt 1 = nI (k + 1) := by rw [nI_succ]; rfl
      have ow : ∀ q, xv_i w (M + 1) q = xv_i u (M + 1) q := fun q => by rw [zw.2.2.2.2.2.2 _ (fun z => by unfold xRS at z; omega)]
      obtain ⟨m1, m2, m3, m4⟩ := hm
      have stay : ¬ (0 < k ∧ d = 0) → (∀ j, j < k + 1 → 0 < j → ¬ (xRl O j).1 = 0) := fun h j hj h0 => by
        by_cases c : j = k
        · subst c; rw [← hd]; exact fun q => h ⟨h0, q⟩
        · exact hpos j (by omega) h0
      have go27 : ¬ (0 < k ∧ d = 0) → xv_X sc 1 J_Model_relate 27 [some (.ref M), some (.int (nI n)), some (.int (nI d)), some (.int (nI k))] [] w (xv_N u) (xv_S u) (xv_q (xv_N u) (xv_S u) (xv_pi (fun r w => xSi (xRS M) u w ∧ ((r = 1 ∧ xRok O n ∧ (∀ q, q < n → xv_i w (M + 5) q = (xRl O n).2.2.2.1 q ∧ xv_i w (M + 6) q = nI ((xRl O n).2.2.2.2 q))) ∨ (r = 0 ∧ ¬ xRok O n))))) := by
        intro hnz
        have hstay := stay hnz
        -- the last stretch: from 113, the row's parts
        have end113 : ∀ (d1 : Nat) (sg : Nat → Nat) (up : Int32) (pt : Nat) (w1 : xv_M), xRl O (k + 1) = xR0 k (xRl O k) d1 sg up pt (xPa (O k)) → d1 ≤ d → xSi (xRS M) u w1 → (∀ q, q < d1 → xv_i w1 (M + 27) q = nI ((xRl O k).2.1 q)) → (∀ q, q < d1 → xv_i w1 (M + 28) q = nI (sg q)) → (∀ q, q < k + 1 → xv_i w1 (M + 5) q = xPt (xRl O k).2.2.2.1 k up q) → (∀ q, q < k + 1 → xv_i w1 (M + 6) q = nI (xPt (xRl O k).2.2.2.2 k pt q)) → xv_X sc 1 J_Model_relate 113 [some (.ref M), some (.int (nI n)), some (.int (nI d1)), some (.int (nI k))] [] w1 (xv_N u) (xv_S u) (xv_q (xv_N u) (xv_S u) (xv_pi (fun r w => xSi (xRS M) u w ∧ ((r = 1 ∧ xRok O n ∧ (∀ q, q < n → xv_i w (M + 5) q = (xRl O n).2.2.2.1 q ∧ xv_i w (M + 6) q = nI ((xRl O n).2.2.2.2 q))) ∨ (r = 0 ∧ ¬ xRok O n))))) := by
          intro d1 sg up pt w1 hx hd1 z1 b1 b2 b3 b4
          have hM1 := xSi_Mo z1 hM
          have ow1 : ∀ q, xv_i w1 (M + 1) q = xv_i u (M + 1) q := fun q => by rw [z1.2.2.2.2.2.2 _ (fun z => by unfold xRS at z; omega)]
          obtain ⟨tO, tO18, tA⟩ := htk k (by omega)
          have hP3 := xPa_3 (O k)
          have ed : nI d1 + Int32.ofInt 1 = nI (d1 + 1) := by rw [nI_succ]; rfl
          have hcd : (nI d1).toNatClampNeg = d1 := nI_clamp (by omega)
          have idd : vp_in (nI d1) 48 := vp_in_nI (by omega) (by decide)
          unfold xR0 at hx
          refine xv_aload_n (pc := 113) d_Model_relate_113 rfl rfl ?_
          refine xv_getR (pc := 114) d_Model_relate_114 f_Model_7 rfl hM1.1 (xm_r0 hM1) ?_
          refine xv_sipush (pc := 117) 320 d_Model_relate_117 (by decide) ?_
          refine xv_iload_n (pc := 120) d_Model_relate_120 rfl rfl ?_
          refine xv_iadd (pc := 121) d_Model_relate_121 ?_
          refine xv_ald (pc := 122) d_Model_relate_122 (xm_k0 hM1) (by rw [x320]; exact xm_i0 hM1 (vp_in_nI (by omega) (by decide))) ?_
          rw [x320, nI_clamp (by omega), ow1, tO]
          refine xv_cS1i (pc := 123) (d1 := 0) (c_Model_parts tO18) m_Model_parts l_Model_110 d_Model_relate_123 (by omega) (Nat.le_of_ble_eq_true rfl) (xSi_le z1) (fun r2 w2 hw hN hS => ?_)
          obtain ⟨hr, hw⟩ := hw
          subst w2
          subst hr
          refine xv_if_le (pc := 126) 146 d_Model_relate_126 (by decide) (fun h126 => ?_) (fun h126 => ?_)
          · rw [nI_le0 (by omega)] at h126
            rw [if_neg (by omega)] at hx
            refine xv_iinc_3 (pc := 146) (nI (k + 1)) d_Model_relate_146 es (by decide) rfl ?_
            refine xv_goto (pc := 149) 12 d_Model_relate_149 (by decide) ?_
            exact ih (k + 1) d1 w1 (by omega) (by rw [hx]) z1 (by rw [hx]; exact ⟨b1, b2, b3, b4⟩) hstay
          · rw [nI_le0 (by omega)] at h126
            rw [if_pos (by omega)] at hx
            refine xv_aload_n (pc := 129) d_Model_relate_129 rfl rfl ?_
            refine xv_getR (pc := 130) d_Model_relate_130 f_Model_89 rfl hM1.1 (xm_r26 hM1) ?_
            refine xv_iload_n (pc := 133) d_Model_relate_133 rfl rfl ?_
            refine xv_iload_n (pc := 134) d_Model_relate_134 rfl rfl ?_
            refine xv_ast (pc := 135) d_Model_relate_135 (xm_k26 hM1) (xm_i26 hM1 idd) ?_
            refine xv_aload_n (pc := 136) d_Model_relate_136 rfl rfl ?_
            refine xv_getR (pc := 137) d_Model_relate_137 f_Model_92 rfl hM1.1 (xm_r27 hM1) ?_
            refine xv_iload_n (pc := 140) d_Model_relate_140 rfl rfl ?_
            refine xv_iinc_2 (pc := 141) (nI (d1 + 1)) d_Model_relate_141 ed (by decide) rfl ?_
            refine xv_iconst (pc := 144) 0 d_Model_relate_144 (by decide) ?_
            refine xv_ast (pc := 145) d_Model_relate_145 (xm_k27 hM1) (xm_i27 hM1 idd) ?_
            refine xv_iinc_3 (pc := 146) (nI (k + 1)) d_Model_relate_146 es (by decide) rfl ?_
            refine xv_goto (pc := 149) 12 d_Model_relate_149 (by decide) ?_
            rw [hcd]
            refine ih (k + 1) (d1 + 1) _ (by omega) (by rw [hx]) (xSi_tr z1 (xSi_tr (xSi_si (Or.inr (Or.inr (Or.inl rfl)))) (xSi_si (Or.inr (Or.inr (Or.inr rfl)))))) ?_ hstay
            rw [hx]
            refine ⟨fun q hq => ?_, fun q hq => ?_, fun q hq => ?_, fun q hq => ?_⟩
            · have hq : q < d1 + 1 := hq
              show _ = nI (xPt (xRl O k).2.1 d1 k q)
              rw [xv_si_ne (by omega), xv_si_if]
              by_cases c : q = d1
              · subst c; rw [if_pos rfl, xPt_eq]
              · rw [if_neg c, xPt_ne c]; exact b1 q (by omega)
            · have hq : q < d1 + 1 := hq
              show _ = nI (xPt sg d1 0 q)
              rw [xv_si_if]
              by_cases c : q = d1
              · subst c; rw [if_pos rfl, xPt_eq]; rfl
              · rw [if_neg c, xPt_ne c, xv_si_ne (by omega)]; exact b2 q (by omega)
            · rw [xv_si_ne (by omega), xv_si_ne (by omega)]; exact b3 q hq
            · rw [xv_si_ne (by omega), xv_si_ne (by omega)]; exact b4 q hq
        have hx1 : xRl O (k + 1) = xR1 O k (xRl O k) := rfl
        unfold xR1 at hx1
        rw [← hd] at hx1
        rw [← hd] at m1 m2
        by_cases hd0 : d = 0
        · subst hd0
          rw [if_pos rfl] at hx1
          refine xv_aload_n (pc := 27) d_Model_relate_27 rfl rfl ?_
          refine xv_getR (pc := 28) d_Model_relate_28 f_Model_22 rfl hMw.1 (xm_r4 hMw) ?_
          refine xv_iload_n (pc := 31) d_Model_relate_31 rfl rfl ?_
          refine xv_iload_n (pc := 32) d_Model_relate_32 rfl rfl ?_
          refine xv_if_ne (pc := 33) 40 d_Model_relate_33 (by decide) (fun h33 => ?_) (fun h33 => ?_)
          · exact absurd rfl h33
          refine xv_iconst (pc := 36) (-1) d_Model_relate_36 (by decide) ?_
          refine xv_goto (pc := 37) 48 d_Model_relate_37 (by decide) ?_
          refine xv_ast (pc := 48) d_Model_relate_48 (xm_k4 hMw) (xm_i4 hMw ik) ?_
          refine xv_aload_n (pc := 49) d_Model_relate_49 rfl rfl ?_
          refine xv_getR (pc := 50) d_Model_relate_50 f_Model_25 rfl hMw.1 (xm_r5 hMw) ?_
          refine xv_iload_n (pc := 53) d_Model_relate_53 rfl rfl ?_
          refine xv_iconst (pc := 54) 0 d_Model_relate_54 (by decide) ?_
          refine xv_ast (pc := 55) d_Model_relate_55 (xm_k5 hMw) (xm_i5 hMw ik) ?_
          refine xv_iload_n (pc := 56) d_Model_relate_56 rfl rfl ?_
          refine xv_if_le (pc := 57) 113 d_Model_relate_57 (by decide) (fun h57 => ?_) (fun h57 => ?_)
          case refine_2 => exact absurd (by decide) h57
          rw [hck]
          refine end113 0 _ _ _ _ hx1 (Nat.le_refl _) (xSi_tr zw (xSi_tr (xSi_si (Or.inl rfl)) (xSi_si (Or.inr (Or.inl rfl))))) (fun q hq => absurd hq (Nat.not_lt_zero q)) (fun q hq => absurd hq (Nat.not_lt_zero q)) (fun q hq => ?_) (fun q hq => ?_)
          · rw [xv_si_ne (by omega), xv_si_if]
            by_cases c : q = k
            · subst c; rw [if_pos rfl, xPt_eq]
            · rw [if_neg c, xPt_ne c]; exact m3 q (by omega)
          · rw [xv_si_if]
            by_cases c : q = k
            · subst c; rw [if_pos rfl, xPt_eq]; rfl
            · rw [if_neg c, xPt_ne c, xv_si_ne (by omega)]; exact m4 q (by omega)
        · rw [if_neg hd0] at hx1
          have ep : nI d - 1 = nI (d - 1) := nI_sub1 (by omega)
          have hcp : (nI (d - 1)).toNatClampNeg = d - 1 := nI_clamp (by omega)
          have ip : vp_in (nI (d - 1)) 48 := vp_in_nI (by omega) (by decide)
          have t27 := m1 (d - 1) (by omega)
          have t28 := m2 (d - 1) (by omega)
          have hopk := hg.2.1 (d - 1) (by omega)
          have hsg := hg.2.2 (d - 1) (by omega)
          have hP3 := xPa_3 (O ((xRl O k).2.1 (d - 1)))
          obtain ⟨tO, tO18, tA⟩ := htk ((xRl O k).2.1 (d - 1)) (by omega)
          generalize hop : (xRl O k).2.1 (d - 1) = op at *
          generalize hsgv : (xRl O k).2.2.1 (d - 1) = sv at *
          have e1 : nI sv + 1 = nI (sv + 1) := by rw [nI_succ]
          have qd : (nI d = 0) ↔ d = 0 := nI_eq0 (by omega)
          refine xv_aload_n (pc := 27) d_Model_relate_27 rfl rfl ?_
          refine xv_getR (pc := 28) d_Model_relate_28 f_Model_22 rfl hMw.1 (xm_r4 hMw) ?_
          refine xv_iload_n (pc := 31) d_Model_relate_31 rfl rfl ?_
          refine xv_iload_n (pc := 32) d_Model_relate_32 rfl rfl ?_
          refine xv_if_ne (pc := 33) 40 d_Model_relate_33 (by decide) (fun h33 => ?_) (fun h33 => ?_)
          case refine_2 =>
            rw [qd] at h33
            exact absurd h33 hd0
          refine xv_aload_n (pc := 40) d_Model_relate_40 rfl rfl ?_
          refine xv_getR (pc := 41) d_Model_relate_41 f_Model_89 rfl hMw.1 (xm_r26 hMw) ?_
          refine xv_iload_n (pc := 44) d_Model_relate_44 rfl rfl ?_
          refine xv_iconst (pc := 45) 1 d_Model_relate_45 (by decide) ?_
          refine xv_isub (pc := 46) d_Model_relate_46 ?_
          refine xv_ald (pc := 47) d_Model_relate_47 (xm_k26 hMw) (by rw [ep]; exact xm_i26 hMw ip) ?_
          rw [ep, hcp, t27]
          refine xv_ast (pc := 48) d_Model_relate_48 (xm_k4 hMw) (xm_i4 hMw ik) ?_
          refine xv_aload_n (pc := 49) d_Model_relate_49 rfl rfl ?_
          refine xv_getR (pc := 50) d_Model_relate_50 f_Model_25 rfl hMw.1 (xm_r5 hMw) ?_
          refine xv_iload_n (pc := 53) d_Model_relate_53 rfl rfl ?_
          refine xv_iconst (pc := 54) 0 d_Model_relate_54 (by decide) ?_
          refine xv_ast (pc := 55) d_Model_relate_55 (xm_k5 hMw) (xm_i5 hMw ik) ?_
          refine xv_iload_n (pc := 56) d_Model_relate_56 rfl rfl ?_
          refine xv_if_le (pc := 57) 113 d_Model_relate_57 (by decide) (fun h57 => ?_) (fun h57 => ?_)
          · rw [nI_le0 (by omega)] at h57
            exact absurd h57 hd0
          rw [hck]
          refine xv_aload_n (pc := 60) d_Model_relate_60 rfl rfl ?_
          refine xv_getR (pc := 61) d_Model_relate_61 f_Model_25 rfl hMw.1 (xm_r5 hMw) ?_
          refine xv_iload_n (pc := 64) d_Model_relate_64 rfl rfl ?_
          refine xv_aload_n (pc := 65) d_Model_relate_65 rfl rfl ?_
          refine xv_getR (pc := 66) d_Model_relate_66 f_Model_92 rfl hMw.1 (xm_r27 hMw) ?_
          refine xv_iload_n (pc := 69) d_Model_relate_69 rfl rfl ?_
          refine xv_iconst (pc := 70) 1 d_Model_relate_70 (by decide) ?_
          refine xv_isub (pc := 71) d_Model_relate_71 ?_
          refine xv_dup2 (pc := 72) d_Model_relate_72 ?_
          refine xv_ald (pc := 73) d_Model_relate_73 (xm_k27 hMw) (by rw [ep]; exact xm_i27 hMw ip) ?_
          refine xv_iconst (pc := 74) 1 d_Model_relate_74 (by decide) ?_
          refine xv_iadd (pc := 75) d_Model_relate_75 ?_
          refine xv_dup_x2 (pc := 76) d_Model_relate_76 ?_
          refine xv_ast (pc := 77) d_Model_relate_77 (xm_k27 hMw) (by rw [ep]; exact xm_i27 hMw ip) ?_
          refine xv_ast (pc := 78) d_Model_relate_78 (xm_k5 hMw) (xm_i5 hMw ik) ?_
          refine xv_aload_n (pc := 79) d_Model_relate_79 rfl rfl ?_
          refine xv_getR (pc := 80) d_Model_relate_80 f_Model_92 rfl hMw.1 (xm_r27 hMw) ?_
          refine xv_iload_n (pc := 83) d_Model_relate_83 rfl rfl ?_
          refine xv_iconst (pc := 84) 1 d_Model_relate_84 (by decide) ?_
          refine xv_isub (pc := 85) d_Model_relate_85 ?_
          refine xv_ald (pc := 86) d_Model_relate_86 (xm_k27 hMw) (by rw [ep]; exact xm_i27 hMw ip) ?_
          refine xv_aload_n (pc := 87) d_Model_relate_87 rfl rfl ?_
          refine xv_getR (pc := 88) d_Model_relate_88 f_Model_7 rfl hMw.1 (xm_r0 hMw) ?_
          refine xv_sipush (pc := 91) 320 d_Model_relate_91 (by decide) ?_
          refine xv_aload_n (pc := 94) d_Model_relate_94 rfl rfl ?_
          refine xv_getR (pc := 95) d_Model_relate_95 f_Model_89 rfl hMw.1 (xm_r26 hMw) ?_
          refine xv_iload_n (pc := 98) d_Model_relate_98 rfl rfl ?_
          refine xv_iconst (pc := 99) 1 d_Model_relate_99 (by decide) ?_
          refine xv_isub (pc := 100) d_Model_relate_100 ?_
          refine xv_ald (pc := 101) d_Model_relate_101 (xm_k26 hMw) (by rw [ep]; exact xm_i26 hMw ip) ?_
          have f1 : xv_i (xv_si (xv_si w (M + 5) k (nI op)) (M + 6) k 0) (M + 28) (d - 1) = nI sv := by rw [xv_si_ne (by omega), xv_si_ne (by omega)]; exact t28
          rw [ep, hcp, f1, e1, hck]
          have f2 : xv_i (xv_si (xv_si (xv_si (xv_si w (M + 5) k (nI op)) (M + 6) k 0) (M + 28) (d - 1) (nI (sv + 1))) (M + 6) k (nI (sv + 1))) (M + 28) (d - 1) = nI (sv + 1) := by rw [xv_si_ne (by omega), xv_si_eq]
          have f3 : xv_i (xv_si (xv_si (xv_si (xv_si w (M + 5) k (nI op)) (M + 6) k 0) (M + 28) (d - 1) (nI (sv + 1))) (M + 6) k (nI (sv + 1))) (M + 27) (d - 1) = nI op := by rw [xv_si_ne (by omega), xv_si_ne (by omega), xv_si_ne (by omega), xv_si_ne (by omega)]; exact t27
          have f4 : xv_i (xv_si (xv_si (xv_si (xv_si w (M + 5) k (nI op)) (M + 6) k 0) (M + 28) (d - 1) (nI (sv + 1))) (M + 6) k (nI (sv + 1))) (M + 1) (320 + op) = nI (O op) := by rw [xv_si_ne (by omega), xv_si_ne (by omega), xv_si_ne (by omega), xv_si_ne (by omega), ow]; exact tO
          rw [f2, f3]
          have z4 : xSi (xRS M) u (xv_si (xv_si (xv_si (xv_si w (M + 5) k (nI op)) (M + 6) k 0) (M + 28) (d - 1) (nI (sv + 1))) (M + 6) k (nI (sv + 1))) := xSi_tr zw (xSi_tr (xSi_tr (xSi_tr (xSi_si (Or.inl rfl)) (xSi_si (Or.inr (Or.inl rfl)))) (xSi_si (Or.inr (Or.inr (Or.inr rfl))))) (xSi_si (Or.inr (Or.inl rfl))))
          have k5 : ∀ q, q < k + 1 → xv_i (xv_si (xv_si (xv_si (xv_si w (M + 5) k (nI op)) (M + 6) k 0) (M + 28) (d - 1) (nI (sv + 1))) (M + 6) k (nI (sv + 1))) (M + 5) q = xPt (xRl O k).2.2.2.1 k (nI op) q := fun q hq => by
            rw [xv_si_ne (by omega), xv_si_ne (by omega), xv_si_ne (by omega), xv_si_if]
            by_cases c : q = k
            · subst c; rw [if_pos rfl, xPt_eq]
            · rw [if_neg c, xPt_ne c]; exact m3 q (by omega)
          have k6 : ∀ q, q < k + 1 → xv_i (xv_si (xv_si (xv_si (xv_si w (M + 5) k (nI op)) (M + 6) k 0) (M + 28) (d - 1) (nI (sv + 1))) (M + 6) k (nI (sv + 1))) (M + 6) q = nI (xPt (xRl O k).2.2.2.2 k (sv + 1) q) := fun q hq => by
            rw [xv_si_if]
            by_cases c : q = k
            · subst c; rw [if_pos rfl, xPt_eq]
            · rw [if_neg c, xPt_ne c, xv_si_ne (by omega), xv_si_nj c, xv_si_ne (by omega)]; exact m4 q (by omega)
          have k27 : ∀ q, q < d → xv_i (xv_si (xv_si (xv_si (xv_si w (M + 5) k (nI op)) (M + 6) k 0) (M + 28) (d - 1) (nI (sv + 1))) (M + 6) k (nI (sv + 1))) (M + 27) q = nI ((xRl O k).2.1 q) := fun q hq => by
            rw [xv_si_ne (by omega), xv_si_ne (by omega), xv_si_ne (by omega), xv_si_ne (by omega)]; exact m1 q hq
          have k28 : ∀ q, q < d → xv_i (xv_si (xv_si (xv_si (xv_si w (M + 5) k (nI op)) (M + 6) k 0) (M + 28) (d - 1) (nI (sv + 1))) (M + 6) k (nI (sv + 1))) (M + 28) q = nI (xPt (xRl O k).2.2.1 (d - 1) (sv + 1) q) := fun q hq => by
            rw [xv_si_ne (by omega), xv_si_if]
            by_cases c : q = d - 1
            · subst c; rw [if_pos rfl, xPt_eq]
            · rw [if_neg c, xPt_ne c, xv_si_ne (by omega), xv_si_ne (by omega)]; exact m2 q hq
          generalize (xv_si (xv_si (xv_si (xv_si w (M + 5) k (nI op)) (M + 6) k 0) (M + 28) (d - 1) (nI (sv + 1))) (M + 6) k (nI (sv + 1))) = w4 at *
          have hM4 := xSi_Mo z4 hM
          refine xv_iadd (pc := 102) d_Model_relate_102 ?_
          refine xv_ald (pc := 103) d_Model_relate_103 (xm_k0 hM4) (by rw [x320]; exact xm_i0 hM4 (vp_in_nI (by omega) (by decide))) ?_
          rw [x320, nI_clamp (by omega), f4]
          refine xv_cS1i (pc := 104) (d1 := 0) (c_Model_parts tO18) m_Model_parts l_Model_110 d_Model_relate_104 (by omega) (Nat.le_of_ble_eq_true rfl) (xSi_le z4) (fun r2 w2 hw hN hS => ?_)
          obtain ⟨hr, hw⟩ := hw
          subst w2
          subst hr
          have qe : (nI (sv + 1) = nI (xPa (O op))) ↔ sv + 1 = xPa (O op) := nI_eq (by omega) (by omega)
          have ed : nI d + Int32.ofInt (-1) = nI (d - 1) := by
            rw [show d = d - 1 + 1 by omega, nI_succ, Int32.add_assoc]
            exact Int32.add_zero _
          refine xv_icmp_ne (pc := 107) 113 d_Model_relate_107 (by decide) (fun h107 => ?_) (fun h107 => ?_)
          · rw [qe] at h107
            rw [if_neg h107] at hx1
            exact end113 d _ _ _ w4 hx1 (Nat.le_refl _) z4 k27 k28 k5 k6
          · rw [qe] at h107
            rw [if_pos h107] at hx1
            refine xv_iinc_2 (pc := 110) (nI (d - 1)) d_Model_relate_110 ed (by decide) rfl ?_
            exact end113 (d - 1) _ _ _ w4 hx1 (by omega) z4 (fun q hq => k27 q (by omega)) (fun q hq => k28 q (by omega)) k5 k6
      refine xv_iload_n (pc := 12) d_Model_relate_12 rfl rfl ?_
      refine xv_iload_n (pc := 13) d_Model_relate_13 rfl rfl ?_
      refine xv_icmp_ge (pc := 14) 152 d_Model_relate_14 (by decide) (fun h14 => ?_) (fun h14 => ?_)
      · exact absurd h14 (nI_ge (by omega) (by omega))
      refine xv_iload_n (pc := 17) d_Model_relate_17 rfl rfl ?_
      refine xv_if_le (pc := 18) 27 d_Model_relate_18 (by decide) (fun h18 => ?_) (fun h18 => ?_)
      · rw [nI_le0 (by omega)] at h18
        exact go27 (by omega)
      · rw [nI_le0 (by omega)] at h18
        refine xv_iload_n (pc := 21) d_Model_relate_21 rfl rfl ?_
        refine xv_if_ne (pc := 22) 27 d_Model_relate_22 (by decide) (fun h22 => ?_) (fun h22 => ?_)
        · rw [nI_eq0 (by omega)] at h22
          exact go27 (fun q => h22 q.2)
        · rw [nI_eq0 (by omega)] at h22
          refine xv_iconst (pc := 25) 0 d_Model_relate_25 (by decide) ?_
          exact xv_retzq (pc := 26) d_Model_relate_26 rfl (by decide) zw.1 zw.2.1 ⟨_, rfl, zw, Or.inr ⟨rfl, fun q => q.2.2 k (by omega) (by omega) (by rw [← hd]; exact h22)⟩⟩
  refine xv_aload_n (pc := 0) d_Model_relate_0 rfl rfl ?_
  refine xv_getR (pc := 1) d_Model_relate_1 f_Model_16 rfl hM.1 (xm_r2 hM) ?_
  refine xv_bipush (pc := 4) 8 d_Model_relate_4 (by decide) ?_
  refine xv_ald (pc := 6) d_Model_relate_6 (xm_k2 hM) (xm_i2 hM xm_8) ?_
  refine xv_istore_1 (pc := 7) d_Model_relate_7 (by decide) rfl ?_
  refine xv_iconst (pc := 8) 0 d_Model_relate_8 (by decide) ?_
  refine xv_istore_2 (pc := 9) d_Model_relate_9 (by decide) rfl ?_
  refine xv_iconst (pc := 10) 0 d_Model_relate_10 (by decide) ?_
  refine xv_istore_3 (pc := 11) d_Model_relate_11 (by decide) rfl ?_
  rw [e8, hn]
  exact loop n 0 0 u (by omega) rfl xSi_rf ⟨fun q hq => absurd hq (Nat.not_lt_zero q), fun q hq => absurd hq (Nat.not_lt_zero q), fun q hq => absurd hq (Nat.not_lt_zero q), fun q hq => absurd hq (Nat.not_lt_zero q)⟩ (fun j hj => absurd hj (Nat.not_lt_zero j))

