/-! endOf -/
theorem c_Form_endOf_neg {sc : Nat × (Nat → Int32)} {d : Nat} {u : xv_M} {h : Nat} {K C t : Int32} : xv_C sc d J_Form_endOf [.ref h, .int (-1), .int K, .int C, .int t] u (xv_N u) (xv_S u) (xv_pi (fun r w => r = -1 ∧ w = u)) := by
  refine xv_C_of (by decide) (Nat.le_refl _) (Nat.le_refl _) (xv_cat1 rfl) (Nat.le_of_ble_eq_true rfl) ?_
  show xv_X sc d J_Form_endOf 0 [some (.ref h), some (.int (-1)), some (.int K), some (.int C), some (.int t), none, none, none, none, none] [] u (xv_N u) (xv_S u) _
  refine xv_iload_n (pc := 0) d_Form_endOf_0 rfl rfl ?_
  refine xv_if_lt (pc := 1) 24 d_Form_endOf_1 (by decide) (fun h1 => ?_) (fun h1 => ?_)
  · refine xv_iconst (pc := 24) (-1) d_Form_endOf_24 (by decide) ?_
    exact xv_retiq (pc := 25) d_Form_endOf_25 rfl rfl rfl ⟨_, rfl, rfl, rfl⟩
  · exact absurd (by decide) h1
theorem xRes_neg : xRes none = -1 := rfl
theorem xw_upd {f : Nat → Int32} {k j : Nat} {x : Int32} (h : j ≠ k) : upd f k x j = f j := pk_un h
/-- what the row of tokens holds -/
def xTk (u : xv_M) (h o a n : Nat) (O : Nat → Nat) (A : Nat → Int32) : Prop := xv_i u h 2 = nI n ∧ n ≤ 40 ∧ ∀ i, i < n → xv_i u o i = nI (O i) ∧ O i < 18 ∧ xv_i u a i = A i
theorem xTk_sw {u : xv_M} {h o a n s : Nat} {O : Nat → Nat} {A : Nat → Int32} {f : Nat → Int32} (hT : xTk u h o a n O A) (h1 : h ≠ s) (h2 : o ≠ s) (h3 : a ≠ s) : xTk (xv_sw u s f) h o a n O A := by
  obtain ⟨g1, g2, g3⟩ := hT
  refine ⟨by rw [xv_sw_ne h1]; exact g1, g2, fun i hi => ?_⟩
  rw [xv_sw_ne h2, xv_sw_ne h3]
  exact g3 i hi
set_option maxHeartbeats 4000000 in
theorem c_Form_endOf {sc : Nat × (Nat → Int32)} {h o a s n : Nat} {O : Nat → Nat} {A : Nat → Int32} (hos : o ≠ s) (has : a ≠ s) : ∀ (k : Nat) (u : xv_M) (p : Nat) (K C t : Int32), xv_Fo u h o a s → xTk u h o a n O A → p ≤ n → n - p < k → xv_C sc k J_Form_endOf [.ref h, .int (nI p), .int K, .int C, .int t] u (xv_N u) (xv_S u) (xv_pi (fun r w => r = xRes (xEk O A n k p K C t) ∧ ∃ f, w = xv_sw u s f ∧ (∀ i, i < p * 3 → f i = xv_i u s i) ∧ (∀ e, xEk O A n k p K C t = some e → xSt O f k p))) := by
  intro k
  induction k with
  | zero => intro u p K C t _ _ _ hk; omega
  | succ k ih =>
  intro u p K C t hF hT hpn hk
  have hF0 := hF
  have hT0 := hT
  obtain ⟨k0, r0, r1, r4, ko, lo, ka, la, kt, lt⟩ := hF
  obtain ⟨hn, hn40, htk⟩ := hT
  have hhs := xv_ne k0 kt (by decide)
  refine xv_C_of (by decide) (Nat.le_refl _) (Nat.le_refl _) (xv_cat1 rfl) (Nat.le_of_ble_eq_true rfl) ?_
  show xv_X sc (k + 1) J_Form_endOf 0 [some (.ref h), some (.int (nI p)), some (.int K), some (.int C), some (.int t), none, none, none, none, none] [] u (xv_N u) (xv_S u) _
  have hfail : xEk O A n (k + 1) p K C t = none → xv_X sc (k + 1) J_Form_endOf 24 [some (.ref h), some (.int (nI p)), some (.int K), some (.int C), some (.int t), none, none, none, none, none] [] u (xv_N u) (xv_S u) (xv_q (xv_N u) (xv_S u) (xv_pi (fun r w => r = xRes (xEk O A n (k + 1) p K C t) ∧ ∃ f, w = xv_sw u s f ∧ (∀ i, i < p * 3 → f i = xv_i u s i) ∧ (∀ e, xEk O A n (k + 1) p K C t = some e → xSt O f (k + 1) p)))) := by
    intro hE
    refine xv_iconst (pc := 24) (-1) d_Form_endOf_24 (by decide) ?_
    exact xv_retiq (pc := 25) d_Form_endOf_25 rfl rfl rfl ⟨_, rfl, by rw [hE]; rfl, xv_i u s, xv_sw_id.symm, fun _ _ => rfl, fun e he => by rw [hE] at he; cases he⟩
  refine xv_iload_n (pc := 0) d_Form_endOf_0 rfl rfl ?_
  refine xv_if_lt (pc := 1) 24 d_Form_endOf_1 (by decide) (fun h1 => ?_) (fun h1 => ?_)
  · exact absurd h1 (nI_pos (by omega))
  refine xv_iload_n (pc := 4) d_Form_endOf_4 rfl rfl ?_
  refine xv_aload_n (pc := 5) d_Form_endOf_5 rfl rfl ?_
  refine xv_getI (pc := 6) d_Form_endOf_6 f_Form_25 rfl k0 ?_
  refine xv_icmp_ge (pc := 9) 24 d_Form_endOf_9 (by decide) (fun h9 => ?_) (fun h9 => ?_)
  · refine hfail ?_
    rw [hn] at h9
    have : n ≤ p := (nI_leI (by omega) (by omega)).mp h9
    unfold xEk
    rw [if_neg (by omega)]
  have hpn : p < n := by
    rw [hn] at h9
    exact Nat.not_le.mp (fun q => h9 ((nI_leI (by omega) (by omega)).mpr q))
  obtain ⟨hO, hO18, hA⟩ := htk p hpn
  refine xv_aload_n (pc := 12) d_Form_endOf_12 rfl rfl ?_
  refine xv_iload_n (pc := 13) d_Form_endOf_13 rfl rfl ?_
  refine xv_iload_n (pc := 14) d_Form_endOf_14 rfl rfl ?_
  refine xv_iload_n (pc := 15) d_Form_endOf_15 rfl rfl ?_
  refine xv_iload (pc := 16) d_Form_endOf_16 rfl ?_
  refine xv_cV4i (pc := 18) (d1 := 0) (c_Form_mayStand hF0 (by omega) hO18 hO hA) m_Form_mayStand l_Form_46 d_Form_endOf_18 (by omega) (by decide : 0 < xv_nc) rfl k0 (Nat.le_of_ble_eq_true rfl) ⟨Nat.le_refl _, Nat.le_refl _⟩ (fun r w hw hN hS => ?_)
  obtain ⟨rfl, hw⟩ := hw
  subst w
  refine xv_if_ne (pc := 21) 26 d_Form_endOf_21 (by decide) (fun h21 => ?_) (fun h21 => ?_)
  case refine_2 =>
    have hm : xMay (O p) (A p) K C t = false := xB_eq h21
    refine hfail ?_
    unfold xEk
    rw [if_neg (by rw [hm]; simp)]
  have hm : xMay (O p) (A p) K C t = true := xB_ne h21
  have hE : xEk O A n (k + 1) p K C t = xEf (xEs (xEk O A n k) (O p) (A p) K C t) (xPa (O p)) 0 (some (p + 1)) := by
    show (if _ then _ else _) = _
    rw [if_pos ⟨hpn, hm⟩]
  have hc : (nI p).toNatClampNeg = p := nI_clamp (by omega)
  have hin : vp_in (nI p) 40 := vp_in_nI (by omega) (by decide)
  have hT16 : (nI (O p) = 16) ↔ O p = 16 := nI_eq (b := 16) (by omega) (by decide)
  have hT14 : (nI (O p) = 14) ↔ O p = 14 := nI_eq (b := 14) (by omega) (by decide)
  suffices j42 : xv_X sc (k + 1) J_Form_endOf 42 [some (.ref h), some (.int (nI p)), some (.int K), some (.int C), some (.int t), none, none, none, none, none] [.int (xB (decide (O p = 16)))] u (xv_N u) (xv_S u) (xv_q (xv_N u) (xv_S u) (xv_pi (fun r w => r = xRes (xEk O A n (k + 1) p K C t) ∧ ∃ f, w = xv_sw u s f ∧ (∀ i, i < p * 3 → f i = xv_i u s i) ∧ (∀ e, xEk O A n (k + 1) p K C t = some e → xSt O f (k + 1) p)))) by
    refine xv_aload_n (pc := 26) d_Form_endOf_26 rfl rfl ?_
    refine xv_getR (pc := 27) d_Form_endOf_27 f_Form_9 rfl k0 r0 ?_
    refine xv_iload_n (pc := 30) d_Form_endOf_30 rfl rfl ?_
    refine xv_ald (pc := 31) d_Form_endOf_31 ko (by rw [lo]; exact hin) ?_
    refine xv_bipush (pc := 32) 16 d_Form_endOf_32 (by decide) ?_
    refine xv_icmp_ne (pc := 34) 41 d_Form_endOf_34 (by decide) (fun h34 => ?_) (fun h34 => ?_)
    · rw [hc, hO] at h34
      rw [decide_eq_false (fun q => h34 (hT16.mpr q))] at j42
      refine xv_iconst (pc := 41) 0 d_Form_endOf_41 (by decide) ?_
      exact j42
    · rw [hc, hO] at h34
      rw [decide_eq_true (hT16.mp h34)] at j42
      refine xv_iconst (pc := 37) 1 d_Form_endOf_37 (by decide) ?_
      refine xv_goto (pc := 38) 42 d_Form_endOf_38 (by decide) ?_
      exact j42
  have loop : ∀ (r j : Nat) (q : Option Nat) (f : Nat → Int32) (z : Option Value), j + r = xPa (O p) → xEf (xEs (xEk O A n k) (O p) (A p) K C t) r j q = xEk O A n (k + 1) p K C t → (∀ i, i < p * 3 → f i = xv_i u s i) →
      (∀ e, q = some e → e ≤ n ∧ p < e ∧ e = xIt (xNx O k) j (p + 1) ∧ ∀ i, i < j → f (p * 3 + i) = nI (xIt (xNx O k) i (p + 1)) ∧ xSt O f k (xIt (xNx O k) i (p + 1))) →
      xv_X sc (k + 1) J_Form_endOf 62 [some (.ref h), some (.int (nI p)), some (.int K), some (.int C), some (.int t), some (.int (xB (decide (O p = 16)))), some (.int (1 <<< (A p &&& 31))), some (.int (xRes q)), some (.int (nI j)), z] [] (xv_sw u s f) (xv_N u) (xv_S u) (xv_q (xv_N u) (xv_S u) (xv_pi (fun r w => r = xRes (xEk O A n (k + 1) p K C t) ∧ ∃ f, w = xv_sw u s f ∧ (∀ i, i < p * 3 → f i = xv_i u s i) ∧ (∀ e, xEk O A n (k + 1) p K C t = some e → xSt O f (k + 1) p)))) := by
    intro r
    induction r with
    | zero =>
      intro j q f z hj hq hf hg
      refine xv_iload (pc := 62) d_Form_endOf_62 rfl ?_
      refine xv_gets (pc := 64) d_Form_endOf_64 (by decide : 0 < xv_ns) s_Form_50 ?_
      refine xv_aload_n (pc := 67) d_Form_endOf_67 rfl rfl ?_
      refine xv_getR (pc := 68) d_Form_endOf_68 f_Form_9 rfl k0 r0 ?_
      refine xv_iload_n (pc := 71) d_Form_endOf_71 rfl rfl ?_
      refine xv_ald (pc := 72) d_Form_endOf_72 ko (by show vp_in _ (xv_l u o); rw [lo]; exact hin) ?_
      refine xv_aldS (pc := 73) d_Form_endOf_73 (by decide) (by rw [hc, xv_sw_ne hos, hO]; exact vp_in_nI hO18 (by decide)) ?_
      refine xv_icmp_ge (pc := 74) 178 d_Form_endOf_74 (by decide) (fun h74 => ?_) (fun h74 => ?_)
      · refine xv_iload (pc := 178) d_Form_endOf_178 rfl ?_
        exact xv_retiq (pc := 180) d_Form_endOf_180 rfl rfl rfl ⟨_, rfl, by rw [← hq]; rfl, f, rfl, hf, fun e he => by
          have hq2 : q = some e := by rw [← he, ← hq]; rfl
          obtain ⟨g1, g2, g3, g4⟩ := hg e hq2
          intro i hi
          exact g4 i (by omega)⟩
      · rw [hc, xv_sw_ne hos, hO, nI_clamp (by omega), xPa_sf _ hO18] at h74
        exact absurd (nI_le (by omega) (by have := xPa_3 (O p); omega)) h74
    | succ r ihr =>
      intro j q f z hj hq hf hg
      have hj3 : j < 3 := by have := xPa_3 (O p); omega
      refine xv_iload (pc := 62) d_Form_endOf_62 rfl ?_
      refine xv_gets (pc := 64) d_Form_endOf_64 (by decide : 0 < xv_ns) s_Form_50 ?_
      refine xv_aload_n (pc := 67) d_Form_endOf_67 rfl rfl ?_
      refine xv_getR (pc := 68) d_Form_endOf_68 f_Form_9 rfl k0 r0 ?_
      refine xv_iload_n (pc := 71) d_Form_endOf_71 rfl rfl ?_
      refine xv_ald (pc := 72) d_Form_endOf_72 ko (by show vp_in _ (xv_l u o); rw [lo]; exact hin) ?_
      refine xv_aldS (pc := 73) d_Form_endOf_73 (by decide) (by rw [hc, xv_sw_ne hos, hO]; exact vp_in_nI hO18 (by decide)) ?_
      refine xv_icmp_ge (pc := 74) 178 d_Form_endOf_74 (by decide) (fun h74 => ?_) (fun h74 => ?_)
      · rw [hc, xv_sw_ne hos, hO, nI_clamp (by omega), xPa_sf _ hO18] at h74
        exact absurd h74 (nI_ge (by omega) (by have := xPa_3 (O p); omega))
      have hj1 : (nI j = 1) ↔ j = 1 := nI_eq (b := 1) (by omega) (by decide)
      suffices j104 : xv_X sc (k + 1) J_Form_endOf 104 [some (.ref h), some (.int (nI p)), some (.int K), some (.int C), some (.int t), some (.int (xB (decide (O p = 16)))), some (.int (1 <<< (A p &&& 31))), some (.int (xRes q)), some (.int (nI j)), z] [.int (xB (decide (j = 1) && (decide (O p = 16) || decide (O p = 14))))] (xv_sw u s f) (xv_N u) (xv_S u) (xv_q (xv_N u) (xv_S u) (xv_pi (fun r w => r = xRes (xEk O A n (k + 1) p K C t) ∧ ∃ f, w = xv_sw u s f ∧ (∀ i, i < p * 3 → f i = xv_i u s i) ∧ (∀ e, xEk O A n (k + 1) p K C t = some e → xSt O f (k + 1) p)))) by
        refine xv_iload (pc := 77) d_Form_endOf_77 rfl ?_
        refine xv_iconst (pc := 79) 1 d_Form_endOf_79 (by decide) ?_
        refine xv_icmp_ne (pc := 80) 103 d_Form_endOf_80 (by decide) (fun h80 => ?_) (fun h80 => ?_)
        · rw [show xB (decide (j = 1) && (decide (O p = 16) || decide (O p = 14))) = 0 by rw [decide_eq_false (fun e => h80 (hj1.mpr e))]; rfl] at j104
          refine xv_iconst (pc := 103) 0 d_Form_endOf_103 (by decide) ?_
          exact j104
        · have e1 := decide_eq_true (hj1.mp h80)
          refine xv_iload (pc := 83) d_Form_endOf_83 rfl ?_
          refine xv_if_ne (pc := 85) 99 d_Form_endOf_85 (by decide) (fun h85 => ?_) (fun h85 => ?_)
          · rw [show xB (decide (j = 1) && (decide (O p = 16) || decide (O p = 14))) = 1 by rw [e1, xB_ne h85]; rfl] at j104
            refine xv_iconst (pc := 99) 1 d_Form_endOf_99 (by decide) ?_
            refine xv_goto (pc := 100) 104 d_Form_endOf_100 (by decide) ?_
            exact j104
          · have e2 := xB_eq h85
            refine xv_aload_n (pc := 88) d_Form_endOf_88 rfl rfl ?_
            refine xv_getR (pc := 89) d_Form_endOf_89 f_Form_9 rfl k0 r0 ?_
            refine xv_iload_n (pc := 92) d_Form_endOf_92 rfl rfl ?_
            refine xv_ald (pc := 93) d_Form_endOf_93 ko (by show vp_in _ (xv_l u o); rw [lo]; exact hin) ?_
            refine xv_bipush (pc := 94) 14 d_Form_endOf_94 (by decide) ?_
            refine xv_icmp_ne (pc := 96) 103 d_Form_endOf_96 (by decide) (fun h96 => ?_) (fun h96 => ?_)
            · rw [hc, xv_sw_ne hos, hO] at h96
              rw [show xB (decide (j = 1) && (decide (O p = 16) || decide (O p = 14))) = 0 by rw [e1, e2, decide_eq_false (fun e => h96 (hT14.mpr e))]; rfl] at j104
              refine xv_iconst (pc := 103) 0 d_Form_endOf_103 (by decide) ?_
              exact j104
            · rw [hc, xv_sw_ne hos, hO] at h96
              rw [show xB (decide (j = 1) && (decide (O p = 16) || decide (O p = 14))) = 1 by rw [e1, e2, decide_eq_true (hT14.mp h96)]; rfl] at j104
              refine xv_iconst (pc := 99) 1 d_Form_endOf_99 (by decide) ?_
              refine xv_goto (pc := 100) 104 d_Form_endOf_100 (by decide) ?_
              exact j104
      have ei : nI p * 3 + nI j = nI (p * 3 + j) := by rw [← nI_add, ← pk_mul]; rfl
      have hci : (nI (p * 3 + j)).toNatClampNeg = p * 3 + j := nI_clamp (by omega)
      suffices j135 : xv_X sc (k + 1) J_Form_endOf 135 [some (.ref h), some (.int (nI p)), some (.int K), some (.int C), some (.int t), some (.int (xB (decide (O p = 16)))), some (.int (1 <<< (A p &&& 31))), some (.int (xRes q)), some (.int (nI j)), some (.int (xB (decide (j = 1) && (decide (O p = 16) || decide (O p = 14)))))] [.int (xKj (O p) (A p) K j), .int (xRes q), .ref h] (xv_sw u s (upd f (p * 3 + j) (xRes q))) (xv_N u) (xv_S u) (xv_q (xv_N u) (xv_S u) (xv_pi (fun r w => r = xRes (xEk O A n (k + 1) p K C t) ∧ ∃ f, w = xv_sw u s f ∧ (∀ i, i < p * 3 → f i = xv_i u s i) ∧ (∀ e, xEk O A n (k + 1) p K C t = some e → xSt O f (k + 1) p)))) by
        refine xv_istore_9 (pc := 104) d_Form_endOf_104 (by decide) rfl ?_
        refine xv_aload_n (pc := 106) d_Form_endOf_106 rfl rfl ?_
        refine xv_getR (pc := 107) d_Form_endOf_107 f_Form_18 rfl k0 r4 ?_
        refine xv_iload_n (pc := 110) d_Form_endOf_110 rfl rfl ?_
        refine xv_iconst (pc := 111) 3 d_Form_endOf_111 (by decide) ?_
        refine xv_imul (pc := 112) d_Form_endOf_112 ?_
        refine xv_iload (pc := 113) d_Form_endOf_113 rfl ?_
        refine xv_iadd (pc := 115) d_Form_endOf_115 ?_
        refine xv_iload (pc := 116) d_Form_endOf_116 rfl ?_
        refine xv_ast (pc := 118) d_Form_endOf_118 kt (by rw [ei]; show vp_in _ (xv_l u s); rw [lt]; exact vp_in_nI (by omega) (by decide)) ?_
        refine xv_aload_n (pc := 119) d_Form_endOf_119 rfl rfl ?_
        refine xv_iload (pc := 120) d_Form_endOf_120 rfl ?_
        refine xv_iload (pc := 122) d_Form_endOf_122 rfl ?_
        refine xv_if_eq (pc := 124) 134 d_Form_endOf_124 (by decide) (fun h124 => ?_) (fun h124 => ?_)
        · rw [ei, hci, xv_sw_si]
          refine xv_iload_n (pc := 134) d_Form_endOf_134 rfl rfl ?_
          rw [show xKj (O p) (A p) K j = K from if_neg (by rw [xB_eq h124]; decide)] at j135
          exact j135
        · rw [ei, hci, xv_sw_si]
          refine xv_iload_n (pc := 127) d_Form_endOf_127 rfl rfl ?_
          refine xv_iload (pc := 128) d_Form_endOf_128 rfl ?_
          refine xv_ior (pc := 130) d_Form_endOf_130 ?_
          refine xv_goto (pc := 131) 135 d_Form_endOf_131 (by decide) ?_
          rw [show xKj (O p) (A p) K j = K ||| (1 <<< (A p &&& 31)) from if_pos (xB_ne h124)] at j135
          exact j135
      suffices j153 : xv_X sc (k + 1) J_Form_endOf 153 [some (.ref h), some (.int (nI p)), some (.int K), some (.int C), some (.int t), some (.int (xB (decide (O p = 16)))), some (.int (1 <<< (A p &&& 31))), some (.int (xRes q)), some (.int (nI j)), some (.int (xB (decide (j = 1) && (decide (O p = 16) || decide (O p = 14)))))] [.int (xCj (O p) (A p) C j), .int (xKj (O p) (A p) K j), .int (xRes q), .ref h] (xv_sw u s (upd f (p * 3 + j) (xRes q))) (xv_N u) (xv_S u) (xv_q (xv_N u) (xv_S u) (xv_pi (fun r w => r = xRes (xEk O A n (k + 1) p K C t) ∧ ∃ f, w = xv_sw u s f ∧ (∀ i, i < p * 3 → f i = xv_i u s i) ∧ (∀ e, xEk O A n (k + 1) p K C t = some e → xSt O f (k + 1) p)))) by
        refine xv_iload (pc := 135) d_Form_endOf_135 rfl ?_
        refine xv_if_eq (pc := 137) 152 d_Form_endOf_137 (by decide) (fun h137 => ?_) (fun h137 => ?_)
        · refine xv_iload_n (pc := 152) d_Form_endOf_152 rfl rfl ?_
          rw [show xCj (O p) (A p) C j = C from if_neg (by rw [xB_eq h137, Bool.false_and]; decide)] at j153
          exact j153
        · refine xv_iload (pc := 140) d_Form_endOf_140 rfl ?_
          refine xv_if_eq (pc := 142) 152 d_Form_endOf_142 (by decide) (fun h142 => ?_) (fun h142 => ?_)
          · refine xv_iload_n (pc := 152) d_Form_endOf_152 rfl rfl ?_
            rw [show xCj (O p) (A p) C j = C from if_neg (by rw [xB_eq h142, Bool.and_false]; decide)] at j153
            exact j153
          · refine xv_iload_n (pc := 145) d_Form_endOf_145 rfl rfl ?_
            refine xv_iload (pc := 146) d_Form_endOf_146 rfl ?_
            refine xv_ior (pc := 148) d_Form_endOf_148 ?_
            refine xv_goto (pc := 149) 153 d_Form_endOf_149 (by decide) ?_
            rw [show xCj (O p) (A p) C j = C ||| (1 <<< (A p &&& 31)) from if_pos (by rw [xB_ne h137, xB_ne h142]; rfl)] at j153
            exact j153
      suffices j167 : xv_X sc (k + 1) J_Form_endOf 167 [some (.ref h), some (.int (nI p)), some (.int K), some (.int C), some (.int t), some (.int (xB (decide (O p = 16)))), some (.int (1 <<< (A p &&& 31))), some (.int (xRes q)), some (.int (nI j)), some (.int (xB (decide (j = 1) && (decide (O p = 16) || decide (O p = 14)))))] [.int (xTj (O p) t), .int (xCj (O p) (A p) C j), .int (xKj (O p) (A p) K j), .int (xRes q), .ref h] (xv_sw u s (upd f (p * 3 + j) (xRes q))) (xv_N u) (xv_S u) (xv_q (xv_N u) (xv_S u) (xv_pi (fun r w => r = xRes (xEk O A n (k + 1) p K C t) ∧ ∃ f, w = xv_sw u s f ∧ (∀ i, i < p * 3 → f i = xv_i u s i) ∧ (∀ e, xEk O A n (k + 1) p K C t = some e → xSt O f (k + 1) p)))) by
        refine xv_iload (pc := 153) d_Form_endOf_153 rfl ?_
        refine xv_if_eq (pc := 155) 165 d_Form_endOf_155 (by decide) (fun h155 => ?_) (fun h155 => ?_)
        · refine xv_iload (pc := 165) d_Form_endOf_165 rfl ?_
          rw [show xTj (O p) t = t from if_neg (by rw [xB_eq h155]; decide)] at j167
          exact j167
        · refine xv_iload (pc := 158) d_Form_endOf_158 rfl ?_
          refine xv_iconst (pc := 160) 1 d_Form_endOf_160 (by decide) ?_
          refine xv_iadd (pc := 161) d_Form_endOf_161 ?_
          refine xv_goto (pc := 162) 167 d_Form_endOf_162 (by decide) ?_
          rw [show xTj (O p) t = t + 1 from if_pos (xB_ne h155)] at j167
          exact j167
      have es : nI j + Int32.ofInt 1 = nI (j + 1) := by rw [nI_succ]; rfl
      have hf2 : ∀ i, i < p * 3 → upd f (p * 3 + j) (xRes q) i = xv_i u s i := fun i hi => by rw [xw_upd (by omega)]; exact hf i hi
      cases hqq : q with
      | none =>
        rw [hqq] at hq
        refine xv_cV4i (pc := 167) (d1 := 0) c_Form_endOf_neg m_Form_endOf l_Form_42 d_Form_endOf_167 (by omega) (by decide : 0 < xv_nc) rfl k0 (Nat.le_of_ble_eq_true rfl) ⟨Nat.le_refl _, Nat.le_refl _⟩ (fun r2 w hw hN hS => ?_)
        obtain ⟨rfl, hw⟩ := hw
        subst w
        refine xv_istore_7 (pc := 170) d_Form_endOf_170 (by decide) rfl ?_
        refine xv_iinc_8 (pc := 172) (nI (j + 1)) d_Form_endOf_172 es (by decide) rfl ?_
        refine xv_goto (pc := 175) 62 d_Form_endOf_175 (by decide) ?_
        exact ihr (j + 1) none _ _ (by omega) hq (by rw [← hqq]; exact hf2) (fun e he => by cases he)
      | some e =>
        rw [hqq] at hq
        obtain ⟨g1, g2, g3, g4⟩ := hg e hqq
        refine xv_cV4i (pc := 167) (ih (xv_sw u s (upd f (p * 3 + j) (xRes (some e)))) e _ _ _ hF0 (xTk_sw hT0 hhs hos has) g1 (by omega)) m_Form_endOf l_Form_42 d_Form_endOf_167 (by omega) (by decide : 0 < xv_nc) rfl k0 (Nat.le_of_ble_eq_true rfl) ⟨Nat.le_refl _, Nat.le_refl _⟩ (fun r2 w hw hN hS => ?_)
        obtain ⟨rfl, f2, hw, hf3, hs3⟩ := hw
        rw [xv_sw_sw] at hw
        subst w
        refine xv_istore_7 (pc := 170) d_Form_endOf_170 (by decide) rfl ?_
        refine xv_iinc_8 (pc := 172) (nI (j + 1)) d_Form_endOf_172 es (by decide) rfl ?_
        refine xv_goto (pc := 175) 62 d_Form_endOf_175 (by decide) ?_
        have hlow : ∀ i, i < e * 3 → f2 i = upd f (p * 3 + j) (xRes (some e)) i := fun i hi => by rw [hf3 i hi, xv_sw_eq]
        refine ihr (j + 1) (xEk O A n k e _ _ _) f2 _ (by omega) hq (fun i hi => by rw [hlow i (by omega), ← hqq]; exact hf2 i hi) (fun e2 he2 => ?_)
        obtain ⟨n1, n2⟩ := xEk_nx _ _ _ _ _ _ he2
        refine ⟨n2, by have := xNx_gt O k e; omega, by rw [n1, g3]; rfl, fun i hi => ?_⟩
        by_cases hij : i = j
        · subst hij
          rw [← g3]
          refine ⟨?_, hs3 e2 he2⟩
          rw [hlow _ (by omega), pk_us]
          rfl
        · obtain ⟨m1, m2⟩ := g4 i (by omega)
          refine ⟨by rw [hlow _ (by omega), xw_upd (by omega)]; exact m1, xSt_congr (fun q => xPa_3 (O q)) k _ (fun i2 hi1 hi2 => ?_) m2⟩
          have hm : xIt (xNx O k) (i + 1) (p + 1) ≤ xIt (xNx O k) j (p + 1) := xIt_mono (xNx_gt O k) _ (by omega)
          have hm : xNx O k (xIt (xNx O k) i (p + 1)) ≤ e := by rw [g3]; exact hm
          have h0 : p + 1 ≤ xIt (xNx O k) i (p + 1) := xIt_mono (xNx_gt O k) _ (Nat.zero_le i)
          rw [hlow i2 (by omega)]
          exact xw_upd (by omega)
  refine xv_istore_5 (pc := 42) d_Form_endOf_42 (by decide) rfl ?_
  refine xv_iconst (pc := 44) 1 d_Form_endOf_44 (by decide) ?_
  refine xv_aload_n (pc := 45) d_Form_endOf_45 rfl rfl ?_
  refine xv_getR (pc := 46) d_Form_endOf_46 f_Form_15 rfl k0 r1 ?_
  refine xv_iload_n (pc := 49) d_Form_endOf_49 rfl rfl ?_
  refine xv_ald (pc := 50) d_Form_endOf_50 ka (by rw [la]; exact hin) ?_
  refine xv_ishl (pc := 51) d_Form_endOf_51 ?_
  refine xv_istore_6 (pc := 52) d_Form_endOf_52 (by decide) rfl ?_
  refine xv_iload_n (pc := 54) d_Form_endOf_54 rfl rfl ?_
  refine xv_iconst (pc := 55) 1 d_Form_endOf_55 (by decide) ?_
  refine xv_iadd (pc := 56) d_Form_endOf_56 ?_
  refine xv_istore_7 (pc := 57) d_Form_endOf_57 (by decide) rfl ?_
  refine xv_iconst (pc := 59) 0 d_Form_endOf_59 (by decide) ?_
  refine xv_istore_8 (pc := 60) d_Form_endOf_60 (by decide) rfl ?_
  rw [hc, hA, show nI p + 1 = xRes (some (p + 1)) from (nI_succ p).symm, ← nI_0]
  have hs := loop (xPa (O p)) 0 (some (p + 1)) (xv_i u s) none (Nat.zero_add _) hE.symm (fun _ _ => rfl) (fun e he => by
    cases he
    exact ⟨hpn, Nat.lt_succ_self p, rfl, fun i hi => absurd hi (Nat.not_lt_zero i)⟩)
  rw [xv_sw_id] at hs
  exact hs
def xOne (O : Nat → Nat) (A : Nat → Int32) (n : Nat) (f m : Int32) : Bool := (xLow (fun i => nI (O i)) A f n && decide (xCnt (fun i => nI (O i)) n ≤ 2)) && decide (xEk O A n 41 0 ((1 <<< (m &&& 31)) - 1) 0 0 = some n)
theorem xLow_congr {f f' g g' : Nat → Int32} {b : Int32} : ∀ n, (∀ i, i < n → f i = f' i ∧ g i = g' i) → xLow f g b n = xLow f' g' b n := by
  intro n
  induction n with
  | zero => intro _; rfl
  | succ n ih =>
    intro h
    unfold xLow
    rw [ih (fun i hi => h i (by omega)), (h n (by omega)).1, (h n (by omega)).2]
theorem xCnt_congr {f f' : Nat → Int32} : ∀ n, (∀ i, i < n → f i = f' i) → xCnt f n = xCnt f' n := by
  intro n
  induction n with
  | zero => intro _; rfl
  | succ n ih =>
    intro h
    unfold xCnt
    rw [ih (fun i hi => h i (by omega)), h n (by omega)]
theorem xRes_eq {q : Option Nat} {n : Nat} (hn : n ≤ 40) (hq : ∀ e, q = some e → e ≤ 40) : xRes q = nI n ↔ q = some n := by
  cases q with
  | none =>
    constructor
    · intro h
      have h : (-1 : Int32) = nI n := h
      exact absurd (show nI n < 0 by rw [← h]; decide) (nI_pos (by omega))
    · intro h; cases h
  | some e =>
    have he := hq e rfl
    constructor
    · intro h
      rw [(nI_eq (a := e) (b := n) (by omega) (by omega)).mp h]
    · intro h; cases h; rfl
theorem c_Form_isOne {sc : Nat × (Nat → Int32)} {u : xv_M} {h o a s n : Nat} {O : Nat → Nat} {A : Nat → Int32} {f m : Int32} (hos : o ≠ s) (has : a ≠ s) (hF : xv_Fo u h o a s) (hT : xTk u h o a n O A) : xv_C sc 42 J_Form_isOneFormOf [.ref h, .int f, .int m] u (xv_N u) (xv_S u) (xv_pi (fun r w => r = xB (xOne O A n f m) ∧ ∃ g, w = xv_sw u s g ∧ (xOne O A n f m = true → xSt O g 41 0))) := by
  have hT0 := hT
  obtain ⟨hn, hn40, htk⟩ := hT
  have k0 := hF.1
  have hhs := xv_ne k0 hF.2.2.2.2.2.2.2.2.1 (by decide)
  have hcg : xLow (xv_i u o) (xv_i u a) f n = xLow (fun i => nI (O i)) A f n := xLow_congr n (fun i hi => ⟨(htk i hi).1, (htk i hi).2.2⟩)
  have hcc : xCnt (xv_i u o) n = xCnt (fun i => nI (O i)) n := xCnt_congr n (fun i hi => (htk i hi).1)
  refine xv_C_of (by decide) (Nat.le_refl _) (Nat.le_refl _) (xv_cat1 rfl) (Nat.le_of_ble_eq_true rfl) ?_
  show xv_X sc 42 J_Form_isOneFormOf 0 [some (.ref h), some (.int f), some (.int m), none] [] u (xv_N u) (xv_S u) _
  refine xv_iconst (pc := 0) 1 d_Form_isOneFormOf_0 (by decide) ?_
  refine xv_iload_n (pc := 1) d_Form_isOneFormOf_1 rfl rfl ?_
  refine xv_ishl (pc := 2) d_Form_isOneFormOf_2 ?_
  refine xv_iconst (pc := 3) 1 d_Form_isOneFormOf_3 (by decide) ?_
  refine xv_isub (pc := 4) d_Form_isOneFormOf_4 ?_
  refine xv_istore_3 (pc := 5) d_Form_isOneFormOf_5 (by decide) rfl ?_
  refine xv_aload_n (pc := 6) d_Form_isOneFormOf_6 rfl rfl ?_
  refine xv_iload_n (pc := 7) d_Form_isOneFormOf_7 rfl rfl ?_
  refine xv_cV1i (pc := 8) (d1 := 0) (c_Form_callsGo hF hn hn40) m_Form_callsGo l_Form_38 d_Form_isOneFormOf_8 (by omega) (by decide : 0 < xv_nc) rfl k0 (Nat.le_of_ble_eq_true rfl) ⟨Nat.le_refl _, Nat.le_refl _⟩ (fun r w hw hN hS => ?_)
  obtain ⟨rfl, hw⟩ := hw
  subst w
  rw [hcg, hcc]
  refine xv_if_eq (pc := 11) 33 d_Form_isOneFormOf_11 (by decide) (fun h11 => ?_) (fun h11 => ?_)
  · have h1 := xB_eq h11
    refine xv_iconst (pc := 33) 0 d_Form_isOneFormOf_33 (by decide) ?_
    exact xv_retzq (pc := 34) d_Form_isOneFormOf_34 rfl (by decide) rfl rfl ⟨_, rfl, by unfold xOne; rw [h1]; rfl, xv_i u s, xv_sw_id.symm, fun q => by unfold xOne at q; rw [h1] at q; cases q⟩
  · have h1 := xB_ne h11
    refine xv_aload_n (pc := 14) d_Form_isOneFormOf_14 rfl rfl ?_
    refine xv_iconst (pc := 15) 0 d_Form_isOneFormOf_15 (by decide) ?_
    refine xv_iload_n (pc := 16) d_Form_isOneFormOf_16 rfl rfl ?_
    refine xv_iconst (pc := 17) 0 d_Form_isOneFormOf_17 (by decide) ?_
    refine xv_iconst (pc := 18) 0 d_Form_isOneFormOf_18 (by decide) ?_
    refine xv_cV4i (pc := 19) (c_Form_endOf (k := 41) hos has u 0 _ _ _ hF hT0 (Nat.zero_le _) (by omega)) m_Form_endOf l_Form_42 d_Form_isOneFormOf_19 (by omega) (by decide : 0 < xv_nc) rfl k0 (Nat.le_of_ble_eq_true rfl) ⟨Nat.le_refl _, Nat.le_refl _⟩ (fun r w hw hN hS => ?_)
    obtain ⟨rfl, g, hw, hg1, hg2⟩ := hw
    subst w
    have hq : ∀ e, xEk O A n 41 0 ((1 <<< (m &&& 31)) - 1) 0 0 = some e → e ≤ 40 := fun e he => Nat.le_trans (xEk_nx _ _ _ _ _ _ he).2 hn40
    refine xv_aload_n (pc := 22) d_Form_isOneFormOf_22 rfl rfl ?_
    refine xv_getI (pc := 23) d_Form_isOneFormOf_23 f_Form_25 rfl k0 ?_
    refine xv_icmp_ne (pc := 26) 33 d_Form_isOneFormOf_26 (by decide) (fun h26 => ?_) (fun h26 => ?_)
    · rw [xv_sw_ne hhs, hn] at h26
      have h2 := mt (xRes_eq hn40 hq).mpr h26
      have e1 : xOne O A n f m = false := by unfold xOne; rw [h1, decide_eq_false h2]; rfl
      refine xv_iconst (pc := 33) 0 d_Form_isOneFormOf_33 (by decide) ?_
      exact xv_retzq (pc := 34) d_Form_isOneFormOf_34 rfl (by decide) rfl rfl ⟨_, rfl, by rw [e1]; rfl, g, rfl, fun q => by rw [e1] at q; cases q⟩
    · rw [xv_sw_ne hhs, hn] at h26
      have h2 := (xRes_eq hn40 hq).mp h26
      have e1 : xOne O A n f m = true := by unfold xOne; rw [h1, decide_eq_true h2]; rfl
      refine xv_iconst (pc := 29) 1 d_Form_isOneFormOf_29 (by decide) ?_
      refine xv_goto (pc := 30) 34 d_Form_isOneFormOf_30 (by decide) ?_
      exact xv_retzq (pc := 34) d_Form_isOneFormOf_34 rfl (by decide) rfl rfl ⟨_, rfl, by rw [e1]; rfl, g, rfl, fun _ => hg2 n h2⟩

