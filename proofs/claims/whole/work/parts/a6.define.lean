/-! the model: define -/
theorem xRl_up (O : Nat → Nat) : ∀ n c, c < n → ((xRl O n).2.2.2.1 c = -1 ∨ ∃ j, j < c ∧ (xRl O n).2.2.2.1 c = nI j) ∧ (xRl O n).2.2.2.2 c ≤ 3 := by
  intro n
  induction n with
  | zero => intro c hc; omega
  | succ n ih =>
    intro c hc
    have hg := xRl_g O n
    have key : ∀ (d : Nat) (sg : Nat → Nat) (up : Int32) (pt m : Nat), (up = -1 ∨ ∃ j, j < n ∧ up = nI j) → pt ≤ 3 → ((xR0 n (xRl O n) d sg up pt m).2.2.2.1 c = -1 ∨ ∃ j, j < c ∧ (xR0 n (xRl O n) d sg up pt m).2.2.2.1 c = nI j) ∧ (xR0 n (xRl O n) d sg up pt m).2.2.2.2 c ≤ 3 := by
      intro d sg up pt m hu hp
      have e1 : (xR0 n (xRl O n) d sg up pt m).2.2.2.1 = xPt (xRl O n).2.2.2.1 n up := by unfold xR0; split <;> rfl
      have e2 : (xR0 n (xRl O n) d sg up pt m).2.2.2.2 = xPt (xRl O n).2.2.2.2 n pt := by unfold xR0; split <;> rfl
      rw [e1, e2]
      by_cases e : c = n
      · subst e
        rw [xPt_eq, xPt_eq]
        exact ⟨hu, hp⟩
      · rw [xPt_ne e, xPt_ne e]
        exact ih c (by omega)
    show ((xR1 O n (xRl O n)).2.2.2.1 c = -1 ∨ ∃ j, j < c ∧ (xR1 O n (xRl O n)).2.2.2.1 c = nI j) ∧ (xR1 O n (xRl O n)).2.2.2.2 c ≤ 3
    unfold xR1
    by_cases e : (xRl O n).1 = 0
    · rw [if_pos e]
      exact key _ _ _ _ _ (Or.inl rfl) (by decide)
    · rw [if_neg e]
      have l1 := hg.2.1 ((xRl O n).1 - 1) (by omega)
      have l2 := hg.2.2 ((xRl O n).1 - 1) (by omega)
      have l3 := xPa_3 (O ((xRl O n).2.1 ((xRl O n).1 - 1)))
      exact key _ _ _ _ _ (Or.inr ⟨_, l1, rfl⟩) (by omega)
def xStk (O : Nat → Nat) (A : Nat → Int32) (n : Nat) (f m : Int32) (k : Nat) : Bool := xStd (O k) (A k) f (xSd O A (xRl O n).2.2.2.1 (xRl O n).2.2.2.2 (A k) (k + 1) k (decide (A k < m)) false 0)
/-- what the model's define asks of the tokens -/
def xDf (O : Nat → Nat) (A : Nat → Int32) (n : Nat) (f m : Int32) : Prop := xRok O n ∧ (∀ k, k < n → xStk O A n f m k = true) ∧ xCnt (fun i => nI (O i)) n ≤ 2
theorem xCnt_mono (f : Nat → Int32) {a b : Nat} (h : a ≤ b) : xCnt f a ≤ xCnt f b := by
  induction h with
  | refl => exact Nat.le_refl _
  | step _ ih => exact Nat.le_trans ih (by show _ ≤ xCnt f _ + _; omega)
def xDS (M b : Nat) : Prop := xRS M b ∨ b = M + 1 ∨ b = M + 2 ∨ b = M + 3 ∨ b = M + 4
/-- the draft has become the form of f -/
def xDc (u w : xv_M) (M n f m : Nat) (O : Nat → Nat) (A : Nat → Int32) : Prop := xSi (xDS M) u w ∧ (∀ k, k < n → xv_i w (M + 1) (40 * f + k) = nI (O k) ∧ xv_i w (M + 2) (40 * f + k) = A k) ∧ (∀ q, ¬ q = f → ¬ q = 8 → xv_i w (M + 3) q = xv_i u (M + 3) q) ∧ xv_i w (M + 3) f = nI n ∧ xv_i w (M + 3) 8 = 0 ∧ (∀ q, ¬ q = f → xv_i w (M + 4) q = xv_i u (M + 4) q) ∧ xv_i w (M + 4) f = nI m
set_option maxHeartbeats 1000000 in
theorem c_Model_define {sc : Nat × (Nat → Int32)} {u : xv_M} {M n : Nat} {O : Nat → Nat} {A : Nat → Int32} {x y : Int32} {σ0 : xQ} (hM : xMo u M) (hD : xDm u M n O A) (h0 : σ0.1 = 0) (hφ : ∀ i, i < 265 → σ0.2.2.2.2.1 i = 0) (hp : ∀ f m, f < 8 → m ≤ 3 → xDf O A n (nI f) (nI m) → xVF O n 41 0 ∧ xNx O 41 0 = n ∧ xSz O 41 0 ≤ 250 ∧ ∃ O' β, (∀ i, i < (xTr O A 41 m σ0).1 → (xTr O A 41 m σ0).2.1 i = nI (O' i)) ∧ xHB (xTr O A 41 m σ0).1 O' (xTr O A 41 m σ0).2.2.1 (xTr O A 41 m σ0).2.2.2.1 β) : xv_C sc 4 J_Model_define [.ref M, .int x, .int y] u (xv_N u) (xv_S u) (xv_pi (fun r w => (¬ (∃ f m, f < 8 ∧ m ≤ 3 ∧ x = nI f ∧ y = nI m ∧ xDf O A n x y) ∧ r = -1 ∧ xSi (xRS M) u w) ∨ (∃ f m O' w2, f < 8 ∧ m ≤ 3 ∧ x = nI f ∧ y = nI m ∧ xDf O A n x y ∧ r = nI n ∧ xDc u w2 M n f m O A ∧ (∀ i, i < (xTr O A 41 m σ0).1 → (xTr O A 41 m σ0).2.1 i = nI (O' i) ∧ O' i < 22) ∧ xTO w2 w M f (xTr O A 41 m σ0) O'))) := by
  have hD0 := hD
  obtain ⟨hn, hn40, htk⟩ := hD
  have e8 : (8 : Int32).toNatClampNeg = 8 := by decide
  refine xv_C_of (by decide) (Nat.le_refl _) (Nat.le_refl _) (xv_cat1 rfl) (Nat.le_of_ble_eq_true rfl) ?_
  show xv_X sc 4 J_Model_define 0 [some (.ref M), some (.int x), some (.int y), none, none, none] [] u (xv_N u) (xv_S u) _
  have bad : ∀ w, xSi (xRS M) u w → ¬ (∃ f m, f < 8 ∧ m ≤ 3 ∧ x = nI f ∧ y = nI m ∧ xDf O A n x y) → xv_X sc 4 J_Model_define 26 [some (.ref M), some (.int x), some (.int y), none, none, none] [] w (xv_N u) (xv_S u) (xv_q (xv_N u) (xv_S u) (xv_pi (fun r w => (¬ (∃ f m, f < 8 ∧ m ≤ 3 ∧ x = nI f ∧ y = nI m ∧ xDf O A n x y) ∧ r = -1 ∧ xSi (xRS M) u w) ∨ (∃ f m O' w2, f < 8 ∧ m ≤ 3 ∧ x = nI f ∧ y = nI m ∧ xDf O A n x y ∧ r = nI n ∧ xDc u w2 M n f m O A ∧ (∀ i, i < (xTr O A 41 m σ0).1 → (xTr O A 41 m σ0).2.1 i = nI (O' i) ∧ O' i < 22) ∧ xTO w2 w M f (xTr O A 41 m σ0) O')))) := by
    intro w z hno
    refine xv_iconst (pc := 26) (-1) d_Model_define_26 (by decide) ?_
    exact xv_retiq (pc := 27) d_Model_define_27 rfl z.1 z.2.1 ⟨_, rfl, Or.inl ⟨hno, rfl, z⟩⟩
  refine xv_iload_n (pc := 0) d_Model_define_0 rfl rfl ?_
  refine xv_iconst (pc := 1) 0 d_Model_define_1 (by decide) ?_
  refine xv_bipush (pc := 2) 7 d_Model_define_2 (by decide) ?_
  refine xv_cS3i (pc := 4) (d1 := 0) c_Model_is m_Model_is l_Model_102 d_Model_define_4 (by omega) (Nat.le_of_ble_eq_true rfl) ⟨Nat.le_refl _, Nat.le_refl _⟩ (fun r w hw hN hS => ?_)
  obtain ⟨rfl, hw⟩ := hw
  subst w
  refine xv_if_eq (pc := 7) 26 d_Model_define_7 (by decide) (fun h7 => ?_) (fun h7 => ?_)
  · refine bad u xSi_rf (fun ⟨f, m, q1, q2, q3, q4, q5⟩ => xw_eq h7 ?_)
    rw [q3]
    exact ⟨nI_pos0 (by omega), nI_leI8 q1⟩
  refine xv_iload_n (pc := 10) d_Model_define_10 rfl rfl ?_
  refine xv_iconst (pc := 11) 0 d_Model_define_11 (by decide) ?_
  refine xv_iconst (pc := 12) 3 d_Model_define_12 (by decide) ?_
  refine xv_cS3i (pc := 13) (d1 := 0) c_Model_is m_Model_is l_Model_102 d_Model_define_13 (by omega) (Nat.le_of_ble_eq_true rfl) ⟨Nat.le_refl _, Nat.le_refl _⟩ (fun r w hw hN hS => ?_)
  obtain ⟨rfl, hw⟩ := hw
  subst w
  refine xv_if_eq (pc := 16) 26 d_Model_define_16 (by decide) (fun h16 => ?_) (fun h16 => ?_)
  · refine bad u xSi_rf (fun ⟨f, m, q1, q2, q3, q4, q5⟩ => xw_eq h16 ?_)
    rw [q4]
    exact ⟨nI_pos0 (by omega), nI_le (b := 3) q2 (by decide)⟩
  obtain ⟨f, hf, rfl⟩ := xI8 (xw_ne h7)
  obtain ⟨m, hm, rfl⟩ : ∃ m, m ≤ 3 ∧ y = nI m := by
    have e := xw_ne h16
    obtain ⟨q, h1, h2, -⟩ := xIx (n := 4) (x := y) (fun q => q.elim (fun q => absurd q (Int32.not_lt.mpr e.1)) (fun q => absurd (Int32.le_trans q e.2) (by decide))) (by decide)
    exact ⟨q, by omega, h2⟩
  have hcf : (nI f).toNatClampNeg = f := nI_clamp (by omega)
  refine xv_aload_n (pc := 19) d_Model_define_19 rfl rfl ?_
  refine xv_cV0i (pc := 20) (d1 := 1) (c_Model_relate hM hD0) m_Model_relate l_Model_114 d_Model_define_20 (by omega) (by decide : 11 < xv_nc) rfl hM.1 (Nat.le_of_ble_eq_true rfl) ⟨Nat.le_refl _, Nat.le_refl _⟩ (fun r w hw hN hS => ?_)
  obtain ⟨z, hres⟩ := hw
  have hMw := xSi_Mo z hM
  have keep : ∀ c, c ≤ 3 → 1 ≤ c → xv_i w (M + c) = xv_i u (M + c) := fun c h1 h2 => z.2.2.2.2.2.2 _ (fun q => by unfold xRS at q; omega)
  have hDw : xDm w M n O A := by
    unfold xDm
    rw [keep 1 (by decide) (by decide), keep 2 (by decide) (by decide), keep 3 (by decide) (by decide)]
    exact hD0
  rcases hres with ⟨rfl, hok, hup⟩ | ⟨rfl, hno⟩
  case inr =>
    refine xv_if_ne (pc := 23) 28 d_Model_define_23 (by decide) (fun h23 => ?_) (fun h23 => ?_)
    · exact absurd rfl h23
    exact bad w z (fun ⟨f', m', q1, q2, q3, q4, q5⟩ => hno q5.1)
  refine xv_if_ne (pc := 23) 28 d_Model_define_23 (by decide) (fun h23 => ?_) (fun h23 => ?_)
  case refine_2 => exact absurd h23 (by decide)
  have hupw : ∀ c, c < n → xv_i w (M + 5) c = (xRl O n).2.2.2.1 c ∧ xv_i w (M + 6) c = nI ((xRl O n).2.2.2.2 c) ∧ (xRl O n).2.2.2.2 c < 100 ∧ ((xRl O n).2.2.2.1 c = -1 ∨ ∃ j, j < c ∧ (xRl O n).2.2.2.1 c = nI j) := fun c hc => by
    obtain ⟨k1, k2⟩ := xRl_up O n c hc
    exact ⟨(hup c hc).1, (hup c hc).2, by omega, k1⟩
  refine xv_aload_n (pc := 28) d_Model_define_28 rfl rfl ?_
  refine xv_getR (pc := 29) d_Model_define_29 f_Model_16 rfl hMw.1 (xm_r2 hMw) ?_
  refine xv_bipush (pc := 32) 8 d_Model_define_32 (by decide) ?_
  refine xv_ald (pc := 34) d_Model_define_34 (xm_k2 hMw) (xm_i2 hMw xm_8) ?_
  refine xv_istore_3 (pc := 35) d_Model_define_35 (by decide) rfl ?_
  refine xv_iconst (pc := 36) 0 d_Model_define_36 (by decide) ?_
  refine xv_istore_4 (pc := 37) d_Model_define_37 (by decide) rfl ?_
  refine xv_iconst (pc := 39) 0 d_Model_define_39 (by decide) ?_
  refine xv_istore_5 (pc := 40) d_Model_define_40 (by decide) rfl ?_
  rw [e8, hDw.1]
  -- the copy and what follows
  have copy : ∀ c4 : Int32, xDf O A n (nI f) (nI m) → ∀ (q k : Nat) (w1 : xv_M), k + q = n → xSi (fun b => xRS M b ∨ b = M + 1 ∨ b = M + 2) u w1 → (∀ j, j < k → xv_i w1 (M + 1) (40 * f + j) = nI (O j) ∧ xv_i w1 (M + 2) (40 * f + j) = A j) → (∀ j, j < n → xv_i w1 (M + 1) (320 + j) = nI (O j) ∧ xv_i w1 (M + 2) (320 + j) = A j) → xv_X sc 4 J_Model_define 95 [some (.ref M), some (.int (nI f)), some (.int (nI m)), some (.int (nI n)), some (.int c4), some (.int (nI k))] [] w1 (xv_N u) (xv_S u) (xv_q (xv_N u) (xv_S u) (xv_pi (fun r w => (¬ (∃ f' m', f' < 8 ∧ m' ≤ 3 ∧ nI f = nI f' ∧ nI m = nI m' ∧ xDf O A n (nI f) (nI m)) ∧ r = -1 ∧ xSi (xRS M) u w) ∨ (∃ f' m' O' w2, f' < 8 ∧ m' ≤ 3 ∧ nI f = nI f' ∧ nI m = nI m' ∧ xDf O A n (nI f) (nI m) ∧ r = nI n ∧ xDc u w2 M n f' m' O A ∧ (∀ i, i < (xTr O A 41 m' σ0).1 → (xTr O A 41 m' σ0).2.1 i = nI (O' i) ∧ O' i < 22) ∧ xTO w2 w M f' (xTr O A 41 m' σ0) O')))) := by
    intro c4 hdf q
    induction q with
    | zero =>
      intro k w1 hk z1 b1 b2
      have hk : k = n := by omega
      subst hk
      have hM1 := xSi_Mo z1 hM
      have k3 : ∀ q, xv_i w1 (M + 3) q = xv_i u (M + 3) q := fun q => by rw [z1.2.2.2.2.2.2 _ (fun e => by unfold xRS at e; omega)]
      have k4 : ∀ q, xv_i w1 (M + 4) q = xv_i u (M + 4) q := fun q => by rw [z1.2.2.2.2.2.2 _ (fun e => by unfold xRS at e; omega)]
      refine xv_iload (pc := 95) d_Model_define_95 rfl ?_
      refine xv_iload_n (pc := 97) d_Model_define_97 rfl rfl ?_
      refine xv_icmp_ge (pc := 98) 153 d_Model_define_98 (by decide) (fun h98 => ?_) (fun h98 => ?_)
      case refine_2 => exact absurd (Int32.le_refl _) h98
      refine xv_aload_n (pc := 153) d_Model_define_153 rfl rfl ?_
      refine xv_getR (pc := 154) d_Model_define_154 f_Model_16 rfl hM1.1 (xm_r2 hM1) ?_
      refine xv_iload_n (pc := 157) d_Model_define_157 rfl rfl ?_
      refine xv_iload_n (pc := 158) d_Model_define_158 rfl rfl ?_
      refine xv_ast (pc := 159) d_Model_define_159 (xm_k2 hM1) (xm_i2 hM1 (vp_in_nI (by omega) (by decide))) ?_
      refine xv_aload_n (pc := 160) d_Model_define_160 rfl rfl ?_
      refine xv_getR (pc := 161) d_Model_define_161 f_Model_16 rfl hM1.1 (xm_r2 hM1) ?_
      refine xv_bipush (pc := 164) 8 d_Model_define_164 (by decide) ?_
      refine xv_iconst (pc := 166) 0 d_Model_define_166 (by decide) ?_
      refine xv_ast (pc := 167) d_Model_define_167 (xm_k2 hM1) (xm_i2 hM1 xm_8) ?_
      refine xv_aload_n (pc := 168) d_Model_define_168 rfl rfl ?_
      refine xv_getR (pc := 169) d_Model_define_169 f_Model_19 rfl hM1.1 (xm_r3 hM1) ?_
      refine xv_iload_n (pc := 172) d_Model_define_172 rfl rfl ?_
      refine xv_iload_n (pc := 173) d_Model_define_173 rfl rfl ?_
      refine xv_ast (pc := 174) d_Model_define_174 (xm_k3 hM1) (xm_i3 hM1 (vp_in_nI hf (by decide))) ?_
      refine xv_aload_n (pc := 175) d_Model_define_175 rfl rfl ?_
      refine xv_iload_n (pc := 176) d_Model_define_176 rfl rfl ?_
      rw [hcf, e8]
      obtain ⟨p1, p2, p3, O', β, p4, p5⟩ := hp f m hf hm hdf
      have hdc : xDc u (xv_si (xv_si (xv_si w1 (M + 3) f (nI k)) (M + 3) 8 0) (M + 4) f (nI m)) M k f m O A := by
        refine ⟨xSi_tr (xSi_mono z1 (fun _ h => by
          rcases h with h | h | h
          · exact Or.inl h
          · exact Or.inr (Or.inl h)
          · exact Or.inr (Or.inr (Or.inl h)))) (xSi_tr (xSi_tr (xSi_si (Or.inr (Or.inr (Or.inr (Or.inl rfl))))) (xSi_si (Or.inr (Or.inr (Or.inr (Or.inl rfl)))))) (xSi_si (Or.inr (Or.inr (Or.inr (Or.inr rfl)))))), fun j hj => ?_, fun q h1 h2 => ?_, ?_, ?_, fun q h1 => ?_, xv_si_eq⟩
        · rw [xv_si_ne (by omega), xv_si_ne (by omega), xv_si_ne (by omega), xv_si_ne (by omega), xv_si_ne (by omega), xv_si_ne (by omega)]
          exact b1 j hj
        · rw [xv_si_ne (by omega), xv_si_nj h2, xv_si_nj h1]; exact k3 q
        · rw [xv_si_ne (by omega), xv_si_nj (by omega), xv_si_eq]
        · rw [xv_si_ne (by omega), xv_si_eq]
        · rw [xv_si_nj h1, xv_si_ne (by omega), xv_si_ne (by omega)]; exact k4 q
      generalize xv_si (xv_si (xv_si w1 (M + 3) f (nI k)) (M + 3) 8 0) (M + 4) f (nI m) = w2 at *
      have hM2 := xSi_Mo hdc.1 hM
      have hFm : xFm w2 M f k O A := ⟨hdc.2.2.2.1, hn40, fun j hj => ⟨(hdc.2.1 j hj).1, (htk j hj).2.1, (hdc.2.1 j hj).2⟩⟩
      refine xv_cV1v (pc := 177) (d1 := 3) (c_Model_translate hM2 hf hFm hdc.2.2.2.2.2.2 hm p1 p2 p3 h0 hφ p4 p5) m_Model_translate l_Model_121 d_Model_define_177 (by omega) (by decide : 11 < xv_nc) rfl hM2.1 (Nat.le_of_ble_eq_true rfl) (xSi_le hdc.1) (fun w3 hw hN hS => ?_)
      refine xv_iload_n (pc := 180) d_Model_define_180 rfl rfl ?_
      exact xv_retiq (pc := 181) d_Model_define_181 rfl (by rw [hN]; exact hdc.1.1) (by rw [hS]; exact hdc.1.2.1) ⟨_, rfl, Or.inr ⟨f, m, O', w2, hf, hm, rfl, rfl, hdf, rfl, hdc, (fun i hi => ⟨p4 i hi, (p5.2.2.2 i hi).1⟩), hw⟩⟩
    | succ q ih =>
      intro k w1 hk z1 b1 b2
      have hM1 := xSi_Mo z1 hM
      have es : nI k + Int32.ofInt 1 = nI (k + 1) := by rw [nI_succ]; rfl
      have ci : (nI (40 * f + k)).toNatClampNeg = 40 * f + k := nI_clamp (by omega)
      have ii : vp_in (nI (40 * f + k)) 360 := vp_in_nI (by omega) (by decide)
      have c3 : (nI (320 + k)).toNatClampNeg = 320 + k := nI_clamp (by omega)
      have i3 : vp_in (nI (320 + k)) 360 := vp_in_nI (by omega) (by decide)
      obtain ⟨o1, o2⟩ := b2 k (by omega)
      refine xv_iload (pc := 95) d_Model_define_95 rfl ?_
      refine xv_iload_n (pc := 97) d_Model_define_97 rfl rfl ?_
      refine xv_icmp_ge (pc := 98) 153 d_Model_define_98 (by decide) (fun h98 => ?_) (fun h98 => ?_)
      · exact absurd h98 (nI_ge (by omega) (by omega))
      refine xv_aload_n (pc := 101) d_Model_define_101 rfl rfl ?_
      refine xv_getR (pc := 102) d_Model_define_102 f_Model_7 rfl hM1.1 (xm_r0 hM1) ?_
      refine xv_bipush (pc := 105) 40 d_Model_define_105 (by decide) ?_
      refine xv_iload_n (pc := 107) d_Model_define_107 rfl rfl ?_
      refine xv_imul (pc := 108) d_Model_define_108 ?_
      refine xv_iload (pc := 109) d_Model_define_109 rfl ?_
      refine xv_iadd (pc := 111) d_Model_define_111 ?_
      refine xv_aload_n (pc := 112) d_Model_define_112 rfl rfl ?_
      refine xv_getR (pc := 113) d_Model_define_113 f_Model_7 rfl hM1.1 (xm_r0 hM1) ?_
      refine xv_sipush (pc := 116) 320 d_Model_define_116 (by decide) ?_
      refine xv_iload (pc := 119) d_Model_define_119 rfl ?_
      refine xv_iadd (pc := 121) d_Model_define_121 ?_
      refine xv_ald (pc := 122) d_Model_define_122 (xm_k0 hM1) (by rw [x320]; exact xm_i0 hM1 i3) ?_
      refine xv_ast (pc := 123) d_Model_define_123 (xm_k0 hM1) (by rw [xIdx40]; exact xm_i0 hM1 ii) ?_
      refine xv_aload_n (pc := 124) d_Model_define_124 rfl rfl ?_
      refine xv_getR (pc := 125) d_Model_define_125 f_Model_13 rfl hM1.1 (xm_r1 hM1) ?_
      refine xv_bipush (pc := 128) 40 d_Model_define_128 (by decide) ?_
      refine xv_iload_n (pc := 130) d_Model_define_130 rfl rfl ?_
      refine xv_imul (pc := 131) d_Model_define_131 ?_
      refine xv_iload (pc := 132) d_Model_define_132 rfl ?_
      refine xv_iadd (pc := 134) d_Model_define_134 ?_
      refine xv_aload_n (pc := 135) d_Model_define_135 rfl rfl ?_
      refine xv_getR (pc := 136) d_Model_define_136 f_Model_13 rfl hM1.1 (xm_r1 hM1) ?_
      refine xv_sipush (pc := 139) 320 d_Model_define_139 (by decide) ?_
      refine xv_iload (pc := 142) d_Model_define_142 rfl ?_
      refine xv_iadd (pc := 144) d_Model_define_144 ?_
      refine xv_ald (pc := 145) d_Model_define_145 (xm_k1 hM1) (by rw [x320]; exact xm_i1 hM1 i3) ?_
      refine xv_ast (pc := 146) d_Model_define_146 (xm_k1 hM1) (by rw [xIdx40]; exact xm_i1 hM1 ii) ?_
      refine xv_iinc_5 (pc := 147) (nI (k + 1)) d_Model_define_147 es (by decide) rfl ?_
      refine xv_goto (pc := 150) 95 d_Model_define_150 (by decide) ?_
      rw [x320, xIdx40, c3, ci, o1, xv_si_ne (by omega), o2]
      refine ih (k + 1) _ (by omega) (xSi_tr z1 (xSi_tr (xSi_si (Or.inr (Or.inl rfl))) (xSi_si (Or.inr (Or.inr rfl))))) (fun j hj => ?_) (fun j hj => ?_)
      · rw [xv_si_ne (by omega), xv_si_if, xv_si_if, xv_si_ne (by omega)]
        by_cases e : j = k
        · subst e
          rw [if_pos rfl, if_pos rfl]
          exact ⟨rfl, rfl⟩
        · rw [if_neg (by omega), if_neg (by omega)]
          exact b1 j (by omega)
      · rw [xv_si_ne (by omega), xv_si_nj (by omega), xv_si_nj (by omega), xv_si_ne (by omega)]
        exact b2 j hj
  -- the tokens one by one
  have test : ∀ (q k : Nat), k + q = n → (∀ j, j < k → xStk O A n (nI f) (nI m) j = true) → xCnt (fun i => nI (O i)) k ≤ 2 → xv_X sc 4 J_Model_define 42 [some (.ref M), some (.int (nI f)), some (.int (nI m)), some (.int (nI n)), some (.int (nI (xCnt (fun i => nI (O i)) k))), some (.int (nI k))] [] w (xv_N u) (xv_S u) (xv_q (xv_N u) (xv_S u) (xv_pi (fun r w => (¬ (∃ f' m', f' < 8 ∧ m' ≤ 3 ∧ nI f = nI f' ∧ nI m = nI m' ∧ xDf O A n (nI f) (nI m)) ∧ r = -1 ∧ xSi (xRS M) u w) ∨ (∃ f' m' O' w2, f' < 8 ∧ m' ≤ 3 ∧ nI f = nI f' ∧ nI m = nI m' ∧ xDf O A n (nI f) (nI m) ∧ r = nI n ∧ xDc u w2 M n f' m' O A ∧ (∀ i, i < (xTr O A 41 m' σ0).1 → (xTr O A 41 m' σ0).2.1 i = nI (O' i) ∧ O' i < 22) ∧ xTO w2 w M f' (xTr O A 41 m' σ0) O')))) := by
    intro q
    induction q with
    | zero =>
      intro k hk hs hc
      have hk : k = n := by omega
      subst hk
      refine xv_iload (pc := 42) d_Model_define_42 rfl ?_
      refine xv_iload_n (pc := 44) d_Model_define_44 rfl rfl ?_
      refine xv_icmp_ge (pc := 45) 92 d_Model_define_45 (by decide) (fun h45 => ?_) (fun h45 => ?_)
      case refine_2 => exact absurd (Int32.le_refl _) h45
      refine xv_iconst (pc := 92) 0 d_Model_define_92 (by decide) ?_
      refine xv_istore_5 (pc := 93) d_Model_define_93 (by decide) rfl ?_
      exact copy _ ⟨hok, hs, hc⟩ k 0 w (by omega) (xSi_mono z (fun _ h => Or.inl h)) (fun j hj => absurd hj (Nat.not_lt_zero j)) (fun j hj => ⟨(hDw.2.2 j hj).1, (hDw.2.2 j hj).2.2⟩)
    | succ q ih =>
      intro k hk hs hc
      have es : nI k + Int32.ofInt 1 = nI (k + 1) := by rw [nI_succ]; rfl
      have ec : nI (xCnt (fun i => nI (O i)) k) + Int32.ofInt 1 = nI (xCnt (fun i => nI (O i)) k + 1) := by rw [nI_succ]; rfl
      have c3 : (nI (320 + k)).toNatClampNeg = 320 + k := nI_clamp (by omega)
      have i3 : vp_in (nI (320 + k)) 360 := vp_in_nI (by omega) (by decide)
      obtain ⟨o1, o2, o3⟩ := hDw.2.2 k (by omega)
      have hcs : xCnt (fun i => nI (O i)) (k + 1) = xCnt (fun i => nI (O i)) k + (if nI (O k) = 17 then 1 else 0) := rfl
      have cnt3 : xCnt (fun i => nI (O i)) (k + 1) ≤ 3 := by rw [hcs]; split <;> omega
      have at67 : xv_X sc 4 J_Model_define 67 [some (.ref M), some (.int (nI f)), some (.int (nI m)), some (.int (nI n)), some (.int (nI (xCnt (fun i => nI (O i)) (k + 1)))), some (.int (nI k))] [] w (xv_N u) (xv_S u) (xv_q (xv_N u) (xv_S u) (xv_pi (fun r w => (¬ (∃ f' m', f' < 8 ∧ m' ≤ 3 ∧ nI f = nI f' ∧ nI m = nI m' ∧ xDf O A n (nI f) (nI m)) ∧ r = -1 ∧ xSi (xRS M) u w) ∨ (∃ f' m' O' w2, f' < 8 ∧ m' ≤ 3 ∧ nI f = nI f' ∧ nI m = nI m' ∧ xDf O A n (nI f) (nI m) ∧ r = nI n ∧ xDc u w2 M n f' m' O A ∧ (∀ i, i < (xTr O A 41 m' σ0).1 → (xTr O A 41 m' σ0).2.1 i = nI (O' i) ∧ O' i < 22) ∧ xTO w2 w M f' (xTr O A 41 m' σ0) O')))) := by
        have cst := c_Model_stands (sc := sc) (f := nI f) (m := nI m) hMw hDw (show k < n by omega) hupw
        have t2 : (nI (xCnt (fun i => nI (O i)) (k + 1)) ≤ 2) ↔ xCnt (fun i => nI (O i)) (k + 1) ≤ 2 := nI_leI (b := 2) (by omega) (by decide)
        have no84 : ¬ xDf O A n (nI f) (nI m) → xv_X sc 4 J_Model_define 84 [some (.ref M), some (.int (nI f)), some (.int (nI m)), some (.int (nI n)), some (.int (nI (xCnt (fun i => nI (O i)) (k + 1)))), some (.int (nI k))] [] w (xv_N u) (xv_S u) (xv_q (xv_N u) (xv_S u) (xv_pi (fun r w => (¬ (∃ f' m', f' < 8 ∧ m' ≤ 3 ∧ nI f = nI f' ∧ nI m = nI m' ∧ xDf O A n (nI f) (nI m)) ∧ r = -1 ∧ xSi (xRS M) u w) ∨ (∃ f' m' O' w2, f' < 8 ∧ m' ≤ 3 ∧ nI f = nI f' ∧ nI m = nI m' ∧ xDf O A n (nI f) (nI m) ∧ r = nI n ∧ xDc u w2 M n f' m' O A ∧ (∀ i, i < (xTr O A 41 m' σ0).1 → (xTr O A 41 m' σ0).2.1 i = nI (O' i) ∧ O' i < 22) ∧ xTO w2 w M f' (xTr O A 41 m' σ0) O')))) := by
          intro hno
          refine xv_iconst (pc := 84) (-1) d_Model_define_84 (by decide) ?_
          exact xv_retiq (pc := 85) d_Model_define_85 rfl z.1 z.2.1 ⟨_, rfl, Or.inl ⟨fun ⟨f', m', q1, q2, q3, q4, q5⟩ => hno q5, rfl, z⟩⟩
        refine xv_aload_n (pc := 67) d_Model_define_67 rfl rfl ?_
        refine xv_iload (pc := 68) d_Model_define_68 rfl ?_
        refine xv_iload_n (pc := 70) d_Model_define_70 rfl rfl ?_
        refine xv_iload_n (pc := 71) d_Model_define_71 rfl rfl ?_
        refine xv_cV3i (pc := 72) (d1 := 0) cst m_Model_stands l_Model_118 d_Model_define_72 (by omega) (by decide : 11 < xv_nc) rfl hMw.1 (Nat.le_of_ble_eq_true rfl) (xSi_le z) (fun r w1 hw hN hS => ?_)
        obtain ⟨hr, hw⟩ := hw
        subst w1
        subst hr
        refine xv_if_eq (pc := 75) 84 d_Model_define_75 (by decide) (fun h75 => ?_) (fun h75 => ?_)
        · have e := xB_eq h75
          refine no84 (fun q => ?_)
          have := q.2.1 k (by omega)
          unfold xStk at this
          rw [this] at e
          cases e
        have e := xB_ne h75
        refine xv_iload (pc := 78) d_Model_define_78 rfl ?_
        refine xv_iconst (pc := 80) 2 d_Model_define_80 (by decide) ?_
        refine xv_icmp_le (pc := 81) 86 d_Model_define_81 (by decide) (fun h81 => ?_) (fun h81 => ?_)
        · rw [t2] at h81
          refine xv_iinc_5 (pc := 86) (nI (k + 1)) d_Model_define_86 es (by decide) rfl ?_
          refine xv_goto (pc := 89) 42 d_Model_define_89 (by decide) ?_
          refine ih (k + 1) (by omega) (fun j hj => ?_) h81
          by_cases c : j = k
          · subst c; exact e
          · exact hs j (by omega)
        · rw [t2] at h81
          exact no84 (fun q => h81 (Nat.le_trans (xCnt_mono _ (by omega)) q.2.2))
      refine xv_iload (pc := 42) d_Model_define_42 rfl ?_
      refine xv_iload_n (pc := 44) d_Model_define_44 rfl rfl ?_
      refine xv_icmp_ge (pc := 45) 92 d_Model_define_45 (by decide) (fun h45 => ?_) (fun h45 => ?_)
      · exact absurd h45 (nI_ge (by omega) (by omega))
      refine xv_aload_n (pc := 48) d_Model_define_48 rfl rfl ?_
      refine xv_getR (pc := 49) d_Model_define_49 f_Model_7 rfl hMw.1 (xm_r0 hMw) ?_
      refine xv_sipush (pc := 52) 320 d_Model_define_52 (by decide) ?_
      refine xv_iload (pc := 55) d_Model_define_55 rfl ?_
      refine xv_iadd (pc := 57) d_Model_define_57 ?_
      refine xv_ald (pc := 58) d_Model_define_58 (xm_k0 hMw) (by rw [x320]; exact xm_i0 hMw i3) ?_
      refine xv_bipush (pc := 59) 17 d_Model_define_59 (by decide) ?_
      refine xv_icmp_ne (pc := 61) 67 d_Model_define_61 (by decide) (fun h61 => ?_) (fun h61 => ?_)
      · rw [x320, c3, o1] at h61
        rw [hcs, if_neg h61] at at67
        exact at67
      · rw [x320, c3, o1] at h61
        rw [hcs, if_pos h61] at at67
        refine xv_iinc_4 (pc := 64) (nI (xCnt (fun i => nI (O i)) k + 1)) d_Model_define_64 ec (by decide) rfl ?_
        exact at67
  exact test n 0 (by omega) (fun j hj => absurd hj (Nat.not_lt_zero j)) (Nat.zero_le _)

