/-! the model: translate -/
def xUS (M b : Nat) : Prop := xTS M b ∨ b = M + 10 ∨ b = M + 11 ∨ b = M + 12
/-- what translate makes: row f of units σ, how many, how many values at the most -/
def xTO (u w : xv_M) (M f : Nat) (σ : xQ) (O : Nat → Nat) : Prop := xSi (xUS M) u w ∧ (∀ j, ¬ j = 36 → xv_i w M j = xv_i u M j) ∧ (∀ c, c = 7 ∨ c = 8 ∨ c = 9 ∨ c = 13 → ∀ q, q < 280 * f ∨ 280 * f + 280 ≤ q → xv_i w (M + c) q = xv_i u (M + c) q) ∧ (∀ i, i < σ.1 → xv_i w (M + 7) (280 * f + i) = σ.2.1 i ∧ xv_i w (M + 8) (280 * f + i) = σ.2.2.1 i ∧ xv_i w (M + 9) (280 * f + i) = σ.2.2.2.1 i ∧ xv_i w (M + 13) (280 * f + i) = σ.2.2.2.2.1 i) ∧ (∀ q, ¬ q = f → xv_i w (M + 10) q = xv_i u (M + 10) q ∧ xv_i w (M + 11) q = xv_i u (M + 11) q) ∧ xv_i w (M + 10) f = nI σ.1 ∧ ((xv_i w (M + 11) f = -1 ∧ xBad σ.1 O σ.2.2.1 σ.2.2.2.1) ∨ ∃ g, xv_i w (M + 11) f = nI g ∧ g ≤ 100 ∧ xGdM σ.1 O σ.2.2.1 σ.2.2.2.1 g)
theorem c_Model_translate {sc : Nat × (Nat → Int32)} {u : xv_M} {M f n m : Nat} {O O' : Nat → Nat} {A : Nat → Int32} {β : Nat → Nat} {σ0 : xQ} (hM : xMo u M) (hf : f < 8) (hF : xFm u M f n O A) (hm : xv_i u (M + 4) f = nI m) (hm3 : m ≤ 3) (hv : xVF O n 41 0) (hx : xNx O 41 0 = n) (hsz : xSz O 41 0 ≤ 250) (h0 : σ0.1 = 0) (hφ : ∀ i, i < 265 → σ0.2.2.2.2.1 i = 0) (hO' : ∀ i, i < (xTr O A 41 m σ0).1 → (xTr O A 41 m σ0).2.1 i = nI (O' i)) (hB : xHB (xTr O A 41 m σ0).1 O' (xTr O A 41 m σ0).2.2.1 (xTr O A 41 m σ0).2.2.2.1 β) : xv_C sc 3 J_Model_translate [.ref M, .int (nI f)] u (xv_N u) (xv_S u) (xv_pv (fun w => xTO u w M f (xTr O A 41 m σ0) O')) := by
  have hcf : (nI f).toNatClampNeg = f := nI_clamp (by omega)
  have hn40 := hF.2.1
  generalize hτ : xPre (7 - m) m σ0 = τ
  have hTr : (xTr O A 41 m σ0) = xEm (xEmF O A 41 0 τ) 17 0 := by show xEm (xEmF O A 41 0 (xPre (7 - m) m σ0)) 17 0 = _; rw [hτ]
  have hτn : τ.1 = 2 * (7 - m) := by rw [← hτ, xPre_n, h0, Nat.zero_add]
  have hEn := xEmF_n (O := O) (A := A) 41 0 τ
  rw [hTr] at hO' hB ⊢
  generalize hE : xEmF O A 41 0 τ = E at *
  refine xv_C_of (by decide) (Nat.le_refl _) (Nat.le_refl _) (xv_cat1 rfl) (Nat.le_of_ble_eq_true rfl) ?_
  show xv_X sc 3 J_Model_translate 0 [some (.ref M), some (.int (nI f)), none, none, none, none, none, none] [] u (xv_N u) (xv_S u) _
  -- behind the tokens
  have fin : ∀ w, xTQ u w M f 0 → xMT w M f E → xH2 sc 3 M f (xv_N u) (xv_S u) (xv_q (xv_N u) (xv_S u) (xv_pv (fun w => xTO u w M f (xEm E 17 0) O'))) (n - 1) 0 w := by
    intro w z T
    have hMw := xSi_Mo z.1 hM
    obtain ⟨f1, f2, f3⟩ := xFm_w z hF
    have hn1 : 1 ≤ n := by have := xNx_gt O 41 0; omega
    have es : nI (n - 1) + Int32.ofInt 1 = nI n := by
      rw [show nI n = nI (n - 1 + 1) by rw [show n - 1 + 1 = n by omega], nI_succ]; rfl
    unfold xH2
    refine xv_iload (pc := 126) d_Model_translate_126 rfl ?_
    refine xv_if_eq (pc := 128) 171 d_Model_translate_128 (by decide) (fun h128 => ?_) (fun h128 => ?_)
    · exact absurd h128 (by decide)
    refine xv_iload_n (pc := 131) d_Model_translate_131 rfl rfl ?_
    refine xv_if_le (pc := 132) 171 d_Model_translate_132 (by decide) (fun h132 => ?_) (fun h132 => ?_)
    case refine_2 => exact absurd (by decide) h132
    refine xv_iinc_3 (pc := 171) (nI n) d_Model_translate_171 es (by decide) rfl ?_
    refine xv_goto (pc := 174) 47 d_Model_translate_174 (by decide) ?_
    refine xv_iload_n (pc := 47) d_Model_translate_47 rfl rfl ?_
    refine xv_aload_n (pc := 48) d_Model_translate_48 rfl rfl ?_
    refine xv_getR (pc := 49) d_Model_translate_49 f_Model_16 rfl hMw.1 (xm_r2 hMw) ?_
    refine xv_iload_n (pc := 52) d_Model_translate_52 rfl rfl ?_
    refine xv_ald (pc := 53) d_Model_translate_53 (xm_k2 hMw) (xm_i2 hMw (vp_in_nI (by omega) (by decide))) ?_
    refine xv_icmp_ge (pc := 54) 177 d_Model_translate_54 (by decide) (fun h54 => ?_) (fun h54 => ?_)
    case refine_2 =>
      rw [hcf, f1] at h54
      exact absurd (Int32.le_refl _) h54
    refine xv_aload_n (pc := 177) d_Model_translate_177 rfl rfl ?_
    refine xv_iload_n (pc := 178) d_Model_translate_178 rfl rfl ?_
    refine xv_bipush (pc := 179) 17 d_Model_translate_179 (by decide) ?_
    refine xv_iconst (pc := 181) 0 d_Model_translate_181 (by decide) ?_
    refine xv_iconst (pc := 182) 0 d_Model_translate_182 (by decide) ?_
    refine xv_cV4i (pc := 183) (d1 := 0) (c_Model_put (σ := E) hMw hf T (by omega)) m_Model_put l_Model_128 d_Model_translate_183 (by omega) (by decide : 11 < xv_nc) rfl hMw.1 (Nat.le_of_ble_eq_true rfl) (xSi_le z.1) (fun r w1 hw hN hS => ?_)
    obtain ⟨rfl, t1, p1⟩ := hw
    have z1 := xTQ_tr (Nat.le_refl _) z (xTQ_P (d := 0) p1)
    have hM1 := xSi_Mo z1.1 hM
    have hun : xv_i w1 M 36 = nI (E.1 + 1) := t1.1
    refine xv_pop_int (pc := 186) d_Model_translate_186 ?_
    refine xv_aload_n (pc := 187) d_Model_translate_187 rfl rfl ?_
    refine xv_getR (pc := 188) d_Model_translate_188 f_Model_37 rfl hM1.1 (xm_r9 hM1) ?_
    refine xv_iload_n (pc := 191) d_Model_translate_191 rfl rfl ?_
    refine xv_aload_n (pc := 192) d_Model_translate_192 rfl rfl ?_
    refine xv_getI (pc := 193) d_Model_translate_193 f_Model_125 rfl hM1.1 ?_
    refine xv_ast (pc := 196) d_Model_translate_196 (xm_k9 hM1) (xm_i9 hM1 (vp_in_nI (by omega) (by decide))) ?_
    refine xv_aload_n (pc := 197) d_Model_translate_197 rfl rfl ?_
    refine xv_getR (pc := 198) d_Model_translate_198 f_Model_40 rfl hM1.1 (xm_r10 hM1) ?_
    refine xv_iload_n (pc := 201) d_Model_translate_201 rfl rfl ?_
    refine xv_aload_n (pc := 202) d_Model_translate_202 rfl rfl ?_
    refine xv_iload_n (pc := 203) d_Model_translate_203 rfl rfl ?_
    rw [hcf, hun]
    have hM2 : xMo (xv_si w1 (M + 10) f (nI (E.1 + 1))) M := hM1
    have hRu : xRu (xv_si w1 (M + 10) f (nI (E.1 + 1))) M f (E.1 + 1) O' (xEm E 17 0).2.2.1 (xEm E 17 0).2.2.2.1 := by
      refine ⟨xv_si_eq, by omega, by omega, fun i hi => ?_⟩
      obtain ⟨k1, k2, k3, k4⟩ := t1.2.1 i hi
      exact ⟨by rw [xv_si_ne (by omega), k1]; exact hO' i hi, by rw [xv_si_ne (by omega)]; exact k2, by rw [xv_si_ne (by omega)]; exact k3⟩
    refine xv_cV1i (pc := 204) (d1 := 1) (c_Model_measure (r := f) hM2 (by omega) hRu hB) m_Model_measure l_Model_135 d_Model_translate_204 (by omega) (by decide : 11 < xv_nc) rfl hM1.1 (Nat.le_of_ble_eq_true rfl) ⟨Nat.le_of_eq z1.1.1, Nat.le_of_eq z1.1.2.1⟩ (fun r w2 hw hN2 hS2 => ?_)
    obtain ⟨z2, hres⟩ := hw
    have hM3 := xSi_Mo z2 hM2
    refine xv_ast (pc := 207) d_Model_translate_207 (xm_k10 hM3) (xm_i10 hM3 (vp_in_nI (by omega) (by decide))) ?_
    rw [hcf]
    have far : ∀ c q, ¬ c = 12 → ¬ c = 11 → xv_i (xv_si w2 (M + 11) f r) (M + c) q = xv_i (xv_si w1 (M + 10) f (nI (E.1 + 1))) (M + c) q := fun c q h1 h2 => by
      rw [xv_si_ne (by omega), z2.2.2.2.2.2.2 _ (fun e => by unfold xM12 at e; omega)]
    have far2 : ∀ c q, ¬ c = 12 → ¬ c = 11 → ¬ c = 10 → xv_i (xv_si w2 (M + 11) f r) (M + c) q = xv_i w1 (M + c) q := fun c q h1 h2 h3 => by
      rw [far c q h1 h2, xv_si_ne (by omega)]
    have zall : xSi (xUS M) u (xv_si w2 (M + 11) f r) := xSi_tr (xSi_tr (xSi_tr (xSi_mono z1.1 (fun _ h => Or.inl h)) (xSi_si (Or.inr (Or.inl rfl)))) (xSi_mono z2 (fun _ h => Or.inr (Or.inr (Or.inr h))))) (xSi_si (Or.inr (Or.inr (Or.inl rfl))))
    refine xv_retvq (pc := 208) d_Model_translate_208 rfl zall.1 zall.2.1 ⟨rfl, zall, fun j hj => ?_, fun c hc q hq => ?_, fun i hi => ?_, fun q hq => ⟨?_, ?_⟩, ?_, ?_⟩
    · exact (far2 0 j (by decide) (by decide) (by decide)).trans (z1.2.1 j hj)
    · rw [far2 c q (by omega) (by omega) (by omega)]
      exact z1.2.2.1 c hc q hq
    · rw [far2 7 _ (by decide) (by decide) (by decide), far2 8 _ (by decide) (by decide) (by decide), far2 9 _ (by decide) (by decide) (by decide), far2 13 _ (by decide) (by decide) (by decide)]
      exact t1.2.1 i hi
    · rw [far 10 q (by decide) (by decide), xv_si_nj hq, z1.1.2.2.2.2.2.2 _ (fun e => by unfold xTS xBS xPS at e; omega)]
    · rw [xv_si_nj hq, z2.2.2.2.2.2.2 _ (fun e => by unfold xM12 at e; omega), xv_si_ne (by omega), z1.1.2.2.2.2.2.2 _ (fun e => by unfold xTS xBS xPS at e; omega)]
    · rw [far 10 f (by decide) (by decide), xv_si_eq]
      rfl
    · rw [xv_si_eq]
      exact hres
  -- the first units
  have loop : ∀ (q v : Nat) (σ : xQ) (w : xv_M), v + q = 7 → σ.1 + 2 * q ≤ 14 → xPre q v σ = τ → xTQ u w M f 0 → xMT w M f σ → xv_X sc 3 J_Model_translate 14 [some (.ref M), some (.int (nI f)), some (.int 0), some (.int (nI v)), none, none, none, none] [] w (xv_N u) (xv_S u) (xv_q (xv_N u) (xv_S u) (xv_pv (fun w => xTO u w M f (xEm E 17 0) O'))) := by
    intro q
    induction q with
    | zero =>
      intro v σ w hq hs hx' z T
      have hq : v = 7 := by omega
      subst hq
      unfold xPre at hx'
      subst hx'
      refine xv_iload_n (pc := 14) d_Model_translate_14 rfl rfl ?_
      refine xv_bipush (pc := 15) 7 d_Model_translate_15 (by decide) ?_
      refine xv_icmp_ge (pc := 17) 45 d_Model_translate_17 (by decide) (fun h17 => ?_) (fun h17 => ?_)
      case refine_2 => exact absurd (by decide) h17
      refine xv_iconst (pc := 45) 0 d_Model_translate_45 (by decide) ?_
      refine xv_istore_3 (pc := 46) d_Model_translate_46 (by decide) rfl ?_
      refine xTrL hM hf hF (Nat.le_refl _) (Nat.le_refl _) (Nat.le_refl _) 41 0 0 σ w hv z T (Nat.le_refl _) (by omega) (fun w' z' T' => ?_)
      rw [hx]
      rw [hE] at T'
      exact fin w' (xTQ_tr (Nat.le_refl _) z z') T'
    | succ q ih =>
      intro v σ w hq hs hx' z T
      have hMw := xSi_Mo z.1 hM
      have es : nI v + Int32.ofInt 1 = nI (v + 1) := by rw [nI_succ]; rfl
      refine xv_iload_n (pc := 14) d_Model_translate_14 rfl rfl ?_
      refine xv_bipush (pc := 15) 7 d_Model_translate_15 (by decide) ?_
      refine xv_icmp_ge (pc := 17) 45 d_Model_translate_17 (by decide) (fun h17 => ?_) (fun h17 => ?_)
      · exact absurd h17 (nI_ge (b := 7) (by omega) (by decide))
      refine xv_aload_n (pc := 20) d_Model_translate_20 rfl rfl ?_
      refine xv_iload_n (pc := 21) d_Model_translate_21 rfl rfl ?_
      refine xv_iconst (pc := 22) 0 d_Model_translate_22 (by decide) ?_
      refine xv_iconst (pc := 23) 0 d_Model_translate_23 (by decide) ?_
      refine xv_iconst (pc := 24) 0 d_Model_translate_24 (by decide) ?_
      refine xv_cV4i (pc := 25) (d1 := 0) (c_Model_put (o := 0) hMw hf T (by omega)) m_Model_put l_Model_128 d_Model_translate_25 (by omega) (by decide : 11 < xv_nc) rfl hMw.1 (Nat.le_of_ble_eq_true rfl) (xSi_le z.1) (fun r w1 hw hN hS => ?_)
      obtain ⟨rfl, t1, p1⟩ := hw
      have z1 := xTQ_tr (Nat.le_refl _) z (xTQ_P (d := 0) p1)
      have hM1 := xSi_Mo z1.1 hM
      refine xv_pop_int (pc := 28) d_Model_translate_28 ?_
      refine xv_aload_n (pc := 29) d_Model_translate_29 rfl rfl ?_
      refine xv_iload_n (pc := 30) d_Model_translate_30 rfl rfl ?_
      refine xv_bipush (pc := 31) 13 d_Model_translate_31 (by decide) ?_
      refine xv_iload_n (pc := 33) d_Model_translate_33 rfl rfl ?_
      refine xv_iconst (pc := 34) 0 d_Model_translate_34 (by decide) ?_
      refine xv_cV4i (pc := 35) (d1 := 0) (c_Model_put (o := 13) hM1 hf t1 (show σ.1 + 1 < 265 by omega)) m_Model_put l_Model_128 d_Model_translate_35 (by omega) (by decide : 11 < xv_nc) rfl hM1.1 (Nat.le_of_ble_eq_true rfl) (xSi_le z1.1) (fun r w2 hw hN2 hS2 => ?_)
      obtain ⟨rfl, t2, p2⟩ := hw
      have z2 := xTQ_tr (Nat.le_refl _) z1 (xTQ_P (d := 0) p2)
      refine xv_pop_int (pc := 38) d_Model_translate_38 ?_
      refine xv_iinc_3 (pc := 39) (nI (v + 1)) d_Model_translate_39 es (by decide) rfl ?_
      refine xv_goto (pc := 42) 14 d_Model_translate_42 (by decide) ?_
      exact ih (v + 1) _ w2 (by omega) (by show σ.1 + 1 + 1 + 2 * q ≤ 14; omega) hx' z2 t2
  refine xv_iconst (pc := 0) 0 d_Model_translate_0 (by decide) ?_
  refine xv_istore_2 (pc := 1) d_Model_translate_1 (by decide) rfl ?_
  refine xv_aload_n (pc := 2) d_Model_translate_2 rfl rfl ?_
  refine xv_iconst (pc := 3) 0 d_Model_translate_3 (by decide) ?_
  refine xv_putI (pc := 4) d_Model_translate_4 f_Model_125 (Or.inl rfl) fin_11_36 hM.1 ?_
  refine xv_aload_n (pc := 7) d_Model_translate_7 rfl rfl ?_
  refine xv_getR (pc := 8) d_Model_translate_8 f_Model_19 rfl hM.1 (xm_r3 hM) ?_
  refine xv_iload_n (pc := 11) d_Model_translate_11 rfl rfl ?_
  refine xv_ald (pc := 12) d_Model_translate_12 (xm_k3 hM) (xm_i3 hM (vp_in_nI hf (by decide))) ?_
  refine xv_istore_3 (pc := 13) d_Model_translate_13 (by decide) rfl ?_
  rw [hcf, xv_si_ne (by omega), hm]
  have hpf : xPF u (xv_si u M 36 0) M f := xPF_n
  refine loop (7 - m) m σ0 _ (by omega) (by omega) hτ (xTQ_P hpf) ⟨by rw [xv_si_eq, h0]; rfl, fun i hi => absurd hi (by omega), fun i _ hi2 => hφ i hi2⟩

