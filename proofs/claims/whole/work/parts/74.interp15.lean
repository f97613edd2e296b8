/-! Interpreter.answer -/
def xGf (L nP : Nat → Nat) (O : Nat → Nat → Nat) (A : Nat → Nat → Int32) : Prop := ∀ f, f < 8 → xTok (O f) (A f) (L f) ∧ nP f ≤ 3 ∧ (0 < L f → xOne (O f) (A f) (L f) (nI f) (nI (nP f)) = true)
theorem xLow_at {f g : Nat → Int32} {b : Int32} : ∀ n, xLow f g b n = true → ∀ i, i < n → f i = 17 → g i < b := by
  intro n
  induction n with
  | zero => intro _ i hi; omega
  | succ n ih =>
    intro h i hi e
    unfold xLow at h
    obtain ⟨h1, h2⟩ := Bool.and_eq_true_iff.mp h
    by_cases c : i = n
    · subst c
      rw [decide_eq_true e] at h2
      exact of_decide_eq_true h2
    · exact ih h1 i (by omega) e
theorem xOne_k {O : Nat → Nat} {A : Nat → Int32} {n f m : Nat} (hf : f < 8) (hm : m ≤ 3) (h : xOne O A n (nI f) (nI m) = true) : xEk O A n 41 0 (nI (2 ^ m - 1)) (nI 0) (nI 0) = some n ∧ ∀ p, p < n → O p = 17 → ∀ v, v < 8 → A p = nI v → v < f := by
  unfold xOne at h
  obtain ⟨h1, h2⟩ := Bool.and_eq_true_iff.mp h
  obtain ⟨h3, h4⟩ := Bool.and_eq_true_iff.mp h1
  have h5 := of_decide_eq_true h2
  have hk : ∀ m, m ≤ 3 → ((1 : Int32) <<< (nI m &&& 31)) - 1 = nI (2 ^ m - 1) := by decide
  rw [hk m hm] at h5
  refine ⟨h5, fun p hp ho v hv ha => ?_⟩
  have := xLow_at n h3 p hp (show nI (O p) = 17 by rw [ho]; rfl)
  rw [ha] at this
  exact Nat.not_le.mp (fun q => absurd (nI_le q (by omega)) (Int32.not_le.mpr this))
def xIac (sc : Nat × (Nat → Int32)) (h ma fa oa B : Nat) (L nP : Nat → Nat) (O : Nat → Nat → Nat) (A : Nat → Nat → Int32) (m f : Nat) : Prop := ∀ (u : xv_M) (x y z : Int32), xII u h ma fa oa B L nP O A →
  (∀ v, xIa L nP O A m f x y z = .inl v → xv_C sc (5 * m + 10) J_Interp_answer [.ref h, .int (nI f), .int x, .int y, .int z] u (xv_N u) (xv_S u) (xv_pi (fun r w => r = v ∧ xSi (xIF B f) u w))) ∧
  ∀ k, xIa L nP O A m f x y z = .inr k → xv_C sc (5 * m + 10) J_Interp_answer [.ref h, .int (nI f), .int x, .int y, .int z] u (xv_N u + 1) (xv_S u + 6) (xv_px k (fun e w => ∃ w0, xSi (xIF B f) u w0 ∧ e = xv_N u ∧ w = xv_nw w0 (k + 1) 0 6))
/-- up to the loop -/
theorem c_ia_pre {sc : Nat × (Nat → Int32)} {u : xv_M} {h ma fa oa B D f : Nat} {L nP : Nat → Nat} {O : Nat → Nat → Nat} {A : Nat → Nat → Int32} {x y z : Int32} {n1 s1 : Nat} {P : xv_P} (H : xII u h ma fa oa B L nP O A) (hf : f < 8) (hLf : 0 < L f) (hD : 10 ≤ D) (hN : xv_N u ≤ n1) (hS : xv_S u ≤ s1) (k : ∀ w σ π, xIS u B f w σ π → σ.1 = xArg (nI (nP f)) x y z → σ.2.2 = 0 → π.2.2 = 1 → π.1 0 = 0 → π.2.1 0 = 0 → xHe sc D h f x y z n1 s1 P 0 w) : xv_X sc D J_Interp_answer 0 [some (.ref h), some (.int (nI f)), some (.int x), some (.int y), some (.int z), none] [] u n1 s1 P := by
  have hcf : (nI f).toNatClampNeg = f := nI_clamp (by omega)
  have hif : vp_in (nI f) 8 := vp_in_nI hf (by decide)
  obtain ⟨⟨hn, hn40, htk⟩, hnp, hst0⟩ := H.2 f hf
  obtain ⟨k0, r0, r1, r2, kc, lc, kf, lf, ko, lo, hfs⟩ := H.1
  obtain ⟨f1, f2, f3, f4, f5, f6⟩ := hfs f hf
  refine xv_aload_n (pc := 0) d_Interp_answer_0 rfl rfl ?_
  refine xv_iload_n (pc := 1) d_Interp_answer_1 rfl rfl ?_
  refine xv_cV1i (pc := 2) (d1 := 1) (c_Interp_has H.1) m_Interp_has l_Interp_40 d_Interp_answer_2 (by omega) (by decide : 3 < xv_nc) rfl k0 (Nat.le_of_ble_eq_true rfl) ⟨hN, hS⟩ (fun r w hw hN2 hS2 => ?_)
  obtain ⟨hr, hw⟩ := hw
  subst w
  rw [hcf, hn, decide_eq_true ⟨⟨nI_pos0 (by omega), nI_leI8 hf⟩, nI_posL hLf (by omega)⟩] at hr
  subst hr
  refine xv_if_ne (pc := 5) 18 d_Interp_answer_5 (by decide) (fun h5 => ?_) (fun h5 => ?_)
  case refine_2 => exact absurd h5 (by decide)
  refine xv_aload_n (pc := 18) d_Interp_answer_18 rfl rfl ?_
  refine xv_getR (pc := 19) d_Interp_answer_19 f_Interp_19 rfl k0 r1 ?_
  refine xv_iload_n (pc := 22) d_Interp_answer_22 rfl rfl ?_
  refine xv_aald (pc := 23) (t := 1) d_Interp_answer_23 kf rfl (by rw [lf]; exact hif) (by rw [hcf]; exact f2) ?_
  refine xv_aload_n (pc := 24) d_Interp_answer_24 rfl rfl ?_
  refine xv_getR (pc := 25) d_Interp_answer_25 f_Interp_11 rfl k0 r0 ?_
  refine xv_iload_n (pc := 28) d_Interp_answer_28 rfl rfl ?_
  refine xv_aald (pc := 29) (t := 0) d_Interp_answer_29 kc rfl (by rw [lc]; exact hif) (by rw [hcf]; exact f1) ?_
  refine xv_getI (pc := 30) d_Interp_answer_30 f_Interp_51 rfl f4.1 ?_
  refine xv_iload_n (pc := 33) d_Interp_answer_33 rfl rfl ?_
  refine xv_iload_n (pc := 34) d_Interp_answer_34 rfl rfl ?_
  refine xv_iload (pc := 35) d_Interp_answer_35 rfl ?_
  rw [hnp]
  refine xv_cV4v (pc := 37) (d1 := 1) (c_Frame_begin (n := nI (nP f)) f5) m_Frame_begin l_Interp_54 d_Interp_answer_37 (by omega) (by decide : 1 < xv_nc) rfl f5.1 (Nat.le_of_ble_eq_true rfl) ⟨hN, hS⟩ (fun w hw hN2 hS2 => ?_)
  obtain ⟨fv, hw, hfv⟩ := hw
  have hw1 : xFs w (B + 10 * f + 4) (xArg (nI (nP f)) x y z, fun _ => 0, 0) ∧ xSi (xFS (B + 10 * f + 4)) u w := by
    subst hw
    refine ⟨⟨fun q hq => ?_, fun q hq => absurd hq (Nat.not_lt_zero q), xv_si_eq⟩, xSi_tr (xSi_sw (Or.inr (Or.inl rfl))) (xSi_si (Or.inl rfl))⟩
    rw [xv_si_ne (by omega), xv_sw_eq]
    exact hfv q hq
  clear hw
  obtain ⟨g1, s1'⟩ := hw1
  have Hw := xSi_II (xSi_LI (xSi_FI s1')) H
  obtain ⟨k0, r0, r1, r2, kc, lc, kf, lf, ko, lo, hfs⟩ := Hw.1
  obtain ⟨f1, f2, f3, f4, f5, f6⟩ := hfs f hf
  refine xv_aload_n (pc := 40) d_Interp_answer_40 rfl rfl ?_
  refine xv_getR (pc := 41) d_Interp_answer_41 f_Interp_25 rfl k0 r2 ?_
  refine xv_iload_n (pc := 44) d_Interp_answer_44 rfl rfl ?_
  refine xv_aald (pc := 45) (t := 2) d_Interp_answer_45 ko rfl (by rw [lo]; exact hif) (by rw [hcf]; exact f3) ?_
  refine xv_cV0v (pc := 46) (d1 := 1) (c_Opens_begin f6) m_Opens_begin l_Interp_58 d_Interp_answer_46 (by omega) (by decide : 2 < xv_nc) rfl f6.1 (Nat.le_of_ble_eq_true rfl) ⟨by rw [s1'.1]; exact hN, by rw [s1'.2.1]; exact hS⟩ (fun w2 hw hN2 hS2 => ?_)
  have hw2 : xOs w2 (B + 10 * f + 7) (fun _ => 0, fun _ => 0, 1) ∧ xSi (xFS (B + 10 * f + 7)) w w2 := by
    subst hw
    refine ⟨⟨fun q hq => ?_, fun q hq => ?_, xv_si_eq⟩, xSi_tr (xSi_tr (xSi_tr (xSi_si (Or.inl rfl)) (xSi_si (Or.inr (Or.inl rfl)))) (xSi_si (Or.inr (Or.inr rfl)))) (xSi_si (Or.inl rfl))⟩
    · have hq : q < 1 := hq
      have hq : q = 0 := by omega
      subst hq
      rw [xv_si_ne (by omega), xv_si_ne (by omega), xv_si_eq]
      rfl
    · have hq : q < 1 := hq
      have hq : q = 0 := by omega
      subst hq
      rw [xv_si_ne (by omega), xv_si_eq]
      rfl
  clear hw
  obtain ⟨g2, s2'⟩ := hw2
  refine xv_iconst (pc := 49) 0 d_Interp_answer_49 (by decide) ?_
  refine xv_istore_5 (pc := 50) d_Interp_answer_50 (by decide) rfl ?_
  exact k w2 _ _ ⟨xSi_tr (xSi_LI (xSi_FI s1')) (xSi_OI (xSi_mono (S' := xFO B f) s2' (fun a z => Or.inr z))), xFs_far s2' (Or.inl (by omega)) g1, g2⟩ rfl rfl rfl rfl rfl
/-- behind the loop -/
theorem c_ia_post {sc : Nat × (Nat → Int32)} {u w : xv_M} {h ma fa oa B D f i : Nat} {L nP : Nat → Nat} {O : Nat → Nat → Nat} {A : Nat → Nat → Int32} {x y z v : Int32} {σ : xZ} {π : xY} (H : xII u h ma fa oa B L nP O A) (hf : f < 8) (hD : 10 ≤ D) (hi : i < 1000000) (S : xIS u B f w σ π) (hσ : σ.2.2 = 1) (hv : σ.2.1 0 = v) (hπ : π.2.2 = 0) : xHe sc D h f x y z (xv_N u) (xv_S u) (xv_q (xv_N u) (xv_S u) (xv_pi (fun r w => r = v ∧ xSi (xIF B f) u w))) i w := by
  have hcf : (nI f).toNatClampNeg = f := nI_clamp (by omega)
  have hif : vp_in (nI f) 8 := vp_in_nI hf (by decide)
  obtain ⟨zw, hs, hp⟩ := S
  have Hw := xSi_II zw H
  obtain ⟨k0, r0, r1, r2, kc, lc, kf, lf, ko, lo, hfs⟩ := Hw.1
  obtain ⟨f1, f2, f3, f4, f5, f6⟩ := hfs f hf
  show xv_X sc D J_Interp_answer 52 [some (.ref h), some (.int (nI f)), some (.int x), some (.int y), some (.int z), some (.int (nI i))] [] w _ _ _
  refine xv_iload (pc := 52) d_Interp_answer_52 rfl ?_
  refine xv_ldc (pc := 54) 1000000 d_Interp_answer_54 k_671 ?_
  refine xv_icmp_ge (pc := 56) 82 d_Interp_answer_56 (by decide) (fun h56 => ?_) (fun h56 => ?_)
  · rw [← nI_M] at h56
    exact absurd h56 (nI_ge hi (by decide))
  refine xv_aload_n (pc := 59) d_Interp_answer_59 rfl rfl ?_
  refine xv_getR (pc := 60) d_Interp_answer_60 f_Interp_25 rfl k0 r2 ?_
  refine xv_iload_n (pc := 63) d_Interp_answer_63 rfl rfl ?_
  refine xv_aald (pc := 64) (t := 2) d_Interp_answer_64 ko rfl (by rw [lo]; exact hif) (by rw [hcf]; exact f3) ?_
  refine xv_cV0i (pc := 65) (d1 := 0) (c_Opens_isEmpty (n := 0) f6 (by rw [hp.2.2, hπ]) (by omega)) m_Opens_isEmpty l_Interp_61 d_Interp_answer_65 (by omega) (by decide : 2 < xv_nc) rfl f6.1 (Nat.le_of_ble_eq_true rfl) (xSi_le zw) (fun r w2 hw hN2 hS2 => ?_)
  obtain ⟨hr, hw⟩ := hw
  subst hw
  rw [decide_eq_true rfl] at hr
  subst hr
  refine xv_if_ne (pc := 68) 82 d_Interp_answer_68 (by decide) (fun h68 => ?_) (fun h68 => ?_)
  case refine_2 => exact absurd h68 (by decide)
  refine xv_aload_n (pc := 82) d_Interp_answer_82 rfl rfl ?_
  refine xv_getR (pc := 83) d_Interp_answer_83 f_Interp_19 rfl k0 r1 ?_
  refine xv_iload_n (pc := 86) d_Interp_answer_86 rfl rfl ?_
  refine xv_aald (pc := 87) (t := 1) d_Interp_answer_87 kf rfl (by rw [lf]; exact hif) (by rw [hcf]; exact f2) ?_
  refine xv_cV0i (pc := 88) (d1 := 0) (c_Frame_pop (n := 0) f5 (by rw [hs.2.2, hσ]) (by omega)) m_Frame_pop l_Interp_69 d_Interp_answer_88 (by omega) (by decide : 1 < xv_nc) rfl f5.1 (Nat.le_of_ble_eq_true rfl) (xSi_le zw) (fun r w3 hw hN2 hS2 => ?_)
  obtain ⟨hr, hw⟩ := hw
  have hr : r = v := by rw [hr, hs.2.1 0 (by omega), hv]
  subst hr
  obtain ⟨g1, s1⟩ := xFs_po hs hσ hw
  have s2 := xSi_tr zw (xSi_LI (xSi_FI s1))
  exact xv_retiq (pc := 91) d_Interp_answer_91 rfl s2.1 s2.2.1 ⟨_, rfl, rfl, s2⟩
theorem c_ia_none0 {sc : Nat × (Nat → Int32)} {u : xv_M} {h ma fa oa B D : Nat} {S : Nat → Prop} {f x y z : Int32} (H : xIn u h ma fa oa B) (hD : 10 ≤ D) (hno : ¬ ((0 ≤ f ∧ f ≤ 7) ∧ 0 < xv_i u (B + 10 * f.toNatClampNeg) 2)) : xv_C sc D J_Interp_answer [.ref h, .int f, .int x, .int y, .int z] u (xv_N u + 1) (xv_S u + 6) (xv_px 12 (fun e w => ∃ w0, xSi S u w0 ∧ e = xv_N u ∧ w = xv_nw w0 13 0 6)) := by
  refine xv_C_of (by decide) (by omega) (by omega) (xv_cat1 rfl) (Nat.le_of_ble_eq_true rfl) ?_
  show xv_X sc D J_Interp_answer 0 [some (.ref h), some (.int f), some (.int x), some (.int y), some (.int z), none] [] u (xv_N u + 1) (xv_S u + 6) _
  refine xv_aload_n (pc := 0) d_Interp_answer_0 rfl rfl ?_
  refine xv_iload_n (pc := 1) d_Interp_answer_1 rfl rfl ?_
  refine xv_cV1i (pc := 2) (d1 := 1) (c_Interp_has H) m_Interp_has l_Interp_40 d_Interp_answer_2 (by omega) (by decide : 3 < xv_nc) rfl H.1 (Nat.le_of_ble_eq_true rfl) ⟨by omega, by omega⟩ (fun r w hw hN2 hS2 => ?_)
  obtain ⟨hr, hw⟩ := hw
  subst hw
  rw [decide_eq_false hno] at hr
  subst hr
  refine xv_if_ne (pc := 5) 18 d_Interp_answer_5 (by decide) (fun h5 => ?_) (fun h5 => ?_)
  · exact absurd rfl h5
  exact xv_throw (pc := 8) (k := 12) (by decide) rfl (List.mem_of_getElem? (i := 1) rfl) (List.mem_of_getElem? (i := 1) rfl) k_588 k_17 k_589 (by decide +kernel) d_Interp_answer_8 d_Interp_answer_11 d_Interp_answer_12 d_Interp_answer_14 d_Interp_answer_17 (by omega) (Nat.le_of_ble_eq_true rfl) (Nat.le_refl _) (Nat.le_refl _) ⟨⟨_, rfl, w, xSi_rf, rfl, rfl⟩, rfl, rfl⟩
theorem c_ia_none {sc : Nat × (Nat → Int32)} {u : xv_M} {h ma fa oa B D f : Nat} {L nP : Nat → Nat} {O : Nat → Nat → Nat} {A : Nat → Nat → Int32} {x y z : Int32} (H : xII u h ma fa oa B L nP O A) (hf : f < 8) (hD : 10 ≤ D) (hLf : L f = 0) : xv_C sc D J_Interp_answer [.ref h, .int (nI f), .int x, .int y, .int z] u (xv_N u + 1) (xv_S u + 6) (xv_px 12 (fun e w => ∃ w0, xSi (xIF B f) u w0 ∧ e = xv_N u ∧ w = xv_nw w0 13 0 6)) := by
  have hcf : (nI f).toNatClampNeg = f := nI_clamp (by omega)
  refine c_ia_none0 H.1 hD (fun q => ?_)
  rw [hcf, (H.2 f hf).1.1, hLf] at q
  exact absurd q.2 (by decide)
theorem c_Interp_answer {sc : Nat × (Nat → Int32)} {h ma fa oa B : Nat} {L nP : Nat → Nat} {O : Nat → Nat → Nat} {A : Nat → Nat → Int32} (hG : xGf L nP O A) : ∀ m f, f < m → f < 8 → xIac sc h ma fa oa B L nP O A m f := by
  intro m
  induction m with
  | zero => intro f h; omega
  | succ m ih =>
    intro f hfm hf u x y z H
    obtain ⟨hT, hn3, hone⟩ := hG f hf
    by_cases hLf : 0 < L f
    · obtain ⟨hE, hlow⟩ := xOne_k hf hn3 (hone hLf)
      have hst := (H.2 f hf).2.2 hLf
      have h40 : L f ≤ 40 := (H.2 f hf).1.2.1
      have C : xAct sc u h ma fa oa B f (5 * m + 10) L nP O A (xIa L nP O A m) := ⟨H, hf, hT, h40, hlow, fun a ha u' x y z H' => ih a (by omega) (by omega) u' x y z H'⟩
      have hx : xIa L nP O A (m + 1) f x y z = xFv (xEv (xIa L nP O A m) (O f) (A f) 41 0 (xArg (nI (nP f)) x y z)) := by
        show (if _ then _ else _) = _
        rw [if_pos hLf]
      have hc : 4 * (L f - 0) * xWt 0 ≤ 10240 := by
        have : xWt 0 = 64 := rfl
        rw [this]
        omega
      have key : ∀ (n1 s1 : Nat) (P : xv_P), xv_N u ≤ n1 → xv_S u ≤ s1 → xK (xEv (xIa L nP O A m) (O f) (A f) 41 0 (xArg (nI (nP f)) x y z)) (fun v _ => ∀ i w σ π, i < 1000000 → xIS u B f w σ π → σ.2.2 = 1 → σ.2.1 0 = v → π.2.2 = 0 → xHe sc (5 * (m + 1) + 10) h f x y z n1 s1 P i w) (xTX u B f n1 s1 P) → xv_X sc (5 * (m + 1) + 10) J_Interp_answer 0 [some (.ref h), some (.int (nI f)), some (.int x), some (.int y), some (.int z), none] [] u n1 s1 P := by
        intro n1 s1 P hN hS hK
        refine c_ia_pre H hf hLf (by omega) hN hS (fun w σ π S e1 e2 e3 e4 e5 => ?_)
        refine xRun C hN hS (by omega) (by omega) 41 0 _ _ _ _ (by
          have hk : ∀ m, m ≤ 3 → 2 ^ m - 1 < 128 := by decide
          exact hk _ hn3) (by decide) (by decide) hE hst w σ π 0 0 S e3 e4 e5 (Nat.le_refl _) (by omega) (by omega) ?_
        rw [e1]
        refine xK_mono hK (fun v W hc2 => ?_)
        intro i' w' σ' π' g1 g2 g3 g4 g5 g6 g7 g8
        rw [e2] at g4 g5
        exact hc2 i' w' σ' π' (by omega) g2 g4 g5 g7
      refine ⟨fun v hv => ?_, fun k hk => ?_⟩
      · rw [hx] at hv
        refine xv_C_of (by decide) (Nat.le_refl _) (Nat.le_refl _) (xv_cat1 rfl) (Nat.le_of_ble_eq_true rfl) ?_
        refine key _ _ _ (Nat.le_refl _) (Nat.le_refl _) ?_
        cases hr : xEv (xIa L nP O A m) (O f) (A f) 41 0 (xArg (nI (nP f)) x y z) with
        | inl q =>
          rw [hr] at hv
          have hv : (.inl q.1 : xRs) = .inl v := hv
          cases hv
          exact fun i w σ π hi S h1 h2 h3 => c_ia_post H hf (by omega) hi S h1 h2 h3
        | inr e =>
          rw [hr] at hv
          have hv : (.inr e : xRs) = .inl v := hv
          cases hv
      · rw [hx] at hk
        refine xv_C_of (by decide) (by omega) (by omega) (xv_cat1 rfl) (Nat.le_of_ble_eq_true rfl) ?_
        refine key _ _ _ (by omega) (by omega) ?_
        cases hr : xEv (xIa L nP O A m) (O f) (A f) 41 0 (xArg (nI (nP f)) x y z) with
        | inl q =>
          rw [hr] at hk
          have hk : (.inl q.1 : xRs) = .inr k := hk
          cases hk
        | inr e =>
          rw [hr] at hk
          have hk : (.inr e : xRs) = .inr k := hk
          cases hk
          exact ⟨rfl, rfl, rfl⟩
    · have hL0 : L f = 0 := by omega
      have hx : xIa L nP O A (m + 1) f x y z = .inr 12 := by
        show (if _ then _ else _) = _
        rw [if_neg hLf]
      refine ⟨fun v hv => ?_, fun k hk => ?_⟩
      · rw [hx] at hv
        cases hv
      · rw [hx] at hk
        cases hk
        exact c_ia_none H hf (by omega) hL0

