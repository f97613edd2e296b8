/-! the model: a form's translation -/
theorem xTQ_0 {u w : xv_M} {M f d : Nat} (h : xTQ u w M f d) : xTQ u w M f 0 := ⟨h.1, h.2.1, h.2.2.1, fun q hq => absurd hq (Nat.not_lt_zero q)⟩
/-- behind, at the form of depth d -/
theorem xt_bh {sc : Nat × (Nat → Int32)} {D M f n n1 s1 : Nat} {P : xv_P} {O : Nat → Nat} {A : Nat → Int32} {u : xv_M} (hM : xMo u M) (hf : f < 8) (hF : xFm u M f n O A) (hN : xv_N u ≤ n1) (hS : xv_S u ≤ s1) (hD : 3 ≤ D) {k d p j : Nat} {τ : xQ} {R : xv_M → Prop} {w : xv_M} (zw : xTQ u w M f 0) (hd : d < 48) (hj : j < 99) (h27 : xv_i w (M + 27) d = nI p) (h28 : xv_i w (M + 28) d = nI j)
    (hc : xv_C sc 2 J_Model_behind [.ref M, .int (nI f), .int (nI d)] (xv_si w (M + 28) d (nI (j + 1))) (xv_N (xv_si w (M + 28) d (nI (j + 1)))) (xv_S (xv_si w (M + 28) d (nI (j + 1)))) (xv_pi (fun r w2 => r = xB (decide (j + 1 = xPa (O p))) ∧ xMT w2 M f τ ∧ xBF (xv_si w (M + 28) d (nI (j + 1))) w2 M f d ∧ R w2)))
    (c1 : j + 1 = xPa (O p) → ∀ w2, xTQ w w2 M f d → xMT w2 M f τ → xH2 sc D M f n1 s1 P k d w2) (c0 : ¬ j + 1 = xPa (O p) → ∀ w2, xTQ w w2 M f d → xv_i w2 (M + 27) d = nI p → xv_i w2 (M + 28) d = nI (j + 1) → xMT w2 M f τ → R w2 → xH1 sc D M f n1 s1 P (k + 1) (d + 1) w2) : xH2 sc D M f n1 s1 P k (d + 1) w := by
  have key : ∀ w2, xBF (xv_si w (M + 28) d (nI (j + 1))) w2 M f d → xTQ w w2 M f d ∧ xv_i w2 (M + 27) d = nI p ∧ xv_i w2 (M + 28) d = nI (j + 1) := by
    intro w2 hb
    refine ⟨xTQ_tr (Nat.le_refl _) (xTQ_s (Or.inr rfl) (Nat.le_refl _)) (xTQ_B hb), ?_, ?_⟩
    · rw [hb.1.2.2.2.2.2.2 _ (fun z => by unfold xBS xPS at z; omega), xv_si_ne (by omega)]; exact h27
    · rw [hb.1.2.2.2.2.2.2 _ (fun z => by unfold xBS xPS at z; omega), xv_si_eq]
  refine xt_behind (xSi_Mo zw.1 hM) hf (xFm_w zw hF) (by rw [zw.1.1]; exact hN) (by rw [zw.1.2.1]; exact hS) hD hd (by omega) h28 hc (fun hb w2 hq _ _ => ?_) (fun hb w2 hq _ _ => ?_)
  · exact c1 (of_decide_eq_true hb) w2 (key w2 hq.2.1).1 hq.1
  · obtain ⟨k1, k2, k3⟩ := key w2 hq.2.1
    exact c0 (of_decide_eq_false hb) w2 k1 k2 k3 hq.1 hq.2.2
/-- part j of the form at p, then behind -/
theorem xt_part {sc : Nat × (Nat → Int32)} {D M f n n1 s1 : Nat} {P : xv_P} {O : Nat → Nat} {A : Nat → Int32} {u : xv_M} (hM : xMo u M) (hf : f < 8) (hF : xFm u M f n O A) (hN : xv_N u ≤ n1) (hS : xv_S u ≤ s1) (hD : 3 ≤ D) {K p d j : Nat} (ih : ∀ (p d : Nat) (σ : xQ) (w : xv_M), xVF O n K p → xTQ u w M f 0 → xMT w M f σ → d ≤ p → σ.1 + xSz O K p ≤ 264 → (∀ w', xTQ w w' M f d → xMT w' M f (xEmF O A K p σ) → xH2 sc D M f n1 s1 P (xNx O K p - 1) d w') → xH1 sc D M f n1 s1 P p d w) (hpn : p < n) (hdp : d ≤ p) (hj : j < xPa (O p)) (hv : xVF O n K (xIt (xNx O K) j (p + 1))) {σ τ : xQ} {R : xv_M → Prop} {w : xv_M} (zw : xTQ u w M f 0) (h27 : xv_i w (M + 27) d = nI p) (h28 : xv_i w (M + 28) d = nI j) (hT : xMT w M f σ) (hsz : σ.1 + xSz O K (xIt (xNx O K) j (p + 1)) ≤ 264)
    (hc : ∀ w', xMo w' M → xTQ w w' M f d → xv_i w' (M + 29) d = xv_i w (M + 29) d → xBq w' M f d p (O p) (A p) (j + 1) → xMT w' M f (xEmF O A K (xIt (xNx O K) j (p + 1)) σ) → xv_C sc 2 J_Model_behind [.ref M, .int (nI f), .int (nI d)] w' (xv_N w') (xv_S w') (xv_pi (fun r w2 => r = xB (decide (j + 1 = xPa (O p))) ∧ xMT w2 M f τ ∧ xBF w' w2 M f d ∧ R w2)))
    (c1 : j + 1 = xPa (O p) → ∀ w2, xTQ w w2 M f d → xMT w2 M f τ → xH2 sc D M f n1 s1 P (xIt (xNx O K) (j + 1) (p + 1) - 1) d w2) (c0 : ¬ j + 1 = xPa (O p) → ∀ w2, xTQ w w2 M f d → xv_i w2 (M + 27) d = nI p → xv_i w2 (M + 28) d = nI (j + 1) → xMT w2 M f τ → R w2 → xH1 sc D M f n1 s1 P (xIt (xNx O K) (j + 1) (p + 1)) (d + 1) w2) : xH1 sc D M f n1 s1 P (xIt (xNx O K) j (p + 1)) (d + 1) w := by
  obtain ⟨hn1, hn40, htk⟩ := hF
  have hF : xFm u M f n O A := ⟨hn1, hn40, htk⟩
  have P3 := xPa_3 (O p)
  have hps : p + 1 ≤ xIt (xNx O K) j (p + 1) := xIt_mono (xNx_gt O K) (p + 1) (Nat.zero_le j)
  have hse := xNx_gt O K (xIt (xNx O K) j (p + 1))
  refine ih _ (d + 1) σ w hv zw hT (by omega) hsz (fun w' R' T' => ?_)
  have zw' := xTQ_tr (Nat.zero_le _) zw R'
  obtain ⟨q1, q2, q3⟩ := R'.2.2.2 d (Nat.lt_succ_self d)
  have hMw := xSi_Mo zw'.1 hM
  have hM1 : xMo (xv_si w' (M + 28) d (nI (j + 1))) M := hMw
  have zs : xTQ w' (xv_si w' (M + 28) d (nI (j + 1))) M f d := xTQ_s (Or.inr rfl) (Nat.le_refl _)
  have Fw := xFm_w (xTQ_tr (Nat.zero_le _) zw' zs) hF
  obtain ⟨-, -, ftk⟩ := Fw
  have hB : xBq (xv_si w' (M + 28) d (nI (j + 1))) M f d p (O p) (A p) (j + 1) := ⟨by rw [xv_si_ne (by omega), q1]; exact h27, (ftk p hpn).1, (ftk p hpn).2.2, xv_si_eq⟩
  have T1 := xMT_o (c := 28) (q := d) (v := nI (j + 1)) T' (Or.inr (Or.inl rfl))
  have e : xIt (xNx O K) (j + 1) (p + 1) = xNx O K (xIt (xNx O K) j (p + 1)) := rfl
  rw [e] at c1 c0

  have hRd : xTQ w w' M f d := ⟨R'.1, R'.2.1, R'.2.2.1, fun q hq => R'.2.2.2 q (by omega)⟩
  refine xt_bh (O := O) (p := p) (τ := τ) (R := R) hM hf hF hN hS hD zw' (by omega) (by omega) (by rw [q1]; exact h27) (by rw [q2]; exact h28) (hc _ hM1 (xTQ_tr (Nat.le_refl _) hRd zs) (by rw [xv_si_ne (by omega)]; exact q3) hB T1) (fun hl w2 z2 t2 => c1 hl w2 (xTQ_tr (Nat.le_refl _) hRd z2) t2) (fun hl w2 z2 a1 a2 t2 r2 => ?_)
  rw [show xNx O K (xIt (xNx O K) j (p + 1)) - 1 + 1 = xNx O K (xIt (xNx O K) j (p + 1)) by omega]
  exact c0 hl w2 (xTQ_tr (Nat.le_refl _) hRd z2) a1 a2 t2 r2
theorem xBF_rf {u : xv_M} {M f d : Nat} : xBF u u M f d := ⟨xSi_rf, fun _ _ => rfl, fun _ _ _ _ => rfl, fun _ _ => rfl⟩
theorem xSumN_2 (g : Nat → Nat) : xSumN g 2 = g 0 + g 1 := by show 0 + g 0 + g 1 = _; omega
theorem xSumN_3 (g : Nat → Nat) : xSumN g 3 = g 0 + g 1 + g 2 := by show 0 + g 0 + g 1 + g 2 = _; omega
theorem xSumN_1 (g : Nat → Nat) : xSumN g 1 = g 0 := by show 0 + g 0 = _; omega
set_option maxHeartbeats 1000000 in
theorem xTrL {sc : Nat × (Nat → Int32)} {D M f n n1 s1 : Nat} {P : xv_P} {O : Nat → Nat} {A : Nat → Int32} {u : xv_M} (hM : xMo u M) (hf : f < 8) (hF : xFm u M f n O A) (hN : xv_N u ≤ n1) (hS : xv_S u ≤ s1) (hD : 3 ≤ D) : ∀ K, ∀ (p d : Nat) (σ : xQ) (w : xv_M), xVF O n K p → xTQ u w M f 0 → xMT w M f σ → d ≤ p → σ.1 + xSz O K p ≤ 264 → (∀ w', xTQ w w' M f d → xMT w' M f (xEmF O A K p σ) → xH2 sc D M f n1 s1 P (xNx O K p - 1) d w') → xH1 sc D M f n1 s1 P p d w := by
  intro K
  induction K with
  | zero => intro p d σ w hv; exact absurd hv id
  | succ K ih =>
    intro p d σ w hv zw hT hdp hsz cont
    obtain ⟨hpn, hv⟩ := hv
    have o18 := (hF.2.2 p hpn).2.1
    have n40 := hF.2.1
    have hsz : σ.1 + (xOwn (O p) + xSumN (fun j => xSz O K (xIt (xNx O K) j (p + 1))) (xPa (O p))) ≤ 264 := hsz
    have hMw := xSi_Mo zw.1 hM
    have hFw := xFm_w zw hF
    have hNw : xv_N w ≤ n1 := by rw [zw.1.1]; exact hN
    have hSw : xv_S w ≤ s1 := by rw [zw.1.2.1]; exact hS
    by_cases leaf : O p < 2
    · have hpa : xPa (O p) = 0 := by
        have key : ∀ o, o < 2 → xPa o = 0 := by decide
        exact key _ leaf
      have hown : xOwn (O p) = 1 := by
        unfold xOwn
        rw [if_neg (by omega), if_neg (by omega)]
      refine xt_leaf hMw hf hFw hNw hSw hD hpn hT (by omega) leaf (fun w' t' p' _ _ => ?_)
      have hc := cont w' (xTQ_P p')
      have e1 : xEmF O A (K + 1) p σ = xEm σ (O p) (A p) := by
        show xEo _ _ (O p) (A p) σ = _
        unfold xEo
        rcases (by omega : O p = 0 ∨ O p = 1) with e | e
        · rw [if_pos e, e]
        · rw [if_neg (by omega), if_pos e, e]
      have e2 : xNx O (K + 1) p - 1 = p := by
        show xIt (xNx O K) (xPa (O p)) (p + 1) - 1 = p
        rw [hpa]
        rfl
      rw [e1, e2] at hc
      exact hc t'
    refine xt_open hMw hf hFw hNw hSw hD hpn (by omega) (by omega) ?_
    have z0 : xTQ w (xv_si (xv_si w (M + 27) d (nI p)) (M + 28) d 0) M f d := xTQ_tr (Nat.le_refl _) (xTQ_s (Or.inl rfl) (Nat.le_refl _)) (xTQ_s (Or.inr rfl) (Nat.le_refl _))
    have g27 : xv_i (xv_si (xv_si w (M + 27) d (nI p)) (M + 28) d 0) (M + 27) d = nI p := by rw [xv_si_ne (by omega), xv_si_eq]
    have g28 : xv_i (xv_si (xv_si w (M + 27) d (nI p)) (M + 28) d 0) (M + 28) d = nI 0 := by rw [xv_si_eq]; rfl
    have T0 : xMT (xv_si (xv_si w (M + 27) d (nI p)) (M + 28) d 0) M f σ := xMT_o (xMT_o hT (Or.inl rfl)) (Or.inr (Or.inl rfl))
    generalize xv_si (xv_si w (M + 27) d (nI p)) (M + 28) d 0 = w0 at *
    have zw0 := xTQ_tr (Nat.zero_le _) zw z0
    have emN : ∀ q (σ : xQ), (xEmF O A K q σ).1 = σ.1 + xSz O K q := fun q σ => xEmF_n K q σ
    have hend : xNx O (K + 1) p = xIt (xNx O K) (xPa (O p)) (p + 1) := rfl
    have hemf : xEmF O A (K + 1) p σ = xEo (xEmF O A K) (fun j => xIt (xNx O K) j (p + 1)) (O p) (A p) σ := rfl
    rw [hend, hemf] at cont
    clear hend hemf
    show xH1 sc D M f n1 s1 P (xIt (xNx O K) 0 (p + 1)) (d + 1) w0
    rcases (by omega : (2 ≤ O p ∧ O p ≤ 11) ∨ O p = 12 ∨ O p = 13 ∨ O p = 14 ∨ O p = 15 ∨ O p = 16 ∨ O p = 17) with c | c | c | c | c | c | c
    · -- two parts, then the reckoning
      have hpa : xPa (O p) = 2 := by
        have key : ∀ o, o < 18 → 2 ≤ o → o ≤ 11 → xPa o = 2 := by decide +kernel
        exact key _ o18 c.1 c.2
      have hown : xOwn (O p) = 1 := by
        unfold xOwn
        rw [if_neg (by omega), if_neg (by omega)]
      rw [hown, hpa, xSumN_2] at hsz
      have hsz : σ.1 + (1 + (xSz O K (xIt (xNx O K) 0 (p + 1)) + xSz O K (xIt (xNx O K) 1 (p + 1)))) ≤ 264 := hsz
      have em : xEo (xEmF O A K) (fun j => xIt (xNx O K) j (p + 1)) (O p) (A p) σ = xEm (xEmF O A K (xIt (xNx O K) 1 (p + 1)) (xEmF O A K (xIt (xNx O K) 0 (p + 1)) σ)) (O p) 0 := by
        unfold xEo
        rw [if_neg (by omega), if_neg (by omega), if_neg (by omega), if_neg (by omega), if_neg (by omega), if_neg (by omega), if_neg (by omega), hpa]
        rfl
      rw [em, hpa] at cont
      have n1' := emN (xIt (xNx O K) 0 (p + 1)) σ
      have n2' := emN (xIt (xNx O K) 1 (p + 1)) (xEmF O A K (xIt (xNx O K) 0 (p + 1)) σ)
      refine xt_part (R := fun _ => True) hM hf hF hN hS hD ih hpn hdp (j := 0) (by omega) (hv 0 (by omega)) zw0 g27 g28 T0 (by omega) (fun w1 M1 R1 q1 B1 T1 => (xv_C_mono (fun o w ⟨r, h1, h2, h3⟩ => by subst h3; exact ⟨r, h1, h2, T1, xBF_rf, trivial⟩) (c_behind_none M1 hf (by omega) (by omega) o18 (by omega) B1 T1 (by omega) (by omega) (by omega) (by omega) (by omega) (by omega) (by omega) (by omega) (by omega)))) (fun hl => absurd hl (by omega)) (fun _ w2 z2 a1 a2 t2 _ => ?_)
      have zz := xTQ_tr (Nat.le_refl _) z0 z2
      refine xt_part (R := fun _ => True) hM hf hF hN hS hD ih hpn hdp (j := 1) (by omega) (hv 1 (by omega)) (xTQ_tr (Nat.zero_le _) zw zz) a1 a2 t2 (by omega) (fun w1 M1 R1 q1 B1 T1 => xv_C_mono (fun o w ⟨r, h1, h2, h3, h4⟩ => ⟨r, h1, h2, h3, h4, trivial⟩) (c_behind_op M1 hf (by omega) (by omega) o18 (by omega) B1 T1 (by omega) (by omega))) (fun _ w3 z3 t3 => ?_) (fun hl => absurd hpa.symm hl)
      exact cont w3 (xTQ_tr (Nat.le_refl _) zz z3) t3
    · have hpa : xPa (O p) = 1 := by rw [c]; rfl
      have hown : xOwn (O p) = 1 := by rw [c]; rfl
      rw [hown, hpa, xSumN_1] at hsz
      have hsz : σ.1 + (1 + xSz O K (xIt (xNx O K) 0 (p + 1))) ≤ 264 := hsz
      have em : xEo (xEmF O A K) (fun j => xIt (xNx O K) j (p + 1)) (O p) (A p) σ = xEm (xEmF O A K (xIt (xNx O K) 0 (p + 1)) σ) (O p) 0 := by
        unfold xEo
        rw [if_neg (by omega), if_neg (by omega), if_neg (by omega), if_neg (by omega), if_neg (by omega), if_neg (by omega), if_neg (by omega), hpa]
        rfl
      rw [em, hpa] at cont
      have n1' := emN (xIt (xNx O K) 0 (p + 1)) σ
      refine xt_part (R := fun _ => True) hM hf hF hN hS hD ih hpn hdp (j := 0) (by omega) (hv 0 (by omega)) zw0 g27 g28 T0 (by omega) (fun w1 M1 R1 q1 B1 T1 => xv_C_mono (fun o w ⟨r, h1, h2, h3, h4⟩ => ⟨r, h1, h2, h3, h4, trivial⟩) (c_behind_op M1 hf (by omega) (by omega) o18 (by omega) B1 T1 (by omega) (by omega))) (fun _ w3 z3 t3 => ?_) (fun hl => absurd hpa.symm hl)
      exact cont w3 (xTQ_tr (Nat.le_refl _) z0 z3) t3
    · -- IF
      have hpa : xPa (O p) = 3 := by rw [c]; rfl
      have hown : xOwn (O p) = 2 := by rw [c]; rfl
      rw [hown, hpa, xSumN_3] at hsz
      have hsz : σ.1 + (2 + (xSz O K (xIt (xNx O K) 0 (p + 1)) + xSz O K (xIt (xNx O K) 1 (p + 1)) + xSz O K (xIt (xNx O K) 2 (p + 1)))) ≤ 264 := hsz
      have em : xEo (xEmF O A K) (fun j => xIt (xNx O K) j (p + 1)) (O p) (A p) σ = xS1 (xEmF O A K (xIt (xNx O K) 2 (p + 1)) (xSh (xS2 (xEm (xEmF O A K (xIt (xNx O K) 1 (p + 1)) (xEm (xEmF O A K (xIt (xNx O K) 0 (p + 1)) σ) 14 (A p))) 15 0) (xEmF O A K (xIt (xNx O K) 0 (p + 1)) σ).1 (nI ((xEmF O A K (xIt (xNx O K) 1 (p + 1)) (xEm (xEmF O A K (xIt (xNx O K) 0 (p + 1)) σ) 14 (A p))).1 + 1))) (xEm (xEmF O A K (xIt (xNx O K) 0 (p + 1)) σ) 14 (A p)).2.2.2.2.2.1)) (xEmF O A K (xIt (xNx O K) 1 (p + 1)) (xEm (xEmF O A K (xIt (xNx O K) 0 (p + 1)) σ) 14 (A p))).1 (nI (xEmF O A K (xIt (xNx O K) 2 (p + 1)) (xSh (xS2 (xEm (xEmF O A K (xIt (xNx O K) 1 (p + 1)) (xEm (xEmF O A K (xIt (xNx O K) 0 (p + 1)) σ) 14 (A p))) 15 0) (xEmF O A K (xIt (xNx O K) 0 (p + 1)) σ).1 (nI ((xEmF O A K (xIt (xNx O K) 1 (p + 1)) (xEm (xEmF O A K (xIt (xNx O K) 0 (p + 1)) σ) 14 (A p))).1 + 1))) (xEm (xEmF O A K (xIt (xNx O K) 0 (p + 1)) σ) 14 (A p)).2.2.2.2.2.1)).1) := by
        unfold xEo
        rw [if_neg (by omega), if_neg (by omega), if_pos c]
        rfl
      rw [em, hpa] at cont
      clear em
      generalize hs1 : xEmF O A K (xIt (xNx O K) 0 (p + 1)) σ = σ1 at *
      have n1' : σ1.1 = σ.1 + xSz O K (xIt (xNx O K) 0 (p + 1)) := by rw [← hs1]; exact emN _ _
      have m2 : (xEm σ1 14 (A p)).1 = σ1.1 + 1 := rfl
      generalize hs3 : xEmF O A K (xIt (xNx O K) 1 (p + 1)) (xEm σ1 14 (A p)) = σ3 at *
      have n3' : σ3.1 = σ1.1 + 1 + xSz O K (xIt (xNx O K) 1 (p + 1)) := by rw [← hs3]; exact emN _ _
      refine xt_part (τ := xEm σ1 14 (A p)) (R := fun w => xv_i w (M + 29) d = nI σ1.1) hM hf hF hN hS hD ih hpn hdp (j := 0) (by omega) (hv 0 (by omega)) zw0 g27 g28 T0 (by omega) (fun w1 M1 R1 q1 B1 T1 => by rw [hs1] at T1; exact c_behind_if1 M1 hf (by omega) (by omega) o18 (by omega) B1 T1 (by omega) (by omega)) (fun hl => absurd hl (by omega)) (fun _ w2 z2 a1 a2 t2 r2 => ?_)
      have zz := xTQ_tr (Nat.le_refl _) z0 z2
      refine xt_part (τ := xS2 (xEm σ3 15 0) σ1.1 (nI (σ3.1 + 1))) (R := fun w => xv_i w (M + 29) d = nI σ3.1) hM hf hF hN hS hD ih hpn hdp (j := 1) (by omega) (hv 1 (by omega)) (xTQ_tr (Nat.zero_le _) zw zz) a1 a2 t2 (by omega) (fun w1 M1 R1 q1 B1 T1 => by rw [hs3] at T1; exact c_behind_if2 M1 hf (by omega) (by omega) o18 (by omega) B1 T1 (q1.trans r2) (by omega) (by omega) (by omega)) (fun hl => absurd hl (by omega)) (fun _ w3 z3 a3 a4 t3 r3 => ?_)
      have zz3 := xTQ_tr (Nat.le_refl _) zz z3
      have t3' : xMT w3 M f (xSh (xS2 (xEm σ3 15 0) σ1.1 (nI (σ3.1 + 1))) (xEm σ1 14 (A p)).2.2.2.2.2.1) := xMT_sh t3
      have n5' : (xSh (xS2 (xEm σ3 15 0) σ1.1 (nI (σ3.1 + 1))) (xEm σ1 14 (A p)).2.2.2.2.2.1).1 = σ3.1 + 1 := rfl
      generalize hs6 : xEmF O A K (xIt (xNx O K) 2 (p + 1)) (xSh (xS2 (xEm σ3 15 0) σ1.1 (nI (σ3.1 + 1))) (xEm σ1 14 (A p)).2.2.2.2.2.1) = σ6 at *
      have n6' : σ6.1 = σ3.1 + 1 + xSz O K (xIt (xNx O K) 2 (p + 1)) := by rw [← hs6, emN, n5']
      refine xt_part (τ := xS1 σ6 σ3.1 (nI σ6.1)) (R := fun _ => True) hM hf hF hN hS hD ih hpn hdp (j := 2) (by omega) (hv 2 (by omega)) (xTQ_tr (Nat.zero_le _) zw zz3) a3 a4 t3' (by omega) (fun w1 M1 R1 q1 B1 T1 => by rw [hs6] at T1; exact xv_C_mono (fun o w ⟨r, h1, h2, h3, h4⟩ => ⟨r, h1, h2, h3, h4, trivial⟩) (c_behind_if3 M1 hf (by omega) (by omega) o18 (by omega) B1 T1 (q1.trans r3) (by omega) (by omega))) (fun _ w4 z4 t4 => ?_) (fun hl => absurd hpa.symm hl)
      exact cont w4 (xTQ_tr (Nat.le_refl _) zz3 z4) t4
    · -- LET
      have hpa : xPa (O p) = 2 := by rw [c]; rfl
      have hown : xOwn (O p) = 1 := by rw [c]; rfl
      rw [hown, hpa, xSumN_2] at hsz
      have hsz : σ.1 + (1 + (xSz O K (xIt (xNx O K) 0 (p + 1)) + xSz O K (xIt (xNx O K) 1 (p + 1)))) ≤ 264 := hsz
      have em : xEo (xEmF O A K) (fun j => xIt (xNx O K) j (p + 1)) (O p) (A p) σ = xEmF O A K (xIt (xNx O K) 1 (p + 1)) (xEm (xEmF O A K (xIt (xNx O K) 0 (p + 1)) σ) 13 (A p)) := by
        unfold xEo
        rw [if_neg (by omega), if_neg (by omega), if_neg (by omega), if_pos c]
      rw [em, hpa] at cont
      have n1' := emN (xIt (xNx O K) 0 (p + 1)) σ
      have n2' : (xEm (xEmF O A K (xIt (xNx O K) 0 (p + 1)) σ) 13 (A p)).1 = (xEmF O A K (xIt (xNx O K) 0 (p + 1)) σ).1 + 1 := rfl
      have n3' := emN (xIt (xNx O K) 1 (p + 1)) (xEm (xEmF O A K (xIt (xNx O K) 0 (p + 1)) σ) 13 (A p))
      refine xt_part (R := fun _ => True) hM hf hF hN hS hD ih hpn hdp (j := 0) (by omega) (hv 0 (by omega)) zw0 g27 g28 T0 (by omega) (fun w1 M1 R1 q1 B1 T1 => xv_C_mono (fun o w ⟨r, h1, h2, h3, h4⟩ => ⟨r, h1, h2, h3, h4, trivial⟩) (c_behind_let M1 hf (by omega) (by omega) o18 (by omega) B1 T1 (by omega) (by omega))) (fun hl => absurd hl (by omega)) (fun _ w2 z2 a1 a2 t2 _ => ?_)
      have zz := xTQ_tr (Nat.le_refl _) z0 z2
      refine xt_part (R := fun _ => True) hM hf hF hN hS hD ih hpn hdp (j := 1) (by omega) (hv 1 (by omega)) (xTQ_tr (Nat.zero_le _) zw zz) a1 a2 t2 (by omega) (fun w1 M1 R1 q1 B1 T1 => (xv_C_mono (fun o w ⟨r, h1, h2, h3⟩ => by subst h3; exact ⟨r, h1, h2, T1, xBF_rf, trivial⟩) (c_behind_none M1 hf (by omega) (by omega) o18 (by omega) B1 T1 (by omega) (by omega) (by omega) (by omega) (by omega) (by omega) (by omega) (by omega) (by omega)))) (fun _ w3 z3 t3 => ?_) (fun hl => absurd hpa.symm hl)
      exact cont w3 (xTQ_tr (Nat.le_refl _) zz z3) t3
    · -- SET
      have hpa : xPa (O p) = 1 := by rw [c]; rfl
      have hown : xOwn (O p) = 2 := by rw [c]; rfl
      rw [hown, hpa, xSumN_1] at hsz
      have hsz : σ.1 + (2 + xSz O K (xIt (xNx O K) 0 (p + 1))) ≤ 264 := hsz
      have em : xEo (xEmF O A K) (fun j => xIt (xNx O K) j (p + 1)) (O p) (A p) σ = xEm (xEm (xEmF O A K (xIt (xNx O K) 0 (p + 1)) σ) 19 0) 13 (A p) := by
        unfold xEo
        rw [if_neg (by omega), if_neg (by omega), if_neg (by omega), if_neg (by omega), if_pos c]
      rw [em, hpa] at cont
      have n1' := emN (xIt (xNx O K) 0 (p + 1)) σ
      refine xt_part (R := fun _ => True) hM hf hF hN hS hD ih hpn hdp (j := 0) (by omega) (hv 0 (by omega)) zw0 g27 g28 T0 (by omega) (fun w1 M1 R1 q1 B1 T1 => xv_C_mono (fun o w ⟨r, h1, h2, h3, h4⟩ => ⟨r, h1, h2, h3, h4, trivial⟩) (c_behind_set M1 hf (by omega) (by omega) o18 (by omega) B1 T1 (by omega) (by omega))) (fun _ w3 z3 t3 => ?_) (fun hl => absurd hpa.symm hl)
      exact cont w3 (xTQ_tr (Nat.le_refl _) z0 z3) t3
    · -- TIMES
      have hpa : xPa (O p) = 2 := by rw [c]; rfl
      have hown : xOwn (O p) = 12 := by rw [c]; rfl
      rw [hown, hpa, xSumN_2] at hsz
      have hsz : σ.1 + (12 + (xSz O K (xIt (xNx O K) 0 (p + 1)) + xSz O K (xIt (xNx O K) 1 (p + 1)))) ≤ 264 := hsz
      have em : xEo (xEmF O A K) (fun j => xIt (xNx O K) j (p + 1)) (O p) (A p) σ = xEm (xS2 (xEm (xEm (xEt (xEm (xEm (xEt (xEmF O A K (xIt (xNx O K) 1 (p + 1)) (xEm (xEm (xEm (xEt (xEm (xEmF O A K (xIt (xNx O K) 0 (p + 1)) σ) 0 7) 7) 13 (A p)) 1 (A p)) 14 1)) 18) 1 (A p)) 0 1) 3) 13 (A p)) 15 (nI ((xEmF O A K (xIt (xNx O K) 0 (p + 1)) σ).1 + 3))) ((xEmF O A K (xIt (xNx O K) 0 (p + 1)) σ).1 + 3 + 1) (nI ((xEmF O A K (xIt (xNx O K) 1 (p + 1)) (xEm (xEm (xEm (xEt (xEm (xEmF O A K (xIt (xNx O K) 0 (p + 1)) σ) 0 7) 7) 13 (A p)) 1 (A p)) 14 1)).1 + 6))) 0 0 := by
        unfold xEo
        rw [if_neg (by omega), if_neg (by omega), if_neg (by omega), if_neg (by omega), if_neg (by omega), if_pos c]
        rfl
      rw [em, hpa] at cont
      clear em
      generalize hs1 : xEmF O A K (xIt (xNx O K) 0 (p + 1)) σ = σ1 at *
      have n1' : σ1.1 = σ.1 + xSz O K (xIt (xNx O K) 0 (p + 1)) := by rw [← hs1]; exact emN _ _
      have n2' : (xEm (xEm (xEm (xEt (xEm σ1 0 7) 7) 13 (A p)) 1 (A p)) 14 1).1 = σ1.1 + 5 := rfl
      generalize hs7 : xEmF O A K (xIt (xNx O K) 1 (p + 1)) (xEm (xEm (xEm (xEt (xEm σ1 0 7) 7) 13 (A p)) 1 (A p)) 14 1) = σ7 at *
      have n7' : σ7.1 = σ1.1 + 5 + xSz O K (xIt (xNx O K) 1 (p + 1)) := by rw [← hs7, emN, n2']
      refine xt_part (τ := xEm (xEm (xEm (xEt (xEm σ1 0 7) 7) 13 (A p)) 1 (A p)) 14 1) (R := fun w => xv_i w (M + 29) d = nI (σ1.1 + 3)) hM hf hF hN hS hD ih hpn hdp (j := 0) (by omega) (hv 0 (by omega)) zw0 g27 g28 T0 (by omega) (fun w1 M1 R1 q1 B1 T1 => by rw [hs1] at T1; exact c_behind_times1 M1 hf (by omega) (by omega) o18 (by omega) B1 T1 (by omega) (by omega)) (fun hl => absurd hl (by omega)) (fun _ w2 z2 a1 a2 t2 r2 => ?_)
      have zz := xTQ_tr (Nat.le_refl _) z0 z2
      refine xt_part (R := fun _ => True) hM hf hF hN hS hD ih hpn hdp (j := 1) (by omega) (hv 1 (by omega)) (xTQ_tr (Nat.zero_le _) zw zz) a1 a2 t2 (by omega) (fun w1 M1 R1 q1 B1 T1 => by rw [hs7] at T1; exact xv_C_mono (fun o w ⟨r, h1, h2, h3, h4⟩ => ⟨r, h1, h2, h3, h4, trivial⟩) (c_behind_times2 M1 hf (by omega) (by omega) o18 (by omega) B1 T1 (q1.trans r2) (by omega) (by omega) (by omega))) (fun _ w3 z3 t3 => ?_) (fun hl => absurd hpa.symm hl)
      exact cont w3 (xTQ_tr (Nat.le_refl _) zz z3) t3
    · -- CALL
      have hpa : xPa (O p) = 3 := by rw [c]; rfl
      have hown : xOwn (O p) = 1 := by rw [c]; rfl
      rw [hown, hpa, xSumN_3] at hsz
      have hsz : σ.1 + (1 + (xSz O K (xIt (xNx O K) 0 (p + 1)) + xSz O K (xIt (xNx O K) 1 (p + 1)) + xSz O K (xIt (xNx O K) 2 (p + 1)))) ≤ 264 := hsz
      have em : xEo (xEmF O A K) (fun j => xIt (xNx O K) j (p + 1)) (O p) (A p) σ = xEm (xEmF O A K (xIt (xNx O K) 2 (p + 1)) (xEmF O A K (xIt (xNx O K) 1 (p + 1)) (xEmF O A K (xIt (xNx O K) 0 (p + 1)) σ))) 16 (A p) := by
        unfold xEo
        rw [if_neg (by omega), if_neg (by omega), if_neg (by omega), if_neg (by omega), if_neg (by omega), if_neg (by omega), if_pos c, hpa]
        rfl
      rw [em, hpa] at cont
      have n1' := emN (xIt (xNx O K) 0 (p + 1)) σ
      have n2' := emN (xIt (xNx O K) 1 (p + 1)) (xEmF O A K (xIt (xNx O K) 0 (p + 1)) σ)
      have n3' := emN (xIt (xNx O K) 2 (p + 1)) (xEmF O A K (xIt (xNx O K) 1 (p + 1)) (xEmF O A K (xIt (xNx O K) 0 (p + 1)) σ))
      refine xt_part (R := fun _ => True) hM hf hF hN hS hD ih hpn hdp (j := 0) (by omega) (hv 0 (by omega)) zw0 g27 g28 T0 (by omega) (fun w1 M1 R1 q1 B1 T1 => (xv_C_mono (fun o w ⟨r, h1, h2, h3⟩ => by subst h3; exact ⟨r, h1, h2, T1, xBF_rf, trivial⟩) (c_behind_none M1 hf (by omega) (by omega) o18 (by omega) B1 T1 (by omega) (by omega) (by omega) (by omega) (by omega) (by omega) (by omega) (by omega) (by omega)))) (fun hl => absurd hl (by omega)) (fun _ w2 z2 a1 a2 t2 _ => ?_)
      have zz := xTQ_tr (Nat.le_refl _) z0 z2
      refine xt_part (R := fun _ => True) hM hf hF hN hS hD ih hpn hdp (j := 1) (by omega) (hv 1 (by omega)) (xTQ_tr (Nat.zero_le _) zw zz) a1 a2 t2 (by omega) (fun w1 M1 R1 q1 B1 T1 => (xv_C_mono (fun o w ⟨r, h1, h2, h3⟩ => by subst h3; exact ⟨r, h1, h2, T1, xBF_rf, trivial⟩) (c_behind_none M1 hf (by omega) (by omega) o18 (by omega) B1 T1 (by omega) (by omega) (by omega) (by omega) (by omega) (by omega) (by omega) (by omega) (by omega)))) (fun hl => absurd hl (by omega)) (fun _ w3 z3 a3 a4 t3 _ => ?_)
      have zz3 := xTQ_tr (Nat.le_refl _) zz z3
      refine xt_part (R := fun _ => True) hM hf hF hN hS hD ih hpn hdp (j := 2) (by omega) (hv 2 (by omega)) (xTQ_tr (Nat.zero_le _) zw zz3) a3 a4 t3 (by omega) (fun w1 M1 R1 q1 B1 T1 => xv_C_mono (fun o w ⟨r, h1, h2, h3, h4⟩ => ⟨r, h1, h2, h3, h4, trivial⟩) (c_behind_call M1 hf (by omega) (by omega) o18 (by omega) B1 T1 (by omega) (by omega))) (fun _ w4 z4 t4 => ?_) (fun hl => absurd hpa.symm hl)
      exact cont w4 (xTQ_tr (Nat.le_refl _) zz3 z4) t4

