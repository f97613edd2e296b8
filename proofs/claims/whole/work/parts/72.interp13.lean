/-! a form's evaluation: leaves, NEG, SET, the reckoning ones, CALL -/
/-- the state and the place, for all the cases below -/
theorem xIt_s {O : Nat → Nat} {k p j : Nat} : xIt (xNx O k) (j + 1) p = xNx O k (xIt (xNx O k) j p) := rfl
theorem xIt_0 {O : Nat → Nat} {k p : Nat} : xIt (xNx O k) 0 p = p := rfl
/-- a part that is not special: its place, and that it may be run -/
theorem xPartN {sc : Nat × (Nat → Int32)} {u : xv_M} {h ma fa oa B f dl D n1 s1 : Nat} {L nP : Nat → Nat} {O : Nat → Nat → Nat} {A : Nat → Nat → Int32} {ans : Nat → Int32 → Int32 → Int32 → xRs} {x y z : Int32} {P : xv_P} (C : xAct sc u h ma fa oa B f dl L nP O A ans) (hN : xv_N u ≤ n1) (hS : xv_S u ≤ s1) (hD : dl + 5 ≤ D) (hD2 : 10 ≤ D) {k p κ γ τ e : Nat} (ih : ∀ (p κ γ τ e : Nat), κ < 128 → γ < 128 → τ ≤ 2 → xEk (O f) (A f) (L f) k p (nI κ) (nI γ) (nI τ) = some e → xSt (O f) (xv_i u (B + 10 * f + 3)) k p → ∀ (w : xv_M) (σ : xZ) (π : xY) (m i : Nat), xIS u B f w σ π → π.2.2 = m + 1 → π.1 m = p → π.2.1 m = 0 → m ≤ p → σ.2.2 ≤ p → i + 4 * (e - p) * xWt τ ≤ 1000000 → xK (xEv ans (O f) (A f) k p σ.1) (xCo sc u D h B f x y z n1 s1 P σ π m i (4 * (e - p) * xWt τ)) (xTX u B f n1 s1 P) → xHe sc D h f x y z n1 s1 P i w) (hκ : κ < 128) (hγ : γ < 128) (hτ : τ ≤ 2) (hE : xEk (O f) (A f) (L f) (k + 1) p (nI κ) (nI γ) (nI τ) = some e) (hSt : xSt (O f) (xv_i u (B + 10 * f + 3)) (k + 1) p) {w : xv_M} {σ : xZ} {π : xY} {m i : Nat} (S : xIS u B f w σ π) (hm : π.2.2 = m + 1) (hp : π.1 m = p) (hj : π.2.1 m = 0) (hmp : m ≤ p) (hσ : σ.2.2 ≤ p) (hi : i + 4 * (e - p) * xWt τ ≤ 1000000) (hK : xK (xEv ans (O f) (A f) (k + 1) p σ.1) (xCo sc u D h B f x y z n1 s1 P σ π m i (4 * (e - p) * xWt τ)) (xTX u B f n1 s1 P)) {j : Nat} (hjp : j < xPa (O f p)) (h13 : ¬ (O f p = 13 ∧ j = 1)) (h14 : ¬ (O f p = 14 ∧ j = 1)) (h16 : ¬ O f p = 16)
    {w1 : xv_M} {σ1 : xZ} {π1 : xY} {i1 : Nat} (S1 : xIS u B f w1 σ1 π1) (hm1 : π1.2.2 = m + 1) (hp1 : π1.1 m = p) (hj1 : π1.2.1 m = j) (hσ1 : σ1.2.2 ≤ σ.2.2 + j) (hi1 : i1 ≤ i + j + 4 * (xIt (xNx (O f) k) j (p + 1) - (p + 1)) * xWt τ)
    (hK1 : xK (xEv ans (O f) (A f) k (xIt (xNx (O f) k) j (p + 1)) σ1.1) (fun v W => ∀ i' w' σ' π', i' ≤ i + (j + 1) + 4 * (xIt (xNx (O f) k) (j + 1) (p + 1) - (p + 1)) * xWt τ → xIS u B f w' σ' π' → σ'.1 = W → σ'.2.2 = σ1.2.2 + 1 → σ'.2.1 σ1.2.2 = v → xAgV σ1 σ' σ1.2.2 → π'.2.2 = m + 1 → π'.1 m = p → π'.2.1 m = j + 1 → xAgY π1 π' m → xHe sc D h f x y z n1 s1 P i' w') (xTX u B f n1 s1 P)) : xHe sc D h f x y z n1 s1 P i1 w1 := by
  obtain ⟨a1, a2, a3, a4, a5, a6⟩ := xEk_N C.2.2.1 hκ hγ hτ hE
  have hL := C.2.2.2.1
  obtain ⟨κ', γ', q1, q2, q3, q4, q5⟩ := a4 j hjp
  rw [if_neg h16] at q3
  obtain ⟨st1, st2⟩ := hSt j hjp
  have b0 : p + 1 + j ≤ xIt (xNx (O f) k) j (p + 1) := by
    clear hK1 hi1 hσ1 hj1 q3 st1 st2 hjp h13 h14
    induction j with
    | zero => exact Nat.le_refl _
    | succ j ihj =>
      have := xNx_gt (O f) k (xIt (xNx (O f) k) j (p + 1))
      rw [xIt_s]
      omega
  have b1 := xNx_gt (O f) k (xIt (xNx (O f) k) j (p + 1))
  rw [← xIt_s] at b1
  have b2 : xIt (xNx (O f) k) (j + 1) (p + 1) ≤ e := by rw [a2]; exact xIt_mono (xNx_gt (O f) k) _ hjp
  have P3 := xPa_3 (O f p)
  generalize xIt (xNx (O f) k) (j + 1) (p + 1) = E at *
  generalize xIt (xNx (O f) k) j (p + 1) = s at *
  have w1' := xWt_1 τ
  have c1 : 4 * (s - (p + 1)) * xWt τ + 4 * (E - s) * xWt τ = 4 * (E - (p + 1)) * xWt τ := by
    rw [← Nat.add_mul]
    congr 1
    omega
  have c2 : 4 * (E - (p + 1)) * xWt τ + 4 * xWt τ ≤ 4 * (e - p) * xWt τ := by
    rw [← Nat.add_mul]
    exact Nat.mul_le_mul_right _ (by omega)
  refine xPart C hN hS hD hD2 ih q1 q2 hτ q3 st1 st2 a1 (by omega) (by omega) (by omega) h13 h14 (fun q => h16 q.1) hjp (by omega) S1 hm1 hp1 hj1 hmp (by omega) (by omega) (xK_mono hK1 (fun v W hc => ?_))
  intro i' w' σ' π' g1 g2 g3 g4 g5 g6 g7 g8 g9 g10
  exact hc i' w' σ' π' (by omega) g2 g3 g4 g5 g6 g7 g8 g9 g10
theorem xCost {p e W : Nat} (h : p < e) (hW : 1 ≤ W) : 4 * (e - (p + 1)) * W + 4 ≤ 4 * (e - p) * W := by
  have : 4 * (e - p) * W = 4 * (e - (p + 1)) * W + 4 * W := by
    rw [← Nat.add_mul]
    congr 1
    omega
  omega
theorem xCo_pu {sc : Nat × (Nat → Int32)} {u : xv_M} {D h B f : Nat} {x y z : Int32} {n1 s1 : Nat} {P : xv_P} {σ : xZ} {π : xY} {m i c : Nat} {v : Int32} {W : xV} (hc : xCo sc u D h B f x y z n1 s1 P σ π m i c v W) {w' : xv_M} {π' : xY} {σ1 : xZ} {i' : Nat} (hi' : i' ≤ i + c) (S' : xIS u B f w' (xPu σ1 v) π') (h1 : σ1.1 = W) (h2 : σ1.2.2 = σ.2.2) (h3 : xAgV σ σ1 σ.2.2) (h4 : π'.2.2 = m) (h5 : xAgY π π' m) : xHe sc D h f x y z n1 s1 P i' w' := by
  refine hc i' w' (xPu σ1 v) π' hi' S' h1 (by show σ1.2.2 + 1 = _; rw [h2]) ?_ (fun q hq => ?_) h4 h5
  · show upd σ1.2.1 σ1.2.2 v σ.2.2 = v
    rw [h2]
    exact pk_us
  · show upd σ1.2.1 σ1.2.2 v q = _
    rw [pk_un (by omega)]
    exact h3 q hq
theorem xAgY_tr {π π1 π2 : xY} {m : Nat} (a : xAgY π π1 m) (b : xAgY π1 π2 m) : xAgY π π2 m := fun q hq => ⟨(b q hq).1.trans (a q hq).1, (b q hq).2.trans (a q hq).2⟩
theorem xAgV_tr {π π1 π2 : xZ} {m n : Nat} (hmn : m ≤ n) (a : xAgV π π1 m) (b : xAgV π1 π2 n) : xAgV π π2 m := fun q hq => (b q (by omega)).trans (a q hq)
/-- the finish of what is no CALL -/
theorem xFinC {sc : Nat × (Nat → Int32)} {h ma fa oa B f p : Nat} {L nP : Nat → Nat} {O : Nat → Nat → Nat} {A : Nat → Nat → Int32} {σ : xZ} (hf : f < 8) (hT : xTok (O f) (A f) (L f)) (hp : p < L f) (ho : O f p ≤ 12 ∨ O f p = 15) (h42 : σ.2.2 ≤ 41) (q1 : O f p = 12 ∨ O f p = 15 → 1 ≤ σ.2.2) (q2 : 2 ≤ O f p ∧ O f p ≤ 11 → 2 ≤ σ.2.2) (hz : O f p = 5 ∨ O f p = 6 → ¬ xTp σ = 0) : ∀ u', xII u' h ma fa oa B L nP O A → xFs u' (B + 10 * f + 4) σ → xv_C sc 2 J_Interp_finish [.ref h, .int (nI f), .int (nI (O f p)), .int (A f p)] u' (xv_N u') (xv_S u') (xv_pv (fun w => xFs w (B + 10 * f + 4) (xFin (O f p) (A f p) σ) ∧ xSi (xIL B f) u' w)) := by
  intro u' H' hs'
  exact xv_C_mono (fun o w ⟨h1, h2, h3⟩ => ⟨h1, h2, xSi_FI h3⟩) (c_Interp_finish H'.1 hf hs' ho (by omega) (fun _ => by omega) q1 q2 (hT p hp).2.1 hz)
theorem xR_leaf {sc : Nat × (Nat → Int32)} {u : xv_M} {h ma fa oa B f dl D n1 s1 : Nat} {L nP : Nat → Nat} {O : Nat → Nat → Nat} {A : Nat → Nat → Int32} {ans : Nat → Int32 → Int32 → Int32 → xRs} {x y z : Int32} {P : xv_P} (C : xAct sc u h ma fa oa B f dl L nP O A ans) (hN : xv_N u ≤ n1) (hS : xv_S u ≤ s1) (hD : dl + 5 ≤ D) (hD2 : 10 ≤ D) {k p κ γ τ e : Nat} (ih : ∀ (p κ γ τ e : Nat), κ < 128 → γ < 128 → τ ≤ 2 → xEk (O f) (A f) (L f) k p (nI κ) (nI γ) (nI τ) = some e → xSt (O f) (xv_i u (B + 10 * f + 3)) k p → ∀ (w : xv_M) (σ : xZ) (π : xY) (m i : Nat), xIS u B f w σ π → π.2.2 = m + 1 → π.1 m = p → π.2.1 m = 0 → m ≤ p → σ.2.2 ≤ p → i + 4 * (e - p) * xWt τ ≤ 1000000 → xK (xEv ans (O f) (A f) k p σ.1) (xCo sc u D h B f x y z n1 s1 P σ π m i (4 * (e - p) * xWt τ)) (xTX u B f n1 s1 P) → xHe sc D h f x y z n1 s1 P i w) (hκ : κ < 128) (hγ : γ < 128) (hτ : τ ≤ 2) (hE : xEk (O f) (A f) (L f) (k + 1) p (nI κ) (nI γ) (nI τ) = some e) (hSt : xSt (O f) (xv_i u (B + 10 * f + 3)) (k + 1) p) {w : xv_M} {σ : xZ} {π : xY} {m i : Nat} (S : xIS u B f w σ π) (hm : π.2.2 = m + 1) (hp : π.1 m = p) (hj : π.2.1 m = 0) (hmp : m ≤ p) (hσ : σ.2.2 ≤ p) (hi : i + 4 * (e - p) * xWt τ ≤ 1000000) (hK : xK (xEv ans (O f) (A f) (k + 1) p σ.1) (xCo sc u D h B f x y z n1 s1 P σ π m i (4 * (e - p) * xWt τ)) (xTX u B f n1 s1 P)) (ho : O f p = 0 ∨ O f p = 1) : xHe sc D h f x y z n1 s1 P i w := by
  obtain ⟨a1, a2, a3, a4, a5, a6⟩ := xEk_N C.2.2.1 hκ hγ hτ hE
  have hL := C.2.2.2.1
  have hc := xCost (p := p) (e := e) (W := xWt τ) (by have := xNx_gt (O f) (k + 1) p; rw [← (xEk_nx _ _ _ _ _ _ hE).1] at this; exact this) (xWt_1 τ)
  have hpa : xPa (O f p) = 0 := by rcases ho with e | e <;> rw [e] <;> rfl
  refine xFinV C hN hS hD hD2 S hm hp hj hmp a1 (by decide) (by omega) (by omega) (by omega) (by omega) (by omega) (d := 2) (by decide) (by omega) (xFinC C.2.1 C.2.2.1 a1 (by omega) (by omega) (by omega) (by omega) (by omega)) (fun w' π' S' g1 g2 => ?_)
  rcases ho with e | e
  · have hK : xK (xEvo ans (xEv ans (O f) (A f) k) _ (O f p) (A f p) σ.1) _ _ := hK
    unfold xEvo at hK
    rw [if_pos e] at hK
    unfold xFin at S'
    rw [if_pos e] at S'
    exact xCo_pu hK (by omega) S' rfl rfl (fun q hq => rfl) g1 g2
  · have hK : xK (xEvo ans (xEv ans (O f) (A f) k) _ (O f p) (A f p) σ.1) _ _ := hK
    unfold xEvo at hK
    rw [if_neg (by omega), if_pos e] at hK
    unfold xFin at S'
    rw [if_neg (by omega), if_pos e] at S'
    exact xCo_pu hK (by omega) S' rfl rfl (fun q hq => rfl) g1 g2
/-- one part, then the finish: NEG and SET -/
theorem xR_one {sc : Nat × (Nat → Int32)} {u : xv_M} {h ma fa oa B f dl D n1 s1 : Nat} {L nP : Nat → Nat} {O : Nat → Nat → Nat} {A : Nat → Nat → Int32} {ans : Nat → Int32 → Int32 → Int32 → xRs} {x y z : Int32} {P : xv_P} (C : xAct sc u h ma fa oa B f dl L nP O A ans) (hN : xv_N u ≤ n1) (hS : xv_S u ≤ s1) (hD : dl + 5 ≤ D) (hD2 : 10 ≤ D) {k p κ γ τ e : Nat} (ih : ∀ (p κ γ τ e : Nat), κ < 128 → γ < 128 → τ ≤ 2 → xEk (O f) (A f) (L f) k p (nI κ) (nI γ) (nI τ) = some e → xSt (O f) (xv_i u (B + 10 * f + 3)) k p → ∀ (w : xv_M) (σ : xZ) (π : xY) (m i : Nat), xIS u B f w σ π → π.2.2 = m + 1 → π.1 m = p → π.2.1 m = 0 → m ≤ p → σ.2.2 ≤ p → i + 4 * (e - p) * xWt τ ≤ 1000000 → xK (xEv ans (O f) (A f) k p σ.1) (xCo sc u D h B f x y z n1 s1 P σ π m i (4 * (e - p) * xWt τ)) (xTX u B f n1 s1 P) → xHe sc D h f x y z n1 s1 P i w) (hκ : κ < 128) (hγ : γ < 128) (hτ : τ ≤ 2) (hE : xEk (O f) (A f) (L f) (k + 1) p (nI κ) (nI γ) (nI τ) = some e) (hSt : xSt (O f) (xv_i u (B + 10 * f + 3)) (k + 1) p) {w : xv_M} {σ : xZ} {π : xY} {m i : Nat} (S : xIS u B f w σ π) (hm : π.2.2 = m + 1) (hp : π.1 m = p) (hj : π.2.1 m = 0) (hmp : m ≤ p) (hσ : σ.2.2 ≤ p) (hi : i + 4 * (e - p) * xWt τ ≤ 1000000) (hK : xK (xEv ans (O f) (A f) (k + 1) p σ.1) (xCo sc u D h B f x y z n1 s1 P σ π m i (4 * (e - p) * xWt τ)) (xTX u B f n1 s1 P)) (ho : O f p = 12 ∨ O f p = 15) : xHe sc D h f x y z n1 s1 P i w := by
  obtain ⟨a1, a2, a3, a4, a5, a6⟩ := xEk_N C.2.2.1 hκ hγ hτ hE
  have hL := C.2.2.2.1
  have hc := xCost (p := p) (e := e) (W := xWt τ) (by have := xNx_gt (O f) (k + 1) p; rw [← (xEk_nx _ _ _ _ _ _ hE).1] at this; exact this) (xWt_1 τ)
  have hpa : xPa (O f p) = 1 := by rcases ho with e | e <;> rw [e] <;> rfl
  rw [hpa] at a2
  have hK0 : xK (xEvo ans (xEv ans (O f) (A f) k) (fun j => xIt (xNx (O f) k) j (p + 1)) (O f p) (A f p) σ.1) (xCo sc u D h B f x y z n1 s1 P σ π m i (4 * (e - p) * xWt τ)) (xTX u B f n1 s1 P) := hK
  unfold xEvo at hK0
  rw [if_neg (by omega), if_neg (by omega)] at hK0
  have hK1 : xK (xEv ans (O f) (A f) k (xIt (xNx (O f) k) 0 (p + 1)) σ.1) (fun v W => (O f p = 12 → xCo sc u D h B f x y z n1 s1 P σ π m i (4 * (e - p) * xWt τ) (-v) W) ∧ (O f p = 15 → xCo sc u D h B f x y z n1 s1 P σ π m i (4 * (e - p) * xWt τ) v (upd W (A f p).toNatClampNeg v))) (xTX u B f n1 s1 P) := by
    rcases ho with e1 | e1
    · rw [if_pos e1] at hK0
      exact xK_mono (xK_bd hK0) (fun v W hc => ⟨fun _ => hc, fun q => by omega⟩)
    · rw [if_neg (by omega), if_neg (by omega), if_neg (by omega), if_pos e1] at hK0
      exact xK_mono (xK_bd hK0) (fun v W hc => ⟨fun q => by omega, fun _ => hc⟩)
  refine xPartN C hN hS hD hD2 ih hκ hγ hτ hE hSt S hm hp hj hmp hσ hi hK (j := 0) (by omega) (by omega) (by omega) (by omega) S hm hp hj (by omega) (by omega) (xK_mono hK1 (fun v W hc1 => ?_))
  intro i' w' σ' π' g1 g2 g3 g4 g5 g6 g7 g8 g9 g10
  rw [show xIt (xNx (O f) k) (0 + 1) (p + 1) = e from a2.symm] at g1
  have htp : xTp σ' = v := by unfold xTp; rw [g4]; exact g5
  refine xFinV C hN hS hD hD2 g2 g7 g8 g9 hmp a1 (by decide) (by omega) (by omega) (by omega) (by omega) (by omega) (d := 2) (by decide) (by omega) (xFinC C.2.1 C.2.2.1 a1 (by omega) (by omega) (by omega) (by omega) (by omega)) (fun w2 π2 S2 b1 b2 => ?_)
  unfold xFin at S2
  rw [if_neg (by omega), if_neg (by omega)] at S2
  rcases ho with e1 | e1
  · rw [if_pos e1, htp] at S2
    exact xCo_pu (hc1.1 e1) (by omega) S2 g3 (by show σ'.2.2 - 1 = _; omega) g6 b1 (xAgY_tr g10 b2)
  · rw [if_neg (by omega), if_pos e1, htp] at S2
    refine hc1.2 e1 (i' + 1) w2 _ π2 (by omega) S2 ?_ g4 g5 g6 b1 (xAgY_tr g10 b2)
    show upd σ'.1 _ v = _
    rw [g3]
/-- two parts, then the reckoning -/
theorem xR_two {sc : Nat × (Nat → Int32)} {u : xv_M} {h ma fa oa B f dl D n1 s1 : Nat} {L nP : Nat → Nat} {O : Nat → Nat → Nat} {A : Nat → Nat → Int32} {ans : Nat → Int32 → Int32 → Int32 → xRs} {x y z : Int32} {P : xv_P} (C : xAct sc u h ma fa oa B f dl L nP O A ans) (hN : xv_N u ≤ n1) (hS : xv_S u ≤ s1) (hD : dl + 5 ≤ D) (hD2 : 10 ≤ D) {k p κ γ τ e : Nat} (ih : ∀ (p κ γ τ e : Nat), κ < 128 → γ < 128 → τ ≤ 2 → xEk (O f) (A f) (L f) k p (nI κ) (nI γ) (nI τ) = some e → xSt (O f) (xv_i u (B + 10 * f + 3)) k p → ∀ (w : xv_M) (σ : xZ) (π : xY) (m i : Nat), xIS u B f w σ π → π.2.2 = m + 1 → π.1 m = p → π.2.1 m = 0 → m ≤ p → σ.2.2 ≤ p → i + 4 * (e - p) * xWt τ ≤ 1000000 → xK (xEv ans (O f) (A f) k p σ.1) (xCo sc u D h B f x y z n1 s1 P σ π m i (4 * (e - p) * xWt τ)) (xTX u B f n1 s1 P) → xHe sc D h f x y z n1 s1 P i w) (hκ : κ < 128) (hγ : γ < 128) (hτ : τ ≤ 2) (hE : xEk (O f) (A f) (L f) (k + 1) p (nI κ) (nI γ) (nI τ) = some e) (hSt : xSt (O f) (xv_i u (B + 10 * f + 3)) (k + 1) p) {w : xv_M} {σ : xZ} {π : xY} {m i : Nat} (S : xIS u B f w σ π) (hm : π.2.2 = m + 1) (hp : π.1 m = p) (hj : π.2.1 m = 0) (hmp : m ≤ p) (hσ : σ.2.2 ≤ p) (hi : i + 4 * (e - p) * xWt τ ≤ 1000000) (hK : xK (xEv ans (O f) (A f) (k + 1) p σ.1) (xCo sc u D h B f x y z n1 s1 P σ π m i (4 * (e - p) * xWt τ)) (xTX u B f n1 s1 P)) (ho : 2 ≤ O f p ∧ O f p ≤ 11) : xHe sc D h f x y z n1 s1 P i w := by
  obtain ⟨a1, a2, a3, a4, a5, a6⟩ := xEk_N C.2.2.1 hκ hγ hτ hE
  have hL := C.2.2.2.1
  have hc := xCost (p := p) (e := e) (W := xWt τ) (by have := xNx_gt (O f) (k + 1) p; rw [← (xEk_nx _ _ _ _ _ _ hE).1] at this; exact this) (xWt_1 τ)
  have hpa : xPa (O f p) = 2 := by
    have key : ∀ o, o < 18 → 2 ≤ o → o ≤ 11 → xPa o = 2 := by decide +kernel
    exact key _ (by omega) ho.1 ho.2
  rw [hpa] at a2
  have hK0 : xK (xEvo ans (xEv ans (O f) (A f) k) (fun j => xIt (xNx (O f) k) j (p + 1)) (O f p) (A f p) σ.1) (xCo sc u D h B f x y z n1 s1 P σ π m i (4 * (e - p) * xWt τ)) (xTX u B f n1 s1 P) := hK
  unfold xEvo at hK0
  rw [if_neg (by omega), if_neg (by omega), if_neg (by omega), if_neg (by omega), if_neg (by omega), if_neg (by omega), if_neg (by omega), if_neg (by omega)] at hK0
  refine xPartN C hN hS hD hD2 ih hκ hγ hτ hE hSt S hm hp hj hmp hσ hi hK (j := 0) (by omega) (by omega) (by omega) (by omega) S hm hp hj (by omega) (by omega) (xK_mono (xK_bd hK0) (fun v W hc1 => ?_))
  intro i' w' σ' π' g1 g2 g3 g4 g5 g6 g7 g8 g9 g10
  rw [← g3] at hc1
  refine xPartN C hN hS hD hD2 ih hκ hγ hτ hE hSt S hm hp hj hmp hσ hi hK (j := 1) (by omega) (by omega) (by omega) (by omega) g2 g7 g8 g9 (by omega) g1 (xK_mono (xK_bd hc1) (fun v2 W2 hc2 => ?_))
  intro i2 w2 σ2 π2 b1 b2 b3 b4 b5 b6 b7 b8 b9 b10
  rw [show xIt (xNx (O f) k) (1 + 1) (p + 1) = e from a2.symm] at b1
  have htp : xTp σ2 = v2 := by unfold xTp; rw [b4]; exact b5
  have htp2 : xTp (xPo σ2) = v := by
    unfold xTp
    show σ2.2.1 (σ2.2.2 - 1 - 1) = v
    rw [b4, show σ'.2.2 + 1 - 1 - 1 = σ.2.2 by omega, b6 _ (by omega)]
    exact g5
  by_cases ez : (O f p = 5 ∨ O f p = 6) ∧ v2 = 0
  · rw [if_pos ez] at hc2
    refine xFinX C hN hS hD hD2 b2 b7 b8 b9 hmp a1 (by decide) (by omega) (by omega) (by omega) (by omega) (by omega) (d := 8) (by decide) (by omega) (fun u' H' hs' => ?_) hc2
    exact c_Interp_finish_x H'.1 C.2.1 hs' ez.1 (by omega) (by omega) (by rw [htp]; exact ez.2)
  · rw [if_neg ez] at hc2
    refine xFinV C hN hS hD hD2 b2 b7 b8 b9 hmp a1 (by decide) (by omega) (by omega) (by omega) (by omega) (by omega) (d := 2) (by decide) (by omega) (xFinC C.2.1 C.2.2.1 a1 (by omega) (by omega) (by omega) (by omega) (fun q => by rw [htp]; exact fun q2 => ez ⟨q, q2⟩)) (fun w3 π3 S3 d1 d2 => ?_)
    unfold xFin at S3
    rw [if_neg (by omega), if_neg (by omega), if_neg (by omega), if_neg (by omega), htp, htp2] at S3
    exact xCo_pu hc2 (by omega) S3 b3 (by show σ2.2.2 - 1 - 1 = _; omega) (xAgV_tr (by omega) g6 b6) d1 (xAgY_tr (xAgY_tr g10 b10) d2)
theorem xR_call {sc : Nat × (Nat → Int32)} {u : xv_M} {h ma fa oa B f dl D n1 s1 : Nat} {L nP : Nat → Nat} {O : Nat → Nat → Nat} {A : Nat → Nat → Int32} {ans : Nat → Int32 → Int32 → Int32 → xRs} {x y z : Int32} {P : xv_P} (C : xAct sc u h ma fa oa B f dl L nP O A ans) (hN : xv_N u ≤ n1) (hS : xv_S u ≤ s1) (hD : dl + 5 ≤ D) (hD2 : 10 ≤ D) {k p κ γ τ e : Nat} (ih : ∀ (p κ γ τ e : Nat), κ < 128 → γ < 128 → τ ≤ 2 → xEk (O f) (A f) (L f) k p (nI κ) (nI γ) (nI τ) = some e → xSt (O f) (xv_i u (B + 10 * f + 3)) k p → ∀ (w : xv_M) (σ : xZ) (π : xY) (m i : Nat), xIS u B f w σ π → π.2.2 = m + 1 → π.1 m = p → π.2.1 m = 0 → m ≤ p → σ.2.2 ≤ p → i + 4 * (e - p) * xWt τ ≤ 1000000 → xK (xEv ans (O f) (A f) k p σ.1) (xCo sc u D h B f x y z n1 s1 P σ π m i (4 * (e - p) * xWt τ)) (xTX u B f n1 s1 P) → xHe sc D h f x y z n1 s1 P i w) (hκ : κ < 128) (hγ : γ < 128) (hτ : τ ≤ 2) (hE : xEk (O f) (A f) (L f) (k + 1) p (nI κ) (nI γ) (nI τ) = some e) (hSt : xSt (O f) (xv_i u (B + 10 * f + 3)) (k + 1) p) {w : xv_M} {σ : xZ} {π : xY} {m i : Nat} (S : xIS u B f w σ π) (hm : π.2.2 = m + 1) (hp : π.1 m = p) (hj : π.2.1 m = 0) (hmp : m ≤ p) (hσ : σ.2.2 ≤ p) (hi : i + 4 * (e - p) * xWt τ ≤ 1000000) (hK : xK (xEv ans (O f) (A f) (k + 1) p σ.1) (xCo sc u D h B f x y z n1 s1 P σ π m i (4 * (e - p) * xWt τ)) (xTX u B f n1 s1 P)) (ho : O f p = 17) : xHe sc D h f x y z n1 s1 P i w := by
  obtain ⟨a1, a2, a3, a4, a5, a6⟩ := xEk_N C.2.2.1 hκ hγ hτ hE
  have hL := C.2.2.2.1
  have hc := xCost (p := p) (e := e) (W := xWt τ) (by have := xNx_gt (O f) (k + 1) p; rw [← (xEk_nx _ _ _ _ _ _ hE).1] at this; exact this) (xWt_1 τ)
  have hpa : xPa (O f p) = 3 := by rw [ho]; rfl
  obtain ⟨a, ha8, hA⟩ := (C.2.2.1 p a1).2.2.2.2 ho
  have haf := C.2.2.2.2.1 p a1 ho a ha8 hA
  have hca : (A f p).toNatClampNeg = a := by rw [hA]; exact nI_clamp (by omega)
  rw [hpa] at a2
  have hK0 : xK (xEvo ans (xEv ans (O f) (A f) k) (fun j => xIt (xNx (O f) k) j (p + 1)) (O f p) (A f p) σ.1) (xCo sc u D h B f x y z n1 s1 P σ π m i (4 * (e - p) * xWt τ)) (xTX u B f n1 s1 P) := hK
  unfold xEvo at hK0
  rw [if_neg (by omega), if_neg (by omega), if_neg (by omega), if_neg (by omega), if_neg (by omega), if_neg (by omega), if_neg (by omega), if_pos ho, hca] at hK0
  refine xPartN C hN hS hD hD2 ih hκ hγ hτ hE hSt S hm hp hj hmp hσ hi hK (j := 0) (by omega) (by omega) (by omega) (by omega) S hm hp hj (by omega) (by omega) (xK_mono (xK_bd hK0) (fun v W hc1 => ?_))
  intro i' w' σ' π' g1 g2 g3 g4 g5 g6 g7 g8 g9 g10
  rw [← g3] at hc1
  refine xPartN C hN hS hD hD2 ih hκ hγ hτ hE hSt S hm hp hj hmp hσ hi hK (j := 1) (by omega) (by omega) (by omega) (by omega) g2 g7 g8 g9 (by omega) g1 (xK_mono (xK_bd hc1) (fun v2 W2 hc2 => ?_))
  intro i2 w2 σ2 π2 b1 b2 b3 b4 b5 b6 b7 b8 b9 b10
  rw [← b3] at hc2
  refine xPartN C hN hS hD hD2 ih hκ hγ hτ hE hSt S hm hp hj hmp hσ hi hK (j := 2) (by omega) (by omega) (by omega) (by omega) b2 b7 b8 b9 (by omega) b1 (xK_mono (xK_bd hc2) (fun v3 W3 hc3 => ?_))
  intro i3 w3 σ3 π3 d1 d2 d3 d4 d5 d6 d7 d8 d9 d10
  rw [show xIt (xNx (O f) k) (2 + 1) (p + 1) = e from a2.symm] at d1
  have htp : xTp σ3 = v3 := by unfold xTp; rw [d4]; exact d5
  have htp2 : xTp (xPo σ3) = v2 := by
    unfold xTp
    show σ3.2.1 (σ3.2.2 - 1 - 1) = v2
    rw [d4, show σ2.2.2 + 1 - 1 - 1 = σ'.2.2 by omega, d6 _ (by omega)]
    exact b5
  have htp3 : xTp (xPo (xPo σ3)) = v := by
    unfold xTp
    show σ3.2.1 (σ3.2.2 - 1 - 1 - 1) = v
    rw [d4, show σ2.2.2 + 1 - 1 - 1 - 1 = σ.2.2 by omega, d6 _ (by omega), b6 _ (by omega)]
    exact g5
  obtain ⟨c1, c2⟩ : (∀ u', xII u' h ma fa oa B L nP O A → ∀ v4, ans a v v2 v3 = .inl v4 → xv_C sc dl J_Interp_answer [.ref h, .int (nI a), .int v, .int v2, .int v3] u' (xv_N u') (xv_S u') (xv_pi (fun r w => r = v4 ∧ xSi (xIF B a) u' w))) ∧ (∀ u', xII u' h ma fa oa B L nP O A → ∀ k, ans a v v2 v3 = .inr k → xv_C sc dl J_Interp_answer [.ref h, .int (nI a), .int v, .int v2, .int v3] u' (xv_N u' + 1) (xv_S u' + 6) (xv_px k (fun e w => ∃ w0, xSi (xIF B a) u' w0 ∧ e = xv_N u' ∧ w = xv_nw w0 (k + 1) 0 6))) := ⟨fun u' H' => (C.2.2.2.2.2 a haf u' v v2 v3 H').1, fun u' H' => (C.2.2.2.2.2 a haf u' v v2 v3 H').2⟩
  cases hr : ans a v v2 v3 with
  | inl v4 =>
    rw [hr] at hc3
    refine xFinV C hN hS hD hD2 d2 d7 d8 d9 hmp a1 (by decide) (by omega) (by omega) (by omega) (by omega) (by omega) (d := dl + 3) (τ := xPu (xPo (xPo (xPo σ3))) v4) (by omega) (by omega) (fun u' H' hs' => ?_) (fun w4 π4 S4 f1 f2 => ?_)
    · rw [ho, hA]
      exact c_Interp_finish_c H' C.2.1 haf hs' (by omega) (by omega) (by rw [htp, htp2, htp3]; exact fun u2 H2 => c1 u2 H2 v4 hr)
    · exact xCo_pu hc3 (by omega) S4 d3 (by show σ3.2.2 - 1 - 1 - 1 = _; omega) (xAgV_tr (by omega) (xAgV_tr (by omega) g6 b6) d6) f1 (xAgY_tr (xAgY_tr (xAgY_tr g10 b10) d10) f2)
  | inr k4 =>
    rw [hr] at hc3
    refine xFinX C hN hS hD hD2 d2 d7 d8 d9 hmp a1 (by decide) (by omega) (by omega) (by omega) (by omega) (by omega) (d := dl + 3) (by omega) (by omega) (fun u' H' hs' => ?_) hc3
    rw [ho, hA]
    exact c_Interp_finish_cx H' C.2.1 haf hs' (by omega) (by omega) (by rw [htp, htp2, htp3]; exact fun u2 H2 => c2 u2 H2 k4 hr)

