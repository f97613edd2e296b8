/-! a form's evaluation: IF, LET, TIMES -/
/-- the last part of an IF or a LET -/
theorem xTail {sc : Nat × (Nat → Int32)} {u : xv_M} {h ma fa oa B f dl D n1 s1 : Nat} {L nP : Nat → Nat} {O : Nat → Nat → Nat} {A : Nat → Nat → Int32} {ans : Nat → Int32 → Int32 → Int32 → xRs} {x y z : Int32} {P : xv_P} (C : xAct sc u h ma fa oa B f dl L nP O A ans) (hN : xv_N u ≤ n1) (hS : xv_S u ≤ s1) (hD : dl + 5 ≤ D) (hD2 : 10 ≤ D) {k p κ γ τ e : Nat} (ih : ∀ (p κ γ τ e : Nat), κ < 128 → γ < 128 → τ ≤ 2 → xEk (O f) (A f) (L f) k p (nI κ) (nI γ) (nI τ) = some e → xSt (O f) (xv_i u (B + 10 * f + 3)) k p → ∀ (w : xv_M) (σ : xZ) (π : xY) (m i : Nat), xIS u B f w σ π → π.2.2 = m + 1 → π.1 m = p → π.2.1 m = 0 → m ≤ p → σ.2.2 ≤ p → i + 4 * (e - p) * xWt τ ≤ 1000000 → xK (xEv ans (O f) (A f) k p σ.1) (xCo sc u D h B f x y z n1 s1 P σ π m i (4 * (e - p) * xWt τ)) (xTX u B f n1 s1 P) → xHe sc D h f x y z n1 s1 P i w) (hκ : κ < 128) (hγ : γ < 128) (hτ : τ ≤ 2) (hE : xEk (O f) (A f) (L f) (k + 1) p (nI κ) (nI γ) (nI τ) = some e) (hSt : xSt (O f) (xv_i u (B + 10 * f + 3)) (k + 1) p) {w : xv_M} {σ : xZ} {π : xY} {m i : Nat} (S : xIS u B f w σ π) (hm : π.2.2 = m + 1) (hp : π.1 m = p) (hj : π.2.1 m = 0) (hmp : m ≤ p) (hσ : σ.2.2 ≤ p) (hi : i + 4 * (e - p) * xWt τ ≤ 1000000) (hK : xK (xEv ans (O f) (A f) (k + 1) p σ.1) (xCo sc u D h B f x y z n1 s1 P σ π m i (4 * (e - p) * xWt τ)) (xTX u B f n1 s1 P)) {j : Nat} (hjp : j < xPa (O f p)) (hj1 : 1 ≤ j) (h16 : ¬ O f p = 16) {w1 : xv_M} {σ1 : xZ} {π1 : xY} {i1 : Nat} (S1 : xIS u B f w1 σ1 (xOg π1 (xIt (xNx (O f) k) j (p + 1)))) (hm1 : π1.2.2 = m + 1) (hσ1 : σ1.2.2 = σ.2.2) (hV : xAgV σ σ1 σ.2.2) (hY : xAgY π π1 m) (hi1 : i1 ≤ i + 2 + 4 * (xIt (xNx (O f) k) 1 (p + 1) - (p + 1)) * xWt τ)
    (hK1 : xK (xEv ans (O f) (A f) k (xIt (xNx (O f) k) j (p + 1)) σ1.1) (xCo sc u D h B f x y z n1 s1 P σ π m i (4 * (e - p) * xWt τ)) (xTX u B f n1 s1 P)) : xHe sc D h f x y z n1 s1 P i1 w1 := by
  obtain ⟨a1, a2, a3, a4, a5, a6⟩ := xEk_N C.2.2.1 hκ hγ hτ hE
  obtain ⟨κ', γ', q1, q2, q3, q4, q5⟩ := a4 j hjp
  rw [if_neg h16] at q3
  obtain ⟨st1, st2⟩ := hSt j hjp
  have b0 : xIt (xNx (O f) k) 1 (p + 1) ≤ xIt (xNx (O f) k) j (p + 1) := xIt_mono (xNx_gt (O f) k) _ hj1
  have b00 : p + 1 ≤ xIt (xNx (O f) k) 1 (p + 1) := xIt_mono (xNx_gt (O f) k) (p + 1) (Nat.zero_le 1)
  have b1 := xNx_gt (O f) k (xIt (xNx (O f) k) j (p + 1))
  rw [← xIt_s] at b1
  have b2 : xIt (xNx (O f) k) (j + 1) (p + 1) ≤ e := by rw [a2]; exact xIt_mono (xNx_gt (O f) k) _ hjp
  generalize xIt (xNx (O f) k) (j + 1) (p + 1) = E at *
  generalize xIt (xNx (O f) k) j (p + 1) = s at *
  generalize xIt (xNx (O f) k) 1 (p + 1) = s1 at *
  have w1' := xWt_1 τ
  have c1 : 4 * (s1 - (p + 1)) * xWt τ + 4 * (E - s) * xWt τ + 4 * xWt τ ≤ 4 * (e - p) * xWt τ := by
    rw [← Nat.add_mul, ← Nat.add_mul]
    exact Nat.mul_le_mul_right _ (by omega)
  have e0 : π1.2.2 - 1 = m := by omega
  refine ih s κ' γ' τ E q1 q2 hτ q3 st2 w1 σ1 (xOg π1 s) m i1 S1 hm1 ?_ ?_ (by omega) (by omega) (by omega) (xK_mono hK1 (fun v W hc => ?_))
  · show xPt π1.1 (π1.2.2 - 1) s m = s
    rw [e0]; exact xPt_eq
  · show xPt π1.2.1 (π1.2.2 - 1) 0 m = 0
    rw [e0]; exact xPt_eq
  · intro i' w' σ' π' g1 g2 g3 g4 g5 g6 g7 g8
    refine hc i' w' σ' π' (by omega) g2 g3 (by omega) (by rw [← hσ1]; exact g5) (xAgV_tr (by omega) hV g6) g7 (fun q hq => ?_)
    have a := g8 q hq
    have a' : (xOg π1 s).1 q = π1.1 q ∧ (xOg π1 s).2.1 q = π1.2.1 q := by
      refine ⟨?_, ?_⟩
      · show xPt π1.1 (π1.2.2 - 1) s q = _
        rw [xPt_ne (by omega)]
      · show xPt π1.2.1 (π1.2.2 - 1) 0 q = _
        rw [xPt_ne (by omega)]
    have b := hY q hq
    exact ⟨a.1.trans (a'.1.trans b.1), a.2.trans (a'.2.trans b.2)⟩
theorem xR_if {sc : Nat × (Nat → Int32)} {u : xv_M} {h ma fa oa B f dl D n1 s1 : Nat} {L nP : Nat → Nat} {O : Nat → Nat → Nat} {A : Nat → Nat → Int32} {ans : Nat → Int32 → Int32 → Int32 → xRs} {x y z : Int32} {P : xv_P} (C : xAct sc u h ma fa oa B f dl L nP O A ans) (hN : xv_N u ≤ n1) (hS : xv_S u ≤ s1) (hD : dl + 5 ≤ D) (hD2 : 10 ≤ D) {k p κ γ τ e : Nat} (ih : ∀ (p κ γ τ e : Nat), κ < 128 → γ < 128 → τ ≤ 2 → xEk (O f) (A f) (L f) k p (nI κ) (nI γ) (nI τ) = some e → xSt (O f) (xv_i u (B + 10 * f + 3)) k p → ∀ (w : xv_M) (σ : xZ) (π : xY) (m i : Nat), xIS u B f w σ π → π.2.2 = m + 1 → π.1 m = p → π.2.1 m = 0 → m ≤ p → σ.2.2 ≤ p → i + 4 * (e - p) * xWt τ ≤ 1000000 → xK (xEv ans (O f) (A f) k p σ.1) (xCo sc u D h B f x y z n1 s1 P σ π m i (4 * (e - p) * xWt τ)) (xTX u B f n1 s1 P) → xHe sc D h f x y z n1 s1 P i w) (hκ : κ < 128) (hγ : γ < 128) (hτ : τ ≤ 2) (hE : xEk (O f) (A f) (L f) (k + 1) p (nI κ) (nI γ) (nI τ) = some e) (hSt : xSt (O f) (xv_i u (B + 10 * f + 3)) (k + 1) p) {w : xv_M} {σ : xZ} {π : xY} {m i : Nat} (S : xIS u B f w σ π) (hm : π.2.2 = m + 1) (hp : π.1 m = p) (hj : π.2.1 m = 0) (hmp : m ≤ p) (hσ : σ.2.2 ≤ p) (hi : i + 4 * (e - p) * xWt τ ≤ 1000000) (hK : xK (xEv ans (O f) (A f) (k + 1) p σ.1) (xCo sc u D h B f x y z n1 s1 P σ π m i (4 * (e - p) * xWt τ)) (xTX u B f n1 s1 P)) (ho : O f p = 13) : xHe sc D h f x y z n1 s1 P i w := by
  obtain ⟨a1, a2, a3, a4, a5, a6⟩ := xEk_N C.2.2.1 hκ hγ hτ hE
  have hL := C.2.2.2.1
  have hc := xCost (p := p) (e := e) (W := xWt τ) (by have := xNx_gt (O f) (k + 1) p; rw [← (xEk_nx _ _ _ _ _ _ hE).1] at this; exact this) (xWt_1 τ)
  have hpa : xPa (O f p) = 3 := by rw [ho]; rfl
  obtain ⟨t, ht, hA⟩ := (C.2.2.1 p a1).2.2.2.1 ho
  have hle : xIt (xNx (O f) k) 1 (p + 1) ≤ e := by rw [a2, hpa]; exact xIt_mono (xNx_gt (O f) k) _ (by decide)
  have hle2 : 4 * (xIt (xNx (O f) k) 1 (p + 1) - (p + 1)) * xWt τ ≤ 4 * (e - (p + 1)) * xWt τ := Nat.mul_le_mul_right _ (by omega)
  have hK0 : xK (xEvo ans (xEv ans (O f) (A f) k) (fun j => xIt (xNx (O f) k) j (p + 1)) (O f p) (A f p) σ.1) (xCo sc u D h B f x y z n1 s1 P σ π m i (4 * (e - p) * xWt τ)) (xTX u B f n1 s1 P) := hK
  unfold xEvo at hK0
  rw [if_neg (by omega), if_neg (by omega), if_neg (by omega), if_pos ho] at hK0
  refine xPartN C hN hS hD hD2 ih hκ hγ hτ hE hSt S hm hp hj hmp hσ hi hK (j := 0) (by omega) (by omega) (by omega) (by omega) S hm hp hj (by omega) (by omega) (xK_mono (xK_bd hK0) (fun v W hc1 => ?_))
  intro i' w' σ' π' g1 g2 g3 g4 g5 g6 g7 g8 g9 g10
  rw [← g3] at hc1
  have g1 : i' ≤ i + 1 + 4 * (xIt (xNx (O f) k) 1 (p + 1) - (p + 1)) * xWt τ := g1
  have htp : xTp σ' = v := by unfold xTp; rw [g4]; exact g5
  have Hw := xSi_II g2.1 C.1
  refine xGo1 C hN hS hD hD2 g2 g7 (by omega) (by omega) (d := 4) (by omega) (c_adv_if (s := fun j => xIt (xNx (O f) k) j (p + 1)) Hw C.2.1 g2.2.1 g2.2.2 g7 g8 g9 (by omega) a1 (by omega) (by omega) ho rfl hA ht (fun j hj => by rw [xIS_st g2]; exact (hSt j (by omega)).1)) (fun w2 hq => ?_)
  obtain ⟨r1, r2, r3⟩ := hq
  have S2 := xIS_tr g2 r1 r2 r3
  rw [htp, ← hA] at S2
  have hn : (xPo σ').2.2 = σ.2.2 := by show σ'.2.2 - 1 = _; omega
  by_cases cs : xSo (A f p) v = true
  · rw [if_pos cs] at S2 hc1
    exact xTail C hN hS hD hD2 ih hκ hγ hτ hE hSt S hm hp hj hmp hσ hi hK (j := 1) (by omega) (by decide) (by omega) S2 g7 hn g6 g10 (by omega) hc1
  · rw [if_neg cs] at S2 hc1
    exact xTail C hN hS hD hD2 ih hκ hγ hτ hE hSt S hm hp hj hmp hσ hi hK (j := 2) (by omega) (by decide) (by omega) S2 g7 hn g6 g10 (by omega) hc1
theorem xR_let {sc : Nat × (Nat → Int32)} {u : xv_M} {h ma fa oa B f dl D n1 s1 : Nat} {L nP : Nat → Nat} {O : Nat → Nat → Nat} {A : Nat → Nat → Int32} {ans : Nat → Int32 → Int32 → Int32 → xRs} {x y z : Int32} {P : xv_P} (C : xAct sc u h ma fa oa B f dl L nP O A ans) (hN : xv_N u ≤ n1) (hS : xv_S u ≤ s1) (hD : dl + 5 ≤ D) (hD2 : 10 ≤ D) {k p κ γ τ e : Nat} (ih : ∀ (p κ γ τ e : Nat), κ < 128 → γ < 128 → τ ≤ 2 → xEk (O f) (A f) (L f) k p (nI κ) (nI γ) (nI τ) = some e → xSt (O f) (xv_i u (B + 10 * f + 3)) k p → ∀ (w : xv_M) (σ : xZ) (π : xY) (m i : Nat), xIS u B f w σ π → π.2.2 = m + 1 → π.1 m = p → π.2.1 m = 0 → m ≤ p → σ.2.2 ≤ p → i + 4 * (e - p) * xWt τ ≤ 1000000 → xK (xEv ans (O f) (A f) k p σ.1) (xCo sc u D h B f x y z n1 s1 P σ π m i (4 * (e - p) * xWt τ)) (xTX u B f n1 s1 P) → xHe sc D h f x y z n1 s1 P i w) (hκ : κ < 128) (hγ : γ < 128) (hτ : τ ≤ 2) (hE : xEk (O f) (A f) (L f) (k + 1) p (nI κ) (nI γ) (nI τ) = some e) (hSt : xSt (O f) (xv_i u (B + 10 * f + 3)) (k + 1) p) {w : xv_M} {σ : xZ} {π : xY} {m i : Nat} (S : xIS u B f w σ π) (hm : π.2.2 = m + 1) (hp : π.1 m = p) (hj : π.2.1 m = 0) (hmp : m ≤ p) (hσ : σ.2.2 ≤ p) (hi : i + 4 * (e - p) * xWt τ ≤ 1000000) (hK : xK (xEv ans (O f) (A f) (k + 1) p σ.1) (xCo sc u D h B f x y z n1 s1 P σ π m i (4 * (e - p) * xWt τ)) (xTX u B f n1 s1 P)) (ho : O f p = 14) : xHe sc D h f x y z n1 s1 P i w := by
  obtain ⟨a1, a2, a3, a4, a5, a6⟩ := xEk_N C.2.2.1 hκ hγ hτ hE
  have hL := C.2.2.2.1
  have hc := xCost (p := p) (e := e) (W := xWt τ) (by have := xNx_gt (O f) (k + 1) p; rw [← (xEk_nx _ _ _ _ _ _ hE).1] at this; exact this) (xWt_1 τ)
  have hpa : xPa (O f p) = 2 := by rw [ho]; rfl
  obtain ⟨a, -, ha, hA⟩ := (C.2.2.1 p a1).2.2.1 (Or.inl ho)
  have hca : (A f p).toNatClampNeg = a := by rw [hA]; exact nI_clamp (by omega)
  have hle : xIt (xNx (O f) k) 1 (p + 1) ≤ e := by rw [a2, hpa]; exact xIt_mono (xNx_gt (O f) k) _ (by decide)
  have hle2 : 4 * (xIt (xNx (O f) k) 1 (p + 1) - (p + 1)) * xWt τ ≤ 4 * (e - (p + 1)) * xWt τ := Nat.mul_le_mul_right _ (by omega)
  have hK0 : xK (xEvo ans (xEv ans (O f) (A f) k) (fun j => xIt (xNx (O f) k) j (p + 1)) (O f p) (A f p) σ.1) (xCo sc u D h B f x y z n1 s1 P σ π m i (4 * (e - p) * xWt τ)) (xTX u B f n1 s1 P) := hK
  unfold xEvo at hK0
  rw [if_neg (by omega), if_neg (by omega), if_neg (by omega), if_neg (by omega), if_pos ho, hca] at hK0
  refine xPartN C hN hS hD hD2 ih hκ hγ hτ hE hSt S hm hp hj hmp hσ hi hK (j := 0) (by omega) (by omega) (by omega) (by omega) S hm hp hj (by omega) (by omega) (xK_mono (xK_bd hK0) (fun v W hc1 => ?_))
  intro i' w' σ' π' g1 g2 g3 g4 g5 g6 g7 g8 g9 g10
  rw [← g3] at hc1
  have g1 : i' ≤ i + 1 + 4 * (xIt (xNx (O f) k) 1 (p + 1) - (p + 1)) * xWt τ := g1
  have htp : xTp σ' = v := by unfold xTp; rw [g4]; exact g5
  have Hw := xSi_II g2.1 C.1
  refine xGo1 C hN hS hD hD2 g2 g7 (by omega) (by omega) (d := 3) (by omega) (c_adv_let (s := fun j => xIt (xNx (O f) k) j (p + 1)) Hw C.2.1 g2.2.1 g2.2.2 g7 g8 g9 (by omega) a1 (by omega) (by omega) ho rfl hA ha (by rw [xIS_st g2]; exact (hSt 1 (by omega)).1)) (fun w2 hq => ?_)
  obtain ⟨r1, r2, r3⟩ := hq
  have S2 := xIS_tr g2 r1 r2 r3
  rw [htp] at S2
  have hn : (xSv (xPo σ') a v).2.2 = σ.2.2 := by show σ'.2.2 - 1 = _; omega
  exact xTail C hN hS hD hD2 ih hκ hγ hτ hE hSt S hm hp hj hmp hσ hi hK (j := 1) (by omega) (by decide) (by omega) S2 g7 hn g6 g10 (by omega) hc1
theorem xAnd7 (v : Int32) : ∃ q, q < 8 ∧ v &&& 7 = nI q := by
  refine ⟨v.toBitVec.toNat % 8, Nat.mod_lt _ (by decide), ?_⟩
  apply Int32.toBitVec_inj.mp
  apply BitVec.eq_of_toNat_eq
  rw [show (v &&& 7).toBitVec = v.toBitVec &&& 7#32 from rfl, BitVec.toNat_and]
  show v.toBitVec.toNat &&& 7 = (nI (v.toBitVec.toNat % 8)).toBitVec.toNat
  rw [show (7 : Nat) = 2 ^ 3 - 1 by decide, Nat.and_two_pow_sub_one_eq_mod]
  show v.toBitVec.toNat % 8 = _
  have hlt : v.toBitVec.toNat % 8 < 8 := Nat.mod_lt _ (by decide)
  generalize v.toBitVec.toNat % 8 = q at *
  have key : ∀ q, q < 8 → q = (nI q).toBitVec.toNat := by decide
  exact key q hlt
theorem xR_times {sc : Nat × (Nat → Int32)} {u : xv_M} {h ma fa oa B f dl D n1 s1 : Nat} {L nP : Nat → Nat} {O : Nat → Nat → Nat} {A : Nat → Nat → Int32} {ans : Nat → Int32 → Int32 → Int32 → xRs} {x y z : Int32} {P : xv_P} (C : xAct sc u h ma fa oa B f dl L nP O A ans) (hN : xv_N u ≤ n1) (hS : xv_S u ≤ s1) (hD : dl + 5 ≤ D) (hD2 : 10 ≤ D) {k p κ γ τ e : Nat} (ih : ∀ (p κ γ τ e : Nat), κ < 128 → γ < 128 → τ ≤ 2 → xEk (O f) (A f) (L f) k p (nI κ) (nI γ) (nI τ) = some e → xSt (O f) (xv_i u (B + 10 * f + 3)) k p → ∀ (w : xv_M) (σ : xZ) (π : xY) (m i : Nat), xIS u B f w σ π → π.2.2 = m + 1 → π.1 m = p → π.2.1 m = 0 → m ≤ p → σ.2.2 ≤ p → i + 4 * (e - p) * xWt τ ≤ 1000000 → xK (xEv ans (O f) (A f) k p σ.1) (xCo sc u D h B f x y z n1 s1 P σ π m i (4 * (e - p) * xWt τ)) (xTX u B f n1 s1 P) → xHe sc D h f x y z n1 s1 P i w) (hκ : κ < 128) (hγ : γ < 128) (hτ : τ ≤ 2) (hE : xEk (O f) (A f) (L f) (k + 1) p (nI κ) (nI γ) (nI τ) = some e) (hSt : xSt (O f) (xv_i u (B + 10 * f + 3)) (k + 1) p) {w : xv_M} {σ : xZ} {π : xY} {m i : Nat} (S : xIS u B f w σ π) (hm : π.2.2 = m + 1) (hp : π.1 m = p) (hj : π.2.1 m = 0) (hmp : m ≤ p) (hσ : σ.2.2 ≤ p) (hi : i + 4 * (e - p) * xWt τ ≤ 1000000) (hK : xK (xEv ans (O f) (A f) (k + 1) p σ.1) (xCo sc u D h B f x y z n1 s1 P σ π m i (4 * (e - p) * xWt τ)) (xTX u B f n1 s1 P)) (ho : O f p = 16) : xHe sc D h f x y z n1 s1 P i w := by
  obtain ⟨a1, a2, a3, a4, a5, a6⟩ := xEk_N C.2.2.1 hκ hγ hτ hE
  have hL := C.2.2.2.1
  have hpa : xPa (O f p) = 2 := by rw [ho]; rfl
  have hτ2 := a6 ho
  obtain ⟨a, -, ha, hA⟩ := (C.2.2.1 p a1).2.2.1 (Or.inr ho)
  have hca : (A f p).toNatClampNeg = a := by rw [hA]; exact nI_clamp (by omega)
  obtain ⟨κ0, γ0, x1, x2, x3, x4, x5⟩ := a4 0 (by omega)
  obtain ⟨κ1, γ1, y1, y2, y3, y4, y5⟩ := a4 1 (by omega)
  rw [if_pos ho] at x3 y3
  have hctr := xEv_ctr (ans := ans) C.2.2.1 k _ _ _ _ _ y1 y2 (by omega) y3
  have hbit := y5 ho rfl a ha hA
  clear a4 x4 x5 y4 y5
  obtain ⟨st1, st2⟩ := hSt 0 (by omega)
  obtain ⟨st3, st4⟩ := hSt 1 (by omega)
  have hstw : ∀ j, j < 2 → xv_i u (B + 10 * f + 3) (p * 3 + j) = nI (xIt (xNx (O f) k) j (p + 1)) := fun j hj => (hSt j (by omega)).1
  rw [hpa] at a2
  have hK0 : xK (xEvo ans (xEv ans (O f) (A f) k) (fun j => xIt (xNx (O f) k) j (p + 1)) (O f p) (A f p) σ.1) (xCo sc u D h B f x y z n1 s1 P σ π m i (4 * (e - p) * xWt τ)) (xTX u B f n1 s1 P) := hK
  unfold xEvo at hK0
  rw [if_neg (by omega), if_neg (by omega), if_neg (by omega), if_neg (by omega), if_neg (by omega), if_neg (by omega), if_pos ho, hca] at hK0
  have b1 := xNx_gt (O f) k (xIt (xNx (O f) k) 0 (p + 1))
  rw [← xIt_s] at b1
  have b2 := xNx_gt (O f) k (xIt (xNx (O f) k) 1 (p + 1))
  rw [← xIt_s] at b2
  have b0 : xIt (xNx (O f) k) 0 (p + 1) = p + 1 := rfl
  rw [show 0 + 1 = 1 from rfl] at b1 x3
  rw [show 1 + 1 = 2 from rfl, ← a2] at b2 y3
  have a40 : a ≤ 6 := by omega
  rw [b0] at b1 st1 st2 x3
  have hK0 : xK (xBd (xEv ans (O f) (A f) k (p + 1) σ.1) (fun x W => xLpv (xEv ans (O f) (A f) k (xIt (xNx (O f) k) 1 (p + 1))) a 8 (upd W a (x &&& 7)))) (xCo sc u D h B f x y z n1 s1 P σ π m i (4 * (e - p) * xWt τ)) (xTX u B f n1 s1 P) := hK0
  generalize hs1 : xIt (xNx (O f) k) 1 (p + 1) = s1' at *
  have w8 := xWt_8 hτ2
  have w1' := xWt_1 (τ + 1)
  have cst : 1 + 4 * (s1' - (p + 1)) * xWt (τ + 1) + 1 + 7 * (4 * (e - s1') * xWt (τ + 1) + 1) ≤ 4 * (e - p) * xWt τ := by
    have z1 : 4 * (e - p) * xWt τ = 8 * (4 * (e - p) * xWt (τ + 1)) := by rw [w8]; ac_rfl
    have z2 : 4 * (s1' - (p + 1)) * xWt (τ + 1) + 4 * (e - s1') * xWt (τ + 1) + 4 * xWt (τ + 1) ≤ 4 * (e - p) * xWt (τ + 1) := by
      rw [← Nat.add_mul, ← Nat.add_mul]
      exact Nat.mul_le_mul_right _ (by omega)
    omega
  have loop : ∀ (r q j : Nat) (σ1 : xZ) (π1 : xY) (w1 : xv_M) (i1 : Nat), xIS u B f w1 σ1 π1 → π1.2.2 = m + 1 → π1.1 m = p → π1.2.1 m = j → 1 ≤ j → j + r ≤ 10 → σ1.2.2 = σ.2.2 + 1 → xAgV σ σ1 σ.2.2 → xAgY π π1 m → xRd (decide (j = 1)) σ1 a = nI q → q < r → i1 + 1 + q * (4 * (e - s1') * xWt (τ + 1) + 1) ≤ i + 4 * (e - p) * xWt τ → xK (xLpv (xEv ans (O f) (A f) k s1') a r (upd σ1.1 a (nI q))) (xCo sc u D h B f x y z n1 s1 P σ π m i (4 * (e - p) * xWt τ)) (xTX u B f n1 s1 P) → xHe sc D h f x y z n1 s1 P i1 w1 := by
    intro r
    induction r with
    | zero => intro q j σ1 π1 w1 i1 _ _ _ _ _ _ _ _ _ _ hq; omega
    | succ r ir =>
      intro q j σ1 π1 w1 i1 S1 m1 p1 j1 hj1 hjr n1' V1 Y1 hq hqr hi1 hKl
      have Hw := xSi_II S1.1 C.1
      have hmul : 1 ≤ q → q * (4 * (e - s1') * xWt (τ + 1) + 1) = (q - 1) * (4 * (e - s1') * xWt (τ + 1) + 1) + (4 * (e - s1') * xWt (τ + 1) + 1) := by
        intro h1
        obtain ⟨q', rfl⟩ : ∃ q', q = q' + 1 := ⟨q - 1, by omega⟩
        rw [Nat.add_mul, Nat.one_mul]
        rfl
      have upa : upd σ1.1 a (nI q) a = nI q := pk_us
      refine xGo1 C hN hS hD hD2 S1 m1 (by omega) (by omega) (d := 4) (by omega) (c_adv_times (s := fun j => xIt (xNx (O f) k) j (p + 1)) Hw C.2.1 S1.2.1 S1.2.2 m1 p1 j1 (by omega) a1 (by omega) (by omega) ho hj1 (by omega) hA ha (by omega) (fun j hj => by rw [xIS_st S1]; exact hstw j hj)) (fun w2 hq2 => ?_)
      obtain ⟨hq2, r3⟩ := hq2
      rw [hq] at hq2
      have hq2 : (¬ nI q = 0 ∧ xFs w2 (B + 10 * f + 4) (xSv (xPo σ1) a (nI q)) ∧ xOs w2 (B + 10 * f + 7) (xOe π1 s1')) ∨ (nI q = 0 ∧ xFs w2 (B + 10 * f + 4) (xPu (xSv (xPo σ1) a (nI q)) 0) ∧ xOs w2 (B + 10 * f + 7) (xOl π1)) := by
        rw [← hs1]
        exact hq2
      rcases hq2 with ⟨q0, r1, r2⟩ | ⟨q0, r1, r2⟩
      · have hq0 : 1 ≤ q := Nat.pos_of_ne_zero (fun e => q0 (by rw [e]; rfl))
        have hm2 := hmul hq0
        have S2 := xIS_tr S1 r1 r2 r3
        unfold xLpv at hKl
        rw [if_neg (by rw [upa]; exact q0)] at hKl
        have hKl := xK_and (xK_bd hKl) (hctr (upd σ1.1 a (nI q)))
        have e1 : (xOe π1 s1').2.2 = m + 1 + 1 := by show π1.2.2 + 1 = _; omega
        have e2 : (xOe π1 s1').1 (m + 1) = s1' := by show xPt π1.1 π1.2.2 s1' (m + 1) = s1'; rw [m1]; exact xPt_eq
        have e3 : (xOe π1 s1').2.1 (m + 1) = 0 := by show xPt _ π1.2.2 0 (m + 1) = 0; rw [m1]; exact xPt_eq
        have e4 : (xOe π1 s1').1 m = p := by show xPt π1.1 π1.2.2 s1' m = p; rw [m1, xPt_ne (by omega)]; exact p1
        have e5 : (xOe π1 s1').2.1 m = j + 1 := by
          show xPt (xPt π1.2.1 (π1.2.2 - 1) (π1.2.1 (π1.2.2 - 1) + 1)) π1.2.2 0 m = j + 1
          rw [m1, xPt_ne (by omega), show m + 1 - 1 = m by omega, xPt_eq, j1]
        have e6 : xAgY π1 (xOe π1 s1') m := fun q hq => by
          refine ⟨?_, ?_⟩
          · show xPt π1.1 π1.2.2 s1' q = _
            rw [xPt_ne (by omega)]
          · show xPt (xPt π1.2.1 (π1.2.2 - 1) (π1.2.1 (π1.2.2 - 1) + 1)) π1.2.2 0 q = _
            rw [xPt_ne (by omega), xPt_ne (by omega)]
        have n2 : (xSv (xPo σ1) a (nI q)).2.2 = σ.2.2 := by show σ1.2.2 - 1 = _; omega
        refine ih s1' κ1 γ1 (τ + 1) e y1 y2 (by omega) y3 st4 w2 (xSv (xPo σ1) a (nI q)) (xOe π1 s1') (m + 1) (i1 + 1) S2 e1 e2 e3 (by omega) (by omega) (by omega) (xK_mono hKl (fun v2 W2 hc2 => ?_))
        obtain ⟨hc2, hcw⟩ := hc2
        have hcw : W2 a = nI q := (hcw a ha hbit).trans upa
        intro i3 w3 σ3 π3 g1 g2 g3 g4 g5 g6 g7 g8
        refine ir (q - 1) (j + 1) σ3 π3 w3 i3 g2 g7 ?_ ?_ (by omega) (by omega) (by omega) (fun z hz => ?_) (fun z hz => ?_) ?_ (by omega) (by omega) ?_
        · rw [(g8 m (by omega)).1, e4]
        · rw [(g8 m (by omega)).2, e5]
        · rw [g6 z (by omega)]
          exact V1 z hz
        · have b1 := g8 z (by omega)
          have b2 := e6 z hz
          have b3 := Y1 z hz
          exact ⟨b1.1.trans (b2.1.trans b3.1), b1.2.trans (b2.2.trans b3.2)⟩
        · unfold xRd
          rw [if_neg (by rw [decide_eq_false (by omega)]; decide), g3, hcw]
          obtain ⟨q', rfl⟩ : ∃ q', q = q' + 1 := ⟨q - 1, by omega⟩
          rw [nI_succ]
          show nI q' + 1 - 1 = nI q'
          exact Int32.add_sub_cancel _ _
        · rw [g3]
          rw [hcw] at hc2
          rw [show nI (q - 1) = nI q - 1 by
            obtain ⟨q', rfl⟩ : ∃ q', q = q' + 1 := ⟨q - 1, by omega⟩
            rw [nI_succ]
            exact (Int32.add_sub_cancel _ _).symm]
          exact hc2
      · have S2 := xIS_tr S1 r1 r2 r3
        unfold xLpv at hKl
        rw [if_pos (by rw [upa]; exact q0)] at hKl
        exact xCo_pu hKl (by omega) S2 rfl (by show σ1.2.2 - 1 = _; omega) V1 (by show π1.2.2 - 1 = m; omega) (fun z hz => Y1 z hz)
  refine xPart C hN hS hD hD2 ih x1 x2 (by omega) x3 st1 st2 a1 (Nat.lt_succ_self p) b1 (by decide) (by omega) (by omega) (by omega) (by omega) (by omega) S hm hp hj hmp (by omega) (by omega) (xK_mono (xK_bd hK0) (fun v W hc1 => ?_))
  intro i' w' σ' π' g1 g2 g3 g4 g5 g6 g7 g8 g9 g10
  have htp : xTp σ' = v := by unfold xTp; rw [g4]; exact g5
  obtain ⟨q, hq8, hq⟩ := xAnd7 v
  rw [← g3, hq] at hc1
  have hm7 : q * (4 * (e - s1') * xWt (τ + 1) + 1) ≤ 7 * (4 * (e - s1') * xWt (τ + 1) + 1) := Nat.mul_le_mul_right _ (by omega)
  exact loop 8 q 1 σ' π' w' i' g2 g7 g8 g9 (by decide) (by decide) g4 g6 g10 (by unfold xRd; rw [if_pos (by decide), htp]; exact hq) hq8 (by omega) hc1
theorem xRun {sc : Nat × (Nat → Int32)} {u : xv_M} {h ma fa oa B f dl D n1 s1 : Nat} {L nP : Nat → Nat} {O : Nat → Nat → Nat} {A : Nat → Nat → Int32} {ans : Nat → Int32 → Int32 → Int32 → xRs} {x y z : Int32} {P : xv_P} (C : xAct sc u h ma fa oa B f dl L nP O A ans) (hN : xv_N u ≤ n1) (hS : xv_S u ≤ s1) (hD : dl + 5 ≤ D) (hD2 : 10 ≤ D) : ∀ k, ∀ (p κ γ τ e : Nat), κ < 128 → γ < 128 → τ ≤ 2 → xEk (O f) (A f) (L f) k p (nI κ) (nI γ) (nI τ) = some e → xSt (O f) (xv_i u (B + 10 * f + 3)) k p → ∀ (w : xv_M) (σ : xZ) (π : xY) (m i : Nat), xIS u B f w σ π → π.2.2 = m + 1 → π.1 m = p → π.2.1 m = 0 → m ≤ p → σ.2.2 ≤ p → i + 4 * (e - p) * xWt τ ≤ 1000000 → xK (xEv ans (O f) (A f) k p σ.1) (xCo sc u D h B f x y z n1 s1 P σ π m i (4 * (e - p) * xWt τ)) (xTX u B f n1 s1 P) → xHe sc D h f x y z n1 s1 P i w := by
  intro k
  induction k with
  | zero => intro p κ γ τ e _ _ _ hE; cases hE
  | succ k ih =>
    intro p κ γ τ e hκ hγ hτ hE hSt w σ π m i S hm hp hj hmp hσ hi hK
    have h18 := (C.2.2.1 p (xEk_N C.2.2.1 hκ hγ hτ hE).1).1
    rcases (by omega : (O f p = 0 ∨ O f p = 1) ∨ (2 ≤ O f p ∧ O f p ≤ 11) ∨ (O f p = 12 ∨ O f p = 15) ∨ O f p = 13 ∨ O f p = 14 ∨ O f p = 16 ∨ O f p = 17) with c | c | c | c | c | c | c
    · exact xR_leaf C hN hS hD hD2 ih hκ hγ hτ hE hSt S hm hp hj hmp hσ hi hK c
    · exact xR_two C hN hS hD hD2 ih hκ hγ hτ hE hSt S hm hp hj hmp hσ hi hK c
    · exact xR_one C hN hS hD hD2 ih hκ hγ hτ hE hSt S hm hp hj hmp hσ hi hK c
    · exact xR_if C hN hS hD hD2 ih hκ hγ hτ hE hSt S hm hp hj hmp hσ hi hK c
    · exact xR_let C hN hS hD hD2 ih hκ hγ hτ hE hSt S hm hp hj hmp hσ hi hK c
    · exact xR_times C hN hS hD hD2 ih hκ hγ hτ hE hSt S hm hp hj hmp hσ hi hK c
    · exact xR_call C hN hS hD hD2 ih hκ hγ hτ hE hSt S hm hp hj hmp hσ hi hK c

