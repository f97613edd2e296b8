/-! what holds of whatever is emitted -/
def yCo (P : xQ → Prop) : Prop := (∀ σ op y, op < 22 → P σ → P (xEm σ op y)) ∧ (∀ σ op, op < 22 → P σ → P (xEt σ op)) ∧ (∀ σ q y, P σ → P (xS1 σ q y)) ∧ (∀ σ q y, P σ → P (xS2 σ q y)) ∧ ∀ σ y, P σ → P (xSh σ y)
theorem yCo_o {P : xQ → Prop} (hP : yCo P) {F : Nat → xQ → xQ} {s : Nat → Nat} {o : Nat} {a : Int32} (ho : o < 18) (r : ∀ j, j < xPa o → ∀ σ, P σ → P (F (s j) σ)) : ∀ σ, P σ → P (xEo F s o a σ) := by
  obtain ⟨hm, ht, h1, h2, hh⟩ := hP
  obtain ⟨p13, p17, p14, p16, p12, p15, p0, p1, -⟩ := yPa_3
  intro σ H
  have hep : ∀ j, j ≤ xPa o → P (xEp F s j σ) := by
    intro j
    induction j with
    | zero => intro _; exact H
    | succ j ih => intro hj; exact r j (by omega) _ (ih (by omega))
  unfold xEo
  by_cases q0 : o = 0
  · rw [if_pos q0]; exact hm _ _ _ (by omega) H
  rw [if_neg q0]
  by_cases q1 : o = 1
  · rw [if_pos q1]; exact hm _ _ _ (by omega) H
  rw [if_neg q1]
  by_cases q13 : o = 13
  · rw [if_pos q13]
    rw [q13, p13] at r
    exact h1 _ _ _ (r 2 (by omega) _ (hh _ _ (h2 _ _ _ (hm _ _ _ (by omega) (r 1 (by omega) _ (hm _ _ _ (by omega) (r 0 (by omega) _ H)))))))
  rw [if_neg q13]
  by_cases q14 : o = 14
  · rw [if_pos q14]
    rw [q14, p14] at r
    exact r 1 (by omega) _ (hm _ _ _ (by omega) (r 0 (by omega) _ H))
  rw [if_neg q14]
  by_cases q15 : o = 15
  · rw [if_pos q15]
    rw [q15, p15] at r
    exact hm _ _ _ (by omega) (hm _ _ _ (by omega) (r 0 (by omega) _ H))
  rw [if_neg q15]
  by_cases q16 : o = 16
  · rw [if_pos q16]
    rw [q16, p16] at r
    have b1 := hm _ 13 a (by omega) (ht _ 7 (by omega) (hm _ 0 7 (by omega) (r 0 (by omega) _ H)))
    have b2 := hm _ 1 a (by omega) b1
    have b3 := r 1 (by omega) _ (hm _ 14 1 (by omega) b2)
    have b4 := hm _ 13 a (by omega) (ht _ 3 (by omega) (hm _ 0 1 (by omega) (hm _ 1 a (by omega) (ht _ 18 (by omega) b3))))
    exact hm _ 0 0 (by omega) (h2 _ _ _ (hm _ 15 _ (by omega) b4))
  rw [if_neg q16]
  by_cases q17 : o = 17
  · rw [if_pos q17]; exact hm _ _ _ (by omega) (hep _ (Nat.le_refl _))
  rw [if_neg q17]
  exact hm _ _ _ (by omega) (hep _ (Nat.le_refl _))
theorem yCo_of {P : xQ → Prop} (hP : yCo P) {O : Nat → Nat} {A : Nat → Int32} {n : Nat} (hO : ∀ p, p < n → O p < 18) : ∀ k p, xVF O n k p → ∀ σ, P σ → P (xEmF O A k p σ) := by
  intro k
  induction k with
  | zero => intro p h; exact absurd h id
  | succ k ih =>
    intro p h
    exact yCo_o hP (hO p h.1) (fun j hj σ H => ih _ (h.2 j hj) σ H)
theorem yCo_pre {P : xQ → Prop} (hP : yCo P) : ∀ r v σ, P σ → P (xPre r v σ) := by
  intro r
  induction r with
  | zero => intro v σ H; exact H
  | succ r ih => intro v σ H; exact ih _ _ (hP.1 _ _ _ (by omega) (hP.1 _ _ _ (by omega) H))
theorem yCo_tr {P : xQ → Prop} (hP : yCo P) {O : Nat → Nat} {A : Nat → Int32} {n k m : Nat} {σ : xQ} (hO : ∀ p, p < n → O p < 18) (hv : xVF O n k 0) (H : P σ) : P (xTr O A k m σ) := hP.1 _ _ _ (by omega) (yCo_of hP hO k 0 hv _ (yCo_pre hP _ _ _ H))
theorem yOps {O : Nat → Nat} {A : Nat → Int32} {n k m : Nat} {σ : xQ} (hO : ∀ p, p < n → O p < 18) (hv : xVF O n k 0) (h0 : σ.1 = 0) : ∀ i, i < (xTr O A k m σ).1 → ∃ o, o < 22 ∧ (xTr O A k m σ).2.1 i = nI o := by
  refine yCo_tr (P := fun σ => ∀ i, i < σ.1 → ∃ o, o < 22 ∧ σ.2.1 i = nI o) ⟨fun σ op y ho H i hi => ?_, fun σ op ho H i hi => ?_, fun _ _ _ H => H, fun _ _ _ H => H, fun _ _ H => H⟩ hO hv (fun i hi => by omega)
  · show ∃ o, o < 22 ∧ upd σ.2.1 σ.1 (nI op) i = nI o
    have hi : i < σ.1 + 1 := hi
    by_cases c : i = σ.1
    · rw [c, pk_us]; exact ⟨op, ho, rfl⟩
    · rw [pk_un c]; exact H i (by omega)
  · show ∃ o, o < 22 ∧ upd σ.2.1 σ.1 (nI op) i = nI o
    have hi : i < σ.1 + 1 := hi
    by_cases c : i = σ.1
    · rw [c, pk_us]; exact ⟨op, ho, rfl⟩
    · rw [pk_un c]; exact H i (by omega)
theorem yMks {O : Nat → Nat} {A : Nat → Int32} {n k m : Nat} {σ : xQ} (hO : ∀ p, p < n → O p < 18) (hv : xVF O n k 0) (h0 : ∀ i, i < 265 → σ.2.2.2.2.1 i = 0) : ∀ i, i < 265 → (xTr O A k m σ).2.2.2.2.1 i = 0 ∨ (xTr O A k m σ).2.2.2.2.1 i = 1 := by
  refine yCo_tr (P := fun σ => ∀ i, i < 265 → σ.2.2.2.2.1 i = 0 ∨ σ.2.2.2.2.1 i = 1) ⟨fun σ op y ho H i hi => H i hi, fun σ op ho H i hi => ?_, fun _ _ _ H => H, fun _ _ _ H => H, fun _ _ H => H⟩ hO hv (fun i hi => Or.inl (h0 i hi))
  show upd σ.2.2.2.2.1 σ.1 1 i = 0 ∨ upd σ.2.2.2.2.1 σ.1 1 i = 1
  by_cases c : i = σ.1
  · rw [c, pk_us]; exact Or.inr rfl
  · rw [pk_un c]; exact H i hi
/-- the units of an emission -/
def yUt (σ : xQ) : yU := (fun i => (σ.2.1 i).toNatClampNeg, σ.2.2.1, σ.2.2.2.1, σ.2.2.2.2.1)
theorem yUt_ag {σ : xQ} {i : Nat} : yAg (yUt σ) σ i := ⟨rfl, rfl, rfl, rfl⟩
/-- what a form that is taken gives -/
theorem yTr_f {O : Nat → Nat} {A : Nat → Int32} {n m f : Nat} {σ : xQ} (hn : n ≤ 40) (hT : xTok O A n) (hm : m ≤ 3) (hf : f < 8) (h : xOne O A n (nI f) (nI m) = true) (h0 : σ.1 = 0) (hφ : ∀ i, i < 265 → σ.2.2.2.2.1 i = 0) : (xTr O A 41 m σ).1 = yNu O m ∧ yFf f n m O A (yUt (xTr O A 41 m σ)) ∧ (∀ i, i < (xTr O A 41 m σ).1 → (xTr O A 41 m σ).2.1 i = nI ((yUt (xTr O A 41 m σ)).1 i)) ∧ (∃ β, xHB (xTr O A 41 m σ).1 (yUt (xTr O A 41 m σ)).1 (xTr O A 41 m σ).2.2.1 (xTr O A 41 m σ).2.2.2.1 β) ∧ xGdM (xTr O A 41 m σ).1 (yUt (xTr O A 41 m σ)).1 (xTr O A 41 m σ).2.2.1 (xTr O A 41 m σ).2.2.2.1 (yMx O 41 0 0) ∧ yMx O 41 0 0 ≤ 40 := by
  obtain ⟨⟨κ, hκ, hE⟩, hv, hx, hz, h0n, hl⟩ := yOne_sz hn hT hm h
  have hO : ∀ p, p < n → O p < 18 := fun p hp => (hT p hp).1
  have eN : (xTr O A 41 m σ).1 = yNu O m := by rw [xTr_n, h0]; unfold yNu; omega
  have hB : ∀ p, p < n → O p = 17 → ∀ v, v < 8 → A p = nI v → v < f := by
    intro p hp e v hv ev
    have := hl p hp e
    rw [ev] at this
    exact (nI_ltI (by omega) (by omega)).mp this
  have W : yWh (fun i o => (yUt (xTr O A 41 m σ)).1 i = o) (yUt (xTr O A 41 m σ)) O A 41 m := yWh_tr hO hv h0 (fun i _ => yUt_ag)
  have hle := (yNu_le (m := m) hz).2
  have HB := yWh_HB hT hB (fun i o q (e : (yUt (xTr O A 41 m σ)).1 i = o) => by rw [e]; unfold yFo; omega) hv hm hz (by omega) W
  have GD := yWh_Gd hT hB hv hm hz W
  have mk := yMks (A := A) (m := m) hO hv hφ
  have ops := yOps (A := A) (m := m) hO hv h0
  have hx40 : yMx O 41 0 0 ≤ 40 := by omega
  have wit : ∃ σ' : xQ, σ'.1 = 0 ∧ (∀ i, i < 265 → σ'.2.2.2.2.1 i = 0) ∧ ∀ i, i < yNu O m → yAg (yUt (xTr O A 41 m σ)) (xTr O A 41 m σ') i := ⟨σ, h0, hφ, fun i _ => yUt_ag⟩
  generalize xTr O A 41 m σ = T at *
  refine ⟨eN, ⟨h, W, fun i hi => mk i (by omega), wit⟩, fun i hi => ?_, ?_, ?_, hx40⟩
  · obtain ⟨o, ho, e⟩ := ops i hi
    show _ = nI (T.2.1 i).toNatClampNeg
    rw [e, nI_clamp (by omega)]
  · rw [eN]; exact HB.2
  · rw [eN]; exact GD.1
theorem yLo_m {P P' : Nat → Nat → Prop} {U : yU} {Y Y' : Nat → Nat → Prop} {z : Nat → Nat} {o : Nat} {a : Int32} {b : Nat} (ho : o < 18) (hP : ∀ i o, (2 ≤ o ∧ o ≤ 12) ∨ o = 19 → P i o → P' i o) (hY : ∀ j, j < xPa o → ∀ b, Y j b → Y' j b) (h : yLo P U Y z o a b) : yLo P' U Y' z o a b := by
  obtain ⟨p13, p17, p14, p16, p12, p15, p0, p1, -⟩ := yPa_3
  unfold yLo at h ⊢
  by_cases q0 : o = 0
  · rw [if_pos q0] at h ⊢; exact h
  rw [if_neg q0] at h ⊢
  by_cases q1 : o = 1
  · rw [if_pos q1] at h ⊢; exact h
  rw [if_neg q1] at h ⊢
  by_cases q12 : o = 12
  · rw [if_pos q12] at h ⊢; rw [q12, p12] at hY
    exact ⟨hY 0 (by omega) _ h.1, hP _ _ (by omega) h.2⟩
  rw [if_neg q12] at h ⊢
  by_cases q13 : o = 13
  · rw [if_pos q13] at h ⊢; rw [q13, p13] at hY
    exact ⟨hY 0 (by omega) _ h.1, h.2.1, h.2.2.1, hY 1 (by omega) _ h.2.2.2.1, h.2.2.2.2.1, hY 2 (by omega) _ h.2.2.2.2.2⟩
  rw [if_neg q13] at h ⊢
  by_cases q14 : o = 14
  · rw [if_pos q14] at h ⊢; rw [q14, p14] at hY
    exact ⟨hY 0 (by omega) _ h.1, h.2.1, hY 1 (by omega) _ h.2.2⟩
  rw [if_neg q14] at h ⊢
  by_cases q15 : o = 15
  · rw [if_pos q15] at h ⊢; rw [q15, p15] at hY
    exact ⟨hY 0 (by omega) _ h.1, hP _ _ (by omega) h.2.1, h.2.2⟩
  rw [if_neg q15] at h ⊢
  by_cases q16 : o = 16
  · rw [if_pos q16] at h ⊢; rw [q16, p16] at hY
    exact ⟨hY 0 (by omega) _ h.1, h.2.1, h.2.2.1, h.2.2.2.1, h.2.2.2.2.1, h.2.2.2.2.2.1, hY 1 (by omega) _ h.2.2.2.2.2.2.1, h.2.2.2.2.2.2.2⟩
  rw [if_neg q16] at h ⊢
  by_cases q17 : o = 17
  · rw [if_pos q17] at h ⊢; rw [q17, p17] at hY
    exact ⟨hY 0 (by omega) _ h.1, hY 1 (by omega) _ h.2.1, hY 2 (by omega) _ h.2.2.1, h.2.2.2⟩
  rw [if_neg q17] at h ⊢
  have hpa := yPa2 o ho ⟨q0, q1, q13, q15, q17, q12⟩
  rw [hpa.1] at hY
  exact ⟨hY 0 (by omega) _ h.1, hY 1 (by omega) _ h.2.1, hP _ _ (by omega) h.2.2⟩
theorem yLay_m {P P' : Nat → Nat → Prop} {U : yU} {O : Nat → Nat} {A : Nat → Int32} {n : Nat} (hP : ∀ i o, (2 ≤ o ∧ o ≤ 12) ∨ o = 19 → P i o → P' i o) : ∀ k p b, (∀ p, p < n → O p < 18) → xVF O n k p → yLay P U O A k p b → yLay P' U O A k p b := by
  intro k
  induction k with
  | zero => intro p b _ h; exact absurd h id
  | succ k ih =>
    intro p b hO hv h
    exact yLo_m (hO p hv.1) hP (fun j hj b hY => ih _ b hO (hv.2 j hj) hY) h
/-- unforged units are such as come of a form -/
theorem yFf_Pe {f n m : Nat} {O : Nat → Nat} {A : Nat → Int32} {U : yU} (hn : n ≤ 40) (hT : xTok O A n) (hm : m ≤ 3) (h : yFf f n m O A U) : yPe U (yNu O m) m f := by
  obtain ⟨h1, ⟨w1, w2, w3⟩, h3, -⟩ := h
  obtain ⟨-, hv, -, -, -, -⟩ := yOne_sz hn hT hm h1
  refine ⟨O, A, n, hT, hn, hm, h1, rfl, ⟨w1, ?_, ?_⟩, h3⟩
  · exact yLay_m (fun i o q e => by
      have e : U.1 i = o := e
      show yFo (U.1 i)
      rw [e]; unfold yFo; omega) 41 0 _ (fun p hp => (hT p hp).1) hv w2
  · have e : U.1 _ = 17 := w3
    show yFo (U.1 _)
    rw [e]; unfold yFo; omega

