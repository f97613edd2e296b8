/-! what is emitted does not depend on what lay there before -/
def ySm (σ τ : xQ) : Prop := σ.1 = τ.1 ∧ (∀ i, i < σ.1 → σ.2.1 i = τ.2.1 i ∧ σ.2.2.1 i = τ.2.2.1 i ∧ σ.2.2.2.1 i = τ.2.2.2.1 i) ∧ ∀ i, i < 265 → σ.2.2.2.2.1 i = τ.2.2.2.2.1 i
theorem ySm_m {σ τ : xQ} {op : Nat} {y : Int32} (h : ySm σ τ) : ySm (xEm σ op y) (xEm τ op y) := by
  obtain ⟨h1, h2, h3⟩ := h
  refine ⟨by show σ.1 + 1 = τ.1 + 1; rw [h1], fun i hi => ?_, h3⟩
  have hi : i < σ.1 + 1 := hi
  show upd σ.2.1 σ.1 (nI op) i = upd τ.2.1 τ.1 (nI op) i ∧ upd σ.2.2.1 σ.1 y i = upd τ.2.2.1 τ.1 y i ∧ upd σ.2.2.2.1 σ.1 0 i = upd τ.2.2.2.1 τ.1 0 i
  rw [← h1]
  by_cases c : i = σ.1
  · rw [c, pk_us, pk_us, pk_us, pk_us, pk_us, pk_us]; exact ⟨rfl, rfl, rfl⟩
  · rw [pk_un c, pk_un c, pk_un c, pk_un c, pk_un c, pk_un c]; exact h2 i (by omega)
theorem ySm_t {σ τ : xQ} {op : Nat} (h : ySm σ τ) : ySm (xEt σ op) (xEt τ op) := by
  obtain ⟨h1, h2, h3⟩ := h
  refine ⟨(ySm_m (op := op) (y := 0) ⟨h1, h2, h3⟩).1, (ySm_m (op := op) (y := 0) ⟨h1, h2, h3⟩).2.1, fun i hi => ?_⟩
  show upd σ.2.2.2.2.1 σ.1 1 i = upd τ.2.2.2.2.1 τ.1 1 i
  rw [← h1]
  by_cases c : i = σ.1
  · rw [c, pk_us, pk_us]
  · rw [pk_un c, pk_un c]; exact h3 i hi
theorem ySm_1 {σ τ : xQ} {q q' : Nat} {y y' : Int32} (h : ySm σ τ) (e1 : q = q') (e2 : y = y') : ySm (xS1 σ q y) (xS1 τ q' y') := by
  subst e1 e2
  obtain ⟨h1, h2, h3⟩ := h
  refine ⟨h1, fun i hi => ?_, h3⟩
  obtain ⟨a, b, c⟩ := h2 i hi
  refine ⟨a, ?_, c⟩
  show upd σ.2.2.1 q y i = upd τ.2.2.1 q y i
  by_cases d : i = q
  · rw [d, pk_us, pk_us]
  · rw [pk_un d, pk_un d]; exact b
theorem ySm_2 {σ τ : xQ} {q q' : Nat} {y y' : Int32} (h : ySm σ τ) (e1 : q = q') (e2 : y = y') : ySm (xS2 σ q y) (xS2 τ q' y') := by
  subst e1 e2
  obtain ⟨h1, h2, h3⟩ := h
  refine ⟨h1, fun i hi => ?_, h3⟩
  obtain ⟨a, b, c⟩ := h2 i hi
  refine ⟨a, b, ?_⟩
  show upd σ.2.2.2.1 q y i = upd τ.2.2.2.1 q y i
  by_cases d : i = q
  · rw [d, pk_us, pk_us]
  · rw [pk_un d, pk_un d]; exact c
theorem ySm_h {σ τ : xQ} {y y' : Int32} (h : ySm σ τ) : ySm (xSh σ y) (xSh τ y') := h
theorem ySm_o {F : Nat → xQ → xQ} {s : Nat → Nat} {o : Nat} {a : Int32} (r : ∀ j, j < xPa o → ∀ σ τ, ySm σ τ → ySm (F (s j) σ) (F (s j) τ)) : ∀ σ τ, ySm σ τ → ySm (xEo F s o a σ) (xEo F s o a τ) := by
  obtain ⟨p13, p17, p14, p16, p12, p15, p0, p1, -⟩ := yPa_3
  intro σ τ H
  have hep : ∀ j, j ≤ xPa o → ySm (xEp F s j σ) (xEp F s j τ) := by
    intro j
    induction j with
    | zero => intro _; exact H
    | succ j ih => intro hj; exact r j (by omega) _ _ (ih (by omega))
  unfold xEo
  by_cases q0 : o = 0
  · rw [if_pos q0, if_pos q0]; exact ySm_m H
  rw [if_neg q0, if_neg q0]
  by_cases q1 : o = 1
  · rw [if_pos q1, if_pos q1]; exact ySm_m H
  rw [if_neg q1, if_neg q1]
  by_cases q13 : o = 13
  · rw [if_pos q13, if_pos q13]
    rw [q13, p13] at r
    have b1 := r 0 (by omega) _ _ H
    have b2 := ySm_m (op := 14) (y := a) b1
    have b3 := r 1 (by omega) _ _ b2
    have b4 := ySm_m (op := 15) (y := 0) b3
    have b6 := r 2 (by omega) _ _ (ySm_h (y := (xEm (F (s 0) σ) 14 a).2.2.2.2.2.1) (y' := (xEm (F (s 0) τ) 14 a).2.2.2.2.2.1) (ySm_2 b4 b1.1 (congrArg nI b4.1)))
    exact ySm_1 b6 b3.1 (congrArg nI b6.1)
  rw [if_neg q13, if_neg q13]
  by_cases q14 : o = 14
  · rw [if_pos q14, if_pos q14]
    rw [q14, p14] at r
    exact r 1 (by omega) _ _ (ySm_m (r 0 (by omega) _ _ H))
  rw [if_neg q14, if_neg q14]
  by_cases q15 : o = 15
  · rw [if_pos q15, if_pos q15]
    rw [q15, p15] at r
    exact ySm_m (ySm_m (r 0 (by omega) _ _ H))
  rw [if_neg q15, if_neg q15]
  by_cases q16 : o = 16
  · rw [if_pos q16, if_pos q16]
    rw [q16, p16] at r
    have b1 := ySm_m (op := 13) (y := a) (ySm_t (op := 7) (ySm_m (op := 0) (y := 7) (r 0 (by omega) _ _ H)))
    have b2 := ySm_m (op := 1) (y := a) b1
    have b3 := r 1 (by omega) _ _ (ySm_m (op := 14) (y := 1) b2)
    have b4 := ySm_m (op := 13) (y := a) (ySm_t (op := 3) (ySm_m (op := 0) (y := 1) (ySm_m (op := 1) (y := a) (ySm_t (op := 18) b3))))
    have b5 := ySm_m (op := 15) (y := nI (xEm (xEt (xEm (F (s 0) σ) 0 7) 7) 13 a).1) b4
    have e5 : xEx F s a τ = xEm (xS2 (xEm (xEm (xEt (xEm (xEm (xEt (F (s 1) (xEm (xEm (xEm (xEt (xEm (F (s 0) τ) 0 7) 7) 13 a) 1 a) 14 1)) 18) 1 a) 0 1) 3) 13 a) 15 (nI (xEm (xEt (xEm (F (s 0) σ) 0 7) 7) 13 a).1)) (xEm (xEm (xEt (xEm (F (s 0) τ) 0 7) 7) 13 a) 1 a).1 (nI (xEm (xEm (xEt (xEm (xEm (xEt (F (s 1) (xEm (xEm (xEm (xEt (xEm (F (s 0) τ) 0 7) 7) 13 a) 1 a) 14 1)) 18) 1 a) 0 1) 3) 13 a) 15 (nI (xEm (xEt (xEm (F (s 0) σ) 0 7) 7) 13 a).1)).1)) 0 0 := by
      rw [b1.1]; rfl
    rw [e5]
    exact ySm_m (ySm_2 b5 b2.1 (congrArg nI b5.1))
  rw [if_neg q16, if_neg q16]
  by_cases q17 : o = 17
  · rw [if_pos q17, if_pos q17]; exact ySm_m (hep _ (Nat.le_refl _))
  rw [if_neg q17, if_neg q17]
  exact ySm_m (hep _ (Nat.le_refl _))
theorem ySm_of {O : Nat → Nat} {A : Nat → Int32} : ∀ k p σ τ, ySm σ τ → ySm (xEmF O A k p σ) (xEmF O A k p τ) := by
  intro k
  induction k with
  | zero => intro p σ τ h; exact h
  | succ k ih => intro p; exact ySm_o (fun j _ σ τ h => ih _ σ τ h)
theorem ySm_pre : ∀ r v σ τ, ySm σ τ → ySm (xPre r v σ) (xPre r v τ) := by
  intro r
  induction r with
  | zero => intro v σ τ h; exact h
  | succ r ih => intro v σ τ h; exact ih _ _ _ (ySm_m (ySm_m h))
theorem ySm_tr {O : Nat → Nat} {A : Nat → Int32} {k m : Nat} {σ τ : xQ} (h : ySm σ τ) : ySm (xTr O A k m σ) (xTr O A k m τ) := ySm_m (ySm_of _ _ _ _ (ySm_pre _ _ _ _ h))
theorem xFi_c {f g : Nat → Int32} {x : Int32} : ∀ r k, (∀ i, k ≤ i → i < k + r → f i = g i) → xFi f x r k = xFi g x r k := by
  intro r
  induction r with
  | zero => intro k _; rfl
  | succ r ih =>
    intro k h
    unfold xFi
    rw [h k (by omega) (by omega), ih (k + 1) (fun i h1 h2 => h i (by omega) (by omega))]
/-- what compile puts into an entry -/
theorem yCo_e {w : xv_M} {x n m f : Nat} {O : Nat → Nat} {A : Nat → Int32} {U : yU} {σ : xQ} (hn : n ≤ 40) (hT : xTok O A n) (hm : m ≤ 3) (hf : f < 8) (hff : yFf f n m O A U) (h0 : σ.1 = 0) (hφ : ∀ i, i < 265 → σ.2.2.2.2.1 i = 0) (hs : yHS σ 0 0) (hc : xCoE w x m (nI f) (xTr O A 41 m σ)) : yCw w x ∧ yPv (yNu O m) U (fun j => if j = 3 then nI m else if j = 4 then nI (yMx O 41 0 0) else if j = 6 ∨ j = 9 then 0 else nI f) ∧ yCe w x (yNu O m) U (fun j => if j = 3 then nI m else if j = 4 then nI (yMx O 41 0 0) else if j = 6 ∨ j = 9 then 0 else nI f) (fun i => nI (U.1 i)) := by
  obtain ⟨-, hv, hx, hz, -, -⟩ := yOne_sz hn hT hm hff.1
  have hO : ∀ p, p < n → O p < 18 := fun p hp => (hT p hp).1
  have eN : (xTr O A 41 m σ).1 = yNu O m := by rw [xTr_n, h0]; unfold yNu; omega
  have hle := yNu_le (m := m) hz
  have pe := yFf_Pe hn hT hm hff
  obtain ⟨h1, W, mk, σ', s1, s2, s3⟩ := hff
  have hmx : 1 ≤ yMx O 41 0 0 ∧ yMx O 41 0 0 ≤ 40 := by
    have := (yWh_Gd (B := 8) hT (fun p hp e v hv _ => hv) hv hm hz W).2
    omega
  have stk := yTr_s (A := A) hO hv hm hz hs
  have sim : ySm (xTr O A 41 m σ) (xTr O A 41 m σ') := ySm_tr ⟨by rw [h0, s1], fun i hi => by omega, fun i hi => by rw [hφ i hi, s2 i hi]⟩
  have ops := yOps (A := A) (m := m) hO hv h0
  generalize xTr O A 41 m σ = T at *
  generalize xTr O A 41 m σ' = T' at *
  obtain ⟨c1, c2, c3, c4, c5, c6, c7, c8, c9, c10⟩ := hc
  have un : ∀ i, i < yNu O m → T.2.1 i = nI (U.1 i) ∧ T.2.2.1 i = U.2.1 i ∧ T.2.2.2.1 i = U.2.2.1 i ∧ T.2.2.2.2.1 i = U.2.2.2 i := by
    intro i hi
    obtain ⟨g1, g2, g3⟩ := sim.2.1 i (by omega)
    have g4 := sim.2.2 i (by omega)
    obtain ⟨k1, k2, k3, k4⟩ := s3 i hi
    obtain ⟨o, ho, eo⟩ := ops i (by omega)
    refine ⟨?_, by rw [g2, k3], by rw [g3, k4], by rw [g4, k2]⟩
    rw [k1, ← g1, eo, nI_clamp (by omega)]
  refine ⟨⟨Or.inl c7, T.1, by omega, c1, fun i hi => ?_⟩, ⟨⟨f, hf, rfl⟩, ⟨m, f, yMx O 41 0 0, rfl, rfl, hf, rfl, by omega, pe⟩, Or.inl rfl, Or.inl rfl⟩, by rw [c1, eN], fun i hi => ?_, c3, c4, c5.trans stk, c6, c7, c8, c9⟩
  · obtain ⟨o, ho, eo⟩ := ops i hi
    exact ⟨o, ho, (c2 i).1.trans eo⟩
  · obtain ⟨u1, u2, u3, u4⟩ := un i hi
    obtain ⟨d1, d2, d3, d4⟩ := c2 i
    exact ⟨d1.trans u1, d2.trans u2, d3.trans u3, d4.trans u4, (c10 i (by omega)).trans u1⟩

