/-! the runs of both sides say the same: pure -/
theorem yWh_ends {ans : Nat → Int32 → Int32 → Int32 → xRs} {L : Nat → Nat} {f : Nat} {U : yU} {G : Nat → Nat → Prop} {P : Nat → Nat → Prop} {O : Nat → Nat} {A : Nat → Int32} {n k m e κ : Nat} (hG : yGs (yStp ans L f U) U.1 G) (g0 : G 0 0) (hl : ∀ h, G (2 * (7 - m) + xSz O k 0) h → U.1 (2 * (7 - m) + xSz O k 0) = 17) (hP : ∀ i o, (2 ≤ o ∧ o ≤ 12) ∨ o = 19 → P i o → yFo (U.1 i)) (hT : xTok O A n) (hκ : κ < 128) (hE : xEk O A n k 0 (nI κ) (nI 0) (nI 0) = some e) (hm : m ≤ 3) (hz : xSz O k 0 ≤ 250) (h : yWh P U O A k m) (W S : Nat → Int32) : ∃ r k', k' ≤ 17000 ∧ ∀ V : Nat → Int32, (∀ i, W i = if m ≤ i ∧ i < 7 then 0 else V i) → xTm (yStp ans L f U) U.1 k' 0 (V, S, 0) r := by
  obtain ⟨hp, hY, -⟩ := h
  have hg : ∀ j, j ≤ 7 - m → G (2 * j) 0 := by
    intro j
    induction j with
    | zero => intro _; exact g0
    | succ j ih =>
      intro hj
      obtain ⟨u, v⟩ := hp j (by omega)
      have s1 : yStp ans L f U (2 * j) (W, S, 0) = .inl (nI (2 * j + 1), xPu (W, S, 0) 0) := by
        unfold yStp xStep
        rw [u.1, u.2, if_pos rfl]
      obtain ⟨q, hq, e, g1⟩ := hG (2 * j) (W, S, 0) _ _ (ih (by omega)) (by rw [u.1]; omega) s1
      have e : 2 * j + 1 = q := (nI_eq (by omega) (by omega)).mp e
      subst e
      have s2 : yStp ans L f U (2 * j + 1) (xPu (W, S, 0) 0) = .inl (nI (2 * j + 1 + 1), xSv (xPo (xPu (W, S, 0) 0)) (m + j) (xTp (xPu (W, S, 0) 0))) := by
        unfold yStp xStep
        rw [v.1, v.2, if_neg (by omega), if_neg (by omega), if_pos rfl, nI_clamp (by omega)]
      obtain ⟨q, hq, e, g2⟩ := hG (2 * j + 1) _ _ _ g1 (by rw [v.1]; omega) s2
      have e : 2 * j + 1 + 1 = q := (nI_eq (by omega) (by omega)).mp e
      subst e
      exact g2
  have c := yEn_of (U := U) hG hP hT k 0 (2 * (7 - m)) κ 0 0 e hκ (by omega) (by omega) hE (by omega) hY
  obtain ⟨r, k', h1, h2⟩ := c (W, yPs (7 - m) S, 0) 1 (hg _ (Nat.le_refl _)) (fun τ g' _ => ⟨_, 1, Nat.le_refl _, yTm_17 (hl _ g')⟩)
  refine ⟨r, k' + 2 * (7 - m), ?_, fun V hV => yPro (by omega) hp V W hV k' S h2⟩
  have e64 : 8 ^ (2 - 0) = 64 := rfl
  rw [e64] at h1
  omega
/-- the class's run with fuel is the run that ends -/
theorem yGo {step : Nat → xZ → (Int32 × xZ) ⊕ Nat} {O : Nat → Nat} {G : Nat → Nat → Prop} {N : Nat} (hG : yGs step O G) (hN : ∀ p h, G p h → p < N ∧ (O p = 17 → 0 < h)) (hNb : N ≤ 1000) : ∀ k M pc (σ : xZ) r, k ≤ M → G pc σ.2.2 → xTm step O k pc σ r → xGo step O N M (nI pc) σ = r := by
  intro k
  induction k with
  | zero => intro M pc σ r _ _ h; exact absurd h id
  | succ k ih =>
    intro M pc σ r hM g h
    obtain ⟨M, rfl⟩ : ∃ M', M = M' + 1 := ⟨M - 1, by omega⟩
    have hp := hN pc _ g
    unfold xTm at h
    unfold xGo
    rw [nI_clamp (by omega)]
    by_cases q : O pc = 17
    · rw [if_pos q] at h
      rw [if_pos (Or.inr q), h]
      unfold xTop
      rw [if_neg (by have := hp.2 q; omega)]
    · rw [if_neg q] at h
      rw [if_neg (fun c => c.elim (fun c => absurd c (nI_ge hp.1 (by omega))) q)]
      cases hs : step pc σ with
      | inl t =>
        obtain ⟨t1, t2⟩ := t
        rw [hs] at h
        obtain ⟨j, hj, e, h⟩ := h
        have e : t1 = nI j := e
        subst e
        obtain ⟨q', hq', e', g'⟩ := hG pc σ t2 _ g q hs
        have e' : j = q' := (nI_eq (by omega) (by omega)).mp e'
        subst e'
        exact ih M j t2 r (by omega) g' h
      | inr e =>
        rw [hs] at h
        have h : r = .inr e := h
        rw [h]
        rfl
theorem yStep_cg {ans ans' : Nat → Int32 → Int32 → Int32 → xRs} {L : Nat → Nat} {f : Nat} (h : ∀ a, a < f → ans a = ans' a) (o : Nat) (fi se : Int32) (pc : Nat) (σ : xZ) : xStep ans L f o fi se pc σ = xStep ans' L f o fi se pc σ := by
  unfold xStep
  by_cases q : fi.toNatClampNeg < f ∧ 0 < L fi.toNatClampNeg
  · rw [h _ q.1]
  · rw [if_neg q, if_neg q]
theorem yAn_eq {M : Nat} {L : Nat → Nat} {O : Nat → Nat → Nat} {F S : Nat → Nat → Int32} : ∀ f m m', f < m → f < m' → xAn M L O F S m f = xAn M L O F S m' f := by
  intro f
  induction f using Nat.strongRecOn with
  | _ f ih =>
    intro m m' hm hm'
    obtain ⟨m, rfl⟩ : ∃ q, m = q + 1 := ⟨m - 1, by omega⟩
    obtain ⟨m', rfl⟩ : ∃ q, m' = q + 1 := ⟨m' - 1, by omega⟩
    funext x y z
    unfold xAn
    congr 1
    funext p σ
    exact yStep_cg (fun a ha => ih a ha m m' (by omega) (by omega)) _ _ _ _ _
theorem yArg3 {m : Nat} (hm : m ≤ 3) (x y z : Int32) (i : Nat) : xArg (nI m) x y z i = if m ≤ i ∧ i < 7 then 0 else xArg 3 x y z i := by
  have h3 : (0 : Int32) < 3 ∧ (1 : Int32) < 3 ∧ (2 : Int32) < 3 := by decide
  have key : ∀ m, m ≤ 3 → ((0 : Int32) < nI m ↔ 0 < m) ∧ ((1 : Int32) < nI m ↔ 1 < m) ∧ ((2 : Int32) < nI m ↔ 2 < m) := by decide +kernel
  have k := key m hm
  unfold xArg
  by_cases c0 : i = 0
  · rw [if_pos c0, if_pos c0, if_pos h3.1]
    by_cases q : 0 < m
    · rw [if_pos (k.1.mpr q), if_neg (by omega)]
    · rw [if_neg (fun e => q (k.1.mp e)), if_pos (by omega)]
  rw [if_neg c0, if_neg c0]
  by_cases c1 : i = 1
  · rw [if_pos c1, if_pos c1, if_pos h3.2.1]
    by_cases q : 1 < m
    · rw [if_pos (k.2.1.mpr q), if_neg (by omega)]
    · rw [if_neg (fun e => q (k.2.1.mp e)), if_pos (by omega)]
  rw [if_neg c1, if_neg c1]
  by_cases c2 : i = 2
  · rw [if_pos c2, if_pos c2, if_pos h3.2.2]
    by_cases q : 2 < m
    · rw [if_pos (k.2.2.mpr q), if_neg (by omega)]
    · rw [if_neg (fun e => q (k.2.2.mp e)), if_pos (by omega)]
  rw [if_neg c2, if_neg c2, ite_self]
theorem yArg0 {m : Nat} (hm : m ≤ 3) (x y z : Int32) (i : Nat) : xArg (nI m) x y z i = if m ≤ i ∧ i < 7 then 0 else xArg (nI m) x y z i := by
  by_cases q : m ≤ i ∧ i < 7
  · rw [if_pos q, yArg3 hm, if_pos q]
  · rw [if_neg q]
/-- the image: what each function answers, and that its run ends -/
theorem yImg {L nP : Nat → Nat} {O : Nat → Nat → Nat} {F S : Nat → Nat → Int32} {G : Nat → Nat → Nat → Prop} (hG : xGd L O F S G) (hL : ∀ f, f < 8 → L f ≤ 265) (hW : ∀ f, f < 8 → 0 < L f → ∃ (P : Nat → Nat → Prop) (O' : Nat → Nat) (A : Nat → Int32) (R : Nat → Int32) (n k e κ : Nat), (∀ i o, (2 ≤ o ∧ o ≤ 12) ∨ o = 17 ∨ o = 19 → P i o → yFo (O f i)) ∧ xTok O' A n ∧ κ < 128 ∧ xEk O' A n k 0 (nI κ) (nI 0) (nI 0) = some e ∧ nP f ≤ 3 ∧ xSz O' k 0 ≤ 250 ∧ L f = 2 * (7 - nP f) + xSz O' k 0 + 1 ∧ yWh P (O f, F f, S f, R) O' A k (nP f)) : xAnsT (fun f => xAn 1000000 L O F S (f + 1) f) L nP O F S := by
  intro g hg hLg x y z
  obtain ⟨P, O', A, R, n, k, e, κ, hP, hT, hκ, hE, hm, hz, eL, h⟩ := hW g hg hLg
  have hGs : yGs (yStp (fun f => xAn 1000000 L O F S (f + 1) f) L g (O g, F g, S g, R)) (O g) (G g) := by
    intro p σ τ r gp h17 hs
    obtain ⟨q, e, g'⟩ := xStep_G hG hg gp h17 hs
    have := (hG.2 g q _ hg g').1
    have := hL g hg
    exact ⟨q, by omega, e, g'⟩
  have hN : ∀ p h, G g p h → p < L g ∧ (O g p = 17 → 0 < h) := by
    intro p h gp
    obtain ⟨h1, h2, -⟩ := hG.2 g p h hg gp
    refine ⟨h1, fun e => ?_⟩
    have := h2.1
    rw [e] at this
    exact this
  have g0 := hG.1 g hg hLg
  have hl : ∀ h, G g (2 * (7 - nP g) + xSz O' k 0) h → O g (2 * (7 - nP g) + xSz O' k 0) = 17 := by
    intro h' gh
    obtain ⟨h1, h2, h3, h4, h5⟩ := hG.2 g _ h' hg gh
    have hf := hP _ _ (Or.inr (Or.inl rfl)) h.2.2
    unfold yFo at hf
    by_cases q : O g (2 * (7 - nP g) + xSz O' k 0) = 17
    · exact q
    · have := (hG.2 g _ _ hg (h5 (by omega) (by omega) q)).1
      omega
  obtain ⟨r, k', hk', hr⟩ := yWh_ends (U := (O g, F g, S g, R)) (G := G g) hGs g0 hl (fun i o q => hP i o (by omega)) hT hκ hE hm hz h (xArg (nI (nP g)) x y z) (fun _ => 0)
  have a1 := hr (xArg (nI (nP g)) x y z) (yArg0 hm x y z)
  have a2 := hr (xArg 3 x y z) (yArg3 hm x y z)
  have q := yGo hGs hN (by have := hL g hg; omega) k' 1000000 0 _ r (by omega) g0 a2
  refine ⟨k', ?_⟩
  have e : (fun f => xAn 1000000 L O F S (f + 1) f) g x y z = r := by
    rw [← q]
    show xAn 1000000 L O F S (g + 1) g x y z = _
    unfold xAn
    show xGo _ _ _ _ (nI 0) _ = _
    congr 1
    funext p σ
    exact yStep_cg (fun a ha => yAn_eq a g (a + 1) ha (by omega)) _ _ _ _ _
  rw [e]
  exact a1

