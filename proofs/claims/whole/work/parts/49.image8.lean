/-! the image's run: pure -/
def xGs (rec : Int32 → xZ → xRs) (r : (Int32 × xZ) ⊕ Nat) : xRs := match r with
  | .inl q => rec q.1 q.2
  | .inr e => .inr e
def xGo (step : Nat → xZ → (Int32 × xZ) ⊕ Nat) (O : Nat → Nat) (n : Nat) : Nat → Int32 → xZ → xRs
  | 0, _, σ => .inl (xTop σ)
  | k + 1, pc, σ => if nI n ≤ pc ∨ O pc.toNatClampNeg = 17 then .inl (xTop σ) else xGs (xGo step O n k) (step pc.toNatClampNeg σ)
def xAn (M : Nat) (L : Nat → Nat) (O : Nat → Nat → Nat) (F S : Nat → Nat → Int32) : Nat → Nat → Int32 → Int32 → Int32 → xRs
  | 0, _, _, _, _ => .inl 0
  | m + 1, f, x, y, z => xGo (fun p σ => xStep (xAn M L O F S m) L f (O f p) (F f p) (S f p) p σ) (O f) (L f) M 0 (xArg 3 x y z, fun _ => 0, 0)
/-- heights that go with the units -/
def xGd (L : Nat → Nat) (O : Nat → Nat → Nat) (F S : Nat → Nat → Int32) (G : Nat → Nat → Nat → Prop) : Prop := (∀ f, f < 8 → 0 < L f → G f 0 0) ∧ ∀ f p n, f < 8 → G f p n → p < L f ∧ xOk (O f p) (F f p) n ∧ (O f p = 15 → ∃ q, F f p = nI q ∧ G f q n) ∧ (O f p = 14 → G f (p + 1) (n - 1) ∧ ∃ q, S f p = nI q ∧ G f q (n - 1)) ∧ (¬ O f p = 14 → ¬ O f p = 15 → ¬ O f p = 17 → G f (p + 1) (n - xTa (O f p) + xLe (O f p)))
theorem xRw_n {o : Nat} {σ : xZ} (ho : xRo o) (hk : xTa o ≤ σ.2.2) : (xRw o σ).2.2 = σ.2.2 - xTa o + xLe o := by
  have key : ∀ o, o < 22 → (2 ≤ o ∧ o ≤ 11 → xTa o = 2 ∧ xLe o = 1) ∧ (o = 12 → xTa o = 1 ∧ xLe o = 1) ∧ (o = 18 → xTa o = 1 ∧ xLe o = 0) ∧ (o = 19 → xTa o = 1 ∧ xLe o = 2) ∧ (o = 20 → xTa o = 2 ∧ xLe o = 2) ∧ (o = 21 → xTa o = 0 ∧ xLe o = 0) := by decide +kernel
  unfold xRo at ho
  obtain ⟨a1, a2, a3, a4, a5, a6⟩ := key o (by omega)
  generalize xTa o = ta at *
  generalize xLe o = le at *
  unfold xRw
  by_cases e21 : o = 21
  · rw [if_pos e21]
    obtain ⟨b1, b2⟩ := a6 e21
    omega
  rw [if_neg e21]
  by_cases e12 : o = 12
  · rw [if_pos e12]
    obtain ⟨b1, b2⟩ := a2 e12
    show σ.2.2 - 1 + 1 = _
    omega
  rw [if_neg e12]
  by_cases e18 : o = 18
  · rw [if_pos e18]
    obtain ⟨b1, b2⟩ := a3 e18
    show σ.2.2 - 1 = _
    omega
  rw [if_neg e18]
  by_cases e19 : o = 19
  · rw [if_pos e19]
    obtain ⟨b1, b2⟩ := a4 e19
    show σ.2.2 - 1 + 1 + 1 = _
    omega
  rw [if_neg e19]
  by_cases e20 : o = 20
  · rw [if_pos e20]
    obtain ⟨b1, b2⟩ := a5 e20
    show σ.2.2 - 1 - 1 + 1 + 1 = _
    omega
  rw [if_neg e20]
  obtain ⟨b1, b2⟩ := a1 (by omega)
  show σ.2.2 - 1 - 1 + 1 = _
  omega
theorem xStep_G {ans : Nat → Int32 → Int32 → Int32 → xRs} {L : Nat → Nat} {O : Nat → Nat → Nat} {F S : Nat → Nat → Int32} {G : Nat → Nat → Nat → Prop} {f p : Nat} {σ τ : xZ} {r : Int32} (hG : xGd L O F S G) (hf : f < 8) (hp : G f p σ.2.2) (h17 : ¬ O f p = 17) (hst : xStep ans L f (O f p) (F f p) (S f p) p σ = .inl (r, τ)) : ∃ q, r = nI q ∧ G f q τ.2.2 := by
  obtain ⟨g1, g2, g3, g4, g5⟩ := hG.2 f p _ hf hp
  have hta := g2.1
  have hO := g2.2.2.2.1
  unfold xStep at hst
  by_cases e0 : O f p = 0
  · rw [if_pos e0] at hst
    have h := g5 (by omega) (by omega) h17
    rw [e0, xTa_0, xLe_0] at h
    cases hst
    exact ⟨_, rfl, h⟩
  rw [if_neg e0] at hst
  by_cases e1 : O f p = 1
  · rw [if_pos e1] at hst
    have h := g5 (by omega) (by omega) h17
    rw [e1, xTa_1, xLe_1] at h
    cases hst
    exact ⟨_, rfl, h⟩
  rw [if_neg e1] at hst
  by_cases e13 : O f p = 13
  · rw [if_pos e13] at hst
    have h := g5 (by omega) (by omega) h17
    rw [e13, xTa_13, show xLe 13 = 0 by decide] at h
    cases hst
    exact ⟨_, rfl, h⟩
  rw [if_neg e13] at hst
  by_cases e14 : O f p = 14
  · rw [if_pos e14] at hst
    obtain ⟨h1, q, h2, h3⟩ := g4 e14
    simp only [Sum.inl.injEq, Prod.mk.injEq] at hst
    obtain ⟨hr, rfl⟩ := hst
    by_cases c : xSo (F f p) (xTp σ) = true
    · rw [if_pos c] at hr
      exact ⟨_, hr.symm, h1⟩
    · rw [if_neg c] at hr
      exact ⟨q, by rw [← hr, h2], h3⟩
  rw [if_neg e14] at hst
  by_cases e15 : O f p = 15
  · rw [if_pos e15] at hst
    obtain ⟨q, h2, h3⟩ := g3 e15
    cases hst
    exact ⟨q, h2, h3⟩
  rw [if_neg e15] at hst
  have h := g5 e14 e15 h17
  by_cases e16 : O f p = 16
  · rw [if_pos e16] at hst
    rw [e16, xTa_16, show xLe 16 = 1 by decide] at h
    split at hst
    · unfold xCl at hst
      split at hst
      · cases hst
        refine ⟨_, rfl, ?_⟩
        show G f (p + 1) (σ.2.2 - 1 - 1 - 1 + 1)
        rw [show σ.2.2 - 1 - 1 - 1 + 1 = σ.2.2 - 3 + 1 by omega]
        exact h
      · cases hst
    · cases hst
  rw [if_neg e16] at hst
  have hro := xRo_of hO e0 e1 e13 e14 e15 e16 h17
  split at hst
  · cases hst
  · cases hst
    rw [← xRw_n hro hta] at h
    exact ⟨_, rfl, h⟩
theorem nI_M : nI 1000000 = (1000000 : Int32) := by decide

