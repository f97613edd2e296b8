/-! the model: measure. How far it is: which units are reached (1) and done (2), their heights, the greatest -/
def xWv (st h : Nat → Nat) (k : Nat) : Int32 := if st k = 0 then -1 else if st k = 1 then nI (0 + h k) else nI (100 + h k)
def xJp (n : Nat) (O : Nat → Nat) (F S : Nat → Int32) (β st h : Nat → Nat) (g : Nat) (X : Nat → Nat → Prop) : Prop :=
  (¬ st 0 = 0 ∧ h 0 = 0) ∧ (∀ k, k < n → st k ≤ 2 ∧ (¬ st k = 0 → xRel n O F S k (h k) ∧ h k ≤ β k)) ∧ (∀ k, k < n → st k = 2 → xTa (O k) ≤ h k ∧ xTpu O k (h k) ≤ g ∧ ∀ k', xSu O F S k k' → ¬ X k k' → k' < n ∧ ¬ st k' = 0 ∧ h k' = xTpu O k (h k)) ∧ (g = 0 ∨ ∃ k, k < n ∧ st k = 2 ∧ g = xTpu O k (h k)) ∧ (∀ k k', k < n → O k = 15 → k' < 1000 → F k = nI k' → k' ≤ k → ∀ y, k' < y → y ≤ k → ¬ st y = 0 → ¬ st k' = 0)
/-- heights that no way passes, and that a loop is entered at its top alone -/
def xHB (n : Nat) (O : Nat → Nat) (F S : Nat → Int32) (β : Nat → Nat) : Prop := (∀ k, β k ≤ 90) ∧ (∀ k k', k < n → xSu O F S k k' → ¬ (O k = 15 ∧ k' ≤ k) → β k + xLe (O k) ≤ β k' + xTa (O k)) ∧ (∀ k k', k < n → O k = 15 → k' < 1000 → F k = nI k' → k' ≤ k → ∀ x y, x < n → xSu O F S x y → k' < y → y ≤ k → k' ≤ x ∧ x ≤ k) ∧ ∀ k, k < n → O k < 22 ∧ (O k = 15 → ∃ q, q < 1000 ∧ F k = nI q) ∧ (O k = 14 → ∃ q, q < 1000 ∧ S k = nI q)
/-- a unit is done: its ways on are owed -/
theorem xJ_do {n : Nat} {O : Nat → Nat} {F S : Nat → Int32} {β st h : Nat → Nat} {g : Nat} {X : Nat → Nat → Prop} {k g' : Nat} (J : xJp n O F S β st h g (fun _ _ => False)) (hk : k < n) (h1 : st k = 1) (ht : xTa (O k) ≤ h k) (hg : g' = (if g < xTpu O k (h k) then xTpu O k (h k) else g)) : xJp n O F S β (xPt st k 2) h g' (fun a b => a = k ∧ xSu O F S k b) := by
  obtain ⟨j1, j2, j3, j4, j5⟩ := J
  have keep : ∀ j, ¬ xPt st k 2 j = 0 ↔ ¬ st j = 0 := fun j => by
    by_cases e : j = k
    · subst e; rw [xPt_eq]; omega
    · rw [xPt_ne e]
  have hgg : g ≤ g' ∧ xTpu O k (h k) ≤ g' := by rw [hg]; split <;> omega
  refine ⟨⟨(keep 0).mpr j1.1, j1.2⟩, fun j hj => ⟨?_, fun hs => (j2 j hj).2 ((keep j).mp hs)⟩, fun j hj hs => ?_, ?_, fun a b ha ho hb1 hb hle y hy1 hy2 hs => (keep b).mpr (j5 a b ha ho hb1 hb hle y hy1 hy2 ((keep y).mp hs))⟩
  · by_cases e : j = k
    · subst e; rw [xPt_eq]; omega
    · rw [xPt_ne e]; exact (j2 j hj).1
  · by_cases e : j = k
    · subst e
      exact ⟨ht, hgg.2, fun k' hs' hx => absurd ⟨rfl, hs'⟩ hx⟩
    · rw [xPt_ne e] at hs
      obtain ⟨a1, a2, a3⟩ := j3 j hj hs
      refine ⟨a1, by omega, fun k' hs' hx => ?_⟩
      obtain ⟨b1, b2, b3⟩ := a3 k' hs' (fun q => q)
      exact ⟨b1, (keep k').mpr b2, b3⟩
  · right
    rw [hg]
    split
    · exact ⟨k, hk, xPt_eq, rfl⟩
    · rename_i hlt
      rcases j4 with j4 | ⟨j, q1, q2, q3⟩
      · refine ⟨k, hk, xPt_eq, by omega⟩
      · exact ⟨j, q1, by rw [xPt_ne (fun e => by subst e; omega)]; exact q2, q3⟩
/-- a way on to a unit that was not reached -/
theorem xJ_new {n : Nat} {O : Nat → Nat} {F S : Nat → Int32} {β st h : Nat → Nat} {g : Nat} {X : Nat → Nat → Prop} {k k' : Nat} (H : xHB n O F S β) (J : xJp n O F S β st h g X) (hk : k < n) (h2 : st k = 2) (hs : xSu O F S k k') (hk' : k' < n) (h0 : st k' = 0) : xJp n O F S β (xPt st k' 1) (xPt h k' (xTpu O k (h k))) g (fun a b => X a b ∧ ¬ (a = k ∧ b = k')) ∧ xTpu O k (h k) ≤ 90 := by
  obtain ⟨j1, j2, j3, j4, j5⟩ := J
  obtain ⟨H1, H2, H3, H4⟩ := H
  have ht := (j3 k hk h2).1
  have hrel := ((j2 k hk).2 (by omega)).1
  have hβ := ((j2 k hk).2 (by omega)).2
  have hnb : ¬ (O k = 15 ∧ k' ≤ k) := by
    rintro ⟨ho, hle⟩
    by_cases e : k' = k
    · subst e; omega
    · have hF : k' < 1000 ∧ F k = nI k' := by
        rcases hs with ⟨-, ⟨-, hs⟩ | ⟨hn, -⟩⟩ | ⟨hn, -⟩
        · exact hs
        · exact absurd ho hn
        · omega
      exact j5 k k' hk ho hF.1 hF.2 hle k (by omega) (Nat.le_refl _) (by omega) h0
  have hb' : xTpu O k (h k) ≤ β k' := by
    have := H2 k k' hk hs hnb
    unfold xTpu
    omega
  have h90 := H1 k'
  have ne0 : ∀ j, ¬ st j = 0 → ¬ j = k' := fun j hj e => by subst e; exact hj h0
  have keep : ∀ j, ¬ st j = 0 → ¬ xPt st k' 1 j = 0 ∧ xPt h k' (xTpu O k (h k)) j = h j := fun j hj => by
    rw [xPt_ne (ne0 j hj), xPt_ne (ne0 j hj)]
    exact ⟨hj, rfl⟩
  refine ⟨⟨⟨(keep 0 j1.1).1, (keep 0 j1.1).2.trans j1.2⟩, fun j hj => ⟨?_, fun hsj => ?_⟩, fun j hj hsj => ?_, ?_, fun a b ha ho hb1 hb hle y hy1 hy2 hsy => ?_⟩, by omega⟩
  · by_cases e : j = k'
    · subst e; rw [xPt_eq]; omega
    · rw [xPt_ne e]; exact (j2 j hj).1
  · by_cases e : j = k'
    · subst e
      rw [xPt_eq]
      exact ⟨xRel_s hrel hk ht hs, hb'⟩
    · rw [xPt_ne e] at hsj ⊢
      exact (j2 j hj).2 hsj
  · have ejk : ¬ j = k' := fun e => by subst e; rw [xPt_eq] at hsj; omega
    rw [xPt_ne ejk] at hsj
    rw [xPt_ne ejk]
    obtain ⟨a1, a2, a3⟩ := j3 j hj hsj
    refine ⟨a1, a2, fun b hsb hx => ?_⟩
    by_cases hX : X j b
    · have : j = k ∧ b = k' := Classical.byContradiction (fun q => hx ⟨hX, q⟩)
      obtain ⟨e1, e2⟩ := this
      subst e1
      subst e2
      rw [xPt_eq, xPt_eq]
      exact ⟨hk', by omega, rfl⟩
    · obtain ⟨b1, b2, b3⟩ := a3 b hsb hX
      obtain ⟨q1, q2⟩ := keep b b2
      exact ⟨b1, q1, q2.trans b3⟩
  · rcases j4 with j4 | ⟨j, q1, q2, q3⟩
    · exact Or.inl j4
    · have ejk : ¬ j = k' := ne0 j (by omega)
      exact Or.inr ⟨j, q1, by rw [xPt_ne ejk]; exact q2, by rw [xPt_ne ejk]; exact q3⟩
  · by_cases e : y = k'
    · subst e
      obtain ⟨x1, x2⟩ := H3 a b ha ho hb1 hb hle k y hk hs hy1 hy2
      by_cases e2 : b = k
      · subst e2
        exact (keep b (by omega)).1
      · exact (keep b (j5 a b ha ho hb1 hb hle k (by omega) x2 (by omega))).1
    · rw [xPt_ne e] at hsy
      exact (keep b (j5 a b ha ho hb1 hb hle y hy1 hy2 hsy)).1
/-- a way on to a unit that was reached, with the same height -/
theorem xJ_old {n : Nat} {O : Nat → Nat} {F S : Nat → Int32} {β st h : Nat → Nat} {g : Nat} {X : Nat → Nat → Prop} {k k' : Nat} (J : xJp n O F S β st h g X) (hk' : k' < n) (h0 : ¬ st k' = 0) (he : h k' = xTpu O k (h k)) : xJp n O F S β st h g (fun a b => X a b ∧ ¬ (a = k ∧ b = k')) := by
  obtain ⟨j1, j2, j3, j4, j5⟩ := J
  refine ⟨j1, j2, fun j hj hsj => ?_, j4, j5⟩
  obtain ⟨a1, a2, a3⟩ := j3 j hj hsj
  refine ⟨a1, a2, fun b hsb hx => ?_⟩
  by_cases hX : X j b
  · have : j = k ∧ b = k' := Classical.byContradiction (fun q => hx ⟨hX, q⟩)
    obtain ⟨e1, e2⟩ := this
    subst e1
    subst e2
    exact ⟨hk', h0, he⟩
  · exact a3 b hsb hX
theorem xJ_X {n : Nat} {O : Nat → Nat} {F S : Nat → Int32} {β st h : Nat → Nat} {g : Nat} {X : Nat → Nat → Prop} {Y : Nat → Nat → Prop} (J : xJp n O F S β st h g X) (hXY : ∀ a b, xSu O F S a b → X a b → Y a b) : xJp n O F S β st h g Y := by
  obtain ⟨j1, j2, j3, j4, j5⟩ := J
  refine ⟨j1, j2, fun j hj hsj => ?_, j4, j5⟩
  obtain ⟨a1, a2, a3⟩ := j3 j hj hsj
  exact ⟨a1, a2, fun b hsb hx => a3 b hsb (fun q => hx (hXY j b hsb q))⟩
/-- all that was reached is done -/
theorem xJ_end {n : Nat} {O : Nat → Nat} {F S : Nat → Int32} {β st h : Nat → Nat} {g : Nat} {X : Nat → Nat → Prop} (hn : 0 < n) (J : xJp n O F S β st h g (fun _ _ => False)) (hd : ∀ k, k < n → ¬ st k = 1) : xGdM n O F S g := by
  obtain ⟨j1, j2, j3, j4, j5⟩ := J
  have two : ∀ k, k < n → ¬ st k = 0 → st k = 2 := fun k hk h0 => by
    have := (j2 k hk).1
    have := hd k hk
    omega
  refine ⟨fun k y => k < n ∧ st k = 2 ∧ y = h k, ⟨⟨hn, two 0 hn j1.1, j1.2.symm⟩, ?_⟩, ?_, ?_⟩
  · rintro k y ⟨hk, hs, rfl⟩
    obtain ⟨a1, a2, a3⟩ := j3 k hk hs
    refine ⟨hk, a1, fun k' hs' => ?_, fun h' hh' => hh'.2.2⟩
    obtain ⟨b1, b2, b3⟩ := a3 k' hs' (fun q => q)
    exact ⟨b1, two k' b1 b2, b3.symm⟩
  · rintro k y ⟨hk, hs, rfl⟩
    exact ⟨(j3 k hk hs).2.1, ((j2 k hk).2 (by omega)).1⟩
  · rcases j4 with j4 | ⟨k, q1, q2, q3⟩
    · exact Or.inl j4
    · exact Or.inr ⟨k, h k, ⟨q1, q2, rfl⟩, q3⟩
theorem xCn_less {p q : Nat → Bool} : ∀ n k, k < n → p k = true → q k = false → (∀ j, ¬ j = k → q j = p j) → xCn q n + 1 = xCn p n := by
  have same : ∀ (p q : Nat → Bool) n, (∀ j, j < n → q j = p j) → xCn q n = xCn p n := by
    intro p q n
    induction n with
    | zero => intro _; rfl
    | succ n ih =>
      intro h
      rw [xCn_s, xCn_s, ih (fun j hj => h j (by omega)), h n (by omega)]
  intro n
  induction n with
  | zero => intro k hk; omega
  | succ n ih =>
    intro k hk hp hq hj
    rw [xCn_s, xCn_s]
    by_cases e : k = n
    · subst e
      rw [same p q k (fun j hj' => hj j (by omega)), hp, hq]
      rfl
    · rw [hj n (fun z => e z.symm)]
      have := ih k (by omega) hp hq hj
      omega

