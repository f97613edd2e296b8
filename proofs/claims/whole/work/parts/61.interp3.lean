/-! what forms are open: places, how many parts of each, how many -/
abbrev xY : Type := (Nat → Nat) × (Nat → Nat) × Nat
def xOs (w : xv_M) (h : Nat) (π : xY) : Prop := (∀ q, q < π.2.2 → xv_i w (h + 1) q = nI (π.1 q)) ∧ (∀ q, q < π.2.2 → xv_i w (h + 2) q = nI (π.2.1 q)) ∧ xv_i w h 2 = nI π.2.2
def xOg (π : xY) (p : Nat) : xY := (xPt π.1 (π.2.2 - 1) p, xPt π.2.1 (π.2.2 - 1) 0, π.2.2)
def xOl (π : xY) : xY := (π.1, π.2.1, π.2.2 - 1)
def xOe (π : xY) (p : Nat) : xY := (xPt π.1 π.2.2 p, xPt (xPt π.2.1 (π.2.2 - 1) (π.2.1 (π.2.2 - 1) + 1)) π.2.2 0, π.2.2 + 1)
theorem xPt_eq {α : Type} {f : Nat → α} {k : Nat} {x : α} : xPt f k x k = x := if_pos rfl
theorem xPt_ne {α : Type} {f : Nat → α} {k j : Nat} {x : α} (h : j ≠ k) : xPt f k x j = f j := if_neg h
theorem xOs_l {u w : xv_M} {h n : Nat} {π : xY} (hs : xOs u h π) (hn : π.2.2 = n + 1) (hw : w = xv_si u h 2 (nI n)) : xOs w h (xOl π) ∧ xSi (xFS h) u w := by
  subst hw
  obtain ⟨g1, g2, g3⟩ := hs
  refine ⟨⟨fun q hq => ?_, fun q hq => ?_, ?_⟩, xSi_si (Or.inl rfl)⟩
  · have hq : q < π.2.2 - 1 := hq
    rw [xv_si_ne (by omega)]; exact g1 q (by omega)
  · have hq : q < π.2.2 - 1 := hq
    rw [xv_si_ne (by omega)]; exact g2 q (by omega)
  · rw [xv_si_eq]
    show nI n = nI (π.2.2 - 1)
    rw [hn]
    rfl
theorem xOs_g {u w : xv_M} {h n p : Nat} {π : xY} (hs : xOs u h π) (hn : π.2.2 = n + 1) (hw : w = xv_si (xv_si (xv_si (xv_si u h 2 (nI n)) (h + 1) n (nI p)) (h + 2) n 0) h 2 (nI (n + 1))) : xOs w h (xOg π p) ∧ xSi (xFS h) u w := by
  subst hw
  obtain ⟨g1, g2, g3⟩ := hs
  have e : π.2.2 - 1 = n := by omega
  refine ⟨⟨fun q hq => ?_, fun q hq => ?_, ?_⟩, xSi_tr (xSi_tr (xSi_tr (xSi_si (Or.inl rfl)) (xSi_si (Or.inr (Or.inl rfl)))) (xSi_si (Or.inr (Or.inr rfl)))) (xSi_si (Or.inl rfl))⟩
  · have hq : q < π.2.2 := hq
    show _ = nI (xPt π.1 (π.2.2 - 1) p q)
    rw [e, xv_si_ne (by omega), xv_si_ne (by omega)]
    by_cases c : q = n
    · subst c
      rw [xv_si_eq, xPt_eq]
    · rw [xv_si_nj c, xv_si_ne (by omega), xPt_ne c]
      exact g1 q hq
  · have hq : q < π.2.2 := hq
    show _ = nI (xPt π.2.1 (π.2.2 - 1) 0 q)
    rw [e, xv_si_ne (by omega)]
    by_cases c : q = n
    · subst c
      rw [xv_si_eq, xPt_eq]
      rfl
    · rw [xv_si_nj c, xv_si_ne (by omega), xv_si_ne (by omega), xPt_ne c]
      exact g2 q hq
  · rw [xv_si_eq]
    show nI (n + 1) = nI π.2.2
    rw [hn]

