/-! entering a part; Interpreter.choose -/
theorem xOs_e {u w : xv_M} {h n p : Nat} {π : xY} (hs : xOs u h π) (hn : π.2.2 = n + 1) (hw : w = xv_si (xv_si (xv_si (xv_si u (h + 2) n (xv_i u (h + 2) n + 1)) (h + 1) (n + 1) (nI p)) (h + 2) (n + 1) 0) h 2 (nI (n + 2))) : xOs w h (xOe π p) ∧ xSi (xFS h) u w := by
  subst hw
  obtain ⟨g1, g2, g3⟩ := hs
  have e : π.2.2 - 1 = n := by omega
  refine ⟨⟨fun q hq => ?_, fun q hq => ?_, ?_⟩, xSi_tr (xSi_tr (xSi_tr (xSi_si (Or.inr (Or.inr rfl))) (xSi_si (Or.inr (Or.inl rfl)))) (xSi_si (Or.inr (Or.inr rfl)))) (xSi_si (Or.inl rfl))⟩
  · have hq : q < π.2.2 + 1 := hq
    show _ = nI (xPt π.1 π.2.2 p q)
    rw [hn, xv_si_ne (by omega), xv_si_ne (by omega)]
    by_cases c : q = n + 1
    · subst c
      rw [xv_si_eq, xPt_eq]
    · rw [xv_si_nj c, xv_si_ne (by omega), xPt_ne c]
      exact g1 q (by omega)
  · have hq : q < π.2.2 + 1 := hq
    show _ = nI (xPt (xPt π.2.1 (π.2.2 - 1) (π.2.1 (π.2.2 - 1) + 1)) π.2.2 0 q)
    rw [e, hn, xv_si_ne (by omega)]
    by_cases c : q = n + 1
    · subst c
      rw [xv_si_eq, xPt_eq]
      rfl
    · rw [xv_si_nj c, xv_si_ne (by omega), xPt_ne c]
      by_cases c2 : q = n
      · subst c2
        rw [xv_si_eq, xPt_eq, g2 q (by omega), nI_succ]
      · rw [xv_si_nj c2, xPt_ne c2]
        exact g2 q (by omega)
  · rw [xv_si_eq]
    show nI (n + 2) = nI (π.2.2 + 1)
    rw [hn]

