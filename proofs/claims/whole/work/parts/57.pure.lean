/-! a form that stands: all its places lie within the row -/
theorem xEk_vf {O : Nat → Nat} {A : Nat → Int32} {n : Nat} : ∀ (k p : Nat) (K C t : Int32) (e : Nat), xEk O A n k p K C t = some e → xVF O n k p := by
  intro k
  induction k with
  | zero => intro p K C t e h; cases h
  | succ k ih =>
    intro p K C t e h
    unfold xEk at h
    split at h
    · rename_i hc
      refine ⟨hc.1, ?_⟩
      have key : ∀ (m j q : Nat), q = xIt (xNx O k) j (p + 1) → ∀ e, xEf (xEs (xEk O A n k) (O p) (A p) K C t) m j (some q) = some e → ∀ i, i < m → xVF O n k (xIt (xNx O k) (j + i) (p + 1)) := by
        intro m
        induction m with
        | zero => intro j q hq e he i hi; omega
        | succ m im =>
          intro j q hq e he i hi
          unfold xEf at he
          cases hs : xEs (xEk O A n k) (O p) (A p) K C t j (some q) with
          | none =>
            rw [hs, xEf_none] at he
            cases he
          | some q2 =>
            rw [hs] at he
            have hv := ih _ _ _ _ _ hs
            obtain ⟨h1, h2⟩ := xEk_nx _ _ _ _ _ _ hs
            by_cases e0 : i = 0
            · subst e0
              rw [Nat.add_zero, ← hq]
              exact hv
            · have := im (j + 1) q2 (by rw [h1, hq]; rfl) e he (i - 1) (by omega)
              rw [show j + 1 + (i - 1) = j + i by omega] at this
              exact this
      intro j hj
      have := key (xPa (O p)) 0 (p + 1) rfl e h j hj
      rw [Nat.zero_add] at this
      exact this
    · cases h
/-- twice the units, and eleven, and nine if the tokens are even, are at most thirteen times the tokens -/
theorem xSz_le {O : Nat → Nat} {n : Nat} (hO : ∀ p, p < n → O p < 18) : ∀ (k p : Nat), xVF O n k p → xNx O k p ≤ n → p + 1 ≤ xNx O k p ∧ 2 * xSz O k p + 11 + 9 * ((xNx O k p - p + 1) % 2) ≤ 13 * (xNx O k p - p) := by
  intro k
  induction k with
  | zero => intro p hv; exact absurd hv id
  | succ k ih =>
    intro p hv hn
    obtain ⟨hp, hv⟩ := hv
    have hgt := xNx_gt O (k + 1) p
    refine ⟨hgt, ?_⟩
    have hnx : xNx O (k + 1) p = xIt (xNx O k) (xPa (O p)) (p + 1) := rfl
    have mono : ∀ j, j ≤ xPa (O p) → xIt (xNx O k) j (p + 1) ≤ xNx O (k + 1) p := fun j hj => xIt_mono (xNx_gt O k) _ hj
    have part : ∀ j, j < xPa (O p) → xIt (xNx O k) j (p + 1) + 1 ≤ xIt (xNx O k) (j + 1) (p + 1) ∧ 2 * xSz O k (xIt (xNx O k) j (p + 1)) + 11 + 9 * ((xIt (xNx O k) (j + 1) (p + 1) - xIt (xNx O k) j (p + 1) + 1) % 2) ≤ 13 * (xIt (xNx O k) (j + 1) (p + 1) - xIt (xNx O k) j (p + 1)) := fun j hj => ih _ (hv j hj) (Nat.le_trans (mono (j + 1) hj) hn)
    have sum : ∀ m, m ≤ xPa (O p) → p + 1 + m ≤ xIt (xNx O k) m (p + 1) ∧ 2 * xSumN (fun j => xSz O k (xIt (xNx O k) j (p + 1))) m + 11 * m + 9 * ((xIt (xNx O k) m (p + 1) - (p + 1) + m) % 2) ≤ 13 * (xIt (xNx O k) m (p + 1) - (p + 1)) := by
      intro m
      induction m with
      | zero =>
        intro _
        refine ⟨Nat.le_refl _, ?_⟩
        show 2 * 0 + 11 * 0 + 9 * ((p + 1 - (p + 1) + 0) % 2) ≤ 13 * (p + 1 - (p + 1))
        omega
      | succ m im =>
        intro hm
        obtain ⟨a1, a2⟩ := im (by omega)
        obtain ⟨b1, b2⟩ := part m (by omega)
        refine ⟨by omega, ?_⟩
        show 2 * (xSumN _ m + xSz O k (xIt (xNx O k) m (p + 1))) + 11 * (m + 1) + _ ≤ _
        generalize xIt (xNx O k) (m + 1) (p + 1) = T1 at *
        generalize xSz O k (xIt (xNx O k) m (p + 1)) = z at *
        generalize xSumN (fun j => xSz O k (xIt (xNx O k) j (p + 1))) m = sm at *
        generalize xIt (xNx O k) m (p + 1) = T0 at *
        omega
    obtain ⟨s1, s2⟩ := sum (xPa (O p)) (Nat.le_refl _)
    show 2 * (xOwn (O p) + xSumN _ (xPa (O p))) + 11 + _ ≤ _
    rw [hnx]
    have own : ∀ o, o < 18 → (xPa o = 0 ∨ xPa o = 2 → 2 * xOwn o + 11 ≤ 11 * xPa o + 13) ∧ (xPa o = 1 ∨ xPa o = 3 → 2 * xOwn o + 20 ≤ 11 * xPa o + 13) ∧ xPa o ≤ 3 := by decide +kernel
    obtain ⟨w1, w2, w3⟩ := own (O p) (hO p hp)
    generalize xIt (xNx O k) (xPa (O p)) (p + 1) = T at *
    generalize xSumN (fun j => xSz O k (xIt (xNx O k) j (p + 1))) (xPa (O p)) = sm at *
    generalize xPa (O p) = m at *
    generalize xOwn (O p) = ow at *
    clear part sum mono hnx hgt ih hv
    rcases (by omega : m = 0 ∨ m = 1 ∨ m = 2 ∨ m = 3) with rfl | rfl | rfl | rfl
    · have := w1 (Or.inl rfl); clear w1 w2; omega
    · have := w2 (Or.inl rfl); clear w1 w2; omega
    · have := w1 (Or.inr rfl); clear w1 w2; omega
    · have := w2 (Or.inr rfl); clear w1 w2; omega
theorem xSz_250 {O : Nat → Nat} {n k : Nat} (hO : ∀ p, p < n → O p < 18) (hn : n ≤ 40) (hv : xVF O n k 0) (he : xNx O k 0 ≤ n) : xSz O k 0 ≤ 250 := by
  have := (xSz_le hO k 0 hv he).2
  omega

