/-! call by call: what both sides answer, and that they stay tied. The draft -/
theorem nF {N M b q : Nat} (h : zF N M b q) : (N + 8 ≤ b ∧ b < N + 88 ∧ (b - N - 8) % 10 ≤ 3) ∨ ((b = M + 3 ∨ b = M + 4 ∨ b = M + 10 ∨ b = M + 11) ∧ q < 8) ∨ ((b = M + 7 ∨ b = M + 8 ∨ b = M + 9 ∨ b = M + 13) ∧ q < 2240) := by
  rcases h with ⟨g, h1, h2, h3⟩ | h | h
  · exact Or.inl (by omega)
  · exact Or.inr (Or.inl h)
  · exact Or.inr (Or.inr h)
theorem nI' {N M b q : Nat} (h : zI N M b q) : (N + 153 ≤ b ∧ b < N + 209 ∧ (b - N - 153) % 7 ≤ 3) ∨ b = M + 14 ∨ b = M + 22 ∨ (b = M + 10 ∧ 16 ≤ q) ∨ ((b = M + 7 ∨ b = M + 8 ∨ b = M + 9 ∨ b = M + 13) ∧ 4480 ≤ q) := by
  rcases h with ⟨g, h1, h2, h3⟩ | h
  · exact Or.inl (by omega)
  · exact Or.inr h
theorem p_clear {u : xv_M} {h N M : Nat} (H : yTi u h N M) : (xDk u h N (N + 4) (N + 88) (N + 89) (N + 150) ∧ xv_Fo u N (N + 1) (N + 2) (N + 3)) ∧ xMo (xv_si u N 2 0) M ∧ xv_i (xv_si u N 2 0) (M + 3) 8 = xv_i u N 2 ∧ yTi (xv_si (xv_si u N 2 0) (M + 3) 8 0) h N M := by
  obtain ⟨E, a1, a2, a3, a4, a5, a6⟩ := H
  obtain ⟨n, O, A, d1, d2, d3⟩ := a2
  have hl : h < N ∧ N + 209 ≤ M ∧ M + 31 ≤ xv_N u := ⟨a1.2.2.2.2.2.2.1, a1.2.2.2.2.2.2.2, a1.2.2.2.2.2.1⟩
  have a1' : yCl (xv_si (xv_si u N 2 0) (M + 3) 8 0) h N M E := yCl_si (zS_tr zS_1 zS_1) hl.2.2 a1
  refine ⟨⟨a1.1.1, a1.1.2.1⟩, a1'.2.2.1, ?_, E, a1', ⟨0, O, A, ⟨?_, by omega, fun i hi => by omega⟩, ⟨?_, by omega, fun i hi => by omega⟩, fun p hp => by omega⟩, yF_fr (zEq_tr (zEq_1 fun q => ?_) (zEq_1 fun q => ?_)) a3, yA_fr a1.2.2.2.2.1 (zEq_tr (zEq_1 fun q => ?_) (zEq_1 fun q => ?_)) a4, yI_fr (zEq_tr (zEq_1 fun q => ?_) (zEq_1 fun q => ?_)) a5, yK_fr (zEq_tr (zEq_1 fun q => ?_) (zEq_1 fun q => ?_)) a6⟩
  · rw [xv_si_ne (by omega), d2.1, d1.1]
  · rw [xv_si_ne (by omega), xv_si_eq]; rfl
  · rw [xv_si_eq]; rfl
  · have := nF q; omega
  · have := nF q; omega
  · unfold zA at q; omega
  · unfold zA at q; omega
  · have := nI' q; omega
  · have := nI' q; omega
  · unfold zK at q; omega
  · unfold zK at q; omega
/-- a token that is taken -/
theorem yTok_s {O : Nat → Nat} {A : Nat → Int32} {n : Nat} {x y : Int32} (h : xTok O A n) (hx : ¬ xOkT x y = 0) (hr : 0 ≤ x ∧ x ≤ 17) : ∃ o, o < 18 ∧ x = nI o ∧ xTok (xPt O n o) (upd A n y) (n + 1) := by
  have hxo : ∃ o, o < 18 ∧ x = nI o := by
    obtain ⟨o, ho, rfl⟩ := nI_of (x := x) (Int32.not_lt.mpr hr.1)
    have : o ≤ 17 := (nI_leI (b := 17) ho (by decide)).mp hr.2
    exact ⟨o, by omega, rfl⟩
  obtain ⟨o, ho, rfl⟩ := hxo
  refine ⟨o, ho, rfl, fun p hp => ?_⟩
  by_cases e : p = n
  · subst e
    rw [xPt_eq, pk_us]
    have q : ∀ k, k < 18 → ((nI o = nI k) ↔ o = k) := fun k hk => nI_eq (by omega) (by omega)
    unfold xOkT at hx
    have i1 : ∀ (l m : Nat), l ≤ m → m < 100 → ¬ xw y (nI l) (nI m) = 0 → ∃ v, l ≤ v ∧ v ≤ m ∧ y = nI v := by
      intro l m hlm hm hw
      obtain ⟨w1, w2⟩ := xw_ne hw
      have hy : ¬ y < 0 := fun c => absurd (Int32.lt_of_le_of_lt w1 c) (nI_pos (by omega))
      obtain ⟨v, hv, rfl⟩ := nI_of hy
      exact ⟨v, (nI_leI (by omega) hv).mp w1, (nI_leI hv (by omega)).mp w2, rfl⟩
    refine ⟨ho, fun c => ?_, fun c => ?_, fun c => ?_, fun c => ?_⟩
    · rw [if_pos (by rcases c with rfl | rfl <;> decide)] at hx
      obtain ⟨v, -, hv, e⟩ := i1 0 6 (by omega) (by omega) hx
      exact ⟨v, by omega, e⟩
    · rw [if_neg (by rcases c with rfl | rfl <;> decide), if_neg (by rcases c with rfl | rfl <;> decide), if_pos (by rcases c with rfl | rfl <;> decide)] at hx
      obtain ⟨v, hv0, hv, e⟩ := i1 3 6 (by omega) (by omega) hx
      exact ⟨v, by omega, by omega, e⟩
    · subst c
      rw [if_neg (by decide), if_pos (by rfl)] at hx
      obtain ⟨v, hv0, hv, e⟩ := i1 0 5 (by omega) (by omega) hx
      exact ⟨v, by omega, e⟩
    · subst c
      rw [if_neg (by decide), if_neg (by decide), if_neg (by decide), if_pos (by rfl)] at hx
      obtain ⟨v, hv0, hv, e⟩ := i1 0 7 (by omega) (by omega) hx
      exact ⟨v, by omega, e⟩
  · rw [xPt_ne e, pk_un e]
    exact h p (by omega)
theorem yOkT_r {x y : Int32} (h : ¬ xOkT x y = 0) : 0 ≤ x ∧ x ≤ 17 := by
  unfold xOkT at h
  by_cases c1 : x = 1 ∨ x = 15
  · rcases c1 with rfl | rfl <;> exact ⟨by decide, by decide⟩
  rw [if_neg c1] at h
  by_cases c2 : x = 13
  · subst c2; exact ⟨by decide, by decide⟩
  rw [if_neg c2] at h
  by_cases c3 : x = 14 ∨ x = 16
  · rcases c3 with rfl | rfl <;> exact ⟨by decide, by decide⟩
  rw [if_neg c3] at h
  by_cases c4 : x = 17
  · subst c4; exact ⟨by decide, by decide⟩
  rw [if_neg c4] at h
  exact xw_ne h
theorem p_token {u : xv_M} {h N M : Nat} (H : yTi u h N M) : ∃ n, (xDk u h N (N + 4) (N + 88) (N + 89) (N + 150) ∧ xv_Fo u N (N + 1) (N + 2) (N + 3) ∧ xv_i u N 2 = nI n ∧ n ≤ 40) ∧ (xMo u M ∧ xv_i u (M + 3) 8 = nI n) ∧ ∀ x y w, ¬ xOkT x y = 0 → n < 40 → w = xv_si (xv_si (xv_si u (N + 1) n x) (N + 2) n y) N 2 (nI (n + 1)) → (xMo w M ∧ xv_i w (M + 3) 8 = nI n) ∧ yTi (xv_si (xv_si (xv_si w (M + 1) (320 + n) x) (M + 2) (320 + n) y) (M + 3) 8 (nI (n + 1))) h N M := by
  obtain ⟨E, a1, a2, a3, a4, a5, a6⟩ := H
  obtain ⟨n, O, A, d1, d2, d3⟩ := a2
  have hl : h < N ∧ N + 209 ≤ M ∧ M + 31 ≤ xv_N u := ⟨a1.2.2.2.2.2.2.1, a1.2.2.2.2.2.2.2, a1.2.2.2.2.2.1⟩
  refine ⟨n, ⟨a1.1.1, a1.1.2.1, d1.1, d1.2.1⟩, ⟨a1.2.2.1, d2.1⟩, fun x y w hx hn e => ?_⟩
  subst e
  obtain ⟨o, ho, rfl, ht⟩ := yTok_s d3 hx (yOkT_r hx)
  have zz : zS (fun b => b < M + 31) u (xv_si (xv_si (xv_si u (N + 1) n (nI o)) (N + 2) n y) N 2 (nI (n + 1))) := zS_tr (zS_tr zS_1 zS_1) zS_1
  have a1' := yCl_si zz hl.2.2 a1
  have a1'' := yCl_si (w := xv_si (xv_si (xv_si (xv_si (xv_si (xv_si u (N + 1) n (nI o)) (N + 2) n y) N 2 (nI (n + 1))) (M + 1) (320 + n) (nI o)) (M + 2) (320 + n) y) (M + 3) 8 (nI (n + 1))) (zS_tr zz (zS_tr (zS_tr zS_1 zS_1) zS_1)) hl.2.2 a1
  refine ⟨⟨a1'.2.2.1, ?_⟩, E, a1'', ⟨n + 1, xPt O n o, upd A n y, ⟨?_, by omega, fun i hi => ?_⟩, ⟨?_, by omega, fun i hi => ?_⟩, ht⟩, yF_fr ?_ a3, yA_fr a1.2.2.2.2.1 ?_ a4, yI_fr ?_ a5, yK_fr ?_ a6⟩
  · rw [xv_si_ne (by omega), xv_si_ne (by omega), xv_si_ne (by omega)]; exact d2.1
  · rw [xv_si_ne (by omega), xv_si_ne (by omega), xv_si_ne (by omega), xv_si_eq]
  · by_cases c : i = n
    · subst c
      rw [xPt_eq, pk_us]
      exact ⟨by rw [xv_si_ne (by omega), xv_si_ne (by omega), xv_si_ne (by omega), xv_si_ne (by omega), xv_si_ne (by omega), xv_si_eq], ho, by rw [xv_si_ne (by omega), xv_si_ne (by omega), xv_si_ne (by omega), xv_si_ne (by omega), xv_si_eq]⟩
    · rw [xPt_ne c, pk_un c]
      have q := d1.2.2 i (by omega)
      exact ⟨by rw [xv_si_ne (by omega), xv_si_ne (by omega), xv_si_ne (by omega), xv_si_ne (by omega), xv_si_ne (by omega), xv_si_nj c]; exact q.1, q.2.1, by rw [xv_si_ne (by omega), xv_si_ne (by omega), xv_si_ne (by omega), xv_si_ne (by omega), xv_si_nj c, xv_si_ne (by omega)]; exact q.2.2⟩
  · rw [xv_si_eq]
  · by_cases c : i = n
    · subst c
      rw [xPt_eq, pk_us]
      exact ⟨by rw [xv_si_ne (by omega), xv_si_ne (by omega), xv_si_eq], ho, by rw [xv_si_ne (by omega), xv_si_eq]⟩
    · rw [xPt_ne c, pk_un c]
      have q := d2.2.2 i (by omega)
      exact ⟨by rw [xv_si_ne (by omega), xv_si_ne (by omega), xv_si_nj (by omega), xv_si_ne (by omega), xv_si_ne (by omega), xv_si_ne (by omega)]; exact q.1, q.2.1, by rw [xv_si_ne (by omega), xv_si_nj (by omega), xv_si_ne (by omega), xv_si_ne (by omega), xv_si_ne (by omega), xv_si_ne (by omega)]; exact q.2.2⟩
  · refine zEq_tr (zEq_tr (zEq_tr (zEq_1 fun q => ?_) (zEq_1 fun q => ?_)) (zEq_1 fun q => ?_)) (zEq_tr (zEq_tr (zEq_1 fun q => ?_) (zEq_1 fun q => ?_)) (zEq_1 fun q => ?_)) <;> (have := nF q; omega)
  · refine zEq_tr (zEq_tr (zEq_tr (zEq_1 fun q => ?_) (zEq_1 fun q => ?_)) (zEq_1 fun q => ?_)) (zEq_tr (zEq_tr (zEq_1 fun q => ?_) (zEq_1 fun q => ?_)) (zEq_1 fun q => ?_)) <;> (unfold zA at q; omega)
  · refine zEq_tr (zEq_tr (zEq_tr (zEq_1 fun q => ?_) (zEq_1 fun q => ?_)) (zEq_1 fun q => ?_)) (zEq_tr (zEq_tr (zEq_1 fun q => ?_) (zEq_1 fun q => ?_)) (zEq_1 fun q => ?_)) <;> (have := nI' q; omega)
  · refine zEq_tr (zEq_tr (zEq_tr (zEq_1 fun q => ?_) (zEq_1 fun q => ?_)) (zEq_1 fun q => ?_)) (zEq_tr (zEq_tr (zEq_1 fun q => ?_) (zEq_1 fun q => ?_)) (zEq_1 fun q => ?_)) <;> (unfold zK at q; omega)

