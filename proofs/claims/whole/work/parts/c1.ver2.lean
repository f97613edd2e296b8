/-! the check and the measure say the same: pure -/
theorem xVer_iff {n : Nat} {O : Nat → Nat} {F S : Nat → Int32} {β : Nat → Nat} {m : Nat} (hn0 : 0 < n) (hn : n ≤ 265) (H : xHB n O F S β) (hm : m ≤ 100) : (xBad n O F S → xVer n O F S (nI m) = false) ∧ ∀ g, g ≤ 100 → xGdM n O F S g → (xVer n O F S (nI m) = true ↔ nI g ≤ nI m) := by
  have sp := xVer_spec hn0 hn H hm
  refine ⟨fun hb => ?_, fun g hg hG => ?_⟩
  · rcases sp with ⟨-, g, -, T, hT, -⟩ | ⟨h, -⟩
    · exact absurd hb (xCls_b hT)
    · exact h
  · rw [nI_leI (by omega) (by omega)]
    obtain ⟨T, hT, h1, h2⟩ := hG
    rcases sp with ⟨h, g', hg', T', hT', h1', h2'⟩ | ⟨h, hb⟩
    · refine ⟨fun _ => ?_, fun _ => h⟩
      rcases h2 with h2 | ⟨k, y, hk, e⟩
      · omega
      · have := (h1' k y (xCls_r hT' k y (h1 k y hk).2)).1
        omega
    · refine ⟨fun z => ?_, fun hle => ?_⟩
      · rw [h] at z; cases z
      · rcases hb with hb | ⟨k, y, hr, hk, ht, hm2⟩
        · exact absurd hb (xCls_b hT)
        · have := (h1 k y (xCls_r hT k y hr)).1
          omega
/-- a closed way gives heights for a run -/
theorem xGd_of {L : Nat → Nat} {O : Nat → Nat → Nat} {F S : Nat → Nat → Int32} (h : ∀ f, f < 8 → 0 < L f → ∃ g, g ≤ 42 ∧ xGdM (L f) (O f) (F f) (S f) g) (hops : ∀ f, f < 8 → ∀ p, p < L f → O f p < 22 ∧ (O f p = 1 ∨ O f p = 13 → ∃ v, v < 7 ∧ F f p = nI v) ∧ (O f p = 14 → (∃ t, t < 6 ∧ F f p = nI t) ∧ ∃ q, q < 1000 ∧ S f p = nI q) ∧ (O f p = 16 → ∃ a, a < 8 ∧ F f p = nI a) ∧ (O f p = 15 → ∃ q, q < 1000 ∧ F f p = nI q)) : ∃ G, xGd L O F S G := by
  refine ⟨fun f p n => xRel (L f) (O f) (F f) (S f) p n ∧ 0 < L f, fun f hf hL => ⟨xRel_0, hL⟩, fun f p n hf hG => ?_⟩
  obtain ⟨hr, hL⟩ := hG
  obtain ⟨g, hg, T, hT, h1, -⟩ := h f hf hL
  have hTp := xCls_r hT p n hr
  obtain ⟨a1, a2, a3, a4⟩ := hT.2 p n hTp
  have htop := (h1 p n hTp).1
  obtain ⟨o1, o2, o3, o4, o5⟩ := hops f hf p a1
  unfold xTpu at htop a3
  -- the height itself is at most 42: it is what a unit before left, or 0
  have hle : n ≤ 42 := by
    obtain ⟨j, hj⟩ := hr
    clear hTp a1 a2 a3 a4 htop o1 o2 o3 o4 o5
    cases j with
    | zero => obtain ⟨-, e⟩ := hj; omega
    | succ j =>
      have key : ∀ j p n, xRe (L f) (O f) (F f) (S f) j p n → n ≤ 42 := by
        intro j
        induction j with
        | zero => rintro p n ⟨-, rfl⟩; omega
        | succ j ih =>
          rintro p n (hr | ⟨k', h', hr, hk, ht, hs, rfl⟩)
          · exact ih p n hr
          · have := (h1 k' h' (xCls_r hT k' h' ⟨j, hr⟩)).1
            omega
      exact key (j + 1) p n hj
  refine ⟨a1, ⟨a2, by omega, hle, o1, o2, fun e => (o3 e).1, o4⟩, fun e => ?_, fun e => ⟨?_, ?_⟩, fun e1 e2 e3 => ?_⟩
  · obtain ⟨q, hq, eF⟩ := o5 e
    have tt : xTa (O f p) = 0 ∧ xLe (O f p) = 0 := by rw [e]; decide
    refine ⟨q, eF, ?_, hL⟩
    have := xRel_s hr a1 a2 (k' := q) (Or.inl ⟨by omega, Or.inl ⟨e, hq, eF⟩⟩)
    unfold xTpu at this
    rw [tt.1, tt.2] at this
    exact this
  · have tt : xTa (O f p) = 1 ∧ xLe (O f p) = 0 := by rw [e]; decide
    have := xRel_s hr a1 a2 (k' := p + 1) (Or.inl ⟨by omega, Or.inr ⟨by omega, rfl⟩⟩)
    unfold xTpu at this
    rw [tt.1, tt.2] at this
    exact ⟨this, hL⟩
  · obtain ⟨-, q, hq, eS⟩ := o3 e
    have tt : xTa (O f p) = 1 ∧ xLe (O f p) = 0 := by rw [e]; decide
    have := xRel_s hr a1 a2 (k' := q) (Or.inr ⟨e, hq, eS⟩)
    unfold xTpu at this
    rw [tt.1, tt.2] at this
    exact ⟨q, eS, this, hL⟩
  · exact ⟨xRel_s hr a1 a2 (Or.inl ⟨e3, Or.inr ⟨e2, rfl⟩⟩), hL⟩
/-- the image, entry by entry -/
theorem xRmk_ls {num : Nat → Nat} {V : xU4} {U : (Nat → Nat → Nat) × (Nat → Nat → Int32) × (Nat → Nat → Int32)} : ∀ k f, (xLs num k f = none → (xRmk num V k (fun _ => 0, U)).1 f = 0) ∧ ∀ e, xLs num k f = some e → (xRmk num V k (fun _ => 0, U)).1 f = V.1 e ∧ (xRmk num V k (fun _ => 0, U)).2.1 f = V.2.1 e ∧ (xRmk num V k (fun _ => 0, U)).2.2.1 f = V.2.2.1 e ∧ (xRmk num V k (fun _ => 0, U)).2.2.2 f = V.2.2.2 e := by
  intro k
  induction k with
  | zero => intro f; exact ⟨fun _ => rfl, fun e he => by cases he⟩
  | succ k ih =>
    intro f
    obtain ⟨a, b⟩ := ih f
    unfold xLs xRmk xSt4
    by_cases c : num k = f
    · rw [if_pos c]
      subst c
      refine ⟨fun h => (by cases h), fun e he => ?_⟩
      cases he
      exact ⟨xPt_eq, xPt_eq, xPt_eq, xPt_eq⟩
    · rw [if_neg c]
      have c' : ¬ f = num k := fun z => c z.symm
      refine ⟨fun h => (xPt_ne c').trans (a h), fun e he => ?_⟩
      obtain ⟨b1, b2, b3, b4⟩ := b e he
      exact ⟨(xPt_ne c').trans b1, (xPt_ne c').trans b2, (xPt_ne c').trans b3, (xPt_ne c').trans b4⟩

