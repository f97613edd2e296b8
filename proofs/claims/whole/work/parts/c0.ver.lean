/-! the class's check of code, against the ways: pure -/
def xVi (n : Nat) (σ : xCS) (k : Nat) (st h r : Nat → Nat) : Prop := (∀ q, q < n → σ.1 q = if st q = 0 then -1 else nI (h q)) ∧ (∀ i, i < σ.2.2 → σ.2.1 i = nI (r i) ∧ r i < n) ∧ (∀ i, i < k → st (r i) = 2) ∧ (∀ i, k ≤ i → i < σ.2.2 → st (r i) = 1) ∧ (∀ q, q < n → ¬ st q = 0 → ∃ i, i < σ.2.2 ∧ r i = q) ∧ (∀ i j, i < σ.2.2 → j < σ.2.2 → r i = r j → i = j) ∧ k ≤ σ.2.2
theorem xVi_le {n : Nat} {σ : xCS} {k : Nat} {st h r : Nat → Nat} (V : xVi n σ k st h r) : σ.2.2 ≤ n := pigeon n _ r (fun i hi => (V.2.1 i hi).2) V.2.2.2.2.2.1
theorem nI_neg1 {a : Nat} (h : a < 2 ^ 31) : ¬ nI a = -1 := fun e => absurd (show nI a < 0 by rw [e]; decide) (nI_pos h)
theorem xV_reach {n : Nat} {O : Nat → Nat} {F S : Nat → Int32} {β st h r : Nat → Nat} {g k q0 k' : Nat} {X : Nat → Nat → Prop} {σ : xCS} (hn : n ≤ 265) (H : xHB n O F S β) (J : xJp n O F S β st h g X) (V : xVi n σ k st h r) (hq : q0 < n) (h2 : st q0 = 2) (hs : xSu O F S q0 k') (hk1 : k' < 1000) :
    ((xRch n σ (nI k') (nI (xTpu O q0 (h q0)))).1 = false ∧ xBad n O F S) ∨ ((xRch n σ (nI k') (nI (xTpu O q0 (h q0)))).1 = true ∧ ∃ st' h' r', xJp n O F S β st' h' g (fun a b => X a b ∧ ¬ (a = q0 ∧ b = k')) ∧ xVi n (xRch n σ (nI k') (nI (xTpu O q0 (h q0)))).2 k st' h' r' ∧ ∀ j, ¬ st j = 0 → st' j = st j ∧ h' j = h j) := by
  have hM := xVi_le V
  obtain ⟨v1, v2, v3, v4, v5, v6, v7⟩ := V
  have J0 := J
  obtain ⟨j1, j2, j3, j4, j5⟩ := J
  have ht := (j3 q0 hq h2).1
  obtain ⟨hrel, hβ⟩ := (j2 q0 hq).2 (by omega)
  have tl := xTa_3 (O q0) (H.2.2.2 q0 hq).1
  have b90 := H.1 q0
  have t100 : xTpu O q0 (h q0) < 1000 := by unfold xTpu; omega
  have hck : (nI k').toNatClampNeg = k' := nI_clamp (by omega)
  unfold xRch
  rw [hck]
  by_cases hkn : k' < n
  · rw [if_neg (fun q => q.elim (nI_pos (by omega)) (nI_ge hkn (by omega)))]
    by_cases h0 : st k' = 0
    · have e1 : σ.1 k' = -1 := by rw [v1 k' hkn, if_pos h0]
      rw [if_pos e1]
      obtain ⟨J', h90⟩ := xJ_new H J0 hq h2 hs hkn h0
      have ne0 : ∀ j, ¬ st j = 0 → ¬ j = k' := fun j hj e => by subst e; exact hj h0
      refine Or.inr ⟨rfl, _, _, xPt r σ.2.2 k', J', ⟨fun q hq' => ?_, fun i hi => ?_, fun i hi => ?_, fun i hi1 hi2 => ?_, fun q hq' hs' => ?_, fun i j hi hj hij => ?_, by show k ≤ σ.2.2 + 1; omega⟩, fun j hj => ?_⟩
      · show upd σ.1 k' (nI (xTpu O q0 (h q0))) q = _
        by_cases e : q = k'
        · subst e
          rw [pk_us, xPt_eq, xPt_eq, if_neg (by decide)]
        · rw [pk_un e, xPt_ne e, xPt_ne e]
          exact v1 q hq'
      · have hi : i < σ.2.2 + 1 := hi
        show upd σ.2.1 σ.2.2 (nI k') i = nI (xPt r σ.2.2 k' i) ∧ xPt r σ.2.2 k' i < n
        by_cases e : i = σ.2.2
        · subst e
          rw [pk_us, xPt_eq]
          exact ⟨rfl, hkn⟩
        · rw [pk_un e, xPt_ne e]
          exact v2 i (by omega)
      · have e : ¬ i = σ.2.2 := by omega
        have h3 := v3 i hi
        rw [xPt_ne e, xPt_ne (ne0 _ (by omega))]
        exact h3
      · have hi2 : i < σ.2.2 + 1 := hi2
        by_cases e : i = σ.2.2
        · subst e
          rw [xPt_eq, xPt_eq]
        · have h3 := v4 i hi1 (by omega)
          rw [xPt_ne e, xPt_ne (ne0 _ (by omega))]
          exact h3
      · by_cases e : q = k'
        · subst e
          exact ⟨σ.2.2, Nat.lt_succ_self _, xPt_eq⟩
        · rw [xPt_ne e] at hs'
          obtain ⟨i, a, b⟩ := v5 q hq' hs'
          exact ⟨i, Nat.lt_succ_of_lt a, by rw [xPt_ne (by omega)]; exact b⟩
      · have hi : i < σ.2.2 + 1 := hi
        have hj : j < σ.2.2 + 1 := hj
        have old : ∀ i, i < σ.2.2 → ¬ r i = k' := fun i hi e => by
          have : ¬ st (r i) = 0 := by
            by_cases c : i < k
            · rw [v3 i c]; decide
            · rw [v4 i (by omega) hi]; decide
          rw [e] at this
          exact this h0
        by_cases e1 : i = σ.2.2
        · by_cases e2 : j = σ.2.2
          · omega
          · rw [e1, xPt_eq, xPt_ne e2] at hij
            exact absurd hij.symm (old j (by omega))
        · by_cases e2 : j = σ.2.2
          · rw [e2, xPt_eq, xPt_ne e1] at hij
            exact absurd hij (old i (by omega))
          · rw [xPt_ne e1, xPt_ne e2] at hij
            exact v6 i j (by omega) (by omega) hij
      · rw [xPt_ne (ne0 j hj), xPt_ne (ne0 j hj)]
        exact ⟨rfl, rfl⟩
    · have hh := ((j2 k' hkn).2 h0)
      have b90' := H.1 k'
      have e1 : σ.1 k' = nI (h k') := by rw [v1 k' hkn, if_neg h0]
      rw [e1, if_neg (nI_neg1 (by omega))]
      have q : (nI (h k') = nI (xTpu O q0 (h q0))) ↔ h k' = xTpu O q0 (h q0) := nI_eq (by omega) (by omega)
      by_cases e : h k' = xTpu O q0 (h q0)
      · refine Or.inr ⟨decide_eq_true (q.mpr e), st, h, r, xJ_old J0 hkn h0 e, ⟨v1, v2, v3, v4, v5, v6, v7⟩, fun j _ => ⟨rfl, rfl⟩⟩
      · exact Or.inl ⟨decide_eq_false (fun z => e (q.mp z)), k', h k', hh.1, Or.inr (Or.inr ⟨_, xRel_s hrel hq ht hs, fun z => e z.symm⟩)⟩
  · rw [if_pos (Or.inr (nI_le (by omega) (by omega)))]
    exact Or.inl ⟨rfl, k', _, xRel_s hrel hq ht hs, Or.inl (by omega)⟩
/-- too high for m -/
def xHi (n : Nat) (O : Nat → Nat) (F S : Nat → Int32) (m : Nat) : Prop := ∃ k h, xRel n O F S k h ∧ k < n ∧ xTa (O k) ≤ h ∧ m < xTpu O k h
theorem xV_pass {n : Nat} {O : Nat → Nat} {F S : Nat → Int32} {β st h r : Nat → Nat} {g k m : Nat} {σ : xCS} (hn : n ≤ 265) (H : xHB n O F S β) (J : xJp n O F S β st h g (fun _ _ => False)) (V : xVi n σ k st h r) (hk : k < σ.2.2) (hm : m ≤ 100) (hg : g ≤ m) :
    ((xPs n O F S (nI m) σ (r k)).1 = false ∧ (xBad n O F S ∨ xHi n O F S m)) ∨ ((xPs n O F S (nI m) σ (r k)).1 = true ∧ ∃ st' h' r' g', g' ≤ m ∧ xJp n O F S β st' h' g' (fun _ _ => False) ∧ xVi n (xPs n O F S (nI m) σ (r k)).2 (k + 1) st' h' r') := by
  have V0 := V
  obtain ⟨v1, v2, v3, v4, v5, v6, v7⟩ := V
  have hq := (v2 k hk).2
  have h1 := v4 k (Nat.le_refl _) hk
  generalize hq0 : r k = q0 at *
  obtain ⟨o22, oF, oS⟩ := H.2.2.2 q0 hq
  obtain ⟨hrel, hβ⟩ := (J.2.1 q0 hq).2 (by omega)
  have tl := xTa_3 (O q0) o22
  have b90 := H.1 q0
  have eh : σ.1 q0 = nI (h q0) := by rw [v1 q0 hq, if_neg (by omega)]
  unfold xPs
  rw [eh]
  by_cases ht : xTa (O q0) ≤ h q0
  · rw [nI_subN ht, nI_add, show h q0 - xTa (O q0) + xLe (O q0) = xTpu O q0 (h q0) from rfl]
    by_cases hm2 : m < xTpu O q0 (h q0)
    · rw [if_pos (Or.inr (nI_lt hm2 (by unfold xTpu; omega)))]
      exact Or.inl ⟨rfl, Or.inr ⟨q0, h q0, hrel, hq, ht, hm2⟩⟩
    · have t100 : xTpu O q0 (h q0) ≤ 100 := by omega
      rw [if_neg (fun q => q.elim (nI_pos (by omega)) (fun q => hm2 ((nI_ltI (by omega) (by omega)).mp q)))]
      have J1 := xJ_do (X := fun _ _ => False) J hq h1 ht rfl
      have hg' : (if g < xTpu O q0 (h q0) then xTpu O q0 (h q0) else g) ≤ m := by split <;> omega
      generalize (if g < xTpu O q0 (h q0) then xTpu O q0 (h q0) else g) = g' at *
      have V1 : xVi n σ (k + 1) (xPt st q0 2) h r := by
        refine ⟨fun q hq' => ?_, v2, fun i hi => ?_, fun i hi1 hi2 => ?_, fun q hq' hs => ?_, v6, by omega⟩
        · rw [v1 q hq']
          by_cases e : q = q0
          · subst e; rw [xPt_eq, if_neg (by omega), if_neg (by decide)]
          · rw [xPt_ne e]
        · by_cases e : i = k
          · subst e; rw [hq0, xPt_eq]
          · have := v3 i (by omega)
            rw [xPt_ne (fun z => by rw [z] at this; omega)]; exact this
        · have := v4 i (by omega) hi2
          rw [xPt_ne (fun z => by have := v6 i k hi2 hk (by rw [z, hq0]); omega)]; exact this
        · by_cases e : q = q0
          · subst e; exact ⟨k, hk, hq0⟩
          · rw [xPt_ne e] at hs; exact v5 q hq' hs
      have h2 : xPt st q0 2 q0 = 2 := xPt_eq
      generalize xPt st q0 2 = st1 at *
      by_cases e17 : O q0 = 17
      · rw [if_pos e17]
        refine Or.inr ⟨rfl, st1, h, r, g', hg', xJ_X J1 (fun a b hs hx => ?_), V1⟩
        obtain ⟨e1, e2⟩ := hx
        rcases e2 with ⟨q, -⟩ | ⟨q, -⟩
        · exact q e17
        · omega
      rw [if_neg e17]
      by_cases e15 : O q0 = 15
      · rw [if_pos e15]
        obtain ⟨q, hq1, eF⟩ := oF e15
        rw [eF]
        rcases xV_reach hn H J1 V1 hq h2 (Or.inl ⟨e17, Or.inl ⟨e15, hq1, eF⟩⟩) hq1 with ⟨a1, a2⟩ | ⟨a1, st2, h3, r2, J2, V2, c2⟩
        · exact Or.inl ⟨a1, Or.inl a2⟩
        · refine Or.inr ⟨a1, st2, h3, r2, g', hg', xJ_X J2 (fun a b hs hx => ?_), V2⟩
          obtain ⟨⟨x1, x2⟩, x3⟩ := hx
          rcases x2 with ⟨-, ⟨-, q1, q2⟩ | ⟨q1, -⟩⟩ | ⟨q1, -⟩
          · exact x3 ⟨x1, (nI_eq (by omega) (by omega)).mp (q2.symm.trans eF)⟩
          · exact q1 e15
          · omega
      rw [if_neg e15, show nI q0 + 1 = nI (q0 + 1) by rw [nI_succ]]
      have first := xV_reach hn H J1 V1 hq h2 (k' := q0 + 1) (Or.inl ⟨e17, Or.inr ⟨e15, rfl⟩⟩) (by omega)
      by_cases e14 : O q0 = 14
      · rw [if_pos e14]
        obtain ⟨q, hq1, eS⟩ := oS e14
        rcases first with ⟨a1, a2⟩ | ⟨a1, st2, h3, r2, J2, V2, c2⟩
        · rw [if_neg (by rw [a1]; decide)]
          exact Or.inl ⟨rfl, Or.inl a2⟩
        · rw [if_pos a1, eS]
          obtain ⟨c3, c4⟩ := c2 q0 (by omega)
          have second := xV_reach hn H J2 V2 hq (c3.trans h2) (k' := q) (Or.inr ⟨e14, hq1, eS⟩) hq1
          rw [c4] at second
          rcases second with ⟨b1, b2⟩ | ⟨b1, st4, h5, r4, J4, V4, -⟩
          · exact Or.inl ⟨b1, Or.inl b2⟩
          · refine Or.inr ⟨b1, st4, h5, r4, g', hg', xJ_X J4 (fun a b hs hx => ?_), V4⟩
            obtain ⟨⟨⟨x1, x2⟩, x3⟩, x4⟩ := hx
            rcases x2 with ⟨-, ⟨q1, -⟩ | ⟨-, q1⟩⟩ | ⟨-, q1, q2⟩
            · exact e15 q1
            · exact x3 ⟨x1, q1⟩
            · exact x4 ⟨x1, (nI_eq (by omega) (by omega)).mp (q2.symm.trans eS)⟩
      · rw [if_neg e14]
        rcases first with ⟨a1, a2⟩ | ⟨a1, st2, h3, r2, J2, V2, c2⟩
        · exact Or.inl ⟨a1, Or.inl a2⟩
        · refine Or.inr ⟨a1, st2, h3, r2, g', hg', xJ_X J2 (fun a b hs hx => ?_), V2⟩
          obtain ⟨⟨x1, x2⟩, x3⟩ := hx
          rcases x2 with ⟨-, ⟨q1, -⟩ | ⟨-, q1⟩⟩ | ⟨q1, -⟩
          · exact e15 q1
          · exact x3 ⟨x1, q1⟩
          · exact e14 q1
  · rw [if_pos (Or.inl (Int32.not_le.mp (xNegT (h q0) (by omega) (xTa (O q0)) (by omega) (by omega))))]
    exact Or.inl ⟨rfl, Or.inl ⟨q0, h q0, hrel, Or.inr (Or.inl (by omega))⟩⟩
/-- the check's verdict: a closed way no higher than m, or a fault -/
theorem xVer_spec {n : Nat} {O : Nat → Nat} {F S : Nat → Int32} {β : Nat → Nat} {m : Nat} (hn0 : 0 < n) (hn : n ≤ 265) (H : xHB n O F S β) (hm : m ≤ 100) : (xVer n O F S (nI m) = true ∧ ∃ g, g ≤ m ∧ xGdM n O F S g) ∨ (xVer n O F S (nI m) = false ∧ (xBad n O F S ∨ xHi n O F S m)) := by
  have loop : ∀ (q k : Nat) (σ : xCS) (st h r : Nat → Nat) (g : Nat), k + q = 266 → g ≤ m → xJp n O F S β st h g (fun _ _ => False) → xVi n σ k st h r → ((xLp n O F S (nI m) q k true σ).1 = true ∧ ∃ g, g ≤ m ∧ xGdM n O F S g) ∨ ((xLp n O F S (nI m) q k true σ).1 = false ∧ (xBad n O F S ∨ xHi n O F S m)) := by
    intro q
    induction q with
    | zero =>
      intro k σ st h r g hk hg J V
      have := xVi_le V
      have := V.2.2.2.2.2.2
      omega
    | succ q ih =>
      intro k σ st h r g hk hg J V
      have hle := xVi_le V
      unfold xLp
      by_cases c : k < σ.2.2
      · rw [if_pos ⟨c, by omega, rfl⟩, (V.2.1 k c).1, nI_clamp (by have := (V.2.1 k c).2; omega)]
        rcases xV_pass hn H J V c hm hg with ⟨a1, a2⟩ | ⟨a1, st', h', r', g', hg', J', V'⟩
        · rw [a1]
          refine Or.inr ⟨?_, a2⟩
          cases q with
          | zero => rfl
          | succ q =>
            unfold xLp
            rw [if_neg (fun z => by cases z.2.2)]
        · rw [a1]
          exact ih (k + 1) _ st' h' r' g' (by omega) hg' J' V'
      · rw [if_neg (fun z => c z.1)]
        refine Or.inl ⟨rfl, g, hg, xJ_end (X := fun _ _ => False) hn0 J (fun q hq h1 => ?_)⟩
        obtain ⟨i, hi, hr⟩ := V.2.2.2.2.1 q hq (by omega)
        have := V.2.2.1 i (by have := V.2.2.2.2.2.2; omega)
        rw [hr] at this
        omega
  have h00 : xRch n xC0 0 0 = (true, (upd xC0.1 0 0, upd xC0.2.1 0 0, 1)) := by
    unfold xRch
    rw [if_neg (fun q => q.elim (by decide) (nI_ge (a := 0) hn0 (by omega)))]
    rw [show (0 : Int32).toNatClampNeg = 0 from rfl, if_pos (show xC0.1 0 = -1 from rfl)]
    rfl
  unfold xVer
  rw [h00]
  refine loop 266 0 _ (fun j => if j = 0 then 1 else 0) (fun _ => 0) (fun _ => 0) 0 (by decide) (Nat.zero_le _) ⟨⟨by decide, rfl⟩, fun j hj => ⟨?_, fun h0 => ?_⟩, fun j hj h2 => ?_, Or.inl rfl, fun a b ha ho hb1 hb hle y hy1 hy2 hs => ?_⟩ ⟨fun q hq => ?_, fun i hi => ?_, fun i hi => absurd hi (Nat.not_lt_zero i), fun i _ hi => rfl, fun q hq hs => ?_, fun i j hi hj _ => ?_, Nat.zero_le _⟩
  · show (if j = 0 then 1 else 0) ≤ 2
    split <;> omega
  · have e : j = 0 := Classical.byContradiction (fun q => h0 (if_neg q))
    subst e
    exact ⟨xRel_0, Nat.zero_le _⟩
  · have h2 : (if j = 0 then 1 else 0) = 2 := h2
    split at h2 <;> omega
  · exact absurd (if_neg (by omega)) hs
  · show upd xC0.1 0 0 q = if (if q = 0 then 1 else 0) = 0 then -1 else nI 0
    by_cases e : q = 0
    · subst e; rfl
    · rw [pk_un e, if_pos (if_neg e)]; rfl
  · have hi : i < 1 := hi
    have hi : i = 0 := by omega
    subst hi
    exact ⟨rfl, hn0⟩
  · have e : q = 0 := Classical.byContradiction (fun z => hs (if_neg z))
    exact ⟨0, by show 0 < 1; decide, e.symm⟩
  · have hi : i < 1 := hi
    have hj : j < 1 := hj
    omega

