/-! the model's stands and the class's mayStand say the same: define -/
theorem ySd_acc {O : Nat → Nat} {A : Nat → Int32} {up : Nat → Int32} {pt : Nat → Nat} {a : Int32} : ∀ k c β l τ, xSd O A up pt a k c β l τ = (β || (xSd O A up pt a k c false false 0).1, l || (xSd O A up pt a k c false false 0).2.1, τ + (xSd O A up pt a k c false false 0).2.2) := by
  intro k
  induction k with
  | zero => intro c β l τ; simp [xSd]
  | succ k ih =>
    intro c β l τ
    unfold xSd
    by_cases h : up c < 0
    · rw [if_pos h, if_pos h]; simp
    · rw [if_neg h, if_neg h, ih, ih _ (false || _)]
      by_cases e : O (up c).toNatClampNeg = 16
      · simp only [e, if_true, Bool.or_assoc, Bool.false_or, Nat.add_assoc, Nat.zero_add]
      · simp only [e, if_false, Bool.or_assoc, Bool.false_or, Nat.add_assoc, Nat.zero_add]
def yUo (up : Nat → Int32) (n : Nat) : Prop := ∀ c, c < n → up c = -1 ∨ ∃ j, j < c ∧ up c = nI j
theorem ySd_fuel {O : Nat → Nat} {A : Nat → Int32} {up : Nat → Int32} {pt : Nat → Nat} {a : Int32} {n : Nat} (hn : n ≤ 1000) (hu : yUo up n) : ∀ c, c < n → ∀ k, c < k → ∀ β l τ, xSd O A up pt a k c β l τ = xSd O A up pt a (c + 1) c β l τ := by
  intro c
  induction c using Nat.strongRecOn with
  | _ c ih =>
    intro hc k hk β l τ
    obtain ⟨k, rfl⟩ : ∃ q, k = q + 1 := ⟨k - 1, by omega⟩
    unfold xSd
    by_cases h : up c < 0
    · rw [if_pos h, if_pos h]
    · rw [if_neg h, if_neg h]
      rcases hu c hc with e | ⟨j, hj, e⟩
      · rw [e] at h; exact absurd (by decide) h
      · rw [e, nI_clamp (by omega), ih j hj (by omega) k (by omega), ih j hj (by omega) c hj]
/-- what the walk up from a token finds -/
def yW (O : Nat → Nat) (A : Nat → Int32) (up : Nat → Int32) (pt : Nat → Nat) (q : Nat) (a : Int32) : Bool × Bool × Nat := xSd O A up pt a (q + 1) q false false 0
theorem yW_c {O : Nat → Nat} {A : Nat → Int32} {up : Nat → Int32} {pt : Nat → Nat} {n p q j : Nat} (hn : n ≤ 1000) (hu : yUo up n) (hq : q < n) (hp : p < q) (eu : up q = nI p) (ep : pt q = j + 1) (a : Int32) : yW O A up pt q a = (((decide (O p = 14) || decide (O p = 16)) && (decide (A p = a) && decide (j = 1))) || (yW O A up pt p a).1, (decide (O p = 16) && (decide (A p = a) && decide (j = 1))) || (yW O A up pt p a).2.1, (if O p = 16 then 1 else 0) + (yW O A up pt p a).2.2) := by
  have e0 : ¬ up q < 0 := by rw [eu]; exact nI_pos (by omega)
  have ej : decide (j + 1 = 2) = decide (j = 1) := by
    by_cases c : j = 1
    · rw [decide_eq_true c, decide_eq_true (by omega)]
    · rw [decide_eq_false c, decide_eq_false (by omega)]
  unfold yW
  rw [show xSd O A up pt a (q + 1) q false false 0 = _ from by unfold xSd; rw [if_neg e0, eu, nI_clamp (by omega), ySd_fuel hn hu p (by omega) q hp, ySd_acc]]
  unfold xMn
  rw [ep, ej]
  by_cases c : O p = 16
  · simp [c]
  · simp [c]
theorem yW_0 {O : Nat → Nat} {A : Nat → Int32} {up : Nat → Int32} {pt : Nat → Nat} {q : Nat} (eu : up q = -1) (a : Int32) : yW O A up pt q a = (false, false, 0) := by
  unfold yW xSd
  rw [eu, if_pos (by decide)]
theorem yUo_n {O : Nat → Nat} {n : Nat} : yUo (xRl O n).2.2.2.1 n := by
  intro c hc
  rw [(yRl_keep n hc).1]
  unfold yUp
  by_cases h : (xRl O c).1 = 0
  · rw [if_pos h]; exact Or.inl rfl
  · rw [if_neg h]
    exact Or.inr ⟨_, (xRl_g O c).2.1 _ (by omega), rfl⟩
/-- the sets that the class keeps, against what the model finds -/
def yIn (O : Nat → Nat) (A : Nat → Int32) (n m p κ γ τ : Nat) : Prop := (∀ v, v < 7 → κ.testBit v = (decide (v < m) || (yW O A (xRl O n).2.2.2.1 (xRl O n).2.2.2.2 p (nI v)).1) ∧ γ.testBit v = (yW O A (xRl O n).2.2.2.1 (xRl O n).2.2.2.2 p (nI v)).2.1) ∧ ∀ a, (yW O A (xRl O n).2.2.2.1 (xRl O n).2.2.2.2 p a).2.2 = τ
theorem yMay {O : Nat → Nat} {A : Nat → Int32} {n m p κ γ τ : Nat} {f : Int32} (hT : xTok O A n) (hp : p < n) (hm : m ≤ 3) (hκ : κ < 128) (hγ : γ < 128) (hτ : τ ≤ 2) (hl : O p = 17 → A p < f) (h : yIn O A n m p κ γ τ) : xMay (O p) (A p) (nI κ) (nI γ) (nI τ) = xStk O A n f (nI m) p := by
  obtain ⟨h1, h2⟩ := h
  obtain ⟨t1, t2, t3, t4, t5⟩ := hT p hp
  unfold xStk
  rw [ySd_acc]
  change _ = xStd (O p) (A p) f (decide (A p < nI m) || (yW O A (xRl O n).2.2.2.1 (xRl O n).2.2.2.2 p (A p)).1, false || (yW O A (xRl O n).2.2.2.1 (xRl O n).2.2.2.2 p (A p)).2.1, 0 + (yW O A (xRl O n).2.2.2.1 (xRl O n).2.2.2.2 p (A p)).2.2)
  rw [h2, Bool.false_or, Nat.zero_add]
  have key : ∀ v, v < 7 → A p = nI v → xBit (nI κ) (A p) = (decide (A p < nI m) || (yW O A (xRl O n).2.2.2.1 (xRl O n).2.2.2.2 p (A p)).1) ∧ xBit (nI γ) (A p) = (yW O A (xRl O n).2.2.2.1 (xRl O n).2.2.2.2 p (A p)).2.1 := by
    intro v hv e
    rw [e, xMk_bit κ hκ v hv, xMk_bit γ hγ v hv, (h1 v hv).1, (h1 v hv).2]
    refine ⟨?_, rfl⟩
    have : (nI v < nI m) ↔ v < m := nI_ltI (by omega) (by omega)
    rw [decide_eq_decide.mpr this]
  have kτ : ∀ τ, τ ≤ 2 → (decide (nI τ < 2) = decide (τ < 2)) ∧ (decide (nI τ = 0) = decide (τ = 0)) := by decide +kernel
  have kτ := kτ τ hτ
  unfold xStd
  by_cases e1 : O p = 1
  · obtain ⟨v, hv, e⟩ := t2 (Or.inl e1)
    rw [if_pos e1, e1]
    exact (key v hv e).1
  rw [if_neg e1]
  by_cases e15 : O p = 15
  · obtain ⟨v, hv, e⟩ := t2 (Or.inr e15)
    rw [if_pos e15, e15]
    show (xBit _ _ && !xBit _ _) = _
    rw [(key v hv e).1, (key v hv e).2]
  rw [if_neg e15]
  by_cases e14 : O p = 14
  · obtain ⟨v, -, hv, e⟩ := t3 (Or.inl e14)
    rw [if_pos e14, e14]
    show (!xBit _ _) = _
    rw [(key v hv e).2]
  rw [if_neg e14]
  by_cases e16 : O p = 16
  · obtain ⟨v, -, hv, e⟩ := t3 (Or.inr e16)
    rw [if_pos e16, e16]
    show (!xBit _ _ && decide (nI τ < 2)) = _
    rw [(key v hv e).2, kτ.1]
  rw [if_neg e16]
  by_cases e17 : O p = 17
  · rw [decide_eq_true e17, decide_eq_true (hl e17), e17]
    show decide (nI τ = 0) = _
    rw [kτ.2]
    simp
  · rw [decide_eq_false e17]
    have : ∀ o, o < 18 → ¬ o = 1 → ¬ o = 15 → ¬ o = 14 → ¬ o = 16 → ¬ o = 17 → ∀ a K C t, xMay o a K C t = true := by
      intro o ho a1 a15 a14 a16 a17 a K C t
      unfold xMay
      split <;> first | rfl | omega
    rw [this _ t1 e1 e15 e14 e16 e17]
    rfl
theorem yEf_of {O : Nat → Nat} {A : Nat → Int32} {n k p o : Nat} {a K C t : Int32} : ∀ m j, (∀ i, j ≤ i → i < j + m → xEk O A n k (xIt (xNx O k) i (p + 1)) (xKj o a K i) (xCj o a C i) (xTj o t) = some (xIt (xNx O k) (i + 1) (p + 1))) → xEf (xEs (xEk O A n k) o a K C t) m j (some (xIt (xNx O k) j (p + 1))) = some (xIt (xNx O k) (j + m) (p + 1)) := by
  intro m
  induction m with
  | zero => intro j _; rfl
  | succ m ih =>
    intro j h
    show xEf _ m (j + 1) (xEk O A n k _ (xKj o a K j) (xCj o a C j) (xTj o t)) = _
    rw [h j (by omega) (by omega), ih (j + 1) (fun i h1 h2 => h i (by omega) (by omega))]
    rw [show j + 1 + m = j + (m + 1) by omega]
/-- the sets for a part -/
theorem yIn_c {O : Nat → Nat} {A : Nat → Int32} {n m p κ γ τ k j : Nat} (hn : n ≤ 40) (hT : xTok O A n) (hκ : κ < 128) (hγ : γ < 128) (hv : xVF O n (k + 1) p) (hj : j < xPa (O p)) (hq : xIt (xNx O k) j (p + 1) < n) (h : yIn O A n m p κ γ τ) : ∃ κ' γ', κ' < 128 ∧ γ' < 128 ∧ xKj (O p) (A p) (nI κ) j = nI κ' ∧ xCj (O p) (A p) (nI γ) j = nI γ' ∧ yIn O A n m (xIt (xNx O k) j (p + 1)) κ' γ' (if O p = 16 then τ + 1 else τ) := by
  obtain ⟨h1, h2⟩ := h
  obtain ⟨t1, t2, t3, t4, t5⟩ := hT p hv.1
  obtain ⟨eu, ep⟩ := yCh_of hv hj hq
  have hpq : p < xIt (xNx O k) j (p + 1) := by
    have := xIt_mono (fun p => xNx_gt O k p) (p + 1) (Nat.zero_le j)
    have : p + 1 ≤ xIt (xNx O k) j (p + 1) := this
    omega
  have W := yW_c (O := O) (A := A) (by omega) yUo_n hq hpq eu ep
  generalize xIt (xNx O k) j (p + 1) = q at *
  have ht : ∀ a, (yW O A (xRl O n).2.2.2.1 (xRl O n).2.2.2.2 q a).2.2 = if O p = 16 then τ + 1 else τ := by
    intro a
    rw [W a]
    show (if O p = 16 then 1 else 0) + _ = _
    rw [h2]
    split <;> omega
  by_cases c : j = 1 ∧ (O p = 14 ∨ O p = 16)
  · obtain ⟨v, -, hv7, e⟩ := t3 c.2
    have b1 : (decide (j = 1) && (decide (O p = 16) || decide (O p = 14))) = true := by
      rcases c.2 with q | q <;> simp [c.1, q]
    have or1 := xMk_or κ hκ v hv7
    have or2 := xMk_or γ hγ v hv7
    have hk : xKj (O p) (A p) (nI κ) j = nI (κ ||| 2 ^ v) := by
      unfold xKj
      rw [if_pos b1, e]; exact or1.1
    have dv : ∀ u, u < 7 → decide (A p = nI u) = decide (v = u) := by
      intro u hu
      rw [e]
      exact decide_eq_decide.mpr (nI_eq (by omega) (by omega))
    have b2 : (decide (O p = 14) || decide (O p = 16)) = true := by rcases c.2 with q | q <;> simp [q]
    by_cases c16 : O p = 16
    · refine ⟨κ ||| 2 ^ v, γ ||| 2 ^ v, or1.2, or2.2, hk, ?_, fun u hu => ?_, ht⟩
      · unfold xCj
        rw [if_pos (by rw [b1, decide_eq_true c16]; rfl), e]; exact or2.1
      · rw [W (nI u), xMk_tb, xMk_tb, (h1 u hu).1, (h1 u hu).2, dv u hu, b2, decide_eq_true c.1, decide_eq_true c16]
        refine ⟨?_, ?_⟩
        · show _ = (decide (u < m) || ((true && (decide (v = u) && true)) || _))
          cases decide (v = u) <;> cases decide (u < m) <;> simp
        · show _ = ((true && (decide (v = u) && true)) || _)
          cases decide (v = u) <;> simp
    · refine ⟨κ ||| 2 ^ v, γ, or1.2, hγ, hk, ?_, fun u hu => ?_, ht⟩
      · unfold xCj
        rw [if_neg (by rw [decide_eq_false c16]; simp)]
      · rw [W (nI u), xMk_tb, (h1 u hu).1, (h1 u hu).2, dv u hu, b2, decide_eq_true c.1, decide_eq_false c16]
        refine ⟨?_, ?_⟩
        · show _ = (decide (u < m) || ((true && (decide (v = u) && true)) || _))
          cases decide (v = u) <;> cases decide (u < m) <;> simp
        · simp
  · have b1 : (decide (j = 1) && (decide (O p = 16) || decide (O p = 14))) = false := by
      by_cases q : j = 1
      · have q14 : ¬ O p = 14 := fun e => c ⟨q, Or.inl e⟩
        have q16 : ¬ O p = 16 := fun e => c ⟨q, Or.inr e⟩
        simp [q14, q16]
      · simp [q]
    refine ⟨κ, γ, hκ, hγ, ?_, ?_, fun u hu => ?_, ht⟩
    · unfold xKj
      rw [if_neg (by rw [b1]; simp)]
    · unfold xCj
      rw [if_neg (by rw [b1]; simp)]
    · rw [W (nI u), (h1 u hu).1, (h1 u hu).2]
      have d1 : ((decide (O p = 14) || decide (O p = 16)) && (decide (A p = nI u) && decide (j = 1))) = false := by
        by_cases q : j = 1
        · have q14 : ¬ O p = 14 := fun e => c ⟨q, Or.inl e⟩
          have q16 : ¬ O p = 16 := fun e => c ⟨q, Or.inr e⟩
          simp [q14, q16]
        · simp [q]
      have d2 : (decide (O p = 16) && (decide (A p = nI u) && decide (j = 1))) = false := by
        by_cases q : j = 1
        · have q16 : ¬ O p = 16 := fun e => c ⟨q, Or.inr e⟩
          simp [q16]
        · simp [q]
      rw [d1, d2]
      exact ⟨by simp, by simp⟩
theorem yEk_iff {O : Nat → Nat} {A : Nat → Int32} {n m : Nat} {f : Int32} (hn : n ≤ 40) (hT : xTok O A n) (hm : m ≤ 3) (hl : ∀ p, p < n → O p = 17 → A p < f) : ∀ k p κ γ τ, κ < 128 → γ < 128 → τ ≤ 2 → xVF O n k p → xNx O k p ≤ n → yIn O A n m p κ γ τ → (xEk O A n k p (nI κ) (nI γ) (nI τ) = some (xNx O k p) ↔ ∀ q, p ≤ q → q < xNx O k p → xStk O A n f (nI m) q = true) := by
  intro k
  induction k with
  | zero => intro p κ γ τ _ _ _ h; exact absurd h id
  | succ k ih =>
    intro p κ γ τ hκ hγ hτ hv he hin
    have hp := hv.1
    have hmay := yMay hT hp hm hκ hγ hτ (hl p hp) hin
    have hlt := xNx_gt O (k + 1) p
    have mono : ∀ i j, i ≤ j → xIt (xNx O k) i (p + 1) ≤ xIt (xNx O k) j (p + 1) := fun i j h => xIt_mono (fun p => xNx_gt O k p) (p + 1) h
    have hend : xNx O (k + 1) p = xIt (xNx O k) (xPa (O p)) (p + 1) := rfl
    by_cases hst : xStk O A n f (nI m) p = true
    · rw [hst] at hmay
      have h2 : O p = 16 → τ < 2 := by
        intro e
        rw [e] at hmay
        have h : (!xBit (nI γ) (A p) && decide (nI τ < 2)) = true := hmay
        have kτ : ∀ τ, τ ≤ 2 → (decide (nI τ < 2) = decide (τ < 2)) := by decide +kernel
        rw [kτ τ hτ] at h
        simp at h
        exact h.2
      have hτ' : (if O p = 16 then τ + 1 else τ) ≤ 2 := by
        by_cases e : O p = 16
        · rw [if_pos e]; have := h2 e; omega
        · rw [if_neg e]; exact hτ
      have hTj : xTj (O p) (nI τ) = nI (if O p = 16 then τ + 1 else τ) := by
        unfold xTj
        by_cases e : O p = 16
        · rw [if_pos e, if_pos (decide_eq_true e)]; exact (nI_succ τ).symm
        · rw [if_neg e, if_neg (by rw [decide_eq_false e]; simp)]
      have part : ∀ j, j < xPa (O p) → (xEk O A n k (xIt (xNx O k) j (p + 1)) (xKj (O p) (A p) (nI κ) j) (xCj (O p) (A p) (nI γ) j) (xTj (O p) (nI τ)) = some (xIt (xNx O k) (j + 1) (p + 1)) ↔ ∀ q, xIt (xNx O k) j (p + 1) ≤ q → q < xIt (xNx O k) (j + 1) (p + 1) → xStk O A n f (nI m) q = true) := by
        intro j hj
        have h1 : xIt (xNx O k) (j + 1) (p + 1) ≤ n := Nat.le_trans (mono _ _ hj) he
        have h3 : xIt (xNx O k) j (p + 1) < xIt (xNx O k) (j + 1) (p + 1) := xNx_gt O k _
        obtain ⟨κ', γ', a1, a2, a3, a4, a5⟩ := yIn_c hn hT hκ hγ hv hj (by omega) hin
        rw [a3, a4, hTj]
        exact ih _ κ' γ' _ a1 a2 hτ' (hv.2 j hj) h1 a5
      constructor
      · intro h q hq1 hq2
        obtain ⟨-, -, -, -, h5⟩ := xEk_parts h
        have all : ∀ j, j ≤ xPa (O p) → ∀ q, p ≤ q → q < xIt (xNx O k) j (p + 1) → xStk O A n f (nI m) q = true := by
          intro j
          induction j with
          | zero =>
            intro _ q h1 h2
            have h2 : q < p + 1 := h2
            obtain rfl : q = p := by omega
            exact hst
          | succ j ij =>
            intro hj q h1 h2
            by_cases c : q < xIt (xNx O k) j (p + 1)
            · exact ij (by omega) q h1 c
            · exact (part j (by omega)).mp (h5 j (by omega)) q (by omega) h2
        exact all _ (Nat.le_refl _) q hq1 hq2
      · intro h
        unfold xEk
        rw [if_pos ⟨hp, hmay⟩]
        have := yEf_of (O := O) (A := A) (n := n) (k := k) (p := p) (o := O p) (a := A p) (K := nI κ) (C := nI γ) (t := nI τ) (xPa (O p)) 0 (fun j _ hj => by
          rw [Nat.zero_add] at hj
          refine (part j hj).mpr (fun q h1 h2 => h q ?_ ?_)
          · have := mono 0 j (Nat.zero_le _)
            have : p + 1 ≤ xIt (xNx O k) j (p + 1) := this
            omega
          · have := mono (j + 1) _ hj
            omega)
        rw [Nat.zero_add] at this
        exact this
    · constructor
      · intro h
        obtain ⟨-, h2, -⟩ := xEk_parts h
        rw [hmay] at h2
        exact absurd h2 hst
      · intro h
        exact absurd (h p (Nat.le_refl _) hlt) hst
theorem yLow_of {f g : Nat → Int32} {b : Int32} : ∀ n, (∀ i, i < n → f i = 17 → g i < b) → xLow f g b n = true := by
  intro n
  induction n with
  | zero => intro _; rfl
  | succ n ih =>
    intro h
    unfold xLow
    rw [ih (fun i hi => h i (by omega))]
    by_cases c : f n = 17
    · rw [decide_eq_true c, decide_eq_true (h n (by omega) c)]; rfl
    · rw [decide_eq_false c]; rfl
/-- define: the model takes the draft if and only if the class does -/
theorem yDf_iff {O : Nat → Nat} {A : Nat → Int32} {n m : Nat} {f : Int32} (hn : n ≤ 40) (hT : xTok O A n) (hm : m ≤ 3) : xDf O A n f (nI m) ↔ xOne O A n f (nI m) = true := by
  have hK : ∀ m, m ≤ 3 → ((1 : Int32) <<< (nI m &&& 31)) - 1 = nI (2 ^ m - 1) ∧ 2 ^ m - 1 < 128 ∧ ∀ v, v < 7 → (2 ^ m - 1).testBit v = decide (v < m) := by decide +kernel
  obtain ⟨k1, k2, k3⟩ := hK m hm
  have hin : 0 < n → yIn O A n m 0 (2 ^ m - 1) 0 0 := by
    intro h0
    have W : ∀ a, yW O A (xRl O n).2.2.2.1 (xRl O n).2.2.2.2 0 a = (false, false, 0) := yW_0 (yRl_keep n h0).1
    refine ⟨fun v hv => ?_, fun a => by rw [W a]⟩
    rw [W, k3 v hv]
    simp
  have e17 : ∀ i, i < n → ((nI (O i) = 17) ↔ O i = 17) := fun i hi => nI_eq (b := 17) (by have := (hT i hi).1; omega) (by decide)
  unfold xDf xOne
  rw [k1, Bool.and_eq_true, Bool.and_eq_true, decide_eq_true_eq, decide_eq_true_eq]
  constructor
  · rintro ⟨h1, h2, h3⟩
    obtain ⟨a1, a2⟩ := (yRok_iff (by omega)).mp h1
    have hl : ∀ p, p < n → O p = 17 → A p < f := by
      intro p hp e
      have := h2 p hp
      unfold xStk xStd at this
      rw [e] at this
      simp at this
      exact this.1
    refine ⟨⟨yLow_of n (fun i hi e => hl i hi ((e17 i hi).mp e)), h3⟩, ?_⟩
    have q := (yEk_iff (f := f) hn hT hm hl 41 0 (2 ^ m - 1) 0 0 k2 (by omega) (by omega) a1 (by omega) (hin h1.1)).mpr (fun q _ hq => h2 q (by omega))
    rw [a2] at q
    exact q
  · rintro ⟨⟨h1, h3⟩, h2⟩
    have a1 := xEk_vf _ _ _ _ _ _ h2
    have a2 := (xEk_nx _ _ _ _ _ _ h2).1
    have hl : ∀ p, p < n → O p = 17 → A p < f := fun p hp e => xLow_at n h1 p hp ((e17 p hp).mpr e)
    refine ⟨(yRok_iff (by omega)).mpr ⟨a1, a2.symm⟩, fun k hk => ?_, h3⟩
    refine (yEk_iff (f := f) hn hT hm hl 41 0 (2 ^ m - 1) 0 0 k2 (by omega) (by omega) a1 (by omega) (hin a1.1)).mp ?_ k (by omega) (by omega)
    rw [← a2]
    exact h2

