/-! what a form gives: pure -/
abbrev xV : Type := Nat → Int32
abbrev xEr : Type := (Int32 × xV) ⊕ Nat
def xBd (r : xEr) (k : Int32 → xV → xEr) : xEr := match r with
  | .inl q => k q.1 q.2
  | .inr e => .inr e
def xK (r : xEr) (c : Int32 → xV → Prop) (g : Nat → Prop) : Prop := match r with
  | .inl q => c q.1 q.2
  | .inr e => g e
theorem xK_bd {r : xEr} {k : Int32 → xV → xEr} {c : Int32 → xV → Prop} {g : Nat → Prop} (h : xK (xBd r k) c g) : xK r (fun x W => xK (k x W) c g) g := by
  cases r with
  | inl q => exact h
  | inr e => exact h
theorem xK_bd' {r : xEr} {k : Int32 → xV → xEr} {c : Int32 → xV → Prop} {g : Nat → Prop} (h : xK r (fun x W => xK (k x W) c g) g) : xK (xBd r k) c g := by
  cases r with
  | inl q => exact h
  | inr e => exact h
theorem xK_mono {r : xEr} {c c' : Int32 → xV → Prop} {g : Nat → Prop} (h : xK r c g) (hc : ∀ v W, c v W → c' v W) : xK r c' g := by
  cases r with
  | inl q => exact hc _ _ h
  | inr e => exact h
theorem xK_and {r : xEr} {c c' : Int32 → xV → Prop} {g : Nat → Prop} (h : xK r c g) (h' : xK r c' (fun _ => True)) : xK r (fun v W => c v W ∧ c' v W) g := by
  cases r with
  | inl q => exact ⟨h, h'⟩
  | inr e => exact h
def xLpv (E : xV → xEr) (a : Nat) : Nat → xV → xEr
  | 0, V => .inl (0, V)
  | r + 1, V => if V a = 0 then .inl (0, V) else xBd (E V) (fun _ W => xLpv E a r (upd W a (W a - 1)))
def xCa (r : xRs) (V : xV) : xEr := match r with
  | .inl v => .inl (v, V)
  | .inr e => .inr e
def xEvo (ans : Nat → Int32 → Int32 → Int32 → xRs) (E : Nat → xV → xEr) (s : Nat → Nat) (o : Nat) (a : Int32) (V : xV) : xEr :=
  if o = 0 then .inl (a, V) else if o = 1 then .inl (V a.toNatClampNeg, V)
  else if o = 12 then xBd (E (s 0) V) (fun x W => .inl (-x, W))
  else if o = 13 then xBd (E (s 0) V) (fun x W => E (s (if xSo a x = true then 1 else 2)) W)
  else if o = 14 then xBd (E (s 0) V) (fun x W => E (s 1) (upd W a.toNatClampNeg x))
  else if o = 15 then xBd (E (s 0) V) (fun x W => .inl (x, upd W a.toNatClampNeg x))
  else if o = 16 then xBd (E (s 0) V) (fun x W => xLpv (E (s 1)) a.toNatClampNeg 8 (upd W a.toNatClampNeg (x &&& 7)))
  else if o = 17 then xBd (E (s 0) V) (fun x W => xBd (E (s 1) W) (fun y W => xBd (E (s 2) W) (fun z W => xCa (ans a.toNatClampNeg x y z) W)))
  else xBd (E (s 0) V) (fun x W => xBd (E (s 1) W) (fun y W => if (o = 5 ∨ o = 6) ∧ y = 0 then .inr 13 else .inl (xOp o x y, W)))
def xEv (ans : Nat → Int32 → Int32 → Int32 → xRs) (O : Nat → Nat) (A : Nat → Int32) : Nat → Nat → xV → xEr
  | 0, _, V => .inl (0, V)
  | k + 1, p, V => xEvo ans (xEv ans O A k) (fun j => xIt (xNx O k) j (p + 1)) (O p) (A p) V
def xFv (r : xEr) : xRs := match r with
  | .inl q => .inl q.1
  | .inr e => .inr e
def xIa (L nP : Nat → Nat) (O : Nat → Nat → Nat) (A : Nat → Nat → Int32) : Nat → Nat → Int32 → Int32 → Int32 → xRs
  | 0, _, _, _, _ => .inl 0
  | m + 1, f, x, y, z => if 0 < L f then xFv (xEv (xIa L nP O A m) (O f) (A f) 41 0 (xArg (nI (nP f)) x y z)) else .inr 12
/-- the tokens are such as the class takes -/
def xTok (O : Nat → Nat) (A : Nat → Int32) (n : Nat) : Prop := ∀ p, p < n → O p < 18 ∧ (O p = 1 ∨ O p = 15 → ∃ v, v < 7 ∧ A p = nI v) ∧ (O p = 14 ∨ O p = 16 → ∃ v, 3 ≤ v ∧ v < 7 ∧ A p = nI v) ∧ (O p = 13 → ∃ v, v < 6 ∧ A p = nI v) ∧ (O p = 17 → ∃ v, v < 8 ∧ A p = nI v)
theorem xMk_or : ∀ c, c < 128 → ∀ a, a < 7 → nI c ||| ((1 : Int32) <<< (nI a &&& 31)) = nI (c ||| 2 ^ a) ∧ c ||| 2 ^ a < 128 := by decide +kernel
theorem xMk_bit : ∀ c, c < 128 → ∀ a, a < 7 → xBit (nI c) (nI a) = c.testBit a := by decide +kernel
theorem xMk_tb {c a b : Nat} : (c ||| 2 ^ a).testBit b = (c.testBit b || decide (a = b)) := by
  rw [Nat.testBit_or, Nat.testBit_two_pow]
theorem xEk_parts {O : Nat → Nat} {A : Nat → Int32} {n k p e : Nat} {K C t : Int32} (h : xEk O A n (k + 1) p K C t = some e) : p < n ∧ xMay (O p) (A p) K C t = true ∧ e = xIt (xNx O k) (xPa (O p)) (p + 1) ∧ e ≤ n ∧ ∀ j, j < xPa (O p) → xEk O A n k (xIt (xNx O k) j (p + 1)) (xKj (O p) (A p) K j) (xCj (O p) (A p) C j) (xTj (O p) t) = some (xIt (xNx O k) (j + 1) (p + 1)) := by
  have h0 := xEk_nx _ _ _ _ _ _ h
  unfold xEk at h
  split at h
  · rename_i hc
    refine ⟨hc.1, hc.2, h0.1, h0.2, ?_⟩
    have key : ∀ (m j q : Nat), q = xIt (xNx O k) j (p + 1) → ∀ e, xEf (xEs (xEk O A n k) (O p) (A p) K C t) m j (some q) = some e → ∀ i, i < m → xEk O A n k (xIt (xNx O k) (j + i) (p + 1)) (xKj (O p) (A p) K (j + i)) (xCj (O p) (A p) C (j + i)) (xTj (O p) t) = some (xIt (xNx O k) (j + i + 1) (p + 1)) := by
      intro m
      induction m with
      | zero => intro j q hq e he i hi; omega
      | succ m im =>
        intro j q hq e he i hi
        unfold xEf at he
        cases hs : xEs (xEk O A n k) (O p) (A p) K C t j (some q) with
        | none =>
          rw [hs, xEf_none] at he
          cases he
        | some q2 =>
          rw [hs] at he
          have hs2 : xEk O A n k q (xKj (O p) (A p) K j) (xCj (O p) (A p) C j) (xTj (O p) t) = some q2 := hs
          obtain ⟨h1, h2⟩ := xEk_nx _ _ _ _ _ _ hs2
          by_cases e0 : i = 0
          · subst e0
            rw [Nat.add_zero, ← hq, hs2, h1, hq]
            rfl
          · have := im (j + 1) q2 (by rw [h1, hq]; rfl) e he (i - 1) (by omega)
            rw [show j + 1 + (i - 1) = j + i by omega] at this
            exact this
    intro j hj
    have := key (xPa (O p)) 0 (p + 1) rfl e h j hj
    rw [Nat.zero_add] at this
    exact this
  · cases h
theorem xEk_N {O : Nat → Nat} {A : Nat → Int32} {n k p e κ γ τ : Nat} (hT : xTok O A n) (hκ : κ < 128) (hγ : γ < 128) (hτ : τ ≤ 2) (h : xEk O A n (k + 1) p (nI κ) (nI γ) (nI τ) = some e) : p < n ∧ e = xIt (xNx O k) (xPa (O p)) (p + 1) ∧ e ≤ n ∧
    (∀ j, j < xPa (O p) → ∃ κ' γ', κ' < 128 ∧ γ' < 128 ∧ xEk O A n k (xIt (xNx O k) j (p + 1)) (nI κ') (nI γ') (nI (if O p = 16 then τ + 1 else τ)) = some (xIt (xNx O k) (j + 1) (p + 1)) ∧ (∀ b, γ.testBit b = true → γ'.testBit b = true) ∧ (O p = 16 → j = 1 → ∀ v, v < 7 → A p = nI v → γ'.testBit v = true)) ∧
    (O p = 14 ∨ O p = 15 ∨ O p = 16 → ∀ v, v < 7 → A p = nI v → γ.testBit v = false) ∧ (O p = 16 → τ < 2) := by
  obtain ⟨h1, h2, h3, h4, h5⟩ := xEk_parts h
  obtain ⟨t1, t2, t3, t4, t5⟩ := hT p h1
  refine ⟨h1, h3, h4, fun j hj => ?_, fun ho v hv ha => ?_, fun ho => ?_⟩
  · have h6 := h5 j hj
    have et : xTj (O p) (nI τ) = nI (if O p = 16 then τ + 1 else τ) := by
      unfold xTj
      by_cases e16 : O p = 16
      · rw [if_pos (decide_eq_true e16), if_pos e16, nI_succ]
      · rw [if_neg (by rw [decide_eq_false e16]; decide), if_neg e16]
    rw [et] at h6
    by_cases c1 : j = 1 ∧ (O p = 16 ∨ O p = 14)
    · obtain ⟨a, ha3, ha, eA⟩ := t3 (by omega)
      have ek : xKj (O p) (A p) (nI κ) j = nI (κ ||| 2 ^ a) := by
        unfold xKj
        rw [if_pos (by rw [decide_eq_true c1.1]; rcases c1.2 with c | c <;> rw [decide_eq_true c] <;> simp), eA]
        exact (xMk_or κ hκ a ha).1
      by_cases e16 : O p = 16
      · have ec : xCj (O p) (A p) (nI γ) j = nI (γ ||| 2 ^ a) := by
          unfold xCj
          rw [if_pos (by rw [decide_eq_true c1.1, decide_eq_true e16]; rfl), eA]
          exact (xMk_or γ hγ a ha).1
        rw [ek, ec] at h6
        refine ⟨_, _, (xMk_or κ hκ a ha).2, (xMk_or γ hγ a ha).2, h6, fun b hb => ?_, fun _ _ v hv ev => ?_⟩
        · rw [xMk_tb, hb]; rfl
        · have : a = v := (nI_eq (a := a) (b := v) (by omega) (by omega)).mp (eA.symm.trans ev)
          rw [xMk_tb, decide_eq_true this, Bool.or_true]
      · have ec : xCj (O p) (A p) (nI γ) j = nI γ := by
          unfold xCj
          rw [if_neg (by rw [decide_eq_false e16, Bool.and_false]; decide)]
        rw [ek, ec] at h6
        exact ⟨_, _, (xMk_or κ hκ a ha).2, hγ, h6, fun b hb => hb, fun q => absurd q e16⟩
    · have eb : (decide (j = 1) && (decide (O p = 16) || decide (O p = 14))) = false := by
        by_cases q1 : j = 1
        · rw [decide_eq_false (fun q => c1 ⟨q1, Or.inl q⟩), decide_eq_false (fun q => c1 ⟨q1, Or.inr q⟩), Bool.or_false, Bool.and_false]
        · rw [decide_eq_false q1, Bool.false_and]
      have ek : xKj (O p) (A p) (nI κ) j = nI κ := by
        unfold xKj
        rw [if_neg (by rw [eb]; decide)]
      have ec : xCj (O p) (A p) (nI γ) j = nI γ := by
        unfold xCj
        rw [if_neg (by rw [eb, Bool.false_and]; decide)]
      rw [ek, ec] at h6
      exact ⟨_, _, hκ, hγ, h6, fun b hb => hb, fun q1 q2 => absurd ⟨q2, Or.inl q1⟩ c1⟩
  · rw [← xMk_bit γ hγ v hv, ← ha]
    rcases ho with ho | ho | ho
    · rw [ho] at h2
      have h2 : (!xBit (nI γ) (A p)) = true := h2
      cases hb : xBit (nI γ) (A p) with
      | false => rfl
      | true => rw [hb] at h2; cases h2
    · rw [ho] at h2
      have h2 : (xBit (nI κ) (A p) && !xBit (nI γ) (A p)) = true := h2
      cases hb : xBit (nI γ) (A p) with
      | false => rfl
      | true => rw [hb, Bool.not_true, Bool.and_false] at h2; cases h2
    · rw [ho] at h2
      have h2 : (!xBit (nI γ) (A p) && decide (nI τ < 2)) = true := h2
      cases hb : xBit (nI γ) (A p) with
      | false => rfl
      | true => rw [hb, Bool.not_true, Bool.false_and] at h2; cases h2
  · rw [ho] at h2
    have h2 : (!xBit (nI γ) (A p) && decide (nI τ < 2)) = true := h2
    have h3 := (Bool.and_eq_true_iff.mp h2).2
    have h3 := of_decide_eq_true h3
    rcases (by omega : τ = 0 ∨ τ = 1 ∨ τ = 2) with q | q | q
    · omega
    · omega
    · subst q
      exact absurd h3 (by decide)
/-- the counters of the loops around it stay as they are -/
theorem xEv_ctr {ans : Nat → Int32 → Int32 → Int32 → xRs} {O : Nat → Nat} {A : Nat → Int32} {n : Nat} (hT : xTok O A n) : ∀ (k p κ γ τ e : Nat), κ < 128 → γ < 128 → τ ≤ 2 → xEk O A n k p (nI κ) (nI γ) (nI τ) = some e → ∀ V, xK (xEv ans O A k p V) (fun _ W => ∀ b, b < 7 → γ.testBit b = true → W b = V b) (fun _ => True) := by
  intro k
  induction k with
  | zero => intro p κ γ τ e _ _ _ h; cases h
  | succ k ih =>
    intro p κ γ τ e hκ hγ hτ h V
    obtain ⟨h1, h2, h3, h4, h5, h6⟩ := xEk_N hT hκ hγ hτ h
    obtain ⟨t1, t2, t3, t4, t5⟩ := hT p h1
    have part : ∀ j, j < xPa (O p) → ∀ V, xK (xEv ans O A k (xIt (xNx O k) j (p + 1)) V) (fun _ W => ∀ b, b < 7 → γ.testBit b = true → W b = V b) (fun _ => True) := by
      intro j hj V
      obtain ⟨κ', γ', q1, q2, q3, q4, q5⟩ := h4 j hj
      refine xK_mono (ih _ κ' γ' _ _ q1 q2 ?_ q3 V) (fun v W hc b hb hg => hc b hb (q4 b hg))
      by_cases e16 : O p = 16
      · rw [if_pos e16]; have := h6 e16; omega
      · rw [if_neg e16]; exact hτ
    show xK (xEvo ans (xEv ans O A k) (fun j => xIt (xNx O k) j (p + 1)) (O p) (A p) V) _ _
    have hup : ∀ (W : xV) (x : Int32) (v : Nat), v < 7 → A p = nI v → (O p = 14 ∨ O p = 15 ∨ O p = 16) → ∀ b, b < 7 → γ.testBit b = true → upd W v x b = W b := by
      intro W x v hv ha ho b hb hg
      refine pk_un (fun e => ?_)
      have := h5 ho v hv ha
      rw [← e, hg] at this
      cases this
    generalize hs : (fun j => xIt (xNx O k) j (p + 1)) = s at *
    have part : ∀ j, j < xPa (O p) → ∀ V, xK (xEv ans O A k (s j) V) (fun _ W => ∀ b, b < 7 → γ.testBit b = true → W b = V b) (fun _ => True) := by
      rw [← hs]; exact part
    clear h4 h2 h3 hs
    unfold xEvo
    by_cases e0 : O p = 0
    · rw [if_pos e0]; exact fun b _ _ => rfl
    rw [if_neg e0]
    by_cases e1 : O p = 1
    · rw [if_pos e1]; exact fun b _ _ => rfl
    rw [if_neg e1]
    by_cases e12 : O p = 12
    · rw [if_pos e12]
      exact xK_bd' (xK_mono (part 0 (by rw [e12]; decide) V) (fun x W hc => hc))
    rw [if_neg e12]
    by_cases e13 : O p = 13
    · rw [if_pos e13]
      refine xK_bd' (xK_mono (part 0 (by rw [e13]; decide) V) (fun x W hc => ?_))
      refine xK_mono (part _ (by rw [e13]; split <;> decide) W) (fun y W' hc' b hb hg => (hc' b hb hg).trans (hc b hb hg))
    rw [if_neg e13]
    by_cases e14 : O p = 14
    · rw [if_pos e14]
      obtain ⟨a, -, ha, eA⟩ := t3 (Or.inl e14)
      have hca : (A p).toNatClampNeg = a := by rw [eA]; exact nI_clamp (by omega)
      refine xK_bd' (xK_mono (part 0 (by rw [e14]; decide) V) (fun x W hc => ?_))
      rw [hca]
      refine xK_mono (part 1 (by rw [e14]; decide) _) (fun y W' hc' b hb hg => ?_)
      rw [hc' b hb hg, hup W x a ha eA (Or.inl e14) b hb hg]
      exact hc b hb hg
    rw [if_neg e14]
    by_cases e15 : O p = 15
    · rw [if_pos e15]
      obtain ⟨a, ha, eA⟩ := t2 (Or.inr e15)
      have hca : (A p).toNatClampNeg = a := by rw [eA]; exact nI_clamp (by omega)
      refine xK_bd' (xK_mono (part 0 (by rw [e15]; decide) V) (fun x W hc => ?_))
      rw [hca]
      intro b hb hg
      show upd W a x b = V b
      rw [hup W x a ha eA (Or.inr (Or.inl e15)) b hb hg]
      exact hc b hb hg
    rw [if_neg e15]
    by_cases e16 : O p = 16
    · rw [if_pos e16]
      obtain ⟨a, -, ha, eA⟩ := t3 (Or.inr e16)
      have hca : (A p).toNatClampNeg = a := by rw [eA]; exact nI_clamp (by omega)
      refine xK_bd' (xK_mono (part 0 (by rw [e16]; decide) V) (fun x W hc => ?_))
      rw [hca]
      have loop : ∀ r (W' : xV), (∀ b, b < 7 → γ.testBit b = true → W' b = V b) → xK (xLpv (xEv ans O A k (s 1)) a r W') (fun _ W => ∀ b, b < 7 → γ.testBit b = true → W b = V b) (fun _ => True) := by
        intro r
        induction r with
        | zero => intro W' hw; exact hw
        | succ r ir =>
          intro W' hw
          unfold xLpv
          split
          · exact hw
          · refine xK_bd' (xK_mono (part 1 (by rw [e16]; decide) W') (fun y W2 hc2 => ir _ (fun b hb hg => ?_)))
            rw [hup W2 _ a ha eA (Or.inr (Or.inr e16)) b hb hg, hc2 b hb hg]
            exact hw b hb hg
      exact loop 8 _ (fun b hb hg => by rw [hup W _ a ha eA (Or.inr (Or.inr e16)) b hb hg]; exact hc b hb hg)
    rw [if_neg e16]
    by_cases e17 : O p = 17
    · rw [if_pos e17]
      refine xK_bd' (xK_mono (part 0 (by rw [e17]; decide) V) (fun x W hc => ?_))
      refine xK_bd' (xK_mono (part 1 (by rw [e17]; decide) W) (fun y W2 hc2 => ?_))
      refine xK_bd' (xK_mono (part 2 (by rw [e17]; decide) W2) (fun z W3 hc3 => ?_))
      unfold xCa
      split
      · exact fun b hb hg => (hc3 b hb hg).trans ((hc2 b hb hg).trans (hc b hb hg))
      · trivial
    rw [if_neg e17]
    have hp2 : xPa (O p) = 2 := by
      have key : ∀ o, o < 18 → (¬ o = 0 ∧ ¬ o = 1 ∧ ¬ o = 12 ∧ ¬ o = 13 ∧ ¬ o = 15 ∧ ¬ o = 17) → xPa o = 2 := by decide +kernel
      exact key _ t1 ⟨e0, e1, e12, e13, e15, e17⟩
    refine xK_bd' (xK_mono (part 0 (by omega) V) (fun x W hc => ?_))
    refine xK_bd' (xK_mono (part 1 (by omega) W) (fun y W2 hc2 => ?_))
    split
    · trivial
    · exact fun b hb hg => (hc2 b hb hg).trans (hc b hb hg)

