/-! interpret: the form's answer is the run's answer -/
def yE4 (e : Nat) : Nat := if e = 12 then 14 else e
def yR4 (r : xRs) : xRs := match r with
  | .inl v => .inl v
  | .inr e => .inr (yE4 e)
def yX4 (r : xEr) : xEr := match r with
  | .inl q => .inl q
  | .inr e => .inr (yE4 e)
theorem yX4_bd {r : xEr} {k k' : Int32 → xV → xEr} (h : ∀ x W, k' x W = yX4 (k x W)) : xBd (yX4 r) k' = yX4 (xBd r k) := by
  cases r with
  | inl q => exact h _ _
  | inr e => rfl
theorem yX4_ca {r : xRs} {V : xV} : xCa (yR4 r) V = yX4 (xCa r V) := by cases r <;> rfl
theorem yX4_fv {r : xEr} : xFv (yX4 r) = yR4 (xFv r) := by cases r <;> rfl
theorem yX4_lp {E E' : xV → xEr} {a : Nat} (h : ∀ V, E' V = yX4 (E V)) : ∀ r V, xLpv E' a r V = yX4 (xLpv E a r V) := by
  intro r
  induction r with
  | zero => intro V; rfl
  | succ r ih =>
    intro V
    unfold xLpv
    by_cases c : V a = 0
    · rw [if_pos c, if_pos c]; rfl
    · rw [if_neg c, if_neg c, h V]
      exact yX4_bd (fun x W => ih _)
/-- what a form gives, if all answers below are told otherwise -/
theorem yEv_o {ans ans' : Nat → Int32 → Int32 → Int32 → xRs} {E E' : Nat → xV → xEr} {s : Nat → Nat} {o : Nat} {a : Int32} (ho : o < 18) (ha : o = 17 → ∀ x y z, ans' a.toNatClampNeg x y z = yR4 (ans a.toNatClampNeg x y z)) (h : ∀ j, j < xPa o → ∀ V, E' (s j) V = yX4 (E (s j) V)) (V : xV) : xEvo ans' E' s o a V = yX4 (xEvo ans E s o a V) := by
  obtain ⟨p13, p17, p14, p16, p12, p15, p0, p1, -⟩ := yPa_3
  unfold xEvo
  by_cases q0 : o = 0
  · rw [if_pos q0, if_pos q0]; rfl
  rw [if_neg q0, if_neg q0]
  by_cases q1 : o = 1
  · rw [if_pos q1, if_pos q1]; rfl
  rw [if_neg q1, if_neg q1]
  by_cases q12 : o = 12
  · rw [if_pos q12, if_pos q12]
    rw [q12, p12] at h
    rw [h 0 (by omega)]
    exact yX4_bd (fun x W => rfl)
  rw [if_neg q12, if_neg q12]
  by_cases q13 : o = 13
  · rw [if_pos q13, if_pos q13]
    rw [q13, p13] at h
    rw [h 0 (by omega)]
    exact yX4_bd (fun x W => h _ (by split <;> omega) W)
  rw [if_neg q13, if_neg q13]
  by_cases q14 : o = 14
  · rw [if_pos q14, if_pos q14]
    rw [q14, p14] at h
    rw [h 0 (by omega)]
    exact yX4_bd (fun x W => h 1 (by omega) _)
  rw [if_neg q14, if_neg q14]
  by_cases q15 : o = 15
  · rw [if_pos q15, if_pos q15]
    rw [q15, p15] at h
    rw [h 0 (by omega)]
    exact yX4_bd (fun x W => rfl)
  rw [if_neg q15, if_neg q15]
  by_cases q16 : o = 16
  · rw [if_pos q16, if_pos q16]
    rw [q16, p16] at h
    rw [h 0 (by omega)]
    exact yX4_bd (fun x W => yX4_lp (h 1 (by omega)) _ _)
  rw [if_neg q16, if_neg q16]
  by_cases q17 : o = 17
  · rw [if_pos q17, if_pos q17]
    rw [q17, p17] at h
    rw [h 0 (by omega)]
    refine yX4_bd (fun x W => ?_)
    rw [h 1 (by omega)]
    refine yX4_bd (fun y W => ?_)
    rw [h 2 (by omega)]
    refine yX4_bd (fun z W => ?_)
    rw [ha q17]
    exact yX4_ca
  rw [if_neg q17, if_neg q17]
  have hpa := yPa2 o ho ⟨q0, q1, q13, q15, q17, q12⟩
  rw [hpa.1] at h
  rw [h 0 (by omega)]
  refine yX4_bd (fun x W => ?_)
  rw [h 1 (by omega)]
  refine yX4_bd (fun y W => ?_)
  split <;> rfl
theorem yEv_4 {ans ans' : Nat → Int32 → Int32 → Int32 → xRs} {O : Nat → Nat} {A : Nat → Int32} {n f : Nat} (hT : xTok O A n) (hB : ∀ p, p < n → O p = 17 → ∀ v, v < 8 → A p = nI v → v < f) (h : ∀ a, a < f → ∀ x y z, ans' a x y z = yR4 (ans a x y z)) : ∀ k p, xVF O n k p → ∀ V, xEv ans' O A k p V = yX4 (xEv ans O A k p V) := by
  intro k
  induction k with
  | zero => intro p hv; exact absurd hv id
  | succ k ih =>
    intro p hv V
    refine yEv_o (hT p hv.1).1 (fun o17 x y z => ?_) (fun j hj V => ih _ (hv.2 j hj) V) V
    obtain ⟨v, hv8, e⟩ := (hT p hv.1).2.2.2.2 o17
    rw [e, nI_clamp (by omega)]
    exact h v (hB p hv.1 o17 v hv8 e) x y z
/-- a form's answers with other levels below -/
theorem yEv_c {ans ans' : Nat → Int32 → Int32 → Int32 → xRs} {O : Nat → Nat} {A : Nat → Int32} {n f : Nat} (hT : xTok O A n) (hB : ∀ p, p < n → O p = 17 → ∀ v, v < 8 → A p = nI v → v < f) (h : ∀ a, a < f → ans' a = ans a) : ∀ k p, xVF O n k p → ∀ V, xEv ans' O A k p V = xEv ans O A k p V := by
  intro k
  induction k with
  | zero => intro p hv; exact absurd hv id
  | succ k ih =>
    intro p hv V
    have hE : ∀ j, j < xPa (O p) → xEv ans' O A k (xIt (xNx O k) j (p + 1)) = xEv ans O A k (xIt (xNx O k) j (p + 1)) := fun j hj => funext (ih _ (hv.2 j hj))
    have ho := (hT p hv.1).1
    have ha : O p = 17 → ans' (A p).toNatClampNeg = ans (A p).toNatClampNeg := fun o17 => by
      obtain ⟨v, hv8, e⟩ := (hT p hv.1).2.2.2.2 o17
      rw [e, nI_clamp (by omega)]
      exact h v (hB p hv.1 o17 v hv8 e)
    show xEvo ans' (xEv ans' O A k) (fun j => xIt (xNx O k) j (p + 1)) (O p) (A p) V = xEvo ans (xEv ans O A k) (fun j => xIt (xNx O k) j (p + 1)) (O p) (A p) V
    generalize xEv ans' O A k = E' at hE
    generalize xEv ans O A k = E at hE
    generalize hs : (fun j => xIt (xNx O k) j (p + 1)) = s
    have hE : ∀ j, j < xPa (O p) → E' (s j) = E (s j) := by rw [← hs]; exact hE
    obtain ⟨p13, p17, p14, p16, p12, p15, p0, p1, -⟩ := yPa_3
    unfold xEvo
    by_cases q0 : O p = 0
    · rw [if_pos q0, if_pos q0]
    rw [if_neg q0, if_neg q0]
    by_cases q1 : O p = 1
    · rw [if_pos q1, if_pos q1]
    rw [if_neg q1, if_neg q1]
    by_cases q12 : O p = 12
    · rw [if_pos q12, if_pos q12, hE 0 (by rw [q12, p12]; omega)]
    rw [if_neg q12, if_neg q12]
    by_cases q13 : O p = 13
    · rw [if_pos q13, if_pos q13, hE 0 (by rw [q13, p13]; omega)]
      congr 1; funext x W
      rw [hE _ (by rw [q13, p13]; split <;> omega)]
    rw [if_neg q13, if_neg q13]
    by_cases q14 : O p = 14
    · rw [if_pos q14, if_pos q14, hE 0 (by rw [q14, p14]; omega), hE 1 (by rw [q14, p14]; omega)]
    rw [if_neg q14, if_neg q14]
    by_cases q15 : O p = 15
    · rw [if_pos q15, if_pos q15, hE 0 (by rw [q15, p15]; omega)]
    rw [if_neg q15, if_neg q15]
    by_cases q16 : O p = 16
    · rw [if_pos q16, if_pos q16, hE 0 (by rw [q16, p16]; omega), hE 1 (by rw [q16, p16]; omega)]
    rw [if_neg q16, if_neg q16]
    by_cases q17 : O p = 17
    · rw [if_pos q17, if_pos q17, hE 0 (by rw [q17, p17]; omega), hE 1 (by rw [q17, p17]; omega), hE 2 (by rw [q17, p17]; omega), ha q17]
    rw [if_neg q17, if_neg q17]
    have hpa := yPa2 (O p) ho ⟨q0, q1, q13, q15, q17, q12⟩
    rw [hE 0 (by rw [hpa.1]; omega), hE 1 (by rw [hpa.1]; omega)]
def yFs (L nP : Nat → Nat) (O : Nat → Nat → Nat) (A : Nat → Nat → Int32) : Prop := ∀ f, f < 8 → xTok (O f) (A f) (L f) ∧ nP f ≤ 3 ∧ L f ≤ 40 ∧ (0 < L f → xOne (O f) (A f) (L f) (nI f) (nI (nP f)) = true)
theorem yLow_f {O : Nat → Nat} {A : Nat → Int32} {n f : Nat} (hf : f < 8) (hl : ∀ p, p < n → O p = 17 → A p < nI f) : ∀ p, p < n → O p = 17 → ∀ v, v < 8 → A p = nI v → v < f := by
  intro p hp e v hv ev
  have := hl p hp e
  rw [ev] at this
  exact (nI_ltI (by omega) (by omega)).mp this
theorem yIa_eq {L nP : Nat → Nat} {O : Nat → Nat → Nat} {A : Nat → Nat → Int32} (h : yFs L nP O A) : ∀ f, f < 8 → ∀ m m', f < m → f < m' → xIa L nP O A m f = xIa L nP O A m' f := by
  intro f
  induction f using Nat.strongRecOn with
  | _ f ih =>
    intro hf m m' hm hm'
    obtain ⟨m, rfl⟩ : ∃ q, m = q + 1 := ⟨m - 1, by omega⟩
    obtain ⟨m', rfl⟩ : ∃ q, m' = q + 1 := ⟨m' - 1, by omega⟩
    funext x y z
    unfold xIa
    by_cases c : 0 < L f
    · rw [if_pos c, if_pos c]
      obtain ⟨h1, h2, h3, h4⟩ := h f hf
      obtain ⟨-, hv, -, -, -, hl⟩ := yOne_sz h3 h1 h2 (h4 c)
      rw [yEv_c h1 (yLow_f hf hl) (fun a ha => ih a ha (by omega) m m' (by omega) (by omega)) 41 0 hv]
    · rw [if_neg c, if_neg c]
/-- interpret: what each function answers, and that its run ends -/
theorem yInt {L nP : Nat → Nat} {O : Nat → Nat → Nat} {A : Nat → Nat → Int32} {U : Nat → yU} (h : yFs L nP O A) (hW : ∀ f, f < 8 → 0 < L f → yWh (fun i o => (U f).1 i = o) (U f) (O f) (A f) 41 (nP f)) : xAnsT (fun f x y z => yR4 (xIa L nP O A 8 f x y z)) (fun f => if 0 < L f then yNu (O f) (nP f) else 0) nP (fun f => (U f).1) (fun f => (U f).2.1) (fun f => (U f).2.2.1) := by
  intro g hg hLg x y z
  have hL : 0 < L g := by
    by_cases c : 0 < L g
    · exact c
    · have hLg : 0 < (if 0 < L g then yNu (O g) (nP g) else 0) := hLg
      rw [if_neg c] at hLg; omega
  obtain ⟨h1, h2, h3, h4⟩ := h g hg
  obtain ⟨⟨κ, hκ, hE⟩, hv, -, hz, -, hl⟩ := yOne_sz h3 h1 h2 (h4 hL)
  have hlow := yLow_f hg hl
  have key := yWh_right (ans := fun f x y z => yR4 (xIa L nP O A 8 f x y z)) (L := fun f => if 0 < L f then yNu (O f) (nP f) else 0) (f := g) (U := U g) (V := xArg (nI (nP g)) x y z) h1 hlow (fun a x y z ha h0 => ?_) hκ hE h2 hz (hW g hg hL) (fun i hi hi7 => by rw [yArg3 h2, if_pos ⟨hi, hi7⟩]) (fun _ => 0)
  · obtain ⟨k, hk⟩ := key
    refine ⟨k, ?_⟩
    have e : (fun f x y z => yR4 (xIa L nP O A 8 f x y z)) g x y z = xFv (xEv (fun f x y z => yR4 (xIa L nP O A 8 f x y z)) (O g) (A g) 41 0 (xArg (nI (nP g)) x y z)) := by
      show yR4 (xIa L nP O A 8 g x y z) = _
      rw [yEv_4 (ans := fun f x y z => xIa L nP O A 8 f x y z) h1 hlow (fun a ha x y z => rfl) 41 0 hv, yX4_fv]
      congr 1
      show (if 0 < L g then xFv (xEv (xIa L nP O A 7) (O g) (A g) 41 0 (xArg (nI (nP g)) x y z)) else .inr 12) = _
      rw [if_pos hL, yEv_c (ans := fun f x y z => xIa L nP O A 8 f x y z) h1 hlow (fun a ha => yIa_eq h a (by omega) 7 8 (by omega) (by omega)) 41 0 hv]
    rw [e]
    exact hk
  · have hLa : ¬ 0 < L a := by
      intro c
      rw [if_pos c] at h0
      unfold yNu at h0
      omega
    show yR4 (if 0 < L a then _ else .inr 12) = _
    rw [if_neg hLa]
    rfl

