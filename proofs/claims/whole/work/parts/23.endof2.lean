/-! the end of a form: pure -/
def xPa (o : Nat) : Nat := ([0, 0, 2, 2, 2, 2, 2, 2, 2, 2, 2, 2, 1, 3, 2, 1, 2, 3] : List Nat).getD o 0
theorem xPa_sf : ∀ o, o < 18 → xv_sf 0 o = nI (xPa o) := by decide +kernel
theorem xPa_le : ∀ o, o < 18 → xPa o ≤ 3 := by decide +kernel
def xEf (step : Nat → Option Nat → Option Nat) : Nat → Nat → Option Nat → Option Nat
  | 0, _, q => q
  | m + 1, j, q => xEf step m (j + 1) (step j q)
def xKj (o : Nat) (a K : Int32) (j : Nat) : Int32 := if (decide (j = 1) && (decide (o = 16) || decide (o = 14))) = true then K ||| (1 <<< (a &&& 31)) else K
def xCj (o : Nat) (a C : Int32) (j : Nat) : Int32 := if ((decide (j = 1) && (decide (o = 16) || decide (o = 14))) && decide (o = 16)) = true then C ||| (1 <<< (a &&& 31)) else C
def xTj (o : Nat) (t : Int32) : Int32 := if decide (o = 16) = true then t + 1 else t
def xEs (rec : Nat → Int32 → Int32 → Int32 → Option Nat) (o : Nat) (a K C t : Int32) (j : Nat) (q : Option Nat) : Option Nat := match q with
  | none => none
  | some q => rec q (xKj o a K j) (xCj o a C j) (xTj o t)
def xEk (O : Nat → Nat) (A : Nat → Int32) (n : Nat) : Nat → Nat → Int32 → Int32 → Int32 → Option Nat
  | 0, _, _, _, _ => none
  | k + 1, p, K, C, t => if p < n ∧ xMay (O p) (A p) K C t = true then xEf (xEs (xEk O A n k) (O p) (A p) K C t) (xPa (O p)) 0 (some (p + 1)) else none
def xRes (q : Option Nat) : Int32 := match q with
  | none => -1
  | some e => nI e
def xIt (f : Nat → Nat) : Nat → Nat → Nat
  | 0, p => p
  | m + 1, p => f (xIt f m p)
def xNx (O : Nat → Nat) : Nat → Nat → Nat
  | 0, p => p + 1
  | k + 1, p => xIt (xNx O k) (xPa (O p)) (p + 1)
def xSt (O : Nat → Nat) (f : Nat → Int32) : Nat → Nat → Prop
  | 0, _ => True
  | k + 1, p => ∀ j, j < xPa (O p) → f (p * 3 + j) = nI (xIt (xNx O k) j (p + 1)) ∧ xSt O f k (xIt (xNx O k) j (p + 1))
theorem xNx_gt (O : Nat → Nat) : ∀ (k p : Nat), p < xNx O k p := by
  intro k
  induction k with
  | zero => intro p; exact Nat.lt_succ_self p
  | succ k ih =>
    intro p
    have : ∀ m, p < xIt (xNx O k) m (p + 1) := by
      intro m
      induction m with
      | zero => exact Nat.lt_succ_self p
      | succ m im => exact Nat.lt_trans im (ih _)
    exact this _
theorem xIt_mono {f : Nat → Nat} (hf : ∀ p, p < f p) (p : Nat) {i j : Nat} (h : i ≤ j) : xIt f i p ≤ xIt f j p := by
  induction h with
  | refl => exact Nat.le_refl _
  | step _ ih => exact Nat.le_trans ih (Nat.le_of_lt (hf _))
theorem xSt_congr {O : Nat → Nat} {f g : Nat → Int32} (hO : ∀ p, xPa (O p) ≤ 3) : ∀ (k p : Nat), (∀ i, p * 3 ≤ i → i < xNx O k p * 3 → g i = f i) → xSt O f k p → xSt O g k p := by
  intro k
  induction k with
  | zero => intro p _ _; trivial
  | succ k ih =>
    intro p hg hf j hj
    obtain ⟨h1, h2⟩ := hf j hj
    have hm : xIt (xNx O k) (j + 1) (p + 1) ≤ xNx O (k + 1) p := xIt_mono (xNx_gt O k) _ hj
    have hp : p + 1 ≤ xNx O (k + 1) p := xNx_gt O (k + 1) p
    have h0 : p + 1 ≤ xIt (xNx O k) j (p + 1) := xIt_mono (xNx_gt O k) _ (Nat.zero_le j)
    refine ⟨?_, ih _ (fun i hi0 hi => hg i (by omega) ?_) h2⟩
    · rw [hg _ (by omega) (by have := hO p; omega)]
      exact h1
    · have hm : xNx O k (xIt (xNx O k) j (p + 1)) ≤ xNx O (k + 1) p := hm
      omega
theorem xPa_3 (o : Nat) : xPa o ≤ 3 := by
  by_cases h : o < 18
  · exact xPa_le o h
  · unfold xPa
    rw [List.getD_eq_getElem?_getD, List.getElem?_eq_none (by simpa using h)]
    decide
/-- where it goes, it ends where the pure end is, within the row -/
theorem xEk_nx {O : Nat → Nat} {A : Nat → Int32} {n : Nat} : ∀ (k p : Nat) (K C t : Int32) (e : Nat), xEk O A n k p K C t = some e → e = xNx O k p ∧ e ≤ n := by
  intro k
  induction k with
  | zero => intro p K C t e h; cases h
  | succ k ih =>
    intro p K C t e h
    unfold xEk at h
    split at h
    · rename_i hc
      have key : ∀ (m j q : Nat), q ≤ n → q = xIt (xNx O k) j (p + 1) → ∀ e, xEf (xEs (xEk O A n k) (O p) (A p) K C t) m j (some q) = some e → e = xIt (xNx O k) (j + m) (p + 1) ∧ e ≤ n := by
        intro m
        induction m with
        | zero => intro j q hq hj e he; cases he; exact ⟨hj, hq⟩
        | succ m im =>
          intro j q hq hj e he
          unfold xEf at he
          cases hs : xEs (xEk O A n k) (O p) (A p) K C t j (some q) with
          | none =>
            rw [hs] at he
            exfalso
            have : ∀ m j, xEf (xEs (xEk O A n k) (O p) (A p) K C t) m j none = none := by
              intro m
              induction m with
              | zero => intro j; rfl
              | succ m im => intro j; exact im (j + 1)
            rw [this] at he
            cases he
          | some q2 =>
            rw [hs] at he
            obtain ⟨h1, h2⟩ := ih _ _ _ _ _ hs
            have := im (j + 1) q2 h2 (by rw [h1, hj]; rfl) e he
            rw [show j + 1 + m = j + (m + 1) by omega] at this
            exact this
      have := key (xPa (O p)) 0 (p + 1) hc.1 rfl e h
      rw [Nat.zero_add] at this
      exact this
    · cases h
theorem xEf_none {O : Nat → Nat} {A : Nat → Int32} {n k o : Nat} {a K C t : Int32} : ∀ m j, xEf (xEs (xEk O A n k) o a K C t) m j none = none := by
  intro m
  induction m with
  | zero => intro j; rfl
  | succ m im => intro j; exact im (j + 1)
/-! memories that differ in one row -/
theorem xv_sw_sw {u : xv_M} {s : Nat} {f g : Nat → Int32} : xv_sw (xv_sw u s f) s g = xv_sw u s g := by
  unfold xv_sw
  congr 1
  funext b q
  by_cases h : b = s
  · simp [h, xv_i, xv_mk]
  · simp [h, xv_i, xv_mk]
theorem xv_sw_si {u : xv_M} {s i : Nat} {f : Nat → Int32} {v : Int32} : xv_si (xv_sw u s f) s i v = xv_sw u s (upd f i v) := by
  unfold xv_sw xv_si
  congr 1
  funext b q
  by_cases h : b = s
  · subst h
    by_cases hq : q = i
    · simp [hq, upd]
    · simp [hq, xv_i, xv_mk, upd]
  · simp [h, xv_i, xv_mk]
theorem xv_sw_id {u : xv_M} {s : Nat} : xv_sw u s (xv_i u s) = u := by
  unfold xv_sw
  show ((_, _), _) = u
  obtain ⟨⟨a, b⟩, c, d, e, f, g⟩ := u
  congr 1
  congr 1
  congr 1
  congr 1
  funext b q
  by_cases h : b = s
  · simp [h, xv_i]
  · simp [h, xv_i]

