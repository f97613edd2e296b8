/-! what ties both sides: the state, part by part -/
def yEp (N : Nat) (E : Nat → Nat) : Prop := (∀ e, e < 8 → ∃ j, j < 8 ∧ E e = N + 94 + 7 * j) ∧ ∀ e e', e < 8 → e' < 8 → E e = E e' → e = e'
def yCl (u : xv_M) (h N M : Nat) (E : Nat → Nat) : Prop := (xDk u h N (N + 4) (N + 88) (N + 89) (N + 150) ∧ xv_Fo u N (N + 1) (N + 2) (N + 3) ∧ xIn u (N + 4) (N + 5) (N + 6) (N + 7) (N + 8) ∧ xv_k u (N + 88) = 7) ∧ (xv_Ar u (N + 89) (N + 90) (N + 91) ∧ xv_Ck u (N + 91) (N + 92) (N + 93) ∧ ((∀ e, e < 8 → xv_r u (N + 90) e = some (E e)) ∧ ∀ j, j < 8 → xv_En u (N + 94 + 7 * j) (N + 94 + 7 * j + 1) (N + 94 + 7 * j + 2) (N + 94 + 7 * j + 3) (N + 94 + 7 * j + 4) (N + 94 + 7 * j + 5) (N + 94 + 7 * j + 6)) ∧ xIm u (N + 150) (N + 151) (N + 152) (N + 153)) ∧ xMo u M ∧ (xv_k u (M + 30) = 102 ∧ xv_l u (M + 30) = 1) ∧ yEp N E ∧ M + 31 ≤ xv_N u ∧ h < N ∧ N + 209 ≤ M
/-- a row of units in the model -/
def yRw (u : xv_M) (M r n : Nat) (U : yU) : Prop := xv_i u (M + 10) r = nI n ∧ ∀ i, i < n → xv_i u (M + 7) (280 * r + i) = nI (U.1 i) ∧ xv_i u (M + 8) (280 * r + i) = U.2.1 i ∧ xv_i u (M + 9) (280 * r + i) = U.2.2.1 i ∧ xv_i u (M + 13) (280 * r + i) = U.2.2.2 i
def yNu (O : Nat → Nat) (m : Nat) : Nat := 2 * (7 - m) + xSz O 41 0 + 1
def yMk01 (U : yU) (n : Nat) : Prop := ∀ i, i < n → U.2.2.2 i = 0 ∨ U.2.2.2 i = 1
/-- units that come of a form (forged or not) -/
def yPe (U : yU) (n m f : Nat) : Prop := ∃ (O : Nat → Nat) (A : Nat → Int32) (k : Nat), xTok O A k ∧ k ≤ 40 ∧ m ≤ 3 ∧ xOne O A k (nI f) (nI m) = true ∧ n = yNu O m ∧ yWh (fun i _ => yFo (U.1 i)) U O A 41 m ∧ yMk01 U n
/-- the draft -/
def yD (u : xv_M) (N M : Nat) : Prop := ∃ n O A, xTk u N (N + 1) (N + 2) n O A ∧ xDm u M n O A ∧ xTok O A n
/-- the forms -/
def yFf (f n m : Nat) (O : Nat → Nat) (A : Nat → Int32) (U : yU) : Prop := xOne O A n (nI f) (nI m) = true ∧ yWh (fun i o => U.1 i = o) U O A 41 m ∧ yMk01 U (yNu O m) ∧ ∃ σ : xQ, σ.1 = 0 ∧ (∀ i, i < 265 → σ.2.2.2.2.1 i = 0) ∧ ∀ i, i < yNu O m → yAg U (xTr O A 41 m σ) i
def yF (u : xv_M) (N M : Nat) : Prop := ∃ (L nP : Nat → Nat) (O : Nat → Nat → Nat) (A : Nat → Nat → Int32) (U : Nat → yU), xFc u (N + 8) L nP O A ∧ ∀ f, f < 8 → xTok (O f) (A f) (L f) ∧ nP f ≤ 3 ∧ xv_i u (M + 3) f = nI (L f) ∧ (0 < L f → yFf f (L f) (nP f) (O f) (A f) (U f) ∧ xv_i u (M + 4) f = nI (nP f) ∧ xv_i u (M + 11) f = nI (yMx (O f) 41 0 0) ∧ yRw u M f (yNu (O f) (nP f)) (U f))
/-- the archive -/
def yCe (u : xv_M) (x n : Nat) (U : yU) (v s : Nat → Int32) : Prop := xv_i u (x + 1) 3 = nI n ∧ (∀ i, i < n → xv_i u (x + 2) i = nI (U.1 i) ∧ xv_i u (x + 3) i = U.2.1 i ∧ xv_i u (x + 4) i = U.2.2.1 i ∧ xv_i u (x + 5) i = U.2.2.2 i ∧ xv_i u (x + 6) i = s i) ∧ xv_i u x 2 = v 2 ∧ xv_i u x 3 = v 3 ∧ xv_i u x 4 = v 4 ∧ xv_i u x 5 = v 5 ∧ xv_i u x 6 = v 6 ∧ xv_i u x 8 = v 8 ∧ xv_i u x 9 = v 9
def yMe (u : xv_M) (M e n : Nat) (U : yU) (v s : Nat → Int32) : Prop := yRw u M (8 + e) n U ∧ (∀ i, i < n → xv_i u (M + 21) (280 * e + i) = s i) ∧ xv_i u (M + 17) e = v 2 ∧ xv_i u (M + 18) e = v 3 ∧ xv_i u (M + 11) (8 + e) = v 4 ∧ xv_i u (M + 19) e = v 5 ∧ xv_i u (M + 15) e = v 6 ∧ xv_i u (M + 20) e = v 8 ∧ xv_i u (M + 16) e = v 9
def yPv (n : Nat) (U : yU) (v : Nat → Int32) : Prop := (∃ c, c < 8 ∧ v 2 = nI c) ∧ (∃ m f k, v 3 = nI m ∧ v 5 = nI f ∧ f < 8 ∧ v 4 = nI k ∧ k ≤ 42 ∧ yPe U n m f) ∧ (v 6 = 0 ∨ v 6 = 1) ∧ (v 9 = 0 ∨ v 9 = 1)
def yCw (u : xv_M) (x : Nat) : Prop := (xv_i u x 6 = 0 ∨ xv_i u x 6 = 1) ∧ ∃ l, l ≤ 265 ∧ xv_i u (x + 1) 3 = nI l ∧ ∀ i, i < l → ∃ o, o < 22 ∧ xv_i u (x + 2) i = nI o
abbrev yAd : Type := Nat × (Nat → Nat) × (Nat → yU) × (Nat → Nat → Int32) × (Nat → Nat → Int32)
def yAs (u : xv_M) (N M : Nat) (E : Nat → Nat) (a : yAd) : Prop := (xv_i u (N + 89) 1 = nI a.1 ∧ xv_i u M 31 = nI a.1 ∧ a.1 ≤ 8) ∧ (∀ e, e < 8 → yCw u (E e)) ∧ ∀ e, e < a.1 → yPv (a.2.1 e) (a.2.2.1 e) (a.2.2.2.1 e) ∧ yCe u (E e) (a.2.1 e) (a.2.2.1 e) (a.2.2.2.1 e) (a.2.2.2.2 e) ∧ yMe u M e (a.2.1 e) (a.2.2.1 e) (a.2.2.2.1 e) (a.2.2.2.2 e)
def yA' (u : xv_M) (N M : Nat) (E : Nat → Nat) : Prop := (xv_i u (N + 89) 2 = xv_i u M 29 ∧ xv_i u (N + 89) 3 = xv_i u M 30) ∧ ∃ a, yAs u N M E a
/-- the image -/
def yI (u : xv_M) (N M : Nat) : Prop := ∃ (L nP : Nat → Nat) (U : Nat → yU), ∀ f, f < 8 → xUn u (N + 153 + 7 * f) (L f) (U f).1 (U f).2.1 (U f).2.2.1 ∧ (L f = 0 → xv_i u (M + 14) f = 0) ∧ (0 < L f → xv_i u (M + 14) f = 1 ∧ xv_i u (M + 22) f = nI (nP f) ∧ yRw u M (16 + f) (L f) (U f) ∧ yPe (U f) (L f) (nP f) f ∧ ∃ g, g ≤ 42 ∧ xGdM (L f) (U f).1 (U f).2.1 (U f).2.2.1 g)
/-- what is counted -/
def yK (u : xv_M) (h M : Nat) : Prop := xv_i u h 5 = xv_i u M 32 ∧ xv_i u h 6 = xv_i u M 33 ∧ xv_i u h 7 = xv_i u M 34
def yTi (u : xv_M) (h N M : Nat) : Prop := ∃ E, yCl u h N M E ∧ yD u N M ∧ yF u N M ∧ yA' u N M E ∧ yI u N M ∧ yK u h M
/-! where each part lies -/
def zD (N M b q : Nat) : Prop := b = N ∨ b = N + 1 ∨ b = N + 2 ∨ ((b = M + 1 ∨ b = M + 2) ∧ 320 ≤ q) ∨ (b = M + 3 ∧ q = 8)
def zF (N M b q : Nat) : Prop := (∃ g, g < 8 ∧ N + 8 + 10 * g ≤ b ∧ b ≤ N + 8 + 10 * g + 3) ∨ ((b = M + 3 ∨ b = M + 4 ∨ b = M + 10 ∨ b = M + 11) ∧ q < 8) ∨ ((b = M + 7 ∨ b = M + 8 ∨ b = M + 9 ∨ b = M + 13) ∧ q < 2240)
def zA (N M b q : Nat) : Prop := (b = N + 89 ∧ 1 ≤ q ∧ q ≤ 3) ∨ (N + 94 ≤ b ∧ b < N + 150) ∨ (b = M ∧ 29 ≤ q ∧ q ≤ 31) ∨ (M + 15 ≤ b ∧ b ≤ M + 21) ∨ ((b = M + 10 ∨ b = M + 11) ∧ 8 ≤ q ∧ q < 16) ∨ ((b = M + 7 ∨ b = M + 8 ∨ b = M + 9 ∨ b = M + 13) ∧ 2240 ≤ q ∧ q < 4480)
def zI (N M b q : Nat) : Prop := (∃ g, g < 8 ∧ N + 153 + 7 * g ≤ b ∧ b ≤ N + 153 + 7 * g + 3) ∨ b = M + 14 ∨ b = M + 22 ∨ (b = M + 10 ∧ 16 ≤ q) ∨ ((b = M + 7 ∨ b = M + 8 ∨ b = M + 9 ∨ b = M + 13) ∧ 4480 ≤ q)
def zK (h M b q : Nat) : Prop := (b = h ∧ 5 ≤ q ∧ q ≤ 7) ∨ (b = M ∧ 32 ≤ q ∧ q ≤ 34)
def zEq (Z : Nat → Nat → Prop) (u w : xv_M) : Prop := ∀ b q, Z b q → xv_i w b q = xv_i u b q
theorem xTk_e {u w : xv_M} {h o a n : Nat} {O : Nat → Nat} {A : Nat → Int32} (h1 : xv_i w h 2 = xv_i u h 2) (h2 : ∀ q, q < n → xv_i w o q = xv_i u o q ∧ xv_i w a q = xv_i u a q) (H : xTk u h o a n O A) : xTk w h o a n O A := by
  obtain ⟨a1, a2, a3⟩ := H
  exact ⟨by rw [h1, a1], a2, fun i hi => ⟨by rw [(h2 i hi).1]; exact (a3 i hi).1, (a3 i hi).2.1, by rw [(h2 i hi).2]; exact (a3 i hi).2.2⟩⟩
theorem xDm_e {u w : xv_M} {M n : Nat} {O : Nat → Nat} {A : Nat → Int32} (h1 : xv_i w (M + 3) 8 = xv_i u (M + 3) 8) (h2 : ∀ q, q < n → xv_i w (M + 1) (320 + q) = xv_i u (M + 1) (320 + q) ∧ xv_i w (M + 2) (320 + q) = xv_i u (M + 2) (320 + q)) (H : xDm u M n O A) : xDm w M n O A := by
  obtain ⟨a1, a2, a3⟩ := H
  exact ⟨by rw [h1, a1], a2, fun i hi => ⟨by rw [(h2 i hi).1]; exact (a3 i hi).1, (a3 i hi).2.1, by rw [(h2 i hi).2]; exact (a3 i hi).2.2⟩⟩
theorem yD_fr {u w : xv_M} {N M : Nat} (z : zEq (zD N M) u w) (H : yD u N M) : yD w N M := by
  obtain ⟨n, O, A, h1, h2, h3⟩ := H
  refine ⟨n, O, A, xTk_e (z _ _ (by unfold zD; omega)) (fun q hq => ⟨z _ _ (by unfold zD; omega), z _ _ (by unfold zD; omega)⟩) h1, xDm_e (z _ _ (by unfold zD; omega)) (fun q hq => ⟨z _ _ (by unfold zD; omega), z _ _ (by unfold zD; omega)⟩) h2, h3⟩
theorem yRw_e {u w : xv_M} {M r n : Nat} {U : yU} (h1 : xv_i w (M + 10) r = xv_i u (M + 10) r) (h2 : ∀ c, c = 7 ∨ c = 8 ∨ c = 9 ∨ c = 13 → ∀ i, i < n → xv_i w (M + c) (280 * r + i) = xv_i u (M + c) (280 * r + i)) (H : yRw u M r n U) : yRw w M r n U := by
  obtain ⟨a1, a2⟩ := H
  exact ⟨by rw [h1, a1], fun i hi => ⟨by rw [h2 7 (by omega) i hi]; exact (a2 i hi).1, by rw [h2 8 (by omega) i hi]; exact (a2 i hi).2.1, by rw [h2 9 (by omega) i hi]; exact (a2 i hi).2.2.1, by rw [h2 13 (by omega) i hi]; exact (a2 i hi).2.2.2⟩⟩
theorem xSt_e {O : Nat → Nat} {f g : Nat → Int32} (h : ∀ i, g i = f i) (H : xSt O f 41 0) : xSt O g 41 0 := by
  have : g = f := funext h
  rw [this]; exact H
theorem yOne_sz {O : Nat → Nat} {A : Nat → Int32} {n m : Nat} {f : Int32} (hn : n ≤ 40) (hT : xTok O A n) (hm : m ≤ 3) (h : xOne O A n f (nI m) = true) : (∃ κ, κ < 128 ∧ xEk O A n 41 0 (nI κ) (nI 0) (nI 0) = some n) ∧ xVF O n 41 0 ∧ xNx O 41 0 = n ∧ xSz O 41 0 ≤ 250 ∧ 0 < n ∧ ∀ p, p < n → O p = 17 → A p < f := by
  unfold xOne at h
  rw [Bool.and_eq_true, Bool.and_eq_true, decide_eq_true_eq, decide_eq_true_eq] at h
  have hK : ∀ m, m ≤ 3 → ((1 : Int32) <<< (nI m &&& 31)) - 1 = nI (2 ^ m - 1) ∧ 2 ^ m - 1 < 128 := by decide +kernel
  rw [(hK m hm).1] at h
  have a1 := xEk_vf _ _ _ _ _ _ h.2
  have a2 := (xEk_nx _ _ _ _ _ _ h.2).1
  exact ⟨⟨_, (hK m hm).2, h.2⟩, a1, a2.symm, xSz_250 (fun p hp => (hT p hp).1) hn a1 (by omega), a1.1, fun p hp e => xLow_at n h.1.1 p hp (by rw [e]; rfl)⟩
theorem yNu_le {O : Nat → Nat} {m : Nat} (h : xSz O 41 0 ≤ 250) : 0 < yNu O m ∧ yNu O m ≤ 265 := by unfold yNu; omega
theorem yPe_le {U : yU} {n m f : Nat} (h : yPe U n m f) : 0 < n ∧ n ≤ 265 ∧ m ≤ 3 := by
  obtain ⟨O, A, k, h1, h2, h3, h4, h5, -, -⟩ := h
  have := yNu_le (m := m) (yOne_sz h2 h1 h3 h4).2.2.2.1
  omega
theorem yF_fr {u w : xv_M} {N M : Nat} (z : zEq (zF N M) u w) (H : yF u N M) : yF w N M := by
  obtain ⟨L, nP, O, A, U, h1, h2⟩ := H
  refine ⟨L, nP, O, A, U, fun g hg => ?_, fun f hf => ?_⟩
  · obtain ⟨a1, a2, a3⟩ := h1 g hg
    refine ⟨xTk_e (z _ _ (Or.inl ⟨g, hg, by omega, by omega⟩)) (fun q hq => ⟨z _ _ (Or.inl ⟨g, hg, by omega, by omega⟩), z _ _ (Or.inl ⟨g, hg, by omega, by omega⟩)⟩) a1, by rw [z _ _ (Or.inl ⟨g, hg, by omega, by omega⟩)]; exact a2, fun hL => xSt_e (fun i => z _ _ (Or.inl ⟨g, hg, by omega, by omega⟩)) (a3 hL)⟩
  · obtain ⟨a1, a2, a3, a4⟩ := h2 f hf
    refine ⟨a1, a2, by rw [z _ _ (Or.inr (Or.inl ⟨by omega, hf⟩))]; exact a3, fun hL => ?_⟩
    obtain ⟨b1, b2, b3, b4⟩ := a4 hL
    have hle := (yNu_le (m := nP f) (yOne_sz (h1 f hf).1.2.1 a1 a2 b1.1).2.2.2.1).2
    exact ⟨b1, by rw [z _ _ (Or.inr (Or.inl ⟨by omega, hf⟩))]; exact b2, by rw [z _ _ (Or.inr (Or.inl ⟨by omega, hf⟩))]; exact b3, yRw_e (z _ _ (Or.inr (Or.inl ⟨by omega, hf⟩))) (fun c hc i hi => z _ _ (Or.inr (Or.inr ⟨by omega, by omega⟩))) b4⟩
theorem yCw_e {u w : xv_M} {x : Nat} (h : ∀ b, x ≤ b → b ≤ x + 6 → ∀ q, xv_i w b q = xv_i u b q) (H : yCw u x) : yCw w x := by
  obtain ⟨h1, l, h2, h3, h4⟩ := H
  exact ⟨by rw [h x (by omega) (by omega)]; exact h1, l, h2, by rw [h _ (by omega) (by omega)]; exact h3, fun i hi => by rw [h _ (by omega) (by omega)]; exact h4 i hi⟩
theorem yCe_e {u w : xv_M} {x n : Nat} {U : yU} {v s : Nat → Int32} (h : ∀ b, x ≤ b → b ≤ x + 6 → ∀ q, xv_i w b q = xv_i u b q) (H : yCe u x n U v s) : yCe w x n U v s := by
  have e : ∀ b, x ≤ b → b ≤ x + 6 → xv_i w b = xv_i u b := fun b h1 h2 => funext (h b h1 h2)
  unfold yCe
  rw [e x (by omega) (by omega), e (x + 1) (by omega) (by omega), e (x + 2) (by omega) (by omega), e (x + 3) (by omega) (by omega), e (x + 4) (by omega) (by omega), e (x + 5) (by omega) (by omega), e (x + 6) (by omega) (by omega)]
  exact H
theorem yMe_e {u w : xv_M} {M e n : Nat} {U : yU} {v s : Nat → Int32} (hr : yRw u M (8 + e) n U → yRw w M (8 + e) n U) (h : ∀ b, M + 15 ≤ b → b ≤ M + 21 → ∀ q, xv_i w b q = xv_i u b q) (h11 : xv_i w (M + 11) (8 + e) = xv_i u (M + 11) (8 + e)) (H : yMe u M e n U v s) : yMe w M e n U v s := by
  have e : ∀ b, M + 15 ≤ b → b ≤ M + 21 → xv_i w b = xv_i u b := fun b h1 h2 => funext (h b h1 h2)
  obtain ⟨a1, a2⟩ := H
  refine ⟨hr a1, ?_⟩
  rw [e (M + 15) (by omega) (by omega), e (M + 16) (by omega) (by omega), e (M + 17) (by omega) (by omega), e (M + 18) (by omega) (by omega), e (M + 19) (by omega) (by omega), e (M + 20) (by omega) (by omega), e (M + 21) (by omega) (by omega), h11]
  exact a2
theorem yPv_le {n : Nat} {U : yU} {v : Nat → Int32} (h : yPv n U v) : 0 < n ∧ n ≤ 265 := by
  obtain ⟨-, ⟨m, f, k, -, -, -, -, -, h⟩, -⟩ := h
  have := yPe_le h
  omega
theorem yAs_fr {u w : xv_M} {N M : Nat} {E : Nat → Nat} {a : yAd} (hE : yEp N E) (z : zEq (zA N M) u w) (H : yAs u N M E a) : yAs w N M E a := by
  obtain ⟨⟨h1, h2, h3⟩, h4, h5⟩ := H
  have hEb : ∀ e, e < 8 → ∀ b, E e ≤ b → b ≤ E e + 6 → ∀ q, xv_i w b q = xv_i u b q := by
    intro e he b hb hb2 q
    obtain ⟨j, hj, ej⟩ := hE.1 e he
    exact z _ _ (Or.inr (Or.inl (by omega)))
  refine ⟨⟨by rw [z _ _ (Or.inl (by omega))]; exact h1, by rw [z _ _ (Or.inr (Or.inr (Or.inl (by omega))))]; exact h2, h3⟩, fun e he => yCw_e (hEb e he) (h4 e he), fun e he => ?_⟩
  obtain ⟨p1, p2, p3⟩ := h5 e he
  have hle := yPv_le p1
  refine ⟨p1, yCe_e (hEb e (by omega)) p2, yMe_e (fun q => yRw_e (z _ _ ?_) (fun c hc i hi => z _ _ ?_) q) (fun b b1 b2 q => z _ _ ?_) (z _ _ ?_) p3⟩
  · exact Or.inr (Or.inr (Or.inr (Or.inr (Or.inl (by omega)))))
  · exact Or.inr (Or.inr (Or.inr (Or.inr (Or.inr (by omega)))))
  · exact Or.inr (Or.inr (Or.inr (Or.inl (by omega))))
  · exact Or.inr (Or.inr (Or.inr (Or.inr (Or.inl (by omega)))))
theorem yA_fr {u w : xv_M} {N M : Nat} {E : Nat → Nat} (hE : yEp N E) (z : zEq (zA N M) u w) (H : yA' u N M E) : yA' w N M E := by
  obtain ⟨⟨h1, h2⟩, a, h3⟩ := H
  exact ⟨⟨by rw [z _ _ (Or.inl (by omega)), z _ _ (Or.inr (Or.inr (Or.inl (by omega))))]; exact h1, by rw [z _ _ (Or.inl (by omega)), z _ _ (Or.inr (Or.inr (Or.inl (by omega))))]; exact h2⟩, a, yAs_fr hE z h3⟩
theorem xUn_e {u w : xv_M} {c n : Nat} {O : Nat → Nat} {F S : Nat → Int32} (h : ∀ b, c ≤ b → b ≤ c + 3 → ∀ q, xv_i w b q = xv_i u b q) (H : xUn u c n O F S) : xUn w c n O F S := by
  obtain ⟨a1, a2, a3⟩ := H
  refine ⟨by rw [h _ (by omega) (by omega)]; exact a1, a2, fun i hi => ?_⟩
  rw [h _ (by omega) (by omega), h _ (by omega) (by omega), h _ (by omega) (by omega)]
  exact a3 i hi
theorem yI_fr {u w : xv_M} {N M : Nat} (z : zEq (zI N M) u w) (H : yI u N M) : yI w N M := by
  obtain ⟨L, nP, U, h1⟩ := H
  refine ⟨L, nP, U, fun f hf => ?_⟩
  obtain ⟨a1, a2, a3⟩ := h1 f hf
  refine ⟨xUn_e (fun b b1 b2 q => z _ _ (Or.inl ⟨f, hf, b1, b2⟩)) a1, fun e => by rw [z _ _ (Or.inr (Or.inl rfl))]; exact a2 e, fun hL => ?_⟩
  obtain ⟨b1, b2, b3, b4, b5⟩ := a3 hL
  exact ⟨by rw [z _ _ (Or.inr (Or.inl rfl))]; exact b1, by rw [z _ _ (Or.inr (Or.inr (Or.inl rfl)))]; exact b2, yRw_e (z _ _ (Or.inr (Or.inr (Or.inr (Or.inl (by omega)))))) (fun c hc i hi => z _ _ (Or.inr (Or.inr (Or.inr (Or.inr (by omega)))))) b3, b4, b5⟩
theorem yK_fr {u w : xv_M} {h M : Nat} (z : zEq (zK h M) u w) (H : yK u h M) : yK w h M := by
  unfold yK
  rw [z h 5 (by unfold zK; omega), z h 6 (by unfold zK; omega), z h 7 (by unfold zK; omega), z M 32 (by unfold zK; omega), z M 33 (by unfold zK; omega), z M 34 (by unfold zK; omega)]
  exact H

