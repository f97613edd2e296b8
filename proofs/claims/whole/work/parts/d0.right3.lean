/-! the units of every form do what it says; the whole code of a function -/
theorem yCR_o {ans : Nat → Int32 → Int32 → Int32 → xRs} {L : Nat → Nat} {f : Nat} {U : yU} {b o : Nat} {a : Int32} {E : Nat → xV → xEr} {Y : Nat → Nat → Prop} {s z : Nat → Nat} (ho : o < 18) (hvv : o = 1 ∨ o = 14 ∨ o = 15 ∨ o = 16 → ∃ v, v < 7 ∧ a = nI v) (h17 : o = 17 → ∃ v, v < 8 ∧ v < f ∧ a = nI v) (hL : ∀ a x y z, a < f → L a = 0 → ans a x y z = .inr 14) (hc : o = 16 → ∀ v, v < 7 → a = nI v → ∀ V, xK (E (s 1) V) (fun _ W => W v = V v) (fun _ => True)) (part : ∀ j, j < xPa o → ∀ b, b + z j ≤ 265 → Y j b → yCR (yT (yStp ans L f U) U.1) b (b + z j) (E (s j))) (hb : b + (xOwn o + xSumN z (xPa o)) ≤ 265) (h : yLo (fun i o => U.1 i = o) U Y z o a b) : yCR (yT (yStp ans L f U) U.1) b (b + (xOwn o + xSumN z (xPa o))) (xEvo ans E s o a) := by
  obtain ⟨p13, p17, p14, p16, p12, p15, p0, p1, o13, o17, o14, o16, o12, o15, o0, o1⟩ := yPa_3
  by_cases q0 : o = 0
  · subst q0; rw [o0, p0] at hb ⊢
    exact yCR_0 (E := E) (s := s) (z := z) (by omega) h
  by_cases q1 : o = 1
  · subst q1; rw [o1, p1] at hb ⊢
    obtain ⟨v, hv, rfl⟩ := hvv (by omega)
    exact yCR_1 (E := E) (s := s) (z := z) hv (by omega) h
  by_cases q12 : o = 12
  · subst q12; rw [p12] at part; rw [o12, p12, xSumN_1] at hb ⊢
    obtain ⟨y0, u⟩ : yL12 (fun i o => U.1 i = o) (Y 0) b (z 0) := h
    exact yCR_e (yCR_12 (s := s) (z := z) (part 0 (by omega) b (by omega) y0) (by omega) u) (by omega) rfl
  by_cases q13 : o = 13
  · subst q13; rw [p13] at part; rw [o13, p13, xSumN_3] at hb ⊢
    obtain ⟨y0, u, v, y1, w, y2⟩ : yL13 _ _ _ _ _ _ _ _ _ := h
    exact yCR_e (yCR_13 (s := s) (z := z) (part 0 (by omega) b (by omega) y0) (part 1 (by omega) _ (by omega) y1) (part 2 (by omega) _ (by omega) y2) (by omega) u v w) (by omega) rfl
  by_cases q14 : o = 14
  · subst q14; rw [p14] at part; rw [o14, p14, xSumN_2] at hb ⊢
    obtain ⟨v, hv, rfl⟩ := hvv (by omega)
    obtain ⟨y0, u, y1⟩ : yL14 _ _ _ _ _ _ := h
    exact yCR_e (yCR_14 (s := s) (z := z) hv (part 0 (by omega) b (by omega) y0) (part 1 (by omega) _ (by omega) y1) (by omega) u) (by omega) rfl
  by_cases q15 : o = 15
  · subst q15; rw [p15] at part; rw [o15, p15, xSumN_1] at hb ⊢
    obtain ⟨v, hv, rfl⟩ := hvv (by omega)
    obtain ⟨y0, u, w⟩ : yL15 (fun i o => U.1 i = o) U (nI v) (Y 0) b (z 0) := h
    exact yCR_e (yCR_15 (s := s) (z := z) hv (part 0 (by omega) b (by omega) y0) (by omega) u w) (by omega) rfl
  by_cases q16 : o = 16
  · subst q16; rw [p16] at part; rw [o16, p16, xSumN_2] at hb ⊢
    obtain ⟨v, hv, rfl⟩ := hvv (by omega)
    have h : yL16 U (nI v) (Y 0) (Y 1) b (z 0) (z 1) := h
    have h' : yL16 U (nI v) (fun _ => True) (fun _ => True) b (z 0) (z 1) := ⟨trivial, h.2.1, h.2.2.1, h.2.2.2.1, h.2.2.2.2.1, h.2.2.2.2.2.1, trivial, h.2.2.2.2.2.2.2⟩
    exact yCR_e (yCR_16 (s := s) (z := z) hv (hc rfl v hv rfl) (part 0 (by omega) b (by omega) h.1) (part 1 (by omega) _ (by omega) h.2.2.2.2.2.2.1) (by omega) h') (by omega) rfl
  by_cases q17 : o = 17
  · subst q17; rw [p17] at part; rw [o17, p17, xSumN_3] at hb ⊢
    obtain ⟨v, hv, hf, rfl⟩ := h17 rfl
    obtain ⟨y0, y1, y2, u⟩ : yL17 _ _ _ _ _ _ _ _ _ := h
    exact yCR_e (yCR_17 (s := s) (z := z) hv hf (fun x y z => hL v x y z hf) (part 0 (by omega) b (by omega) y0) (part 1 (by omega) _ (by omega) y1) (part 2 (by omega) _ (by omega) y2) (by omega) u) (by omega) rfl
  have hpa := yPa2 o ho ⟨q0, q1, q13, q15, q17, q12⟩
  rw [hpa.1] at part
  rw [hpa.1, hpa.2, if_neg q16, xSumN_2] at hb ⊢
  unfold yLo at h
  rw [if_neg q0, if_neg q1, if_neg q12, if_neg q13, if_neg q14, if_neg q15, if_neg q16, if_neg q17] at h
  obtain ⟨y0, y1, u⟩ := h
  refine yCR_e (yCR_2 (s := s) (z := z) (o := o) (by omega) (by omega) (part 0 (by omega) b (by omega) y0) (part 1 (by omega) _ (by omega) y1) (by omega) u) (by omega) ?_
  funext V
  unfold xEvo
  rw [if_neg q0, if_neg q1, if_neg q12, if_neg q13, if_neg q14, if_neg q15, if_neg q16, if_neg q17]
theorem yCR_of {ans : Nat → Int32 → Int32 → Int32 → xRs} {L : Nat → Nat} {f n : Nat} {U : yU} {O : Nat → Nat} {A : Nat → Int32} (hT : xTok O A n) (hB : ∀ p, p < n → O p = 17 → ∀ v, v < 8 → A p = nI v → v < f) (hL : ∀ a x y z, a < f → L a = 0 → ans a x y z = .inr 14) : ∀ (k p b κ γ τ e : Nat), κ < 128 → γ < 128 → τ ≤ 2 → xEk O A n k p (nI κ) (nI γ) (nI τ) = some e → b + xSz O k p ≤ 265 → yLay (fun i o => U.1 i = o) U O A k p b → yCR (yT (yStp ans L f U) U.1) b (b + xSz O k p) (xEv ans O A k p) := by
  intro k
  induction k with
  | zero => intro p b κ γ τ e _ _ _ h; cases h
  | succ k ih =>
    intro p b κ γ τ e hκ hγ hτ h hb hY
    obtain ⟨h1, h2, h3, h4, h5, h6⟩ := xEk_N hT hκ hγ hτ h
    obtain ⟨t1, t2, t3, t4, t5⟩ := hT p h1
    have hτ' : (if O p = 16 then τ + 1 else τ) ≤ 2 := by
      by_cases e16 : O p = 16
      · rw [if_pos e16]; have := h6 e16; omega
      · rw [if_neg e16]; exact hτ
    refine yCR_o (E := xEv ans O A k) (s := fun j => xIt (xNx O k) j (p + 1)) (z := fun j => xSz O k (xIt (xNx O k) j (p + 1))) t1 ?_ ?_ hL ?_ ?_ hb hY
    · intro ho
      by_cases q : O p = 1 ∨ O p = 15
      · exact t2 q
      · obtain ⟨v, -, h, e⟩ := t3 (by omega)
        exact ⟨v, h, e⟩
    · intro ho
      obtain ⟨v, hv, e⟩ := t5 ho
      exact ⟨v, hv, hB p h1 ho v hv e, e⟩
    · intro ho v hv ea V
      obtain ⟨κ', γ', q1, q2, q3, q4, q5⟩ := h4 1 (by rw [ho]; decide)
      exact xK_mono (xEv_ctr hT k _ κ' γ' _ _ q1 q2 hτ' q3 V) (fun x W hc => hc v hv (q5 ho rfl v hv ea))
    · intro j hj b hb hY
      obtain ⟨κ', γ', q1, q2, q3, q4, q5⟩ := h4 j hj
      exact ih _ b κ' γ' _ _ q1 q2 hτ' q3 hb hY
/-- the first units set the variables behind the parameters to 0 -/
def yPs : Nat → (Nat → Int32) → Nat → Int32
  | 0, S => S
  | j + 1, S => yPs j (upd S 0 0)
theorem yPro {ans : Nat → Int32 → Int32 → Int32 → xRs} {L : Nat → Nat} {f : Nat} {U : yU} {m : Nat} {r : xRs} (hm : m ≤ 7) (hp : ∀ j, j < 7 - m → yAt U (2 * j) 0 0 ∧ yAt U (2 * j + 1) 13 (nI (m + j))) (V W : Nat → Int32) (hW : ∀ i, W i = if m ≤ i ∧ i < 7 then 0 else V i) (k : Nat) (S : Nat → Int32) (hk : xTm (yStp ans L f U) U.1 k (2 * (7 - m)) (W, yPs (7 - m) S, 0) r) : xTm (yStp ans L f U) U.1 (k + 2 * (7 - m)) 0 (V, S, 0) r := by
  have key : ∀ j, j ≤ 7 - m → ∀ (V' S' : Nat → Int32), (∀ i, W i = if m + (7 - m - j) ≤ i ∧ i < 7 then 0 else V' i) → yPs j S' = yPs (7 - m) S → xTm (yStp ans L f U) U.1 (k + 2 * j) (2 * (7 - m - j)) (V', S', 0) r := by
    intro j
    induction j with
    | zero =>
      intro _ V' S' hV hS
      have e : V' = W := by
        funext i
        rw [hV i, if_neg (by omega)]
      rw [e]
      have hS : S' = _ := hS
      rw [hS]
      exact hk
    | succ j ih =>
      intro hj V' S' hV hS
      obtain ⟨u, v⟩ := hp (7 - m - (j + 1)) (by omega)
      have q := ih (by omega) (upd V' (m + (7 - m - (j + 1))) 0) (upd S' 0 0) (fun i => by
        rw [hV i]
        by_cases c : i = m + (7 - m - (j + 1))
        · rw [c, if_pos (by omega), if_neg (by omega), pk_us]
        · rw [pk_un c]
          by_cases d : m + (7 - m - (j + 1)) ≤ i ∧ i < 7
          · rw [if_pos d, if_pos (by omega)]
          · rw [if_neg d, if_neg (by omega)]) hS
      have s1 : yStp ans L f U (2 * (7 - m - (j + 1))) (V', S', 0) = .inl (nI (2 * (7 - m - (j + 1)) + 1), xPu (V', S', 0) 0) := by
        unfold yStp xStep
        rw [u.1, u.2, if_pos rfl]
      have s2 : yStp ans L f U (2 * (7 - m - (j + 1)) + 1) (xPu (V', S', 0) 0) = .inl (nI (2 * (7 - m - j)), (upd V' (m + (7 - m - (j + 1))) 0, upd S' 0 0, 0)) := by
        unfold yStp xStep
        rw [v.1, v.2, if_neg (by omega), if_neg (by omega), if_pos rfl, nI_clamp (by omega), show 2 * (7 - m - (j + 1)) + 1 + 1 = 2 * (7 - m - j) by omega]
        show Sum.inl (_, (upd V' _ (upd S' 0 0 0), upd S' 0 0, 0)) = _
        rw [pk_us]
      exact yTm_s (by rw [u.1]; omega) s1 (by omega) (yTm_s (by rw [v.1]; omega) s2 (by omega) q)
  have q := key (7 - m) (Nat.le_refl _) V S (fun i => by rw [hW i, show m + (7 - m - (7 - m)) = m by omega]) rfl
  rw [show 7 - m - (7 - m) = 0 by omega] at q
  exact q
/-- the whole code of a function answers what its form gives -/
theorem yWh_right {ans : Nat → Int32 → Int32 → Int32 → xRs} {L : Nat → Nat} {f n k m e : Nat} {U : yU} {O : Nat → Nat} {A : Nat → Int32} {V : Nat → Int32} (hT : xTok O A n) (hB : ∀ p, p < n → O p = 17 → ∀ v, v < 8 → A p = nI v → v < f) (hL : ∀ a x y z, a < f → L a = 0 → ans a x y z = .inr 14) {κ : Nat} (hκ : κ < 128) (hE : xEk O A n k 0 (nI κ) (nI 0) (nI 0) = some e) (hm : m ≤ 3) (hz : xSz O k 0 ≤ 250) (h : yWh (fun i o => U.1 i = o) U O A k m) (hV : ∀ i, m ≤ i → i < 7 → V i = 0) (S : Nat → Int32) : ∃ k', xTm (yStp ans L f U) U.1 k' 0 (V, S, 0) (xFv (xEv ans O A k 0 V)) := by
  obtain ⟨hp, hY, he⟩ := h
  have he : U.1 (2 * (7 - m) + xSz O k 0) = 17 := he
  have c := yCR_of (U := U) hT hB hL k 0 (2 * (7 - m)) κ 0 0 e hκ (by omega) (by omega) hE (by omega) hY
  have q : yT (yStp ans L f U) U.1 (2 * (7 - m)) (V, yPs (7 - m) S, 0) (xFv (xEv ans O A k 0 V)) := by
    refine c V S 0 _ ?_ _ ⟨rfl, rfl, fun i hi => absurd hi (by omega)⟩
    cases hr : xEv ans O A k 0 V with
    | inl q =>
      intro τ hτ
      have h2 := (yQ_po hτ).2
      have h3 := yTm_17 (step := yStp ans L f U) (σ := τ) he
      rw [h2] at h3
      exact ⟨1, h3⟩
    | inr x => rfl
  obtain ⟨k', q⟩ := q
  refine ⟨_, yPro (by omega) hp V V (fun i => ?_) k' S q⟩
  by_cases d : m ≤ i ∧ i < 7
  · rw [if_pos d]; exact hV i d.1 d.2
  · rw [if_neg d]

