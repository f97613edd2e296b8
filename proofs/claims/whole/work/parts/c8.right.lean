/-! what is emitted does what the form says. States up to what lies above the stack -/
def yQ (σ : xZ) (V S : Nat → Int32) (n : Nat) : Prop := σ.1 = V ∧ σ.2.2 = n ∧ ∀ i, i < n → σ.2.1 i = S i
def yT (step : Nat → xZ → (Int32 × xZ) ⊕ Nat) (O : Nat → Nat) (pc : Nat) (σ : xZ) (r : xRs) : Prop := ∃ k, xTm step O k pc σ r
def yStp (ans : Nat → Int32 → Int32 → Int32 → xRs) (L : Nat → Nat) (f : Nat) (U : yU) (p : Nat) (σ : xZ) : (Int32 × xZ) ⊕ Nat := xStep ans L f (U.1 p) (U.2.1 p) (U.2.2.1 p) p σ
theorem yTm_s {step : Nat → xZ → (Int32 × xZ) ⊕ Nat} {O : Nat → Nat} {k pc j : Nat} {σ τ : xZ} {r : xRs} (h17 : ¬ O pc = 17) (hs : step pc σ = .inl (nI j, τ)) (hj : j < 1000) (h : xTm step O k j τ r) : xTm step O (k + 1) pc σ r := by
  show if O pc = 17 then r = .inl (xTp σ) else xTn (fun j τ => xTm step O k j τ r) (step pc σ) r
  rw [if_neg h17, hs]
  exact ⟨j, hj, rfl, h⟩
theorem yTm_x {step : Nat → xZ → (Int32 × xZ) ⊕ Nat} {O : Nat → Nat} {pc e : Nat} {σ : xZ} (h17 : ¬ O pc = 17) (hs : step pc σ = .inr e) : xTm step O 1 pc σ (.inr e) := by
  show if O pc = 17 then _ else xTn (fun j τ => xTm step O 0 j τ _) (step pc σ) _
  rw [if_neg h17, hs]
  rfl
theorem yTm_17 {step : Nat → xZ → (Int32 × xZ) ⊕ Nat} {O : Nat → Nat} {pc : Nat} {σ : xZ} (h17 : O pc = 17) : xTm step O 1 pc σ (.inl (xTp σ)) := by
  show if O pc = 17 then _ else _
  rw [if_pos h17]
theorem yT_s {step : Nat → xZ → (Int32 × xZ) ⊕ Nat} {O : Nat → Nat} {pc j : Nat} {σ τ : xZ} {r : xRs} (h17 : ¬ O pc = 17) (hs : step pc σ = .inl (nI j, τ)) (hj : j < 1000) (h : yT step O j τ r) : yT step O pc σ r := by
  obtain ⟨k, h⟩ := h
  exact ⟨k + 1, yTm_s h17 hs hj h⟩
theorem yQ_pu {σ : xZ} {V S : Nat → Int32} {n : Nat} {x : Int32} (h : yQ σ V S n) : yQ (xPu σ x) V (upd S n x) (n + 1) := by
  obtain ⟨h1, h2, h3⟩ := h
  refine ⟨h1, by show σ.2.2 + 1 = _; rw [h2], fun i hi => ?_⟩
  show upd σ.2.1 σ.2.2 x i = upd S n x i
  rw [h2]
  by_cases q : i = n
  · rw [q, pk_us, pk_us]
  · rw [pk_un q, pk_un q, h3 i (by omega)]
theorem yQ_po {σ : xZ} {V S : Nat → Int32} {n : Nat} {x : Int32} (h : yQ σ V (upd S n x) (n + 1)) : yQ (xPo σ) V S n ∧ xTp σ = x := by
  obtain ⟨h1, h2, h3⟩ := h
  refine ⟨⟨h1, by show σ.2.2 - 1 = _; omega, fun i hi => ?_⟩, ?_⟩
  · show σ.2.1 i = S i
    rw [h3 i (by omega), pk_un (by omega)]
  · show σ.2.1 (σ.2.2 - 1) = x
    rw [show σ.2.2 - 1 = n by omega, h3 n (by omega), pk_us]
theorem yQ_sv {σ : xZ} {V S : Nat → Int32} {n v : Nat} {x : Int32} (h : yQ σ V S n) : yQ (xSv σ v x) (upd V v x) S n := by
  obtain ⟨h1, h2, h3⟩ := h
  exact ⟨by show upd σ.1 v x = _; rw [h1], h2, h3⟩
theorem zU_0 {ans : Nat → Int32 → Int32 → Int32 → xRs} {L : Nat → Nat} {f : Nat} {U : yU} {V S : Nat → Int32} {n b : Nat} {σ : xZ} {r : xRs} {a : Int32} (u : yAt U b 0 a) (hb : b < 900) (h : yQ σ V S n) (c : ∀ τ, yQ τ V (upd S n a) (n + 1) → yT (yStp ans L f U) U.1 (b + 1) τ r) : yT (yStp ans L f U) U.1 b σ r := by
  refine yT_s (by rw [u.1]; omega) (j := b + 1) (τ := xPu σ a) ?_ (by omega) (c _ (yQ_pu h))
  unfold yStp xStep
  rw [u.1, u.2, if_pos rfl]
theorem zU_1 {ans : Nat → Int32 → Int32 → Int32 → xRs} {L : Nat → Nat} {f : Nat} {U : yU} {V S : Nat → Int32} {n b : Nat} {σ : xZ} {r : xRs} {v : Nat} (u : yAt U b 1 (nI v)) (hv : v < 7) (hb : b < 900) (h : yQ σ V S n) (c : ∀ τ, yQ τ V (upd S n (V v)) (n + 1) → yT (yStp ans L f U) U.1 (b + 1) τ r) : yT (yStp ans L f U) U.1 b σ r := by
  refine yT_s (by rw [u.1]; omega) (j := b + 1) (τ := xPu σ (V v)) ?_ (by omega) (c _ (yQ_pu h))
  unfold yStp xStep
  rw [u.1, u.2, if_neg (by omega), if_pos rfl, nI_clamp (by omega), h.1]
theorem zU_13 {ans : Nat → Int32 → Int32 → Int32 → xRs} {L : Nat → Nat} {f : Nat} {U : yU} {V S : Nat → Int32} {n b : Nat} {σ : xZ} {r : xRs} {v : Nat} {x : Int32} (u : yAt U b 13 (nI v)) (hv : v < 7) (hb : b < 900) (h : yQ σ V (upd S n x) (n + 1)) (c : ∀ τ, yQ τ (upd V v x) S n → yT (yStp ans L f U) U.1 (b + 1) τ r) : yT (yStp ans L f U) U.1 b σ r := by
  obtain ⟨h1, h2⟩ := yQ_po h
  refine yT_s (by rw [u.1]; omega) (j := b + 1) (τ := xSv (xPo σ) v x) ?_ (by omega) (c _ (yQ_sv h1))
  unfold yStp xStep
  rw [u.1, u.2, if_neg (by omega), if_neg (by omega), if_pos rfl, nI_clamp (by omega), h2]
theorem zU_14 {ans : Nat → Int32 → Int32 → Int32 → xRs} {L : Nat → Nat} {f : Nat} {U : yU} {V S : Nat → Int32} {n b : Nat} {σ : xZ} {r : xRs} {t x : Int32} {q : Nat} (u : yAt U b 14 t) (e : U.2.2.1 b = nI q) (hq : q < 1000) (hb : b < 900) (h : yQ σ V (upd S n x) (n + 1)) (c : ∀ τ, yQ τ V S n → yT (yStp ans L f U) U.1 (if xSo t x = true then b + 1 else q) τ r) : yT (yStp ans L f U) U.1 b σ r := by
  obtain ⟨h1, h2⟩ := yQ_po h
  refine yT_s (by rw [u.1]; omega) (j := if xSo t x = true then b + 1 else q) (τ := xPo σ) ?_ (by split <;> omega) (c _ h1)
  unfold yStp xStep
  rw [u.1, u.2, e, if_neg (by omega), if_neg (by omega), if_neg (by omega), if_pos rfl, h2]
  congr 2
  split <;> rfl
theorem zU_15 {ans : Nat → Int32 → Int32 → Int32 → xRs} {L : Nat → Nat} {f : Nat} {U : yU} {V S : Nat → Int32} {n b : Nat} {σ : xZ} {r : xRs} {q : Nat} (u : yAt U b 15 (nI q)) (hq : q < 1000) (h : yQ σ V S n) (c : ∀ τ, yQ τ V S n → yT (yStp ans L f U) U.1 q τ r) : yT (yStp ans L f U) U.1 b σ r := by
  refine yT_s (by rw [u.1]; omega) (j := q) (τ := σ) ?_ hq (c _ h)
  unfold yStp xStep
  rw [u.1, u.2, if_neg (by omega), if_neg (by omega), if_neg (by omega), if_neg (by omega), if_pos rfl]
theorem yStp_w {ans : Nat → Int32 → Int32 → Int32 → xRs} {L : Nat → Nat} {f : Nat} {U : yU} {b o : Nat} {σ : xZ} (u : U.1 b = o) (h0 : ¬ o = 0) (h1 : ¬ o = 1) (h13 : ¬ o = 13) (h14 : ¬ o = 14) (h15 : ¬ o = 15) (h16 : ¬ o = 16) : yStp ans L f U b σ = if (o = 5 ∨ o = 6) ∧ xTp σ = 0 then .inr 13 else .inl (nI (b + 1), xRw o σ) := by
  unfold yStp xStep
  rw [u, if_neg h0, if_neg h1, if_neg h13, if_neg h14, if_neg h15, if_neg h16]
theorem zU_12 {ans : Nat → Int32 → Int32 → Int32 → xRs} {L : Nat → Nat} {f : Nat} {U : yU} {V S : Nat → Int32} {n b : Nat} {σ : xZ} {r : xRs} {x : Int32} (u : U.1 b = 12) (hb : b < 900) (h : yQ σ V (upd S n x) (n + 1)) (c : ∀ τ, yQ τ V (upd S n (-x)) (n + 1) → yT (yStp ans L f U) U.1 (b + 1) τ r) : yT (yStp ans L f U) U.1 b σ r := by
  obtain ⟨h1, h2⟩ := yQ_po h
  refine yT_s (by rw [u]; omega) (j := b + 1) (τ := xPu (xPo σ) (-x)) ?_ (by omega) (c _ (yQ_pu h1))
  rw [yStp_w u (by omega) (by omega) (by omega) (by omega) (by omega) (by omega), if_neg (by omega)]
  unfold xRw
  rw [if_neg (by omega), if_pos rfl, h2]
theorem zU_18 {ans : Nat → Int32 → Int32 → Int32 → xRs} {L : Nat → Nat} {f : Nat} {U : yU} {V S : Nat → Int32} {n b : Nat} {σ : xZ} {r : xRs} {x : Int32} (u : U.1 b = 18) (hb : b < 900) (h : yQ σ V (upd S n x) (n + 1)) (c : ∀ τ, yQ τ V S n → yT (yStp ans L f U) U.1 (b + 1) τ r) : yT (yStp ans L f U) U.1 b σ r := by
  obtain ⟨h1, h2⟩ := yQ_po h
  refine yT_s (by rw [u]; omega) (j := b + 1) (τ := xPo σ) ?_ (by omega) (c _ h1)
  rw [yStp_w u (by omega) (by omega) (by omega) (by omega) (by omega) (by omega), if_neg (by omega)]
  unfold xRw
  rw [if_neg (by omega), if_neg (by omega), if_pos rfl]
theorem zU_19 {ans : Nat → Int32 → Int32 → Int32 → xRs} {L : Nat → Nat} {f : Nat} {U : yU} {V S : Nat → Int32} {n b : Nat} {σ : xZ} {r : xRs} {x : Int32} (u : U.1 b = 19) (hb : b < 900) (h : yQ σ V (upd S n x) (n + 1)) (c : ∀ τ, yQ τ V (upd (upd S n x) (n + 1) x) (n + 2) → yT (yStp ans L f U) U.1 (b + 1) τ r) : yT (yStp ans L f U) U.1 b σ r := by
  obtain ⟨h1, h2⟩ := yQ_po h
  refine yT_s (by rw [u]; omega) (j := b + 1) (τ := xPu (xPu (xPo σ) x) x) ?_ (by omega) (c _ (yQ_pu (yQ_pu h1)))
  rw [yStp_w u (by omega) (by omega) (by omega) (by omega) (by omega) (by omega), if_neg (by omega)]
  unfold xRw
  rw [if_neg (by omega), if_neg (by omega), if_neg (by omega), if_pos rfl, h2]
theorem zU_2 {ans : Nat → Int32 → Int32 → Int32 → xRs} {L : Nat → Nat} {f : Nat} {U : yU} {V S : Nat → Int32} {n b : Nat} {σ : xZ} {r : xRs} {o : Nat} {x y : Int32} (u : U.1 b = o) (ho : 2 ≤ o) (ho2 : o ≤ 11) (hb : b < 900) (h : yQ σ V (upd (upd S n x) (n + 1) y) (n + 2)) (c : xK (if (o = 5 ∨ o = 6) ∧ y = 0 then .inr 13 else .inl (xOp o x y, V)) (fun v W => ∀ τ, yQ τ W (upd S n v) (n + 1) → yT (yStp ans L f U) U.1 (b + 1) τ r) (fun e => r = .inr e)) : yT (yStp ans L f U) U.1 b σ r := by
  obtain ⟨h1, h2⟩ := yQ_po h
  obtain ⟨h3, h4⟩ := yQ_po h1
  have hw : yStp ans L f U b σ = _ := yStp_w u (by omega) (by omega) (by omega) (by omega) (by omega) (by omega)
  rw [h2] at hw
  by_cases q : (o = 5 ∨ o = 6) ∧ y = 0
  · rw [if_pos q] at c hw
    have c : r = .inr 13 := c
    subst c
    exact ⟨1, yTm_x (by rw [u]; omega) hw⟩
  · rw [if_neg q] at c hw
    refine yT_s (by rw [u]; omega) (j := b + 1) (τ := xPu (xPo (xPo σ)) (xOp o x y)) ?_ (by omega) (c _ (yQ_pu h3))
    rw [hw]
    unfold xRw
    rw [if_neg (by omega), if_neg (by omega), if_neg (by omega), if_neg (by omega), if_neg (by omega), h2, h4]
theorem zU_16 {ans : Nat → Int32 → Int32 → Int32 → xRs} {L : Nat → Nat} {f : Nat} {U : yU} {V S : Nat → Int32} {n b : Nat} {σ : xZ} {r : xRs} {a : Nat} {x y z : Int32} (u : yAt U b 16 (nI a)) (ha : a < 8) (hf : a < f) (hL : L a = 0 → ans a x y z = .inr 14) (hb : b < 900) (h : yQ σ V (upd (upd (upd S n x) (n + 1) y) (n + 2) z) (n + 3)) (c : xK (xCa (ans a x y z) V) (fun v W => ∀ τ, yQ τ W (upd S n v) (n + 1) → yT (yStp ans L f U) U.1 (b + 1) τ r) (fun e => r = .inr e)) : yT (yStp ans L f U) U.1 b σ r := by
  obtain ⟨h1, h2⟩ := yQ_po h
  obtain ⟨h3, h4⟩ := yQ_po h1
  obtain ⟨h5, h6⟩ := yQ_po h3
  have hw : yStp ans L f U b σ = if a < f ∧ 0 < L a then xCl (ans a x y z) b (xPo (xPo (xPo σ))) else .inr 14 := by
    unfold yStp xStep
    rw [u.1, u.2, if_neg (by omega), if_neg (by omega), if_neg (by omega), if_neg (by omega), if_neg (by omega), if_pos rfl, nI_clamp (by omega), h2, h4, h6]
  by_cases q : 0 < L a
  · rw [if_pos ⟨hf, q⟩] at hw
    cases hr : ans a x y z with
    | inl v =>
      rw [hr] at c hw
      exact yT_s (by rw [u.1]; omega) (j := b + 1) hw (by omega) (c _ (yQ_pu h5))
    | inr e =>
      rw [hr] at c hw
      have c : r = .inr e := c
      subst c
      exact ⟨1, yTm_x (by rw [u.1]; omega) hw⟩
  · rw [if_neg (fun z => q z.2)] at hw
    rw [hL (by omega)] at c
    have c : r = .inr 14 := c
    subst c
    exact ⟨1, yTm_x (by rw [u.1]; omega) hw⟩

