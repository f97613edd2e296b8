/-! the run of verified code ends, also of forged code -/
/-- heights that go with the steps -/
def yGs (step : Nat → xZ → (Int32 × xZ) ⊕ Nat) (O : Nat → Nat) (G : Nat → Nat → Prop) : Prop := ∀ p (σ τ : xZ) r, G p σ.2.2 → ¬ O p = 17 → step p σ = .inl (r, τ) → ∃ q, q < 1000 ∧ r = nI q ∧ G q τ.2.2
def yR (step : Nat → xZ → (Int32 × xZ) ⊕ Nat) (O : Nat → Nat) (K pc : Nat) (σ : xZ) : Prop := ∃ r k, k ≤ K ∧ xTm step O k pc σ r
theorem yR_mono {step : Nat → xZ → (Int32 × xZ) ⊕ Nat} {O : Nat → Nat} {K K' pc : Nat} {σ : xZ} (h : yR step O K pc σ) (hK : K ≤ K') : yR step O K' pc σ := by
  obtain ⟨r, k, h1, h2⟩ := h
  exact ⟨r, k, by omega, h2⟩
theorem yR_s {step : Nat → xZ → (Int32 × xZ) ⊕ Nat} {O : Nat → Nat} {G : Nat → Nat → Prop} {K K' b j : Nat} {σ τ : xZ} (hG : yGs step O G) (g : G b σ.2.2) (h17 : ¬ O b = 17) (hs : step b σ = .inl (nI j, τ)) (hj : j < 1000) (hK : K' = K + 1) (c : G j τ.2.2 → yR step O K j τ) : yR step O K' b σ := by
  subst hK
  obtain ⟨q, hq, e, g'⟩ := hG b σ τ _ g h17 hs
  have e : j = q := (nI_eq (by omega) (by omega)).mp e
  subst e
  obtain ⟨r, k, h1, h2⟩ := c g'
  exact ⟨r, k + 1, by omega, yTm_s h17 hs hj h2⟩
theorem yR_n {ans : Nat → Int32 → Int32 → Int32 → xRs} {L : Nat → Nat} {f : Nat} {U : yU} {G : Nat → Nat → Prop} {K K' b : Nat} {σ : xZ} (hG : yGs (yStp ans L f U) U.1 G) (g : G b σ.2.2) (h13 : ¬ U.1 b = 13) (h14 : ¬ U.1 b = 14) (h15 : ¬ U.1 b = 15) (hb : b < 900) (hK : K' = K + 1) (c : ∀ τ : xZ, τ.1 = σ.1 → G (b + 1) τ.2.2 → (yR (yStp ans L f U) U.1) K (b + 1) τ) : (yR (yStp ans L f U) U.1) K' b σ := by
  by_cases h17 : U.1 b = 17
  · exact ⟨_, 1, by omega, yTm_17 h17⟩
  have key : (∃ e, (yStp ans L f U) b σ = .inr e) ∨ ∃ τ : xZ, (yStp ans L f U) b σ = .inl (nI (b + 1), τ) ∧ τ.1 = σ.1 := by
    unfold yStp xStep
    by_cases h0 : U.1 b = 0
    · rw [if_pos h0]; exact Or.inr ⟨_, rfl, rfl⟩
    rw [if_neg h0]
    by_cases h1 : U.1 b = 1
    · rw [if_pos h1]; exact Or.inr ⟨_, rfl, rfl⟩
    rw [if_neg h1, if_neg h13, if_neg h14, if_neg h15]
    by_cases h16 : U.1 b = 16
    · rw [if_pos h16]
      by_cases q : (U.2.1 b).toNatClampNeg < f ∧ 0 < L (U.2.1 b).toNatClampNeg
      · rw [if_pos q]
        cases ans (U.2.1 b).toNatClampNeg (xTp (xPo (xPo σ))) (xTp (xPo σ)) (xTp σ) with
        | inl v => exact Or.inr ⟨_, rfl, rfl⟩
        | inr e => exact Or.inl ⟨_, rfl⟩
      · rw [if_neg q]; exact Or.inl ⟨_, rfl⟩
    rw [if_neg h16]
    by_cases q : (U.1 b = 5 ∨ U.1 b = 6) ∧ xTp σ = 0
    · rw [if_pos q]; exact Or.inl ⟨_, rfl⟩
    rw [if_neg q]
    refine Or.inr ⟨_, rfl, ?_⟩
    unfold xRw
    split
    · rfl
    split
    · rfl
    split
    · rfl
    split
    · rfl
    split <;> rfl
  rcases key with ⟨e, h⟩ | ⟨τ, h, e⟩
  · exact ⟨_, 1, by omega, yTm_x h17 h⟩
  · exact yR_s hG g h17 h (by omega) hK (fun g' => c τ e g')
theorem yR_13 {ans : Nat → Int32 → Int32 → Int32 → xRs} {L : Nat → Nat} {f : Nat} {U : yU} {G : Nat → Nat → Prop} {K K' b v : Nat} {σ : xZ} (hG : yGs (yStp ans L f U) U.1 G) (g : G b σ.2.2) (u : yAt U b 13 (nI v)) (hv : v < 7) (hb : b < 900) (hK : K' = K + 1) (c : ∀ τ : xZ, τ.1 = upd σ.1 v (xTp σ) → G (b + 1) τ.2.2 → (yR (yStp ans L f U) U.1) K (b + 1) τ) : (yR (yStp ans L f U) U.1) K' b σ := by
  refine yR_s (j := b + 1) (τ := xSv (xPo σ) v (xTp σ)) hG g (by rw [u.1]; omega) ?_ (by omega) hK (fun g' => c _ rfl g')
  unfold yStp xStep
  rw [u.1, u.2, if_neg (by omega), if_neg (by omega), if_pos rfl, nI_clamp (by omega)]
theorem yR_14 {ans : Nat → Int32 → Int32 → Int32 → xRs} {L : Nat → Nat} {f : Nat} {U : yU} {G : Nat → Nat → Prop} {K K' b q : Nat} {t : Int32} {σ : xZ} (hG : yGs (yStp ans L f U) U.1 G) (g : G b σ.2.2) (u : yAt U b 14 t) (e : U.2.2.1 b = nI q) (hq : q < 1000) (hb : b < 900) (hK : K' = K + 1) (c : ∀ τ : xZ, τ.1 = σ.1 → G (if xSo t (xTp σ) = true then b + 1 else q) τ.2.2 → (yR (yStp ans L f U) U.1) K (if xSo t (xTp σ) = true then b + 1 else q) τ) : (yR (yStp ans L f U) U.1) K' b σ := by
  refine yR_s (j := if xSo t (xTp σ) = true then b + 1 else q) (τ := xPo σ) hG g (by rw [u.1]; omega) ?_ (by split <;> omega) hK (fun g' => c _ rfl g')
  unfold yStp xStep
  rw [u.1, u.2, e, if_neg (by omega), if_neg (by omega), if_neg (by omega), if_pos rfl]
  congr 2
  split <;> rfl
theorem yR_15 {ans : Nat → Int32 → Int32 → Int32 → xRs} {L : Nat → Nat} {f : Nat} {U : yU} {G : Nat → Nat → Prop} {K K' b q : Nat} {σ : xZ} (hG : yGs (yStp ans L f U) U.1 G) (g : G b σ.2.2) (u : yAt U b 15 (nI q)) (hq : q < 1000) (hK : K' = K + 1) (c : G q σ.2.2 → (yR (yStp ans L f U) U.1) K q σ) : (yR (yStp ans L f U) U.1) K' b σ := by
  refine yR_s (j := q) (τ := σ) hG g (by rw [u.1]; omega) ?_ hq hK c
  unfold yStp xStep
  rw [u.1, u.2, if_neg (by omega), if_neg (by omega), if_neg (by omega), if_neg (by omega), if_pos rfl]
theorem yR_0 {ans : Nat → Int32 → Int32 → Int32 → xRs} {L : Nat → Nat} {f : Nat} {U : yU} {G : Nat → Nat → Prop} {K K' b : Nat} {a : Int32} {σ : xZ} (hG : yGs (yStp ans L f U) U.1 G) (g : G b σ.2.2) (u : yAt U b 0 a) (hb : b < 900) (hK : K' = K + 1) (c : G (b + 1) (xPu σ a).2.2 → (yR (yStp ans L f U) U.1) K (b + 1) (xPu σ a)) : (yR (yStp ans L f U) U.1) K' b σ := by
  refine yR_s (j := b + 1) (τ := xPu σ a) hG g (by rw [u.1]; omega) ?_ (by omega) hK c
  unfold yStp xStep
  rw [u.1, u.2, if_pos rfl]
theorem yR_1 {ans : Nat → Int32 → Int32 → Int32 → xRs} {L : Nat → Nat} {f : Nat} {U : yU} {G : Nat → Nat → Prop} {K K' b v : Nat} {σ : xZ} (hG : yGs (yStp ans L f U) U.1 G) (g : G b σ.2.2) (u : yAt U b 1 (nI v)) (hv : v < 7) (hb : b < 900) (hK : K' = K + 1) (c : G (b + 1) (xPu σ (σ.1 v)).2.2 → (yR (yStp ans L f U) U.1) K (b + 1) (xPu σ (σ.1 v))) : (yR (yStp ans L f U) U.1) K' b σ := by
  refine yR_s (j := b + 1) (τ := xPu σ (σ.1 v)) hG g (by rw [u.1]; omega) ?_ (by omega) hK c
  unfold yStp xStep
  rw [u.1, u.2, if_neg (by omega), if_pos rfl, nI_clamp (by omega)]
theorem yTp_pu {σ : xZ} {x : Int32} : xTp (xPu σ x) = x := by
  show upd σ.2.1 σ.2.2 x (σ.2.2 + 1 - 1) = x
  rw [Nat.add_sub_cancel, pk_us]
theorem yPo_pu {σ : xZ} {x : Int32} : (xPo (xPu σ x)).1 = σ.1 ∧ (xPo (xPu σ x)).2.2 = σ.2.2 := ⟨rfl, Nat.add_sub_cancel _ _⟩
theorem yTp_po {σ : xZ} {x y : Int32} : xTp (xPo (xPu (xPu σ x) y)) = x := by
  show upd (upd σ.2.1 σ.2.2 x) (σ.2.2 + 1) y (σ.2.2 + 1 + 1 - 1 - 1) = x
  rw [show σ.2.2 + 1 + 1 - 1 - 1 = σ.2.2 by omega, pk_un (by omega), pk_us]
/-- a marked unit that takes two -/
theorem yR_w {ans : Nat → Int32 → Int32 → Int32 → xRs} {L : Nat → Nat} {f : Nat} {U : yU} {G : Nat → Nat → Prop} {K K' b o : Nat} {x y : Int32} {σ : xZ} (hG : yGs (yStp ans L f U) U.1 G) (g : G b σ.2.2) (u : U.1 b = o) (ho : o = 3 ∨ o = 7) (hb : b < 900) (hK : K' = K + 1) (e1 : xTp (xPo σ) = x) (e2 : xTp σ = y) (c : ∀ τ : xZ, τ.1 = σ.1 → xTp τ = xOp o x y → G (b + 1) τ.2.2 → (yR (yStp ans L f U) U.1) K (b + 1) τ) : (yR (yStp ans L f U) U.1) K' b σ := by
  refine yR_s (j := b + 1) (τ := xPu (xPo (xPo σ)) (xOp o x y)) hG g (by rw [u]; omega) ?_ (by omega) hK (fun g' => c _ rfl yTp_pu g')
  rw [yStp_w u (by omega) (by omega) (by omega) (by omega) (by omega) (by omega), if_neg (by omega)]
  unfold xRw
  rw [if_neg (by omega), if_neg (by omega), if_neg (by omega), if_neg (by omega), if_neg (by omega), e1, e2]
/-! a form's units -/
def yKp (γ : Nat) (σ τ : xZ) : Prop := ∀ i, i < 7 → γ.testBit i = true → τ.1 i = σ.1 i
theorem yKp_tr {γ : Nat} {σ τ ρ : xZ} (h : yKp γ σ τ) (g : yKp γ τ ρ) : yKp γ σ ρ := fun i hi hb => (g i hi hb).trans (h i hi hb)
theorem yKp_e {γ : Nat} {σ τ : xZ} (h : τ.1 = σ.1) : yKp γ σ τ := fun i _ _ => by rw [h]
theorem yKp_m {γ γ' : Nat} {σ τ : xZ} (h : yKp γ' σ τ) (hs : ∀ b, γ.testBit b = true → γ'.testBit b = true) : yKp γ σ τ := fun i hi hb => h i hi (hs i hb)
theorem yKp_v {γ v : Nat} {σ τ : xZ} {x : Int32} (hv : γ.testBit v = false) (h : τ.1 = upd σ.1 v x) : yKp γ σ τ := by
  intro i hi hb
  rw [h]
  refine pk_un (fun e => ?_)
  rw [e, hv] at hb
  cases hb
def yEn (R : Nat → Nat → xZ → Prop) (G : Nat → Nat → Prop) (γ b e C : Nat) : Prop := ∀ (σ : xZ) (K : Nat), G b σ.2.2 → (∀ τ, G e τ.2.2 → yKp γ σ τ → R K e τ) → R (K + C) b σ
theorem yEn_n {ans : Nat → Int32 → Int32 → Int32 → xRs} {L : Nat → Nat} {f : Nat} {U : yU} {G : Nat → Nat → Prop} {γ b : Nat} (hG : yGs (yStp ans L f U) U.1 G) (h13 : ¬ U.1 b = 13) (h14 : ¬ U.1 b = 14) (h15 : ¬ U.1 b = 15) (hb : b < 900) : yEn (yR (yStp ans L f U) U.1) G γ b (b + 1) 1 := by
  intro σ K g c
  exact yR_n hG g h13 h14 h15 hb rfl (fun τ e g' => c τ g' (yKp_e e))
theorem yEn_v {ans : Nat → Int32 → Int32 → Int32 → xRs} {L : Nat → Nat} {f : Nat} {U : yU} {G : Nat → Nat → Prop} {γ b v : Nat} (hG : yGs (yStp ans L f U) U.1 G) (u : yAt U b 13 (nI v)) (hv : v < 7) (hγ : γ.testBit v = false) (hb : b < 900) : yEn (yR (yStp ans L f U) U.1) G γ b (b + 1) 1 := by
  intro σ K g c
  exact yR_13 hG g u hv hb rfl (fun τ e g' => c τ g' (yKp_v hγ e))
theorem yEn_s {ans : Nat → Int32 → Int32 → Int32 → xRs} {L : Nat → Nat} {f : Nat} {U : yU} {G : Nat → Nat → Prop} {γ a b e C D F : Nat} (h1 : yEn (yR (yStp ans L f U) U.1) G γ a b C) (h2 : yEn (yR (yStp ans L f U) U.1) G γ b e D) (hF : F = C + D) : yEn (yR (yStp ans L f U) U.1) G γ a e F := by
  intro σ K g c
  subst hF
  rw [show K + (C + D) = (K + D) + C by omega]
  exact h1 σ (K + D) g (fun τ g' k1 => h2 τ K g' (fun ρ g2 k2 => c ρ g2 (yKp_tr k1 k2)))
theorem yEn_m {ans : Nat → Int32 → Int32 → Int32 → xRs} {L : Nat → Nat} {f : Nat} {U : yU} {G : Nat → Nat → Prop} {γ γ' b e C : Nat} (h : yEn (yR (yStp ans L f U) U.1) G γ' b e C) (hs : ∀ b, γ.testBit b = true → γ'.testBit b = true) : yEn (yR (yStp ans L f U) U.1) G γ b e C := by
  intro σ K g c
  exact h σ K g (fun τ g' k => c τ g' (yKp_m k hs))
theorem yEn_le {ans : Nat → Int32 → Int32 → Int32 → xRs} {L : Nat → Nat} {f : Nat} {U : yU} {G : Nat → Nat → Prop} {γ b e e' C D : Nat} (h : yEn (yR (yStp ans L f U) U.1) G γ b e C) (hD : C ≤ D) (he : e' = e) (hR : True) : yEn (yR (yStp ans L f U) U.1) G γ b e' D := by
  intro σ K g c
  subst he
  exact yR_mono (h σ K g c) (by omega)
theorem yEn_if {ans : Nat → Int32 → Int32 → Int32 → xRs} {L : Nat → Nat} {f : Nat} {U : yU} {G : Nat → Nat → Prop} {γ b z0 z1 z2 C0 C1 C2 : Nat} {t : Int32} (hG : yGs (yStp ans L f U) U.1 G) (p0 : yEn (yR (yStp ans L f U) U.1) G γ b (b + z0) C0) (p1 : yEn (yR (yStp ans L f U) U.1) G γ (b + z0 + 1) (b + z0 + 1 + z1) C1) (p2 : yEn (yR (yStp ans L f U) U.1) G γ (b + z0 + 1 + z1 + 1) (b + z0 + 1 + z1 + 1 + z2) C2) (hb : b + z0 + z1 + z2 + 2 < 900) (u : yAt U (b + z0) 14 t) (v : U.2.2.1 (b + z0) = nI (b + z0 + 1 + z1 + 1)) (w : yAt U (b + z0 + 1 + z1) 15 (nI (b + z0 + 1 + z1 + 1 + z2))) : yEn (yR (yStp ans L f U) U.1) G γ b (b + z0 + 1 + z1 + 1 + z2) (C0 + C1 + C2 + 2) := by
  intro σ K g c
  refine yR_mono (p0 σ (K + C1 + C2 + 2) g (fun τ g' k1 => ?_)) (by omega)
  refine yR_14 (K := K + C1 + C2 + 1) hG g' u v (by omega) (by omega) (by omega) (fun τ' e g2 => ?_)
  by_cases q : xSo t (xTp τ) = true
  · rw [if_pos q] at g2 ⊢
    refine yR_mono (p1 τ' (K + 1) g2 (fun ρ g3 k3 => ?_)) (by omega)
    exact yR_15 hG g3 w (by omega) rfl (fun g4 => c ρ g4 (yKp_tr k1 (yKp_tr (yKp_e e) k3)))
  · rw [if_neg q] at g2 ⊢
    exact yR_mono (p2 τ' K g2 (fun ρ g3 k3 => c ρ g3 (yKp_tr k1 (yKp_tr (yKp_e e) k3)))) (by omega)
theorem yEn_ti {ans : Nat → Int32 → Int32 → Int32 → xRs} {L : Nat → Nat} {f : Nat} {U : yU} {G : Nat → Nat → Prop} {γ γ' b v z0 z1 C0 C1 : Nat} (hG : yGs (yStp ans L f U) U.1 G) (hv : v < 7) (hγ : γ.testBit v = false) (hs : ∀ b, γ.testBit b = true → γ'.testBit b = true) (hv' : γ'.testBit v = true) (p0 : yEn (yR (yStp ans L f U) U.1) G γ b (b + z0) C0) (p1 : yEn (yR (yStp ans L f U) U.1) G γ' (b + z0 + 5) (b + z0 + 5 + z1) C1) (hb : b + z0 + 5 + z1 + 7 < 900) (u : yL16 U (nI v) (fun _ => True) (fun _ => True) b z0 z1) : yEn (yR (yStp ans L f U) U.1) G γ b (b + z0 + 5 + z1 + 7) (C0 + 62 + 7 * C1) := by
  obtain ⟨-, u0, u1, u2, u3, ⟨u4, u4'⟩, -, v0, v1, v2, v3, v4, v5, v6⟩ := u
  intro σ K g c
  have loop : ∀ c (τ : xZ), τ.1 v = nI c → c < 8 → G (b + z0 + 3) τ.2.2 → yKp γ σ τ → (yR (yStp ans L f U) U.1) (K + 3 + c * (C1 + 8)) (b + z0 + 3) τ := by
    intro i
    induction i with
    | zero =>
      intro τ ht _ g' kp
      refine yR_1 (K := K + 2) hG g' u3 hv (by omega) (by omega) (fun g2 => ?_)
      refine yR_14 (K := K + 1) hG g2 u4 u4' (by omega) (by omega) rfl (fun ρ e g3 => ?_)
      rw [yTp_pu, show xSo 1 (τ.1 v) = !decide (τ.1 v = 0) from rfl, ht, if_neg (by decide)] at g3 ⊢
      exact yR_0 hG g3 v6 (by omega) rfl (fun g4 => c _ g4 (yKp_tr kp (yKp_e (by rw [show (xPu ρ 0).1 = ρ.1 from rfl, e]; rfl))))
    | succ i ih =>
      intro τ ht hi g' kp
      have hne : ¬ τ.1 v = 0 := by rw [ht]; exact nI_ne0 (by omega) (by omega)
      have e : K + 3 + (i + 1) * (C1 + 8) = K + 3 + i * (C1 + 8) + C1 + 8 := by rw [Nat.succ_mul]; omega
      obtain ⟨Q, eQ⟩ : ∃ Q, Q = K + 3 + i * (C1 + 8) := ⟨_, rfl⟩
      rw [e, ← eQ]
      rw [← eQ] at ih
      refine yR_1 (K := Q + C1 + 7) hG g' u3 hv (by omega) (by omega) (fun g2 => ?_)
      refine yR_14 (K := Q + C1 + 6) hG g2 u4 u4' (by omega) (by omega) rfl (fun ρ e g3 => ?_)
      rw [yTp_pu, show xSo 1 (τ.1 v) = !decide (τ.1 v = 0) from rfl, decide_eq_false hne, if_pos (show (!false) = true from rfl)] at g3 ⊢
      have er : ρ.1 = τ.1 := e
      refine yR_mono (p1 ρ (Q + 6) g3 (fun ρ2 g4 k4 => ?_)) (by omega)
      have ev : ρ2.1 v = nI (i + 1) := by rw [k4 v hv hv', er, ht]
      have k5 : yKp γ σ ρ2 := yKp_tr (yKp_tr kp (yKp_e er)) (yKp_m k4 hs)
      refine yR_n (K := Q + 5) hG g4 (by rw [v0.1]; omega) (by rw [v0.1]; omega) (by rw [v0.1]; omega) (by omega) rfl (fun ρ3 e3 g5 => ?_)
      refine yR_1 (K := Q + 4) hG g5 v1 hv (by omega) rfl (fun g6 => ?_)
      refine yR_0 (K := Q + 3) hG g6 v2 (by omega) rfl (fun g7 => ?_)
      refine yR_w (K := Q + 2) hG g7 v3.1 (Or.inl rfl) (by omega) rfl yTp_po yTp_pu (fun ρ4 e4 t4 g8 => ?_)
      refine yR_13 (K := Q + 1) hG g8 v4 hv (by omega) rfl (fun ρ5 e5 g9 => ?_)
      refine yR_15 (K := Q) hG g9 v5 (by omega) rfl (fun g10 => ?_)
      have e4' : ρ4.1 = ρ2.1 := e4.trans e3
      refine ih ρ5 ?_ (by omega) g10 (yKp_tr k5 (yKp_v hγ (x := xTp ρ4) (by rw [e5, e4'])))
      rw [e5, pk_us, t4, e3, ev]
      exact nI_pred _
  refine yR_mono (p0 σ (K + 62 + 7 * C1) g (fun τ g' kp => ?_)) (by omega)
  refine yR_0 (K := K + 61 + 7 * C1) hG g' u0 (by omega) (by omega) (fun g2 => ?_)
  refine yR_w (K := K + 60 + 7 * C1) (y := 7) hG g2 u1.1 (Or.inr rfl) (by omega) (by omega) rfl yTp_pu (fun ρ e3 t3 g3 => ?_)
  refine yR_13 (K := K + 59 + 7 * C1) hG g3 u2 hv (by omega) (by omega) (fun ρ2 e4 g4 => ?_)
  obtain ⟨d, hd, ed⟩ := yAnd7 (xTp (xPo (xPu τ 7)))
  refine yR_mono (loop d ρ2 (by rw [e4, pk_us, t3]; exact ed) hd g4 (yKp_tr kp (yKp_v hγ (x := xTp ρ) (by rw [e4, e3]; rfl)))) ?_
  have : d * (C1 + 8) ≤ 7 * (C1 + 8) := Nat.mul_le_mul_right _ (by omega)
  omega
/-! every form; the whole code -/
theorem yEn_o {ans : Nat → Int32 → Int32 → Int32 → xRs} {L : Nat → Nat} {f : Nat} {U : yU} {G : Nat → Nat → Prop} {γ b o w : Nat} {a : Int32} {P : Nat → Nat → Prop} {Y : Nat → Nat → Prop} {z : Nat → Nat} (hG : yGs (yStp ans L f U) U.1 G) (hP : ∀ i o, (2 ≤ o ∧ o ≤ 12) ∨ o = 19 → P i o → yFo (U.1 i)) (ho : o < 18) (hvv : o = 14 ∨ o = 15 → ∃ v, v < 7 ∧ γ.testBit v = false ∧ a = nI v) (hw : 1 ≤ w) (h16 : o = 16 → ∃ v w' γ', v < 7 ∧ γ.testBit v = false ∧ a = nI v ∧ w = 8 * w' ∧ γ'.testBit v = true ∧ (∀ b, γ.testBit b = true → γ'.testBit b = true) ∧ (∀ b, b + z 0 ≤ 265 → Y 0 b → yEn (yR (yStp ans L f U) U.1) G γ b (b + z 0) (w' * z 0)) ∧ ∀ b, b + z 1 ≤ 265 → Y 1 b → yEn (yR (yStp ans L f U) U.1) G γ' b (b + z 1) (w' * z 1)) (part : ¬ o = 16 → ∀ j, j < xPa o → ∀ b, b + z j ≤ 265 → Y j b → yEn (yR (yStp ans L f U) U.1) G γ b (b + z j) (w * z j)) (hb : b + (xOwn o + xSumN z (xPa o)) ≤ 265) (h : yLo P U Y z o a b) : yEn (yR (yStp ans L f U) U.1) G γ b (b + (xOwn o + xSumN z (xPa o))) (w * (xOwn o + xSumN z (xPa o))) := by
  obtain ⟨p13, p17, p14, p16, p12, p15, p0, p1, o13, o17, o14, o16, o12, o15, o0, o1⟩ := yPa_3
  by_cases q0 : o = 0
  · subst q0; rw [o0, p0] at hb ⊢
    have h : yAt U b 0 a := h
    exact yEn_le (yEn_n hG (by rw [h.1]; omega) (by rw [h.1]; omega) (by rw [h.1]; omega) (by omega)) (by show 1 ≤ w * 1; omega) rfl trivial
  by_cases q1 : o = 1
  · subst q1; rw [o1, p1] at hb ⊢
    have h : yAt U b 1 a := h
    exact yEn_le (yEn_n hG (by rw [h.1]; omega) (by rw [h.1]; omega) (by rw [h.1]; omega) (by omega)) (by show 1 ≤ w * 1; omega) rfl trivial
  by_cases q12 : o = 12
  · subst q12; rw [p12] at part; rw [o12, p12, xSumN_1] at hb ⊢
    obtain ⟨y0, u⟩ : yL12 P (Y 0) b (z 0) := h
    have u := hP _ _ (by omega) u
    unfold yFo at u
    have e : w * (1 + z 0) = w + w * z 0 := by rw [Nat.mul_add, Nat.mul_one]
    exact yEn_le (yEn_s (part (by omega) 0 (by omega) b (by omega) y0) (yEn_n hG (by omega) (by omega) (by omega) (by omega)) rfl) (by omega) (by omega) trivial
  by_cases q13 : o = 13
  · subst q13; rw [p13] at part; rw [o13, p13, xSumN_3] at hb ⊢
    obtain ⟨y0, u, v, y1, w5, y2⟩ : yL13 _ _ _ _ _ _ _ _ _ := h
    have e : w * (2 + (z 0 + z 1 + z 2)) = 2 * w + w * z 0 + w * z 1 + w * z 2 := by simp only [Nat.mul_add]; omega
    exact yEn_le (yEn_if hG (part (by omega) 0 (by omega) b (by omega) y0) (part (by omega) 1 (by omega) _ (by omega) y1) (part (by omega) 2 (by omega) _ (by omega) y2) (by omega) u v w5) (by omega) (by omega) trivial
  by_cases q14 : o = 14
  · subst q14; rw [p14] at part; rw [o14, p14, xSumN_2] at hb ⊢
    obtain ⟨v, hv, hγ, rfl⟩ := hvv (by omega)
    obtain ⟨y0, u, y1⟩ : yL14 _ _ _ _ _ _ := h
    have e : w * (1 + (z 0 + z 1)) = w + w * z 0 + w * z 1 := by simp only [Nat.mul_add]; omega
    exact yEn_le (yEn_s (part (by omega) 0 (by omega) b (by omega) y0) (yEn_s (yEn_v hG u hv hγ (by omega)) (part (by omega) 1 (by omega) _ (by omega) y1) rfl) rfl) (by omega) (by omega) trivial
  by_cases q15 : o = 15
  · subst q15; rw [p15] at part; rw [o15, p15, xSumN_1] at hb ⊢
    obtain ⟨v, hv, hγ, rfl⟩ := hvv (by omega)
    obtain ⟨y0, u, u2⟩ : yL15 P U (nI v) (Y 0) b (z 0) := h
    have u := hP _ _ (by omega) u
    unfold yFo at u
    have e : w * (2 + z 0) = 2 * w + w * z 0 := by simp only [Nat.mul_add]; omega
    exact yEn_le (yEn_s (part (by omega) 0 (by omega) b (by omega) y0) (yEn_s (yEn_n hG (by omega) (by omega) (by omega) (by omega)) (yEn_v hG u2 hv hγ (by omega)) rfl) rfl) (by omega) (by omega) trivial
  by_cases q16 : o = 16
  · subst q16; rw [o16, p16, xSumN_2] at hb ⊢
    obtain ⟨v, w', γ', hv, hγ, rfl, ew, hv', hs, r0, r1⟩ := h16 rfl
    have h : yL16 U (nI v) (Y 0) (Y 1) b (z 0) (z 1) := h
    have h' : yL16 U (nI v) (fun _ => True) (fun _ => True) b (z 0) (z 1) := ⟨trivial, h.2.1, h.2.2.1, h.2.2.2.1, h.2.2.2.2.1, h.2.2.2.2.2.1, trivial, h.2.2.2.2.2.2.2⟩
    have e : w * (12 + (z 0 + z 1)) = 96 * w' + 8 * (w' * z 0) + 8 * (w' * z 1) := by rw [ew]; simp only [Nat.mul_add, Nat.mul_assoc]; omega
    exact yEn_le (yEn_ti hG hv hγ hs hv' (r0 b (by omega) h.1) (r1 _ (by omega) h.2.2.2.2.2.2.1) (by omega) h') (by omega) (by omega) trivial
  by_cases q17 : o = 17
  · subst q17; rw [p17] at part; rw [o17, p17, xSumN_3] at hb ⊢
    obtain ⟨y0, y1, y2, u⟩ : yL17 _ _ _ _ _ _ _ _ _ := h
    have e : w * (1 + (z 0 + z 1 + z 2)) = w + w * z 0 + w * z 1 + w * z 2 := by simp only [Nat.mul_add]; omega
    exact yEn_le (yEn_s (part (by omega) 0 (by omega) b (by omega) y0) (yEn_s (part (by omega) 1 (by omega) _ (by omega) y1) (yEn_s (part (by omega) 2 (by omega) _ (by omega) y2) (yEn_n hG (by rw [u.1]; omega) (by rw [u.1]; omega) (by rw [u.1]; omega) (by omega)) rfl) rfl) rfl) (by omega) (by omega) trivial
  have hpa := yPa2 o ho ⟨q0, q1, q13, q15, q17, q12⟩
  rw [hpa.1] at part
  rw [hpa.1, hpa.2, if_neg q16, xSumN_2] at hb ⊢
  unfold yLo at h
  rw [if_neg q0, if_neg q1, if_neg q12, if_neg q13, if_neg q14, if_neg q15, if_neg q16, if_neg q17] at h
  obtain ⟨y0, y1, u⟩ := h
  have u := hP _ _ (by omega) u
  unfold yFo at u
  have e : w * (1 + (z 0 + z 1)) = w + w * z 0 + w * z 1 := by simp only [Nat.mul_add]; omega
  exact yEn_le (yEn_s (part (by omega) 0 (by omega) b (by omega) y0) (yEn_s (part (by omega) 1 (by omega) _ (by omega) y1) (yEn_n hG (by omega) (by omega) (by omega) (by omega)) rfl) rfl) (by omega) (by omega) trivial
theorem yEn_of {ans : Nat → Int32 → Int32 → Int32 → xRs} {L : Nat → Nat} {f : Nat} {U : yU} {G : Nat → Nat → Prop} {P : Nat → Nat → Prop} {O : Nat → Nat} {A : Nat → Int32} {n : Nat} (hG : yGs (yStp ans L f U) U.1 G) (hP : ∀ i o, (2 ≤ o ∧ o ≤ 12) ∨ o = 19 → P i o → yFo (U.1 i)) (hT : xTok O A n) : ∀ (k p b κ γ τ e : Nat), κ < 128 → γ < 128 → τ ≤ 2 → xEk O A n k p (nI κ) (nI γ) (nI τ) = some e → b + xSz O k p ≤ 265 → yLay P U O A k p b → yEn (yR (yStp ans L f U) U.1) G γ b (b + xSz O k p) (8 ^ (2 - τ) * xSz O k p) := by
  intro k
  induction k with
  | zero => intro p b κ γ τ e _ _ _ h; cases h
  | succ k ih =>
    intro p b κ γ τ e hκ hγ hτ h hb hY
    obtain ⟨h1, h2, h3, h4, h5, h6⟩ := xEk_N hT hκ hγ hτ h
    obtain ⟨t1, t2, t3, t4, t5⟩ := hT p h1
    refine yEn_o (z := fun j => xSz O k (xIt (xNx O k) j (p + 1))) hG hP t1 ?_ (Nat.pow_pos (show 0 < 8 by omega)) ?_ ?_ hb hY
    · intro ho
      by_cases q : O p = 15
      · obtain ⟨v, hv, e⟩ := t2 (Or.inr q)
        exact ⟨v, hv, h5 (by omega) v hv e, e⟩
      · obtain ⟨v, -, hv, e⟩ := t3 (by omega)
        exact ⟨v, hv, h5 (by omega) v hv e, e⟩
    · intro ho
      obtain ⟨v, -, hv, e⟩ := t3 (by omega)
      have hτ2 := h6 ho
      obtain ⟨κ', γ', q1, q2, q3, q4, q5⟩ := h4 1 (by rw [ho]; decide)
      obtain ⟨κ0, γ0, r1, r2, r3, r4, r5⟩ := h4 0 (by rw [ho]; decide)
      rw [if_pos ho] at q3 r3
      have e8 : 2 - (τ + 1) + 1 = 2 - τ := by omega
      refine ⟨v, 8 ^ (2 - (τ + 1)), γ', hv, h5 (by omega) v hv e, e, ?_, q5 ho rfl v hv e, q4, fun b hb hY => ?_, fun b hb hY => ?_⟩
      · rw [← e8, Nat.pow_succ, Nat.mul_comm]
      · exact yEn_m (ih _ b κ0 γ0 (τ + 1) _ r1 r2 (by omega) r3 hb hY) r4
      · exact ih _ b κ' γ' (τ + 1) _ q1 q2 (by omega) q3 hb hY
    · intro ho j hj b hb hY
      obtain ⟨κ', γ', q1, q2, q3, q4, q5⟩ := h4 j hj
      rw [if_neg ho] at q3
      exact yEn_m (ih _ b κ' γ' τ _ q1 q2 hτ q3 hb hY) q4

