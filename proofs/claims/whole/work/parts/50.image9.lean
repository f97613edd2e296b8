/-! Image.answer -/
def xAc (sc : Nat × (Nat → Int32)) (h ca fa B M : Nat) (L : Nat → Nat) (O : Nat → Nat → Nat) (F S : Nat → Nat → Int32) (m f : Nat) : Prop := ∀ (u : xv_M) (x y z : Int32), xMI u h ca fa B L O F S →
  (∀ v, xAn M L O F S m f x y z = .inl v → xv_C sc (4 * m + 12) J_Image_answer [.ref h, .int (nI f), .int x, .int y, .int z] u (xv_N u) (xv_S u) (xv_pi (fun r w => r = v ∧ xSi (xSF B f) u w))) ∧
  ∀ k, xAn M L O F S m f x y z = .inr k → xv_C sc (4 * m + 12) J_Image_answer [.ref h, .int (nI f), .int x, .int y, .int z] u (xv_N u + 1) (xv_S u + 6) (xv_px k (fun e w => ∃ w0, xSi (xSF B f) u w0 ∧ e = xv_N u ∧ w = xv_nw w0 (k + 1) 0 6))
/-- a step, whatever unit it is -/
theorem c_stepN {sc : Nat × (Nat → Int32)} {u : xv_M} {h ca fa B M m f p : Nat} {L : Nat → Nat} {O : Nat → Nat → Nat} {F S : Nat → Nat → Int32} {G : Nat → Nat → Nat → Prop} {σ : xZ} (hG : xGd L O F S G) (ih : ∀ a, a < m → a < 8 → 0 < L a → xAc sc h ca fa B M L O F S m a) (H : xMI u h ca fa B L O F S) (hf : f < 8) (hfm : f ≤ m) (hs : xFs u (B + 7 * f + 4) σ) (hp : G f p σ.2.2) (h17 : ¬ O f p = 17) {r : Int32} {τ : xZ} (hst : xStep (xAn M L O F S m) L f (O f p) (F f p) (S f p) p σ = .inl (r, τ)) : xv_C sc (4 * m + 15) J_Image_perform [.ref h, .int (nI f), .int (nI p)] u (xv_N u) (xv_S u) (xv_pi (fun r' w => r' = r ∧ xFs w (B + 7 * f + 4) τ ∧ xSi (xSF B f) u w)) ∨ xv_C sc 3 J_Image_perform [.ref h, .int (nI f), .int (nI p)] u (xv_N u) (xv_S u) (xv_pi (fun r' w => r' = r ∧ xFs w (B + 7 * f + 4) τ ∧ xSi (xSF B f) u w)) := by
  obtain ⟨g1, g2, -, -, -⟩ := hG.2 f p _ hf hp
  by_cases e16 : O f p = 16
  · left
    obtain ⟨a, ha, eFa⟩ := g2.2.2.2.2.2.2 e16
    have hca : (nI a).toNatClampNeg = a := nI_clamp (by omega)
    unfold xStep at hst
    rw [if_neg (by omega), if_neg (by omega), if_neg (by omega), if_neg (by omega), if_neg (by omega), if_pos e16, eFa, hca] at hst
    by_cases c : a < f ∧ 0 < L a
    · rw [if_pos c] at hst
      unfold xCl at hst
      split at hst
      · rename_i v hv
        cases hst
        exact c_Image_perform_c (d := 4 * m + 12) H hf g1 hs g2 e16 eFa ha c.1 c.2 (fun u' H' => (ih a (by omega) ha c.2 u' _ _ _ H').1 v hv)
      · cases hst
    · rw [if_neg c] at hst
      cases hst
  · right
    exact c_Image_perform H hf g1 hs g2 h17 e16 hst
theorem c_stepX {sc : Nat × (Nat → Int32)} {u : xv_M} {h ca fa B M m f p : Nat} {L : Nat → Nat} {O : Nat → Nat → Nat} {F S : Nat → Nat → Int32} {G : Nat → Nat → Nat → Prop} {σ : xZ} (hG : xGd L O F S G) (ih : ∀ a, a < m → a < 8 → 0 < L a → xAc sc h ca fa B M L O F S m a) (H : xMI u h ca fa B L O F S) (hf : f < 8) (hfm : f ≤ m) (hs : xFs u (B + 7 * f + 4) σ) (hp : G f p σ.2.2) (h17 : ¬ O f p = 17) {k : Nat} (hst : xStep (xAn M L O F S m) L f (O f p) (F f p) (S f p) p σ = .inr k) : xv_C sc (4 * m + 15) J_Image_perform [.ref h, .int (nI f), .int (nI p)] u (xv_N u + 1) (xv_S u + 6) (xv_px k (fun e w => ∃ w0, xSi (xSF B f) u w0 ∧ e = xv_N u ∧ w = xv_nw w0 (k + 1) 0 6)) ∨ xv_C sc 9 J_Image_perform [.ref h, .int (nI f), .int (nI p)] u (xv_N u + 1) (xv_S u + 6) (xv_px k (fun e w => ∃ w0, xSi (xSF B f) u w0 ∧ e = xv_N u ∧ w = xv_nw w0 (k + 1) 0 6)) := by
  obtain ⟨g1, g2, -, -, -⟩ := hG.2 f p _ hf hp
  by_cases e16 : O f p = 16
  · left
    obtain ⟨a, ha, eFa⟩ := g2.2.2.2.2.2.2 e16
    have hca : (nI a).toNatClampNeg = a := nI_clamp (by omega)
    unfold xStep at hst
    rw [if_neg (by omega), if_neg (by omega), if_neg (by omega), if_neg (by omega), if_neg (by omega), if_pos e16, eFa, hca] at hst
    by_cases c : a < f ∧ 0 < L a
    · rw [if_pos c] at hst
      unfold xCl at hst
      split at hst
      · cases hst
      · rename_i k' hv
        cases hst
        exact c_Image_perform_cx (d := 4 * m + 12) H hf g1 hs g2 e16 eFa ha c.1 c.2 (fun u' H' => (ih a (by omega) ha c.2 u' _ _ _ H').2 _ hv)
    · rw [if_neg c] at hst
      cases hst
      exact c_Image_perform_ci (d := 4 * m + 12) H hf g1 hs g2 e16 eFa ha c (by omega)
  · right
    exact c_Image_perform_z H hf g1 hs g2 h17 e16 hst

