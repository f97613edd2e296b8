/-! a step of the image: pure -/
def xTop (σ : xZ) : Int32 := if σ.2.2 = 0 then 0 else xTp σ
def xSv (σ : xZ) (v : Nat) (x : Int32) : xZ := (upd σ.1 v x, σ.2)
abbrev xRs : Type := Int32 ⊕ Nat
def xCl (r : xRs) (pc : Nat) (σ : xZ) : (Int32 × xZ) ⊕ Nat := match r with
  | .inl v => .inl (nI (pc + 1), xPu σ v)
  | .inr k => .inr k
def xStep (ans : Nat → Int32 → Int32 → Int32 → xRs) (L : Nat → Nat) (f o : Nat) (fi se : Int32) (pc : Nat) (σ : xZ) : (Int32 × xZ) ⊕ Nat :=
  if o = 0 then .inl (nI (pc + 1), xPu σ fi)
  else if o = 1 then .inl (nI (pc + 1), xPu σ (σ.1 fi.toNatClampNeg))
  else if o = 13 then .inl (nI (pc + 1), xSv (xPo σ) fi.toNatClampNeg (xTp σ))
  else if o = 14 then .inl (if xSo fi (xTp σ) = true then nI (pc + 1) else se, xPo σ)
  else if o = 15 then .inl (fi, σ)
  else if o = 16 then (if fi.toNatClampNeg < f ∧ 0 < L fi.toNatClampNeg then xCl (ans fi.toNatClampNeg (xTp (xPo (xPo σ))) (xTp (xPo σ)) (xTp σ)) pc (xPo (xPo (xPo σ))) else .inr 14)
  else if (o = 5 ∨ o = 6) ∧ xTp σ = 0 then .inr 13
  else .inl (nI (pc + 1), xRw o σ)
def xSF (B f b : Nat) : Prop := ∃ g, g ≤ f ∧ xFS (B + 7 * g + 4) b
def xMI (u : xv_M) (h ca fa B : Nat) (L : Nat → Nat) (O : Nat → Nat → Nat) (F S : Nat → Nat → Int32) : Prop := xIm u h ca fa B ∧ ∀ g, g < 8 → xUn u (B + 7 * g) (L g) (O g) (F g) (S g)
theorem xSi_MI {u w : xv_M} {h ca fa B f : Nat} {L : Nat → Nat} {O : Nat → Nat → Nat} {F S : Nat → Nat → Int32} (z : xSi (xSF B f) u w) (H : xMI u h ca fa B L O F S) : xMI w h ca fa B L O F S := by
  refine ⟨xSi_Im z H.1, fun g hg => ?_⟩
  have key : ∀ i, i ≤ 3 → xv_i w (B + 7 * g + i) = xv_i u (B + 7 * g + i) := fun i hi => z.2.2.2.2.2.2 _ (fun q => by
    obtain ⟨g', -, hq⟩ := q
    unfold xFS at hq
    omega)
  have k0 : xv_i w (B + 7 * g) = xv_i u (B + 7 * g) := key 0 (by decide)
  unfold xUn
  rw [k0, key 1 (by decide), key 2 (by decide), key 3 (by decide)]
  exact H.2 g hg
/-- what a unit wants: how many values, and its operand -/
def xOk (o : Nat) (fi : Int32) (n : Nat) : Prop := xTa o ≤ n ∧ n - xTa o + xLe o ≤ 42 ∧ n ≤ 42 ∧ o < 22 ∧ (o = 1 ∨ o = 13 → ∃ v, v < 7 ∧ fi = nI v) ∧ (o = 14 → ∃ t, t < 6 ∧ fi = nI t) ∧ (o = 16 → ∃ a, a < 8 ∧ fi = nI a)
theorem c_Frame_pop0 {sc : Nat × (Nat → Int32)} {u : xv_M} {h v s : Nat} (hF : xv_Fr u h v s) (hn : xv_i u h 2 = 0) : xv_C sc 0 J_Frame_pop [.ref h] u (xv_N u) (xv_S u) (xv_pi (fun r w => r = 0 ∧ w = u)) := by
  obtain ⟨k0, r0, r1, kv, lv, ks, ls⟩ := hF
  refine xv_C_of (by decide) (Nat.le_refl _) (Nat.le_refl _) (xv_cat1 rfl) (Nat.le_of_ble_eq_true rfl) ?_
  show xv_X sc 0 J_Frame_pop 0 [some (.ref h)] [] u (xv_N u) (xv_S u) _
  refine xv_aload_n (pc := 0) d_Frame_pop_0 rfl rfl ?_
  refine xv_getI (pc := 1) d_Frame_pop_1 f_Frame_24 rfl k0 ?_
  refine xv_if_ne (pc := 4) 9 d_Frame_pop_4 (by decide) (fun h4 => ?_) (fun h4 => ?_)
  · exact absurd hn h4
  · refine xv_iconst (pc := 7) 0 d_Frame_pop_7 (by decide) ?_
    exact xv_retiq (pc := 8) d_Frame_pop_8 rfl rfl rfl ⟨_, rfl, rfl, rfl⟩
theorem xRk_of {o n : Nat} {fi : Int32} (h : xOk o fi n) (ho : xRo o) : xRk o n := by
  obtain ⟨h1, h2, h3, -⟩ := h
  unfold xRo at ho
  have key : ∀ o, o < 22 → (o ≤ 11 → 2 ≤ o → xTa o = 2) ∧ (o = 12 → xTa o = 1) ∧ (o = 18 → xTa o = 1) ∧ (o = 19 → xTa o = 1 ∧ xLe o = 2) ∧ (o = 20 → xTa o = 2) := by decide +kernel
  obtain ⟨a1, a2, a3, a4, a5⟩ := key o (by omega)
  refine ⟨fun e => ?_, fun e => ?_, fun e => ?_, fun e => ?_, fun e => ?_, h3⟩
  · have := a1 e (by omega); omega
  · have := a2 e; omega
  · have := a3 e; omega
  · have := a4 e; omega
  · have := a5 e; omega
theorem xTa_16 : xTa 16 = 3 := by decide
theorem xTa_13 : xTa 13 = 1 := by decide
theorem xTa_14 : xTa 14 = 1 := by decide
theorem xLe_0 : xLe 0 = 1 := by decide
theorem xLe_1 : xLe 1 = 1 := by decide
theorem xTa_0 : xTa 0 = 0 := by decide
theorem xTa_1 : xTa 1 = 0 := by decide

