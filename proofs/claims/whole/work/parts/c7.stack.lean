/-! the heights of a whole code, exactly -/
theorem yWh_Gd {U : yU} {O : Nat → Nat} {A : Nat → Int32} {n B k m : Nat} (hT : xTok O A n) (hB : ∀ p, p < n → O p = 17 → ∀ v, v < 8 → A p = nI v → v < B) (hv : xVF O n k 0) (hm : m ≤ 3) (hz : xSz O k 0 ≤ 250) (h : yWh (fun i o => U.1 i = o) U O A k m) : xGdM (2 * (7 - m) + xSz O k 0 + 1) U.1 U.2.1 U.2.2.1 (yMx O k 0 0) ∧ 1 ≤ yMx O k 0 0 ∧ yMx O k 0 0 ≤ xNx O k 0 := by
  obtain ⟨hp, hL, he⟩ := h
  obtain ⟨b, eb⟩ : ∃ b, b = 2 * (7 - m) := ⟨_, rfl⟩
  obtain ⟨z, ez⟩ : ∃ z, z = xSz O k 0 := ⟨_, rfl⟩
  obtain ⟨g, eg⟩ : ∃ g, g = yMx O k 0 0 := ⟨_, rfl⟩
  obtain ⟨hA, hH⟩ := yAE_of (N := 2 * (7 - m) + xSz O k 0 + 1) hT hB k 0 (2 * (7 - m)) hv hL (by omega)
  obtain ⟨η, s, e, c, d, x0, r⟩ := hH 0
  rw [← eg] at c d x0 ⊢
  rw [← eb] at hA s e d x0 r he ⊢
  rw [← ez] at hA e d x0 r he ⊢
  have he' : U.1 (b + z) = 17 := he
  have hN : yN U B (b + z) := yN_f (by rw [he']; unfold yFo; omega)
  have hpr : ∀ x, x < b → yN U B x ∧ (U.1 x = 0 ∧ x % 2 = 0 ∨ U.1 x = 13 ∧ x % 2 = 1) := by
    intro x hx
    rcases Nat.mod_two_eq_zero_or_one x with q | q
    · have := hp (x / 2) (by omega)
      rw [show 2 * (x / 2) = x by omega] at this
      exact ⟨yN_0 this.1, Or.inl ⟨this.1.1, q⟩⟩
    · have := hp (x / 2) (by omega)
      rw [show 2 * (x / 2) + 1 = x by omega] at this
      exact ⟨yN_v this.2 (Or.inr rfl) (by omega), Or.inr ⟨this.2.1, q⟩⟩
  have hsp : ∀ x, x < b + z + 1 → x < b ∨ (b ≤ x ∧ x < b + z) ∨ x = b + z := by intro x hx; omega
  have hrel : ∀ x, x ≤ b → xRel (b + z + 1) U.1 U.2.1 U.2.2.1 x (x % 2) := by
    intro x
    induction x with
    | zero => intro _; exact ⟨0, rfl, rfl⟩
    | succ x ih =>
      intro hx
      rcases (hpr x (by omega)).2 with ⟨e1, e2⟩ | ⟨e1, e2⟩
      · exact yR1 (a := 0) (l := 1) (ih (by omega)) e1 ⟨rfl, rfl⟩ (by omega) (by omega) (by omega) (by omega) rfl (by omega)
      · exact yR1 (a := 1) (l := 0) (ih (by omega)) e1 ⟨rfl, rfl⟩ (by omega) (by omega) (by omega) (by omega) rfl (by omega)
  have hre := r (by omega) (by have := hrel b (Nat.le_refl _); rwa [show b % 2 = 0 by omega] at this)
  obtain ⟨γ, eγ⟩ : ∃ γ : Nat → Nat, ∀ x, γ x = if x < b then x % 2 else η x := ⟨fun x => if x < b then x % 2 else η x, fun _ => rfl⟩
  have g1 : ∀ x, x < b → γ x = x % 2 := fun x hx => by rw [eγ, if_pos hx]
  have g2 : ∀ x, b ≤ x → γ x = η x := fun x hx => by rw [eγ, if_neg (by omega)]
  have gb : ∀ x, x ≤ b → γ x = x % 2 := by
    intro x hx
    by_cases q : x = b
    · rw [g2 x (by omega), q, s]; omega
    · exact g1 x (by omega)
  have hone : ∀ x, x < b + z + 1 → xTa (U.1 x) ≤ γ x ∧ xTpu U.1 x (γ x) ≤ g ∧ ∀ y, ySu U x y → y < b + z + 1 ∧ γ y = xTpu U.1 x (γ x) := by
    intro x hx
    rcases hsp x hx with q | q | rfl
    · have hx2 := g1 x q
      rcases (hpr x q).2 with ⟨e1, e2⟩ | ⟨e1, e2⟩
      · rw [yTp e1, e1, hx2, show xTa 0 = 0 from rfl, show xLe 0 = 1 from rfl]
        refine ⟨by omega, by omega, fun y hy => ?_⟩
        have := (hpr x q).1.2.1 y hy
        rw [gb y (by omega)]
        omega
      · rw [yTp e1, e1, hx2, show xTa 13 = 1 from rfl, show xLe 13 = 0 from rfl]
        refine ⟨by omega, by omega, fun y hy => ?_⟩
        have := (hpr x q).1.2.1 y hy
        rw [gb y (by omega)]
        omega
    · rw [g2 x q.1]
      refine ⟨(d x q.1 q.2).1, (d x q.1 q.2).2.1, fun y hy => ?_⟩
      have := (hA x q.1 q.2).2 y hy
      exact ⟨by omega, by rw [g2 y this.1]; exact (d x q.1 q.2).2.2 y hy⟩
    · rw [yTp he', he', g2 _ (by omega), e, show xTa 17 = 1 from rfl, show xLe 17 = 0 from rfl]
      refine ⟨by omega, by omega, fun y hy => ?_⟩
      rcases hy with ⟨q, -⟩ | ⟨q, -⟩
      · exact absurd he' q
      · exact absurd (he'.symm.trans q) (by omega)
  refine ⟨⟨fun x h => x < b + z + 1 ∧ h = γ x, ⟨⟨by omega, by rw [gb 0 (by omega)]⟩, fun x h hx => ?_⟩, fun x h hx => ?_, Or.inr ?_⟩, by omega, by omega⟩
  · obtain ⟨hx, rfl⟩ := hx
    have q := hone x hx
    exact ⟨hx, q.1, fun y hy => ⟨(q.2.2 y hy).1, (q.2.2 y hy).2.symm⟩, fun h' hh => hh.2⟩
  · obtain ⟨hx, rfl⟩ := hx
    refine ⟨(hone x hx).2.1, ?_⟩
    by_cases q : x < b
    · rw [g1 x q]; exact hrel x (by omega)
    · rw [g2 x (by omega)]; exact hre x (by omega) (by omega)
  · obtain ⟨x, h1, h2, h3⟩ := x0
    exact ⟨x, γ x, ⟨by omega, rfl⟩, by rw [g2 x h1, h3]⟩
/-! height and stack while units are emitted -/
def yHS (σ : xQ) (h s : Nat) : Prop := σ.2.2.2.2.2.1 = nI h ∧ σ.2.2.2.2.2.2 = nI s
theorem yHt {h op : Nat} (ho : op < 22) (ht : xTa op ≤ h) : xHt (nI h) op = nI (h - xTa op + xLe op) := by
  unfold xHt
  rw [xLe_sf op ho, xTa_sf op ho, show nI h = nI (h - xTa op) + nI (xTa op) by rw [nI_add]; congr 1; omega, ← nI_add]
  rw [Int32.sub_eq_add_neg, Int32.add_comm (nI (xLe op)), ← Int32.add_assoc, Int32.add_assoc (nI (h - xTa op)), Int32.add_right_neg, Int32.add_zero]
theorem yHS_em {σ : xQ} {h s op : Nat} {y : Int32} (H : yHS σ h s) (ho : op < 22) (ht : xTa op ≤ h) (hh : h ≤ 1000) (hs : s ≤ 1000) : yHS (xEm σ op y) (h - xTa op + xLe op) (max s (h - xTa op + xLe op)) := by
  have hl : ∀ o, o < 22 → xLe o ≤ 2 := by decide +kernel
  have hl := hl op ho
  refine ⟨?_, ?_⟩
  · show xHt σ.2.2.2.2.2.1 op = _
    rw [H.1, yHt ho ht]
  · show (if σ.2.2.2.2.2.2 < xHt σ.2.2.2.2.2.1 op then xHt σ.2.2.2.2.2.1 op else σ.2.2.2.2.2.2) = _
    rw [H.1, H.2, yHt ho ht]
    by_cases q : s < h - xTa op + xLe op
    · rw [if_pos (nI_lt q (by omega)), Nat.max_eq_right (by omega)]
    · rw [if_neg (nI_nlt (by omega) (by omega)), Nat.max_eq_left (by omega)]
theorem yHS_et {σ : xQ} {h s op : Nat} (H : yHS σ h s) (ho : op < 22) (ht : xTa op ≤ h) (hh : h ≤ 1000) (hs : s ≤ 1000) : yHS (xEt σ op) (h - xTa op + xLe op) (max s (h - xTa op + xLe op)) := yHS_em (y := 0) H ho ht hh hs
theorem yHS_m {σ : xQ} {h s h' s' op a l : Nat} {y : Int32} (H : yHS σ h s) (ho : op < 22) (el : xTa op = a ∧ xLe op = l) (ht : a ≤ h) (hh : h ≤ 1000) (hs : s ≤ 1000) (e1 : h' = h - a + l) (e2 : s' = max s (h - a + l)) : yHS (xEm σ op y) h' s' := by
  subst e1 e2
  have q := yHS_em (y := y) H ho (by rw [el.1]; exact ht) hh hs
  rw [el.1, el.2] at q
  exact q
theorem yHS_t {σ : xQ} {h s h' s' op a l : Nat} (H : yHS σ h s) (ho : op < 22) (el : xTa op = a ∧ xLe op = l) (ht : a ≤ h) (hh : h ≤ 1000) (hs : s ≤ 1000) (e1 : h' = h - a + l) (e2 : s' = max s (h - a + l)) : yHS (xEt σ op) h' s' := yHS_m (y := 0) H ho el ht hh hs e1 e2
def yRs (F : xQ → xQ) (m : Nat → Nat) (z : Nat) : Prop := 0 < z ∧ (∀ h, h + 1 ≤ m h ∧ m h ≤ h + z + 1) ∧ ∀ σ h s, h + z ≤ 900 → s ≤ 1000 → yHS σ h s → yHS (F σ) (h + 1) (max s (m h))
theorem yRs_1 {F : xQ → xQ} {m : Nat → Nat} {z h s g : Nat} {σ : xQ} (R : yRs F m z) (H : yHS σ h s) (hz : h + z ≤ 900) (hs : s ≤ 1000) (e : g = max s (m h)) : yHS (F σ) (h + 1) g := by rw [e]; exact R.2.2 σ h s hz hs H
theorem yMa {a b c d : Nat} (h : b ≤ a ∨ b ≤ c) (e : d = max a c) : d = max (max a b) c := by omega
theorem yMk {a b d : Nat} (h : b ≤ a) (e : d = a) : d = max a b := by omega
theorem yHS_s1 {σ : xQ} {h s q : Nat} {y : Int32} (H : yHS σ h s) : yHS (xS1 σ q y) h s := H
theorem yHS_s2 {σ : xQ} {h s q : Nat} {y : Int32} (H : yHS σ h s) : yHS (xS2 σ q y) h s := H
theorem yHS_sh {σ τ : xQ} {h s h' s' : Nat} (H : yHS σ h s) (G : yHS τ h' s') : yHS (xSh σ τ.2.2.2.2.2.1) h' s := ⟨G.1, H.2⟩
theorem yRs_if {F : Nat → xQ → xQ} {s : Nat → Nat} {a : Int32} {m : Nat → Nat → Nat} {z : Nat → Nat} (h0 : yRs (F (s 0)) (m 0) (z 0)) (h1 : yRs (F (s 1)) (m 1) (z 1)) (h2 : yRs (F (s 2)) (m 2) (z 2)) : yRs (xEi F s a) (fun H => max (m 0 H) (max (m 1 H) (m 2 H))) (2 + (0 + z 0 + z 1 + z 2)) := by
  refine ⟨by omega, fun h => ?_, fun σ h g hz hg H => ?_⟩
  · have := h0.2.1 h; have := h1.2.1 h; have := h2.2.1 h
    show _ ≤ max (m 0 h) (max (m 1 h) (m 2 h)) ∧ max (m 0 h) (max (m 1 h) (m 2 h)) ≤ _
    omega
  · have q0 := h0.2.1 h; have q1 := h1.2.1 h; have q2 := h2.2.1 h
    obtain ⟨g1, e1⟩ : ∃ g1, g1 = max g (m 0 h) := ⟨_, rfl⟩
    obtain ⟨g2, e2⟩ : ∃ g2, g2 = max g1 (m 1 h) := ⟨_, rfl⟩
    obtain ⟨g3, e3⟩ : ∃ g3, g3 = max g2 (m 2 h) := ⟨_, rfl⟩
    have eg : max g (max (m 0 h) (max (m 1 h) (m 2 h))) = g3 := by omega
    have b1 : g1 ≤ 1000 ∧ m 0 h ≤ g1 := by omega
    have b2 : g2 ≤ 1000 ∧ g1 ≤ g2 ∧ m 1 h ≤ g2 := by omega
    show yHS _ _ (max g (max (m 0 h) (max (m 1 h) (m 2 h))))
    rw [eg]
    have a1 := yRs_1 h0 H (by omega) hg e1
    have a2 : yHS (xEm (F (s 0) σ) 14 a) h g1 := yHS_m (a := 1) (l := 0) a1 (by omega) ⟨rfl, rfl⟩ (by omega) (by omega) (by omega) (by omega) (yMk (by omega) rfl)
    have a3 := yRs_1 h1 a2 (by omega) (by omega) e2
    have a4 : yHS (xEm (F (s 1) (xEm (F (s 0) σ) 14 a)) 15 0) (h + 1) g2 := yHS_m (a := 0) (l := 0) a3 (by omega) ⟨rfl, rfl⟩ (by omega) (by omega) (by omega) (by omega) (yMk (by omega) rfl)
    have a5 : yHS (xSh (xS2 (xEm (F (s 1) (xEm (F (s 0) σ) 14 a)) 15 0) (F (s 0) σ).1 (nI (xEm (F (s 1) (xEm (F (s 0) σ) 14 a)) 15 0).1)) (xEm (F (s 0) σ) 14 a).2.2.2.2.2.1) h g2 := yHS_sh (yHS_s2 a4) a2
    have a6 := yRs_1 h2 a5 (by omega) (by omega) e3
    exact yHS_s1 a6
theorem yRs_ti {F : Nat → xQ → xQ} {s : Nat → Nat} {a : Int32} {m : Nat → Nat → Nat} {z : Nat → Nat} (h0 : yRs (F (s 0)) (m 0) (z 0)) (h1 : yRs (F (s 1)) (m 1) (z 1)) : yRs (xEx F s a) (fun H => max (m 0 H) (max (H + 2) (m 1 H))) (12 + (0 + z 0 + z 1)) := by
  refine ⟨by omega, fun h => ?_, fun σ h g hz hg H => ?_⟩
  · have := h0.2.1 h; have := h1.2.1 h
    show _ ≤ max (m 0 h) (max (h + 2) (m 1 h)) ∧ max (m 0 h) (max (h + 2) (m 1 h)) ≤ _
    omega
  · have q0 := h0.2.1 h; have q1 := h1.2.1 h
    obtain ⟨g1, e1⟩ : ∃ g1, g1 = max g (m 0 h) := ⟨_, rfl⟩
    obtain ⟨g2, e2⟩ : ∃ g2, g2 = max g1 (h + 2) := ⟨_, rfl⟩
    obtain ⟨g3, e3⟩ : ∃ g3, g3 = max g2 (m 1 h) := ⟨_, rfl⟩
    have eg : max g (max (m 0 h) (max (h + 2) (m 1 h))) = g3 := by omega
    have b1 : g1 ≤ 1000 := by omega
    have b2 : g2 ≤ 1000 ∧ h + 2 ≤ g2 := by omega
    have b3 : g3 ≤ 1000 ∧ h + 2 ≤ g3 := by omega
    show yHS _ _ (max g (max (m 0 h) (max (h + 2) (m 1 h))))
    rw [eg]
    clear eg
    have a1 := yRs_1 h0 H (by omega) hg e1
    clear e1
    have a2 : yHS (xEm (F (s 0) σ) 0 7) (h + 2) g2 := yHS_m (a := 0) (l := 1) a1 (by omega) ⟨rfl, rfl⟩ (by omega) (by omega) (by omega) (by omega) e2
    clear e2
    have a3 : yHS (xEt (xEm (F (s 0) σ) 0 7) 7) (h + 1) g2 := yHS_t (a := 2) (l := 1) a2 (by omega) ⟨rfl, rfl⟩ (by omega) (by omega) (by omega) (by omega) (yMk (by omega) rfl)
    have a4 : yHS (xEm (xEt (xEm (F (s 0) σ) 0 7) 7) 13 a) (h) g2 := yHS_m (a := 1) (l := 0) a3 (by omega) ⟨rfl, rfl⟩ (by omega) (by omega) (by omega) (by omega) (yMk (by omega) rfl)
    have a5 : yHS (xEm (xEm (xEt (xEm (F (s 0) σ) 0 7) 7) 13 a) 1 a) (h + 1) g2 := yHS_m (a := 0) (l := 1) a4 (by omega) ⟨rfl, rfl⟩ (by omega) (by omega) (by omega) (by omega) (yMk (by omega) rfl)
    have a6 : yHS (xEm (xEm (xEm (xEt (xEm (F (s 0) σ) 0 7) 7) 13 a) 1 a) 14 1) (h) g2 := yHS_m (a := 1) (l := 0) a5 (by omega) ⟨rfl, rfl⟩ (by omega) (by omega) (by omega) (by omega) (yMk (by omega) rfl)
    have a7 := yRs_1 h1 a6 (by omega) (by omega) e3
    clear e3
    have a8 : yHS (xEt (F (s 1) (xEm (xEm (xEm (xEt (xEm (F (s 0) σ) 0 7) 7) 13 a) 1 a) 14 1)) 18) (h) g3 := yHS_t (a := 1) (l := 0) a7 (by omega) ⟨rfl, rfl⟩ (by omega) (by omega) (by omega) (by omega) (yMk (by omega) rfl)
    have a9 : yHS (xEm (xEt (F (s 1) (xEm (xEm (xEm (xEt (xEm (F (s 0) σ) 0 7) 7) 13 a) 1 a) 14 1)) 18) 1 a) (h + 1) g3 := yHS_m (a := 0) (l := 1) a8 (by omega) ⟨rfl, rfl⟩ (by omega) (by omega) (by omega) (by omega) (yMk (by omega) rfl)
    have a10 : yHS (xEm (xEm (xEt (F (s 1) (xEm (xEm (xEm (xEt (xEm (F (s 0) σ) 0 7) 7) 13 a) 1 a) 14 1)) 18) 1 a) 0 1) (h + 2) g3 := yHS_m (a := 0) (l := 1) a9 (by omega) ⟨rfl, rfl⟩ (by omega) (by omega) (by omega) (by omega) (yMk (by omega) rfl)
    have a11 : yHS (xEt (xEm (xEm (xEt (F (s 1) (xEm (xEm (xEm (xEt (xEm (F (s 0) σ) 0 7) 7) 13 a) 1 a) 14 1)) 18) 1 a) 0 1) 3) (h + 1) g3 := yHS_t (a := 2) (l := 1) a10 (by omega) ⟨rfl, rfl⟩ (by omega) (by omega) (by omega) (by omega) (yMk (by omega) rfl)
    have a12 : yHS (xEm (xEt (xEm (xEm (xEt (F (s 1) (xEm (xEm (xEm (xEt (xEm (F (s 0) σ) 0 7) 7) 13 a) 1 a) 14 1)) 18) 1 a) 0 1) 3) 13 a) (h) g3 := yHS_m (a := 1) (l := 0) a11 (by omega) ⟨rfl, rfl⟩ (by omega) (by omega) (by omega) (by omega) (yMk (by omega) rfl)
    have a13 : yHS (xEm (xEm (xEt (xEm (xEm (xEt (F (s 1) (xEm (xEm (xEm (xEt (xEm (F (s 0) σ) 0 7) 7) 13 a) 1 a) 14 1)) 18) 1 a) 0 1) 3) 13 a) 15 (nI (xEm (xEt (xEm (F (s 0) σ) 0 7) 7) 13 a).1)) (h) g3 := yHS_m (a := 0) (l := 0) a12 (by omega) ⟨rfl, rfl⟩ (by omega) (by omega) (by omega) (by omega) (yMk (by omega) rfl)
    have a14 : yHS (xS2 (xEm (xEm (xEt (xEm (xEm (xEt (F (s 1) (xEm (xEm (xEm (xEt (xEm (F (s 0) σ) 0 7) 7) 13 a) 1 a) 14 1)) 18) 1 a) 0 1) 3) 13 a) 15 (nI (xEm (xEt (xEm (F (s 0) σ) 0 7) 7) 13 a).1)) (xEm (xEm (xEt (xEm (F (s 0) σ) 0 7) 7) 13 a) 1 a).1 (nI (xEm (xEm (xEt (xEm (xEm (xEt (F (s 1) (xEm (xEm (xEm (xEt (xEm (F (s 0) σ) 0 7) 7) 13 a) 1 a) 14 1)) 18) 1 a) 0 1) 3) 13 a) 15 (nI (xEm (xEt (xEm (F (s 0) σ) 0 7) 7) 13 a).1)).1)) h g3 := a13
    exact yHS_m (a := 0) (l := 1) a14 (by omega) ⟨rfl, rfl⟩ (by omega) (by omega) (by omega) (by omega) (yMk (by omega) rfl)
theorem yRs_e {F G : xQ → xQ} {m m' : Nat → Nat} {z z' : Nat} (h : yRs F m z) (e1 : G = F) (e2 : m' = m) (e3 : z' = z) : yRs G m' z' := by subst e1 e2 e3; exact h
theorem yRs_0 {o : Nat} {a : Int32} (ho : o = 0 ∨ o = 1) : yRs (fun σ => xEm σ o a) (fun H => H + 1) 1 := by
  refine ⟨by omega, fun h => ⟨Nat.le_refl _, (by show h + 1 ≤ _; omega)⟩, fun σ h s hz hs H => ?_⟩
  have el : xTa o = 0 ∧ xLe o = 1 := by rcases ho with rfl | rfl <;> exact ⟨rfl, rfl⟩
  exact yHS_m (a := 0) (l := 1) H (by omega) el (by omega) (by omega) (by omega) (by omega) rfl
theorem yRs_12 {F : Nat → xQ → xQ} {s : Nat → Nat} {m : Nat → Nat → Nat} {z : Nat → Nat} (h0 : yRs (F (s 0)) (m 0) (z 0)) : yRs (fun σ => xEm (F (s 0) σ) 12 0) (m 0) (1 + z 0) := by
  refine ⟨by omega, fun h => ?_, fun σ h g hz hg H => ?_⟩
  · have := h0.2.1 h; omega
  · have q0 := h0.2.1 h
    obtain ⟨g1, e1⟩ : ∃ g1, g1 = max g (m 0 h) := ⟨_, rfl⟩
    have a1 := yRs_1 h0 H (by omega) hg e1
    rw [← e1]
    exact yHS_m (a := 1) (l := 1) a1 (by omega) ⟨rfl, rfl⟩ (by omega) (by omega) (by omega) (by omega) (yMk (by omega) rfl)
theorem yRs_2 {F : Nat → xQ → xQ} {s : Nat → Nat} {o : Nat} {m : Nat → Nat → Nat} {z : Nat → Nat} (ho : 2 ≤ o) (ho2 : o ≤ 11) (h0 : yRs (F (s 0)) (m 0) (z 0)) (h1 : yRs (F (s 1)) (m 1) (z 1)) : yRs (fun σ => xEm (F (s 1) (F (s 0) σ)) o 0) (fun H => max (m 0 H) (m 1 (H + 1))) (1 + (z 0 + z 1)) := by
  have hz0 := h0.1
  refine ⟨by omega, fun h => ?_, fun σ h g hz hg H => ?_⟩
  · have := h0.2.1 h; have := h1.2.1 (h + 1)
    show _ ≤ max (m 0 h) (m 1 (h + 1)) ∧ max (m 0 h) (m 1 (h + 1)) ≤ _
    omega
  · have q0 := h0.2.1 h; have q1 := h1.2.1 (h + 1)
    obtain ⟨g1, e1⟩ : ∃ g1, g1 = max g (m 0 h) := ⟨_, rfl⟩
    obtain ⟨g2, e2⟩ : ∃ g2, g2 = max g1 (m 1 (h + 1)) := ⟨_, rfl⟩
    have eg : max g (max (m 0 h) (m 1 (h + 1))) = g2 := by omega
    have b1 : g1 ≤ 1000 := by omega
    have b2 : g2 ≤ 1000 ∧ h + 2 ≤ g2 := by omega
    show yHS _ _ (max g (max (m 0 h) (m 1 (h + 1))))
    rw [eg]
    have a1 := yRs_1 h0 H (by omega) hg e1
    have a2 := yRs_1 h1 a1 (by omega) (by omega) e2
    exact yHS_m (a := 2) (l := 1) a2 (by omega) (yTaLe o (by omega) ho ho2) (by omega) (by omega) (by omega) (by omega) (yMk (by omega) rfl)
theorem yRs_17 {F : Nat → xQ → xQ} {s : Nat → Nat} {a : Int32} {m : Nat → Nat → Nat} {z : Nat → Nat} (h0 : yRs (F (s 0)) (m 0) (z 0)) (h1 : yRs (F (s 1)) (m 1) (z 1)) (h2 : yRs (F (s 2)) (m 2) (z 2)) : yRs (fun σ => xEm (F (s 2) (F (s 1) (F (s 0) σ))) 16 a) (fun H => max (m 0 H) (max (m 1 (H + 1)) (m 2 (H + 2)))) (1 + (z 0 + z 1 + z 2)) := by
  have hz0 := h0.1
  have hz1 := h1.1
  refine ⟨by omega, fun h => ?_, fun σ h g hz hg H => ?_⟩
  · have := h0.2.1 h; have := h1.2.1 (h + 1); have := h2.2.1 (h + 2)
    show _ ≤ max (m 0 h) (max (m 1 (h + 1)) (m 2 (h + 2))) ∧ max (m 0 h) (max (m 1 (h + 1)) (m 2 (h + 2))) ≤ _
    omega
  · have q0 := h0.2.1 h; have q1 := h1.2.1 (h + 1); have q2 := h2.2.1 (h + 2)
    obtain ⟨g1, e1⟩ : ∃ g1, g1 = max g (m 0 h) := ⟨_, rfl⟩
    obtain ⟨g2, e2⟩ : ∃ g2, g2 = max g1 (m 1 (h + 1)) := ⟨_, rfl⟩
    obtain ⟨g3, e3⟩ : ∃ g3, g3 = max g2 (m 2 (h + 2)) := ⟨_, rfl⟩
    have eg : max g (max (m 0 h) (max (m 1 (h + 1)) (m 2 (h + 2)))) = g3 := by omega
    have b1 : g1 ≤ 1000 := by omega
    have b2 : g2 ≤ 1000 ∧ h + 2 ≤ g2 := by omega
    have b3 : g3 ≤ 1000 ∧ h + 3 ≤ g3 := by omega
    show yHS _ _ (max g (max (m 0 h) (max (m 1 (h + 1)) (m 2 (h + 2)))))
    rw [eg]
    have a1 := yRs_1 h0 H (by omega) hg e1
    have a2 := yRs_1 h1 a1 (by omega) (by omega) e2
    have a3 := yRs_1 h2 a2 (by omega) (by omega) e3
    exact yHS_m (a := 3) (l := 1) a3 (by omega) ⟨rfl, rfl⟩ (by omega) (by omega) (by omega) (by omega) (yMk (by omega) rfl)
theorem yRs_14 {F : Nat → xQ → xQ} {s : Nat → Nat} {a : Int32} {m : Nat → Nat → Nat} {z : Nat → Nat} (h0 : yRs (F (s 0)) (m 0) (z 0)) (h1 : yRs (F (s 1)) (m 1) (z 1)) : yRs (fun σ => F (s 1) (xEm (F (s 0) σ) 13 a)) (fun H => max (m 0 H) (m 1 H)) (1 + (z 0 + z 1)) := by
  refine ⟨by omega, fun h => ?_, fun σ h g hz hg H => ?_⟩
  · have := h0.2.1 h; have := h1.2.1 h
    show _ ≤ max (m 0 h) (m 1 h) ∧ max (m 0 h) (m 1 h) ≤ _
    omega
  · have q0 := h0.2.1 h; have q1 := h1.2.1 h
    obtain ⟨g1, e1⟩ : ∃ g1, g1 = max g (m 0 h) := ⟨_, rfl⟩
    obtain ⟨g2, e2⟩ : ∃ g2, g2 = max g1 (m 1 h) := ⟨_, rfl⟩
    have eg : max g (max (m 0 h) (m 1 h)) = g2 := by omega
    have b1 : g1 ≤ 1000 ∧ h + 1 ≤ g1 := by omega
    show yHS _ _ (max g (max (m 0 h) (m 1 h)))
    rw [eg]
    have a1 := yRs_1 h0 H (by omega) hg e1
    have a2 : yHS (xEm (F (s 0) σ) 13 a) h g1 := yHS_m (a := 1) (l := 0) a1 (by omega) ⟨rfl, rfl⟩ (by omega) (by omega) (by omega) (by omega) (yMk (by omega) rfl)
    exact yRs_1 h1 a2 (by omega) (by omega) e2
theorem yRs_15 {F : Nat → xQ → xQ} {s : Nat → Nat} {a : Int32} {m : Nat → Nat → Nat} {z : Nat → Nat} (h0 : yRs (F (s 0)) (m 0) (z 0)) : yRs (fun σ => xEm (xEm (F (s 0) σ) 19 0) 13 a) (fun H => max (m 0 H) (H + 2)) (2 + z 0) := by
  refine ⟨by omega, fun h => ?_, fun σ h g hz hg H => ?_⟩
  · have := h0.2.1 h
    show _ ≤ max (m 0 h) (h + 2) ∧ max (m 0 h) (h + 2) ≤ _
    omega
  · have q0 := h0.2.1 h
    obtain ⟨g1, e1⟩ : ∃ g1, g1 = max g (m 0 h) := ⟨_, rfl⟩
    obtain ⟨g2, e2⟩ : ∃ g2, g2 = max g1 (h + 2) := ⟨_, rfl⟩
    have eg : max g (max (m 0 h) (h + 2)) = g2 := by omega
    have b1 : g1 ≤ 1000 := by omega
    have b2 : g2 ≤ 1000 ∧ h + 2 ≤ g2 := by omega
    show yHS _ _ (max g (max (m 0 h) (h + 2)))
    rw [eg]
    have a1 := yRs_1 h0 H (by omega) hg e1
    have a2 : yHS (xEm (F (s 0) σ) 19 0) (h + 2) g2 := yHS_m (a := 1) (l := 2) a1 (by omega) ⟨rfl, rfl⟩ (by omega) (by omega) (by omega) (by omega) e2
    exact yHS_m (a := 1) (l := 0) a2 (by omega) ⟨rfl, rfl⟩ (by omega) (by omega) (by omega) (by omega) (yMk (by omega) rfl)
theorem yPa_3 : xPa 13 = 3 ∧ xPa 17 = 3 ∧ xPa 14 = 2 ∧ xPa 16 = 2 ∧ xPa 12 = 1 ∧ xPa 15 = 1 ∧ xPa 0 = 0 ∧ xPa 1 = 0 ∧ xOwn 13 = 2 ∧ xOwn 17 = 1 ∧ xOwn 14 = 1 ∧ xOwn 16 = 12 ∧ xOwn 12 = 1 ∧ xOwn 15 = 2 ∧ xOwn 0 = 1 ∧ xOwn 1 = 1 := by decide +kernel
theorem yRs_o {F : Nat → xQ → xQ} {s : Nat → Nat} {o : Nat} {a : Int32} {m : Nat → Nat → Nat} {z : Nat → Nat} (ho : o < 18) (r : ∀ j, j < xPa o → yRs (F (s j)) (m j) (z j)) : yRs (xEo F s o a) (yMo m o) (xOwn o + xSumN z (xPa o)) := by
  obtain ⟨p13, p17, p14, p16, p12, p15, p0, p1, o13, o17, o14, o16, o12, o15, o0, o1⟩ := yPa_3
  by_cases q0 : o = 0
  · subst q0; rw [o0, p0]; exact yRs_0 (a := a) (Or.inl rfl)
  by_cases q1 : o = 1
  · subst q1; rw [o1, p1]; exact yRs_0 (a := a) (Or.inr rfl)
  by_cases q12 : o = 12
  · subst q12; rw [p12] at r; rw [o12, p12, xSumN_1]; exact yRs_12 (r 0 (by omega))
  by_cases q13 : o = 13
  · subst q13; rw [p13] at r; rw [o13, p13, xSumN_3]; exact yRs_e (yRs_if (a := a) (r 0 (by omega)) (r 1 (by omega)) (r 2 (by omega))) rfl rfl (by omega)
  by_cases q14 : o = 14
  · subst q14; rw [p14] at r; rw [o14, p14, xSumN_2]; exact yRs_14 (a := a) (r 0 (by omega)) (r 1 (by omega))
  by_cases q15 : o = 15
  · subst q15; rw [p15] at r; rw [o15, p15, xSumN_1]; exact yRs_15 (a := a) (r 0 (by omega))
  by_cases q16 : o = 16
  · subst q16; rw [p16] at r; rw [o16, p16, xSumN_2]; exact yRs_e (yRs_ti (a := a) (r 0 (by omega)) (r 1 (by omega))) rfl rfl (by omega)
  by_cases q17 : o = 17
  · subst q17; rw [p17] at r; rw [o17, p17, xSumN_3]; exact yRs_17 (a := a) (r 0 (by omega)) (r 1 (by omega)) (r 2 (by omega))
  have hpa := yPa2 o ho ⟨q0, q1, q13, q15, q17, q12⟩
  rw [hpa.1] at r
  rw [hpa.1, hpa.2, if_neg q16, xSumN_2]
  refine yRs_e (yRs_2 (F := F) (s := s) (o := o) (by omega) (by omega) (r 0 (by omega)) (r 1 (by omega))) ?_ ?_ rfl
  · funext σ
    unfold xEo
    rw [if_neg q0, if_neg q1, if_neg q13, if_neg q14, if_neg q15, if_neg q16, if_neg q17, hpa.1]
    rfl
  · funext H
    unfold yMo
    rw [if_neg q0, if_neg q1, if_neg q12, if_neg q13, if_neg q14, if_neg q15, if_neg q16, if_neg q17]
theorem yRs_of {O : Nat → Nat} {A : Nat → Int32} {n : Nat} (hO : ∀ p, p < n → O p < 18) : ∀ k p, xVF O n k p → yRs (xEmF O A k p) (yMx O k p) (xSz O k p) := by
  intro k
  induction k with
  | zero => intro p hv; exact absurd hv id
  | succ k ih =>
    intro p hv
    exact yRs_o (F := xEmF O A k) (s := fun j => xIt (xNx O k) j (p + 1)) (o := O p) (a := A p) (m := fun j => yMx O k (xIt (xNx O k) j (p + 1))) (z := fun j => xSz O k (xIt (xNx O k) j (p + 1))) (hO p hv.1) (fun j h => ih _ (hv.2 j h))
theorem yPre_s : ∀ (r v : Nat) (σ : xQ) (s : Nat), s ≤ 1 → yHS σ 0 s → yHS (xPre r v σ) 0 (if r = 0 then s else 1) := by
  intro r
  induction r with
  | zero => intro v σ s _ H; exact H
  | succ r ih =>
    intro v σ s hs H
    have a1 : yHS (xEm σ 0 0) 1 1 := yHS_m (a := 0) (l := 1) H (by omega) ⟨rfl, rfl⟩ (by omega) (by omega) (by omega) (by omega) (by omega)
    have a2 : yHS (xEm (xEm σ 0 0) 13 (nI v)) 0 1 := yHS_m (a := 1) (l := 0) a1 (by omega) ⟨rfl, rfl⟩ (by omega) (by omega) (by omega) (by omega) (by omega)
    have q := ih (v + 1) _ 1 (by omega) a2
    rw [show (if r = 0 then 1 else 1) = 1 from ite_self _] at q
    rw [if_neg (by omega)]
    exact q
/-- the stack that is said of a whole code is its greatest height -/
theorem yTr_s {O : Nat → Nat} {A : Nat → Int32} {n k m : Nat} {σ : xQ} (hO : ∀ p, p < n → O p < 18) (hv : xVF O n k 0) (hm : m ≤ 3) (hz : xSz O k 0 ≤ 250) (h0 : yHS σ 0 0) : (xTr O A k m σ).2.2.2.2.2.2 = nI (yMx O k 0 0) := by
  have R := yRs_of (A := A) hO k 0 hv
  have r0 := R.2.1 0
  have a1 := yPre_s (7 - m) m σ 0 (by omega) h0
  rw [if_neg (by omega)] at a1
  have a2 : yHS (xEmF O A k 0 (xPre (7 - m) m σ)) (0 + 1) (yMx O k 0 0) := yRs_1 R a1 (by omega) (by omega) (by omega)
  have a3 : yHS (xTr O A k m σ) 0 (yMx O k 0 0) := yHS_m (a := 1) (l := 0) a2 (by omega) ⟨rfl, rfl⟩ (by omega) (by omega) (by omega) (by omega) (by omega)
  exact a3.2

