/-! interpret and run: what both sides want and leave -/
theorem yK_ev {ans : Nat → Int32 → Int32 → Int32 → xRs} {P : Nat → Prop} (h13 : P 13) (ha : ∀ a x y z e, ans a x y z = .inr e → P e) {E : Nat → xV → xEr} {s : Nat → Nat} {o : Nat} {a : Int32} (hE : ∀ j V, xK (E (s j) V) (fun _ _ => True) P) (V : xV) : xK (xEvo ans E s o a V) (fun _ _ => True) P := by
  unfold xEvo
  have hE' : ∀ j V (k : Int32 → xV → xEr), (∀ x W, xK (k x W) (fun _ _ => True) P) → xK (xBd (E (s j) V) k) (fun _ _ => True) P := by
    intro j V k hk
    exact xK_bd' (xK_mono (hE j V) (fun x W _ => hk x W))
  split
  · trivial
  split
  · trivial
  split
  · exact hE' _ _ _ (fun x W => trivial)
  split
  · exact hE' _ _ _ (fun x W => hE _ _)
  split
  · exact hE' _ _ _ (fun x W => hE _ _)
  split
  · exact hE' _ _ _ (fun x W => trivial)
  split
  · refine hE' _ _ _ (fun x W => ?_)
    generalize upd W a.toNatClampNeg (x &&& 7) = V'
    have lp : ∀ r V', xK (xLpv (E (s 1)) a.toNatClampNeg r V') (fun _ _ => True) P := by
      intro r
      induction r with
      | zero => intro V'; trivial
      | succ r ih =>
        intro V'
        unfold xLpv
        split
        · trivial
        · exact xK_bd' (xK_mono (hE 1 V') (fun x W _ => ih _))
    exact lp 8 V'
  split
  · refine hE' _ _ _ (fun x W => hE' _ _ _ (fun y W => hE' _ _ _ (fun z W => ?_)))
    cases hr : ans a.toNatClampNeg x y z with
    | inl v => trivial
    | inr e => exact ha _ _ _ _ _ hr
  · refine hE' _ _ _ (fun x W => hE' _ _ _ (fun y W => ?_))
    split
    · exact h13
    · trivial
theorem yK_evs {ans : Nat → Int32 → Int32 → Int32 → xRs} {P : Nat → Prop} (h13 : P 13) (ha : ∀ a x y z e, ans a x y z = .inr e → P e) {O : Nat → Nat} {A : Nat → Int32} : ∀ k p V, xK (xEv ans O A k p V) (fun _ _ => True) P := by
  intro k
  induction k with
  | zero => intro p V; trivial
  | succ k ih => intro p V; exact yK_ev h13 ha (fun j V => ih _ V) V
theorem yIa_e {L nP : Nat → Nat} {O : Nat → Nat → Nat} {A : Nat → Nat → Int32} : ∀ m f x y z e, xIa L nP O A m f x y z = .inr e → e = 12 ∨ e = 13 := by
  intro m
  induction m with
  | zero => intro f x y z e h; cases h
  | succ m ih =>
    intro f x y z e h
    unfold xIa at h
    by_cases c : 0 < L f
    · rw [if_pos c] at h
      have := yK_evs (P := fun e => e = 12 ∨ e = 13) (Or.inr rfl) (fun a x y z e => ih a x y z e) (O := O f) (A := A f) 41 0 (xArg (nI (nP f)) x y z)
      cases hr : xEv (xIa L nP O A m) (O f) (A f) 41 0 (xArg (nI (nP f)) x y z) with
      | inl q => rw [hr] at h; cases h
      | inr e' =>
        rw [hr] at h this
        cases h
        exact this
    · rw [if_neg c] at h; cases h; exact Or.inl rfl
theorem yStep_e {ans : Nat → Int32 → Int32 → Int32 → xRs} {L : Nat → Nat} {f o pc e : Nat} {fi se : Int32} {σ : xZ} (ha : ∀ a x y z e, ans a x y z = .inr e → e = 13 ∨ e = 14) (h : xStep ans L f o fi se pc σ = .inr e) : e = 13 ∨ e = 14 := by
  unfold xStep at h
  split at h
  · cases h
  split at h
  · cases h
  split at h
  · cases h
  split at h
  · cases h
  split at h
  · cases h
  split at h
  · split at h
    · cases hr : ans fi.toNatClampNeg (xTp (xPo (xPo σ))) (xTp (xPo σ)) (xTp σ) with
      | inl v => rw [hr] at h; cases h
      | inr e' => rw [hr] at h; cases h; exact ha _ _ _ _ _ hr
    · cases h; exact Or.inr rfl
  split at h
  · cases h; exact Or.inl rfl
  · cases h
theorem yGo_e {step : Nat → xZ → (Int32 × xZ) ⊕ Nat} {O : Nat → Nat} {n : Nat} (hs : ∀ p σ e, step p σ = .inr e → e = 13 ∨ e = 14) : ∀ k pc σ e, xGo step O n k pc σ = .inr e → e = 13 ∨ e = 14 := by
  intro k
  induction k with
  | zero => intro pc σ e h; cases h
  | succ k ih =>
    intro pc σ e h
    unfold xGo at h
    split at h
    · cases h
    · cases hr : step pc.toNatClampNeg σ with
      | inl q => rw [hr] at h; exact ih _ _ _ h
      | inr e' => rw [hr] at h; cases h; exact hs _ _ _ hr
theorem yAn_e {M : Nat} {L : Nat → Nat} {O : Nat → Nat → Nat} {F S : Nat → Nat → Int32} : ∀ m f x y z e, xAn M L O F S m f x y z = .inr e → e = 13 ∨ e = 14 := by
  intro m
  induction m with
  | zero => intro f x y z e h; cases h
  | succ m ih =>
    intro f x y z e h
    exact yGo_e (fun p σ e hs => yStep_e ih hs) _ _ _ _ h
/-- cells of frames and open forms, of the model's run, and what was thrown -/
def zR (N M b q : Nat) : Prop := (N + 8 ≤ b ∧ b < N + 88 ∧ 4 ≤ (b - N - 8) % 10) ∨ (N + 153 ≤ b ∧ b < N + 209 ∧ 4 ≤ (b - N - 153) % 7) ∨ (b = M ∧ q = 35) ∨ (M + 23 ≤ b ∧ b ≤ M + 27)
theorem yTi_run {u w : xv_M} {h N M : Nat} (z : zS (fun b => b < M + 31) u w) (hn : M + 31 ≤ xv_N w) (e : ∀ b q, b < M + 31 → ¬ zR N M b q → xv_i w b q = xv_i u b q) (H : yTi u h N M) : yTi w h N M := by
  have hl : h < N ∧ N + 209 ≤ M ∧ M + 31 ≤ xv_N u := by
    obtain ⟨E, a1, -⟩ := H
    exact ⟨a1.2.2.2.2.2.2.1, a1.2.2.2.2.2.2.2, a1.2.2.2.2.2.1⟩
  refine yTi_same z hn (fun b q hb => e b q ?_ ?_) H
  · rcases hb with hb | hb | hb | hb | hb
    · unfold zD at hb; omega
    · have := nF hb; omega
    · unfold zA at hb; omega
    · have := nI' hb; omega
    · unfold zK at hb; omega
  · unfold zR
    rcases hb with hb | hb | hb | hb | hb
    · unfold zD at hb; omega
    · have := nF hb; omega
    · unfold zA at hb; omega
    · have := nI' hb; omega
    · unfold zK at hb; omega
theorem zR_IF {N M f b q : Nat} (hf : f < 8) (h : xIF (N + 8) f b) : zR N M b q := by
  obtain ⟨g, hg, h⟩ := h
  unfold xFO xFS at h
  refine Or.inl ?_
  omega
theorem zR_SF {N M f b q : Nat} (hf : f < 8) (h : xSF (N + 153) f b) : zR N M b q := by
  obtain ⟨g, hg, h⟩ := h
  unfold xFS at h
  refine Or.inr (Or.inl ?_)
  omega
/-- interpret: what both sides want -/
theorem p_int {u : xv_M} {h N M : Nat} (H : yTi u h N M) : ∃ (L nP : Nat → Nat) (O : Nat → Nat → Nat) (A : Nat → Nat → Int32) (Lc : Nat → Nat) (Ou : Nat → Nat → Nat) (Fu Su : Nat → Nat → Int32) (G : Nat → Nat → Nat → Prop), (xDk u h N (N + 4) (N + 88) (N + 89) (N + 150) ∧ xII u (N + 4) (N + 5) (N + 6) (N + 7) (N + 8) L nP O A ∧ xGf L nP O A) ∧ (∀ f, f < 8 → (0 < Lc f ↔ 0 < L f)) ∧ xAnsT (fun f x y z => yR4 (xIa L nP O A 8 f x y z)) Lc nP Ou Fu Su ∧ xGd Lc Ou Fu Su G ∧ xLwr Lc Ou Fu ∧ ∀ w, (∀ b q, M ≤ b → b < M + 30 → xv_i w b q = xv_i u b q) → xUt w M 0 Lc Ou Fu Su ∧ xPres w M 0 Lc nP := by
  obtain ⟨E, a1, -, ⟨L, nP, O, A, U, f1, f2⟩, -, -, -⟩ := H
  have hF : yFs L nP O A := fun f hf => ⟨(f2 f hf).1, (f2 f hf).2.1, (f1 f hf).1.2.1, fun hL => ((f2 f hf).2.2.2 hL).1.1⟩
  have hpe : ∀ f, f < 8 → 0 < L f → yPe (U f) (yNu (O f) (nP f)) (nP f) f := fun f hf hL => yFf_Pe (hF f hf).2.2.1 (hF f hf).1 (hF f hf).2.1 ((f2 f hf).2.2.2 hL).1
  have hod : ∀ f, f < 8 → ∀ p, p < (if 0 < L f then yNu (O f) (nP f) else 0) → yOd (U f) f p := by
    intro f hf p hp
    by_cases c : 0 < L f
    · rw [if_pos c] at hp; exact (yPe_od hf (hpe f hf c)).1 p hp
    · rw [if_neg c] at hp; omega
  have hpos : ∀ f, 0 < (if 0 < L f then yNu (O f) (nP f) else 0) ↔ 0 < L f := by
    intro f
    by_cases c : 0 < L f
    · rw [if_pos c]; unfold yNu; omega
    · rw [if_neg c]; omega
  have hG : ∃ G, xGd (fun f => if 0 < L f then yNu (O f) (nP f) else 0) (fun f => (U f).1) (fun f => (U f).2.1) (fun f => (U f).2.2.1) G := by
    refine xGd_of (fun f hf hc => ?_) (fun f hf p hp => ?_)
    · have c := (hpos f).mp hc
      obtain ⟨h1, h2, h3, h4⟩ := hF f hf
      obtain ⟨-, hv, hx, hz, -, hl⟩ := yOne_sz h3 h1 h2 (h4 c)
      have gd := yWh_Gd h1 (yLow_f hf hl) hv h2 hz ((f2 f hf).2.2.2 c).1.2.1
      refine ⟨yMx (O f) 41 0 0, ?_, ?_⟩
      · omega
      · show xGdM (if 0 < L f then yNu (O f) (nP f) else 0) _ _ _ _
        rw [if_pos c]; exact gd.1
    · obtain ⟨o1, o2, o3, o4, o5⟩ := hod f hf p hp
      exact ⟨o1, o2, o3, fun q => by obtain ⟨a, h1, h2, h3⟩ := o4 q; exact ⟨a, h1, h3⟩, o5⟩
  obtain ⟨G, hG⟩ := hG
  refine ⟨L, nP, O, A, fun f => if 0 < L f then yNu (O f) (nP f) else 0, fun f => (U f).1, fun f => (U f).2.1, fun f => (U f).2.2.1, G, ⟨a1.1.1, ⟨a1.1.2.2.1, f1⟩, fun f hf => ⟨(hF f hf).1, (hF f hf).2.1, (hF f hf).2.2.2⟩⟩, fun f _ => hpos f, yInt hF (fun f hf hL => ((f2 f hf).2.2.2 hL).1.2.1), hG, fun g hg p hp o16 a ha ea => ?_, fun w kM => ⟨fun g hg i hi => ?_, fun f hf => ?_⟩⟩
  · obtain ⟨o1, o2, o3, o4, o5⟩ := hod g hg p hp
    obtain ⟨a', h1, h2, h3⟩ := o4 o16
    have ea : (U g).2.1 p = nI a := ea
    rw [h3] at ea
    have : a' = a := (nI_eq (by omega) (by omega)).mp ea
    omega
  · have hi : i < (if 0 < L g then yNu (O g) (nP g) else 0) := hi
    by_cases c : 0 < L g
    · rw [if_pos c] at hi
      obtain ⟨b1, b2, b3, b4⟩ := (f2 g hg).2.2.2 c
      obtain ⟨e1, e2, e3, e4⟩ := b4.2 i hi
      rw [Nat.zero_add, kM _ _ (by omega) (by omega), kM _ _ (by omega) (by omega), kM _ _ (by omega) (by omega)]
      exact ⟨e1, e2, e3⟩
    · rw [if_neg c] at hi; omega
  · obtain ⟨t1, t2, t3, t4⟩ := f2 f hf
    have h40 := (f1 f hf).1.2.1
    refine ⟨t2, ?_, fun hc => ?_, fun hc => ⟨fun _ => ?_, fun q => absurd q (by omega)⟩⟩
    · show (if 0 < L f then yNu (O f) (nP f) else 0) ≤ 265
      by_cases c : 0 < L f
      · rw [if_pos c]; exact (yPe_le (hpe f hf c)).2.1
      · rw [if_neg c]; omega
    · have c := (hpos f).mp hc
      exact ⟨fun _ => ⟨L f, c, h40, by rw [kM _ _ (by omega) (by omega)]; exact t3, by rw [kM _ _ (by omega) (by omega)]; exact (t4 c).2.1⟩, fun q => absurd q (by omega)⟩
    · have c : ¬ 0 < L f := fun c => by
        have := (hpos f).mpr c
        have hc : (if 0 < L f then yNu (O f) (nP f) else 0) = 0 := hc
        omega
      rw [kM _ _ (by omega) (by omega), t3, show L f = 0 by omega]; rfl
/-- run: what both sides want -/
theorem p_run {u : xv_M} {h N M : Nat} (H : yTi u h N M) : ∃ (L nP : Nat → Nat) (O : Nat → Nat → Nat) (F S : Nat → Nat → Int32) (G : Nat → Nat → Nat → Prop), (xDk u h N (N + 4) (N + 88) (N + 89) (N + 150) ∧ xMI u (N + 150) (N + 151) (N + 152) (N + 153) L O F S ∧ ∀ f, f < 8 → xv_i u (N + 153 + 7 * f) 3 = nI (L f) ∧ L f ≤ 265) ∧ xAnsT (fun f => xAn 1000000 L O F S (f + 1) f) L nP O F S ∧ xGd L O F S G ∧ xLwr L O F ∧ ∀ w, (∀ b q, M ≤ b → b < M + 30 → xv_i w b q = xv_i u b q) → xUt w M 16 L O F S ∧ xPres w M 16 L nP := by
  obtain ⟨E, a1, -, -, -, ⟨L, nP', U, i1⟩, -⟩ := H
  obtain ⟨nP, enP⟩ : ∃ nP : Nat → Nat, ∀ f, nP f = if 0 < L f then nP' f else 0 := ⟨fun f => if 0 < L f then nP' f else 0, fun _ => rfl⟩
  have hle : ∀ f, f < 8 → L f ≤ 265 := fun f hf => (i1 f hf).1.2.1
  have hod : ∀ f, f < 8 → ∀ p, p < L f → yOd (U f) f p := by
    intro f hf p hp
    exact (yPe_od hf ((i1 f hf).2.2 (by omega)).2.2.2.1).1 p hp
  have hG : ∃ G, xGd L (fun f => (U f).1) (fun f => (U f).2.1) (fun f => (U f).2.2.1) G := by
    refine xGd_of (fun f hf hc => ((i1 f hf).2.2 hc).2.2.2.2) (fun f hf p hp => ?_)
    obtain ⟨o1, o2, o3, o4, o5⟩ := hod f hf p hp
    exact ⟨o1, o2, o3, fun q => by obtain ⟨a, h1, h2, h3⟩ := o4 q; exact ⟨a, h1, h3⟩, o5⟩
  obtain ⟨G, hG⟩ := hG
  have hnP : ∀ f, f < 8 → nP f ≤ 3 := by
    intro f hf
    rw [enP]
    by_cases c : 0 < L f
    · rw [if_pos c]; exact (yPe_le ((i1 f hf).2.2 c).2.2.2.1).2.2
    · rw [if_neg c]; omega
  refine ⟨L, nP, fun f => (U f).1, fun f => (U f).2.1, fun f => (U f).2.2.1, G, ⟨a1.1.1, ⟨a1.2.1.2.2.2, fun f hf => (i1 f hf).1⟩, fun f hf => ⟨(i1 f hf).1.1, hle f hf⟩⟩, yImg hG hle (fun f hf hc => ?_), hG, fun g hg p hp o16 a ha ea => ?_, fun w kM => ⟨fun g hg i hi => ?_, fun f hf => ?_⟩⟩
  · obtain ⟨O', A, k, p1, p2, p3, p4, p5, p6, p7⟩ := ((i1 f hf).2.2 hc).2.2.2.1
    obtain ⟨⟨κ, hκ, hE⟩, hv, hx, hz, -, hl⟩ := yOne_sz p2 p1 p3 p4
    have e : nP f = nP' f := by rw [enP, if_pos hc]
    rw [e]
    exact ⟨fun i _ => yFo ((U f).1 i), O', A, (U f).2.2.2, k, 41, k, κ, fun i o _ q => q, p1, hκ, hE, p3, hz, p5, p6⟩
  · obtain ⟨o1, o2, o3, o4, o5⟩ := hod g hg p hp
    obtain ⟨a', h1, h2, h3⟩ := o4 o16
    have ea : (U g).2.1 p = nI a := ea
    rw [h3] at ea
    have : a' = a := (nI_eq (by omega) (by omega)).mp ea
    omega
  · have b3 := ((i1 g hg).2.2 (by omega)).2.2.1
    obtain ⟨e1, e2, e3, e4⟩ := b3.2 i hi
    rw [kM _ _ (by omega) (by omega), kM _ _ (by omega) (by omega), kM _ _ (by omega) (by omega)]
    exact ⟨e1, e2, e3⟩
  · refine ⟨hnP f hf, hle f hf, fun hc => ⟨fun q => absurd q (by omega), fun _ => ?_⟩, fun hc => ⟨fun q => absurd q (by omega), fun _ => ?_⟩⟩
    · obtain ⟨b1, b2, b3, b4, b5⟩ := (i1 f hf).2.2 hc
      rw [kM _ _ (by omega) (by omega), kM _ _ (by omega) (by omega), enP, if_pos hc]
      exact ⟨b1, b2⟩
    · rw [kM _ _ (by omega) (by omega)]; exact (i1 f hf).2.1 hc

