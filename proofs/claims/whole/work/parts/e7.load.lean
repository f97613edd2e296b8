/-! load: what is searched, and what both find -/
theorem xSu_c {n : Nat} {O O' : Nat → Nat} {F F' S S' : Nat → Int32} (h : ∀ i, i < n → O' i = O i ∧ F' i = F i ∧ S' i = S i) {k k' : Nat} (hk : k < n) : xSu O' F' S' k k' ↔ xSu O F S k k' := by
  unfold xSu
  rw [(h k hk).1, (h k hk).2.1, (h k hk).2.2]
theorem yRe_c3 {n : Nat} {O O' : Nat → Nat} {F F' S S' : Nat → Int32} (h : ∀ i, i < n → O' i = O i ∧ F' i = F i ∧ S' i = S i) : ∀ j k q, xRe n O F S j k q → xRe n O' F' S' j k q := by
  intro j
  induction j with
  | zero => intro k q r; exact r
  | succ j ih =>
    intro k q r
    rcases r with r | ⟨k', h', r1, r2, r3, r4, r5⟩
    · exact Or.inl (ih k q r)
    · refine Or.inr ⟨k', h', ih _ _ r1, r2, by rw [(h k' r2).1]; exact r3, (xSu_c h r2).mpr r4, ?_⟩
      unfold xTpu at r5 ⊢
      rw [(h k' r2).1]; exact r5
theorem yGdM_c3 {n g : Nat} {O O' : Nat → Nat} {F F' S S' : Nat → Int32} (h : ∀ i, i < n → O' i = O i ∧ F' i = F i ∧ S' i = S i) (H : xGdM n O F S g) : xGdM n O' F' S' g := by
  obtain ⟨T, ⟨c1, c2⟩, h2, h3⟩ := H
  refine ⟨T, ⟨c1, fun k q t => ?_⟩, fun k q t => ?_, ?_⟩
  · obtain ⟨e1, e2, e3, e4⟩ := c2 k q t
    have ek := (h k e1).1
    refine ⟨e1, by rw [ek]; exact e2, fun k' hs => ?_, e4⟩
    have := e3 k' ((xSu_c h e1).mp hs)
    unfold xTpu at this ⊢
    rw [ek]; exact this
  · have ek := (h k (c2 k q t).1).1
    obtain ⟨e1, j, e2⟩ := h2 k q t
    refine ⟨?_, j, yRe_c3 h j k q e2⟩
    unfold xTpu at e1 ⊢
    rw [ek]; exact e1
  · rcases h3 with e | ⟨k, q, t, e⟩
    · exact Or.inl e
    · refine Or.inr ⟨k, q, t, ?_⟩
      have ek := (h k (c2 k q t).1).1
      unfold xTpu at e ⊢
      rw [ek]; exact e
theorem xHB_c3 {n : Nat} {O O' : Nat → Nat} {F F' S S' : Nat → Int32} {β : Nat → Nat} (h : ∀ i, i < n → O' i = O i ∧ F' i = F i ∧ S' i = S i) (H : xHB n O F S β) : xHB n O' F' S' β := by
  obtain ⟨h1, h2, h3, h4⟩ := H
  refine ⟨h1, fun k k' hk hs hn => ?_, fun k k' hk h15 hk' hF hle x y hx hs a b => ?_, fun k hk => ?_⟩
  · rw [(h k hk).1] at hn ⊢
    exact h2 k k' hk ((xSu_c h hk).mp hs) hn
  · rw [(h k hk).1] at h15
    rw [(h k hk).2.1] at hF
    exact h3 k k' hk h15 hk' hF hle x y hx ((xSu_c h hx).mp hs) a b
  · rw [(h k hk).1, (h k hk).2.1, (h k hk).2.2]
    exact h4 k hk
theorem xOd1_c {sl : Nat → Bool} {num num' : Nat → Int32} {n : Nat} (h : ∀ e, e < n → num e = num' e) : ∀ r e z, e + r ≤ n → xOd1 sl num n r e z = xOd1 sl num' n r e z := by
  intro r
  induction r with
  | zero => intro e z _; rfl
  | succ r ih =>
    intro e z he
    unfold xOd1
    rw [h e (by omega), xFi_c n 0 (fun i _ hi => h i (by omega)), ih (e + 1) _ (by omega)]
theorem xOd2_c {num nam oct num' nam' oct' : Nat → Int32} {n : Nat} (h : ∀ e, e < n → num e = num' e ∧ nam e = nam' e ∧ oct e = oct' e) : ∀ r e z, e + r ≤ n → xOd2 num nam oct r e z = xOd2 num' nam' oct' r e z := by
  intro r
  induction r with
  | zero => intro e z _; rfl
  | succ r ih =>
    intro e z he
    unfold xOd2
    rw [(h e (by omega)).1, (h e (by omega)).2.1, (h e (by omega)).2.2, ih (e + 1) _ (by omega)]
theorem xFF_c {mg st sz : Int32} {sl ver : Nat → Bool} {num nam oct num' nam' oct' : Nat → Int32} {n : Nat} (h : ∀ e, e < n → num e = num' e ∧ nam e = nam' e ∧ oct e = oct' e) : xFF mg st sz n sl num nam oct ver = xFF mg st sz n sl num' nam' oct' ver := by
  unfold xFF
  rw [xOd1_c (fun e he => (h e he).1) n 0 (-1) (by omega), xOd2_c h n 0 _ (by omega)]
theorem xOd3_0 {ver : Nat → Bool} : ∀ r e z, (xOd3 ver r e z).1 = 0 → ∀ j, e ≤ j → j < e + r → ver j = true := by
  intro r
  induction r with
  | zero => intro e z _ j h1 h2; omega
  | succ r ih =>
    intro e z h j h1 h2
    unfold xOd3 at h
    by_cases c : ver e = false
    · rw [if_pos c] at h; exact absurd h (by show ¬ (8 : Int32) = 0; decide)
    · rw [if_neg c] at h
      by_cases q : j = e
      · rw [q]
        cases hh : ver e with
        | true => rfl
        | false => exact absurd hh c
      · exact ih (e + 1) _ h j (by omega) (by omega)
theorem xOd2_0 {num nam oct : Nat → Int32} : ∀ r e z, (xOd2 num nam oct r e z).1 = 0 → ∀ j, e ≤ j → j < e + r → nam j = num j := by
  intro r
  induction r with
  | zero => intro e z _ j h1 h2; omega
  | succ r ih =>
    intro e z h j h1 h2
    unfold xOd2 at h
    by_cases c : oct e = 0
    · rw [if_neg (not_not_intro c)] at h
      by_cases d : nam e = num e
      · rw [if_neg (not_not_intro d)] at h
        by_cases q : j = e
        · rw [q]; exact d
        · exact ih (e + 1) _ h j (by omega) (by omega)
      · rw [if_pos d] at h; exact absurd h (by show ¬ (7 : Int32) = 0; decide)
    · rw [if_pos c] at h; exact absurd h (by show ¬ (6 : Int32) = 0; decide)
theorem xFF_0 {mg st sz : Int32} {sl ver : Nat → Bool} {num nam oct : Nat → Int32} {n : Nat} (h : (xFF mg st sz n sl num nam oct ver).1 = 0) : ∀ e, e < n → ver e = true ∧ nam e = num e := by
  unfold xFF at h
  by_cases c1 : mg = 0
  · rw [if_neg (not_not_intro c1)] at h
    by_cases c2 : st = sz
    · rw [if_neg (not_not_intro c2)] at h
      by_cases c3 : (xOd1 sl num n n 0 (-1)).1 = 0
      · rw [if_neg (not_not_intro c3)] at h
        by_cases c4 : (xOd2 num nam oct n 0 (xOd1 sl num n n 0 (-1)).2).1 = 0
        · rw [if_neg (not_not_intro c4)] at h
          exact fun e he => ⟨xOd3_0 _ _ _ h e (by omega) (by omega), xOd2_0 _ _ _ c4 e (by omega) (by omega)⟩
        · rw [if_pos c4] at h; exact absurd h c4
      · rw [if_pos c3] at h; exact absurd h c3
    · rw [if_pos c2] at h
      refine absurd h ?_
      show ¬ (if sz < st then (2 : Int32) else 3) = 0
      split <;> decide
  · rw [if_pos c1] at h; exact absurd h (by show ¬ (1 : Int32) = 0; decide)
def zOu (u : xv_M) (E : Nat → Nat) (e i : Nat) : Nat := (xv_i u (E e + 2) i).toNatClampNeg
def zFu (u : xv_M) (E : Nat → Nat) (M n e i : Nat) : Int32 := if e < n then xv_i u (M + 8) (280 * (8 + e) + i) else xv_i u (E e + 3) i
def zSu (u : xv_M) (E : Nat → Nat) (M n e i : Nat) : Int32 := if e < n then xv_i u (M + 9) (280 * (8 + e) + i) else xv_i u (E e + 4) i
def zNu (u : xv_M) (E : Nat → Nat) (e : Nat) : Nat := (xv_i u (E e) 2).toNatClampNeg
theorem p_load0 {u : xv_M} {h N M : Nat} {E : Nat → Nat} {a : yAd} (a1 : yCl u h N M E) (h23 : xv_i u (N + 89) 2 = xv_i u M 29 ∧ xv_i u (N + 89) 3 = xv_i u M 30) (H : yAs u N M E a) : xUs u E (yLn u E) (zOu u E) (zFu u E M a.1) (zSu u E M a.1) ∧ (∀ e, e < 8 → N + 93 < E e ∧ E e + 6 < N + 150) ∧ (∀ e, e < a.1 → xv_i u (E e) 2 = nI (zNu u E e) ∧ zNu u E e < 8) ∧ (∀ e, e < a.1 → yLn u E e = a.2.1 e ∧ a.2.1 e ≤ 265 ∧ ∀ i, i < a.2.1 e → zOu u E e i = (a.2.2.1 e).1 i ∧ zFu u E M a.1 e i = (a.2.2.1 e).2.1 i ∧ zSu u E M a.1 e i = (a.2.2.1 e).2.2.1 i) ∧ (∀ w, (∀ b q, M ≤ b → xv_i w b q = xv_i u b q) → xLv w M a.1 (yLn u E) (zOu u E) (xSl u E (yLn u E)) (xV3 u E (yLn u E) (zOu u E) (zFu u E M a.1) (zSu u E M a.1)) ∧ (∀ e, e < a.1 → xv_i w (M + 17) e = nI (zNu u E e) ∧ zNu u E e < 8) ∧ (∀ e k, e < a.1 → k < yLn u E e → xv_i w (M + 13) (280 * (8 + e) + k) = 0 ∨ xv_i w (M + 13) (280 * (8 + e) + k) = 1) ∧ xFF (xv_i w M 29) (xv_i w M 30) (xv_i w M 31) a.1 (xSl u E (yLn u E)) (fun e => xv_i w (M + 17) e) (fun e => xv_i w (M + 19) e) (fun e => xv_i w (M + 15) e) (xV3 u E (yLn u E) (zOu u E) (zFu u E M a.1) (zSu u E M a.1)) = (xFF (xv_i u (N + 89) 2) (xv_i u (N + 89) 3) (xv_i u (N + 89) 1) a.1 (xSl u E (yLn u E)) (fun e => xv_i u (E e) 2) (fun e => xv_i u (E e) 5) (fun e => xv_i u (E e) 6) (xV3 u E (yLn u E) (zOu u E) (zFu u E M a.1) (zSu u E M a.1)))) ∧ ∀ e, e < a.1 → (xV3 u E (yLn u E) (zOu u E) (zFu u E M a.1) (zSu u E M a.1)) e = true → ∃ g, g ≤ 42 ∧ xGdM (a.2.1 e) (a.2.2.1 e).1 (a.2.2.1 e).2.1 (a.2.2.1 e).2.2.1 g := by
  have hE := a1.2.2.2.2.1
  have V := yAv_of a1 h23 H
  obtain ⟨⟨g1, g2, g3⟩, g4, g5⟩ := H
  obtain ⟨⟨-, -, -, -, -, vL, -⟩, ⟨-, -, vm1, vm2, vm3⟩, -, vE⟩ := V
  have hnum : ∀ e, e < a.1 → xv_i u (E e) 2 = nI (zNu u E e) ∧ zNu u E e < 8 := by
    intro e he
    obtain ⟨⟨⟨c, hc, ec⟩, -⟩, p2, -⟩ := g5 e he
    obtain ⟨-, -, d1, -⟩ := p2
    have : xv_i u (E e) 2 = nI c := d1.trans ec
    have e2 : zNu u E e = c := by unfold zNu; rw [this, nI_clamp (by omega)]
    rw [e2]; exact ⟨this, hc⟩
  have hU : ∀ e, e < a.1 → yLn u E e = a.2.1 e ∧ a.2.1 e ≤ 265 ∧ ∀ i, i < a.2.1 e → zOu u E e i = (a.2.2.1 e).1 i ∧ zFu u E M a.1 e i = (a.2.2.1 e).2.1 i ∧ zSu u E M a.1 e i = (a.2.2.1 e).2.2.1 i := by
    intro e he
    obtain ⟨p1, p2, p3⟩ := g5 e he
    have hle := (yPv_le p1).2
    refine ⟨yLn_of p2.1 hle, hle, fun i hi => ?_⟩
    obtain ⟨-, ⟨m, f, k, -, -, hf8, -, -, pe⟩, -⟩ := p1
    have h22 := ((yPe_od hf8 pe).1 i hi).1
    unfold zOu zFu zSu
    rw [if_pos he, if_pos he, (p2.2.1 i hi).1, nI_clamp (by omega)]
    exact ⟨rfl, (p3.1.2 i hi).2.1, (p3.1.2 i hi).2.2.1⟩
  have hops : ∀ e, e < 8 → ∀ i, i < yLn u E e → xv_i u (E e + 2) i = nI (zOu u E e i) ∧ zOu u E e i < 22 := by
    intro e he i hi
    obtain ⟨-, l, w1, w2, w3⟩ := g4 e he
    rw [yLn_of w2 w1] at hi
    obtain ⟨o, ho, eo⟩ := w3 i hi
    have : zOu u E e i = o := by unfold zOu; rw [eo, nI_clamp (by omega)]
    rw [this]; exact ⟨eo, ho⟩
  have hst : ∀ e, e < a.1 → ∃ k, k ≤ 42 ∧ xv_i u (E e) 4 = nI k := by
    intro e he
    obtain ⟨⟨-, ⟨m, f, k, -, -, -, e4, hk, -⟩, -⟩, p2, -⟩ := g5 e he
    exact ⟨k, hk, p2.2.2.2.2.1.trans e4⟩
  have hHB : ∀ e, e < a.1 → ∃ β, xHB (yLn u E e) (zOu u E e) (zFu u E M a.1 e) (zSu u E M a.1 e) β := by
    intro e he
    obtain ⟨⟨-, ⟨m, f, k, -, -, hf8, -, -, pe⟩, -⟩, -, -⟩ := g5 e he
    obtain ⟨q1, q2, q3⟩ := hU e he
    obtain ⟨-, β, hβ⟩ := yPe_od hf8 pe
    rw [q1]
    exact ⟨β, xHB_c3 q3 hβ⟩
  have fF : ∀ e, e < a.1 → zFu u E M a.1 e = fun i => xv_i u (M + 8) (280 * (8 + e) + i) := fun e he => funext fun i => if_pos he
  have fS : ∀ e, e < a.1 → zSu u E M a.1 e = fun i => xv_i u (M + 9) (280 * (8 + e) + i) := fun e he => funext fun i => if_pos he
  have hpos : ∀ e, e < a.1 → 0 < yLn u E e ∧ yLn u E e ≤ 265 := fun e he => by
    have := yPv_le (g5 e he).1
    rw [(hU e he).1]; exact this
  refine ⟨fun e he => ?_, fun e he => ?_, hnum, hU, fun w kM => ?_, fun e he hv => ?_⟩
  · refine ⟨(vL e he).1, (vL e he).2, fun i hi => ⟨(hops e he i hi).1, (hops e he i hi).2, ?_, ?_⟩⟩
    · unfold zFu
      by_cases c : e < a.1
      · rw [if_pos c]; exact ((vE e c).2 i hi).2.1
      · rw [if_neg c]
    · unfold zSu
      by_cases c : e < a.1
      · rw [if_pos c]; exact ((vE e c).2 i hi).2.2.1
      · rw [if_neg c]
  · obtain ⟨j, hj, ej⟩ := hE.1 e he
    omega
  · refine ⟨⟨by rw [kM _ _ (by omega)]; exact g2, g3, fun e he => ?_⟩, fun e he => ?_, fun e k he hk => ?_, ?_⟩
    · have eF : (fun i => xv_i w (M + 8) (280 * (8 + e) + i)) = zFu u E M a.1 e := by rw [fF e he]; funext i; exact kM _ _ (by omega)
      have eS : (fun i => xv_i w (M + 9) (280 * (8 + e) + i)) = zSu u E M a.1 e := by rw [fS e he]; funext i; exact kM _ _ (by omega)
      obtain ⟨k, hk, ek⟩ := hst e he
      obtain ⟨β, hβ⟩ := hHB e he
      have vi := xVer_iff (hpos e he).1 (hpos e he).2 hβ (show k ≤ 100 by omega)
      rw [eF, eS]
      refine ⟨⟨by rw [kM _ _ (by omega)]; exact (vm1 e he).1, hpos e he⟩, fun i hi => ?_, ?_, ⟨β, hβ⟩, fun bad => ?_, fun g hg gd => ?_⟩
      · rw [kM _ _ (by omega), ← ((vE e he).2 i hi).1]; exact (hops e (by omega) i hi).1
      · rw [ySl_eq (yAv_of a1 h23 ⟨⟨g1, g2, g3⟩, g4, g5⟩) he, kM _ _ (by omega), kM _ _ (by omega), kM _ _ (by omega), kM _ _ (by omega)]
        congr 1
        exact ySm_c _ (fun i hi => ⟨(kM _ _ (by omega)).symm, (kM _ _ (by omega)).symm⟩)
      · unfold xV3; rw [ek]; exact vi.1 bad
      · unfold xV3
        rw [ek, vi.2 g hg gd, kM _ _ (by omega), ← (vE e he).1.2.2.1, ek]
    · rw [kM _ _ (by omega), ← (vE e he).1.1]; exact hnum e he
    · rw [kM _ _ (by omega)]; exact vm2 e k he hk
    · rw [kM _ _ (by omega), kM _ _ (by omega), kM _ _ (by omega), h23.1, h23.2, g2, g1]
      exact xFF_c (fun e he => ⟨(kM _ _ (by omega)).trans (vE e he).1.1.symm, (kM _ _ (by omega)).trans (vE e he).1.2.2.2.1.symm, (kM _ _ (by omega)).trans (vE e he).1.2.2.2.2.1.symm⟩)
  · obtain ⟨k, hk, ek⟩ := hst e he
    obtain ⟨β, hβ⟩ := hHB e he
    unfold xV3 at hv
    rw [ek] at hv
    rcases xVer_spec (hpos e he).1 (hpos e he).2 hβ (show k ≤ 100 by omega) with ⟨-, g, hg, gd⟩ | ⟨q, -⟩
    · obtain ⟨q1, q2, q3⟩ := hU e he
      rw [q1] at gd
      exact ⟨g, by omega, yGdM_c3 (fun i hi => ⟨(q3 i hi).1.symm, (q3 i hi).2.1.symm, (q3 i hi).2.2.symm⟩) gd⟩
    · rw [hv] at q; exact absurd q (by decide)

