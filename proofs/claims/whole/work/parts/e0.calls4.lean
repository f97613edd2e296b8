/-! the archive as both sides see it: entry, unit, count -/
def yLn (u : xv_M) (E : Nat → Nat) (e : Nat) : Nat := (xv_i u (E e + 1) 3).toNatClampNeg
def yAv (u : xv_M) (h N M : Nat) (E : Nat → Nat) (n : Nat) : Prop := (xDk u h N (N + 4) (N + 88) (N + 89) (N + 150) ∧ xv_Ar u (N + 89) (N + 90) (N + 91) ∧ xv_Es u (N + 90) E ∧ xv_i u (N + 89) 1 = nI n ∧ n ≤ 8 ∧ (∀ e, e < 8 → xv_i u (E e + 1) 3 = nI (yLn u E e) ∧ yLn u E e ≤ 265) ∧ ∀ e, e < 8 → xv_i u (E e) 6 = 0 ∨ xv_i u (E e) 6 = 1) ∧ (xMo u M ∧ xv_i u M 31 = nI n ∧ (∀ e, e < n → xv_i u (M + 10) (8 + e) = nI (yLn u E e) ∧ yLn u E e ≤ 265) ∧ (∀ e k, e < n → k < yLn u E e → xv_i u (M + 13) (280 * (8 + e) + k) = 0 ∨ xv_i u (M + 13) (280 * (8 + e) + k) = 1) ∧ ∀ e, e < n → (xv_i u (M + 15) e = 0 ∨ xv_i u (M + 15) e = 1) ∧ (xv_i u (M + 16) e = 0 ∨ xv_i u (M + 16) e = 1)) ∧ (xv_i u (N + 89) 2 = xv_i u M 29 ∧ xv_i u (N + 89) 3 = xv_i u M 30) ∧ ∀ e, e < n → (xv_i u (E e) 2 = xv_i u (M + 17) e ∧ xv_i u (E e) 3 = xv_i u (M + 18) e ∧ xv_i u (E e) 4 = xv_i u (M + 11) (8 + e) ∧ xv_i u (E e) 5 = xv_i u (M + 19) e ∧ xv_i u (E e) 6 = xv_i u (M + 15) e ∧ xv_i u (E e) 8 = xv_i u (M + 20) e ∧ xv_i u (E e) 9 = xv_i u (M + 16) e) ∧ ∀ i, i < yLn u E e → xv_i u (E e + 2) i = xv_i u (M + 7) (280 * (8 + e) + i) ∧ xv_i u (E e + 3) i = xv_i u (M + 8) (280 * (8 + e) + i) ∧ xv_i u (E e + 4) i = xv_i u (M + 9) (280 * (8 + e) + i) ∧ xv_i u (E e + 5) i = xv_i u (M + 13) (280 * (8 + e) + i) ∧ xv_i u (E e + 6) i = xv_i u (M + 21) (280 * e + i)
theorem yLn_of {u : xv_M} {E : Nat → Nat} {e l : Nat} (h : xv_i u (E e + 1) 3 = nI l) (hl : l ≤ 265) : yLn u E e = l := by unfold yLn; rw [h, nI_clamp (by omega)]
theorem yAv_of {u : xv_M} {h N M : Nat} {E : Nat → Nat} {a : yAd} (hc : yCl u h N M E) (h23 : xv_i u (N + 89) 2 = xv_i u M 29 ∧ xv_i u (N + 89) 3 = xv_i u M 30) (H : yAs u N M E a) : yAv u h N M E a.1 := by
  obtain ⟨⟨h1, h2, h3⟩, h4, h5⟩ := H
  have hL : ∀ e, e < a.1 → yLn u E e = a.2.1 e ∧ a.2.1 e ≤ 265 := fun e he => by
    obtain ⟨p1, p2, p3⟩ := h5 e he
    have := (yPv_le p1).2
    exact ⟨yLn_of p2.1 this, this⟩
  refine ⟨⟨hc.1.1, hc.2.1.1, yCl_Es hc, h1, h3, fun e he => ?_, fun e he => (h4 e he).1⟩, ⟨hc.2.2.1, h2, fun e he => ?_, fun e k he hk => ?_, fun e he => ?_⟩, h23, fun e he => ?_⟩
  · obtain ⟨-, l, q1, q2, -⟩ := h4 e he
    rw [yLn_of q2 q1]; exact ⟨q2, q1⟩
  · obtain ⟨p1, p2, p3⟩ := h5 e he
    rw [(hL e he).1]
    exact ⟨p3.1.1, (hL e he).2⟩
  · obtain ⟨p1, p2, p3⟩ := h5 e he
    rw [(hL e he).1] at hk
    rw [(p3.1.2 k hk).2.2.2]
    obtain ⟨-, ⟨m, f, q, -, -, -, -, -, O, A, k', -, -, -, -, -, -, mk⟩, -⟩ := p1
    exact mk k hk
  · obtain ⟨p1, p2, p3⟩ := h5 e he
    obtain ⟨-, -, c1, c2, c3, c4, c5, c6, c7⟩ := p3
    rw [c5, c7]
    exact p1.2.2
  · obtain ⟨p1, p2, p3⟩ := h5 e he
    rw [(hL e he).1]
    obtain ⟨r1, r2, c1, c2, c3, c4, c5, c6, c7⟩ := p3
    obtain ⟨s1, s2, d1, d2, d3, d4, d5, d6, d7⟩ := p2
    refine ⟨⟨d1.trans c1.symm, d2.trans c2.symm, d3.trans c3.symm, d4.trans c4.symm, d5.trans c5.symm, d6.trans c6.symm, d7.trans c7.symm⟩, fun i hi => ?_⟩
    obtain ⟨e1, e2, e3, e4, e5⟩ := s2 i hi
    obtain ⟨f1, f2, f3, f4⟩ := r1.2 i hi
    exact ⟨e1.trans f1.symm, e2.trans f2.symm, e3.trans f3.symm, e4.trans f4.symm, e5.trans (r2 i hi).symm⟩
theorem yTi_av {u : xv_M} {h N M : Nat} (H : yTi u h N M) : ∃ E n, yAv u h N M E n := by
  obtain ⟨E, a1, a2, a3, ⟨h23, a, a4⟩, a5, a6⟩ := H
  exact ⟨E, a.1, yAv_of a1 h23 a4⟩
theorem yEx {x : Int32} {n : Nat} (hn : n ≤ 8) : (0 ≤ x ∧ x < nI n) ↔ ∃ e, e < n ∧ x = nI e := by
  constructor
  · rintro ⟨h1, h2⟩
    obtain ⟨e, he, rfl⟩ := nI_of (Int32.not_lt.mpr h1)
    exact ⟨e, (nI_ltI he (by omega)).mp h2, rfl⟩
  · rintro ⟨e, he, rfl⟩
    exact ⟨nI_pos' (by omega), nI_lt he (by omega)⟩
theorem ySm_c {f g f' g' : Nat → Int32} : ∀ n, (∀ i, i < n → f i = f' i ∧ g i = g' i) → xSm f g n = xSm f' g' n := by
  intro n
  induction n with
  | zero => intro _; rfl
  | succ n ih =>
    intro h
    unfold xSm
    rw [ih (fun i hi => h i (by omega)), (h n (by omega)).1, (h n (by omega)).2]
theorem ySl_eq {u : xv_M} {h N M n e : Nat} {E : Nat → Nat} (V : yAv u h N M E n) (he : e < n) : xSl u E (yLn u E) e = ((decide (xv_i u (M + 20) e = xv_i u (M + 17) e) && decide (xv_i u (M + 16) e = xv_i u (M + 15) e)) && xSm (fun k => xv_i u (M + 21) (280 * e + k)) (fun k => xv_i u (M + 7) (280 * (8 + e) + k)) (yLn u E e)) := by
  obtain ⟨-, -, -, v⟩ := V
  obtain ⟨⟨c1, c2, c3, c4, c5, c6, c7⟩, s⟩ := v e he
  unfold xSl
  rw [c1, c5, c6, c7, ySm_c (f' := fun k => xv_i u (M + 21) (280 * e + k)) (g' := fun k => xv_i u (M + 7) (280 * (8 + e) + k)) _ (fun i hi => ⟨(s i hi).2.2.2.2, (s i hi).1⟩)]
theorem p_entry {u : xv_M} {h N M n : Nat} {E : Nat → Nat} {x y r r' : Int32} (V : yAv u h N M E n) (hc : (¬ (0 ≤ x ∧ x < nI n) ∧ r = -1) ∨ (∃ e, (e < n ∧ x = nI e) ∧ r = (if y = 0 then xv_i u (E e) 2 else if y = 1 then xv_i u (E e) 3 else if y = 2 then nI (yLn u E e) else if y = 3 then xv_i u (E e) 4 else if y = 4 then xv_i u (E e) 5 else if y = 5 then xB (xSl u E (yLn u E) e) else -1))) (hm : (¬ (∃ e, e < n ∧ x = nI e) ∧ r' = -1) ∨ (∃ e, (e < n ∧ x = nI e) ∧ r' = (if y = 0 then xv_i u (M + 17) e else if y = 1 then xv_i u (M + 18) e else if y = 2 then nI (yLn u E e) else if y = 3 then xv_i u (M + 11) (8 + e) else if y = 4 then xv_i u (M + 19) e else if y = 5 then xB ((decide (xv_i u (M + 20) e = xv_i u (M + 17) e) && decide (xv_i u (M + 16) e = xv_i u (M + 15) e)) && xSm (fun k => xv_i u (M + 21) (280 * e + k)) (fun k => xv_i u (M + 7) (280 * (8 + e) + k)) (yLn u E e)) else -1))) : r' = r := by
  have hn := V.1.2.2.2.2.1
  rcases hc with ⟨h1, h2⟩ | ⟨e, ⟨h1, rfl⟩, h2⟩
  · rcases hm with ⟨m1, m2⟩ | ⟨e, m1, m2⟩
    · rw [h2, m2]
    · exact absurd ((yEx hn).mpr ⟨e, m1⟩) h1
  · rcases hm with ⟨m1, m2⟩ | ⟨e', ⟨m1, m2⟩, m3⟩
    · exact absurd ⟨e, h1, rfl⟩ m1
    · have ee : e = e' := (nI_eq (by omega) (by omega)).mp m2
      subst ee
      rw [h2, m3, ySl_eq V h1]
      obtain ⟨⟨c1, c2, c3, c4, c5, c6, c7⟩, s⟩ := V.2.2.2 e h1
      rw [c1, c2, c3, c4]
theorem p_unit {u : xv_M} {h N M n : Nat} {E : Nat → Nat} {x y v r r' : Int32} (V : yAv u h N M E n) (hc : (¬ xHu E (yLn u E) n x y ∧ r = -1) ∨ (∃ e i, (e < n ∧ x = nI e ∧ i < yLn u E e ∧ y = nI i) ∧ r = (if v = 0 then xv_i u (E e + 2) i else if v = 1 then xv_i u (E e + 3) i else if v = 2 then xv_i u (E e + 4) i else -1))) (hm : (¬ xHw (yLn u E) n x y ∧ r' = -1) ∨ (∃ e i, (e < n ∧ x = nI e ∧ i < yLn u E e ∧ y = nI i) ∧ r' = (if v = 0 then xv_i u (M + 7) (280 * (8 + e) + i) else if v = 1 then xv_i u (M + 8) (280 * (8 + e) + i) else if v = 2 then xv_i u (M + 9) (280 * (8 + e) + i) else -1))) : r' = r := by
  have hn := V.1.2.2.2.2.1
  rcases hc with ⟨h1, h2⟩ | ⟨e, i, ⟨h1, rfl, h3, rfl⟩, h2⟩
  · rcases hm with ⟨m1, m2⟩ | ⟨e, i, m1, m2⟩
    · rw [h2, m2]
    · exact absurd ⟨e, i, m1⟩ h1
  · rcases hm with ⟨m1, m2⟩ | ⟨e', i', ⟨m1, m2, m4, m5⟩, m3⟩
    · exact absurd ⟨e, i, h1, rfl, h3, rfl⟩ m1
    · have ee : e = e' := (nI_eq (by omega) (by omega)).mp m2
      subst ee
      have hl := (V.1.2.2.2.2.2.1 e (by omega)).2
      have ei : i = i' := (nI_eq (by omega) (by omega)).mp m5
      subst ei
      rw [h2, m3]
      obtain ⟨-, s⟩ := V.2.2.2 e h1
      obtain ⟨s1, s2, s3, s4, s5⟩ := s i h3
      rw [s1, s2, s3]
theorem p_count {u : xv_M} {h N M : Nat} (H : yTi u h N M) : ∃ (L L' : Nat → Nat) (O' : Nat → Nat → Nat) (F' S' : Nat → Nat → Int32), (xDk u h N (N + 4) (N + 88) (N + 89) (N + 150) ∧ xv_Ar u (N + 89) (N + 90) (N + 91) ∧ xv_k u N = 1 ∧ (xIn u (N + 4) (N + 5) (N + 6) (N + 7) (N + 8) ∧ ∀ f, f < 8 → xv_i u (N + 8 + 10 * f) 2 = nI (L f) ∧ L f ≤ 40) ∧ xMI u (N + 150) (N + 151) (N + 152) (N + 153) L' O' F' S') ∧ (xMo u M ∧ (∀ f, f < 8 → xv_i u (M + 3) f = nI (L f) ∧ L f ≤ 40) ∧ ∀ f, f < 8 → xv_i u (M + 14) f = xB (decide (0 < L' f))) ∧ ∀ a b x, xCtM u M a b x = xCt u h N (N + 89) a b x := by
  obtain ⟨E, a1, ⟨n, O, A, d1, d2, d3⟩, ⟨L, nP, Of, Af, U, f1, f2⟩, ⟨h23, a, a4⟩, ⟨iL, iN, iU, i1⟩, a6⟩ := H
  refine ⟨L, iL, fun f => (iU f).1, fun f => (iU f).2.1, fun f => (iU f).2.2.1, ⟨a1.1.1, a1.2.1.1, a1.1.2.1.1, ⟨a1.1.2.2.1, fun f hf => ⟨(f1 f hf).1.1, (f1 f hf).1.2.1⟩⟩, a1.2.1.2.2.2, fun f hf => (i1 f hf).1⟩, ⟨a1.2.2.1, fun f hf => ⟨(f2 f hf).2.2.1, (f1 f hf).1.2.1⟩, fun f hf => ?_⟩, fun a b x => ?_⟩
  · by_cases c : 0 < iL f
    · rw [decide_eq_true c, ((i1 f hf).2.2 c).1]; rfl
    · rw [decide_eq_false c, (i1 f hf).2.1 (by omega)]; rfl
  · unfold xCtM xCt
    rw [a4.1.1, a4.1.2.1, h23.2, a6.1, a6.2.1, a6.2.2, d1.1, d2.1]

