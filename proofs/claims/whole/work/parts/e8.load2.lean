/-! load: refused, or linked anew -/
/-- the class's memory after the search: all that is tied is as it was -/
theorem yLf_k {u w0 : xv_M} {h N M : Nat} {E : Nat → Nat} (a1 : yCl u h N M E) (lf : xLf u w0 (N + 89) (N + 91) (N + 92) (N + 93)) : yCl w0 h N M E ∧ (∀ b q, ¬ (b = N + 89 ∧ q = 4) → ¬ (N + 91 ≤ b ∧ b ≤ N + 93) → xv_i w0 b q = xv_i u b q) ∧ xv_N w0 = xv_N u := by
  have hl : h < N ∧ N + 209 ≤ M ∧ M + 31 ≤ xv_N u := ⟨a1.2.2.2.2.2.2.1, a1.2.2.2.2.2.2.2, a1.2.2.2.2.2.1⟩
  obtain ⟨l1, l2, l3, l4, l5, l6, l7, l8⟩ := lf
  refine ⟨yCl_fr (fun b hb => ⟨(l3 b).1, (l3 b).2, fun q => l4 b (by unfold yT8 at hb; omega) q⟩) (l3 _).1 l8 (l3 _) a1.2.2.2.2.1 (fun e he => (l4 _ (by omega) e).trans (a1.2.1.2.2.1.1 e he)) (by rw [l1]; exact hl.2.2) a1, fun b q h1 h2 => ?_, l1⟩
  by_cases c : b = N + 89
  · subst c; exact l6 q (by omega)
  · exact l5 b q (by unfold xS3a; omega)
theorem p_load1 {u : xv_M} {h N M : Nat} {E : Nat → Nat} {a : yAd} (a1 : yCl u h N M E) (a2 : yD u N M) (a3 : yF u N M) (h23 : xv_i u (N + 89) 2 = xv_i u M 29 ∧ xv_i u (N + 89) 3 = xv_i u M 30) (H : yAs u N M E a) (a5 : yI u N M) (a6 : yK u h M) {w0 w w0' w' : xv_M} {p : Int32} (lf : xLf u w0 (N + 89) (N + 91) (N + 92) (N + 93)) (ew : w = xv_si (xv_si w0 h 6 (xv_i u h 6 + 1)) h 7 p) (z : xSi (xM12 M) w w0') (ew' : w' = xv_si (xv_si w0' M 33 (xv_i w M 33 + 1)) M 34 p) : yTi w' h N M := by
  have hl : h < N ∧ N + 209 ≤ M ∧ M + 31 ≤ xv_N u := ⟨a1.2.2.2.2.2.2.1, a1.2.2.2.2.2.2.2, a1.2.2.2.2.2.1⟩
  obtain ⟨c0, k0, n0⟩ := yLf_k a1 lf
  have zz : zS (fun b => b < M + 31) w0 w' := by rw [ew', ew] at *; exact zS_tr (zS_tr zS_1 zS_1) (zS_tr (zS_si z) (zS_tr zS_1 zS_1))
  have nw : xv_N w' = xv_N u := by
    rw [ew']
    show xv_N w0' = _
    rw [z.1, ew]
    exact n0
  have kw : ∀ b q, ¬ (b = h ∧ (q = 6 ∨ q = 7)) → xv_i w b q = xv_i w0 b q := fun b q hb => by rw [ew, xv_si_if2, if_neg (by omega), xv_si_if2, if_neg (by omega)]
  have kw' : ∀ b q, ¬ (b = M ∧ (q = 33 ∨ q = 34)) → ¬ b = M + 12 → xv_i w' b q = xv_i w b q := fun b q hb hb2 => by rw [ew', xv_si_if2, if_neg (by omega), xv_si_if2, if_neg (by omega), z.2.2.2.2.2.2 b (by unfold xM12; omega)]
  have kall : ∀ b q, zD N M b q ∨ zF N M b q ∨ zA N M b q ∨ zI N M b q → xv_i w' b q = xv_i u b q := by
    intro b q hb
    have hx : ¬ (b = M ∧ (q = 33 ∨ q = 34)) ∧ ¬ b = M + 12 ∧ ¬ b = h ∧ ¬ (b = N + 89 ∧ q = 4) ∧ ¬ (N + 91 ≤ b ∧ b ≤ N + 93) := by
      rcases hb with hb | hb | hb | hb
      · unfold zD at hb; omega
      · have := nF hb; omega
      · unfold zA at hb; omega
      · have := nI' hb; omega
    rw [kw' b q hx.1 hx.2.1, kw b q (by omega), k0 b q hx.2.2.2.1 hx.2.2.2.2]
  refine ⟨E, yCl_si zz (by rw [nw]; exact hl.2.2) c0, yD_fr (fun b q hb => kall b q (Or.inl hb)) a2, yF_fr (fun b q hb => kall b q (Or.inr (Or.inl hb))) a3, yA_fr a1.2.2.2.2.1 (fun b q hb => kall b q (Or.inr (Or.inr (Or.inl hb)))) ⟨h23, a, H⟩, yI_fr (fun b q hb => kall b q (Or.inr (Or.inr (Or.inr hb)))) a5, ?_, ?_, ?_⟩
  · rw [kw' _ _ (by omega) (by omega), kw _ _ (by omega), k0 _ _ (by omega) (by omega), kw' _ _ (by omega) (by omega), kw _ _ (by omega), k0 _ _ (by omega) (by omega)]; exact a6.1
  · rw [kw' _ _ (by omega) (by omega), ew', xv_si_nj (by omega), xv_si_eq, kw M 33 (by omega), k0 _ _ (by omega) (by omega), ew, xv_si_nj (by omega), xv_si_eq, a6.2.1]
  · rw [kw' _ _ (by omega) (by omega), ew', xv_si_eq, ew, xv_si_eq]
theorem p_load2 {u : xv_M} {h N M : Nat} {E : Nat → Nat} {a : yAd} (a1 : yCl u h N M E) (a2 : yD u N M) (a3 : yF u N M) (h23 : xv_i u (N + 89) 2 = xv_i u M 29 ∧ xv_i u (N + 89) 3 = xv_i u M 30) (H : yAs u N M E a) (a5 : yI u N M) (a6 : yK u h M) {U0 : (Nat → Nat → Nat) × (Nat → Nat → Int32) × (Nat → Nat → Int32)} {w0 w1 w w1' w' : xv_M} (h0 : (xFF (xv_i u (N + 89) 2) (xv_i u (N + 89) 3) (xv_i u (N + 89) 1) a.1 (xSl u E (yLn u E)) (fun e => xv_i u (E e) 2) (fun e => xv_i u (E e) 5) (fun e => xv_i u (E e) 6) (xV3 u E (yLn u E) (zOu u E) (zFu u E M a.1) (zSu u E M a.1))).1 = 0) (lf : xLf u w0 (N + 89) (N + 91) (N + 92) (N + 93)) (mu : xMU w1 (N + 153) (xRmk (zNu u E) (yLn u E, zOu u E, zFu u E M a.1, zSu u E M a.1) a.1 (fun _ => 0, U0))) (z1 : xSi (xSC (N + 153)) w0 w1) (ew : w = xv_si w1 h 5 (xv_i u h 5 + 1)) (lq : xLq w w1' M a.1 (yLn u E) (zNu u E)) (ew' : w' = xv_si w1' M 32 (xv_i w M 32 + 1)) : yTi w' h N M := by
  have hl : h < N ∧ N + 209 ≤ M ∧ M + 31 ≤ xv_N u := ⟨a1.2.2.2.2.2.2.1, a1.2.2.2.2.2.2.2, a1.2.2.2.2.2.1⟩
  obtain ⟨c0, k0, n0⟩ := yLf_k a1 lf
  obtain ⟨-, -, hnum, hU, -, hver⟩ := p_load0 a1 h23 H
  have hall := xFF_0 h0
  obtain ⟨q1, q2, q3, q4⟩ := lq
  have zz : zS (fun b => b < M + 31) w0 w' := by rw [ew', ew] at *; exact zS_tr (zS_tr (zS_si z1) zS_1) (zS_tr (zS_si q1) zS_1)
  have nw : xv_N w' = xv_N u := by
    rw [ew']
    show xv_N w1' = _
    rw [q1.1, ew]
    show xv_N w1 = _
    rw [z1.1]
    exact n0
  have kw1 : ∀ b q, ¬ (N + 153 ≤ b ∧ b < N + 209) → xv_i w1 b q = xv_i w0 b q := fun b q hb => congrFun (z1.2.2.2.2.2.2 b (fun ⟨f, i, h1, h2, h3⟩ => by omega)) q
  have kw : ∀ b q, ¬ (b = h ∧ q = 5) → xv_i w b q = xv_i w1 b q := fun b q hb => by rw [ew, xv_si_if2, if_neg (by omega)]
  have kw' : ∀ b q, ¬ (b = M ∧ q = 32) → xv_i w' b q = xv_i w1' b q := fun b q hb => by rw [ew', xv_si_if2, if_neg (by omega)]
  have kq : ∀ b q, ¬ (M + 7 ≤ b ∧ b ≤ M + 14) → ¬ b = M + 22 → xv_i w1' b q = xv_i w b q := fun b q hb hb2 => congrFun (q1.2.2.2.2.2.2 b (by unfold xLS; omega)) q
  have kM : ∀ b q, M ≤ b → xv_i w b q = xv_i u b q := fun b q hb => by rw [kw b q (by omega), kw1 b q (by omega), k0 b q (by omega) (by omega)]
  have kall : ∀ b q, zD N M b q ∨ zF N M b q ∨ zA N M b q → xv_i w' b q = xv_i u b q := by
    intro b q hb
    have hx : ¬ (b = M ∧ q = 32) ∧ ¬ b = M + 12 ∧ ¬ b = M + 14 ∧ ¬ b = M + 22 ∧ ¬ b = h ∧ ¬ (b = N + 89 ∧ q = 4) ∧ ¬ (N + 91 ≤ b ∧ b ≤ N + 93) ∧ ¬ (N + 153 ≤ b ∧ b < N + 209) ∧ ((b = M + 7 ∨ b = M + 8 ∨ b = M + 9 ∨ b = M + 13) → q < 4480) ∧ ((b = M + 10 ∨ b = M + 11) → q < 16) := by
      rcases hb with hb | hb | hb
      · unfold zD at hb; omega
      · have := nF hb; omega
      · unfold zA at hb; omega
    obtain ⟨x1, x2, x3, x4, x5, x6, x7, x8, x9, x10⟩ := hx
    have fin : xv_i w b q = xv_i u b q := by rw [kw b q (by omega), kw1 b q x8, k0 b q x6 x7]
    rw [kw' b q x1, ← fin]
    by_cases c7 : b = M + 7 ∨ b = M + 8 ∨ b = M + 9 ∨ b = M + 13
    · obtain ⟨c, hc, rfl⟩ : ∃ c, (c = 7 ∨ c = 8 ∨ c = 9 ∨ c = 13) ∧ b = M + c := ⟨b - M, by omega, by omega⟩
      exact q2 c hc q (by have := x9 c7; omega)
    · by_cases c10 : b = M + 10 ∨ b = M + 11
      · obtain ⟨c, hc, rfl⟩ : ∃ c, (c = 10 ∨ c = 11) ∧ b = M + c := ⟨b - M, by omega, by omega⟩
        exact q3 c hc q (x10 c10)
      · exact kq b q (by omega) x4
  have g5 := H.2.2
  refine ⟨E, yCl_si zz (by rw [nw]; exact hl.2.2) c0, yD_fr (fun b q hb => kall b q (Or.inl hb)) a2, yF_fr (fun b q hb => kall b q (Or.inr (Or.inl hb))) a3, yA_fr a1.2.2.2.2.1 (fun b q hb => kall b q (Or.inr (Or.inr hb))) ⟨h23, a, H⟩, ?_, ?_, ?_, ?_⟩
  · -- the image
    have key : ∀ f, f < 8 → ∃ (Lf m : Nat) (U : yU), xUn w' (N + 153 + 7 * f) Lf U.1 U.2.1 U.2.2.1 ∧ (Lf = 0 → xv_i w' (M + 14) f = 0) ∧ (0 < Lf → xv_i w' (M + 14) f = 1 ∧ xv_i w' (M + 22) f = nI m ∧ yRw w' M (16 + f) Lf U ∧ yPe U Lf m f ∧ ∃ g, g ≤ 42 ∧ xGdM Lf U.1 U.2.1 U.2.2.1 g) := by
      intro f hf
      have mf := mu f hf
      have kc : ∀ b q, N + 153 ≤ b → b < N + 209 → xv_i w' b q = xv_i w1 b q := fun b q hb hb2 => by rw [kw' b q (by omega), kq b q (by omega) (by omega), kw b q (by omega)]
      obtain ⟨ls0, ls1⟩ := xRmk_ls (num := zNu u E) (V := (yLn u E, zOu u E, zFu u E M a.1, zSu u E M a.1)) (U := U0) a.1 f
      obtain ⟨q40, q41⟩ := q4 f hf
      cases hx : xLs (zNu u E) a.1 f with
      | none =>
        have e0 := ls0 hx
        refine ⟨0, 0, (fun _ => 0, fun _ => 0, fun _ => 0, fun _ => 0), ?_, fun _ => by rw [kw' _ _ (by omega)]; exact q40 hx, fun hc => absurd hc (by omega)⟩
        have := mf.1
        rw [e0] at this
        exact ⟨by rw [kc _ _ (by omega) (by omega)]; exact this, by omega, fun i hi => by omega⟩
      | some e =>
        obtain ⟨he, hne⟩ := xLs_lt _ _ _ hx
        obtain ⟨e1, e2, e3, e4⟩ := ls1 e hx
        obtain ⟨r1, r2, r3, r4⟩ := q41 e hx
        obtain ⟨p1, p2, p3⟩ := g5 e he
        obtain ⟨hL1, hL2, hL3⟩ := hU e he
        have hle := yPv_le p1
        obtain ⟨-, ⟨m, fn, k, v3, v5, hf8, v4, hk, pe⟩, -⟩ := p1
        have efn : fn = f := by
          have e5 : xv_i u (E e) 5 = xv_i u (E e) 2 := (hall e he).2
          rw [p2.2.2.2.2.2.1, v5, (hnum e he).1, hne] at e5
          exact (nI_eq (by omega) (by omega)).mp e5
        subst efn
        rw [e1, e2, e3, e4] at mf
        have mf : xUn w1 (N + 153 + 7 * fn) (yLn u E e) (zOu u E e) (zFu u E M a.1 e) (zSu u E M a.1 e) := mf
        rw [hL1] at mf r3 r4
        obtain ⟨g, hg, gd⟩ := hver e he (hall e he).1
        refine ⟨a.2.1 e, m, a.2.2.1 e, ?_, fun c => absurd c (by omega), fun _ => ⟨by rw [kw' _ _ (by omega)]; exact r1, ?_, ⟨?_, fun i hi => ?_⟩, pe, g, hg, gd⟩⟩
        · obtain ⟨m1, m2, m3⟩ := mf
          refine ⟨by rw [kc _ _ (by omega) (by omega)]; exact m1, m2, fun i hi => ?_⟩
          obtain ⟨n1, n2, n3, n4⟩ := m3 i hi
          obtain ⟨o1, o2, o3⟩ := hL3 i hi
          rw [kc _ _ (by omega) (by omega), kc _ _ (by omega) (by omega), kc _ _ (by omega) (by omega), ← o1, ← o2, ← o3]
          exact ⟨n1, n2, n3, n4⟩
        · rw [kw' _ _ (by omega), r2, kM _ _ (by omega)]
          exact p3.2.2.2.1.trans v3
        · rw [kw' _ _ (by omega)]; exact r3
        · obtain ⟨s1, s2, s3, s4⟩ := p3.1.2 i hi
          rw [kw' _ _ (by omega), r4 7 (by omega) i hi, kM _ _ (by omega), kw' _ _ (by omega), r4 8 (by omega) i hi, kM _ _ (by omega), kw' _ _ (by omega), r4 9 (by omega) i hi, kM _ _ (by omega), kw' _ _ (by omega), r4 13 (by omega) i hi, kM _ _ (by omega)]
          exact ⟨s1, s2, s3, s4⟩
    have ch : ∃ (L nP : Nat → Nat) (U : Nat → yU), ∀ f, f < 8 → xUn w' (N + 153 + 7 * f) (L f) (U f).1 (U f).2.1 (U f).2.2.1 ∧ (L f = 0 → xv_i w' (M + 14) f = 0) ∧ (0 < L f → xv_i w' (M + 14) f = 1 ∧ xv_i w' (M + 22) f = nI (nP f) ∧ yRw w' M (16 + f) (L f) (U f) ∧ yPe (U f) (L f) (nP f) f ∧ ∃ g, g ≤ 42 ∧ xGdM (L f) (U f).1 (U f).2.1 (U f).2.2.1 g) := by
      have key2 : ∀ f, ∃ t : Nat × Nat × yU, f < 8 → xUn w' (N + 153 + 7 * f) t.1 t.2.2.1 t.2.2.2.1 t.2.2.2.2.1 ∧ (t.1 = 0 → xv_i w' (M + 14) f = 0) ∧ (0 < t.1 → xv_i w' (M + 14) f = 1 ∧ xv_i w' (M + 22) f = nI t.2.1 ∧ yRw w' M (16 + f) t.1 t.2.2 ∧ yPe t.2.2 t.1 t.2.1 f ∧ ∃ g, g ≤ 42 ∧ xGdM t.1 t.2.2.1 t.2.2.2.1 t.2.2.2.2.1 g) := by
        intro f
        by_cases hf : f < 8
        · obtain ⟨Lf, m, U, hh⟩ := key f hf
          exact ⟨(Lf, m, U), fun _ => hh⟩
        · exact ⟨(0, 0, (fun _ => 0, fun _ => 0, fun _ => 0, fun _ => 0)), fun c => absurd c hf⟩
      obtain ⟨t, ht⟩ := Classical.axiomOfChoice key2
      exact ⟨fun f => (t f).1, fun f => (t f).2.1, fun f => (t f).2.2, fun f hf => ht f hf⟩
    exact ch
  · rw [kw' _ _ (by omega), kq _ _ (by omega) (by omega), ew, xv_si_eq, ew', xv_si_eq, kM _ _ (by omega), a6.1]
  · rw [kw' _ _ (by omega), kq _ _ (by omega) (by omega), kw _ _ (by omega), kw1 _ _ (by omega), k0 _ _ (by omega) (by omega), kw' _ _ (by omega), kq _ _ (by omega) (by omega), kM _ _ (by omega)]; exact a6.2.1
  · rw [kw' _ _ (by omega), kq _ _ (by omega) (by omega), kw _ _ (by omega), kw1 _ _ (by omega), k0 _ _ (by omega) (by omega), kw' _ _ (by omega), kq _ _ (by omega) (by omega), kM _ _ (by omega)]; exact a6.2.2

