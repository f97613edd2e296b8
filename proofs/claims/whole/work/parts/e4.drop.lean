/-! drop -/
def yPi (e n j : Nat) : Nat := if j < e then j else if j + 1 < n then j + 1 else if j + 1 = n then e else j
theorem yPi_rm {E : Nat → Nat} {e n j : Nat} : xRm E e n j = E (yPi e n j) := by
  unfold xRm yPi
  by_cases c1 : j < e
  · rw [if_pos c1, if_pos c1]
  rw [if_neg c1, if_neg c1]
  by_cases c2 : j + 1 < n
  · rw [if_pos c2, if_pos c2]
  rw [if_neg c2, if_neg c2]
  by_cases c3 : j + 1 = n
  · rw [if_pos c3, if_pos c3]
  rw [if_neg c3, if_neg c3]
theorem yPi_lt {e n j : Nat} (he : e < n) (hn : n ≤ 8) (hj : j < 8) : yPi e n j < 8 := by
  unfold yPi
  split
  · omega
  split
  · omega
  split <;> omega
theorem yPi_inj {e n j j' : Nat} (he : e < n) (h : yPi e n j = yPi e n j') : j = j' := by
  unfold yPi at h
  by_cases a1 : j < e <;> by_cases b1 : j' < e
  · rw [if_pos a1, if_pos b1] at h; exact h
  · rw [if_pos a1, if_neg b1] at h
    by_cases b2 : j' + 1 < n
    · rw [if_pos b2] at h; omega
    · rw [if_neg b2] at h
      by_cases b3 : j' + 1 = n
      · rw [if_pos b3] at h; omega
      · rw [if_neg b3] at h; omega
  · rw [if_neg a1, if_pos b1] at h
    by_cases b2 : j + 1 < n
    · rw [if_pos b2] at h; omega
    · rw [if_neg b2] at h
      by_cases b3 : j + 1 = n
      · rw [if_pos b3] at h; omega
      · rw [if_neg b3] at h; omega
  · rw [if_neg a1, if_neg b1] at h
    by_cases a2 : j + 1 < n <;> by_cases b2 : j' + 1 < n
    · rw [if_pos a2, if_pos b2] at h; omega
    · rw [if_pos a2, if_neg b2] at h
      by_cases b3 : j' + 1 = n
      · rw [if_pos b3] at h; omega
      · rw [if_neg b3] at h; omega
    · rw [if_neg a2, if_pos b2] at h
      by_cases b3 : j + 1 = n
      · rw [if_pos b3] at h; omega
      · rw [if_neg b3] at h; omega
    · rw [if_neg a2, if_neg b2] at h
      by_cases a3 : j + 1 = n <;> by_cases b3 : j' + 1 = n
      · omega
      · rw [if_pos a3, if_neg b3] at h; omega
      · rw [if_neg a3, if_pos b3] at h; omega
      · rw [if_neg a3, if_neg b3] at h; exact h
theorem yPi_s {e n j : Nat} (hj : j < n - 1) : yPi e n j = if j < e then j else j + 1 := by
  unfold yPi
  by_cases c : j < e
  · rw [if_pos c, if_pos c]
  · rw [if_neg c, if_neg c, if_pos (by omega)]
theorem yEp_rm {N e n : Nat} {E : Nat → Nat} (h : yEp N E) (he : e < n) (hn : n ≤ 8) : yEp N (xRm E e n) := by
  refine ⟨fun j hj => ?_, fun j j' hj hj' q => ?_⟩
  · rw [yPi_rm]; exact h.1 _ (yPi_lt he hn hj)
  · rw [yPi_rm, yPi_rm] at q
    exact yPi_inj he (h.2 _ _ (yPi_lt he hn hj) (yPi_lt he hn hj') q)
/-- the model's memory is as it was when the class has dropped an entry -/
theorem p_drop0 {u : xv_M} {h N M : Nat} {E : Nat → Nat} {a : yAd} (a1 : yCl u h N M E) (a2 : yD u N M) (a3 : yF u N M) (h23 : xv_i u (N + 89) 2 = xv_i u M 29 ∧ xv_i u (N + 89) 3 = xv_i u M 30) (H : yAs u N M E a) (a5 : yI u N M) (a6 : yK u h M) {e : Nat} {ρ : Nat → Option Nat} (he : e < a.1) : (∀ b q, ¬ (b = N + 89 ∧ (q = 1 ∨ q = 3)) → xv_i (xv_si (xv_si (xRow u (N + 90) ρ) (N + 89) 1 (nI (a.1 - 1))) (N + 89) 3 (nI (a.1 - 1))) b q = xv_i u b q) ∧ xMo (xv_si (xv_si (xRow u (N + 90) ρ) (N + 89) 1 (nI (a.1 - 1))) (N + 89) 3 (nI (a.1 - 1))) M := by
  have hl : N + 209 ≤ M := a1.2.2.2.2.2.2.2
  refine ⟨fun b q hb => ?_, xMo_z (T := fun b => M ≤ b) (u := u) (w := (xv_si (xv_si (xRow u (N + 90) ρ) (N + 89) 1 (nI (a.1 - 1))) (N + 89) 3 (nI (a.1 - 1)))) (fun b (hb : M ≤ b) => ⟨rfl, rfl, fun q => if_neg (show ¬ b = N + 90 by omega)⟩) (fun b hb _ => hb) a1.2.2.1⟩
  · rw [xv_si_if2, if_neg (by omega), xv_si_if2, if_neg (by omega)]; rfl
theorem p_drop {u : xv_M} {h N M : Nat} {E : Nat → Nat} {a : yAd} (a1 : yCl u h N M E) (a2 : yD u N M) (a3 : yF u N M) (h23 : xv_i u (N + 89) 2 = xv_i u M 29 ∧ xv_i u (N + 89) 3 = xv_i u M 30) (H : yAs u N M E a) (a5 : yI u N M) (a6 : yK u h M) {e : Nat} {ρ : Nat → Option Nat} {w1 : xv_M} (he : e < a.1) (hρ : ∀ j, j < 8 → ρ j = some (xRm E e a.1 j)) (hq : xDq (xv_si (xv_si (xRow u (N + 90) ρ) (N + 89) 1 (nI (a.1 - 1))) (N + 89) 3 (nI (a.1 - 1))) w1 M e (a.1 - 1) (yLn u E)) (h31 : xv_i w1 M 31 = nI (a.1 - 1)) : yTi (xv_si w1 M 30 (nI (a.1 - 1))) h N M := by
  have hl : h < N ∧ N + 209 ≤ M ∧ M + 31 ≤ xv_N u := ⟨a1.2.2.2.2.2.2.1, a1.2.2.2.2.2.2.2, a1.2.2.2.2.2.1⟩
  have hE := a1.2.2.2.2.1
  obtain ⟨kw, -⟩ := p_drop0 (ρ := ρ) a1 a2 a3 h23 H a5 a6 he
  have w1v : xv_i (xv_si (xv_si (xRow u (N + 90) ρ) (N + 89) 1 (nI (a.1 - 1))) (N + 89) 3 (nI (a.1 - 1))) (N + 89) 1 = nI (a.1 - 1) := by rw [xv_si_nj (by omega), xv_si_eq]
  have w3v : xv_i (xv_si (xv_si (xRow u (N + 90) ρ) (N + 89) 1 (nI (a.1 - 1))) (N + 89) 3 (nI (a.1 - 1))) (N + 89) 3 = nI (a.1 - 1) := by rw [xv_si_eq]
  obtain ⟨⟨g1, g2, g3⟩, g4, g5⟩ := H
  have hL : ∀ j, j < a.1 → yLn u E j = a.2.1 j ∧ a.2.1 j ≤ 265 := fun j hj => by
    obtain ⟨p1, p2, p3⟩ := g5 j hj
    have := (yPv_le p1).2
    exact ⟨yLn_of p2.1 this, this⟩
  have zw : zS (yT8 M N) u (xv_si (xv_si (xRow u (N + 90) ρ) (N + 89) 1 (nI (a.1 - 1))) (N + 89) 3 (nI (a.1 - 1))) := fun b hb => ⟨rfl, rfl, fun q => if_neg (fun e => by unfold yT8 at hb; omega)⟩
  have Nw : xv_N (xv_si (xv_si (xRow u (N + 90) ρ) (N + 89) 1 (nI (a.1 - 1))) (N + 89) 3 (nI (a.1 - 1))) = xv_N u := rfl
  have rw90 : ∀ j, j < 8 → xv_r (xv_si (xv_si (xRow u (N + 90) ρ) (N + 89) 1 (nI (a.1 - 1))) (N + 89) 3 (nI (a.1 - 1))) (N + 90) j = some (xRm E e a.1 j) := fun j hj => by
    show (if N + 90 = N + 90 then ρ j else _) = _
    rw [if_pos rfl, hρ j hj]
  have hck : xv_Ck (xv_si (xv_si (xRow u (N + 90) ρ) (N + 89) 1 (nI (a.1 - 1))) (N + 89) 3 (nI (a.1 - 1))) (N + 91) (N + 92) (N + 93) := by
    obtain ⟨-, ⟨-, b2, -, -⟩, -⟩ := a1
    obtain ⟨k1, k2, k3, k4, k5, k6, k7, k8⟩ := b2
    exact ⟨k1, by show (if _ then _ else _) = _; rw [if_neg (by omega)]; exact k2, by show (if _ then _ else _) = _; rw [if_neg (by omega)]; exact k3, k4, k5, k6, k7, k8⟩
  have hk88 : xv_k (xv_si (xv_si (xRow u (N + 90) ρ) (N + 89) 1 (nI (a.1 - 1))) (N + 89) 3 (nI (a.1 - 1))) (N + 88) = xv_k u (N + 88) := rfl
  have hk90 : xv_k (xv_si (xv_si (xRow u (N + 90) ρ) (N + 89) 1 (nI (a.1 - 1))) (N + 89) 3 (nI (a.1 - 1))) (N + 90) = xv_k u (N + 90) ∧ xv_l (xv_si (xv_si (xRow u (N + 90) ρ) (N + 89) 1 (nI (a.1 - 1))) (N + 89) 3 (nI (a.1 - 1))) (N + 90) = xv_l u (N + 90) := ⟨rfl, rfl⟩
  generalize (xv_si (xv_si (xRow u (N + 90) ρ) (N + 89) 1 (nI (a.1 - 1))) (N + 89) 3 (nI (a.1 - 1))) = w at *
  obtain ⟨z, m0, m15, m10, m7, m21, m21'⟩ := hq
  have a1w : yCl w h N M (xRm E e a.1) := yCl_fr zw hk88 hck hk90 (yEp_rm hE he g3) rw90 (by rw [Nw]; exact hl.2.2) a1
  have a1' : yCl (xv_si w1 M 30 (nI (a.1 - 1))) h N M (xRm E e a.1) := yCl_si (zS_tr (zS_si z) zS_1) (by show M + 31 ≤ xv_N w1; rw [z.1, Nw]; exact hl.2.2) a1w
  have kc : ∀ b q, b < M → xv_i (xv_si w1 M 30 (nI (a.1 - 1))) b q = xv_i w b q := fun b q hb => by
    rw [xv_si_ne (by omega), z.2.2.2.2.2.2 b (by unfold xDrS; omega)]
  have kall : ∀ b q, zD N M b q ∨ zF N M b q ∨ zI N M b q ∨ zK h M b q → xv_i (xv_si w1 M 30 (nI (a.1 - 1))) b q = xv_i u b q := by
    intro b q hb
    have hb := nAll hl.2.1 hl.1 hb
    rw [xv_si_if2, if_neg (by omega), ← kw b q (by omega)]
    by_cases hx : xDrS M b
    · unfold xDrS at hx
      by_cases c0 : b = M
      · subst c0; exact m0 q (by omega)
      · by_cases c1 : b = M + 10 ∨ b = M + 11
        · obtain ⟨c, hc, rfl⟩ : ∃ c, (c = 10 ∨ c = 11) ∧ b = M + c := ⟨b - M, by omega, by omega⟩
          rw [m10 c hc q, if_neg (by omega)]
        · obtain ⟨c, hc, rfl⟩ : ∃ c, (c = 7 ∨ c = 8 ∨ c = 9 ∨ c = 13) ∧ b = M + c := ⟨b - M, by omega, by omega⟩
          exact (m7 c hc).1 q (by omega)
    · exact congrFun (z.2.2.2.2.2.2 b hx) q
  refine ⟨xRm E e a.1, a1', yD_fr (fun b q hb => kall b q (Or.inl hb)) a2, yF_fr (fun b q hb => kall b q (Or.inr (Or.inl hb))) a3, ⟨⟨?_, ?_⟩, (a.1 - 1, fun j => a.2.1 (yPi e a.1 j), fun j => a.2.2.1 (yPi e a.1 j), fun j => a.2.2.2.1 (yPi e a.1 j), fun j => a.2.2.2.2 (yPi e a.1 j)), ⟨?_, ?_, by show a.1 - 1 ≤ 8; omega⟩, fun j hj => ?_, fun j hj => ?_⟩, yI_fr (fun b q hb => kall b q (Or.inr (Or.inr (Or.inl hb)))) a5, yK_fr (fun b q hb => kall b q (Or.inr (Or.inr (Or.inr hb)))) a6⟩
  · rw [kc _ _ (by omega), kw _ _ (by omega), xv_si_nj (by omega), m0 29 (by omega), kw _ _ (by omega)]; exact h23.1
  · rw [kc _ _ (by omega), xv_si_eq]; exact w3v
  · rw [kc _ _ (by omega)]; exact w1v
  · rw [xv_si_nj (by omega)]; exact h31
  · rw [yPi_rm]
    have hp := yPi_lt he g3 hj
    obtain ⟨jj, hjj, ejj⟩ := hE.1 _ hp
    exact yCw_e (fun b b1 b2 q => by rw [kc _ _ (by omega), kw _ _ (by omega)]) (g4 _ hp)
  · have hj : j < a.1 - 1 := hj
    have hs := yPi_s (e := e) hj
    have hp : yPi e a.1 j < a.1 := by rw [hs]; split <;> omega
    obtain ⟨p1, p2, p3⟩ := g5 _ hp
    have hlp := hL _ hp
    rw [yPi_rm]
    obtain ⟨jj, hjj, ejj⟩ := hE.1 (yPi e a.1 j) (by omega)
    refine ⟨p1, yCe_e (fun b b1 b2 q => by rw [kc _ _ (by omega), kw _ _ (by omega)]) p2, ?_⟩
    show yMe _ M j (a.2.1 (yPi e a.1 j)) (a.2.2.1 (yPi e a.1 j)) (a.2.2.2.1 (yPi e a.1 j)) (a.2.2.2.2 (yPi e a.1 j))
    have f15 : ∀ c, 15 ≤ c ∧ c ≤ 20 → xv_i (xv_si w1 M 30 (nI (a.1 - 1))) (M + c) j = xv_i u (M + c) (yPi e a.1 j) := by
      intro c hc
      rw [xv_si_ne (by omega), m15 c hc j, hs]
      by_cases q : j < e
      · rw [if_neg (by omega), if_pos q, kw _ _ (by omega)]
      · rw [if_pos (by omega), if_neg q, kw _ _ (by omega)]
    have f10 : ∀ c, c = 10 ∨ c = 11 → xv_i (xv_si w1 M 30 (nI (a.1 - 1))) (M + c) (8 + j) = xv_i u (M + c) (8 + yPi e a.1 j) := by
      intro c hc
      rw [xv_si_ne (by omega), m10 c hc (8 + j), hs]
      by_cases q : j < e
      · rw [if_neg (by omega), if_pos q, kw _ _ (by omega)]
      · rw [if_pos (by omega), if_neg q, kw _ _ (by omega), show 8 + (j + 1) = 8 + j + 1 by omega]
    have f7 : ∀ c, c = 7 ∨ c = 8 ∨ c = 9 ∨ c = 13 → ∀ i, i < a.2.1 (yPi e a.1 j) → xv_i (xv_si w1 M 30 (nI (a.1 - 1))) (M + c) (280 * (8 + j) + i) = xv_i u (M + c) (280 * (8 + yPi e a.1 j) + i) := by
      intro c hc i hi
      rw [xv_si_ne (by omega)]
      rw [hs] at hi hlp ⊢
      by_cases q : j < e
      · rw [if_pos q] at hi hlp ⊢
        rw [(m7 c hc).1 _ (by omega), kw _ _ (by omega)]
      · rw [if_neg q] at hi hlp ⊢
        rw [(m7 c hc).2 j i (by omega) (by omega) (by omega), kw _ _ (by omega), show 280 * (8 + (j + 1)) + i = 280 * (9 + j) + i by omega]
    have f21 : ∀ i, i < a.2.1 (yPi e a.1 j) → xv_i (xv_si w1 M 30 (nI (a.1 - 1))) (M + 21) (280 * j + i) = xv_i u (M + 21) (280 * yPi e a.1 j + i) := by
      intro i hi
      rw [xv_si_ne (by omega)]
      rw [hs] at hi hlp ⊢
      by_cases q : j < e
      · rw [if_pos q] at hi hlp ⊢
        rw [m21 _ (by omega), kw _ _ (by omega)]
      · rw [if_neg q] at hi hlp ⊢
        rw [m21' j i (by omega) (by omega) (by omega), kw _ _ (by omega)]
    obtain ⟨r1, r2, c1, c2, c3, c4, c5, c6, c7⟩ := p3
    refine ⟨⟨(f10 10 (by omega)).trans r1.1, fun i hi => ?_⟩, fun i hi => (f21 i hi).trans (r2 i hi), (f15 17 (by omega)).trans c1, (f15 18 (by omega)).trans c2, (f10 11 (by omega)).trans c3, (f15 19 (by omega)).trans c4, (f15 15 (by omega)).trans c5, (f15 20 (by omega)).trans c6, (f15 16 (by omega)).trans c7⟩
    obtain ⟨e1, e2, e3, e4⟩ := r1.2 i hi
    exact ⟨(f7 7 (by omega) i hi).trans e1, (f7 8 (by omega) i hi).trans e2, (f7 9 (by omega) i hi).trans e3, (f7 13 (by omega) i hi).trans e4⟩

