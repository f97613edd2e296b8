/-! the interpreter's loop gives what the form gives -/
def xWt (τ : Nat) : Nat := if τ = 0 then 64 else if τ = 1 then 8 else 1
theorem xWt_8 {τ : Nat} (h : τ < 2) : xWt τ = 8 * xWt (τ + 1) := by
  rcases (by omega : τ = 0 ∨ τ = 1) with e | e <;> subst e <;> decide
theorem xWt_1 (τ : Nat) : 1 ≤ xWt τ := by
  unfold xWt
  split
  · decide
  · split <;> decide
def xAgY (π π' : xY) (m : Nat) : Prop := ∀ q, q < m → π'.1 q = π.1 q ∧ π'.2.1 q = π.2.1 q
def xAgV (σ σ' : xZ) (n : Nat) : Prop := ∀ q, q < n → σ'.2.1 q = σ.2.1 q
def xHe (sc : Nat × (Nat → Int32)) (D h f : Nat) (x y z : Int32) (n1 s1 : Nat) (P : xv_P) (i : Nat) (w : xv_M) : Prop := xv_X sc D J_Interp_answer 52 [some (.ref h), some (.int (nI f)), some (.int x), some (.int y), some (.int z), some (.int (nI i))] [] w n1 s1 P
/-- all that holds along one activation -/
def xAct (sc : Nat × (Nat → Int32)) (u : xv_M) (h ma fa oa B f dl : Nat) (L nP : Nat → Nat) (O : Nat → Nat → Nat) (A : Nat → Nat → Int32) (ans : Nat → Int32 → Int32 → Int32 → xRs) : Prop := xII u h ma fa oa B L nP O A ∧ f < 8 ∧ xTok (O f) (A f) (L f) ∧ L f ≤ 40 ∧ (∀ p, p < L f → O f p = 17 → ∀ v, v < 8 → A f p = nI v → v < f) ∧
  ∀ a, a < f → ∀ (u' : xv_M) (x y z : Int32), xII u' h ma fa oa B L nP O A → (∀ v, ans a x y z = .inl v → xv_C sc dl J_Interp_answer [.ref h, .int (nI a), .int x, .int y, .int z] u' (xv_N u') (xv_S u') (xv_pi (fun r w => r = v ∧ xSi (xIF B a) u' w))) ∧ (∀ k, ans a x y z = .inr k → xv_C sc dl J_Interp_answer [.ref h, .int (nI a), .int x, .int y, .int z] u' (xv_N u' + 1) (xv_S u' + 6) (xv_px k (fun e w => ∃ w0, xSi (xIF B a) u' w0 ∧ e = xv_N u' ∧ w = xv_nw w0 (k + 1) 0 6)))
def xTX (u : xv_M) (B f n1 s1 : Nat) (P : xv_P) (e : Nat) : Prop := n1 = xv_N u + 1 ∧ s1 = xv_S u + 6 ∧ P = xv_q (xv_N u + 1) (xv_S u + 6) (xv_px e (fun a w => ∃ w0, xSi (xIF B f) u w0 ∧ a = xv_N u ∧ w = xv_nw w0 (e + 1) 0 6))
/-- what stands behind a form's evaluation -/
def xCo (sc : Nat × (Nat → Int32)) (u : xv_M) (D h B f : Nat) (x y z : Int32) (n1 s1 : Nat) (P : xv_P) (σ : xZ) (π : xY) (m i c : Nat) (v : Int32) (W : xV) : Prop := ∀ i' w' σ' π', i' ≤ i + c → xIS u B f w' σ' π' → σ'.1 = W → σ'.2.2 = σ.2.2 + 1 → σ'.2.1 σ.2.2 = v → xAgV σ σ' σ.2.2 → π'.2.2 = m → xAgY π π' m → xHe sc D h f x y z n1 s1 P i' w'
/-- one step of the loop, at whatever advance does -/
theorem xGo1 {sc : Nat × (Nat → Int32)} {u : xv_M} {h ma fa oa B f dl D n1 s1 : Nat} {L nP : Nat → Nat} {O : Nat → Nat → Nat} {A : Nat → Nat → Int32} {ans : Nat → Int32 → Int32 → Int32 → xRs} {x y z : Int32} {P : xv_P} (C : xAct sc u h ma fa oa B f dl L nP O A ans) (hN : xv_N u ≤ n1) (hS : xv_S u ≤ s1) (hD : dl + 5 ≤ D) (hD2 : 10 ≤ D) {w : xv_M} {σ : xZ} {π : xY} {m i d : Nat} {Q : xv_M → Prop} (S : xIS u B f w σ π) (hm : π.2.2 = m + 1) (hm40 : m < 40) (hi : i < 1000000) (hd : d + 1 ≤ D) (hadv : xv_C sc d J_Interp_advance [.ref h, .int (nI f)] w (xv_N w) (xv_S w) (xv_pv Q)) (cont : ∀ w', Q w' → xHe sc D h f x y z n1 s1 P (i + 1) w') : xHe sc D h f x y z n1 s1 P i w := by
  refine c_ia_step (ii := i) C.1 C.2.1 S hm hm40 hi hd hN hS hadv (fun w' hq j hj => ?_) rfl
  subst hj
  exact cont w' hq
theorem xIS_tr {u w w' : xv_M} {B f : Nat} {σ σ' : xZ} {π π' : xY} (S : xIS u B f w σ π) (h1 : xFs w' (B + 10 * f + 4) σ') (h2 : xOs w' (B + 10 * f + 7) π') (h3 : xSi (xIF B f) w w') : xIS u B f w' σ' π' := ⟨xSi_tr S.1 h3, h1, h2⟩
theorem xIS_st {u w : xv_M} {B f : Nat} {σ : xZ} {π : xY} (S : xIS u B f w σ π) : xv_i w (B + 10 * f + 3) = xv_i u (B + 10 * f + 3) := S.1.2.2.2.2.2.2 _ (fun q => by
  obtain ⟨g, -, hq⟩ := q
  have := xFO_n hq
  omega)
/-- entering part j of the form at p, evaluating it, coming back -/
theorem xPart {sc : Nat × (Nat → Int32)} {u : xv_M} {h ma fa oa B f dl D n1 s1 : Nat} {L nP : Nat → Nat} {O : Nat → Nat → Nat} {A : Nat → Nat → Int32} {ans : Nat → Int32 → Int32 → Int32 → xRs} {x y z : Int32} {P : xv_P} (C : xAct sc u h ma fa oa B f dl L nP O A ans) (hN : xv_N u ≤ n1) (hS : xv_S u ≤ s1) (hD : dl + 5 ≤ D) (hD2 : 10 ≤ D) {k : Nat} (ih : ∀ (p κ γ τ e : Nat), κ < 128 → γ < 128 → τ ≤ 2 → xEk (O f) (A f) (L f) k p (nI κ) (nI γ) (nI τ) = some e → xSt (O f) (xv_i u (B + 10 * f + 3)) k p → ∀ (w : xv_M) (σ : xZ) (π : xY) (m i : Nat), xIS u B f w σ π → π.2.2 = m + 1 → π.1 m = p → π.2.1 m = 0 → m ≤ p → σ.2.2 ≤ p → i + 4 * (e - p) * xWt τ ≤ 1000000 → xK (xEv ans (O f) (A f) k p σ.1) (xCo sc u D h B f x y z n1 s1 P σ π m i (4 * (e - p) * xWt τ)) (xTX u B f n1 s1 P) → xHe sc D h f x y z n1 s1 P i w) {p s e κ γ τ j : Nat} (hκ : κ < 128) (hγ : γ < 128) (hτ : τ ≤ 2) (hE : xEk (O f) (A f) (L f) k s (nI κ) (nI γ) (nI τ) = some e) (hst : xv_i u (B + 10 * f + 3) (p * 3 + j) = nI s) (hSt : xSt (O f) (xv_i u (B + 10 * f + 3)) k s) (hpL : p < L f) (hps : p < s) (hse : s < e) (hj9 : j < 100) (h13 : ¬ (O f p = 13 ∧ j = 1)) (h14 : ¬ (O f p = 14 ∧ j = 1)) (h16 : ¬ (O f p = 16 ∧ 0 < j)) (hpj : j < xPa (O f p)) (hsL : s < L f)
    {w : xv_M} {σ : xZ} {π : xY} {m i : Nat} (S : xIS u B f w σ π) (hm : π.2.2 = m + 1) (hp : π.1 m = p) (hj : π.2.1 m = j) (hmp : m ≤ p) (hσ : σ.2.2 ≤ s) (hi : i + (1 + 4 * (e - s) * xWt τ) ≤ 1000000)
    (hK : xK (xEv ans (O f) (A f) k s σ.1) (fun v W => ∀ i' w' σ' π', i' ≤ i + (1 + 4 * (e - s) * xWt τ) → xIS u B f w' σ' π' → σ'.1 = W → σ'.2.2 = σ.2.2 + 1 → σ'.2.1 σ.2.2 = v → xAgV σ σ' σ.2.2 → π'.2.2 = m + 1 → π'.1 m = p → π'.2.1 m = j + 1 → xAgY π π' m → xHe sc D h f x y z n1 s1 P i' w') (xTX u B f n1 s1 P)) : xHe sc D h f x y z n1 s1 P i w := by
  have hL := C.2.2.2.1
  have Hw := xSi_II S.1 C.1
  refine xGo1 C hN hS hD hD2 S hm (by omega) (by omega) (d := 3) (by omega) (c_adv_enter Hw C.2.1 S.2.1 S.2.2 hm hp hj (by omega) hpL hj9 h13 h14 h16 hpj (by rw [xIS_st S]; exact hst) (by omega)) (fun w' hq => ?_)
  obtain ⟨q1, q2, q3⟩ := hq
  have S' := xIS_tr S q1 q2 q3
  have n1' : (xOe π s).2.2 = m + 1 + 1 := by show π.2.2 + 1 = _; omega
  have e1 : (xOe π s).1 (m + 1) = s := by show xPt π.1 π.2.2 s (m + 1) = s; rw [hm]; exact xPt_eq
  have e2 : (xOe π s).2.1 (m + 1) = 0 := by show xPt _ π.2.2 0 (m + 1) = 0; rw [hm]; exact xPt_eq
  have e3 : (xOe π s).1 m = p := by show xPt π.1 π.2.2 s m = p; rw [hm, xPt_ne (by omega)]; exact hp
  have e4 : (xOe π s).2.1 m = j + 1 := by
    show xPt (xPt π.2.1 (π.2.2 - 1) (π.2.1 (π.2.2 - 1) + 1)) π.2.2 0 m = j + 1
    rw [hm, xPt_ne (by omega), show m + 1 - 1 = m by omega, xPt_eq, hj]
  have e5 : xAgY π (xOe π s) m := fun q hq => by
    refine ⟨?_, ?_⟩
    · show xPt π.1 π.2.2 s q = _
      rw [xPt_ne (by omega)]
    · show xPt (xPt π.2.1 (π.2.2 - 1) (π.2.1 (π.2.2 - 1) + 1)) π.2.2 0 q = _
      rw [xPt_ne (by omega), xPt_ne (by omega)]
  refine ih s κ γ τ e hκ hγ hτ hE hSt w' σ (xOe π s) (m + 1) (i + 1) S' n1' e1 e2 (by omega) hσ (by omega) (xK_mono hK (fun v W hc => ?_))
  intro i' w2 σ' π' g1 g2 g3 g4 g5 g6 g7 g8
  refine hc i' w2 σ' π' (by omega) g2 g3 g4 g5 g6 g7 ?_ ?_ (fun q hq => ?_)
  · rw [(g8 m (by omega)).1, e3]
  · rw [(g8 m (by omega)).2, e4]
  · have a1 := g8 q (by omega)
    have a2 := e5 q hq
    exact ⟨a1.1.trans a2.1, a1.2.trans a2.2⟩
/-- the end of a form: leave and finish -/
theorem xFinV {sc : Nat × (Nat → Int32)} {u : xv_M} {h ma fa oa B f dl D n1 s1 : Nat} {L nP : Nat → Nat} {O : Nat → Nat → Nat} {A : Nat → Nat → Int32} {ans : Nat → Int32 → Int32 → Int32 → xRs} {x y z : Int32} {P : xv_P} (C : xAct sc u h ma fa oa B f dl L nP O A ans) (hN : xv_N u ≤ n1) (hS : xv_S u ≤ s1) (hD : dl + 5 ≤ D) (hD2 : 10 ≤ D) {p j : Nat} {w : xv_M} {σ : xZ} {π : xY} {m i d : Nat} {τ : xZ} (S : xIS u B f w σ π) (hm : π.2.2 = m + 1) (hp : π.1 m = p) (hj : π.2.1 m = j) (hmp : m ≤ p) (hpL : p < L f) (hj9 : j < 100) (h13 : ¬ (O f p = 13 ∧ j = 1)) (h14 : ¬ (O f p = 14 ∧ j = 1)) (h16 : ¬ (O f p = 16 ∧ 0 < j)) (hpj : xPa (O f p) ≤ j) (hi : i < 1000000) (hd : 2 ≤ d) (hdD : d + 2 ≤ D) (hfin : ∀ u', xII u' h ma fa oa B L nP O A → xFs u' (B + 10 * f + 4) σ → xv_C sc d J_Interp_finish [.ref h, .int (nI f), .int (nI (O f p)), .int (A f p)] u' (xv_N u') (xv_S u') (xv_pv (fun w => xFs w (B + 10 * f + 4) τ ∧ xSi (xIL B f) u' w)))
    (cont : ∀ w' π', xIS u B f w' τ π' → π'.2.2 = m → xAgY π π' m → xHe sc D h f x y z n1 s1 P (i + 1) w') : xHe sc D h f x y z n1 s1 P i w := by
  have hL := C.2.2.2.1
  have Hw := xSi_II S.1 C.1
  refine xGo1 C hN hS hD hD2 S hm (by omega) hi (d := d + 1) (by omega) (c_adv_fin Hw C.2.1 S.2.1 S.2.2 hm hp hj (by omega) hpL hj9 h13 h14 h16 hd hpj hfin) (fun w' hq => ?_)
  obtain ⟨q1, q2, q3⟩ := hq
  exact cont w' _ (xIS_tr S q1 q2 q3) (by show π.2.2 - 1 = m; omega) (fun q hq => ⟨rfl, rfl⟩)
theorem xFinX {sc : Nat × (Nat → Int32)} {u : xv_M} {h ma fa oa B f dl D n1 s1 : Nat} {L nP : Nat → Nat} {O : Nat → Nat → Nat} {A : Nat → Nat → Int32} {ans : Nat → Int32 → Int32 → Int32 → xRs} {x y z : Int32} {P : xv_P} (C : xAct sc u h ma fa oa B f dl L nP O A ans) (hN : xv_N u ≤ n1) (hS : xv_S u ≤ s1) (hD : dl + 5 ≤ D) (hD2 : 10 ≤ D) {p j e : Nat} {w : xv_M} {σ : xZ} {π : xY} {m i d : Nat} (S : xIS u B f w σ π) (hm : π.2.2 = m + 1) (hp : π.1 m = p) (hj : π.2.1 m = j) (hmp : m ≤ p) (hpL : p < L f) (hj9 : j < 100) (h13 : ¬ (O f p = 13 ∧ j = 1)) (h14 : ¬ (O f p = 14 ∧ j = 1)) (h16 : ¬ (O f p = 16 ∧ 0 < j)) (hpj : xPa (O f p) ≤ j) (hi : i < 1000000) (hd : 2 ≤ d) (hdD : d + 2 ≤ D) (hfin : ∀ u', xII u' h ma fa oa B L nP O A → xFs u' (B + 10 * f + 4) σ → xv_C sc d J_Interp_finish [.ref h, .int (nI f), .int (nI (O f p)), .int (A f p)] u' (xv_N u' + 1) (xv_S u' + 6) (xv_px e (fun a w => ∃ w0, xSi (xIL B f) u' w0 ∧ a = xv_N u' ∧ w = xv_nw w0 (e + 1) 0 6))) (hX : xTX u B f n1 s1 P e) : xHe sc D h f x y z n1 s1 P i w := by
  have hL := C.2.2.2.1
  have Hw := xSi_II S.1 C.1
  obtain ⟨x1, x2, x3⟩ := hX
  subst x1
  subst x2
  subst x3
  exact c_ia_stepx C.1 C.2.1 S hm (by omega) hi (d := d + 1) (by omega) (c_adv_finx Hw C.2.1 S.2.1 S.2.2 hm hp hj (by omega) hpL hj9 h13 h14 h16 hd hpj hfin)

