/-! pairs: interpret, run (a value, or a throw) -/
def yGq (w w2 : xv_M) : Prop := xv_N w2 = xv_N w ∧ ∀ b, xv_k w2 b = xv_k w b ∧ xv_l w2 b = xv_l w b ∧ (∀ q, xv_r w2 b q = xv_r w b q) ∧ ∀ q, xv_i w2 b q = xv_i w b q
def yPM (sc : Nat × (Nat → Int32)) (J : xv_J) (h N M : Nat) (f x y z : Int32) (w : xv_M) (c v : Int32) : Prop := (xv_k w M = 12 ∧ xv_k w (M + 30) = 102 ∧ xv_l w (M + 30) = 1) ∧ ∀ w2, yGq w w2 → xv_C sc 2 J [.ref M, .int f, .int x, .int y, .int z] w2 (xv_N w2) (xv_S w2) (xv_pi (fun b w' => xv_i w' M 35 = c ∧ (c = 0 → b = v) ∧ xv_g w' = xv_g w2 ∧ yTi w' h N M))
theorem yTi_k {u : xv_M} {h N M : Nat} (H : yTi u h N M) : xv_k u h = 11 ∧ xv_k u M = 12 ∧ xv_k u (M + 30) = 102 ∧ xv_l u (M + 30) = 1 := by
  obtain ⟨E, a1, -⟩ := H
  exact ⟨a1.1.1.1, a1.2.2.1.1, a1.2.2.2.1.1, a1.2.2.2.1.2⟩
theorem yTi_kz {u w : xv_M} {h N M : Nat} (H : yTi u h N M) (z : zS (fun b => b < M + 31) u w) : xv_k w M = 12 ∧ xv_k w (M + 30) = 102 ∧ xv_l w (M + 30) = 1 := by
  have k := yTi_k H
  have z1 := z M (by show M < M + 31; omega)
  have z2 := z (M + 30) (by show M + 30 < M + 31; omega)
  exact ⟨z1.1.trans k.2.1, z2.1.trans k.2.2.1, z2.2.1.trans k.2.2.2⟩
theorem yXCode {e : Nat} : xCode 0 (yE4 e) = xCode 0 e := by
  unfold xCode yE4
  by_cases c : e = 12
  · subst c; rfl
  · rw [if_neg c]
/-- what the model's run leaves is tied, if the class's is -/
theorem yPM_of {sc : Nat × (Nat → Int32)} {J : xv_J} {u w : xv_M} {h N M fr : Nat} {f x y z : Int32} {R : xRs} {c v : Int32} (H : yTi u h N M) (hw : M + 31 ≤ xv_N w) (zw : zS (fun b => b < M + 31) u w) (kw : ∀ b q, b < M + 31 → ¬ zR N M b q → xv_i w b q = xv_i u b q) (hR : ∀ w2, yGq w w2 → xv_C sc 2 J [.ref M, .int f, .int x, .int y, .int z] w2 (xv_N w2) (xv_S w2) (xv_pi (fun r w' => xGP (xv_si w2 M 35 0) M fr R r w'))) (hv : ∀ q, R = .inl q → c = 0 ∧ v = q) (hx : ∀ e, R = .inr e → c = xCode fr e ∧ ¬ c = 0) : yPM sc J h N M f x y z w c v := by
  refine ⟨yTi_kz H zw, fun w2 g => ?_⟩
  refine xv_pi_mono (hR w2 g) (fun b w' hw' => ?_)
  have z2 : zS (fun b => b < M + 31) u (xv_si w2 M 35 0) := zS_tr zw (fun b _ => ⟨(g.2 b).1, (g.2 b).2.1, (g.2 b).2.2.1⟩)
  have k2 : ∀ b q, b < M + 31 → ¬ zR N M b q → xv_i (xv_si w2 M 35 0) b q = xv_i u b q := fun b q hb hz => by
    rw [xv_si_if2, if_neg (fun e => hz (Or.inr (Or.inr (Or.inl e)))), (g.2 b).2.2.2 q, kw b q hb hz]
  have hms : ∀ b q, ¬ zR N M b q → ¬ xMS M b := fun b q hz e => hz (Or.inr (Or.inr (Or.inr (by unfold xMS at e; omega))))
  have hMM : ¬ xMS M M := fun e => by unfold xMS at e; omega
  rcases hw' with ⟨q, e1, e2, s⟩ | ⟨e, w0, e1, e2, s, e3⟩
  · obtain ⟨c0, ev⟩ := hv q e1
    refine ⟨?_, fun _ => by rw [e2, ev], s.2.2.2.2.2.1, yTi_run (zS_tr z2 (zS_si s)) (by rw [s.1]; show M + 31 ≤ xv_N w2; rw [g.1]; exact hw) (fun b q hb hz => ?_) H⟩
    · rw [s.2.2.2.2.2.2 M hMM, xv_si_eq, c0]
    · rw [s.2.2.2.2.2.2 b (hms b q hz)]; exact k2 b q hb hz
  · obtain ⟨c0, cn⟩ := hx e e1
    subst e3
    refine ⟨by rw [xv_si_eq, c0], fun q => absurd q cn, s.2.2.2.2.2.1, yTi_run (zS_tr z2 (zS_tr (zS_si s) zS_1)) (by show M + 31 ≤ xv_N w0; rw [s.1]; show M + 31 ≤ xv_N w2; rw [g.1]; exact hw) (fun b q hb hz => ?_) H⟩
    rw [xv_si_if2, if_neg (fun e => hz (Or.inr (Or.inr (Or.inl e)))), s.2.2.2.2.2.2 b (hms b q hz)]; exact k2 b q hb hz
/-- the model finds no such function -/
theorem yPM_no {sc : Nat × (Nat → Int32)} {J : xv_J} {u w : xv_M} {h N M : Nat} {f x y z : Int32} (H : yTi u h N M) (hw : M + 31 ≤ xv_N w) (zw : zS (fun b => b < M + 31) u w) (kw : ∀ b q, b < M + 31 → ¬ zR N M b q → xv_i w b q = xv_i u b q) (hR : ∀ w2, yGq w w2 → xv_C sc 2 J [.ref M, .int f, .int x, .int y, .int z] w2 (xv_N w2) (xv_S w2) (xv_pi (fun r w' => w' = xv_si (xv_si w2 M 35 0) M 35 1))) : yPM sc J h N M f x y z w 1 0 := by
  refine ⟨yTi_kz H zw, fun w2 g => ?_⟩
  refine xv_pi_mono (hR w2 g) (fun b w' e => ?_)
  subst e
  refine ⟨xv_si_eq, fun q => absurd q (by decide), rfl, yTi_run (zS_tr zw (fun b _ => ⟨(g.2 b).1, (g.2 b).2.1, (g.2 b).2.2.1⟩)) (by show M + 31 ≤ xv_N w2; rw [g.1]; exact hw) (fun b q hb hz => ?_) H⟩
  rw [xv_si_if2, if_neg (fun e => hz (Or.inr (Or.inr (Or.inl e)))), xv_si_if2, if_neg (fun e => hz (Or.inr (Or.inr (Or.inl e)))), (g.2 b).2.2.2 q, kw b q hb hz]
theorem yNot8 {f : Int32} {L : Nat → Nat} (hno : ¬ ∃ f', f' < 8 ∧ f = nI f' ∧ 0 < L f') : ∀ k, (0 ≤ f ∧ f ≤ 7) → f = nI k → k < 8 → L k = 0 := by
  intro k _ e hk
  exact Nat.eq_zero_of_not_pos (fun c => hno ⟨k, hk, e, c⟩)
theorem t_interp {sc : Nat × (Nat → Int32)} {u : xv_M} {h N M : Nat} (H : yTi u h N M) (f x y z : Int32) : ∃ c v : Int32, (c = 0 ∧ xv_C sc 51 J_Desk_interpret [.ref h, .int f, .int x, .int y, .int z] u (xv_N u) (xv_S u) (xv_pi (fun r w => r = v ∧ yPM sc J_Model_interpret h N M f x y z w c v))) ∨ (∃ k, ((k = 12 ∧ c = 1) ∨ (k = 13 ∧ c = 2)) ∧ xv_C sc 51 J_Desk_interpret [.ref h, .int f, .int x, .int y, .int z] u (xv_N u + 1) (xv_S u + 6) (xv_px k (fun _ w => yPM sc J_Model_interpret h N M f x y z w c v))) := by
  have hl : M + 31 ≤ xv_N u ∧ N + 209 ≤ M := by
    obtain ⟨E, a1, -⟩ := H
    exact ⟨a1.2.2.2.2.2.1, a1.2.2.2.2.2.2.2⟩
  obtain ⟨L, nP, O, A, Lc, Ou, Fu, Su, G, ⟨p1, p2, p3⟩, p4, p5, p6, p7, p8⟩ := p_int H
  have hMo : xMo u M := by
    obtain ⟨E, a1, -⟩ := H
    exact a1.2.2.1
  -- the model at a memory whose own cells are as they were
  have model : ∀ w, zS (fun b => b < M + 31) u w → (∀ b q, b < M + 31 → ¬ zR N M b q → xv_i w b q = xv_i u b q) → (∀ b q, M ≤ b → b < M + 30 → xv_i w b q = xv_i u b q) → ∀ w2, yGq w w2 → xv_C sc 2 J_Model_interpret [.ref M, .int f, .int x, .int y, .int z] w2 (xv_N w2) (xv_S w2) (xv_pi (fun r w' => (¬ (∃ f', f' < 8 ∧ f = nI f' ∧ 0 < Lc f') ∧ r = 0 ∧ w' = xv_si (xv_si w2 M 35 0) M 35 1) ∨ (∃ f', f' < 8 ∧ f = nI f' ∧ 0 < Lc f' ∧ xGP (xv_si w2 M 35 0) M 0 (yR4 (xIa L nP O A 8 f' x y z)) r w'))) := by
    intro w zw kw kM w2 g
    have m8 : xMo w2 M := xMo_z (zS_tr zw (fun b _ => ⟨(g.2 b).1, (g.2 b).2.1, (g.2 b).2.2.1⟩)) (fun b _ hb => by omega) hMo
    obtain ⟨q1, q2⟩ := p8 w2 (fun b q h1 h2 => by rw [(g.2 b).2.2.2 q]; exact kM b q h1 h2)
    exact c_Model_interpret (fr := 0) m8 (Or.inl rfl) q1 q2 p5 p6 p7 rfl
  by_cases hf : ∃ f', f' < 8 ∧ f = nI f' ∧ 0 < L f'
  · obtain ⟨f', hf8, rfl, hL⟩ := hf
    have hLc := (p4 f' hf8).mpr hL
    have hans := c_Interp_answer (sc := sc) (h := N + 4) (ma := N + 5) (fa := N + 6) (oa := N + 7) (B := N + 8) p3 8 f' hf8 hf8 u x y z p2
    have mod2 : ∀ w, zS (fun b => b < M + 31) u w → (∀ b q, b < M + 31 → ¬ zR N M b q → xv_i w b q = xv_i u b q) → (∀ b q, M ≤ b → b < M + 30 → xv_i w b q = xv_i u b q) → ∀ w2, yGq w w2 → xv_C sc 2 J_Model_interpret [.ref M, .int (nI f'), .int x, .int y, .int z] w2 (xv_N w2) (xv_S w2) (xv_pi (fun r w' => xGP (xv_si w2 M 35 0) M 0 (yR4 (xIa L nP O A 8 f' x y z)) r w')) := by
      intro w zw kw kM w2 g
      refine xv_pi_mono (model w zw kw kM w2 g) (fun r w' hw' => ?_)
      rcases hw' with ⟨q, -⟩ | ⟨f'', q1, q2, q3, q4⟩
      · exact absurd ⟨f', hf8, rfl, hLc⟩ q
      · obtain rfl : f' = f'' := (nI_eq (by omega) (by omega)).mp q2
        exact q4
    cases hr : xIa L nP O A 8 f' x y z with
    | inl v =>
      refine ⟨0, v, Or.inl ⟨rfl, ?_⟩⟩
      refine xv_pi_mono (c_Desk_interp_v p1 p2.1.1 (hans.1 v hr)) (fun r w ⟨e, s⟩ => ⟨e, ?_⟩)
      have kw : ∀ b q, b < M + 31 → ¬ zR N M b q → xv_i w b q = xv_i u b q := fun b q _ hz => congrFun (s.2.2.2.2.2.2 b (fun e => hz (zR_IF hf8 e))) q
      have kM : ∀ b q, M ≤ b → b < M + 30 → xv_i w b q = xv_i u b q := fun b q h1 _ => congrFun (s.2.2.2.2.2.2 b (fun ⟨g, hg, e⟩ => by unfold xFO xFS at e; omega)) q
      refine yPM_of H (by rw [s.1]; exact hl.1) (zS_si s) kw (mod2 w (zS_si s) kw kM) (fun q e => ?_) (fun e' e => ?_)
      · rw [hr] at e; cases e; exact ⟨rfl, rfl⟩
      · rw [hr] at e; cases e
    | inr k =>
      have hk := yIa_e 8 f' x y z k hr
      refine ⟨xCode 0 k, 0, Or.inr ⟨k, ?_, ?_⟩⟩
      · rcases hk with rfl | rfl
        · exact Or.inl ⟨rfl, rfl⟩
        · exact Or.inr ⟨rfl, rfl⟩
      · refine xv_C_mono (fun o w ⟨a, e, w0, s, ea, ew⟩ => ⟨a, e, ?_⟩) (c_Desk_interp_x p1 p2.1.1 (hans.2 k hr))
        have s0 : xv_N w0 = xv_N u := s.1
        have zw : zS (fun b => b < M + 31) u w := by rw [ew]; exact zS_tr (zS_si s) (zS_nw (by omega))
        have kw : ∀ b q, b < M + 31 → ¬ zR N M b q → xv_i w b q = xv_i u b q := fun b q hb hz => by
          rw [ew]
          show (if b = xv_N w0 then _ else _) = _
          rw [if_neg (by omega), s.2.2.2.2.2.2 b (fun e => hz (zR_IF hf8 e))]
        have kM : ∀ b q, M ≤ b → b < M + 30 → xv_i w b q = xv_i u b q := fun b q h1 h2 => by
          rw [ew]
          show (if b = xv_N w0 then _ else _) = _
          rw [if_neg (by omega), s.2.2.2.2.2.2 b (fun ⟨g, hg, e⟩ => by unfold xFO xFS at e; omega)]
        refine yPM_of H (by rw [ew]; show M + 31 ≤ xv_N w0 + 1; omega) zw kw (mod2 w zw kw kM) (fun q e => ?_) (fun e' e => ?_)
        · rw [hr] at e; cases e
        · rw [hr] at e
          cases e
          refine ⟨yXCode.symm, ?_⟩
          rcases hk with rfl | rfl <;> decide
  · have hno : ¬ ((0 ≤ f ∧ f ≤ 7) ∧ 0 < xv_i u (N + 8 + 10 * f.toNatClampNeg) 2) := by
      rintro ⟨h1, h2⟩
      obtain ⟨k, hk, rfl⟩ := xI8 h1
      rw [nI_clamp (by omega), (p2.2 k hk).1.1] at h2
      have : L k = 0 := yNot8 hf k h1 rfl hk
      rw [this] at h2
      exact absurd h2 (by decide)
    refine ⟨1, 0, Or.inr ⟨12, Or.inl ⟨rfl, rfl⟩, ?_⟩⟩
    refine xv_C_mono (fun o w ⟨a, e, w0, s, ea, ew⟩ => ⟨a, e, ?_⟩) (c_Desk_interp_x (d := 50) p1 p2.1.1 (c_ia_none0 (S := fun _ => False) p2.1 (by omega) hno))
    have s0 : xv_N w0 = xv_N u := s.1
    have zw : zS (fun b => b < M + 31) u w := by rw [ew]; exact zS_tr (zS_si s) (zS_nw (by omega))
    have kw : ∀ b q, b < M + 31 → xv_i w b q = xv_i u b q := fun b q hb => by
      rw [ew]
      show (if b = xv_N w0 then _ else _) = _
      rw [if_neg (by omega), s.2.2.2.2.2.2 b (fun e => e)]
    refine yPM_no H (by rw [ew]; show M + 31 ≤ xv_N w0 + 1; omega) zw (fun b q hb _ => kw b q hb) (fun w2 g => ?_)
    refine xv_pi_mono (model w zw (fun b q hb _ => kw b q hb) (fun b q _ hb => kw b q (by omega)) w2 g) (fun r w' hw' => ?_)
    rcases hw' with ⟨q, -, e⟩ | ⟨f'', q1, q2, q3, q4⟩
    · exact e
    · exact absurd ⟨f'', q1, q2, (p4 f'' q1).mp q3⟩ hf

