/-! pair: run -/
theorem t_run {sc : Nat × (Nat → Int32)} {u : xv_M} {h N M : Nat} (H : yTi u h N M) (f x y z : Int32) : ∃ c v : Int32, (c = 0 ∧ xv_C sc 45 J_Desk_run [.ref h, .int f, .int x, .int y, .int z] u (xv_N u) (xv_S u) (xv_pi (fun r w => r = v ∧ yPM sc J_Model_run h N M f x y z w c v))) ∨ (∃ k, ((k = 12 ∧ c = 1) ∨ (k = 13 ∧ c = 2) ∨ (k = 14 ∧ c = 3)) ∧ xv_C sc 45 J_Desk_run [.ref h, .int f, .int x, .int y, .int z] u (xv_N u + 1) (xv_S u + 6) (xv_px k (fun _ w => yPM sc J_Model_run h N M f x y z w c v))) := by
  have hl : M + 31 ≤ xv_N u ∧ N + 209 ≤ M := by
    obtain ⟨E, a1, -⟩ := H
    exact ⟨a1.2.2.2.2.2.1, a1.2.2.2.2.2.2.2⟩
  obtain ⟨L, nP, O, F, S, G, ⟨p1, p2, p3⟩, p5, p6, p7, p8⟩ := p_run H
  have hMo : xMo u M := by
    obtain ⟨E, a1, -⟩ := H
    exact a1.2.2.1
  have model : ∀ w, zS (fun b => b < M + 31) u w → (∀ b q, M ≤ b → b < M + 30 → xv_i w b q = xv_i u b q) → ∀ w2, yGq w w2 → xv_C sc 2 J_Model_run [.ref M, .int f, .int x, .int y, .int z] w2 (xv_N w2) (xv_S w2) (xv_pi (fun r w' => (¬ (∃ f', f' < 8 ∧ f = nI f' ∧ 0 < L f') ∧ r = 0 ∧ w' = xv_si (xv_si w2 M 35 0) M 35 1) ∨ (∃ f', f' < 8 ∧ f = nI f' ∧ 0 < L f' ∧ xGP (xv_si w2 M 35 0) M 16 (xAn 1000000 L O F S (f' + 1) f' x y z) r w'))) := by
    intro w zw kM w2 g
    have m8 : xMo w2 M := xMo_z (zS_tr zw (fun b _ => ⟨(g.2 b).1, (g.2 b).2.1, (g.2 b).2.2.1⟩)) (fun b _ hb => by omega) hMo
    obtain ⟨q1, q2⟩ := p8 w2 (fun b q h1 h2 => by rw [(g.2 b).2.2.2 q]; exact kM b q h1 h2)
    exact c_Model_run (fr := 16) m8 (Or.inr rfl) q1 q2 p5 p6 p7 rfl
  by_cases hf : ∃ f', f' < 8 ∧ f = nI f' ∧ 0 < L f'
  · obtain ⟨f', hf8, rfl, hL⟩ := hf
    have hyes : (0 ≤ nI f' ∧ nI f' ≤ 7) ∧ 0 < xv_i u (N + 153 + 7 * (nI f').toNatClampNeg) 3 := by
      refine ⟨⟨nI_pos' (by omega), nI_le (b := 7) (by omega) (by decide)⟩, ?_⟩
      rw [nI_clamp (by omega), (p3 f' hf8).1]
      exact nI_posL hL (by have := (p3 f' hf8).2; omega)
    have hans := c_Image_answer (sc := sc) (h := N + 150) (ca := N + 151) (fa := N + 152) (B := N + 153) (M := 1000000) rfl p6 (f' + 1) f' (by omega) hf8 hL u x y z p2
    have mod2 : ∀ w, zS (fun b => b < M + 31) u w → (∀ b q, M ≤ b → b < M + 30 → xv_i w b q = xv_i u b q) → ∀ w2, yGq w w2 → xv_C sc 2 J_Model_run [.ref M, .int (nI f'), .int x, .int y, .int z] w2 (xv_N w2) (xv_S w2) (xv_pi (fun r w' => xGP (xv_si w2 M 35 0) M 16 (xAn 1000000 L O F S (f' + 1) f' x y z) r w')) := by
      intro w zw kM w2 g
      refine xv_pi_mono (model w zw kM w2 g) (fun r w' hw' => ?_)
      rcases hw' with ⟨q, -⟩ | ⟨f'', q1, q2, q3, q4⟩
      · exact absurd ⟨f', hf8, rfl, hL⟩ q
      · obtain rfl : f' = f'' := (nI_eq (by omega) (by omega)).mp q2
        exact q4
    cases hr : xAn 1000000 L O F S (f' + 1) f' x y z with
    | inl v =>
      refine ⟨0, v, Or.inl ⟨rfl, ?_⟩⟩
      refine xv_pi_mono (xv_C_d (by omega) (c_Desk_run_v p1 (by omega) p2.1 hyes (hans.1 v hr))) (fun r w ⟨e, s⟩ => ⟨e, ?_⟩)
      have kw : ∀ b q, b < M + 31 → ¬ zR N M b q → xv_i w b q = xv_i u b q := fun b q _ hz => congrFun (s.2.2.2.2.2.2 b (fun e => hz (zR_SF hf8 e))) q
      have kM : ∀ b q, M ≤ b → b < M + 30 → xv_i w b q = xv_i u b q := fun b q h1 _ => congrFun (s.2.2.2.2.2.2 b (fun ⟨g, hg, e⟩ => by unfold xFS at e; omega)) q
      refine yPM_of H (by rw [s.1]; exact hl.1) (zS_si s) kw (mod2 w (zS_si s) kM) (fun q e => ?_) (fun e' e => ?_)
      · rw [hr] at e; cases e; exact ⟨rfl, rfl⟩
      · rw [hr] at e; cases e
    | inr k =>
      have hk := yAn_e (f' + 1) f' x y z k hr
      refine ⟨xCode 16 k, 0, Or.inr ⟨k, ?_, ?_⟩⟩
      · rcases hk with rfl | rfl
        · exact Or.inr (Or.inl ⟨rfl, rfl⟩)
        · exact Or.inr (Or.inr ⟨rfl, rfl⟩)
      · refine xv_C_mono (fun o w ⟨a, e, w0, s, ea, ew⟩ => ⟨a, e, ?_⟩) (xv_C_d (by omega) (c_Desk_run_x p1 (by omega) p2.1 hyes (hans.2 k hr)))
        have s0 : xv_N w0 = xv_N u := s.1
        have zw : zS (fun b => b < M + 31) u w := by rw [ew]; exact zS_tr (zS_si s) (zS_nw (by omega))
        have kw : ∀ b q, b < M + 31 → ¬ zR N M b q → xv_i w b q = xv_i u b q := fun b q hb hz => by
          rw [ew]
          show (if b = xv_N w0 then _ else _) = _
          rw [if_neg (by omega), s.2.2.2.2.2.2 b (fun e => hz (zR_SF hf8 e))]
        have kM : ∀ b q, M ≤ b → b < M + 30 → xv_i w b q = xv_i u b q := fun b q h1 h2 => by
          rw [ew]
          show (if b = xv_N w0 then _ else _) = _
          rw [if_neg (by omega), s.2.2.2.2.2.2 b (fun ⟨g, hg, e⟩ => by unfold xFS at e; omega)]
        refine yPM_of H (by rw [ew]; show M + 31 ≤ xv_N w0 + 1; omega) zw kw (mod2 w zw kM) (fun q e => ?_) (fun e' e => ?_)
        · rw [hr] at e; cases e
        · rw [hr] at e
          cases e
          refine ⟨rfl, ?_⟩
          rcases hk with rfl | rfl <;> decide
  · have hno : ¬ ((0 ≤ f ∧ f ≤ 7) ∧ 0 < xv_i u (N + 153 + 7 * f.toNatClampNeg) 3) := by
      rintro ⟨h1, h2⟩
      obtain ⟨k, hk, rfl⟩ := xI8 h1
      rw [nI_clamp (by omega), (p3 k hk).1] at h2
      have : L k = 0 := yNot8 hf k h1 rfl hk
      rw [this] at h2
      exact absurd h2 (by decide)
    refine ⟨1, 0, Or.inr ⟨12, Or.inl ⟨rfl, rfl⟩, ?_⟩⟩
    refine xv_C_mono (fun o w ⟨a, e, ea, ew⟩ => ⟨a, e, ?_⟩) (xv_C_d (by omega) (c_Desk_run_n p1 p2.1 hno))
    have zw : zS (fun b => b < M + 31) u w := by rw [ew]; exact zS_nw (by omega)
    have kw : ∀ b q, b < M + 31 → xv_i w b q = xv_i u b q := fun b q hb => by
      rw [ew]
      show (if b = xv_N u then _ else _) = _
      rw [if_neg (by omega)]
    refine yPM_no H (by rw [ew]; show M + 31 ≤ xv_N u + 1; omega) zw (fun b q hb _ => kw b q hb) (fun w2 g => ?_)
    refine xv_pi_mono (model w zw (fun b q _ hb => kw b q (by omega)) w2 g) (fun r w' hw' => ?_)
    rcases hw' with ⟨q, -, e⟩ | ⟨f'', q1, q2, q3, q4⟩
    · exact e
    · exact absurd ⟨f'', q1, q2, q3⟩ hf

