/-! a call of the class, then the same call of the model: the pairs that the law makes -/
theorem xv_pi_mono {sc : Nat × (Nat → Int32)} {d : Nat} {J : xv_J} {as : List Value} {u : xv_M} {n1 s1 : Nat} {p q : Int32 → xv_M → Prop} (c : xv_C sc d J as u n1 s1 (xv_pi p)) (h : ∀ r w, p r w → q r w) : xv_C sc d J as u n1 s1 (xv_pi q) := xv_C_mono (fun o w ⟨r, e, hp⟩ => ⟨r, e, h r w hp⟩) c
theorem t_clear {sc : Nat × (Nat → Int32)} {u : xv_M} {h N M : Nat} (H : yTi u h N M) : xv_C sc 0 J_Desk_clear [.ref h] u (xv_N u) (xv_S u) (xv_pi (fun r w => xv_k w M = 12 ∧ xv_C sc 0 J_Model_clear [.ref M] w (xv_N w) (xv_S w) (xv_pi (fun r' w' => r' = r ∧ yTi w' h N M)))) := by
  obtain ⟨⟨p1, p2⟩, p3, p4, p5⟩ := p_clear H
  refine xv_pi_mono (c_Desk_clear p1 p2) (fun r w ⟨e1, e2⟩ => ?_)
  subst e2
  refine ⟨p3.1, xv_pi_mono (c_Model_clear p3) (fun r' w' ⟨e3, e4⟩ => ?_)⟩
  subst e4
  exact ⟨by rw [e3, p4, e1], p5⟩
theorem t_token {sc : Nat × (Nat → Int32)} {u : xv_M} {h N M : Nat} (H : yTi u h N M) (x y : Int32) : xv_C sc 2 J_Desk_token [.ref h, .int x, .int y] u (xv_N u) (xv_S u) (xv_pi (fun r w => xv_k w M = 12 ∧ xv_C sc 2 J_Model_token [.ref M, .int x, .int y] w (xv_N w) (xv_S w) (xv_pi (fun r' w' => r' = r ∧ yTi w' h N M)))) := by
  obtain ⟨n, ⟨p1, p2, p3, p4⟩, ⟨p5, p6⟩, p7⟩ := p_token H
  refine xv_pi_mono (c_Desk_token p1 p2 (by omega) p3 p4) (fun r w hw => ?_)
  rcases hw with ⟨c1, c2, rfl⟩ | ⟨c1, c2, c3, rfl⟩ | ⟨c1, c2, c3, c4⟩
  · refine ⟨p5.1, xv_pi_mono (c_Model_token p5 p6 p4) (fun r' w' hw' => ?_)⟩
    rcases hw' with ⟨d1, d2, rfl⟩ | ⟨d1, d2, d3, rfl⟩ | ⟨d1, d2, d3, d4⟩
    · exact ⟨by rw [d2, c2], H⟩
    · exact absurd c1 d1
    · exact absurd c1 d1
  · refine ⟨p5.1, xv_pi_mono (c_Model_token p5 p6 p4) (fun r' w' hw' => ?_)⟩
    rcases hw' with ⟨d1, d2, rfl⟩ | ⟨d1, d2, d3, rfl⟩ | ⟨d1, d2, d3, d4⟩
    · exact absurd d1 c1
    · exact ⟨by rw [d3, c3], H⟩
    · omega
  · obtain ⟨⟨q1, q2⟩, q3⟩ := p7 x y w c1 c2 c4
    refine ⟨q1.1, xv_pi_mono (c_Model_token q1 q2 p4) (fun r' w' hw' => ?_)⟩
    rcases hw' with ⟨d1, d2, rfl⟩ | ⟨d1, d2, d3, rfl⟩ | ⟨d1, d2, d3, d4⟩
    · exact absurd d1 c1
    · omega
    · subst d4; exact ⟨by rw [d3, c3], q3⟩
theorem t_entry {sc : Nat × (Nat → Int32)} {u : xv_M} {h N M : Nat} (H : yTi u h N M) (x y : Int32) : xv_C sc 1 J_Desk_entry [.ref h, .int x, .int y] u (xv_N u) (xv_S u) (xv_pi (fun r w => xv_k w M = 12 ∧ xv_C sc 1 J_Model_entry [.ref M, .int x, .int y] w (xv_N w) (xv_S w) (xv_pi (fun r' w' => r' = r ∧ yTi w' h N M)))) := by
  obtain ⟨E, n, V⟩ := yTi_av H
  have V0 := V
  obtain ⟨⟨v1, v2, v3, v4, v5, v6, v7⟩, ⟨v8, v9, v10, v11, v12⟩, -, -⟩ := V
  refine xv_pi_mono (c_Desk_entry v1 v2 v3 v4 v5 v6) (fun r w ⟨hc, e⟩ => ?_)
  subst e
  refine ⟨v8.1, xv_pi_mono (c_Model_entry v8 v9 v5 v10) (fun r' w' ⟨hm, e⟩ => ?_)⟩
  subst e
  exact ⟨p_entry V0 hc hm, H⟩
theorem t_unit {sc : Nat × (Nat → Int32)} {u : xv_M} {h N M : Nat} (H : yTi u h N M) (x y v : Int32) : xv_C sc 2 J_Desk_unit [.ref h, .int x, .int y, .int v] u (xv_N u) (xv_S u) (xv_pi (fun r w => xv_k w M = 12 ∧ xv_C sc 2 J_Model_unit [.ref M, .int x, .int y, .int v] w (xv_N w) (xv_S w) (xv_pi (fun r' w' => r' = r ∧ yTi w' h N M)))) := by
  obtain ⟨E, n, V⟩ := yTi_av H
  have V0 := V
  obtain ⟨⟨v1, v2, v3, v4, v5, v6, v7⟩, ⟨v8, v9, v10, v11, v12⟩, -, -⟩ := V
  refine xv_pi_mono (c_Desk_unit v1 v2 v3 v4 v5 v6) (fun r w ⟨hc, e⟩ => ?_)
  subst e
  refine ⟨v8.1, xv_pi_mono (c_Model_unit v8 v9 v5 v10) (fun r' w' ⟨hm, e⟩ => ?_)⟩
  subst e
  exact ⟨p_unit V0 hc hm, H⟩
theorem t_count {sc : Nat × (Nat → Int32)} {u : xv_M} {h N M : Nat} (H : yTi u h N M) (x : Int32) : xv_C sc 3 J_Desk_count [.ref h, .int x] u (xv_N u) (xv_S u) (xv_pi (fun r w => xv_k w M = 12 ∧ xv_C sc 0 J_Model_count [.ref M, .int x] w (xv_N w) (xv_S w) (xv_pi (fun r' w' => r' = r ∧ yTi w' h N M)))) := by
  obtain ⟨L, L', O', F', S', ⟨p1, p2, p3, p4, p5⟩, ⟨p6, p7, p8⟩, p9⟩ := p_count H
  refine xv_pi_mono (c_Desk_count p1 p2 p3 p4 rfl p5 rfl) (fun r w ⟨hc, e⟩ => ?_)
  subst e
  refine ⟨p6.1, xv_pi_mono (c_Model_count p6 p7 p8 rfl rfl) (fun r' w' ⟨hm, e⟩ => ?_)⟩
  subst e
  exact ⟨by rw [hm, hc, p9], H⟩
theorem t_define {sc : Nat × (Nat → Int32)} {u : xv_M} {h N M : Nat} (H : yTi u h N M) (x y : Int32) : xv_C sc 43 J_Desk_define [.ref h, .int x, .int y] u (xv_N u) (xv_S u) (xv_pi (fun r w => xv_k w M = 12 ∧ xv_C sc 4 J_Model_define [.ref M, .int x, .int y] w (xv_N w) (xv_S w) (xv_pi (fun r' w' => r' = r ∧ yTi w' h N M)))) := by
  obtain ⟨n, O, A, ⟨p1, p2, p3, p4⟩, ⟨hT, hn⟩, pf, ps⟩ := p_define H
  have hp : ∀ f m, f < 8 → m ≤ 3 → xDf O A n (nI f) (nI m) → xVF O n 41 0 ∧ xNx O 41 0 = n ∧ xSz O 41 0 ≤ 250 ∧ ∃ O' β, (∀ i, i < (xTr O A 41 m (0, fun _ => 0, fun _ => 0, fun _ => 0, fun _ => 0, 0, 0)).1 → (xTr O A 41 m (0, fun _ => 0, fun _ => 0, fun _ => 0, fun _ => 0, 0, 0)).2.1 i = nI (O' i)) ∧ xHB (xTr O A 41 m (0, fun _ => 0, fun _ => 0, fun _ => 0, fun _ => 0, 0, 0)).1 O' (xTr O A 41 m (0, fun _ => 0, fun _ => 0, fun _ => 0, fun _ => 0, 0, 0)).2.2.1 (xTr O A 41 m (0, fun _ => 0, fun _ => 0, fun _ => 0, fun _ => 0, 0, 0)).2.2.2.1 β := by
    intro f m hf hm hd
    have h1 := (yDf_iff hn hT hm).mp hd
    obtain ⟨-, q1, q2, q3, -, -⟩ := yOne_sz hn hT hm h1
    obtain ⟨-, -, t3, ⟨β, t4⟩, -, -⟩ := yTr_f (σ := (0, fun _ => 0, fun _ => 0, fun _ => 0, fun _ => 0, 0, 0)) hn hT hm hf h1 rfl (fun _ _ => rfl)
    exact ⟨q1, q2, q3, _, β, t3, t4⟩
  have hiff : (∃ f m, f < 8 ∧ m ≤ 3 ∧ x = nI f ∧ y = nI m ∧ xDf O A n x y) ↔ ∃ f m, f < 8 ∧ m ≤ 3 ∧ x = nI f ∧ y = nI m ∧ xOne O A n x y = true := by
    constructor
    · rintro ⟨f, m, a1, a2, rfl, rfl, a5⟩; exact ⟨f, m, a1, a2, rfl, rfl, (yDf_iff hn hT a2).mp a5⟩
    · rintro ⟨f, m, a1, a2, rfl, rfl, a5⟩; exact ⟨f, m, a1, a2, rfl, rfl, (yDf_iff hn hT a2).mpr a5⟩
  refine xv_pi_mono (c_Desk_define p1 p2 p3 p4 (by omega)) (fun r w hw => ?_)
  rcases hw with ⟨c1, c2, c3⟩ | ⟨f, m, hf, hm, ex, ey, h1, c2, z, w0, wt, w3, wst⟩
  · obtain ⟨⟨q1, q2⟩, q3⟩ := pf w c3
    refine ⟨q1.1, xv_pi_mono (c_Model_define (x := x) (y := y) (σ0 := (0, fun _ => 0, fun _ => 0, fun _ => 0, fun _ => 0, 0, 0)) q1 q2 rfl (fun _ _ => rfl) hp) (fun r' w' hw' => ?_)⟩
    rcases hw' with ⟨d1, d2, d3⟩ | ⟨f, m, O', w2, e1, e2, e3, e4, e5, -⟩
    · exact ⟨by rw [d2, c2], q3 w' d3⟩
    · exact absurd (hiff.mp ⟨f, m, e1, e2, e3, e4, e5⟩) c1
  · subst ex ey
    obtain ⟨⟨q1, q2⟩, q3⟩ := ps f m w hf hm h1 z w0 wt w3 wst
    refine ⟨q1.1, xv_pi_mono (c_Model_define (σ0 := (0, fun _ => 0, fun _ => 0, fun _ => 0, fun _ => 0, 0, 0)) q1 q2 rfl (fun _ _ => rfl) hp) (fun r' w' hw' => ?_)⟩
    rcases hw' with ⟨d1, d2, d3⟩ | ⟨f', m', O', w2, e1, e2, e3, e4, e5, e6, e7, e8, e9⟩
    · exact absurd (hiff.mpr ⟨f, m, hf, hm, rfl, rfl, h1⟩) d1
    · obtain rfl : f = f' := (nI_eq (by omega) (by omega)).mp e3
      obtain rfl : m = m' := (nI_eq (by omega) (by omega)).mp e4
      exact ⟨by rw [e6, c2], q3 _ O' w2 w' rfl (fun _ _ => rfl) e8 e7 e9⟩

