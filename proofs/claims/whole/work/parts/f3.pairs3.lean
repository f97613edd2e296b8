/-! pairs: compile, load -/
theorem t_compile {sc : Nat × (Nat → Int32)} {u : xv_M} {h N M : Nat} (H : yTi u h N M) (x : Int32) : xv_C sc 86 J_Desk_compile [.ref h, .int x] u (xv_N u) (xv_S u) (xv_pi (fun r w => xv_k w M = 12 ∧ xv_C sc 1 J_Model_compile [.ref M, .int x] w (xv_N w) (xv_S w) (xv_pi (fun r' w' => r' = r ∧ yTi w' h N M)))) := by
  have H0 := H
  obtain ⟨E, a1, a2, a3, ⟨h23, a, a4⟩, a5, a6⟩ := H
  have V := yAv_of a1 h23 a4
  obtain ⟨⟨v1, v2, v3, v4, v5, v6, v7⟩, ⟨v8, v9, v10, v11, v12⟩, -, vE⟩ := V
  have hl : h < N ∧ N + 209 ≤ M := ⟨a1.2.2.2.2.2.2.1, a1.2.2.2.2.2.2.2⟩
  have a3' := a3
  obtain ⟨L, nP, Of, Af, U, f1, f2⟩ := a3'
  have hEr : ∀ e, e < 8 → N + 94 ≤ E e ∧ E e + 6 < N + 150 := fun e he => by
    obtain ⟨j, hj, ej⟩ := a1.2.2.2.2.1.1 e he
    omega
  have hfi : xFi (fun e => xv_i u (M + 17) e) x a.1 0 = xFi (fun e => xv_i u (E e) 2) x a.1 0 := xFi_c a.1 0 (fun i _ hi => ((vE i (by omega)).1.1).symm)
  refine xv_pi_mono (c_Desk_compile (k := 41) (L := L) (nP := nP) (O := Of) (A := Af) (n := a.1) v1 ⟨a1.1.2.2.1, fun g hg => (f1 g hg).1⟩ (fun f hf hL => ?_) a1.1.2.2.2 v2 v3 v4 v5 (fun e he => by have := hEr e he; omega)) (fun r w hw => ?_)
  · obtain ⟨t1, t2, t3, t4⟩ := f2 f hf
    obtain ⟨-, q1, -, q3, -, -⟩ := yOne_sz (f1 f hf).1.2.1 t1 t2 (t4 hL).1.1
    exact ⟨(f1 f hf).2.1, t2, q1, (f1 f hf).2.2 hL, q3⟩
  · rcases hw with ⟨c1, c2, rfl⟩ | ⟨c1, c2, c3, rfl⟩ | ⟨f, e, φ, hf, rfl, hL, ee, he8, c2, hφ, z, hc, q1, q3, qo⟩
    · obtain ⟨b1, b2⟩ := p_comp0 (x := x) f1 f2 (w := w) (fun b q _ => rfl)
      refine ⟨v8.1, xv_pi_mono (c_Model_compile (U := fun f => yNu (Of f) (nP f)) v8 v9 v5 b1) (fun r' w' hw' => ?_)⟩
      rcases hw' with ⟨d1, d2, rfl⟩ | ⟨d1, -⟩ | ⟨f, e, e1, e2, e3, -⟩
      · exact ⟨by rw [d2, c2], H0⟩
      · exact absurd (b2.mp d1) c1
      · refine absurd (b2.mp ?_) c1
        rw [e2]
        refine ⟨⟨nI_pos' (by omega), nI_le (b := 7) (by omega) (by decide)⟩, ?_⟩
        rw [nI_clamp (by omega)]; exact e3
    · obtain ⟨b1, b2⟩ := p_comp0 (x := x) f1 f2 (w := w) (fun b q _ => rfl)
      refine ⟨v8.1, xv_pi_mono (c_Model_compile (U := fun f => yNu (Of f) (nP f)) v8 v9 v5 b1) (fun r' w' hw' => ?_)⟩
      rcases hw' with ⟨d1, -⟩ | ⟨d1, d2, d3, rfl⟩ | ⟨f, e, e1, e2, e3, e4, e5, -⟩
      · exact absurd (b2.mpr c1) d1
      · exact ⟨by rw [d3, c3], H0⟩
      · rw [hfi, c2] at e4
        omega
    · have hee := hEr e he8
      have kM : ∀ b q, M ≤ b → xv_i w b q = xv_i u b q := fun b q hb => z.2.2.2.2.2.2 b (by unfold xCoS; omega) q
      have m8 : xMo w M := xMo_z (T := fun b => M ≤ b) (fun b (hb : M ≤ b) => ⟨congrFun z.2.2.1 b, congrFun z.2.2.2.1 b, fun q => z.2.2.2.2.1 b (by omega) q⟩) (fun b hb _ => hb) v8
      obtain ⟨b1, b2⟩ := p_comp0 (x := nI f) f1 f2 (w := w) kM
      have hfw : xFi (fun e => xv_i w (M + 17) e) (nI f) a.1 0 = e := by
        rw [ee, ← hfi]
        exact xFi_c a.1 0 (fun i _ hi => kM _ _ (by omega))
      refine ⟨m8.1, xv_pi_mono (c_Model_compile (n := a.1) (U := fun f => yNu (Of f) (nP f)) m8 (by rw [kM _ _ (by omega)]; exact v9) v5 b1) (fun r' w' hw' => ?_)⟩
      rcases hw' with ⟨d1, -⟩ | ⟨d1, d2, d3, -⟩ | ⟨f', e', e1, e2, e3, e4, e5, e6, e7⟩
      · exact absurd (b2.mpr ⟨f, hf, rfl, hL⟩) d1
      · rw [hfw] at d2; omega
      · obtain rfl : f = f' := (nI_eq (by omega) (by omega)).mp e2
        rw [hfw] at e4
        subst e4
        have hen : e' ≤ a.1 := by
          have := xFi_le (fun e => xv_i u (E e) 2) (nI f) a.1 0
          omega
        exact ⟨by rw [e6, c2], p_comp a1 a2 a3 h23 a4 a5 a6 f1 f2 hf hL he8 hen hφ z hc q1 q3 qo e7⟩
theorem t_load {sc : Nat × (Nat → Int32)} {u : xv_M} {h N M : Nat} (H : yTi u h N M) : xv_C sc 5 J_Desk_load [.ref h] u (xv_N u) (xv_S u) (xv_pi (fun r w => xv_k w M = 12 ∧ xv_C sc 2 J_Model_load [.ref M] w (xv_N w) (xv_S w) (xv_pi (fun r' w' => r' = r ∧ yTi w' h N M)))) := by
  have H0 := H
  obtain ⟨E, a1, a2, a3, ⟨h23, a, a4⟩, a5, a6⟩ := H
  have V := yAv_of a1 h23 a4
  obtain ⟨⟨v1, v2, v3, v4, v5, v6, v7⟩, ⟨v8, v9, v10, v11, v12⟩, -, vE⟩ := V
  have hl : h < N ∧ N + 209 ≤ M := ⟨a1.2.2.2.2.2.2.1, a1.2.2.2.2.2.2.2⟩
  obtain ⟨l1, l2, l3, l4, l5, l6⟩ := p_load0 a1 h23 a4
  refine xv_pi_mono (c_Desk_load (U0 := (fun _ _ => 0, fun _ _ => 0, fun _ _ => 0)) v1 v2 v3 v4 v5 l1 a1.2.1.2.1 (fun e he => by have := l2 e he; omega) (by omega) a1.2.1.2.2.2 (by omega) l3) (fun r w hw => ?_)
  rcases hw with ⟨c1, c2, w0, lf, ew⟩ | ⟨c1, c2, w0, w1, lf, mu, z1, ew⟩
  · obtain ⟨k1, k2, k3⟩ := yLf_k a1 lf
    have kM : ∀ b q, M ≤ b → xv_i w b q = xv_i u b q := fun b q hb => by rw [ew, xv_si_ne (by omega), xv_si_ne (by omega), k2 b q (by omega) (by omega)]
    have m8 : xMo w M := by rw [ew]; exact k1.2.2.1
    obtain ⟨q1, q2, q3, q4⟩ := l5 w kM
    refine ⟨m8.1, xv_pi_mono (c_Model_load m8 q1 q2 q3) (fun r' w' hw' => ?_)⟩
    rw [q4] at hw'
    rcases hw' with ⟨d1, d2, w0', z, ew'⟩ | ⟨d1, -⟩
    · exact ⟨by rw [d2, c2], p_load1 a1 a2 a3 h23 a4 a5 a6 lf ew z ew'⟩
    · exact absurd d1 c1
  · obtain ⟨k1, k2, k3⟩ := yLf_k a1 lf
    have kM : ∀ b q, M ≤ b → xv_i w b q = xv_i u b q := fun b q hb => by rw [ew, xv_si_ne (by omega), z1.2.2.2.2.2.2 b (fun ⟨f, i, h1, h2, h3⟩ => by omega), k2 b q (by omega) (by omega)]
    have m8' : xMo w1 M := xSi_Mo z1 k1.2.2.1
    have m8 : xMo w M := by rw [ew]; exact m8'
    obtain ⟨q1, q2, q3, q4⟩ := l5 w kM
    refine ⟨m8.1, xv_pi_mono (c_Model_load m8 q1 q2 q3) (fun r' w' hw' => ?_)⟩
    rw [q4] at hw'
    rcases hw' with ⟨d1, -⟩ | ⟨d1, d2, w1', lq, ew'⟩
    · exact absurd c1 d1
    · exact ⟨by rw [d2, c2], p_load2 a1 a2 a3 h23 a4 a5 a6 c1 lf mu z1 ew lq ew'⟩

