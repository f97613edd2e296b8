/-! pairs of calls on the archive -/
theorem xv_room {s : State} {pl : Platform} {r r' : Room} (hf : r.frames ≤ r'.frames) (hl : r.locals ≤ r'.locals) (hc : r.cells ≤ r'.cells) (hs : r.slots ≤ r'.slots) (h : s.hasRoom pl r' = true) : s.hasRoom pl r = true := by
  unfold State.hasRoom at h ⊢
  simp only [Bool.and_eq_true, decide_eq_true_eq] at h ⊢
  obtain ⟨⟨⟨⟨h1, h2, h3, h4, h5, h6⟩, h7⟩, h8⟩, h9⟩ := h
  exact ⟨⟨⟨⟨by omega, by omega, by omega, by omega, by omega, h6⟩, by omega⟩, by omega⟩, h9⟩
theorem xv_C_d {sc : Nat × (Nat → Int32)} {d d' : Nat} {J : xv_J} {as : List Value} {u : xv_M} {n1 s1 : Nat} {P : xv_P} (hd : d ≤ d') (c : xv_C sc d J as u n1 s1 P) : xv_C sc d' J as u n1 s1 P := by
  refine ⟨c.1, c.2.1, fun l G hG hL p e ha hcs hk s m args below hfr happ hP hK => ?_⟩
  obtain ⟨a1, a2, a3, a4, a5, a6, a7, a8⟩ := (Spec.appliesLoose_iff hfr).mp happ
  have b7 : s.hasRoom e.platform (xv_rm d (n1 - xv_N u) (s1 - xv_S u)) = true := xv_room (r' := xv_rm d' (n1 - xv_N u) (s1 - xv_S u)) hd (show 60 * d ≤ 60 * d' by omega) (Nat.le_refl (n1 - xv_N u)) (Nat.le_refl (s1 - xv_S u)) a7
  exact c.2.2 l G hG hL p e ha hcs hk s m args below hfr ((Spec.appliesLoose_iff hfr).mpr ⟨a1, a2, a3, a4, a5, a6, b7, a8⟩) hP hK
theorem yI07 {y : Int32} (h : 0 ≤ y ∧ y ≤ 7) : ∃ k, k < 8 ∧ y = nI k := xI8 h
theorem t_damage {sc : Nat × (Nat → Int32)} {u : xv_M} {h N M : Nat} (H : yTi u h N M) (x y v : Int32) : xv_C sc 3 J_Desk_damage [.ref h, .int x, .int y, .int v] u (xv_N u) (xv_S u) (xv_pi (fun r w => xv_k w M = 12 ∧ xv_C sc 1 J_Model_damage [.ref M, .int x, .int y, .int v] w (xv_N w) (xv_S w) (xv_pi (fun r' w' => r' = r ∧ yTi w' h N M)))) := by
  have H0 := H
  obtain ⟨E, a1, a2, a3, ⟨h23, a, a4⟩, a5, a6⟩ := H
  have V := yAv_of a1 h23 a4
  obtain ⟨⟨v1, v2, v3, v4, v5, v6, v7⟩, ⟨v8, v9, v10, v11, v12⟩, -, vE⟩ := V
  have hLn : ∀ e, e < a.1 → yLn u E e = a.2.1 e := fun e he => yLn_of (a4.2.2 e he).2.1.1 (yPv_le (a4.2.2 e he).1).2
  have hl : N + 209 ≤ M := a1.2.2.2.2.2.2.2
  have hEr : ∀ e, e < a.1 → E e + 6 < M := fun e he => by
    obtain ⟨j, hj, ej⟩ := a1.2.2.2.2.1.1 e (by omega)
    omega
  have v8w : ∀ (b j : Nat) (y : Int32), xMo (xv_si u b j y) M := fun _ _ _ => v8
  by_cases x0 : x = 0
  · subst x0
    refine xv_pi_mono (xv_C_d (by omega) (c_Desk_damage0 (e0 := y) (x := v) v1 v2)) (fun r w hw => ?_)
    rcases hw with ⟨c1, c2, rfl⟩ | ⟨c1, c2, rfl⟩
    · refine ⟨v8.1, xv_pi_mono (c_Model_damage0 v8 v9 v5) (fun r' w' hw' => ?_)⟩
      rcases hw' with ⟨d1, d2, rfl⟩ | ⟨d1, d2, rfl⟩
      · exact ⟨by rw [d2, c2], H0⟩
      · exact absurd d1 c1
    · refine ⟨(v8w (N + 89) 2 v).1, xv_pi_mono (c_Model_damage0 (n := a.1) (v8w (N + 89) 2 v) (by rw [xv_si_ne (by omega)]; exact v9) v5) (fun r' w' hw' => ?_)⟩
      rcases hw' with ⟨d1, d2, rfl⟩ | ⟨d1, d2, rfl⟩
      · exact absurd c1 d1
      · exact ⟨by rw [d2, c2], p_dam0 a1 a2 a3 h23 a4 a5 a6 v⟩
  by_cases x1 : x = 1
  · subst x1
    refine xv_pi_mono (xv_C_d (by omega) (c_Desk_damage1 (e0 := y) (x := v) v1 v2)) (fun r w hw => ?_)
    rcases hw with ⟨c1, c2, rfl⟩ | ⟨c1, c2, rfl⟩
    · refine ⟨v8.1, xv_pi_mono (c_Model_damage1 v8 v9 v5) (fun r' w' hw' => ?_)⟩
      rcases hw' with ⟨d1, d2, rfl⟩ | ⟨d1, d2, rfl⟩
      · exact ⟨by rw [d2, c2], H0⟩
      · exact absurd d1 c1
    · refine ⟨(v8w (N + 89) 3 v).1, xv_pi_mono (c_Model_damage1 (n := a.1) (v8w (N + 89) 3 v) (by rw [xv_si_ne (by omega)]; exact v9) v5) (fun r' w' hw' => ?_)⟩
      rcases hw' with ⟨d1, d2, rfl⟩ | ⟨d1, d2, rfl⟩
      · exact absurd c1 d1
      · exact ⟨by rw [d2, c2], p_dam1 a1 a2 a3 h23 a4 a5 a6 v⟩
  by_cases x2 : x = 2
  · subst x2
    refine xv_pi_mono (xv_C_d (by omega) (c_Desk_damage2 (x := y) (y := v) v1 v2 v3 v4 v5)) (fun r w hw => ?_)
    rcases hw with ⟨c1, c2, rfl⟩ | ⟨e, he, rfl, c1, c2, rfl⟩
    · refine ⟨v8.1, xv_pi_mono (c_Model_damage2 v8 v9 v5) (fun r' w' hw' => ?_)⟩
      rcases hw' with ⟨d1, d2, rfl⟩ | ⟨e, he, e1, d1, d2, rfl⟩
      · exact ⟨by rw [d2, c2], H0⟩
      · exact absurd ⟨(yEx v5).mpr ⟨e, he, e1⟩, d1⟩ c1
    · have hr := hEr e he
      refine ⟨(v8w (E e) 2 v).1, xv_pi_mono (c_Model_damage2 (n := a.1) (v8w (E e) 2 v) (by rw [xv_si_ne (by omega)]; exact v9) v5) (fun r' w' hw' => ?_)⟩
      rcases hw' with ⟨d1, d2, rfl⟩ | ⟨e', he', e1, d1, d2, rfl⟩
      · exact absurd ⟨⟨e, he, rfl⟩, c1⟩ d1
      · obtain rfl : e = e' := (nI_eq (by omega) (by omega)).mp e1
        exact ⟨by rw [d2, c2], p_dam2 a1 a2 a3 h23 a4 a5 a6 he (yI07 c1)⟩
  by_cases x3 : x = 3
  · subst x3
    refine xv_pi_mono (xv_C_d (by omega) (c_Desk_damage3 (x := y) (v0 := v) v1 v2 v3 v4 v5 v7)) (fun r w hw => ?_)
    rcases hw with ⟨c1, c2, rfl⟩ | ⟨e, he, rfl, c2, rfl⟩
    · refine ⟨v8.1, xv_pi_mono (c_Model_damage3 v8 v9 v5) (fun r' w' hw' => ?_)⟩
      rcases hw' with ⟨d1, d2, rfl⟩ | ⟨e, he, e1, d2, rfl⟩
      · exact ⟨by rw [d2, c2], H0⟩
      · exact absurd ((yEx v5).mpr ⟨e, he, e1⟩) c1
    · have hr := hEr e he
      refine ⟨(v8w (E e) 6 _).1, xv_pi_mono (c_Model_damage3 (n := a.1) (v8w (E e) 6 _) (by rw [xv_si_ne (by omega)]; exact v9) v5) (fun r' w' hw' => ?_)⟩
      rcases hw' with ⟨d1, d2, rfl⟩ | ⟨e', he', e1, d2, rfl⟩
      · exact absurd ⟨e, he, rfl⟩ d1
      · obtain rfl : e = e' := (nI_eq (by omega) (by omega)).mp e1
        have q := p_dam3 (e := e) (y := if xv_i u (E e) 6 = 0 then 1 else 0) a1 a2 a3 h23 a4 a5 a6 he (by split; exact Or.inr rfl; exact Or.inl rfl)
        rw [xv_si_ne (by omega), ← (vE e he).1.2.2.2.2.1]
        exact ⟨by rw [d2, c2], q⟩
  by_cases x4 : x = 4
  · subst x4
    refine xv_pi_mono (c_Desk_damage4 (x := y) (v0 := v) v1 v2 v3 v4 v5 v7 v6) (fun r w hw => ?_)
    rcases hw with ⟨c1, c2, rfl⟩ | ⟨e, he, rfl, c2, rfl⟩
    · refine ⟨v8.1, xv_pi_mono (c_Model_damage4 v8 v9 v5 v10 (fun e he => (v12 e he).1)) (fun r' w' hw' => ?_)⟩
      rcases hw' with ⟨d1, d2, rfl⟩ | ⟨e, he, e1, d2, -⟩
      · exact ⟨by rw [d2, c2], H0⟩
      · exact absurd ((yEx v5).mpr ⟨e, he, e1⟩) c1
    · have hr := hEr e he
      have kM : ∀ b q, M ≤ b → xv_i (xv_sw (xv_si (xv_si u (E e) 8 (xv_i u (E e) 2)) (E e) 9 (xv_i u (E e) 6)) (E e + 6) (va_cpy (xv_i u (E e + 2)) (xv_i u (E e + 6)) 0 0 (yLn u E e))) b q = xv_i u b q := by
        intro b q hb
        rw [xv_sw_ne (by omega), xv_si_ne (by omega), xv_si_ne (by omega)]
      have v8' : xMo (xv_sw (xv_si (xv_si u (E e) 8 (xv_i u (E e) 2)) (E e) 9 (xv_i u (E e) 6)) (E e + 6) (va_cpy (xv_i u (E e + 2)) (xv_i u (E e + 6)) 0 0 (yLn u E e))) M := v8
      refine ⟨v8'.1, xv_pi_mono (c_Model_damage4 (n := a.1) (L := yLn u E) v8' (by rw [kM _ _ (by omega)]; exact v9) v5 (fun e he => by rw [kM _ _ (by omega)]; exact v10 e he) (fun e he => by rw [kM _ _ (by omega)]; exact (v12 e he).1)) (fun r' w' hw' => ?_)⟩
      rcases hw' with ⟨d1, d2, rfl⟩ | ⟨e', he', e1, d2, hs⟩
      · exact absurd ⟨e, he, rfl⟩ d1
      · obtain rfl : e = e' := (nI_eq (by omega) (by omega)).mp e1
        rw [hLn e he] at hs
        refine ⟨by rw [d2, c2], p_dam4 a1 a2 a3 h23 a4 a5 a6 he (fun i hi => ?_) hs⟩
        unfold va_cpy
        rw [if_pos (by omega)]
        congr 1
        omega
  · refine xv_pi_mono (xv_C_d (by omega) (c_Desk_damage5 (y := y) (z := v) v1 x0 x1 x2 x3 x4)) (fun r w ⟨c1, c2⟩ => ?_)
    subst c2
    refine ⟨v8.1, xv_pi_mono (c_Model_damage5 v8 v9 v5 (fun hx => ?_)) (fun r' w' ⟨d1, d2⟩ => ?_)⟩
    · obtain ⟨k, hk, rfl⟩ : ∃ k, k < 5 ∧ x = nI k := by
        obtain ⟨k, hk, rfl⟩ := nI_of (Int32.not_lt.mpr hx.1)
        have : k ≤ 4 := (nI_leI (b := 4) hk (by decide)).mp hx.2
        exact ⟨k, by omega, rfl⟩
      have : k = 0 ∨ k = 1 ∨ k = 2 ∨ k = 3 ∨ k = 4 := by omega
      rcases this with rfl | rfl | rfl | rfl | rfl
      · exact x0 rfl
      · exact x1 rfl
      · exact x2 rfl
      · exact x3 rfl
      · exact x4 rfl
    · subst d2
      exact ⟨by rw [d1, c1], H0⟩
theorem t_forge {sc : Nat × (Nat → Int32)} {u : xv_M} {h N M : Nat} (H : yTi u h N M) (x y v : Int32) : xv_C sc 2 J_Desk_forge [.ref h, .int x, .int y, .int v] u (xv_N u) (xv_S u) (xv_pi (fun r w => xv_k w M = 12 ∧ xv_C sc 2 J_Model_forge [.ref M, .int x, .int y, .int v] w (xv_N w) (xv_S w) (xv_pi (fun r' w' => r' = r ∧ yTi w' h N M)))) := by
  have H0 := H
  obtain ⟨E, a1, a2, a3, ⟨h23, a, a4⟩, a5, a6⟩ := H
  have V := yAv_of a1 h23 a4
  obtain ⟨⟨v1, v2, v3, v4, v5, v6, v7⟩, ⟨v8, v9, v10, v11, v12⟩, -, vE⟩ := V
  have hLn : ∀ e, e < a.1 → yLn u E e = a.2.1 e := fun e he => yLn_of (a4.2.2 e he).2.1.1 (yPv_le (a4.2.2 e he).1).2
  have hl : N + 209 ≤ M := a1.2.2.2.2.2.2.2
  refine xv_pi_mono (c_Desk_forge v1 v2 v3 v4 v5 v6) (fun r w hw => ?_)
  rcases hw with ⟨c1, c2, rfl⟩ | ⟨e, i, ⟨he, rfl, hi, rfl⟩, hw⟩
  · refine ⟨v8.1, xv_pi_mono (c_Model_forge v8 v9 v5 v10) (fun r' w' hw' => ?_)⟩
    rcases hw' with ⟨d1, d2, rfl⟩ | ⟨e, i, q, -⟩
    · exact ⟨by rw [d2, c2], H0⟩
    · exact absurd ⟨e, i, q⟩ c1
  · obtain ⟨j, hj, ej⟩ := a1.2.2.2.2.1.1 e (by omega)
    obtain ⟨s1, s2, s3, s4, s5⟩ := (vE e he).2 i hi
    have hl265 := (v6 e (by omega)).2
    rcases hw with ⟨c1, c2, rfl⟩ | ⟨c1, c2, rfl⟩
    · refine ⟨v8.1, xv_pi_mono (c_Model_forge v8 v9 v5 v10) (fun r' w' hw' => ?_)⟩
      rcases hw' with ⟨d1, d2, rfl⟩ | ⟨e', i', ⟨q1, q2, q3, q4⟩, hw'⟩
      · exact absurd ⟨e, i, he, rfl, hi, rfl⟩ d1
      · obtain rfl : e = e' := (nI_eq (by omega) (by omega)).mp q2
        obtain rfl : i = i' := (nI_eq (by omega) (by omega)).mp q4
        rcases hw' with ⟨d1, d2, rfl⟩ | ⟨d1, d2, rfl⟩
        · exact ⟨by rw [d2, c2], H0⟩
        · rw [← s1, ← s4] at d1
          exact absurd d1 c1
    · have v8w : xMo (xv_si u (E e + 2) i v) M := v8
      have kM : ∀ b q, M ≤ b → xv_i (xv_si u (E e + 2) i v) b q = xv_i u b q := fun b q hb => xv_si_ne (by omega)
      refine ⟨v8w.1, xv_pi_mono (c_Model_forge (n := a.1) (L := yLn u E) v8w (by rw [kM _ _ (by omega)]; exact v9) v5 (fun e he => by rw [kM _ _ (by omega)]; exact v10 e he)) (fun r' w' hw' => ?_)⟩
      rcases hw' with ⟨d1, d2, rfl⟩ | ⟨e', i', ⟨q1, q2, q3, q4⟩, hw'⟩
      · exact absurd ⟨e, i, he, rfl, hi, rfl⟩ d1
      · obtain rfl : e = e' := (nI_eq (by omega) (by omega)).mp q2
        obtain rfl : i = i' := (nI_eq (by omega) (by omega)).mp q4
        rw [kM _ _ (by omega), kM _ _ (by omega), ← s1, ← s4] at hw'
        rcases hw' with ⟨d1, d2, rfl⟩ | ⟨d1, d2, rfl⟩
        · exact absurd c1 d1
        · exact ⟨by rw [d2, c2], p_forge a1 a2 a3 h23 a4 a5 a6 he (by rw [← hLn e he]; exact hi) c1.1 c1.2.1 c1.2.2⟩
theorem t_drop {sc : Nat × (Nat → Int32)} {u : xv_M} {h N M : Nat} (H : yTi u h N M) (x : Int32) : xv_C sc 1 J_Desk_drop [.ref h, .int x] u (xv_N u) (xv_S u) (xv_pi (fun r w => xv_k w M = 12 ∧ xv_C sc 1 J_Model_drop [.ref M, .int x] w (xv_N w) (xv_S w) (xv_pi (fun r' w' => r' = r ∧ yTi w' h N M)))) := by
  have H0 := H
  obtain ⟨E, a1, a2, a3, ⟨h23, a, a4⟩, a5, a6⟩ := H
  have V := yAv_of a1 h23 a4
  obtain ⟨⟨v1, v2, v3, v4, v5, v6, v7⟩, ⟨v8, v9, v10, v11, v12⟩, -, vE⟩ := V
  have hl : N + 209 ≤ M := a1.2.2.2.2.2.2.2
  refine xv_pi_mono (c_Desk_drop v1 v2 v3 v4 v5) (fun r w hw => ?_)
  rcases hw with ⟨c1, c2, rfl⟩ | ⟨e, he, rfl, c2, ρ, hρ, rfl⟩
  · refine ⟨v8.1, xv_pi_mono (c_Model_drop v8 v9 v5 v10 v11 v12) (fun r' w' hw' => ?_)⟩
    rcases hw' with ⟨d1, d2, rfl⟩ | ⟨e, w1, he, e1, -⟩
    · exact ⟨by rw [d2, c2], H0⟩
    · exact absurd ((yEx v5).mpr ⟨e, he, e1⟩) c1
  · obtain ⟨kw, m8⟩ := p_drop0 (ρ := ρ) a1 a2 a3 h23 a4 a5 a6 he
    refine ⟨m8.1, xv_pi_mono (c_Model_drop (n := a.1) (L := yLn u E) m8 (by rw [kw _ _ (by omega)]; exact v9) v5 (fun e he => by rw [kw _ _ (by omega)]; exact v10 e he) (fun e k he hk => by rw [kw _ _ (by omega)]; exact v11 e k he hk) (fun e he => by rw [kw _ _ (by omega), kw _ _ (by omega)]; exact v12 e he)) (fun r' w' hw' => ?_)⟩
    rcases hw' with ⟨d1, d2, rfl⟩ | ⟨e', w1, he', e1, d2, hq, h31, rfl⟩
    · exact absurd ⟨e, he, rfl⟩ d1
    · obtain rfl : e = e' := (nI_eq (by omega) (by omega)).mp e1
      exact ⟨by rw [d2, c2, kw _ _ (by omega), (vE e he).1.1], p_drop a1 a2 a3 h23 a4 a5 a6 he hρ hq h31⟩

