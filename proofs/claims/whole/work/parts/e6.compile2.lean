/-! compile -/
theorem p_comp0 {u : xv_M} {N M : Nat} {L nP : Nat → Nat} {Of : Nat → Nat → Nat} {Af : Nat → Nat → Int32} {U : Nat → yU} (f1 : xFc u (N + 8) L nP Of Af) (f2 : ∀ f, f < 8 → xTok (Of f) (Af f) (L f) ∧ nP f ≤ 3 ∧ xv_i u (M + 3) f = nI (L f) ∧ (0 < L f → yFf f (L f) (nP f) (Of f) (Af f) (U f) ∧ xv_i u (M + 4) f = nI (nP f) ∧ xv_i u (M + 11) f = nI (yMx (Of f) 41 0 0) ∧ yRw u M f (yNu (Of f) (nP f)) (U f))) {w : xv_M} {x : Int32} (kM : ∀ b q, M ≤ b → xv_i w b q = xv_i u b q) : (∀ f, f < 8 → ¬ xv_i w (M + 3) f = 0 → xv_i w (M + 10) f = nI (yNu (Of f) (nP f)) ∧ yNu (Of f) (nP f) ≤ 265 ∧ ∀ k, k < yNu (Of f) (nP f) → xv_i w (M + 13) (280 * f + k) = 0 ∨ xv_i w (M + 13) (280 * f + k) = 1) ∧ (xCpN w M x ↔ ∃ f, f < 8 ∧ x = nI f ∧ 0 < L f) := by
  refine ⟨fun f hf h0 => ?_, ?_⟩
  · obtain ⟨t1, t2, t3, t4⟩ := f2 f hf
    rw [kM _ _ (by omega), t3] at h0
    have hL : 0 < L f := Nat.pos_of_ne_zero (fun e => h0 (by rw [e]; rfl))
    obtain ⟨b1, b2, b3, b4⟩ := t4 hL
    refine ⟨by rw [kM _ _ (by omega)]; exact b4.1, (yNu_le (m := nP f) (yOne_sz (f1 f hf).1.2.1 t1 t2 b1.1).2.2.2.1).2, fun k hk => ?_⟩
    rw [kM _ _ (by omega), (b4.2 k hk).2.2.2]
    exact b1.2.2.1 k hk
  · unfold xCpN
    constructor
    · rintro ⟨h1, h2⟩
      obtain ⟨f, hf, rfl⟩ := xI8 h1
      refine ⟨f, hf, rfl, Nat.pos_of_ne_zero (fun e => h2 ?_)⟩
      rw [nI_clamp (by omega), kM _ _ (by omega), (f2 f hf).2.2.1, e]; rfl
    · rintro ⟨f, hf, rfl, hL⟩
      refine ⟨⟨nI_pos' (by omega), nI_le (b := 7) (by omega) (by decide)⟩, ?_⟩
      rw [nI_clamp (by omega), kM _ _ (by omega), (f2 f hf).2.2.1]
      exact nI_ne0 hL (by have := (f1 f hf).1.2.1; omega)
theorem p_comp {u : xv_M} {h N M : Nat} {E : Nat → Nat} {a : yAd} (a1 : yCl u h N M E) (a2 : yD u N M) (a3 : yF u N M) (h23 : xv_i u (N + 89) 2 = xv_i u M 29 ∧ xv_i u (N + 89) 3 = xv_i u M 30) (H : yAs u N M E a) (a5 : yI u N M) (a6 : yK u h M) {L nP : Nat → Nat} {Of : Nat → Nat → Nat} {Af : Nat → Nat → Int32} {U : Nat → yU} (f1 : xFc u (N + 8) L nP Of Af) (f2 : ∀ f, f < 8 → xTok (Of f) (Af f) (L f) ∧ nP f ≤ 3 ∧ xv_i u (M + 3) f = nI (L f) ∧ (0 < L f → yFf f (L f) (nP f) (Of f) (Af f) (U f) ∧ xv_i u (M + 4) f = nI (nP f) ∧ xv_i u (M + 11) f = nI (yMx (Of f) 41 0 0) ∧ yRw u M f (yNu (Of f) (nP f)) (U f))) {f e : Nat} {φ : Nat → Int32} {w w' : xv_M} (hf : f < 8) (hLf : 0 < L f) (he8 : e < 8) (hen : e ≤ a.1) (hφ : ∀ i, i < 265 → φ i = 0) (z : xSm2 u w (xCoS (N + 88) (N + 89) (E e)) (fun b => b = N + 88)) (hc : xCoE w (E e) (nP f) (nI f) (xTr (Of f) (Af f) 41 (nP f) (0, xv_i u (E e + 2), xv_i u (E e + 3), xv_i u (E e + 4), φ, 0, 0))) (c1 : xv_i w (N + 89) 1 = nI (if a.1 < e + 1 then e + 1 else a.1)) (c3 : xv_i w (N + 89) 3 = nI (if a.1 < e + 1 then e + 1 else a.1)) (c2 : ∀ j, ¬ j = 1 → ¬ j = 3 → xv_i w (N + 89) j = xv_i u (N + 89) j) (hq : xCpq w w' M a.1 f e (yNu (Of f) (nP f))) : yTi w' h N M := by
  have hl : h < N ∧ N + 209 ≤ M ∧ M + 31 ≤ xv_N u := ⟨a1.2.2.2.2.2.2.1, a1.2.2.2.2.2.2.2, a1.2.2.2.2.2.1⟩
  have hE := a1.2.2.2.2.1
  have hn8 := H.1.2.2
  obtain ⟨je, hje, ej⟩ := hE.1 e he8
  obtain ⟨g1, g4, g5⟩ := H
  obtain ⟨t1, t2, t3, t4⟩ := f2 f hf
  obtain ⟨b1, b2, b3, b4⟩ := t4 hLf
  obtain ⟨cw, pv, ce⟩ := yCo_e (f1 f hf).1.2.1 t1 t2 hf b1 rfl hφ ⟨rfl, rfl⟩ hc
  have hle := (yPv_le pv).2
  obtain ⟨n', en⟩ : ∃ n', n' = if a.1 < e + 1 then e + 1 else a.1 := ⟨_, rfl⟩
  rw [← en] at c1 c3
  have hn' : (e = a.1 ∧ n' = a.1 + 1) ∨ (e < a.1 ∧ n' = a.1) := by
    rw [en]
    by_cases q : a.1 < e + 1
    · rw [if_pos q]; omega
    · rw [if_neg q]; omega
  clear hc
  obtain ⟨z1, z2, z3, z4, z5, z6, z7⟩ := z
  have kM : ∀ b q, M ≤ b → xv_i w b q = xv_i u b q := fun b q hb => z7 b (by unfold xCoS; omega) q
  obtain ⟨w2, w3, ⟨u1, u7, u8, u9, u13, u10, u10', u11, u11'⟩, ⟨s1, s21, s20, s20', s16, s16'⟩, rfl⟩ := hq
  -- the memory before the units are copied
  have hW0 : ∃ W0 : xv_M, W0 = xv_si (xv_si (xv_si (xv_si (if e = a.1 then xv_si w M 31 (nI (a.1 + 1)) else w) (M + 17) e (nI f)) (M + 19) e (nI f)) (M + 18) e (xv_i w (M + 4) f)) (M + 15) e 0 := ⟨_, rfl⟩
  obtain ⟨W0, eW⟩ := hW0
  rw [← eW] at u1 u7 u8 u9 u13 u10 u11 u11'
  have Wz : zS (fun b => b < M + 31) w W0 ∧ xv_N W0 = xv_N w := by
    rw [eW]
    by_cases q : e = a.1
    · rw [if_pos q]; exact ⟨zS_tr (zS_tr (zS_tr (zS_tr zS_1 zS_1) zS_1) zS_1) zS_1, rfl⟩
    · rw [if_neg q]; exact ⟨zS_tr (zS_tr (zS_tr zS_1 zS_1) zS_1) zS_1, rfl⟩
  have W31 : xv_i W0 M 31 = nI n' := by
    rw [eW, xv_si_ne (by omega), xv_si_ne (by omega), xv_si_ne (by omega), xv_si_ne (by omega)]
    by_cases q : e = a.1
    · rw [if_pos q, xv_si_eq]; congr 1; omega
    · rw [if_neg q, kM _ _ (by omega), g1.2.1]; congr 1; omega
  have Wo : ∀ b q, ¬ (b = M ∧ q = 31) → ¬ ((b = M + 17 ∨ b = M + 19 ∨ b = M + 18 ∨ b = M + 15) ∧ q = e) → xv_i W0 b q = xv_i w b q := by
    intro b q h1 h2
    rw [eW, xv_si_if2, if_neg (by omega), xv_si_if2, if_neg (by omega), xv_si_if2, if_neg (by omega), xv_si_if2, if_neg (by omega)]
    by_cases q : e = a.1
    · rw [if_pos q, xv_si_if2, if_neg (by omega)]
    · rw [if_neg q]
  have W17 : xv_i W0 (M + 17) e = nI f := by rw [eW, xv_si_ne (by omega), xv_si_ne (by omega), xv_si_ne (by omega), xv_si_eq]
  have W19 : xv_i W0 (M + 19) e = nI f := by rw [eW, xv_si_ne (by omega), xv_si_ne (by omega), xv_si_eq]
  have W18 : xv_i W0 (M + 18) e = nI (nP f) := by rw [eW, xv_si_ne (by omega), xv_si_eq, kM _ _ (by omega)]; exact b2
  have W15 : xv_i W0 (M + 15) e = 0 := by rw [eW, xv_si_eq]
  clear eW
  -- the memory after all
  have k30 : ∀ b q, ¬ (b = M ∧ q = 30) → xv_i (xv_si w3 M 30 (xv_i w3 M 31)) b q = xv_i w3 b q := fun b q hb => by rw [xv_si_if2, if_neg hb]
  have ks : ∀ b q, ¬ (b = M + 20 ∨ b = M + 16 ∨ b = M + 21) → xv_i w3 b q = xv_i w2 b q := fun b q hb => congrFun (s1.2.2.2.2.2.2 b (by unfold xSeS; omega)) q
  have ku : ∀ b q, ¬ (b = M + 7 ∨ b = M + 8 ∨ b = M + 9 ∨ b = M + 10 ∨ b = M + 11 ∨ b = M + 13) → xv_i w2 b q = xv_i W0 b q := fun b q hb => congrFun (u1.2.2.2.2.2.2 b (by unfold xCU; omega)) q
  have kc : ∀ b q, b < M → xv_i (xv_si w3 M 30 (xv_i w3 M 31)) b q = xv_i w b q := fun b q hb => by rw [k30 _ _ (by omega), ks _ _ (by omega), ku _ _ (by omega), Wo _ _ (by omega) (by omega)]
  have bk : ∀ c, c = 7 ∨ c = 8 ∨ c = 9 ∨ c = 13 → xBk W0 w2 (M + c) (M + c) (280 * (8 + e)) (280 * f) (yNu (Of f) (nP f)) := by
    intro c hc
    rcases hc with rfl | rfl | rfl | rfl
    · exact u7
    · exact u8
    · exact u9
    · exact u13
  have r31 : xv_i w3 M 31 = nI n' := by rw [ks _ _ (by omega), ku _ _ (by omega)]; exact W31
  have zz : zS (fun b => b < M + 31) w (xv_si w3 M 30 (xv_i w3 M 31)) := zS_tr Wz.1 (zS_tr (zS_tr (zS_si u1) (zS_si s1)) zS_1)
  have zuw : zS (yT8 M N) u w := fun b hb => ⟨congrFun z3 b, congrFun z4 b, fun q => z5 b (by unfold yT8 at hb; omega) q⟩
  have a1w : yCl w h N M E := by
    refine yCl_fr zuw (congrFun z3 _) ?_ ⟨congrFun z3 _, congrFun z4 _⟩ hE (fun e he => (z5 _ (by omega) e).trans (a1.2.1.2.2.1.1 e he)) (by rw [z1]; exact hl.2.2) a1
    exact xCk_z (T := fun b => ¬ b = N + 88) (fun b hb => ⟨congrFun z3 b, congrFun z4 b, fun q => z5 b hb q⟩) (by omega) (by omega) (by omega) a1.2.1.2.1
  have a1' : yCl (xv_si w3 M 30 (xv_i w3 M 31)) h N M E := yCl_si zz (by show M + 31 ≤ xv_N w3; rw [s1.1, u1.1, Wz.2, z1]; exact hl.2.2) a1w
  have kall : ∀ b q, zD N M b q ∨ zF N M b q ∨ zI N M b q ∨ zK h M b q → xv_i (xv_si w3 M 30 (xv_i w3 M 31)) b q = xv_i u b q := by
    intro b q hb
    have nD : ¬ (N + 88 ≤ b ∧ b < N + 150) := by
      rcases hb with hb | hb | hb | hb
      · unfold zD at hb; omega
      · have := nF hb; omega
      · have := nI' hb; omega
      · unfold zK at hb; omega
    have hb := nAll hl.2.1 hl.1 hb
    by_cases cM : b < M
    · rw [kc b q cM, z7 b (by unfold xCoS; omega) q]
    · rw [k30 _ _ (by omega), ks _ _ (by omega)]
      have fin : xv_i W0 b q = xv_i u b q := by rw [Wo _ _ (by omega) (by omega), kM _ _ (by omega)]
      by_cases c7 : b = M + 7 ∨ b = M + 8 ∨ b = M + 9 ∨ b = M + 13
      · obtain ⟨c, hc, rfl⟩ : ∃ c, (c = 7 ∨ c = 8 ∨ c = 9 ∨ c = 13) ∧ b = M + c := ⟨b - M, by omega, by omega⟩
        rw [(bk c hc).1 q (by omega)]; exact fin
      · by_cases c10 : b = M + 10
        · subst c10; rw [u10 q (by omega)]; exact fin
        · by_cases c11 : b = M + 11
          · subst c11; rw [u11 q (by omega)]; exact fin
          · rw [ku _ _ (by omega)]; exact fin
  refine ⟨E, a1', yD_fr (fun b q hb => kall b q (Or.inl hb)) a2, yF_fr (fun b q hb => kall b q (Or.inr (Or.inl hb))) a3, ⟨⟨?_, ?_⟩, _, yAs_ch (e := e) (n' := n') (n1 := yNu (Of f) (nP f)) (U' := U f) (v' := fun j => if j = 3 then nI (nP f) else if j = 4 then nI (yMx (Of f) 41 0 0) else if j = 6 ∨ j = 9 then 0 else nI f) (s' := fun i => nI ((U f).1 i)) ⟨g1, g4, g5⟩ ⟨?_, ?_, by omega⟩ (fun j hj hne => by omega) (fun j hj hne b b1' b2' q => ?_) (fun j hj hne => ⟨fun c hc => ?_, fun c hc => ?_, fun c hc i hi => ?_, fun i hi => ?_⟩) (fun _ => ?_) (fun _ => ⟨pv, ?_, ?_⟩)⟩, yI_fr (fun b q hb => kall b q (Or.inr (Or.inr (Or.inl hb)))) a5, yK_fr (fun b q hb => kall b q (Or.inr (Or.inr (Or.inr hb)))) a6⟩
  · rw [kc _ _ (by omega), c2 2 (by omega) (by omega), k30 _ _ (by omega), ks _ _ (by omega), ku _ _ (by omega), Wo _ _ (by omega) (by omega), kM _ _ (by omega)]; exact h23.1
  · rw [kc _ _ (by omega), xv_si_eq, r31]; exact c3
  · rw [kc _ _ (by omega)]; exact c1
  · rw [k30 _ _ (by omega)]; exact r31
  · have := yEp_ne hE he8 hj hne
    obtain ⟨jj, hjj, ejj⟩ := hE.1 j hj
    rw [kc _ _ (by omega), z7 b (by unfold xCoS; omega) q]
  · rw [k30 _ _ (by omega), ks _ _ (by omega)]
    rcases hc with rfl | rfl
    · rw [u10 _ (by omega), Wo _ _ (by omega) (by omega), kM _ _ (by omega)]
    · rw [u11 _ (by omega), Wo _ _ (by omega) (by omega), kM _ _ (by omega)]
  · rw [k30 _ _ (by omega)]
    have fin : xv_i W0 (M + c) j = xv_i u (M + c) j := by rw [Wo _ _ (by omega) (by omega), kM _ _ (by omega)]
    by_cases c20 : c = 20
    · subst c20; rw [s20 j hne, ku _ _ (by omega)]; exact fin
    · by_cases c16 : c = 16
      · subst c16; rw [s16 j hne, ku _ _ (by omega)]; exact fin
      · rw [ks _ _ (by omega), ku _ _ (by omega)]; exact fin
  · have hlj := (yPv_le (g5 j hj).1).2
    rw [k30 _ _ (by omega), ks _ _ (by omega), (bk c hc).1 _ (by omega), Wo _ _ (by omega) (by omega), kM _ _ (by omega)]
  · have hlj := (yPv_le (g5 j hj).1).2
    rw [k30 _ _ (by omega), s21.1 _ (by omega), ku _ _ (by omega), Wo _ _ (by omega) (by omega), kM _ _ (by omega)]
  · exact yCw_e (fun b b1' b2' q => kc _ _ (by omega)) cw
  · exact yCe_e (fun b b1' b2' q => kc _ _ (by omega)) ce
  · have row : ∀ c, c = 7 ∨ c = 8 ∨ c = 9 ∨ c = 13 → ∀ i, i < yNu (Of f) (nP f) → xv_i w2 (M + c) (280 * (8 + e) + i) = xv_i u (M + c) (280 * f + i) := by
      intro c hc i hi
      rw [(bk c hc).2 i hi, Wo _ _ (by omega) (by omega), kM _ _ (by omega)]
    refine ⟨⟨?_, fun i hi => ?_⟩, fun i hi => ?_, ?_, ?_, ?_, ?_, ?_, ?_, ?_⟩
    · rw [k30 _ _ (by omega), ks _ _ (by omega)]; exact u10'
    · obtain ⟨e1, e2, e3, e4⟩ := b4.2 i hi
      rw [k30 _ _ (by omega), ks _ _ (by omega), row 7 (by omega) i hi, k30 _ _ (by omega), ks _ _ (by omega), row 8 (by omega) i hi, k30 _ _ (by omega), ks _ _ (by omega), row 9 (by omega) i hi, k30 _ _ (by omega), ks _ _ (by omega), row 13 (by omega) i hi]
      exact ⟨e1, e2, e3, e4⟩
    · rw [k30 _ _ (by omega), s21.2 i hi, row 7 (by omega) i hi]
      exact (b4.2 i hi).1
    · rw [k30 _ _ (by omega), ks _ _ (by omega), ku _ _ (by omega)]; exact W17
    · rw [k30 _ _ (by omega), ks _ _ (by omega), ku _ _ (by omega)]; exact W18
    · rw [k30 _ _ (by omega), ks _ _ (by omega), u11', Wo _ _ (by omega) (by omega), kM _ _ (by omega)]; exact b3
    · rw [k30 _ _ (by omega), ks _ _ (by omega), ku _ _ (by omega)]; exact W19
    · rw [k30 _ _ (by omega), ks _ _ (by omega), ku _ _ (by omega)]; exact W15
    · rw [k30 _ _ (by omega), s20', ku _ _ (by omega)]; exact W17
    · rw [k30 _ _ (by omega), s16', ku _ _ (by omega)]; exact W15

