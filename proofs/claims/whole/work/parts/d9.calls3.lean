/-! define -/
theorem yUSn {M b : Nat} (h : xUS M b) : b = M ∨ (M + 7 ≤ b ∧ b ≤ M + 13) ∨ (M + 27 ≤ b ∧ b ≤ M + 29) := by
  unfold xUS xTS xBS xPS at h
  omega
theorem yRe_c {n : Nat} {O O' : Nat → Nat} {F S : Nat → Int32} (h : ∀ i, i < n → O' i = O i) : ∀ j k q, xRe n O F S j k q → xRe n O' F S j k q := by
  intro j
  induction j with
  | zero => intro k q r; exact r
  | succ j ih =>
    intro k q r
    rcases r with r | ⟨k', h', r1, r2, r3, r4, r5⟩
    · exact Or.inl (ih k q r)
    · refine Or.inr ⟨k', h', ih _ _ r1, r2, by rw [h k' r2]; exact r3, ?_, ?_⟩
      · unfold xSu at r4 ⊢
        rw [h k' r2]; exact r4
      · unfold xTpu at r5 ⊢
        rw [h k' r2]; exact r5
theorem yGdM_c {n g : Nat} {O O' : Nat → Nat} {F S : Nat → Int32} (h : ∀ i, i < n → O' i = O i) (H : xGdM n O F S g) : xGdM n O' F S g := by
  obtain ⟨T, ⟨c1, c2⟩, h2, h3⟩ := H
  refine ⟨T, ⟨c1, fun k q t => ?_⟩, fun k q t => ?_, ?_⟩
  · obtain ⟨e1, e2, e3, e4⟩ := c2 k q t
    have ek := h k e1
    refine ⟨e1, by rw [ek]; exact e2, fun k' hs => ?_, e4⟩
    unfold xSu at hs
    rw [ek] at hs
    have := e3 k' hs
    unfold xTpu at this ⊢
    rw [ek]; exact this
  · have ek := h k (c2 k q t).1
    obtain ⟨e1, j, e2⟩ := h2 k q t
    refine ⟨?_, j, yRe_c h j k q e2⟩
    unfold xTpu at e1 ⊢
    rw [ek]; exact e1
  · rcases h3 with e | ⟨k, q, t, e⟩
    · exact Or.inl e
    · refine Or.inr ⟨k, q, t, ?_⟩
      have ek := h k (c2 k q t).1
      unfold xTpu at e ⊢
      rw [ek]; exact e
theorem yCls_r {n : Nat} {O : Nat → Nat} {F S : Nat → Int32} {T : Nat → Nat → Prop} (H : xCls n O F S T) : ∀ j k q, xRe n O F S j k q → T k q := by
  intro j
  induction j with
  | zero => rintro k q ⟨rfl, rfl⟩; exact H.1
  | succ j ih =>
    intro k q r
    rcases r with r | ⟨k', h', r1, r2, r3, r4, r5⟩
    · exact ih k q r
    · rw [r5]; exact (H.2 k' h' (ih _ _ r1)).2.2.1 k r4
theorem yGdM_le {n g g' : Nat} {O : Nat → Nat} {F S : Nat → Int32} (H : xGdM n O F S g) (H' : xGdM n O F S g') : g ≤ g' := by
  obtain ⟨T, c, h2, h3⟩ := H
  obtain ⟨T', c', h2', h3'⟩ := H'
  rcases h3 with e | ⟨k, q, t, e⟩
  · omega
  · obtain ⟨-, j, r⟩ := h2 k q t
    rw [e]
    exact (h2' k q (yCls_r c' j k q r)).1
theorem yGdM_u {n g g' : Nat} {O : Nat → Nat} {F S : Nat → Int32} (H : xGdM n O F S g) (H' : xGdM n O F S g') : g = g' := Nat.le_antisymm (yGdM_le H H') (yGdM_le H' H)
theorem yGdM_nb {n g : Nat} {O : Nat → Nat} {F S : Nat → Int32} (H : xGdM n O F S g) : ¬ xBad n O F S := xCls_b H.choose_spec.1
/-- the forms, after define -/
theorem yF_def {u w w2 w' : xv_M} {N M f n m : Nat} {O : Nat → Nat} {A : Nat → Int32} {T : xQ} {O' : Nat → Nat} (hN : N + 209 ≤ M) (H : yF u N M) (hf : f < 8) (hm : m ≤ 3) (d3 : xTok O A n) (z : xSi (xDfS N (N + 8) f) u w) (wt : xTk w (N + 8 + 10 * f) (N + 8 + 10 * f + 1) (N + 8 + 10 * f + 2) n O A) (w3 : xv_i w (N + 8 + 10 * f) 3 = nI m) (wst : xSt O (xv_i w (N + 8 + 10 * f + 3)) 41 0) (eN : T.1 = yNu O m) (ff : yFf f n m O A (yUt T)) (eO : ∀ i, i < T.1 → T.2.1 i = nI (O' i) ∧ (yUt T).1 i = O' i) (gd : xGdM T.1 (yUt T).1 T.2.2.1 T.2.2.2.1 (yMx O 41 0 0)) (hdc : xDc w w2 M n f m O A) (hto : xTO w2 w' M f T O') : yF w' N M := by
  obtain ⟨L, nP, Of, Af, U, h1, h2⟩ := H
  obtain ⟨c1, c2, c3, c4, c5, c6, c7⟩ := hdc
  obtain ⟨t1, t2, t3, t4, t5, t6, t7⟩ := hto
  -- class cells stay from w on
  have kc : ∀ b, b < M → xv_i w' b = xv_i w b := by
    intro b hb
    rw [t1.2.2.2.2.2.2 b (fun e => by have := yUSn e; omega), c1.2.2.2.2.2.2 b (fun e => by unfold xDS xRS at e; omega)]
  have k3 : ∀ q, xv_i w' (M + 3) q = xv_i w2 (M + 3) q := fun q => congrFun (t1.2.2.2.2.2.2 _ (fun e => by have := yUSn e; omega)) q
  have k4 : ∀ q, xv_i w' (M + 4) q = xv_i w2 (M + 4) q := fun q => congrFun (t1.2.2.2.2.2.2 _ (fun e => by have := yUSn e; omega)) q
  have ku : ∀ b, M ≤ b → xv_i w b = xv_i u b := fun b hb => z.2.2.2.2.2.2 b (fun e => by unfold xDfS at e; omega)
  have kr : ∀ c, c = 7 ∨ c = 8 ∨ c = 9 ∨ c = 13 ∨ c = 10 ∨ c = 11 → xv_i w2 (M + c) = xv_i u (M + c) := fun c hc => by
    rw [c1.2.2.2.2.2.2 _ (fun e => by unfold xDS xRS at e; omega), ku _ (by omega)]
  have kcu : ∀ b, b < M → ¬ xDfS N (N + 8) f b → xv_i w' b = xv_i u b := fun b hb hn => by rw [kc b hb, z.2.2.2.2.2.2 b hn]
  have hle : T.1 ≤ 265 := by
    rw [eN]; exact (yNu_le (m := m) (yOne_sz wt.2.1 d3 hm ff.1).2.2.2.1).2
  refine ⟨xPt L f n, xPt nP f m, xPt Of f O, xPt Af f A, xPt U f (yUt T), fun g hg => ?_, fun g hg => ?_⟩
  · by_cases e : g = f
    · subst e
      rw [xPt_eq, xPt_eq, xPt_eq, xPt_eq]
      refine ⟨xTk_e (congrFun (kc _ (by omega)) _) (fun q hq => ⟨congrFun (kc _ (by omega)) _, congrFun (kc _ (by omega)) _⟩) wt, by rw [kc _ (by omega)]; exact w3, fun _ => by rw [kc _ (by omega)]; exact wst⟩
    · rw [xPt_ne e, xPt_ne e, xPt_ne e, xPt_ne e]
      obtain ⟨b1, b2, b3⟩ := h1 g hg
      have kk : ∀ b, N + 8 + 10 * g ≤ b → b ≤ N + 8 + 10 * g + 3 → xv_i w' b = xv_i u b := fun b q1 q2 => kcu b (by omega) (by unfold xDfS; omega)
      refine ⟨xTk_e (congrFun (kk _ (by omega) (by omega)) _) (fun q hq => ⟨congrFun (kk _ (by omega) (by omega)) _, congrFun (kk _ (by omega) (by omega)) _⟩) b1, by rw [kk _ (by omega) (by omega)]; exact b2, fun hL => by rw [kk _ (by omega) (by omega)]; exact b3 hL⟩
  · by_cases e : g = f
    · subst e
      rw [xPt_eq, xPt_eq, xPt_eq, xPt_eq, xPt_eq]
      refine ⟨d3, hm, by rw [k3]; exact c4, fun _ => ⟨ff, by rw [k4]; exact c7, ?_, ?_⟩⟩
      · rcases t7 with ⟨-, bad⟩ | ⟨g', e1, e2, e3⟩
        · exact absurd bad (yGdM_nb (yGdM_c (fun i hi => ((eO i hi).2).symm) gd))
        · have : g' = yMx O 41 0 0 := yGdM_u (yGdM_c (fun i hi => (eO i hi).2) e3) gd
          rw [e1, this]
      · rw [← eN]
        refine ⟨t6, fun i hi => ?_⟩
        obtain ⟨q1, q2, q3, q4⟩ := t4 i hi
        exact ⟨by rw [q1, (eO i hi).2]; exact (eO i hi).1, q2, q3, q4⟩
    · rw [xPt_ne e, xPt_ne e, xPt_ne e, xPt_ne e, xPt_ne e]
      obtain ⟨b1, b2, b3, b4⟩ := h2 g hg
      refine ⟨b1, b2, by rw [k3, c3 g e (by omega), ku _ (by omega)]; exact b3, fun hL => ?_⟩
      obtain ⟨e1, e2, e3, e4⟩ := b4 hL
      have hle2 := (yNu_le (m := nP g) (yOne_sz (h1 g hg).1.2.1 b1 b2 e1.1).2.2.2.1).2
      refine ⟨e1, by rw [k4, c6 g e, ku _ (by omega)]; exact e2, by rw [(t5 g e).2, kr 11 (by omega)]; exact e3, yRw_e (by rw [(t5 g e).1, kr 10 (by omega)]) (fun c hc i hi => by rw [t3 c hc _ (by omega), kr c (by omega)]) e4⟩
theorem p_define {u : xv_M} {h N M : Nat} (H : yTi u h N M) : ∃ n O A, (xDk u h N (N + 4) (N + 88) (N + 89) (N + 150) ∧ xv_Fo u N (N + 1) (N + 2) (N + 3) ∧ xTk u N (N + 1) (N + 2) n O A ∧ xIn u (N + 4) (N + 5) (N + 6) (N + 7) (N + 8)) ∧ (xTok O A n ∧ n ≤ 40) ∧
    (∀ w, xSi (fun b => b = N + 3) u w → (xMo w M ∧ xDm w M n O A) ∧ ∀ w', xSi (xRS M) w w' → yTi w' h N M) ∧
    (∀ f m w, f < 8 → m ≤ 3 → xOne O A n (nI f) (nI m) = true → xSi (xDfS N (N + 8) f) u w → xv_i w N 2 = 0 → xTk w (N + 8 + 10 * f) (N + 8 + 10 * f + 1) (N + 8 + 10 * f + 2) n O A → xv_i w (N + 8 + 10 * f) 3 = nI m → xSt O (xv_i w (N + 8 + 10 * f + 3)) 41 0 → (xMo w M ∧ xDm w M n O A) ∧ ∀ (σ0 : xQ) O' w2 w', σ0.1 = 0 → (∀ i, i < 265 → σ0.2.2.2.2.1 i = 0) → (∀ i, i < (xTr O A 41 m σ0).1 → (xTr O A 41 m σ0).2.1 i = nI (O' i) ∧ O' i < 22) → xDc w w2 M n f m O A → xTO w2 w' M f (xTr O A 41 m σ0) O' → yTi w' h N M) := by
  have H0 := H
  obtain ⟨E, a1, a2, a3, a4, a5, a6⟩ := H
  obtain ⟨n, O, A, d1, d2, d3⟩ := a2
  have hl : h < N ∧ N + 209 ≤ M ∧ M + 31 ≤ xv_N u := ⟨a1.2.2.2.2.2.2.1, a1.2.2.2.2.2.2.2, a1.2.2.2.2.2.1⟩
  refine ⟨n, O, A, ⟨a1.1.1, a1.1.2.1, d1, a1.1.2.2.1⟩, ⟨d3, d1.2.1⟩, fun w z => ⟨⟨xSi_Mo z a1.2.2.1, ?_⟩, fun w' z' => ?_⟩, fun f m w hf hm h1 z w0 wt w3 wst => ⟨⟨xSi_Mo z a1.2.2.1, ?_⟩, fun σ0 O' w2 w' s0 sφ hO' hdc hto => ?_⟩⟩
  · exact xDm_e (congrFun (z.2.2.2.2.2.2 _ (by omega)) _) (fun q hq => ⟨congrFun (z.2.2.2.2.2.2 _ (by omega)) _, congrFun (z.2.2.2.2.2.2 _ (by omega)) _⟩) d2
  · refine yTi_same (zS_tr (zS_si z) (zS_si z')) (by rw [z'.1, z.1]; exact hl.2.2) (fun b q hb => ?_) H0
    have hb' : ¬ xRS M b ∧ ¬ b = N + 3 := by
      unfold xRS
      rcases hb with hb | hb | hb | hb | hb
      · unfold zD at hb; omega
      · have := nF hb; omega
      · unfold zA at hb; omega
      · have := nI' hb; omega
      · unfold zK at hb; omega
    rw [z'.2.2.2.2.2.2 b hb'.1, z.2.2.2.2.2.2 b hb'.2]
  · have k : ∀ c, N + 209 ≤ c → xv_i w c = xv_i u c := fun c hc => z.2.2.2.2.2.2 c (by unfold xDfS; omega)
    exact xDm_e (congrFun (k _ (by omega)) _) (fun q hq => ⟨congrFun (k _ (by omega)) _, congrFun (k _ (by omega)) _⟩) d2
  · obtain ⟨eN, ff, ops, -, gd, mx⟩ := yTr_f d1.2.1 d3 hm hf h1 s0 sφ
    have ops' : ∀ i, i < (xTr O A 41 m σ0).1 → (xTr O A 41 m σ0).2.1 i = nI (O' i) ∧ (yUt (xTr O A 41 m σ0)).1 i = O' i := by
      intro i hi
      obtain ⟨e1, e2⟩ := hO' i hi
      refine ⟨e1, ?_⟩
      show ((xTr O A 41 m σ0).2.1 i).toNatClampNeg = O' i
      rw [e1, nI_clamp (by omega)]
    have hF := yF_def hl.2.1 a3 hf hm d3 z wt w3 wst eN ff ops' gd hdc hto
    generalize xTr O A 41 m σ0 = T at *
    obtain ⟨c1, c2, c3, c4, c5, c6, c7⟩ := hdc
    obtain ⟨t1, t2, t3, t4, t5, t6, t7⟩ := hto
    have kall : ∀ b q, zA N M b q ∨ zI N M b q ∨ zK h M b q → xv_i w' b q = xv_i u b q := by
      intro b q hb
      have e0 : xv_i w' b q = xv_i w2 b q := by
        by_cases hx : xUS M b
        · by_cases c : b = M + 7 ∨ b = M + 8 ∨ b = M + 9 ∨ b = M + 13
          · obtain ⟨c', hc', rfl⟩ : ∃ c', (c' = 7 ∨ c' = 8 ∨ c' = 9 ∨ c' = 13) ∧ b = M + c' := ⟨b - M, by omega, by omega⟩
            refine t3 c' hc' q ?_
            rcases hb with hb | hb | hb
            · unfold zA at hb; omega
            · have := nI' hb; omega
            · unfold zK at hb; omega
          · by_cases c2 : b = M + 10 ∨ b = M + 11
            · have hq : ¬ q = f := by
                rcases hb with hb | hb | hb
                · unfold zA at hb; omega
                · have := nI' hb; omega
                · unfold zK at hb; omega
              rcases c2 with rfl | rfl
              · exact (t5 q hq).1
              · exact (t5 q hq).2
            · have hM : b = M := by
                have := yUSn hx
                unfold xUS xTS xBS xPS at hx
                rcases hb with hb | hb | hb
                · unfold zA at hb; omega
                · have := nI' hb; omega
                · unfold zK at hb; omega
              subst hM
              refine t2 q ?_
              rcases hb with hb | hb | hb
              · unfold zA at hb; omega
              · have := nI' hb; omega
              · unfold zK at hb; omega
        · exact congrFun (t1.2.2.2.2.2.2 b hx) q
      have n1 : ¬ xDS M b := by
        unfold xDS xRS
        rcases hb with hb | hb | hb
        · unfold zA at hb; omega
        · have := nI' hb; omega
        · unfold zK at hb; omega
      have n2 : ¬ xDfS N (N + 8) f b := by
        unfold xDfS
        rcases hb with hb | hb | hb
        · unfold zA at hb; omega
        · have := nI' hb; omega
        · unfold zK at hb; omega
      rw [e0, c1.2.2.2.2.2.2 b n1, z.2.2.2.2.2.2 b n2]
    have zz : zS (fun b => b < M + 31) u w' := zS_tr (zS_si z) (zS_tr (zS_si c1) (zS_si t1))
    refine ⟨E, yCl_si zz (by rw [t1.1, c1.1, z.1]; exact hl.2.2) a1, ⟨0, O, A, ⟨?_, by omega, fun i hi => by omega⟩, ⟨?_, by omega, fun i hi => by omega⟩, fun p hp => by omega⟩, hF, yA_fr a1.2.2.2.2.1 (fun b q hb => kall b q (Or.inl hb)) a4, yI_fr (fun b q hb => kall b q (Or.inr (Or.inl hb))) a5, yK_fr (fun b q hb => kall b q (Or.inr (Or.inr hb))) a6⟩
    · rw [t1.2.2.2.2.2.2 _ (fun e => by have := yUSn e; omega), c1.2.2.2.2.2.2 _ (fun e => by unfold xDS xRS at e; omega), w0]; rfl
    · rw [t1.2.2.2.2.2.2 _ (fun e => by have := yUSn e; omega), c5]; rfl

