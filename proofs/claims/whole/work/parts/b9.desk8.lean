/-! FaslDesk: load -/
def xS3a (ar cc ca cb b : Nat) : Prop := b = ar ∨ b = cc ∨ b = ca ∨ b = cb
/-- the memory after the search for faults -/
def xLf (u w : xv_M) (ar cc ca cb : Nat) : Prop := xv_N w = xv_N u ∧ xv_S w = xv_S u ∧ (∀ b, xv_k w b = xv_k u b ∧ xv_l w b = xv_l u b) ∧ (∀ b, ¬ (b = cc ∨ b = ca ∨ b = cb) → ∀ q, xv_r w b q = xv_r u b q) ∧ (∀ b q, ¬ xS3a ar cc ca cb b → xv_i w b q = xv_i u b q) ∧ (∀ q, ¬ q = 4 → xv_i w ar q = xv_i u ar q) ∧ (∀ b q, xv_g w b q = xv_g u b q) ∧ xv_Ck w cc ca cb
theorem c_Desk_load {sc : Nat × (Nat → Int32)} {u : xv_M} {h dr it cp ar im : Nat} (hD : xDk u h dr it cp ar im) {ea cc ca cb qa fb B n : Nat} {E L num : Nat → Nat} {O : Nat → Nat → Nat} {F S : Nat → Nat → Int32} {U0 : (Nat → Nat → Nat) × (Nat → Nat → Int32) × (Nat → Nat → Int32)} (hA : xv_Ar u ar ea cc) (hE : xv_Es u ea E) (hn : xv_i u ar 1 = nI n) (hlt : n ≤ 8) (hL : xUs u E L O F S) (hck : xv_Ck u cc ca cb) (hap : ∀ e, e < 8 → cb < E e ∧ E e + 6 < im) (hor : h < ar ∧ ar < ea ∧ ea < cc ∧ cc < ca ∧ ca < cb ∧ cb < im) (hI : xIm u im qa fb B) (hB : im < qa ∧ qa < fb ∧ fb < B) (hnum : ∀ e, e < n → xv_i u (E e) 2 = nI (num e) ∧ num e < 8) : xv_C sc 5 J_Desk_load [.ref h] u (xv_N u) (xv_S u) (xv_pi (fun r w => (¬ (xFF (xv_i u ar 2) (xv_i u ar 3) (xv_i u ar 1) n (xSl u E L) (fun e => xv_i u (E e) 2) (fun e => xv_i u (E e) 5) (fun e => xv_i u (E e) 6) (xV3 u E L O F S)).1 = 0 ∧ r = (xFF (xv_i u ar 2) (xv_i u ar 3) (xv_i u ar 1) n (xSl u E L) (fun e => xv_i u (E e) 2) (fun e => xv_i u (E e) 5) (fun e => xv_i u (E e) 6) (xV3 u E L O F S)).1 ∧ ∃ w0, xLf u w0 ar cc ca cb ∧ w = xv_si (xv_si w0 h 6 (xv_i u h 6 + 1)) h 7 (xFF (xv_i u ar 2) (xv_i u ar 3) (xv_i u ar 1) n (xSl u E L) (fun e => xv_i u (E e) 2) (fun e => xv_i u (E e) 5) (fun e => xv_i u (E e) 6) (xV3 u E L O F S)).2) ∨ ((xFF (xv_i u ar 2) (xv_i u ar 3) (xv_i u ar 1) n (xSl u E L) (fun e => xv_i u (E e) 2) (fun e => xv_i u (E e) 5) (fun e => xv_i u (E e) 6) (xV3 u E L O F S)).1 = 0 ∧ r = 0 ∧ ∃ w0 w1, xLf u w0 ar cc ca cb ∧ xMU w1 B (xRmk num (L, O, F, S) n (fun _ => 0, U0)) ∧ xSi (xSC B) w0 w1 ∧ w = xv_si w1 h 5 (xv_i u h 5 + 1)))) := by
  obtain ⟨k0, r0, r1, r2, r3, r4⟩ := hD
  generalize hFF : (xFF (xv_i u ar 2) (xv_i u ar 3) (xv_i u ar 1) n (xSl u E L) (fun e => xv_i u (E e) 2) (fun e => xv_i u (E e) 5) (fun e => xv_i u (E e) 6) (xV3 u E L O F S)) = FF
  refine xv_C_of (by decide) (Nat.le_refl _) (Nat.le_refl _) (xv_cat1 rfl) (Nat.le_of_ble_eq_true rfl) ?_
  show xv_X sc 5 J_Desk_load 0 [some (.ref h), none] [] u (xv_N u) (xv_S u) _
  refine xv_aload_n (pc := 0) d_Desk_load_0 rfl rfl ?_
  refine xv_getR (pc := 1) d_Desk_load_1 f_Desk_33 rfl k0 r3 ?_
  refine xv_cV0i (pc := 4) (d1 := 4) (c_Arch_findFault hA hE hn hlt hL hck (fun e he d hd => ⟨by have := hap e he; omega, by have := hap e he; omega⟩) ⟨by omega, by omega, by omega⟩) m_Arch_findFault l_Desk_143 d_Desk_load_4 (by omega) (by decide : 8 < xv_nc) rfl hA.1 (Nat.le_of_ble_eq_true rfl) ⟨Nat.le_refl _, Nat.le_refl _⟩ (fun r w hw hN hS => ?_)
  obtain ⟨z, hz, hsm, hckw⟩ := hw
  rw [hFF] at hz
  obtain ⟨hz1, hz2⟩ := xPair hz
  have lf : xLf u w ar cc ca cb := by
    obtain ⟨a1, a2, a3, a4, a5, a6⟩ := hsm
    refine ⟨a1, a2, fun b => ⟨a3 b, a4 b⟩, fun b hb q => ?_, fun b q hb => ?_, fun q hq => ?_, a5, hckw⟩
    · rw [(a6 b (fun e => hb e)).2 q, xv_r_si]
    · unfold xS3a at hb
      rw [(a6 b (fun e => hb (Or.inr e))).1 q, xv_si_ne (fun e => hb (Or.inl e))]
    · rw [(a6 ar (fun e => by unfold xS3 at e; omega)).1 q, xv_si_nj hq]
  have har4 : xv_i w ar 4 = z := by rw [(hsm.2.2.2.2.2 ar (fun e => by unfold xS3 at e; omega)).1 4, xv_si_eq]
  clear hsm
  have lf0 := lf
  obtain ⟨n1, s1, kl, rr, ii, ia, gg, -⟩ := lf
  have hh5 : ∀ q, xv_i w h q = xv_i u h q := fun q => ii h q (by unfold xS3a; omega)
  refine xv_istore_1 (pc := 7) d_Desk_load_7 (by decide) rfl ?_
  refine xv_iload_n (pc := 8) d_Desk_load_8 rfl rfl ?_
  refine xv_if_eq (pc := 9) 35 d_Desk_load_9 (by decide) (fun h9 => ?_) (fun h9 => ?_)
  · -- no fault
    have hF0 : FF.1 = 0 := by rw [← hz1]; exact h9
    have Iw : xIm w im qa fb B := by
      obtain ⟨a1, a2, a3, a4, a5, a6, a7, a8⟩ := hI
      refine ⟨(kl im).1.trans a1, (rr im (by omega) 0).trans a2, (rr im (by omega) 1).trans a3, (kl _).1.trans a4, (kl _).2.trans a5, (kl _).1.trans a6, (kl _).2.trans a7, fun f hf => ?_⟩
      obtain ⟨b1, b2, b3, b4⟩ := a8 f hf
      obtain ⟨c1, c2, c3, c4, c5, c6, c7, c8, c9, c10⟩ := b3
      obtain ⟨d1, d2, d3, d4, d5, d6, d7⟩ := b4
      exact ⟨(rr _ (by omega) f).trans b1, (rr _ (by omega) f).trans b2, ⟨(kl _).1.trans c1, (rr _ (by omega) 0).trans c2, (rr _ (by omega) 1).trans c3, (rr _ (by omega) 2).trans c4, (kl _).1.trans c5, (kl _).2.trans c6, (kl _).1.trans c7, (kl _).2.trans c8, (kl _).1.trans c9, (kl _).2.trans c10⟩, ⟨(kl _).1.trans d1, (rr _ (by omega) 0).trans d2, (rr _ (by omega) 1).trans d3, (kl _).1.trans d4, (kl _).2.trans d5, (kl _).1.trans d6, (kl _).2.trans d7⟩⟩
    have Aw : xv_Ar w ar ea cc := ⟨(kl _).1.trans hA.1, (rr ar (by omega) 0).trans hA.2.1, (rr ar (by omega) 5).trans hA.2.2.1, (kl _).1.trans hA.2.2.2.1, (kl _).2.trans hA.2.2.2.2⟩
    have Ew : xv_Es w ea E := fun e he => by
      obtain ⟨p1, p2⟩ := hap e he
      obtain ⟨b1, b2⟩ := hE e he
      obtain ⟨c1, c2, c3, c4, c5, c6, c7, c8, c9, c10, c11, c12, c13, c14, c15, c16, c17, c18⟩ := b2
      exact ⟨(rr ea (by omega) e).trans b1, (kl _).1.trans c1, (rr _ (by omega) 0).trans c2, (rr _ (by omega) 1).trans c3, (rr _ (by omega) 7).trans c4, (kl _).1.trans c5, (kl _).2.trans c6, (kl _).1.trans c7, (kl _).2.trans c8, (kl _).1.trans c9, (rr _ (by omega) 0).trans c10, (rr _ (by omega) 1).trans c11, (rr _ (by omega) 2).trans c12, (kl _).1.trans c13, (kl _).2.trans c14, (kl _).1.trans c15, (kl _).2.trans c16, (kl _).1.trans c17, (kl _).2.trans c18⟩
    have Uw : xUs w E L O F S := fun e he => by
      obtain ⟨p1, p2⟩ := hap e he
      obtain ⟨b1, b2, b3⟩ := hL e he
      refine ⟨(ii _ _ (by unfold xS3a; omega)).trans b1, b2, fun i hi => ?_⟩
      obtain ⟨c1, c2, c3, c4⟩ := b3 i hi
      exact ⟨(ii _ _ (by unfold xS3a; omega)).trans c1, c2, (ii _ _ (by unfold xS3a; omega)).trans c3, (ii _ _ (by unfold xS3a; omega)).trans c4⟩
    refine xv_aload_n (pc := 35) d_Desk_load_35 rfl rfl ?_
    refine xv_getR (pc := 36) d_Desk_load_36 f_Desk_40 rfl ((kl h).1.trans k0) ((rr h (by omega) 4).trans r4) ?_
    refine xv_aload_n (pc := 39) d_Desk_load_39 rfl rfl ?_
    refine xv_getR (pc := 40) d_Desk_load_40 f_Desk_33 rfl ((kl h).1.trans k0) ((rr h (by omega) 3).trans r3) ?_
    refine xv_cV1v (pc := 43) (d1 := 2) (c_Image_remake (V := (L, O, F, S)) (U0 := U0) (num := num) Iw Aw Ew ((ia 1 (by decide)).trans hn) hlt Uw (fun e he => ⟨(ii _ _ (by have := hap e (by omega); unfold xS3a; omega)).trans (hnum e he).1, (hnum e he).2⟩) (fun e he d hd => Or.inl (by have := hap e he; omega)) (by omega)) m_Image_remake l_Desk_153 d_Desk_load_43 (by omega) (by decide : 9 < xv_nc) rfl ((kl im).1.trans hI.1) (Nat.le_of_ble_eq_true rfl) ⟨Nat.le_of_eq n1, Nat.le_of_eq s1⟩ (fun w1 hw hN2 hS2 => ?_)
    obtain ⟨m1, m2⟩ := hw
    have hh6 : xv_i w1 h 5 = xv_i u h 5 := by
      rw [m2.2.2.2.2.2.2 h (fun ⟨f, i, q1, q2, q3⟩ => by omega)]
      exact hh5 5
    refine xv_aload_n (pc := 46) d_Desk_load_46 rfl rfl ?_
    refine xv_dup_ref (pc := 47) d_Desk_load_47 ?_
    refine xv_getI (pc := 48) d_Desk_load_48 f_Desk_157 rfl ((congrFun m2.2.2.1 h).trans ((kl h).1.trans k0)) ?_
    refine xv_iconst (pc := 51) 1 d_Desk_load_51 (by decide) ?_
    refine xv_iadd (pc := 52) d_Desk_load_52 ?_
    refine xv_putI (pc := 53) d_Desk_load_53 f_Desk_157 (Or.inl rfl) fin_10_5 ((congrFun m2.2.2.1 h).trans ((kl h).1.trans k0)) ?_
    refine xv_iconst (pc := 56) 0 d_Desk_load_56 (by decide) ?_
    rw [hh6]
    exact xv_retiq (pc := 57) d_Desk_load_57 rfl (by show xv_N w1 = _; rw [m2.1]; exact n1) (by show xv_S w1 = _; rw [m2.2.1]; exact s1) ⟨_, rfl, Or.inr ⟨hF0, rfl, w, w1, lf0, m1, m2, rfl⟩⟩
  · have hF0 : ¬ FF.1 = 0 := by rw [← hz1]; exact h9
    refine xv_aload_n (pc := 12) d_Desk_load_12 rfl rfl ?_
    refine xv_dup_ref (pc := 13) d_Desk_load_13 ?_
    refine xv_getI (pc := 14) d_Desk_load_14 f_Desk_147 rfl ((kl h).1.trans k0) ?_
    refine xv_iconst (pc := 17) 1 d_Desk_load_17 (by decide) ?_
    refine xv_iadd (pc := 18) d_Desk_load_18 ?_
    refine xv_putI (pc := 19) d_Desk_load_19 f_Desk_147 (Or.inl rfl) fin_10_6 ((kl h).1.trans k0) ?_
    refine xv_aload_n (pc := 22) d_Desk_load_22 rfl rfl ?_
    refine xv_aload_n (pc := 23) d_Desk_load_23 rfl rfl ?_
    refine xv_getR (pc := 24) d_Desk_load_24 f_Desk_33 rfl ((kl h).1.trans k0) ((rr h (by omega) 3).trans r3) ?_
    refine xv_getI (pc := 27) d_Desk_load_27 f_Desk_150 rfl ((kl ar).1.trans hA.1) ?_
    refine xv_putI (pc := 30) d_Desk_load_30 f_Desk_44 (Or.inl rfl) fin_10_7 ((kl h).1.trans k0) ?_
    refine xv_iload_n (pc := 33) d_Desk_load_33 rfl rfl ?_
    rw [hh5, xv_si_ne (by omega), har4, hz2, hz1]
    exact xv_retiq (pc := 34) d_Desk_load_34 rfl n1 s1 ⟨_, rfl, Or.inl ⟨hF0, rfl, w, lf0, rfl⟩⟩

