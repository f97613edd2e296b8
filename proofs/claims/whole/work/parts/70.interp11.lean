/-! a step of Interpreter.answer's loop -/
/-- how the interpreter of f stands -/
def xIS (u : xv_M) (B f : Nat) (w : xv_M) (σ : xZ) (π : xY) : Prop := xSi (xIF B f) u w ∧ xFs w (B + 10 * f + 4) σ ∧ xOs w (B + 10 * f + 7) π
theorem c_ia_head {sc : Nat × (Nat → Int32)} {u w : xv_M} {h ma fa oa B f m i d D : Nat} {L nP : Nat → Nat} {O : Nat → Nat → Nat} {A : Nat → Nat → Int32} {σ : xZ} {π : xY} {x y z : Int32} (H : xII u h ma fa oa B L nP O A) (hf : f < 8) (S : xIS u B f w σ π) (hm : π.2.2 = m + 1) (hm40 : m < 40) (hi : i < 1000000) (hd : d + 1 ≤ D) {n1 s1 : Nat} {P : xv_P} (hN : xv_N u ≤ n1) (hS : xv_S u ≤ s1) (k : xv_X sc D J_Interp_answer 71 [some (.ref h), some (.int (nI f)), some (.int x), some (.int y), some (.int z), some (.int (nI i))] [] w n1 s1 P) : xv_X sc D J_Interp_answer 52 [some (.ref h), some (.int (nI f)), some (.int x), some (.int y), some (.int z), some (.int (nI i))] [] w n1 s1 P := by
  obtain ⟨zw, hs, hπ⟩ := S
  have Hw := xSi_II zw H
  obtain ⟨k0, r0, r1, r2, kc, lc, kf, lf, ko, lo, hfs⟩ := Hw.1
  obtain ⟨f1, f2, f3, f4, f5, f6⟩ := hfs f hf
  have hcf : (nI f).toNatClampNeg = f := nI_clamp (by omega)
  have hif : vp_in (nI f) 8 := vp_in_nI hf (by decide)
  refine xv_iload (pc := 52) d_Interp_answer_52 rfl ?_
  refine xv_ldc (pc := 54) 1000000 d_Interp_answer_54 k_671 ?_
  refine xv_icmp_ge (pc := 56) 82 d_Interp_answer_56 (by decide) (fun h56 => ?_) (fun h56 => ?_)
  · rw [← nI_M] at h56
    exact absurd h56 (nI_ge hi (by decide))
  refine xv_aload_n (pc := 59) d_Interp_answer_59 rfl rfl ?_
  refine xv_getR (pc := 60) d_Interp_answer_60 f_Interp_25 rfl k0 r2 ?_
  refine xv_iload_n (pc := 63) d_Interp_answer_63 rfl rfl ?_
  refine xv_aald (pc := 64) (t := 2) d_Interp_answer_64 ko rfl (by rw [lo]; exact hif) (by rw [hcf]; exact f3) ?_
  refine xv_cV0i (pc := 65) (d1 := 0) (c_Opens_isEmpty (n := m + 1) f6 (by rw [hπ.2.2, hm]) (by omega)) m_Opens_isEmpty l_Interp_61 d_Interp_answer_65 (by omega) (by decide : 2 < xv_nc) rfl f6.1 (Nat.le_of_ble_eq_true rfl) ⟨by rw [zw.1]; exact hN, by rw [zw.2.1]; exact hS⟩ (fun r w2 hw hN2 hS2 => ?_)
  obtain ⟨hr, hw⟩ := hw
  subst hw
  rw [decide_eq_false (by omega)] at hr
  subst hr
  refine xv_if_ne (pc := 68) 82 d_Interp_answer_68 (by decide) (fun h68 => ?_) (fun h68 => ?_)
  · exact absurd rfl h68
  exact k
theorem c_ia_step {sc : Nat × (Nat → Int32)} {u w : xv_M} {h ma fa oa B f m i d D : Nat} {L nP : Nat → Nat} {O : Nat → Nat → Nat} {A : Nat → Nat → Int32} {σ : xZ} {π : xY} {x y z : Int32} (H : xII u h ma fa oa B L nP O A) (hf : f < 8) (S : xIS u B f w σ π) (hm : π.2.2 = m + 1) (hm40 : m < 40) (hi : i < 1000000) (hd : d + 1 ≤ D) {ii n1 s1 : Nat} {P : xv_P} (hN : xv_N u ≤ n1) (hS : xv_S u ≤ s1) {Q : xv_M → Prop} (hadv : xv_C sc d J_Interp_advance [.ref h, .int (nI f)] w (xv_N w) (xv_S w) (xv_pv Q)) (cont : ∀ w', Q w' → ∀ i, i = ii + 1 → xv_X sc D J_Interp_answer 52 [some (.ref h), some (.int (nI f)), some (.int x), some (.int y), some (.int z), some (.int (nI i))] [] w' n1 s1 P) (hii : i = ii) : xv_X sc D J_Interp_answer 52 [some (.ref h), some (.int (nI f)), some (.int x), some (.int y), some (.int z), some (.int (nI i))] [] w n1 s1 P := by
  subst hii
  refine c_ia_head H hf S hm hm40 hi hd hN hS ?_
  have es : nI i + Int32.ofInt 1 = nI (i + 1) := by rw [nI_succ]; rfl
  have Hw := xSi_II S.1 H
  refine xv_aload_n (pc := 71) d_Interp_answer_71 rfl rfl ?_
  refine xv_iload_n (pc := 72) d_Interp_answer_72 rfl rfl ?_
  refine xv_cV1v (pc := 73) hadv m_Interp_advance l_Interp_65 d_Interp_answer_73 (by omega) (by decide : 3 < xv_nc) rfl Hw.1.1 (Nat.le_of_ble_eq_true rfl) ⟨by rw [S.1.1]; exact hN, by rw [S.1.2.1]; exact hS⟩ (fun w2 hw hN2 hS2 => ?_)
  refine xv_iinc_5 (pc := 76) (nI (i + 1)) d_Interp_answer_76 es (by decide) rfl ?_
  refine xv_goto (pc := 79) 52 d_Interp_answer_79 (by decide) ?_
  exact cont w2 hw (i + 1) rfl
theorem c_ia_stepx {sc : Nat × (Nat → Int32)} {u w : xv_M} {h ma fa oa B f m i d D : Nat} {L nP : Nat → Nat} {O : Nat → Nat → Nat} {A : Nat → Nat → Int32} {σ : xZ} {π : xY} {x y z : Int32} (H : xII u h ma fa oa B L nP O A) (hf : f < 8) (S : xIS u B f w σ π) (hm : π.2.2 = m + 1) (hm40 : m < 40) (hi : i < 1000000) (hd : d + 1 ≤ D) {e : Nat} (hadv : xv_C sc d J_Interp_advance [.ref h, .int (nI f)] w (xv_N w + 1) (xv_S w + 6) (xv_px e (fun a w2 => ∃ w0, xSi (xIF B f) w w0 ∧ a = xv_N w ∧ w2 = xv_nw w0 (e + 1) 0 6))) : xv_X sc D J_Interp_answer 52 [some (.ref h), some (.int (nI f)), some (.int x), some (.int y), some (.int z), some (.int (nI i))] [] w (xv_N u + 1) (xv_S u + 6) (xv_q (xv_N u + 1) (xv_S u + 6) (xv_px e (fun a w => ∃ w0, xSi (xIF B f) u w0 ∧ a = xv_N u ∧ w = xv_nw w0 (e + 1) 0 6))) := by
  refine c_ia_head H hf S hm hm40 hi hd (by omega) (by omega) ?_
  have Hw := xSi_II S.1 H
  have zw := S.1
  rw [← zw.1, ← zw.2.1]
  refine xv_aload_n (pc := 71) d_Interp_answer_71 rfl rfl ?_
  refine xv_iload_n (pc := 72) d_Interp_answer_72 rfl rfl ?_
  exact xv_tV1 (pc := 73) hadv m_Interp_advance l_Interp_65 d_Interp_answer_73 (by omega) (by decide : 3 < xv_nc) rfl Hw.1.1 (Nat.le_of_ble_eq_true rfl) ⟨Nat.le_refl _, Nat.le_refl _⟩ (fun e w ⟨w0, z1, z2⟩ g2 g3 => ⟨⟨_, rfl, w0, xSi_tr zw z1, z2⟩, g2, g3⟩)

