/-! Image.size -/
def xCn (b : Nat → Bool) : Nat → Nat
  | 0 => 0
  | k + 1 => xCn b k + (if b k = true then 1 else 0)
theorem xCn_le (b : Nat → Bool) (k : Nat) : xCn b k ≤ k := by
  induction k with
  | zero => exact Nat.le_refl _
  | succ k ih => unfold xCn; split <;> omega
theorem c_Image_size {sc : Nat × (Nat → Int32)} {u : xv_M} {h ca fa B : Nat} {L : Nat → Nat} {O : Nat → Nat → Nat} {F S : Nat → Nat → Int32} (H : xMI u h ca fa B L O F S) : xv_C sc 2 J_Image_size [.ref h] u (xv_N u) (xv_S u) (xv_pi (fun r w => r = nI (xCn (fun i => decide (0 < L i)) 8) ∧ w = u)) := by
  refine xv_C_of (by decide) (Nat.le_refl _) (Nat.le_refl _) (xv_cat1 rfl) (Nat.le_of_ble_eq_true rfl) ?_
  show xv_X sc 2 J_Image_size 0 [some (.ref h), none, none] [] u (xv_N u) (xv_S u) _
  refine xv_iconst (pc := 0) 0 d_Image_size_0 (by decide) ?_
  refine xv_istore_1 (pc := 1) d_Image_size_1 (by decide) rfl ?_
  refine xv_iconst (pc := 2) 0 d_Image_size_2 (by decide) ?_
  refine xv_istore_2 (pc := 3) d_Image_size_3 (by decide) rfl ?_
  have loop : ∀ (r k : Nat), k + r = 8 → xv_X sc 2 J_Image_size 4 [some (.ref h), some (.int (nI (xCn (fun i => decide (0 < L i)) k))), some (.int (nI k))] [] u (xv_N u) (xv_S u) (xv_q (xv_N u) (xv_S u) (xv_pi (fun r w => r = nI (xCn (fun i => decide (0 < L i)) 8) ∧ w = u))) := by
    intro r
    induction r with
    | zero =>
      intro k hk
      have hk : k = 8 := by omega
      subst hk
      refine xv_iload_n (pc := 4) d_Image_size_4 rfl rfl ?_
      refine xv_bipush (pc := 5) 8 d_Image_size_5 (by decide) ?_
      refine xv_icmp_ge (pc := 7) 27 d_Image_size_7 (by decide) (fun h7 => ?_) (fun h7 => ?_)
      · refine xv_iload_n (pc := 27) d_Image_size_27 rfl rfl ?_
        exact xv_retiq (pc := 28) d_Image_size_28 rfl rfl rfl ⟨_, rfl, rfl, rfl⟩
      · exact absurd (by decide) h7
    | succ r ih =>
      intro k hk
      have es : nI k + Int32.ofInt 1 = nI (k + 1) := by rw [nI_succ]; rfl
      have hck : (nI k).toNatClampNeg = k := nI_clamp (by omega)
      obtain ⟨hL, hL2, -⟩ := H.2 k (by omega)
      have hle := xCn_le (fun i => decide (0 < L i)) k
      have es2 : nI (xCn (fun i => decide (0 < L i)) k) + Int32.ofInt 1 = nI (xCn (fun i => decide (0 < L i)) k + 1) := by rw [nI_succ]; rfl
      refine xv_iload_n (pc := 4) d_Image_size_4 rfl rfl ?_
      refine xv_bipush (pc := 5) 8 d_Image_size_5 (by decide) ?_
      refine xv_icmp_ge (pc := 7) 27 d_Image_size_7 (by decide) (fun h7 => ?_) (fun h7 => ?_)
      · exact absurd h7 (nI_ge (b := 8) (by omega) (by decide))
      refine xv_aload_n (pc := 10) d_Image_size_10 rfl rfl ?_
      refine xv_iload_n (pc := 11) d_Image_size_11 rfl rfl ?_
      refine xv_cV1i (pc := 12) (d1 := 1) (c_Image_has H.1) m_Image_has l_Image_33 d_Image_size_12 (by omega) (by decide : 9 < xv_nc) rfl H.1.1 (Nat.le_of_ble_eq_true rfl) ⟨Nat.le_refl _, Nat.le_refl _⟩ (fun r2 w hw hN hS => ?_)
      obtain ⟨hr, hw⟩ := hw
      subst hw
      rw [hck, hL] at hr
      by_cases c : 0 < L k
      · rw [decide_eq_true ⟨⟨nI_pos0 (by omega), nI_leI8 (by omega)⟩, nI_posL c (by omega)⟩] at hr
        subst hr
        have hx : xCn (fun i => decide (0 < L i)) (k + 1) = xCn (fun i => decide (0 < L i)) k + 1 := by
          show _ + (if decide (0 < L k) = true then 1 else 0) = _
          rw [decide_eq_true c]; rfl
        refine xv_if_eq (pc := 15) 21 d_Image_size_15 (by decide) (fun h15 => ?_) (fun h15 => ?_)
        · exact absurd h15 (by decide)
        refine xv_iinc_1 (pc := 18) (nI (xCn (fun i => decide (0 < L i)) k + 1)) d_Image_size_18 es2 (by decide) rfl ?_
        refine xv_iinc_2 (pc := 21) (nI (k + 1)) d_Image_size_21 es (by decide) rfl ?_
        refine xv_goto (pc := 24) 4 d_Image_size_24 (by decide) ?_
        rw [← hx]
        exact ih (k + 1) (by omega)
      · have hL0 : L k = 0 := by omega
        rw [hL0, decide_eq_false (fun q => absurd q.2 (by decide))] at hr
        subst hr
        have hx : xCn (fun i => decide (0 < L i)) (k + 1) = xCn (fun i => decide (0 < L i)) k := by
          show _ + (if decide (0 < L k) = true then 1 else 0) = _
          rw [decide_eq_false c]; rfl
        refine xv_if_eq (pc := 15) 21 d_Image_size_15 (by decide) (fun h15 => ?_) (fun h15 => ?_)
        · skip
          refine xv_iinc_2 (pc := 21) (nI (k + 1)) d_Image_size_21 es (by decide) rfl ?_
          refine xv_goto (pc := 24) 4 d_Image_size_24 (by decide) ?_
          rw [← hx]
          exact ih (k + 1) (by omega)
        · exact absurd rfl h15
  exact loop 8 0 (by omega)

