/-! a form's units do what the form says -/
def yCR (T : Nat → xZ → xRs → Prop) (b e : Nat) (E : xV → xEr) : Prop := ∀ (V S : Nat → Int32) (n : Nat) (r : xRs), xK (E V) (fun v W => ∀ τ, yQ τ W (upd S n v) (n + 1) → T e τ r) (fun x => r = .inr x) → ∀ σ, yQ σ V S n → T b σ r
theorem yCR_e {T : Nat → xZ → xRs → Prop} {b e e' : Nat} {E E' : xV → xEr} (h : yCR T b e E) (h1 : e' = e) (h2 : E' = E) : yCR T b e' E' := by subst h1 h2; exact h
theorem yCR_0 {ans : Nat → Int32 → Int32 → Int32 → xRs} {L : Nat → Nat} {f : Nat} {U : yU} {b : Nat} {E : Nat → xV → xEr} {s z : Nat → Nat} {a : Int32} (hb : b < 900) (u : yAt U b 0 a) : yCR (yT (yStp ans L f U) U.1) b (b + 1) (fun V => .inl (a, V)) := by
  intro V S n r hk σ h
  exact zU_0 u hb h (fun τ hτ => hk τ hτ)
theorem yCR_1 {ans : Nat → Int32 → Int32 → Int32 → xRs} {L : Nat → Nat} {f : Nat} {U : yU} {b : Nat} {E : Nat → xV → xEr} {s z : Nat → Nat} {v : Nat} (hv : v < 7) (hb : b < 900) (u : yAt U b 1 (nI v)) : yCR (yT (yStp ans L f U) U.1) b (b + 1) (fun V => .inl (V (nI v).toNatClampNeg, V)) := by
  intro V S n r hk σ h
  rw [nI_clamp (by omega)] at hk
  exact zU_1 u hv hb h (fun τ hτ => hk τ hτ)
theorem yCR_12 {ans : Nat → Int32 → Int32 → Int32 → xRs} {L : Nat → Nat} {f : Nat} {U : yU} {b : Nat} {E : Nat → xV → xEr} {s z : Nat → Nat} (p0 : yCR (yT (yStp ans L f U) U.1) b (b + z 0) (E (s 0))) (hb : b + z 0 < 900) (u : U.1 (b + z 0) = 12) : yCR (yT (yStp ans L f U) U.1) b (b + z 0 + 1) (fun V => xBd (E (s 0) V) (fun x W => .inl (-x, W))) := by
  intro V S n r hk σ h
  refine p0 V S n r (xK_mono (xK_bd hk) (fun v W c τ hτ => ?_)) σ h
  exact zU_12 u hb hτ c
theorem yCR_13 {ans : Nat → Int32 → Int32 → Int32 → xRs} {L : Nat → Nat} {f : Nat} {U : yU} {b : Nat} {E : Nat → xV → xEr} {s z : Nat → Nat} {t : Int32} (p0 : yCR (yT (yStp ans L f U) U.1) b (b + z 0) (E (s 0))) (p1 : yCR (yT (yStp ans L f U) U.1) (b + z 0 + 1) (b + z 0 + 1 + z 1) (E (s 1))) (p2 : yCR (yT (yStp ans L f U) U.1) (b + z 0 + 1 + z 1 + 1) (b + z 0 + 1 + z 1 + 1 + z 2) (E (s 2))) (hb : b + z 0 + z 1 + z 2 + 2 < 900) (u : yAt U (b + z 0) 14 t) (v : U.2.2.1 (b + z 0) = nI (b + z 0 + 1 + z 1 + 1)) (w : yAt U (b + z 0 + 1 + z 1) 15 (nI (b + z 0 + 1 + z 1 + 1 + z 2))) : yCR (yT (yStp ans L f U) U.1) b (b + z 0 + 1 + z 1 + 1 + z 2) (fun V => xBd (E (s 0) V) (fun x W => E (s (if xSo t x = true then 1 else 2)) W)) := by
  intro V S n r hk σ h
  refine p0 V S n r (xK_mono (xK_bd hk) (fun x W c τ hτ => ?_)) σ h
  refine zU_14 u v (by omega) (by omega) hτ (fun τ hτ => ?_)
  by_cases q : xSo t x = true
  · rw [if_pos q] at c ⊢
    refine p1 W S n r (xK_mono c (fun y W' c' τ hτ => ?_)) τ hτ
    exact zU_15 w (by omega) hτ c'
  · rw [if_neg q] at c ⊢
    exact p2 W S n r c τ hτ
theorem yCR_14 {ans : Nat → Int32 → Int32 → Int32 → xRs} {L : Nat → Nat} {f : Nat} {U : yU} {b : Nat} {E : Nat → xV → xEr} {s z : Nat → Nat} {v : Nat} (hv : v < 7) (p0 : yCR (yT (yStp ans L f U) U.1) b (b + z 0) (E (s 0))) (p1 : yCR (yT (yStp ans L f U) U.1) (b + z 0 + 1) (b + z 0 + 1 + z 1) (E (s 1))) (hb : b + z 0 < 900) (u : yAt U (b + z 0) 13 (nI v)) : yCR (yT (yStp ans L f U) U.1) b (b + z 0 + 1 + z 1) (fun V => xBd (E (s 0) V) (fun x W => E (s 1) (upd W (nI v).toNatClampNeg x))) := by
  intro V S n r hk σ h
  rw [nI_clamp (by omega)] at hk
  refine p0 V S n r (xK_mono (xK_bd hk) (fun x W c τ hτ => ?_)) σ h
  exact zU_13 u hv hb hτ (fun τ hτ => p1 _ S n r c τ hτ)
theorem yCR_15 {ans : Nat → Int32 → Int32 → Int32 → xRs} {L : Nat → Nat} {f : Nat} {U : yU} {b : Nat} {E : Nat → xV → xEr} {s z : Nat → Nat} {v : Nat} (hv : v < 7) (p0 : yCR (yT (yStp ans L f U) U.1) b (b + z 0) (E (s 0))) (hb : b + z 0 + 1 < 900) (u : U.1 (b + z 0) = 19) (w : yAt U (b + z 0 + 1) 13 (nI v)) : yCR (yT (yStp ans L f U) U.1) b (b + z 0 + 2) (fun V => xBd (E (s 0) V) (fun x W => .inl (x, upd W (nI v).toNatClampNeg x))) := by
  intro V S n r hk σ h
  rw [nI_clamp (by omega)] at hk
  refine p0 V S n r (xK_mono (xK_bd hk) (fun x W c τ hτ => ?_)) σ h
  refine zU_19 u (by omega) hτ (fun τ hτ => ?_)
  exact zU_13 w hv (by omega) hτ (fun τ hτ => c τ hτ)
theorem yCR_17 {ans : Nat → Int32 → Int32 → Int32 → xRs} {L : Nat → Nat} {f : Nat} {U : yU} {b : Nat} {E : Nat → xV → xEr} {s z : Nat → Nat} {a : Nat} (ha : a < 8) (hf : a < f) (hL : ∀ x y z, L a = 0 → ans a x y z = .inr 14) (p0 : yCR (yT (yStp ans L f U) U.1) b (b + z 0) (E (s 0))) (p1 : yCR (yT (yStp ans L f U) U.1) (b + z 0) (b + z 0 + z 1) (E (s 1))) (p2 : yCR (yT (yStp ans L f U) U.1) (b + z 0 + z 1) (b + z 0 + z 1 + z 2) (E (s 2))) (hb : b + z 0 + z 1 + z 2 < 900) (u : yAt U (b + z 0 + z 1 + z 2) 16 (nI a)) : yCR (yT (yStp ans L f U) U.1) b (b + z 0 + z 1 + z 2 + 1) (fun V => xBd (E (s 0) V) (fun x W => xBd (E (s 1) W) (fun y W => xBd (E (s 2) W) (fun z W => xCa (ans (nI a).toNatClampNeg x y z) W)))) := by
  intro V S n r hk σ h
  rw [nI_clamp (by omega)] at hk
  refine p0 V S n r (xK_mono (xK_bd hk) (fun x W c τ hτ => ?_)) σ h
  refine p1 W (upd S n x) (n + 1) r (xK_mono (xK_bd c) (fun y W c τ hτ => ?_)) τ hτ
  refine p2 W (upd (upd S n x) (n + 1) y) (n + 2) r (xK_mono (xK_bd c) (fun z W c τ hτ => ?_)) τ hτ
  exact zU_16 u ha hf (hL x y z) hb hτ c
theorem yCR_2 {ans : Nat → Int32 → Int32 → Int32 → xRs} {L : Nat → Nat} {f : Nat} {U : yU} {b : Nat} {E : Nat → xV → xEr} {s z : Nat → Nat} {o : Nat} (ho : 2 ≤ o) (ho2 : o ≤ 11) (p0 : yCR (yT (yStp ans L f U) U.1) b (b + z 0) (E (s 0))) (p1 : yCR (yT (yStp ans L f U) U.1) (b + z 0) (b + z 0 + z 1) (E (s 1))) (hb : b + z 0 + z 1 < 900) (u : U.1 (b + z 0 + z 1) = o) : yCR (yT (yStp ans L f U) U.1) b (b + z 0 + z 1 + 1) (fun V => xBd (E (s 0) V) (fun x W => xBd (E (s 1) W) (fun y W => if (o = 5 ∨ o = 6) ∧ y = 0 then .inr 13 else .inl (xOp o x y, W)))) := by
  intro V S n r hk σ h
  refine p0 V S n r (xK_mono (xK_bd hk) (fun x W c τ hτ => ?_)) σ h
  refine p1 W (upd S n x) (n + 1) r (xK_mono (xK_bd c) (fun y W c τ hτ => ?_)) τ hτ
  exact zU_2 u ho ho2 hb hτ c
theorem yAnd7 (x : Int32) : ∃ c, c < 8 ∧ x &&& 7 = nI c := by
  have h : ∃ c : Nat, c < 8 ∧ (x &&& 7) = nI c := by
    refine ⟨(x.toBitVec.toNat &&& 7), ?_, ?_⟩
    · have := @Nat.and_le_right x.toBitVec.toNat 7
      omega
    · apply Int32.toBitVec_inj.mp
      apply BitVec.eq_of_toNat_eq
      rw [Int32.toBitVec_and, BitVec.toNat_and]
      show _ = (BitVec.ofNat 32 _).toNat
      rw [BitVec.toNat_ofNat]
      have := @Nat.and_le_right x.toBitVec.toNat 7
      rw [Nat.mod_eq_of_lt (by omega)]
      rfl
  exact h
theorem yCR_16 {ans : Nat → Int32 → Int32 → Int32 → xRs} {L : Nat → Nat} {f : Nat} {U : yU} {b : Nat} {E : Nat → xV → xEr} {s z : Nat → Nat} {v : Nat} (hv : v < 7) (hc : ∀ V, xK (E (s 1) V) (fun _ W => W v = V v) (fun _ => True)) (p0 : yCR (yT (yStp ans L f U) U.1) b (b + z 0) (E (s 0))) (p1 : yCR (yT (yStp ans L f U) U.1) (b + z 0 + 5) (b + z 0 + 5 + z 1) (E (s 1))) (hb : b + z 0 + 5 + z 1 + 7 < 900) (u : yL16 U (nI v) (fun _ => True) (fun _ => True) b (z 0) (z 1)) : yCR (yT (yStp ans L f U) U.1) b (b + z 0 + 5 + z 1 + 7) (fun V => xBd (E (s 0) V) (fun x W => xLpv (E (s 1)) (nI v).toNatClampNeg 8 (upd W (nI v).toNatClampNeg (x &&& 7)))) := by
  obtain ⟨-, u0, u1, u2, u3, ⟨u4, u4'⟩, -, v0, v1, v2, v3, v4, v5, v6⟩ := u
  intro V S n r hk σ h
  rw [nI_clamp (by omega)] at hk
  refine p0 V S n r (xK_mono (xK_bd hk) (fun x W c τ hτ => ?_)) σ h
  have loop : ∀ i (W : xV) (c : Nat), W v = nI c → c < i → c < 8 → xK (xLpv (E (s 1)) v i W) (fun v' W => ∀ τ, yQ τ W (upd S n v') (n + 1) → (yT (yStp ans L f U) U.1) (b + z 0 + 5 + z 1 + 7) τ r) (fun x => r = .inr x) → ∀ τ, yQ τ W S n → (yT (yStp ans L f U) U.1) (b + z 0 + 3) τ r := by
    intro i
    induction i with
    | zero => intro W c _ h; omega
    | succ i ih =>
      intro W c hW hci hc8 hk τ hτ
      refine zU_1 u3 hv (by omega) hτ (fun τ hτ => ?_)
      refine zU_14 u4 u4' (by omega) (by omega) hτ (fun τ hτ => ?_)
      have hso : xSo 1 (W v) = !decide (W v = 0) := rfl
      rw [hso]
      unfold xLpv at hk
      by_cases q : W v = 0
      · rw [if_pos q] at hk
        rw [if_neg (by rw [decide_eq_true q]; decide)]
        exact zU_0 v6 (by omega) hτ hk
      · rw [if_neg q] at hk
        rw [if_pos (by rw [decide_eq_false q]; rfl)]
        have hk2 := xK_and (xK_bd hk) (hc W)
        refine p1 W S n r (xK_mono hk2 (fun y W2 c2 τ hτ => ?_)) τ hτ
        obtain ⟨c2, c3⟩ := c2
        refine zU_18 v0.1 (by omega) hτ (fun τ hτ => ?_)
        refine zU_1 v1 hv (by omega) hτ (fun τ hτ => ?_)
        refine zU_0 v2 (by omega) hτ (fun τ hτ => ?_)
        refine zU_2 v3.1 (by omega) (by omega) (by omega) hτ ?_
        rw [if_neg (by omega)]
        intro τ hτ
        refine zU_13 v4 hv (by omega) hτ (fun τ hτ => ?_)
        refine zU_15 v5 (by omega) hτ (fun τ hτ => ?_)
        have hc0 : ¬ c = 0 := fun e => q (by rw [hW, e]; rfl)
        refine ih (upd W2 v (W2 v - 1)) (c - 1) ?_ (by omega) (by omega) c2 τ hτ
        rw [pk_us, c3, hW, show c = (c - 1) + 1 by omega]
        exact nI_pred _
  refine zU_0 u0 (by omega) hτ (fun τ hτ => ?_)
  refine zU_2 u1.1 (by omega) (by omega) (by omega) hτ ?_
  rw [if_neg (by omega)]
  intro τ hτ
  refine zU_13 u2 hv (by omega) hτ (fun τ hτ => ?_)
  obtain ⟨d, hd, ed⟩ := yAnd7 x
  exact loop 8 _ d (by rw [pk_us]; exact ed) hd hd c τ hτ

