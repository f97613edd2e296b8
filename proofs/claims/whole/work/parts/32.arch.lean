/-! memories that agree but for some cells -/
def xSame (S : Nat → Prop) (u w : xv_M) : Prop := xv_N w = xv_N u ∧ xv_S w = xv_S u ∧ (∀ a, xv_k w a = xv_k u a) ∧ (∀ a, xv_l w a = xv_l u a) ∧ (∀ a j, xv_g w a j = xv_g u a j) ∧ ∀ a, ¬ S a → (∀ j, xv_i w a j = xv_i u a j) ∧ ∀ j, xv_r w a j = xv_r u a j
theorem xSame_rf {S : Nat → Prop} {u : xv_M} : xSame S u u := ⟨rfl, rfl, fun _ => rfl, fun _ => rfl, fun _ _ => rfl, fun _ _ => ⟨fun _ => rfl, fun _ => rfl⟩⟩
theorem xSame_tr {S : Nat → Prop} {u v w : xv_M} (h : xSame S u v) (g : xSame S v w) : xSame S u w := by
  obtain ⟨a1, a2, a3, a4, a5, a6⟩ := h
  obtain ⟨b1, b2, b3, b4, b5, b6⟩ := g
  exact ⟨b1.trans a1, b2.trans a2, fun a => (b3 a).trans (a3 a), fun a => (b4 a).trans (a4 a), fun a j => (b5 a j).trans (a5 a j), fun a ha => ⟨fun j => ((b6 a ha).1 j).trans ((a6 a ha).1 j), fun j => ((b6 a ha).2 j).trans ((a6 a ha).2 j)⟩⟩
theorem xSame_mono {S S' : Nat → Prop} {u w : xv_M} (h : xSame S u w) (hS : ∀ a, S a → S' a) : xSame S' u w := by
  obtain ⟨a1, a2, a3, a4, a5, a6⟩ := h
  exact ⟨a1, a2, a3, a4, a5, fun a ha => a6 a (fun z => ha (hS a z))⟩
theorem xSame_si {S : Nat → Prop} {u : xv_M} {a j : Nat} {v : Int32} (ha : S a) : xSame S u (xv_si u a j v) := ⟨rfl, rfl, fun _ => rfl, fun _ => rfl, fun _ _ => rfl, fun b hb => ⟨fun q => xv_si_ne (fun e => hb (by rw [e]; exact ha)), fun _ => rfl⟩⟩
theorem xSame_sw {S : Nat → Prop} {u : xv_M} {a : Nat} {f : Nat → Int32} (ha : S a) : xSame S u (xv_sw u a f) := ⟨rfl, rfl, fun _ => rfl, fun _ => rfl, fun _ _ => rfl, fun b hb => ⟨fun q => xv_sw_ne (fun e => hb (by rw [e]; exact ha)), fun _ => rfl⟩⟩
theorem xSame_sr {S : Nat → Prop} {u : xv_M} {a j : Nat} {v : Option Nat} (ha : S a) : xSame S u (xv_sr u a j v) := ⟨rfl, rfl, fun _ => rfl, fun _ => rfl, fun _ _ => rfl, fun b hb => ⟨fun _ => rfl, fun q => if_neg (fun z => hb (by rw [z.1]; exact ha))⟩⟩
theorem xSame_CM {S : Nat → Prop} {u : xv_M} {h a b : Nat} {σ : xCS} (hh : S h) (ha : S a) (hb : S b) : xSame S u (xCM u h a b σ) := xSame_tr (xSame_tr (xSame_sw ha) (xSame_sw hb)) (xSame_si hh)
theorem xSame_i {S : Nat → Prop} {u w : xv_M} (h : xSame S u w) {a : Nat} (ha : ¬ S a) (j : Nat) : xv_i w a j = xv_i u a j := (h.2.2.2.2.2 a ha).1 j
theorem xSame_r {S : Nat → Prop} {u w : xv_M} (h : xSame S u w) {a : Nat} (ha : ¬ S a) (j : Nat) : xv_r w a j = xv_r u a j := (h.2.2.2.2.2 a ha).2 j
theorem xSame_k {S : Nat → Prop} {u w : xv_M} (h : xSame S u w) (a : Nat) : xv_k w a = xv_k u a := h.2.2.1 a
theorem xSame_l {S : Nat → Prop} {u w : xv_M} (h : xSame S u w) (a : Nat) : xv_l w a = xv_l u a := h.2.2.2.1 a
theorem xSame_Co {S : Nat → Prop} {u w : xv_M} {c o f g : Nat} (h : xSame S u w) (hc : ¬ S c) (hC : xv_Co u c o f g) : xv_Co w c o f g := by
  obtain ⟨a1, a2, a3, a4, a5, a6, a7, a8, a9, a10⟩ := hC
  exact ⟨by rw [xSame_k h]; exact a1, by rw [xSame_r h hc]; exact a2, by rw [xSame_r h hc]; exact a3, by rw [xSame_r h hc]; exact a4, by rw [xSame_k h]; exact a5, by rw [xSame_l h]; exact a6, by rw [xSame_k h]; exact a7, by rw [xSame_l h]; exact a8, by rw [xSame_k h]; exact a9, by rw [xSame_l h]; exact a10⟩
/-! Archive -/
def xv_Ar (u : xv_M) (h ea cc : Nat) : Prop := xv_k u h = 9 ∧ xv_r u h 0 = some ea ∧ xv_r u h 5 = some cc ∧ xv_k u ea = 106 ∧ xv_l u ea = 8
def xv_Es (u : xv_M) (ea : Nat) (E : Nat → Nat) : Prop := ∀ e, e < 8 → xv_r u ea e = some (E e) ∧ xv_En u (E e) (E e + 1) (E e + 2) (E e + 3) (E e + 4) (E e + 5) (E e + 6)
theorem c_Arch_has {sc : Nat × (Nat → Int32)} {u : xv_M} {h ea cc : Nat} {x : Int32} (hA : xv_Ar u h ea cc) : xv_C sc 0 J_Arch_has [.ref h, .int x] u (xv_N u) (xv_S u) (xv_pi (fun r w => r = xB (decide (0 ≤ x ∧ x < xv_i u h 1)) ∧ w = u)) := by
  refine xv_C_of (by decide) (Nat.le_refl _) (Nat.le_refl _) (xv_cat1 rfl) (Nat.le_of_ble_eq_true rfl) ?_
  show xv_X sc 0 J_Arch_has 0 [some (.ref h), some (.int x)] [] u (xv_N u) (xv_S u) _
  refine xv_iload_n (pc := 0) d_Arch_has_0 rfl rfl ?_
  refine xv_if_lt (pc := 1) 16 d_Arch_has_1 (by decide) (fun h1 => ?_) (fun h1 => ?_)
  · refine xv_iconst (pc := 16) 0 d_Arch_has_16 (by decide) ?_
    exact xv_retzq (pc := 17) d_Arch_has_17 rfl (by decide) rfl rfl ⟨_, rfl, by rw [decide_eq_false (fun q => absurd h1 (Int32.not_lt.mpr q.1))]; rfl, rfl⟩
  · refine xv_iload_n (pc := 4) d_Arch_has_4 rfl rfl ?_
    refine xv_aload_n (pc := 5) d_Arch_has_5 rfl rfl ?_
    refine xv_getI (pc := 6) d_Arch_has_6 f_Arch_25 rfl hA.1 ?_
    refine xv_icmp_ge (pc := 9) 16 d_Arch_has_9 (by decide) (fun h9 => ?_) (fun h9 => ?_)
    · refine xv_iconst (pc := 16) 0 d_Arch_has_16 (by decide) ?_
      exact xv_retzq (pc := 17) d_Arch_has_17 rfl (by decide) rfl rfl ⟨_, rfl, by rw [decide_eq_false (fun q => absurd q.2 (Int32.not_lt.mpr h9))]; rfl, rfl⟩
    · refine xv_iconst (pc := 12) 1 d_Arch_has_12 (by decide) ?_
      refine xv_goto (pc := 13) 17 d_Arch_has_13 (by decide) ?_
      exact xv_retzq (pc := 17) d_Arch_has_17 rfl (by decide) rfl rfl ⟨_, rfl, by rw [decide_eq_true ⟨Int32.not_lt.mp h1, Int32.not_le.mp h9⟩]; rfl, rfl⟩
/-- the first place at which f holds x, from k on, r places; else behind them -/
def xFi (f : Nat → Int32) (x : Int32) : Nat → Nat → Nat
  | 0, k => k
  | r + 1, k => if f k = x then k else xFi f x r (k + 1)
theorem xFi_le (f : Nat → Int32) (x : Int32) : ∀ r k, xFi f x r k ≤ k + r := by
  intro r
  induction r with
  | zero => intro k; exact Nat.le_refl _
  | succ r ih =>
    intro k
    unfold xFi
    split
    · omega
    · have := ih (k + 1); omega
theorem c_Arch_placeFor {sc : Nat × (Nat → Int32)} {u : xv_M} {h ea cc n : Nat} {E : Nat → Nat} {x : Int32} (hA : xv_Ar u h ea cc) (hE : xv_Es u ea E) (hn : xv_i u h 1 = nI n) (hlt : n ≤ 8) : xv_C sc 0 J_Arch_placeFor [.ref h, .int x] u (xv_N u) (xv_S u) (xv_pi (fun r w => r = nI (xFi (fun e => xv_i u (E e) 2) x n 0) ∧ w = u)) := by
  obtain ⟨k0, r0, r5, ke, le⟩ := hA
  refine xv_C_of (by decide) (Nat.le_refl _) (Nat.le_refl _) (xv_cat1 rfl) (Nat.le_of_ble_eq_true rfl) ?_
  show xv_X sc 0 J_Arch_placeFor 0 [some (.ref h), some (.int x), none] [] u (xv_N u) (xv_S u) _
  refine xv_iconst (pc := 0) 0 d_Arch_placeFor_0 (by decide) ?_
  refine xv_istore_2 (pc := 1) d_Arch_placeFor_1 (by decide) rfl ?_
  have loop : ∀ (r k : Nat), k + r = n → xFi (fun e => xv_i u (E e) 2) x r k = xFi (fun e => xv_i u (E e) 2) x n 0 → xv_X sc 0 J_Arch_placeFor 2 [some (.ref h), some (.int x), some (.int (nI k))] [] u (xv_N u) (xv_S u) (xv_q (xv_N u) (xv_S u) (xv_pi (fun r w => r = nI (xFi (fun e => xv_i u (E e) 2) x n 0) ∧ w = u))) := by
    intro r
    induction r with
    | zero =>
      intro k hk hx
      have hk : k = n := by omega
      subst hk
      refine xv_iload_n (pc := 2) d_Arch_placeFor_2 rfl rfl ?_
      refine xv_aload_n (pc := 3) d_Arch_placeFor_3 rfl rfl ?_
      refine xv_getI (pc := 4) d_Arch_placeFor_4 f_Arch_25 rfl k0 ?_
      refine xv_icmp_ge (pc := 7) 31 d_Arch_placeFor_7 (by decide) (fun h7 => ?_) (fun h7 => ?_)
      · refine xv_aload_n (pc := 31) d_Arch_placeFor_31 rfl rfl ?_
        refine xv_getI (pc := 32) d_Arch_placeFor_32 f_Arch_25 rfl k0 ?_
        exact xv_retiq (pc := 35) d_Arch_placeFor_35 rfl rfl rfl ⟨_, rfl, by rw [hn, ← hx]; rfl, rfl⟩
      · exact absurd (by rw [hn]; exact nI_le (Nat.le_refl _) (by omega)) h7
    | succ r ih =>
      intro k hk hx
      have es : nI k + Int32.ofInt 1 = nI (k + 1) := by rw [nI_succ]; rfl
      have hc : (nI k).toNatClampNeg = k := nI_clamp (by omega)
      obtain ⟨e1, e2⟩ := hE k (by omega)
      refine xv_iload_n (pc := 2) d_Arch_placeFor_2 rfl rfl ?_
      refine xv_aload_n (pc := 3) d_Arch_placeFor_3 rfl rfl ?_
      refine xv_getI (pc := 4) d_Arch_placeFor_4 f_Arch_25 rfl k0 ?_
      refine xv_icmp_ge (pc := 7) 31 d_Arch_placeFor_7 (by decide) (fun h7 => ?_) (fun h7 => ?_)
      · exact absurd (by rw [hn] at h7; exact h7) (nI_ge (by omega) (by omega))
      · skip
        refine xv_aload_n (pc := 10) d_Arch_placeFor_10 rfl rfl ?_
        refine xv_getR (pc := 11) d_Arch_placeFor_11 f_Arch_11 rfl k0 r0 ?_
        refine xv_iload_n (pc := 14) d_Arch_placeFor_14 rfl rfl ?_
        refine xv_aald (pc := 15) (t := 3) d_Arch_placeFor_15 ke rfl (by rw [le]; exact vp_in_nI (by omega) (by decide)) (by rw [hc]; exact e1) ?_
        refine xv_getI (pc := 16) d_Arch_placeFor_16 f_Arch_29 rfl e2.1 ?_
        refine xv_iload_n (pc := 19) d_Arch_placeFor_19 rfl rfl ?_
        refine xv_icmp_ne (pc := 20) 25 d_Arch_placeFor_20 (by decide) (fun h20 => ?_) (fun h20 => ?_)
        · skip
          refine xv_iinc_2 (pc := 25) (nI (k + 1)) d_Arch_placeFor_25 es (by decide) rfl ?_
          refine xv_goto (pc := 28) 2 d_Arch_placeFor_28 (by decide) ?_
          refine ih (k + 1) (by omega) ?_
          rw [← hx]
          show _ = (if _ then _ else _)
          rw [if_neg h20]
        · refine xv_iload_n (pc := 23) d_Arch_placeFor_23 rfl rfl ?_
          exact xv_retiq (pc := 24) d_Arch_placeFor_24 rfl rfl rfl ⟨_, rfl, by
            rw [← hx]
            show _ = nI (if _ then _ else _)
            rw [if_pos h20], rfl⟩
  exact loop n 0 (by omega) rfl
theorem c_Arch_keepWith {sc : Nat × (Nat → Int32)} {u : xv_M} {h ea cc : Nat} {x : Int32} (hA : xv_Ar u h ea cc) : xv_C sc 1 J_Arch_keepWith [.ref h, .int x] u (xv_N u) (xv_S u) (xv_pv (fun w => ∃ z, z = (if xv_i u h 1 < x + 1 then x + 1 else xv_i u h 1) ∧ w = xv_si (xv_si u h 1 z) h 3 z)) := by
  refine xv_C_of (by decide) (Nat.le_refl _) (Nat.le_refl _) (xv_cat1 rfl) (Nat.le_of_ble_eq_true rfl) ?_
  show xv_X sc 1 J_Arch_keepWith 0 [some (.ref h), some (.int x)] [] u (xv_N u) (xv_S u) _
  refine xv_aload_n (pc := 0) d_Arch_keepWith_0 rfl rfl ?_
  refine xv_aload_n (pc := 1) d_Arch_keepWith_1 rfl rfl ?_
  refine xv_getI (pc := 2) d_Arch_keepWith_2 f_Arch_25 rfl hA.1 ?_
  refine xv_iload_n (pc := 5) d_Arch_keepWith_5 rfl rfl ?_
  refine xv_iconst (pc := 6) 1 d_Arch_keepWith_6 (by decide) ?_
  refine xv_iadd (pc := 7) d_Arch_keepWith_7 ?_
  refine xv_max (pc := 8) d_Arch_keepWith_8 k_450 k_406 k_21 k_407 (by omega) (Nat.le_of_ble_eq_true rfl) ⟨Nat.le_refl _, Nat.le_refl _⟩ ?_
  refine xv_putI (pc := 11) d_Arch_keepWith_11 f_Arch_25 (Or.inl rfl) fin_8_1 hA.1 ?_
  refine xv_aload_n (pc := 14) d_Arch_keepWith_14 rfl rfl ?_
  refine xv_aload_n (pc := 15) d_Arch_keepWith_15 rfl rfl ?_
  refine xv_getI (pc := 16) d_Arch_keepWith_16 f_Arch_25 rfl hA.1 ?_
  refine xv_putI (pc := 19) d_Arch_keepWith_19 f_Arch_38 (Or.inl rfl) fin_8_3 hA.1 ?_
  exact xv_retvq (pc := 22) d_Arch_keepWith_22 rfl rfl rfl ⟨rfl, _, rfl, by rw [xv_si_eq]⟩
/-! what is odd in an archive -/
def xSl (u : xv_M) (E : Nat → Nat) (n : Nat → Nat) (e : Nat) : Bool := (decide (xv_i u (E e) 8 = xv_i u (E e) 2) && decide (xv_i u (E e) 9 = xv_i u (E e) 6)) && xSm (xv_i u (E e + 6)) (xv_i u (E e + 2)) (n e)
def xOd1 (sl : Nat → Bool) (num : Nat → Int32) (n : Nat) : Nat → Nat → Int32 → Int32 × Int32
  | 0, _, at_ => (0, at_)
  | r + 1, e, _ => if sl e = false then (4, nI e) else if xFi num (num e) n 0 < e then (5, nI e) else xOd1 sl num n r (e + 1) (nI e)
def xOd2 (num nam oct : Nat → Int32) : Nat → Nat → Int32 → Int32 × Int32
  | 0, _, at_ => (0, at_)
  | r + 1, e, _ => if ¬ oct e = 0 then (6, nI e) else if ¬ nam e = num e then (7, nI e) else xOd2 num nam oct r (e + 1) (nI e)
theorem xEn_si {u : xv_M} {h x c o f g t s j : Nat} {v : Int32} (hF : xv_En u x c o f g t s) : xv_En (xv_si u h j v) x c o f g t s := hF
theorem xv_si_si {u : xv_M} {h j : Nat} {v w : Int32} : xv_si (xv_si u h j v) h j w = xv_si u h j w := by
  unfold xv_si
  congr 1
  funext b q
  simp only [xv_i, xv_mk]
  by_cases e : b = h ∧ q = j
  · simp [e]
  · simp [e]
theorem xv_si_id {u : xv_M} {h j : Nat} : xv_si u h j (xv_i u h j) = u := by
  unfold xv_si
  obtain ⟨⟨a, b⟩, c, d, e, f, g⟩ := u
  show ((_, _), _) = _
  congr 1
  congr 1
  congr 1
  congr 1
  funext b q
  by_cases e : b = h ∧ q = j
  · simp [e, xv_i]
  · simp [e, xv_i]
theorem c_Arch_findOddEntry {sc : Nat × (Nat → Int32)} {u : xv_M} {h ea cc n : Nat} {E L : Nat → Nat} (hA : xv_Ar u h ea cc) (hE : xv_Es u ea E) (hn : xv_i u h 1 = nI n) (hlt : n ≤ 8) (hL : ∀ e, e < 8 → xv_i u (E e + 1) 3 = nI (L e) ∧ L e ≤ 265) : xv_C sc 1 J_Arch_findOddEntry [.ref h] u (xv_N u) (xv_S u) (xv_pi (fun r w => ∃ z, (r, z) = xOd1 (xSl u E L) (fun e => xv_i u (E e) 2) n n 0 (xv_i u h 4) ∧ w = xv_si u h 4 z)) := by
  have hA0 := hA
  obtain ⟨k0, r0, r5, ke, le⟩ := hA
  refine xv_C_of (by decide) (Nat.le_refl _) (Nat.le_refl _) (xv_cat1 rfl) (Nat.le_of_ble_eq_true rfl) ?_
  show xv_X sc 1 J_Arch_findOddEntry 0 [some (.ref h), none] [] u (xv_N u) (xv_S u) _
  refine xv_iconst (pc := 0) 0 d_Arch_findOddEntry_0 (by decide) ?_
  refine xv_istore_1 (pc := 1) d_Arch_findOddEntry_1 (by decide) rfl ?_
  have loop : ∀ (r k : Nat) (z : Int32), k + r = n → xOd1 (xSl u E L) (fun e => xv_i u (E e) 2) n r k z = xOd1 (xSl u E L) (fun e => xv_i u (E e) 2) n n 0 (xv_i u h 4) → xv_X sc 1 J_Arch_findOddEntry 2 [some (.ref h), some (.int (nI k))] [] (xv_si u h 4 z) (xv_N u) (xv_S u) (xv_q (xv_N u) (xv_S u) (xv_pi (fun r w => ∃ z, (r, z) = xOd1 (xSl u E L) (fun e => xv_i u (E e) 2) n n 0 (xv_i u h 4) ∧ w = xv_si u h 4 z))) := by
    intro r
    induction r with
    | zero =>
      intro k z hk hx
      have hk : k = n := by omega
      subst hk
      refine xv_iload_n (pc := 2) d_Arch_findOddEntry_2 rfl rfl ?_
      refine xv_aload_n (pc := 3) d_Arch_findOddEntry_3 rfl rfl ?_
      refine xv_getI (pc := 4) d_Arch_findOddEntry_4 f_Arch_25 rfl k0 ?_
      refine xv_icmp_ge (pc := 7) 54 d_Arch_findOddEntry_7 (by decide) (fun h7 => ?_) (fun h7 => ?_)
      · refine xv_iconst (pc := 54) 0 d_Arch_findOddEntry_54 (by decide) ?_
        exact xv_retiq (pc := 55) d_Arch_findOddEntry_55 rfl rfl rfl ⟨_, rfl, z, by rw [← hx]; rfl, rfl⟩
      · exact absurd (by rw [xv_si_nj (by decide), hn]; exact nI_le (Nat.le_refl _) (by omega)) h7
    | succ r ih =>
      intro k z hk hx
      have es : nI k + Int32.ofInt 1 = nI (k + 1) := by rw [nI_succ]; rfl
      have hc : (nI k).toNatClampNeg = k := nI_clamp (by omega)
      obtain ⟨e1, e2⟩ := hE k (by omega)
      obtain ⟨l1, l2⟩ := hL k (by omega)
      have hne : ∀ e, e < 8 → E e ≠ h := fun e he => xv_ne (hE e he).2.1 k0 (by decide)
      have hne1 : E k + 1 ≠ h := xv_ne e2.2.2.2.2.2.2.2.2.1 k0 (by decide)
      have hne2 : E k + 2 ≠ h := xv_ne e2.2.2.2.2.2.2.2.2.2.2.2.2.1 k0 (by decide)
      have hne6 : E k + 6 ≠ h := xv_ne e2.2.2.2.2.2.2.1 k0 (by decide)
      refine xv_iload_n (pc := 2) d_Arch_findOddEntry_2 rfl rfl ?_
      refine xv_aload_n (pc := 3) d_Arch_findOddEntry_3 rfl rfl ?_
      refine xv_getI (pc := 4) d_Arch_findOddEntry_4 f_Arch_25 rfl k0 ?_
      refine xv_icmp_ge (pc := 7) 54 d_Arch_findOddEntry_7 (by decide) (fun h7 => ?_) (fun h7 => ?_)
      · exact absurd (by rw [xv_si_nj (by decide), hn] at h7; exact h7) (nI_ge (by omega) (by omega))
      · skip
        refine xv_aload_n (pc := 10) d_Arch_findOddEntry_10 rfl rfl ?_
        refine xv_iload_n (pc := 11) d_Arch_findOddEntry_11 rfl rfl ?_
        refine xv_putI (pc := 12) d_Arch_findOddEntry_12 f_Arch_41 (Or.inl rfl) fin_8_4 k0 ?_
        refine xv_aload_n (pc := 15) d_Arch_findOddEntry_15 rfl rfl ?_
        refine xv_getR (pc := 16) d_Arch_findOddEntry_16 f_Arch_11 rfl k0 r0 ?_
        refine xv_iload_n (pc := 19) d_Arch_findOddEntry_19 rfl rfl ?_
        refine xv_aald (pc := 20) (t := 3) d_Arch_findOddEntry_20 ke rfl (by show vp_in _ (xv_l u ea); rw [le]; exact vp_in_nI (by omega) (by decide)) (by rw [hc]; exact e1) ?_
        rw [xv_si_si]
        refine xv_cV0i (pc := 21) (c_Entry_sealGoes (u := xv_si u h 4 (nI k)) (n := L k) e2 (by rw [xv_si_ne hne1]; exact l1) l2) m_Entry_sealGoes l_Arch_57 d_Arch_findOddEntry_21 (by omega) (by decide : 5 < xv_nc) rfl e2.1 (Nat.le_of_ble_eq_true rfl) ⟨Nat.le_refl _, Nat.le_refl _⟩ (fun r2 w hw hN hS => ?_)
        obtain ⟨rfl, hw⟩ := hw
        subst w
        have es2 : (fun q => xv_i (xv_si u h 4 (nI k)) (E k + 6) q) = xv_i u (E k + 6) := funext fun q => xv_si_ne hne6
        have es3 : (fun q => xv_i (xv_si u h 4 (nI k)) (E k + 2) q) = xv_i u (E k + 2) := funext fun q => xv_si_ne hne2
        have hsl : ((decide (xv_i (xv_si u h 4 (nI k)) (E k) 8 = xv_i (xv_si u h 4 (nI k)) (E k) 2) && decide (xv_i (xv_si u h 4 (nI k)) (E k) 9 = xv_i (xv_si u h 4 (nI k)) (E k) 6)) && xSm (xv_i (xv_si u h 4 (nI k)) (E k + 6)) (xv_i (xv_si u h 4 (nI k)) (E k + 2)) (L k)) = xSl u E L k := by
          have q6 : xv_i (xv_si u h 4 (nI k)) (E k + 6) = xv_i u (E k + 6) := es2
          have q2 : xv_i (xv_si u h 4 (nI k)) (E k + 2) = xv_i u (E k + 2) := es3
          rw [q6, q2]
          simp only [xv_si_ne (hne k (by omega))]
          rfl
        rw [hsl]
        refine xv_if_ne (pc := 24) 29 d_Arch_findOddEntry_24 (by decide) (fun h24 => ?_) (fun h24 => ?_)
        case refine_2 =>
          have e := xB_eq h24
          refine xv_iconst (pc := 27) 4 d_Arch_findOddEntry_27 (by decide) ?_
          exact xv_retiq (pc := 28) d_Arch_findOddEntry_28 rfl rfl rfl ⟨_, rfl, nI k, by
            rw [← hx]
            show _ = (if _ then _ else _)
            rw [if_pos e], rfl⟩
        have e := xB_ne h24
        refine xv_aload_n (pc := 29) d_Arch_findOddEntry_29 rfl rfl ?_
        refine xv_aload_n (pc := 30) d_Arch_findOddEntry_30 rfl rfl ?_
        refine xv_getR (pc := 31) d_Arch_findOddEntry_31 f_Arch_11 rfl k0 r0 ?_
        refine xv_iload_n (pc := 34) d_Arch_findOddEntry_34 rfl rfl ?_
        refine xv_aald (pc := 35) (t := 3) d_Arch_findOddEntry_35 ke rfl (by show vp_in _ (xv_l u ea); rw [le]; exact vp_in_nI (by omega) (by decide)) (by rw [hc]; exact e1) ?_
        refine xv_getI (pc := 36) d_Arch_findOddEntry_36 f_Arch_29 rfl e2.1 ?_
        rw [xv_si_ne (hne k (by omega))]
        refine xv_cV1i (pc := 39) (c_Arch_placeFor (u := xv_si u h 4 (nI k)) (E := E) hA0 (fun e he => hE e he) (by rw [xv_si_nj (by decide)]; exact hn) hlt) m_Arch_placeFor l_Arch_61 d_Arch_findOddEntry_39 (by omega) (by decide : 8 < xv_nc) rfl k0 (Nat.le_of_ble_eq_true rfl) ⟨Nat.le_refl _, Nat.le_refl _⟩ (fun r2 w hw hN hS => ?_)
        obtain ⟨rfl, hw⟩ := hw
        subst w
        have hfi : xFi (fun e => xv_i (xv_si u h 4 (nI k)) (E e) 2) (xv_i u (E k) 2) n 0 = xFi (fun e => xv_i u (E e) 2) (xv_i u (E k) 2) n 0 := by
          have : (fun e => xv_i (xv_si u h 4 (nI k)) (E e) 2) = fun e => xv_i u (E e) 2 := funext fun e => xv_si_nj (by decide)
          rw [this]
        rw [hfi]
        have hle := xFi_le (fun e => xv_i u (E e) 2) (xv_i u (E k) 2) n 0
        refine xv_iload_n (pc := 42) d_Arch_findOddEntry_42 rfl rfl ?_
        refine xv_icmp_ge (pc := 43) 48 d_Arch_findOddEntry_43 (by decide) (fun h43 => ?_) (fun h43 => ?_)
        · have e3 : ¬ xFi (fun e => xv_i u (E e) 2) (xv_i u (E k) 2) n 0 < k := by
            have := (nI_leI (by omega) (by omega)).mp h43
            omega
          refine xv_iinc_1 (pc := 48) (nI (k + 1)) d_Arch_findOddEntry_48 es (by decide) rfl ?_
          refine xv_goto (pc := 51) 2 d_Arch_findOddEntry_51 (by decide) ?_
          refine ih (k + 1) (nI k) (by omega) ?_
          rw [← hx]
          show _ = (if _ then _ else _)
          rw [if_neg (by rw [e]; decide), if_neg e3]
        · have e3 : xFi (fun e => xv_i u (E e) 2) (xv_i u (E k) 2) n 0 < k := Nat.not_le.mp (fun q => h43 (nI_le q (by omega)))
          refine xv_iconst (pc := 46) 5 d_Arch_findOddEntry_46 (by decide) ?_
          exact xv_retiq (pc := 47) d_Arch_findOddEntry_47 rfl rfl rfl ⟨_, rfl, nI k, by
            rw [← hx]
            show _ = (if _ then _ else _)
            rw [if_neg (by rw [e]; decide), if_pos e3], rfl⟩
  have hs := loop n 0 (xv_i u h 4) (by omega) rfl
  rw [xv_si_id] at hs
  exact hs

