/-! Image.remake -/
abbrev xU4 : Type := (Nat → Nat) × (Nat → Nat → Nat) × (Nat → Nat → Int32) × (Nat → Nat → Int32)
def xPt {α : Type} (f : Nat → α) (k : Nat) (x : α) : Nat → α := fun g => if g = k then x else f g
def xSt4 (U : xU4) (f : Nat) (l : Nat) (o : Nat → Nat) (a b : Nat → Int32) : xU4 := (xPt U.1 f l, xPt U.2.1 f o, xPt U.2.2.1 f a, xPt U.2.2.2 f b)
def xRmk (num : Nat → Nat) (V : xU4) : Nat → xU4 → xU4
  | 0, U => U
  | k + 1, U => xSt4 (xRmk num V k U) (num k) (V.1 k) (V.2.1 k) (V.2.2.1 k) (V.2.2.2 k)
def xSC (B b : Nat) : Prop := ∃ f i, f < 8 ∧ i ≤ 3 ∧ b = B + 7 * f + i
def xMU (w : xv_M) (B : Nat) (U : xU4) : Prop := ∀ g, g < 8 → xUn w (B + 7 * g) (U.1 g) (U.2.1 g) (U.2.2.1 g) (U.2.2.2 g)
theorem xSi_Ar {S : Nat → Prop} {u w : xv_M} {h ea cc : Nat} (z : xSi S u w) (hF : xv_Ar u h ea cc) : xv_Ar w h ea cc := by
  obtain ⟨a1, a2, a3, a4, a5, a6, a7⟩ := z
  unfold xv_Ar
  rw [a3, a4, a5]
  exact hF
theorem xSi_Es {S : Nat → Prop} {u w : xv_M} {ea : Nat} {E : Nat → Nat} (z : xSi S u w) (hF : xv_Es u ea E) : xv_Es w ea E := by
  obtain ⟨a1, a2, a3, a4, a5, a6, a7⟩ := z
  unfold xv_Es xv_En xv_Co
  rw [a3, a4, a5]
  exact hF
theorem xMU_put {w : xv_M} {B f n : Nat} {U : xU4} {o : Nat → Nat} {a b f1 f2 f3 : Nat → Int32} (hU : xMU w B U) (hf : f < 8) (hn : n ≤ 265) (hr : ∀ i, i < n → f1 i = nI (o i) ∧ o i < 22 ∧ f2 i = a i ∧ f3 i = b i) : xMU (xv_si (xv_sw (xv_sw (xv_sw w (B + 7 * f + 1) f1) (B + 7 * f + 2) f2) (B + 7 * f + 3) f3) (B + 7 * f) 3 (nI n)) B (xSt4 U f n o a b) := by
  intro g hg
  by_cases e : g = f
  · subst e
    unfold xSt4 xPt xUn
    simp only [if_true]
    refine ⟨xv_si_eq, hn, fun i hi => ?_⟩
    obtain ⟨h1, h2, h3, h4⟩ := hr i hi
    refine ⟨?_, h2, ?_, ?_⟩
    · rw [xv_si_ne (by omega), xv_sw_ne (by omega), xv_sw_ne (by omega), xv_sw_eq]; exact h1
    · rw [xv_si_ne (by omega), xv_sw_ne (by omega), xv_sw_eq]; exact h3
    · rw [xv_si_ne (by omega), xv_sw_eq]; exact h4
  · have key : ∀ i q, i ≤ 3 → xv_i (xv_si (xv_sw (xv_sw (xv_sw w (B + 7 * f + 1) f1) (B + 7 * f + 2) f2) (B + 7 * f + 3) f3) (B + 7 * f) 3 (nI n)) (B + 7 * g + i) q = xv_i w (B + 7 * g + i) q := fun i q hi => by
      rw [xv_si_ne (by omega), xv_sw_ne (by omega), xv_sw_ne (by omega), xv_sw_ne (by omega)]
    obtain ⟨h1, h2, h3⟩ := hU g hg
    unfold xSt4 xPt xUn
    simp only [e, if_false]
    refine ⟨(key 0 3 (by decide)).trans h1, h2, fun i hi => ?_⟩
    obtain ⟨q1, q2, q3, q4⟩ := h3 i hi
    exact ⟨(key 1 i (by decide)).trans q1, q2, (key 2 i (by decide)).trans q3, (key 3 i (by decide)).trans q4⟩
theorem c_Image_remake {sc : Nat × (Nat → Int32)} {u : xv_M} {h ca fa B ha ea cc n : Nat} {E num : Nat → Nat} {V : xU4} {U0 : (Nat → Nat → Nat) × (Nat → Nat → Int32) × (Nat → Nat → Int32)} (hI : xIm u h ca fa B) (hA : xv_Ar u ha ea cc) (hE : xv_Es u ea E) (hn : xv_i u ha 1 = nI n) (hlt : n ≤ 8) (hL : xUs u E V.1 V.2.1 V.2.2.1 V.2.2.2) (hnum : ∀ e, e < n → xv_i u (E e) 2 = nI (num e) ∧ num e < 8) (hap : ∀ e, e < 8 → ∀ d, d ≤ 6 → E e + d < B ∨ B + 56 ≤ E e + d) (hab : ha < B) : xv_C sc 2 J_Image_remake [.ref h, .ref ha] u (xv_N u) (xv_S u) (xv_pv (fun w => xMU w B (xRmk num V n (fun _ => 0, U0)) ∧ xSi (xSC B) u w)) := by
  refine xv_C_of (by decide) (Nat.le_refl _) (Nat.le_refl _) (xv_cat1 rfl) (Nat.le_of_ble_eq_true rfl) ?_
  show xv_X sc 2 J_Image_remake 0 [some (.ref h), some (.ref ha), none] [] u (xv_N u) (xv_S u) _
  refine xv_iconst (pc := 0) 0 d_Image_remake_0 (by decide) ?_
  refine xv_istore_2 (pc := 1) d_Image_remake_1 (by decide) rfl ?_
  have nC : ∀ a, (a < B ∨ B + 56 ≤ a) → ¬ xSC B a := fun a h1 h2 => by
    obtain ⟨f, i, hf, hi, e⟩ := h2
    omega
  have loop2 : ∀ (r k : Nat) (w : xv_M), k + r = n → xSi (xSC B) u w → xMU w B (xRmk num V k (fun _ => 0, U0)) → xv_X sc 2 J_Image_remake 26 [some (.ref h), some (.ref ha), some (.int (nI k))] [] w (xv_N u) (xv_S u) (xv_q (xv_N u) (xv_S u) (xv_pv (fun w => xMU w B (xRmk num V n (fun _ => 0, U0)) ∧ xSi (xSC B) u w))) := by
    intro r
    induction r with
    | zero =>
      intro k w hk zw hU
      have hk : k = n := by omega
      subst hk
      have hA1 := xSi_Ar zw hA
      have hn1 : xv_i w ha 1 = nI k := by rw [zw.2.2.2.2.2.2 ha (nC ha (Or.inl hab))]; exact hn
      refine xv_iload_n (pc := 26) d_Image_remake_26 rfl rfl ?_
      refine xv_aload_n (pc := 27) d_Image_remake_27 rfl rfl ?_
      refine xv_getI (pc := 28) d_Image_remake_28 f_Image_37 rfl hA1.1 ?_
      refine xv_icmp_ge (pc := 31) 66 d_Image_remake_31 (by decide) (fun h31 => ?_) (fun h31 => ?_)
      · skip
        exact xv_retvq (pc := 66) d_Image_remake_66 rfl zw.1 zw.2.1 ⟨rfl, hU, zw⟩
      · exact absurd (by rw [hn1]; exact nI_le (Nat.le_refl _) (by omega)) h31
    | succ r ih =>
      intro k w hk zw hU
      have es : nI k + Int32.ofInt 1 = nI (k + 1) := by rw [nI_succ]; rfl
      have hck : (nI k).toNatClampNeg = k := nI_clamp (by omega)
      have hA1 := xSi_Ar zw hA
      obtain ⟨e1, e2⟩ := xSi_Es zw hE k (by omega)
      obtain ⟨kh, r0, r1, kc, lc, kf, lf, hfs⟩ := xSi_Im zw hI
      have hn1 : xv_i w ha 1 = nI n := by rw [zw.2.2.2.2.2.2 ha (nC ha (Or.inl hab))]; exact hn
      obtain ⟨m1, m2⟩ := hnum k (by omega)
      have m3 : xv_i w (E k) 2 = nI (num k) := by rw [zw.2.2.2.2.2.2 (E k) (nC _ (hap k (by omega) 0 (by decide)))]; exact m1
      have hcm : (nI (num k)).toNatClampNeg = num k := nI_clamp (by omega)
      obtain ⟨f1, f2, f3, f4⟩ := hfs (num k) m2
      obtain ⟨l1, l2, l3⟩ := hL k (by omega)
      have p1 := hap k (by omega) 1 (by decide)
      have p2 := hap k (by omega) 2 (by decide)
      have p3 := hap k (by omega) 3 (by decide)
      have p4 := hap k (by omega) 4 (by decide)
      have l4 : xv_i w (E k + 1) 3 = nI (V.1 k) := by rw [zw.2.2.2.2.2.2 _ (nC _ p1)]; exact l1
      refine xv_iload_n (pc := 26) d_Image_remake_26 rfl rfl ?_
      refine xv_aload_n (pc := 27) d_Image_remake_27 rfl rfl ?_
      refine xv_getI (pc := 28) d_Image_remake_28 f_Image_37 rfl hA1.1 ?_
      refine xv_icmp_ge (pc := 31) 66 d_Image_remake_31 (by decide) (fun h31 => ?_) (fun h31 => ?_)
      · rw [hn1] at h31
        exact absurd h31 (nI_ge (by omega) (by omega))
      refine xv_aload_n (pc := 34) d_Image_remake_34 rfl rfl ?_
      refine xv_getR (pc := 35) d_Image_remake_35 f_Image_11 rfl kh r0 ?_
      refine xv_aload_n (pc := 38) d_Image_remake_38 rfl rfl ?_
      refine xv_getR (pc := 39) d_Image_remake_39 f_Image_42 rfl hA1.1 hA1.2.1 ?_
      refine xv_iload_n (pc := 42) d_Image_remake_42 rfl rfl ?_
      refine xv_aald (pc := 43) (t := 3) d_Image_remake_43 hA1.2.2.2.1 rfl (by rw [hA1.2.2.2.2]; exact vp_in_nI (by omega) (by decide)) (by rw [hck]; exact e1) ?_
      refine xv_getI (pc := 44) d_Image_remake_44 f_Image_46 rfl e2.1 ?_
      refine xv_aald (pc := 47) (t := 4) d_Image_remake_47 kc rfl (by rw [m3, lc]; exact vp_in_nI m2 (by decide)) (by rw [m3, hcm]; exact f1) ?_
      refine xv_aload_n (pc := 48) d_Image_remake_48 rfl rfl ?_
      refine xv_getR (pc := 49) d_Image_remake_49 f_Image_42 rfl hA1.1 hA1.2.1 ?_
      refine xv_iload_n (pc := 52) d_Image_remake_52 rfl rfl ?_
      refine xv_aald (pc := 53) (t := 3) d_Image_remake_53 hA1.2.2.2.1 rfl (by rw [hA1.2.2.2.2]; exact vp_in_nI (by omega) (by decide)) (by rw [hck]; exact e1) ?_
      refine xv_getR (pc := 54) d_Image_remake_54 f_Image_51 rfl e2.1 e2.2.1 ?_
      refine xv_cV1v (pc := 57) (d1 := 1) (c_Code_becomes f3 e2.2.2.2.2.2.2.2.2 l4 l2 (by omega) (by omega) (by omega)) m_Code_becomes l_Image_55 d_Image_remake_57 (by omega) (by decide : 4 < xv_nc) rfl f3.1 (Nat.le_of_ble_eq_true rfl) (xSi_le zw) (fun w2 hw hN hS => ?_)
      obtain ⟨a1, a2, a3, hw, hr⟩ := hw
      have z2 : xSi (xSC B) w w2 := by
        subst hw
        exact xSi_tr (xSi_tr (xSi_tr (xSi_sw ⟨num k, 1, m2, by decide, rfl⟩) (xSi_sw ⟨num k, 2, m2, by decide, rfl⟩)) (xSi_sw ⟨num k, 3, m2, by decide, rfl⟩)) (xSi_si ⟨num k, 0, m2, by decide, rfl⟩)
      have U2 : xMU w2 B (xRmk num V (k + 1) (fun _ => 0, U0)) := by
        subst hw
        refine xMU_put hU m2 l2 (fun i hi => ?_)
        obtain ⟨b1, b2, b3⟩ := hr i hi
        obtain ⟨c1, c2, c3, c4⟩ := l3 i hi
        exact ⟨by rw [b1, zw.2.2.2.2.2.2 _ (nC _ p2)]; exact c1, c2, by rw [b2, zw.2.2.2.2.2.2 _ (nC _ p3)]; exact c3, by rw [b3, zw.2.2.2.2.2.2 _ (nC _ p4)]; exact c4⟩
      clear hw
      refine xv_iinc_2 (pc := 60) (nI (k + 1)) d_Image_remake_60 es (by decide) rfl ?_
      refine xv_goto (pc := 63) 26 d_Image_remake_63 (by decide) ?_
      exact ih (k + 1) w2 (by omega) (xSi_tr zw z2) U2
  have loop1 : ∀ (r k : Nat) (w : xv_M), k + r = 8 → xSi (xSC B) u w → (∀ g, g < k → xv_i w (B + 7 * g) 3 = 0) → xv_X sc 2 J_Image_remake 2 [some (.ref h), some (.ref ha), some (.int (nI k))] [] w (xv_N u) (xv_S u) (xv_q (xv_N u) (xv_S u) (xv_pv (fun w => xMU w B (xRmk num V n (fun _ => 0, U0)) ∧ xSi (xSC B) u w))) := by
    intro r
    induction r with
    | zero =>
      intro k w hk zw hz
      have hk : k = 8 := by omega
      subst hk
      refine xv_iload_n (pc := 2) d_Image_remake_2 rfl rfl ?_
      refine xv_bipush (pc := 3) 8 d_Image_remake_3 (by decide) ?_
      refine xv_icmp_ge (pc := 5) 24 d_Image_remake_5 (by decide) (fun h5 => ?_) (fun h5 => ?_)
      · refine xv_iconst (pc := 24) 0 d_Image_remake_24 (by decide) ?_
        refine xv_istore_2 (pc := 25) d_Image_remake_25 (by decide) rfl ?_
        exact loop2 n 0 w (by omega) zw (fun g hg => ⟨hz g hg, Nat.zero_le _, fun i hi => absurd hi (Nat.not_lt_zero i)⟩)
      · exact absurd (by decide) h5
    | succ r ih =>
      intro k w hk zw hz
      have es : nI k + Int32.ofInt 1 = nI (k + 1) := by rw [nI_succ]; rfl
      have hck : (nI k).toNatClampNeg = k := nI_clamp (by omega)
      obtain ⟨kh, r0, r1, kc, lc, kf, lf, hfs⟩ := xSi_Im zw hI
      obtain ⟨f1, f2, f3, f4⟩ := hfs k (by omega)
      refine xv_iload_n (pc := 2) d_Image_remake_2 rfl rfl ?_
      refine xv_bipush (pc := 3) 8 d_Image_remake_3 (by decide) ?_
      refine xv_icmp_ge (pc := 5) 24 d_Image_remake_5 (by decide) (fun h5 => ?_) (fun h5 => ?_)
      · exact absurd h5 (nI_ge (b := 8) (by omega) (by decide))
      refine xv_aload_n (pc := 8) d_Image_remake_8 rfl rfl ?_
      refine xv_getR (pc := 9) d_Image_remake_9 f_Image_11 rfl kh r0 ?_
      refine xv_iload_n (pc := 12) d_Image_remake_12 rfl rfl ?_
      refine xv_aald (pc := 13) (t := 4) d_Image_remake_13 kc rfl (by rw [lc]; exact vp_in_nI (by omega) (by decide)) (by rw [hck]; exact f1) ?_
      refine xv_iconst (pc := 14) 0 d_Image_remake_14 (by decide) ?_
      refine xv_putI (pc := 15) d_Image_remake_15 f_Image_29 (Or.inl rfl) fin_4_3 f3.1 ?_
      refine xv_iinc_2 (pc := 18) (nI (k + 1)) d_Image_remake_18 es (by decide) rfl ?_
      refine xv_goto (pc := 21) 2 d_Image_remake_21 (by decide) ?_
      refine ih (k + 1) _ (by omega) (xSi_tr zw (xSi_si ⟨k, 0, by omega, by decide, rfl⟩)) (fun g hg => ?_)
      by_cases e : g = k
      · subst e; exact xv_si_eq
      · rw [xv_si_ne (by omega)]; exact hz g (by omega)
  exact loop1 8 0 u (by omega) xSi_rf (fun g hg => absurd hg (Nat.not_lt_zero g))

