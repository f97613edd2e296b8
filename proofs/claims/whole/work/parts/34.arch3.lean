/-! Archive.findOddCode, findFault -/
theorem xSame_si2 {S : Nat → Prop} {u v : xv_M} {a j : Nat} {x : Int32} (h : xSame S u v) : xSame S (xv_si u a j x) (xv_si v a j x) := by
  obtain ⟨a1, a2, a3, a4, a5, a6⟩ := h
  refine ⟨a1, a2, a3, a4, a5, fun b hb => ⟨fun q => ?_, (a6 b hb).2⟩⟩
  show (if _ then _ else _) = (if _ then _ else _)
  rw [(a6 b hb).1]
def xOd3 (ver : Nat → Bool) : Nat → Nat → Int32 → Int32 × Int32
  | 0, _, at_ => (0, at_)
  | r + 1, e, _ => if ver e = false then (8, nI e) else xOd3 ver r (e + 1) (nI e)
def xS3 (cc ca cb : Nat) : Nat → Prop := fun a => a = cc ∨ a = ca ∨ a = cb
/-- the units of the entries: lengths, numbers, firsts, seconds -/
def xUs (u : xv_M) (E L : Nat → Nat) (O : Nat → Nat → Nat) (F S : Nat → Nat → Int32) : Prop := ∀ e, e < 8 → xv_i u (E e + 1) 3 = nI (L e) ∧ L e ≤ 265 ∧ ∀ i, i < L e → xv_i u (E e + 2) i = nI (O e i) ∧ O e i < 22 ∧ xv_i u (E e + 3) i = F e i ∧ xv_i u (E e + 4) i = S e i
def xV3 (u : xv_M) (E L : Nat → Nat) (O : Nat → Nat → Nat) (F S : Nat → Nat → Int32) (e : Nat) : Bool := xVer (L e) (O e) (F e) (S e) (xv_i u (E e) 4)
set_option maxHeartbeats 1000000 in
theorem c_Arch_findOddCode {sc : Nat × (Nat → Int32)} {u : xv_M} {h ea cc ca cb n : Nat} {E L : Nat → Nat} {O : Nat → Nat → Nat} {F S : Nat → Nat → Int32} (hA : xv_Ar u h ea cc) (hE : xv_Es u ea E) (hn : xv_i u h 1 = nI n) (hlt : n ≤ 8) (hL : xUs u E L O F S) (hck : xv_Ck u cc ca cb) (hapart : ∀ e, e < 8 → ∀ d, d ≤ 4 → E e + d ≠ ca ∧ E e + d ≠ cb) (heac : ea ≠ cc ∧ ea ≠ ca ∧ ea ≠ cb) : xv_C sc 3 J_Arch_findOddCode [.ref h] u (xv_N u) (xv_S u) (xv_pi (fun r w => ∃ z, (r, z) = xOd3 (xV3 u E L O F S) n 0 (xv_i u h 4) ∧ xSame (xS3 cc ca cb) (xv_si u h 4 z) w ∧ xv_Ck w cc ca cb)) := by
  have hA0 := hA
  obtain ⟨k0, r0, r5, ke, le⟩ := hA
  have hS0 : ¬ xS3 cc ca cb h := by
    rintro (e | e | e)
    · exact xv_ne k0 hck.1 (by decide) e
    · exact xv_ne k0 hck.2.2.2.1 (by decide) e
    · exact xv_ne k0 hck.2.2.2.2.2.1 (by decide) e
  have hSe : ¬ xS3 cc ca cb ea := by
    rintro (e | e | e)
    · exact heac.1 e
    · exact heac.2.1 e
    · exact heac.2.2 e
  refine xv_C_of (by decide) (Nat.le_refl _) (Nat.le_refl _) (xv_cat1 rfl) (Nat.le_of_ble_eq_true rfl) ?_
  show xv_X sc 3 J_Arch_findOddCode 0 [some (.ref h), none] [] u (xv_N u) (xv_S u) _
  refine xv_iconst (pc := 0) 0 d_Arch_findOddCode_0 (by decide) ?_
  refine xv_istore_1 (pc := 1) d_Arch_findOddCode_1 (by decide) rfl ?_
  have loop : ∀ (r k : Nat) (z : Int32) (v : xv_M), k + r = n → xSame (xS3 cc ca cb) (xv_si u h 4 z) v → xOd3 (xV3 u E L O F S) r k z = xOd3 (xV3 u E L O F S) n 0 (xv_i u h 4) → xv_Ck v cc ca cb → xv_X sc 3 J_Arch_findOddCode 2 [some (.ref h), some (.int (nI k))] [] v (xv_N u) (xv_S u) (xv_q (xv_N u) (xv_S u) (xv_pi (fun r w => ∃ z, (r, z) = xOd3 (xV3 u E L O F S) n 0 (xv_i u h 4) ∧ xSame (xS3 cc ca cb) (xv_si u h 4 z) w ∧ xv_Ck w cc ca cb))) := by
    intro r
    induction r with
    | zero =>
      intro k z v hk hv hx hck'
      have hk : k = n := by omega
      subst hk
      have k0v : xv_k v h = 9 := (xSame_k hv h).trans k0
      have sz : xv_i v h 1 = nI k := by rw [xSame_i hv hS0, xv_si_nj (by decide)]; exact hn
      refine xv_iload_n (pc := 2) d_Arch_findOddCode_2 rfl rfl ?_
      refine xv_aload_n (pc := 3) d_Arch_findOddCode_3 rfl rfl ?_
      refine xv_getI (pc := 4) d_Arch_findOddCode_4 f_Arch_25 rfl k0v ?_
      refine xv_icmp_ge (pc := 7) 52 d_Arch_findOddCode_7 (by decide) (fun h7 => ?_) (fun h7 => ?_)
      · refine xv_iconst (pc := 52) 0 d_Arch_findOddCode_52 (by decide) ?_
        exact xv_retiq (pc := 53) d_Arch_findOddCode_53 rfl hv.1 hv.2.1 ⟨_, rfl, z, by rw [← hx]; rfl, hv, hck'⟩
      · exact absurd (by rw [sz]; exact nI_le (Nat.le_refl _) (by omega)) h7
    | succ r ih =>
      intro k z v hk hv hx hck'
      have es : nI k + Int32.ofInt 1 = nI (k + 1) := by rw [nI_succ]; rfl
      have hc : (nI k).toNatClampNeg = k := nI_clamp (by omega)
      have hin : vp_in (nI k) 8 := vp_in_nI (by omega) (by decide)
      obtain ⟨e1, e2⟩ := hE k (by omega)
      obtain ⟨l1, l2, l3⟩ := hL k (by omega)
      have hap := hapart k (by omega)
      have nS : ∀ d, d ≤ 4 → xv_k u (E k + d) ≠ 8 → ¬ xS3 cc ca cb (E k + d) := by
        intro d hd hk8
        rintro (e | e | e)
        · exact hk8 (by rw [e]; exact hck.1)
        · exact (hap d hd).1 e
        · exact (hap d hd).2 e
      have hC := e2.2.2.2.2.2.2.2.2
      have kE : xv_k u (E k) = 6 := e2.1
      have s0 := nS 0 (by omega) (by rw [Nat.add_zero, kE]; decide)
      have s1 := nS 1 (by omega) (by rw [hC.1]; decide)
      have s2 := nS 2 (by omega) (by rw [hC.2.2.2.2.1]; decide)
      have s3 := nS 3 (by omega) (by rw [hC.2.2.2.2.2.2.1]; decide)
      have s4 := nS 4 (by omega) (by rw [hC.2.2.2.2.2.2.2.2.1]; decide)
      rw [Nat.add_zero] at s0
      have n0 : E k ≠ h := xv_ne kE k0 (by decide)
      have n1 : E k + 1 ≠ h := xv_ne hC.1 k0 (by decide)
      have n2 : E k + 2 ≠ h := xv_ne hC.2.2.2.2.1 k0 (by decide)
      have n3 : E k + 3 ≠ h := xv_ne hC.2.2.2.2.2.2.1 k0 (by decide)
      have n4 : E k + 4 ≠ h := xv_ne hC.2.2.2.2.2.2.2.2.1 k0 (by decide)
      have k0v : xv_k v h = 9 := (xSame_k hv h).trans k0
      have sz : xv_i v h 1 = nI n := by rw [xSame_i hv hS0, xv_si_nj (by decide)]; exact hn
      have r0v : xv_r v h 0 = some ea := (xSame_r hv hS0 0).trans r0
      have r5v : xv_r v h 5 = some cc := (xSame_r hv hS0 5).trans r5
      have kev : xv_k v ea = 106 := (xSame_k hv ea).trans ke
      have lev : xv_l v ea = 8 := (xSame_l hv ea).trans le
      have erv : xv_r v ea k = some (E k) := (xSame_r hv hSe k).trans e1
      have kEv : xv_k v (E k) = 6 := (xSame_k hv _).trans kE
      have cEv : xv_r v (E k) 0 = some (E k + 1) := (xSame_r hv s0 0).trans e2.2.1
      have hv1 : xSame (xS3 cc ca cb) (xv_si u h 4 (nI k)) (xv_si v h 4 (nI k)) := by
        have := xSame_si2 (a := h) (j := 4) (x := nI k) hv
        rw [xv_si_si] at this
        exact this
      refine xv_iload_n (pc := 2) d_Arch_findOddCode_2 rfl rfl ?_
      refine xv_aload_n (pc := 3) d_Arch_findOddCode_3 rfl rfl ?_
      refine xv_getI (pc := 4) d_Arch_findOddCode_4 f_Arch_25 rfl k0v ?_
      refine xv_icmp_ge (pc := 7) 52 d_Arch_findOddCode_7 (by decide) (fun h7 => ?_) (fun h7 => ?_)
      · exact absurd (by rw [sz] at h7; exact h7) (nI_ge (by omega) (by omega))
      · skip
        refine xv_aload_n (pc := 10) d_Arch_findOddCode_10 rfl rfl ?_
        refine xv_iload_n (pc := 11) d_Arch_findOddCode_11 rfl rfl ?_
        refine xv_putI (pc := 12) d_Arch_findOddCode_12 f_Arch_41 (Or.inl rfl) fin_8_4 k0v ?_
        refine xv_aload_n (pc := 15) d_Arch_findOddCode_15 rfl rfl ?_
        refine xv_getR (pc := 16) d_Arch_findOddCode_16 f_Arch_20 rfl k0v r5v ?_
        refine xv_aload_n (pc := 19) d_Arch_findOddCode_19 rfl rfl ?_
        refine xv_getR (pc := 20) d_Arch_findOddCode_20 f_Arch_11 rfl k0v r0v ?_
        refine xv_iload_n (pc := 23) d_Arch_findOddCode_23 rfl rfl ?_
        refine xv_aald (pc := 24) (t := 3) d_Arch_findOddCode_24 kev rfl (by show vp_in _ (xv_l v ea); rw [lev]; exact hin) (by rw [hc]; exact erv) ?_
        refine xv_getR (pc := 25) d_Arch_findOddCode_25 f_Arch_72 rfl kEv cEv ?_
        refine xv_aload_n (pc := 28) d_Arch_findOddCode_28 rfl rfl ?_
        refine xv_getR (pc := 29) d_Arch_findOddCode_29 f_Arch_11 rfl k0v r0v ?_
        refine xv_iload_n (pc := 32) d_Arch_findOddCode_32 rfl rfl ?_
        refine xv_aald (pc := 33) (t := 3) d_Arch_findOddCode_33 kev rfl (by show vp_in _ (xv_l v ea); rw [lev]; exact hin) (by rw [hc]; exact erv) ?_
        refine xv_getI (pc := 34) d_Arch_findOddCode_34 f_Arch_76 rfl kEv ?_
        have est : xv_i (xv_si v h 4 (nI k)) (E k) 4 = xv_i u (E k) 4 := by rw [xSame_i hv1 s0, xv_si_ne n0]
        rw [est]
        have hck1 : xv_Ck (xv_si v h 4 (nI k)) cc ca cb := hck'
        have hgo := c_Check_goes (sc := sc) (m := xv_i u (E k) 4) (O := O k) (F := F k) (S := S k) (n := L k) hck1 (xSame_Co hv1 s1 (show xv_Co (xv_si u h 4 (nI k)) _ _ _ _ from hC)) (by rw [xSame_i hv1 s1, xv_si_ne n1]; exact l1) l2 (fun i hi => by
            obtain ⟨a1, a2, a3, a4⟩ := l3 i hi
            rw [xSame_i hv1 s2, xv_si_ne n2, xSame_i hv1 s3, xv_si_ne n3, xSame_i hv1 s4, xv_si_ne n4]
            exact ⟨a1, a2, a3, a4⟩) (hap 2 (by omega)).1 (hap 2 (by omega)).2 (hap 3 (by omega)).1 (hap 3 (by omega)).2 (hap 4 (by omega)).1 (hap 4 (by omega)).2
        refine xv_cV2i (pc := 37) hgo m_Check_goes l_Arch_79 d_Arch_findOddCode_37 (by omega) (by decide : 7 < xv_nc) rfl hck'.1 (Nat.le_of_ble_eq_true rfl) ⟨Nat.le_of_eq hv.1, Nat.le_of_eq hv.2.1⟩ (fun r2 w hw hN hS => ?_)
        obtain ⟨σ, τ, g1, g2, rfl, hw⟩ := hw
        subst w
        rw [xVer_of l2 (fun i hi => (l3 i hi).2.1) g1 g2]
        have hv2 : xSame (xS3 cc ca cb) (xv_si u h 4 (nI k)) (xCM (xv_sr (xv_si v h 4 (nI k)) cc 3 (some (E k + 1))) cc ca cb τ) := xSame_tr hv1 (xSame_tr (xSame_sr (Or.inl rfl)) (xSame_CM (Or.inl rfl) (Or.inr (Or.inl rfl)) (Or.inr (Or.inr rfl))))
        have hck2 : xv_Ck (xCM (xv_sr (xv_si v h 4 (nI k)) cc 3 (some (E k + 1))) cc ca cb τ) cc ca cb := by
          obtain ⟨b1, b2, b3, b4, b5, b6, b7, b8⟩ := hck'
          refine ⟨b1, ?_, ?_, b4, b5, b6, b7, b8⟩
          · show (if _ then _ else _) = _
            rw [if_neg (fun q => absurd q.2 (by decide))]
            exact b2
          · show (if _ then _ else _) = _
            rw [if_neg (fun q => absurd q.2 (by decide))]
            exact b3
        refine xv_if_ne (pc := 40) 46 d_Arch_findOddCode_40 (by decide) (fun h40 => ?_) (fun h40 => ?_)
        · have e := xB_ne h40
          refine xv_iinc_1 (pc := 46) (nI (k + 1)) d_Arch_findOddCode_46 es (by decide) rfl ?_
          refine xv_goto (pc := 49) 2 d_Arch_findOddCode_49 (by decide) ?_
          refine ih (k + 1) (nI k) _ (by omega) hv2 ?_ ?_
          · rw [← hx]
            show _ = (if _ then _ else _)
            rw [if_neg (by rw [show xV3 u E L O F S k = true from e]; decide)]
          · exact hck2
        · have e := xB_eq h40
          refine xv_bipush (pc := 43) 8 d_Arch_findOddCode_43 (by decide) ?_
          exact xv_retiq (pc := 45) d_Arch_findOddCode_45 rfl hv2.1 hv2.2.1 ⟨_, rfl, nI k, by
            rw [← hx]
            show _ = (if _ then _ else _)
            rw [if_pos (show xV3 u E L O F S k = false from e)], hv2, hck2⟩
  have hs := loop n 0 (xv_i u h 4) u (by omega) (by rw [xv_si_id]; exact xSame_rf) rfl hck
  exact hs

