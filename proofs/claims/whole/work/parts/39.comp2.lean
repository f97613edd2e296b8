/-! what the compiler makes of a form: pure -/
def xS1 (σ : xQ) (q : Nat) (y : Int32) : xQ := (σ.1, σ.2.1, upd σ.2.2.1 q y, σ.2.2.2)
def xS2 (σ : xQ) (q : Nat) (y : Int32) : xQ := (σ.1, σ.2.1, σ.2.2.1, upd σ.2.2.2.1 q y, σ.2.2.2.2)
def xSh (σ : xQ) (y : Int32) : xQ := (σ.1, σ.2.1, σ.2.2.1, σ.2.2.2.1, σ.2.2.2.2.1, y, σ.2.2.2.2.2.2)
def xEi (F : Nat → xQ → xQ) (s : Nat → Nat) (a : Int32) (σ : xQ) : xQ :=
  let σ1 := F (s 0) σ
  let σ2 := xEm σ1 14 a
  let σ3 := F (s 1) σ2
  let σ4 := xEm σ3 15 0
  let σ6 := F (s 2) (xSh (xS2 σ4 σ1.1 (nI σ4.1)) σ2.2.2.2.2.2.1)
  xS1 σ6 σ3.1 (nI σ6.1)
def xEx (F : Nat → xQ → xQ) (s : Nat → Nat) (a : Int32) (σ : xQ) : xQ :=
  let σ4 := xEm (xEt (xEm (F (s 0) σ) 0 7) 7) 13 a
  let σ5 := xEm σ4 1 a
  let σ7 := F (s 1) (xEm σ5 14 1)
  let σ13 := xEm (xEm (xEt (xEm (xEm (xEt σ7 18) 1 a) 0 1) 3) 13 a) 15 (nI σ4.1)
  xEm (xS2 σ13 σ5.1 (nI σ13.1)) 0 0
def xEp (F : Nat → xQ → xQ) (s : Nat → Nat) : Nat → xQ → xQ
  | 0, σ => σ
  | j + 1, σ => F (s j) (xEp F s j σ)
def xEo (F : Nat → xQ → xQ) (s : Nat → Nat) (o : Nat) (a : Int32) (σ : xQ) : xQ :=
  if o = 0 then xEm σ 0 a else if o = 1 then xEm σ 1 a else if o = 13 then xEi F s a σ
  else if o = 14 then F (s 1) (xEm (F (s 0) σ) 13 a) else if o = 15 then xEm (xEm (F (s 0) σ) 19 0) 13 a
  else if o = 16 then xEx F s a σ else if o = 17 then xEm (xEp F s (xPa o) σ) 16 a else xEm (xEp F s (xPa o) σ) o 0
def xEmF (O : Nat → Nat) (A : Nat → Int32) : Nat → Nat → xQ → xQ
  | 0, _, σ => σ
  | k + 1, p, σ => xEo (xEmF O A k) (fun j => xIt (xNx O k) j (p + 1)) (O p) (A p) σ
def xOwn (o : Nat) : Nat := if o = 13 ∨ o = 15 then 2 else if o = 16 then 12 else 1
def xSumN (f : Nat → Nat) : Nat → Nat
  | 0 => 0
  | m + 1 => xSumN f m + f m
def xSz (O : Nat → Nat) : Nat → Nat → Nat
  | 0, _ => 0
  | k + 1, p => xOwn (O p) + xSumN (fun j => xSz O k (xIt (xNx O k) j (p + 1))) (xPa (O p))
theorem xEi_n {F : Nat → xQ → xQ} {s z : Nat → Nat} {a : Int32} {σ : xQ} (hF : ∀ j σ, (F (s j) σ).1 = σ.1 + z j) : (xEi F s a σ).1 = σ.1 + (2 + (((0 + z 0) + z 1) + z 2)) := by
  unfold xEi
  show (F (s 2) _).1 = _
  rw [hF]
  show (F (s 1) _).1 + 1 + z 2 = _
  rw [hF]
  show (F (s 0) σ).1 + 1 + z 1 + 1 + z 2 = _
  rw [hF]
  omega
theorem xEx_n {F : Nat → xQ → xQ} {s z : Nat → Nat} {a : Int32} {σ : xQ} (hF : ∀ j σ, (F (s j) σ).1 = σ.1 + z j) : (xEx F s a σ).1 = σ.1 + (12 + ((0 + z 0) + z 1)) := by
  unfold xEx
  show (F (s 1) _).1 + 1 + 1 + 1 + 1 + 1 + 1 + 1 = _
  rw [hF]
  show (F (s 0) σ).1 + 1 + 1 + 1 + 1 + 1 + z 1 + 1 + 1 + 1 + 1 + 1 + 1 + 1 = _
  rw [hF]
  omega
theorem xEp_n {F : Nat → xQ → xQ} {s z : Nat → Nat} {σ : xQ} (hF : ∀ j σ, (F (s j) σ).1 = σ.1 + z j) : ∀ m, (xEp F s m σ).1 = σ.1 + xSumN z m := by
  intro m
  induction m with
  | zero => rfl
  | succ m ih =>
    show (F (s m) _).1 = σ.1 + (xSumN z m + z m)
    rw [hF, ih]
    omega
theorem xEo_n {F : Nat → xQ → xQ} {s z : Nat → Nat} {o : Nat} {a : Int32} {σ : xQ} (hF : ∀ j σ, (F (s j) σ).1 = σ.1 + z j) : (xEo F s o a σ).1 = σ.1 + (xOwn o + xSumN z (xPa o)) := by
  unfold xEo
  by_cases e0 : o = 0
  · subst e0; rfl
  rw [if_neg e0]
  by_cases e1 : o = 1
  · subst e1; rfl
  rw [if_neg e1]
  by_cases e13 : o = 13
  · subst e13
    rw [if_pos rfl, xEi_n hF]
    rfl
  rw [if_neg e13]
  by_cases e14 : o = 14
  · subst e14
    rw [if_pos rfl, hF]
    show (F (s 0) σ).1 + 1 + z 1 = σ.1 + (1 + ((0 + z 0) + z 1))
    rw [hF]
    omega
  rw [if_neg e14]
  by_cases e15 : o = 15
  · subst e15
    rw [if_pos rfl]
    show (F (s 0) σ).1 + 1 + 1 = σ.1 + (2 + (0 + z 0))
    rw [hF]
    omega
  rw [if_neg e15]
  by_cases e16 : o = 16
  · subst e16
    rw [if_pos rfl, xEx_n hF]
    rfl
  rw [if_neg e16]
  have ho : xOwn o = 1 := by unfold xOwn; rw [if_neg (by omega), if_neg e16]
  rw [ho]
  split
  · show (xEp F s (xPa o) σ).1 + 1 = _
    rw [xEp_n hF]; omega
  · show (xEp F s (xPa o) σ).1 + 1 = _
    rw [xEp_n hF]; omega
theorem xEmF_n {O : Nat → Nat} {A : Nat → Int32} : ∀ (k p : Nat) (σ : xQ), (xEmF O A k p σ).1 = σ.1 + xSz O k p := by
  intro k
  induction k with
  | zero => intro p σ; rfl
  | succ k ih => intro p σ; exact xEo_n (fun j σ => ih _ σ)
/-! the calls' contracts, fit for the walk -/
theorem c_emV {sc : Nat × (Nat → Int32)} {u : xv_M} {h x fm o a t op : Nat} {σ : xQ} {v y : Int32} (hv : v = nI op) (hC : xCp u h x fm o a t) (hop : op < 22) (hlt : σ.1 < 265) : xv_C sc 1 J_Comp_emit [.ref h, .int v, .int y] (xEM u h x σ) (xv_N u) (xv_S u) (xv_pv (fun w => w = xEM u h x (xEm σ op y))) := by
  subst hv
  exact c_Comp_emit hC hop hlt
theorem c_etV {sc : Nat × (Nat → Int32)} {u : xv_M} {h x fm o a t op : Nat} {σ : xQ} {v : Int32} (hv : v = nI op) (hC : xCp u h x fm o a t) (hop : op < 22) (hlt : σ.1 < 265) : xv_C sc 2 J_Comp_emitOfTimes [.ref h, .int v] (xEM u h x σ) (xv_N u) (xv_S u) (xv_pv (fun w => w = xEM u h x (xEt σ op))) := by
  subst hv
  exact c_Comp_emitOfTimes hC hop hlt
theorem c_s1V {sc : Nat × (Nat → Int32)} {u : xv_M} {h x fm o a t q : Nat} {σ : xQ} {y : Int32} (hC : xCp u h x fm o a t) (hq : q < σ.1) (hlt : σ.1 ≤ 265) : xv_C sc 0 J_Comp_setFirst [.ref h, .int (nI q), .int y] (xEM u h x σ) (xv_N u) (xv_S u) (xv_pv (fun w => w = xEM u h x (xS1 σ q y))) := by
  obtain ⟨n, ro, rf, rg, rt, ht, st⟩ := σ
  exact c_Comp_setFirst hC hq hlt
theorem c_s2V {sc : Nat × (Nat → Int32)} {u : xv_M} {h x fm o a t q : Nat} {σ : xQ} {y : Int32} (hC : xCp u h x fm o a t) (hq : q < σ.1) (hlt : σ.1 ≤ 265) : xv_C sc 0 J_Comp_setSecond [.ref h, .int (nI q), .int y] (xEM u h x σ) (xv_N u) (xv_S u) (xv_pv (fun w => w = xEM u h x (xS2 σ q y))) := by
  obtain ⟨n, ro, rf, rg, rt, ht, st⟩ := σ
  exact c_Comp_setSecond hC hq hlt
theorem xEM_sh {u : xv_M} {h x : Nat} {σ : xQ} {v : Int32} (H : xAp h x) : xv_si (xEM u h x σ) h 3 v = xEM u h x (xSh σ v) := by
  obtain ⟨n, ro, rf, rg, rt, ht, st⟩ := σ
  exact xEM_h H
theorem xCp_o {u : xv_M} {h x fm o a t : Nat} {σ : xQ} (H : xCp u h x fm o a t) : (∀ q, xv_i (xEM u h x σ) fm q = xv_i u fm q) ∧ (∀ q, xv_i (xEM u h x σ) o q = xv_i u o q) ∧ (∀ q, xv_i (xEM u h x σ) a q = xv_i u a q) ∧ ∀ q, xv_i (xEM u h x σ) t q = xv_i u t q := by
  obtain ⟨k0, r0, r1, r2, hE, hFo, hno⟩ := H
  obtain ⟨ke, e0, e1, e7, kt, lt, ks, ls, kc, c0, c1, c2, ko, lo, kf, lf, kg, lg⟩ := hE
  obtain ⟨kF, f0, f1, f4, kO, lO, kA, lA, kT, lT⟩ := hFo
  refine ⟨fun q => xEM_ro (xv_ne kF ke (by decide)) (xv_ne kF kc (by decide)) (xv_ne kF ko (by decide)) (xv_ne kF kf (by decide)) (xv_ne kF kg (by decide)) (xv_ne kF kt (by decide)) (xv_ne kF k0 (by decide)), fun q => ?_, fun q => ?_, fun q => ?_⟩
  · exact xEM_ro (hno 0 (by decide)).1 (hno 1 (by decide)).1 (hno 2 (by decide)).1 (hno 3 (by decide)).1 (hno 4 (by decide)).1 (hno 5 (by decide)).1 (xv_ne kO k0 (by decide))
  · exact xEM_ro (hno 0 (by decide)).2.1 (hno 1 (by decide)).2.1 (hno 2 (by decide)).2.1 (hno 3 (by decide)).2.1 (hno 4 (by decide)).2.1 (hno 5 (by decide)).2.1 (xv_ne kA k0 (by decide))
  · exact xEM_ro (hno 0 (by decide)).2.2 (hno 1 (by decide)).2.2 (hno 2 (by decide)).2.2 (hno 3 (by decide)).2.2 (hno 4 (by decide)).2.2 (hno 5 (by decide)).2.2 (xv_ne kT k0 (by decide))
theorem c_stV {sc : Nat × (Nat → Int32)} {u : xv_M} {h x fm o a t p j q : Nat} {σ : xQ} {v : Int32} (hv : v = nI j) (hC : xCp u h x fm o a t) (hp : p < 40) (hj : j < 3) (hs : xv_i u t (p * 3 + j) = nI q) : xv_C sc 0 J_Form_start [.ref fm, .int (nI p), .int v] (xEM u h x σ) (xv_N u) (xv_S u) (xv_pi (fun r w => r = nI q ∧ w = xEM u h x σ)) := by
  subst hv
  have e : xv_i (xEM u h x σ) t (p * 3 + j) = nI q := by rw [(xCp_o hC).2.2.2]; exact hs
  rw [← e]
  exact c_Form_start (u := xEM u h x σ) hC.2.2.2.2.2.1 hp hj
def xRec (sc : Nat × (Nat → Int32)) (u : xv_M) (h x d : Nat) (F : Nat → xQ → xQ) (z : Nat → Nat) (q : Nat) : Prop := ∀ σ : xQ, σ.1 + z q ≤ 264 → xv_C sc d J_Comp_emitForm [.ref h, .int (nI q)] (xEM u h x σ) (xv_N u) (xv_S u) (xv_pv (fun w => w = xEM u h x (F q σ)))
theorem c_Comp_emitIf {sc : Nat × (Nat → Int32)} {u : xv_M} {h x fm o a t p d : Nat} {F : Nat → xQ → xQ} {z s : Nat → Nat} {σ : xQ} {av : Int32} (hC : xCp u h x fm o a t) (hp : p < 40) (ha : xv_i u a p = av) (hF : ∀ j σ, (F (s j) σ).1 = σ.1 + z (s j)) (hs : ∀ j, j < 3 → xv_i u t (p * 3 + j) = nI (s j)) (hR : ∀ j, j < 3 → xRec sc u h x (d + 1) F z (s j)) (hlt : σ.1 + (2 + (((0 + z (s 0)) + z (s 1)) + z (s 2))) ≤ 264) : xv_C sc (d + 2) J_Comp_emitIf [.ref h, .int (nI p)] (xEM u h x σ) (xv_N u) (xv_S u) (xv_pv (fun w => w = xEM u h x (xEi F s av σ))) := by
  have hC0 := hC
  have hap := xCp_ap hC
  have hro := fun σ => xCp_o (σ := σ) hC
  obtain ⟨k0, r0, r1, r2, hE, hFo, hno⟩ := hC
  obtain ⟨ke, e0, e1, e7, kt, lt, ks, ls, kc, c0, c1, c2, ko, lo, kf, lf, kg, lg⟩ := hE
  obtain ⟨kF, f0, f1, f4, kO, lO, kA, lA, kT, lT⟩ := hFo
  have hcp : (nI p).toNatClampNeg = p := nI_clamp (by omega)
  refine xv_C_of (by decide) (Nat.le_refl _) (Nat.le_refl _) (xv_cat1 rfl) (Nat.le_of_ble_eq_true rfl) ?_
  show xv_X sc (d + 2) J_Comp_emitIf 0 [some (.ref h), some (.int (nI p)), none, none, none] [] (xEM u h x σ) (xv_N u) (xv_S u) _
  refine xv_aload_n (pc := 0) d_Comp_emitIf_0 rfl rfl ?_
  refine xv_aload_n (pc := 1) d_Comp_emitIf_1 rfl rfl ?_
  refine xv_getR (pc := 2) d_Comp_emitIf_2 f_Comp_9 rfl k0 r0 ?_
  refine xv_iload_n (pc := 5) d_Comp_emitIf_5 rfl rfl ?_
  refine xv_iconst (pc := 6) 0 d_Comp_emitIf_6 (by decide) ?_
  refine xv_cV2i (pc := 7) (c_stV (j := 0) rfl hC0 hp (by decide) (hs 0 (by decide))) m_Form_start l_Comp_84 d_Comp_emitIf_7 (by omega) (by decide : 0 < xv_nc) rfl kF (Nat.le_of_ble_eq_true rfl) ⟨Nat.le_refl _, Nat.le_refl _⟩ (fun r w hw hN hS => ?_)
  obtain ⟨rfl, hw⟩ := hw
  subst w
  refine xv_cV1v (pc := 10) (hR 0 (by decide) σ (by omega)) m_Comp_emitForm l_Comp_45 d_Comp_emitIf_10 (by omega) (by decide : 6 < xv_nc) rfl k0 (Nat.le_of_ble_eq_true rfl) ⟨Nat.le_refl _, Nat.le_refl _⟩ (fun w hw hN hS => ?_)
  subst w
  have n1 := hF 0 σ
  generalize g1 : F (s 0) σ = σ1 at n1
  refine xv_aload_n (pc := 13) d_Comp_emitIf_13 rfl rfl ?_
  refine xv_getR (pc := 14) d_Comp_emitIf_14 f_Comp_25 rfl k0 r2 ?_
  refine xv_getI (pc := 17) d_Comp_emitIf_17 f_Comp_67 rfl kc ?_
  refine xv_istore_2 (pc := 20) d_Comp_emitIf_20 (by decide) rfl ?_
  refine xv_aload_n (pc := 21) d_Comp_emitIf_21 rfl rfl ?_
  refine xv_bipush (pc := 22) 14 d_Comp_emitIf_22 (by decide) ?_
  refine xv_aload_n (pc := 24) d_Comp_emitIf_24 rfl rfl ?_
  refine xv_getR (pc := 25) d_Comp_emitIf_25 f_Comp_9 rfl k0 r0 ?_
  refine xv_getR (pc := 28) d_Comp_emitIf_28 f_Comp_78 rfl kF f1 ?_
  refine xv_iload_n (pc := 31) d_Comp_emitIf_31 rfl rfl ?_
  refine xv_ald (pc := 32) d_Comp_emitIf_32 kA (by show vp_in _ (xv_l u a); rw [lA]; exact vp_in_nI hp (by decide)) ?_
  rw [xEM_rn, hcp, (hro _).2.2.1, ha]
  refine xv_cV2v (pc := 33) (c_emV (op := 14) rfl hC0 (by decide) (by omega)) m_Comp_emit l_Comp_41 d_Comp_emitIf_33 (by omega) (by decide : 6 < xv_nc) rfl k0 (Nat.le_of_ble_eq_true rfl) ⟨Nat.le_refl _, Nat.le_refl _⟩ (fun w hw hN hS => ?_)
  subst w
  refine xv_aload_n (pc := 36) d_Comp_emitIf_36 rfl rfl ?_
  refine xv_getI (pc := 37) d_Comp_emitIf_37 f_Comp_26 rfl k0 ?_
  refine xv_istore_3 (pc := 40) d_Comp_emitIf_40 (by decide) rfl ?_
  refine xv_aload_n (pc := 41) d_Comp_emitIf_41 rfl rfl ?_
  refine xv_aload_n (pc := 42) d_Comp_emitIf_42 rfl rfl ?_
  refine xv_getR (pc := 43) d_Comp_emitIf_43 f_Comp_9 rfl k0 r0 ?_
  refine xv_iload_n (pc := 46) d_Comp_emitIf_46 rfl rfl ?_
  refine xv_iconst (pc := 47) 1 d_Comp_emitIf_47 (by decide) ?_
  rw [xEM_rh hap]
  refine xv_cV2i (pc := 48) (c_stV (j := 1) rfl hC0 hp (by decide) (hs 1 (by decide))) m_Form_start l_Comp_84 d_Comp_emitIf_48 (by omega) (by decide : 0 < xv_nc) rfl kF (Nat.le_of_ble_eq_true rfl) ⟨Nat.le_refl _, Nat.le_refl _⟩ (fun r w hw hN hS => ?_)
  obtain ⟨rfl, hw⟩ := hw
  subst w
  have n2 : (xEm σ1 14 av).1 = σ1.1 + 1 := rfl
  refine xv_cV1v (pc := 51) (hR 1 (by decide) _ (by omega)) m_Comp_emitForm l_Comp_45 d_Comp_emitIf_51 (by omega) (by decide : 6 < xv_nc) rfl k0 (Nat.le_of_ble_eq_true rfl) ⟨Nat.le_refl _, Nat.le_refl _⟩ (fun w hw hN hS => ?_)
  subst w
  have n3 := hF 1 (xEm σ1 14 av)
  generalize g3 : F (s 1) (xEm σ1 14 av) = σ3 at n3
  refine xv_aload_n (pc := 54) d_Comp_emitIf_54 rfl rfl ?_
  refine xv_getR (pc := 55) d_Comp_emitIf_55 f_Comp_25 rfl k0 r2 ?_
  refine xv_getI (pc := 58) d_Comp_emitIf_58 f_Comp_67 rfl kc ?_
  refine xv_istore_4 (pc := 61) d_Comp_emitIf_61 (by decide) rfl ?_
  refine xv_aload_n (pc := 63) d_Comp_emitIf_63 rfl rfl ?_
  refine xv_bipush (pc := 64) 15 d_Comp_emitIf_64 (by decide) ?_
  refine xv_iconst (pc := 66) 0 d_Comp_emitIf_66 (by decide) ?_
  rw [xEM_rn]
  refine xv_cV2v (pc := 67) (c_emV (op := 15) rfl hC0 (by decide) (by omega)) m_Comp_emit l_Comp_41 d_Comp_emitIf_67 (by omega) (by decide : 6 < xv_nc) rfl k0 (Nat.le_of_ble_eq_true rfl) ⟨Nat.le_refl _, Nat.le_refl _⟩ (fun w hw hN hS => ?_)
  subst w
  have n4 : (xEm σ3 15 0).1 = σ3.1 + 1 := rfl
  refine xv_aload_n (pc := 70) d_Comp_emitIf_70 rfl rfl ?_
  refine xv_iload_n (pc := 71) d_Comp_emitIf_71 rfl rfl ?_
  refine xv_aload_n (pc := 72) d_Comp_emitIf_72 rfl rfl ?_
  refine xv_getR (pc := 73) d_Comp_emitIf_73 f_Comp_25 rfl k0 r2 ?_
  refine xv_getI (pc := 76) d_Comp_emitIf_76 f_Comp_67 rfl kc ?_
  rw [xEM_rn]
  refine xv_cV2v (pc := 79) (c_s2V hC0 (by omega) (by omega)) m_Comp_setSecond l_Comp_93 d_Comp_emitIf_79 (by omega) (by decide : 6 < xv_nc) rfl k0 (Nat.le_of_ble_eq_true rfl) ⟨Nat.le_refl _, Nat.le_refl _⟩ (fun w hw hN hS => ?_)
  subst w
  refine xv_aload_n (pc := 82) d_Comp_emitIf_82 rfl rfl ?_
  refine xv_iload_n (pc := 83) d_Comp_emitIf_83 rfl rfl ?_
  refine xv_putI (pc := 84) d_Comp_emitIf_84 f_Comp_26 (Or.inl rfl) fin_6_3 k0 ?_
  refine xv_aload_n (pc := 87) d_Comp_emitIf_87 rfl rfl ?_
  refine xv_aload_n (pc := 88) d_Comp_emitIf_88 rfl rfl ?_
  refine xv_getR (pc := 89) d_Comp_emitIf_89 f_Comp_9 rfl k0 r0 ?_
  refine xv_iload_n (pc := 92) d_Comp_emitIf_92 rfl rfl ?_
  refine xv_iconst (pc := 93) 2 d_Comp_emitIf_93 (by decide) ?_
  rw [xEM_sh hap]
  refine xv_cV2i (pc := 94) (c_stV (j := 2) rfl hC0 hp (by decide) (hs 2 (by decide))) m_Form_start l_Comp_84 d_Comp_emitIf_94 (by omega) (by decide : 0 < xv_nc) rfl kF (Nat.le_of_ble_eq_true rfl) ⟨Nat.le_refl _, Nat.le_refl _⟩ (fun r w hw hN hS => ?_)
  obtain ⟨rfl, hw⟩ := hw
  subst w
  have n5 : (xSh (xS2 (xEm σ3 15 0) σ1.1 (nI (xEm σ3 15 0).1)) (xEm σ1 14 av).2.2.2.2.2.1).1 = σ3.1 + 1 := rfl
  refine xv_cV1v (pc := 97) (hR 2 (by decide) _ (by omega)) m_Comp_emitForm l_Comp_45 d_Comp_emitIf_97 (by omega) (by decide : 6 < xv_nc) rfl k0 (Nat.le_of_ble_eq_true rfl) ⟨Nat.le_refl _, Nat.le_refl _⟩ (fun w hw hN hS => ?_)
  subst w
  have n6 := hF 2 (xSh (xS2 (xEm σ3 15 0) σ1.1 (nI (xEm σ3 15 0).1)) (xEm σ1 14 av).2.2.2.2.2.1)
  generalize g6 : F (s 2) (xSh (xS2 (xEm σ3 15 0) σ1.1 (nI (xEm σ3 15 0).1)) (xEm σ1 14 av).2.2.2.2.2.1) = σ6 at n6
  refine xv_aload_n (pc := 100) d_Comp_emitIf_100 rfl rfl ?_
  refine xv_iload (pc := 101) d_Comp_emitIf_101 rfl ?_
  refine xv_aload_n (pc := 103) d_Comp_emitIf_103 rfl rfl ?_
  refine xv_getR (pc := 104) d_Comp_emitIf_104 f_Comp_25 rfl k0 r2 ?_
  refine xv_getI (pc := 107) d_Comp_emitIf_107 f_Comp_67 rfl kc ?_
  rw [xEM_rn]
  refine xv_cV2v (pc := 110) (c_s1V hC0 (by omega) (by omega)) m_Comp_setFirst l_Comp_96 d_Comp_emitIf_110 (by omega) (by decide : 6 < xv_nc) rfl k0 (Nat.le_of_ble_eq_true rfl) ⟨Nat.le_refl _, Nat.le_refl _⟩ (fun w hw hN hS => ?_)
  subst w
  refine xv_retvq (pc := 113) d_Comp_emitIf_113 rfl rfl rfl ⟨rfl, ?_⟩
  subst g1
  subst g3
  subst g6
  rfl
theorem c_Comp_emitTimes {sc : Nat × (Nat → Int32)} {u : xv_M} {h x fm o a t p d : Nat} {F : Nat → xQ → xQ} {z s : Nat → Nat} {σ : xQ} {av : Int32} (hC : xCp u h x fm o a t) (hp : p < 40) (ha : xv_i u a p = av) (hF : ∀ j σ, (F (s j) σ).1 = σ.1 + z (s j)) (hs : ∀ j, j < 2 → xv_i u t (p * 3 + j) = nI (s j)) (hR : ∀ j, j < 2 → xRec sc u h x (d + 1) F z (s j)) (hlt : σ.1 + (12 + ((0 + z (s 0)) + z (s 1))) ≤ 264) (hd : 1 ≤ d) : xv_C sc (d + 2) J_Comp_emitTimes [.ref h, .int (nI p)] (xEM u h x σ) (xv_N u) (xv_S u) (xv_pv (fun w => w = xEM u h x (xEx F s av σ))) := by
  have hC0 := hC
  have hap := xCp_ap hC
  have hro := fun σ => xCp_o (σ := σ) hC
  obtain ⟨k0, r0, r1, r2, hE, hFo, hno⟩ := hC
  obtain ⟨ke, e0, e1, e7, kt, lt, ks, ls, kc, c0, c1, c2, ko, lo, kf, lf, kg, lg⟩ := hE
  obtain ⟨kF, f0, f1, f4, kO, lO, kA, lA, kT, lT⟩ := hFo
  have hcp : (nI p).toNatClampNeg = p := nI_clamp (by omega)
  refine xv_C_of (by decide) (Nat.le_refl _) (Nat.le_refl _) (xv_cat1 rfl) (Nat.le_of_ble_eq_true rfl) ?_
  show xv_X sc (d + 2) J_Comp_emitTimes 0 [some (.ref h), some (.int (nI p)), none, none, none] [] (xEM u h x σ) (xv_N u) (xv_S u) _
  refine xv_aload_n (pc := 0) d_Comp_emitTimes_0 rfl rfl ?_
  refine xv_getR (pc := 1) d_Comp_emitTimes_1 f_Comp_9 rfl k0 r0 ?_
  refine xv_getR (pc := 4) d_Comp_emitTimes_4 f_Comp_78 rfl kF f1 ?_
  refine xv_iload_n (pc := 7) d_Comp_emitTimes_7 rfl rfl ?_
  refine xv_ald (pc := 8) d_Comp_emitTimes_8 kA (by show vp_in _ (xv_l u a); rw [lA]; exact vp_in_nI hp (by decide)) ?_
  refine xv_istore_2 (pc := 9) d_Comp_emitTimes_9 (by decide) rfl ?_
  refine xv_aload_n (pc := 10) d_Comp_emitTimes_10 rfl rfl ?_
  refine xv_aload_n (pc := 11) d_Comp_emitTimes_11 rfl rfl ?_
  refine xv_getR (pc := 12) d_Comp_emitTimes_12 f_Comp_9 rfl k0 r0 ?_
  refine xv_iload_n (pc := 15) d_Comp_emitTimes_15 rfl rfl ?_
  refine xv_iconst (pc := 16) 0 d_Comp_emitTimes_16 (by decide) ?_
  rw [hcp, (hro _).2.2.1, ha]
  refine xv_cV2i (pc := 17) (c_stV (j := 0) rfl hC0 hp (by decide) (hs 0 (by decide))) m_Form_start l_Comp_84 d_Comp_emitTimes_17 (by omega) (by decide : 0 < xv_nc) rfl kF (Nat.le_of_ble_eq_true rfl) ⟨Nat.le_refl _, Nat.le_refl _⟩ (fun r w hw hN hS => ?_)
  obtain ⟨rfl, hw⟩ := hw
  subst w
  refine xv_cV1v (pc := 20) (hR 0 (by decide) σ (by omega)) m_Comp_emitForm l_Comp_45 d_Comp_emitTimes_20 (by omega) (by decide : 6 < xv_nc) rfl k0 (Nat.le_of_ble_eq_true rfl) ⟨Nat.le_refl _, Nat.le_refl _⟩ (fun w hw hN hS => ?_)
  subst w
  have n1 := hF 0 σ
  generalize g1 : F (s 0) σ = σ1 at n1
  refine xv_aload_n (pc := 23) d_Comp_emitTimes_23 rfl rfl ?_
  refine xv_iconst (pc := 24) 0 d_Comp_emitTimes_24 (by decide) ?_
  refine xv_bipush (pc := 25) 7 d_Comp_emitTimes_25 (by decide) ?_
  refine xv_cV2v (pc := 27) (c_emV (op := 0) rfl hC0 (by decide) (by omega)) m_Comp_emit l_Comp_41 d_Comp_emitTimes_27 (by omega) (by decide : 6 < xv_nc) rfl k0 (Nat.le_of_ble_eq_true rfl) ⟨Nat.le_refl _, Nat.le_refl _⟩ (fun w hw hN hS => ?_)
  subst w
  have n2 : (xEm σ1 0 7).1 = σ1.1 + 1 := rfl
  refine xv_aload_n (pc := 30) d_Comp_emitTimes_30 rfl rfl ?_
  refine xv_bipush (pc := 31) 7 d_Comp_emitTimes_31 (by decide) ?_
  refine xv_cV1v (pc := 33) (c_etV (op := 7) rfl hC0 (by decide) (by omega)) m_Comp_emitOfTimes l_Comp_99 d_Comp_emitTimes_33 (by omega) (by decide : 6 < xv_nc) rfl k0 (Nat.le_of_ble_eq_true rfl) ⟨Nat.le_refl _, Nat.le_refl _⟩ (fun w hw hN hS => ?_)
  subst w
  have n3 : (xEt (xEm σ1 0 7) 7).1 = σ1.1 + 2 := rfl
  refine xv_aload_n (pc := 36) d_Comp_emitTimes_36 rfl rfl ?_
  refine xv_bipush (pc := 37) 13 d_Comp_emitTimes_37 (by decide) ?_
  refine xv_iload_n (pc := 39) d_Comp_emitTimes_39 rfl rfl ?_
  refine xv_cV2v (pc := 40) (c_emV (op := 13) rfl hC0 (by decide) (by omega)) m_Comp_emit l_Comp_41 d_Comp_emitTimes_40 (by omega) (by decide : 6 < xv_nc) rfl k0 (Nat.le_of_ble_eq_true rfl) ⟨Nat.le_refl _, Nat.le_refl _⟩ (fun w hw hN hS => ?_)
  subst w
  have n4 : (xEm (xEt (xEm σ1 0 7) 7) 13 av).1 = σ1.1 + 3 := rfl
  generalize g4 : xEm (xEt (xEm σ1 0 7) 7) 13 av = σ4 at n4
  refine xv_aload_n (pc := 43) d_Comp_emitTimes_43 rfl rfl ?_
  refine xv_getR (pc := 44) d_Comp_emitTimes_44 f_Comp_25 rfl k0 r2 ?_
  refine xv_getI (pc := 47) d_Comp_emitTimes_47 f_Comp_67 rfl kc ?_
  refine xv_istore_3 (pc := 50) d_Comp_emitTimes_50 (by decide) rfl ?_
  refine xv_aload_n (pc := 51) d_Comp_emitTimes_51 rfl rfl ?_
  refine xv_iconst (pc := 52) 1 d_Comp_emitTimes_52 (by decide) ?_
  refine xv_iload_n (pc := 53) d_Comp_emitTimes_53 rfl rfl ?_
  rw [xEM_rn]
  refine xv_cV2v (pc := 54) (c_emV (op := 1) rfl hC0 (by decide) (by omega)) m_Comp_emit l_Comp_41 d_Comp_emitTimes_54 (by omega) (by decide : 6 < xv_nc) rfl k0 (Nat.le_of_ble_eq_true rfl) ⟨Nat.le_refl _, Nat.le_refl _⟩ (fun w hw hN hS => ?_)
  subst w
  have n5 : (xEm σ4 1 av).1 = σ4.1 + 1 := rfl
  generalize g5 : xEm σ4 1 av = σ5 at n5
  refine xv_aload_n (pc := 57) d_Comp_emitTimes_57 rfl rfl ?_
  refine xv_getR (pc := 58) d_Comp_emitTimes_58 f_Comp_25 rfl k0 r2 ?_
  refine xv_getI (pc := 61) d_Comp_emitTimes_61 f_Comp_67 rfl kc ?_
  refine xv_istore_4 (pc := 64) d_Comp_emitTimes_64 (by decide) rfl ?_
  refine xv_aload_n (pc := 66) d_Comp_emitTimes_66 rfl rfl ?_
  refine xv_bipush (pc := 67) 14 d_Comp_emitTimes_67 (by decide) ?_
  refine xv_iconst (pc := 69) 1 d_Comp_emitTimes_69 (by decide) ?_
  rw [xEM_rn]
  refine xv_cV2v (pc := 70) (c_emV (op := 14) rfl hC0 (by decide) (by omega)) m_Comp_emit l_Comp_41 d_Comp_emitTimes_70 (by omega) (by decide : 6 < xv_nc) rfl k0 (Nat.le_of_ble_eq_true rfl) ⟨Nat.le_refl _, Nat.le_refl _⟩ (fun w hw hN hS => ?_)
  subst w
  have n6 : (xEm σ5 14 1).1 = σ5.1 + 1 := rfl
  refine xv_aload_n (pc := 73) d_Comp_emitTimes_73 rfl rfl ?_
  refine xv_aload_n (pc := 74) d_Comp_emitTimes_74 rfl rfl ?_
  refine xv_getR (pc := 75) d_Comp_emitTimes_75 f_Comp_9 rfl k0 r0 ?_
  refine xv_iload_n (pc := 78) d_Comp_emitTimes_78 rfl rfl ?_
  refine xv_iconst (pc := 79) 1 d_Comp_emitTimes_79 (by decide) ?_
  refine xv_cV2i (pc := 80) (c_stV (j := 1) rfl hC0 hp (by decide) (hs 1 (by decide))) m_Form_start l_Comp_84 d_Comp_emitTimes_80 (by omega) (by decide : 0 < xv_nc) rfl kF (Nat.le_of_ble_eq_true rfl) ⟨Nat.le_refl _, Nat.le_refl _⟩ (fun r w hw hN hS => ?_)
  obtain ⟨rfl, hw⟩ := hw
  subst w
  refine xv_cV1v (pc := 83) (hR 1 (by decide) _ (by omega)) m_Comp_emitForm l_Comp_45 d_Comp_emitTimes_83 (by omega) (by decide : 6 < xv_nc) rfl k0 (Nat.le_of_ble_eq_true rfl) ⟨Nat.le_refl _, Nat.le_refl _⟩ (fun w hw hN hS => ?_)
  subst w
  have n7 := hF 1 (xEm σ5 14 1)
  generalize g7 : F (s 1) (xEm σ5 14 1) = σ7 at n7
  refine xv_aload_n (pc := 86) d_Comp_emitTimes_86 rfl rfl ?_
  refine xv_bipush (pc := 87) 18 d_Comp_emitTimes_87 (by decide) ?_
  refine xv_cV1v (pc := 89) (c_etV (op := 18) rfl hC0 (by decide) (by omega)) m_Comp_emitOfTimes l_Comp_99 d_Comp_emitTimes_89 (by omega) (by decide : 6 < xv_nc) rfl k0 (Nat.le_of_ble_eq_true rfl) ⟨Nat.le_refl _, Nat.le_refl _⟩ (fun w hw hN hS => ?_)
  subst w
  have n8 : (xEt σ7 18).1 = σ7.1 + 1 := rfl
  refine xv_aload_n (pc := 92) d_Comp_emitTimes_92 rfl rfl ?_
  refine xv_iconst (pc := 93) 1 d_Comp_emitTimes_93 (by decide) ?_
  refine xv_iload_n (pc := 94) d_Comp_emitTimes_94 rfl rfl ?_
  refine xv_cV2v (pc := 95) (c_emV (op := 1) rfl hC0 (by decide) (by omega)) m_Comp_emit l_Comp_41 d_Comp_emitTimes_95 (by omega) (by decide : 6 < xv_nc) rfl k0 (Nat.le_of_ble_eq_true rfl) ⟨Nat.le_refl _, Nat.le_refl _⟩ (fun w hw hN hS => ?_)
  subst w
  have n9 : (xEm (xEt σ7 18) 1 av).1 = σ7.1 + 2 := rfl
  refine xv_aload_n (pc := 98) d_Comp_emitTimes_98 rfl rfl ?_
  refine xv_iconst (pc := 99) 0 d_Comp_emitTimes_99 (by decide) ?_
  refine xv_iconst (pc := 100) 1 d_Comp_emitTimes_100 (by decide) ?_
  refine xv_cV2v (pc := 101) (c_emV (op := 0) rfl hC0 (by decide) (by omega)) m_Comp_emit l_Comp_41 d_Comp_emitTimes_101 (by omega) (by decide : 6 < xv_nc) rfl k0 (Nat.le_of_ble_eq_true rfl) ⟨Nat.le_refl _, Nat.le_refl _⟩ (fun w hw hN hS => ?_)
  subst w
  have n10 : (xEm (xEm (xEt σ7 18) 1 av) 0 1).1 = σ7.1 + 3 := rfl
  refine xv_aload_n (pc := 104) d_Comp_emitTimes_104 rfl rfl ?_
  refine xv_iconst (pc := 105) 3 d_Comp_emitTimes_105 (by decide) ?_
  refine xv_cV1v (pc := 106) (c_etV (op := 3) rfl hC0 (by decide) (by omega)) m_Comp_emitOfTimes l_Comp_99 d_Comp_emitTimes_106 (by omega) (by decide : 6 < xv_nc) rfl k0 (Nat.le_of_ble_eq_true rfl) ⟨Nat.le_refl _, Nat.le_refl _⟩ (fun w hw hN hS => ?_)
  subst w
  have n11 : (xEt (xEm (xEm (xEt σ7 18) 1 av) 0 1) 3).1 = σ7.1 + 4 := rfl
  refine xv_aload_n (pc := 109) d_Comp_emitTimes_109 rfl rfl ?_
  refine xv_bipush (pc := 110) 13 d_Comp_emitTimes_110 (by decide) ?_
  refine xv_iload_n (pc := 112) d_Comp_emitTimes_112 rfl rfl ?_
  refine xv_cV2v (pc := 113) (c_emV (op := 13) rfl hC0 (by decide) (by omega)) m_Comp_emit l_Comp_41 d_Comp_emitTimes_113 (by omega) (by decide : 6 < xv_nc) rfl k0 (Nat.le_of_ble_eq_true rfl) ⟨Nat.le_refl _, Nat.le_refl _⟩ (fun w hw hN hS => ?_)
  subst w
  have n12 : (xEm (xEt (xEm (xEm (xEt σ7 18) 1 av) 0 1) 3) 13 av).1 = σ7.1 + 5 := rfl
  refine xv_aload_n (pc := 116) d_Comp_emitTimes_116 rfl rfl ?_
  refine xv_bipush (pc := 117) 15 d_Comp_emitTimes_117 (by decide) ?_
  refine xv_iload_n (pc := 119) d_Comp_emitTimes_119 rfl rfl ?_
  refine xv_cV2v (pc := 120) (c_emV (op := 15) rfl hC0 (by decide) (by omega)) m_Comp_emit l_Comp_41 d_Comp_emitTimes_120 (by omega) (by decide : 6 < xv_nc) rfl k0 (Nat.le_of_ble_eq_true rfl) ⟨Nat.le_refl _, Nat.le_refl _⟩ (fun w hw hN hS => ?_)
  subst w
  have n13 : (xEm (xEm (xEt (xEm (xEm (xEt σ7 18) 1 av) 0 1) 3) 13 av) 15 (nI σ4.1)).1 = σ7.1 + 6 := rfl
  generalize g13 : xEm (xEm (xEt (xEm (xEm (xEt σ7 18) 1 av) 0 1) 3) 13 av) 15 (nI σ4.1) = σ13 at n13
  refine xv_aload_n (pc := 123) d_Comp_emitTimes_123 rfl rfl ?_
  refine xv_iload (pc := 124) d_Comp_emitTimes_124 rfl ?_
  refine xv_aload_n (pc := 126) d_Comp_emitTimes_126 rfl rfl ?_
  refine xv_getR (pc := 127) d_Comp_emitTimes_127 f_Comp_25 rfl k0 r2 ?_
  refine xv_getI (pc := 130) d_Comp_emitTimes_130 f_Comp_67 rfl kc ?_
  rw [xEM_rn]
  refine xv_cV2v (pc := 133) (c_s2V hC0 (by omega) (by omega)) m_Comp_setSecond l_Comp_93 d_Comp_emitTimes_133 (by omega) (by decide : 6 < xv_nc) rfl k0 (Nat.le_of_ble_eq_true rfl) ⟨Nat.le_refl _, Nat.le_refl _⟩ (fun w hw hN hS => ?_)
  subst w
  have n14 : (xS2 σ13 σ5.1 (nI σ13.1)).1 = σ13.1 := rfl
  refine xv_aload_n (pc := 136) d_Comp_emitTimes_136 rfl rfl ?_
  refine xv_iconst (pc := 137) 0 d_Comp_emitTimes_137 (by decide) ?_
  refine xv_iconst (pc := 138) 0 d_Comp_emitTimes_138 (by decide) ?_
  refine xv_cV2v (pc := 139) (c_emV (op := 0) rfl hC0 (by decide) (by omega)) m_Comp_emit l_Comp_41 d_Comp_emitTimes_139 (by omega) (by decide : 6 < xv_nc) rfl k0 (Nat.le_of_ble_eq_true rfl) ⟨Nat.le_refl _, Nat.le_refl _⟩ (fun w hw hN hS => ?_)
  subst w
  refine xv_retvq (pc := 142) d_Comp_emitTimes_142 rfl rfl rfl ⟨rfl, ?_⟩
  subst g1
  subst g4
  subst g5
  subst g7
  subst g13
  rfl

