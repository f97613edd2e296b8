/-! constructors: what stays; Entry -/
def xKp (w w2 : xv_M) (X : Nat → Prop) : Prop := xv_N w ≤ xv_N w2 ∧ ∀ b, b < xv_N w → xv_k w2 b = xv_k w b ∧ xv_l w2 b = xv_l w b ∧ (¬ X b → ∀ q, xv_r w2 b q = xv_r w b q)
theorem xKp_rf {w : xv_M} {X : Nat → Prop} : xKp w w X := ⟨Nat.le_refl _, fun _ _ => ⟨rfl, rfl, fun _ _ => rfl⟩⟩
theorem xKp_tr {w w2 w3 : xv_M} {X : Nat → Prop} (a : xKp w w2 X) (b : xKp w2 w3 X) : xKp w w3 X := by
  refine ⟨Nat.le_trans a.1 b.1, fun x hx => ?_⟩
  obtain ⟨a1, a2, a3⟩ := a.2 x hx
  obtain ⟨b1, b2, b3⟩ := b.2 x (Nat.lt_of_lt_of_le hx a.1)
  exact ⟨b1.trans a1, b2.trans a2, fun hn q => (b3 hn q).trans (a3 hn q)⟩
theorem xKp_m {w w2 : xv_M} {X Y : Nat → Prop} (a : xKp w w2 X) (h : ∀ b, b < xv_N w → X b → Y b) : xKp w w2 Y := ⟨a.1, fun x hx => ⟨(a.2 x hx).1, (a.2 x hx).2.1, fun hn => (a.2 x hx).2.2 (fun q => hn (h x hx q))⟩⟩
theorem xKp_g {u w : xv_M} {h c s : Nat} (H : xGr u w h c s) : xKp u w (fun b => b = h) := ⟨by have := H.1; omega, fun b hb => ⟨(H.2.2.1 b hb).1, (H.2.2.1 b hb).2.1, (H.2.2.1 b hb).2.2.2.2⟩⟩
theorem xKp_n {w : xv_M} {k n sl : Nat} {X : Nat → Prop} : xKp w (xv_nw w k n sl) X := ⟨Nat.le_succ _, fun b hb => ⟨by rw [xv_nw_k, if_neg (by omega)], by rw [xv_nw_l, if_neg (by omega)], fun _ q => by rw [xv_nw_r, if_neg (by omega)]⟩⟩
theorem xKp_s {w : xv_M} {a j : Nat} {v : Option Nat} : xKp w (xv_sr w a j v) (fun b => b = a) := ⟨Nat.le_refl _, fun b hb => ⟨rfl, rfl, fun hn q => xv_sr_ne hn⟩⟩
theorem xKp_Fo {w w2 : xv_M} {X : Nat → Prop} {h a b c : Nat} (K : xKp w w2 X) (hX : ¬ X h) (h1 : h < xv_N w) (h2 : a < xv_N w) (h3 : b < xv_N w) (h4 : c < xv_N w) (H : xv_Fo w h a b c) : xv_Fo w2 h a b c := by
  obtain ⟨k0, r0, r1, r4, ka, la, kb, lb, kc, lc⟩ := H
  have hr := (K.2 h h1).2.2 hX
  exact ⟨(K.2 h h1).1.trans k0, (hr 0).trans r0, (hr 1).trans r1, (hr 4).trans r4, (K.2 a h2).1.trans ka, (K.2 a h2).2.1.trans la, (K.2 b h3).1.trans kb, (K.2 b h3).2.1.trans lb, (K.2 c h4).1.trans kc, (K.2 c h4).2.1.trans lc⟩
theorem xKp_Fr {w w2 : xv_M} {X : Nat → Prop} {h a b : Nat} (K : xKp w w2 X) (hX : ¬ X h) (h1 : h < xv_N w) (h2 : a < xv_N w) (h3 : b < xv_N w) (H : xv_Fr w h a b) : xv_Fr w2 h a b := by
  obtain ⟨k0, r0, r1, ka, la, kb, lb⟩ := H
  have hr := (K.2 h h1).2.2 hX
  exact ⟨(K.2 h h1).1.trans k0, (hr 0).trans r0, (hr 1).trans r1, (K.2 a h2).1.trans ka, (K.2 a h2).2.1.trans la, (K.2 b h3).1.trans kb, (K.2 b h3).2.1.trans lb⟩
theorem xKp_Op {w w2 : xv_M} {X : Nat → Prop} {h a b : Nat} (K : xKp w w2 X) (hX : ¬ X h) (h1 : h < xv_N w) (h2 : a < xv_N w) (h3 : b < xv_N w) (H : xv_Op w h a b) : xv_Op w2 h a b := by
  obtain ⟨k0, r0, r1, ka, la, kb, lb⟩ := H
  have hr := (K.2 h h1).2.2 hX
  exact ⟨(K.2 h h1).1.trans k0, (hr 0).trans r0, (hr 1).trans r1, (K.2 a h2).1.trans ka, (K.2 a h2).2.1.trans la, (K.2 b h3).1.trans kb, (K.2 b h3).2.1.trans lb⟩
theorem xKp_Co {w w2 : xv_M} {X : Nat → Prop} {h a b c : Nat} (K : xKp w w2 X) (hX : ¬ X h) (h1 : h < xv_N w) (h2 : a < xv_N w) (h3 : b < xv_N w) (h4 : c < xv_N w) (H : xv_Co w h a b c) : xv_Co w2 h a b c := by
  obtain ⟨k0, r0, r1, r4, ka, la, kb, lb, kc, lc⟩ := H
  have hr := (K.2 h h1).2.2 hX
  exact ⟨(K.2 h h1).1.trans k0, (hr 0).trans r0, (hr 1).trans r1, (hr 2).trans r4, (K.2 a h2).1.trans ka, (K.2 a h2).2.1.trans la, (K.2 b h3).1.trans kb, (K.2 b h3).2.1.trans lb, (K.2 c h4).1.trans kc, (K.2 c h4).2.1.trans lc⟩
theorem xKp_Ck {w w2 : xv_M} {X : Nat → Prop} {h a b : Nat} (K : xKp w w2 X) (hX : ¬ X h) (h1 : h < xv_N w) (h2 : a < xv_N w) (h3 : b < xv_N w) (H : xv_Ck w h a b) : xv_Ck w2 h a b := by
  obtain ⟨k0, r0, r1, ka, la, kb, lb, hab⟩ := H
  have hr := (K.2 h h1).2.2 hX
  exact ⟨(K.2 h h1).1.trans k0, (hr 0).trans r0, (hr 1).trans r1, (K.2 a h2).1.trans ka, (K.2 a h2).2.1.trans la, (K.2 b h3).1.trans kb, (K.2 b h3).2.1.trans lb, hab⟩
theorem xKp_En {w w2 : xv_M} {X : Nat → Prop} {h c o f g t s : Nat} (K : xKp w w2 X) (hX : ¬ X h) (hc : ¬ X c) (h1 : h < xv_N w) (h2 : c < xv_N w) (h3 : o < xv_N w) (h4 : f < xv_N w) (h5 : g < xv_N w) (h6 : t < xv_N w) (h7 : s < xv_N w) (H : xv_En w h c o f g t s) : xv_En w2 h c o f g t s := by
  obtain ⟨k0, r0, r1, r7, kt, lt, ks, ls, hC⟩ := H
  have hr := (K.2 h h1).2.2 hX
  exact ⟨(K.2 h h1).1.trans k0, (hr 0).trans r0, (hr 1).trans r1, (hr 7).trans r7, (K.2 t h6).1.trans kt, (K.2 t h6).2.1.trans lt, (K.2 s h7).1.trans ks, (K.2 s h7).2.1.trans ls, xKp_Co K hc h2 h3 h4 h5 hC⟩
/-- a new object that its constructor has filled -/
theorem xGr_new {u w w2 : xv_M} {h c s k sl c2 s2 : Nat} (H : xGr u w h c s) (H2 : xGr (xv_nw w k 0 sl) w2 (xv_N w) c2 s2) : xGr u w2 h (c + 1 + c2) (s + sl + s2) := xGr_tr (xGr_nw H) H2 (Or.inl (by have := H.1; omega))
theorem c_Entry_init {sc : Nat × (Nat → Int32)} {u : xv_M} {h : Nat} (k0 : xv_k u h = 6) (hh : h < xv_N u) : xv_C sc 2 J_Entry_init [.ref h] u (xv_N u + 6) (xv_S u + 1329) (xv_pv (fun w => xGr u w h 6 1329 ∧ xv_En w h (xv_N u) (xv_N u + 1) (xv_N u + 2) (xv_N u + 3) (xv_N u + 4) (xv_N u + 5))) := by
  refine xv_C_of (by decide) (by omega) (by omega) (xv_cat1 rfl) (Nat.le_of_ble_eq_true rfl) ?_
  show xv_X sc 2 J_Entry_init 0 [some (.ref h)] [] u (xv_N u + 6) (xv_S u + 1329) _
  refine xv_aload_n (pc := 0) d_Entry_init_0 rfl rfl ?_
  refine xv_obj (pc := 1) d_Entry_init_1 k_169 k_29 k_30 (by omega) (Nat.le_of_ble_eq_true rfl) ?_
  refine xv_aload_n (pc := 4) d_Entry_init_4 rfl rfl ?_
  refine xv_newO (pc := 5) (ci := 4) d_Entry_init_5 (by decide) k_170 k_171 k_10 (by omega) (by omega) ?_
  refine xv_dup_ref (pc := 8) d_Entry_init_8 ?_
  have kc : xv_k (xv_nw u 5 0 4) (xv_N u) = 5 := by rw [xv_nw_k, if_pos rfl]
  refine xv_cIN0v (pc := 9) (d1 := 1) (c_Code_init kc (Nat.lt_succ_self _)) m_Code_init l_Entry_11 d_Entry_init_9 (by omega) (Nat.le_of_ble_eq_true rfl) ⟨by show xv_N u + 1 + 3 ≤ _; omega, by show xv_S u + 4 + 795 ≤ _; omega⟩ (fun w1 hw hN hS => ?_)
  obtain ⟨G0, C0⟩ := hw
  have G1 : xGr u w1 h (0 + 1 + 3) (0 + 4 + 795) := xGr_new (xGr_rf (u := u) (h := h)) G0
  have n1 := G1.1
  have s1 := G1.2.1
  have k1 := (xGr_k G1 hh).trans k0
  have C0 : xv_Co w1 (xv_N u) (xv_N u + 1) (xv_N u + 2) (xv_N u + 3) := C0
  have G2 := xGr_sr (b := h) (j := 0) (v := some (xv_N u)) G1 (Or.inl rfl)
  have r2 : xv_r (xv_sr w1 h 0 (some (xv_N u))) h 0 = some (xv_N u) := xv_sr_eq
  have C2 : xv_Co (xv_sr w1 h 0 (some (xv_N u))) (xv_N u) (xv_N u + 1) (xv_N u + 2) (xv_N u + 3) := xKp_Co xKp_s (by omega) (by omega) (by omega) (by omega) (by omega) C0
  refine xv_putRF (pc := 12) d_Entry_init_12 f_Entry_12 rfl fin_5_0 rfl rfl k1 ?_
  generalize xv_sr w1 h 0 (some (xv_N u)) = w2 at *
  obtain ⟨G3, r3, q3, kk3, ll3, o3⟩ := xRowN (k := 101) (n := 265) (j := 1) G2 hh (fun _ _ => rfl)
  have n2 := G2.1
  have s2 := G2.2.1
  have k2 := (xGr_k G2 hh).trans k0
  refine xv_aload_n (pc := 15) d_Entry_init_15 rfl rfl ?_
  refine xv_sipush (pc := 16) 265 d_Entry_init_16 (by decide) ?_
  refine xv_newZ (pc := 19) (N' := 265) d_Entry_init_19 k_254 (by decide) (by decide) (by decide) (by omega) (by omega) ?_
  refine xv_putRF (pc := 21) d_Entry_init_21 f_Entry_18 rfl fin_5_1 rfl rfl ((xKo (by omega)).trans k2) ?_
  refine xv_aload_n (pc := 24) d_Entry_init_24 rfl rfl ?_
  refine xv_sipush (pc := 25) 265 d_Entry_init_25 (by decide) ?_
  have K3 : xKp w2 (xv_sr (xv_nw w2 101 265 265) h 1 (some (xv_N u + (0 + 1 + 3)))) (fun b => b = h) := xKp_tr xKp_n xKp_s
  have C3 := xKp_Co K3 (by omega) (by omega) (by omega) (by omega) (by omega) C2
  rw [show xv_N w2 = xv_N u + 4 from n2]
  generalize hW3 : xv_sr (xv_nw w2 101 265 265) h 1 (some (xv_N u + 4)) = w3
  rw [show xv_sr (xv_nw w2 101 265 265) h 1 (some (xv_N u + (0 + 1 + 3))) = w3 from hW3] at G3 r3 q3 kk3 ll3 o3 C3
  obtain ⟨G4, r4, q4, kk4, ll4, o4⟩ := xRowN (k := 100) (n := 265) (j := 7) G3 hh (fun _ _ => rfl)
  have n3 := G3.1
  have s3 := G3.2.1
  have k3 := (xGr_k G3 hh).trans k0
  refine xv_newI (pc := 28) (N' := 265) d_Entry_init_28 k_62 (by decide) (by decide) (by decide) (by omega) (by omega) ?_
  refine xv_putRF (pc := 30) d_Entry_init_30 f_Entry_22 rfl fin_5_7 rfl rfl ((xKo (by omega)).trans k3) ?_
  have K4 : xKp w3 (xv_sr (xv_nw w3 100 265 265) h 7 (some (xv_N u + (0 + 1 + 3 + 1)))) (fun b => b = h) := xKp_tr xKp_n xKp_s
  have C4 := xKp_Co K4 (by omega) (by omega) (by omega) (by omega) (by omega) C3
  rw [show xv_N w3 = xv_N u + 5 from n3]
  generalize hW4 : xv_sr (xv_nw w3 100 265 265) h 7 (some (xv_N u + 5)) = w4
  rw [show xv_sr (xv_nw w3 100 265 265) h 7 (some (xv_N u + (0 + 1 + 3 + 1))) = w4 from hW4] at G4 r4 q4 kk4 ll4 o4 C4
  exact xv_retvq (pc := 33) d_Entry_init_33 rfl G4.1 G4.2.1 ⟨rfl, G4, (xGr_k G4 hh).trans k0, by rw [q4 0 (by decide), q3 0 (by decide)]; exact r2, by rw [q4 1 (by decide)]; exact r3, r4, (o4 _ (by omega)).1.trans kk3, (o4 _ (by omega)).2.trans ll3, kk4, ll4, C4⟩

