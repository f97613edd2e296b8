/-! constructors: a memory that has grown -/
def xGr (u w : xv_M) (h c s : Nat) : Prop := xv_N w = xv_N u + c ∧ xv_S w = xv_S u + s ∧ (∀ b, b < xv_N u → xv_k w b = xv_k u b ∧ xv_l w b = xv_l u b ∧ (∀ q, xv_i w b q = xv_i u b q) ∧ (∀ q, xv_g w b q = xv_g u b q) ∧ (¬ b = h → ∀ q, xv_r w b q = xv_r u b q)) ∧ ∀ b, xv_N u ≤ b → b < xv_N u + c → ∀ q, xv_i w b q = 0
theorem xGr_rf {u : xv_M} {h : Nat} : xGr u u h 0 0 := ⟨rfl, rfl, fun b _ => ⟨rfl, rfl, fun _ => rfl, fun _ => rfl, fun _ _ => rfl⟩, fun b h1 h2 => absurd h2 (by omega)⟩
theorem xv_nw_k {u : xv_M} {k n sl b : Nat} : xv_k (xv_nw u k n sl) b = if b = xv_N u then k else xv_k u b := rfl
theorem xv_nw_l {u : xv_M} {k n sl b : Nat} : xv_l (xv_nw u k n sl) b = if b = xv_N u then n else xv_l u b := rfl
theorem xv_nw_i {u : xv_M} {k n sl b q : Nat} : xv_i (xv_nw u k n sl) b q = if b = xv_N u then 0 else xv_i u b q := rfl
theorem xv_nw_r {u : xv_M} {k n sl b q : Nat} : xv_r (xv_nw u k n sl) b q = if b = xv_N u then none else xv_r u b q := rfl
theorem xv_nw_g {u : xv_M} {k n sl b q : Nat} : xv_g (xv_nw u k n sl) b q = if b = xv_N u then 0 else xv_g u b q := rfl
theorem xGr_nw {u w : xv_M} {h c s k n sl : Nat} (H : xGr u w h c s) : xGr u (xv_nw w k n sl) h (c + 1) (s + sl) := by
  obtain ⟨h1, h2, h3, h4⟩ := H
  refine ⟨by show xv_N w + 1 = _; omega, by show xv_S w + sl = _; omega, fun b hb => ?_, fun b hb1 hb2 q => ?_⟩
  · obtain ⟨a1, a2, a3, a4, a5⟩ := h3 b hb
    rw [xv_nw_k, xv_nw_l, if_neg (by omega), if_neg (by omega)]
    refine ⟨a1, a2, fun q => by rw [xv_nw_i, if_neg (by omega)]; exact a3 q, fun q => by rw [xv_nw_g, if_neg (by omega)]; exact a4 q, fun hn q => by rw [xv_nw_r, if_neg (by omega)]; exact a5 hn q⟩
  · rw [xv_nw_i]
    by_cases e : b = xv_N w
    · rw [if_pos e]
    · rw [if_neg e]; exact h4 b hb1 (by omega) q
theorem xGr_sr {u w : xv_M} {h c s b j : Nat} {v : Option Nat} (H : xGr u w h c s) (hb : b = h ∨ xv_N u ≤ b) : xGr u (xv_sr w b j v) h c s := by
  obtain ⟨h1, h2, h3, h4⟩ := H
  refine ⟨h1, h2, fun x hx => ?_, h4⟩
  obtain ⟨a1, a2, a3, a4, a5⟩ := h3 x hx
  exact ⟨a1, a2, a3, a4, fun hn q => by rw [xv_sr_ne (by omega)]; exact a5 hn q⟩
theorem xGr_tr {u w w2 : xv_M} {h h' c s c2 s2 : Nat} (H : xGr u w h c s) (H2 : xGr w w2 h' c2 s2) (hh : xv_N u ≤ h' ∨ h' = h) : xGr u w2 h (c + c2) (s + s2) := by
  obtain ⟨h1, h2, h3, h4⟩ := H
  obtain ⟨g1, g2, g3, g4⟩ := H2
  refine ⟨by omega, by omega, fun b hb => ?_, fun b hb1 hb2 q => ?_⟩
  · obtain ⟨a1, a2, a3, a4, a5⟩ := h3 b hb
    obtain ⟨b1, b2, b3, b4, b5⟩ := g3 b (by omega)
    exact ⟨b1.trans a1, b2.trans a2, fun q => (b3 q).trans (a3 q), fun q => (b4 q).trans (a4 q), fun hn q => (b5 (by omega) q).trans (a5 hn q)⟩
  · by_cases e : b < xv_N w
    · rw [(g3 b e).2.2.1 q]; exact h4 b hb1 (by omega) q
    · exact g4 b (by omega) (by omega) q
theorem xGr_k {u w : xv_M} {h c s b : Nat} (H : xGr u w h c s) (hb : b < xv_N u) : xv_k w b = xv_k u b := (H.2.2.1 b hb).1
theorem xGr_l {u w : xv_M} {h c s b : Nat} (H : xGr u w h c s) (hb : b < xv_N u) : xv_l w b = xv_l u b := (H.2.2.1 b hb).2.1
theorem xGr_r {u w : xv_M} {h c s b : Nat} (H : xGr u w h c s) (hb : b < xv_N u) (hn : ¬ b = h) (q : Nat) : xv_r w b q = xv_r u b q := (H.2.2.1 b hb).2.2.2.2 hn q
/-- one more row of the object h -/
theorem xRowN {u w : xv_M} {h c s k n j : Nat} (H : xGr u w h c s) (hh : h < xv_N u) (hj : ∀ q, ¬ q = j → xv_r w h q = xv_r w h q) : xGr u (xv_sr (xv_nw w k n n) h j (some (xv_N u + c))) h (c + 1) (s + n) ∧ xv_r (xv_sr (xv_nw w k n n) h j (some (xv_N u + c))) h j = some (xv_N u + c) ∧ (∀ q, ¬ q = j → xv_r (xv_sr (xv_nw w k n n) h j (some (xv_N u + c))) h q = xv_r w h q) ∧ xv_k (xv_sr (xv_nw w k n n) h j (some (xv_N u + c))) (xv_N u + c) = k ∧ xv_l (xv_sr (xv_nw w k n n) h j (some (xv_N u + c))) (xv_N u + c) = n ∧ (∀ b, b < xv_N u + c → xv_k (xv_sr (xv_nw w k n n) h j (some (xv_N u + c))) b = xv_k w b ∧ xv_l (xv_sr (xv_nw w k n n) h j (some (xv_N u + c))) b = xv_l w b) := by
  have hN := H.1
  refine ⟨xGr_sr (xGr_nw H) (Or.inl rfl), xv_sr_eq, fun q hq => ?_, ?_, ?_, fun b hb => ?_⟩
  · rw [xv_sr_nj hq, xv_nw_r, if_neg (by omega)]
  · show xv_k (xv_nw w k n n) _ = k
    rw [xv_nw_k, if_pos hN.symm]
  · show xv_l (xv_nw w k n n) _ = n
    rw [xv_nw_l, if_pos hN.symm]
  · show xv_k (xv_nw w k n n) _ = _ ∧ xv_l (xv_nw w k n n) _ = _
    rw [xv_nw_k, xv_nw_l, if_neg (by omega), if_neg (by omega)]
    exact ⟨rfl, rfl⟩
theorem xKo {u : xv_M} {k n sl b : Nat} (h : b < xv_N u) : xv_k (xv_nw u k n sl) b = xv_k u b := by rw [xv_nw_k, if_neg (by omega)]
theorem c_Form_init {sc : Nat × (Nat → Int32)} {u : xv_M} {h : Nat} (k0 : xv_k u h = 1) (hh : h < xv_N u) : xv_C sc 1 J_Form_init [.ref h] u (xv_N u + 3) (xv_S u + 200) (xv_pv (fun w => xGr u w h 3 200 ∧ xv_Fo w h (xv_N u) (xv_N u + 1) (xv_N u + 2))) := by
  obtain ⟨G1, r1, q1, kk1, ll1, o1⟩ := xRowN (k := 100) (n := 40) (j := 0) (xGr_rf (u := u) (h := h)) hh (fun _ _ => rfl)
  refine xv_C_of (by decide) (by omega) (by omega) (xv_cat1 rfl) (Nat.le_of_ble_eq_true rfl) ?_
  show xv_X sc 1 J_Form_init 0 [some (.ref h)] [] u (xv_N u + 3) (xv_S u + 200) _
  refine xv_aload_n (pc := 0) d_Form_init_0 rfl rfl ?_
  refine xv_obj (pc := 1) d_Form_init_1 k_36 k_29 k_30 (by omega) (Nat.le_of_ble_eq_true rfl) ?_
  refine xv_aload_n (pc := 4) d_Form_init_4 rfl rfl ?_
  refine xv_bipush (pc := 5) 40 d_Form_init_5 (by decide) ?_
  refine xv_newI (pc := 7) (N' := 40) d_Form_init_7 k_62 (by decide) (by decide) (by decide) (by omega) (by omega) ?_
  refine xv_putRF (pc := 9) d_Form_init_9 f_Form_9 rfl fin_0_0 rfl rfl ((xKo hh).trans k0) ?_
  refine xv_aload_n (pc := 12) d_Form_init_12 rfl rfl ?_
  refine xv_bipush (pc := 13) 40 d_Form_init_13 (by decide) ?_
  generalize hW1 : xv_sr (xv_nw u 100 40 40) h 0 (some (xv_N u)) = w1
  rw [show xv_sr (xv_nw u 100 40 40) h 0 (some (xv_N u + 0)) = w1 from hW1] at G1 r1 q1 kk1 ll1 o1
  obtain ⟨G2, r2, q2, kk2, ll2, o2⟩ := xRowN (k := 100) (n := 40) (j := 1) G1 hh (fun _ _ => rfl)
  have n1 := G1.1
  have s1 := G1.2.1
  have k1 := (xGr_k G1 hh).trans k0
  refine xv_newI (pc := 15) (N' := 40) d_Form_init_15 k_62 (by decide) (by decide) (by decide) (by omega) (by omega) ?_
  refine xv_putRF (pc := 17) d_Form_init_17 f_Form_15 rfl fin_0_1 rfl rfl ((xKo (by omega)).trans k1) ?_
  refine xv_aload_n (pc := 20) d_Form_init_20 rfl rfl ?_
  refine xv_bipush (pc := 21) 120 d_Form_init_21 (by decide) ?_
  rw [show xv_N w1 = xv_N u + 1 from n1]
  generalize hW2 : xv_sr (xv_nw w1 100 40 40) h 1 (some (xv_N u + 1)) = w2
  rw [show xv_sr (xv_nw w1 100 40 40) h 1 (some (xv_N u + (0 + 1))) = w2 from hW2] at G2 r2 q2 kk2 ll2 o2
  obtain ⟨G3, r3, q3, kk3, ll3, o3⟩ := xRowN (k := 100) (n := 120) (j := 4) G2 hh (fun _ _ => rfl)
  have n2 := G2.1
  have s2 := G2.2.1
  have k2 := (xGr_k G2 hh).trans k0
  refine xv_newI (pc := 23) (N' := 120) d_Form_init_23 k_62 (by decide) (by decide) (by decide) (by omega) (by omega) ?_
  refine xv_putRF (pc := 25) d_Form_init_25 f_Form_18 rfl fin_0_4 rfl rfl ((xKo (by omega)).trans k2) ?_
  rw [show xv_N w2 = xv_N u + 2 from n2]
  generalize hW3 : xv_sr (xv_nw w2 100 120 120) h 4 (some (xv_N u + 2)) = w3
  rw [show xv_sr (xv_nw w2 100 120 120) h 4 (some (xv_N u + (0 + 1 + 1))) = w3 from hW3] at G3 r3 q3 kk3 ll3 o3
  exact xv_retvq (pc := 28) d_Form_init_28 rfl G3.1 G3.2.1 ⟨rfl, G3, (xGr_k G3 hh).trans k0, by rw [q3 0 (by decide), q2 0 (by decide)]; exact r1, by rw [q3 1 (by decide)]; exact r2, r3, (o3 _ (by omega)).1.trans ((o2 _ (by omega)).1.trans kk1), (o3 _ (by omega)).2.trans ((o2 _ (by omega)).2.trans ll1), (o3 _ (by omega)).1.trans kk2, (o3 _ (by omega)).2.trans ll2, kk3, ll3⟩

