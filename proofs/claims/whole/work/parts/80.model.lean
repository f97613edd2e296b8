/-! the model's memory, and rules that the layer lacked -/
theorem xv_dup_x2 {sc : Nat × (Nat → Int32)} {d : Nat} {J : xv_J} {pc : Nat} {lv : List (Option Value)} {st : List Value} {u : xv_M} {n1 s1 : Nat} {P : xv_P} {x i : Int32} {y : Nat} (hdg : decode J.2.1 pc = .ok (.dup_x2, 1)) (k : xv_X sc d J (pc + 1) lv (.int x :: .int i :: .ref y :: .int x :: st) u n1 s1 P) : xv_X sc d J pc lv (.int x :: .int i :: .ref y :: st) u n1 s1 P := fun p l e R s m args below meth c G N0 S0 Q H locs ls A0 lo hP wf hS hN hZ => lv_dup_x2 A0.1 A0.2.1 hdg rfl rfl rfl (k p l e R s m args below meth c G N0 S0 Q H locs ls A0 lo hP wf hS hN hZ)
theorem xv_cV6v {sc : Nat × (Nat → Int32)} {d d1 : Nat} {J J1 : xv_J} {pc : Nat} {lv : List (Option Value)} {st : List Value} {u : xv_M} {n1 s1 n2 s2 : Nat} {P : xv_P} {b ci index : Nat} {x1 x2 x3 x4 x5 x6 : Value} {p1 : xv_M → Prop} (hM : xv_C sc d1 J1 [.ref b, x1, x2, x3, x4, x5, x6] u n2 s2 (xv_pv p1)) (hm : xv_mV J1 6) (hl : Cond.methodLink J.1.cls index J1.1 ∈ xv_BIG) (hdg : decode J.2.1 pc = .ok (.invokevirtual index, 3)) (hd : d1 + 1 ≤ d) (hc : ci < xv_nc) (hci : xv_nm ci = J1.1.cls) (hk : xv_k u b = ci + 1) (hst : (st.map fun v => v.category).sum ≤ 8) (hw : n2 ≤ n1 ∧ s2 ≤ s1) (k : ∀ w : xv_M, p1 w → xv_N w = n2 → xv_S w = s2 → xv_X sc d J (pc + 3) lv st w n1 s1 P) : xv_X sc d J pc lv (x6 :: x5 :: x4 :: x3 :: x2 :: x1 :: .ref b :: st) u n1 s1 P := xv_callV (as := [x1, x2, x3, x4, x5, x6]) hM xv_pv_l hm hl rfl hd hc hci hk hst hdg hw (fun v w g1 g2 g3 => by obtain ⟨hr, hp⟩ := g1; cases hr; exact k w hp g2 g3)
def xMl (j : Nat) : Nat := ([360, 360, 9, 8, 40, 40, 6720, 6720, 6720, 24, 24, 280, 6720, 8, 8, 8, 8, 8, 8, 8, 2240, 8, 800, 63, 9, 9, 48, 48, 48] : List Nat).getD j 0
def xMk (j : Nat) : Nat := if 12 ≤ j ∧ j ≤ 15 then 101 else 100
def xMo (u : xv_M) (M : Nat) : Prop := xv_k u M = 12 ∧ ∀ j, j < 29 → xv_r u M j = some (M + (j + 1)) ∧ xv_k u (M + (j + 1)) = xMk j ∧ xv_l u (M + (j + 1)) = xMl j
theorem xm_r0 {u : xv_M} {M : Nat} (h : xMo u M) : xv_r u M 0 = some (M + 1) := (h.2 0 (by decide)).1
theorem xm_k0 {u : xv_M} {M : Nat} (h : xMo u M) : xv_k u (M + 1) = 100 := (h.2 0 (by decide)).2.1
theorem xm_i0 {u : xv_M} {M : Nat} {x : Int32} (h : xMo u M) (hx : vp_in x 360) : vp_in x (xv_l u (M + 1)) := by
  rw [show xv_l u (M + 1) = 360 from (h.2 0 (by decide)).2.2]
  exact hx
theorem xm_r1 {u : xv_M} {M : Nat} (h : xMo u M) : xv_r u M 1 = some (M + 2) := (h.2 1 (by decide)).1
theorem xm_k1 {u : xv_M} {M : Nat} (h : xMo u M) : xv_k u (M + 2) = 100 := (h.2 1 (by decide)).2.1
theorem xm_i1 {u : xv_M} {M : Nat} {x : Int32} (h : xMo u M) (hx : vp_in x 360) : vp_in x (xv_l u (M + 2)) := by
  rw [show xv_l u (M + 2) = 360 from (h.2 1 (by decide)).2.2]
  exact hx
theorem xm_r2 {u : xv_M} {M : Nat} (h : xMo u M) : xv_r u M 2 = some (M + 3) := (h.2 2 (by decide)).1
theorem xm_k2 {u : xv_M} {M : Nat} (h : xMo u M) : xv_k u (M + 3) = 100 := (h.2 2 (by decide)).2.1
theorem xm_i2 {u : xv_M} {M : Nat} {x : Int32} (h : xMo u M) (hx : vp_in x 9) : vp_in x (xv_l u (M + 3)) := by
  rw [show xv_l u (M + 3) = 9 from (h.2 2 (by decide)).2.2]
  exact hx
theorem xm_r3 {u : xv_M} {M : Nat} (h : xMo u M) : xv_r u M 3 = some (M + 4) := (h.2 3 (by decide)).1
theorem xm_k3 {u : xv_M} {M : Nat} (h : xMo u M) : xv_k u (M + 4) = 100 := (h.2 3 (by decide)).2.1
theorem xm_i3 {u : xv_M} {M : Nat} {x : Int32} (h : xMo u M) (hx : vp_in x 8) : vp_in x (xv_l u (M + 4)) := by
  rw [show xv_l u (M + 4) = 8 from (h.2 3 (by decide)).2.2]
  exact hx
theorem xm_r4 {u : xv_M} {M : Nat} (h : xMo u M) : xv_r u M 4 = some (M + 5) := (h.2 4 (by decide)).1
theorem xm_k4 {u : xv_M} {M : Nat} (h : xMo u M) : xv_k u (M + 5) = 100 := (h.2 4 (by decide)).2.1
theorem xm_i4 {u : xv_M} {M : Nat} {x : Int32} (h : xMo u M) (hx : vp_in x 40) : vp_in x (xv_l u (M + 5)) := by
  rw [show xv_l u (M + 5) = 40 from (h.2 4 (by decide)).2.2]
  exact hx
theorem xm_r5 {u : xv_M} {M : Nat} (h : xMo u M) : xv_r u M 5 = some (M + 6) := (h.2 5 (by decide)).1
theorem xm_k5 {u : xv_M} {M : Nat} (h : xMo u M) : xv_k u (M + 6) = 100 := (h.2 5 (by decide)).2.1
theorem xm_i5 {u : xv_M} {M : Nat} {x : Int32} (h : xMo u M) (hx : vp_in x 40) : vp_in x (xv_l u (M + 6)) := by
  rw [show xv_l u (M + 6) = 40 from (h.2 5 (by decide)).2.2]
  exact hx
theorem xm_r6 {u : xv_M} {M : Nat} (h : xMo u M) : xv_r u M 6 = some (M + 7) := (h.2 6 (by decide)).1
theorem xm_k6 {u : xv_M} {M : Nat} (h : xMo u M) : xv_k u (M + 7) = 100 := (h.2 6 (by decide)).2.1
theorem xm_i6 {u : xv_M} {M : Nat} {x : Int32} (h : xMo u M) (hx : vp_in x 6720) : vp_in x (xv_l u (M + 7)) := by
  rw [show xv_l u (M + 7) = 6720 from (h.2 6 (by decide)).2.2]
  exact hx
theorem xm_r7 {u : xv_M} {M : Nat} (h : xMo u M) : xv_r u M 7 = some (M + 8) := (h.2 7 (by decide)).1
theorem xm_k7 {u : xv_M} {M : Nat} (h : xMo u M) : xv_k u (M + 8) = 100 := (h.2 7 (by decide)).2.1
theorem xm_i7 {u : xv_M} {M : Nat} {x : Int32} (h : xMo u M) (hx : vp_in x 6720) : vp_in x (xv_l u (M + 8)) := by
  rw [show xv_l u (M + 8) = 6720 from (h.2 7 (by decide)).2.2]
  exact hx
theorem xm_r8 {u : xv_M} {M : Nat} (h : xMo u M) : xv_r u M 8 = some (M + 9) := (h.2 8 (by decide)).1
theorem xm_k8 {u : xv_M} {M : Nat} (h : xMo u M) : xv_k u (M + 9) = 100 := (h.2 8 (by decide)).2.1
theorem xm_i8 {u : xv_M} {M : Nat} {x : Int32} (h : xMo u M) (hx : vp_in x 6720) : vp_in x (xv_l u (M + 9)) := by
  rw [show xv_l u (M + 9) = 6720 from (h.2 8 (by decide)).2.2]
  exact hx
theorem xm_r9 {u : xv_M} {M : Nat} (h : xMo u M) : xv_r u M 9 = some (M + 10) := (h.2 9 (by decide)).1
theorem xm_k9 {u : xv_M} {M : Nat} (h : xMo u M) : xv_k u (M + 10) = 100 := (h.2 9 (by decide)).2.1
theorem xm_i9 {u : xv_M} {M : Nat} {x : Int32} (h : xMo u M) (hx : vp_in x 24) : vp_in x (xv_l u (M + 10)) := by
  rw [show xv_l u (M + 10) = 24 from (h.2 9 (by decide)).2.2]
  exact hx
theorem xm_r10 {u : xv_M} {M : Nat} (h : xMo u M) : xv_r u M 10 = some (M + 11) := (h.2 10 (by decide)).1
theorem xm_k10 {u : xv_M} {M : Nat} (h : xMo u M) : xv_k u (M + 11) = 100 := (h.2 10 (by decide)).2.1
theorem xm_i10 {u : xv_M} {M : Nat} {x : Int32} (h : xMo u M) (hx : vp_in x 24) : vp_in x (xv_l u (M + 11)) := by
  rw [show xv_l u (M + 11) = 24 from (h.2 10 (by decide)).2.2]
  exact hx
theorem xm_r11 {u : xv_M} {M : Nat} (h : xMo u M) : xv_r u M 11 = some (M + 12) := (h.2 11 (by decide)).1
theorem xm_k11 {u : xv_M} {M : Nat} (h : xMo u M) : xv_k u (M + 12) = 100 := (h.2 11 (by decide)).2.1
theorem xm_i11 {u : xv_M} {M : Nat} {x : Int32} (h : xMo u M) (hx : vp_in x 280) : vp_in x (xv_l u (M + 12)) := by
  rw [show xv_l u (M + 12) = 280 from (h.2 11 (by decide)).2.2]
  exact hx
theorem xm_r12 {u : xv_M} {M : Nat} (h : xMo u M) : xv_r u M 12 = some (M + 13) := (h.2 12 (by decide)).1
theorem xm_k12 {u : xv_M} {M : Nat} (h : xMo u M) : xv_k u (M + 13) = 101 := (h.2 12 (by decide)).2.1
theorem xm_i12 {u : xv_M} {M : Nat} {x : Int32} (h : xMo u M) (hx : vp_in x 6720) : vp_in x (xv_l u (M + 13)) := by
  rw [show xv_l u (M + 13) = 6720 from (h.2 12 (by decide)).2.2]
  exact hx
theorem xm_r13 {u : xv_M} {M : Nat} (h : xMo u M) : xv_r u M 13 = some (M + 14) := (h.2 13 (by decide)).1
theorem xm_k13 {u : xv_M} {M : Nat} (h : xMo u M) : xv_k u (M + 14) = 101 := (h.2 13 (by decide)).2.1
theorem xm_i13 {u : xv_M} {M : Nat} {x : Int32} (h : xMo u M) (hx : vp_in x 8) : vp_in x (xv_l u (M + 14)) := by
  rw [show xv_l u (M + 14) = 8 from (h.2 13 (by decide)).2.2]
  exact hx
theorem xm_r14 {u : xv_M} {M : Nat} (h : xMo u M) : xv_r u M 14 = some (M + 15) := (h.2 14 (by decide)).1
theorem xm_k14 {u : xv_M} {M : Nat} (h : xMo u M) : xv_k u (M + 15) = 101 := (h.2 14 (by decide)).2.1
theorem xm_i14 {u : xv_M} {M : Nat} {x : Int32} (h : xMo u M) (hx : vp_in x 8) : vp_in x (xv_l u (M + 15)) := by
  rw [show xv_l u (M + 15) = 8 from (h.2 14 (by decide)).2.2]
  exact hx
theorem xm_r15 {u : xv_M} {M : Nat} (h : xMo u M) : xv_r u M 15 = some (M + 16) := (h.2 15 (by decide)).1
theorem xm_k15 {u : xv_M} {M : Nat} (h : xMo u M) : xv_k u (M + 16) = 101 := (h.2 15 (by decide)).2.1
theorem xm_i15 {u : xv_M} {M : Nat} {x : Int32} (h : xMo u M) (hx : vp_in x 8) : vp_in x (xv_l u (M + 16)) := by
  rw [show xv_l u (M + 16) = 8 from (h.2 15 (by decide)).2.2]
  exact hx
theorem xm_r16 {u : xv_M} {M : Nat} (h : xMo u M) : xv_r u M 16 = some (M + 17) := (h.2 16 (by decide)).1
theorem xm_k16 {u : xv_M} {M : Nat} (h : xMo u M) : xv_k u (M + 17) = 100 := (h.2 16 (by decide)).2.1
theorem xm_i16 {u : xv_M} {M : Nat} {x : Int32} (h : xMo u M) (hx : vp_in x 8) : vp_in x (xv_l u (M + 17)) := by
  rw [show xv_l u (M + 17) = 8 from (h.2 16 (by decide)).2.2]
  exact hx
theorem xm_r17 {u : xv_M} {M : Nat} (h : xMo u M) : xv_r u M 17 = some (M + 18) := (h.2 17 (by decide)).1
theorem xm_k17 {u : xv_M} {M : Nat} (h : xMo u M) : xv_k u (M + 18) = 100 := (h.2 17 (by decide)).2.1
theorem xm_i17 {u : xv_M} {M : Nat} {x : Int32} (h : xMo u M) (hx : vp_in x 8) : vp_in x (xv_l u (M + 18)) := by
  rw [show xv_l u (M + 18) = 8 from (h.2 17 (by decide)).2.2]
  exact hx
theorem xm_r18 {u : xv_M} {M : Nat} (h : xMo u M) : xv_r u M 18 = some (M + 19) := (h.2 18 (by decide)).1
theorem xm_k18 {u : xv_M} {M : Nat} (h : xMo u M) : xv_k u (M + 19) = 100 := (h.2 18 (by decide)).2.1
theorem xm_i18 {u : xv_M} {M : Nat} {x : Int32} (h : xMo u M) (hx : vp_in x 8) : vp_in x (xv_l u (M + 19)) := by
  rw [show xv_l u (M + 19) = 8 from (h.2 18 (by decide)).2.2]
  exact hx
theorem xm_r19 {u : xv_M} {M : Nat} (h : xMo u M) : xv_r u M 19 = some (M + 20) := (h.2 19 (by decide)).1
theorem xm_k19 {u : xv_M} {M : Nat} (h : xMo u M) : xv_k u (M + 20) = 100 := (h.2 19 (by decide)).2.1
theorem xm_i19 {u : xv_M} {M : Nat} {x : Int32} (h : xMo u M) (hx : vp_in x 8) : vp_in x (xv_l u (M + 20)) := by
  rw [show xv_l u (M + 20) = 8 from (h.2 19 (by decide)).2.2]
  exact hx
theorem xm_r20 {u : xv_M} {M : Nat} (h : xMo u M) : xv_r u M 20 = some (M + 21) := (h.2 20 (by decide)).1
theorem xm_k20 {u : xv_M} {M : Nat} (h : xMo u M) : xv_k u (M + 21) = 100 := (h.2 20 (by decide)).2.1
theorem xm_i20 {u : xv_M} {M : Nat} {x : Int32} (h : xMo u M) (hx : vp_in x 2240) : vp_in x (xv_l u (M + 21)) := by
  rw [show xv_l u (M + 21) = 2240 from (h.2 20 (by decide)).2.2]
  exact hx
theorem xm_r21 {u : xv_M} {M : Nat} (h : xMo u M) : xv_r u M 21 = some (M + 22) := (h.2 21 (by decide)).1
theorem xm_k21 {u : xv_M} {M : Nat} (h : xMo u M) : xv_k u (M + 22) = 100 := (h.2 21 (by decide)).2.1
theorem xm_i21 {u : xv_M} {M : Nat} {x : Int32} (h : xMo u M) (hx : vp_in x 8) : vp_in x (xv_l u (M + 22)) := by
  rw [show xv_l u (M + 22) = 8 from (h.2 21 (by decide)).2.2]
  exact hx
theorem xm_r22 {u : xv_M} {M : Nat} (h : xMo u M) : xv_r u M 22 = some (M + 23) := (h.2 22 (by decide)).1
theorem xm_k22 {u : xv_M} {M : Nat} (h : xMo u M) : xv_k u (M + 23) = 100 := (h.2 22 (by decide)).2.1
theorem xm_i22 {u : xv_M} {M : Nat} {x : Int32} (h : xMo u M) (hx : vp_in x 800) : vp_in x (xv_l u (M + 23)) := by
  rw [show xv_l u (M + 23) = 800 from (h.2 22 (by decide)).2.2]
  exact hx
theorem xm_r23 {u : xv_M} {M : Nat} (h : xMo u M) : xv_r u M 23 = some (M + 24) := (h.2 23 (by decide)).1
theorem xm_k23 {u : xv_M} {M : Nat} (h : xMo u M) : xv_k u (M + 24) = 100 := (h.2 23 (by decide)).2.1
theorem xm_i23 {u : xv_M} {M : Nat} {x : Int32} (h : xMo u M) (hx : vp_in x 63) : vp_in x (xv_l u (M + 24)) := by
  rw [show xv_l u (M + 24) = 63 from (h.2 23 (by decide)).2.2]
  exact hx
theorem xm_r24 {u : xv_M} {M : Nat} (h : xMo u M) : xv_r u M 24 = some (M + 25) := (h.2 24 (by decide)).1
theorem xm_k24 {u : xv_M} {M : Nat} (h : xMo u M) : xv_k u (M + 25) = 100 := (h.2 24 (by decide)).2.1
theorem xm_i24 {u : xv_M} {M : Nat} {x : Int32} (h : xMo u M) (hx : vp_in x 9) : vp_in x (xv_l u (M + 25)) := by
  rw [show xv_l u (M + 25) = 9 from (h.2 24 (by decide)).2.2]
  exact hx
theorem xm_r25 {u : xv_M} {M : Nat} (h : xMo u M) : xv_r u M 25 = some (M + 26) := (h.2 25 (by decide)).1
theorem xm_k25 {u : xv_M} {M : Nat} (h : xMo u M) : xv_k u (M + 26) = 100 := (h.2 25 (by decide)).2.1
theorem xm_i25 {u : xv_M} {M : Nat} {x : Int32} (h : xMo u M) (hx : vp_in x 9) : vp_in x (xv_l u (M + 26)) := by
  rw [show xv_l u (M + 26) = 9 from (h.2 25 (by decide)).2.2]
  exact hx
theorem xm_r26 {u : xv_M} {M : Nat} (h : xMo u M) : xv_r u M 26 = some (M + 27) := (h.2 26 (by decide)).1
theorem xm_k26 {u : xv_M} {M : Nat} (h : xMo u M) : xv_k u (M + 27) = 100 := (h.2 26 (by decide)).2.1
theorem xm_i26 {u : xv_M} {M : Nat} {x : Int32} (h : xMo u M) (hx : vp_in x 48) : vp_in x (xv_l u (M + 27)) := by
  rw [show xv_l u (M + 27) = 48 from (h.2 26 (by decide)).2.2]
  exact hx
theorem xm_r27 {u : xv_M} {M : Nat} (h : xMo u M) : xv_r u M 27 = some (M + 28) := (h.2 27 (by decide)).1
theorem xm_k27 {u : xv_M} {M : Nat} (h : xMo u M) : xv_k u (M + 28) = 100 := (h.2 27 (by decide)).2.1
theorem xm_i27 {u : xv_M} {M : Nat} {x : Int32} (h : xMo u M) (hx : vp_in x 48) : vp_in x (xv_l u (M + 28)) := by
  rw [show xv_l u (M + 28) = 48 from (h.2 27 (by decide)).2.2]
  exact hx
theorem xm_r28 {u : xv_M} {M : Nat} (h : xMo u M) : xv_r u M 28 = some (M + 29) := (h.2 28 (by decide)).1
theorem xm_k28 {u : xv_M} {M : Nat} (h : xMo u M) : xv_k u (M + 29) = 100 := (h.2 28 (by decide)).2.1
theorem xm_i28 {u : xv_M} {M : Nat} {x : Int32} (h : xMo u M) (hx : vp_in x 48) : vp_in x (xv_l u (M + 29)) := by
  rw [show xv_l u (M + 29) = 48 from (h.2 28 (by decide)).2.2]
  exact hx
theorem xSame_Mo {S : Nat → Prop} {u w : xv_M} {M : Nat} (z : xSame S u w) (hS : ¬ S M) (h : xMo u M) : xMo w M := ⟨by rw [xSame_k z]; exact h.1, fun j hj => ⟨by rw [xSame_r z hS]; exact (h.2 j hj).1, by rw [xSame_k z]; exact (h.2 j hj).2.1, by rw [xSame_l z]; exact (h.2 j hj).2.2⟩⟩
theorem xSi_Mo {S : Nat → Prop} {u w : xv_M} {M : Nat} (z : xSi S u w) (h : xMo u M) : xMo w M := by
  obtain ⟨a1, a2, a3, a4, a5, a6, a7⟩ := z
  unfold xMo
  rw [a3, a4, a5]
  exact h

