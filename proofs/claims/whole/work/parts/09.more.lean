/-! Math.max, System.arraycopy -/
section MORE
variable {sc : Nat × (Nat → Int32)} {d : Nat} {J : xv_J} {pc : Nat} {lv : List (Option Value)} {st : List Value} {u : xv_M} {n1 s1 : Nat} {P : xv_P}
theorem xv_max {index : Nat} {x y : Int32} (hdg : decode J.2.1 pc = .ok (.invokestatic index, 3)) (h1 : Cond.methodLink J.1.cls index Lib.Math.max.name ∈ xv_BIG) (h2 : Cond.static Lib.Math.max.name ∈ xv_BIG) (h3 : Cond.initialized "java/lang/Math" ∈ xv_BIG) (h4 : Cond.code Lib.Math.max.name Lib.Math.max.code 2 (some .int) ∈ xv_BIG) (hd : 1 ≤ d) (hst : (st.map fun v => v.category).sum ≤ 8) (hn : xv_N u ≤ n1 ∧ xv_S u ≤ s1)
    (k : xv_X sc d J (pc + 3) lv (.int (if x < y then y else x) :: st) u n1 s1 P) : xv_X sc d J pc lv (.int y :: .int x :: st) u n1 s1 P := by
  intro p l e R s m args below meth c G N0 S0 Q H locs ls A0 lo hP wf hS hN hZ
  have hA := id A0
  obtain ⟨hx, hb, -, hml, hown, hts, -, -, hK, hR, hs, -⟩ := hA
  exact va_mmax hx hb (by rw [hml]; exact lo.1.symm) hown (hts _ h1) (hts _ h2) (hts _ h3) (hts _ h4) (by omega) (by rw [xv_sum_cv]; omega) (by omega) (by omega) hdg (k p l e R s m args below meth c G N0 S0 Q H locs ls A0 lo hP wf hS hN hZ)
theorem xv_nfw : nativeFrameWords "java/lang/System" "arraycopy" 5 + 11 ≤ 50 := by decide +kernel
theorem xv_copy {a b index : Nat} {sp dp n : Int32} (hdg : decode J.2.1 pc = .ok (.invokestatic index, 3)) (h1 : Cond.methodLink J.1.cls index arraycopyName ∈ xv_BIG) (h2 : Cond.native arraycopyName ∈ xv_BIG) (h3 : Cond.static arraycopyName ∈ xv_BIG) (h4 : Cond.initialized "java/lang/System" ∈ xv_BIG) (hd : 1 ≤ d) (hst : (st.map fun v => v.category).sum ≤ 8)
    (ha : xv_k u a = 100) (hb' : xv_k u b = 100) (g1 : ¬ sp < 0) (g2 : ¬ dp < 0) (g3 : ¬ n < 0) (g4 : sp.toNatClampNeg + n.toNatClampNeg ≤ xv_l u a) (g5 : dp.toNatClampNeg + n.toNatClampNeg ≤ xv_l u b)
    (k : xv_X sc d J (pc + 3) lv st (xv_sw u b (va_cpy (xv_i u a) (xv_i u b) sp.toNatClampNeg dp.toNatClampNeg n.toNatClampNeg)) n1 s1 P) : xv_X sc d J pc lv (.int n :: .int dp :: .ref b :: .int sp :: .ref a :: st) u n1 s1 P := by
  intro p l e R s m args below meth c G N0 S0 Q H locs ls A0 lo hP wf hS hN hZ
  have hA := id A0
  obtain ⟨hx, hb, -, hml, hown, hts, -, -, hK, hR, hs, -⟩ := hA
  have hw := xv_nfw
  refine va_copyi (ty := .int) hx hb (by rw [hml]; exact lo.1.symm) hown (hts _ h1) (hts _ h2) (hts _ h3) (hts _ h4) hK.1 hP (xv_D G u) hS a b 0 0 (xv_hi (t := 0) wf (by omega) ha) (xv_hi (t := 0) wf (by omega) hb') rfl rfl rfl g1 g2 g3 g4 g5 (fun i _ => rfl) (by omega) (by rw [xv_sum_cv]; omega) hdg (fun H1 locs1 hP1 _ hS1 => ?_)
  have e1 : (xv_ws G u).set b (xv_B G + b, .inl (xv_cA G 0, xv_l u b, .inl (va_cpy (xv_i u a) (xv_i u b) sp.toNatClampNeg dp.toNatClampNeg n.toNatClampNeg))) = xv_ws G (xv_sw u b (va_cpy (xv_i u a) (xv_i u b) sp.toNatClampNeg dp.toNatClampNeg n.toNatClampNeg)) := by
    refine xv_ws_set rfl ?_ (fun q hq => xv_sw_E hq)
    rw [xv_E_int (t := 0) (u := xv_sw u b (va_cpy (xv_i u a) (xv_i u b) sp.toNatClampNeg dp.toNatClampNeg n.toNatClampNeg)) hb' (by omega)]
    have ef : xv_i (xv_sw u b (va_cpy (xv_i u a) (xv_i u b) sp.toNatClampNeg dp.toNatClampNeg n.toNatClampNeg)) b = va_cpy (xv_i u a) (xv_i u b) sp.toNatClampNeg dp.toNatClampNeg n.toNatClampNeg := by
      funext q
      exact if_pos rfl
    rw [ef]
    rfl
  rw [e1] at hP1
  exact k p l e R s m args below meth c G N0 S0 Q H1 locs1 ls A0 lo hP1 (xv_wf_sw wf) hS1 hN hZ
end MORE
