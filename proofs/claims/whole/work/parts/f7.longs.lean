/-! rules for longs -/
theorem xv_hl {G : xv_G} {u : xv_M} {a : Nat} (wf : xv_wf u) (hk : xv_k u a = 102) : (xv_ws G u)[a]? = some (xv_B G + a, .inl (xv_cA G 2, xv_l u a, .inr (.inl (xv_g u a)))) := by
  rw [xv_ws_get (wf a (by omega)), xv_E_long hk]
theorem xv_lald {sc : Nat × (Nat → Int32)} {d : Nat} {J : xv_J} {pc : Nat} {lv : List (Option Value)} {st : List Value} {u : xv_M} {n1 s1 : Nat} {P : xv_P} {a : Nat} {x : Int32} (hdg : decode J.2.1 pc = .ok (.laload, 1)) (hk : xv_k u a = 102) (hin : vp_in x (xv_l u a)) (k : xv_X sc d J (pc + 1) lv (.long (xv_g u a x.toNatClampNeg) :: st) u n1 s1 P) : xv_X sc d J pc lv (.int x :: .ref a :: st) u n1 s1 P := by
  intro p l e R s m args below meth c G N0 S0 Q H locs ls A0 lo hP wf hS hN hZ
  exact va_lald A0.1 A0.2.1 A0.2.2.2.2.2.2.2.2.1.1 hP a 2 (xv_hl wf hk) rfl hin hdg (k p l e R s m args below meth c G N0 S0 Q H locs ls A0 lo hP wf hS hN hZ)
theorem xv_last {sc : Nat × (Nat → Int32)} {d : Nat} {J : xv_J} {pc : Nat} {lv : List (Option Value)} {st : List Value} {u : xv_M} {n1 s1 : Nat} {P : xv_P} {a : Nat} {x : Int32} {y : Int64} (hdg : decode J.2.1 pc = .ok (.lastore, 1)) (hk : xv_k u a = 102) (hin : vp_in x (xv_l u a)) (k : xv_X sc d J (pc + 1) lv st (xv_sg u a x.toNatClampNeg y) n1 s1 P) : xv_X sc d J pc lv (.long y :: .int x :: .ref a :: st) u n1 s1 P := by
  intro p l e R s m args below meth c G N0 S0 Q H locs ls A0 lo hP wf hS hN hZ
  refine va_last A0.1 A0.2.1 A0.2.2.2.2.2.2.2.2.1.1 hP (xv_D G u) hS a 2 (xv_hl wf hk) rfl hin hdg (fun H1 locs1 hP1 _ hS1 => ?_)
  have es : (xv_ws G u).set a (xv_B G + a, .inl (xv_cA G 2, xv_l u a, .inr (.inl (vp_updL (xv_g u a) x.toNatClampNeg y)))) = xv_ws G (xv_sg u a x.toNatClampNeg y) := by
    refine xv_ws_set rfl ?_ (fun b hb => xv_sg_E hb)
    rw [xv_E_long (u := xv_sg u a x.toNatClampNeg y) hk]
    have ef : xv_g (xv_sg u a x.toNatClampNeg y) a = vp_updL (xv_g u a) x.toNatClampNeg y := by
      funext q
      show (if a = a ∧ q = x.toNatClampNeg then y else xv_g u a q) = _
      unfold vp_updL
      by_cases hq : q = x.toNatClampNeg
      · rw [if_pos ⟨rfl, hq⟩, if_pos hq]
      · rw [if_neg (fun z => hq z.2), if_neg hq]
    rw [ef]
    rfl
  rw [es] at hP1
  exact k p l e R s m args below meth c G N0 S0 Q H1 locs1 ls A0 lo hP1 (xv_wf_sg wf) hS1 hN hZ
theorem xv_lcmp {sc : Nat × (Nat → Int32)} {d : Nat} {J : xv_J} {pc : Nat} {lv : List (Option Value)} {st : List Value} {u : xv_M} {n1 s1 : Nat} {P : xv_P} {x y : Int64} (hdg : decode J.2.1 pc = .ok (.lcmp, 1)) (k : xv_X sc d J (pc + 1) lv (.int (lg_cmp x y) :: st) u n1 s1 P) : xv_X sc d J pc lv (.long y :: .long x :: st) u n1 s1 P := by
  intro p l e R s m args below meth c G N0 S0 Q H locs ls A0 lo hP wf hS hN hZ
  exact W.lcmp A0.1 A0.2.1 hdg (k p l e R s m args below meth c G N0 S0 Q H locs ls A0 lo hP wf hS hN hZ)
theorem xv_newL {sc : Nat × (Nat → Int32)} {d : Nat} {J : xv_J} {pc : Nat} {lv : List (Option Value)} {st : List Value} {u : xv_M} {n1 s1 : Nat} {P : xv_P} {n : Int32} {N' : Nat} (hdg : decode J.2.1 pc = .ok (.newarray .long, 2)) (hw : Cond.arrayClass .long ∈ xv_BIG) (hn : ¬ n < 0) (hN' : n.toNatClampNeg = N') (hb' : N' ≤ 100000) (h1 : xv_N u + 1 ≤ n1) (h2 : xv_S u + N' ≤ s1)
    (k : xv_X sc d J (pc + 2) lv (.ref (xv_N u) :: st) (xv_nw u 102 N' N') n1 s1 P) : xv_X sc d J pc lv (.int n :: st) u n1 s1 P := by
  intro p l e R s m args below meth c G N0 S0 Q H locs ls A0 lo hP wf hS hN hZ
  refine xv_Wsz fun hle => ?_
  have hA := id A0
  obtain ⟨hx, hb, -, -, hown, hts, -, -, hK, hR, hs, -⟩ := hA
  have hsz := xv_sz hs hN hP hS hle
  refine va_newaK (atype := .long) (N := N') (h := xv_B G + xv_N u) (g := F0 m pc ls (.int n :: st.map (xv_cv G))) hx hb (hts _ hw) rfl hdg rfl hn hN' (by show N' * 8 ≤ 536870912; omega) (by omega) (by omega) hsz fun H1 cA e1 z1 o1 hAr hNm => ?_
  refine W.cs (cells' := xv_N (xv_nw u 102 N' N') - N0) (slots' := xv_S (xv_nw u 102 N' N') - S0) (by show _ = xv_N u + 1 - N0; omega) (by show _ = xv_S u + N' - S0; omega) ?_
  refine k p l e R s m args below meth c G N0 S0 Q H1 locs ls A0 lo ?_ (xv_wf_nw wf) (xv_pushS hS hsz z1 o1) (by show N0 ≤ xv_N u + 1; omega) (by show S0 ≤ xv_S u + N'; omega)
  have hk : xv_k (xv_nw u 102 N' N') (xv_N u) = 102 := if_pos rfl
  have hcA : cA = xv_cA G 2 := Option.some.inj (hNm.symm.trans (hK.1.2 2 _ rfl).2)
  refine xv_pushed (s := s) (locs := locs) hsz hP o1 ?_ rfl (xv_E_long hk) (fun b hb => xv_nw_E hb)
  show H1[xv_B G + xv_N u]? = some (vp_cell _ _)
  rw [vp_cell_l, e1, hcA]
  have el : xv_l (xv_nw u 102 N' N') (xv_N u) = N' := if_pos rfl
  have ei : xv_g (xv_nw u 102 N' N') (xv_N u) = fun _ => 0 := funext fun q => if_pos rfl
  rw [el, ei]
  rfl

