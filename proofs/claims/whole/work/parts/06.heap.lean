/-! fields, arrays, new cells -/
theorem xv_cl_at {ci : Nat} (h : ci < xv_nc) : xv_cl[ci]? = some (xv_nm ci, xv_T ci, xv_nf ci) := by
  have hl : ci < xv_cl.length := h
  unfold xv_nm xv_T xv_nf
  rw [List.getD_eq_getElem?_getD, List.getElem?_eq_getElem hl]
  rfl
section HEAP
variable {sc : Nat × (Nat → Int32)} {d : Nat} {J : xv_J} {pc : Nat} {lv : List (Option Value)} {st : List Value} {u : xv_M} {n1 s1 : Nat} {P : xv_P}
theorem xv_he {G : xv_G} {u : xv_M} {a ci : Nat} (wf : xv_wf u) (hc : ci < xv_nc) (hk : xv_k u a = ci + 1) : (xv_ws G u)[a]? = some (xv_B G + a, .inr (ci, xv_fs G u a ci)) := by
  rw [xv_ws_get (wf a (by omega)), xv_E_obj hk (Nat.lt_of_lt_of_le hc xv_nc_le)]
theorem xv_getI {a ci j index : Nat} {ty : FieldType} (hdg : decode J.2.1 pc = .ok (.getfield index, 3)) (hF : xv_Fd J.1.cls index ci j ty) (hr : ty.isReference = false) (hk : xv_k u a = ci + 1) (k : xv_X sc d J (pc + 3) lv (.int (xv_i u a j) :: st) u n1 s1 P) : xv_X sc d J pc lv (.ref a :: st) u n1 s1 P := by
  intro p l e R s m args below meth c G N0 S0 Q H locs ls A0 lo hP wf hS hN hZ
  obtain ⟨hc, hj, hty, hl⟩ := hF
  refine va_get (D := xv_dG G) (ci := ci) (C := xv_nm ci) (T := xv_T ci) (N := xv_nf ci) (v := .int (xv_i u a j)) A0.1 A0.2.1 A0.2.2.2.2.2.1 (xv_cls ci hc).1 A0.2.2.2.2.1 A0.2.2.2.2.2.2.2.2.1.1 hP a (xv_he wf hc hk) (xv_cl_at hc) j hj (A0.2.2.2.2.2.1 _ hl) (fun _ h => h) ?_ hdg (k p l e R s m args below meth c G N0 S0 Q H locs ls A0 lo hP wf hS hN hZ)
  rw [xv_fs_get hj]
  unfold xv_fv xv_rf
  rw [hty, if_neg (by rw [hr]; decide)]
theorem xv_getR {a b ci j index : Nat} {ty : FieldType} (hdg : decode J.2.1 pc = .ok (.getfield index, 3)) (hF : xv_Fd J.1.cls index ci j ty) (hr : ty.isReference = true) (hk : xv_k u a = ci + 1) (hb : xv_r u a j = some b) (k : xv_X sc d J (pc + 3) lv (.ref b :: st) u n1 s1 P) : xv_X sc d J pc lv (.ref a :: st) u n1 s1 P := by
  intro p l e R s m args below meth c G N0 S0 Q H locs ls A0 lo hP wf hS hN hZ
  obtain ⟨hc, hj, hty, hl⟩ := hF
  refine va_get (D := xv_dG G) (ci := ci) (C := xv_nm ci) (T := xv_T ci) (N := xv_nf ci) (v := .ref (xv_B G + b)) A0.1 A0.2.1 A0.2.2.2.2.2.1 (xv_cls ci hc).1 A0.2.2.2.2.1 A0.2.2.2.2.2.2.2.2.1.1 hP a (xv_he wf hc hk) (xv_cl_at hc) j hj (A0.2.2.2.2.2.1 _ hl) (fun _ h => h) ?_ hdg (k p l e R s m args below meth c G N0 S0 Q H locs ls A0 lo hP wf hS hN hZ)
  rw [xv_fs_get hj]
  unfold xv_fv xv_rf
  rw [hty, if_pos hr, hb]
  rfl
def xv_okI (ty : FieldType) (x : Int32) : Prop := ty = .int ∨ (ty = .boolean ∧ (x = 0 ∨ x = 1))
theorem xv_okI_nar {ty : FieldType} {x : Int32} (h : xv_okI ty x) : narrow ty (.int x) = .int x ∧ fits ty (.int x) = true ∧ ty.isReference = false := by
  rcases h with rfl | ⟨rfl, rfl | rfl⟩
  · exact ⟨rfl, rfl, rfl⟩
  · exact ⟨rfl, rfl, rfl⟩
  · exact ⟨rfl, rfl, rfl⟩
theorem xv_ws_si {G : xv_G} {a ci j : Nat} {x : Int32} (hc : ci < xv_nc) (hk : xv_k u a = ci + 1) (hr : xv_rf ci j = false) : (xv_ws G u).set a (xv_B G + a, .inr (ci, (xv_fs G u a ci).set j (.int x))) = xv_ws G (xv_si u a j x) := by
  refine xv_ws_set rfl ?_ (fun b hb => xv_si_E hb)
  rw [xv_E_obj (u := xv_si u a j x) hk (Nat.lt_of_lt_of_le hc xv_nc_le)]
  congr 2
  refine (xv_fs_set ?_ (fun q hq => ?_)).symm
  · unfold xv_fv
    rw [if_neg (by rw [hr]; decide)]
    simp [xv_i, xv_si, xv_mk]
  · unfold xv_fv
    have e : xv_i (xv_si u a j x) a q = xv_i u a q := if_neg (fun z => hq z.2)
    rw [e]
    rfl
theorem xv_ws_sr {G : xv_G} {a ci j : Nat} {x : Option Nat} (hc : ci < xv_nc) (hk : xv_k u a = ci + 1) (hr : xv_rf ci j = true) : (xv_ws G u).set a (xv_B G + a, .inr (ci, (xv_fs G u a ci).set j (va_rf (xv_rq G x)))) = xv_ws G (xv_sr u a j x) := by
  refine xv_ws_set rfl ?_ (fun b hb => xv_sr_E hb)
  rw [xv_E_obj (u := xv_sr u a j x) hk (Nat.lt_of_lt_of_le hc xv_nc_le)]
  congr 2
  refine (xv_fs_set ?_ (fun q hq => ?_)).symm
  · unfold xv_fv
    rw [if_pos hr]
    simp [xv_r, xv_sr, xv_mk]
  · unfold xv_fv
    have e : xv_r (xv_sr u a j x) a q = xv_r u a q := if_neg (fun z => hq z.2)
    rw [e]
    rfl
theorem xv_putI {a ci j index : Nat} {ty : FieldType} {x : Int32} (hdg : decode J.2.1 pc = .ok (.putfield index, 3)) (hF : xv_Fd J.1.cls index ci j ty) (hx : xv_okI ty x) (hfin : (xv_T ci j).2.2.2 = false) (hk : xv_k u a = ci + 1) (k : xv_X sc d J (pc + 3) lv st (xv_si u a j x) n1 s1 P) : xv_X sc d J pc lv (.int x :: .ref a :: st) u n1 s1 P := by
  intro p l e R s m args below meth c G N0 S0 Q H locs ls A0 lo hP wf hS hN hZ
  obtain ⟨hc, hj, hty, hl⟩ := hF
  obtain ⟨g1, g2, g3⟩ := xv_okI_nar hx
  refine va_put (D := xv_dG G) (ci := ci) (C := xv_nm ci) (T := xv_T ci) (N := xv_nf ci) (v := .int x) (ty := ty) A0.1 A0.2.1 A0.2.2.2.2.2.1 (xv_cls ci hc).1 (xv_ty ci) (xv_cls ci hc).2.1 (xv_cls ci hc).2.2 A0.2.2.2.2.1 A0.2.2.2.2.2.2.2.2.1.1 hP (xv_D G u) hS a (xv_he wf hc hk) (xv_cl_at hc) j hj (A0.2.2.2.2.2.1 _ hl) (fun _ h => h) hfin (by rw [(xv_cls ci hc).2.1 j hj, hty]) g1 g2 (by rw [xv_fs_len]; exact hj) hdg (fun H1 locs1 hP1 _ hS1 => ?_)
  rw [xv_ws_si hc hk (by unfold xv_rf; rw [hty]; exact g3)] at hP1
  exact k p l e R s m args below meth c G N0 S0 Q H1 locs1 ls A0 lo hP1 (xv_wf_si wf) hS1 hN hZ
theorem xv_putIF {a ci j index : Nat} {ty : FieldType} {x : Int32} (hdg : decode J.2.1 pc = .ok (.putfield index, 3)) (hF : xv_Fd J.1.cls index ci j ty) (hx : xv_okI ty x) (hfin : (xv_T ci j).2.2.2 = true) (hin : J.1.name = "<init>") (hde : (xv_T ci j).1 = J.1.cls) (hk : xv_k u a = ci + 1) (k : xv_X sc d J (pc + 3) lv st (xv_si u a j x) n1 s1 P) : xv_X sc d J pc lv (.int x :: .ref a :: st) u n1 s1 P := by
  intro p l e R s m args below meth c G N0 S0 Q H locs ls A0 lo hP wf hS hN hZ
  obtain ⟨hc, hj, hty, hl⟩ := hF
  obtain ⟨g1, g2, g3⟩ := xv_okI_nar hx
  refine va_putF (D := xv_dG G) (ci := ci) (C := xv_nm ci) (T := xv_T ci) (N := xv_nf ci) (v := .int x) (ty := ty) A0.1 A0.2.1 A0.2.2.2.2.2.1 (xv_cls ci hc).1 (xv_ty ci) (xv_cls ci hc).2.1 (xv_cls ci hc).2.2 A0.2.2.2.2.1 A0.2.2.2.2.2.2.2.2.1.1 hP (xv_D G u) hS a (xv_he wf hc hk) (xv_cl_at hc) j hj (A0.2.2.2.2.2.1 _ hl) (fun _ h => h) hfin (A0.2.2.2.2.2.2.2.1.trans hin) hde (by rw [(xv_cls ci hc).2.1 j hj, hty]) g1 g2 (by rw [xv_fs_len]; exact hj) hdg (fun H1 locs1 hP1 _ hS1 => ?_)
  rw [xv_ws_si hc hk (by unfold xv_rf; rw [hty]; exact g3)] at hP1
  exact k p l e R s m args below meth c G N0 S0 Q H1 locs1 ls A0 lo hP1 (xv_wf_si wf) hS1 hN hZ
theorem xv_isRef {ty : FieldType} {b : Nat} (h : ty.isReference = true) : narrow ty (.ref b) = .ref b ∧ fits ty (.ref b) = true := by
  cases ty <;> first | exact ⟨rfl, rfl⟩ | cases h
theorem xv_putR {a b ci j index : Nat} {ty : FieldType} (hdg : decode J.2.1 pc = .ok (.putfield index, 3)) (hF : xv_Fd J.1.cls index ci j ty) (hr : ty.isReference = true) (hfin : (xv_T ci j).2.2.2 = false) (hk : xv_k u a = ci + 1) (k : xv_X sc d J (pc + 3) lv st (xv_sr u a j (some b)) n1 s1 P) : xv_X sc d J pc lv (.ref b :: .ref a :: st) u n1 s1 P := by
  intro p l e R s m args below meth c G N0 S0 Q H locs ls A0 lo hP wf hS hN hZ
  obtain ⟨hc, hj, hty, hl⟩ := hF
  obtain ⟨g1, g2⟩ := xv_isRef (b := xv_B G + b) hr
  refine va_put (D := xv_dG G) (ci := ci) (C := xv_nm ci) (T := xv_T ci) (N := xv_nf ci) (v := .ref (xv_B G + b)) (ty := ty) A0.1 A0.2.1 A0.2.2.2.2.2.1 (xv_cls ci hc).1 (xv_ty ci) (xv_cls ci hc).2.1 (xv_cls ci hc).2.2 A0.2.2.2.2.1 A0.2.2.2.2.2.2.2.2.1.1 hP (xv_D G u) hS a (xv_he wf hc hk) (xv_cl_at hc) j hj (A0.2.2.2.2.2.1 _ hl) (fun _ h => h) hfin (by rw [(xv_cls ci hc).2.1 j hj, hty]) g1 g2 (by rw [xv_fs_len]; exact hj) hdg (fun H1 locs1 hP1 _ hS1 => ?_)
  have ee := xv_ws_sr (G := G) (x := some b) (j := j) hc hk (by unfold xv_rf; rw [hty]; exact hr)
  rw [show va_rf (xv_rq G (some b)) = Value.ref (xv_B G + b) from rfl] at ee
  rw [ee] at hP1
  exact k p l e R s m args below meth c G N0 S0 Q H1 locs1 ls A0 lo hP1 (xv_wf_sr wf) hS1 hN hZ
theorem xv_putRF {a b ci j index : Nat} {ty : FieldType} (hdg : decode J.2.1 pc = .ok (.putfield index, 3)) (hF : xv_Fd J.1.cls index ci j ty) (hr : ty.isReference = true) (hfin : (xv_T ci j).2.2.2 = true) (hin : J.1.name = "<init>") (hde : (xv_T ci j).1 = J.1.cls) (hk : xv_k u a = ci + 1) (k : xv_X sc d J (pc + 3) lv st (xv_sr u a j (some b)) n1 s1 P) : xv_X sc d J pc lv (.ref b :: .ref a :: st) u n1 s1 P := by
  intro p l e R s m args below meth c G N0 S0 Q H locs ls A0 lo hP wf hS hN hZ
  obtain ⟨hc, hj, hty, hl⟩ := hF
  obtain ⟨g1, g2⟩ := xv_isRef (b := xv_B G + b) hr
  refine va_putF (D := xv_dG G) (ci := ci) (C := xv_nm ci) (T := xv_T ci) (N := xv_nf ci) (v := .ref (xv_B G + b)) (ty := ty) A0.1 A0.2.1 A0.2.2.2.2.2.1 (xv_cls ci hc).1 (xv_ty ci) (xv_cls ci hc).2.1 (xv_cls ci hc).2.2 A0.2.2.2.2.1 A0.2.2.2.2.2.2.2.2.1.1 hP (xv_D G u) hS a (xv_he wf hc hk) (xv_cl_at hc) j hj (A0.2.2.2.2.2.1 _ hl) (fun _ h => h) hfin (A0.2.2.2.2.2.2.2.1.trans hin) hde (by rw [(xv_cls ci hc).2.1 j hj, hty]) g1 g2 (by rw [xv_fs_len]; exact hj) hdg (fun H1 locs1 hP1 _ hS1 => ?_)
  have ee := xv_ws_sr (G := G) (x := some b) (j := j) hc hk (by unfold xv_rf; rw [hty]; exact hr)
  rw [show va_rf (xv_rq G (some b)) = Value.ref (xv_B G + b) from rfl] at ee
  rw [ee] at hP1
  exact k p l e R s m args below meth c G N0 S0 Q H1 locs1 ls A0 lo hP1 (xv_wf_sr wf) hS1 hN hZ
/-! arrays -/
theorem xv_hi {G : xv_G} {u : xv_M} {a t : Nat} (wf : xv_wf u) (ht : t < 2) (hk : xv_k u a = 100 + t) : (xv_ws G u)[a]? = some (xv_B G + a, .inl (xv_cA G t, xv_l u a, .inl (xv_i u a))) := by
  rw [xv_ws_get (wf a (by omega)), xv_E_int hk ht]
theorem xv_ald {a : Nat} {x : Int32} (hdg : decode J.2.1 pc = .ok (.iaload, 1)) (hk : xv_k u a = 100) (hin : vp_in x (xv_l u a)) (k : xv_X sc d J (pc + 1) lv (.int (xv_i u a x.toNatClampNeg) :: st) u n1 s1 P) : xv_X sc d J pc lv (.int x :: .ref a :: st) u n1 s1 P := by
  intro p l e R s m args below meth c G N0 S0 Q H locs ls A0 lo hP wf hS hN hZ
  exact va_iald A0.1 A0.2.1 A0.2.2.2.2.2.2.2.2.1.1 hP a 0 (xv_hi (t := 0) wf (by omega) hk) rfl hin hdg (k p l e R s m args below meth c G N0 S0 Q H locs ls A0 lo hP wf hS hN hZ)
theorem xv_zald {a : Nat} {x : Int32} (hdg : decode J.2.1 pc = .ok (.baload, 1)) (hk : xv_k u a = 101) (hin : vp_in x (xv_l u a)) (k : xv_X sc d J (pc + 1) lv (.int (xv_i u a x.toNatClampNeg) :: st) u n1 s1 P) : xv_X sc d J pc lv (.int x :: .ref a :: st) u n1 s1 P := by
  intro p l e R s m args below meth c G N0 S0 Q H locs ls A0 lo hP wf hS hN hZ
  exact va_zald A0.1 A0.2.1 A0.2.2.2.2.2.2.2.2.1.1 hP a 1 (xv_hi (t := 1) wf (by omega) hk) rfl hin hdg (k p l e R s m args below meth c G N0 S0 Q H locs ls A0 lo hP wf hS hN hZ)
theorem xv_ws_ai {G : xv_G} {a t j : Nat} {x : Int32} (ht : t < 2) (hk : xv_k u a = 100 + t) : (xv_ws G u).set a (xv_B G + a, .inl (xv_cA G t, xv_l u a, .inl (upd (xv_i u a) j x))) = xv_ws G (xv_si u a j x) := by
  refine xv_ws_set rfl ?_ (fun b hb => xv_si_E hb)
  rw [xv_E_int (u := xv_si u a j x) hk ht]
  have ef : xv_i (xv_si u a j x) a = upd (xv_i u a) j x := by
    funext q
    by_cases hq : q = j
    · subst hq
      simp [xv_i, xv_si, xv_mk, upd]
    · have e : xv_i (xv_si u a j x) a q = xv_i u a q := if_neg (fun z => hq z.2)
      rw [e]
      simp [upd, hq]
  rw [ef]
  rfl
theorem xv_ast {a : Nat} {x y : Int32} (hdg : decode J.2.1 pc = .ok (.iastore, 1)) (hk : xv_k u a = 100) (hin : vp_in x (xv_l u a)) (k : xv_X sc d J (pc + 1) lv st (xv_si u a x.toNatClampNeg y) n1 s1 P) : xv_X sc d J pc lv (.int y :: .int x :: .ref a :: st) u n1 s1 P := by
  intro p l e R s m args below meth c G N0 S0 Q H locs ls A0 lo hP wf hS hN hZ
  refine va_iast A0.1 A0.2.1 A0.2.2.2.2.2.2.2.2.1.1 hP (xv_D G u) hS a 0 (xv_hi (t := 0) wf (by omega) hk) rfl hin hdg (fun H1 locs1 hP1 _ hS1 => ?_)
  rw [xv_ws_ai (t := 0) (by omega) hk] at hP1
  exact k p l e R s m args below meth c G N0 S0 Q H1 locs1 ls A0 lo hP1 (xv_wf_si wf) hS1 hN hZ
theorem xv_zast {a : Nat} {x y : Int32} (hdg : decode J.2.1 pc = .ok (.bastore, 1)) (hk : xv_k u a = 101) (hin : vp_in x (xv_l u a)) (hy : vp_nar .boolean y = y) (k : xv_X sc d J (pc + 1) lv st (xv_si u a x.toNatClampNeg y) n1 s1 P) : xv_X sc d J pc lv (.int y :: .int x :: .ref a :: st) u n1 s1 P := by
  intro p l e R s m args below meth c G N0 S0 Q H locs ls A0 lo hP wf hS hN hZ
  refine va_zast A0.1 A0.2.1 A0.2.2.2.2.2.2.2.2.1.1 hP (xv_D G u) hS a 1 (xv_hi (t := 1) wf (by omega) hk) rfl hin hdg (fun H1 locs1 hP1 _ hS1 => ?_)
  rw [hy, xv_ws_ai (t := 1) (by omega) hk] at hP1
  exact k p l e R s m args below meth c G N0 S0 Q H1 locs1 ls A0 lo hP1 (xv_wf_si wf) hS1 hN hZ
theorem xv_hr {G : xv_G} {u : xv_M} {a t : Nat} (wf : xv_wf u) (hk : xv_k u a = 103 + t) : (xv_ws G u)[a]? = some (xv_B G + a, .inl (xv_cA G (3 + t), xv_l u a, .inr (.inr (.inr (.inr (fun j => xv_rq G (xv_r u a j))))))) := by
  rw [xv_ws_get (wf a (by omega)), xv_E_ref hk]
theorem xv_aald {a b t : Nat} {C : String} {x : Int32} (hdg : decode J.2.1 pc = .ok (.aaload, 1)) (hk : xv_k u a = 103 + t) (ht : xv_ra[t]? = some C) (hin : vp_in x (xv_l u a)) (hb : xv_r u a x.toNatClampNeg = some b) (k : xv_X sc d J (pc + 1) lv (.ref b :: st) u n1 s1 P) : xv_X sc d J pc lv (.int x :: .ref a :: st) u n1 s1 P := by
  intro p l e R s m args below meth c G N0 S0 Q H locs ls A0 lo hP wf hS hN hZ
  refine va_aldq A0.1 A0.2.1 A0.2.2.2.2.2.2.2.2.1.1 hP a (3 + t) (C := C) (xv_hr wf hk) (xv_tys_at ht) hin hdg ?_
  rw [hb]
  exact k p l e R s m args below meth c G N0 S0 Q H locs ls A0 lo hP wf hS hN hZ
theorem xv_aast {a b t ci : Nat} {x : Int32} (hdg : decode J.2.1 pc = .ok (.aastore, 1)) (hk : xv_k u a = 103 + t) (hc : ci < xv_nc) (ht : xv_ra[t]? = some (xv_nm ci)) (hin : vp_in x (xv_l u a)) (hb : xv_k u b = ci + 1) (k : xv_X sc d J (pc + 1) lv st (xv_sr u a x.toNatClampNeg (some b)) n1 s1 P) : xv_X sc d J pc lv (.ref b :: .int x :: .ref a :: st) u n1 s1 P := by
  intro p l e R s m args below meth c G N0 S0 Q H locs ls A0 lo hP wf hS hN hZ
  refine va_astq A0.1 A0.2.1 A0.2.2.2.2.2.2.2.2.1.1 hP (xv_D G u) hS a (3 + t) b ci (r := (xv_nm ci, xv_T ci, xv_nf ci)) (xv_hr wf hk) (xv_tys_at ht) (xv_he wf hc hb) (xv_cl_at hc) hin hdg (fun H1 locs1 hP1 _ hS1 => ?_)
  have e1 : (xv_ws G u).set a (xv_B G + a, .inl (xv_cA G (3 + t), xv_l u a, .inr (.inr (.inr (.inr (va_up (fun j => xv_rq G (xv_r u a j)) x.toNatClampNeg (some (xv_B G + b)))))))) = xv_ws G (xv_sr u a x.toNatClampNeg (some b)) := by
    refine xv_ws_set rfl ?_ (fun q hq => xv_sr_E hq)
    rw [xv_E_ref (u := xv_sr u a x.toNatClampNeg (some b)) hk]
    have ef : (fun j => xv_rq G (xv_r (xv_sr u a x.toNatClampNeg (some b)) a j)) = va_up (fun j => xv_rq G (xv_r u a j)) x.toNatClampNeg (some (xv_B G + b)) := by
      funext q
      by_cases hq : q = x.toNatClampNeg
      · subst hq
        simp [xv_r, xv_sr, xv_mk, va_up, xv_rq]
      · have e : xv_r (xv_sr u a x.toNatClampNeg (some b)) a q = xv_r u a q := if_neg (fun z => hq z.2)
        rw [e]
        simp [va_up, hq]
    rw [ef]
    rfl
  rw [e1] at hP1
  exact k p l e R s m args below meth c G N0 S0 Q H1 locs1 ls A0 lo hP1 (xv_wf_sr wf) hS1 hN hZ
theorem xv_alen {a t : Nat} {v : Int32} {ty : FieldType} (hdg : decode J.2.1 pc = .ok (.arraylength, 1)) (hk : xv_k u a = 100 + t) (ht : ∀ G : xv_G, (xv_tys G)[t]? = some (xv_cA G t, ty)) (hv : Int32.ofNat (xv_l u a) = v) (k : xv_X sc d J (pc + 1) lv (.int v :: st) u n1 s1 P) : xv_X sc d J pc lv (.ref a :: st) u n1 s1 P := by
  intro p l e R s m args below meth c G N0 S0 Q H locs ls A0 lo hP wf hS hN hZ
  exact va_alen A0.1 A0.2.1 A0.2.2.2.2.2.2.2.2.1.1 hP a t (by rw [xv_ws_get (wf a (by omega)), xv_E_arr hk]) (ht G) hv hdg (k p l e R s m args below meth c G N0 S0 Q H locs ls A0 lo hP wf hS hN hZ)
/-! static tables, the script -/
theorem xv_gets {q index : Nat} (hdg : decode J.2.1 pc = .ok (.getstatic index, 3)) (hq : q < xv_ns) (hl : Cond.fieldLink J.1.cls index (xv_sC q) (xv_sn q) "[I" ∈ xv_BIG) (k : xv_X sc d J (pc + 3) lv (.retAddr q :: st) u n1 s1 P) : xv_X sc d J pc lv st u n1 s1 P := by
  intro p l e R s m args below meth c G N0 S0 Q H locs ls A0 lo hP wf hS hN hZ
  exact va_gets A0.1 A0.2.1 (A0.2.2.2.2.2.2.2.2.1.2.2.1 q hq).1 hS A0.2.2.2.2.1 (A0.2.2.2.2.2.1 _ hl) (fun _ h => h) hdg (k p l e R s m args below meth c G N0 S0 Q H locs ls A0 lo hP wf hS hN hZ)
theorem xv_aldS {q : Nat} {x : Int32} (hdg : decode J.2.1 pc = .ok (.iaload, 1)) (hq : q < xv_ns) (hin : vp_in x (xv_sN q)) (k : xv_X sc d J (pc + 1) lv (.int (xv_sf q x.toNatClampNeg) :: st) u n1 s1 P) : xv_X sc d J pc lv (.int x :: .retAddr q :: st) u n1 s1 P := by
  intro p l e R s m args below meth c G N0 S0 Q H locs ls A0 lo hP wf hS hN hZ
  exact va_ti A0.1 A0.2.1 (A0.2.2.2.2.2.2.2.2.1.2.2.1 q hq).2 hS hin rfl hdg (k p l e R s m args below meth c G N0 S0 Q H locs ls A0 lo hP wf hS hN hZ)
theorem xv_sld {x : Int32} (hdg : decode J.2.1 pc = .ok (.iaload, 1)) (hin : vp_in x sc.1) (k : xv_X sc d J (pc + 1) lv (.int (sc.2 x.toNatClampNeg) :: st) u n1 s1 P) : xv_X sc d J pc lv (.int x :: .retAddr 9 :: st) u n1 s1 P := by
  intro p l e R s m args below meth c G N0 S0 Q H locs ls A0 lo hP wf hS hN hZ
  have hsc : G.2.2.2.2 = sc := A0.2.2.2.2.2.2.2.2.2.2.2.1.1
  have hX := A0.2.2.2.2.2.2.2.2.1.2.2.2.1
  subst hsc
  exact va_sld A0.1 A0.2.1 hX.1 hX.2.1 hX.2.2 hS hin hdg (k p l e R s m args below meth c G N0 S0 Q H locs ls A0 lo hP wf hS hN hZ)
theorem xv_slen (hdg : decode J.2.1 pc = .ok (.arraylength, 1)) (k : xv_X sc d J (pc + 1) lv (.int (Int32.ofNat sc.1) :: st) u n1 s1 P) : xv_X sc d J pc lv (.retAddr 9 :: st) u n1 s1 P := by
  intro p l e R s m args below meth c G N0 S0 Q H locs ls A0 lo hP wf hS hN hZ
  have hsc : G.2.2.2.2 = sc := A0.2.2.2.2.2.2.2.2.2.2.2.1.1
  have hX := A0.2.2.2.2.2.2.2.2.1.2.2.2.1
  subst hsc
  exact va_slen A0.1 A0.2.1 hX.1 hX.2.1 hX.2.2 hS hdg (k p l e R s m args below meth c G N0 S0 Q H locs ls A0 lo hP wf hS hN hZ)
end HEAP
