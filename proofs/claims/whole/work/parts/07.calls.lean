/-! new cells, contracts, calls -/
section NEWC
variable {p : Program} {l : Launch} {e : Env} {R : Room} {s : State} {m : MethodId} {args : Array Value} {below : List Frame} {meth : Method} {c : Code} {H : Heap} {locs : List Loc} {cells slots : Nat} {Q Q' : State → Prop}
theorem xv_Wsz {g : JFrame} (k : H.size ≤ s.heap.size + cells → W p l e R s m args below meth c H locs cells slots Q g) : W p l e R s m args below meth c H locs cells slots Q g :=
  fun T hT X => k (by rw [← hT]; exact X.heapSize) T hT X
theorem xv_Wmono {g : JFrame} (h : ∀ t, Q t → Q' t) (k : W p l e R s m args below meth c H locs cells slots Q g) : W p l e R s m args below meth c H locs cells slots Q' g := by
  intro T hT X
  obtain ⟨t, a, b⟩ := k T hT X
  exact ⟨t, a, h t b⟩
theorem xv_sz {G : xv_G} {u : xv_M} {N0 : Nat} (hs : s.heap.size = xv_B G + N0) (hN : N0 ≤ xv_N u) (hP : va_P (xv_dG G) xv_cl (xv_ws G u) H) (hS : va_S (xv_A G) s.heap H locs) (hle : H.size ≤ s.heap.size + (xv_N u - N0)) : H.size = xv_B G + xv_N u := by
  have h1 : xv_B G + xv_N u ≤ H.size := by
    by_cases h0 : xv_N u = 0
    · have := hS.1
      omega
    · have h2 : xv_N u - 1 < xv_N u := by omega
      have h3 := (hP _ _ (xv_ws_get h2)).lt
      have h3 : xv_B G + (xv_N u - 1) < H.size := h3
      omega
  omega
end NEWC
section NEWR
variable {sc : Nat × (Nat → Int32)} {d : Nat} {J : xv_J} {pc : Nat} {lv : List (Option Value)} {st : List Value} {u : xv_M} {n1 s1 : Nat} {P : xv_P}
theorem xv_pushed {G : xv_G} {H H1 : Heap} {s : State} {locs : List Loc} {u w : xv_M} {e : va_E} (hsz : H.size = xv_B G + xv_N u) (hP : va_P (xv_dG G) xv_cl (xv_ws G u) H) (o1 : ∀ q, q < xv_B G + xv_N u → H1[q]? = H[q]?) (h1 : va_at (xv_dG G) xv_cl (xv_B G + xv_N u, e) H1) (hN : xv_N w = xv_N u + 1) (he : xv_E G w (xv_N u) = e) (ho : ∀ b, b < xv_N u → xv_E G w b = xv_E G u b) : va_P (xv_dG G) xv_cl (xv_ws G w) H1 := by
  rw [← xv_ws_push (G := G) (u := u) (e := e) hN he ho]
  refine (hP.kept (fun k x hx => o1 x.1 (by have := (hP k x hx).lt; omega))).app (fun k x hx => ?_)
  have hz : k < 1 := (List.getElem?_eq_some_iff.mp hx).1
  rw [show k = 0 by omega] at hx
  cases hx
  exact h1
theorem xv_pushS {G : xv_G} {H H1 : Heap} {s : State} {locs : List Loc} {n : Nat} (hS : va_S (xv_A G) s.heap H locs) (hsz : H.size = n) (z1 : H1.size = n + 1) (o1 : ∀ q, q < n → H1[q]? = H[q]?) : va_S (xv_A G) s.heap H1 locs :=
  ⟨Nat.le_trans hS.1 (by omega), fun x h1 h2 => (o1 x (by have := hS.1; omega)).trans (hS.2.1 x h1 h2), hS.2.2⟩
theorem xv_newO {ci index sl : Nat} (hdg : decode J.2.1 pc = .ok (.new index, 3)) (hc : ci < xv_nc) (hl : Cond.classLink J.1.cls index (xv_nm ci) ∈ xv_BIG) (hi : Cond.instantiable (xv_nm ci) sl ∈ xv_BIG) (hn : Cond.initialized (xv_nm ci) ∈ xv_BIG) (h1 : xv_N u + 1 ≤ n1) (h2 : xv_S u + sl ≤ s1)
    (k : xv_X sc d J (pc + 3) lv (.ref (xv_N u) :: st) (xv_nw u (ci + 1) 0 sl) n1 s1 P) : xv_X sc d J pc lv st u n1 s1 P := by
  intro p l e R s m args below meth c G N0 S0 Q H locs ls A0 lo hP wf hS hN hZ
  refine xv_Wsz fun hle => ?_
  have hA := id A0
  obtain ⟨hx, hb, -, -, hown, hts, -, -, hK, hR, hs, -⟩ := hA
  have hsz := xv_sz hs hN hP hS hle
  have hKn := hK.1.1 ci _ (xv_cl_at hc)
  refine W.newcK (h := xv_B G + xv_N u) (g := F0 m pc ls (st.map (xv_cv G))) hx hb hown (hts _ hl) (hts _ hi) (hts _ hn) rfl hdg (by omega) (by omega) hKn.2.1 hsz fun H1 kC hkC e1 z1 o1 => ?_
  refine W.cs (cells' := xv_N (xv_nw u (ci + 1) 0 sl) - N0) (slots' := xv_S (xv_nw u (ci + 1) 0 sl) - S0) (by show _ = xv_N u + 1 - N0; omega) (by show _ = xv_S u + sl - S0; omega) ?_
  refine k p l e R s m args below meth c G N0 S0 Q H1 locs ls A0 lo ?_ (xv_wf_nw wf) (xv_pushS hS hsz z1 o1) (by show N0 ≤ xv_N u + 1; omega) (by show S0 ≤ xv_S u + sl; omega)
  have hk : xv_k (xv_nw u (ci + 1) 0 sl) (xv_N u) = ci + 1 := if_pos rfl
  refine xv_pushed (s := s) (locs := locs) hsz hP o1 ?_ rfl (xv_E_obj hk (Nat.lt_of_lt_of_le hc xv_nc_le)) (fun b hb => xv_nw_E hb)
  refine ⟨_, xv_cl_at hc, (u_born (xv_ty ci) hts (xv_cls ci hc).1 hKn hkC e1 (xv_cls ci hc).2.1).to (fun j hj => ?_)⟩
  show _ = (xv_fs G (xv_nw u (ci + 1) 0 sl) (xv_N u) ci).getD j .null
  rw [List.getD_eq_getElem?_getD, xv_fs_get hj]
  have hd := xv_cls4 ci hc j hj
  show defaultValue (xv_ty ci j) = xv_fv G (xv_nw u (ci + 1) 0 sl) (xv_N u) ci j
  unfold xv_fv
  rw [hd]
  have er : xv_r (xv_nw u (ci + 1) 0 sl) (xv_N u) j = none := if_pos rfl
  have ei : xv_i (xv_nw u (ci + 1) 0 sl) (xv_N u) j = 0 := if_pos rfl
  rw [er, ei]
  rfl
theorem xv_newI {n : Int32} {N' : Nat} (hdg : decode J.2.1 pc = .ok (.newarray .int, 2)) (hw : Cond.arrayClass .int ∈ xv_BIG) (hn : ¬ n < 0) (hN' : n.toNatClampNeg = N') (hb' : N' ≤ 100000) (h1 : xv_N u + 1 ≤ n1) (h2 : xv_S u + N' ≤ s1)
    (k : xv_X sc d J (pc + 2) lv (.ref (xv_N u) :: st) (xv_nw u 100 N' N') n1 s1 P) : xv_X sc d J pc lv (.int n :: st) u n1 s1 P := by
  intro p l e R s m args below meth c G N0 S0 Q H locs ls A0 lo hP wf hS hN hZ
  refine xv_Wsz fun hle => ?_
  have hA := id A0
  obtain ⟨hx, hb, -, -, hown, hts, -, -, hK, hR, hs, -⟩ := hA
  have hsz := xv_sz hs hN hP hS hle
  refine va_newaK (atype := .int) (N := N') (h := xv_B G + xv_N u) (g := F0 m pc ls (.int n :: st.map (xv_cv G))) hx hb (hts _ hw) rfl hdg rfl hn hN' (by show N' * 4 ≤ 536870912; omega) (by omega) (by omega) hsz fun H1 cA e1 z1 o1 hAr hNm => ?_
  refine W.cs (cells' := xv_N (xv_nw u 100 N' N') - N0) (slots' := xv_S (xv_nw u 100 N' N') - S0) (by show _ = xv_N u + 1 - N0; omega) (by show _ = xv_S u + N' - S0; omega) ?_
  refine k p l e R s m args below meth c G N0 S0 Q H1 locs ls A0 lo ?_ (xv_wf_nw wf) (xv_pushS hS hsz z1 o1) (by show N0 ≤ xv_N u + 1; omega) (by show S0 ≤ xv_S u + N'; omega)
  have hk : xv_k (xv_nw u 100 N' N') (xv_N u) = 100 + 0 := if_pos rfl
  have hcA : cA = xv_cA G 0 := Option.some.inj (hNm.symm.trans (hK.1.2 0 _ rfl).2)
  refine xv_pushed (s := s) (locs := locs) hsz hP o1 ?_ rfl (xv_E_int hk (by omega)) (fun b hb => xv_nw_E hb)
  show H1[xv_B G + xv_N u]? = some (vp_cell _ _)
  rw [vp_cell_i, e1, hcA]
  have el : xv_l (xv_nw u 100 N' N') (xv_N u) = N' := if_pos rfl
  have ei : xv_i (xv_nw u 100 N' N') (xv_N u) = fun _ => 0 := funext fun q => if_pos rfl
  rw [el, ei]
  rfl
theorem xv_newZ {n : Int32} {N' : Nat} (hdg : decode J.2.1 pc = .ok (.newarray .boolean, 2)) (hw : Cond.arrayClass .boolean ∈ xv_BIG) (hn : ¬ n < 0) (hN' : n.toNatClampNeg = N') (hb' : N' ≤ 100000) (h1 : xv_N u + 1 ≤ n1) (h2 : xv_S u + N' ≤ s1)
    (k : xv_X sc d J (pc + 2) lv (.ref (xv_N u) :: st) (xv_nw u 101 N' N') n1 s1 P) : xv_X sc d J pc lv (.int n :: st) u n1 s1 P := by
  intro p l e R s m args below meth c G N0 S0 Q H locs ls A0 lo hP wf hS hN hZ
  refine xv_Wsz fun hle => ?_
  have hA := id A0
  obtain ⟨hx, hb, -, -, hown, hts, -, -, hK, hR, hs, -⟩ := hA
  have hsz := xv_sz hs hN hP hS hle
  refine va_newaK (atype := .boolean) (N := N') (h := xv_B G + xv_N u) (g := F0 m pc ls (.int n :: st.map (xv_cv G))) hx hb (hts _ hw) rfl hdg rfl hn hN' (by show N' * 1 ≤ 536870912; omega) (by omega) (by omega) hsz fun H1 cA e1 z1 o1 hAr hNm => ?_
  refine W.cs (cells' := xv_N (xv_nw u 101 N' N') - N0) (slots' := xv_S (xv_nw u 101 N' N') - S0) (by show _ = xv_N u + 1 - N0; omega) (by show _ = xv_S u + N' - S0; omega) ?_
  refine k p l e R s m args below meth c G N0 S0 Q H1 locs ls A0 lo ?_ (xv_wf_nw wf) (xv_pushS hS hsz z1 o1) (by show N0 ≤ xv_N u + 1; omega) (by show S0 ≤ xv_S u + N'; omega)
  have hk : xv_k (xv_nw u 101 N' N') (xv_N u) = 100 + 1 := if_pos rfl
  have hcA : cA = xv_cA G 1 := Option.some.inj (hNm.symm.trans (hK.1.2 1 _ rfl).2)
  refine xv_pushed (s := s) (locs := locs) hsz hP o1 ?_ rfl (xv_E_int hk (by omega)) (fun b hb => xv_nw_E hb)
  show H1[xv_B G + xv_N u]? = some (vp_cell _ _)
  rw [vp_cell_i, e1, hcA]
  have el : xv_l (xv_nw u 101 N' N') (xv_N u) = N' := if_pos rfl
  have ei : xv_i (xv_nw u 101 N' N') (xv_N u) = fun _ => 0 := funext fun q => if_pos rfl
  rw [el, ei]
  rfl
theorem xv_newR {n : Int32} {N' t index : Nat} {C : String} (hdg : decode J.2.1 pc = .ok (.anewarray index, 3)) (ht : xv_ra[t]? = some C) (hl : Cond.classLink J.1.cls index C ∈ xv_BIG) (hn : ¬ n < 0) (hN' : n.toNatClampNeg = N') (hb' : N' ≤ 100000) (h1 : xv_N u + 1 ≤ n1) (h2 : xv_S u + N' ≤ s1)
    (k : xv_X sc d J (pc + 3) lv (.ref (xv_N u) :: st) (xv_nw u (103 + t) N' N') n1 s1 P) : xv_X sc d J pc lv (.int n :: st) u n1 s1 P := by
  intro p l e R s m args below meth c G N0 S0 Q H locs ls A0 lo hP wf hS hN hZ
  refine xv_Wsz fun hle => ?_
  have hA := id A0
  obtain ⟨hx, hb, -, -, hown, hts, -, -, hK, hR, hs, -⟩ := hA
  have hsz := xv_sz hs hN hP hS hle
  have hAO := hK.2.2.2.2.1 C (List.mem_of_getElem? ht)
  subst hN'
  refine W.anew (g := F0 m pc ls (.int n :: st.map (xv_cv G))) hx hb hown (hts _ hl) (va_AO.use hAO) rfl hdg rfl hn (by omega) (by omega) (by omega) fun cA kA comp f1 f2 f3 f4 => ?_
  generalize hH1 : H.push ({ cls := cA, slots := Array.replicate n.toNatClampNeg .null, vm := .none } : Cell) = H1
  have z1 : H1.size = xv_B G + xv_N u + 1 := by rw [← hH1, Array.size_push, hsz]
  have e1 : H1[xv_B G + xv_N u]? = some (arrV cA n.toNatClampNeg (fun _ => .null)) := by rw [← hH1, ← hsz, Array.getElem?_push_size, ← arrV_new]
  have o1 : ∀ q : Nat, q < xv_B G + xv_N u → H1[q]? = H[q]? := fun q hq => by rw [← hH1, Array.getElem?_push, if_neg (by omega)]
  rw [hsz]
  refine W.cs (cells' := xv_N (xv_nw u (103 + t) n.toNatClampNeg n.toNatClampNeg) - N0) (slots' := xv_S (xv_nw u (103 + t) n.toNatClampNeg n.toNatClampNeg) - S0) (by show _ = xv_N u + 1 - N0; omega) (by show _ = xv_S u + n.toNatClampNeg - S0; omega) ?_
  refine k p l e R s m args below meth c G N0 S0 Q H1 locs ls A0 lo ?_ (xv_wf_nw wf) (xv_pushS hS hsz z1 o1) (by show N0 ≤ xv_N u + 1; omega) (by show S0 ≤ xv_S u + n.toNatClampNeg; omega)
  have hk : xv_k (xv_nw u (103 + t) n.toNatClampNeg n.toNatClampNeg) (xv_N u) = 103 + t := if_pos rfl
  obtain ⟨kA', comp', g1, g2, g3, g4⟩ := (hK.1.2 (3 + t) _ (xv_tys_at ht)).2
  have hcA : cA = xv_cA G (3 + t) := Option.some.inj (f1.symm.trans g4)
  refine xv_pushed (s := s) (locs := locs) hsz hP o1 ?_ rfl (xv_E_ref hk) (fun b hb => xv_nw_E hb)
  show H1[xv_B G + xv_N u]? = some (vp_cell _ _)
  rw [vp_cell_q, e1, hcA]
  have el : xv_l (xv_nw u (103 + t) n.toNatClampNeg n.toNatClampNeg) (xv_N u) = n.toNatClampNeg := if_pos rfl
  have er : ∀ j, xv_r (xv_nw u (103 + t) n.toNatClampNeg n.toNatClampNeg) (xv_N u) j = none := fun q => if_pos rfl
  simp only [el, er]
  rfl
theorem xv_obj {a idx : Nat} (hdg : decode J.2.1 pc = .ok (.invokespecial idx, 3)) (h1 : Cond.methodLink J.1.cls idx Lib.objectInit ∈ xv_BIG) (h2 : Cond.instanceMethod Lib.objectInit ∈ xv_BIG) (h3 : Cond.code Lib.objectInit ⟨#[0xb1]⟩ 1 none ∈ xv_BIG) (hd : 1 ≤ d) (hst : (st.map fun v => v.category).sum ≤ 8) (k : xv_X sc d J (pc + 3) lv st u n1 s1 P) : xv_X sc d J pc lv (.ref a :: st) u n1 s1 P := by
  intro p l e R s m args below meth c G N0 S0 Q H locs ls A0 lo hP wf hS hN hZ
  have hA := id A0
  obtain ⟨hx, hb, -, hml, hown, hts, -, -, hK, hR, hs, -⟩ := hA
  refine W.objInit (g := F0 m pc ls (.ref (xv_B G + a) :: st.map (xv_cv G))) hx hb hown (hts _ h1) (hts _ h2) (hts _ h3) rfl (by rw [hml]; exact lo.1) rfl hdg (by omega) ?_ (k p l e R s m args below meth c G N0 S0 Q H locs ls A0 lo hP wf hS hN hZ)
  show 2 * 0 + _ + 12 ≤ _
  have : ((st.map (xv_cv G)).map fun v => v.category) = st.map fun v => v.category := by
    rw [List.map_map]
    exact List.map_congr_left (fun v _ => xv_cat G v)
  rw [this]
  omega
end NEWR
/-! contracts -/
def xv_Pc (G : xv_G) (as : List Value) (u : xv_M) : Array Value → State → Prop := fun v U => v = (as.map (xv_cv G)).toArray ∧ U.heap.size = xv_B G + xv_N u ∧ va_P (xv_dG G) xv_cl (xv_ws G u) U.heap ∧ xv_wf u ∧ xv_K G U U.heap
def xv_oc (G : xv_G) (o : xv_O) (oc : Outcome) (w : xv_M) : Prop := match o with
  | .inl v => oc = .returned (v.map (xv_cv G))
  | .inr q => oc = .threw (xv_B G + q.2) ∧ xv_k w q.2 = q.1 + 1
def xv_Qb (G : xv_G) (n1 s1 : Nat) (P : xv_P) : Array Value → State → Outcome → State → Prop := fun _ st oc t => ∃ (o : xv_O) (w : xv_M), P o w ∧ xv_N w = n1 ∧ xv_S w = s1 ∧ xv_wf w ∧ va_P (xv_dG G) xv_cl (xv_ws G w) t.heap ∧ va_F (xv_A G) st t ∧ xv_oc G o oc w
def xv_Qx (G : xv_G) (n1 s1 : Nat) (P : xv_P) (mc ms : Nat) : Array Value → State → Outcome → State → Prop := fun a st oc t => xv_Qb G n1 s1 P a st oc t ∧ ∃ L : List Loc, (st.WarmedH t.vm ∧ st.sameButNew ({ t with vm := st.vm } : State) L mc ms) ∧ ∀ q ∈ L, xv_A G q.base
def xv_C (sc : Nat × (Nat → Int32)) (d : Nat) (J : xv_J) (as : List Value) (u : xv_M) (n1 s1 : Nat) (P : xv_P) : Prop :=
  xv_N u ≤ n1 ∧ xv_S u ≤ s1 ∧ ∀ (l : Launch) (G : xv_G), G.2.2.2.2 = sc → xv_L l → MetFree l J.1 (headSpec (xv_w J) (xv_rm d (n1 - xv_N u) (s1 - xv_S u))) (xv_Pc G as u) (fun _ _ _ _ _ => True) (xv_Qx G n1 s1 P (n1 - xv_N u) (s1 - xv_S u))
theorem xv_blind (G : xv_G) (as : List Value) (u : xv_M) : FrameBlind (xv_Pc G as u) := by
  intro a U g mk h
  obtain ⟨h1, h2, h3, h4, h5⟩ := h
  exact ⟨h1, h2, h3, h4, xv_K_moved (u := U) (U := U.calling g mk a) (State.WarmedH.refl U) h5 (Nat.le_refl _) (fun _ _ _ => rfl)⟩
