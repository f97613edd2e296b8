/-! what the tables and the start give, in the layer's form -/
theorem lw_thw : ∀ w ∈ xv_thw, w ∈ lw_tbl := by decide +kernel
theorem lw_ra : ∀ C ∈ xv_ra, Cond.arrayOver (.object C) ∈ lw_tbl := by decide +kernel
section START2
variable {s : State} {args : Array Value}
theorem lw_Ng (hs : ∀ w ∈ lw_fl, w.before args s = true) : xv_Ng s := by
  obtain ⟨n1, n2, n3, n4, n5, n6⟩ := lw_no
  intro i j a1 a2 b1 b2 hne
  rcases (by omega : i = 12 ∨ i = 13 ∨ i = 14) with rfl | rfl | rfl
  · rcases (by omega : j = 13 ∨ j = 14) with rfl | rfl
    · exact va_Nc.of (C := xv_nm 12) (T := xv_nm 13) (hs _ n1)
    · exact va_Nc.of (C := xv_nm 12) (T := xv_nm 14) (hs _ n2)
  · rcases (by omega : j = 12 ∨ j = 14) with rfl | rfl
    · exact va_Nc.of (C := xv_nm 13) (T := xv_nm 12) (hs _ n3)
    · exact va_Nc.of (C := xv_nm 13) (T := xv_nm 14) (hs _ n4)
  · rcases (by omega : j = 12 ∨ j = 13) with rfl | rfl
    · exact va_Nc.of (C := xv_nm 14) (T := xv_nm 12) (hs _ n5)
    · exact va_Nc.of (C := xv_nm 14) (T := xv_nm 13) (hs _ n6)
set_option maxRecDepth 100000 in
theorem lw_Th {G : xv_G} (hA : ∀ a : Nat, a < s.heap.size → ¬ xv_A G a) (hts : ∀ w ∈ lw_tbl, w.before args s = true) (hs : ∀ w ∈ lw_fl, w.before args s = true) : xv_Th G s s.heap := by
  have l1 : (Cond.laysStatic Bundle.tN "UNASSIGNED_STACK" Bundle.steD).before args s = true := hts _ (lw_t 615 rfl)
  have l2 : (Cond.laysStatic Bundle.tN "SUPPRESSED_SENTINEL" Bundle.listD).before args s = true := hts _ (lw_t 617 rfl)
  have li : (Cond.initialized Bundle.tN).before args s = true := hts _ (lw_t 14 rfl)
  refine ⟨fun w hw => va_Nw.of (xv_thw_ok w hw).1 (hts w (lw_thw w hw)), ⟨va_Zqof l1 li (hs _ lw_ir.1) hA, xv_SL_of l1 hA⟩, ⟨va_Zqof l2 li (hs _ lw_ir.2) hA, xv_SL_of l2 hA⟩, fun q hq => ?_⟩
  obtain ⟨a, _, _, _, he, -⟩ := Cond.exactly_spec (hs _ (lw_sx q hq))
  exact ⟨a, vk_R.of (hts _ (lw_sw q hq)) he⟩
set_option maxRecDepth 100000 in
theorem lw_K {b L : Nat} {xs : Nat → Int32} (hts : ∀ w ∈ lw_tbl, w.before args s = true) (hs : ∀ w ∈ lw_fl, w.before args s = true) (hX : va_X b L xs s s.heap) (hb : b < s.heap.size) : ∃ G : xv_G, xv_B G = s.heap.size ∧ xv_ex G 9 = b ∧ G.2.2.2.2 = (L, xs) ∧ xv_K G s s.heap := by
  have htb : ∀ w ∈ xv_BIG, w.before args s = true := fun w hw => hts w (List.mem_filter.mp hw).1
  have hA : ∀ a : Nat, a < s.heap.size → ¬ (fun q : Nat => s.heap.size ≤ q) a := fun a h => Nat.not_le.mpr h
  obtain ⟨D, hD⟩ := lw_D htb
  obtain ⟨a0, q0⟩ := lw_arrP (ty := .int) (fun _ h => by cases h) (hts _ (lw_t 62 rfl))
  obtain ⟨a1, q1⟩ := lw_arrP (ty := .boolean) (fun _ h => by cases h) (hts _ (lw_t 254 rfl))
  obtain ⟨a2, q2⟩ := lw_arrP (ty := .long) (fun _ h => by cases h) (hts _ (lw_t 1066 rfl))
  obtain ⟨a3, q3⟩ := lw_arrO (C := "FaslDesk$Form") (hts _ (lw_t 70 rfl))
  obtain ⟨a4, q4⟩ := lw_arrO (C := "FaslDesk$Frame") (hts _ (lw_t 72 rfl))
  obtain ⟨a5, q5⟩ := lw_arrO (C := "FaslDesk$OpenForms") (hts _ (lw_t 74 rfl))
  obtain ⟨a6, q6⟩ := lw_arrO (C := "FaslDesk$Entry") (hts _ (lw_t 145 rfl))
  obtain ⟨a7, q7⟩ := lw_arrO (C := "FaslDesk$Code") (hts _ (lw_t 288 rfl))
  obtain ⟨t0, z0, y0⟩ := lw_st (C := "FaslDesk$Form") (n := "PARTS") (N := 18) (f := xv_sf 0) hA (by decide) (hts _ (lw_t 360 rfl)) (hts _ (lw_t 2 rfl)) (hs _ lw_a0.1) (hs _ lw_a0.2) (fun j hj => hs _ (lw_e0 j hj))
  obtain ⟨t1, z1, y1⟩ := lw_st (C := "FaslDesk$Code") (n := "TAKES") (N := 22) (f := xv_sf 1) hA (by decide) (hts _ (lw_t 404 rfl)) (hts _ (lw_t 10 rfl)) (hs _ lw_a1.1) (hs _ lw_a1.2) (fun j hj => hs _ (lw_e1 j hj))
  obtain ⟨t2, z2, y2⟩ := lw_st (C := "FaslDesk$Code") (n := "LEAVES") (N := 22) (f := xv_sf 2) hA (by decide) (hts _ (lw_t 402 rfl)) (hts _ (lw_t 10 rfl)) (hs _ lw_a2.1) (hs _ lw_a2.2) (fun j hj => hs _ (lw_e2 j hj))
  refine ⟨(s.heap.size, fun k => [t0, t1, t2].getD k b, fun k => [a0, a1, a2, a3, a4, a5, a6, a7].getD k 0, D, L, xs), rfl, rfl, rfl, ⟨hD, fun k q hq => ?_⟩, fun w hw => va_Nw.of (lw_nest w hw).2 (hts w (lw_nest w hw).1), fun k hk => ?_, ⟨hX, hb, hA b hb⟩, fun C hC => ?_, Nat.le_refl _, lw_Th hA hts hs, lw_Ng hs⟩
  · have hk : k < 8 := (List.getElem?_eq_some_iff.mp hq).1
    rcases (by omega : k = 0 ∨ k = 1 ∨ k = 2 ∨ k = 3 ∨ k = 4 ∨ k = 5 ∨ k = 6 ∨ k = 7) with rfl | rfl | rfl | rfl | rfl | rfl | rfl | rfl
    · cases hq; exact q0
    · cases hq; exact q1
    · cases hq; exact q2
    · cases hq; exact q3
    · cases hq; exact q4
    · cases hq; exact q5
    · cases hq; exact q6
    · cases hq; exact q7
  · rcases (by unfold xv_ns at hk; omega : k = 0 ∨ k = 1 ∨ k = 2) with rfl | rfl | rfl
    · exact ⟨z0, y0⟩
    · exact ⟨z1, y1⟩
    · exact ⟨z2, y2⟩
  · have h5 : ∀ C ∈ xv_ra, Cond.arrayOver (.object C) ∈ lw_tbl := lw_ra
    exact va_AO.of (hts _ (h5 C hC))
end START2

