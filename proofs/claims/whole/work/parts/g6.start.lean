/-! the law from its entry to its end -/
theorem lw_law {sc : Nat × (Nat → Int32)} {d n1 s1 : Nat} {P : xv_P} (hL : sc.1 ≤ 2560) (hd : 100 ≤ d) (hn : 754 ≤ n1) (hs : 55520 ≤ s1) (hP : ∀ w, xv_N w ≤ n1 → xv_S w ≤ s1 → P (.inl (some (.int 1))) w) : xv_X sc d J_Law_law 0 [some (.retAddr 9), none, none, none, none, none, none] [] xv_0 n1 s1 P :=
  lw_start_open hd (by omega) (by omega) (fun u hT hN hS => lw_loop_open (h := 0) (N := 1) (M := 210) hL hd hP (fun u i j5 j6 H h1 h2 => lw_cI hd h1 h2 H) (fun u i j5 j6 H h1 h2 => lw_cR hd h1 h2 H) 513 0 u none none hT (by omega) (by omega) (by omega) (by omega))
/-! what holds at the law's entry -/
theorem lw_t (k : Nat) {w : Cond} (h : tables_1[k]? = some w) : w ∈ lw_tbl := List.mem_append_right _ (List.mem_of_getElem? h)
set_option maxRecDepth 100000 in
theorem lw_inst (c : Nat) (hc : c < xv_nc) : ∃ n, Cond.instantiable (xv_nm c) n ∈ xv_BIG := by
  rcases (by unfold xv_nc at hc; omega : c = 0 ∨ c = 1 ∨ c = 2 ∨ c = 3 ∨ c = 4 ∨ c = 5 ∨ c = 6 ∨ c = 7 ∨ c = 8 ∨ c = 9 ∨ c = 10 ∨ c = 11 ∨ c = 12 ∨ c = 13 ∨ c = 14) with rfl | rfl | rfl | rfl | rfl | rfl | rfl | rfl | rfl | rfl | rfl | rfl | rfl | rfl | rfl
  · exact ⟨5, xv_in 32 rfl rfl⟩
  · exact ⟨3, xv_in 76 rfl rfl⟩
  · exact ⟨3, xv_in 93 rfl rfl⟩
  · exact ⟨3, xv_in 64 rfl rfl⟩
  · exact ⟨4, xv_in 171 rfl rfl⟩
  · exact ⟨10, xv_in 165 rfl rfl⟩
  · exact ⟨4, xv_in 120 rfl rfl⟩
  · exact ⟨4, xv_in 147 rfl rfl⟩
  · exact ⟨6, xv_in 139 rfl rfl⟩
  · exact ⟨2, xv_in 282 rfl rfl⟩
  · exact ⟨8, xv_in 24 rfl rfl⟩
  · exact ⟨37, xv_in 809 rfl rfl⟩
  · exact ⟨6, xv_in 589 rfl rfl⟩
  · exact ⟨6, xv_in 743 rfl rfl⟩
  · exact ⟨6, xv_in 788 rfl rfl⟩
section START
variable {s : State} {args : Array Value}
theorem lw_D (hts : ∀ w ∈ xv_BIG, w.before args s = true) : ∃ D : va_G, ∀ (c : Nat) (q : vw_C), xv_cl[c]? = some q → u_Kn s q.1 q.2.1 q.2.2 (D.1 c) (D.2 c) := by
  have h : ∀ c : Nat, ∃ r : ClassId × (Nat → Nat), ∀ q : vw_C, xv_cl[c]? = some q → u_Kn s q.1 q.2.1 q.2.2 r.1 r.2 := by
    intro c
    by_cases hc : c < xv_nc
    · obtain ⟨n, hn⟩ := lw_inst c hc
      obtain ⟨cC, iS, hK⟩ := u_known hts (xv_cls c hc).1 (hts _ hn)
      exact ⟨(cC, iS), fun q hq => by cases (xv_cl_at hc).symm.trans hq; exact hK⟩
    · exact ⟨(0, fun _ => 0), fun q hq => absurd (List.getElem?_eq_some_iff.mp hq).1 hc⟩
  exact ⟨(fun c => (Classical.choose (h c)).1, fun c => (Classical.choose (h c)).2), fun c q hq => Classical.choose_spec (h c) q hq⟩
theorem lw_arrP {ty : FieldType} (hp : ∀ C, ty ≠ .object C) (h : (Cond.arrayClass ty).before args s = true) : ∃ cA, ArrOfT s cA ty ∧ va_RA s cA ty := by
  obtain ⟨cA, kA, comp, h1, h2, h3⟩ := Cond.arrayClass_spec h
  refine ⟨cA, fun n z => ⟨fun k h => (by cases h), kA, h2, comp, h3⟩, ?_⟩
  cases ty <;> first | exact h1 | exact absurd rfl (hp _)
theorem lw_arrO {C : String} (h : (Cond.arrayOver (.object C)).before args s = true) : ∃ cA, ArrOfT s cA (.object C) ∧ va_RA s cA (.object C) := by
  obtain ⟨comp, cA, kA, h1, -, h2, h3, h4⟩ := Cond.arrayOver_spec h
  exact ⟨cA, fun n z => ⟨fun k h => (by cases h), kA, h2, comp, h3⟩, kA, comp, h2, h3, h1, h4⟩
theorem lw_st {C n : String} {N : Nat} {f : Nat → Int32} {A : Nat → Prop} (hA : ∀ a : Nat, a < s.heap.size → ¬ A a) (hN : N < 2 ^ 31) (hl : (Cond.laysStatic C n "[I").before args s = true) (hini : (Cond.initialized C).before args s = true) (harr : (Cond.arrayOf (.static C n "[I") .int).before args s = true) (hlen : (Cond.eq (.length (.static C n "[I")) (.int (Int32.ofNat N))).before args s = true) (hel : ∀ j : Nat, j < N → (Cond.eq (.elem (.static C n "[I") (.int (Int32.ofNat j))) (.int (f j))).before args s = true) : ∃ t : Nat, va_Z C n "[I" (.ref t) A s s.heap ∧ va_T .int t N (fun j => .int (f j)) A s s.heap := by
  obtain ⟨t, h1, h2⟩ := va_Tof hN harr (va_eqt hlen) (fun j hj => va_eqt (hel j hj)) hA
  exact ⟨t, va_Zref hl hini h1 hA, h2⟩
end START
def lw_fl : List Cond := flatC (Jvm.Cond.and given_1 narrow_1)
theorem lw_e0 : ∀ j : Nat, j < 18 → Cond.eq (.elem (.static "FaslDesk$Form" "PARTS" "[I") (.int (Int32.ofNat j))) (.int (xv_sf 0 j)) ∈ lw_fl := by decide +kernel
theorem lw_a0 : Cond.arrayOf (.static "FaslDesk$Form" "PARTS" "[I") .int ∈ lw_fl ∧ Cond.eq (.length (.static "FaslDesk$Form" "PARTS" "[I")) (.int (Int32.ofNat 18)) ∈ lw_fl := by decide +kernel
theorem lw_e1 : ∀ j : Nat, j < 22 → Cond.eq (.elem (.static "FaslDesk$Code" "TAKES" "[I") (.int (Int32.ofNat j))) (.int (xv_sf 1 j)) ∈ lw_fl := by decide +kernel
theorem lw_a1 : Cond.arrayOf (.static "FaslDesk$Code" "TAKES" "[I") .int ∈ lw_fl ∧ Cond.eq (.length (.static "FaslDesk$Code" "TAKES" "[I")) (.int (Int32.ofNat 22)) ∈ lw_fl := by decide +kernel
theorem lw_e2 : ∀ j : Nat, j < 22 → Cond.eq (.elem (.static "FaslDesk$Code" "LEAVES" "[I") (.int (Int32.ofNat j))) (.int (xv_sf 2 j)) ∈ lw_fl := by decide +kernel
theorem lw_a2 : Cond.arrayOf (.static "FaslDesk$Code" "LEAVES" "[I") .int ∈ lw_fl ∧ Cond.eq (.length (.static "FaslDesk$Code" "LEAVES" "[I")) (.int (Int32.ofNat 22)) ∈ lw_fl := by decide +kernel
theorem lw_no : Cond.not (.castable (xv_nm 12) (xv_nm 13)) ∈ lw_fl ∧ Cond.not (.castable (xv_nm 12) (xv_nm 14)) ∈ lw_fl ∧ Cond.not (.castable (xv_nm 13) (xv_nm 12)) ∈ lw_fl ∧ Cond.not (.castable (xv_nm 13) (xv_nm 14)) ∈ lw_fl ∧ Cond.not (.castable (xv_nm 14) (xv_nm 12)) ∈ lw_fl ∧ Cond.not (.castable (xv_nm 14) (xv_nm 13)) ∈ lw_fl := by decide +kernel
theorem lw_ir : Cond.isRef (.static Bundle.tN "UNASSIGNED_STACK" Bundle.steD) ∈ lw_fl ∧ Cond.isRef (.static Bundle.tN "SUPPRESSED_SENTINEL" Bundle.listD) ∈ lw_fl := by decide +kernel
theorem lw_sx : ∀ q ∈ xv_strs, Cond.exactly (.string q.1 q.2.1) "java/lang/String" ∈ lw_fl := by decide +kernel
theorem lw_sw : ∀ q ∈ xv_strs, Cond.stringRef q.1 q.2.1 q.2.2 ∈ lw_tbl := by decide +kernel
theorem lw_nest : ∀ w ∈ xv_nest, w ∈ lw_tbl ∧ w.onTables = true := by decide +kernel

