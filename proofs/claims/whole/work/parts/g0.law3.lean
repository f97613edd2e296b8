/-! the law: its loop -/
theorem lw_end {i L : Nat} (hi : i ≤ 3000) (hL : L ≤ 2560) : (nI L - 5 < nI i) ↔ L < i + 5 := by
  by_cases c : 5 ≤ L
  · rw [show (5 : Int32) = nI 5 from rfl, nI_subN c, nI_ltI (by omega) (by omega)]
    omega
  · have key : ∀ L, L < 5 → nI L - 5 < 0 := by decide +kernel
    have h0 : (0 : Int32) ≤ nI i := nI_pos' (by omega)
    exact ⟨fun _ => by omega, fun _ => Int32.lt_of_lt_of_le (key L (by omega)) h0⟩
theorem lw_next {sc : Nat × (Nat → Int32)} {d : Nat} {u : xv_M} {h M i n1 s1 : Nat} {P : xv_P} {j5 j6 : Option Value} (k : xv_X sc d J_Law_law 23 [some (.retAddr 9), some (.ref h), some (.ref M), some (.ref (M + 30)), some (.int (nI (i + 5))), j5, j6] [] u n1 s1 P) : xv_X sc d J_Law_law 647 [some (.retAddr 9), some (.ref h), some (.ref M), some (.ref (M + 30)), some (.int (nI i)), j5, j6] [] u n1 s1 P := by
  have es : nI i + Int32.ofInt 5 = nI (i + 5) := nI_add i 5
  refine xv_iinc_4 (pc := 647) (nI (i + 5)) d_Law_law_647 es (by decide) rfl ?_
  refine xv_goto (pc := 650) 23 d_Law_law_650 (by decide) ?_
  exact k
theorem lw_loop_open {sc : Nat × (Nat → Int32)} {d : Nat} {h N M n1 s1 : Nat} {P : xv_P} (hL : sc.1 ≤ 2560) (hd : 100 ≤ d) (hP : ∀ w, xv_N w ≤ n1 → xv_S w ≤ s1 → P (.inl (some (.int 1))) w) (hI : ∀ (u : xv_M) (i : Nat) (j5 j6 : Option Value), yTi u h N M → xv_N u + 1 ≤ n1 → xv_S u + 6 ≤ s1 → yHr sc d 217 J_Model_interpret h N M [some (.retAddr 9), some (.ref h), some (.ref M), some (.ref (M + 30)), some (.int (nI i)), j5, j6] u n1 s1 P) (hR : ∀ (u : xv_M) (i : Nat) (j5 j6 : Option Value), yTi u h N M → xv_N u + 1 ≤ n1 → xv_S u + 6 ≤ s1 → yHr sc d 470 J_Model_run h N M [some (.retAddr 9), some (.ref h), some (.ref M), some (.ref (M + 30)), some (.int (nI i)), j5, j6] u n1 s1 P) : ∀ (r i : Nat) (u : xv_M) (j5 j6 : Option Value), yTi u h N M → i ≤ 2600 → sc.1 < i + 5 * r + 5 → xv_N u + r ≤ n1 → xv_S u + 6 * r ≤ s1 → xv_X sc d J_Law_law 23 [some (.retAddr 9), some (.ref h), some (.ref M), some (.ref (M + 30)), some (.int (nI i)), j5, j6] [] u n1 s1 P := by
  intro r
  induction r with
  | zero =>
    intro i u j5 j6 H hi hr hN hS
    refine xv_iload (pc := 23) d_Law_law_23 rfl ?_
    refine xv_aloadE_n (pc := 25) d_Law_law_25 rfl rfl ?_
    refine xv_slen (pc := 26) d_Law_law_26 ?_
    refine xv_iconst (pc := 27) 5 d_Law_law_27 (by decide) ?_
    refine xv_isub (pc := 28) d_Law_law_28 ?_
    refine xv_icmp_gt (pc := 29) 653 d_Law_law_29 (by decide) (fun h29 => ?_) (fun h29 => ?_)
    · refine xv_iconst (pc := 653) 1 d_Law_law_653 (by decide) ?_
      exact xv_retz (pc := 654) d_Law_law_654 rfl (by decide) (by omega) (by omega) (hP u (by omega) (by omega))
    · exact absurd ((lw_end (by omega) hL).mpr (by omega)) h29
  | succ r ih =>
    intro i u j5 j6 H hi hr hN hS
    refine xv_iload (pc := 23) d_Law_law_23 rfl ?_
    refine xv_aloadE_n (pc := 25) d_Law_law_25 rfl rfl ?_
    refine xv_slen (pc := 26) d_Law_law_26 ?_
    refine xv_iconst (pc := 27) 5 d_Law_law_27 (by decide) ?_
    refine xv_isub (pc := 28) d_Law_law_28 ?_
    refine xv_icmp_gt (pc := 29) 653 d_Law_law_29 (by decide) (fun h29 => ?_) (fun h29 => ?_)
    · refine xv_iconst (pc := 653) 1 d_Law_law_653 (by decide) ?_
      exact xv_retz (pc := 654) d_Law_law_654 rfl (by decide) (by omega) (by omega) (hP u (by omega) (by omega))
    have hi5 : i + 5 ≤ sc.1 := by
      by_cases q : sc.1 < i + 5
      · exact absurd ((lw_end (by omega) hL).mpr q) h29
      · omega
    have nx : ∀ (w : xv_M) (j5 j6 : Option Value), yTi w h N M → xv_N w ≤ xv_N u + 1 → xv_S w ≤ xv_S u + 6 → xv_X sc d J_Law_law 647 [some (.retAddr 9), some (.ref h), some (.ref M), some (.ref (M + 30)), some (.int (nI i)), j5, j6] [] w n1 s1 P := fun w j5 j6 Hw h1 h2 => lw_next (ih (i + 5) w j5 j6 Hw (by omega) (by omega) (by omega) (by omega))
    refine xv_aloadE_n (pc := 32) d_Law_law_32 rfl rfl ?_
    refine xv_iload (pc := 33) d_Law_law_33 rfl ?_
    refine xv_sld (pc := 35) d_Law_law_35 (by exact vp_in_nI (by omega) (by omega)) ?_
    refine xv_bipush (pc := 36) 15 d_Law_law_36 (by decide) ?_
    refine xv_iand (pc := 38) d_Law_law_38 ?_
    generalize sc.2 (nI i).toNatClampNeg &&& 15 = x

    by_cases e0 : x = 0
    · subst e0
      refine xv_tableIn (pc := 39) (off := 65) 104 d_Law_law_39 (by decide) (by decide) (by decide) (by decide) ?_
      exact lw_token hL hi5 hd (by omega) (by omega) H (fun w Hw h1 h2 => nx w j5 j6 Hw (by omega) (by omega))
    by_cases e1 : x = 1
    · subst e1
      refine xv_tableIn (pc := 39) (off := 102) 141 d_Law_law_39 (by decide) (by decide) (by decide) (by decide) ?_
      exact lw_define hL hi5 hd (by omega) (by omega) H (fun w Hw h1 h2 => nx w j5 j6 Hw (by omega) (by omega))
    by_cases e2 : x = 2
    · subst e2
      refine xv_tableIn (pc := 39) (off := 139) 178 d_Law_law_39 (by decide) (by decide) (by decide) (by decide) ?_
      exact lw_clear hL hi5 hd (by omega) (by omega) H (fun w Hw h1 h2 => nx w j5 j6 Hw (by omega) (by omega))
    by_cases e3 : x = 3
    · subst e3
      refine xv_tableIn (pc := 39) (off := 152) 191 d_Law_law_39 (by decide) (by decide) (by decide) (by decide) ?_
      exact lw_interpret_open hL hi5 hd (by omega) (by omega) H (hI u i j5 j6 H (by omega) (by omega)) (fun w j5 j6 Hw h1 h2 => nx w j5 j6 Hw (by omega) (by omega))
    by_cases e4 : x = 4
    · subst e4
      refine xv_tableIn (pc := 39) (off := 244) 283 d_Law_law_39 (by decide) (by decide) (by decide) (by decide) ?_
      exact lw_compile hL hi5 hd (by omega) (by omega) H (fun w Hw h1 h2 => nx w j5 j6 Hw (by omega) (by omega))
    by_cases e5 : x = 5
    · subst e5
      refine xv_tableIn (pc := 39) (off := 269) 308 d_Law_law_39 (by decide) (by decide) (by decide) (by decide) ?_
      exact lw_damage hL hi5 hd (by omega) (by omega) H (fun w Hw h1 h2 => nx w j5 j6 Hw (by omega) (by omega))
    by_cases e6 : x = 6
    · subst e6
      refine xv_tableIn (pc := 39) (off := 318) 357 d_Law_law_39 (by decide) (by decide) (by decide) (by decide) ?_
      exact lw_forge hL hi5 hd (by omega) (by omega) H (fun w Hw h1 h2 => nx w j5 j6 Hw (by omega) (by omega))
    by_cases e7 : x = 7
    · subst e7
      refine xv_tableIn (pc := 39) (off := 367) 406 d_Law_law_39 (by decide) (by decide) (by decide) (by decide) ?_
      exact lw_drop hL hi5 hd (by omega) (by omega) H (fun w Hw h1 h2 => nx w j5 j6 Hw (by omega) (by omega))
    by_cases e8 : x = 8
    · subst e8
      refine xv_tableIn (pc := 39) (off := 392) 431 d_Law_law_39 (by decide) (by decide) (by decide) (by decide) ?_
      exact lw_load hL hi5 hd (by omega) (by omega) H (fun w Hw h1 h2 => nx w j5 j6 Hw (by omega) (by omega))
    by_cases e9 : x = 9
    · subst e9
      refine xv_tableIn (pc := 39) (off := 405) 444 d_Law_law_39 (by decide) (by decide) (by decide) (by decide) ?_
      exact lw_run_open hL hi5 hd (by omega) (by omega) H (hR u i j5 j6 H (by omega) (by omega)) (fun w j5 j6 Hw h1 h2 => nx w j5 j6 Hw (by omega) (by omega))
    by_cases e10 : x = 10
    · subst e10
      refine xv_tableIn (pc := 39) (off := 497) 536 d_Law_law_39 (by decide) (by decide) (by decide) (by decide) ?_
      exact lw_entry hL hi5 hd (by omega) (by omega) H (fun w Hw h1 h2 => nx w j5 j6 Hw (by omega) (by omega))
    by_cases e11 : x = 11
    · subst e11
      refine xv_tableIn (pc := 39) (off := 534) 573 d_Law_law_39 (by decide) (by decide) (by decide) (by decide) ?_
      exact lw_unit hL hi5 hd (by omega) (by omega) H (fun w Hw h1 h2 => nx w j5 j6 Hw (by omega) (by omega))
    by_cases e12 : x = 12
    · subst e12
      refine xv_tableIn (pc := 39) (off := 583) 622 d_Law_law_39 (by decide) (by decide) (by decide) (by decide) ?_
      exact lw_count hL hi5 hd (by omega) (by omega) H (fun w Hw h1 h2 => nx w j5 j6 Hw (by omega) (by omega))
    refine xv_tableTo (pc := 39) 647 [0, 1, 2, 3, 4, 5, 6, 7, 8, 9, 10, 11, 12] d_Law_law_39 (by decide) (by decide) (by decide) ?_ (nx u j5 j6 H (by omega) (by omega))
    intro k hk q
    have key : ∀ n : Nat, n < 13 → x.toInt = (n : Int) → x = nI n := fun n hn e => Int32.toInt_inj.mp (by rw [e, nI_toInt (by omega)])
    simp only [List.mem_cons, List.not_mem_nil, or_false] at hk
    rcases hk with rfl | rfl | rfl | rfl | rfl | rfl | rfl | rfl | rfl | rfl | rfl | rfl | rfl
    · exact e0 (key 0 (by omega) q)
    · exact e1 (key 1 (by omega) q)
    · exact e2 (key 2 (by omega) q)
    · exact e3 (key 3 (by omega) q)
    · exact e4 (key 4 (by omega) q)
    · exact e5 (key 5 (by omega) q)
    · exact e6 (key 6 (by omega) q)
    · exact e7 (key 7 (by omega) q)
    · exact e8 (key 8 (by omega) q)
    · exact e9 (key 9 (by omega) q)
    · exact e10 (key 10 (by omega) q)
    · exact e11 (key 11 (by omega) q)
    · exact e12 (key 12 (by omega) q)

