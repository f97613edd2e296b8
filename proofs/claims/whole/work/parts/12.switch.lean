/-! pure rows on memories -/
theorem xv_ne {u : xv_M} {a b i j : Nat} (h1 : xv_k u a = i) (h2 : xv_k u b = j) (h : i ≠ j) : a ≠ b := fun e => h (by rw [← h1, ← h2, e])
theorem xv_si_ne {u : xv_M} {a j b q : Nat} {v : Int32} (h : b ≠ a) : xv_i (xv_si u a j v) b q = xv_i u b q := if_neg (fun z => h z.1)
theorem xv_si_nj {u : xv_M} {a j b q : Nat} {v : Int32} (h : q ≠ j) : xv_i (xv_si u a j v) b q = xv_i u b q := if_neg (fun z => h z.2)
theorem xv_si_eq {u : xv_M} {a j : Nat} {v : Int32} : xv_i (xv_si u a j v) a j = v := if_pos ⟨rfl, rfl⟩
theorem xv_sw_ne {u : xv_M} {a b q : Nat} {f : Nat → Int32} (h : b ≠ a) : xv_i (xv_sw u a f) b q = xv_i u b q := if_neg h
theorem xv_sw_eq {u : xv_M} {a q : Nat} {f : Nat → Int32} : xv_i (xv_sw u a f) a q = f q := if_pos rfl
theorem xv_cat1 {l : List Value} (h : l.all (fun v => v.category == 1) = true) : ∀ v ∈ l, v.category = 1 := fun v hv => by
  have := List.all_eq_true.mp h v hv
  simpa using this
/-! switches -/
theorem xv_tableTo {sc : Nat × (Nat → Int32)} {d : Nat} {J : xv_J} {pc : Nat} {lv : List (Option Value)} {st : List Value} {u : xv_M} {n1 s1 : Nat} {P : xv_P} {dflt lo hi : Int} {offs : Array Int} {len : Nat} {x : Int32} (tgt : Nat) (ks : List Int) (hdg : decode J.2.1 pc = .ok (.tableswitch dflt lo hi offs, len)) (hd : (pc : Int) + dflt = (tgt : Int)) (hs : lo + offs.size = hi + 1)
    (hc : (List.range offs.size).all (fun i => decide ((pc : Int) + offs.getD i 0 = (tgt : Int)) || ks.contains (lo + i)) = true) (hx : ∀ k ∈ ks, ¬ x.toInt = k) (k : xv_X sc d J tgt lv st u n1 s1 P) : xv_X sc d J pc lv (.int x :: st) u n1 s1 P := by
  by_cases h1 : x.toInt < lo
  · exact xv_tableOut tgt hdg (Or.inl h1) hd k
  · by_cases h2 : hi < x.toInt
    · exact xv_tableOut tgt hdg (Or.inr h2) hd k
    · have hi' : (x.toInt - lo).toNat < offs.size := by omega
      have h3 := List.all_eq_true.mp hc _ (List.mem_range.mpr hi')
      have e1 : lo + ((x.toInt - lo).toNat : Int) = x.toInt := by omega
      rw [e1] at h3
      have h4 : ¬ ks.contains x.toInt = true := fun q => hx _ (List.contains_iff_mem.mp q) rfl
      have h5 : (pc : Int) + offs.getD (x.toInt - lo).toNat 0 = (tgt : Int) := by
        rcases Bool.or_eq_true_iff.mp h3 with h3 | h3
        · exact of_decide_eq_true h3
        · exact absurd h3 h4
      refine xv_tableIn (off := offs.getD (x.toInt - lo).toNat 0) tgt hdg h1 h2 ?_ h5 k
      rw [Array.getD_eq_getD_getElem?, Array.getElem?_eq_getElem hi']
      rfl
/-! within -/
def xw (v l m : Int32) : Int32 := if l ≤ v ∧ v ≤ m then 1 else 0
theorem xw_and (v l m : Int32) : xw v l m &&& 1 = xw v l m := by unfold xw; split <;> decide
theorem c_Desk_within {sc : Nat × (Nat → Int32)} {u : xv_M} {v l m : Int32} : xv_C sc 0 J_Desk_within [.int v, .int l, .int m] u (xv_N u) (xv_S u) (xv_pi (fun r w => r = xw v l m ∧ w = u)) := by
  refine xv_C_of (by decide) (Nat.le_refl _) (Nat.le_refl _) (xv_cat1 rfl) (Nat.le_of_ble_eq_true rfl) ?_
  show xv_X sc 0 J_Desk_within 0 [some (.int v), some (.int l), some (.int m)] [] u (xv_N u) (xv_S u) _
  refine xv_iload_n (pc := 0) d_Desk_within_0 rfl rfl ?_
  refine xv_iload_n (pc := 1) d_Desk_within_1 rfl rfl ?_
  refine xv_icmp_lt (pc := 2) 14 d_Desk_within_2 (by decide) (fun h2 => ?_) (fun h2 => ?_)
  · refine xv_iconst (pc := 14) 0 d_Desk_within_14 (by decide) ?_
    exact xv_retzq (pc := 15) d_Desk_within_15 rfl (by decide) rfl rfl ⟨_, rfl, by unfold xw; rw [if_neg (fun q => absurd h2 (Int32.not_lt.mpr q.1))], rfl⟩
  · refine xv_iload_n (pc := 5) d_Desk_within_5 rfl rfl ?_
    refine xv_iload_n (pc := 6) d_Desk_within_6 rfl rfl ?_
    refine xv_icmp_gt (pc := 7) 14 d_Desk_within_7 (by decide) (fun h7 => ?_) (fun h7 => ?_)
    · refine xv_iconst (pc := 14) 0 d_Desk_within_14 (by decide) ?_
      exact xv_retzq (pc := 15) d_Desk_within_15 rfl (by decide) rfl rfl ⟨_, rfl, by unfold xw; rw [if_neg (fun q => absurd h7 (Int32.not_lt.mpr q.2))], rfl⟩
    · refine xv_iconst (pc := 10) 1 d_Desk_within_10 (by decide) ?_
      refine xv_goto (pc := 11) 15 d_Desk_within_11 (by decide) ?_
      exact xv_retzq (pc := 15) d_Desk_within_15 rfl (by decide) rfl rfl ⟨_, rfl, by unfold xw; rw [if_pos ⟨Int32.not_lt.mp h2, Int32.not_lt.mp h7⟩], rfl⟩

