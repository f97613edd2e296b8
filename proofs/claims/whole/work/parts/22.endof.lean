/-! lookupswitch past its keys -/
theorem xv_off {l : List (Int × Int)} {d v : Int} (h : ∀ q ∈ l, ¬ v = q.1) : Op.lookupswitch.offset l d v = d := by
  induction l with
  | nil => rfl
  | cons q t ih =>
    obtain ⟨a, b⟩ := q
    rw [Op.lookupswitch.offset_cons, if_neg (fun e => h (a, b) List.mem_cons_self e.symm)]
    exact ih (fun q hq => h q (List.mem_cons_of_mem _ hq))
theorem xv_lookTo {sc : Nat × (Nat → Int32)} {d : Nat} {J : xv_J} {pc : Nat} {lv : List (Option Value)} {st : List Value} {u : xv_M} {n1 s1 : Nat} {P : xv_P} {dflt : Int} {ps : Array (Int × Int)} {len : Nat} {x : Int32} (tgt : Nat) (ks : List Int) (hdg : decode J.2.1 pc = .ok (.lookupswitch dflt ps, len)) (hp : (ps.toList.zip (ps.toList.drop 1)).all (fun (a, next) => a.1 < next.1) = true) (ht : (pc : Int) + dflt = (tgt : Int)) (hk : ps.toList.map (fun q => q.1) = ks) (hx : ∀ k ∈ ks, ¬ x.toInt = k) (k : xv_X sc d J tgt lv st u n1 s1 P) : xv_X sc d J pc lv (.int x :: st) u n1 s1 P := by
  refine xv_lookup tgt hdg hp (xv_off (fun q hq => hx _ ?_)) ht k
  rw [← hk]
  exact List.mem_map.mpr ⟨q, hq, rfl⟩
theorem nI_neT {a b : Nat} (ha : a < 2 ^ 31) (h : ¬ a = b) : ¬ (nI a).toInt = (b : Int) := by
  rw [nI_toInt ha]
  omega
/-! may a token stand -/
def xBit (m a : Int32) : Bool := !decide ((m >>> (a &&& 31)) &&& 1 = 0)
def xMay (o : Nat) (a K C t : Int32) : Bool := match o with
  | 1 => xBit K a
  | 14 => !xBit C a
  | 15 => xBit K a && !xBit C a
  | 16 => !xBit C a && decide (t < 2)
  | 17 => decide (t = 0)
  | _ => true
theorem xB_ne {b : Bool} (h : ¬ xB b = 0) : b = true := by cases b <;> first | rfl | exact absurd rfl h
theorem xB_eq {b : Bool} (h : xB b = 0) : b = false := by cases b <;> first | rfl | exact absurd h (by decide)
theorem xBit_f {m a : Int32} (h : (m >>> (a &&& 31)) &&& 1 = 0) : xB (xBit m a) = 0 := by unfold xBit; rw [decide_eq_true h]; rfl
theorem xBit_t {m a : Int32} (h : ¬ (m >>> (a &&& 31)) &&& 1 = 0) : xB (xBit m a) = 1 := by unfold xBit; rw [decide_eq_false h]; rfl
theorem c_Form_mayStand {sc : Nat × (Nat → Int32)} {u : xv_M} {h o a s p q : Nat} {A K C t : Int32} (hF : xv_Fo u h o a s) (hp : p < 40) (hq : q < 18) (hO : xv_i u o p = nI q) (hA : xv_i u a p = A) : xv_C sc 0 J_Form_mayStand [.ref h, .int (nI p), .int K, .int C, .int t] u (xv_N u) (xv_S u) (xv_pi (fun r w => r = xB (xMay q A K C t) ∧ w = u)) := by
  obtain ⟨k0, r0, r1, r4, ko, lo, ka, la, kt, lt⟩ := hF
  refine xv_C_of (by decide) (Nat.le_refl _) (Nat.le_refl _) (xv_cat1 rfl) (Nat.le_of_ble_eq_true rfl) ?_
  show xv_X sc 0 J_Form_mayStand 0 [some (.ref h), some (.int (nI p)), some (.int K), some (.int C), some (.int t), none, none] [] u (xv_N u) (xv_S u) _
  have hc : (nI p).toNatClampNeg = p := nI_clamp (by omega)
  have hin : vp_in (nI p) 40 := vp_in_nI (by omega) (by decide)
  suffices j18 : xv_X sc 0 J_Form_mayStand 18 [some (.ref h), some (.int (nI p)), some (.int K), some (.int C), some (.int t), none, none] [.int (xB (xBit K A))] u (xv_N u) (xv_S u) (xv_q (xv_N u) (xv_S u) (xv_pi (fun r w => r = xB (xMay q A K C t) ∧ w = u))) by
    refine xv_iload_n (pc := 0) d_Form_mayStand_0 rfl rfl ?_
    refine xv_aload_n (pc := 1) d_Form_mayStand_1 rfl rfl ?_
    refine xv_getR (pc := 2) d_Form_mayStand_2 f_Form_15 rfl k0 r1 ?_
    refine xv_iload_n (pc := 5) d_Form_mayStand_5 rfl rfl ?_
    refine xv_ald (pc := 6) d_Form_mayStand_6 ka (by rw [la]; exact hin) ?_
    refine xv_ishr (pc := 7) d_Form_mayStand_7 ?_
    refine xv_iconst (pc := 8) 1 d_Form_mayStand_8 (by decide) ?_
    refine xv_iand (pc := 9) d_Form_mayStand_9 ?_
    refine xv_if_eq (pc := 10) 17 d_Form_mayStand_10 (by decide) (fun h10 => ?_) (fun h10 => ?_)
    · rw [hc, hA] at h10
      rw [xBit_f h10] at j18
      refine xv_iconst (pc := 17) 0 d_Form_mayStand_17 (by decide) ?_
      exact j18
    · rw [hc, hA] at h10
      rw [xBit_t h10] at j18
      refine xv_iconst (pc := 13) 1 d_Form_mayStand_13 (by decide) ?_
      refine xv_goto (pc := 14) 18 d_Form_mayStand_14 (by decide) ?_
      exact j18
  suffices j38 : xv_X sc 0 J_Form_mayStand 38 [some (.ref h), some (.int (nI p)), some (.int K), some (.int C), some (.int t), some (.int (xB (xBit K A))), none] [.int (xB (xBit C A))] u (xv_N u) (xv_S u) (xv_q (xv_N u) (xv_S u) (xv_pi (fun r w => r = xB (xMay q A K C t) ∧ w = u))) by
    refine xv_istore_5 (pc := 18) d_Form_mayStand_18 (by decide) rfl ?_
    refine xv_iload_n (pc := 20) d_Form_mayStand_20 rfl rfl ?_
    refine xv_aload_n (pc := 21) d_Form_mayStand_21 rfl rfl ?_
    refine xv_getR (pc := 22) d_Form_mayStand_22 f_Form_15 rfl k0 r1 ?_
    refine xv_iload_n (pc := 25) d_Form_mayStand_25 rfl rfl ?_
    refine xv_ald (pc := 26) d_Form_mayStand_26 ka (by rw [la]; exact hin) ?_
    refine xv_ishr (pc := 27) d_Form_mayStand_27 ?_
    refine xv_iconst (pc := 28) 1 d_Form_mayStand_28 (by decide) ?_
    refine xv_iand (pc := 29) d_Form_mayStand_29 ?_
    refine xv_if_eq (pc := 30) 37 d_Form_mayStand_30 (by decide) (fun h30 => ?_) (fun h30 => ?_)
    · rw [hc, hA] at h30
      rw [xBit_f h30] at j38
      refine xv_iconst (pc := 37) 0 d_Form_mayStand_37 (by decide) ?_
      exact j38
    · rw [hc, hA] at h30
      rw [xBit_t h30] at j38
      refine xv_iconst (pc := 33) 1 d_Form_mayStand_33 (by decide) ?_
      refine xv_goto (pc := 34) 38 d_Form_mayStand_34 (by decide) ?_
      exact j38
  refine xv_istore_6 (pc := 38) d_Form_mayStand_38 (by decide) rfl ?_
  refine xv_aload_n (pc := 40) d_Form_mayStand_40 rfl rfl ?_
  refine xv_getR (pc := 41) d_Form_mayStand_41 f_Form_9 rfl k0 r0 ?_
  refine xv_iload_n (pc := 44) d_Form_mayStand_44 rfl rfl ?_
  refine xv_ald (pc := 45) d_Form_mayStand_45 ko (by rw [lo]; exact hin) ?_
  rw [hc, hO]
  by_cases e1 : q = 1
  · subst e1
    refine xv_lookup (pc := 46) (off := 50) 96 d_Form_mayStand_46 (by decide) (by decide) (by decide) ?_
    refine xv_iload (pc := 96) d_Form_mayStand_96 rfl ?_
    exact xv_retzq (pc := 98) d_Form_mayStand_98 rfl (xB_and _) rfl rfl ⟨_, rfl, rfl, rfl⟩
  by_cases e2 : q = 14
  · subst e2
    refine xv_lookup (pc := 46) (off := 69) 115 d_Form_mayStand_46 (by decide) (by decide) (by decide) ?_
    refine xv_iload (pc := 115) d_Form_mayStand_115 rfl ?_
    refine xv_if_ne (pc := 117) 124 d_Form_mayStand_117 (by decide) (fun h117 => ?_) (fun h117 => ?_)
    · refine xv_iconst (pc := 124) 0 d_Form_mayStand_124 (by decide) ?_
      exact xv_retzq (pc := 125) d_Form_mayStand_125 rfl (by decide) rfl rfl ⟨_, rfl, by simp [xMay, xB_ne h117, xB], rfl⟩
    · refine xv_iconst (pc := 120) 1 d_Form_mayStand_120 (by decide) ?_
      refine xv_goto (pc := 121) 125 d_Form_mayStand_121 (by decide) ?_
      exact xv_retzq (pc := 125) d_Form_mayStand_125 rfl (by decide) rfl rfl ⟨_, rfl, by simp [xMay, xB_eq h117, xB], rfl⟩
  by_cases e3 : q = 15
  · subst e3
    refine xv_lookup (pc := 46) (off := 53) 99 d_Form_mayStand_46 (by decide) (by decide) (by decide) ?_
    refine xv_iload (pc := 99) d_Form_mayStand_99 rfl ?_
    refine xv_if_eq (pc := 101) 113 d_Form_mayStand_101 (by decide) (fun h101 => ?_) (fun h101 => ?_)
    · refine xv_iconst (pc := 113) 0 d_Form_mayStand_113 (by decide) ?_
      exact xv_retzq (pc := 114) d_Form_mayStand_114 rfl (by decide) rfl rfl ⟨_, rfl, by simp [xMay, xB_eq h101, xB], rfl⟩
    · refine xv_iload (pc := 104) d_Form_mayStand_104 rfl ?_
      refine xv_if_ne (pc := 106) 113 d_Form_mayStand_106 (by decide) (fun h106 => ?_) (fun h106 => ?_)
      · refine xv_iconst (pc := 113) 0 d_Form_mayStand_113 (by decide) ?_
        exact xv_retzq (pc := 114) d_Form_mayStand_114 rfl (by decide) rfl rfl ⟨_, rfl, by simp [xMay, xB_ne h106, xB], rfl⟩
      · refine xv_iconst (pc := 109) 1 d_Form_mayStand_109 (by decide) ?_
        refine xv_goto (pc := 110) 114 d_Form_mayStand_110 (by decide) ?_
        exact xv_retzq (pc := 114) d_Form_mayStand_114 rfl (by decide) rfl rfl ⟨_, rfl, by simp [xMay, xB_ne h101, xB_eq h106, xB], rfl⟩
  by_cases e4 : q = 16
  · subst e4
    refine xv_lookup (pc := 46) (off := 80) 126 d_Form_mayStand_46 (by decide) (by decide) (by decide) ?_
    refine xv_iload (pc := 126) d_Form_mayStand_126 rfl ?_
    refine xv_if_ne (pc := 128) 141 d_Form_mayStand_128 (by decide) (fun h128 => ?_) (fun h128 => ?_)
    · refine xv_iconst (pc := 141) 0 d_Form_mayStand_141 (by decide) ?_
      exact xv_retzq (pc := 142) d_Form_mayStand_142 rfl (by decide) rfl rfl ⟨_, rfl, by simp [xMay, xB_ne h128, xB], rfl⟩
    · refine xv_iload (pc := 131) d_Form_mayStand_131 rfl ?_
      refine xv_iconst (pc := 133) 2 d_Form_mayStand_133 (by decide) ?_
      refine xv_icmp_ge (pc := 134) 141 d_Form_mayStand_134 (by decide) (fun h134 => ?_) (fun h134 => ?_)
      · refine xv_iconst (pc := 141) 0 d_Form_mayStand_141 (by decide) ?_
        exact xv_retzq (pc := 142) d_Form_mayStand_142 rfl (by decide) rfl rfl ⟨_, rfl, by simp [xMay, Int32.not_lt.mpr h134, xB], rfl⟩
      · refine xv_iconst (pc := 137) 1 d_Form_mayStand_137 (by decide) ?_
        refine xv_goto (pc := 138) 142 d_Form_mayStand_138 (by decide) ?_
        exact xv_retzq (pc := 142) d_Form_mayStand_142 rfl (by decide) rfl rfl ⟨_, rfl, by simp [xMay, xB_eq h128, Int32.not_le.mp h134, xB], rfl⟩
  by_cases e5 : q = 17
  · subst e5
    refine xv_lookup (pc := 46) (off := 97) 143 d_Form_mayStand_46 (by decide) (by decide) (by decide) ?_
    refine xv_iload (pc := 143) d_Form_mayStand_143 rfl ?_
    refine xv_if_ne (pc := 145) 152 d_Form_mayStand_145 (by decide) (fun h145 => ?_) (fun h145 => ?_)
    · refine xv_iconst (pc := 152) 0 d_Form_mayStand_152 (by decide) ?_
      exact xv_retzq (pc := 153) d_Form_mayStand_153 rfl (by decide) rfl rfl ⟨_, rfl, by simp [xMay, h145, xB], rfl⟩
    · refine xv_iconst (pc := 148) 1 d_Form_mayStand_148 (by decide) ?_
      refine xv_goto (pc := 149) 153 d_Form_mayStand_149 (by decide) ?_
      exact xv_retzq (pc := 153) d_Form_mayStand_153 rfl (by decide) rfl rfl ⟨_, rfl, by simp [xMay, h145, xB], rfl⟩
  refine xv_lookTo (pc := 46) 154 [1, 14, 15, 16, 17] d_Form_mayStand_46 (by decide) (by decide) (by decide) (List.forall_mem_cons.mpr ⟨nI_neT (by omega) e1, (List.forall_mem_cons.mpr ⟨nI_neT (by omega) e2, (List.forall_mem_cons.mpr ⟨nI_neT (by omega) e3, (List.forall_mem_cons.mpr ⟨nI_neT (by omega) e4, (List.forall_mem_cons.mpr ⟨nI_neT (by omega) e5, (fun _ h => absurd h List.not_mem_nil)⟩)⟩)⟩)⟩)⟩) ?_
  refine xv_iconst (pc := 154) 1 d_Form_mayStand_154 (by decide) ?_
  exact xv_retzq (pc := 155) d_Form_mayStand_155 rfl (by decide) rfl rfl ⟨_, rfl, by
    have : xMay q A K C t = true := by unfold xMay; split <;> first | rfl | omega
    rw [this]; rfl, rfl⟩

