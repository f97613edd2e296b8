/-! the model: count, damage -/
theorem xCn_s (f : Nat → Bool) (k : Nat) : xCn f (k + 1) = xCn f k + (if f k = true then 1 else 0) := rfl
def xCtM (u : xv_M) (M a b : Nat) (x : Int32) : Int32 := if x = 0 then nI a else if x = 1 then xv_i u M 31 else if x = 2 then xv_i u M 30 else if x = 3 then nI b else if x = 4 then xv_i u M 32 else if x = 5 then xv_i u M 33 else if x = 6 then xv_i u M 34 else if x = 7 then xv_i u (M + 3) 8 else -1
theorem c_Model_count {sc : Nat × (Nat → Int32)} {u : xv_M} {M a b : Nat} {L I : Nat → Nat} {x : Int32} (hM : xMo u M) (hL : ∀ f, f < 8 → xv_i u (M + 3) f = nI (L f) ∧ L f ≤ 40) (hI : ∀ f, f < 8 → xv_i u (M + 14) f = xB (decide (0 < I f))) (ha : a = xCn (fun i => decide (0 < L i)) 8) (hb : b = xCn (fun i => decide (0 < I i)) 8) : xv_C sc 0 J_Model_count [.ref M, .int x] u (xv_N u) (xv_S u) (xv_pi (fun r w => r = xCtM u M a b x ∧ w = u)) := by
  unfold xCtM
  refine xv_C_of (by decide) (Nat.le_refl _) (Nat.le_refl _) (xv_cat1 rfl) (Nat.le_of_ble_eq_true rfl) ?_
  show xv_X sc 0 J_Model_count 0 [some (.ref M), some (.int x), none, none] [] u (xv_N u) (xv_S u) _
  refine xv_iconst (pc := 0) 0 d_Model_count_0 (by decide) ?_
  refine xv_istore_2 (pc := 1) d_Model_count_1 (by decide) rfl ?_
  refine xv_iload_n (pc := 2) d_Model_count_2 rfl rfl ?_
  by_cases e0 : x = 0
  · subst e0
    rw [if_pos rfl]
    refine xv_tableIn (pc := 3) (off := 45) 48 d_Model_count_3 (by decide) (by decide) (by decide) (by decide) ?_
    refine xv_iconst (pc := 48) 0 d_Model_count_48 (by decide) ?_
    refine xv_istore_3 (pc := 49) d_Model_count_49 (by decide) rfl ?_
    have loop : ∀ (r k : Nat), k + r = 8 → xv_X sc 0 J_Model_count 50 [some (.ref M), some (.int 0), some (.int (nI (xCn (fun i => decide (0 < L i)) k))), some (.int (nI k))] [] u (xv_N u) (xv_S u) (xv_q (xv_N u) (xv_S u) (xv_pi (fun r w => r = nI a ∧ w = u))) := by
      intro r
      induction r with
      | zero =>
        intro k hk
        have hk : k = 8 := by omega
        subst hk
        refine xv_iload_n (pc := 50) d_Model_count_50 rfl rfl ?_
        refine xv_bipush (pc := 51) 8 d_Model_count_51 (by decide) ?_
        refine xv_icmp_ge (pc := 53) 74 d_Model_count_53 (by decide) (fun h53 => ?_) (fun h53 => ?_)
        · refine xv_iload_n (pc := 74) d_Model_count_74 rfl rfl ?_
          exact xv_retiq (pc := 75) d_Model_count_75 rfl rfl rfl ⟨_, rfl, by rw [ha], rfl⟩
        · exact absurd (by decide) h53
      | succ r ih =>
        intro k hk
        have es : nI k + Int32.ofInt 1 = nI (k + 1) := by rw [nI_succ]; rfl
        have hck : (nI k).toNatClampNeg = k := nI_clamp (by omega)
        obtain ⟨hLk, hL40⟩ := hL k (by omega)
        have es2 : nI (xCn (fun i => decide (0 < L i)) k) + Int32.ofInt 1 = nI (xCn (fun i => decide (0 < L i)) k + 1) := by rw [nI_succ]; rfl
        refine xv_iload_n (pc := 50) d_Model_count_50 rfl rfl ?_
        refine xv_bipush (pc := 51) 8 d_Model_count_51 (by decide) ?_
        refine xv_icmp_ge (pc := 53) 74 d_Model_count_53 (by decide) (fun h53 => ?_) (fun h53 => ?_)
        · exact absurd h53 (nI_ge (b := 8) (by omega) (by decide))
        refine xv_aload_n (pc := 56) d_Model_count_56 rfl rfl ?_
        refine xv_getR (pc := 57) d_Model_count_57 f_Model_16 rfl hM.1 (xm_r2 hM) ?_
        refine xv_iload_n (pc := 60) d_Model_count_60 rfl rfl ?_
        refine xv_ald (pc := 61) d_Model_count_61 (xm_k2 hM) (xm_i2 hM (vp_in_nI (by omega) (by decide))) ?_
        refine xv_if_le (pc := 62) 68 d_Model_count_62 (by decide) (fun h62 => ?_) (fun h62 => ?_)
        · rw [hck, hLk] at h62
          have hL0 : ¬ 0 < L k := fun q => absurd h62 (Int32.not_le.mpr (nI_posL q (by omega)))
          have hx : xCn (fun i => decide (0 < L i)) (k + 1) = xCn (fun i => decide (0 < L i)) k := by
            rw [xCn_s, decide_eq_false hL0]; rfl
          refine xv_iinc_3 (pc := 68) (nI (k + 1)) d_Model_count_68 es (by decide) rfl ?_
          refine xv_goto (pc := 71) 50 d_Model_count_71 (by decide) ?_
          rw [← hx]
          exact ih (k + 1) (by omega)
        · rw [hck, hLk] at h62
          have hL0 : 0 < L k := Nat.pos_of_ne_zero (fun q => h62 (by rw [q]; exact Int32.le_refl _))
          have hx : xCn (fun i => decide (0 < L i)) (k + 1) = xCn (fun i => decide (0 < L i)) k + 1 := by
            rw [xCn_s, decide_eq_true hL0]; rfl
          refine xv_iinc_2 (pc := 65) (nI (xCn (fun i => decide (0 < L i)) k + 1)) d_Model_count_65 es2 (by decide) rfl ?_
          refine xv_iinc_3 (pc := 68) (nI (k + 1)) d_Model_count_68 es (by decide) rfl ?_
          refine xv_goto (pc := 71) 50 d_Model_count_71 (by decide) ?_
          rw [← hx]
          exact ih (k + 1) (by omega)
    exact loop 8 0 (by omega)
  rw [if_neg e0]
  by_cases e1 : x = 1
  · subst e1
    refine xv_tableIn (pc := 3) (off := 73) 76 d_Model_count_3 (by decide) (by decide) (by decide) (by decide) ?_
    refine xv_aload_n (pc := 76) d_Model_count_76 rfl rfl ?_
    refine xv_getI (pc := 77) d_Model_count_77 f_Model_172 rfl hM.1 ?_
    exact xv_retiq (pc := 80) d_Model_count_80 rfl rfl rfl ⟨_, rfl, by rw [if_pos rfl], rfl⟩
  rw [if_neg e1]
  by_cases e2 : x = 2
  · subst e2
    refine xv_tableIn (pc := 3) (off := 78) 81 d_Model_count_3 (by decide) (by decide) (by decide) (by decide) ?_
    refine xv_aload_n (pc := 81) d_Model_count_81 rfl rfl ?_
    refine xv_getI (pc := 82) d_Model_count_82 f_Model_181 rfl hM.1 ?_
    exact xv_retiq (pc := 85) d_Model_count_85 rfl rfl rfl ⟨_, rfl, by rw [if_pos rfl], rfl⟩
  rw [if_neg e2]
  by_cases e3 : x = 3
  · subst e3
    rw [if_pos rfl]
    refine xv_tableIn (pc := 3) (off := 83) 86 d_Model_count_3 (by decide) (by decide) (by decide) (by decide) ?_
    refine xv_iconst (pc := 86) 0 d_Model_count_86 (by decide) ?_
    refine xv_istore_3 (pc := 87) d_Model_count_87 (by decide) rfl ?_
    have loop : ∀ (r k : Nat), k + r = 8 → xv_X sc 0 J_Model_count 88 [some (.ref M), some (.int 3), some (.int (nI (xCn (fun i => decide (0 < I i)) k))), some (.int (nI k))] [] u (xv_N u) (xv_S u) (xv_q (xv_N u) (xv_S u) (xv_pi (fun r w => r = nI b ∧ w = u))) := by
      intro r
      induction r with
      | zero =>
        intro k hk
        have hk : k = 8 := by omega
        subst hk
        refine xv_iload_n (pc := 88) d_Model_count_88 rfl rfl ?_
        refine xv_bipush (pc := 89) 8 d_Model_count_89 (by decide) ?_
        refine xv_icmp_ge (pc := 91) 112 d_Model_count_91 (by decide) (fun h91 => ?_) (fun h91 => ?_)
        · refine xv_iload_n (pc := 112) d_Model_count_112 rfl rfl ?_
          exact xv_retiq (pc := 113) d_Model_count_113 rfl rfl rfl ⟨_, rfl, by rw [hb], rfl⟩
        · exact absurd (by decide) h91
      | succ r ih =>
        intro k hk
        have es : nI k + Int32.ofInt 1 = nI (k + 1) := by rw [nI_succ]; rfl
        have hck : (nI k).toNatClampNeg = k := nI_clamp (by omega)
        have hIk := hI k (by omega)
        have es2 : nI (xCn (fun i => decide (0 < I i)) k) + Int32.ofInt 1 = nI (xCn (fun i => decide (0 < I i)) k + 1) := by rw [nI_succ]; rfl
        refine xv_iload_n (pc := 88) d_Model_count_88 rfl rfl ?_
        refine xv_bipush (pc := 89) 8 d_Model_count_89 (by decide) ?_
        refine xv_icmp_ge (pc := 91) 112 d_Model_count_91 (by decide) (fun h91 => ?_) (fun h91 => ?_)
        · exact absurd h91 (nI_ge (b := 8) (by omega) (by decide))
        refine xv_aload_n (pc := 94) d_Model_count_94 rfl rfl ?_
        refine xv_getR (pc := 95) d_Model_count_95 f_Model_50 rfl hM.1 (xm_r13 hM) ?_
        refine xv_iload_n (pc := 98) d_Model_count_98 rfl rfl ?_
        refine xv_zald (pc := 99) d_Model_count_99 (xm_k13 hM) (xm_i13 hM (vp_in_nI (by omega) (by decide))) ?_
        refine xv_if_eq (pc := 100) 106 d_Model_count_100 (by decide) (fun h100 => ?_) (fun h100 => ?_)
        · rw [hck, hIk] at h100
          have hx : xCn (fun i => decide (0 < I i)) (k + 1) = xCn (fun i => decide (0 < I i)) k := by
            rw [xCn_s, xB_eq h100]; rfl
          refine xv_iinc_3 (pc := 106) (nI (k + 1)) d_Model_count_106 es (by decide) rfl ?_
          refine xv_goto (pc := 109) 88 d_Model_count_109 (by decide) ?_
          rw [← hx]
          exact ih (k + 1) (by omega)
        · rw [hck, hIk] at h100
          have hx : xCn (fun i => decide (0 < I i)) (k + 1) = xCn (fun i => decide (0 < I i)) k + 1 := by
            rw [xCn_s, xB_ne h100]; rfl
          refine xv_iinc_2 (pc := 103) (nI (xCn (fun i => decide (0 < I i)) k + 1)) d_Model_count_103 es2 (by decide) rfl ?_
          refine xv_iinc_3 (pc := 106) (nI (k + 1)) d_Model_count_106 es (by decide) rfl ?_
          refine xv_goto (pc := 109) 88 d_Model_count_109 (by decide) ?_
          rw [← hx]
          exact ih (k + 1) (by omega)
    exact loop 8 0 (by omega)
  rw [if_neg e3]
  by_cases e4 : x = 4
  · subst e4
    refine xv_tableIn (pc := 3) (off := 111) 114 d_Model_count_3 (by decide) (by decide) (by decide) (by decide) ?_
    refine xv_aload_n (pc := 114) d_Model_count_114 rfl rfl ?_
    refine xv_getI (pc := 115) d_Model_count_115 f_Model_201 rfl hM.1 ?_
    exact xv_retiq (pc := 118) d_Model_count_118 rfl rfl rfl ⟨_, rfl, by rw [if_pos rfl], rfl⟩
  rw [if_neg e4]
  by_cases e5 : x = 5
  · subst e5
    refine xv_tableIn (pc := 3) (off := 116) 119 d_Model_count_3 (by decide) (by decide) (by decide) (by decide) ?_
    refine xv_aload_n (pc := 119) d_Model_count_119 rfl rfl ?_
    refine xv_getI (pc := 120) d_Model_count_120 f_Model_191 rfl hM.1 ?_
    exact xv_retiq (pc := 123) d_Model_count_123 rfl rfl rfl ⟨_, rfl, by rw [if_pos rfl], rfl⟩
  rw [if_neg e5]
  by_cases e6 : x = 6
  · subst e6
    refine xv_tableIn (pc := 3) (off := 121) 124 d_Model_count_3 (by decide) (by decide) (by decide) (by decide) ?_
    refine xv_aload_n (pc := 124) d_Model_count_124 rfl rfl ?_
    refine xv_getI (pc := 125) d_Model_count_125 f_Model_98 rfl hM.1 ?_
    exact xv_retiq (pc := 128) d_Model_count_128 rfl rfl rfl ⟨_, rfl, by rw [if_pos rfl], rfl⟩
  rw [if_neg e6]
  by_cases e7 : x = 7
  · subst e7
    refine xv_tableIn (pc := 3) (off := 126) 129 d_Model_count_3 (by decide) (by decide) (by decide) (by decide) ?_
    refine xv_aload_n (pc := 129) d_Model_count_129 rfl rfl ?_
    refine xv_getR (pc := 130) d_Model_count_130 f_Model_16 rfl hM.1 (xm_r2 hM) ?_
    refine xv_bipush (pc := 133) 8 d_Model_count_133 (by decide) ?_
    refine xv_ald (pc := 135) d_Model_count_135 (xm_k2 hM) (xm_i2 hM xm_8) ?_
    exact xv_retiq (pc := 136) d_Model_count_136 rfl rfl rfl ⟨_, rfl, by rw [if_pos rfl]; rfl, rfl⟩
  rw [if_neg e7]
  refine xv_tableTo (pc := 3) 137 [0, 1, 2, 3, 4, 5, 6, 7] d_Model_count_3 (by decide) (by decide) (by decide) (List.forall_mem_cons.mpr ⟨lv_neT e0 (by decide), (List.forall_mem_cons.mpr ⟨lv_neT e1 (by decide), (List.forall_mem_cons.mpr ⟨lv_neT e2 (by decide), (List.forall_mem_cons.mpr ⟨lv_neT e3 (by decide), (List.forall_mem_cons.mpr ⟨lv_neT e4 (by decide), (List.forall_mem_cons.mpr ⟨lv_neT e5 (by decide), (List.forall_mem_cons.mpr ⟨lv_neT e6 (by decide), (List.forall_mem_cons.mpr ⟨lv_neT e7 (by decide), (fun _ h => absurd h List.not_mem_nil)⟩)⟩)⟩)⟩)⟩)⟩)⟩)⟩) ?_
  refine xv_iconst (pc := 137) (-1) d_Model_count_137 (by decide) ?_
  exact xv_retiq (pc := 138) d_Model_count_138 rfl rfl rfl ⟨_, rfl, rfl, rfl⟩

