/-! the model's run: its loop -/
def xTn (rec : Nat → xZ → Prop) (s : (Int32 × xZ) ⊕ Nat) (r : xRs) : Prop := match s with
  | .inl q => ∃ j, j < 1000 ∧ q.1 = nI j ∧ rec j q.2
  | .inr e => r = .inr e
/-- the run from unit pc on ends within so many steps, with r -/
def xTm (step : Nat → xZ → (Int32 × xZ) ⊕ Nat) (O : Nat → Nat) : Nat → Nat → xZ → xRs → Prop
  | 0, _, _, _ => False
  | k + 1, pc, σ, r => if O pc = 17 then r = .inl (xTp σ) else xTn (fun j τ => xTm step O k j τ r) (step pc σ) r
def xGh (sc : Nat × (Nat → Int32)) (D M : Nat) (a1 a2 a3 a4 a5 : Int32) (fr n1 s1 : Nat) (P : xv_P) (d sp : Nat) (w : xv_M) : Prop := ∀ j9 j10 j11 j12 j13 : Option Value, xv_X sc D J_Model_go 26 [some (.ref M), some (.int a1), some (.int a2), some (.int a3), some (.int a4), some (.int a5), some (.int (nI d)), some (.int (nI sp)), some (.int (nI fr)), j9, j10, j11, j12, j13] [] w n1 s1 P
theorem xg_pre {sc : Nat × (Nat → Int32)} {D M : Nat} {a1 a2 a3 a4 a5 : Int32} {fr n1 s1 : Nat} {P : xv_P} {d sp base g pc o : Nat} {w : xv_M} {a : Int32} {σ : xZ} (hM : xMo w M) (hd : d < 9) (hg : g < 24) (hpc : pc < 280) (hF : xMF w M d base g pc σ) (hO : xv_i w (M + 7) (280 * g + pc) = nI o) (hA : xv_i w (M + 8) (280 * g + pc) = a) (k : ∀ j12 j13 : Option Value, xv_X sc D J_Model_go 70 [some (.ref M), some (.int a1), some (.int a2), some (.int a3), some (.int a4), some (.int a5), some (.int (nI d)), some (.int (nI sp)), some (.int (nI fr)), some (.int (nI (280 * g + pc))), some (.int (nI o)), some (.int a), j12, j13] [] (xv_si w (M + 25) d (nI (pc + 1))) n1 s1 P) : xGh sc D M a1 a2 a3 a4 a5 fr n1 s1 P d sp w := by
  intro j9 j10 j11 j12 j13
  have hcd : (nI d).toNatClampNeg = d := nI_clamp (by omega)
  have hid : vp_in (nI d) 9 := vp_in_nI hd (by decide)
  have ci : (nI (280 * g + pc)).toNatClampNeg = 280 * g + pc := nI_clamp (by omega)
  have ii : vp_in (nI (280 * g + pc)) 6720 := vp_in_nI (by omega) (by decide)
  have es : nI pc + 1 = nI (pc + 1) := by rw [nI_succ]
  refine xv_sipush (pc := 26) 280 d_Model_go_26 (by decide) ?_
  refine xv_aload_n (pc := 29) d_Model_go_29 rfl rfl ?_
  refine xv_getR (pc := 30) d_Model_go_30 f_Model_86 rfl hM.1 (xm_r25 hM) ?_
  refine xv_iload (pc := 33) d_Model_go_33 rfl ?_
  refine xv_ald (pc := 35) d_Model_go_35 (xm_k25 hM) (xm_i25 hM hid) ?_
  refine xv_imul (pc := 36) d_Model_go_36 ?_
  refine xv_aload_n (pc := 37) d_Model_go_37 rfl rfl ?_
  refine xv_getR (pc := 38) d_Model_go_38 f_Model_83 rfl hM.1 (xm_r24 hM) ?_
  refine xv_iload (pc := 41) d_Model_go_41 rfl ?_
  refine xv_dup2 (pc := 43) d_Model_go_43 ?_
  refine xv_ald (pc := 44) d_Model_go_44 (xm_k24 hM) (xm_i24 hM hid) ?_
  refine xv_dup_x2 (pc := 45) d_Model_go_45 ?_
  refine xv_iconst (pc := 46) 1 d_Model_go_46 (by decide) ?_
  refine xv_iadd (pc := 47) d_Model_go_47 ?_
  refine xv_ast (pc := 48) d_Model_go_48 (xm_k24 hM) (xm_i24 hM hid) ?_
  refine xv_iadd (pc := 49) d_Model_go_49 ?_
  refine xv_istore_9 (pc := 50) d_Model_go_50 (by decide) rfl ?_
  rw [hcd, hF.1, hF.2.1, xIdx, es]
  refine xv_aload_n (pc := 52) d_Model_go_52 rfl rfl ?_
  refine xv_getR (pc := 53) d_Model_go_53 f_Model_28 rfl hM.1 (xm_r6 hM) ?_
  refine xv_iload (pc := 56) d_Model_go_56 rfl ?_
  refine xv_ald (pc := 58) d_Model_go_58 (xm_k6 hM) (xm_i6 hM ii) ?_
  refine xv_istore_10 (pc := 59) d_Model_go_59 (by decide) rfl ?_
  refine xv_aload_n (pc := 61) d_Model_go_61 rfl rfl ?_
  refine xv_getR (pc := 62) d_Model_go_62 f_Model_31 rfl hM.1 (xm_r7 hM) ?_
  refine xv_iload (pc := 65) d_Model_go_65 rfl ?_
  refine xv_ald (pc := 67) d_Model_go_67 (xm_k7 hM) (xm_i7 hM ii) ?_
  refine xv_istore_11 (pc := 68) d_Model_go_68 (by decide) rfl ?_
  rw [ci, xv_si_ne (by omega), xv_si_ne (by omega), hO, hA]
  exact k j12 j13
/-- GIVE in the lowest run: the answer -/
theorem xg_ret {sc : Nat × (Nat → Int32)} {D M : Nat} {a1 a2 a3 a4 a5 : Int32} {fr n1 s1 : Nat} {P : xv_P} {sp base g pc : Nat} {w : xv_M} {a : Int32} {σ : xZ} (hM : xMo w M) (hg : g < 24) (hpc : pc < 280) (hF : xMF w M 0 base g pc σ) (hO : xv_i w (M + 7) (280 * g + pc) = nI 17) (hA : xv_i w (M + 8) (280 * g + pc) = a) (hsp : sp = base + σ.2.2) (h1 : 1 ≤ σ.2.2) (hs : sp < 800) {P0 : xv_P} (hN : xv_N w = n1) (hS : xv_S w = s1) (hP : P0 (.inl (some (.int (xTp σ)))) (xv_si w (M + 25) 0 (nI (pc + 1)))) : xGh sc D M a1 a2 a3 a4 a5 fr n1 s1 (xv_q n1 s1 P0) 0 sp w := by
  refine xg_pre hM (by decide) hg hpc hF hO hA (fun j12 j13 => ?_)
  have et : nI sp - 1 = nI (base + (σ.2.2 - 1)) := nI_sub1 (by omega)
  have ct : (nI (base + (σ.2.2 - 1))).toNatClampNeg = base + (σ.2.2 - 1) := nI_clamp (by omega)
  have it : vp_in (nI (base + (σ.2.2 - 1))) 800 := vp_in_nI (by omega) (by decide)
  have htp := xMF_tp hF h1 (j := base + (σ.2.2 - 1)) (by omega)
  refine xv_iload (pc := 70) d_Model_go_70 rfl ?_
  refine xv_bipush (pc := 72) 17 d_Model_go_72 (by decide) ?_
  refine xv_icmp_ne (pc := 74) 130 d_Model_go_74 (by decide) (fun h74 => ?_) (fun h74 => ?_)
  · exact absurd rfl h74
  refine xv_iload (pc := 77) d_Model_go_77 rfl ?_
  refine xv_if_ne (pc := 79) 92 d_Model_go_79 (by decide) (fun h79 => ?_) (fun h79 => ?_)
  · exact absurd rfl h79
  refine xv_aload_n (pc := 82) d_Model_go_82 rfl rfl ?_
  refine xv_getR (pc := 83) d_Model_go_83 f_Model_77 rfl hM.1 (xm_r22 hM) ?_
  refine xv_iload (pc := 86) d_Model_go_86 rfl ?_
  refine xv_iconst (pc := 88) 1 d_Model_go_88 (by decide) ?_
  refine xv_isub (pc := 89) d_Model_go_89 ?_
  refine xv_ald (pc := 90) d_Model_go_90 (xm_k22 hM) (by rw [et]; exact xm_i22 hM it) ?_
  rw [et, ct, xv_si_ne (by omega), htp]
  exact xv_retiq (pc := 91) d_Model_go_91 rfl hN hS hP
/-- GIVE in a run that was called -/
theorem xg_give {sc : Nat × (Nat → Int32)} {D M : Nat} {a1 a2 a3 a4 a5 : Int32} {fr n1 s1 : Nat} {P : xv_P} {d sp base g pc b : Nat} {w : xv_M} {a : Int32} {σ : xZ} (hM : xMo w M) (hd : d < 8) (hg : g < 24) (hpc : pc < 280) (hF : xMF w M (d + 1) base g pc σ) (hO : xv_i w (M + 7) (280 * g + pc) = nI 17) (hA : xv_i w (M + 8) (280 * g + pc) = a) (hsp : sp = base + σ.2.2) (h1 : 1 ≤ σ.2.2) (hs : sp < 800) (ho : xv_i w (M + 27) d = nI b) (hb : b < 800) (k : xGh sc D M a1 a2 a3 a4 a5 fr n1 s1 P d (b + 1) (xv_si (xv_si w (M + 25) (d + 1) (nI (pc + 1))) (M + 23) b (xTp σ))) : xGh sc D M a1 a2 a3 a4 a5 fr n1 s1 P (d + 1) sp w := by
  refine xg_pre hM (by omega) hg hpc hF hO hA (fun j12 j13 => ?_)
  have et : nI sp - 1 = nI (base + (σ.2.2 - 1)) := nI_sub1 (by omega)
  have ct : (nI (base + (σ.2.2 - 1))).toNatClampNeg = base + (σ.2.2 - 1) := nI_clamp (by omega)
  have it : vp_in (nI (base + (σ.2.2 - 1))) 800 := vp_in_nI (by omega) (by decide)
  have htp := xMF_tp hF h1 (j := base + (σ.2.2 - 1)) (by omega)
  have q0 : (nI (d + 1) = 0) ↔ d + 1 = 0 := nI_eq (b := 0) (by omega) (by decide)
  have ed : nI (d + 1) + Int32.ofInt (-1) = nI d := by
    rw [nI_succ, Int32.add_assoc]
    show nI d + 0 = nI d
    exact Int32.add_zero _
  have hcd : (nI d).toNatClampNeg = d := nI_clamp (by omega)
  have hcb : (nI b).toNatClampNeg = b := nI_clamp (by omega)
  have eb : nI b + Int32.ofInt 1 = nI (b + 1) := by rw [nI_succ]; rfl
  refine xv_iload (pc := 70) d_Model_go_70 rfl ?_
  refine xv_bipush (pc := 72) 17 d_Model_go_72 (by decide) ?_
  refine xv_icmp_ne (pc := 74) 130 d_Model_go_74 (by decide) (fun h74 => ?_) (fun h74 => ?_)
  · exact absurd rfl h74
  refine xv_iload (pc := 77) d_Model_go_77 rfl ?_
  refine xv_if_ne (pc := 79) 92 d_Model_go_79 (by decide) (fun h79 => ?_) (fun h79 => ?_)
  case refine_2 =>
    rw [q0] at h79
    exact absurd h79 (by omega)
  refine xv_aload_n (pc := 92) d_Model_go_92 rfl rfl ?_
  refine xv_getR (pc := 93) d_Model_go_93 f_Model_77 rfl hM.1 (xm_r22 hM) ?_
  refine xv_iload (pc := 96) d_Model_go_96 rfl ?_
  refine xv_iconst (pc := 98) 1 d_Model_go_98 (by decide) ?_
  refine xv_isub (pc := 99) d_Model_go_99 ?_
  refine xv_ald (pc := 100) d_Model_go_100 (xm_k22 hM) (by rw [et]; exact xm_i22 hM it) ?_
  refine xv_istore_12 (pc := 101) d_Model_go_101 (by decide) rfl ?_
  refine xv_iinc_6 (pc := 103) (nI d) d_Model_go_103 ed (by decide) rfl ?_
  refine xv_aload_n (pc := 106) d_Model_go_106 rfl rfl ?_
  refine xv_getR (pc := 107) d_Model_go_107 f_Model_89 rfl hM.1 (xm_r26 hM) ?_
  refine xv_iload (pc := 110) d_Model_go_110 rfl ?_
  refine xv_ald (pc := 112) d_Model_go_112 (xm_k26 hM) (xm_i26 hM (vp_in_nI (by omega) (by decide))) ?_
  refine xv_istore_7 (pc := 113) d_Model_go_113 (by decide) rfl ?_
  rw [et, ct, hcd, xv_si_ne (by omega), xv_si_ne (by omega), ho, htp]
  refine xv_aload_n (pc := 115) d_Model_go_115 rfl rfl ?_
  refine xv_getR (pc := 116) d_Model_go_116 f_Model_77 rfl hM.1 (xm_r22 hM) ?_
  refine xv_iload (pc := 119) d_Model_go_119 rfl ?_
  refine xv_iinc_7 (pc := 121) (nI (b + 1)) d_Model_go_121 eb (by decide) rfl ?_
  refine xv_iload (pc := 124) d_Model_go_124 rfl ?_
  refine xv_ast (pc := 126) d_Model_go_126 (xm_k22 hM) (xm_i22 hM (vp_in_nI hb (by decide))) ?_
  refine xv_goto (pc := 127) 402 d_Model_go_127 (by decide) ?_
  refine xv_goto (pc := 402) 26 d_Model_go_402 (by decide) ?_
  rw [hcb]
  exact k _ _ _ _ _

