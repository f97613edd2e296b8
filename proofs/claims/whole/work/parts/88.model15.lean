/-! the model: stands -/
def xMn (A : Nat → Int32) (pt : Nat → Nat) (a : Int32) (p c : Nat) : Bool := decide (A p = a) && decide (pt c = 2)
def xSd (O : Nat → Nat) (A : Nat → Int32) (up : Nat → Int32) (pt : Nat → Nat) (a : Int32) : Nat → Nat → Bool → Bool → Nat → Bool × Bool × Nat
  | 0, _, β, l, τ => (β, l, τ)
  | k + 1, c, β, l, τ => if up c < 0 then (β, l, τ) else xSd O A up pt a k (up c).toNatClampNeg
      (β || ((decide (O (up c).toNatClampNeg = 14) || decide (O (up c).toNatClampNeg = 16)) && xMn A pt a (up c).toNatClampNeg c))
      (if O (up c).toNatClampNeg = 16 then l || xMn A pt a (up c).toNatClampNeg c else l) (if O (up c).toNatClampNeg = 16 then τ + 1 else τ)
def xStd (o : Nat) (a f : Int32) (s : Bool × Bool × Nat) : Bool := if o = 1 then s.1 else if o = 15 then s.1 && !s.2.1 else if o = 14 then !s.2.1 else if o = 16 then !s.2.1 && decide (s.2.2 < 2) else !decide (o = 17) || (decide (a < f) && decide (s.2.2 = 0))
theorem xB_ior (a b : Bool) : xB a ||| xB b = xB (a || b) := by cases a <;> cases b <;> decide
set_option maxHeartbeats 1000000 in
theorem c_Model_stands {sc : Nat × (Nat → Int32)} {u : xv_M} {M n k : Nat} {O : Nat → Nat} {A : Nat → Int32} {up : Nat → Int32} {pt : Nat → Nat} {f m : Int32} (hM : xMo u M) (hD : xDm u M n O A) (hk : k < n) (hup : ∀ c, c < n → xv_i u (M + 5) c = up c ∧ xv_i u (M + 6) c = nI (pt c) ∧ pt c < 100 ∧ (up c = -1 ∨ ∃ j, j < c ∧ up c = nI j)) : xv_C sc 0 J_Model_stands [.ref M, .int (nI k), .int f, .int m] u (xv_N u) (xv_S u) (xv_pi (fun r w => r = xB (xStd (O k) (A k) f (xSd O A up pt (A k) (k + 1) k (decide (A k < m)) false 0)) ∧ w = u)) := by
  obtain ⟨hn, hn40, htk⟩ := hD
  have hck : (nI k).toNatClampNeg = k := nI_clamp (by omega)
  obtain ⟨tO, tO18, tA⟩ := htk k hk
  have ik : vp_in (nI (320 + k)) 360 := vp_in_nI (by omega) (by decide)
  have ck : (nI (320 + k)).toNatClampNeg = 320 + k := nI_clamp (by omega)
  refine xv_C_of (by decide) (Nat.le_refl _) (Nat.le_refl _) (xv_cat1 rfl) (Nat.le_of_ble_eq_true rfl) ?_
  show xv_X sc 0 J_Model_stands 0 [some (.ref M), some (.int (nI k)), some (.int f), some (.int m), none, none, none, none, none, none, none, none, none] [] u (xv_N u) (xv_S u) _
  generalize hR : (xStd (O k) (A k) f (xSd O A up pt (A k) (k + 1) k (decide (A k < m)) false 0)) = R
  -- behind the loop
  have post : ∀ (c τ : Nat) (β l : Bool) (j10 j11 j12 : Option Value), τ < 100 → xStd (O k) (A k) f (β, l, τ) = R → xv_X sc 0 J_Model_stands 168 [some (.ref M), some (.int (nI k)), some (.int f), some (.int m), some (.int (nI (O k))), some (.int (A k)), some (.int (nI c)), some (.int (nI τ)), some (.int (xB β)), some (.int (xB l)), j10, j11, j12] [] u (xv_N u) (xv_S u) (xv_q (xv_N u) (xv_S u) (xv_pi (fun r w => r = xB R ∧ w = u))) := by
    intro c τ β l j10 j11 j12 hτ hs
    have q1 : (nI (O k) = 1) ↔ O k = 1 := nI_eq (b := 1) (by omega) (by decide)
    have q15 : (nI (O k) = 15) ↔ O k = 15 := nI_eq (b := 15) (by omega) (by decide)
    have q14 : (nI (O k) = 14) ↔ O k = 14 := nI_eq (b := 14) (by omega) (by decide)
    have q16 : (nI (O k) = 16) ↔ O k = 16 := nI_eq (b := 16) (by omega) (by decide)
    have q17 : (nI (O k) = 17) ↔ O k = 17 := nI_eq (b := 17) (by omega) (by decide)
    have q0 : (nI τ = 0) ↔ τ = 0 := nI_eq0 (by omega)
    have t2 : ((2 : Int32) ≤ nI τ) ↔ 2 ≤ τ := nI_leI (a := 2) (by decide) (by omega)
    unfold xStd at hs
    refine xv_iload (pc := 168) d_Model_stands_168 rfl ?_
    refine xv_iconst (pc := 170) 1 d_Model_stands_170 (by decide) ?_
    refine xv_icmp_ne (pc := 171) 177 d_Model_stands_171 (by decide) (fun h171 => ?_) (fun h171 => ?_)
    · rw [q1] at h171
      rw [if_neg h171] at hs
      refine xv_iload (pc := 177) d_Model_stands_177 rfl ?_
      refine xv_bipush (pc := 179) 15 d_Model_stands_179 (by decide) ?_
      refine xv_icmp_ne (pc := 181) 200 d_Model_stands_181 (by decide) (fun h181 => ?_) (fun h181 => ?_)
      · rw [q15] at h181
        rw [if_neg h181] at hs
        refine xv_iload (pc := 200) d_Model_stands_200 rfl ?_
        refine xv_bipush (pc := 202) 14 d_Model_stands_202 (by decide) ?_
        refine xv_icmp_ne (pc := 204) 218 d_Model_stands_204 (by decide) (fun h204 => ?_) (fun h204 => ?_)
        · rw [q14] at h204
          rw [if_neg h204] at hs
          refine xv_iload (pc := 218) d_Model_stands_218 rfl ?_
          refine xv_bipush (pc := 220) 16 d_Model_stands_220 (by decide) ?_
          refine xv_icmp_ne (pc := 222) 242 d_Model_stands_222 (by decide) (fun h222 => ?_) (fun h222 => ?_)
          · rw [q16] at h222
            rw [if_neg h222] at hs
            refine xv_iload (pc := 242) d_Model_stands_242 rfl ?_
            refine xv_bipush (pc := 244) 17 d_Model_stands_244 (by decide) ?_
            refine xv_icmp_ne (pc := 246) 260 d_Model_stands_246 (by decide) (fun h246 => ?_) (fun h246 => ?_)
            · rw [q17] at h246
              rw [decide_eq_false h246] at hs
              refine xv_iconst (pc := 260) 1 d_Model_stands_260 (by decide) ?_
              refine xv_goto (pc := 261) 265 d_Model_stands_261 (by decide) ?_
              exact xv_retzq (pc := 265) d_Model_stands_265 rfl (by decide) rfl rfl ⟨_, rfl, by rw [← hs]; rfl, rfl⟩
            · rw [q17] at h246
              rw [decide_eq_true h246] at hs
              refine xv_iload (pc := 249) d_Model_stands_249 rfl ?_
              refine xv_iload_n (pc := 251) d_Model_stands_251 rfl rfl ?_
              refine xv_icmp_ge (pc := 252) 264 d_Model_stands_252 (by decide) (fun h252 => ?_) (fun h252 => ?_)
              · refine xv_iconst (pc := 264) 0 d_Model_stands_264 (by decide) ?_
                exact xv_retzq (pc := 265) d_Model_stands_265 rfl (by decide) rfl rfl ⟨_, rfl, by rw [← hs, decide_eq_false (Int32.not_lt.mpr h252)]; rfl, rfl⟩
              · refine xv_iload (pc := 255) d_Model_stands_255 rfl ?_
                refine xv_if_ne (pc := 257) 264 d_Model_stands_257 (by decide) (fun h257 => ?_) (fun h257 => ?_)
                · rw [q0] at h257
                  refine xv_iconst (pc := 264) 0 d_Model_stands_264 (by decide) ?_
                  exact xv_retzq (pc := 265) d_Model_stands_265 rfl (by decide) rfl rfl ⟨_, rfl, by rw [← hs]; show _ = xB (false || (_ && decide (τ = 0))); rw [decide_eq_false h257, Bool.and_false]; rfl, rfl⟩
                · rw [q0] at h257
                  refine xv_iconst (pc := 260) 1 d_Model_stands_260 (by decide) ?_
                  refine xv_goto (pc := 261) 265 d_Model_stands_261 (by decide) ?_
                  exact xv_retzq (pc := 265) d_Model_stands_265 rfl (by decide) rfl rfl ⟨_, rfl, by rw [← hs, decide_eq_true (Int32.not_le.mp h252)]; show _ = xB (false || (true && decide (τ = 0))); rw [decide_eq_true h257]; rfl, rfl⟩
          · rw [q16] at h222
            rw [if_pos h222] at hs
            refine xv_iload (pc := 225) d_Model_stands_225 rfl ?_
            refine xv_if_ne (pc := 227) 240 d_Model_stands_227 (by decide) (fun h227 => ?_) (fun h227 => ?_)
            · have e := xB_ne h227
              refine xv_iconst (pc := 240) 0 d_Model_stands_240 (by decide) ?_
              exact xv_retzq (pc := 241) d_Model_stands_241 rfl (by decide) rfl rfl ⟨_, rfl, by rw [← hs, e]; rfl, rfl⟩
            · have e := xB_eq h227
              refine xv_iload (pc := 230) d_Model_stands_230 rfl ?_
              refine xv_iconst (pc := 232) 2 d_Model_stands_232 (by decide) ?_
              refine xv_icmp_ge (pc := 233) 240 d_Model_stands_233 (by decide) (fun h233 => ?_) (fun h233 => ?_)
              · rw [t2] at h233
                refine xv_iconst (pc := 240) 0 d_Model_stands_240 (by decide) ?_
                exact xv_retzq (pc := 241) d_Model_stands_241 rfl (by decide) rfl rfl ⟨_, rfl, by rw [← hs, e]; show _ = xB (true && decide (τ < 2)); rw [decide_eq_false (by omega)]; rfl, rfl⟩
              · rw [t2] at h233
                refine xv_iconst (pc := 236) 1 d_Model_stands_236 (by decide) ?_
                refine xv_goto (pc := 237) 241 d_Model_stands_237 (by decide) ?_
                exact xv_retzq (pc := 241) d_Model_stands_241 rfl (by decide) rfl rfl ⟨_, rfl, by rw [← hs, e]; show _ = xB (true && decide (τ < 2)); rw [decide_eq_true (by omega)]; rfl, rfl⟩
        · rw [q14] at h204
          rw [if_pos h204] at hs
          refine xv_iload (pc := 207) d_Model_stands_207 rfl ?_
          refine xv_if_ne (pc := 209) 216 d_Model_stands_209 (by decide) (fun h209 => ?_) (fun h209 => ?_)
          · have e := xB_ne h209
            refine xv_iconst (pc := 216) 0 d_Model_stands_216 (by decide) ?_
            exact xv_retzq (pc := 217) d_Model_stands_217 rfl (by decide) rfl rfl ⟨_, rfl, by rw [← hs, e]; rfl, rfl⟩
          · have e := xB_eq h209
            refine xv_iconst (pc := 212) 1 d_Model_stands_212 (by decide) ?_
            refine xv_goto (pc := 213) 217 d_Model_stands_213 (by decide) ?_
            exact xv_retzq (pc := 217) d_Model_stands_217 rfl (by decide) rfl rfl ⟨_, rfl, by rw [← hs, e]; rfl, rfl⟩
      · rw [q15] at h181
        rw [if_pos h181] at hs
        refine xv_iload (pc := 184) d_Model_stands_184 rfl ?_
        refine xv_if_eq (pc := 186) 198 d_Model_stands_186 (by decide) (fun h186 => ?_) (fun h186 => ?_)
        · have e := xB_eq h186
          refine xv_iconst (pc := 198) 0 d_Model_stands_198 (by decide) ?_
          exact xv_retzq (pc := 199) d_Model_stands_199 rfl (by decide) rfl rfl ⟨_, rfl, by rw [← hs, e]; rfl, rfl⟩
        · have e := xB_ne h186
          refine xv_iload (pc := 189) d_Model_stands_189 rfl ?_
          refine xv_if_ne (pc := 191) 198 d_Model_stands_191 (by decide) (fun h191 => ?_) (fun h191 => ?_)
          · have e2 := xB_ne h191
            refine xv_iconst (pc := 198) 0 d_Model_stands_198 (by decide) ?_
            exact xv_retzq (pc := 199) d_Model_stands_199 rfl (by decide) rfl rfl ⟨_, rfl, by rw [← hs, e, e2]; rfl, rfl⟩
          · have e2 := xB_eq h191
            refine xv_iconst (pc := 194) 1 d_Model_stands_194 (by decide) ?_
            refine xv_goto (pc := 195) 199 d_Model_stands_195 (by decide) ?_
            exact xv_retzq (pc := 199) d_Model_stands_199 rfl (by decide) rfl rfl ⟨_, rfl, by rw [← hs, e, e2]; rfl, rfl⟩
    · rw [q1] at h171
      rw [if_pos h171] at hs
      refine xv_iload (pc := 174) d_Model_stands_174 rfl ?_
      exact xv_retzq (pc := 176) d_Model_stands_176 rfl (xB_and _) rfl rfl ⟨_, rfl, by rw [← hs], rfl⟩
  have loop : ∀ (r c τ : Nat) (β l : Bool) (j11 j12 : Option Value), c < r → c ≤ k → τ + c ≤ 50 → xStd (O k) (A k) f (xSd O A up pt (A k) r c β l τ) = R → xv_X sc 0 J_Model_stands 54 [some (.ref M), some (.int (nI k)), some (.int f), some (.int m), some (.int (nI (O k))), some (.int (A k)), some (.int (nI c)), some (.int (nI τ)), some (.int (xB β)), some (.int (xB l)), some (.int (up c)), j11, j12] [] u (xv_N u) (xv_S u) (xv_q (xv_N u) (xv_S u) (xv_pi (fun r w => r = xB R ∧ w = u))) := by
    intro r
    induction r with
    | zero => intro c τ β l j11 j12 hc; omega
    | succ r ih =>
      intro c τ β l j11 j12 hc hck2 hτ hs
      obtain ⟨u1, u2, u3, u4⟩ := hup c (by omega)
      unfold xSd at hs
      refine xv_iload (pc := 54) d_Model_stands_54 rfl ?_
      refine xv_if_lt (pc := 56) 168 d_Model_stands_56 (by decide) (fun h56 => ?_) (fun h56 => ?_)
      · rw [if_pos h56] at hs
        exact post c τ β l _ _ _ (by omega) hs
      rw [if_neg h56] at hs
      rcases u4 with u4 | ⟨p, hpc, u4⟩
      · rw [u4] at h56
        exact absurd (by decide) h56
      have hcp : (nI p).toNatClampNeg = p := nI_clamp (by omega)
      have hcc : (nI c).toNatClampNeg = c := nI_clamp (by omega)
      rw [u4, hcp] at hs
      rw [u4]
      obtain ⟨v1, v2, v3, v4⟩ := hup p (by omega)
      obtain ⟨pO, pO18, pA⟩ := htk p (by omega)
      have ip : vp_in (nI (320 + p)) 360 := vp_in_nI (by omega) (by decide)
      have cp : (nI (320 + p)).toNatClampNeg = 320 + p := nI_clamp (by omega)
      have qp : (nI (pt c) = 2) ↔ pt c = 2 := nI_eq (b := 2) (by omega) (by decide)
      have q14 : (nI (O p) = 14) ↔ O p = 14 := nI_eq (b := 14) (by omega) (by decide)
      have q16 : (nI (O p) = 16) ↔ O p = 16 := nI_eq (b := 16) (by omega) (by decide)
      have es : nI τ + Int32.ofInt 1 = nI (τ + 1) := by rw [nI_succ]; rfl
      generalize hmn : xMn A pt (A k) p c = mn at hs
      unfold xMn at hmn
      have at152 : ∀ (τ' : Nat) (l' : Bool), τ' = (if O p = 16 then τ + 1 else τ) → l' = (if O p = 16 then l || mn else l) → xv_X sc 0 J_Model_stands 152 [some (.ref M), some (.int (nI k)), some (.int f), some (.int m), some (.int (nI (O k))), some (.int (A k)), some (.int (nI c)), some (.int (nI τ')), some (.int (xB (β || ((decide (O p = 14) || decide (O p = 16)) && mn)))), some (.int (xB l')), some (.int (nI p)), some (.int (nI (O p))), some (.int (xB mn))] [] u (xv_N u) (xv_S u) (xv_q (xv_N u) (xv_S u) (xv_pi (fun r w => r = xB R ∧ w = u))) := by
        intro τ' l' hτ' hl'
        refine xv_iload (pc := 152) d_Model_stands_152 rfl ?_
        refine xv_istore_6 (pc := 154) d_Model_stands_154 (by decide) rfl ?_
        refine xv_aload_n (pc := 156) d_Model_stands_156 rfl rfl ?_
        refine xv_getR (pc := 157) d_Model_stands_157 f_Model_22 rfl hM.1 (xm_r4 hM) ?_
        refine xv_iload (pc := 160) d_Model_stands_160 rfl ?_
        refine xv_ald (pc := 162) d_Model_stands_162 (xm_k4 hM) (xm_i4 hM (vp_in_nI (by omega) (by decide))) ?_
        refine xv_istore_10 (pc := 163) d_Model_stands_163 (by decide) rfl ?_
        refine xv_goto (pc := 165) 54 d_Model_stands_165 (by decide) ?_
        rw [hcp, v1]
        refine ih p τ' _ l' _ _ (by omega) (by omega) (by rw [hτ']; split <;> omega) ?_
        rw [hτ', hl']
        exact hs
      have at132 : ∀ b : Bool, b = ((decide (O p = 14) || decide (O p = 16)) && mn) → xv_X sc 0 J_Model_stands 132 [some (.ref M), some (.int (nI k)), some (.int f), some (.int m), some (.int (nI (O k))), some (.int (A k)), some (.int (nI c)), some (.int (nI τ)), some (.int (xB β)), some (.int (xB l)), some (.int (nI p)), some (.int (nI (O p))), some (.int (xB mn))] [.int (xB b), .int (xB β)] u (xv_N u) (xv_S u) (xv_q (xv_N u) (xv_S u) (xv_pi (fun r w => r = xB R ∧ w = u))) := by
        intro b hb
        subst hb
        refine xv_ior (pc := 132) d_Model_stands_132 ?_
        refine xv_istore_8 (pc := 133) d_Model_stands_133 (by decide) rfl ?_
        refine xv_iload (pc := 135) d_Model_stands_135 rfl ?_
        refine xv_bipush (pc := 137) 16 d_Model_stands_137 (by decide) ?_
        refine xv_icmp_ne (pc := 139) 152 d_Model_stands_139 (by decide) (fun h139 => ?_) (fun h139 => ?_)
        · rw [q16] at h139
          rw [xB_ior]
          exact at152 τ l (by rw [if_neg h139]) (by rw [if_neg h139])
        · rw [q16] at h139
          rw [xB_ior]
          refine xv_iinc_7 (pc := 142) (nI (τ + 1)) d_Model_stands_142 es (by decide) rfl ?_
          refine xv_iload (pc := 145) d_Model_stands_145 rfl ?_
          refine xv_iload (pc := 147) d_Model_stands_147 rfl ?_
          refine xv_ior (pc := 149) d_Model_stands_149 ?_
          refine xv_istore_9 (pc := 150) d_Model_stands_150 (by decide) rfl ?_
          rw [xB_ior]
          exact at152 (τ + 1) (l || mn) (by rw [if_pos h139]) (by rw [if_pos h139])
      have at104 : xv_X sc 0 J_Model_stands 104 [some (.ref M), some (.int (nI k)), some (.int f), some (.int m), some (.int (nI (O k))), some (.int (A k)), some (.int (nI c)), some (.int (nI τ)), some (.int (xB β)), some (.int (xB l)), some (.int (nI p)), some (.int (nI (O p))), j12] [.int (xB mn)] u (xv_N u) (xv_S u) (xv_q (xv_N u) (xv_S u) (xv_pi (fun r w => r = xB R ∧ w = u))) := by
        have at122 : (O p = 14 ∨ O p = 16) → xv_X sc 0 J_Model_stands 122 [some (.ref M), some (.int (nI k)), some (.int f), some (.int m), some (.int (nI (O k))), some (.int (A k)), some (.int (nI c)), some (.int (nI τ)), some (.int (xB β)), some (.int (xB l)), some (.int (nI p)), some (.int (nI (O p))), some (.int (xB mn))] [.int (xB β)] u (xv_N u) (xv_S u) (xv_q (xv_N u) (xv_S u) (xv_pi (fun r w => r = xB R ∧ w = u))) := by
          intro ho
          have hd : (decide (O p = 14) || decide (O p = 16)) = true := by
            rcases ho with q | q
            · rw [decide_eq_true q]; rfl
            · rw [decide_eq_true q, Bool.or_true]
          refine xv_iload (pc := 122) d_Model_stands_122 rfl ?_
          refine xv_if_eq (pc := 124) 131 d_Model_stands_124 (by decide) (fun h124 => ?_) (fun h124 => ?_)
          · have e := xB_eq h124
            refine xv_iconst (pc := 131) 0 d_Model_stands_131 (by decide) ?_
            exact at132 false (by rw [e, Bool.and_false])
          · have e := xB_ne h124
            refine xv_iconst (pc := 127) 1 d_Model_stands_127 (by decide) ?_
            refine xv_goto (pc := 128) 132 d_Model_stands_128 (by decide) ?_
            exact at132 true (by rw [e, hd]; rfl)
        refine xv_istore_12 (pc := 104) d_Model_stands_104 (by decide) rfl ?_
        refine xv_iload (pc := 106) d_Model_stands_106 rfl ?_
        refine xv_iload (pc := 108) d_Model_stands_108 rfl ?_
        refine xv_bipush (pc := 110) 14 d_Model_stands_110 (by decide) ?_
        refine xv_icmp_eq (pc := 112) 122 d_Model_stands_112 (by decide) (fun h112 => ?_) (fun h112 => ?_)
        · rw [q14] at h112
          exact at122 (Or.inl h112)
        · rw [q14] at h112
          refine xv_iload (pc := 115) d_Model_stands_115 rfl ?_
          refine xv_bipush (pc := 117) 16 d_Model_stands_117 (by decide) ?_
          refine xv_icmp_ne (pc := 119) 131 d_Model_stands_119 (by decide) (fun h119 => ?_) (fun h119 => ?_)
          · rw [q16] at h119
            refine xv_iconst (pc := 131) 0 d_Model_stands_131 (by decide) ?_
            exact at132 false (by rw [decide_eq_false h112, decide_eq_false h119]; rfl)
          · rw [q16] at h119
            exact at122 (Or.inr h119)
      refine xv_aload_n (pc := 59) d_Model_stands_59 rfl rfl ?_
      refine xv_getR (pc := 60) d_Model_stands_60 f_Model_7 rfl hM.1 (xm_r0 hM) ?_
      refine xv_sipush (pc := 63) 320 d_Model_stands_63 (by decide) ?_
      refine xv_iload (pc := 66) d_Model_stands_66 rfl ?_
      refine xv_iadd (pc := 68) d_Model_stands_68 ?_
      refine xv_ald (pc := 69) d_Model_stands_69 (xm_k0 hM) (by rw [x320]; exact xm_i0 hM ip) ?_
      refine xv_istore_11 (pc := 70) d_Model_stands_70 (by decide) rfl ?_
      refine xv_aload_n (pc := 72) d_Model_stands_72 rfl rfl ?_
      refine xv_getR (pc := 73) d_Model_stands_73 f_Model_13 rfl hM.1 (xm_r1 hM) ?_
      refine xv_sipush (pc := 76) 320 d_Model_stands_76 (by decide) ?_
      refine xv_iload (pc := 79) d_Model_stands_79 rfl ?_
      refine xv_iadd (pc := 81) d_Model_stands_81 ?_
      refine xv_ald (pc := 82) d_Model_stands_82 (xm_k1 hM) (by rw [x320]; exact xm_i1 hM ip) ?_
      refine xv_iload (pc := 83) d_Model_stands_83 rfl ?_
      refine xv_icmp_ne (pc := 85) 103 d_Model_stands_85 (by decide) (fun h85 => ?_) (fun h85 => ?_)
      · rw [x320, cp, pA] at h85
        rw [x320, cp, pO]
        refine xv_iconst (pc := 103) 0 d_Model_stands_103 (by decide) ?_
        rw [decide_eq_false h85, Bool.false_and] at hmn
        subst hmn
        exact at104
      · rw [x320, cp, pA] at h85
        rw [x320, cp, pO]
        refine xv_aload_n (pc := 88) d_Model_stands_88 rfl rfl ?_
        refine xv_getR (pc := 89) d_Model_stands_89 f_Model_25 rfl hM.1 (xm_r5 hM) ?_
        refine xv_iload (pc := 92) d_Model_stands_92 rfl ?_
        refine xv_ald (pc := 94) d_Model_stands_94 (xm_k5 hM) (xm_i5 hM (vp_in_nI (by omega) (by decide))) ?_
        refine xv_iconst (pc := 95) 2 d_Model_stands_95 (by decide) ?_
        refine xv_icmp_ne (pc := 96) 103 d_Model_stands_96 (by decide) (fun h96 => ?_) (fun h96 => ?_)
        · rw [hcc, u2, qp] at h96
          refine xv_iconst (pc := 103) 0 d_Model_stands_103 (by decide) ?_
          rw [decide_eq_false h96, Bool.and_false] at hmn
          subst hmn
          exact at104
        · rw [hcc, u2, qp] at h96
          refine xv_iconst (pc := 99) 1 d_Model_stands_99 (by decide) ?_
          refine xv_goto (pc := 100) 104 d_Model_stands_100 (by decide) ?_
          rw [decide_eq_true h85, decide_eq_true h96] at hmn
          subst hmn
          exact at104
  have at41 : ∀ b : Bool, b = decide (A k < m) → xv_X sc 0 J_Model_stands 41 [some (.ref M), some (.int (nI k)), some (.int f), some (.int m), some (.int (nI (O k))), some (.int (A k)), some (.int (nI k)), some (.int 0), none, none, none, none, none] [.int (xB b)] u (xv_N u) (xv_S u) (xv_q (xv_N u) (xv_S u) (xv_pi (fun r w => r = xB R ∧ w = u))) := by
    intro b hb
    subst hb
    refine xv_istore_8 (pc := 41) d_Model_stands_41 (by decide) rfl ?_
    refine xv_iconst (pc := 43) 0 d_Model_stands_43 (by decide) ?_
    refine xv_istore_9 (pc := 44) d_Model_stands_44 (by decide) rfl ?_
    refine xv_aload_n (pc := 46) d_Model_stands_46 rfl rfl ?_
    refine xv_getR (pc := 47) d_Model_stands_47 f_Model_22 rfl hM.1 (xm_r4 hM) ?_
    refine xv_iload_n (pc := 50) d_Model_stands_50 rfl rfl ?_
    refine xv_ald (pc := 51) d_Model_stands_51 (xm_k4 hM) (xm_i4 hM (vp_in_nI (by omega) (by decide))) ?_
    refine xv_istore_10 (pc := 52) d_Model_stands_52 (by decide) rfl ?_
    rw [hck, (hup k hk).1]
    exact loop (k + 1) k 0 _ false _ _ (Nat.lt_succ_self k) (Nat.le_refl _) (by omega) hR
  refine xv_aload_n (pc := 0) d_Model_stands_0 rfl rfl ?_
  refine xv_getR (pc := 1) d_Model_stands_1 f_Model_7 rfl hM.1 (xm_r0 hM) ?_
  refine xv_sipush (pc := 4) 320 d_Model_stands_4 (by decide) ?_
  refine xv_iload_n (pc := 7) d_Model_stands_7 rfl rfl ?_
  refine xv_iadd (pc := 8) d_Model_stands_8 ?_
  refine xv_ald (pc := 9) d_Model_stands_9 (xm_k0 hM) (by rw [x320]; exact xm_i0 hM ik) ?_
  refine xv_istore_4 (pc := 10) d_Model_stands_10 (by decide) rfl ?_
  refine xv_aload_n (pc := 12) d_Model_stands_12 rfl rfl ?_
  refine xv_getR (pc := 13) d_Model_stands_13 f_Model_13 rfl hM.1 (xm_r1 hM) ?_
  refine xv_sipush (pc := 16) 320 d_Model_stands_16 (by decide) ?_
  refine xv_iload_n (pc := 19) d_Model_stands_19 rfl rfl ?_
  refine xv_iadd (pc := 20) d_Model_stands_20 ?_
  refine xv_ald (pc := 21) d_Model_stands_21 (xm_k1 hM) (by rw [x320]; exact xm_i1 hM ik) ?_
  refine xv_istore_5 (pc := 22) d_Model_stands_22 (by decide) rfl ?_
  refine xv_iload_n (pc := 24) d_Model_stands_24 rfl rfl ?_
  refine xv_istore_6 (pc := 25) d_Model_stands_25 (by decide) rfl ?_
  refine xv_iconst (pc := 27) 0 d_Model_stands_27 (by decide) ?_
  refine xv_istore_7 (pc := 28) d_Model_stands_28 (by decide) rfl ?_
  refine xv_iload (pc := 30) d_Model_stands_30 rfl ?_
  refine xv_iload_n (pc := 32) d_Model_stands_32 rfl rfl ?_
  refine xv_icmp_ge (pc := 33) 40 d_Model_stands_33 (by decide) (fun h33 => ?_) (fun h33 => ?_)
  · rw [x320, ck, tA] at h33
    rw [x320, ck, tA, tO]
    refine xv_iconst (pc := 40) 0 d_Model_stands_40 (by decide) ?_
    exact at41 false (decide_eq_false (Int32.not_lt.mpr h33)).symm
  · rw [x320, ck, tA] at h33
    rw [x320, ck, tA, tO]
    refine xv_iconst (pc := 36) 1 d_Model_stands_36 (by decide) ?_
    refine xv_goto (pc := 37) 41 d_Model_stands_37 (by decide) ?_
    exact at41 true (decide_eq_true (Int32.not_le.mp h33)).symm

