/-! the model: load, the image -/
/-- the last entry, of the first k, that has number f -/
def xLs (num : Nat → Nat) : Nat → Nat → Option Nat
  | 0, _ => none
  | k + 1, f => if num k = f then some k else xLs num k f
theorem xLs_lt {num : Nat → Nat} : ∀ k f e, xLs num k f = some e → e < k ∧ num e = f := by
  intro k
  induction k with
  | zero => intro f e h; cases h
  | succ k ih =>
    intro f e h
    unfold xLs at h
    by_cases c : num k = f
    · rw [if_pos c] at h
      cases h
      exact ⟨Nat.lt_succ_self k, c⟩
    · rw [if_neg c] at h
      obtain ⟨a, b⟩ := ih f e h
      exact ⟨by omega, b⟩
def xLS (M b : Nat) : Prop := (M + 7 ≤ b ∧ b ≤ M + 14) ∨ b = M + 22
/-- the image of the first k entries -/
def xLq (u w : xv_M) (M k : Nat) (L num : Nat → Nat) : Prop := xSi (xLS M) u w ∧ (∀ c, c = 7 ∨ c = 8 ∨ c = 9 ∨ c = 13 → ∀ q, q < 280 * 16 → xv_i w (M + c) q = xv_i u (M + c) q) ∧ (∀ c, c = 10 ∨ c = 11 → ∀ q, q < 16 → xv_i w (M + c) q = xv_i u (M + c) q) ∧
  ∀ f, f < 8 → (xLs num k f = none → xv_i w (M + 14) f = 0) ∧ ∀ e, xLs num k f = some e → xv_i w (M + 14) f = 1 ∧ xv_i w (M + 22) f = xv_i u (M + 18) e ∧ xv_i w (M + 10) (16 + f) = nI (L e) ∧ ∀ c, c = 7 ∨ c = 8 ∨ c = 9 ∨ c = 13 → ∀ i, i < L e → xv_i w (M + c) (280 * (16 + f) + i) = xv_i u (M + c) (280 * (8 + e) + i)
theorem x16 {k : Nat} : (16 : Int32) + nI k = nI (16 + k) := by rw [← nI_add]; rfl
set_option maxHeartbeats 1000000 in
theorem c_Model_load {sc : Nat × (Nat → Int32)} {u : xv_M} {M n : Nat} {L num : Nat → Nat} {O : Nat → Nat → Nat} {sl ver : Nat → Bool} (hM : xMo u M) (hV : xLv u M n L O sl ver) (hnum : ∀ e, e < n → xv_i u (M + 17) e = nI (num e) ∧ num e < 8) (hfx : ∀ e k, e < n → k < L e → xv_i u (M + 13) (280 * (8 + e) + k) = 0 ∨ xv_i u (M + 13) (280 * (8 + e) + k) = 1) : xv_C sc 2 J_Model_load [.ref M] u (xv_N u) (xv_S u) (xv_pi (fun r w => xFt u M (xFF (xv_i u M 29) (xv_i u M 30) (xv_i u M 31) n sl (fun e => xv_i u (M + 17) e) (fun e => xv_i u (M + 19) e) (fun e => xv_i u (M + 15) e) ver) r w ∨ ((xFF (xv_i u M 29) (xv_i u M 30) (xv_i u M 31) n sl (fun e => xv_i u (M + 17) e) (fun e => xv_i u (M + 19) e) (fun e => xv_i u (M + 15) e) ver).1 = 0 ∧ r = 0 ∧ ∃ w1, xLq u w1 M n L num ∧ w = xv_si w1 M 32 (xv_i u M 32 + 1)))) := by
  have hV0 := hV
  obtain ⟨hn, hlt, hE⟩ := hV
  refine xv_C_of (by decide) (Nat.le_refl _) (Nat.le_refl _) (xv_cat1 rfl) (Nat.le_of_ble_eq_true rfl) ?_
  show xv_X sc 2 J_Model_load 0 [some (.ref M), none, none] [] u (xv_N u) (xv_S u) _
  generalize hff : (xFF (xv_i u M 29) (xv_i u M 30) (xv_i u M 31) n sl (fun e => xv_i u (M + 17) e) (fun e => xv_i u (M + 19) e) (fun e => xv_i u (M + 15) e) ver) = FF
  refine c_load_pre hM hV0 (fun r w h => ⟨r, rfl, Or.inl (by rw [← hff]; exact h)⟩) (fun h0 w j2 z => ?_)
  rw [hff] at h0
  -- the copies
  have copies : ∀ (q k : Nat) (w : xv_M), k + q = n → xLq u w M k L num → xv_X sc 2 J_Model_load 242 [some (.ref M), some (.int (nI k)), none] [] w (xv_N u) (xv_S u) (xv_q (xv_N u) (xv_S u) (xv_pi (fun r w => xFt u M FF r w ∨ (FF.1 = 0 ∧ r = 0 ∧ ∃ w1, xLq u w1 M n L num ∧ w = xv_si w1 M 32 (xv_i u M 32 + 1))))) := by
    intro q
    induction q with
    | zero =>
      intro k w hk D
      have hk : k = n := by omega
      subst hk
      have hMw := xSi_Mo D.1 hM
      have kp : ∀ j, xv_i w M j = xv_i u M j := fun j => by rw [D.1.2.2.2.2.2.2 _ (fun q => by unfold xLS at q; omega)]
      refine xv_iload_n (pc := 242) d_Model_load_242 rfl rfl ?_
      refine xv_aload_n (pc := 243) d_Model_load_243 rfl rfl ?_
      refine xv_getI (pc := 244) d_Model_load_244 f_Model_172 rfl hMw.1 ?_
      refine xv_icmp_ge (pc := 247) 294 d_Model_load_247 (by decide) (fun h247 => ?_) (fun h247 => ?_)
      case refine_2 =>
        rw [kp, hn] at h247
        exact absurd (Int32.le_refl _) h247
      refine xv_aload_n (pc := 294) d_Model_load_294 rfl rfl ?_
      refine xv_dup_ref (pc := 295) d_Model_load_295 ?_
      refine xv_getI (pc := 296) d_Model_load_296 f_Model_201 rfl hMw.1 ?_
      refine xv_iconst (pc := 299) 1 d_Model_load_299 (by decide) ?_
      refine xv_iadd (pc := 300) d_Model_load_300 ?_
      refine xv_putI (pc := 301) d_Model_load_301 f_Model_201 (Or.inl rfl) fin_11_32 hMw.1 ?_
      refine xv_iconst (pc := 304) 0 d_Model_load_304 (by decide) ?_
      rw [kp]
      exact xv_retiq (pc := 305) d_Model_load_305 rfl D.1.1 D.1.2.1 ⟨_, rfl, Or.inr ⟨h0, rfl, w, D, rfl⟩⟩
    | succ q ih =>
      intro k w hk D
      obtain ⟨d1, d2, d3, d4⟩ := D
      have hMw := xSi_Mo d1 hM
      have kp : ∀ j, xv_i w M j = xv_i u M j := fun j => by rw [d1.2.2.2.2.2.2 _ (fun q => by unfold xLS at q; omega)]
      have k17 : ∀ j, xv_i w (M + 17) j = xv_i u (M + 17) j := fun j => by rw [d1.2.2.2.2.2.2 _ (fun q => by unfold xLS at q; omega)]
      have k18 : ∀ j, xv_i w (M + 18) j = xv_i u (M + 18) j := fun j => by rw [d1.2.2.2.2.2.2 _ (fun q => by unfold xLS at q; omega)]
      obtain ⟨hnk, hn8⟩ := hnum k (by omega)
      obtain ⟨⟨l1, l2, l3⟩, -⟩ := hE k (by omega)
      have hck : (nI k).toNatClampNeg = k := nI_clamp (by omega)
      have hcn : (nI (num k)).toNatClampNeg = num k := nI_clamp (by omega)
      have es : nI k + Int32.ofInt 1 = nI (k + 1) := by rw [nI_succ]; rfl
      refine xv_iload_n (pc := 242) d_Model_load_242 rfl rfl ?_
      refine xv_aload_n (pc := 243) d_Model_load_243 rfl rfl ?_
      refine xv_getI (pc := 244) d_Model_load_244 f_Model_172 rfl hMw.1 ?_
      refine xv_icmp_ge (pc := 247) 294 d_Model_load_247 (by decide) (fun h247 => ?_) (fun h247 => ?_)
      · rw [kp, hn] at h247
        exact absurd h247 (nI_ge (by omega) (by omega))
      refine xv_aload_n (pc := 250) d_Model_load_250 rfl rfl ?_
      refine xv_getR (pc := 251) d_Model_load_251 f_Model_59 rfl hMw.1 (xm_r16 hMw) ?_
      refine xv_iload_n (pc := 254) d_Model_load_254 rfl rfl ?_
      refine xv_ald (pc := 255) d_Model_load_255 (xm_k16 hMw) (xm_i16 hMw (vp_in_nI (by omega) (by decide))) ?_
      refine xv_istore_2 (pc := 256) d_Model_load_256 (by decide) rfl ?_
      rw [hck, k17, hnk]
      refine xv_aload_n (pc := 257) d_Model_load_257 rfl rfl ?_
      refine xv_getR (pc := 258) d_Model_load_258 f_Model_50 rfl hMw.1 (xm_r13 hMw) ?_
      refine xv_iload_n (pc := 261) d_Model_load_261 rfl rfl ?_
      refine xv_iconst (pc := 262) 1 d_Model_load_262 (by decide) ?_
      refine xv_zast (pc := 263) d_Model_load_263 (xm_k13 hMw) (xm_i13 hMw (vp_in_nI hn8 (by decide))) (by decide) ?_
      refine xv_aload_n (pc := 264) d_Model_load_264 rfl rfl ?_
      refine xv_getR (pc := 265) d_Model_load_265 f_Model_74 rfl hMw.1 (xm_r21 hMw) ?_
      refine xv_iload_n (pc := 268) d_Model_load_268 rfl rfl ?_
      refine xv_aload_n (pc := 269) d_Model_load_269 rfl rfl ?_
      refine xv_getR (pc := 270) d_Model_load_270 f_Model_62 rfl hMw.1 (xm_r17 hMw) ?_
      refine xv_iload_n (pc := 273) d_Model_load_273 rfl rfl ?_
      refine xv_ald (pc := 274) d_Model_load_274 (xm_k17 hMw) (xm_i17 hMw (vp_in_nI (by omega) (by decide))) ?_
      refine xv_ast (pc := 275) d_Model_load_275 (xm_k21 hMw) (xm_i21 hMw (vp_in_nI hn8 (by decide))) ?_
      refine xv_aload_n (pc := 276) d_Model_load_276 rfl rfl ?_
      refine xv_bipush (pc := 277) 16 d_Model_load_277 (by decide) ?_
      refine xv_iload_n (pc := 279) d_Model_load_279 rfl rfl ?_
      refine xv_iadd (pc := 280) d_Model_load_280 ?_
      refine xv_bipush (pc := 281) 8 d_Model_load_281 (by decide) ?_
      refine xv_iload_n (pc := 283) d_Model_load_283 rfl rfl ?_
      refine xv_iadd (pc := 284) d_Model_load_284 ?_
      rw [hcn, hck, xv_si_ne (by omega), k18, x16, x8]
      have zw1 : xSi (xLS M) w (xv_si (xv_si w (M + 14) (num k) 1) (M + 22) (num k) (xv_i u (M + 18) k)) := xSi_tr (xSi_si (by unfold xLS; omega)) (xSi_si (by unfold xLS; omega))
      have f14 : ∀ j, xv_i (xv_si (xv_si w (M + 14) (num k) 1) (M + 22) (num k) (xv_i u (M + 18) k)) (M + 14) j = if j = num k then 1 else xv_i w (M + 14) j := fun j => by rw [xv_si_ne (by omega), xv_si_if]
      have f22 : ∀ j, xv_i (xv_si (xv_si w (M + 14) (num k) 1) (M + 22) (num k) (xv_i u (M + 18) k)) (M + 22) j = if j = num k then xv_i u (M + 18) k else xv_i w (M + 22) j := fun j => by rw [xv_si_if, xv_si_ne (by omega)]
      have frest : ∀ c j, c ≤ 13 → xv_i (xv_si (xv_si w (M + 14) (num k) 1) (M + 22) (num k) (xv_i u (M + 18) k)) (M + c) j = xv_i w (M + c) j := fun c j hc => by rw [xv_si_ne (by omega), xv_si_ne (by omega)]
      have hM1 : xMo (xv_si (xv_si w (M + 14) (num k) 1) (M + 22) (num k) (xv_i u (M + 18) k)) M := hMw
      have N1 : xv_N (xv_si (xv_si w (M + 14) (num k) 1) (M + 22) (num k) (xv_i u (M + 18) k)) = xv_N u := d1.1
      have S1 : xv_S (xv_si (xv_si w (M + 14) (num k) 1) (M + 22) (num k) (xv_i u (M + 18) k)) = xv_S u := d1.2.1
      generalize xv_si (xv_si w (M + 14) (num k) 1) (M + 22) (num k) (xv_i u (M + 18) k) = w1 at *
      have cu := c_Model_copyUnits (sc := sc) (t := 16 + num k) (f := 8 + k) (n := L k) hM1 (by omega) (by omega) (by omega) (by rw [frest 10 _ (by decide), d3 10 (Or.inl rfl) _ (by omega)]; exact l1) (by omega) (fun j hj => by rw [frest 13 _ (by decide), d2 13 (by omega) _ (by omega)]; exact hfx k j (by omega) hj)
      refine xv_cV2v (pc := 285) cu m_Model_copyUnits l_Model_175 d_Model_load_285 (by omega) (by decide : 11 < xv_nc) rfl hM1.1 (Nat.le_of_ble_eq_true rfl) ⟨Nat.le_of_eq N1, Nat.le_of_eq S1⟩ (fun w2 hw hN hS => ?_)
      obtain ⟨b1, b2, b3, b4, b5, b6, b7, b8, b9⟩ := hw
      have hbk : ∀ c, c = 7 ∨ c = 8 ∨ c = 9 ∨ c = 13 → xBk w1 w2 (M + c) (M + c) (280 * (16 + num k)) (280 * (8 + k)) (L k) := fun c hc => by
        rcases hc with rfl | rfl | rfl | rfl
        · exact b2
        · exact b3
        · exact b4
        · exact b5
      have k2 : ∀ b q, ¬ xCU M b → xv_i w2 b q = xv_i w1 b q := fun b q hb => by rw [b1.2.2.2.2.2.2 b hb]
      refine xv_iinc_1 (pc := 288) (nI (k + 1)) d_Model_load_288 es (by decide) rfl ?_
      refine xv_goto (pc := 291) 242 d_Model_load_291 (by decide) ?_
      refine xv_no_2 (ih (k + 1) w2 (by omega) ⟨xSi_tr (xSi_tr d1 zw1) (xSi_mono b1 (fun b h => by unfold xCU at h; unfold xLS; omega)), fun c hc q hq => ?_, fun c hc q hq => ?_, fun f hf => ?_⟩)
      · rw [(hbk c hc).1 q (by omega), frest c q (by omega)]
        exact d2 c hc q hq
      · rcases hc with rfl | rfl
        · rw [b6 q (by omega), frest 10 q (by decide)]
          exact d3 10 (Or.inl rfl) q hq
        · rw [b8 q (by omega), frest 11 q (by decide)]
          exact d3 11 (Or.inr rfl) q hq
      · obtain ⟨c1, c2⟩ := d4 f hf
        have q14 : xv_i w2 (M + 14) f = if f = num k then 1 else xv_i w (M + 14) f := by rw [k2 _ _ (by unfold xCU; omega), f14]
        have q22 : xv_i w2 (M + 22) f = if f = num k then xv_i u (M + 18) k else xv_i w (M + 22) f := by rw [k2 _ _ (by unfold xCU; omega), f22]
        unfold xLs
        by_cases c : num k = f
        · rw [if_pos c]
          subst c
          refine ⟨fun h => (by cases h), fun e he => ?_⟩
          cases he
          refine ⟨by rw [q14, if_pos rfl], by rw [q22, if_pos rfl], b7, fun c hc i hi => ?_⟩
          rw [(hbk c hc).2 i hi, frest c _ (by omega)]
          exact d2 c hc _ (by omega)
        · rw [if_neg c, q14, q22, if_neg (fun z => c z.symm), if_neg (fun z => c z.symm)]
          refine ⟨c1, fun e he => ?_⟩
          obtain ⟨a1, a2, a3, a4⟩ := c2 e he
          obtain ⟨e1, e2⟩ := xLs_lt k f e he
          have le := (hE e (by omega)).1.2.2
          refine ⟨a1, a2, by rw [b6 _ (by omega), frest 10 _ (by decide)]; exact a3, fun c hc i hi => ?_⟩
          rw [(hbk c hc).1 _ (by omega), frest c _ (by omega)]
          exact a4 c hc i hi
  -- the image is emptied
  have clr : ∀ (q k : Nat) (w : xv_M), k + q = 8 → xSi (xLS M) u w → (∀ c q, ¬ c = 12 → ¬ c = 14 → xv_i w (M + c) q = xv_i u (M + c) q) → (∀ j, j < k → xv_i w (M + 14) j = 0) → xv_X sc 2 J_Model_load 221 [some (.ref M), some (.int (nI k)), none] [] w (xv_N u) (xv_S u) (xv_q (xv_N u) (xv_S u) (xv_pi (fun r w => xFt u M FF r w ∨ (FF.1 = 0 ∧ r = 0 ∧ ∃ w1, xLq u w1 M n L num ∧ w = xv_si w1 M 32 (xv_i u M 32 + 1))))) := by
    intro q
    induction q with
    | zero =>
      intro k w hk z kp h14
      have hk : k = 8 := by omega
      subst hk
      refine xv_iload_n (pc := 221) d_Model_load_221 rfl rfl ?_
      refine xv_bipush (pc := 222) 8 d_Model_load_222 (by decide) ?_
      refine xv_icmp_ge (pc := 224) 240 d_Model_load_224 (by decide) (fun h224 => ?_) (fun h224 => ?_)
      case refine_2 => exact absurd (by decide) h224
      refine xv_iconst (pc := 240) 0 d_Model_load_240 (by decide) ?_
      refine xv_istore_1 (pc := 241) d_Model_load_241 (by decide) rfl ?_
      exact copies n 0 w (by omega) ⟨z, fun c hc q _ => kp c q (by omega) (by omega), fun c hc q _ => kp c q (by omega) (by omega), fun f hf => ⟨fun _ => h14 f hf, fun e he => by cases he⟩⟩
    | succ q ih =>
      intro k w hk z kp h14
      have hMw := xSi_Mo z hM
      have hck : (nI k).toNatClampNeg = k := nI_clamp (by omega)
      have es : nI k + Int32.ofInt 1 = nI (k + 1) := by rw [nI_succ]; rfl
      refine xv_iload_n (pc := 221) d_Model_load_221 rfl rfl ?_
      refine xv_bipush (pc := 222) 8 d_Model_load_222 (by decide) ?_
      refine xv_icmp_ge (pc := 224) 240 d_Model_load_224 (by decide) (fun h224 => ?_) (fun h224 => ?_)
      · exact absurd h224 (nI_ge (b := 8) (by omega) (by decide))
      refine xv_aload_n (pc := 227) d_Model_load_227 rfl rfl ?_
      refine xv_getR (pc := 228) d_Model_load_228 f_Model_50 rfl hMw.1 (xm_r13 hMw) ?_
      refine xv_iload_n (pc := 231) d_Model_load_231 rfl rfl ?_
      refine xv_iconst (pc := 232) 0 d_Model_load_232 (by decide) ?_
      refine xv_zast (pc := 233) d_Model_load_233 (xm_k13 hMw) (xm_i13 hMw (vp_in_nI (by omega) (by decide))) (by decide) ?_
      refine xv_iinc_1 (pc := 234) (nI (k + 1)) d_Model_load_234 es (by decide) rfl ?_
      refine xv_goto (pc := 237) 221 d_Model_load_237 (by decide) ?_
      rw [hck]
      refine ih (k + 1) _ (by omega) (xSi_tr z (xSi_si (by unfold xLS; omega))) (fun c q h1 h2 => by rw [xv_si_ne (by omega)]; exact kp c q h1 h2) (fun j hj => ?_)
      rw [xv_si_if]
      by_cases e : j = k
      · rw [if_pos e]
      · rw [if_neg e]; exact h14 j (by omega)
  exact clr 8 0 w (by omega) (xSi_mono z (fun b h => by unfold xM12 at h; unfold xLS; omega)) (fun c q h1 h2 => by rw [z.2.2.2.2.2.2 _ (fun q => by unfold xM12 at q; omega)]) (fun j hj => absurd hj (Nat.not_lt_zero j))

