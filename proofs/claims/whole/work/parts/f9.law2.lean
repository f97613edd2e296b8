/-! the law: interpret and run, out of what the helpers do -/
/-- what a helper has done: its code, the memory, what the model will do there -/
def yHq (sc : Nat × (Nat → Int32)) (J : xv_J) (h N M : Nat) (f x y z : Int32) (u : xv_M) (c v : Int32) (w : xv_M) : Prop := (xv_N u ≤ xv_N w ∧ xv_N w ≤ xv_N u + 1 ∧ xv_S u ≤ xv_S w ∧ xv_S w ≤ xv_S u + 6) ∧ (xv_k w M = 12 ∧ xv_k w (M + 30) = 102 ∧ xv_l w (M + 30) = 1) ∧ (c = 0 → xv_g w (M + 30) 0 = v.toInt64) ∧ xv_C sc 2 J [.ref M, .int f, .int x, .int y, .int z] w (xv_N w) (xv_S w) (xv_pi (fun b w' => xv_i w' M 35 = c ∧ (c = 0 → b = v) ∧ xv_g w' = xv_g w ∧ yTi w' h N M))
def yHr (sc : Nat × (Nat → Int32)) (d pc : Nat) (J : xv_J) (h N M : Nat) (lv : List (Option Value)) (u : xv_M) (n1 s1 : Nat) (P : xv_P) : Prop := ∀ f x y z : Int32, (∀ c v w, yHq sc J h N M f x y z u c v w → xv_X sc d J_Law_law (pc + 3) lv [.int c] w n1 s1 P) → xv_X sc d J_Law_law pc lv [.ref (M + 30), .int z, .int y, .int x, .int f, .ref h] u n1 s1 P
theorem lw_interpret_open {sc : Nat × (Nat → Int32)} {d : Nat} {u : xv_M} {h N M i n1 s1 : Nat} {P : xv_P} {j5 j6 : Option Value} (hL : sc.1 ≤ 2560) (hi : i + 5 ≤ sc.1) (hd : 100 ≤ d) (hn1 : xv_N u + 1 ≤ n1) (hs1 : xv_S u + 6 ≤ s1) (H : yTi u h N M) (hr : yHr sc d 217 J_Model_interpret h N M [some (.retAddr 9), some (.ref h), some (.ref M), some (.ref (M + 30)), some (.int (nI i)), j5, j6] u n1 s1 P) (k : ∀ (w : xv_M) (j5 j6 : Option Value), yTi w h N M → xv_N u ≤ xv_N w ∧ xv_N w ≤ xv_N u + 1 → xv_S u ≤ xv_S w ∧ xv_S w ≤ xv_S u + 6 → xv_X sc d J_Law_law 647 [some (.retAddr 9), some (.ref h), some (.ref M), some (.ref (M + 30)), some (.int (nI i)), j5, j6] [] w n1 s1 P) : xv_X sc d J_Law_law 191 [some (.retAddr 9), some (.ref h), some (.ref M), some (.ref (M + 30)), some (.int (nI i)), j5, j6] [] u n1 s1 P := by
  refine xv_aload_n (pc := 191) d_Law_law_191 rfl rfl ?_
  refine xv_aloadE_n (pc := 192) d_Law_law_192 rfl rfl ?_
  refine xv_iload (pc := 193) d_Law_law_193 rfl ?_
  refine xv_iconst (pc := 195) 1 d_Law_law_195 (by decide) ?_
  refine xv_iadd (pc := 196) d_Law_law_196 ?_
  refine xv_sld (pc := 197) d_Law_law_197 (lw_in 1 rfl (by omega) hL) ?_
  refine xv_aloadE_n (pc := 198) d_Law_law_198 rfl rfl ?_
  refine xv_iload (pc := 199) d_Law_law_199 rfl ?_
  refine xv_iconst (pc := 201) 2 d_Law_law_201 (by decide) ?_
  refine xv_iadd (pc := 202) d_Law_law_202 ?_
  refine xv_sld (pc := 203) d_Law_law_203 (lw_in 2 rfl (by omega) hL) ?_
  refine xv_aloadE_n (pc := 204) d_Law_law_204 rfl rfl ?_
  refine xv_iload (pc := 205) d_Law_law_205 rfl ?_
  refine xv_iconst (pc := 207) 3 d_Law_law_207 (by decide) ?_
  refine xv_iadd (pc := 208) d_Law_law_208 ?_
  refine xv_sld (pc := 209) d_Law_law_209 (lw_in 3 rfl (by omega) hL) ?_
  refine xv_aloadE_n (pc := 210) d_Law_law_210 rfl rfl ?_
  refine xv_iload (pc := 211) d_Law_law_211 rfl ?_
  refine xv_iconst (pc := 213) 4 d_Law_law_213 (by decide) ?_
  refine xv_iadd (pc := 214) d_Law_law_214 ?_
  refine xv_sld (pc := 215) d_Law_law_215 (lw_in 4 rfl (by omega) hL) ?_
  refine xv_aload_n (pc := 216) d_Law_law_216 rfl rfl ?_
  refine hr _ _ _ _ (fun c v w hq => ?_)
  obtain ⟨⟨q1, q2, q3, q4⟩, ⟨k1, k2, k3⟩, hg, hm⟩ := hq
  refine xv_istore_5 (pc := 220) d_Law_law_220 (by decide) rfl ?_
  refine xv_aload_n (pc := 222) d_Law_law_222 rfl rfl ?_
  refine xv_aloadE_n (pc := 223) d_Law_law_223 rfl rfl ?_
  refine xv_iload (pc := 224) d_Law_law_224 rfl ?_
  refine xv_iconst (pc := 226) 1 d_Law_law_226 (by decide) ?_
  refine xv_iadd (pc := 227) d_Law_law_227 ?_
  refine xv_sld (pc := 228) d_Law_law_228 (lw_in 1 rfl (by omega) hL) ?_
  refine xv_aloadE_n (pc := 229) d_Law_law_229 rfl rfl ?_
  refine xv_iload (pc := 230) d_Law_law_230 rfl ?_
  refine xv_iconst (pc := 232) 2 d_Law_law_232 (by decide) ?_
  refine xv_iadd (pc := 233) d_Law_law_233 ?_
  refine xv_sld (pc := 234) d_Law_law_234 (lw_in 2 rfl (by omega) hL) ?_
  refine xv_aloadE_n (pc := 235) d_Law_law_235 rfl rfl ?_
  refine xv_iload (pc := 236) d_Law_law_236 rfl ?_
  refine xv_iconst (pc := 238) 3 d_Law_law_238 (by decide) ?_
  refine xv_iadd (pc := 239) d_Law_law_239 ?_
  refine xv_sld (pc := 240) d_Law_law_240 (lw_in 3 rfl (by omega) hL) ?_
  refine xv_aloadE_n (pc := 241) d_Law_law_241 rfl rfl ?_
  refine xv_iload (pc := 242) d_Law_law_242 rfl ?_
  refine xv_iconst (pc := 244) 4 d_Law_law_244 (by decide) ?_
  refine xv_iadd (pc := 245) d_Law_law_245 ?_
  refine xv_sld (pc := 246) d_Law_law_246 (lw_in 4 rfl (by omega) hL) ?_
  refine xv_cV4i (pc := 247) (d1 := 2) hm m_Model_interpret l_Law_45 d_Law_law_247 (by omega) (by decide : 11 < xv_nc) rfl k1 (Nat.le_of_ble_eq_true rfl) ⟨by omega, by omega⟩ (fun b w' hw' hN' hS' => ?_)
  obtain ⟨t35, tb, tg, ti⟩ := hw'
  have hk' := yTi_k ti
  have hMo : xMo w' M := by
    obtain ⟨E, a1, -⟩ := ti
    exact a1.2.2.1
  refine xv_istore_6 (pc := 250) d_Law_law_250 (by decide) rfl ?_
  refine xv_aload_n (pc := 252) d_Law_law_252 rfl rfl ?_
  refine xv_cV0i (pc := 253) (d1 := 0) (c_Model_thrown hMo) m_Model_thrown l_Law_46 d_Law_law_253 (by omega) (by decide : 11 < xv_nc) rfl hk'.2.1 (Nat.le_of_ble_eq_true rfl) ⟨by omega, by omega⟩ (fun t w2 hw2 hN2 hS2 => ?_)
  obtain ⟨et, ew⟩ := hw2
  subst ew
  refine xv_iload (pc := 256) d_Law_law_256 rfl ?_
  refine xv_icmp_eq (pc := 258) 263 d_Law_law_258 (by decide) (fun h258 => ?_) (fun h258 => ?_)
  · refine xv_iload (pc := 263) d_Law_law_263 rfl ?_
    refine xv_if_ne (pc := 265) 280 d_Law_law_265 (by decide) (fun h265 => ?_) (fun h265 => ?_)
    · refine xv_goto (pc := 280) 647 d_Law_law_280 (by decide) ?_
      exact k w2 _ _ ti ⟨by omega, by omega⟩ ⟨by omega, by omega⟩
    · skip
      refine xv_aload_n (pc := 268) d_Law_law_268 rfl rfl ?_
      refine xv_iconst (pc := 269) 0 d_Law_law_269 (by decide) ?_
      refine xv_lald (pc := 270) d_Law_law_270 hk'.2.2.1 (by show vp_in 0 (xv_l w2 (M + 30)); rw [hk'.2.2.2]; exact vp_in_nI (n := 0) (by omega) (by decide)) ?_
      refine xv_iload (pc := 271) d_Law_law_271 rfl ?_
      refine xv_i2l (pc := 273) d_Law_law_273 ?_
      refine xv_lcmp (pc := 274) d_Law_law_274 ?_
      refine xv_if_eq (pc := 275) 280 d_Law_law_275 (by decide) (fun h275 => ?_) (fun h275 => ?_)
      · refine xv_goto (pc := 280) 647 d_Law_law_280 (by decide) ?_
        exact k w2 _ _ ti ⟨by omega, by omega⟩ ⟨by omega, by omega⟩
      · refine absurd ?_ h275
        have hc0 : c = 0 := by
          by_cases q : c = 0
          · exact q
          · first | exact absurd q h265 | exact absurd h265 q
        rw [lg_cmp_eq, tg]
        show xv_g w (M + 30) 0 = _
        rw [hg hc0, tb hc0]
  · exact absurd (by rw [et, t35]) h258
theorem lw_run_open {sc : Nat × (Nat → Int32)} {d : Nat} {u : xv_M} {h N M i n1 s1 : Nat} {P : xv_P} {j5 j6 : Option Value} (hL : sc.1 ≤ 2560) (hi : i + 5 ≤ sc.1) (hd : 100 ≤ d) (hn1 : xv_N u + 1 ≤ n1) (hs1 : xv_S u + 6 ≤ s1) (H : yTi u h N M) (hr : yHr sc d 470 J_Model_run h N M [some (.retAddr 9), some (.ref h), some (.ref M), some (.ref (M + 30)), some (.int (nI i)), j5, j6] u n1 s1 P) (k : ∀ (w : xv_M) (j5 j6 : Option Value), yTi w h N M → xv_N u ≤ xv_N w ∧ xv_N w ≤ xv_N u + 1 → xv_S u ≤ xv_S w ∧ xv_S w ≤ xv_S u + 6 → xv_X sc d J_Law_law 647 [some (.retAddr 9), some (.ref h), some (.ref M), some (.ref (M + 30)), some (.int (nI i)), j5, j6] [] w n1 s1 P) : xv_X sc d J_Law_law 444 [some (.retAddr 9), some (.ref h), some (.ref M), some (.ref (M + 30)), some (.int (nI i)), j5, j6] [] u n1 s1 P := by
  refine xv_aload_n (pc := 444) d_Law_law_444 rfl rfl ?_
  refine xv_aloadE_n (pc := 445) d_Law_law_445 rfl rfl ?_
  refine xv_iload (pc := 446) d_Law_law_446 rfl ?_
  refine xv_iconst (pc := 448) 1 d_Law_law_448 (by decide) ?_
  refine xv_iadd (pc := 449) d_Law_law_449 ?_
  refine xv_sld (pc := 450) d_Law_law_450 (lw_in 1 rfl (by omega) hL) ?_
  refine xv_aloadE_n (pc := 451) d_Law_law_451 rfl rfl ?_
  refine xv_iload (pc := 452) d_Law_law_452 rfl ?_
  refine xv_iconst (pc := 454) 2 d_Law_law_454 (by decide) ?_
  refine xv_iadd (pc := 455) d_Law_law_455 ?_
  refine xv_sld (pc := 456) d_Law_law_456 (lw_in 2 rfl (by omega) hL) ?_
  refine xv_aloadE_n (pc := 457) d_Law_law_457 rfl rfl ?_
  refine xv_iload (pc := 458) d_Law_law_458 rfl ?_
  refine xv_iconst (pc := 460) 3 d_Law_law_460 (by decide) ?_
  refine xv_iadd (pc := 461) d_Law_law_461 ?_
  refine xv_sld (pc := 462) d_Law_law_462 (lw_in 3 rfl (by omega) hL) ?_
  refine xv_aloadE_n (pc := 463) d_Law_law_463 rfl rfl ?_
  refine xv_iload (pc := 464) d_Law_law_464 rfl ?_
  refine xv_iconst (pc := 466) 4 d_Law_law_466 (by decide) ?_
  refine xv_iadd (pc := 467) d_Law_law_467 ?_
  refine xv_sld (pc := 468) d_Law_law_468 (lw_in 4 rfl (by omega) hL) ?_
  refine xv_aload_n (pc := 469) d_Law_law_469 rfl rfl ?_
  refine hr _ _ _ _ (fun c v w hq => ?_)
  obtain ⟨⟨q1, q2, q3, q4⟩, ⟨k1, k2, k3⟩, hg, hm⟩ := hq
  refine xv_istore_5 (pc := 473) d_Law_law_473 (by decide) rfl ?_
  refine xv_aload_n (pc := 475) d_Law_law_475 rfl rfl ?_
  refine xv_aloadE_n (pc := 476) d_Law_law_476 rfl rfl ?_
  refine xv_iload (pc := 477) d_Law_law_477 rfl ?_
  refine xv_iconst (pc := 479) 1 d_Law_law_479 (by decide) ?_
  refine xv_iadd (pc := 480) d_Law_law_480 ?_
  refine xv_sld (pc := 481) d_Law_law_481 (lw_in 1 rfl (by omega) hL) ?_
  refine xv_aloadE_n (pc := 482) d_Law_law_482 rfl rfl ?_
  refine xv_iload (pc := 483) d_Law_law_483 rfl ?_
  refine xv_iconst (pc := 485) 2 d_Law_law_485 (by decide) ?_
  refine xv_iadd (pc := 486) d_Law_law_486 ?_
  refine xv_sld (pc := 487) d_Law_law_487 (lw_in 2 rfl (by omega) hL) ?_
  refine xv_aloadE_n (pc := 488) d_Law_law_488 rfl rfl ?_
  refine xv_iload (pc := 489) d_Law_law_489 rfl ?_
  refine xv_iconst (pc := 491) 3 d_Law_law_491 (by decide) ?_
  refine xv_iadd (pc := 492) d_Law_law_492 ?_
  refine xv_sld (pc := 493) d_Law_law_493 (lw_in 3 rfl (by omega) hL) ?_
  refine xv_aloadE_n (pc := 494) d_Law_law_494 rfl rfl ?_
  refine xv_iload (pc := 495) d_Law_law_495 rfl ?_
  refine xv_iconst (pc := 497) 4 d_Law_law_497 (by decide) ?_
  refine xv_iadd (pc := 498) d_Law_law_498 ?_
  refine xv_sld (pc := 499) d_Law_law_499 (lw_in 4 rfl (by omega) hL) ?_
  refine xv_cV4i (pc := 500) (d1 := 2) hm m_Model_run l_Law_73 d_Law_law_500 (by omega) (by decide : 11 < xv_nc) rfl k1 (Nat.le_of_ble_eq_true rfl) ⟨by omega, by omega⟩ (fun b w' hw' hN' hS' => ?_)
  obtain ⟨t35, tb, tg, ti⟩ := hw'
  have hk' := yTi_k ti
  have hMo : xMo w' M := by
    obtain ⟨E, a1, -⟩ := ti
    exact a1.2.2.1
  refine xv_istore_6 (pc := 503) d_Law_law_503 (by decide) rfl ?_
  refine xv_aload_n (pc := 505) d_Law_law_505 rfl rfl ?_
  refine xv_cV0i (pc := 506) (d1 := 0) (c_Model_thrown hMo) m_Model_thrown l_Law_46 d_Law_law_506 (by omega) (by decide : 11 < xv_nc) rfl hk'.2.1 (Nat.le_of_ble_eq_true rfl) ⟨by omega, by omega⟩ (fun t w2 hw2 hN2 hS2 => ?_)
  obtain ⟨et, ew⟩ := hw2
  subst ew
  refine xv_iload (pc := 509) d_Law_law_509 rfl ?_
  refine xv_icmp_eq (pc := 511) 516 d_Law_law_511 (by decide) (fun h511 => ?_) (fun h511 => ?_)
  · refine xv_iload (pc := 516) d_Law_law_516 rfl ?_
    refine xv_if_ne (pc := 518) 533 d_Law_law_518 (by decide) (fun h518 => ?_) (fun h518 => ?_)
    · refine xv_goto (pc := 533) 647 d_Law_law_533 (by decide) ?_
      exact k w2 _ _ ti ⟨by omega, by omega⟩ ⟨by omega, by omega⟩
    · skip
      refine xv_aload_n (pc := 521) d_Law_law_521 rfl rfl ?_
      refine xv_iconst (pc := 522) 0 d_Law_law_522 (by decide) ?_
      refine xv_lald (pc := 523) d_Law_law_523 hk'.2.2.1 (by show vp_in 0 (xv_l w2 (M + 30)); rw [hk'.2.2.2]; exact vp_in_nI (n := 0) (by omega) (by decide)) ?_
      refine xv_iload (pc := 524) d_Law_law_524 rfl ?_
      refine xv_i2l (pc := 526) d_Law_law_526 ?_
      refine xv_lcmp (pc := 527) d_Law_law_527 ?_
      refine xv_if_eq (pc := 528) 533 d_Law_law_528 (by decide) (fun h528 => ?_) (fun h528 => ?_)
      · refine xv_goto (pc := 533) 647 d_Law_law_533 (by decide) ?_
        exact k w2 _ _ ti ⟨by omega, by omega⟩ ⟨by omega, by omega⟩
      · refine absurd ?_ h528
        have hc0 : c = 0 := by
          by_cases q : c = 0
          · exact q
          · first | exact absurd q h518 | exact absurd h518 q
        rw [lg_cmp_eq, tg]
        show xv_g w (M + 30) 0 = _
        rw [hg hc0, tb hc0]
  · exact absurd (by rw [et, t35]) h511

