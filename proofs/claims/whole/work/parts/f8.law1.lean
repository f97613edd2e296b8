/-! the law: what stands at its loop's head; its simple calls -/
theorem lw_in {i L : Nat} {k : Int32} (j : Nat) (hk : k = nI j) (h : i + j < L) (hL : L ≤ 2560) : vp_in (nI i + k) L := by
  rw [hk, nI_add]
  exact vp_in_nI h (by omega)

theorem lw_token {sc : Nat × (Nat → Int32)} {d : Nat} {u : xv_M} {h N M i n1 s1 : Nat} {P : xv_P} {j5 j6 : Option Value} (hL : sc.1 ≤ 2560) (hi : i + 5 ≤ sc.1) (hd : 100 ≤ d) (hn1 : xv_N u ≤ n1) (hs1 : xv_S u ≤ s1) (H : yTi u h N M) (k : ∀ w, yTi w h N M → xv_N w = xv_N u → xv_S w = xv_S u → xv_X sc d J_Law_law 647 [some (.retAddr 9), some (.ref h), some (.ref M), some (.ref (M + 30)), some (.int (nI i)), j5, j6] [] w n1 s1 P) : xv_X sc d J_Law_law 104 [some (.retAddr 9), some (.ref h), some (.ref M), some (.ref (M + 30)), some (.int (nI i)), j5, j6] [] u n1 s1 P := by
  have hk := yTi_k H
  refine xv_aload_n (pc := 104) d_Law_law_104 rfl rfl ?_
  refine xv_aloadE_n (pc := 105) d_Law_law_105 rfl rfl ?_
  refine xv_iload (pc := 106) d_Law_law_106 rfl ?_
  refine xv_iconst (pc := 108) 1 d_Law_law_108 (by decide) ?_
  refine xv_iadd (pc := 109) d_Law_law_109 ?_
  refine xv_sld (pc := 110) d_Law_law_110 (lw_in 1 rfl (by omega) hL) ?_
  refine xv_aloadE_n (pc := 111) d_Law_law_111 rfl rfl ?_
  refine xv_iload (pc := 112) d_Law_law_112 rfl ?_
  refine xv_iconst (pc := 114) 2 d_Law_law_114 (by decide) ?_
  refine xv_iadd (pc := 115) d_Law_law_115 ?_
  refine xv_sld (pc := 116) d_Law_law_116 (lw_in 2 rfl (by omega) hL) ?_
  refine xv_cV2i (pc := 117) (d1 := 2) (t_token H _ _) m_Desk_token l_Law_26 d_Law_law_117 (by omega) (by decide : 10 < xv_nc) rfl hk.1 (Nat.le_of_ble_eq_true rfl) ⟨hn1, hs1⟩ (fun r w hw hN hS => ?_)
  obtain ⟨hkm, hw⟩ := hw
  refine xv_aload_n (pc := 120) d_Law_law_120 rfl rfl ?_
  refine xv_aloadE_n (pc := 121) d_Law_law_121 rfl rfl ?_
  refine xv_iload (pc := 122) d_Law_law_122 rfl ?_
  refine xv_iconst (pc := 124) 1 d_Law_law_124 (by decide) ?_
  refine xv_iadd (pc := 125) d_Law_law_125 ?_
  refine xv_sld (pc := 126) d_Law_law_126 (lw_in 1 rfl (by omega) hL) ?_
  refine xv_aloadE_n (pc := 127) d_Law_law_127 rfl rfl ?_
  refine xv_iload (pc := 128) d_Law_law_128 rfl ?_
  refine xv_iconst (pc := 130) 2 d_Law_law_130 (by decide) ?_
  refine xv_iadd (pc := 131) d_Law_law_131 ?_
  refine xv_sld (pc := 132) d_Law_law_132 (lw_in 2 rfl (by omega) hL) ?_
  refine xv_cV2i (pc := 133) (d1 := 2) hw m_Model_token l_Law_30 d_Law_law_133 (by omega) (by decide : 11 < xv_nc) rfl hkm (Nat.le_of_ble_eq_true rfl) ⟨by omega, by omega⟩ (fun r' w' hw' hN' hS' => ?_)
  refine xv_icmp_eq (pc := 136) 647 d_Law_law_136 (by decide) (fun h136 => ?_) (fun h136 => ?_)
  · exact k w' hw'.2 (by omega) (by omega)
  · exact absurd hw'.1.symm h136
theorem lw_define {sc : Nat × (Nat → Int32)} {d : Nat} {u : xv_M} {h N M i n1 s1 : Nat} {P : xv_P} {j5 j6 : Option Value} (hL : sc.1 ≤ 2560) (hi : i + 5 ≤ sc.1) (hd : 100 ≤ d) (hn1 : xv_N u ≤ n1) (hs1 : xv_S u ≤ s1) (H : yTi u h N M) (k : ∀ w, yTi w h N M → xv_N w = xv_N u → xv_S w = xv_S u → xv_X sc d J_Law_law 647 [some (.retAddr 9), some (.ref h), some (.ref M), some (.ref (M + 30)), some (.int (nI i)), j5, j6] [] w n1 s1 P) : xv_X sc d J_Law_law 141 [some (.retAddr 9), some (.ref h), some (.ref M), some (.ref (M + 30)), some (.int (nI i)), j5, j6] [] u n1 s1 P := by
  have hk := yTi_k H
  refine xv_aload_n (pc := 141) d_Law_law_141 rfl rfl ?_
  refine xv_aloadE_n (pc := 142) d_Law_law_142 rfl rfl ?_
  refine xv_iload (pc := 143) d_Law_law_143 rfl ?_
  refine xv_iconst (pc := 145) 1 d_Law_law_145 (by decide) ?_
  refine xv_iadd (pc := 146) d_Law_law_146 ?_
  refine xv_sld (pc := 147) d_Law_law_147 (lw_in 1 rfl (by omega) hL) ?_
  refine xv_aloadE_n (pc := 148) d_Law_law_148 rfl rfl ?_
  refine xv_iload (pc := 149) d_Law_law_149 rfl ?_
  refine xv_iconst (pc := 151) 2 d_Law_law_151 (by decide) ?_
  refine xv_iadd (pc := 152) d_Law_law_152 ?_
  refine xv_sld (pc := 153) d_Law_law_153 (lw_in 2 rfl (by omega) hL) ?_
  refine xv_cV2i (pc := 154) (d1 := 43) (t_define H _ _) m_Desk_define l_Law_31 d_Law_law_154 (by omega) (by decide : 10 < xv_nc) rfl hk.1 (Nat.le_of_ble_eq_true rfl) ⟨hn1, hs1⟩ (fun r w hw hN hS => ?_)
  obtain ⟨hkm, hw⟩ := hw
  refine xv_aload_n (pc := 157) d_Law_law_157 rfl rfl ?_
  refine xv_aloadE_n (pc := 158) d_Law_law_158 rfl rfl ?_
  refine xv_iload (pc := 159) d_Law_law_159 rfl ?_
  refine xv_iconst (pc := 161) 1 d_Law_law_161 (by decide) ?_
  refine xv_iadd (pc := 162) d_Law_law_162 ?_
  refine xv_sld (pc := 163) d_Law_law_163 (lw_in 1 rfl (by omega) hL) ?_
  refine xv_aloadE_n (pc := 164) d_Law_law_164 rfl rfl ?_
  refine xv_iload (pc := 165) d_Law_law_165 rfl ?_
  refine xv_iconst (pc := 167) 2 d_Law_law_167 (by decide) ?_
  refine xv_iadd (pc := 168) d_Law_law_168 ?_
  refine xv_sld (pc := 169) d_Law_law_169 (lw_in 2 rfl (by omega) hL) ?_
  refine xv_cV2i (pc := 170) (d1 := 4) hw m_Model_define l_Law_34 d_Law_law_170 (by omega) (by decide : 11 < xv_nc) rfl hkm (Nat.le_of_ble_eq_true rfl) ⟨by omega, by omega⟩ (fun r' w' hw' hN' hS' => ?_)
  refine xv_icmp_eq (pc := 173) 647 d_Law_law_173 (by decide) (fun h173 => ?_) (fun h173 => ?_)
  · exact k w' hw'.2 (by omega) (by omega)
  · exact absurd hw'.1.symm h173
theorem lw_clear {sc : Nat × (Nat → Int32)} {d : Nat} {u : xv_M} {h N M i n1 s1 : Nat} {P : xv_P} {j5 j6 : Option Value} (hL : sc.1 ≤ 2560) (hi : i + 5 ≤ sc.1) (hd : 100 ≤ d) (hn1 : xv_N u ≤ n1) (hs1 : xv_S u ≤ s1) (H : yTi u h N M) (k : ∀ w, yTi w h N M → xv_N w = xv_N u → xv_S w = xv_S u → xv_X sc d J_Law_law 647 [some (.retAddr 9), some (.ref h), some (.ref M), some (.ref (M + 30)), some (.int (nI i)), j5, j6] [] w n1 s1 P) : xv_X sc d J_Law_law 178 [some (.retAddr 9), some (.ref h), some (.ref M), some (.ref (M + 30)), some (.int (nI i)), j5, j6] [] u n1 s1 P := by
  have hk := yTi_k H
  refine xv_aload_n (pc := 178) d_Law_law_178 rfl rfl ?_
  refine xv_cV0i (pc := 179) (d1 := 0) (t_clear H) m_Desk_clear l_Law_35 d_Law_law_179 (by omega) (by decide : 10 < xv_nc) rfl hk.1 (Nat.le_of_ble_eq_true rfl) ⟨hn1, hs1⟩ (fun r w hw hN hS => ?_)
  obtain ⟨hkm, hw⟩ := hw
  refine xv_aload_n (pc := 182) d_Law_law_182 rfl rfl ?_
  refine xv_cV0i (pc := 183) (d1 := 0) hw m_Model_clear l_Law_39 d_Law_law_183 (by omega) (by decide : 11 < xv_nc) rfl hkm (Nat.le_of_ble_eq_true rfl) ⟨by omega, by omega⟩ (fun r' w' hw' hN' hS' => ?_)
  refine xv_icmp_eq (pc := 186) 647 d_Law_law_186 (by decide) (fun h186 => ?_) (fun h186 => ?_)
  · exact k w' hw'.2 (by omega) (by omega)
  · exact absurd hw'.1.symm h186
theorem lw_compile {sc : Nat × (Nat → Int32)} {d : Nat} {u : xv_M} {h N M i n1 s1 : Nat} {P : xv_P} {j5 j6 : Option Value} (hL : sc.1 ≤ 2560) (hi : i + 5 ≤ sc.1) (hd : 100 ≤ d) (hn1 : xv_N u ≤ n1) (hs1 : xv_S u ≤ s1) (H : yTi u h N M) (k : ∀ w, yTi w h N M → xv_N w = xv_N u → xv_S w = xv_S u → xv_X sc d J_Law_law 647 [some (.retAddr 9), some (.ref h), some (.ref M), some (.ref (M + 30)), some (.int (nI i)), j5, j6] [] w n1 s1 P) : xv_X sc d J_Law_law 283 [some (.retAddr 9), some (.ref h), some (.ref M), some (.ref (M + 30)), some (.int (nI i)), j5, j6] [] u n1 s1 P := by
  have hk := yTi_k H
  refine xv_aload_n (pc := 283) d_Law_law_283 rfl rfl ?_
  refine xv_aloadE_n (pc := 284) d_Law_law_284 rfl rfl ?_
  refine xv_iload (pc := 285) d_Law_law_285 rfl ?_
  refine xv_iconst (pc := 287) 1 d_Law_law_287 (by decide) ?_
  refine xv_iadd (pc := 288) d_Law_law_288 ?_
  refine xv_sld (pc := 289) d_Law_law_289 (lw_in 1 rfl (by omega) hL) ?_
  refine xv_cV1i (pc := 290) (d1 := 86) (t_compile H _) m_Desk_compile l_Law_49 d_Law_law_290 (by omega) (by decide : 10 < xv_nc) rfl hk.1 (Nat.le_of_ble_eq_true rfl) ⟨hn1, hs1⟩ (fun r w hw hN hS => ?_)
  obtain ⟨hkm, hw⟩ := hw
  refine xv_aload_n (pc := 293) d_Law_law_293 rfl rfl ?_
  refine xv_aloadE_n (pc := 294) d_Law_law_294 rfl rfl ?_
  refine xv_iload (pc := 295) d_Law_law_295 rfl ?_
  refine xv_iconst (pc := 297) 1 d_Law_law_297 (by decide) ?_
  refine xv_iadd (pc := 298) d_Law_law_298 ?_
  refine xv_sld (pc := 299) d_Law_law_299 (lw_in 1 rfl (by omega) hL) ?_
  refine xv_cV1i (pc := 300) (d1 := 1) hw m_Model_compile l_Law_53 d_Law_law_300 (by omega) (by decide : 11 < xv_nc) rfl hkm (Nat.le_of_ble_eq_true rfl) ⟨by omega, by omega⟩ (fun r' w' hw' hN' hS' => ?_)
  refine xv_icmp_eq (pc := 303) 647 d_Law_law_303 (by decide) (fun h303 => ?_) (fun h303 => ?_)
  · exact k w' hw'.2 (by omega) (by omega)
  · exact absurd hw'.1.symm h303
theorem lw_damage {sc : Nat × (Nat → Int32)} {d : Nat} {u : xv_M} {h N M i n1 s1 : Nat} {P : xv_P} {j5 j6 : Option Value} (hL : sc.1 ≤ 2560) (hi : i + 5 ≤ sc.1) (hd : 100 ≤ d) (hn1 : xv_N u ≤ n1) (hs1 : xv_S u ≤ s1) (H : yTi u h N M) (k : ∀ w, yTi w h N M → xv_N w = xv_N u → xv_S w = xv_S u → xv_X sc d J_Law_law 647 [some (.retAddr 9), some (.ref h), some (.ref M), some (.ref (M + 30)), some (.int (nI i)), j5, j6] [] w n1 s1 P) : xv_X sc d J_Law_law 308 [some (.retAddr 9), some (.ref h), some (.ref M), some (.ref (M + 30)), some (.int (nI i)), j5, j6] [] u n1 s1 P := by
  have hk := yTi_k H
  refine xv_aload_n (pc := 308) d_Law_law_308 rfl rfl ?_
  refine xv_aloadE_n (pc := 309) d_Law_law_309 rfl rfl ?_
  refine xv_iload (pc := 310) d_Law_law_310 rfl ?_
  refine xv_iconst (pc := 312) 1 d_Law_law_312 (by decide) ?_
  refine xv_iadd (pc := 313) d_Law_law_313 ?_
  refine xv_sld (pc := 314) d_Law_law_314 (lw_in 1 rfl (by omega) hL) ?_
  refine xv_aloadE_n (pc := 315) d_Law_law_315 rfl rfl ?_
  refine xv_iload (pc := 316) d_Law_law_316 rfl ?_
  refine xv_iconst (pc := 318) 2 d_Law_law_318 (by decide) ?_
  refine xv_iadd (pc := 319) d_Law_law_319 ?_
  refine xv_sld (pc := 320) d_Law_law_320 (lw_in 2 rfl (by omega) hL) ?_
  refine xv_aloadE_n (pc := 321) d_Law_law_321 rfl rfl ?_
  refine xv_iload (pc := 322) d_Law_law_322 rfl ?_
  refine xv_iconst (pc := 324) 3 d_Law_law_324 (by decide) ?_
  refine xv_iadd (pc := 325) d_Law_law_325 ?_
  refine xv_sld (pc := 326) d_Law_law_326 (lw_in 3 rfl (by omega) hL) ?_
  refine xv_cV3i (pc := 327) (d1 := 3) (t_damage H _ _ _) m_Desk_damage l_Law_54 d_Law_law_327 (by omega) (by decide : 10 < xv_nc) rfl hk.1 (Nat.le_of_ble_eq_true rfl) ⟨hn1, hs1⟩ (fun r w hw hN hS => ?_)
  obtain ⟨hkm, hw⟩ := hw
  refine xv_aload_n (pc := 330) d_Law_law_330 rfl rfl ?_
  refine xv_aloadE_n (pc := 331) d_Law_law_331 rfl rfl ?_
  refine xv_iload (pc := 332) d_Law_law_332 rfl ?_
  refine xv_iconst (pc := 334) 1 d_Law_law_334 (by decide) ?_
  refine xv_iadd (pc := 335) d_Law_law_335 ?_
  refine xv_sld (pc := 336) d_Law_law_336 (lw_in 1 rfl (by omega) hL) ?_
  refine xv_aloadE_n (pc := 337) d_Law_law_337 rfl rfl ?_
  refine xv_iload (pc := 338) d_Law_law_338 rfl ?_
  refine xv_iconst (pc := 340) 2 d_Law_law_340 (by decide) ?_
  refine xv_iadd (pc := 341) d_Law_law_341 ?_
  refine xv_sld (pc := 342) d_Law_law_342 (lw_in 2 rfl (by omega) hL) ?_
  refine xv_aloadE_n (pc := 343) d_Law_law_343 rfl rfl ?_
  refine xv_iload (pc := 344) d_Law_law_344 rfl ?_
  refine xv_iconst (pc := 346) 3 d_Law_law_346 (by decide) ?_
  refine xv_iadd (pc := 347) d_Law_law_347 ?_
  refine xv_sld (pc := 348) d_Law_law_348 (lw_in 3 rfl (by omega) hL) ?_
  refine xv_cV3i (pc := 349) (d1 := 1) hw m_Model_damage l_Law_58 d_Law_law_349 (by omega) (by decide : 11 < xv_nc) rfl hkm (Nat.le_of_ble_eq_true rfl) ⟨by omega, by omega⟩ (fun r' w' hw' hN' hS' => ?_)
  refine xv_icmp_eq (pc := 352) 647 d_Law_law_352 (by decide) (fun h352 => ?_) (fun h352 => ?_)
  · exact k w' hw'.2 (by omega) (by omega)
  · exact absurd hw'.1.symm h352
theorem lw_forge {sc : Nat × (Nat → Int32)} {d : Nat} {u : xv_M} {h N M i n1 s1 : Nat} {P : xv_P} {j5 j6 : Option Value} (hL : sc.1 ≤ 2560) (hi : i + 5 ≤ sc.1) (hd : 100 ≤ d) (hn1 : xv_N u ≤ n1) (hs1 : xv_S u ≤ s1) (H : yTi u h N M) (k : ∀ w, yTi w h N M → xv_N w = xv_N u → xv_S w = xv_S u → xv_X sc d J_Law_law 647 [some (.retAddr 9), some (.ref h), some (.ref M), some (.ref (M + 30)), some (.int (nI i)), j5, j6] [] w n1 s1 P) : xv_X sc d J_Law_law 357 [some (.retAddr 9), some (.ref h), some (.ref M), some (.ref (M + 30)), some (.int (nI i)), j5, j6] [] u n1 s1 P := by
  have hk := yTi_k H
  refine xv_aload_n (pc := 357) d_Law_law_357 rfl rfl ?_
  refine xv_aloadE_n (pc := 358) d_Law_law_358 rfl rfl ?_
  refine xv_iload (pc := 359) d_Law_law_359 rfl ?_
  refine xv_iconst (pc := 361) 1 d_Law_law_361 (by decide) ?_
  refine xv_iadd (pc := 362) d_Law_law_362 ?_
  refine xv_sld (pc := 363) d_Law_law_363 (lw_in 1 rfl (by omega) hL) ?_
  refine xv_aloadE_n (pc := 364) d_Law_law_364 rfl rfl ?_
  refine xv_iload (pc := 365) d_Law_law_365 rfl ?_
  refine xv_iconst (pc := 367) 2 d_Law_law_367 (by decide) ?_
  refine xv_iadd (pc := 368) d_Law_law_368 ?_
  refine xv_sld (pc := 369) d_Law_law_369 (lw_in 2 rfl (by omega) hL) ?_
  refine xv_aloadE_n (pc := 370) d_Law_law_370 rfl rfl ?_
  refine xv_iload (pc := 371) d_Law_law_371 rfl ?_
  refine xv_iconst (pc := 373) 3 d_Law_law_373 (by decide) ?_
  refine xv_iadd (pc := 374) d_Law_law_374 ?_
  refine xv_sld (pc := 375) d_Law_law_375 (lw_in 3 rfl (by omega) hL) ?_
  refine xv_cV3i (pc := 376) (d1 := 2) (t_forge H _ _ _) m_Desk_forge l_Law_59 d_Law_law_376 (by omega) (by decide : 10 < xv_nc) rfl hk.1 (Nat.le_of_ble_eq_true rfl) ⟨hn1, hs1⟩ (fun r w hw hN hS => ?_)
  obtain ⟨hkm, hw⟩ := hw
  refine xv_aload_n (pc := 379) d_Law_law_379 rfl rfl ?_
  refine xv_aloadE_n (pc := 380) d_Law_law_380 rfl rfl ?_
  refine xv_iload (pc := 381) d_Law_law_381 rfl ?_
  refine xv_iconst (pc := 383) 1 d_Law_law_383 (by decide) ?_
  refine xv_iadd (pc := 384) d_Law_law_384 ?_
  refine xv_sld (pc := 385) d_Law_law_385 (lw_in 1 rfl (by omega) hL) ?_
  refine xv_aloadE_n (pc := 386) d_Law_law_386 rfl rfl ?_
  refine xv_iload (pc := 387) d_Law_law_387 rfl ?_
  refine xv_iconst (pc := 389) 2 d_Law_law_389 (by decide) ?_
  refine xv_iadd (pc := 390) d_Law_law_390 ?_
  refine xv_sld (pc := 391) d_Law_law_391 (lw_in 2 rfl (by omega) hL) ?_
  refine xv_aloadE_n (pc := 392) d_Law_law_392 rfl rfl ?_
  refine xv_iload (pc := 393) d_Law_law_393 rfl ?_
  refine xv_iconst (pc := 395) 3 d_Law_law_395 (by decide) ?_
  refine xv_iadd (pc := 396) d_Law_law_396 ?_
  refine xv_sld (pc := 397) d_Law_law_397 (lw_in 3 rfl (by omega) hL) ?_
  refine xv_cV3i (pc := 398) (d1 := 2) hw m_Model_forge l_Law_62 d_Law_law_398 (by omega) (by decide : 11 < xv_nc) rfl hkm (Nat.le_of_ble_eq_true rfl) ⟨by omega, by omega⟩ (fun r' w' hw' hN' hS' => ?_)
  refine xv_icmp_eq (pc := 401) 647 d_Law_law_401 (by decide) (fun h401 => ?_) (fun h401 => ?_)
  · exact k w' hw'.2 (by omega) (by omega)
  · exact absurd hw'.1.symm h401
theorem lw_drop {sc : Nat × (Nat → Int32)} {d : Nat} {u : xv_M} {h N M i n1 s1 : Nat} {P : xv_P} {j5 j6 : Option Value} (hL : sc.1 ≤ 2560) (hi : i + 5 ≤ sc.1) (hd : 100 ≤ d) (hn1 : xv_N u ≤ n1) (hs1 : xv_S u ≤ s1) (H : yTi u h N M) (k : ∀ w, yTi w h N M → xv_N w = xv_N u → xv_S w = xv_S u → xv_X sc d J_Law_law 647 [some (.retAddr 9), some (.ref h), some (.ref M), some (.ref (M + 30)), some (.int (nI i)), j5, j6] [] w n1 s1 P) : xv_X sc d J_Law_law 406 [some (.retAddr 9), some (.ref h), some (.ref M), some (.ref (M + 30)), some (.int (nI i)), j5, j6] [] u n1 s1 P := by
  have hk := yTi_k H
  refine xv_aload_n (pc := 406) d_Law_law_406 rfl rfl ?_
  refine xv_aloadE_n (pc := 407) d_Law_law_407 rfl rfl ?_
  refine xv_iload (pc := 408) d_Law_law_408 rfl ?_
  refine xv_iconst (pc := 410) 1 d_Law_law_410 (by decide) ?_
  refine xv_iadd (pc := 411) d_Law_law_411 ?_
  refine xv_sld (pc := 412) d_Law_law_412 (lw_in 1 rfl (by omega) hL) ?_
  refine xv_cV1i (pc := 413) (d1 := 1) (t_drop H _) m_Desk_drop l_Law_63 d_Law_law_413 (by omega) (by decide : 10 < xv_nc) rfl hk.1 (Nat.le_of_ble_eq_true rfl) ⟨hn1, hs1⟩ (fun r w hw hN hS => ?_)
  obtain ⟨hkm, hw⟩ := hw
  refine xv_aload_n (pc := 416) d_Law_law_416 rfl rfl ?_
  refine xv_aloadE_n (pc := 417) d_Law_law_417 rfl rfl ?_
  refine xv_iload (pc := 418) d_Law_law_418 rfl ?_
  refine xv_iconst (pc := 420) 1 d_Law_law_420 (by decide) ?_
  refine xv_iadd (pc := 421) d_Law_law_421 ?_
  refine xv_sld (pc := 422) d_Law_law_422 (lw_in 1 rfl (by omega) hL) ?_
  refine xv_cV1i (pc := 423) (d1 := 1) hw m_Model_drop l_Law_66 d_Law_law_423 (by omega) (by decide : 11 < xv_nc) rfl hkm (Nat.le_of_ble_eq_true rfl) ⟨by omega, by omega⟩ (fun r' w' hw' hN' hS' => ?_)
  refine xv_icmp_eq (pc := 426) 647 d_Law_law_426 (by decide) (fun h426 => ?_) (fun h426 => ?_)
  · exact k w' hw'.2 (by omega) (by omega)
  · exact absurd hw'.1.symm h426
theorem lw_load {sc : Nat × (Nat → Int32)} {d : Nat} {u : xv_M} {h N M i n1 s1 : Nat} {P : xv_P} {j5 j6 : Option Value} (hL : sc.1 ≤ 2560) (hi : i + 5 ≤ sc.1) (hd : 100 ≤ d) (hn1 : xv_N u ≤ n1) (hs1 : xv_S u ≤ s1) (H : yTi u h N M) (k : ∀ w, yTi w h N M → xv_N w = xv_N u → xv_S w = xv_S u → xv_X sc d J_Law_law 647 [some (.retAddr 9), some (.ref h), some (.ref M), some (.ref (M + 30)), some (.int (nI i)), j5, j6] [] w n1 s1 P) : xv_X sc d J_Law_law 431 [some (.retAddr 9), some (.ref h), some (.ref M), some (.ref (M + 30)), some (.int (nI i)), j5, j6] [] u n1 s1 P := by
  have hk := yTi_k H
  refine xv_aload_n (pc := 431) d_Law_law_431 rfl rfl ?_
  refine xv_cV0i (pc := 432) (d1 := 5) (t_load H) m_Desk_load l_Law_67 d_Law_law_432 (by omega) (by decide : 10 < xv_nc) rfl hk.1 (Nat.le_of_ble_eq_true rfl) ⟨hn1, hs1⟩ (fun r w hw hN hS => ?_)
  obtain ⟨hkm, hw⟩ := hw
  refine xv_aload_n (pc := 435) d_Law_law_435 rfl rfl ?_
  refine xv_cV0i (pc := 436) (d1 := 2) hw m_Model_load l_Law_70 d_Law_law_436 (by omega) (by decide : 11 < xv_nc) rfl hkm (Nat.le_of_ble_eq_true rfl) ⟨by omega, by omega⟩ (fun r' w' hw' hN' hS' => ?_)
  refine xv_icmp_eq (pc := 439) 647 d_Law_law_439 (by decide) (fun h439 => ?_) (fun h439 => ?_)
  · exact k w' hw'.2 (by omega) (by omega)
  · exact absurd hw'.1.symm h439
theorem lw_entry {sc : Nat × (Nat → Int32)} {d : Nat} {u : xv_M} {h N M i n1 s1 : Nat} {P : xv_P} {j5 j6 : Option Value} (hL : sc.1 ≤ 2560) (hi : i + 5 ≤ sc.1) (hd : 100 ≤ d) (hn1 : xv_N u ≤ n1) (hs1 : xv_S u ≤ s1) (H : yTi u h N M) (k : ∀ w, yTi w h N M → xv_N w = xv_N u → xv_S w = xv_S u → xv_X sc d J_Law_law 647 [some (.retAddr 9), some (.ref h), some (.ref M), some (.ref (M + 30)), some (.int (nI i)), j5, j6] [] w n1 s1 P) : xv_X sc d J_Law_law 536 [some (.retAddr 9), some (.ref h), some (.ref M), some (.ref (M + 30)), some (.int (nI i)), j5, j6] [] u n1 s1 P := by
  have hk := yTi_k H
  refine xv_aload_n (pc := 536) d_Law_law_536 rfl rfl ?_
  refine xv_aloadE_n (pc := 537) d_Law_law_537 rfl rfl ?_
  refine xv_iload (pc := 538) d_Law_law_538 rfl ?_
  refine xv_iconst (pc := 540) 1 d_Law_law_540 (by decide) ?_
  refine xv_iadd (pc := 541) d_Law_law_541 ?_
  refine xv_sld (pc := 542) d_Law_law_542 (lw_in 1 rfl (by omega) hL) ?_
  refine xv_aloadE_n (pc := 543) d_Law_law_543 rfl rfl ?_
  refine xv_iload (pc := 544) d_Law_law_544 rfl ?_
  refine xv_iconst (pc := 546) 2 d_Law_law_546 (by decide) ?_
  refine xv_iadd (pc := 547) d_Law_law_547 ?_
  refine xv_sld (pc := 548) d_Law_law_548 (lw_in 2 rfl (by omega) hL) ?_
  refine xv_cV2i (pc := 549) (d1 := 1) (t_entry H _ _) m_Desk_entry l_Law_74 d_Law_law_549 (by omega) (by decide : 10 < xv_nc) rfl hk.1 (Nat.le_of_ble_eq_true rfl) ⟨hn1, hs1⟩ (fun r w hw hN hS => ?_)
  obtain ⟨hkm, hw⟩ := hw
  refine xv_aload_n (pc := 552) d_Law_law_552 rfl rfl ?_
  refine xv_aloadE_n (pc := 553) d_Law_law_553 rfl rfl ?_
  refine xv_iload (pc := 554) d_Law_law_554 rfl ?_
  refine xv_iconst (pc := 556) 1 d_Law_law_556 (by decide) ?_
  refine xv_iadd (pc := 557) d_Law_law_557 ?_
  refine xv_sld (pc := 558) d_Law_law_558 (lw_in 1 rfl (by omega) hL) ?_
  refine xv_aloadE_n (pc := 559) d_Law_law_559 rfl rfl ?_
  refine xv_iload (pc := 560) d_Law_law_560 rfl ?_
  refine xv_iconst (pc := 562) 2 d_Law_law_562 (by decide) ?_
  refine xv_iadd (pc := 563) d_Law_law_563 ?_
  refine xv_sld (pc := 564) d_Law_law_564 (lw_in 2 rfl (by omega) hL) ?_
  refine xv_cV2i (pc := 565) (d1 := 1) hw m_Model_entry l_Law_77 d_Law_law_565 (by omega) (by decide : 11 < xv_nc) rfl hkm (Nat.le_of_ble_eq_true rfl) ⟨by omega, by omega⟩ (fun r' w' hw' hN' hS' => ?_)
  refine xv_icmp_eq (pc := 568) 647 d_Law_law_568 (by decide) (fun h568 => ?_) (fun h568 => ?_)
  · exact k w' hw'.2 (by omega) (by omega)
  · exact absurd hw'.1.symm h568
theorem lw_unit {sc : Nat × (Nat → Int32)} {d : Nat} {u : xv_M} {h N M i n1 s1 : Nat} {P : xv_P} {j5 j6 : Option Value} (hL : sc.1 ≤ 2560) (hi : i + 5 ≤ sc.1) (hd : 100 ≤ d) (hn1 : xv_N u ≤ n1) (hs1 : xv_S u ≤ s1) (H : yTi u h N M) (k : ∀ w, yTi w h N M → xv_N w = xv_N u → xv_S w = xv_S u → xv_X sc d J_Law_law 647 [some (.retAddr 9), some (.ref h), some (.ref M), some (.ref (M + 30)), some (.int (nI i)), j5, j6] [] w n1 s1 P) : xv_X sc d J_Law_law 573 [some (.retAddr 9), some (.ref h), some (.ref M), some (.ref (M + 30)), some (.int (nI i)), j5, j6] [] u n1 s1 P := by
  have hk := yTi_k H
  refine xv_aload_n (pc := 573) d_Law_law_573 rfl rfl ?_
  refine xv_aloadE_n (pc := 574) d_Law_law_574 rfl rfl ?_
  refine xv_iload (pc := 575) d_Law_law_575 rfl ?_
  refine xv_iconst (pc := 577) 1 d_Law_law_577 (by decide) ?_
  refine xv_iadd (pc := 578) d_Law_law_578 ?_
  refine xv_sld (pc := 579) d_Law_law_579 (lw_in 1 rfl (by omega) hL) ?_
  refine xv_aloadE_n (pc := 580) d_Law_law_580 rfl rfl ?_
  refine xv_iload (pc := 581) d_Law_law_581 rfl ?_
  refine xv_iconst (pc := 583) 2 d_Law_law_583 (by decide) ?_
  refine xv_iadd (pc := 584) d_Law_law_584 ?_
  refine xv_sld (pc := 585) d_Law_law_585 (lw_in 2 rfl (by omega) hL) ?_
  refine xv_aloadE_n (pc := 586) d_Law_law_586 rfl rfl ?_
  refine xv_iload (pc := 587) d_Law_law_587 rfl ?_
  refine xv_iconst (pc := 589) 3 d_Law_law_589 (by decide) ?_
  refine xv_iadd (pc := 590) d_Law_law_590 ?_
  refine xv_sld (pc := 591) d_Law_law_591 (lw_in 3 rfl (by omega) hL) ?_
  refine xv_cV3i (pc := 592) (d1 := 2) (t_unit H _ _ _) m_Desk_unit l_Law_78 d_Law_law_592 (by omega) (by decide : 10 < xv_nc) rfl hk.1 (Nat.le_of_ble_eq_true rfl) ⟨hn1, hs1⟩ (fun r w hw hN hS => ?_)
  obtain ⟨hkm, hw⟩ := hw
  refine xv_aload_n (pc := 595) d_Law_law_595 rfl rfl ?_
  refine xv_aloadE_n (pc := 596) d_Law_law_596 rfl rfl ?_
  refine xv_iload (pc := 597) d_Law_law_597 rfl ?_
  refine xv_iconst (pc := 599) 1 d_Law_law_599 (by decide) ?_
  refine xv_iadd (pc := 600) d_Law_law_600 ?_
  refine xv_sld (pc := 601) d_Law_law_601 (lw_in 1 rfl (by omega) hL) ?_
  refine xv_aloadE_n (pc := 602) d_Law_law_602 rfl rfl ?_
  refine xv_iload (pc := 603) d_Law_law_603 rfl ?_
  refine xv_iconst (pc := 605) 2 d_Law_law_605 (by decide) ?_
  refine xv_iadd (pc := 606) d_Law_law_606 ?_
  refine xv_sld (pc := 607) d_Law_law_607 (lw_in 2 rfl (by omega) hL) ?_
  refine xv_aloadE_n (pc := 608) d_Law_law_608 rfl rfl ?_
  refine xv_iload (pc := 609) d_Law_law_609 rfl ?_
  refine xv_iconst (pc := 611) 3 d_Law_law_611 (by decide) ?_
  refine xv_iadd (pc := 612) d_Law_law_612 ?_
  refine xv_sld (pc := 613) d_Law_law_613 (lw_in 3 rfl (by omega) hL) ?_
  refine xv_cV3i (pc := 614) (d1 := 2) hw m_Model_unit l_Law_81 d_Law_law_614 (by omega) (by decide : 11 < xv_nc) rfl hkm (Nat.le_of_ble_eq_true rfl) ⟨by omega, by omega⟩ (fun r' w' hw' hN' hS' => ?_)
  refine xv_icmp_eq (pc := 617) 647 d_Law_law_617 (by decide) (fun h617 => ?_) (fun h617 => ?_)
  · exact k w' hw'.2 (by omega) (by omega)
  · exact absurd hw'.1.symm h617
theorem lw_count {sc : Nat × (Nat → Int32)} {d : Nat} {u : xv_M} {h N M i n1 s1 : Nat} {P : xv_P} {j5 j6 : Option Value} (hL : sc.1 ≤ 2560) (hi : i + 5 ≤ sc.1) (hd : 100 ≤ d) (hn1 : xv_N u ≤ n1) (hs1 : xv_S u ≤ s1) (H : yTi u h N M) (k : ∀ w, yTi w h N M → xv_N w = xv_N u → xv_S w = xv_S u → xv_X sc d J_Law_law 647 [some (.retAddr 9), some (.ref h), some (.ref M), some (.ref (M + 30)), some (.int (nI i)), j5, j6] [] w n1 s1 P) : xv_X sc d J_Law_law 622 [some (.retAddr 9), some (.ref h), some (.ref M), some (.ref (M + 30)), some (.int (nI i)), j5, j6] [] u n1 s1 P := by
  have hk := yTi_k H
  refine xv_aload_n (pc := 622) d_Law_law_622 rfl rfl ?_
  refine xv_aloadE_n (pc := 623) d_Law_law_623 rfl rfl ?_
  refine xv_iload (pc := 624) d_Law_law_624 rfl ?_
  refine xv_iconst (pc := 626) 1 d_Law_law_626 (by decide) ?_
  refine xv_iadd (pc := 627) d_Law_law_627 ?_
  refine xv_sld (pc := 628) d_Law_law_628 (lw_in 1 rfl (by omega) hL) ?_
  refine xv_cV1i (pc := 629) (d1 := 3) (t_count H _) m_Desk_count l_Law_82 d_Law_law_629 (by omega) (by decide : 10 < xv_nc) rfl hk.1 (Nat.le_of_ble_eq_true rfl) ⟨hn1, hs1⟩ (fun r w hw hN hS => ?_)
  obtain ⟨hkm, hw⟩ := hw
  refine xv_aload_n (pc := 632) d_Law_law_632 rfl rfl ?_
  refine xv_aloadE_n (pc := 633) d_Law_law_633 rfl rfl ?_
  refine xv_iload (pc := 634) d_Law_law_634 rfl ?_
  refine xv_iconst (pc := 636) 1 d_Law_law_636 (by decide) ?_
  refine xv_iadd (pc := 637) d_Law_law_637 ?_
  refine xv_sld (pc := 638) d_Law_law_638 (lw_in 1 rfl (by omega) hL) ?_
  refine xv_cV1i (pc := 639) (d1 := 0) hw m_Model_count l_Law_85 d_Law_law_639 (by omega) (by decide : 11 < xv_nc) rfl hkm (Nat.le_of_ble_eq_true rfl) ⟨by omega, by omega⟩ (fun r' w' hw' hN' hS' => ?_)
  refine xv_icmp_eq (pc := 642) 647 d_Law_law_642 (by decide) (fun h642 => ?_) (fun h642 => ?_)
  · exact k w' hw'.2 (by omega) (by omega)
  · exact absurd hw'.1.symm h642

