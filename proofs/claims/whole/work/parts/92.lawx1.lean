theorem dL_law_272 : decode cL_law 272 = .ok (.iconst 2, 1) := by decide +kernel
theorem dL_law_273 : decode cL_law 273 = .ok (.iadd, 1) := by decide +kernel
theorem dL_law_274 : decode cL_law 274 = .ok (.iaload, 1) := by decide +kernel
theorem dL_law_275 : decode cL_law 275 = .ok (.invokevirtual 23, 3) := by decide +kernel
theorem dL_law_278 : decode cL_law 278 = .ok (.aload_n 2, 1) := by decide +kernel
theorem dL_law_279 : decode cL_law 279 = .ok (.aload_n 0, 1) := by decide +kernel
theorem dL_law_280 : decode cL_law 280 = .ok (.iload_n 3, 1) := by decide +kernel
theorem dL_law_281 : decode cL_law 281 = .ok (.iconst 1, 1) := by decide +kernel
theorem dL_law_282 : decode cL_law 282 = .ok (.iadd, 1) := by decide +kernel
theorem dL_law_283 : decode cL_law 283 = .ok (.iaload, 1) := by decide +kernel
theorem dL_law_284 : decode cL_law 284 = .ok (.aload_n 0, 1) := by decide +kernel
theorem dL_law_285 : decode cL_law 285 = .ok (.iload_n 3, 1) := by decide +kernel
theorem dL_law_286 : decode cL_law 286 = .ok (.iconst 2, 1) := by decide +kernel
theorem dL_law_287 : decode cL_law 287 = .ok (.iadd, 1) := by decide +kernel
theorem dL_law_288 : decode cL_law 288 = .ok (.iaload, 1) := by decide +kernel
theorem dL_law_289 : decode cL_law 289 = .ok (.invokevirtual 26, 3) := by decide +kernel
theorem dL_law_292 : decode cL_law 292 = .ok (.if_icmp .eq 1030, 3) := by decide +kernel
theorem dL_law_295 : decode cL_law 295 = .ok (.iconst 0, 1) := by decide +kernel
theorem dL_law_296 : decode cL_law 296 = .ok (.ireturn, 1) := by decide +kernel
theorem dL_law_297 : decode cL_law 297 = .ok (.aload_n 1, 1) := by decide +kernel
theorem dL_law_298 : decode cL_law 298 = .ok (.aload_n 0, 1) := by decide +kernel
theorem dL_law_299 : decode cL_law 299 = .ok (.iload_n 3, 1) := by decide +kernel
theorem dL_law_300 : decode cL_law 300 = .ok (.iconst 1, 1) := by decide +kernel
theorem dL_law_301 : decode cL_law 301 = .ok (.iadd, 1) := by decide +kernel
theorem dL_law_302 : decode cL_law 302 = .ok (.iaload, 1) := by decide +kernel
theorem dL_law_303 : decode cL_law 303 = .ok (.aload_n 0, 1) := by decide +kernel
theorem dL_law_304 : decode cL_law 304 = .ok (.iload_n 3, 1) := by decide +kernel
theorem dL_law_305 : decode cL_law 305 = .ok (.iconst 2, 1) := by decide +kernel
theorem dL_law_306 : decode cL_law 306 = .ok (.iadd, 1) := by decide +kernel
theorem dL_law_307 : decode cL_law 307 = .ok (.iaload, 1) := by decide +kernel
theorem dL_law_308 : decode cL_law 308 = .ok (.ifCond .eq 7, 3) := by decide +kernel
theorem dL_law_311 : decode cL_law 311 = .ok (.iconst 1, 1) := by decide +kernel
theorem dL_law_312 : decode cL_law 312 = .ok (.goto 4, 3) := by decide +kernel
theorem dL_law_315 : decode cL_law 315 = .ok (.iconst 0, 1) := by decide +kernel
theorem dL_law_316 : decode cL_law 316 = .ok (.invokevirtual 27, 3) := by decide +kernel
theorem dL_law_319 : decode cL_law 319 = .ok (.aload_n 2, 1) := by decide +kernel
theorem dL_law_320 : decode cL_law 320 = .ok (.aload_n 0, 1) := by decide +kernel
theorem dL_law_321 : decode cL_law 321 = .ok (.iload_n 3, 1) := by decide +kernel
theorem dL_law_322 : decode cL_law 322 = .ok (.iconst 1, 1) := by decide +kernel
theorem dL_law_323 : decode cL_law 323 = .ok (.iadd, 1) := by decide +kernel
theorem dL_law_324 : decode cL_law 324 = .ok (.iaload, 1) := by decide +kernel
theorem dL_law_325 : decode cL_law 325 = .ok (.aload_n 0, 1) := by decide +kernel
theorem dL_law_326 : decode cL_law 326 = .ok (.iload_n 3, 1) := by decide +kernel
theorem dL_law_327 : decode cL_law 327 = .ok (.iconst 2, 1) := by decide +kernel
theorem dL_law_328 : decode cL_law 328 = .ok (.iadd, 1) := by decide +kernel
theorem dL_law_329 : decode cL_law 329 = .ok (.iaload, 1) := by decide +kernel
theorem dL_law_330 : decode cL_law 330 = .ok (.ifCond .eq 7, 3) := by decide +kernel
theorem dL_law_333 : decode cL_law 333 = .ok (.iconst 1, 1) := by decide +kernel
theorem dL_law_334 : decode cL_law 334 = .ok (.goto 4, 3) := by decide +kernel
theorem dL_law_337 : decode cL_law 337 = .ok (.iconst 0, 1) := by decide +kernel
theorem dL_law_338 : decode cL_law 338 = .ok (.invokevirtual 31, 3) := by decide +kernel
theorem dL_law_341 : decode cL_law 341 = .ok (.if_icmp .eq 981, 3) := by decide +kernel
theorem dL_law_344 : decode cL_law 344 = .ok (.iconst 0, 1) := by decide +kernel
theorem dL_law_345 : decode cL_law 345 = .ok (.ireturn, 1) := by decide +kernel
theorem dL_law_346 : decode cL_law 346 = .ok (.aload_n 1, 1) := by decide +kernel
theorem dL_law_347 : decode cL_law 347 = .ok (.aload_n 0, 1) := by decide +kernel
theorem dL_law_348 : decode cL_law 348 = .ok (.iload_n 3, 1) := by decide +kernel
theorem dL_law_349 : decode cL_law 349 = .ok (.iconst 1, 1) := by decide +kernel
theorem dL_law_350 : decode cL_law 350 = .ok (.iadd, 1) := by decide +kernel
theorem dL_law_351 : decode cL_law 351 = .ok (.iaload, 1) := by decide +kernel
theorem dL_law_352 : decode cL_law 352 = .ok (.aload_n 0, 1) := by decide +kernel
theorem dL_law_353 : decode cL_law 353 = .ok (.iload_n 3, 1) := by decide +kernel
theorem dL_law_354 : decode cL_law 354 = .ok (.iconst 2, 1) := by decide +kernel
theorem dL_law_355 : decode cL_law 355 = .ok (.iadd, 1) := by decide +kernel
theorem dL_law_356 : decode cL_law 356 = .ok (.iaload, 1) := by decide +kernel
theorem dL_law_357 : decode cL_law 357 = .ok (.aload_n 0, 1) := by decide +kernel
theorem dL_law_358 : decode cL_law 358 = .ok (.iload_n 3, 1) := by decide +kernel
theorem dL_law_359 : decode cL_law 359 = .ok (.iconst 3, 1) := by decide +kernel
theorem dL_law_360 : decode cL_law 360 = .ok (.iadd, 1) := by decide +kernel
theorem dL_law_361 : decode cL_law 361 = .ok (.iaload, 1) := by decide +kernel
theorem dL_law_362 : decode cL_law 362 = .ok (.invokevirtual 32, 3) := by decide +kernel
theorem dL_law_365 : decode cL_law 365 = .ok (.aload_n 2, 1) := by decide +kernel
theorem dL_law_366 : decode cL_law 366 = .ok (.aload_n 0, 1) := by decide +kernel
theorem dL_law_367 : decode cL_law 367 = .ok (.iload_n 3, 1) := by decide +kernel
theorem dL_law_368 : decode cL_law 368 = .ok (.iconst 1, 1) := by decide +kernel
theorem dL_law_369 : decode cL_law 369 = .ok (.iadd, 1) := by decide +kernel
theorem dL_law_370 : decode cL_law 370 = .ok (.iaload, 1) := by decide +kernel
theorem dL_law_371 : decode cL_law 371 = .ok (.aload_n 0, 1) := by decide +kernel
theorem dL_law_372 : decode cL_law 372 = .ok (.iload_n 3, 1) := by decide +kernel
theorem dL_law_373 : decode cL_law 373 = .ok (.iconst 2, 1) := by decide +kernel
theorem dL_law_374 : decode cL_law 374 = .ok (.iadd, 1) := by decide +kernel
theorem dL_law_375 : decode cL_law 375 = .ok (.iaload, 1) := by decide +kernel
theorem dL_law_376 : decode cL_law 376 = .ok (.aload_n 0, 1) := by decide +kernel
theorem dL_law_377 : decode cL_law 377 = .ok (.iload_n 3, 1) := by decide +kernel
theorem dL_law_378 : decode cL_law 378 = .ok (.iconst 3, 1) := by decide +kernel
theorem dL_law_379 : decode cL_law 379 = .ok (.iadd, 1) := by decide +kernel
theorem dL_law_380 : decode cL_law 380 = .ok (.iaload, 1) := by decide +kernel
theorem dL_law_381 : decode cL_law 381 = .ok (.invokevirtual 35, 3) := by decide +kernel
theorem dL_law_384 : decode cL_law 384 = .ok (.if_icmp .eq 938, 3) := by decide +kernel
theorem dL_law_387 : decode cL_law 387 = .ok (.iconst 0, 1) := by decide +kernel
theorem dL_law_388 : decode cL_law 388 = .ok (.ireturn, 1) := by decide +kernel
theorem dL_law_389 : decode cL_law 389 = .ok (.aload_n 1, 1) := by decide +kernel
theorem dL_law_390 : decode cL_law 390 = .ok (.aload_n 0, 1) := by decide +kernel
theorem dL_law_391 : decode cL_law 391 = .ok (.iload_n 3, 1) := by decide +kernel
noncomputable def CL_1 (L : Nat) (xs : Nat → Int32) : List (Nat × qOp) := [(272, qo_ci 2 1),
  (273, qo_iadd),
  (274, qo_sld L xs),
  (275, qo_callv [(11, S_X11_work)] 2),
  (278, qo_aload 2 1),
  (279, qo_aload 0 1),
  (280, qo_iload 3 1),
  (281, qo_ci 1 1),
  (282, qo_iadd),
  (283, qo_sld L xs),
  (284, qo_aload 0 1),
  (285, qo_iload 3 1),
  (286, qo_ci 2 1),
  (287, qo_iadd),
  (288, qo_sld L xs),
  (289, qo_callv [(12, S_X12_work)] 2),
  (292, qo_iceq 1322),
  (295, qo_ci 0 1),
  (296, qo_ret (some .boolean) 1),
  (297, qo_aload 1 1),
  (298, qo_aload 0 1),
  (299, qo_iload 3 1),
  (300, qo_ci 1 1),
  (301, qo_iadd),
  (302, qo_sld L xs),
  (303, qo_aload 0 1),
  (304, qo_iload 3 1),
  (305, qo_ci 2 1),
  (306, qo_iadd),
  (307, qo_sld L xs),
  (308, qo_ifeq 315),
  (311, qo_ci 1 1),
  (312, qo_goto 316),
  (315, qo_ci 0 1),
  (316, qo_callv [(11, S_X11_home)] 2),
  (319, qo_aload 2 1),
  (320, qo_aload 0 1),
  (321, qo_iload 3 1),
  (322, qo_ci 1 1),
  (323, qo_iadd),
  (324, qo_sld L xs),
  (325, qo_aload 0 1),
  (326, qo_iload 3 1),
  (327, qo_ci 2 1),
  (328, qo_iadd),
  (329, qo_sld L xs),
  (330, qo_ifeq 337),
  (333, qo_ci 1 1),
  (334, qo_goto 338),
  (337, qo_ci 0 1),
  (338, qo_callv [(12, S_X12_home)] 2),
  (341, qo_iceq 1322),
  (344, qo_ci 0 1),
  (345, qo_ret (some .boolean) 1),
  (346, qo_aload 1 1),
  (347, qo_aload 0 1),
  (348, qo_iload 3 1),
  (349, qo_ci 1 1),
  (350, qo_iadd),
  (351, qo_sld L xs),
  (352, qo_aload 0 1),
  (353, qo_iload 3 1),
  (354, qo_ci 2 1),
  (355, qo_iadd),
  (356, qo_sld L xs),
  (357, qo_aload 0 1),
  (358, qo_iload 3 1),
  (359, qo_ci 3 1),
  (360, qo_iadd),
  (361, qo_sld L xs),
  (362, qo_callv [(11, S_X11_row)] 3),
  (365, qo_aload 2 1),
  (366, qo_aload 0 1),
  (367, qo_iload 3 1),
  (368, qo_ci 1 1),
  (369, qo_iadd),
  (370, qo_sld L xs),
  (371, qo_aload 0 1),
  (372, qo_iload 3 1),
  (373, qo_ci 2 1),
  (374, qo_iadd),
  (375, qo_sld L xs),
  (376, qo_aload 0 1),
  (377, qo_iload 3 1),
  (378, qo_ci 3 1),
  (379, qo_iadd),
  (380, qo_sld L xs),
  (381, qo_callv [(12, S_X12_row)] 3),
  (384, qo_iceq 1322),
  (387, qo_ci 0 1),
  (388, qo_ret (some .boolean) 1),
  (389, qo_aload 1 1),
  (390, qo_aload 0 1),
  (391, qo_iload 3 1)]
set_option maxRecDepth 20000 in
theorem KL_1 {X : qX} {l : Launch} {b L : Nat} {xs : Nat → Int32} {nm : String} (hL : L ≤ 3072) : ∀ q ∈ CL_1 L xs, qOkS X l b L xs 31 cL_law 4 RL nm (some .boolean) q.1 q.2 := by
  unfold CL_1
  refine qconsS (qOkS_of (qk_iconst dL_law_272 (by decide))) ?_
  refine qconsS (qOkS_of (qk_iadd dL_law_273)) ?_
  refine qconsS (qk_sld hL dL_law_274) ?_
  refine qconsS (qOkS_of (qk_callv (ins := fun i => .invokevirtual i) (qconsV (qrunV M_X11_work (by decide) (by decide) (by decide) rfl tw_440 tw_441 tw_442 tw_443 tw_78 ⟨by decide, by decide⟩ (by decide +kernel)) qnilV) dL_law_275)) ?_
  refine qconsS (qOkS_of (qk_aload_n dL_law_278 rfl)) ?_
  refine qconsS (qOkS_of (qk_aload_n dL_law_279 rfl)) ?_
  refine qconsS (qOkS_of (qk_iload_n dL_law_280 rfl)) ?_
  refine qconsS (qOkS_of (qk_iconst dL_law_281 (by decide))) ?_
  refine qconsS (qOkS_of (qk_iadd dL_law_282)) ?_
  refine qconsS (qk_sld hL dL_law_283) ?_
  refine qconsS (qOkS_of (qk_aload_n dL_law_284 rfl)) ?_
  refine qconsS (qOkS_of (qk_iload_n dL_law_285 rfl)) ?_
  refine qconsS (qOkS_of (qk_iconst dL_law_286 (by decide))) ?_
  refine qconsS (qOkS_of (qk_iadd dL_law_287)) ?_
  refine qconsS (qk_sld hL dL_law_288) ?_
  refine qconsS (qOkS_of (qk_callv (ins := fun i => .invokevirtual i) (qconsV (qrunV M_X12_work (by decide) (by decide) (by decide) rfl tw_1090 tw_1091 tw_1092 tw_1093 tw_90 ⟨by decide, by decide⟩ (by decide +kernel)) qnilV) dL_law_289)) ?_
  refine qconsS (qOkS_of (qk_iceq dL_law_292 (by decide))) ?_
  refine qconsS (qOkS_of (qk_iconst dL_law_295 (by decide))) ?_
  refine qconsS (qOkS_of (qk_ret dL_law_296 (Or.inr (Or.inl ⟨rfl, rfl⟩)))) ?_
  refine qconsS (qOkS_of (qk_aload_n dL_law_297 rfl)) ?_
  refine qconsS (qOkS_of (qk_aload_n dL_law_298 rfl)) ?_
  refine qconsS (qOkS_of (qk_iload_n dL_law_299 rfl)) ?_
  refine qconsS (qOkS_of (qk_iconst dL_law_300 (by decide))) ?_
  refine qconsS (qOkS_of (qk_iadd dL_law_301)) ?_
  refine qconsS (qk_sld hL dL_law_302) ?_
  refine qconsS (qOkS_of (qk_aload_n dL_law_303 rfl)) ?_
  refine qconsS (qOkS_of (qk_iload_n dL_law_304 rfl)) ?_
  refine qconsS (qOkS_of (qk_iconst dL_law_305 (by decide))) ?_
  refine qconsS (qOkS_of (qk_iadd dL_law_306)) ?_
  refine qconsS (qk_sld hL dL_law_307) ?_
  refine qconsS (qOkS_of (qk_ifeq dL_law_308 (by decide))) ?_
  refine qconsS (qOkS_of (qk_iconst dL_law_311 (by decide))) ?_
  refine qconsS (qOkS_of (qk_goto dL_law_312 (by decide))) ?_
  refine qconsS (qOkS_of (qk_iconst dL_law_315 (by decide))) ?_
  refine qconsS (qOkS_of (qk_callv (ins := fun i => .invokevirtual i) (qconsV (qrunV M_X11_home (by decide) (by decide) (by decide) rfl tw_444 tw_445 tw_446 tw_447 tw_78 ⟨by decide, by decide⟩ (by decide +kernel)) qnilV) dL_law_316)) ?_
  refine qconsS (qOkS_of (qk_aload_n dL_law_319 rfl)) ?_
  refine qconsS (qOkS_of (qk_aload_n dL_law_320 rfl)) ?_
  refine qconsS (qOkS_of (qk_iload_n dL_law_321 rfl)) ?_
  refine qconsS (qOkS_of (qk_iconst dL_law_322 (by decide))) ?_
  refine qconsS (qOkS_of (qk_iadd dL_law_323)) ?_
  refine qconsS (qk_sld hL dL_law_324) ?_
  refine qconsS (qOkS_of (qk_aload_n dL_law_325 rfl)) ?_
  refine qconsS (qOkS_of (qk_iload_n dL_law_326 rfl)) ?_
  refine qconsS (qOkS_of (qk_iconst dL_law_327 (by decide))) ?_
  refine qconsS (qOkS_of (qk_iadd dL_law_328)) ?_
  refine qconsS (qk_sld hL dL_law_329) ?_
  refine qconsS (qOkS_of (qk_ifeq dL_law_330 (by decide))) ?_
  refine qconsS (qOkS_of (qk_iconst dL_law_333 (by decide))) ?_
  refine qconsS (qOkS_of (qk_goto dL_law_334 (by decide))) ?_
  refine qconsS (qOkS_of (qk_iconst dL_law_337 (by decide))) ?_
  refine qconsS (qOkS_of (qk_callv (ins := fun i => .invokevirtual i) (qconsV (qrunV M_X12_home (by decide) (by decide) (by decide) rfl tw_1098 tw_1099 tw_1100 tw_1101 tw_90 ⟨by decide, by decide⟩ (by decide +kernel)) qnilV) dL_law_338)) ?_
  refine qconsS (qOkS_of (qk_iceq dL_law_341 (by decide))) ?_
  refine qconsS (qOkS_of (qk_iconst dL_law_344 (by decide))) ?_
  refine qconsS (qOkS_of (qk_ret dL_law_345 (Or.inr (Or.inl ⟨rfl, rfl⟩)))) ?_
  refine qconsS (qOkS_of (qk_aload_n dL_law_346 rfl)) ?_
  refine qconsS (qOkS_of (qk_aload_n dL_law_347 rfl)) ?_
  refine qconsS (qOkS_of (qk_iload_n dL_law_348 rfl)) ?_
  refine qconsS (qOkS_of (qk_iconst dL_law_349 (by decide))) ?_
  refine qconsS (qOkS_of (qk_iadd dL_law_350)) ?_
  refine qconsS (qk_sld hL dL_law_351) ?_
  refine qconsS (qOkS_of (qk_aload_n dL_law_352 rfl)) ?_
  refine qconsS (qOkS_of (qk_iload_n dL_law_353 rfl)) ?_
  refine qconsS (qOkS_of (qk_iconst dL_law_354 (by decide))) ?_
  refine qconsS (qOkS_of (qk_iadd dL_law_355)) ?_
  refine qconsS (qk_sld hL dL_law_356) ?_
  refine qconsS (qOkS_of (qk_aload_n dL_law_357 rfl)) ?_
  refine qconsS (qOkS_of (qk_iload_n dL_law_358 rfl)) ?_
  refine qconsS (qOkS_of (qk_iconst dL_law_359 (by decide))) ?_
  refine qconsS (qOkS_of (qk_iadd dL_law_360)) ?_
  refine qconsS (qk_sld hL dL_law_361) ?_
  refine qconsS (qOkS_of (qk_callv (ins := fun i => .invokevirtual i) (qconsV (qrunV M_X11_row (by decide) (by decide) (by decide) rfl tw_448 tw_449 tw_450 tw_451 tw_78 ⟨by decide, by decide⟩ (by decide +kernel)) qnilV) dL_law_362)) ?_
  refine qconsS (qOkS_of (qk_aload_n dL_law_365 rfl)) ?_
  refine qconsS (qOkS_of (qk_aload_n dL_law_366 rfl)) ?_
  refine qconsS (qOkS_of (qk_iload_n dL_law_367 rfl)) ?_
  refine qconsS (qOkS_of (qk_iconst dL_law_368 (by decide))) ?_
  refine qconsS (qOkS_of (qk_iadd dL_law_369)) ?_
  refine qconsS (qk_sld hL dL_law_370) ?_
  refine qconsS (qOkS_of (qk_aload_n dL_law_371 rfl)) ?_
  refine qconsS (qOkS_of (qk_iload_n dL_law_372 rfl)) ?_
  refine qconsS (qOkS_of (qk_iconst dL_law_373 (by decide))) ?_
  refine qconsS (qOkS_of (qk_iadd dL_law_374)) ?_
  refine qconsS (qk_sld hL dL_law_375) ?_
  refine qconsS (qOkS_of (qk_aload_n dL_law_376 rfl)) ?_
  refine qconsS (qOkS_of (qk_iload_n dL_law_377 rfl)) ?_
  refine qconsS (qOkS_of (qk_iconst dL_law_378 (by decide))) ?_
  refine qconsS (qOkS_of (qk_iadd dL_law_379)) ?_
  refine qconsS (qk_sld hL dL_law_380) ?_
  refine qconsS (qOkS_of (qk_callv (ins := fun i => .invokevirtual i) (qconsV (qrunV M_X12_row (by decide) (by decide) (by decide) rfl tw_1110 tw_1111 tw_1112 tw_1113 tw_90 ⟨by decide, by decide⟩ (by decide +kernel)) qnilV) dL_law_381)) ?_
  refine qconsS (qOkS_of (qk_iceq dL_law_384 (by decide))) ?_
  refine qconsS (qOkS_of (qk_iconst dL_law_387 (by decide))) ?_
  refine qconsS (qOkS_of (qk_ret dL_law_388 (Or.inr (Or.inl ⟨rfl, rfl⟩)))) ?_
  refine qconsS (qOkS_of (qk_aload_n dL_law_389 rfl)) ?_
  refine qconsS (qOkS_of (qk_aload_n dL_law_390 rfl)) ?_
  refine qconsS (qOkS_of (qk_iload_n dL_law_391 rfl)) ?_
  exact qnilS
