theorem dL_law_392 : decode cL_law 392 = .ok (.iconst 1, 1) := by decide +kernel
theorem dL_law_393 : decode cL_law 393 = .ok (.iadd, 1) := by decide +kernel
theorem dL_law_394 : decode cL_law 394 = .ok (.iaload, 1) := by decide +kernel
theorem dL_law_395 : decode cL_law 395 = .ok (.aload_n 0, 1) := by decide +kernel
theorem dL_law_396 : decode cL_law 396 = .ok (.iload_n 3, 1) := by decide +kernel
theorem dL_law_397 : decode cL_law 397 = .ok (.iconst 2, 1) := by decide +kernel
theorem dL_law_398 : decode cL_law 398 = .ok (.iadd, 1) := by decide +kernel
theorem dL_law_399 : decode cL_law 399 = .ok (.iaload, 1) := by decide +kernel
theorem dL_law_400 : decode cL_law 400 = .ok (.invokevirtual 36, 3) := by decide +kernel
theorem dL_law_403 : decode cL_law 403 = .ok (.aload_n 2, 1) := by decide +kernel
theorem dL_law_404 : decode cL_law 404 = .ok (.aload_n 0, 1) := by decide +kernel
theorem dL_law_405 : decode cL_law 405 = .ok (.iload_n 3, 1) := by decide +kernel
theorem dL_law_406 : decode cL_law 406 = .ok (.iconst 1, 1) := by decide +kernel
theorem dL_law_407 : decode cL_law 407 = .ok (.iadd, 1) := by decide +kernel
theorem dL_law_408 : decode cL_law 408 = .ok (.iaload, 1) := by decide +kernel
theorem dL_law_409 : decode cL_law 409 = .ok (.aload_n 0, 1) := by decide +kernel
theorem dL_law_410 : decode cL_law 410 = .ok (.iload_n 3, 1) := by decide +kernel
theorem dL_law_411 : decode cL_law 411 = .ok (.iconst 2, 1) := by decide +kernel
theorem dL_law_412 : decode cL_law 412 = .ok (.iadd, 1) := by decide +kernel
theorem dL_law_413 : decode cL_law 413 = .ok (.iaload, 1) := by decide +kernel
theorem dL_law_414 : decode cL_law 414 = .ok (.invokevirtual 39, 3) := by decide +kernel
theorem dL_law_417 : decode cL_law 417 = .ok (.if_icmp .eq 905, 3) := by decide +kernel
theorem dL_law_420 : decode cL_law 420 = .ok (.iconst 0, 1) := by decide +kernel
theorem dL_law_421 : decode cL_law 421 = .ok (.ireturn, 1) := by decide +kernel
theorem dL_law_422 : decode cL_law 422 = .ok (.aload_n 1, 1) := by decide +kernel
theorem dL_law_423 : decode cL_law 423 = .ok (.aload_n 0, 1) := by decide +kernel
theorem dL_law_424 : decode cL_law 424 = .ok (.iload_n 3, 1) := by decide +kernel
theorem dL_law_425 : decode cL_law 425 = .ok (.iconst 1, 1) := by decide +kernel
theorem dL_law_426 : decode cL_law 426 = .ok (.iadd, 1) := by decide +kernel
theorem dL_law_427 : decode cL_law 427 = .ok (.iaload, 1) := by decide +kernel
theorem dL_law_428 : decode cL_law 428 = .ok (.invokevirtual 40, 3) := by decide +kernel
theorem dL_law_431 : decode cL_law 431 = .ok (.aload_n 2, 1) := by decide +kernel
theorem dL_law_432 : decode cL_law 432 = .ok (.aload_n 0, 1) := by decide +kernel
theorem dL_law_433 : decode cL_law 433 = .ok (.iload_n 3, 1) := by decide +kernel
theorem dL_law_434 : decode cL_law 434 = .ok (.iconst 1, 1) := by decide +kernel
theorem dL_law_435 : decode cL_law 435 = .ok (.iadd, 1) := by decide +kernel
theorem dL_law_436 : decode cL_law 436 = .ok (.iaload, 1) := by decide +kernel
theorem dL_law_437 : decode cL_law 437 = .ok (.invokevirtual 44, 3) := by decide +kernel
theorem dL_law_440 : decode cL_law 440 = .ok (.if_icmp .eq 882, 3) := by decide +kernel
theorem dL_law_443 : decode cL_law 443 = .ok (.iconst 0, 1) := by decide +kernel
theorem dL_law_444 : decode cL_law 444 = .ok (.ireturn, 1) := by decide +kernel
theorem dL_law_445 : decode cL_law 445 = .ok (.aload_n 1, 1) := by decide +kernel
theorem dL_law_446 : decode cL_law 446 = .ok (.invokevirtual 45, 3) := by decide +kernel
theorem dL_law_449 : decode cL_law 449 = .ok (.aload_n 2, 1) := by decide +kernel
theorem dL_law_450 : decode cL_law 450 = .ok (.invokevirtual 49, 3) := by decide +kernel
theorem dL_law_453 : decode cL_law 453 = .ok (.if_icmp .eq 869, 3) := by decide +kernel
theorem dL_law_456 : decode cL_law 456 = .ok (.iconst 0, 1) := by decide +kernel
theorem dL_law_457 : decode cL_law 457 = .ok (.ireturn, 1) := by decide +kernel
theorem dL_law_458 : decode cL_law 458 = .ok (.aload_n 1, 1) := by decide +kernel
theorem dL_law_459 : decode cL_law 459 = .ok (.aload_n 0, 1) := by decide +kernel
theorem dL_law_460 : decode cL_law 460 = .ok (.iload_n 3, 1) := by decide +kernel
theorem dL_law_461 : decode cL_law 461 = .ok (.iconst 1, 1) := by decide +kernel
theorem dL_law_462 : decode cL_law 462 = .ok (.iadd, 1) := by decide +kernel
theorem dL_law_463 : decode cL_law 463 = .ok (.iaload, 1) := by decide +kernel
theorem dL_law_464 : decode cL_law 464 = .ok (.invokevirtual 50, 3) := by decide +kernel
theorem dL_law_467 : decode cL_law 467 = .ok (.aload_n 2, 1) := by decide +kernel
theorem dL_law_468 : decode cL_law 468 = .ok (.aload_n 0, 1) := by decide +kernel
theorem dL_law_469 : decode cL_law 469 = .ok (.iload_n 3, 1) := by decide +kernel
theorem dL_law_470 : decode cL_law 470 = .ok (.iconst 1, 1) := by decide +kernel
theorem dL_law_471 : decode cL_law 471 = .ok (.iadd, 1) := by decide +kernel
theorem dL_law_472 : decode cL_law 472 = .ok (.iaload, 1) := by decide +kernel
theorem dL_law_473 : decode cL_law 473 = .ok (.invokevirtual 53, 3) := by decide +kernel
theorem dL_law_476 : decode cL_law 476 = .ok (.if_icmp .eq 846, 3) := by decide +kernel
theorem dL_law_479 : decode cL_law 479 = .ok (.iconst 0, 1) := by decide +kernel
theorem dL_law_480 : decode cL_law 480 = .ok (.ireturn, 1) := by decide +kernel
theorem dL_law_481 : decode cL_law 481 = .ok (.aload_n 1, 1) := by decide +kernel
theorem dL_law_482 : decode cL_law 482 = .ok (.aload_n 0, 1) := by decide +kernel
theorem dL_law_483 : decode cL_law 483 = .ok (.iload_n 3, 1) := by decide +kernel
theorem dL_law_484 : decode cL_law 484 = .ok (.iconst 1, 1) := by decide +kernel
theorem dL_law_485 : decode cL_law 485 = .ok (.iadd, 1) := by decide +kernel
theorem dL_law_486 : decode cL_law 486 = .ok (.iaload, 1) := by decide +kernel
theorem dL_law_487 : decode cL_law 487 = .ok (.invokevirtual 54, 3) := by decide +kernel
theorem dL_law_490 : decode cL_law 490 = .ok (.aload_n 2, 1) := by decide +kernel
theorem dL_law_491 : decode cL_law 491 = .ok (.aload_n 0, 1) := by decide +kernel
theorem dL_law_492 : decode cL_law 492 = .ok (.iload_n 3, 1) := by decide +kernel
theorem dL_law_493 : decode cL_law 493 = .ok (.iconst 1, 1) := by decide +kernel
theorem dL_law_494 : decode cL_law 494 = .ok (.iadd, 1) := by decide +kernel
theorem dL_law_495 : decode cL_law 495 = .ok (.iaload, 1) := by decide +kernel
theorem dL_law_496 : decode cL_law 496 = .ok (.invokevirtual 57, 3) := by decide +kernel
theorem dL_law_499 : decode cL_law 499 = .ok (.if_icmp .eq 823, 3) := by decide +kernel
theorem dL_law_502 : decode cL_law 502 = .ok (.iconst 0, 1) := by decide +kernel
theorem dL_law_503 : decode cL_law 503 = .ok (.ireturn, 1) := by decide +kernel
theorem dL_law_504 : decode cL_law 504 = .ok (.aload_n 1, 1) := by decide +kernel
theorem dL_law_505 : decode cL_law 505 = .ok (.aload_n 0, 1) := by decide +kernel
theorem dL_law_506 : decode cL_law 506 = .ok (.iload_n 3, 1) := by decide +kernel
theorem dL_law_507 : decode cL_law 507 = .ok (.iconst 1, 1) := by decide +kernel
theorem dL_law_508 : decode cL_law 508 = .ok (.iadd, 1) := by decide +kernel
theorem dL_law_509 : decode cL_law 509 = .ok (.iaload, 1) := by decide +kernel
theorem dL_law_510 : decode cL_law 510 = .ok (.aload_n 0, 1) := by decide +kernel
theorem dL_law_511 : decode cL_law 511 = .ok (.iload_n 3, 1) := by decide +kernel
theorem dL_law_512 : decode cL_law 512 = .ok (.iconst 2, 1) := by decide +kernel
theorem dL_law_513 : decode cL_law 513 = .ok (.iadd, 1) := by decide +kernel
theorem dL_law_514 : decode cL_law 514 = .ok (.iaload, 1) := by decide +kernel
theorem dL_law_515 : decode cL_law 515 = .ok (.invokevirtual 58, 3) := by decide +kernel
noncomputable def CL_2 (L : Nat) (xs : Nat → Int32) : List (Nat × qOp) := [(392, qo_ci 1 1),
  (393, qo_iadd),
  (394, qo_sld L xs),
  (395, qo_aload 0 1),
  (396, qo_iload 3 1),
  (397, qo_ci 2 1),
  (398, qo_iadd),
  (399, qo_sld L xs),
  (400, qo_callv [(11, S_X11_heap)] 2),
  (403, qo_aload 2 1),
  (404, qo_aload 0 1),
  (405, qo_iload 3 1),
  (406, qo_ci 1 1),
  (407, qo_iadd),
  (408, qo_sld L xs),
  (409, qo_aload 0 1),
  (410, qo_iload 3 1),
  (411, qo_ci 2 1),
  (412, qo_iadd),
  (413, qo_sld L xs),
  (414, qo_callv [(12, S_X12_heap)] 2),
  (417, qo_iceq 1322),
  (420, qo_ci 0 1),
  (421, qo_ret (some .boolean) 1),
  (422, qo_aload 1 1),
  (423, qo_aload 0 1),
  (424, qo_iload 3 1),
  (425, qo_ci 1 1),
  (426, qo_iadd),
  (427, qo_sld L xs),
  (428, qo_callv [(11, S_X11_feed)] 1),
  (431, qo_aload 2 1),
  (432, qo_aload 0 1),
  (433, qo_iload 3 1),
  (434, qo_ci 1 1),
  (435, qo_iadd),
  (436, qo_sld L xs),
  (437, qo_callv [(12, S_X12_feed)] 1),
  (440, qo_iceq 1322),
  (443, qo_ci 0 1),
  (444, qo_ret (some .boolean) 1),
  (445, qo_aload 1 1),
  (446, qo_callv [(11, S_X11_hall)] 0),
  (449, qo_aload 2 1),
  (450, qo_callv [(12, S_X12_hall)] 0),
  (453, qo_iceq 1322),
  (456, qo_ci 0 1),
  (457, qo_ret (some .boolean) 1),
  (458, qo_aload 1 1),
  (459, qo_aload 0 1),
  (460, qo_iload 3 1),
  (461, qo_ci 1 1),
  (462, qo_iadd),
  (463, qo_sld L xs),
  (464, qo_callv [(11, S_X11_told)] 1),
  (467, qo_aload 2 1),
  (468, qo_aload 0 1),
  (469, qo_iload 3 1),
  (470, qo_ci 1 1),
  (471, qo_iadd),
  (472, qo_sld L xs),
  (473, qo_callv [(12, S_X12_told)] 1),
  (476, qo_iceq 1322),
  (479, qo_ci 0 1),
  (480, qo_ret (some .boolean) 1),
  (481, qo_aload 1 1),
  (482, qo_aload 0 1),
  (483, qo_iload 3 1),
  (484, qo_ci 1 1),
  (485, qo_iadd),
  (486, qo_sld L xs),
  (487, qo_callv [(11, S_X11_pass)] 1),
  (490, qo_aload 2 1),
  (491, qo_aload 0 1),
  (492, qo_iload 3 1),
  (493, qo_ci 1 1),
  (494, qo_iadd),
  (495, qo_sld L xs),
  (496, qo_callv [(12, S_X12_pass)] 1),
  (499, qo_iceq 1322),
  (502, qo_ci 0 1),
  (503, qo_ret (some .boolean) 1),
  (504, qo_aload 1 1),
  (505, qo_aload 0 1),
  (506, qo_iload 3 1),
  (507, qo_ci 1 1),
  (508, qo_iadd),
  (509, qo_sld L xs),
  (510, qo_aload 0 1),
  (511, qo_iload 3 1),
  (512, qo_ci 2 1),
  (513, qo_iadd),
  (514, qo_sld L xs),
  (515, qo_callv [(11, S_X11_on)] 2)]
set_option maxRecDepth 20000 in
theorem KL_2 {X : qX} {l : Launch} {b L : Nat} {xs : Nat → Int32} {nm : String} (hL : L ≤ 3072) : ∀ q ∈ CL_2 L xs, qOkS X l b L xs 31 cL_law 4 RL nm (some .boolean) q.1 q.2 := by
  unfold CL_2
  refine qconsS (qOkS_of (qk_iconst dL_law_392 (by decide))) ?_
  refine qconsS (qOkS_of (qk_iadd dL_law_393)) ?_
  refine qconsS (qk_sld hL dL_law_394) ?_
  refine qconsS (qOkS_of (qk_aload_n dL_law_395 rfl)) ?_
  refine qconsS (qOkS_of (qk_iload_n dL_law_396 rfl)) ?_
  refine qconsS (qOkS_of (qk_iconst dL_law_397 (by decide))) ?_
  refine qconsS (qOkS_of (qk_iadd dL_law_398)) ?_
  refine qconsS (qk_sld hL dL_law_399) ?_
  refine qconsS (qOkS_of (qk_callv (ins := fun i => .invokevirtual i) (qconsV (qrunV M_X11_heap (by decide) (by decide) (by decide) rfl tw_452 tw_453 tw_454 tw_455 tw_78 ⟨by decide, by decide⟩ (by decide +kernel)) qnilV) dL_law_400)) ?_
  refine qconsS (qOkS_of (qk_aload_n dL_law_403 rfl)) ?_
  refine qconsS (qOkS_of (qk_aload_n dL_law_404 rfl)) ?_
  refine qconsS (qOkS_of (qk_iload_n dL_law_405 rfl)) ?_
  refine qconsS (qOkS_of (qk_iconst dL_law_406 (by decide))) ?_
  refine qconsS (qOkS_of (qk_iadd dL_law_407)) ?_
  refine qconsS (qk_sld hL dL_law_408) ?_
  refine qconsS (qOkS_of (qk_aload_n dL_law_409 rfl)) ?_
  refine qconsS (qOkS_of (qk_iload_n dL_law_410 rfl)) ?_
  refine qconsS (qOkS_of (qk_iconst dL_law_411 (by decide))) ?_
  refine qconsS (qOkS_of (qk_iadd dL_law_412)) ?_
  refine qconsS (qk_sld hL dL_law_413) ?_
  refine qconsS (qOkS_of (qk_callv (ins := fun i => .invokevirtual i) (qconsV (qrunV M_X12_heap (by decide) (by decide) (by decide) rfl tw_1114 tw_1115 tw_1116 tw_1117 tw_90 ⟨by decide, by decide⟩ (by decide +kernel)) qnilV) dL_law_414)) ?_
  refine qconsS (qOkS_of (qk_iceq dL_law_417 (by decide))) ?_
  refine qconsS (qOkS_of (qk_iconst dL_law_420 (by decide))) ?_
  refine qconsS (qOkS_of (qk_ret dL_law_421 (Or.inr (Or.inl ⟨rfl, rfl⟩)))) ?_
  refine qconsS (qOkS_of (qk_aload_n dL_law_422 rfl)) ?_
  refine qconsS (qOkS_of (qk_aload_n dL_law_423 rfl)) ?_
  refine qconsS (qOkS_of (qk_iload_n dL_law_424 rfl)) ?_
  refine qconsS (qOkS_of (qk_iconst dL_law_425 (by decide))) ?_
  refine qconsS (qOkS_of (qk_iadd dL_law_426)) ?_
  refine qconsS (qk_sld hL dL_law_427) ?_
  refine qconsS (qOkS_of (qk_callv (ins := fun i => .invokevirtual i) (qconsV (qrunV M_X11_feed (by decide) (by decide) (by decide) rfl tw_459 tw_460 tw_461 tw_462 tw_78 ⟨by decide, by decide⟩ (by decide +kernel)) qnilV) dL_law_428)) ?_
  refine qconsS (qOkS_of (qk_aload_n dL_law_431 rfl)) ?_
  refine qconsS (qOkS_of (qk_aload_n dL_law_432 rfl)) ?_
  refine qconsS (qOkS_of (qk_iload_n dL_law_433 rfl)) ?_
  refine qconsS (qOkS_of (qk_iconst dL_law_434 (by decide))) ?_
  refine qconsS (qOkS_of (qk_iadd dL_law_435)) ?_
  refine qconsS (qk_sld hL dL_law_436) ?_
  refine qconsS (qOkS_of (qk_callv (ins := fun i => .invokevirtual i) (qconsV (qrunV M_X12_feed (by decide) (by decide) (by decide) rfl tw_1126 tw_1127 tw_1128 tw_1129 tw_90 ⟨by decide, by decide⟩ (by decide +kernel)) qnilV) dL_law_437)) ?_
  refine qconsS (qOkS_of (qk_iceq dL_law_440 (by decide))) ?_
  refine qconsS (qOkS_of (qk_iconst dL_law_443 (by decide))) ?_
  refine qconsS (qOkS_of (qk_ret dL_law_444 (Or.inr (Or.inl ⟨rfl, rfl⟩)))) ?_
  refine qconsS (qOkS_of (qk_aload_n dL_law_445 rfl)) ?_
  refine qconsS (qOkS_of (qk_callv (ins := fun i => .invokevirtual i) (qconsV (qrunV M_X11_hall (by decide) (by decide) (by decide) rfl tw_463 tw_464 tw_465 tw_466 tw_78 ⟨by decide, by decide⟩ (by decide +kernel)) qnilV) dL_law_446)) ?_
  refine qconsS (qOkS_of (qk_aload_n dL_law_449 rfl)) ?_
  refine qconsS (qOkS_of (qk_callv (ins := fun i => .invokevirtual i) (qconsV (qrunV M_X12_hall (by decide) (by decide) (by decide) rfl tw_1130 tw_1131 tw_1132 tw_1133 tw_90 ⟨by decide, by decide⟩ (by decide +kernel)) qnilV) dL_law_450)) ?_
  refine qconsS (qOkS_of (qk_iceq dL_law_453 (by decide))) ?_
  refine qconsS (qOkS_of (qk_iconst dL_law_456 (by decide))) ?_
  refine qconsS (qOkS_of (qk_ret dL_law_457 (Or.inr (Or.inl ⟨rfl, rfl⟩)))) ?_
  refine qconsS (qOkS_of (qk_aload_n dL_law_458 rfl)) ?_
  refine qconsS (qOkS_of (qk_aload_n dL_law_459 rfl)) ?_
  refine qconsS (qOkS_of (qk_iload_n dL_law_460 rfl)) ?_
  refine qconsS (qOkS_of (qk_iconst dL_law_461 (by decide))) ?_
  refine qconsS (qOkS_of (qk_iadd dL_law_462)) ?_
  refine qconsS (qk_sld hL dL_law_463) ?_
  refine qconsS (qOkS_of (qk_callv (ins := fun i => .invokevirtual i) (qconsV (qrunV M_X11_told (by decide) (by decide) (by decide) rfl tw_579 tw_580 tw_581 tw_582 tw_78 ⟨by decide, by decide⟩ (by decide +kernel)) qnilV) dL_law_464)) ?_
  refine qconsS (qOkS_of (qk_aload_n dL_law_467 rfl)) ?_
  refine qconsS (qOkS_of (qk_aload_n dL_law_468 rfl)) ?_
  refine qconsS (qOkS_of (qk_iload_n dL_law_469 rfl)) ?_
  refine qconsS (qOkS_of (qk_iconst dL_law_470 (by decide))) ?_
  refine qconsS (qOkS_of (qk_iadd dL_law_471)) ?_
  refine qconsS (qk_sld hL dL_law_472) ?_
  refine qconsS (qOkS_of (qk_callv (ins := fun i => .invokevirtual i) (qconsV (qrunV M_X12_told (by decide) (by decide) (by decide) rfl tw_1230 tw_1231 tw_1232 tw_1233 tw_90 ⟨by decide, by decide⟩ (by decide +kernel)) qnilV) dL_law_473)) ?_
  refine qconsS (qOkS_of (qk_iceq dL_law_476 (by decide))) ?_
  refine qconsS (qOkS_of (qk_iconst dL_law_479 (by decide))) ?_
  refine qconsS (qOkS_of (qk_ret dL_law_480 (Or.inr (Or.inl ⟨rfl, rfl⟩)))) ?_
  refine qconsS (qOkS_of (qk_aload_n dL_law_481 rfl)) ?_
  refine qconsS (qOkS_of (qk_aload_n dL_law_482 rfl)) ?_
  refine qconsS (qOkS_of (qk_iload_n dL_law_483 rfl)) ?_
  refine qconsS (qOkS_of (qk_iconst dL_law_484 (by decide))) ?_
  refine qconsS (qOkS_of (qk_iadd dL_law_485)) ?_
  refine qconsS (qk_sld hL dL_law_486) ?_
  refine qconsS (qOkS_of (qk_callv (ins := fun i => .invokevirtual i) (qconsV (qrunV M_X11_pass (by decide) (by decide) (by decide) rfl tw_583 tw_584 tw_585 tw_586 tw_78 ⟨by decide, by decide⟩ (by decide +kernel)) qnilV) dL_law_487)) ?_
  refine qconsS (qOkS_of (qk_aload_n dL_law_490 rfl)) ?_
  refine qconsS (qOkS_of (qk_aload_n dL_law_491 rfl)) ?_
  refine qconsS (qOkS_of (qk_iload_n dL_law_492 rfl)) ?_
  refine qconsS (qOkS_of (qk_iconst dL_law_493 (by decide))) ?_
  refine qconsS (qOkS_of (qk_iadd dL_law_494)) ?_
  refine qconsS (qk_sld hL dL_law_495) ?_
  refine qconsS (qOkS_of (qk_callv (ins := fun i => .invokevirtual i) (qconsV (qrunV M_X12_pass (by decide) (by decide) (by decide) rfl tw_1242 tw_1243 tw_1244 tw_1245 tw_90 ⟨by decide, by decide⟩ (by decide +kernel)) qnilV) dL_law_496)) ?_
  refine qconsS (qOkS_of (qk_iceq dL_law_499 (by decide))) ?_
  refine qconsS (qOkS_of (qk_iconst dL_law_502 (by decide))) ?_
  refine qconsS (qOkS_of (qk_ret dL_law_503 (Or.inr (Or.inl ⟨rfl, rfl⟩)))) ?_
  refine qconsS (qOkS_of (qk_aload_n dL_law_504 rfl)) ?_
  refine qconsS (qOkS_of (qk_aload_n dL_law_505 rfl)) ?_
  refine qconsS (qOkS_of (qk_iload_n dL_law_506 rfl)) ?_
  refine qconsS (qOkS_of (qk_iconst dL_law_507 (by decide))) ?_
  refine qconsS (qOkS_of (qk_iadd dL_law_508)) ?_
  refine qconsS (qk_sld hL dL_law_509) ?_
  refine qconsS (qOkS_of (qk_aload_n dL_law_510 rfl)) ?_
  refine qconsS (qOkS_of (qk_iload_n dL_law_511 rfl)) ?_
  refine qconsS (qOkS_of (qk_iconst dL_law_512 (by decide))) ?_
  refine qconsS (qOkS_of (qk_iadd dL_law_513)) ?_
  refine qconsS (qk_sld hL dL_law_514) ?_
  refine qconsS (qOkS_of (qk_callv (ins := fun i => .invokevirtual i) (qconsV (qrunV M_X11_on (by decide) (by decide) (by decide) rfl tw_597 tw_598 tw_599 tw_600 tw_78 ⟨by decide, by decide⟩ (by decide +kernel)) qnilV) dL_law_515)) ?_
  exact qnilS
