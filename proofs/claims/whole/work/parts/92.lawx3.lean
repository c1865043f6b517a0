theorem dL_law_518 : decode cL_law 518 = .ok (.aload_n 2, 1) := by decide +kernel
theorem dL_law_519 : decode cL_law 519 = .ok (.aload_n 0, 1) := by decide +kernel
theorem dL_law_520 : decode cL_law 520 = .ok (.iload_n 3, 1) := by decide +kernel
theorem dL_law_521 : decode cL_law 521 = .ok (.iconst 1, 1) := by decide +kernel
theorem dL_law_522 : decode cL_law 522 = .ok (.iadd, 1) := by decide +kernel
theorem dL_law_523 : decode cL_law 523 = .ok (.iaload, 1) := by decide +kernel
theorem dL_law_524 : decode cL_law 524 = .ok (.aload_n 0, 1) := by decide +kernel
theorem dL_law_525 : decode cL_law 525 = .ok (.iload_n 3, 1) := by decide +kernel
theorem dL_law_526 : decode cL_law 526 = .ok (.iconst 2, 1) := by decide +kernel
theorem dL_law_527 : decode cL_law 527 = .ok (.iadd, 1) := by decide +kernel
theorem dL_law_528 : decode cL_law 528 = .ok (.iaload, 1) := by decide +kernel
theorem dL_law_529 : decode cL_law 529 = .ok (.invokevirtual 61, 3) := by decide +kernel
theorem dL_law_532 : decode cL_law 532 = .ok (.if_icmp .eq 790, 3) := by decide +kernel
theorem dL_law_535 : decode cL_law 535 = .ok (.iconst 0, 1) := by decide +kernel
theorem dL_law_536 : decode cL_law 536 = .ok (.ireturn, 1) := by decide +kernel
theorem dL_law_537 : decode cL_law 537 = .ok (.aload_n 1, 1) := by decide +kernel
theorem dL_law_538 : decode cL_law 538 = .ok (.aload_n 0, 1) := by decide +kernel
theorem dL_law_539 : decode cL_law 539 = .ok (.iload_n 3, 1) := by decide +kernel
theorem dL_law_540 : decode cL_law 540 = .ok (.iconst 1, 1) := by decide +kernel
theorem dL_law_541 : decode cL_law 541 = .ok (.iadd, 1) := by decide +kernel
theorem dL_law_542 : decode cL_law 542 = .ok (.iaload, 1) := by decide +kernel
theorem dL_law_543 : decode cL_law 543 = .ok (.invokevirtual 62, 3) := by decide +kernel
theorem dL_law_546 : decode cL_law 546 = .ok (.aload_n 2, 1) := by decide +kernel
theorem dL_law_547 : decode cL_law 547 = .ok (.aload_n 0, 1) := by decide +kernel
theorem dL_law_548 : decode cL_law 548 = .ok (.iload_n 3, 1) := by decide +kernel
theorem dL_law_549 : decode cL_law 549 = .ok (.iconst 1, 1) := by decide +kernel
theorem dL_law_550 : decode cL_law 550 = .ok (.iadd, 1) := by decide +kernel
theorem dL_law_551 : decode cL_law 551 = .ok (.iaload, 1) := by decide +kernel
theorem dL_law_552 : decode cL_law 552 = .ok (.invokevirtual 65, 3) := by decide +kernel
theorem dL_law_555 : decode cL_law 555 = .ok (.if_icmp .eq 767, 3) := by decide +kernel
theorem dL_law_558 : decode cL_law 558 = .ok (.iconst 0, 1) := by decide +kernel
theorem dL_law_559 : decode cL_law 559 = .ok (.ireturn, 1) := by decide +kernel
theorem dL_law_560 : decode cL_law 560 = .ok (.aload_n 1, 1) := by decide +kernel
theorem dL_law_561 : decode cL_law 561 = .ok (.aload_n 0, 1) := by decide +kernel
theorem dL_law_562 : decode cL_law 562 = .ok (.iload_n 3, 1) := by decide +kernel
theorem dL_law_563 : decode cL_law 563 = .ok (.iconst 1, 1) := by decide +kernel
theorem dL_law_564 : decode cL_law 564 = .ok (.iadd, 1) := by decide +kernel
theorem dL_law_565 : decode cL_law 565 = .ok (.iaload, 1) := by decide +kernel
theorem dL_law_566 : decode cL_law 566 = .ok (.invokevirtual 66, 3) := by decide +kernel
theorem dL_law_569 : decode cL_law 569 = .ok (.aload_n 2, 1) := by decide +kernel
theorem dL_law_570 : decode cL_law 570 = .ok (.aload_n 0, 1) := by decide +kernel
theorem dL_law_571 : decode cL_law 571 = .ok (.iload_n 3, 1) := by decide +kernel
theorem dL_law_572 : decode cL_law 572 = .ok (.iconst 1, 1) := by decide +kernel
theorem dL_law_573 : decode cL_law 573 = .ok (.iadd, 1) := by decide +kernel
theorem dL_law_574 : decode cL_law 574 = .ok (.iaload, 1) := by decide +kernel
theorem dL_law_575 : decode cL_law 575 = .ok (.invokevirtual 69, 3) := by decide +kernel
theorem dL_law_578 : decode cL_law 578 = .ok (.if_icmp .eq 744, 3) := by decide +kernel
theorem dL_law_581 : decode cL_law 581 = .ok (.iconst 0, 1) := by decide +kernel
theorem dL_law_582 : decode cL_law 582 = .ok (.ireturn, 1) := by decide +kernel
theorem dL_law_583 : decode cL_law 583 = .ok (.aload_n 1, 1) := by decide +kernel
theorem dL_law_584 : decode cL_law 584 = .ok (.aload_n 0, 1) := by decide +kernel
theorem dL_law_585 : decode cL_law 585 = .ok (.iload_n 3, 1) := by decide +kernel
theorem dL_law_586 : decode cL_law 586 = .ok (.iconst 1, 1) := by decide +kernel
theorem dL_law_587 : decode cL_law 587 = .ok (.iadd, 1) := by decide +kernel
theorem dL_law_588 : decode cL_law 588 = .ok (.iaload, 1) := by decide +kernel
theorem dL_law_589 : decode cL_law 589 = .ok (.aload_n 0, 1) := by decide +kernel
theorem dL_law_590 : decode cL_law 590 = .ok (.iload_n 3, 1) := by decide +kernel
theorem dL_law_591 : decode cL_law 591 = .ok (.iconst 2, 1) := by decide +kernel
theorem dL_law_592 : decode cL_law 592 = .ok (.iadd, 1) := by decide +kernel
theorem dL_law_593 : decode cL_law 593 = .ok (.iaload, 1) := by decide +kernel
theorem dL_law_594 : decode cL_law 594 = .ok (.invokevirtual 70, 3) := by decide +kernel
theorem dL_law_597 : decode cL_law 597 = .ok (.aload_n 2, 1) := by decide +kernel
theorem dL_law_598 : decode cL_law 598 = .ok (.aload_n 0, 1) := by decide +kernel
theorem dL_law_599 : decode cL_law 599 = .ok (.iload_n 3, 1) := by decide +kernel
theorem dL_law_600 : decode cL_law 600 = .ok (.iconst 1, 1) := by decide +kernel
theorem dL_law_601 : decode cL_law 601 = .ok (.iadd, 1) := by decide +kernel
theorem dL_law_602 : decode cL_law 602 = .ok (.iaload, 1) := by decide +kernel
theorem dL_law_603 : decode cL_law 603 = .ok (.aload_n 0, 1) := by decide +kernel
theorem dL_law_604 : decode cL_law 604 = .ok (.iload_n 3, 1) := by decide +kernel
theorem dL_law_605 : decode cL_law 605 = .ok (.iconst 2, 1) := by decide +kernel
theorem dL_law_606 : decode cL_law 606 = .ok (.iadd, 1) := by decide +kernel
theorem dL_law_607 : decode cL_law 607 = .ok (.iaload, 1) := by decide +kernel
theorem dL_law_608 : decode cL_law 608 = .ok (.invokevirtual 73, 3) := by decide +kernel
theorem dL_law_611 : decode cL_law 611 = .ok (.if_icmp .eq 711, 3) := by decide +kernel
theorem dL_law_614 : decode cL_law 614 = .ok (.iconst 0, 1) := by decide +kernel
theorem dL_law_615 : decode cL_law 615 = .ok (.ireturn, 1) := by decide +kernel
theorem dL_law_616 : decode cL_law 616 = .ok (.aload_n 1, 1) := by decide +kernel
theorem dL_law_617 : decode cL_law 617 = .ok (.aload_n 0, 1) := by decide +kernel
theorem dL_law_618 : decode cL_law 618 = .ok (.iload_n 3, 1) := by decide +kernel
theorem dL_law_619 : decode cL_law 619 = .ok (.iconst 1, 1) := by decide +kernel
theorem dL_law_620 : decode cL_law 620 = .ok (.iadd, 1) := by decide +kernel
theorem dL_law_621 : decode cL_law 621 = .ok (.iaload, 1) := by decide +kernel
theorem dL_law_622 : decode cL_law 622 = .ok (.invokevirtual 74, 3) := by decide +kernel
theorem dL_law_625 : decode cL_law 625 = .ok (.aload_n 2, 1) := by decide +kernel
theorem dL_law_626 : decode cL_law 626 = .ok (.aload_n 0, 1) := by decide +kernel
theorem dL_law_627 : decode cL_law 627 = .ok (.iload_n 3, 1) := by decide +kernel
theorem dL_law_628 : decode cL_law 628 = .ok (.iconst 1, 1) := by decide +kernel
theorem dL_law_629 : decode cL_law 629 = .ok (.iadd, 1) := by decide +kernel
theorem dL_law_630 : decode cL_law 630 = .ok (.iaload, 1) := by decide +kernel
theorem dL_law_631 : decode cL_law 631 = .ok (.invokevirtual 77, 3) := by decide +kernel
theorem dL_law_634 : decode cL_law 634 = .ok (.if_icmp .eq 688, 3) := by decide +kernel
theorem dL_law_637 : decode cL_law 637 = .ok (.iconst 0, 1) := by decide +kernel
theorem dL_law_638 : decode cL_law 638 = .ok (.ireturn, 1) := by decide +kernel
theorem dL_law_639 : decode cL_law 639 = .ok (.aload_n 1, 1) := by decide +kernel
noncomputable def CL_3 (L : Nat) (xs : Nat → Int32) : List (Nat × qOp) := [(518, qo_aload 2 1),
  (519, qo_aload 0 1),
  (520, qo_iload 3 1),
  (521, qo_ci 1 1),
  (522, qo_iadd),
  (523, qo_sld L xs),
  (524, qo_aload 0 1),
  (525, qo_iload 3 1),
  (526, qo_ci 2 1),
  (527, qo_iadd),
  (528, qo_sld L xs),
  (529, qo_callv [(12, S_X12_on)] 2),
  (532, qo_iceq 1322),
  (535, qo_ci 0 1),
  (536, qo_ret (some .boolean) 1),
  (537, qo_aload 1 1),
  (538, qo_aload 0 1),
  (539, qo_iload 3 1),
  (540, qo_ci 1 1),
  (541, qo_iadd),
  (542, qo_sld L xs),
  (543, qo_callv [(11, S_X11_ready)] 1),
  (546, qo_aload 2 1),
  (547, qo_aload 0 1),
  (548, qo_iload 3 1),
  (549, qo_ci 1 1),
  (550, qo_iadd),
  (551, qo_sld L xs),
  (552, qo_callv [(12, S_X12_ready)] 1),
  (555, qo_iceq 1322),
  (558, qo_ci 0 1),
  (559, qo_ret (some .boolean) 1),
  (560, qo_aload 1 1),
  (561, qo_aload 0 1),
  (562, qo_iload 3 1),
  (563, qo_ci 1 1),
  (564, qo_iadd),
  (565, qo_sld L xs),
  (566, qo_callv [(11, S_X11_best)] 1),
  (569, qo_aload 2 1),
  (570, qo_aload 0 1),
  (571, qo_iload 3 1),
  (572, qo_ci 1 1),
  (573, qo_iadd),
  (574, qo_sld L xs),
  (575, qo_callv [(12, S_X12_best)] 1),
  (578, qo_iceq 1322),
  (581, qo_ci 0 1),
  (582, qo_ret (some .boolean) 1),
  (583, qo_aload 1 1),
  (584, qo_aload 0 1),
  (585, qo_iload 3 1),
  (586, qo_ci 1 1),
  (587, qo_iadd),
  (588, qo_sld L xs),
  (589, qo_aload 0 1),
  (590, qo_iload 3 1),
  (591, qo_ci 2 1),
  (592, qo_iadd),
  (593, qo_sld L xs),
  (594, qo_callv [(11, S_X11_when)] 2),
  (597, qo_aload 2 1),
  (598, qo_aload 0 1),
  (599, qo_iload 3 1),
  (600, qo_ci 1 1),
  (601, qo_iadd),
  (602, qo_sld L xs),
  (603, qo_aload 0 1),
  (604, qo_iload 3 1),
  (605, qo_ci 2 1),
  (606, qo_iadd),
  (607, qo_sld L xs),
  (608, qo_callv [(12, S_X12_when)] 2),
  (611, qo_iceq 1322),
  (614, qo_ci 0 1),
  (615, qo_ret (some .boolean) 1),
  (616, qo_aload 1 1),
  (617, qo_aload 0 1),
  (618, qo_iload 3 1),
  (619, qo_ci 1 1),
  (620, qo_iadd),
  (621, qo_sld L xs),
  (622, qo_callv [(11, S_X11_without)] 1),
  (625, qo_aload 2 1),
  (626, qo_aload 0 1),
  (627, qo_iload 3 1),
  (628, qo_ci 1 1),
  (629, qo_iadd),
  (630, qo_sld L xs),
  (631, qo_callv [(12, S_X12_without)] 1),
  (634, qo_iceq 1322),
  (637, qo_ci 0 1),
  (638, qo_ret (some .boolean) 1),
  (639, qo_aload 1 1)]
set_option maxRecDepth 20000 in
theorem KL_3 {X : qX} {l : Launch} {b L : Nat} {xs : Nat → Int32} {nm : String} (hL : L ≤ 3072) : ∀ q ∈ CL_3 L xs, qOkS X l b L xs 31 cL_law 4 RL nm (some .boolean) q.1 q.2 := by
  unfold CL_3
  refine qconsS (qOkS_of (qk_aload_n dL_law_518 rfl)) ?_
  refine qconsS (qOkS_of (qk_aload_n dL_law_519 rfl)) ?_
  refine qconsS (qOkS_of (qk_iload_n dL_law_520 rfl)) ?_
  refine qconsS (qOkS_of (qk_iconst dL_law_521 (by decide))) ?_
  refine qconsS (qOkS_of (qk_iadd dL_law_522)) ?_
  refine qconsS (qk_sld hL dL_law_523) ?_
  refine qconsS (qOkS_of (qk_aload_n dL_law_524 rfl)) ?_
  refine qconsS (qOkS_of (qk_iload_n dL_law_525 rfl)) ?_
  refine qconsS (qOkS_of (qk_iconst dL_law_526 (by decide))) ?_
  refine qconsS (qOkS_of (qk_iadd dL_law_527)) ?_
  refine qconsS (qk_sld hL dL_law_528) ?_
  refine qconsS (qOkS_of (qk_callv (ins := fun i => .invokevirtual i) (qconsV (qrunV M_X12_on (by decide) (by decide) (by decide) rfl tw_1262 tw_1263 tw_1264 tw_1265 tw_90 ⟨by decide, by decide⟩ (by decide +kernel)) qnilV) dL_law_529)) ?_
  refine qconsS (qOkS_of (qk_iceq dL_law_532 (by decide))) ?_
  refine qconsS (qOkS_of (qk_iconst dL_law_535 (by decide))) ?_
  refine qconsS (qOkS_of (qk_ret dL_law_536 (Or.inr (Or.inl ⟨rfl, rfl⟩)))) ?_
  refine qconsS (qOkS_of (qk_aload_n dL_law_537 rfl)) ?_
  refine qconsS (qOkS_of (qk_aload_n dL_law_538 rfl)) ?_
  refine qconsS (qOkS_of (qk_iload_n dL_law_539 rfl)) ?_
  refine qconsS (qOkS_of (qk_iconst dL_law_540 (by decide))) ?_
  refine qconsS (qOkS_of (qk_iadd dL_law_541)) ?_
  refine qconsS (qk_sld hL dL_law_542) ?_
  refine qconsS (qOkS_of (qk_callv (ins := fun i => .invokevirtual i) (qconsV (qrunV M_X11_ready (by decide) (by decide) (by decide) rfl tw_606 tw_607 tw_608 tw_609 tw_78 ⟨by decide, by decide⟩ (by decide +kernel)) qnilV) dL_law_543)) ?_
  refine qconsS (qOkS_of (qk_aload_n dL_law_546 rfl)) ?_
  refine qconsS (qOkS_of (qk_aload_n dL_law_547 rfl)) ?_
  refine qconsS (qOkS_of (qk_iload_n dL_law_548 rfl)) ?_
  refine qconsS (qOkS_of (qk_iconst dL_law_549 (by decide))) ?_
  refine qconsS (qOkS_of (qk_iadd dL_law_550)) ?_
  refine qconsS (qk_sld hL dL_law_551) ?_
  refine qconsS (qOkS_of (qk_callv (ins := fun i => .invokevirtual i) (qconsV (qrunV M_X12_ready (by decide) (by decide) (by decide) rfl tw_1275 tw_1276 tw_1277 tw_1278 tw_90 ⟨by decide, by decide⟩ (by decide +kernel)) qnilV) dL_law_552)) ?_
  refine qconsS (qOkS_of (qk_iceq dL_law_555 (by decide))) ?_
  refine qconsS (qOkS_of (qk_iconst dL_law_558 (by decide))) ?_
  refine qconsS (qOkS_of (qk_ret dL_law_559 (Or.inr (Or.inl ⟨rfl, rfl⟩)))) ?_
  refine qconsS (qOkS_of (qk_aload_n dL_law_560 rfl)) ?_
  refine qconsS (qOkS_of (qk_aload_n dL_law_561 rfl)) ?_
  refine qconsS (qOkS_of (qk_iload_n dL_law_562 rfl)) ?_
  refine qconsS (qOkS_of (qk_iconst dL_law_563 (by decide))) ?_
  refine qconsS (qOkS_of (qk_iadd dL_law_564)) ?_
  refine qconsS (qk_sld hL dL_law_565) ?_
  refine qconsS (qOkS_of (qk_callv (ins := fun i => .invokevirtual i) (qconsV (qrunV M_X11_best (by decide) (by decide) (by decide) rfl tw_610 tw_611 tw_612 tw_613 tw_78 ⟨by decide, by decide⟩ (by decide +kernel)) qnilV) dL_law_566)) ?_
  refine qconsS (qOkS_of (qk_aload_n dL_law_569 rfl)) ?_
  refine qconsS (qOkS_of (qk_aload_n dL_law_570 rfl)) ?_
  refine qconsS (qOkS_of (qk_iload_n dL_law_571 rfl)) ?_
  refine qconsS (qOkS_of (qk_iconst dL_law_572 (by decide))) ?_
  refine qconsS (qOkS_of (qk_iadd dL_law_573)) ?_
  refine qconsS (qk_sld hL dL_law_574) ?_
  refine qconsS (qOkS_of (qk_callv (ins := fun i => .invokevirtual i) (qconsV (qrunV M_X12_best (by decide) (by decide) (by decide) rfl tw_1279 tw_1280 tw_1281 tw_1282 tw_90 ⟨by decide, by decide⟩ (by decide +kernel)) qnilV) dL_law_575)) ?_
  refine qconsS (qOkS_of (qk_iceq dL_law_578 (by decide))) ?_
  refine qconsS (qOkS_of (qk_iconst dL_law_581 (by decide))) ?_
  refine qconsS (qOkS_of (qk_ret dL_law_582 (Or.inr (Or.inl ⟨rfl, rfl⟩)))) ?_
  refine qconsS (qOkS_of (qk_aload_n dL_law_583 rfl)) ?_
  refine qconsS (qOkS_of (qk_aload_n dL_law_584 rfl)) ?_
  refine qconsS (qOkS_of (qk_iload_n dL_law_585 rfl)) ?_
  refine qconsS (qOkS_of (qk_iconst dL_law_586 (by decide))) ?_
  refine qconsS (qOkS_of (qk_iadd dL_law_587)) ?_
  refine qconsS (qk_sld hL dL_law_588) ?_
  refine qconsS (qOkS_of (qk_aload_n dL_law_589 rfl)) ?_
  refine qconsS (qOkS_of (qk_iload_n dL_law_590 rfl)) ?_
  refine qconsS (qOkS_of (qk_iconst dL_law_591 (by decide))) ?_
  refine qconsS (qOkS_of (qk_iadd dL_law_592)) ?_
  refine qconsS (qk_sld hL dL_law_593) ?_
  refine qconsS (qOkS_of (qk_callv (ins := fun i => .invokevirtual i) (qconsV (qrunV M_X11_when (by decide) (by decide) (by decide) rfl tw_638 tw_639 tw_640 tw_641 tw_78 ⟨by decide, by decide⟩ (by decide +kernel)) qnilV) dL_law_594)) ?_
  refine qconsS (qOkS_of (qk_aload_n dL_law_597 rfl)) ?_
  refine qconsS (qOkS_of (qk_aload_n dL_law_598 rfl)) ?_
  refine qconsS (qOkS_of (qk_iload_n dL_law_599 rfl)) ?_
  refine qconsS (qOkS_of (qk_iconst dL_law_600 (by decide))) ?_
  refine qconsS (qOkS_of (qk_iadd dL_law_601)) ?_
  refine qconsS (qk_sld hL dL_law_602) ?_
  refine qconsS (qOkS_of (qk_aload_n dL_law_603 rfl)) ?_
  refine qconsS (qOkS_of (qk_iload_n dL_law_604 rfl)) ?_
  refine qconsS (qOkS_of (qk_iconst dL_law_605 (by decide))) ?_
  refine qconsS (qOkS_of (qk_iadd dL_law_606)) ?_
  refine qconsS (qk_sld hL dL_law_607) ?_
  refine qconsS (qOkS_of (qk_callv (ins := fun i => .invokevirtual i) (qconsV (qrunV M_X12_when (by decide) (by decide) (by decide) rfl tw_1311 tw_1312 tw_1313 tw_1314 tw_90 ⟨by decide, by decide⟩ (by decide +kernel)) qnilV) dL_law_608)) ?_
  refine qconsS (qOkS_of (qk_iceq dL_law_611 (by decide))) ?_
  refine qconsS (qOkS_of (qk_iconst dL_law_614 (by decide))) ?_
  refine qconsS (qOkS_of (qk_ret dL_law_615 (Or.inr (Or.inl ⟨rfl, rfl⟩)))) ?_
  refine qconsS (qOkS_of (qk_aload_n dL_law_616 rfl)) ?_
  refine qconsS (qOkS_of (qk_aload_n dL_law_617 rfl)) ?_
  refine qconsS (qOkS_of (qk_iload_n dL_law_618 rfl)) ?_
  refine qconsS (qOkS_of (qk_iconst dL_law_619 (by decide))) ?_
  refine qconsS (qOkS_of (qk_iadd dL_law_620)) ?_
  refine qconsS (qk_sld hL dL_law_621) ?_
  refine qconsS (qOkS_of (qk_callv (ins := fun i => .invokevirtual i) (qconsV (qrunV M_X11_without (by decide) (by decide) (by decide) rfl tw_642 tw_643 tw_644 tw_645 tw_78 ⟨by decide, by decide⟩ (by decide +kernel)) qnilV) dL_law_622)) ?_
  refine qconsS (qOkS_of (qk_aload_n dL_law_625 rfl)) ?_
  refine qconsS (qOkS_of (qk_aload_n dL_law_626 rfl)) ?_
  refine qconsS (qOkS_of (qk_iload_n dL_law_627 rfl)) ?_
  refine qconsS (qOkS_of (qk_iconst dL_law_628 (by decide))) ?_
  refine qconsS (qOkS_of (qk_iadd dL_law_629)) ?_
  refine qconsS (qk_sld hL dL_law_630) ?_
  refine qconsS (qOkS_of (qk_callv (ins := fun i => .invokevirtual i) (qconsV (qrunV M_X12_without (by decide) (by decide) (by decide) rfl tw_1315 tw_1308 tw_1309 tw_1310 tw_90 ⟨by decide, by decide⟩ (by decide +kernel)) qnilV) dL_law_631)) ?_
  refine qconsS (qOkS_of (qk_iceq dL_law_634 (by decide))) ?_
  refine qconsS (qOkS_of (qk_iconst dL_law_637 (by decide))) ?_
  refine qconsS (qOkS_of (qk_ret dL_law_638 (Or.inr (Or.inl ⟨rfl, rfl⟩)))) ?_
  refine qconsS (qOkS_of (qk_aload_n dL_law_639 rfl)) ?_
  exact qnilS
