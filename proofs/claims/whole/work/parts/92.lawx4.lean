theorem dL_law_640 : decode cL_law 640 = .ok (.aload_n 0, 1) := by decide +kernel
theorem dL_law_641 : decode cL_law 641 = .ok (.iload_n 3, 1) := by decide +kernel
theorem dL_law_642 : decode cL_law 642 = .ok (.iconst 1, 1) := by decide +kernel
theorem dL_law_643 : decode cL_law 643 = .ok (.iadd, 1) := by decide +kernel
theorem dL_law_644 : decode cL_law 644 = .ok (.iaload, 1) := by decide +kernel
theorem dL_law_645 : decode cL_law 645 = .ok (.aload_n 0, 1) := by decide +kernel
theorem dL_law_646 : decode cL_law 646 = .ok (.iload_n 3, 1) := by decide +kernel
theorem dL_law_647 : decode cL_law 647 = .ok (.iconst 2, 1) := by decide +kernel
theorem dL_law_648 : decode cL_law 648 = .ok (.iadd, 1) := by decide +kernel
theorem dL_law_649 : decode cL_law 649 = .ok (.iaload, 1) := by decide +kernel
theorem dL_law_650 : decode cL_law 650 = .ok (.aload_n 0, 1) := by decide +kernel
theorem dL_law_651 : decode cL_law 651 = .ok (.iload_n 3, 1) := by decide +kernel
theorem dL_law_652 : decode cL_law 652 = .ok (.iconst 3, 1) := by decide +kernel
theorem dL_law_653 : decode cL_law 653 = .ok (.iadd, 1) := by decide +kernel
theorem dL_law_654 : decode cL_law 654 = .ok (.iaload, 1) := by decide +kernel
theorem dL_law_655 : decode cL_law 655 = .ok (.invokevirtual 78, 3) := by decide +kernel
theorem dL_law_658 : decode cL_law 658 = .ok (.aload_n 2, 1) := by decide +kernel
theorem dL_law_659 : decode cL_law 659 = .ok (.aload_n 0, 1) := by decide +kernel
theorem dL_law_660 : decode cL_law 660 = .ok (.iload_n 3, 1) := by decide +kernel
theorem dL_law_661 : decode cL_law 661 = .ok (.iconst 1, 1) := by decide +kernel
theorem dL_law_662 : decode cL_law 662 = .ok (.iadd, 1) := by decide +kernel
theorem dL_law_663 : decode cL_law 663 = .ok (.iaload, 1) := by decide +kernel
theorem dL_law_664 : decode cL_law 664 = .ok (.aload_n 0, 1) := by decide +kernel
theorem dL_law_665 : decode cL_law 665 = .ok (.iload_n 3, 1) := by decide +kernel
theorem dL_law_666 : decode cL_law 666 = .ok (.iconst 2, 1) := by decide +kernel
theorem dL_law_667 : decode cL_law 667 = .ok (.iadd, 1) := by decide +kernel
theorem dL_law_668 : decode cL_law 668 = .ok (.iaload, 1) := by decide +kernel
theorem dL_law_669 : decode cL_law 669 = .ok (.aload_n 0, 1) := by decide +kernel
theorem dL_law_670 : decode cL_law 670 = .ok (.iload_n 3, 1) := by decide +kernel
theorem dL_law_671 : decode cL_law 671 = .ok (.iconst 3, 1) := by decide +kernel
theorem dL_law_672 : decode cL_law 672 = .ok (.iadd, 1) := by decide +kernel
theorem dL_law_673 : decode cL_law 673 = .ok (.iaload, 1) := by decide +kernel
theorem dL_law_674 : decode cL_law 674 = .ok (.invokevirtual 81, 3) := by decide +kernel
theorem dL_law_677 : decode cL_law 677 = .ok (.if_icmp .eq 645, 3) := by decide +kernel
theorem dL_law_680 : decode cL_law 680 = .ok (.iconst 0, 1) := by decide +kernel
theorem dL_law_681 : decode cL_law 681 = .ok (.ireturn, 1) := by decide +kernel
theorem dL_law_682 : decode cL_law 682 = .ok (.aload_n 1, 1) := by decide +kernel
theorem dL_law_683 : decode cL_law 683 = .ok (.aload_n 0, 1) := by decide +kernel
theorem dL_law_684 : decode cL_law 684 = .ok (.iload_n 3, 1) := by decide +kernel
theorem dL_law_685 : decode cL_law 685 = .ok (.iconst 1, 1) := by decide +kernel
theorem dL_law_686 : decode cL_law 686 = .ok (.iadd, 1) := by decide +kernel
theorem dL_law_687 : decode cL_law 687 = .ok (.iaload, 1) := by decide +kernel
theorem dL_law_688 : decode cL_law 688 = .ok (.aload_n 0, 1) := by decide +kernel
theorem dL_law_689 : decode cL_law 689 = .ok (.iload_n 3, 1) := by decide +kernel
theorem dL_law_690 : decode cL_law 690 = .ok (.iconst 2, 1) := by decide +kernel
theorem dL_law_691 : decode cL_law 691 = .ok (.iadd, 1) := by decide +kernel
theorem dL_law_692 : decode cL_law 692 = .ok (.iaload, 1) := by decide +kernel
theorem dL_law_693 : decode cL_law 693 = .ok (.invokevirtual 82, 3) := by decide +kernel
theorem dL_law_696 : decode cL_law 696 = .ok (.aload_n 2, 1) := by decide +kernel
theorem dL_law_697 : decode cL_law 697 = .ok (.aload_n 0, 1) := by decide +kernel
theorem dL_law_698 : decode cL_law 698 = .ok (.iload_n 3, 1) := by decide +kernel
theorem dL_law_699 : decode cL_law 699 = .ok (.iconst 1, 1) := by decide +kernel
theorem dL_law_700 : decode cL_law 700 = .ok (.iadd, 1) := by decide +kernel
theorem dL_law_701 : decode cL_law 701 = .ok (.iaload, 1) := by decide +kernel
theorem dL_law_702 : decode cL_law 702 = .ok (.aload_n 0, 1) := by decide +kernel
theorem dL_law_703 : decode cL_law 703 = .ok (.iload_n 3, 1) := by decide +kernel
theorem dL_law_704 : decode cL_law 704 = .ok (.iconst 2, 1) := by decide +kernel
theorem dL_law_705 : decode cL_law 705 = .ok (.iadd, 1) := by decide +kernel
theorem dL_law_706 : decode cL_law 706 = .ok (.iaload, 1) := by decide +kernel
theorem dL_law_707 : decode cL_law 707 = .ok (.invokevirtual 85, 3) := by decide +kernel
theorem dL_law_710 : decode cL_law 710 = .ok (.if_icmp .eq 612, 3) := by decide +kernel
theorem dL_law_713 : decode cL_law 713 = .ok (.iconst 0, 1) := by decide +kernel
theorem dL_law_714 : decode cL_law 714 = .ok (.ireturn, 1) := by decide +kernel
theorem dL_law_715 : decode cL_law 715 = .ok (.aload_n 1, 1) := by decide +kernel
theorem dL_law_716 : decode cL_law 716 = .ok (.aload_n 0, 1) := by decide +kernel
theorem dL_law_717 : decode cL_law 717 = .ok (.iload_n 3, 1) := by decide +kernel
theorem dL_law_718 : decode cL_law 718 = .ok (.iconst 1, 1) := by decide +kernel
theorem dL_law_719 : decode cL_law 719 = .ok (.iadd, 1) := by decide +kernel
theorem dL_law_720 : decode cL_law 720 = .ok (.iaload, 1) := by decide +kernel
theorem dL_law_721 : decode cL_law 721 = .ok (.aload_n 0, 1) := by decide +kernel
theorem dL_law_722 : decode cL_law 722 = .ok (.iload_n 3, 1) := by decide +kernel
theorem dL_law_723 : decode cL_law 723 = .ok (.iconst 2, 1) := by decide +kernel
theorem dL_law_724 : decode cL_law 724 = .ok (.iadd, 1) := by decide +kernel
theorem dL_law_725 : decode cL_law 725 = .ok (.iaload, 1) := by decide +kernel
theorem dL_law_726 : decode cL_law 726 = .ok (.invokevirtual 86, 3) := by decide +kernel
theorem dL_law_729 : decode cL_law 729 = .ok (.aload_n 2, 1) := by decide +kernel
theorem dL_law_730 : decode cL_law 730 = .ok (.aload_n 0, 1) := by decide +kernel
theorem dL_law_731 : decode cL_law 731 = .ok (.iload_n 3, 1) := by decide +kernel
theorem dL_law_732 : decode cL_law 732 = .ok (.iconst 1, 1) := by decide +kernel
theorem dL_law_733 : decode cL_law 733 = .ok (.iadd, 1) := by decide +kernel
theorem dL_law_734 : decode cL_law 734 = .ok (.iaload, 1) := by decide +kernel
theorem dL_law_735 : decode cL_law 735 = .ok (.aload_n 0, 1) := by decide +kernel
theorem dL_law_736 : decode cL_law 736 = .ok (.iload_n 3, 1) := by decide +kernel
theorem dL_law_737 : decode cL_law 737 = .ok (.iconst 2, 1) := by decide +kernel
theorem dL_law_738 : decode cL_law 738 = .ok (.iadd, 1) := by decide +kernel
theorem dL_law_739 : decode cL_law 739 = .ok (.iaload, 1) := by decide +kernel
theorem dL_law_740 : decode cL_law 740 = .ok (.invokevirtual 89, 3) := by decide +kernel
theorem dL_law_743 : decode cL_law 743 = .ok (.if_icmp .eq 579, 3) := by decide +kernel
theorem dL_law_746 : decode cL_law 746 = .ok (.iconst 0, 1) := by decide +kernel
theorem dL_law_747 : decode cL_law 747 = .ok (.ireturn, 1) := by decide +kernel
theorem dL_law_748 : decode cL_law 748 = .ok (.aload_n 1, 1) := by decide +kernel
theorem dL_law_749 : decode cL_law 749 = .ok (.aload_n 0, 1) := by decide +kernel
theorem dL_law_750 : decode cL_law 750 = .ok (.iload_n 3, 1) := by decide +kernel
theorem dL_law_751 : decode cL_law 751 = .ok (.iconst 1, 1) := by decide +kernel
noncomputable def CL_4 (L : Nat) (xs : Nat → Int32) : List (Nat × qOp) := [(640, qo_aload 0 1),
  (641, qo_iload 3 1),
  (642, qo_ci 1 1),
  (643, qo_iadd),
  (644, qo_sld L xs),
  (645, qo_aload 0 1),
  (646, qo_iload 3 1),
  (647, qo_ci 2 1),
  (648, qo_iadd),
  (649, qo_sld L xs),
  (650, qo_aload 0 1),
  (651, qo_iload 3 1),
  (652, qo_ci 3 1),
  (653, qo_iadd),
  (654, qo_sld L xs),
  (655, qo_callv [(11, S_X11_see)] 3),
  (658, qo_aload 2 1),
  (659, qo_aload 0 1),
  (660, qo_iload 3 1),
  (661, qo_ci 1 1),
  (662, qo_iadd),
  (663, qo_sld L xs),
  (664, qo_aload 0 1),
  (665, qo_iload 3 1),
  (666, qo_ci 2 1),
  (667, qo_iadd),
  (668, qo_sld L xs),
  (669, qo_aload 0 1),
  (670, qo_iload 3 1),
  (671, qo_ci 3 1),
  (672, qo_iadd),
  (673, qo_sld L xs),
  (674, qo_callv [(12, S_X12_see)] 3),
  (677, qo_iceq 1322),
  (680, qo_ci 0 1),
  (681, qo_ret (some .boolean) 1),
  (682, qo_aload 1 1),
  (683, qo_aload 0 1),
  (684, qo_iload 3 1),
  (685, qo_ci 1 1),
  (686, qo_iadd),
  (687, qo_sld L xs),
  (688, qo_aload 0 1),
  (689, qo_iload 3 1),
  (690, qo_ci 2 1),
  (691, qo_iadd),
  (692, qo_sld L xs),
  (693, qo_callv [(11, S_X11_were)] 2),
  (696, qo_aload 2 1),
  (697, qo_aload 0 1),
  (698, qo_iload 3 1),
  (699, qo_ci 1 1),
  (700, qo_iadd),
  (701, qo_sld L xs),
  (702, qo_aload 0 1),
  (703, qo_iload 3 1),
  (704, qo_ci 2 1),
  (705, qo_iadd),
  (706, qo_sld L xs),
  (707, qo_callv [(12, S_X12_were)] 2),
  (710, qo_iceq 1322),
  (713, qo_ci 0 1),
  (714, qo_ret (some .boolean) 1),
  (715, qo_aload 1 1),
  (716, qo_aload 0 1),
  (717, qo_iload 3 1),
  (718, qo_ci 1 1),
  (719, qo_iadd),
  (720, qo_sld L xs),
  (721, qo_aload 0 1),
  (722, qo_iload 3 1),
  (723, qo_ci 2 1),
  (724, qo_iadd),
  (725, qo_sld L xs),
  (726, qo_callv [(11, S_X11_can)] 2),
  (729, qo_aload 2 1),
  (730, qo_aload 0 1),
  (731, qo_iload 3 1),
  (732, qo_ci 1 1),
  (733, qo_iadd),
  (734, qo_sld L xs),
  (735, qo_aload 0 1),
  (736, qo_iload 3 1),
  (737, qo_ci 2 1),
  (738, qo_iadd),
  (739, qo_sld L xs),
  (740, qo_callv [(12, S_X12_can)] 2),
  (743, qo_iceq 1322),
  (746, qo_ci 0 1),
  (747, qo_ret (some .boolean) 1),
  (748, qo_aload 1 1),
  (749, qo_aload 0 1),
  (750, qo_iload 3 1),
  (751, qo_ci 1 1)]
set_option maxRecDepth 20000 in
theorem KL_4 {X : qX} {l : Launch} {b L : Nat} {xs : Nat → Int32} {nm : String} (hL : L ≤ 3072) : ∀ q ∈ CL_4 L xs, qOkS X l b L xs 31 cL_law 4 RL nm (some .boolean) q.1 q.2 := by
  unfold CL_4
  refine qconsS (qOkS_of (qk_aload_n dL_law_640 rfl)) ?_
  refine qconsS (qOkS_of (qk_iload_n dL_law_641 rfl)) ?_
  refine qconsS (qOkS_of (qk_iconst dL_law_642 (by decide))) ?_
  refine qconsS (qOkS_of (qk_iadd dL_law_643)) ?_
  refine qconsS (qk_sld hL dL_law_644) ?_
  refine qconsS (qOkS_of (qk_aload_n dL_law_645 rfl)) ?_
  refine qconsS (qOkS_of (qk_iload_n dL_law_646 rfl)) ?_
  refine qconsS (qOkS_of (qk_iconst dL_law_647 (by decide))) ?_
  refine qconsS (qOkS_of (qk_iadd dL_law_648)) ?_
  refine qconsS (qk_sld hL dL_law_649) ?_
  refine qconsS (qOkS_of (qk_aload_n dL_law_650 rfl)) ?_
  refine qconsS (qOkS_of (qk_iload_n dL_law_651 rfl)) ?_
  refine qconsS (qOkS_of (qk_iconst dL_law_652 (by decide))) ?_
  refine qconsS (qOkS_of (qk_iadd dL_law_653)) ?_
  refine qconsS (qk_sld hL dL_law_654) ?_
  refine qconsS (qOkS_of (qk_callv (ins := fun i => .invokevirtual i) (qconsV (qrunV M_X11_see (by decide) (by decide) (by decide) rfl tw_646 tw_647 tw_648 tw_649 tw_78 ⟨by decide, by decide⟩ (by decide +kernel)) qnilV) dL_law_655)) ?_
  refine qconsS (qOkS_of (qk_aload_n dL_law_658 rfl)) ?_
  refine qconsS (qOkS_of (qk_aload_n dL_law_659 rfl)) ?_
  refine qconsS (qOkS_of (qk_iload_n dL_law_660 rfl)) ?_
  refine qconsS (qOkS_of (qk_iconst dL_law_661 (by decide))) ?_
  refine qconsS (qOkS_of (qk_iadd dL_law_662)) ?_
  refine qconsS (qk_sld hL dL_law_663) ?_
  refine qconsS (qOkS_of (qk_aload_n dL_law_664 rfl)) ?_
  refine qconsS (qOkS_of (qk_iload_n dL_law_665 rfl)) ?_
  refine qconsS (qOkS_of (qk_iconst dL_law_666 (by decide))) ?_
  refine qconsS (qOkS_of (qk_iadd dL_law_667)) ?_
  refine qconsS (qk_sld hL dL_law_668) ?_
  refine qconsS (qOkS_of (qk_aload_n dL_law_669 rfl)) ?_
  refine qconsS (qOkS_of (qk_iload_n dL_law_670 rfl)) ?_
  refine qconsS (qOkS_of (qk_iconst dL_law_671 (by decide))) ?_
  refine qconsS (qOkS_of (qk_iadd dL_law_672)) ?_
  refine qconsS (qk_sld hL dL_law_673) ?_
  refine qconsS (qOkS_of (qk_callv (ins := fun i => .invokevirtual i) (qconsV (qrunV M_X12_see (by decide) (by decide) (by decide) rfl tw_1316 tw_1317 tw_1318 tw_1319 tw_90 ⟨by decide, by decide⟩ (by decide +kernel)) qnilV) dL_law_674)) ?_
  refine qconsS (qOkS_of (qk_iceq dL_law_677 (by decide))) ?_
  refine qconsS (qOkS_of (qk_iconst dL_law_680 (by decide))) ?_
  refine qconsS (qOkS_of (qk_ret dL_law_681 (Or.inr (Or.inl ⟨rfl, rfl⟩)))) ?_
  refine qconsS (qOkS_of (qk_aload_n dL_law_682 rfl)) ?_
  refine qconsS (qOkS_of (qk_aload_n dL_law_683 rfl)) ?_
  refine qconsS (qOkS_of (qk_iload_n dL_law_684 rfl)) ?_
  refine qconsS (qOkS_of (qk_iconst dL_law_685 (by decide))) ?_
  refine qconsS (qOkS_of (qk_iadd dL_law_686)) ?_
  refine qconsS (qk_sld hL dL_law_687) ?_
  refine qconsS (qOkS_of (qk_aload_n dL_law_688 rfl)) ?_
  refine qconsS (qOkS_of (qk_iload_n dL_law_689 rfl)) ?_
  refine qconsS (qOkS_of (qk_iconst dL_law_690 (by decide))) ?_
  refine qconsS (qOkS_of (qk_iadd dL_law_691)) ?_
  refine qconsS (qk_sld hL dL_law_692) ?_
  refine qconsS (qOkS_of (qk_callv (ins := fun i => .invokevirtual i) (qconsV (qrunV M_X11_were (by decide) (by decide) (by decide) rfl tw_654 tw_655 tw_656 tw_657 tw_78 ⟨by decide, by decide⟩ (by decide +kernel)) qnilV) dL_law_693)) ?_
  refine qconsS (qOkS_of (qk_aload_n dL_law_696 rfl)) ?_
  refine qconsS (qOkS_of (qk_aload_n dL_law_697 rfl)) ?_
  refine qconsS (qOkS_of (qk_iload_n dL_law_698 rfl)) ?_
  refine qconsS (qOkS_of (qk_iconst dL_law_699 (by decide))) ?_
  refine qconsS (qOkS_of (qk_iadd dL_law_700)) ?_
  refine qconsS (qk_sld hL dL_law_701) ?_
  refine qconsS (qOkS_of (qk_aload_n dL_law_702 rfl)) ?_
  refine qconsS (qOkS_of (qk_iload_n dL_law_703 rfl)) ?_
  refine qconsS (qOkS_of (qk_iconst dL_law_704 (by decide))) ?_
  refine qconsS (qOkS_of (qk_iadd dL_law_705)) ?_
  refine qconsS (qk_sld hL dL_law_706) ?_
  refine qconsS (qOkS_of (qk_callv (ins := fun i => .invokevirtual i) (qconsV (qrunV M_X12_were (by decide) (by decide) (by decide) rfl tw_1320 tw_1321 tw_1322 tw_1323 tw_90 ⟨by decide, by decide⟩ (by decide +kernel)) qnilV) dL_law_707)) ?_
  refine qconsS (qOkS_of (qk_iceq dL_law_710 (by decide))) ?_
  refine qconsS (qOkS_of (qk_iconst dL_law_713 (by decide))) ?_
  refine qconsS (qOkS_of (qk_ret dL_law_714 (Or.inr (Or.inl ⟨rfl, rfl⟩)))) ?_
  refine qconsS (qOkS_of (qk_aload_n dL_law_715 rfl)) ?_
  refine qconsS (qOkS_of (qk_aload_n dL_law_716 rfl)) ?_
  refine qconsS (qOkS_of (qk_iload_n dL_law_717 rfl)) ?_
  refine qconsS (qOkS_of (qk_iconst dL_law_718 (by decide))) ?_
  refine qconsS (qOkS_of (qk_iadd dL_law_719)) ?_
  refine qconsS (qk_sld hL dL_law_720) ?_
  refine qconsS (qOkS_of (qk_aload_n dL_law_721 rfl)) ?_
  refine qconsS (qOkS_of (qk_iload_n dL_law_722 rfl)) ?_
  refine qconsS (qOkS_of (qk_iconst dL_law_723 (by decide))) ?_
  refine qconsS (qOkS_of (qk_iadd dL_law_724)) ?_
  refine qconsS (qk_sld hL dL_law_725) ?_
  refine qconsS (qOkS_of (qk_callv (ins := fun i => .invokevirtual i) (qconsV (qrunV M_X11_can (by decide) (by decide) (by decide) rfl tw_671 tw_672 tw_673 tw_674 tw_78 ⟨by decide, by decide⟩ (by decide +kernel)) qnilV) dL_law_726)) ?_
  refine qconsS (qOkS_of (qk_aload_n dL_law_729 rfl)) ?_
  refine qconsS (qOkS_of (qk_aload_n dL_law_730 rfl)) ?_
  refine qconsS (qOkS_of (qk_iload_n dL_law_731 rfl)) ?_
  refine qconsS (qOkS_of (qk_iconst dL_law_732 (by decide))) ?_
  refine qconsS (qOkS_of (qk_iadd dL_law_733)) ?_
  refine qconsS (qk_sld hL dL_law_734) ?_
  refine qconsS (qOkS_of (qk_aload_n dL_law_735 rfl)) ?_
  refine qconsS (qOkS_of (qk_iload_n dL_law_736 rfl)) ?_
  refine qconsS (qOkS_of (qk_iconst dL_law_737 (by decide))) ?_
  refine qconsS (qOkS_of (qk_iadd dL_law_738)) ?_
  refine qconsS (qk_sld hL dL_law_739) ?_
  refine qconsS (qOkS_of (qk_callv (ins := fun i => .invokevirtual i) (qconsV (qrunV M_X12_can (by decide) (by decide) (by decide) rfl tw_1328 tw_1329 tw_1330 tw_1331 tw_90 ⟨by decide, by decide⟩ (by decide +kernel)) qnilV) dL_law_740)) ?_
  refine qconsS (qOkS_of (qk_iceq dL_law_743 (by decide))) ?_
  refine qconsS (qOkS_of (qk_iconst dL_law_746 (by decide))) ?_
  refine qconsS (qOkS_of (qk_ret dL_law_747 (Or.inr (Or.inl ⟨rfl, rfl⟩)))) ?_
  refine qconsS (qOkS_of (qk_aload_n dL_law_748 rfl)) ?_
  refine qconsS (qOkS_of (qk_aload_n dL_law_749 rfl)) ?_
  refine qconsS (qOkS_of (qk_iload_n dL_law_750 rfl)) ?_
  refine qconsS (qOkS_of (qk_iconst dL_law_751 (by decide))) ?_
  exact qnilS
