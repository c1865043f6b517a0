theorem dL_law_752 : decode cL_law 752 = .ok (.iadd, 1) := by decide +kernel
theorem dL_law_753 : decode cL_law 753 = .ok (.iaload, 1) := by decide +kernel
theorem dL_law_754 : decode cL_law 754 = .ok (.aload_n 0, 1) := by decide +kernel
theorem dL_law_755 : decode cL_law 755 = .ok (.iload_n 3, 1) := by decide +kernel
theorem dL_law_756 : decode cL_law 756 = .ok (.iconst 2, 1) := by decide +kernel
theorem dL_law_757 : decode cL_law 757 = .ok (.iadd, 1) := by decide +kernel
theorem dL_law_758 : decode cL_law 758 = .ok (.iaload, 1) := by decide +kernel
theorem dL_law_759 : decode cL_law 759 = .ok (.aload_n 0, 1) := by decide +kernel
theorem dL_law_760 : decode cL_law 760 = .ok (.iload_n 3, 1) := by decide +kernel
theorem dL_law_761 : decode cL_law 761 = .ok (.iconst 3, 1) := by decide +kernel
theorem dL_law_762 : decode cL_law 762 = .ok (.iadd, 1) := by decide +kernel
theorem dL_law_763 : decode cL_law 763 = .ok (.iaload, 1) := by decide +kernel
theorem dL_law_764 : decode cL_law 764 = .ok (.invokevirtual 90, 3) := by decide +kernel
theorem dL_law_767 : decode cL_law 767 = .ok (.aload_n 2, 1) := by decide +kernel
theorem dL_law_768 : decode cL_law 768 = .ok (.aload_n 0, 1) := by decide +kernel
theorem dL_law_769 : decode cL_law 769 = .ok (.iload_n 3, 1) := by decide +kernel
theorem dL_law_770 : decode cL_law 770 = .ok (.iconst 1, 1) := by decide +kernel
theorem dL_law_771 : decode cL_law 771 = .ok (.iadd, 1) := by decide +kernel
theorem dL_law_772 : decode cL_law 772 = .ok (.iaload, 1) := by decide +kernel
theorem dL_law_773 : decode cL_law 773 = .ok (.aload_n 0, 1) := by decide +kernel
theorem dL_law_774 : decode cL_law 774 = .ok (.iload_n 3, 1) := by decide +kernel
theorem dL_law_775 : decode cL_law 775 = .ok (.iconst 2, 1) := by decide +kernel
theorem dL_law_776 : decode cL_law 776 = .ok (.iadd, 1) := by decide +kernel
theorem dL_law_777 : decode cL_law 777 = .ok (.iaload, 1) := by decide +kernel
theorem dL_law_778 : decode cL_law 778 = .ok (.aload_n 0, 1) := by decide +kernel
theorem dL_law_779 : decode cL_law 779 = .ok (.iload_n 3, 1) := by decide +kernel
theorem dL_law_780 : decode cL_law 780 = .ok (.iconst 3, 1) := by decide +kernel
theorem dL_law_781 : decode cL_law 781 = .ok (.iadd, 1) := by decide +kernel
theorem dL_law_782 : decode cL_law 782 = .ok (.iaload, 1) := by decide +kernel
theorem dL_law_783 : decode cL_law 783 = .ok (.invokevirtual 94, 3) := by decide +kernel
theorem dL_law_786 : decode cL_law 786 = .ok (.lcmp, 1) := by decide +kernel
theorem dL_law_787 : decode cL_law 787 = .ok (.ifCond .eq 535, 3) := by decide +kernel
theorem dL_law_790 : decode cL_law 790 = .ok (.iconst 0, 1) := by decide +kernel
theorem dL_law_791 : decode cL_law 791 = .ok (.ireturn, 1) := by decide +kernel
theorem dL_law_792 : decode cL_law 792 = .ok (.aload_n 1, 1) := by decide +kernel
theorem dL_law_793 : decode cL_law 793 = .ok (.aload_n 0, 1) := by decide +kernel
theorem dL_law_794 : decode cL_law 794 = .ok (.iload_n 3, 1) := by decide +kernel
theorem dL_law_795 : decode cL_law 795 = .ok (.iconst 1, 1) := by decide +kernel
theorem dL_law_796 : decode cL_law 796 = .ok (.iadd, 1) := by decide +kernel
theorem dL_law_797 : decode cL_law 797 = .ok (.iaload, 1) := by decide +kernel
theorem dL_law_798 : decode cL_law 798 = .ok (.aload_n 0, 1) := by decide +kernel
theorem dL_law_799 : decode cL_law 799 = .ok (.iload_n 3, 1) := by decide +kernel
theorem dL_law_800 : decode cL_law 800 = .ok (.iconst 2, 1) := by decide +kernel
theorem dL_law_801 : decode cL_law 801 = .ok (.iadd, 1) := by decide +kernel
theorem dL_law_802 : decode cL_law 802 = .ok (.iaload, 1) := by decide +kernel
theorem dL_law_803 : decode cL_law 803 = .ok (.invokevirtual 95, 3) := by decide +kernel
theorem dL_law_806 : decode cL_law 806 = .ok (.aload_n 2, 1) := by decide +kernel
theorem dL_law_807 : decode cL_law 807 = .ok (.aload_n 0, 1) := by decide +kernel
theorem dL_law_808 : decode cL_law 808 = .ok (.iload_n 3, 1) := by decide +kernel
theorem dL_law_809 : decode cL_law 809 = .ok (.iconst 1, 1) := by decide +kernel
theorem dL_law_810 : decode cL_law 810 = .ok (.iadd, 1) := by decide +kernel
theorem dL_law_811 : decode cL_law 811 = .ok (.iaload, 1) := by decide +kernel
theorem dL_law_812 : decode cL_law 812 = .ok (.aload_n 0, 1) := by decide +kernel
theorem dL_law_813 : decode cL_law 813 = .ok (.iload_n 3, 1) := by decide +kernel
theorem dL_law_814 : decode cL_law 814 = .ok (.iconst 2, 1) := by decide +kernel
theorem dL_law_815 : decode cL_law 815 = .ok (.iadd, 1) := by decide +kernel
theorem dL_law_816 : decode cL_law 816 = .ok (.iaload, 1) := by decide +kernel
theorem dL_law_817 : decode cL_law 817 = .ok (.invokevirtual 99, 3) := by decide +kernel
theorem dL_law_820 : decode cL_law 820 = .ok (.lcmp, 1) := by decide +kernel
theorem dL_law_821 : decode cL_law 821 = .ok (.ifCond .eq 501, 3) := by decide +kernel
theorem dL_law_824 : decode cL_law 824 = .ok (.iconst 0, 1) := by decide +kernel
theorem dL_law_825 : decode cL_law 825 = .ok (.ireturn, 1) := by decide +kernel
theorem dL_law_826 : decode cL_law 826 = .ok (.aload_n 1, 1) := by decide +kernel
theorem dL_law_827 : decode cL_law 827 = .ok (.aload_n 0, 1) := by decide +kernel
theorem dL_law_828 : decode cL_law 828 = .ok (.iload_n 3, 1) := by decide +kernel
theorem dL_law_829 : decode cL_law 829 = .ok (.iconst 1, 1) := by decide +kernel
theorem dL_law_830 : decode cL_law 830 = .ok (.iadd, 1) := by decide +kernel
theorem dL_law_831 : decode cL_law 831 = .ok (.iaload, 1) := by decide +kernel
theorem dL_law_832 : decode cL_law 832 = .ok (.aload_n 0, 1) := by decide +kernel
theorem dL_law_833 : decode cL_law 833 = .ok (.iload_n 3, 1) := by decide +kernel
theorem dL_law_834 : decode cL_law 834 = .ok (.iconst 2, 1) := by decide +kernel
theorem dL_law_835 : decode cL_law 835 = .ok (.iadd, 1) := by decide +kernel
theorem dL_law_836 : decode cL_law 836 = .ok (.iaload, 1) := by decide +kernel
theorem dL_law_837 : decode cL_law 837 = .ok (.invokevirtual 100, 3) := by decide +kernel
theorem dL_law_840 : decode cL_law 840 = .ok (.aload_n 2, 1) := by decide +kernel
theorem dL_law_841 : decode cL_law 841 = .ok (.aload_n 0, 1) := by decide +kernel
theorem dL_law_842 : decode cL_law 842 = .ok (.iload_n 3, 1) := by decide +kernel
theorem dL_law_843 : decode cL_law 843 = .ok (.iconst 1, 1) := by decide +kernel
theorem dL_law_844 : decode cL_law 844 = .ok (.iadd, 1) := by decide +kernel
theorem dL_law_845 : decode cL_law 845 = .ok (.iaload, 1) := by decide +kernel
theorem dL_law_846 : decode cL_law 846 = .ok (.aload_n 0, 1) := by decide +kernel
theorem dL_law_847 : decode cL_law 847 = .ok (.iload_n 3, 1) := by decide +kernel
theorem dL_law_848 : decode cL_law 848 = .ok (.iconst 2, 1) := by decide +kernel
theorem dL_law_849 : decode cL_law 849 = .ok (.iadd, 1) := by decide +kernel
theorem dL_law_850 : decode cL_law 850 = .ok (.iaload, 1) := by decide +kernel
theorem dL_law_851 : decode cL_law 851 = .ok (.invokevirtual 103, 3) := by decide +kernel
theorem dL_law_854 : decode cL_law 854 = .ok (.if_icmp .eq 468, 3) := by decide +kernel
theorem dL_law_857 : decode cL_law 857 = .ok (.iconst 0, 1) := by decide +kernel
theorem dL_law_858 : decode cL_law 858 = .ok (.ireturn, 1) := by decide +kernel
theorem dL_law_859 : decode cL_law 859 = .ok (.aload_n 1, 1) := by decide +kernel
theorem dL_law_860 : decode cL_law 860 = .ok (.aload_n 0, 1) := by decide +kernel
theorem dL_law_861 : decode cL_law 861 = .ok (.iload_n 3, 1) := by decide +kernel
theorem dL_law_862 : decode cL_law 862 = .ok (.iconst 1, 1) := by decide +kernel
theorem dL_law_863 : decode cL_law 863 = .ok (.iadd, 1) := by decide +kernel
noncomputable def CL_5 (L : Nat) (xs : Nat → Int32) : List (Nat × qOp) := [(752, qo_iadd),
  (753, qo_sld L xs),
  (754, qo_aload 0 1),
  (755, qo_iload 3 1),
  (756, qo_ci 2 1),
  (757, qo_iadd),
  (758, qo_sld L xs),
  (759, qo_aload 0 1),
  (760, qo_iload 3 1),
  (761, qo_ci 3 1),
  (762, qo_iadd),
  (763, qo_sld L xs),
  (764, qo_callv [(11, S_X11_odds)] 3),
  (767, qo_aload 2 1),
  (768, qo_aload 0 1),
  (769, qo_iload 3 1),
  (770, qo_ci 1 1),
  (771, qo_iadd),
  (772, qo_sld L xs),
  (773, qo_aload 0 1),
  (774, qo_iload 3 1),
  (775, qo_ci 2 1),
  (776, qo_iadd),
  (777, qo_sld L xs),
  (778, qo_aload 0 1),
  (779, qo_iload 3 1),
  (780, qo_ci 3 1),
  (781, qo_iadd),
  (782, qo_sld L xs),
  (783, qo_callv [(12, S_X12_odds)] 3),
  (786, qo_lcmp),
  (787, qo_ifeq 1322),
  (790, qo_ci 0 1),
  (791, qo_ret (some .boolean) 1),
  (792, qo_aload 1 1),
  (793, qo_aload 0 1),
  (794, qo_iload 3 1),
  (795, qo_ci 1 1),
  (796, qo_iadd),
  (797, qo_sld L xs),
  (798, qo_aload 0 1),
  (799, qo_iload 3 1),
  (800, qo_ci 2 1),
  (801, qo_iadd),
  (802, qo_sld L xs),
  (803, qo_callv [(11, S_X11_mean)] 2),
  (806, qo_aload 2 1),
  (807, qo_aload 0 1),
  (808, qo_iload 3 1),
  (809, qo_ci 1 1),
  (810, qo_iadd),
  (811, qo_sld L xs),
  (812, qo_aload 0 1),
  (813, qo_iload 3 1),
  (814, qo_ci 2 1),
  (815, qo_iadd),
  (816, qo_sld L xs),
  (817, qo_callv [(12, S_X12_mean)] 2),
  (820, qo_lcmp),
  (821, qo_ifeq 1322),
  (824, qo_ci 0 1),
  (825, qo_ret (some .boolean) 1),
  (826, qo_aload 1 1),
  (827, qo_aload 0 1),
  (828, qo_iload 3 1),
  (829, qo_ci 1 1),
  (830, qo_iadd),
  (831, qo_sld L xs),
  (832, qo_aload 0 1),
  (833, qo_iload 3 1),
  (834, qo_ci 2 1),
  (835, qo_iadd),
  (836, qo_sld L xs),
  (837, qo_callv [(11, S_X11_evening)] 2),
  (840, qo_aload 2 1),
  (841, qo_aload 0 1),
  (842, qo_iload 3 1),
  (843, qo_ci 1 1),
  (844, qo_iadd),
  (845, qo_sld L xs),
  (846, qo_aload 0 1),
  (847, qo_iload 3 1),
  (848, qo_ci 2 1),
  (849, qo_iadd),
  (850, qo_sld L xs),
  (851, qo_callv [(12, S_X12_evening)] 2),
  (854, qo_iceq 1322),
  (857, qo_ci 0 1),
  (858, qo_ret (some .boolean) 1),
  (859, qo_aload 1 1),
  (860, qo_aload 0 1),
  (861, qo_iload 3 1),
  (862, qo_ci 1 1),
  (863, qo_iadd)]
set_option maxRecDepth 20000 in
theorem KL_5 {X : qX} {l : Launch} {b L : Nat} {xs : Nat → Int32} {nm : String} (hL : L ≤ 3072) : ∀ q ∈ CL_5 L xs, qOkS X l b L xs 31 cL_law 4 RL nm (some .boolean) q.1 q.2 := by
  unfold CL_5
  refine qconsS (qOkS_of (qk_iadd dL_law_752)) ?_
  refine qconsS (qk_sld hL dL_law_753) ?_
  refine qconsS (qOkS_of (qk_aload_n dL_law_754 rfl)) ?_
  refine qconsS (qOkS_of (qk_iload_n dL_law_755 rfl)) ?_
  refine qconsS (qOkS_of (qk_iconst dL_law_756 (by decide))) ?_
  refine qconsS (qOkS_of (qk_iadd dL_law_757)) ?_
  refine qconsS (qk_sld hL dL_law_758) ?_
  refine qconsS (qOkS_of (qk_aload_n dL_law_759 rfl)) ?_
  refine qconsS (qOkS_of (qk_iload_n dL_law_760 rfl)) ?_
  refine qconsS (qOkS_of (qk_iconst dL_law_761 (by decide))) ?_
  refine qconsS (qOkS_of (qk_iadd dL_law_762)) ?_
  refine qconsS (qk_sld hL dL_law_763) ?_
  refine qconsS (qOkS_of (qk_callv (ins := fun i => .invokevirtual i) (qconsV (qrunV M_X11_odds (by decide) (by decide) (by decide) rfl tw_675 tw_676 tw_677 tw_678 tw_78 ⟨by decide, by decide⟩ (by decide +kernel)) qnilV) dL_law_764)) ?_
  refine qconsS (qOkS_of (qk_aload_n dL_law_767 rfl)) ?_
  refine qconsS (qOkS_of (qk_aload_n dL_law_768 rfl)) ?_
  refine qconsS (qOkS_of (qk_iload_n dL_law_769 rfl)) ?_
  refine qconsS (qOkS_of (qk_iconst dL_law_770 (by decide))) ?_
  refine qconsS (qOkS_of (qk_iadd dL_law_771)) ?_
  refine qconsS (qk_sld hL dL_law_772) ?_
  refine qconsS (qOkS_of (qk_aload_n dL_law_773 rfl)) ?_
  refine qconsS (qOkS_of (qk_iload_n dL_law_774 rfl)) ?_
  refine qconsS (qOkS_of (qk_iconst dL_law_775 (by decide))) ?_
  refine qconsS (qOkS_of (qk_iadd dL_law_776)) ?_
  refine qconsS (qk_sld hL dL_law_777) ?_
  refine qconsS (qOkS_of (qk_aload_n dL_law_778 rfl)) ?_
  refine qconsS (qOkS_of (qk_iload_n dL_law_779 rfl)) ?_
  refine qconsS (qOkS_of (qk_iconst dL_law_780 (by decide))) ?_
  refine qconsS (qOkS_of (qk_iadd dL_law_781)) ?_
  refine qconsS (qk_sld hL dL_law_782) ?_
  refine qconsS (qOkS_of (qk_callv (ins := fun i => .invokevirtual i) (qconsV (qrunV M_X12_odds (by decide) (by decide) (by decide) rfl tw_1332 tw_1333 tw_1334 tw_1335 tw_90 ⟨by decide, by decide⟩ (by decide +kernel)) qnilV) dL_law_783)) ?_
  refine qconsS (qOkS_of (qk_lcmp dL_law_786)) ?_
  refine qconsS (qOkS_of (qk_ifeq dL_law_787 (by decide))) ?_
  refine qconsS (qOkS_of (qk_iconst dL_law_790 (by decide))) ?_
  refine qconsS (qOkS_of (qk_ret dL_law_791 (Or.inr (Or.inl ⟨rfl, rfl⟩)))) ?_
  refine qconsS (qOkS_of (qk_aload_n dL_law_792 rfl)) ?_
  refine qconsS (qOkS_of (qk_aload_n dL_law_793 rfl)) ?_
  refine qconsS (qOkS_of (qk_iload_n dL_law_794 rfl)) ?_
  refine qconsS (qOkS_of (qk_iconst dL_law_795 (by decide))) ?_
  refine qconsS (qOkS_of (qk_iadd dL_law_796)) ?_
  refine qconsS (qk_sld hL dL_law_797) ?_
  refine qconsS (qOkS_of (qk_aload_n dL_law_798 rfl)) ?_
  refine qconsS (qOkS_of (qk_iload_n dL_law_799 rfl)) ?_
  refine qconsS (qOkS_of (qk_iconst dL_law_800 (by decide))) ?_
  refine qconsS (qOkS_of (qk_iadd dL_law_801)) ?_
  refine qconsS (qk_sld hL dL_law_802) ?_
  refine qconsS (qOkS_of (qk_callv (ins := fun i => .invokevirtual i) (qconsV (qrunV M_X11_mean (by decide) (by decide) (by decide) rfl tw_683 tw_684 tw_685 tw_686 tw_78 ⟨by decide, by decide⟩ (by decide +kernel)) qnilV) dL_law_803)) ?_
  refine qconsS (qOkS_of (qk_aload_n dL_law_806 rfl)) ?_
  refine qconsS (qOkS_of (qk_aload_n dL_law_807 rfl)) ?_
  refine qconsS (qOkS_of (qk_iload_n dL_law_808 rfl)) ?_
  refine qconsS (qOkS_of (qk_iconst dL_law_809 (by decide))) ?_
  refine qconsS (qOkS_of (qk_iadd dL_law_810)) ?_
  refine qconsS (qk_sld hL dL_law_811) ?_
  refine qconsS (qOkS_of (qk_aload_n dL_law_812 rfl)) ?_
  refine qconsS (qOkS_of (qk_iload_n dL_law_813 rfl)) ?_
  refine qconsS (qOkS_of (qk_iconst dL_law_814 (by decide))) ?_
  refine qconsS (qOkS_of (qk_iadd dL_law_815)) ?_
  refine qconsS (qk_sld hL dL_law_816) ?_
  refine qconsS (qOkS_of (qk_callv (ins := fun i => .invokevirtual i) (qconsV (qrunV M_X12_mean (by decide) (by decide) (by decide) rfl tw_1345 tw_1346 tw_1347 tw_1348 tw_90 ⟨by decide, by decide⟩ (by decide +kernel)) qnilV) dL_law_817)) ?_
  refine qconsS (qOkS_of (qk_lcmp dL_law_820)) ?_
  refine qconsS (qOkS_of (qk_ifeq dL_law_821 (by decide))) ?_
  refine qconsS (qOkS_of (qk_iconst dL_law_824 (by decide))) ?_
  refine qconsS (qOkS_of (qk_ret dL_law_825 (Or.inr (Or.inl ⟨rfl, rfl⟩)))) ?_
  refine qconsS (qOkS_of (qk_aload_n dL_law_826 rfl)) ?_
  refine qconsS (qOkS_of (qk_aload_n dL_law_827 rfl)) ?_
  refine qconsS (qOkS_of (qk_iload_n dL_law_828 rfl)) ?_
  refine qconsS (qOkS_of (qk_iconst dL_law_829 (by decide))) ?_
  refine qconsS (qOkS_of (qk_iadd dL_law_830)) ?_
  refine qconsS (qk_sld hL dL_law_831) ?_
  refine qconsS (qOkS_of (qk_aload_n dL_law_832 rfl)) ?_
  refine qconsS (qOkS_of (qk_iload_n dL_law_833 rfl)) ?_
  refine qconsS (qOkS_of (qk_iconst dL_law_834 (by decide))) ?_
  refine qconsS (qOkS_of (qk_iadd dL_law_835)) ?_
  refine qconsS (qk_sld hL dL_law_836) ?_
  refine qconsS (qOkS_of (qk_callv (ins := fun i => .invokevirtual i) (qconsV (qrunV M_X11_evening (by decide) (by decide) (by decide) rfl tw_687 tw_688 tw_689 tw_690 tw_78 ⟨by decide, by decide⟩ (by decide +kernel)) qnilV) dL_law_837)) ?_
  refine qconsS (qOkS_of (qk_aload_n dL_law_840 rfl)) ?_
  refine qconsS (qOkS_of (qk_aload_n dL_law_841 rfl)) ?_
  refine qconsS (qOkS_of (qk_iload_n dL_law_842 rfl)) ?_
  refine qconsS (qOkS_of (qk_iconst dL_law_843 (by decide))) ?_
  refine qconsS (qOkS_of (qk_iadd dL_law_844)) ?_
  refine qconsS (qk_sld hL dL_law_845) ?_
  refine qconsS (qOkS_of (qk_aload_n dL_law_846 rfl)) ?_
  refine qconsS (qOkS_of (qk_iload_n dL_law_847 rfl)) ?_
  refine qconsS (qOkS_of (qk_iconst dL_law_848 (by decide))) ?_
  refine qconsS (qOkS_of (qk_iadd dL_law_849)) ?_
  refine qconsS (qk_sld hL dL_law_850) ?_
  refine qconsS (qOkS_of (qk_callv (ins := fun i => .invokevirtual i) (qconsV (qrunV M_X12_evening (by decide) (by decide) (by decide) rfl tw_1349 tw_1350 tw_1351 tw_1352 tw_90 ⟨by decide, by decide⟩ (by decide +kernel)) qnilV) dL_law_851)) ?_
  refine qconsS (qOkS_of (qk_iceq dL_law_854 (by decide))) ?_
  refine qconsS (qOkS_of (qk_iconst dL_law_857 (by decide))) ?_
  refine qconsS (qOkS_of (qk_ret dL_law_858 (Or.inr (Or.inl ⟨rfl, rfl⟩)))) ?_
  refine qconsS (qOkS_of (qk_aload_n dL_law_859 rfl)) ?_
  refine qconsS (qOkS_of (qk_aload_n dL_law_860 rfl)) ?_
  refine qconsS (qOkS_of (qk_iload_n dL_law_861 rfl)) ?_
  refine qconsS (qOkS_of (qk_iconst dL_law_862 (by decide))) ?_
  refine qconsS (qOkS_of (qk_iadd dL_law_863)) ?_
  exact qnilS
