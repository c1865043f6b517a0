theorem dL_law_864 : decode cL_law 864 = .ok (.iaload, 1) := by decide +kernel
theorem dL_law_865 : decode cL_law 865 = .ok (.invokevirtual 104, 3) := by decide +kernel
theorem dL_law_868 : decode cL_law 868 = .ok (.aload_n 2, 1) := by decide +kernel
theorem dL_law_869 : decode cL_law 869 = .ok (.aload_n 0, 1) := by decide +kernel
theorem dL_law_870 : decode cL_law 870 = .ok (.iload_n 3, 1) := by decide +kernel
theorem dL_law_871 : decode cL_law 871 = .ok (.iconst 1, 1) := by decide +kernel
theorem dL_law_872 : decode cL_law 872 = .ok (.iadd, 1) := by decide +kernel
theorem dL_law_873 : decode cL_law 873 = .ok (.iaload, 1) := by decide +kernel
theorem dL_law_874 : decode cL_law 874 = .ok (.invokevirtual 107, 3) := by decide +kernel
theorem dL_law_877 : decode cL_law 877 = .ok (.if_icmp .eq 445, 3) := by decide +kernel
theorem dL_law_880 : decode cL_law 880 = .ok (.iconst 0, 1) := by decide +kernel
theorem dL_law_881 : decode cL_law 881 = .ok (.ireturn, 1) := by decide +kernel
theorem dL_law_882 : decode cL_law 882 = .ok (.aload_n 1, 1) := by decide +kernel
theorem dL_law_883 : decode cL_law 883 = .ok (.aload_n 0, 1) := by decide +kernel
theorem dL_law_884 : decode cL_law 884 = .ok (.iload_n 3, 1) := by decide +kernel
theorem dL_law_885 : decode cL_law 885 = .ok (.iconst 1, 1) := by decide +kernel
theorem dL_law_886 : decode cL_law 886 = .ok (.iadd, 1) := by decide +kernel
theorem dL_law_887 : decode cL_law 887 = .ok (.iaload, 1) := by decide +kernel
theorem dL_law_888 : decode cL_law 888 = .ok (.aload_n 0, 1) := by decide +kernel
theorem dL_law_889 : decode cL_law 889 = .ok (.iload_n 3, 1) := by decide +kernel
theorem dL_law_890 : decode cL_law 890 = .ok (.iconst 2, 1) := by decide +kernel
theorem dL_law_891 : decode cL_law 891 = .ok (.iadd, 1) := by decide +kernel
theorem dL_law_892 : decode cL_law 892 = .ok (.iaload, 1) := by decide +kernel
theorem dL_law_893 : decode cL_law 893 = .ok (.invokevirtual 108, 3) := by decide +kernel
theorem dL_law_896 : decode cL_law 896 = .ok (.aload_n 2, 1) := by decide +kernel
theorem dL_law_897 : decode cL_law 897 = .ok (.aload_n 0, 1) := by decide +kernel
theorem dL_law_898 : decode cL_law 898 = .ok (.iload_n 3, 1) := by decide +kernel
theorem dL_law_899 : decode cL_law 899 = .ok (.iconst 1, 1) := by decide +kernel
theorem dL_law_900 : decode cL_law 900 = .ok (.iadd, 1) := by decide +kernel
theorem dL_law_901 : decode cL_law 901 = .ok (.iaload, 1) := by decide +kernel
theorem dL_law_902 : decode cL_law 902 = .ok (.aload_n 0, 1) := by decide +kernel
theorem dL_law_903 : decode cL_law 903 = .ok (.iload_n 3, 1) := by decide +kernel
theorem dL_law_904 : decode cL_law 904 = .ok (.iconst 2, 1) := by decide +kernel
theorem dL_law_905 : decode cL_law 905 = .ok (.iadd, 1) := by decide +kernel
theorem dL_law_906 : decode cL_law 906 = .ok (.iaload, 1) := by decide +kernel
theorem dL_law_907 : decode cL_law 907 = .ok (.invokevirtual 111, 3) := by decide +kernel
theorem dL_law_910 : decode cL_law 910 = .ok (.if_icmp .eq 412, 3) := by decide +kernel
theorem dL_law_913 : decode cL_law 913 = .ok (.iconst 0, 1) := by decide +kernel
theorem dL_law_914 : decode cL_law 914 = .ok (.ireturn, 1) := by decide +kernel
theorem dL_law_915 : decode cL_law 915 = .ok (.aload_n 1, 1) := by decide +kernel
theorem dL_law_916 : decode cL_law 916 = .ok (.invokevirtual 112, 3) := by decide +kernel
theorem dL_law_919 : decode cL_law 919 = .ok (.aload_n 2, 1) := by decide +kernel
theorem dL_law_920 : decode cL_law 920 = .ok (.invokevirtual 115, 3) := by decide +kernel
theorem dL_law_923 : decode cL_law 923 = .ok (.if_icmp .eq 399, 3) := by decide +kernel
theorem dL_law_926 : decode cL_law 926 = .ok (.iconst 0, 1) := by decide +kernel
theorem dL_law_927 : decode cL_law 927 = .ok (.ireturn, 1) := by decide +kernel
theorem dL_law_928 : decode cL_law 928 = .ok (.aload_n 1, 1) := by decide +kernel
theorem dL_law_929 : decode cL_law 929 = .ok (.aload_n 0, 1) := by decide +kernel
theorem dL_law_930 : decode cL_law 930 = .ok (.iload_n 3, 1) := by decide +kernel
theorem dL_law_931 : decode cL_law 931 = .ok (.iconst 1, 1) := by decide +kernel
theorem dL_law_932 : decode cL_law 932 = .ok (.iadd, 1) := by decide +kernel
theorem dL_law_933 : decode cL_law 933 = .ok (.iaload, 1) := by decide +kernel
theorem dL_law_934 : decode cL_law 934 = .ok (.aload_n 0, 1) := by decide +kernel
theorem dL_law_935 : decode cL_law 935 = .ok (.iload_n 3, 1) := by decide +kernel
theorem dL_law_936 : decode cL_law 936 = .ok (.iconst 2, 1) := by decide +kernel
theorem dL_law_937 : decode cL_law 937 = .ok (.iadd, 1) := by decide +kernel
theorem dL_law_938 : decode cL_law 938 = .ok (.iaload, 1) := by decide +kernel
theorem dL_law_939 : decode cL_law 939 = .ok (.invokevirtual 116, 3) := by decide +kernel
theorem dL_law_942 : decode cL_law 942 = .ok (.aload_n 2, 1) := by decide +kernel
theorem dL_law_943 : decode cL_law 943 = .ok (.aload_n 0, 1) := by decide +kernel
theorem dL_law_944 : decode cL_law 944 = .ok (.iload_n 3, 1) := by decide +kernel
theorem dL_law_945 : decode cL_law 945 = .ok (.iconst 1, 1) := by decide +kernel
theorem dL_law_946 : decode cL_law 946 = .ok (.iadd, 1) := by decide +kernel
theorem dL_law_947 : decode cL_law 947 = .ok (.iaload, 1) := by decide +kernel
theorem dL_law_948 : decode cL_law 948 = .ok (.aload_n 0, 1) := by decide +kernel
theorem dL_law_949 : decode cL_law 949 = .ok (.iload_n 3, 1) := by decide +kernel
theorem dL_law_950 : decode cL_law 950 = .ok (.iconst 2, 1) := by decide +kernel
theorem dL_law_951 : decode cL_law 951 = .ok (.iadd, 1) := by decide +kernel
theorem dL_law_952 : decode cL_law 952 = .ok (.iaload, 1) := by decide +kernel
theorem dL_law_953 : decode cL_law 953 = .ok (.invokevirtual 119, 3) := by decide +kernel
theorem dL_law_956 : decode cL_law 956 = .ok (.if_icmp .eq 366, 3) := by decide +kernel
theorem dL_law_959 : decode cL_law 959 = .ok (.iconst 0, 1) := by decide +kernel
theorem dL_law_960 : decode cL_law 960 = .ok (.ireturn, 1) := by decide +kernel
theorem dL_law_961 : decode cL_law 961 = .ok (.aload_n 1, 1) := by decide +kernel
theorem dL_law_962 : decode cL_law 962 = .ok (.invokevirtual 120, 3) := by decide +kernel
theorem dL_law_965 : decode cL_law 965 = .ok (.aload_n 2, 1) := by decide +kernel
theorem dL_law_966 : decode cL_law 966 = .ok (.invokevirtual 123, 3) := by decide +kernel
theorem dL_law_969 : decode cL_law 969 = .ok (.if_icmp .eq 353, 3) := by decide +kernel
theorem dL_law_972 : decode cL_law 972 = .ok (.iconst 0, 1) := by decide +kernel
theorem dL_law_973 : decode cL_law 973 = .ok (.ireturn, 1) := by decide +kernel
theorem dL_law_974 : decode cL_law 974 = .ok (.aload_n 1, 1) := by decide +kernel
theorem dL_law_975 : decode cL_law 975 = .ok (.invokevirtual 124, 3) := by decide +kernel
theorem dL_law_978 : decode cL_law 978 = .ok (.aload_n 2, 1) := by decide +kernel
theorem dL_law_979 : decode cL_law 979 = .ok (.invokevirtual 127, 3) := by decide +kernel
theorem dL_law_982 : decode cL_law 982 = .ok (.if_icmp .eq 340, 3) := by decide +kernel
theorem dL_law_985 : decode cL_law 985 = .ok (.iconst 0, 1) := by decide +kernel
theorem dL_law_986 : decode cL_law 986 = .ok (.ireturn, 1) := by decide +kernel
theorem dL_law_987 : decode cL_law 987 = .ok (.aload_n 1, 1) := by decide +kernel
theorem dL_law_988 : decode cL_law 988 = .ok (.aload_n 0, 1) := by decide +kernel
theorem dL_law_989 : decode cL_law 989 = .ok (.iload_n 3, 1) := by decide +kernel
theorem dL_law_990 : decode cL_law 990 = .ok (.iconst 1, 1) := by decide +kernel
theorem dL_law_991 : decode cL_law 991 = .ok (.iadd, 1) := by decide +kernel
theorem dL_law_992 : decode cL_law 992 = .ok (.iaload, 1) := by decide +kernel
theorem dL_law_993 : decode cL_law 993 = .ok (.aload_n 0, 1) := by decide +kernel
noncomputable def CL_6 (L : Nat) (xs : Nat → Int32) : List (Nat × qOp) := [(864, qo_sld L xs),
  (865, qo_callv [(11, S_X11_ends)] 1),
  (868, qo_aload 2 1),
  (869, qo_aload 0 1),
  (870, qo_iload 3 1),
  (871, qo_ci 1 1),
  (872, qo_iadd),
  (873, qo_sld L xs),
  (874, qo_callv [(12, S_X12_ends)] 1),
  (877, qo_iceq 1322),
  (880, qo_ci 0 1),
  (881, qo_ret (some .boolean) 1),
  (882, qo_aload 1 1),
  (883, qo_aload 0 1),
  (884, qo_iload 3 1),
  (885, qo_ci 1 1),
  (886, qo_iadd),
  (887, qo_sld L xs),
  (888, qo_aload 0 1),
  (889, qo_iload 3 1),
  (890, qo_ci 2 1),
  (891, qo_iadd),
  (892, qo_sld L xs),
  (893, qo_callv [(11, S_X11_book)] 2),
  (896, qo_aload 2 1),
  (897, qo_aload 0 1),
  (898, qo_iload 3 1),
  (899, qo_ci 1 1),
  (900, qo_iadd),
  (901, qo_sld L xs),
  (902, qo_aload 0 1),
  (903, qo_iload 3 1),
  (904, qo_ci 2 1),
  (905, qo_iadd),
  (906, qo_sld L xs),
  (907, qo_callv [(12, S_X12_book)] 2),
  (910, qo_iceq 1322),
  (913, qo_ci 0 1),
  (914, qo_ret (some .boolean) 1),
  (915, qo_aload 1 1),
  (916, qo_callv [(11, S_X11_looked)] 0),
  (919, qo_aload 2 1),
  (920, qo_callv [(12, S_X12_looked)] 0),
  (923, qo_iceq 1322),
  (926, qo_ci 0 1),
  (927, qo_ret (some .boolean) 1),
  (928, qo_aload 1 1),
  (929, qo_aload 0 1),
  (930, qo_iload 3 1),
  (931, qo_ci 1 1),
  (932, qo_iadd),
  (933, qo_sld L xs),
  (934, qo_aload 0 1),
  (935, qo_iload 3 1),
  (936, qo_ci 2 1),
  (937, qo_iadd),
  (938, qo_sld L xs),
  (939, qo_callv [(11, S_X11_judge)] 2),
  (942, qo_aload 2 1),
  (943, qo_aload 0 1),
  (944, qo_iload 3 1),
  (945, qo_ci 1 1),
  (946, qo_iadd),
  (947, qo_sld L xs),
  (948, qo_aload 0 1),
  (949, qo_iload 3 1),
  (950, qo_ci 2 1),
  (951, qo_iadd),
  (952, qo_sld L xs),
  (953, qo_callv [(12, S_X12_judge)] 2),
  (956, qo_iceq 1322),
  (959, qo_ci 0 1),
  (960, qo_ret (some .boolean) 1),
  (961, qo_aload 1 1),
  (962, qo_callv [(11, S_X11_image)] 0),
  (965, qo_aload 2 1),
  (966, qo_callv [(12, S_X12_image)] 0),
  (969, qo_iceq 1322),
  (972, qo_ci 0 1),
  (973, qo_ret (some .boolean) 1),
  (974, qo_aload 1 1),
  (975, qo_callv [(11, S_X11_undo)] 0),
  (978, qo_aload 2 1),
  (979, qo_callv [(12, S_X12_undo)] 0),
  (982, qo_iceq 1322),
  (985, qo_ci 0 1),
  (986, qo_ret (some .boolean) 1),
  (987, qo_aload 1 1),
  (988, qo_aload 0 1),
  (989, qo_iload 3 1),
  (990, qo_ci 1 1),
  (991, qo_iadd),
  (992, qo_sld L xs),
  (993, qo_aload 0 1)]
set_option maxRecDepth 20000 in
theorem KL_6 {X : qX} {l : Launch} {b L : Nat} {xs : Nat → Int32} {nm : String} (hL : L ≤ 3072) : ∀ q ∈ CL_6 L xs, qOkS X l b L xs 31 cL_law 4 RL nm (some .boolean) q.1 q.2 := by
  unfold CL_6
  refine qconsS (qk_sld hL dL_law_864) ?_
  refine qconsS (qOkS_of (qk_callv (ins := fun i => .invokevirtual i) (qconsV (qrunV M_X11_ends (by decide) (by decide) (by decide) rfl tw_691 tw_692 tw_693 tw_694 tw_78 ⟨by decide, by decide⟩ (by decide +kernel)) qnilV) dL_law_865)) ?_
  refine qconsS (qOkS_of (qk_aload_n dL_law_868 rfl)) ?_
  refine qconsS (qOkS_of (qk_aload_n dL_law_869 rfl)) ?_
  refine qconsS (qOkS_of (qk_iload_n dL_law_870 rfl)) ?_
  refine qconsS (qOkS_of (qk_iconst dL_law_871 (by decide))) ?_
  refine qconsS (qOkS_of (qk_iadd dL_law_872)) ?_
  refine qconsS (qk_sld hL dL_law_873) ?_
  refine qconsS (qOkS_of (qk_callv (ins := fun i => .invokevirtual i) (qconsV (qrunV M_X12_ends (by decide) (by decide) (by decide) rfl tw_1353 tw_1354 tw_1355 tw_1356 tw_90 ⟨by decide, by decide⟩ (by decide +kernel)) qnilV) dL_law_874)) ?_
  refine qconsS (qOkS_of (qk_iceq dL_law_877 (by decide))) ?_
  refine qconsS (qOkS_of (qk_iconst dL_law_880 (by decide))) ?_
  refine qconsS (qOkS_of (qk_ret dL_law_881 (Or.inr (Or.inl ⟨rfl, rfl⟩)))) ?_
  refine qconsS (qOkS_of (qk_aload_n dL_law_882 rfl)) ?_
  refine qconsS (qOkS_of (qk_aload_n dL_law_883 rfl)) ?_
  refine qconsS (qOkS_of (qk_iload_n dL_law_884 rfl)) ?_
  refine qconsS (qOkS_of (qk_iconst dL_law_885 (by decide))) ?_
  refine qconsS (qOkS_of (qk_iadd dL_law_886)) ?_
  refine qconsS (qk_sld hL dL_law_887) ?_
  refine qconsS (qOkS_of (qk_aload_n dL_law_888 rfl)) ?_
  refine qconsS (qOkS_of (qk_iload_n dL_law_889 rfl)) ?_
  refine qconsS (qOkS_of (qk_iconst dL_law_890 (by decide))) ?_
  refine qconsS (qOkS_of (qk_iadd dL_law_891)) ?_
  refine qconsS (qk_sld hL dL_law_892) ?_
  refine qconsS (qOkS_of (qk_callv (ins := fun i => .invokevirtual i) (qconsV (qrunV M_X11_book (by decide) (by decide) (by decide) rfl tw_699 tw_700 tw_701 tw_702 tw_78 ⟨by decide, by decide⟩ (by decide +kernel)) qnilV) dL_law_893)) ?_
  refine qconsS (qOkS_of (qk_aload_n dL_law_896 rfl)) ?_
  refine qconsS (qOkS_of (qk_aload_n dL_law_897 rfl)) ?_
  refine qconsS (qOkS_of (qk_iload_n dL_law_898 rfl)) ?_
  refine qconsS (qOkS_of (qk_iconst dL_law_899 (by decide))) ?_
  refine qconsS (qOkS_of (qk_iadd dL_law_900)) ?_
  refine qconsS (qk_sld hL dL_law_901) ?_
  refine qconsS (qOkS_of (qk_aload_n dL_law_902 rfl)) ?_
  refine qconsS (qOkS_of (qk_iload_n dL_law_903 rfl)) ?_
  refine qconsS (qOkS_of (qk_iconst dL_law_904 (by decide))) ?_
  refine qconsS (qOkS_of (qk_iadd dL_law_905)) ?_
  refine qconsS (qk_sld hL dL_law_906) ?_
  refine qconsS (qOkS_of (qk_callv (ins := fun i => .invokevirtual i) (qconsV (qrunV M_X12_book (by decide) (by decide) (by decide) rfl tw_1357 tw_1358 tw_1359 tw_1360 tw_90 ⟨by decide, by decide⟩ (by decide +kernel)) qnilV) dL_law_907)) ?_
  refine qconsS (qOkS_of (qk_iceq dL_law_910 (by decide))) ?_
  refine qconsS (qOkS_of (qk_iconst dL_law_913 (by decide))) ?_
  refine qconsS (qOkS_of (qk_ret dL_law_914 (Or.inr (Or.inl ⟨rfl, rfl⟩)))) ?_
  refine qconsS (qOkS_of (qk_aload_n dL_law_915 rfl)) ?_
  refine qconsS (qOkS_of (qk_callv (ins := fun i => .invokevirtual i) (qconsV (qrunV M_X11_looked (by decide) (by decide) (by decide) rfl tw_703 tw_704 tw_705 tw_706 tw_78 ⟨by decide, by decide⟩ (by decide +kernel)) qnilV) dL_law_916)) ?_
  refine qconsS (qOkS_of (qk_aload_n dL_law_919 rfl)) ?_
  refine qconsS (qOkS_of (qk_callv (ins := fun i => .invokevirtual i) (qconsV (qrunV M_X12_looked (by decide) (by decide) (by decide) rfl tw_1361 tw_1362 tw_1363 tw_1364 tw_90 ⟨by decide, by decide⟩ (by decide +kernel)) qnilV) dL_law_920)) ?_
  refine qconsS (qOkS_of (qk_iceq dL_law_923 (by decide))) ?_
  refine qconsS (qOkS_of (qk_iconst dL_law_926 (by decide))) ?_
  refine qconsS (qOkS_of (qk_ret dL_law_927 (Or.inr (Or.inl ⟨rfl, rfl⟩)))) ?_
  refine qconsS (qOkS_of (qk_aload_n dL_law_928 rfl)) ?_
  refine qconsS (qOkS_of (qk_aload_n dL_law_929 rfl)) ?_
  refine qconsS (qOkS_of (qk_iload_n dL_law_930 rfl)) ?_
  refine qconsS (qOkS_of (qk_iconst dL_law_931 (by decide))) ?_
  refine qconsS (qOkS_of (qk_iadd dL_law_932)) ?_
  refine qconsS (qk_sld hL dL_law_933) ?_
  refine qconsS (qOkS_of (qk_aload_n dL_law_934 rfl)) ?_
  refine qconsS (qOkS_of (qk_iload_n dL_law_935 rfl)) ?_
  refine qconsS (qOkS_of (qk_iconst dL_law_936 (by decide))) ?_
  refine qconsS (qOkS_of (qk_iadd dL_law_937)) ?_
  refine qconsS (qk_sld hL dL_law_938) ?_
  refine qconsS (qOkS_of (qk_callv (ins := fun i => .invokevirtual i) (qconsV (qrunV M_X11_judge (by decide) (by decide) (by decide) rfl tw_707 tw_708 tw_709 tw_710 tw_78 ⟨by decide, by decide⟩ (by decide +kernel)) qnilV) dL_law_939)) ?_
  refine qconsS (qOkS_of (qk_aload_n dL_law_942 rfl)) ?_
  refine qconsS (qOkS_of (qk_aload_n dL_law_943 rfl)) ?_
  refine qconsS (qOkS_of (qk_iload_n dL_law_944 rfl)) ?_
  refine qconsS (qOkS_of (qk_iconst dL_law_945 (by decide))) ?_
  refine qconsS (qOkS_of (qk_iadd dL_law_946)) ?_
  refine qconsS (qk_sld hL dL_law_947) ?_
  refine qconsS (qOkS_of (qk_aload_n dL_law_948 rfl)) ?_
  refine qconsS (qOkS_of (qk_iload_n dL_law_949 rfl)) ?_
  refine qconsS (qOkS_of (qk_iconst dL_law_950 (by decide))) ?_
  refine qconsS (qOkS_of (qk_iadd dL_law_951)) ?_
  refine qconsS (qk_sld hL dL_law_952) ?_
  refine qconsS (qOkS_of (qk_callv (ins := fun i => .invokevirtual i) (qconsV (qrunV M_X12_judge (by decide) (by decide) (by decide) rfl tw_1365 tw_1366 tw_1367 tw_1368 tw_90 ⟨by decide, by decide⟩ (by decide +kernel)) qnilV) dL_law_953)) ?_
  refine qconsS (qOkS_of (qk_iceq dL_law_956 (by decide))) ?_
  refine qconsS (qOkS_of (qk_iconst dL_law_959 (by decide))) ?_
  refine qconsS (qOkS_of (qk_ret dL_law_960 (Or.inr (Or.inl ⟨rfl, rfl⟩)))) ?_
  refine qconsS (qOkS_of (qk_aload_n dL_law_961 rfl)) ?_
  refine qconsS (qOkS_of (qk_callv (ins := fun i => .invokevirtual i) (qconsV (qrunV M_X11_image (by decide) (by decide) (by decide) rfl tw_714 tw_715 tw_716 tw_717 tw_78 ⟨by decide, by decide⟩ (by decide +kernel)) qnilV) dL_law_962)) ?_
  refine qconsS (qOkS_of (qk_aload_n dL_law_965 rfl)) ?_
  refine qconsS (qOkS_of (qk_callv (ins := fun i => .invokevirtual i) (qconsV (qrunV M_X12_image (by decide) (by decide) (by decide) rfl tw_1373 tw_1374 tw_1375 tw_1376 tw_90 ⟨by decide, by decide⟩ (by decide +kernel)) qnilV) dL_law_966)) ?_
  refine qconsS (qOkS_of (qk_iceq dL_law_969 (by decide))) ?_
  refine qconsS (qOkS_of (qk_iconst dL_law_972 (by decide))) ?_
  refine qconsS (qOkS_of (qk_ret dL_law_973 (Or.inr (Or.inl ⟨rfl, rfl⟩)))) ?_
  refine qconsS (qOkS_of (qk_aload_n dL_law_974 rfl)) ?_
  refine qconsS (qOkS_of (qk_callv (ins := fun i => .invokevirtual i) (qconsV (qrunV M_X11_undo (by decide) (by decide) (by decide) rfl tw_724 tw_725 tw_726 tw_727 tw_78 ⟨by decide, by decide⟩ (by decide +kernel)) qnilV) dL_law_975)) ?_
  refine qconsS (qOkS_of (qk_aload_n dL_law_978 rfl)) ?_
  refine qconsS (qOkS_of (qk_callv (ins := fun i => .invokevirtual i) (qconsV (qrunV M_X12_undo (by decide) (by decide) (by decide) rfl tw_1377 tw_1378 tw_1379 tw_1380 tw_90 ⟨by decide, by decide⟩ (by decide +kernel)) qnilV) dL_law_979)) ?_
  refine qconsS (qOkS_of (qk_iceq dL_law_982 (by decide))) ?_
  refine qconsS (qOkS_of (qk_iconst dL_law_985 (by decide))) ?_
  refine qconsS (qOkS_of (qk_ret dL_law_986 (Or.inr (Or.inl ⟨rfl, rfl⟩)))) ?_
  refine qconsS (qOkS_of (qk_aload_n dL_law_987 rfl)) ?_
  refine qconsS (qOkS_of (qk_aload_n dL_law_988 rfl)) ?_
  refine qconsS (qOkS_of (qk_iload_n dL_law_989 rfl)) ?_
  refine qconsS (qOkS_of (qk_iconst dL_law_990 (by decide))) ?_
  refine qconsS (qOkS_of (qk_iadd dL_law_991)) ?_
  refine qconsS (qk_sld hL dL_law_992) ?_
  refine qconsS (qOkS_of (qk_aload_n dL_law_993 rfl)) ?_
  exact qnilS
