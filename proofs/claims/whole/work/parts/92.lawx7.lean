theorem dL_law_994 : decode cL_law 994 = .ok (.iload_n 3, 1) := by decide +kernel
theorem dL_law_995 : decode cL_law 995 = .ok (.iconst 2, 1) := by decide +kernel
theorem dL_law_996 : decode cL_law 996 = .ok (.iadd, 1) := by decide +kernel
theorem dL_law_997 : decode cL_law 997 = .ok (.iaload, 1) := by decide +kernel
theorem dL_law_998 : decode cL_law 998 = .ok (.aload_n 0, 1) := by decide +kernel
theorem dL_law_999 : decode cL_law 999 = .ok (.iload_n 3, 1) := by decide +kernel
theorem dL_law_1000 : decode cL_law 1000 = .ok (.iconst 3, 1) := by decide +kernel
theorem dL_law_1001 : decode cL_law 1001 = .ok (.iadd, 1) := by decide +kernel
theorem dL_law_1002 : decode cL_law 1002 = .ok (.iaload, 1) := by decide +kernel
theorem dL_law_1003 : decode cL_law 1003 = .ok (.invokevirtual 128, 3) := by decide +kernel
theorem dL_law_1006 : decode cL_law 1006 = .ok (.aload_n 2, 1) := by decide +kernel
theorem dL_law_1007 : decode cL_law 1007 = .ok (.aload_n 0, 1) := by decide +kernel
theorem dL_law_1008 : decode cL_law 1008 = .ok (.iload_n 3, 1) := by decide +kernel
theorem dL_law_1009 : decode cL_law 1009 = .ok (.iconst 1, 1) := by decide +kernel
theorem dL_law_1010 : decode cL_law 1010 = .ok (.iadd, 1) := by decide +kernel
theorem dL_law_1011 : decode cL_law 1011 = .ok (.iaload, 1) := by decide +kernel
theorem dL_law_1012 : decode cL_law 1012 = .ok (.aload_n 0, 1) := by decide +kernel
theorem dL_law_1013 : decode cL_law 1013 = .ok (.iload_n 3, 1) := by decide +kernel
theorem dL_law_1014 : decode cL_law 1014 = .ok (.iconst 2, 1) := by decide +kernel
theorem dL_law_1015 : decode cL_law 1015 = .ok (.iadd, 1) := by decide +kernel
theorem dL_law_1016 : decode cL_law 1016 = .ok (.iaload, 1) := by decide +kernel
theorem dL_law_1017 : decode cL_law 1017 = .ok (.aload_n 0, 1) := by decide +kernel
theorem dL_law_1018 : decode cL_law 1018 = .ok (.iload_n 3, 1) := by decide +kernel
theorem dL_law_1019 : decode cL_law 1019 = .ok (.iconst 3, 1) := by decide +kernel
theorem dL_law_1020 : decode cL_law 1020 = .ok (.iadd, 1) := by decide +kernel
theorem dL_law_1021 : decode cL_law 1021 = .ok (.iaload, 1) := by decide +kernel
theorem dL_law_1022 : decode cL_law 1022 = .ok (.invokevirtual 131, 3) := by decide +kernel
theorem dL_law_1025 : decode cL_law 1025 = .ok (.if_icmp .eq 297, 3) := by decide +kernel
theorem dL_law_1028 : decode cL_law 1028 = .ok (.iconst 0, 1) := by decide +kernel
theorem dL_law_1029 : decode cL_law 1029 = .ok (.ireturn, 1) := by decide +kernel
theorem dL_law_1030 : decode cL_law 1030 = .ok (.aload_n 1, 1) := by decide +kernel
theorem dL_law_1031 : decode cL_law 1031 = .ok (.aload_n 0, 1) := by decide +kernel
theorem dL_law_1032 : decode cL_law 1032 = .ok (.iload_n 3, 1) := by decide +kernel
theorem dL_law_1033 : decode cL_law 1033 = .ok (.iconst 1, 1) := by decide +kernel
theorem dL_law_1034 : decode cL_law 1034 = .ok (.iadd, 1) := by decide +kernel
theorem dL_law_1035 : decode cL_law 1035 = .ok (.iaload, 1) := by decide +kernel
theorem dL_law_1036 : decode cL_law 1036 = .ok (.invokevirtual 132, 3) := by decide +kernel
theorem dL_law_1039 : decode cL_law 1039 = .ok (.aload_n 2, 1) := by decide +kernel
theorem dL_law_1040 : decode cL_law 1040 = .ok (.aload_n 0, 1) := by decide +kernel
theorem dL_law_1041 : decode cL_law 1041 = .ok (.iload_n 3, 1) := by decide +kernel
theorem dL_law_1042 : decode cL_law 1042 = .ok (.iconst 1, 1) := by decide +kernel
theorem dL_law_1043 : decode cL_law 1043 = .ok (.iadd, 1) := by decide +kernel
theorem dL_law_1044 : decode cL_law 1044 = .ok (.iaload, 1) := by decide +kernel
theorem dL_law_1045 : decode cL_law 1045 = .ok (.invokevirtual 135, 3) := by decide +kernel
theorem dL_law_1048 : decode cL_law 1048 = .ok (.if_icmp .eq 274, 3) := by decide +kernel
theorem dL_law_1051 : decode cL_law 1051 = .ok (.iconst 0, 1) := by decide +kernel
theorem dL_law_1052 : decode cL_law 1052 = .ok (.ireturn, 1) := by decide +kernel
theorem dL_law_1053 : decode cL_law 1053 = .ok (.aload_n 1, 1) := by decide +kernel
theorem dL_law_1054 : decode cL_law 1054 = .ok (.aload_n 0, 1) := by decide +kernel
theorem dL_law_1055 : decode cL_law 1055 = .ok (.iload_n 3, 1) := by decide +kernel
theorem dL_law_1056 : decode cL_law 1056 = .ok (.iconst 1, 1) := by decide +kernel
theorem dL_law_1057 : decode cL_law 1057 = .ok (.iadd, 1) := by decide +kernel
theorem dL_law_1058 : decode cL_law 1058 = .ok (.iaload, 1) := by decide +kernel
theorem dL_law_1059 : decode cL_law 1059 = .ok (.aload_n 0, 1) := by decide +kernel
theorem dL_law_1060 : decode cL_law 1060 = .ok (.iload_n 3, 1) := by decide +kernel
theorem dL_law_1061 : decode cL_law 1061 = .ok (.iconst 2, 1) := by decide +kernel
theorem dL_law_1062 : decode cL_law 1062 = .ok (.iadd, 1) := by decide +kernel
theorem dL_law_1063 : decode cL_law 1063 = .ok (.iaload, 1) := by decide +kernel
theorem dL_law_1064 : decode cL_law 1064 = .ok (.invokevirtual 136, 3) := by decide +kernel
theorem dL_law_1067 : decode cL_law 1067 = .ok (.aload_n 2, 1) := by decide +kernel
theorem dL_law_1068 : decode cL_law 1068 = .ok (.aload_n 0, 1) := by decide +kernel
theorem dL_law_1069 : decode cL_law 1069 = .ok (.iload_n 3, 1) := by decide +kernel
theorem dL_law_1070 : decode cL_law 1070 = .ok (.iconst 1, 1) := by decide +kernel
theorem dL_law_1071 : decode cL_law 1071 = .ok (.iadd, 1) := by decide +kernel
theorem dL_law_1072 : decode cL_law 1072 = .ok (.iaload, 1) := by decide +kernel
theorem dL_law_1073 : decode cL_law 1073 = .ok (.aload_n 0, 1) := by decide +kernel
theorem dL_law_1074 : decode cL_law 1074 = .ok (.iload_n 3, 1) := by decide +kernel
theorem dL_law_1075 : decode cL_law 1075 = .ok (.iconst 2, 1) := by decide +kernel
theorem dL_law_1076 : decode cL_law 1076 = .ok (.iadd, 1) := by decide +kernel
theorem dL_law_1077 : decode cL_law 1077 = .ok (.iaload, 1) := by decide +kernel
theorem dL_law_1078 : decode cL_law 1078 = .ok (.invokevirtual 139, 3) := by decide +kernel
theorem dL_law_1081 : decode cL_law 1081 = .ok (.if_icmp .eq 241, 3) := by decide +kernel
theorem dL_law_1084 : decode cL_law 1084 = .ok (.iconst 0, 1) := by decide +kernel
theorem dL_law_1085 : decode cL_law 1085 = .ok (.ireturn, 1) := by decide +kernel
theorem dL_law_1086 : decode cL_law 1086 = .ok (.aload_n 1, 1) := by decide +kernel
theorem dL_law_1087 : decode cL_law 1087 = .ok (.aload_n 0, 1) := by decide +kernel
theorem dL_law_1088 : decode cL_law 1088 = .ok (.iload_n 3, 1) := by decide +kernel
theorem dL_law_1089 : decode cL_law 1089 = .ok (.iconst 1, 1) := by decide +kernel
theorem dL_law_1090 : decode cL_law 1090 = .ok (.iadd, 1) := by decide +kernel
theorem dL_law_1091 : decode cL_law 1091 = .ok (.iaload, 1) := by decide +kernel
theorem dL_law_1092 : decode cL_law 1092 = .ok (.invokevirtual 140, 3) := by decide +kernel
theorem dL_law_1095 : decode cL_law 1095 = .ok (.aload_n 2, 1) := by decide +kernel
theorem dL_law_1096 : decode cL_law 1096 = .ok (.aload_n 0, 1) := by decide +kernel
theorem dL_law_1097 : decode cL_law 1097 = .ok (.iload_n 3, 1) := by decide +kernel
theorem dL_law_1098 : decode cL_law 1098 = .ok (.iconst 1, 1) := by decide +kernel
theorem dL_law_1099 : decode cL_law 1099 = .ok (.iadd, 1) := by decide +kernel
theorem dL_law_1100 : decode cL_law 1100 = .ok (.iaload, 1) := by decide +kernel
theorem dL_law_1101 : decode cL_law 1101 = .ok (.invokevirtual 143, 3) := by decide +kernel
theorem dL_law_1104 : decode cL_law 1104 = .ok (.if_icmp .eq 218, 3) := by decide +kernel
theorem dL_law_1107 : decode cL_law 1107 = .ok (.iconst 0, 1) := by decide +kernel
theorem dL_law_1108 : decode cL_law 1108 = .ok (.ireturn, 1) := by decide +kernel
theorem dL_law_1109 : decode cL_law 1109 = .ok (.aload_n 1, 1) := by decide +kernel
theorem dL_law_1110 : decode cL_law 1110 = .ok (.aload_n 0, 1) := by decide +kernel
theorem dL_law_1111 : decode cL_law 1111 = .ok (.iload_n 3, 1) := by decide +kernel
noncomputable def CL_7 (L : Nat) (xs : Nat → Int32) : List (Nat × qOp) := [(994, qo_iload 3 1),
  (995, qo_ci 2 1),
  (996, qo_iadd),
  (997, qo_sld L xs),
  (998, qo_aload 0 1),
  (999, qo_iload 3 1),
  (1000, qo_ci 3 1),
  (1001, qo_iadd),
  (1002, qo_sld L xs),
  (1003, qo_callv [(11, S_X11_act)] 3),
  (1006, qo_aload 2 1),
  (1007, qo_aload 0 1),
  (1008, qo_iload 3 1),
  (1009, qo_ci 1 1),
  (1010, qo_iadd),
  (1011, qo_sld L xs),
  (1012, qo_aload 0 1),
  (1013, qo_iload 3 1),
  (1014, qo_ci 2 1),
  (1015, qo_iadd),
  (1016, qo_sld L xs),
  (1017, qo_aload 0 1),
  (1018, qo_iload 3 1),
  (1019, qo_ci 3 1),
  (1020, qo_iadd),
  (1021, qo_sld L xs),
  (1022, qo_callv [(12, S_X12_act)] 3),
  (1025, qo_iceq 1322),
  (1028, qo_ci 0 1),
  (1029, qo_ret (some .boolean) 1),
  (1030, qo_aload 1 1),
  (1031, qo_aload 0 1),
  (1032, qo_iload 3 1),
  (1033, qo_ci 1 1),
  (1034, qo_iadd),
  (1035, qo_sld L xs),
  (1036, qo_callv [(11, S_X11_trace)] 1),
  (1039, qo_aload 2 1),
  (1040, qo_aload 0 1),
  (1041, qo_iload 3 1),
  (1042, qo_ci 1 1),
  (1043, qo_iadd),
  (1044, qo_sld L xs),
  (1045, qo_callv [(12, S_X12_trace)] 1),
  (1048, qo_iceq 1322),
  (1051, qo_ci 0 1),
  (1052, qo_ret (some .boolean) 1),
  (1053, qo_aload 1 1),
  (1054, qo_aload 0 1),
  (1055, qo_iload 3 1),
  (1056, qo_ci 1 1),
  (1057, qo_iadd),
  (1058, qo_sld L xs),
  (1059, qo_aload 0 1),
  (1060, qo_iload 3 1),
  (1061, qo_ci 2 1),
  (1062, qo_iadd),
  (1063, qo_sld L xs),
  (1064, qo_callv [(11, S_X11_taken)] 2),
  (1067, qo_aload 2 1),
  (1068, qo_aload 0 1),
  (1069, qo_iload 3 1),
  (1070, qo_ci 1 1),
  (1071, qo_iadd),
  (1072, qo_sld L xs),
  (1073, qo_aload 0 1),
  (1074, qo_iload 3 1),
  (1075, qo_ci 2 1),
  (1076, qo_iadd),
  (1077, qo_sld L xs),
  (1078, qo_callv [(12, S_X12_taken)] 2),
  (1081, qo_iceq 1322),
  (1084, qo_ci 0 1),
  (1085, qo_ret (some .boolean) 1),
  (1086, qo_aload 1 1),
  (1087, qo_aload 0 1),
  (1088, qo_iload 3 1),
  (1089, qo_ci 1 1),
  (1090, qo_iadd),
  (1091, qo_sld L xs),
  (1092, qo_callv [(11, S_X11_count)] 1),
  (1095, qo_aload 2 1),
  (1096, qo_aload 0 1),
  (1097, qo_iload 3 1),
  (1098, qo_ci 1 1),
  (1099, qo_iadd),
  (1100, qo_sld L xs),
  (1101, qo_callv [(12, S_X12_count)] 1),
  (1104, qo_iceq 1322),
  (1107, qo_ci 0 1),
  (1108, qo_ret (some .boolean) 1),
  (1109, qo_aload 1 1),
  (1110, qo_aload 0 1),
  (1111, qo_iload 3 1)]
set_option maxRecDepth 20000 in
theorem KL_7 {X : qX} {l : Launch} {b L : Nat} {xs : Nat → Int32} {nm : String} (hL : L ≤ 3072) : ∀ q ∈ CL_7 L xs, qOkS X l b L xs 31 cL_law 4 RL nm (some .boolean) q.1 q.2 := by
  unfold CL_7
  refine qconsS (qOkS_of (qk_iload_n dL_law_994 rfl)) ?_
  refine qconsS (qOkS_of (qk_iconst dL_law_995 (by decide))) ?_
  refine qconsS (qOkS_of (qk_iadd dL_law_996)) ?_
  refine qconsS (qk_sld hL dL_law_997) ?_
  refine qconsS (qOkS_of (qk_aload_n dL_law_998 rfl)) ?_
  refine qconsS (qOkS_of (qk_iload_n dL_law_999 rfl)) ?_
  refine qconsS (qOkS_of (qk_iconst dL_law_1000 (by decide))) ?_
  refine qconsS (qOkS_of (qk_iadd dL_law_1001)) ?_
  refine qconsS (qk_sld hL dL_law_1002) ?_
  refine qconsS (qOkS_of (qk_callv (ins := fun i => .invokevirtual i) (qconsV (qrunV M_X11_act (by decide) (by decide) (by decide) rfl tw_728 tw_729 tw_730 tw_731 tw_78 ⟨by decide, by decide⟩ (by decide +kernel)) qnilV) dL_law_1003)) ?_
  refine qconsS (qOkS_of (qk_aload_n dL_law_1006 rfl)) ?_
  refine qconsS (qOkS_of (qk_aload_n dL_law_1007 rfl)) ?_
  refine qconsS (qOkS_of (qk_iload_n dL_law_1008 rfl)) ?_
  refine qconsS (qOkS_of (qk_iconst dL_law_1009 (by decide))) ?_
  refine qconsS (qOkS_of (qk_iadd dL_law_1010)) ?_
  refine qconsS (qk_sld hL dL_law_1011) ?_
  refine qconsS (qOkS_of (qk_aload_n dL_law_1012 rfl)) ?_
  refine qconsS (qOkS_of (qk_iload_n dL_law_1013 rfl)) ?_
  refine qconsS (qOkS_of (qk_iconst dL_law_1014 (by decide))) ?_
  refine qconsS (qOkS_of (qk_iadd dL_law_1015)) ?_
  refine qconsS (qk_sld hL dL_law_1016) ?_
  refine qconsS (qOkS_of (qk_aload_n dL_law_1017 rfl)) ?_
  refine qconsS (qOkS_of (qk_iload_n dL_law_1018 rfl)) ?_
  refine qconsS (qOkS_of (qk_iconst dL_law_1019 (by decide))) ?_
  refine qconsS (qOkS_of (qk_iadd dL_law_1020)) ?_
  refine qconsS (qk_sld hL dL_law_1021) ?_
  refine qconsS (qOkS_of (qk_callv (ins := fun i => .invokevirtual i) (qconsV (qrunV M_X12_act (by decide) (by decide) (by decide) rfl tw_1381 tw_1382 tw_1383 tw_1384 tw_90 ⟨by decide, by decide⟩ (by decide +kernel)) qnilV) dL_law_1022)) ?_
  refine qconsS (qOkS_of (qk_iceq dL_law_1025 (by decide))) ?_
  refine qconsS (qOkS_of (qk_iconst dL_law_1028 (by decide))) ?_
  refine qconsS (qOkS_of (qk_ret dL_law_1029 (Or.inr (Or.inl ⟨rfl, rfl⟩)))) ?_
  refine qconsS (qOkS_of (qk_aload_n dL_law_1030 rfl)) ?_
  refine qconsS (qOkS_of (qk_aload_n dL_law_1031 rfl)) ?_
  refine qconsS (qOkS_of (qk_iload_n dL_law_1032 rfl)) ?_
  refine qconsS (qOkS_of (qk_iconst dL_law_1033 (by decide))) ?_
  refine qconsS (qOkS_of (qk_iadd dL_law_1034)) ?_
  refine qconsS (qk_sld hL dL_law_1035) ?_
  refine qconsS (qOkS_of (qk_callv (ins := fun i => .invokevirtual i) (qconsV (qrunV M_X11_trace (by decide) (by decide) (by decide) rfl tw_811 tw_812 tw_813 tw_814 tw_78 ⟨by decide, by decide⟩ (by decide +kernel)) qnilV) dL_law_1036)) ?_
  refine qconsS (qOkS_of (qk_aload_n dL_law_1039 rfl)) ?_
  refine qconsS (qOkS_of (qk_aload_n dL_law_1040 rfl)) ?_
  refine qconsS (qOkS_of (qk_iload_n dL_law_1041 rfl)) ?_
  refine qconsS (qOkS_of (qk_iconst dL_law_1042 (by decide))) ?_
  refine qconsS (qOkS_of (qk_iadd dL_law_1043)) ?_
  refine qconsS (qk_sld hL dL_law_1044) ?_
  refine qconsS (qOkS_of (qk_callv (ins := fun i => .invokevirtual i) (qconsV (qrunV M_X12_trace (by decide) (by decide) (by decide) rfl tw_1417 tw_1418 tw_1419 tw_1420 tw_90 ⟨by decide, by decide⟩ (by decide +kernel)) qnilV) dL_law_1045)) ?_
  refine qconsS (qOkS_of (qk_iceq dL_law_1048 (by decide))) ?_
  refine qconsS (qOkS_of (qk_iconst dL_law_1051 (by decide))) ?_
  refine qconsS (qOkS_of (qk_ret dL_law_1052 (Or.inr (Or.inl ⟨rfl, rfl⟩)))) ?_
  refine qconsS (qOkS_of (qk_aload_n dL_law_1053 rfl)) ?_
  refine qconsS (qOkS_of (qk_aload_n dL_law_1054 rfl)) ?_
  refine qconsS (qOkS_of (qk_iload_n dL_law_1055 rfl)) ?_
  refine qconsS (qOkS_of (qk_iconst dL_law_1056 (by decide))) ?_
  refine qconsS (qOkS_of (qk_iadd dL_law_1057)) ?_
  refine qconsS (qk_sld hL dL_law_1058) ?_
  refine qconsS (qOkS_of (qk_aload_n dL_law_1059 rfl)) ?_
  refine qconsS (qOkS_of (qk_iload_n dL_law_1060 rfl)) ?_
  refine qconsS (qOkS_of (qk_iconst dL_law_1061 (by decide))) ?_
  refine qconsS (qOkS_of (qk_iadd dL_law_1062)) ?_
  refine qconsS (qk_sld hL dL_law_1063) ?_
  refine qconsS (qOkS_of (qk_callv (ins := fun i => .invokevirtual i) (qconsV (qrunV M_X11_taken (by decide) (by decide) (by decide) rfl tw_815 tw_816 tw_817 tw_818 tw_78 ⟨by decide, by decide⟩ (by decide +kernel)) qnilV) dL_law_1064)) ?_
  refine qconsS (qOkS_of (qk_aload_n dL_law_1067 rfl)) ?_
  refine qconsS (qOkS_of (qk_aload_n dL_law_1068 rfl)) ?_
  refine qconsS (qOkS_of (qk_iload_n dL_law_1069 rfl)) ?_
  refine qconsS (qOkS_of (qk_iconst dL_law_1070 (by decide))) ?_
  refine qconsS (qOkS_of (qk_iadd dL_law_1071)) ?_
  refine qconsS (qk_sld hL dL_law_1072) ?_
  refine qconsS (qOkS_of (qk_aload_n dL_law_1073 rfl)) ?_
  refine qconsS (qOkS_of (qk_iload_n dL_law_1074 rfl)) ?_
  refine qconsS (qOkS_of (qk_iconst dL_law_1075 (by decide))) ?_
  refine qconsS (qOkS_of (qk_iadd dL_law_1076)) ?_
  refine qconsS (qk_sld hL dL_law_1077) ?_
  refine qconsS (qOkS_of (qk_callv (ins := fun i => .invokevirtual i) (qconsV (qrunV M_X12_taken (by decide) (by decide) (by decide) rfl tw_1421 tw_1422 tw_1423 tw_1424 tw_90 ⟨by decide, by decide⟩ (by decide +kernel)) qnilV) dL_law_1078)) ?_
  refine qconsS (qOkS_of (qk_iceq dL_law_1081 (by decide))) ?_
  refine qconsS (qOkS_of (qk_iconst dL_law_1084 (by decide))) ?_
  refine qconsS (qOkS_of (qk_ret dL_law_1085 (Or.inr (Or.inl ⟨rfl, rfl⟩)))) ?_
  refine qconsS (qOkS_of (qk_aload_n dL_law_1086 rfl)) ?_
  refine qconsS (qOkS_of (qk_aload_n dL_law_1087 rfl)) ?_
  refine qconsS (qOkS_of (qk_iload_n dL_law_1088 rfl)) ?_
  refine qconsS (qOkS_of (qk_iconst dL_law_1089 (by decide))) ?_
  refine qconsS (qOkS_of (qk_iadd dL_law_1090)) ?_
  refine qconsS (qk_sld hL dL_law_1091) ?_
  refine qconsS (qOkS_of (qk_callv (ins := fun i => .invokevirtual i) (qconsV (qrunV M_X11_count (by decide) (by decide) (by decide) rfl tw_821 tw_822 tw_823 tw_824 tw_78 ⟨by decide, by decide⟩ (by decide +kernel)) qnilV) dL_law_1092)) ?_
  refine qconsS (qOkS_of (qk_aload_n dL_law_1095 rfl)) ?_
  refine qconsS (qOkS_of (qk_aload_n dL_law_1096 rfl)) ?_
  refine qconsS (qOkS_of (qk_iload_n dL_law_1097 rfl)) ?_
  refine qconsS (qOkS_of (qk_iconst dL_law_1098 (by decide))) ?_
  refine qconsS (qOkS_of (qk_iadd dL_law_1099)) ?_
  refine qconsS (qk_sld hL dL_law_1100) ?_
  refine qconsS (qOkS_of (qk_callv (ins := fun i => .invokevirtual i) (qconsV (qrunV M_X12_count (by decide) (by decide) (by decide) rfl tw_1425 tw_1426 tw_1427 tw_1428 tw_90 ⟨by decide, by decide⟩ (by decide +kernel)) qnilV) dL_law_1101)) ?_
  refine qconsS (qOkS_of (qk_iceq dL_law_1104 (by decide))) ?_
  refine qconsS (qOkS_of (qk_iconst dL_law_1107 (by decide))) ?_
  refine qconsS (qOkS_of (qk_ret dL_law_1108 (Or.inr (Or.inl ⟨rfl, rfl⟩)))) ?_
  refine qconsS (qOkS_of (qk_aload_n dL_law_1109 rfl)) ?_
  refine qconsS (qOkS_of (qk_aload_n dL_law_1110 rfl)) ?_
  refine qconsS (qOkS_of (qk_iload_n dL_law_1111 rfl)) ?_
  exact qnilS
