theorem dX12_putBack_0 : decode cX12_putBack 0 = .ok (.aload_n 0, 1) := by decide +kernel
theorem dX12_putBack_1 : decode cX12_putBack 1 = .ok (.ldc 99, 2) := by decide +kernel
theorem dX12_putBack_3 : decode cX12_putBack 3 = .ok (.putfield 100, 3) := by decide +kernel
theorem dX12_putBack_6 : decode cX12_putBack 6 = .ok (.aload_n 0, 1) := by decide +kernel
theorem dX12_putBack_7 : decode cX12_putBack 7 = .ok (.sipush 9999, 3) := by decide +kernel
theorem dX12_putBack_10 : decode cX12_putBack 10 = .ok (.putfield 103, 3) := by decide +kernel
theorem dX12_putBack_13 : decode cX12_putBack 13 = .ok (.aload_n 0, 1) := by decide +kernel
theorem dX12_putBack_14 : decode cX12_putBack 14 = .ok (.iconst (-1), 1) := by decide +kernel
theorem dX12_putBack_15 : decode cX12_putBack 15 = .ok (.putfield 92, 3) := by decide +kernel
theorem dX12_putBack_18 : decode cX12_putBack 18 = .ok (.aload_n 0, 1) := by decide +kernel
theorem dX12_putBack_19 : decode cX12_putBack 19 = .ok (.aload_n 0, 1) := by decide +kernel
theorem dX12_putBack_20 : decode cX12_putBack 20 = .ok (.getfield 106, 3) := by decide +kernel
theorem dX12_putBack_23 : decode cX12_putBack 23 = .ok (.putfield 13, 3) := by decide +kernel
theorem dX12_putBack_26 : decode cX12_putBack 26 = .ok (.aload_n 0, 1) := by decide +kernel
theorem dX12_putBack_27 : decode cX12_putBack 27 = .ok (.aload_n 0, 1) := by decide +kernel
theorem dX12_putBack_28 : decode cX12_putBack 28 = .ok (.getfield 109, 3) := by decide +kernel
theorem dX12_putBack_31 : decode cX12_putBack 31 = .ok (.putfield 16, 3) := by decide +kernel
theorem dX12_putBack_34 : decode cX12_putBack 34 = .ok (.iconst 0, 1) := by decide +kernel
theorem dX12_putBack_35 : decode cX12_putBack 35 = .ok (.istore_n 1, 1) := by decide +kernel
theorem dX12_putBack_36 : decode cX12_putBack 36 = .ok (.iload_n 1, 1) := by decide +kernel
theorem dX12_putBack_37 : decode cX12_putBack 37 = .ok (.iconst 5, 1) := by decide +kernel
theorem dX12_putBack_38 : decode cX12_putBack 38 = .ok (.if_icmp .ge 21, 3) := by decide +kernel
theorem dX12_putBack_41 : decode cX12_putBack 41 = .ok (.aload_n 0, 1) := by decide +kernel
theorem dX12_putBack_42 : decode cX12_putBack 42 = .ok (.getfield 19, 3) := by decide +kernel
theorem dX12_putBack_45 : decode cX12_putBack 45 = .ok (.iload_n 1, 1) := by decide +kernel
theorem dX12_putBack_46 : decode cX12_putBack 46 = .ok (.aload_n 0, 1) := by decide +kernel
theorem dX12_putBack_47 : decode cX12_putBack 47 = .ok (.getfield 112, 3) := by decide +kernel
theorem dX12_putBack_50 : decode cX12_putBack 50 = .ok (.iload_n 1, 1) := by decide +kernel
theorem dX12_putBack_51 : decode cX12_putBack 51 = .ok (.iaload, 1) := by decide +kernel
theorem dX12_putBack_52 : decode cX12_putBack 52 = .ok (.iastore, 1) := by decide +kernel
theorem dX12_putBack_53 : decode cX12_putBack 53 = .ok (.iinc 1 1, 3) := by decide +kernel
theorem dX12_putBack_56 : decode cX12_putBack 56 = .ok (.goto (-20), 3) := by decide +kernel
theorem dX12_putBack_59 : decode cX12_putBack 59 = .ok (.iconst 0, 1) := by decide +kernel
theorem dX12_putBack_60 : decode cX12_putBack 60 = .ok (.istore_n 1, 1) := by decide +kernel
theorem dX12_putBack_61 : decode cX12_putBack 61 = .ok (.iload_n 1, 1) := by decide +kernel
theorem dX12_putBack_62 : decode cX12_putBack 62 = .ok (.bipush 6, 2) := by decide +kernel
theorem dX12_putBack_64 : decode cX12_putBack 64 = .ok (.if_icmp .ge 45, 3) := by decide +kernel
theorem dX12_putBack_67 : decode cX12_putBack 67 = .ok (.aload_n 0, 1) := by decide +kernel
theorem dX12_putBack_68 : decode cX12_putBack 68 = .ok (.getfield 29, 3) := by decide +kernel
theorem dX12_putBack_71 : decode cX12_putBack 71 = .ok (.iload_n 1, 1) := by decide +kernel
theorem dX12_putBack_72 : decode cX12_putBack 72 = .ok (.aload_n 0, 1) := by decide +kernel
theorem dX12_putBack_73 : decode cX12_putBack 73 = .ok (.getfield 115, 3) := by decide +kernel
theorem dX12_putBack_76 : decode cX12_putBack 76 = .ok (.iload_n 1, 1) := by decide +kernel
theorem dX12_putBack_77 : decode cX12_putBack 77 = .ok (.iaload, 1) := by decide +kernel
theorem dX12_putBack_78 : decode cX12_putBack 78 = .ok (.iastore, 1) := by decide +kernel
theorem dX12_putBack_79 : decode cX12_putBack 79 = .ok (.aload_n 0, 1) := by decide +kernel
theorem dX12_putBack_80 : decode cX12_putBack 80 = .ok (.getfield 32, 3) := by decide +kernel
theorem dX12_putBack_83 : decode cX12_putBack 83 = .ok (.iload_n 1, 1) := by decide +kernel
theorem dX12_putBack_84 : decode cX12_putBack 84 = .ok (.aload_n 0, 1) := by decide +kernel
theorem dX12_putBack_85 : decode cX12_putBack 85 = .ok (.getfield 118, 3) := by decide +kernel
theorem dX12_putBack_88 : decode cX12_putBack 88 = .ok (.iload_n 1, 1) := by decide +kernel
theorem dX12_putBack_89 : decode cX12_putBack 89 = .ok (.iaload, 1) := by decide +kernel
theorem dX12_putBack_90 : decode cX12_putBack 90 = .ok (.iastore, 1) := by decide +kernel
theorem dX12_putBack_91 : decode cX12_putBack 91 = .ok (.aload_n 0, 1) := by decide +kernel
theorem dX12_putBack_92 : decode cX12_putBack 92 = .ok (.getfield 35, 3) := by decide +kernel
theorem dX12_putBack_95 : decode cX12_putBack 95 = .ok (.iload_n 1, 1) := by decide +kernel
theorem dX12_putBack_96 : decode cX12_putBack 96 = .ok (.aload_n 0, 1) := by decide +kernel
theorem dX12_putBack_97 : decode cX12_putBack 97 = .ok (.getfield 121, 3) := by decide +kernel
theorem dX12_putBack_100 : decode cX12_putBack 100 = .ok (.iload_n 1, 1) := by decide +kernel
theorem dX12_putBack_101 : decode cX12_putBack 101 = .ok (.iaload, 1) := by decide +kernel
theorem dX12_putBack_102 : decode cX12_putBack 102 = .ok (.iastore, 1) := by decide +kernel
theorem dX12_putBack_103 : decode cX12_putBack 103 = .ok (.iinc 1 1, 3) := by decide +kernel
theorem dX12_putBack_106 : decode cX12_putBack 106 = .ok (.goto (-45), 3) := by decide +kernel
theorem dX12_putBack_109 : decode cX12_putBack 109 = .ok (.return_, 1) := by decide +kernel
noncomputable def C_X12_putBack : List (Nat × qOp) := [(0, qo_aload 0 1),
  (1, qo_ci 99999 2),
  (3, qo_putI 12 29),
  (6, qo_aload 0 1),
  (7, qo_ci 9999 3),
  (10, qo_putI 12 30),
  (13, qo_aload 0 1),
  (14, qo_ci (-1) 1),
  (15, qo_putI 12 27),
  (18, qo_aload 0 1),
  (19, qo_aload 0 1),
  (20, qo_getI 12 31),
  (23, qo_putI 12 1),
  (26, qo_aload 0 1),
  (27, qo_aload 0 1),
  (28, qo_getI 12 32),
  (31, qo_putI 12 2),
  (34, qo_ci 0 1),
  (35, qo_istore 1 1),
  (36, qo_iload 1 1),
  (37, qo_ci 5 1),
  (38, qo_icge 59),
  (41, qo_aload 0 1),
  (42, qo_getR 12 3),
  (45, qo_iload 1 1),
  (46, qo_aload 0 1),
  (47, qo_getR 12 33),
  (50, qo_iload 1 1),
  (51, qo_iaload),
  (52, qo_iastore),
  (53, qo_iinc 1 1),
  (56, qo_goto 36),
  (59, qo_ci 0 1),
  (60, qo_istore 1 1),
  (61, qo_iload 1 1),
  (62, qo_ci 6 2),
  (64, qo_icge 109),
  (67, qo_aload 0 1),
  (68, qo_getR 12 6),
  (71, qo_iload 1 1),
  (72, qo_aload 0 1),
  (73, qo_getR 12 34),
  (76, qo_iload 1 1),
  (77, qo_iaload),
  (78, qo_iastore),
  (79, qo_aload 0 1),
  (80, qo_getR 12 7),
  (83, qo_iload 1 1),
  (84, qo_aload 0 1),
  (85, qo_getR 12 35),
  (88, qo_iload 1 1),
  (89, qo_iaload),
  (90, qo_iastore),
  (91, qo_aload 0 1),
  (92, qo_getR 12 8),
  (95, qo_iload 1 1),
  (96, qo_aload 0 1),
  (97, qo_getR 12 36),
  (100, qo_iload 1 1),
  (101, qo_iaload),
  (102, qo_iastore),
  (103, qo_iinc 1 1),
  (106, qo_goto 61),
  (109, qo_ret none 0)]
noncomputable def S_X12_putBack : qSem := qM 2 C_X12_putBack
set_option maxRecDepth 20000 in
theorem K_X12_putBack {X : qX} {l : Launch} : ∀ q ∈ C_X12_putBack, qOk X l 1 cX12_putBack 2 RX12 "putBack" none q.1 q.2 := by
  unfold C_X12_putBack
  refine qcons (qk_aload_n dX12_putBack_0 rfl) ?_
  refine qcons (qk_ldc dX12_putBack_1 tw_851 (by decide)) ?_
  refine qcons (qk_putI (ty := .int) fd_X12_100 tyX12_ok nmX12 (Or.inl rfl) kd_12_29 (tyX12_ok 29 (by decide)) dX12_putBack_3) ?_
  refine qcons (qk_aload_n dX12_putBack_6 rfl) ?_
  refine qcons (qk_sipush dX12_putBack_7 (by decide) (by decide)) ?_
  refine qcons (qk_putI (ty := .int) fd_X12_103 tyX12_ok nmX12 (Or.inl rfl) kd_12_30 (tyX12_ok 30 (by decide)) dX12_putBack_10) ?_
  refine qcons (qk_aload_n dX12_putBack_13 rfl) ?_
  refine qcons (qk_iconst dX12_putBack_14 (by decide)) ?_
  refine qcons (qk_putI (ty := .int) fd_X12_92 tyX12_ok nmX12 (Or.inl rfl) kd_12_27 (tyX12_ok 27 (by decide)) dX12_putBack_15) ?_
  refine qcons (qk_aload_n dX12_putBack_18 rfl) ?_
  refine qcons (qk_aload_n dX12_putBack_19 rfl) ?_
  refine qcons (qk_getI fd_X12_106 kd_12_31 dX12_putBack_20) ?_
  refine qcons (qk_putI (ty := .int) fd_X12_13 tyX12_ok nmX12 (Or.inl rfl) kd_12_1 (tyX12_ok 1 (by decide)) dX12_putBack_23) ?_
  refine qcons (qk_aload_n dX12_putBack_26 rfl) ?_
  refine qcons (qk_aload_n dX12_putBack_27 rfl) ?_
  refine qcons (qk_getI fd_X12_109 kd_12_32 dX12_putBack_28) ?_
  refine qcons (qk_putI (ty := .int) fd_X12_16 tyX12_ok nmX12 (Or.inl rfl) kd_12_2 (tyX12_ok 2 (by decide)) dX12_putBack_31) ?_
  refine qcons (qk_iconst dX12_putBack_34 (by decide)) ?_
  refine qcons (qk_istore_n dX12_putBack_35 rfl) ?_
  refine qcons (qk_iload_n dX12_putBack_36 rfl) ?_
  refine qcons (qk_iconst dX12_putBack_37 (by decide)) ?_
  refine qcons (qk_icge dX12_putBack_38 (by decide)) ?_
  refine qcons (qk_aload_n dX12_putBack_41 rfl) ?_
  refine qcons (qk_getR fd_X12_19 kd_12_3 dX12_putBack_42) ?_
  refine qcons (qk_iload_n dX12_putBack_45 rfl) ?_
  refine qcons (qk_aload_n dX12_putBack_46 rfl) ?_
  refine qcons (qk_getR fd_X12_112 kd_12_33 dX12_putBack_47) ?_
  refine qcons (qk_iload_n dX12_putBack_50 rfl) ?_
  refine qcons (qk_iaload dX12_putBack_51) ?_
  refine qcons (qk_iastore dX12_putBack_52) ?_
  refine qcons (qk_iinc dX12_putBack_53) ?_
  refine qcons (qk_goto dX12_putBack_56 (by decide)) ?_
  refine qcons (qk_iconst dX12_putBack_59 (by decide)) ?_
  refine qcons (qk_istore_n dX12_putBack_60 rfl) ?_
  refine qcons (qk_iload_n dX12_putBack_61 rfl) ?_
  refine qcons (qk_bipush dX12_putBack_62 (by decide) (by decide)) ?_
  refine qcons (qk_icge dX12_putBack_64 (by decide)) ?_
  refine qcons (qk_aload_n dX12_putBack_67 rfl) ?_
  refine qcons (qk_getR fd_X12_29 kd_12_6 dX12_putBack_68) ?_
  refine qcons (qk_iload_n dX12_putBack_71 rfl) ?_
  refine qcons (qk_aload_n dX12_putBack_72 rfl) ?_
  refine qcons (qk_getR fd_X12_115 kd_12_34 dX12_putBack_73) ?_
  refine qcons (qk_iload_n dX12_putBack_76 rfl) ?_
  refine qcons (qk_iaload dX12_putBack_77) ?_
  refine qcons (qk_iastore dX12_putBack_78) ?_
  refine qcons (qk_aload_n dX12_putBack_79 rfl) ?_
  refine qcons (qk_getR fd_X12_32 kd_12_7 dX12_putBack_80) ?_
  refine qcons (qk_iload_n dX12_putBack_83 rfl) ?_
  refine qcons (qk_aload_n dX12_putBack_84 rfl) ?_
  refine qcons (qk_getR fd_X12_118 kd_12_35 dX12_putBack_85) ?_
  refine qcons (qk_iload_n dX12_putBack_88 rfl) ?_
  refine qcons (qk_iaload dX12_putBack_89) ?_
  refine qcons (qk_iastore dX12_putBack_90) ?_
  refine qcons (qk_aload_n dX12_putBack_91 rfl) ?_
  refine qcons (qk_getR fd_X12_35 kd_12_8 dX12_putBack_92) ?_
  refine qcons (qk_iload_n dX12_putBack_95 rfl) ?_
  refine qcons (qk_aload_n dX12_putBack_96 rfl) ?_
  refine qcons (qk_getR fd_X12_121 kd_12_36 dX12_putBack_97) ?_
  refine qcons (qk_iload_n dX12_putBack_100 rfl) ?_
  refine qcons (qk_iaload dX12_putBack_101) ?_
  refine qcons (qk_iastore dX12_putBack_102) ?_
  refine qcons (qk_iinc dX12_putBack_103) ?_
  refine qcons (qk_goto dX12_putBack_106 (by decide)) ?_
  refine qcons (qk_ret dX12_putBack_109 (Or.inl ⟨rfl, rfl⟩)) ?_
  exact qnil
theorem M_X12_putBack {X : qX} {l : Launch} : qMet X l 1 yX12_putBack cX12_putBack 2 none S_X12_putBack := qmet_of K_X12_putBack (by decide) rfl rfl
theorem dX12_on_0 : decode cX12_on 0 = .ok (.aload_n 0, 1) := by decide +kernel
theorem dX12_on_1 : decode cX12_on 1 = .ok (.iload_n 2, 1) := by decide +kernel
theorem dX12_on_2 : decode cX12_on 2 = .ok (.bipush 10, 2) := by decide +kernel
theorem dX12_on_4 : decode cX12_on 4 = .ok (.bipush 14, 2) := by decide +kernel
theorem dX12_on_6 : decode cX12_on 6 = .ok (.invokevirtual 240, 3) := by decide +kernel
theorem dX12_on_9 : decode cX12_on 9 = .ok (.ifCond .ne 39, 3) := by decide +kernel
theorem dX12_on_12 : decode cX12_on 12 = .ok (.aload_n 0, 1) := by decide +kernel
theorem dX12_on_13 : decode cX12_on 13 = .ok (.iload_n 2, 1) := by decide +kernel
theorem dX12_on_14 : decode cX12_on 14 = .ok (.bipush 20, 2) := by decide +kernel
theorem dX12_on_16 : decode cX12_on 16 = .ok (.bipush 19, 2) := by decide +kernel
theorem dX12_on_18 : decode cX12_on 18 = .ok (.aload_n 0, 1) := by decide +kernel
theorem dX12_on_19 : decode cX12_on 19 = .ok (.getfield 7, 3) := by decide +kernel
theorem dX12_on_22 : decode cX12_on 22 = .ok (.iadd, 1) := by decide +kernel
theorem dX12_on_23 : decode cX12_on 23 = .ok (.invokevirtual 240, 3) := by decide +kernel
theorem dX12_on_26 : decode cX12_on 26 = .ok (.ifCond .ne 22, 3) := by decide +kernel
theorem dX12_on_29 : decode cX12_on 29 = .ok (.aload_n 0, 1) := by decide +kernel
theorem dX12_on_30 : decode cX12_on 30 = .ok (.iload_n 2, 1) := by decide +kernel
theorem dX12_on_31 : decode cX12_on 31 = .ok (.bipush 30, 2) := by decide +kernel
theorem dX12_on_33 : decode cX12_on 33 = .ok (.bipush 29, 2) := by decide +kernel
theorem dX12_on_35 : decode cX12_on 35 = .ok (.aload_n 0, 1) := by decide +kernel
theorem dX12_on_36 : decode cX12_on 36 = .ok (.getfield 7, 3) := by decide +kernel
theorem dX12_on_39 : decode cX12_on 39 = .ok (.iadd, 1) := by decide +kernel
theorem dX12_on_40 : decode cX12_on 40 = .ok (.invokevirtual 240, 3) := by decide +kernel
theorem dX12_on_43 : decode cX12_on 43 = .ok (.ifCond .ne 5, 3) := by decide +kernel
theorem dX12_on_46 : decode cX12_on 46 = .ok (.iconst (-1), 1) := by decide +kernel
theorem dX12_on_47 : decode cX12_on 47 = .ok (.ireturn, 1) := by decide +kernel
theorem dX12_on_48 : decode cX12_on 48 = .ok (.aload_n 0, 1) := by decide +kernel
theorem dX12_on_49 : decode cX12_on 49 = .ok (.iload_n 1, 1) := by decide +kernel
theorem dX12_on_50 : decode cX12_on 50 = .ok (.invokevirtual 351, 3) := by decide +kernel
theorem dX12_on_53 : decode cX12_on 53 = .ok (.ifCond .ne 6, 3) := by decide +kernel
theorem dX12_on_56 : decode cX12_on 56 = .ok (.bipush (-2), 2) := by decide +kernel
theorem dX12_on_58 : decode cX12_on 58 = .ok (.ireturn, 1) := by decide +kernel
theorem dX12_on_59 : decode cX12_on 59 = .ok (.aload_n 0, 1) := by decide +kernel
theorem dX12_on_60 : decode cX12_on 60 = .ok (.invokevirtual 358, 3) := by decide +kernel
theorem dX12_on_63 : decode cX12_on 63 = .ok (.aload_n 0, 1) := by decide +kernel
theorem dX12_on_64 : decode cX12_on 64 = .ok (.iload_n 1, 1) := by decide +kernel
theorem dX12_on_65 : decode cX12_on 65 = .ok (.invokevirtual 354, 3) := by decide +kernel
theorem dX12_on_68 : decode cX12_on 68 = .ok (.iload_n 2, 1) := by decide +kernel
theorem dX12_on_69 : decode cX12_on 69 = .ok (.bipush 20, 2) := by decide +kernel
theorem dX12_on_71 : decode cX12_on 71 = .ok (.if_icmp .ge 15, 3) := by decide +kernel
theorem dX12_on_74 : decode cX12_on 74 = .ok (.aload_n 0, 1) := by decide +kernel
theorem dX12_on_75 : decode cX12_on 75 = .ok (.getfield 19, 3) := by decide +kernel
theorem dX12_on_78 : decode cX12_on 78 = .ok (.iload_n 2, 1) := by decide +kernel
theorem dX12_on_79 : decode cX12_on 79 = .ok (.bipush 10, 2) := by decide +kernel
theorem dX12_on_81 : decode cX12_on 81 = .ok (.isub, 1) := by decide +kernel
theorem dX12_on_82 : decode cX12_on 82 = .ok (.iaload, 1) := by decide +kernel
theorem dX12_on_83 : decode cX12_on 83 = .ok (.goto 30, 3) := by decide +kernel
theorem dX12_on_86 : decode cX12_on 86 = .ok (.iload_n 2, 1) := by decide +kernel
theorem dX12_on_87 : decode cX12_on 87 = .ok (.bipush 30, 2) := by decide +kernel
theorem dX12_on_89 : decode cX12_on 89 = .ok (.if_icmp .ge 15, 3) := by decide +kernel
theorem dX12_on_92 : decode cX12_on 92 = .ok (.aload_n 0, 1) := by decide +kernel
theorem dX12_on_93 : decode cX12_on 93 = .ok (.getfield 32, 3) := by decide +kernel
theorem dX12_on_96 : decode cX12_on 96 = .ok (.iload_n 2, 1) := by decide +kernel
theorem dX12_on_97 : decode cX12_on 97 = .ok (.bipush 20, 2) := by decide +kernel
theorem dX12_on_99 : decode cX12_on 99 = .ok (.isub, 1) := by decide +kernel
theorem dX12_on_100 : decode cX12_on 100 = .ok (.iaload, 1) := by decide +kernel
theorem dX12_on_101 : decode cX12_on 101 = .ok (.goto 12, 3) := by decide +kernel
theorem dX12_on_104 : decode cX12_on 104 = .ok (.aload_n 0, 1) := by decide +kernel
theorem dX12_on_105 : decode cX12_on 105 = .ok (.getfield 35, 3) := by decide +kernel
theorem dX12_on_108 : decode cX12_on 108 = .ok (.iload_n 2, 1) := by decide +kernel
theorem dX12_on_109 : decode cX12_on 109 = .ok (.bipush 30, 2) := by decide +kernel
theorem dX12_on_111 : decode cX12_on 111 = .ok (.isub, 1) := by decide +kernel
theorem dX12_on_112 : decode cX12_on 112 = .ok (.iaload, 1) := by decide +kernel
theorem dX12_on_113 : decode cX12_on 113 = .ok (.istore_n 3, 1) := by decide +kernel
theorem dX12_on_114 : decode cX12_on 114 = .ok (.aload_n 0, 1) := by decide +kernel
theorem dX12_on_115 : decode cX12_on 115 = .ok (.invokevirtual 361, 3) := by decide +kernel
theorem dX12_on_118 : decode cX12_on 118 = .ok (.iload_n 3, 1) := by decide +kernel
theorem dX12_on_119 : decode cX12_on 119 = .ok (.ireturn, 1) := by decide +kernel
noncomputable def C_X12_on : List (Nat × qOp) := [(0, qo_aload 0 1),
  (1, qo_iload 2 1),
  (2, qo_ci 10 2),
  (4, qo_ci 14 2),
  (6, qo_callv [(12, S_X12_in)] 3),
  (9, qo_ifne 48),
  (12, qo_aload 0 1),
  (13, qo_iload 2 1),
  (14, qo_ci 20 2),
  (16, qo_ci 19 2),
  (18, qo_aload 0 1),
  (19, qo_getI 12 0),
  (22, qo_iadd),
  (23, qo_callv [(12, S_X12_in)] 3),
  (26, qo_ifne 48),
  (29, qo_aload 0 1),
  (30, qo_iload 2 1),
  (31, qo_ci 30 2),
  (33, qo_ci 29 2),
  (35, qo_aload 0 1),
  (36, qo_getI 12 0),
  (39, qo_iadd),
  (40, qo_callv [(12, S_X12_in)] 3),
  (43, qo_ifne 48),
  (46, qo_ci (-1) 1),
  (47, qo_ret (some .int) 1),
  (48, qo_aload 0 1),
  (49, qo_iload 1 1),
  (50, qo_callv [(12, S_X12_isMinutes)] 1),
  (53, qo_ifne 59),
  (56, qo_ci (-2) 2),
  (58, qo_ret (some .int) 1),
  (59, qo_aload 0 1),
  (60, qo_callv [(12, S_X12_save)] 0),
  (63, qo_aload 0 1),
  (64, qo_iload 1 1),
  (65, qo_callv [(12, S_X12_goMinutes)] 1),
  (68, qo_iload 2 1),
  (69, qo_ci 20 2),
  (71, qo_icge 86),
  (74, qo_aload 0 1),
  (75, qo_getR 12 3),
  (78, qo_iload 2 1),
  (79, qo_ci 10 2),
  (81, qo_isub),
  (82, qo_iaload),
  (83, qo_goto 113),
  (86, qo_iload 2 1),
  (87, qo_ci 30 2),
  (89, qo_icge 104),
  (92, qo_aload 0 1),
  (93, qo_getR 12 7),
  (96, qo_iload 2 1),
  (97, qo_ci 20 2),
  (99, qo_isub),
  (100, qo_iaload),
  (101, qo_goto 113),
  (104, qo_aload 0 1),
  (105, qo_getR 12 8),
  (108, qo_iload 2 1),
  (109, qo_ci 30 2),
  (111, qo_isub),
  (112, qo_iaload),
  (113, qo_istore 3 1),
  (114, qo_aload 0 1),
  (115, qo_callv [(12, S_X12_putBack)] 0),
  (118, qo_iload 3 1),
  (119, qo_ret (some .int) 1)]
noncomputable def S_X12_on : qSem := qM 4 C_X12_on
set_option maxRecDepth 20000 in
theorem K_X12_on {X : qX} {l : Launch} : ∀ q ∈ C_X12_on, qOk X l 9 cX12_on 4 RX12 "on" (some .int) q.1 q.2 := by
  unfold C_X12_on
  refine qcons (qk_aload_n dX12_on_0 rfl) ?_
  refine qcons (qk_iload_n dX12_on_1 rfl) ?_
  refine qcons (qk_bipush dX12_on_2 (by decide) (by decide)) ?_
  refine qcons (qk_bipush dX12_on_4 (by decide) (by decide)) ?_
  refine qcons (qk_callv (ins := fun i => .invokevirtual i) (qconsV (qrunV M_X12_in (by decide) (by decide) (by decide) rfl tw_1082 tw_1084 tw_20 tw_1085 tw_90 ⟨by decide, by decide⟩ (by decide +kernel)) qnilV) dX12_on_6) ?_
  refine qcons (qk_ifne dX12_on_9 (by decide)) ?_
  refine qcons (qk_aload_n dX12_on_12 rfl) ?_
  refine qcons (qk_iload_n dX12_on_13 rfl) ?_
  refine qcons (qk_bipush dX12_on_14 (by decide) (by decide)) ?_
  refine qcons (qk_bipush dX12_on_16 (by decide) (by decide)) ?_
  refine qcons (qk_aload_n dX12_on_18 rfl) ?_
  refine qcons (qk_getI fd_X12_7 kd_12_0 dX12_on_19) ?_
  refine qcons (qk_iadd dX12_on_22) ?_
  refine qcons (qk_callv (ins := fun i => .invokevirtual i) (qconsV (qrunV M_X12_in (by decide) (by decide) (by decide) rfl tw_1082 tw_1084 tw_20 tw_1085 tw_90 ⟨by decide, by decide⟩ (by decide +kernel)) qnilV) dX12_on_23) ?_
  refine qcons (qk_ifne dX12_on_26 (by decide)) ?_
  refine qcons (qk_aload_n dX12_on_29 rfl) ?_
  refine qcons (qk_iload_n dX12_on_30 rfl) ?_
  refine qcons (qk_bipush dX12_on_31 (by decide) (by decide)) ?_
  refine qcons (qk_bipush dX12_on_33 (by decide) (by decide)) ?_
  refine qcons (qk_aload_n dX12_on_35 rfl) ?_
  refine qcons (qk_getI fd_X12_7 kd_12_0 dX12_on_36) ?_
  refine qcons (qk_iadd dX12_on_39) ?_
  refine qcons (qk_callv (ins := fun i => .invokevirtual i) (qconsV (qrunV M_X12_in (by decide) (by decide) (by decide) rfl tw_1082 tw_1084 tw_20 tw_1085 tw_90 ⟨by decide, by decide⟩ (by decide +kernel)) qnilV) dX12_on_40) ?_
  refine qcons (qk_ifne dX12_on_43 (by decide)) ?_
  refine qcons (qk_iconst dX12_on_46 (by decide)) ?_
  refine qcons (qk_ret dX12_on_47 (Or.inr (Or.inl ⟨rfl, rfl⟩))) ?_
  refine qcons (qk_aload_n dX12_on_48 rfl) ?_
  refine qcons (qk_iload_n dX12_on_49 rfl) ?_
  refine qcons (qk_callv (ins := fun i => .invokevirtual i) (qconsV (qrunV M_X12_isMinutes (by decide) (by decide) (by decide) rfl tw_1246 tw_1248 tw_52 tw_1249 tw_90 ⟨by decide, by decide⟩ (by decide +kernel)) qnilV) dX12_on_50) ?_
  refine qcons (qk_ifne dX12_on_53 (by decide)) ?_
  refine qcons (qk_bipush dX12_on_56 (by decide) (by decide)) ?_
  refine qcons (qk_ret dX12_on_58 (Or.inr (Or.inl ⟨rfl, rfl⟩))) ?_
  refine qcons (qk_aload_n dX12_on_59 rfl) ?_
  refine qcons (qk_callv (ins := fun i => .invokevirtual i) (qconsV (qrunV M_X12_save (by decide) (by decide) (by decide) rfl tw_1266 tw_1268 tw_56 tw_1269 tw_90 ⟨by decide, by decide⟩ (by decide +kernel)) qnilV) dX12_on_60) ?_
  refine qcons (qk_aload_n dX12_on_63 rfl) ?_
  refine qcons (qk_iload_n dX12_on_64 rfl) ?_
  refine qcons (qk_callv (ins := fun i => .invokevirtual i) (qconsV (qrunV M_X12_goMinutes (by decide) (by decide) (by decide) rfl tw_1250 tw_1252 tw_53 tw_1253 tw_90 ⟨by decide, by decide⟩ (by decide +kernel)) qnilV) dX12_on_65) ?_
  refine qcons (qk_iload_n dX12_on_68 rfl) ?_
  refine qcons (qk_bipush dX12_on_69 (by decide) (by decide)) ?_
  refine qcons (qk_icge dX12_on_71 (by decide)) ?_
  refine qcons (qk_aload_n dX12_on_74 rfl) ?_
  refine qcons (qk_getR fd_X12_19 kd_12_3 dX12_on_75) ?_
  refine qcons (qk_iload_n dX12_on_78 rfl) ?_
  refine qcons (qk_bipush dX12_on_79 (by decide) (by decide)) ?_
  refine qcons (qk_isub dX12_on_81) ?_
  refine qcons (qk_iaload dX12_on_82) ?_
  refine qcons (qk_goto dX12_on_83 (by decide)) ?_
  refine qcons (qk_iload_n dX12_on_86 rfl) ?_
  refine qcons (qk_bipush dX12_on_87 (by decide) (by decide)) ?_
  refine qcons (qk_icge dX12_on_89 (by decide)) ?_
  refine qcons (qk_aload_n dX12_on_92 rfl) ?_
  refine qcons (qk_getR fd_X12_32 kd_12_7 dX12_on_93) ?_
  refine qcons (qk_iload_n dX12_on_96 rfl) ?_
  refine qcons (qk_bipush dX12_on_97 (by decide) (by decide)) ?_
  refine qcons (qk_isub dX12_on_99) ?_
  refine qcons (qk_iaload dX12_on_100) ?_
  refine qcons (qk_goto dX12_on_101 (by decide)) ?_
  refine qcons (qk_aload_n dX12_on_104 rfl) ?_
  refine qcons (qk_getR fd_X12_35 kd_12_8 dX12_on_105) ?_
  refine qcons (qk_iload_n dX12_on_108 rfl) ?_
  refine qcons (qk_bipush dX12_on_109 (by decide) (by decide)) ?_
  refine qcons (qk_isub dX12_on_111) ?_
  refine qcons (qk_iaload dX12_on_112) ?_
  refine qcons (qk_istore_n dX12_on_113 rfl) ?_
  refine qcons (qk_aload_n dX12_on_114 rfl) ?_
  refine qcons (qk_callv (ins := fun i => .invokevirtual i) (qconsV (qrunV M_X12_putBack (by decide) (by decide) (by decide) rfl tw_1271 tw_1273 tw_57 tw_1274 tw_90 ⟨by decide, by decide⟩ (by decide +kernel)) qnilV) dX12_on_115) ?_
  refine qcons (qk_iload_n dX12_on_118 rfl) ?_
  refine qcons (qk_ret dX12_on_119 (Or.inr (Or.inl ⟨rfl, rfl⟩))) ?_
  exact qnil
theorem M_X12_on {X : qX} {l : Launch} : qMet X l 9 yX12_on cX12_on 4 (some .int) S_X12_on := qmet_of K_X12_on (by decide) rfl rfl
theorem dX12_ready_0 : decode cX12_ready 0 = .ok (.aload_n 0, 1) := by decide +kernel
theorem dX12_ready_1 : decode cX12_ready 1 = .ok (.iload_n 1, 1) := by decide +kernel
theorem dX12_ready_2 : decode cX12_ready 2 = .ok (.invokevirtual 262, 3) := by decide +kernel
theorem dX12_ready_5 : decode cX12_ready 5 = .ok (.ifCond .ne 6, 3) := by decide +kernel
theorem dX12_ready_8 : decode cX12_ready 8 = .ok (.bipush (-2), 2) := by decide +kernel
theorem dX12_ready_10 : decode cX12_ready 10 = .ok (.ireturn, 1) := by decide +kernel
theorem dX12_ready_11 : decode cX12_ready 11 = .ok (.aload_n 0, 1) := by decide +kernel
theorem dX12_ready_12 : decode cX12_ready 12 = .ok (.invokevirtual 358, 3) := by decide +kernel
theorem dX12_ready_15 : decode cX12_ready 15 = .ok (.iconst 0, 1) := by decide +kernel
theorem dX12_ready_16 : decode cX12_ready 16 = .ok (.istore_n 2, 1) := by decide +kernel
theorem dX12_ready_17 : decode cX12_ready 17 = .ok (.iload_n 2, 1) := by decide +kernel
theorem dX12_ready_18 : decode cX12_ready 18 = .ok (.bipush 100, 2) := by decide +kernel
theorem dX12_ready_20 : decode cX12_ready 20 = .ok (.if_icmp .ge 23, 3) := by decide +kernel
theorem dX12_ready_23 : decode cX12_ready 23 = .ok (.aload_n 0, 1) := by decide +kernel
theorem dX12_ready_24 : decode cX12_ready 24 = .ok (.getfield 19, 3) := by decide +kernel
theorem dX12_ready_27 : decode cX12_ready 27 = .ok (.iconst 4, 1) := by decide +kernel
theorem dX12_ready_28 : decode cX12_ready 28 = .ok (.iaload, 1) := by decide +kernel
theorem dX12_ready_29 : decode cX12_ready 29 = .ok (.iload_n 1, 1) := by decide +kernel
theorem dX12_ready_30 : decode cX12_ready 30 = .ok (.if_icmp .ge 13, 3) := by decide +kernel
theorem dX12_ready_33 : decode cX12_ready 33 = .ok (.aload_n 0, 1) := by decide +kernel
theorem dX12_ready_34 : decode cX12_ready 34 = .ok (.invokevirtual 348, 3) := by decide +kernel
theorem dX12_ready_37 : decode cX12_ready 37 = .ok (.iinc 2 1, 3) := by decide +kernel
theorem dX12_ready_40 : decode cX12_ready 40 = .ok (.goto (-23), 3) := by decide +kernel
theorem dX12_ready_43 : decode cX12_ready 43 = .ok (.aload_n 0, 1) := by decide +kernel
theorem dX12_ready_44 : decode cX12_ready 44 = .ok (.invokevirtual 361, 3) := by decide +kernel
theorem dX12_ready_47 : decode cX12_ready 47 = .ok (.iload_n 2, 1) := by decide +kernel
theorem dX12_ready_48 : decode cX12_ready 48 = .ok (.bipush 100, 2) := by decide +kernel
theorem dX12_ready_50 : decode cX12_ready 50 = .ok (.if_icmp .ge 7, 3) := by decide +kernel
theorem dX12_ready_53 : decode cX12_ready 53 = .ok (.iload_n 2, 1) := by decide +kernel
theorem dX12_ready_54 : decode cX12_ready 54 = .ok (.goto 5, 3) := by decide +kernel
theorem dX12_ready_57 : decode cX12_ready 57 = .ok (.bipush (-5), 2) := by decide +kernel
theorem dX12_ready_59 : decode cX12_ready 59 = .ok (.ireturn, 1) := by decide +kernel
noncomputable def C_X12_ready : List (Nat × qOp) := [(0, qo_aload 0 1),
  (1, qo_iload 1 1),
  (2, qo_callv [(12, S_X12_isLetters)] 1),
  (5, qo_ifne 11),
  (8, qo_ci (-2) 2),
  (10, qo_ret (some .int) 1),
  (11, qo_aload 0 1),
  (12, qo_callv [(12, S_X12_save)] 0),
  (15, qo_ci 0 1),
  (16, qo_istore 2 1),
  (17, qo_iload 2 1),
  (18, qo_ci 100 2),
  (20, qo_icge 43),
  (23, qo_aload 0 1),
  (24, qo_getR 12 3),
  (27, qo_ci 4 1),
  (28, qo_iaload),
  (29, qo_iload 1 1),
  (30, qo_icge 43),
  (33, qo_aload 0 1),
  (34, qo_callv [(12, S_X12_goMinute)] 0),
  (37, qo_iinc 2 1),
  (40, qo_goto 17),
  (43, qo_aload 0 1),
  (44, qo_callv [(12, S_X12_putBack)] 0),
  (47, qo_iload 2 1),
  (48, qo_ci 100 2),
  (50, qo_icge 57),
  (53, qo_iload 2 1),
  (54, qo_goto 59),
  (57, qo_ci (-5) 2),
  (59, qo_ret (some .int) 1)]
noncomputable def S_X12_ready : qSem := qM 3 C_X12_ready
set_option maxRecDepth 20000 in
theorem K_X12_ready {X : qX} {l : Launch} : ∀ q ∈ C_X12_ready, qOk X l 8 cX12_ready 3 RX12 "ready" (some .int) q.1 q.2 := by
  unfold C_X12_ready
  refine qcons (qk_aload_n dX12_ready_0 rfl) ?_
  refine qcons (qk_iload_n dX12_ready_1 rfl) ?_
  refine qcons (qk_callv (ins := fun i => .invokevirtual i) (qconsV (qrunV M_X12_isLetters (by decide) (by decide) (by decide) rfl tw_1122 tw_1124 tw_26 tw_1125 tw_90 ⟨by decide, by decide⟩ (by decide +kernel)) qnilV) dX12_ready_2) ?_
  refine qcons (qk_ifne dX12_ready_5 (by decide)) ?_
  refine qcons (qk_bipush dX12_ready_8 (by decide) (by decide)) ?_
  refine qcons (qk_ret dX12_ready_10 (Or.inr (Or.inl ⟨rfl, rfl⟩))) ?_
  refine qcons (qk_aload_n dX12_ready_11 rfl) ?_
  refine qcons (qk_callv (ins := fun i => .invokevirtual i) (qconsV (qrunV M_X12_save (by decide) (by decide) (by decide) rfl tw_1266 tw_1268 tw_56 tw_1269 tw_90 ⟨by decide, by decide⟩ (by decide +kernel)) qnilV) dX12_ready_12) ?_
  refine qcons (qk_iconst dX12_ready_15 (by decide)) ?_
  refine qcons (qk_istore_n dX12_ready_16 rfl) ?_
  refine qcons (qk_iload_n dX12_ready_17 rfl) ?_
  refine qcons (qk_bipush dX12_ready_18 (by decide) (by decide)) ?_
  refine qcons (qk_icge dX12_ready_20 (by decide)) ?_
  refine qcons (qk_aload_n dX12_ready_23 rfl) ?_
  refine qcons (qk_getR fd_X12_19 kd_12_3 dX12_ready_24) ?_
  refine qcons (qk_iconst dX12_ready_27 (by decide)) ?_
  refine qcons (qk_iaload dX12_ready_28) ?_
  refine qcons (qk_iload_n dX12_ready_29 rfl) ?_
  refine qcons (qk_icge dX12_ready_30 (by decide)) ?_
  refine qcons (qk_aload_n dX12_ready_33 rfl) ?_
  refine qcons (qk_callv (ins := fun i => .invokevirtual i) (qconsV (qrunV M_X12_goMinute (by decide) (by decide) (by decide) rfl tw_1254 tw_1256 tw_54 tw_1257 tw_90 ⟨by decide, by decide⟩ (by decide +kernel)) qnilV) dX12_ready_34) ?_
  refine qcons (qk_iinc dX12_ready_37) ?_
  refine qcons (qk_goto dX12_ready_40 (by decide)) ?_
  refine qcons (qk_aload_n dX12_ready_43 rfl) ?_
  refine qcons (qk_callv (ins := fun i => .invokevirtual i) (qconsV (qrunV M_X12_putBack (by decide) (by decide) (by decide) rfl tw_1271 tw_1273 tw_57 tw_1274 tw_90 ⟨by decide, by decide⟩ (by decide +kernel)) qnilV) dX12_ready_44) ?_
  refine qcons (qk_iload_n dX12_ready_47 rfl) ?_
  refine qcons (qk_bipush dX12_ready_48 (by decide) (by decide)) ?_
  refine qcons (qk_icge dX12_ready_50 (by decide)) ?_
  refine qcons (qk_iload_n dX12_ready_53 rfl) ?_
  refine qcons (qk_goto dX12_ready_54 (by decide)) ?_
  refine qcons (qk_bipush dX12_ready_57 (by decide) (by decide)) ?_
  refine qcons (qk_ret dX12_ready_59 (Or.inr (Or.inl ⟨rfl, rfl⟩))) ?_
  exact qnil
theorem M_X12_ready {X : qX} {l : Launch} : qMet X l 8 yX12_ready cX12_ready 3 (some .int) S_X12_ready := qmet_of K_X12_ready (by decide) rfl rfl
theorem dX12_yieldThen_0 : decode cX12_yieldThen 0 = .ok (.aload_n 0, 1) := by decide +kernel
theorem dX12_yieldThen_1 : decode cX12_yieldThen 1 = .ok (.iload_n 1, 1) := by decide +kernel
theorem dX12_yieldThen_2 : decode cX12_yieldThen 2 = .ok (.invokevirtual 354, 3) := by decide +kernel
theorem dX12_yieldThen_5 : decode cX12_yieldThen 5 = .ok (.aload_n 0, 1) := by decide +kernel
theorem dX12_yieldThen_6 : decode cX12_yieldThen 6 = .ok (.getfield 19, 3) := by decide +kernel
theorem dX12_yieldThen_9 : decode cX12_yieldThen 9 = .ok (.iconst 4, 1) := by decide +kernel
theorem dX12_yieldThen_10 : decode cX12_yieldThen 10 = .ok (.iaload, 1) := by decide +kernel
theorem dX12_yieldThen_11 : decode cX12_yieldThen 11 = .ok (.istore_n 2, 1) := by decide +kernel
theorem dX12_yieldThen_12 : decode cX12_yieldThen 12 = .ok (.aload_n 0, 1) := by decide +kernel
theorem dX12_yieldThen_13 : decode cX12_yieldThen 13 = .ok (.invokevirtual 361, 3) := by decide +kernel
theorem dX12_yieldThen_16 : decode cX12_yieldThen 16 = .ok (.iload_n 2, 1) := by decide +kernel
theorem dX12_yieldThen_17 : decode cX12_yieldThen 17 = .ok (.ireturn, 1) := by decide +kernel
noncomputable def C_X12_yieldThen : List (Nat × qOp) := [(0, qo_aload 0 1),
  (1, qo_iload 1 1),
  (2, qo_callv [(12, S_X12_goMinutes)] 1),
  (5, qo_aload 0 1),
  (6, qo_getR 12 3),
  (9, qo_ci 4 1),
  (10, qo_iaload),
  (11, qo_istore 2 1),
  (12, qo_aload 0 1),
  (13, qo_callv [(12, S_X12_putBack)] 0),
  (16, qo_iload 2 1),
  (17, qo_ret (some .int) 1)]
noncomputable def S_X12_yieldThen : qSem := qM 3 C_X12_yieldThen
set_option maxRecDepth 20000 in
theorem K_X12_yieldThen {X : qX} {l : Launch} : ∀ q ∈ C_X12_yieldThen, qOk X l 9 cX12_yieldThen 3 RX12 "yieldThen" (some .int) q.1 q.2 := by
  unfold C_X12_yieldThen
  refine qcons (qk_aload_n dX12_yieldThen_0 rfl) ?_
  refine qcons (qk_iload_n dX12_yieldThen_1 rfl) ?_
  refine qcons (qk_callv (ins := fun i => .invokevirtual i) (qconsV (qrunV M_X12_goMinutes (by decide) (by decide) (by decide) rfl tw_1250 tw_1252 tw_53 tw_1253 tw_90 ⟨by decide, by decide⟩ (by decide +kernel)) qnilV) dX12_yieldThen_2) ?_
  refine qcons (qk_aload_n dX12_yieldThen_5 rfl) ?_
  refine qcons (qk_getR fd_X12_19 kd_12_3 dX12_yieldThen_6) ?_
  refine qcons (qk_iconst dX12_yieldThen_9 (by decide)) ?_
  refine qcons (qk_iaload dX12_yieldThen_10) ?_
  refine qcons (qk_istore_n dX12_yieldThen_11 rfl) ?_
  refine qcons (qk_aload_n dX12_yieldThen_12 rfl) ?_
  refine qcons (qk_callv (ins := fun i => .invokevirtual i) (qconsV (qrunV M_X12_putBack (by decide) (by decide) (by decide) rfl tw_1271 tw_1273 tw_57 tw_1274 tw_90 ⟨by decide, by decide⟩ (by decide +kernel)) qnilV) dX12_yieldThen_13) ?_
  refine qcons (qk_iload_n dX12_yieldThen_16 rfl) ?_
  refine qcons (qk_ret dX12_yieldThen_17 (Or.inr (Or.inl ⟨rfl, rfl⟩))) ?_
  exact qnil
theorem M_X12_yieldThen {X : qX} {l : Launch} : qMet X l 9 yX12_yieldThen cX12_yieldThen 3 (some .int) S_X12_yieldThen := qmet_of K_X12_yieldThen (by decide) rfl rfl
theorem dX12_yield0_0 : decode cX12_yield0 0 = .ok (.aload_n 0, 1) := by decide +kernel
theorem dX12_yield0_1 : decode cX12_yield0 1 = .ok (.invokevirtual 358, 3) := by decide +kernel
theorem dX12_yield0_4 : decode cX12_yield0 4 = .ok (.aload_n 0, 1) := by decide +kernel
theorem dX12_yield0_5 : decode cX12_yield0 5 = .ok (.bipush 30, 2) := by decide +kernel
theorem dX12_yield0_7 : decode cX12_yield0 7 = .ok (.invokevirtual 364, 3) := by decide +kernel
theorem dX12_yield0_10 : decode cX12_yield0 10 = .ok (.ireturn, 1) := by decide +kernel
noncomputable def C_X12_yield0 : List (Nat × qOp) := [(0, qo_aload 0 1),
  (1, qo_callv [(12, S_X12_save)] 0),
  (4, qo_aload 0 1),
  (5, qo_ci 30 2),
  (7, qo_callv [(12, S_X12_yieldThen)] 1),
  (10, qo_ret (some .int) 1)]
noncomputable def S_X12_yield0 : qSem := qM 1 C_X12_yield0
set_option maxRecDepth 20000 in
theorem K_X12_yield0 {X : qX} {l : Launch} : ∀ q ∈ C_X12_yield0, qOk X l 10 cX12_yield0 1 RX12 "yield0" (some .int) q.1 q.2 := by
  unfold C_X12_yield0
  refine qcons (qk_aload_n dX12_yield0_0 rfl) ?_
  refine qcons (qk_callv (ins := fun i => .invokevirtual i) (qconsV (qrunV M_X12_save (by decide) (by decide) (by decide) rfl tw_1266 tw_1268 tw_56 tw_1269 tw_90 ⟨by decide, by decide⟩ (by decide +kernel)) qnilV) dX12_yield0_1) ?_
  refine qcons (qk_aload_n dX12_yield0_4 rfl) ?_
  refine qcons (qk_bipush dX12_yield0_5 (by decide) (by decide)) ?_
  refine qcons (qk_callv (ins := fun i => .invokevirtual i) (qconsV (qrunV M_X12_yieldThen (by decide) (by decide) (by decide) rfl tw_1291 tw_1293 tw_60 tw_1294 tw_90 ⟨by decide, by decide⟩ (by decide +kernel)) qnilV) dX12_yield0_7) ?_
  refine qcons (qk_ret dX12_yield0_10 (Or.inr (Or.inl ⟨rfl, rfl⟩))) ?_
  exact qnil
theorem M_X12_yield0 {X : qX} {l : Launch} : qMet X l 10 yX12_yield0 cX12_yield0 1 (some .int) S_X12_yield0 := qmet_of K_X12_yield0 (by decide) rfl rfl
theorem dX12_moveOf_0 : decode cX12_moveOf 0 = .ok (.bipush (-5), 2) := by decide +kernel
theorem dX12_moveOf_2 : decode cX12_moveOf 2 = .ok (.istore_n 1, 1) := by decide +kernel
theorem dX12_moveOf_3 : decode cX12_moveOf 3 = .ok (.aload_n 0, 1) := by decide +kernel
theorem dX12_moveOf_4 : decode cX12_moveOf 4 = .ok (.invokevirtual 367, 3) := by decide +kernel
theorem dX12_moveOf_7 : decode cX12_moveOf 7 = .ok (.istore_n 2, 1) := by decide +kernel
theorem dX12_moveOf_8 : decode cX12_moveOf 8 = .ok (.iconst 0, 1) := by decide +kernel
theorem dX12_moveOf_9 : decode cX12_moveOf 9 = .ok (.istore_n 3, 1) := by decide +kernel
theorem dX12_moveOf_10 : decode cX12_moveOf 10 = .ok (.iload_n 3, 1) := by decide +kernel
theorem dX12_moveOf_11 : decode cX12_moveOf 11 = .ok (.aload_n 0, 1) := by decide +kernel
theorem dX12_moveOf_12 : decode cX12_moveOf 12 = .ok (.getfield 7, 3) := by decide +kernel
theorem dX12_moveOf_15 : decode cX12_moveOf 15 = .ok (.if_icmp .ge 64, 3) := by decide +kernel
theorem dX12_moveOf_18 : decode cX12_moveOf 18 = .ok (.iconst 0, 1) := by decide +kernel
theorem dX12_moveOf_19 : decode cX12_moveOf 19 = .ok (.istore 4, 2) := by decide +kernel
theorem dX12_moveOf_21 : decode cX12_moveOf 21 = .ok (.iload 4, 2) := by decide +kernel
theorem dX12_moveOf_23 : decode cX12_moveOf 23 = .ok (.iconst 4, 1) := by decide +kernel
theorem dX12_moveOf_24 : decode cX12_moveOf 24 = .ok (.if_icmp .ge 49, 3) := by decide +kernel
theorem dX12_moveOf_27 : decode cX12_moveOf 27 = .ok (.aload_n 0, 1) := by decide +kernel
theorem dX12_moveOf_28 : decode cX12_moveOf 28 = .ok (.invokevirtual 358, 3) := by decide +kernel
theorem dX12_moveOf_31 : decode cX12_moveOf 31 = .ok (.aload_n 0, 1) := by decide +kernel
theorem dX12_moveOf_32 : decode cX12_moveOf 32 = .ok (.getfield 29, 3) := by decide +kernel
theorem dX12_moveOf_35 : decode cX12_moveOf 35 = .ok (.iload_n 3, 1) := by decide +kernel
theorem dX12_moveOf_36 : decode cX12_moveOf 36 = .ok (.iload 4, 2) := by decide +kernel
theorem dX12_moveOf_38 : decode cX12_moveOf 38 = .ok (.iastore, 1) := by decide +kernel
theorem dX12_moveOf_39 : decode cX12_moveOf 39 = .ok (.aload_n 0, 1) := by decide +kernel
theorem dX12_moveOf_40 : decode cX12_moveOf 40 = .ok (.bipush 30, 2) := by decide +kernel
theorem dX12_moveOf_42 : decode cX12_moveOf 42 = .ok (.invokevirtual 364, 3) := by decide +kernel
theorem dX12_moveOf_45 : decode cX12_moveOf 45 = .ok (.istore 5, 2) := by decide +kernel
theorem dX12_moveOf_47 : decode cX12_moveOf 47 = .ok (.iload 5, 2) := by decide +kernel
theorem dX12_moveOf_49 : decode cX12_moveOf 49 = .ok (.iload_n 2, 1) := by decide +kernel
theorem dX12_moveOf_50 : decode cX12_moveOf 50 = .ok (.if_icmp .gt 6, 3) := by decide +kernel
theorem dX12_moveOf_53 : decode cX12_moveOf 53 = .ok (.goto 14, 3) := by decide +kernel
theorem dX12_moveOf_56 : decode cX12_moveOf 56 = .ok (.bipush 10, 2) := by decide +kernel
theorem dX12_moveOf_58 : decode cX12_moveOf 58 = .ok (.iload_n 3, 1) := by decide +kernel
theorem dX12_moveOf_59 : decode cX12_moveOf 59 = .ok (.imul, 1) := by decide +kernel
theorem dX12_moveOf_60 : decode cX12_moveOf 60 = .ok (.iload 4, 2) := by decide +kernel
theorem dX12_moveOf_62 : decode cX12_moveOf 62 = .ok (.iadd, 1) := by decide +kernel
theorem dX12_moveOf_63 : decode cX12_moveOf 63 = .ok (.istore_n 1, 1) := by decide +kernel
theorem dX12_moveOf_64 : decode cX12_moveOf 64 = .ok (.iload 5, 2) := by decide +kernel
theorem dX12_moveOf_66 : decode cX12_moveOf 66 = .ok (.istore_n 2, 1) := by decide +kernel
theorem dX12_moveOf_67 : decode cX12_moveOf 67 = .ok (.iinc 4 1, 3) := by decide +kernel
theorem dX12_moveOf_70 : decode cX12_moveOf 70 = .ok (.goto (-49), 3) := by decide +kernel
theorem dX12_moveOf_73 : decode cX12_moveOf 73 = .ok (.iinc 3 1, 3) := by decide +kernel
theorem dX12_moveOf_76 : decode cX12_moveOf 76 = .ok (.goto (-66), 3) := by decide +kernel
theorem dX12_moveOf_79 : decode cX12_moveOf 79 = .ok (.iload_n 1, 1) := by decide +kernel
theorem dX12_moveOf_80 : decode cX12_moveOf 80 = .ok (.ireturn, 1) := by decide +kernel
noncomputable def C_X12_moveOf : List (Nat × qOp) := [(0, qo_ci (-5) 2),
  (2, qo_istore 1 1),
  (3, qo_aload 0 1),
  (4, qo_callv [(12, S_X12_yield0)] 0),
  (7, qo_istore 2 1),
  (8, qo_ci 0 1),
  (9, qo_istore 3 1),
  (10, qo_iload 3 1),
  (11, qo_aload 0 1),
  (12, qo_getI 12 0),
  (15, qo_icge 79),
  (18, qo_ci 0 1),
  (19, qo_istore 4 2),
  (21, qo_iload 4 2),
  (23, qo_ci 4 1),
  (24, qo_icge 73),
  (27, qo_aload 0 1),
  (28, qo_callv [(12, S_X12_save)] 0),
  (31, qo_aload 0 1),
  (32, qo_getR 12 6),
  (35, qo_iload 3 1),
  (36, qo_iload 4 2),
  (38, qo_iastore),
  (39, qo_aload 0 1),
  (40, qo_ci 30 2),
  (42, qo_callv [(12, S_X12_yieldThen)] 1),
  (45, qo_istore 5 2),
  (47, qo_iload 5 2),
  (49, qo_iload 2 1),
  (50, qo_icgt 56),
  (53, qo_goto 67),
  (56, qo_ci 10 2),
  (58, qo_iload 3 1),
  (59, qo_imul),
  (60, qo_iload 4 2),
  (62, qo_iadd),
  (63, qo_istore 1 1),
  (64, qo_iload 5 2),
  (66, qo_istore 2 1),
  (67, qo_iinc 4 1),
  (70, qo_goto 21),
  (73, qo_iinc 3 1),
  (76, qo_goto 10),
  (79, qo_iload 1 1),
  (80, qo_ret (some .int) 1)]
noncomputable def S_X12_moveOf : qSem := qM 6 C_X12_moveOf
set_option maxRecDepth 20000 in
theorem K_X12_moveOf {X : qX} {l : Launch} : ∀ q ∈ C_X12_moveOf, qOk X l 11 cX12_moveOf 6 RX12 "moveOf" (some .int) q.1 q.2 := by
  unfold C_X12_moveOf
  refine qcons (qk_bipush dX12_moveOf_0 (by decide) (by decide)) ?_
  refine qcons (qk_istore_n dX12_moveOf_2 rfl) ?_
  refine qcons (qk_aload_n dX12_moveOf_3 rfl) ?_
  refine qcons (qk_callv (ins := fun i => .invokevirtual i) (qconsV (qrunV M_X12_yield0 (by decide) (by decide) (by decide) rfl tw_1287 tw_1289 tw_59 tw_1290 tw_90 ⟨by decide, by decide⟩ (by decide +kernel)) qnilV) dX12_moveOf_4) ?_
  refine qcons (qk_istore_n dX12_moveOf_7 rfl) ?_
  refine qcons (qk_iconst dX12_moveOf_8 (by decide)) ?_
  refine qcons (qk_istore_n dX12_moveOf_9 rfl) ?_
  refine qcons (qk_iload_n dX12_moveOf_10 rfl) ?_
  refine qcons (qk_aload_n dX12_moveOf_11 rfl) ?_
  refine qcons (qk_getI fd_X12_7 kd_12_0 dX12_moveOf_12) ?_
  refine qcons (qk_icge dX12_moveOf_15 (by decide)) ?_
  refine qcons (qk_iconst dX12_moveOf_18 (by decide)) ?_
  refine qcons (qk_istore dX12_moveOf_19) ?_
  refine qcons (qk_iload dX12_moveOf_21) ?_
  refine qcons (qk_iconst dX12_moveOf_23 (by decide)) ?_
  refine qcons (qk_icge dX12_moveOf_24 (by decide)) ?_
  refine qcons (qk_aload_n dX12_moveOf_27 rfl) ?_
  refine qcons (qk_callv (ins := fun i => .invokevirtual i) (qconsV (qrunV M_X12_save (by decide) (by decide) (by decide) rfl tw_1266 tw_1268 tw_56 tw_1269 tw_90 ⟨by decide, by decide⟩ (by decide +kernel)) qnilV) dX12_moveOf_28) ?_
  refine qcons (qk_aload_n dX12_moveOf_31 rfl) ?_
  refine qcons (qk_getR fd_X12_29 kd_12_6 dX12_moveOf_32) ?_
  refine qcons (qk_iload_n dX12_moveOf_35 rfl) ?_
  refine qcons (qk_iload dX12_moveOf_36) ?_
  refine qcons (qk_iastore dX12_moveOf_38) ?_
  refine qcons (qk_aload_n dX12_moveOf_39 rfl) ?_
  refine qcons (qk_bipush dX12_moveOf_40 (by decide) (by decide)) ?_
  refine qcons (qk_callv (ins := fun i => .invokevirtual i) (qconsV (qrunV M_X12_yieldThen (by decide) (by decide) (by decide) rfl tw_1291 tw_1293 tw_60 tw_1294 tw_90 ⟨by decide, by decide⟩ (by decide +kernel)) qnilV) dX12_moveOf_42) ?_
  refine qcons (qk_istore dX12_moveOf_45) ?_
  refine qcons (qk_iload dX12_moveOf_47) ?_
  refine qcons (qk_iload_n dX12_moveOf_49 rfl) ?_
  refine qcons (qk_icgt dX12_moveOf_50 (by decide)) ?_
  refine qcons (qk_goto dX12_moveOf_53 (by decide)) ?_
  refine qcons (qk_bipush dX12_moveOf_56 (by decide) (by decide)) ?_
  refine qcons (qk_iload_n dX12_moveOf_58 rfl) ?_
  refine qcons (qk_imul dX12_moveOf_59) ?_
  refine qcons (qk_iload dX12_moveOf_60) ?_
  refine qcons (qk_iadd dX12_moveOf_62) ?_
  refine qcons (qk_istore_n dX12_moveOf_63 rfl) ?_
  refine qcons (qk_iload dX12_moveOf_64) ?_
  refine qcons (qk_istore_n dX12_moveOf_66 rfl) ?_
  refine qcons (qk_iinc dX12_moveOf_67) ?_
  refine qcons (qk_goto dX12_moveOf_70 (by decide)) ?_
  refine qcons (qk_iinc dX12_moveOf_73) ?_
  refine qcons (qk_goto dX12_moveOf_76 (by decide)) ?_
  refine qcons (qk_iload_n dX12_moveOf_79 rfl) ?_
  refine qcons (qk_ret dX12_moveOf_80 (Or.inr (Or.inl ⟨rfl, rfl⟩))) ?_
  exact qnil
theorem M_X12_moveOf {X : qX} {l : Launch} : qMet X l 11 yX12_moveOf cX12_moveOf 6 (some .int) S_X12_moveOf := qmet_of K_X12_moveOf (by decide) rfl rfl
theorem dX12_swapOf_0 : decode cX12_swapOf 0 = .ok (.bipush (-5), 2) := by decide +kernel
theorem dX12_swapOf_2 : decode cX12_swapOf 2 = .ok (.istore_n 1, 1) := by decide +kernel
theorem dX12_swapOf_3 : decode cX12_swapOf 3 = .ok (.aload_n 0, 1) := by decide +kernel
theorem dX12_swapOf_4 : decode cX12_swapOf 4 = .ok (.invokevirtual 367, 3) := by decide +kernel
theorem dX12_swapOf_7 : decode cX12_swapOf 7 = .ok (.istore_n 2, 1) := by decide +kernel
theorem dX12_swapOf_8 : decode cX12_swapOf 8 = .ok (.iconst 0, 1) := by decide +kernel
theorem dX12_swapOf_9 : decode cX12_swapOf 9 = .ok (.istore_n 3, 1) := by decide +kernel
theorem dX12_swapOf_10 : decode cX12_swapOf 10 = .ok (.iload_n 3, 1) := by decide +kernel
theorem dX12_swapOf_11 : decode cX12_swapOf 11 = .ok (.aload_n 0, 1) := by decide +kernel
theorem dX12_swapOf_12 : decode cX12_swapOf 12 = .ok (.getfield 7, 3) := by decide +kernel
theorem dX12_swapOf_15 : decode cX12_swapOf 15 = .ok (.if_icmp .ge 87, 3) := by decide +kernel
theorem dX12_swapOf_18 : decode cX12_swapOf 18 = .ok (.iload_n 3, 1) := by decide +kernel
theorem dX12_swapOf_19 : decode cX12_swapOf 19 = .ok (.iconst 1, 1) := by decide +kernel
theorem dX12_swapOf_20 : decode cX12_swapOf 20 = .ok (.iadd, 1) := by decide +kernel
theorem dX12_swapOf_21 : decode cX12_swapOf 21 = .ok (.istore 4, 2) := by decide +kernel
theorem dX12_swapOf_23 : decode cX12_swapOf 23 = .ok (.iload 4, 2) := by decide +kernel
theorem dX12_swapOf_25 : decode cX12_swapOf 25 = .ok (.aload_n 0, 1) := by decide +kernel
theorem dX12_swapOf_26 : decode cX12_swapOf 26 = .ok (.getfield 7, 3) := by decide +kernel
theorem dX12_swapOf_29 : decode cX12_swapOf 29 = .ok (.if_icmp .ge 67, 3) := by decide +kernel
theorem dX12_swapOf_32 : decode cX12_swapOf 32 = .ok (.aload_n 0, 1) := by decide +kernel
theorem dX12_swapOf_33 : decode cX12_swapOf 33 = .ok (.invokevirtual 358, 3) := by decide +kernel
theorem dX12_swapOf_36 : decode cX12_swapOf 36 = .ok (.aload_n 0, 1) := by decide +kernel
theorem dX12_swapOf_37 : decode cX12_swapOf 37 = .ok (.getfield 29, 3) := by decide +kernel
theorem dX12_swapOf_40 : decode cX12_swapOf 40 = .ok (.iload_n 3, 1) := by decide +kernel
theorem dX12_swapOf_41 : decode cX12_swapOf 41 = .ok (.aload_n 0, 1) := by decide +kernel
theorem dX12_swapOf_42 : decode cX12_swapOf 42 = .ok (.getfield 115, 3) := by decide +kernel
theorem dX12_swapOf_45 : decode cX12_swapOf 45 = .ok (.iload 4, 2) := by decide +kernel
theorem dX12_swapOf_47 : decode cX12_swapOf 47 = .ok (.iaload, 1) := by decide +kernel
theorem dX12_swapOf_48 : decode cX12_swapOf 48 = .ok (.iastore, 1) := by decide +kernel
theorem dX12_swapOf_49 : decode cX12_swapOf 49 = .ok (.aload_n 0, 1) := by decide +kernel
theorem dX12_swapOf_50 : decode cX12_swapOf 50 = .ok (.getfield 29, 3) := by decide +kernel
theorem dX12_swapOf_53 : decode cX12_swapOf 53 = .ok (.iload 4, 2) := by decide +kernel
theorem dX12_swapOf_55 : decode cX12_swapOf 55 = .ok (.aload_n 0, 1) := by decide +kernel
theorem dX12_swapOf_56 : decode cX12_swapOf 56 = .ok (.getfield 115, 3) := by decide +kernel
theorem dX12_swapOf_59 : decode cX12_swapOf 59 = .ok (.iload_n 3, 1) := by decide +kernel
theorem dX12_swapOf_60 : decode cX12_swapOf 60 = .ok (.iaload, 1) := by decide +kernel
theorem dX12_swapOf_61 : decode cX12_swapOf 61 = .ok (.iastore, 1) := by decide +kernel
theorem dX12_swapOf_62 : decode cX12_swapOf 62 = .ok (.aload_n 0, 1) := by decide +kernel
theorem dX12_swapOf_63 : decode cX12_swapOf 63 = .ok (.bipush 30, 2) := by decide +kernel
theorem dX12_swapOf_65 : decode cX12_swapOf 65 = .ok (.invokevirtual 364, 3) := by decide +kernel
theorem dX12_swapOf_68 : decode cX12_swapOf 68 = .ok (.istore 5, 2) := by decide +kernel
theorem dX12_swapOf_70 : decode cX12_swapOf 70 = .ok (.iload 5, 2) := by decide +kernel
theorem dX12_swapOf_72 : decode cX12_swapOf 72 = .ok (.iload_n 2, 1) := by decide +kernel
theorem dX12_swapOf_73 : decode cX12_swapOf 73 = .ok (.if_icmp .gt 6, 3) := by decide +kernel
theorem dX12_swapOf_76 : decode cX12_swapOf 76 = .ok (.goto 14, 3) := by decide +kernel
theorem dX12_swapOf_79 : decode cX12_swapOf 79 = .ok (.bipush 10, 2) := by decide +kernel
theorem dX12_swapOf_81 : decode cX12_swapOf 81 = .ok (.iload_n 3, 1) := by decide +kernel
theorem dX12_swapOf_82 : decode cX12_swapOf 82 = .ok (.imul, 1) := by decide +kernel
theorem dX12_swapOf_83 : decode cX12_swapOf 83 = .ok (.iload 4, 2) := by decide +kernel
theorem dX12_swapOf_85 : decode cX12_swapOf 85 = .ok (.iadd, 1) := by decide +kernel
theorem dX12_swapOf_86 : decode cX12_swapOf 86 = .ok (.istore_n 1, 1) := by decide +kernel
theorem dX12_swapOf_87 : decode cX12_swapOf 87 = .ok (.iload 5, 2) := by decide +kernel
theorem dX12_swapOf_89 : decode cX12_swapOf 89 = .ok (.istore_n 2, 1) := by decide +kernel
theorem dX12_swapOf_90 : decode cX12_swapOf 90 = .ok (.iinc 4 1, 3) := by decide +kernel
theorem dX12_swapOf_93 : decode cX12_swapOf 93 = .ok (.goto (-70), 3) := by decide +kernel
theorem dX12_swapOf_96 : decode cX12_swapOf 96 = .ok (.iinc 3 1, 3) := by decide +kernel
theorem dX12_swapOf_99 : decode cX12_swapOf 99 = .ok (.goto (-89), 3) := by decide +kernel
theorem dX12_swapOf_102 : decode cX12_swapOf 102 = .ok (.iload_n 1, 1) := by decide +kernel
theorem dX12_swapOf_103 : decode cX12_swapOf 103 = .ok (.ireturn, 1) := by decide +kernel
noncomputable def C_X12_swapOf : List (Nat × qOp) := [(0, qo_ci (-5) 2),
  (2, qo_istore 1 1),
  (3, qo_aload 0 1),
  (4, qo_callv [(12, S_X12_yield0)] 0),
  (7, qo_istore 2 1),
  (8, qo_ci 0 1),
  (9, qo_istore 3 1),
  (10, qo_iload 3 1),
  (11, qo_aload 0 1),
  (12, qo_getI 12 0),
  (15, qo_icge 102),
  (18, qo_iload 3 1),
  (19, qo_ci 1 1),
  (20, qo_iadd),
  (21, qo_istore 4 2),
  (23, qo_iload 4 2),
  (25, qo_aload 0 1),
  (26, qo_getI 12 0),
  (29, qo_icge 96),
  (32, qo_aload 0 1),
  (33, qo_callv [(12, S_X12_save)] 0),
  (36, qo_aload 0 1),
  (37, qo_getR 12 6),
  (40, qo_iload 3 1),
  (41, qo_aload 0 1),
  (42, qo_getR 12 34),
  (45, qo_iload 4 2),
  (47, qo_iaload),
  (48, qo_iastore),
  (49, qo_aload 0 1),
  (50, qo_getR 12 6),
  (53, qo_iload 4 2),
  (55, qo_aload 0 1),
  (56, qo_getR 12 34),
  (59, qo_iload 3 1),
  (60, qo_iaload),
  (61, qo_iastore),
  (62, qo_aload 0 1),
  (63, qo_ci 30 2),
  (65, qo_callv [(12, S_X12_yieldThen)] 1),
  (68, qo_istore 5 2),
  (70, qo_iload 5 2),
  (72, qo_iload 2 1),
  (73, qo_icgt 79),
  (76, qo_goto 90),
  (79, qo_ci 10 2),
  (81, qo_iload 3 1),
  (82, qo_imul),
  (83, qo_iload 4 2),
  (85, qo_iadd),
  (86, qo_istore 1 1),
  (87, qo_iload 5 2),
  (89, qo_istore 2 1),
  (90, qo_iinc 4 1),
  (93, qo_goto 23),
  (96, qo_iinc 3 1),
  (99, qo_goto 10),
  (102, qo_iload 1 1),
  (103, qo_ret (some .int) 1)]
noncomputable def S_X12_swapOf : qSem := qM 6 C_X12_swapOf
set_option maxRecDepth 20000 in
theorem K_X12_swapOf {X : qX} {l : Launch} : ∀ q ∈ C_X12_swapOf, qOk X l 11 cX12_swapOf 6 RX12 "swapOf" (some .int) q.1 q.2 := by
  unfold C_X12_swapOf
  refine qcons (qk_bipush dX12_swapOf_0 (by decide) (by decide)) ?_
  refine qcons (qk_istore_n dX12_swapOf_2 rfl) ?_
  refine qcons (qk_aload_n dX12_swapOf_3 rfl) ?_
  refine qcons (qk_callv (ins := fun i => .invokevirtual i) (qconsV (qrunV M_X12_yield0 (by decide) (by decide) (by decide) rfl tw_1287 tw_1289 tw_59 tw_1290 tw_90 ⟨by decide, by decide⟩ (by decide +kernel)) qnilV) dX12_swapOf_4) ?_
  refine qcons (qk_istore_n dX12_swapOf_7 rfl) ?_
  refine qcons (qk_iconst dX12_swapOf_8 (by decide)) ?_
  refine qcons (qk_istore_n dX12_swapOf_9 rfl) ?_
  refine qcons (qk_iload_n dX12_swapOf_10 rfl) ?_
  refine qcons (qk_aload_n dX12_swapOf_11 rfl) ?_
  refine qcons (qk_getI fd_X12_7 kd_12_0 dX12_swapOf_12) ?_
  refine qcons (qk_icge dX12_swapOf_15 (by decide)) ?_
  refine qcons (qk_iload_n dX12_swapOf_18 rfl) ?_
  refine qcons (qk_iconst dX12_swapOf_19 (by decide)) ?_
  refine qcons (qk_iadd dX12_swapOf_20) ?_
  refine qcons (qk_istore dX12_swapOf_21) ?_
  refine qcons (qk_iload dX12_swapOf_23) ?_
  refine qcons (qk_aload_n dX12_swapOf_25 rfl) ?_
  refine qcons (qk_getI fd_X12_7 kd_12_0 dX12_swapOf_26) ?_
  refine qcons (qk_icge dX12_swapOf_29 (by decide)) ?_
  refine qcons (qk_aload_n dX12_swapOf_32 rfl) ?_
  refine qcons (qk_callv (ins := fun i => .invokevirtual i) (qconsV (qrunV M_X12_save (by decide) (by decide) (by decide) rfl tw_1266 tw_1268 tw_56 tw_1269 tw_90 ⟨by decide, by decide⟩ (by decide +kernel)) qnilV) dX12_swapOf_33) ?_
  refine qcons (qk_aload_n dX12_swapOf_36 rfl) ?_
  refine qcons (qk_getR fd_X12_29 kd_12_6 dX12_swapOf_37) ?_
  refine qcons (qk_iload_n dX12_swapOf_40 rfl) ?_
  refine qcons (qk_aload_n dX12_swapOf_41 rfl) ?_
  refine qcons (qk_getR fd_X12_115 kd_12_34 dX12_swapOf_42) ?_
  refine qcons (qk_iload dX12_swapOf_45) ?_
  refine qcons (qk_iaload dX12_swapOf_47) ?_
  refine qcons (qk_iastore dX12_swapOf_48) ?_
  refine qcons (qk_aload_n dX12_swapOf_49 rfl) ?_
  refine qcons (qk_getR fd_X12_29 kd_12_6 dX12_swapOf_50) ?_
  refine qcons (qk_iload dX12_swapOf_53) ?_
  refine qcons (qk_aload_n dX12_swapOf_55 rfl) ?_
  refine qcons (qk_getR fd_X12_115 kd_12_34 dX12_swapOf_56) ?_
  refine qcons (qk_iload_n dX12_swapOf_59 rfl) ?_
  refine qcons (qk_iaload dX12_swapOf_60) ?_
  refine qcons (qk_iastore dX12_swapOf_61) ?_
  refine qcons (qk_aload_n dX12_swapOf_62 rfl) ?_
  refine qcons (qk_bipush dX12_swapOf_63 (by decide) (by decide)) ?_
  refine qcons (qk_callv (ins := fun i => .invokevirtual i) (qconsV (qrunV M_X12_yieldThen (by decide) (by decide) (by decide) rfl tw_1291 tw_1293 tw_60 tw_1294 tw_90 ⟨by decide, by decide⟩ (by decide +kernel)) qnilV) dX12_swapOf_65) ?_
  refine qcons (qk_istore dX12_swapOf_68) ?_
  refine qcons (qk_iload dX12_swapOf_70) ?_
  refine qcons (qk_iload_n dX12_swapOf_72 rfl) ?_
  refine qcons (qk_icgt dX12_swapOf_73 (by decide)) ?_
  refine qcons (qk_goto dX12_swapOf_76 (by decide)) ?_
  refine qcons (qk_bipush dX12_swapOf_79 (by decide) (by decide)) ?_
  refine qcons (qk_iload_n dX12_swapOf_81 rfl) ?_
  refine qcons (qk_imul dX12_swapOf_82) ?_
  refine qcons (qk_iload dX12_swapOf_83) ?_
  refine qcons (qk_iadd dX12_swapOf_85) ?_
  refine qcons (qk_istore_n dX12_swapOf_86 rfl) ?_
  refine qcons (qk_iload dX12_swapOf_87) ?_
  refine qcons (qk_istore_n dX12_swapOf_89 rfl) ?_
  refine qcons (qk_iinc dX12_swapOf_90) ?_
  refine qcons (qk_goto dX12_swapOf_93 (by decide)) ?_
  refine qcons (qk_iinc dX12_swapOf_96) ?_
  refine qcons (qk_goto dX12_swapOf_99 (by decide)) ?_
  refine qcons (qk_iload_n dX12_swapOf_102 rfl) ?_
  refine qcons (qk_ret dX12_swapOf_103 (Or.inr (Or.inl ⟨rfl, rfl⟩))) ?_
  exact qnil
theorem M_X12_swapOf {X : qX} {l : Launch} : qMet X l 11 yX12_swapOf cX12_swapOf 6 (some .int) S_X12_swapOf := qmet_of K_X12_swapOf (by decide) rfl rfl
theorem dX12_enoughOf_0 : decode cX12_enoughOf 0 = .ok (.aload_n 0, 1) := by decide +kernel
theorem dX12_enoughOf_1 : decode cX12_enoughOf 1 = .ok (.invokevirtual 367, 3) := by decide +kernel
theorem dX12_enoughOf_4 : decode cX12_enoughOf 4 = .ok (.istore_n 1, 1) := by decide +kernel
theorem dX12_enoughOf_5 : decode cX12_enoughOf 5 = .ok (.iconst 1, 1) := by decide +kernel
theorem dX12_enoughOf_6 : decode cX12_enoughOf 6 = .ok (.istore_n 2, 1) := by decide +kernel
theorem dX12_enoughOf_7 : decode cX12_enoughOf 7 = .ok (.iload_n 2, 1) := by decide +kernel
theorem dX12_enoughOf_8 : decode cX12_enoughOf 8 = .ok (.bipush 21, 2) := by decide +kernel
theorem dX12_enoughOf_10 : decode cX12_enoughOf 10 = .ok (.if_icmp .ge 30, 3) := by decide +kernel
theorem dX12_enoughOf_13 : decode cX12_enoughOf 13 = .ok (.aload_n 0, 1) := by decide +kernel
theorem dX12_enoughOf_14 : decode cX12_enoughOf 14 = .ok (.invokevirtual 358, 3) := by decide +kernel
theorem dX12_enoughOf_17 : decode cX12_enoughOf 17 = .ok (.aload_n 0, 1) := by decide +kernel
theorem dX12_enoughOf_18 : decode cX12_enoughOf 18 = .ok (.iload_n 2, 1) := by decide +kernel
theorem dX12_enoughOf_19 : decode cX12_enoughOf 19 = .ok (.putfield 92, 3) := by decide +kernel
theorem dX12_enoughOf_22 : decode cX12_enoughOf 22 = .ok (.aload_n 0, 1) := by decide +kernel
theorem dX12_enoughOf_23 : decode cX12_enoughOf 23 = .ok (.bipush 30, 2) := by decide +kernel
theorem dX12_enoughOf_25 : decode cX12_enoughOf 25 = .ok (.invokevirtual 364, 3) := by decide +kernel
theorem dX12_enoughOf_28 : decode cX12_enoughOf 28 = .ok (.iload_n 1, 1) := by decide +kernel
theorem dX12_enoughOf_29 : decode cX12_enoughOf 29 = .ok (.if_icmp .lt 5, 3) := by decide +kernel
theorem dX12_enoughOf_32 : decode cX12_enoughOf 32 = .ok (.iload_n 2, 1) := by decide +kernel
theorem dX12_enoughOf_33 : decode cX12_enoughOf 33 = .ok (.ireturn, 1) := by decide +kernel
theorem dX12_enoughOf_34 : decode cX12_enoughOf 34 = .ok (.iinc 2 1, 3) := by decide +kernel
theorem dX12_enoughOf_37 : decode cX12_enoughOf 37 = .ok (.goto (-30), 3) := by decide +kernel
theorem dX12_enoughOf_40 : decode cX12_enoughOf 40 = .ok (.bipush (-5), 2) := by decide +kernel
theorem dX12_enoughOf_42 : decode cX12_enoughOf 42 = .ok (.ireturn, 1) := by decide +kernel
noncomputable def C_X12_enoughOf : List (Nat × qOp) := [(0, qo_aload 0 1),
  (1, qo_callv [(12, S_X12_yield0)] 0),
  (4, qo_istore 1 1),
  (5, qo_ci 1 1),
  (6, qo_istore 2 1),
  (7, qo_iload 2 1),
  (8, qo_ci 21 2),
  (10, qo_icge 40),
  (13, qo_aload 0 1),
  (14, qo_callv [(12, S_X12_save)] 0),
  (17, qo_aload 0 1),
  (18, qo_iload 2 1),
  (19, qo_putI 12 27),
  (22, qo_aload 0 1),
  (23, qo_ci 30 2),
  (25, qo_callv [(12, S_X12_yieldThen)] 1),
  (28, qo_iload 1 1),
  (29, qo_iclt 34),
  (32, qo_iload 2 1),
  (33, qo_ret (some .int) 1),
  (34, qo_iinc 2 1),
  (37, qo_goto 7),
  (40, qo_ci (-5) 2),
  (42, qo_ret (some .int) 1)]
noncomputable def S_X12_enoughOf : qSem := qM 3 C_X12_enoughOf
set_option maxRecDepth 20000 in
theorem K_X12_enoughOf {X : qX} {l : Launch} : ∀ q ∈ C_X12_enoughOf, qOk X l 11 cX12_enoughOf 3 RX12 "enoughOf" (some .int) q.1 q.2 := by
  unfold C_X12_enoughOf
  refine qcons (qk_aload_n dX12_enoughOf_0 rfl) ?_
  refine qcons (qk_callv (ins := fun i => .invokevirtual i) (qconsV (qrunV M_X12_yield0 (by decide) (by decide) (by decide) rfl tw_1287 tw_1289 tw_59 tw_1290 tw_90 ⟨by decide, by decide⟩ (by decide +kernel)) qnilV) dX12_enoughOf_1) ?_
  refine qcons (qk_istore_n dX12_enoughOf_4 rfl) ?_
  refine qcons (qk_iconst dX12_enoughOf_5 (by decide)) ?_
  refine qcons (qk_istore_n dX12_enoughOf_6 rfl) ?_
  refine qcons (qk_iload_n dX12_enoughOf_7 rfl) ?_
  refine qcons (qk_bipush dX12_enoughOf_8 (by decide) (by decide)) ?_
  refine qcons (qk_icge dX12_enoughOf_10 (by decide)) ?_
  refine qcons (qk_aload_n dX12_enoughOf_13 rfl) ?_
  refine qcons (qk_callv (ins := fun i => .invokevirtual i) (qconsV (qrunV M_X12_save (by decide) (by decide) (by decide) rfl tw_1266 tw_1268 tw_56 tw_1269 tw_90 ⟨by decide, by decide⟩ (by decide +kernel)) qnilV) dX12_enoughOf_14) ?_
  refine qcons (qk_aload_n dX12_enoughOf_17 rfl) ?_
  refine qcons (qk_iload_n dX12_enoughOf_18 rfl) ?_
  refine qcons (qk_putI (ty := .int) fd_X12_92 tyX12_ok nmX12 (Or.inl rfl) kd_12_27 (tyX12_ok 27 (by decide)) dX12_enoughOf_19) ?_
  refine qcons (qk_aload_n dX12_enoughOf_22 rfl) ?_
  refine qcons (qk_bipush dX12_enoughOf_23 (by decide) (by decide)) ?_
  refine qcons (qk_callv (ins := fun i => .invokevirtual i) (qconsV (qrunV M_X12_yieldThen (by decide) (by decide) (by decide) rfl tw_1291 tw_1293 tw_60 tw_1294 tw_90 ⟨by decide, by decide⟩ (by decide +kernel)) qnilV) dX12_enoughOf_25) ?_
  refine qcons (qk_iload_n dX12_enoughOf_28 rfl) ?_
  refine qcons (qk_iclt dX12_enoughOf_29 (by decide)) ?_
  refine qcons (qk_iload_n dX12_enoughOf_32 rfl) ?_
  refine qcons (qk_ret dX12_enoughOf_33 (Or.inr (Or.inl ⟨rfl, rfl⟩))) ?_
  refine qcons (qk_iinc dX12_enoughOf_34) ?_
  refine qcons (qk_goto dX12_enoughOf_37 (by decide)) ?_
  refine qcons (qk_bipush dX12_enoughOf_40 (by decide) (by decide)) ?_
  refine qcons (qk_ret dX12_enoughOf_42 (Or.inr (Or.inl ⟨rfl, rfl⟩))) ?_
  exact qnil
theorem M_X12_enoughOf {X : qX} {l : Launch} : qMet X l 11 yX12_enoughOf cX12_enoughOf 3 (some .int) S_X12_enoughOf := qmet_of K_X12_enoughOf (by decide) rfl rfl
theorem dX12_without_0 : decode cX12_without 0 = .ok (.aload_n 0, 1) := by decide +kernel
theorem dX12_without_1 : decode cX12_without 1 = .ok (.iload_n 1, 1) := by decide +kernel
theorem dX12_without_2 : decode cX12_without 2 = .ok (.invokevirtual 248, 3) := by decide +kernel
theorem dX12_without_5 : decode cX12_without 5 = .ok (.ifCond .ne 5, 3) := by decide +kernel
theorem dX12_without_8 : decode cX12_without 8 = .ok (.iconst (-1), 1) := by decide +kernel
theorem dX12_without_9 : decode cX12_without 9 = .ok (.ireturn, 1) := by decide +kernel
theorem dX12_without_10 : decode cX12_without 10 = .ok (.aload_n 0, 1) := by decide +kernel
theorem dX12_without_11 : decode cX12_without 11 = .ok (.invokevirtual 358, 3) := by decide +kernel
theorem dX12_without_14 : decode cX12_without 14 = .ok (.aload_n 0, 1) := by decide +kernel
theorem dX12_without_15 : decode cX12_without 15 = .ok (.iload_n 1, 1) := by decide +kernel
theorem dX12_without_16 : decode cX12_without 16 = .ok (.iconst 1, 1) := by decide +kernel
theorem dX12_without_17 : decode cX12_without 17 = .ok (.invokevirtual 255, 3) := by decide +kernel
theorem dX12_without_20 : decode cX12_without 20 = .ok (.aload_n 0, 1) := by decide +kernel
theorem dX12_without_21 : decode cX12_without 21 = .ok (.bipush 30, 2) := by decide +kernel
theorem dX12_without_23 : decode cX12_without 23 = .ok (.invokevirtual 364, 3) := by decide +kernel
theorem dX12_without_26 : decode cX12_without 26 = .ok (.ireturn, 1) := by decide +kernel
noncomputable def C_X12_without : List (Nat × qOp) := [(0, qo_aload 0 1),
  (1, qo_iload 1 1),
  (2, qo_callv [(12, S_X12_isPerson)] 1),
  (5, qo_ifne 10),
  (8, qo_ci (-1) 1),
  (9, qo_ret (some .int) 1),
  (10, qo_aload 0 1),
  (11, qo_callv [(12, S_X12_save)] 0),
  (14, qo_aload 0 1),
  (15, qo_iload 1 1),
  (16, qo_ci 1 1),
  (17, qo_callv [(12, S_X12_goes)] 2),
  (20, qo_aload 0 1),
  (21, qo_ci 30 2),
  (23, qo_callv [(12, S_X12_yieldThen)] 1),
  (26, qo_ret (some .int) 1)]
noncomputable def S_X12_without : qSem := qM 2 C_X12_without
set_option maxRecDepth 20000 in
theorem K_X12_without {X : qX} {l : Launch} : ∀ q ∈ C_X12_without, qOk X l 10 cX12_without 2 RX12 "without" (some .int) q.1 q.2 := by
  unfold C_X12_without
  refine qcons (qk_aload_n dX12_without_0 rfl) ?_
  refine qcons (qk_iload_n dX12_without_1 rfl) ?_
  refine qcons (qk_callv (ins := fun i => .invokevirtual i) (qconsV (qrunV M_X12_isPerson (by decide) (by decide) (by decide) rfl tw_1094 tw_1096 tw_22 tw_1097 tw_90 ⟨by decide, by decide⟩ (by decide +kernel)) qnilV) dX12_without_2) ?_
  refine qcons (qk_ifne dX12_without_5 (by decide)) ?_
  refine qcons (qk_iconst dX12_without_8 (by decide)) ?_
  refine qcons (qk_ret dX12_without_9 (Or.inr (Or.inl ⟨rfl, rfl⟩))) ?_
  refine qcons (qk_aload_n dX12_without_10 rfl) ?_
  refine qcons (qk_callv (ins := fun i => .invokevirtual i) (qconsV (qrunV M_X12_save (by decide) (by decide) (by decide) rfl tw_1266 tw_1268 tw_56 tw_1269 tw_90 ⟨by decide, by decide⟩ (by decide +kernel)) qnilV) dX12_without_11) ?_
  refine qcons (qk_aload_n dX12_without_14 rfl) ?_
  refine qcons (qk_iload_n dX12_without_15 rfl) ?_
  refine qcons (qk_iconst dX12_without_16 (by decide)) ?_
  refine qcons (qk_callv (ins := fun i => .invokevirtual i) (qconsV (qrunV M_X12_goes (by decide) (by decide) (by decide) rfl tw_1106 tw_1108 tw_24 tw_1109 tw_90 ⟨by decide, by decide⟩ (by decide +kernel)) qnilV) dX12_without_17) ?_
  refine qcons (qk_aload_n dX12_without_20 rfl) ?_
  refine qcons (qk_bipush dX12_without_21 (by decide) (by decide)) ?_
  refine qcons (qk_callv (ins := fun i => .invokevirtual i) (qconsV (qrunV M_X12_yieldThen (by decide) (by decide) (by decide) rfl tw_1291 tw_1293 tw_60 tw_1294 tw_90 ⟨by decide, by decide⟩ (by decide +kernel)) qnilV) dX12_without_23) ?_
  refine qcons (qk_ret dX12_without_26 (Or.inr (Or.inl ⟨rfl, rfl⟩))) ?_
  exact qnil
theorem M_X12_without {X : qX} {l : Launch} : qMet X l 10 yX12_without cX12_without 2 (some .int) S_X12_without := qmet_of K_X12_without (by decide) rfl rfl
theorem dX12_missOf_0 : decode cX12_missOf 0 = .ok (.bipush (-5), 2) := by decide +kernel
theorem dX12_missOf_2 : decode cX12_missOf 2 = .ok (.istore_n 1, 1) := by decide +kernel
theorem dX12_missOf_3 : decode cX12_missOf 3 = .ok (.iconst 0, 1) := by decide +kernel
theorem dX12_missOf_4 : decode cX12_missOf 4 = .ok (.istore_n 2, 1) := by decide +kernel
theorem dX12_missOf_5 : decode cX12_missOf 5 = .ok (.iconst 0, 1) := by decide +kernel
theorem dX12_missOf_6 : decode cX12_missOf 6 = .ok (.istore_n 3, 1) := by decide +kernel
theorem dX12_missOf_7 : decode cX12_missOf 7 = .ok (.iload_n 3, 1) := by decide +kernel
theorem dX12_missOf_8 : decode cX12_missOf 8 = .ok (.aload_n 0, 1) := by decide +kernel
theorem dX12_missOf_9 : decode cX12_missOf 9 = .ok (.getfield 7, 3) := by decide +kernel
theorem dX12_missOf_12 : decode cX12_missOf 12 = .ok (.if_icmp .ge 49, 3) := by decide +kernel
theorem dX12_missOf_15 : decode cX12_missOf 15 = .ok (.aload_n 0, 1) := by decide +kernel
theorem dX12_missOf_16 : decode cX12_missOf 16 = .ok (.aload_n 0, 1) := by decide +kernel
theorem dX12_missOf_17 : decode cX12_missOf 17 = .ok (.getfield 16, 3) := by decide +kernel
theorem dX12_missOf_20 : decode cX12_missOf 20 = .ok (.iload_n 3, 1) := by decide +kernel
theorem dX12_missOf_21 : decode cX12_missOf 21 = .ok (.invokevirtual 251, 3) := by decide +kernel
theorem dX12_missOf_24 : decode cX12_missOf 24 = .ok (.ifCond .eq 6, 3) := by decide +kernel
theorem dX12_missOf_27 : decode cX12_missOf 27 = .ok (.goto 28, 3) := by decide +kernel
theorem dX12_missOf_30 : decode cX12_missOf 30 = .ok (.aload_n 0, 1) := by decide +kernel
theorem dX12_missOf_31 : decode cX12_missOf 31 = .ok (.iload_n 3, 1) := by decide +kernel
theorem dX12_missOf_32 : decode cX12_missOf 32 = .ok (.invokevirtual 370, 3) := by decide +kernel
theorem dX12_missOf_35 : decode cX12_missOf 35 = .ok (.istore 4, 2) := by decide +kernel
theorem dX12_missOf_37 : decode cX12_missOf 37 = .ok (.iload_n 1, 1) := by decide +kernel
theorem dX12_missOf_38 : decode cX12_missOf 38 = .ok (.ifCond .lt 12, 3) := by decide +kernel
theorem dX12_missOf_41 : decode cX12_missOf 41 = .ok (.iload 4, 2) := by decide +kernel
theorem dX12_missOf_43 : decode cX12_missOf 43 = .ok (.iload_n 2, 1) := by decide +kernel
theorem dX12_missOf_44 : decode cX12_missOf 44 = .ok (.if_icmp .lt 6, 3) := by decide +kernel
theorem dX12_missOf_47 : decode cX12_missOf 47 = .ok (.goto 8, 3) := by decide +kernel
theorem dX12_missOf_50 : decode cX12_missOf 50 = .ok (.iload_n 3, 1) := by decide +kernel
theorem dX12_missOf_51 : decode cX12_missOf 51 = .ok (.istore_n 1, 1) := by decide +kernel
theorem dX12_missOf_52 : decode cX12_missOf 52 = .ok (.iload 4, 2) := by decide +kernel
theorem dX12_missOf_54 : decode cX12_missOf 54 = .ok (.istore_n 2, 1) := by decide +kernel
theorem dX12_missOf_55 : decode cX12_missOf 55 = .ok (.iinc 3 1, 3) := by decide +kernel
theorem dX12_missOf_58 : decode cX12_missOf 58 = .ok (.goto (-51), 3) := by decide +kernel
theorem dX12_missOf_61 : decode cX12_missOf 61 = .ok (.iload_n 1, 1) := by decide +kernel
theorem dX12_missOf_62 : decode cX12_missOf 62 = .ok (.ireturn, 1) := by decide +kernel
noncomputable def C_X12_missOf : List (Nat × qOp) := [(0, qo_ci (-5) 2),
  (2, qo_istore 1 1),
  (3, qo_ci 0 1),
  (4, qo_istore 2 1),
  (5, qo_ci 0 1),
  (6, qo_istore 3 1),
  (7, qo_iload 3 1),
  (8, qo_aload 0 1),
  (9, qo_getI 12 0),
  (12, qo_icge 61),
  (15, qo_aload 0 1),
  (16, qo_aload 0 1),
  (17, qo_getI 12 2),
  (20, qo_iload 3 1),
  (21, qo_callv [(12, S_X12_has)] 2),
  (24, qo_ifeq 30),
  (27, qo_goto 55),
  (30, qo_aload 0 1),
  (31, qo_iload 3 1),
  (32, qo_callv [(12, S_X12_without)] 1),
  (35, qo_istore 4 2),
  (37, qo_iload 1 1),
  (38, qo_iflt 50),
  (41, qo_iload 4 2),
  (43, qo_iload 2 1),
  (44, qo_iclt 50),
  (47, qo_goto 55),
  (50, qo_iload 3 1),
  (51, qo_istore 1 1),
  (52, qo_iload 4 2),
  (54, qo_istore 2 1),
  (55, qo_iinc 3 1),
  (58, qo_goto 7),
  (61, qo_iload 1 1),
  (62, qo_ret (some .int) 1)]
noncomputable def S_X12_missOf : qSem := qM 5 C_X12_missOf
set_option maxRecDepth 20000 in
theorem K_X12_missOf {X : qX} {l : Launch} : ∀ q ∈ C_X12_missOf, qOk X l 11 cX12_missOf 5 RX12 "missOf" (some .int) q.1 q.2 := by
  unfold C_X12_missOf
  refine qcons (qk_bipush dX12_missOf_0 (by decide) (by decide)) ?_
  refine qcons (qk_istore_n dX12_missOf_2 rfl) ?_
  refine qcons (qk_iconst dX12_missOf_3 (by decide)) ?_
  refine qcons (qk_istore_n dX12_missOf_4 rfl) ?_
  refine qcons (qk_iconst dX12_missOf_5 (by decide)) ?_
  refine qcons (qk_istore_n dX12_missOf_6 rfl) ?_
  refine qcons (qk_iload_n dX12_missOf_7 rfl) ?_
  refine qcons (qk_aload_n dX12_missOf_8 rfl) ?_
  refine qcons (qk_getI fd_X12_7 kd_12_0 dX12_missOf_9) ?_
  refine qcons (qk_icge dX12_missOf_12 (by decide)) ?_
  refine qcons (qk_aload_n dX12_missOf_15 rfl) ?_
  refine qcons (qk_aload_n dX12_missOf_16 rfl) ?_
  refine qcons (qk_getI fd_X12_16 kd_12_2 dX12_missOf_17) ?_
  refine qcons (qk_iload_n dX12_missOf_20 rfl) ?_
  refine qcons (qk_callv (ins := fun i => .invokevirtual i) (qconsV (qrunV M_X12_has (by decide) (by decide) (by decide) rfl tw_1102 tw_1104 tw_23 tw_1105 tw_90 ⟨by decide, by decide⟩ (by decide +kernel)) qnilV) dX12_missOf_21) ?_
  refine qcons (qk_ifeq dX12_missOf_24 (by decide)) ?_
  refine qcons (qk_goto dX12_missOf_27 (by decide)) ?_
  refine qcons (qk_aload_n dX12_missOf_30 rfl) ?_
  refine qcons (qk_iload_n dX12_missOf_31 rfl) ?_
  refine qcons (qk_callv (ins := fun i => .invokevirtual i) (qconsV (qrunV M_X12_without (by decide) (by decide) (by decide) rfl tw_1307 tw_1308 tw_1309 tw_1310 tw_90 ⟨by decide, by decide⟩ (by decide +kernel)) qnilV) dX12_missOf_32) ?_
  refine qcons (qk_istore dX12_missOf_35) ?_
  refine qcons (qk_iload_n dX12_missOf_37 rfl) ?_
  refine qcons (qk_iflt dX12_missOf_38 (by decide)) ?_
  refine qcons (qk_iload dX12_missOf_41) ?_
  refine qcons (qk_iload_n dX12_missOf_43 rfl) ?_
  refine qcons (qk_iclt dX12_missOf_44 (by decide)) ?_
  refine qcons (qk_goto dX12_missOf_47 (by decide)) ?_
  refine qcons (qk_iload_n dX12_missOf_50 rfl) ?_
  refine qcons (qk_istore_n dX12_missOf_51 rfl) ?_
  refine qcons (qk_iload dX12_missOf_52) ?_
  refine qcons (qk_istore_n dX12_missOf_54 rfl) ?_
  refine qcons (qk_iinc dX12_missOf_55) ?_
  refine qcons (qk_goto dX12_missOf_58 (by decide)) ?_
  refine qcons (qk_iload_n dX12_missOf_61 rfl) ?_
  refine qcons (qk_ret dX12_missOf_62 (Or.inr (Or.inl ⟨rfl, rfl⟩))) ?_
  exact qnil
theorem M_X12_missOf {X : qX} {l : Launch} : qMet X l 11 yX12_missOf cX12_missOf 5 (some .int) S_X12_missOf := qmet_of K_X12_missOf (by decide) rfl rfl
theorem dX12_best_0 : decode cX12_best 0 = .ok (.iload_n 1, 1) := by decide +kernel
theorem dX12_best_1 : decode cX12_best 1 = .ok (.tableswitch 60 0 4 #[35, 40, 45, 50, 55], 35) := by decide +kernel
theorem dX12_best_36 : decode cX12_best 36 = .ok (.aload_n 0, 1) := by decide +kernel
theorem dX12_best_37 : decode cX12_best 37 = .ok (.invokevirtual 373, 3) := by decide +kernel
theorem dX12_best_40 : decode cX12_best 40 = .ok (.ireturn, 1) := by decide +kernel
theorem dX12_best_41 : decode cX12_best 41 = .ok (.aload_n 0, 1) := by decide +kernel
theorem dX12_best_42 : decode cX12_best 42 = .ok (.invokevirtual 376, 3) := by decide +kernel
theorem dX12_best_45 : decode cX12_best 45 = .ok (.ireturn, 1) := by decide +kernel
theorem dX12_best_46 : decode cX12_best 46 = .ok (.aload_n 0, 1) := by decide +kernel
theorem dX12_best_47 : decode cX12_best 47 = .ok (.invokevirtual 379, 3) := by decide +kernel
theorem dX12_best_50 : decode cX12_best 50 = .ok (.ireturn, 1) := by decide +kernel
theorem dX12_best_51 : decode cX12_best 51 = .ok (.aload_n 0, 1) := by decide +kernel
theorem dX12_best_52 : decode cX12_best 52 = .ok (.invokevirtual 382, 3) := by decide +kernel
theorem dX12_best_55 : decode cX12_best 55 = .ok (.ireturn, 1) := by decide +kernel
theorem dX12_best_56 : decode cX12_best 56 = .ok (.aload_n 0, 1) := by decide +kernel
theorem dX12_best_57 : decode cX12_best 57 = .ok (.invokevirtual 367, 3) := by decide +kernel
theorem dX12_best_60 : decode cX12_best 60 = .ok (.ireturn, 1) := by decide +kernel
theorem dX12_best_61 : decode cX12_best 61 = .ok (.iconst (-1), 1) := by decide +kernel
theorem dX12_best_62 : decode cX12_best 62 = .ok (.ireturn, 1) := by decide +kernel
noncomputable def C_X12_best : List (Nat × qOp) := [(0, qo_iload 1 1),
  (1, qo_tsw 0 [36, 41, 46, 51, 56] 61),
  (36, qo_aload 0 1),
  (37, qo_callv [(12, S_X12_moveOf)] 0),
  (40, qo_ret (some .int) 1),
  (41, qo_aload 0 1),
  (42, qo_callv [(12, S_X12_swapOf)] 0),
  (45, qo_ret (some .int) 1),
  (46, qo_aload 0 1),
  (47, qo_callv [(12, S_X12_enoughOf)] 0),
  (50, qo_ret (some .int) 1),
  (51, qo_aload 0 1),
  (52, qo_callv [(12, S_X12_missOf)] 0),
  (55, qo_ret (some .int) 1),
  (56, qo_aload 0 1),
  (57, qo_callv [(12, S_X12_yield0)] 0),
  (60, qo_ret (some .int) 1),
  (61, qo_ci (-1) 1),
  (62, qo_ret (some .int) 1)]
noncomputable def S_X12_best : qSem := qM 2 C_X12_best
set_option maxRecDepth 20000 in
theorem K_X12_best {X : qX} {l : Launch} : ∀ q ∈ C_X12_best, qOk X l 12 cX12_best 2 RX12 "best" (some .int) q.1 q.2 := by
  unfold C_X12_best
  refine qcons (qk_iload_n dX12_best_0 rfl) ?_
  refine qcons (qk_tsw dX12_best_1 (by decide) (by decide) (by decide)) ?_
  refine qcons (qk_aload_n dX12_best_36 rfl) ?_
  refine qcons (qk_callv (ins := fun i => .invokevirtual i) (qconsV (qrunV M_X12_moveOf (by decide) (by decide) (by decide) rfl tw_1283 tw_1285 tw_58 tw_1286 tw_90 ⟨by decide, by decide⟩ (by decide +kernel)) qnilV) dX12_best_37) ?_
  refine qcons (qk_ret dX12_best_40 (Or.inr (Or.inl ⟨rfl, rfl⟩))) ?_
  refine qcons (qk_aload_n dX12_best_41 rfl) ?_
  refine qcons (qk_callv (ins := fun i => .invokevirtual i) (qconsV (qrunV M_X12_swapOf (by decide) (by decide) (by decide) rfl tw_1295 tw_1297 tw_61 tw_1298 tw_90 ⟨by decide, by decide⟩ (by decide +kernel)) qnilV) dX12_best_42) ?_
  refine qcons (qk_ret dX12_best_45 (Or.inr (Or.inl ⟨rfl, rfl⟩))) ?_
  refine qcons (qk_aload_n dX12_best_46 rfl) ?_
  refine qcons (qk_callv (ins := fun i => .invokevirtual i) (qconsV (qrunV M_X12_enoughOf (by decide) (by decide) (by decide) rfl tw_1299 tw_1301 tw_62 tw_1302 tw_90 ⟨by decide, by decide⟩ (by decide +kernel)) qnilV) dX12_best_47) ?_
  refine qcons (qk_ret dX12_best_50 (Or.inr (Or.inl ⟨rfl, rfl⟩))) ?_
  refine qcons (qk_aload_n dX12_best_51 rfl) ?_
  refine qcons (qk_callv (ins := fun i => .invokevirtual i) (qconsV (qrunV M_X12_missOf (by decide) (by decide) (by decide) rfl tw_1303 tw_1305 tw_63 tw_1306 tw_90 ⟨by decide, by decide⟩ (by decide +kernel)) qnilV) dX12_best_52) ?_
  refine qcons (qk_ret dX12_best_55 (Or.inr (Or.inl ⟨rfl, rfl⟩))) ?_
  refine qcons (qk_aload_n dX12_best_56 rfl) ?_
  refine qcons (qk_callv (ins := fun i => .invokevirtual i) (qconsV (qrunV M_X12_yield0 (by decide) (by decide) (by decide) rfl tw_1287 tw_1289 tw_59 tw_1290 tw_90 ⟨by decide, by decide⟩ (by decide +kernel)) qnilV) dX12_best_57) ?_
  refine qcons (qk_ret dX12_best_60 (Or.inr (Or.inl ⟨rfl, rfl⟩))) ?_
  refine qcons (qk_iconst dX12_best_61 (by decide)) ?_
  refine qcons (qk_ret dX12_best_62 (Or.inr (Or.inl ⟨rfl, rfl⟩))) ?_
  exact qnil
theorem M_X12_best {X : qX} {l : Launch} : qMet X l 12 yX12_best cX12_best 2 (some .int) S_X12_best := qmet_of K_X12_best (by decide) rfl rfl
theorem dX12_when_0 : decode cX12_when 0 = .ok (.aload_n 0, 1) := by decide +kernel
theorem dX12_when_1 : decode cX12_when 1 = .ok (.iload_n 1, 1) := by decide +kernel
theorem dX12_when_2 : decode cX12_when 2 = .ok (.invokevirtual 248, 3) := by decide +kernel
theorem dX12_when_5 : decode cX12_when 5 = .ok (.ifCond .eq 11, 3) := by decide +kernel
theorem dX12_when_8 : decode cX12_when 8 = .ok (.aload_n 0, 1) := by decide +kernel
theorem dX12_when_9 : decode cX12_when 9 = .ok (.iload_n 2, 1) := by decide +kernel
theorem dX12_when_10 : decode cX12_when 10 = .ok (.invokevirtual 244, 3) := by decide +kernel
theorem dX12_when_13 : decode cX12_when 13 = .ok (.ifCond .ne 5, 3) := by decide +kernel
theorem dX12_when_16 : decode cX12_when 16 = .ok (.iconst (-1), 1) := by decide +kernel
theorem dX12_when_17 : decode cX12_when 17 = .ok (.ireturn, 1) := by decide +kernel
theorem dX12_when_18 : decode cX12_when 18 = .ok (.iconst 0, 1) := by decide +kernel
theorem dX12_when_19 : decode cX12_when 19 = .ok (.istore_n 3, 1) := by decide +kernel
theorem dX12_when_20 : decode cX12_when 20 = .ok (.iconst (-1), 1) := by decide +kernel
theorem dX12_when_21 : decode cX12_when 21 = .ok (.istore 4, 2) := by decide +kernel
theorem dX12_when_23 : decode cX12_when 23 = .ok (.iconst 0, 1) := by decide +kernel
theorem dX12_when_24 : decode cX12_when 24 = .ok (.istore 5, 2) := by decide +kernel
theorem dX12_when_26 : decode cX12_when 26 = .ok (.iload 5, 2) := by decide +kernel
theorem dX12_when_28 : decode cX12_when 28 = .ok (.bipush 21, 2) := by decide +kernel
theorem dX12_when_30 : decode cX12_when 30 = .ok (.if_icmp .ge 54, 3) := by decide +kernel
theorem dX12_when_33 : decode cX12_when 33 = .ok (.aload_n 0, 1) := by decide +kernel
theorem dX12_when_34 : decode cX12_when 34 = .ok (.invokevirtual 358, 3) := by decide +kernel
theorem dX12_when_37 : decode cX12_when 37 = .ok (.aload_n 0, 1) := by decide +kernel
theorem dX12_when_38 : decode cX12_when 38 = .ok (.iload 5, 2) := by decide +kernel
theorem dX12_when_40 : decode cX12_when 40 = .ok (.invokevirtual 354, 3) := by decide +kernel
theorem dX12_when_43 : decode cX12_when 43 = .ok (.aload_n 0, 1) := by decide +kernel
theorem dX12_when_44 : decode cX12_when 44 = .ok (.getfield 29, 3) := by decide +kernel
theorem dX12_when_47 : decode cX12_when 47 = .ok (.iload_n 1, 1) := by decide +kernel
theorem dX12_when_48 : decode cX12_when 48 = .ok (.iload_n 2, 1) := by decide +kernel
theorem dX12_when_49 : decode cX12_when 49 = .ok (.iastore, 1) := by decide +kernel
theorem dX12_when_50 : decode cX12_when 50 = .ok (.aload_n 0, 1) := by decide +kernel
theorem dX12_when_51 : decode cX12_when 51 = .ok (.bipush 30, 2) := by decide +kernel
theorem dX12_when_53 : decode cX12_when 53 = .ok (.iload 5, 2) := by decide +kernel
theorem dX12_when_55 : decode cX12_when 55 = .ok (.isub, 1) := by decide +kernel
theorem dX12_when_56 : decode cX12_when 56 = .ok (.invokevirtual 364, 3) := by decide +kernel
theorem dX12_when_59 : decode cX12_when 59 = .ok (.istore 6, 2) := by decide +kernel
theorem dX12_when_61 : decode cX12_when 61 = .ok (.iload 6, 2) := by decide +kernel
theorem dX12_when_63 : decode cX12_when 63 = .ok (.iload 4, 2) := by decide +kernel
theorem dX12_when_65 : decode cX12_when 65 = .ok (.if_icmp .gt 6, 3) := by decide +kernel
theorem dX12_when_68 : decode cX12_when 68 = .ok (.goto 10, 3) := by decide +kernel
theorem dX12_when_71 : decode cX12_when 71 = .ok (.iload 5, 2) := by decide +kernel
theorem dX12_when_73 : decode cX12_when 73 = .ok (.istore_n 3, 1) := by decide +kernel
theorem dX12_when_74 : decode cX12_when 74 = .ok (.iload 6, 2) := by decide +kernel
theorem dX12_when_76 : decode cX12_when 76 = .ok (.istore 4, 2) := by decide +kernel
theorem dX12_when_78 : decode cX12_when 78 = .ok (.iinc 5 1, 3) := by decide +kernel
theorem dX12_when_81 : decode cX12_when 81 = .ok (.goto (-55), 3) := by decide +kernel
theorem dX12_when_84 : decode cX12_when 84 = .ok (.iload_n 3, 1) := by decide +kernel
theorem dX12_when_85 : decode cX12_when 85 = .ok (.ireturn, 1) := by decide +kernel
noncomputable def C_X12_when : List (Nat × qOp) := [(0, qo_aload 0 1),
  (1, qo_iload 1 1),
  (2, qo_callv [(12, S_X12_isPerson)] 1),
  (5, qo_ifeq 16),
  (8, qo_aload 0 1),
  (9, qo_iload 2 1),
  (10, qo_callv [(12, S_X12_isWork)] 1),
  (13, qo_ifne 18),
  (16, qo_ci (-1) 1),
  (17, qo_ret (some .int) 1),
  (18, qo_ci 0 1),
  (19, qo_istore 3 1),
  (20, qo_ci (-1) 1),
  (21, qo_istore 4 2),
  (23, qo_ci 0 1),
  (24, qo_istore 5 2),
  (26, qo_iload 5 2),
  (28, qo_ci 21 2),
  (30, qo_icge 84),
  (33, qo_aload 0 1),
  (34, qo_callv [(12, S_X12_save)] 0),
  (37, qo_aload 0 1),
  (38, qo_iload 5 2),
  (40, qo_callv [(12, S_X12_goMinutes)] 1),
  (43, qo_aload 0 1),
  (44, qo_getR 12 6),
  (47, qo_iload 1 1),
  (48, qo_iload 2 1),
  (49, qo_iastore),
  (50, qo_aload 0 1),
  (51, qo_ci 30 2),
  (53, qo_iload 5 2),
  (55, qo_isub),
  (56, qo_callv [(12, S_X12_yieldThen)] 1),
  (59, qo_istore 6 2),
  (61, qo_iload 6 2),
  (63, qo_iload 4 2),
  (65, qo_icgt 71),
  (68, qo_goto 78),
  (71, qo_iload 5 2),
  (73, qo_istore 3 1),
  (74, qo_iload 6 2),
  (76, qo_istore 4 2),
  (78, qo_iinc 5 1),
  (81, qo_goto 26),
  (84, qo_iload 3 1),
  (85, qo_ret (some .int) 1)]
noncomputable def S_X12_when : qSem := qM 7 C_X12_when
set_option maxRecDepth 20000 in
theorem K_X12_when {X : qX} {l : Launch} : ∀ q ∈ C_X12_when, qOk X l 10 cX12_when 7 RX12 "when" (some .int) q.1 q.2 := by
  unfold C_X12_when
  refine qcons (qk_aload_n dX12_when_0 rfl) ?_
  refine qcons (qk_iload_n dX12_when_1 rfl) ?_
  refine qcons (qk_callv (ins := fun i => .invokevirtual i) (qconsV (qrunV M_X12_isPerson (by decide) (by decide) (by decide) rfl tw_1094 tw_1096 tw_22 tw_1097 tw_90 ⟨by decide, by decide⟩ (by decide +kernel)) qnilV) dX12_when_2) ?_
  refine qcons (qk_ifeq dX12_when_5 (by decide)) ?_
  refine qcons (qk_aload_n dX12_when_8 rfl) ?_
  refine qcons (qk_iload_n dX12_when_9 rfl) ?_
  refine qcons (qk_callv (ins := fun i => .invokevirtual i) (qconsV (qrunV M_X12_isWork (by decide) (by decide) (by decide) rfl tw_1086 tw_1088 tw_21 tw_1089 tw_90 ⟨by decide, by decide⟩ (by decide +kernel)) qnilV) dX12_when_10) ?_
  refine qcons (qk_ifne dX12_when_13 (by decide)) ?_
  refine qcons (qk_iconst dX12_when_16 (by decide)) ?_
  refine qcons (qk_ret dX12_when_17 (Or.inr (Or.inl ⟨rfl, rfl⟩))) ?_
  refine qcons (qk_iconst dX12_when_18 (by decide)) ?_
  refine qcons (qk_istore_n dX12_when_19 rfl) ?_
  refine qcons (qk_iconst dX12_when_20 (by decide)) ?_
  refine qcons (qk_istore dX12_when_21) ?_
  refine qcons (qk_iconst dX12_when_23 (by decide)) ?_
  refine qcons (qk_istore dX12_when_24) ?_
  refine qcons (qk_iload dX12_when_26) ?_
  refine qcons (qk_bipush dX12_when_28 (by decide) (by decide)) ?_
  refine qcons (qk_icge dX12_when_30 (by decide)) ?_
  refine qcons (qk_aload_n dX12_when_33 rfl) ?_
  refine qcons (qk_callv (ins := fun i => .invokevirtual i) (qconsV (qrunV M_X12_save (by decide) (by decide) (by decide) rfl tw_1266 tw_1268 tw_56 tw_1269 tw_90 ⟨by decide, by decide⟩ (by decide +kernel)) qnilV) dX12_when_34) ?_
  refine qcons (qk_aload_n dX12_when_37 rfl) ?_
  refine qcons (qk_iload dX12_when_38) ?_
  refine qcons (qk_callv (ins := fun i => .invokevirtual i) (qconsV (qrunV M_X12_goMinutes (by decide) (by decide) (by decide) rfl tw_1250 tw_1252 tw_53 tw_1253 tw_90 ⟨by decide, by decide⟩ (by decide +kernel)) qnilV) dX12_when_40) ?_
  refine qcons (qk_aload_n dX12_when_43 rfl) ?_
  refine qcons (qk_getR fd_X12_29 kd_12_6 dX12_when_44) ?_
  refine qcons (qk_iload_n dX12_when_47 rfl) ?_
  refine qcons (qk_iload_n dX12_when_48 rfl) ?_
  refine qcons (qk_iastore dX12_when_49) ?_
  refine qcons (qk_aload_n dX12_when_50 rfl) ?_
  refine qcons (qk_bipush dX12_when_51 (by decide) (by decide)) ?_
  refine qcons (qk_iload dX12_when_53) ?_
  refine qcons (qk_isub dX12_when_55) ?_
  refine qcons (qk_callv (ins := fun i => .invokevirtual i) (qconsV (qrunV M_X12_yieldThen (by decide) (by decide) (by decide) rfl tw_1291 tw_1293 tw_60 tw_1294 tw_90 ⟨by decide, by decide⟩ (by decide +kernel)) qnilV) dX12_when_56) ?_
  refine qcons (qk_istore dX12_when_59) ?_
  refine qcons (qk_iload dX12_when_61) ?_
  refine qcons (qk_iload dX12_when_63) ?_
  refine qcons (qk_icgt dX12_when_65 (by decide)) ?_
  refine qcons (qk_goto dX12_when_68 (by decide)) ?_
  refine qcons (qk_iload dX12_when_71) ?_
  refine qcons (qk_istore_n dX12_when_73 rfl) ?_
  refine qcons (qk_iload dX12_when_74) ?_
  refine qcons (qk_istore dX12_when_76) ?_
  refine qcons (qk_iinc dX12_when_78) ?_
  refine qcons (qk_goto dX12_when_81 (by decide)) ?_
  refine qcons (qk_iload_n dX12_when_84 rfl) ?_
  refine qcons (qk_ret dX12_when_85 (Or.inr (Or.inl ⟨rfl, rfl⟩))) ?_
  exact qnil
theorem M_X12_when {X : qX} {l : Launch} : qMet X l 10 yX12_when cX12_when 7 (some .int) S_X12_when := qmet_of K_X12_when (by decide) rfl rfl
theorem dX12_see_0 : decode cX12_see 0 = .ok (.iload_n 1, 1) := by decide +kernel
theorem dX12_see_1 : decode cX12_see 1 = .ok (.iconst (-1), 1) := by decide +kernel
theorem dX12_see_2 : decode cX12_see 2 = .ok (.if_icmp .ne 10, 3) := by decide +kernel
theorem dX12_see_5 : decode cX12_see 5 = .ok (.aload_n 0, 1) := by decide +kernel
theorem dX12_see_6 : decode cX12_see 6 = .ok (.iconst 0, 1) := by decide +kernel
theorem dX12_see_7 : decode cX12_see 7 = .ok (.putfield 124, 3) := by decide +kernel
theorem dX12_see_10 : decode cX12_see 10 = .ok (.iconst 0, 1) := by decide +kernel
theorem dX12_see_11 : decode cX12_see 11 = .ok (.ireturn, 1) := by decide +kernel
theorem dX12_see_12 : decode cX12_see 12 = .ok (.aload_n 0, 1) := by decide +kernel
theorem dX12_see_13 : decode cX12_see 13 = .ok (.iload_n 1, 1) := by decide +kernel
theorem dX12_see_14 : decode cX12_see 14 = .ok (.invokevirtual 259, 3) := by decide +kernel
theorem dX12_see_17 : decode cX12_see 17 = .ok (.ifCond .ne 5, 3) := by decide +kernel
theorem dX12_see_20 : decode cX12_see 20 = .ok (.iconst (-1), 1) := by decide +kernel
theorem dX12_see_21 : decode cX12_see 21 = .ok (.ireturn, 1) := by decide +kernel
theorem dX12_see_22 : decode cX12_see 22 = .ok (.aload_n 0, 1) := by decide +kernel
theorem dX12_see_23 : decode cX12_see 23 = .ok (.iload_n 2, 1) := by decide +kernel
theorem dX12_see_24 : decode cX12_see 24 = .ok (.invokevirtual 262, 3) := by decide +kernel
theorem dX12_see_27 : decode cX12_see 27 = .ok (.ifCond .eq 14, 3) := by decide +kernel
theorem dX12_see_30 : decode cX12_see 30 = .ok (.aload_n 0, 1) := by decide +kernel
theorem dX12_see_31 : decode cX12_see 31 = .ok (.iload_n 3, 1) := by decide +kernel
theorem dX12_see_32 : decode cX12_see 32 = .ok (.iconst 0, 1) := by decide +kernel
theorem dX12_see_33 : decode cX12_see 33 = .ok (.bipush 20, 2) := by decide +kernel
theorem dX12_see_35 : decode cX12_see 35 = .ok (.invokevirtual 240, 3) := by decide +kernel
theorem dX12_see_38 : decode cX12_see 38 = .ok (.ifCond .ne 6, 3) := by decide +kernel
theorem dX12_see_41 : decode cX12_see 41 = .ok (.bipush (-2), 2) := by decide +kernel
theorem dX12_see_43 : decode cX12_see 43 = .ok (.ireturn, 1) := by decide +kernel
theorem dX12_see_44 : decode cX12_see 44 = .ok (.aload_n 0, 1) := by decide +kernel
theorem dX12_see_45 : decode cX12_see 45 = .ok (.getfield 124, 3) := by decide +kernel
theorem dX12_see_48 : decode cX12_see 48 = .ok (.iconst 5, 1) := by decide +kernel
theorem dX12_see_49 : decode cX12_see 49 = .ok (.if_icmp .ne 6, 3) := by decide +kernel
theorem dX12_see_52 : decode cX12_see 52 = .ok (.bipush (-4), 2) := by decide +kernel
theorem dX12_see_54 : decode cX12_see 54 = .ok (.ireturn, 1) := by decide +kernel
theorem dX12_see_55 : decode cX12_see 55 = .ok (.aload_n 0, 1) := by decide +kernel
theorem dX12_see_56 : decode cX12_see 56 = .ok (.getfield 127, 3) := by decide +kernel
theorem dX12_see_59 : decode cX12_see 59 = .ok (.aload_n 0, 1) := by decide +kernel
theorem dX12_see_60 : decode cX12_see 60 = .ok (.getfield 124, 3) := by decide +kernel
theorem dX12_see_63 : decode cX12_see 63 = .ok (.iload_n 1, 1) := by decide +kernel
theorem dX12_see_64 : decode cX12_see 64 = .ok (.iastore, 1) := by decide +kernel
theorem dX12_see_65 : decode cX12_see 65 = .ok (.aload_n 0, 1) := by decide +kernel
theorem dX12_see_66 : decode cX12_see 66 = .ok (.getfield 130, 3) := by decide +kernel
theorem dX12_see_69 : decode cX12_see 69 = .ok (.aload_n 0, 1) := by decide +kernel
theorem dX12_see_70 : decode cX12_see 70 = .ok (.getfield 124, 3) := by decide +kernel
theorem dX12_see_73 : decode cX12_see 73 = .ok (.iload_n 2, 1) := by decide +kernel
theorem dX12_see_74 : decode cX12_see 74 = .ok (.iastore, 1) := by decide +kernel
theorem dX12_see_75 : decode cX12_see 75 = .ok (.aload_n 0, 1) := by decide +kernel
theorem dX12_see_76 : decode cX12_see 76 = .ok (.getfield 133, 3) := by decide +kernel
theorem dX12_see_79 : decode cX12_see 79 = .ok (.aload_n 0, 1) := by decide +kernel
theorem dX12_see_80 : decode cX12_see 80 = .ok (.getfield 124, 3) := by decide +kernel
theorem dX12_see_83 : decode cX12_see 83 = .ok (.iload_n 3, 1) := by decide +kernel
theorem dX12_see_84 : decode cX12_see 84 = .ok (.iastore, 1) := by decide +kernel
theorem dX12_see_85 : decode cX12_see 85 = .ok (.aload_n 0, 1) := by decide +kernel
theorem dX12_see_86 : decode cX12_see 86 = .ok (.dup, 1) := by decide +kernel
theorem dX12_see_87 : decode cX12_see 87 = .ok (.getfield 124, 3) := by decide +kernel
theorem dX12_see_90 : decode cX12_see 90 = .ok (.iconst 1, 1) := by decide +kernel
theorem dX12_see_91 : decode cX12_see 91 = .ok (.iadd, 1) := by decide +kernel
theorem dX12_see_92 : decode cX12_see 92 = .ok (.putfield 124, 3) := by decide +kernel
theorem dX12_see_95 : decode cX12_see 95 = .ok (.aload_n 0, 1) := by decide +kernel
theorem dX12_see_96 : decode cX12_see 96 = .ok (.getfield 124, 3) := by decide +kernel
theorem dX12_see_99 : decode cX12_see 99 = .ok (.ireturn, 1) := by decide +kernel
noncomputable def C_X12_see : List (Nat × qOp) := [(0, qo_iload 1 1),
  (1, qo_ci (-1) 1),
  (2, qo_icne 12),
  (5, qo_aload 0 1),
  (6, qo_ci 0 1),
  (7, qo_putI 12 37),
  (10, qo_ci 0 1),
  (11, qo_ret (some .int) 1),
  (12, qo_aload 0 1),
  (13, qo_iload 1 1),
  (14, qo_callv [(12, S_X12_isHeap)] 1),
  (17, qo_ifne 22),
  (20, qo_ci (-1) 1),
  (21, qo_ret (some .int) 1),
  (22, qo_aload 0 1),
  (23, qo_iload 2 1),
  (24, qo_callv [(12, S_X12_isLetters)] 1),
  (27, qo_ifeq 41),
  (30, qo_aload 0 1),
  (31, qo_iload 3 1),
  (32, qo_ci 0 1),
  (33, qo_ci 20 2),
  (35, qo_callv [(12, S_X12_in)] 3),
  (38, qo_ifne 44),
  (41, qo_ci (-2) 2),
  (43, qo_ret (some .int) 1),
  (44, qo_aload 0 1),
  (45, qo_getI 12 37),
  (48, qo_ci 5 1),
  (49, qo_icne 55),
  (52, qo_ci (-4) 2),
  (54, qo_ret (some .int) 1),
  (55, qo_aload 0 1),
  (56, qo_getR 12 38),
  (59, qo_aload 0 1),
  (60, qo_getI 12 37),
  (63, qo_iload 1 1),
  (64, qo_iastore),
  (65, qo_aload 0 1),
  (66, qo_getR 12 39),
  (69, qo_aload 0 1),
  (70, qo_getI 12 37),
  (73, qo_iload 2 1),
  (74, qo_iastore),
  (75, qo_aload 0 1),
  (76, qo_getR 12 40),
  (79, qo_aload 0 1),
  (80, qo_getI 12 37),
  (83, qo_iload 3 1),
  (84, qo_iastore),
  (85, qo_aload 0 1),
  (86, qo_dup),
  (87, qo_getI 12 37),
  (90, qo_ci 1 1),
  (91, qo_iadd),
  (92, qo_putI 12 37),
  (95, qo_aload 0 1),
  (96, qo_getI 12 37),
  (99, qo_ret (some .int) 1)]
noncomputable def S_X12_see : qSem := qM 4 C_X12_see
set_option maxRecDepth 20000 in
theorem K_X12_see {X : qX} {l : Launch} : ∀ q ∈ C_X12_see, qOk X l 3 cX12_see 4 RX12 "see" (some .int) q.1 q.2 := by
  unfold C_X12_see
  refine qcons (qk_iload_n dX12_see_0 rfl) ?_
  refine qcons (qk_iconst dX12_see_1 (by decide)) ?_
  refine qcons (qk_icne dX12_see_2 (by decide)) ?_
  refine qcons (qk_aload_n dX12_see_5 rfl) ?_
  refine qcons (qk_iconst dX12_see_6 (by decide)) ?_
  refine qcons (qk_putI (ty := .int) fd_X12_124 tyX12_ok nmX12 (Or.inl rfl) kd_12_37 (tyX12_ok 37 (by decide)) dX12_see_7) ?_
  refine qcons (qk_iconst dX12_see_10 (by decide)) ?_
  refine qcons (qk_ret dX12_see_11 (Or.inr (Or.inl ⟨rfl, rfl⟩))) ?_
  refine qcons (qk_aload_n dX12_see_12 rfl) ?_
  refine qcons (qk_iload_n dX12_see_13 rfl) ?_
  refine qcons (qk_callv (ins := fun i => .invokevirtual i) (qconsV (qrunV M_X12_isHeap (by decide) (by decide) (by decide) rfl tw_1118 tw_1120 tw_25 tw_1121 tw_90 ⟨by decide, by decide⟩ (by decide +kernel)) qnilV) dX12_see_14) ?_
  refine qcons (qk_ifne dX12_see_17 (by decide)) ?_
  refine qcons (qk_iconst dX12_see_20 (by decide)) ?_
  refine qcons (qk_ret dX12_see_21 (Or.inr (Or.inl ⟨rfl, rfl⟩))) ?_
  refine qcons (qk_aload_n dX12_see_22 rfl) ?_
  refine qcons (qk_iload_n dX12_see_23 rfl) ?_
  refine qcons (qk_callv (ins := fun i => .invokevirtual i) (qconsV (qrunV M_X12_isLetters (by decide) (by decide) (by decide) rfl tw_1122 tw_1124 tw_26 tw_1125 tw_90 ⟨by decide, by decide⟩ (by decide +kernel)) qnilV) dX12_see_24) ?_
  refine qcons (qk_ifeq dX12_see_27 (by decide)) ?_
  refine qcons (qk_aload_n dX12_see_30 rfl) ?_
  refine qcons (qk_iload_n dX12_see_31 rfl) ?_
  refine qcons (qk_iconst dX12_see_32 (by decide)) ?_
  refine qcons (qk_bipush dX12_see_33 (by decide) (by decide)) ?_
  refine qcons (qk_callv (ins := fun i => .invokevirtual i) (qconsV (qrunV M_X12_in (by decide) (by decide) (by decide) rfl tw_1082 tw_1084 tw_20 tw_1085 tw_90 ⟨by decide, by decide⟩ (by decide +kernel)) qnilV) dX12_see_35) ?_
  refine qcons (qk_ifne dX12_see_38 (by decide)) ?_
  refine qcons (qk_bipush dX12_see_41 (by decide) (by decide)) ?_
  refine qcons (qk_ret dX12_see_43 (Or.inr (Or.inl ⟨rfl, rfl⟩))) ?_
  refine qcons (qk_aload_n dX12_see_44 rfl) ?_
  refine qcons (qk_getI fd_X12_124 kd_12_37 dX12_see_45) ?_
  refine qcons (qk_iconst dX12_see_48 (by decide)) ?_
  refine qcons (qk_icne dX12_see_49 (by decide)) ?_
  refine qcons (qk_bipush dX12_see_52 (by decide) (by decide)) ?_
  refine qcons (qk_ret dX12_see_54 (Or.inr (Or.inl ⟨rfl, rfl⟩))) ?_
  refine qcons (qk_aload_n dX12_see_55 rfl) ?_
  refine qcons (qk_getR fd_X12_127 kd_12_38 dX12_see_56) ?_
  refine qcons (qk_aload_n dX12_see_59 rfl) ?_
  refine qcons (qk_getI fd_X12_124 kd_12_37 dX12_see_60) ?_
  refine qcons (qk_iload_n dX12_see_63 rfl) ?_
  refine qcons (qk_iastore dX12_see_64) ?_
  refine qcons (qk_aload_n dX12_see_65 rfl) ?_
  refine qcons (qk_getR fd_X12_130 kd_12_39 dX12_see_66) ?_
  refine qcons (qk_aload_n dX12_see_69 rfl) ?_
  refine qcons (qk_getI fd_X12_124 kd_12_37 dX12_see_70) ?_
  refine qcons (qk_iload_n dX12_see_73 rfl) ?_
  refine qcons (qk_iastore dX12_see_74) ?_
  refine qcons (qk_aload_n dX12_see_75 rfl) ?_
  refine qcons (qk_getR fd_X12_133 kd_12_40 dX12_see_76) ?_
  refine qcons (qk_aload_n dX12_see_79 rfl) ?_
  refine qcons (qk_getI fd_X12_124 kd_12_37 dX12_see_80) ?_
  refine qcons (qk_iload_n dX12_see_83 rfl) ?_
  refine qcons (qk_iastore dX12_see_84) ?_
  refine qcons (qk_aload_n dX12_see_85 rfl) ?_
  refine qcons (qk_dup dX12_see_86) ?_
  refine qcons (qk_getI fd_X12_124 kd_12_37 dX12_see_87) ?_
  refine qcons (qk_iconst dX12_see_90 (by decide)) ?_
  refine qcons (qk_iadd dX12_see_91) ?_
  refine qcons (qk_putI (ty := .int) fd_X12_124 tyX12_ok nmX12 (Or.inl rfl) kd_12_37 (tyX12_ok 37 (by decide)) dX12_see_92) ?_
  refine qcons (qk_aload_n dX12_see_95 rfl) ?_
  refine qcons (qk_getI fd_X12_124 kd_12_37 dX12_see_96) ?_
  refine qcons (qk_ret dX12_see_99 (Or.inr (Or.inl ⟨rfl, rfl⟩))) ?_
  exact qnil
theorem M_X12_see {X : qX} {l : Launch} : qMet X l 3 yX12_see cX12_see 4 (some .int) S_X12_see := qmet_of K_X12_see (by decide) rfl rfl
theorem dX12_isSeen_0 : decode cX12_isSeen 0 = .ok (.iconst 1, 1) := by decide +kernel
theorem dX12_isSeen_1 : decode cX12_isSeen 1 = .ok (.istore_n 1, 1) := by decide +kernel
theorem dX12_isSeen_2 : decode cX12_isSeen 2 = .ok (.iconst 0, 1) := by decide +kernel
theorem dX12_isSeen_3 : decode cX12_isSeen 3 = .ok (.istore_n 2, 1) := by decide +kernel
theorem dX12_isSeen_4 : decode cX12_isSeen 4 = .ok (.iload_n 2, 1) := by decide +kernel
theorem dX12_isSeen_5 : decode cX12_isSeen 5 = .ok (.aload_n 0, 1) := by decide +kernel
theorem dX12_isSeen_6 : decode cX12_isSeen 6 = .ok (.getfield 124, 3) := by decide +kernel
theorem dX12_isSeen_9 : decode cX12_isSeen 9 = .ok (.if_icmp .ge 57, 3) := by decide +kernel
theorem dX12_isSeen_12 : decode cX12_isSeen 12 = .ok (.iload_n 1, 1) := by decide +kernel
theorem dX12_isSeen_13 : decode cX12_isSeen 13 = .ok (.ifCond .eq 53, 3) := by decide +kernel
theorem dX12_isSeen_16 : decode cX12_isSeen 16 = .ok (.aload_n 0, 1) := by decide +kernel
theorem dX12_isSeen_17 : decode cX12_isSeen 17 = .ok (.invokevirtual 358, 3) := by decide +kernel
theorem dX12_isSeen_20 : decode cX12_isSeen 20 = .ok (.aload_n 0, 1) := by decide +kernel
theorem dX12_isSeen_21 : decode cX12_isSeen 21 = .ok (.aload_n 0, 1) := by decide +kernel
theorem dX12_isSeen_22 : decode cX12_isSeen 22 = .ok (.getfield 133, 3) := by decide +kernel
theorem dX12_isSeen_25 : decode cX12_isSeen 25 = .ok (.iload_n 2, 1) := by decide +kernel
theorem dX12_isSeen_26 : decode cX12_isSeen 26 = .ok (.iaload, 1) := by decide +kernel
theorem dX12_isSeen_27 : decode cX12_isSeen 27 = .ok (.invokevirtual 354, 3) := by decide +kernel
theorem dX12_isSeen_30 : decode cX12_isSeen 30 = .ok (.aload_n 0, 1) := by decide +kernel
theorem dX12_isSeen_31 : decode cX12_isSeen 31 = .ok (.getfield 19, 3) := by decide +kernel
theorem dX12_isSeen_34 : decode cX12_isSeen 34 = .ok (.aload_n 0, 1) := by decide +kernel
theorem dX12_isSeen_35 : decode cX12_isSeen 35 = .ok (.getfield 127, 3) := by decide +kernel
theorem dX12_isSeen_38 : decode cX12_isSeen 38 = .ok (.iload_n 2, 1) := by decide +kernel
theorem dX12_isSeen_39 : decode cX12_isSeen 39 = .ok (.iaload, 1) := by decide +kernel
theorem dX12_isSeen_40 : decode cX12_isSeen 40 = .ok (.iaload, 1) := by decide +kernel
theorem dX12_isSeen_41 : decode cX12_isSeen 41 = .ok (.aload_n 0, 1) := by decide +kernel
theorem dX12_isSeen_42 : decode cX12_isSeen 42 = .ok (.getfield 130, 3) := by decide +kernel
theorem dX12_isSeen_45 : decode cX12_isSeen 45 = .ok (.iload_n 2, 1) := by decide +kernel
theorem dX12_isSeen_46 : decode cX12_isSeen 46 = .ok (.iaload, 1) := by decide +kernel
theorem dX12_isSeen_47 : decode cX12_isSeen 47 = .ok (.if_icmp .ne 7, 3) := by decide +kernel
theorem dX12_isSeen_50 : decode cX12_isSeen 50 = .ok (.iconst 1, 1) := by decide +kernel
theorem dX12_isSeen_51 : decode cX12_isSeen 51 = .ok (.goto 4, 3) := by decide +kernel
theorem dX12_isSeen_54 : decode cX12_isSeen 54 = .ok (.iconst 0, 1) := by decide +kernel
theorem dX12_isSeen_55 : decode cX12_isSeen 55 = .ok (.istore_n 1, 1) := by decide +kernel
theorem dX12_isSeen_56 : decode cX12_isSeen 56 = .ok (.aload_n 0, 1) := by decide +kernel
theorem dX12_isSeen_57 : decode cX12_isSeen 57 = .ok (.invokevirtual 361, 3) := by decide +kernel
theorem dX12_isSeen_60 : decode cX12_isSeen 60 = .ok (.iinc 2 1, 3) := by decide +kernel
theorem dX12_isSeen_63 : decode cX12_isSeen 63 = .ok (.goto (-59), 3) := by decide +kernel
theorem dX12_isSeen_66 : decode cX12_isSeen 66 = .ok (.iload_n 1, 1) := by decide +kernel
theorem dX12_isSeen_67 : decode cX12_isSeen 67 = .ok (.ireturn, 1) := by decide +kernel
noncomputable def C_X12_isSeen : List (Nat × qOp) := [(0, qo_ci 1 1),
  (1, qo_istore 1 1),
  (2, qo_ci 0 1),
  (3, qo_istore 2 1),
  (4, qo_iload 2 1),
  (5, qo_aload 0 1),
  (6, qo_getI 12 37),
  (9, qo_icge 66),
  (12, qo_iload 1 1),
  (13, qo_ifeq 66),
  (16, qo_aload 0 1),
  (17, qo_callv [(12, S_X12_save)] 0),
  (20, qo_aload 0 1),
  (21, qo_aload 0 1),
  (22, qo_getR 12 40),
  (25, qo_iload 2 1),
  (26, qo_iaload),
  (27, qo_callv [(12, S_X12_goMinutes)] 1),
  (30, qo_aload 0 1),
  (31, qo_getR 12 3),
  (34, qo_aload 0 1),
  (35, qo_getR 12 38),
  (38, qo_iload 2 1),
  (39, qo_iaload),
  (40, qo_iaload),
  (41, qo_aload 0 1),
  (42, qo_getR 12 39),
  (45, qo_iload 2 1),
  (46, qo_iaload),
  (47, qo_icne 54),
  (50, qo_ci 1 1),
  (51, qo_goto 55),
  (54, qo_ci 0 1),
  (55, qo_istore 1 1),
  (56, qo_aload 0 1),
  (57, qo_callv [(12, S_X12_putBack)] 0),
  (60, qo_iinc 2 1),
  (63, qo_goto 4),
  (66, qo_iload 1 1),
  (67, qo_ret (some .boolean) 1)]
noncomputable def S_X12_isSeen : qSem := qM 3 C_X12_isSeen
set_option maxRecDepth 20000 in
theorem K_X12_isSeen {X : qX} {l : Launch} : ∀ q ∈ C_X12_isSeen, qOk X l 9 cX12_isSeen 3 RX12 "isSeen" (some .boolean) q.1 q.2 := by
  unfold C_X12_isSeen
  refine qcons (qk_iconst dX12_isSeen_0 (by decide)) ?_
  refine qcons (qk_istore_n dX12_isSeen_1 rfl) ?_
  refine qcons (qk_iconst dX12_isSeen_2 (by decide)) ?_
  refine qcons (qk_istore_n dX12_isSeen_3 rfl) ?_
  refine qcons (qk_iload_n dX12_isSeen_4 rfl) ?_
  refine qcons (qk_aload_n dX12_isSeen_5 rfl) ?_
  refine qcons (qk_getI fd_X12_124 kd_12_37 dX12_isSeen_6) ?_
  refine qcons (qk_icge dX12_isSeen_9 (by decide)) ?_
  refine qcons (qk_iload_n dX12_isSeen_12 rfl) ?_
  refine qcons (qk_ifeq dX12_isSeen_13 (by decide)) ?_
  refine qcons (qk_aload_n dX12_isSeen_16 rfl) ?_
  refine qcons (qk_callv (ins := fun i => .invokevirtual i) (qconsV (qrunV M_X12_save (by decide) (by decide) (by decide) rfl tw_1266 tw_1268 tw_56 tw_1269 tw_90 ⟨by decide, by decide⟩ (by decide +kernel)) qnilV) dX12_isSeen_17) ?_
  refine qcons (qk_aload_n dX12_isSeen_20 rfl) ?_
  refine qcons (qk_aload_n dX12_isSeen_21 rfl) ?_
  refine qcons (qk_getR fd_X12_133 kd_12_40 dX12_isSeen_22) ?_
  refine qcons (qk_iload_n dX12_isSeen_25 rfl) ?_
  refine qcons (qk_iaload dX12_isSeen_26) ?_
  refine qcons (qk_callv (ins := fun i => .invokevirtual i) (qconsV (qrunV M_X12_goMinutes (by decide) (by decide) (by decide) rfl tw_1250 tw_1252 tw_53 tw_1253 tw_90 ⟨by decide, by decide⟩ (by decide +kernel)) qnilV) dX12_isSeen_27) ?_
  refine qcons (qk_aload_n dX12_isSeen_30 rfl) ?_
  refine qcons (qk_getR fd_X12_19 kd_12_3 dX12_isSeen_31) ?_
  refine qcons (qk_aload_n dX12_isSeen_34 rfl) ?_
  refine qcons (qk_getR fd_X12_127 kd_12_38 dX12_isSeen_35) ?_
  refine qcons (qk_iload_n dX12_isSeen_38 rfl) ?_
  refine qcons (qk_iaload dX12_isSeen_39) ?_
  refine qcons (qk_iaload dX12_isSeen_40) ?_
  refine qcons (qk_aload_n dX12_isSeen_41 rfl) ?_
  refine qcons (qk_getR fd_X12_130 kd_12_39 dX12_isSeen_42) ?_
  refine qcons (qk_iload_n dX12_isSeen_45 rfl) ?_
  refine qcons (qk_iaload dX12_isSeen_46) ?_
  refine qcons (qk_icne dX12_isSeen_47 (by decide)) ?_
  refine qcons (qk_iconst dX12_isSeen_50 (by decide)) ?_
  refine qcons (qk_goto dX12_isSeen_51 (by decide)) ?_
  refine qcons (qk_iconst dX12_isSeen_54 (by decide)) ?_
  refine qcons (qk_istore_n dX12_isSeen_55 rfl) ?_
  refine qcons (qk_aload_n dX12_isSeen_56 rfl) ?_
  refine qcons (qk_callv (ins := fun i => .invokevirtual i) (qconsV (qrunV M_X12_putBack (by decide) (by decide) (by decide) rfl tw_1271 tw_1273 tw_57 tw_1274 tw_90 ⟨by decide, by decide⟩ (by decide +kernel)) qnilV) dX12_isSeen_57) ?_
  refine qcons (qk_iinc dX12_isSeen_60) ?_
  refine qcons (qk_goto dX12_isSeen_63 (by decide)) ?_
  refine qcons (qk_iload_n dX12_isSeen_66 rfl) ?_
  refine qcons (qk_ret dX12_isSeen_67 (Or.inr (Or.inl ⟨rfl, rfl⟩))) ?_
  exact qnil
theorem M_X12_isSeen {X : qX} {l : Launch} : qMet X l 9 yX12_isSeen cX12_isSeen 3 (some .boolean) S_X12_isSeen := qmet_of K_X12_isSeen (by decide) rfl rfl
theorem dX12_were_0 : decode cX12_were 0 = .ok (.aload_n 0, 1) := by decide +kernel
theorem dX12_were_1 : decode cX12_were 1 = .ok (.iload_n 1, 1) := by decide +kernel
theorem dX12_were_2 : decode cX12_were 2 = .ok (.invokevirtual 259, 3) := by decide +kernel
theorem dX12_were_5 : decode cX12_were 5 = .ok (.ifCond .eq 13, 3) := by decide +kernel
theorem dX12_were_8 : decode cX12_were 8 = .ok (.aload_n 0, 1) := by decide +kernel
theorem dX12_were_9 : decode cX12_were 9 = .ok (.iload_n 2, 1) := by decide +kernel
theorem dX12_were_10 : decode cX12_were 10 = .ok (.iconst 0, 1) := by decide +kernel
theorem dX12_were_11 : decode cX12_were 11 = .ok (.iconst 1, 1) := by decide +kernel
theorem dX12_were_12 : decode cX12_were 12 = .ok (.invokevirtual 240, 3) := by decide +kernel
theorem dX12_were_15 : decode cX12_were 15 = .ok (.ifCond .ne 5, 3) := by decide +kernel
theorem dX12_were_18 : decode cX12_were 18 = .ok (.iconst (-1), 1) := by decide +kernel
theorem dX12_were_19 : decode cX12_were 19 = .ok (.ireturn, 1) := by decide +kernel
theorem dX12_were_20 : decode cX12_were 20 = .ok (.aload_n 0, 1) := by decide +kernel
theorem dX12_were_21 : decode cX12_were 21 = .ok (.getfield 19, 3) := by decide +kernel
theorem dX12_were_24 : decode cX12_were 24 = .ok (.iload_n 1, 1) := by decide +kernel
theorem dX12_were_25 : decode cX12_were 25 = .ok (.iaload, 1) := by decide +kernel
theorem dX12_were_26 : decode cX12_were 26 = .ok (.istore_n 3, 1) := by decide +kernel
theorem dX12_were_27 : decode cX12_were 27 = .ok (.iconst 0, 1) := by decide +kernel
theorem dX12_were_28 : decode cX12_were 28 = .ok (.istore 4, 2) := by decide +kernel
theorem dX12_were_30 : decode cX12_were 30 = .ok (.bipush (-5), 2) := by decide +kernel
theorem dX12_were_32 : decode cX12_were 32 = .ok (.istore 5, 2) := by decide +kernel
theorem dX12_were_34 : decode cX12_were 34 = .ok (.bipush 40, 2) := by decide +kernel
theorem dX12_were_36 : decode cX12_were 36 = .ok (.istore 6, 2) := by decide +kernel
theorem dX12_were_38 : decode cX12_were 38 = .ok (.iload 6, 2) := by decide +kernel
theorem dX12_were_40 : decode cX12_were 40 = .ok (.ifCond .lt 34, 3) := by decide +kernel
theorem dX12_were_43 : decode cX12_were 43 = .ok (.aload_n 0, 1) := by decide +kernel
theorem dX12_were_44 : decode cX12_were 44 = .ok (.getfield 19, 3) := by decide +kernel
theorem dX12_were_47 : decode cX12_were 47 = .ok (.iload_n 1, 1) := by decide +kernel
theorem dX12_were_48 : decode cX12_were 48 = .ok (.iload 6, 2) := by decide +kernel
theorem dX12_were_50 : decode cX12_were 50 = .ok (.iastore, 1) := by decide +kernel
theorem dX12_were_51 : decode cX12_were 51 = .ok (.aload_n 0, 1) := by decide +kernel
theorem dX12_were_52 : decode cX12_were 52 = .ok (.invokevirtual 385, 3) := by decide +kernel
theorem dX12_were_55 : decode cX12_were 55 = .ok (.ifCond .ne 6, 3) := by decide +kernel
theorem dX12_were_58 : decode cX12_were 58 = .ok (.goto 10, 3) := by decide +kernel
theorem dX12_were_61 : decode cX12_were 61 = .ok (.iinc 4 1, 3) := by decide +kernel
theorem dX12_were_64 : decode cX12_were 64 = .ok (.iload 6, 2) := by decide +kernel
theorem dX12_were_66 : decode cX12_were 66 = .ok (.istore 5, 2) := by decide +kernel
theorem dX12_were_68 : decode cX12_were 68 = .ok (.iinc 6 (-1), 3) := by decide +kernel
theorem dX12_were_71 : decode cX12_were 71 = .ok (.goto (-33), 3) := by decide +kernel
theorem dX12_were_74 : decode cX12_were 74 = .ok (.aload_n 0, 1) := by decide +kernel
theorem dX12_were_75 : decode cX12_were 75 = .ok (.getfield 19, 3) := by decide +kernel
theorem dX12_were_78 : decode cX12_were 78 = .ok (.iload_n 1, 1) := by decide +kernel
theorem dX12_were_79 : decode cX12_were 79 = .ok (.iload_n 3, 1) := by decide +kernel
theorem dX12_were_80 : decode cX12_were 80 = .ok (.iastore, 1) := by decide +kernel
theorem dX12_were_81 : decode cX12_were 81 = .ok (.iload_n 2, 1) := by decide +kernel
theorem dX12_were_82 : decode cX12_were 82 = .ok (.ifCond .ne 8, 3) := by decide +kernel
theorem dX12_were_85 : decode cX12_were 85 = .ok (.iload 4, 2) := by decide +kernel
theorem dX12_were_87 : decode cX12_were 87 = .ok (.goto 5, 3) := by decide +kernel
theorem dX12_were_90 : decode cX12_were 90 = .ok (.iload 5, 2) := by decide +kernel
theorem dX12_were_92 : decode cX12_were 92 = .ok (.ireturn, 1) := by decide +kernel
noncomputable def C_X12_were : List (Nat × qOp) := [(0, qo_aload 0 1),
  (1, qo_iload 1 1),
  (2, qo_callv [(12, S_X12_isHeap)] 1),
  (5, qo_ifeq 18),
  (8, qo_aload 0 1),
  (9, qo_iload 2 1),
  (10, qo_ci 0 1),
  (11, qo_ci 1 1),
  (12, qo_callv [(12, S_X12_in)] 3),
  (15, qo_ifne 20),
  (18, qo_ci (-1) 1),
  (19, qo_ret (some .int) 1),
  (20, qo_aload 0 1),
  (21, qo_getR 12 3),
  (24, qo_iload 1 1),
  (25, qo_iaload),
  (26, qo_istore 3 1),
  (27, qo_ci 0 1),
  (28, qo_istore 4 2),
  (30, qo_ci (-5) 2),
  (32, qo_istore 5 2),
  (34, qo_ci 40 2),
  (36, qo_istore 6 2),
  (38, qo_iload 6 2),
  (40, qo_iflt 74),
  (43, qo_aload 0 1),
  (44, qo_getR 12 3),
  (47, qo_iload 1 1),
  (48, qo_iload 6 2),
  (50, qo_iastore),
  (51, qo_aload 0 1),
  (52, qo_callv [(12, S_X12_isSeen)] 0),
  (55, qo_ifne 61),
  (58, qo_goto 68),
  (61, qo_iinc 4 1),
  (64, qo_iload 6 2),
  (66, qo_istore 5 2),
  (68, qo_iinc 6 (-1)),
  (71, qo_goto 38),
  (74, qo_aload 0 1),
  (75, qo_getR 12 3),
  (78, qo_iload 1 1),
  (79, qo_iload 3 1),
  (80, qo_iastore),
  (81, qo_iload 2 1),
  (82, qo_ifne 90),
  (85, qo_iload 4 2),
  (87, qo_goto 92),
  (90, qo_iload 5 2),
  (92, qo_ret (some .int) 1)]
noncomputable def S_X12_were : qSem := qM 7 C_X12_were
set_option maxRecDepth 20000 in
theorem K_X12_were {X : qX} {l : Launch} : ∀ q ∈ C_X12_were, qOk X l 10 cX12_were 7 RX12 "were" (some .int) q.1 q.2 := by
  unfold C_X12_were
  refine qcons (qk_aload_n dX12_were_0 rfl) ?_
  refine qcons (qk_iload_n dX12_were_1 rfl) ?_
  refine qcons (qk_callv (ins := fun i => .invokevirtual i) (qconsV (qrunV M_X12_isHeap (by decide) (by decide) (by decide) rfl tw_1118 tw_1120 tw_25 tw_1121 tw_90 ⟨by decide, by decide⟩ (by decide +kernel)) qnilV) dX12_were_2) ?_
  refine qcons (qk_ifeq dX12_were_5 (by decide)) ?_
  refine qcons (qk_aload_n dX12_were_8 rfl) ?_
  refine qcons (qk_iload_n dX12_were_9 rfl) ?_
  refine qcons (qk_iconst dX12_were_10 (by decide)) ?_
  refine qcons (qk_iconst dX12_were_11 (by decide)) ?_
  refine qcons (qk_callv (ins := fun i => .invokevirtual i) (qconsV (qrunV M_X12_in (by decide) (by decide) (by decide) rfl tw_1082 tw_1084 tw_20 tw_1085 tw_90 ⟨by decide, by decide⟩ (by decide +kernel)) qnilV) dX12_were_12) ?_
  refine qcons (qk_ifne dX12_were_15 (by decide)) ?_
  refine qcons (qk_iconst dX12_were_18 (by decide)) ?_
  refine qcons (qk_ret dX12_were_19 (Or.inr (Or.inl ⟨rfl, rfl⟩))) ?_
  refine qcons (qk_aload_n dX12_were_20 rfl) ?_
  refine qcons (qk_getR fd_X12_19 kd_12_3 dX12_were_21) ?_
  refine qcons (qk_iload_n dX12_were_24 rfl) ?_
  refine qcons (qk_iaload dX12_were_25) ?_
  refine qcons (qk_istore_n dX12_were_26 rfl) ?_
  refine qcons (qk_iconst dX12_were_27 (by decide)) ?_
  refine qcons (qk_istore dX12_were_28) ?_
  refine qcons (qk_bipush dX12_were_30 (by decide) (by decide)) ?_
  refine qcons (qk_istore dX12_were_32) ?_
  refine qcons (qk_bipush dX12_were_34 (by decide) (by decide)) ?_
  refine qcons (qk_istore dX12_were_36) ?_
  refine qcons (qk_iload dX12_were_38) ?_
  refine qcons (qk_iflt dX12_were_40 (by decide)) ?_
  refine qcons (qk_aload_n dX12_were_43 rfl) ?_
  refine qcons (qk_getR fd_X12_19 kd_12_3 dX12_were_44) ?_
  refine qcons (qk_iload_n dX12_were_47 rfl) ?_
  refine qcons (qk_iload dX12_were_48) ?_
  refine qcons (qk_iastore dX12_were_50) ?_
  refine qcons (qk_aload_n dX12_were_51 rfl) ?_
  refine qcons (qk_callv (ins := fun i => .invokevirtual i) (qconsV (qrunV M_X12_isSeen (by decide) (by decide) (by decide) rfl tw_1324 tw_1326 tw_64 tw_1327 tw_90 ⟨by decide, by decide⟩ (by decide +kernel)) qnilV) dX12_were_52) ?_
  refine qcons (qk_ifne dX12_were_55 (by decide)) ?_
  refine qcons (qk_goto dX12_were_58 (by decide)) ?_
  refine qcons (qk_iinc dX12_were_61) ?_
  refine qcons (qk_iload dX12_were_64) ?_
  refine qcons (qk_istore dX12_were_66) ?_
  refine qcons (qk_iinc dX12_were_68) ?_
  refine qcons (qk_goto dX12_were_71 (by decide)) ?_
  refine qcons (qk_aload_n dX12_were_74 rfl) ?_
  refine qcons (qk_getR fd_X12_19 kd_12_3 dX12_were_75) ?_
  refine qcons (qk_iload_n dX12_were_78 rfl) ?_
  refine qcons (qk_iload_n dX12_were_79 rfl) ?_
  refine qcons (qk_iastore dX12_were_80) ?_
  refine qcons (qk_iload_n dX12_were_81 rfl) ?_
  refine qcons (qk_ifne dX12_were_82 (by decide)) ?_
  refine qcons (qk_iload dX12_were_85) ?_
  refine qcons (qk_goto dX12_were_87 (by decide)) ?_
  refine qcons (qk_iload dX12_were_90) ?_
  refine qcons (qk_ret dX12_were_92 (Or.inr (Or.inl ⟨rfl, rfl⟩))) ?_
  exact qnil
theorem M_X12_were {X : qX} {l : Launch} : qMet X l 10 yX12_were cX12_were 7 (some .int) S_X12_were := qmet_of K_X12_were (by decide) rfl rfl
theorem dX12_can_0 : decode cX12_can 0 = .ok (.aload_n 0, 1) := by decide +kernel
theorem dX12_can_1 : decode cX12_can 1 = .ok (.iload_n 1, 1) := by decide +kernel
theorem dX12_can_2 : decode cX12_can 2 = .ok (.invokevirtual 248, 3) := by decide +kernel
theorem dX12_can_5 : decode cX12_can 5 = .ok (.ifCond .eq 13, 3) := by decide +kernel
theorem dX12_can_8 : decode cX12_can 8 = .ok (.aload_n 0, 1) := by decide +kernel
theorem dX12_can_9 : decode cX12_can 9 = .ok (.iload_n 2, 1) := by decide +kernel
theorem dX12_can_10 : decode cX12_can 10 = .ok (.iconst 0, 1) := by decide +kernel
theorem dX12_can_11 : decode cX12_can 11 = .ok (.iconst 1, 1) := by decide +kernel
theorem dX12_can_12 : decode cX12_can 12 = .ok (.invokevirtual 240, 3) := by decide +kernel
theorem dX12_can_15 : decode cX12_can 15 = .ok (.ifCond .ne 5, 3) := by decide +kernel
theorem dX12_can_18 : decode cX12_can 18 = .ok (.iconst (-1), 1) := by decide +kernel
theorem dX12_can_19 : decode cX12_can 19 = .ok (.ireturn, 1) := by decide +kernel
theorem dX12_can_20 : decode cX12_can 20 = .ok (.aload_n 0, 1) := by decide +kernel
theorem dX12_can_21 : decode cX12_can 21 = .ok (.getfield 26, 3) := by decide +kernel
theorem dX12_can_24 : decode cX12_can 24 = .ok (.iload_n 1, 1) := by decide +kernel
theorem dX12_can_25 : decode cX12_can 25 = .ok (.iaload, 1) := by decide +kernel
theorem dX12_can_26 : decode cX12_can 26 = .ok (.istore_n 3, 1) := by decide +kernel
theorem dX12_can_27 : decode cX12_can 27 = .ok (.iconst 0, 1) := by decide +kernel
theorem dX12_can_28 : decode cX12_can 28 = .ok (.istore 4, 2) := by decide +kernel
theorem dX12_can_30 : decode cX12_can 30 = .ok (.bipush (-5), 2) := by decide +kernel
theorem dX12_can_32 : decode cX12_can 32 = .ok (.istore 5, 2) := by decide +kernel
theorem dX12_can_34 : decode cX12_can 34 = .ok (.bipush 9, 2) := by decide +kernel
theorem dX12_can_36 : decode cX12_can 36 = .ok (.istore 6, 2) := by decide +kernel
theorem dX12_can_38 : decode cX12_can 38 = .ok (.iload 6, 2) := by decide +kernel
theorem dX12_can_40 : decode cX12_can 40 = .ok (.ifCond .lt 34, 3) := by decide +kernel
theorem dX12_can_43 : decode cX12_can 43 = .ok (.aload_n 0, 1) := by decide +kernel
theorem dX12_can_44 : decode cX12_can 44 = .ok (.getfield 26, 3) := by decide +kernel
theorem dX12_can_47 : decode cX12_can 47 = .ok (.iload_n 1, 1) := by decide +kernel
theorem dX12_can_48 : decode cX12_can 48 = .ok (.iload 6, 2) := by decide +kernel
theorem dX12_can_50 : decode cX12_can 50 = .ok (.iastore, 1) := by decide +kernel
theorem dX12_can_51 : decode cX12_can 51 = .ok (.aload_n 0, 1) := by decide +kernel
theorem dX12_can_52 : decode cX12_can 52 = .ok (.invokevirtual 385, 3) := by decide +kernel
theorem dX12_can_55 : decode cX12_can 55 = .ok (.ifCond .ne 6, 3) := by decide +kernel
theorem dX12_can_58 : decode cX12_can 58 = .ok (.goto 10, 3) := by decide +kernel
theorem dX12_can_61 : decode cX12_can 61 = .ok (.iinc 4 1, 3) := by decide +kernel
theorem dX12_can_64 : decode cX12_can 64 = .ok (.iload 6, 2) := by decide +kernel
theorem dX12_can_66 : decode cX12_can 66 = .ok (.istore 5, 2) := by decide +kernel
theorem dX12_can_68 : decode cX12_can 68 = .ok (.iinc 6 (-1), 3) := by decide +kernel
theorem dX12_can_71 : decode cX12_can 71 = .ok (.goto (-33), 3) := by decide +kernel
theorem dX12_can_74 : decode cX12_can 74 = .ok (.aload_n 0, 1) := by decide +kernel
theorem dX12_can_75 : decode cX12_can 75 = .ok (.getfield 26, 3) := by decide +kernel
theorem dX12_can_78 : decode cX12_can 78 = .ok (.iload_n 1, 1) := by decide +kernel
theorem dX12_can_79 : decode cX12_can 79 = .ok (.iload_n 3, 1) := by decide +kernel
theorem dX12_can_80 : decode cX12_can 80 = .ok (.iastore, 1) := by decide +kernel
theorem dX12_can_81 : decode cX12_can 81 = .ok (.iload_n 2, 1) := by decide +kernel
theorem dX12_can_82 : decode cX12_can 82 = .ok (.ifCond .ne 8, 3) := by decide +kernel
theorem dX12_can_85 : decode cX12_can 85 = .ok (.iload 4, 2) := by decide +kernel
theorem dX12_can_87 : decode cX12_can 87 = .ok (.goto 5, 3) := by decide +kernel
theorem dX12_can_90 : decode cX12_can 90 = .ok (.iload 5, 2) := by decide +kernel
theorem dX12_can_92 : decode cX12_can 92 = .ok (.ireturn, 1) := by decide +kernel
noncomputable def C_X12_can : List (Nat × qOp) := [(0, qo_aload 0 1),
  (1, qo_iload 1 1),
  (2, qo_callv [(12, S_X12_isPerson)] 1),
  (5, qo_ifeq 18),
  (8, qo_aload 0 1),
  (9, qo_iload 2 1),
  (10, qo_ci 0 1),
  (11, qo_ci 1 1),
  (12, qo_callv [(12, S_X12_in)] 3),
  (15, qo_ifne 20),
  (18, qo_ci (-1) 1),
  (19, qo_ret (some .int) 1),
  (20, qo_aload 0 1),
  (21, qo_getR 12 5),
  (24, qo_iload 1 1),
  (25, qo_iaload),
  (26, qo_istore 3 1),
  (27, qo_ci 0 1),
  (28, qo_istore 4 2),
  (30, qo_ci (-5) 2),
  (32, qo_istore 5 2),
  (34, qo_ci 9 2),
  (36, qo_istore 6 2),
  (38, qo_iload 6 2),
  (40, qo_iflt 74),
  (43, qo_aload 0 1),
  (44, qo_getR 12 5),
  (47, qo_iload 1 1),
  (48, qo_iload 6 2),
  (50, qo_iastore),
  (51, qo_aload 0 1),
  (52, qo_callv [(12, S_X12_isSeen)] 0),
  (55, qo_ifne 61),
  (58, qo_goto 68),
  (61, qo_iinc 4 1),
  (64, qo_iload 6 2),
  (66, qo_istore 5 2),
  (68, qo_iinc 6 (-1)),
  (71, qo_goto 38),
  (74, qo_aload 0 1),
  (75, qo_getR 12 5),
  (78, qo_iload 1 1),
  (79, qo_iload 3 1),
  (80, qo_iastore),
  (81, qo_iload 2 1),
  (82, qo_ifne 90),
  (85, qo_iload 4 2),
  (87, qo_goto 92),
  (90, qo_iload 5 2),
  (92, qo_ret (some .int) 1)]
noncomputable def S_X12_can : qSem := qM 7 C_X12_can
set_option maxRecDepth 20000 in
theorem K_X12_can {X : qX} {l : Launch} : ∀ q ∈ C_X12_can, qOk X l 10 cX12_can 7 RX12 "can" (some .int) q.1 q.2 := by
  unfold C_X12_can
  refine qcons (qk_aload_n dX12_can_0 rfl) ?_
  refine qcons (qk_iload_n dX12_can_1 rfl) ?_
  refine qcons (qk_callv (ins := fun i => .invokevirtual i) (qconsV (qrunV M_X12_isPerson (by decide) (by decide) (by decide) rfl tw_1094 tw_1096 tw_22 tw_1097 tw_90 ⟨by decide, by decide⟩ (by decide +kernel)) qnilV) dX12_can_2) ?_
  refine qcons (qk_ifeq dX12_can_5 (by decide)) ?_
  refine qcons (qk_aload_n dX12_can_8 rfl) ?_
  refine qcons (qk_iload_n dX12_can_9 rfl) ?_
  refine qcons (qk_iconst dX12_can_10 (by decide)) ?_
  refine qcons (qk_iconst dX12_can_11 (by decide)) ?_
  refine qcons (qk_callv (ins := fun i => .invokevirtual i) (qconsV (qrunV M_X12_in (by decide) (by decide) (by decide) rfl tw_1082 tw_1084 tw_20 tw_1085 tw_90 ⟨by decide, by decide⟩ (by decide +kernel)) qnilV) dX12_can_12) ?_
  refine qcons (qk_ifne dX12_can_15 (by decide)) ?_
  refine qcons (qk_iconst dX12_can_18 (by decide)) ?_
  refine qcons (qk_ret dX12_can_19 (Or.inr (Or.inl ⟨rfl, rfl⟩))) ?_
  refine qcons (qk_aload_n dX12_can_20 rfl) ?_
  refine qcons (qk_getR fd_X12_26 kd_12_5 dX12_can_21) ?_
  refine qcons (qk_iload_n dX12_can_24 rfl) ?_
  refine qcons (qk_iaload dX12_can_25) ?_
  refine qcons (qk_istore_n dX12_can_26 rfl) ?_
  refine qcons (qk_iconst dX12_can_27 (by decide)) ?_
  refine qcons (qk_istore dX12_can_28) ?_
  refine qcons (qk_bipush dX12_can_30 (by decide) (by decide)) ?_
  refine qcons (qk_istore dX12_can_32) ?_
  refine qcons (qk_bipush dX12_can_34 (by decide) (by decide)) ?_
  refine qcons (qk_istore dX12_can_36) ?_
  refine qcons (qk_iload dX12_can_38) ?_
  refine qcons (qk_iflt dX12_can_40 (by decide)) ?_
  refine qcons (qk_aload_n dX12_can_43 rfl) ?_
  refine qcons (qk_getR fd_X12_26 kd_12_5 dX12_can_44) ?_
  refine qcons (qk_iload_n dX12_can_47 rfl) ?_
  refine qcons (qk_iload dX12_can_48) ?_
  refine qcons (qk_iastore dX12_can_50) ?_
  refine qcons (qk_aload_n dX12_can_51 rfl) ?_
  refine qcons (qk_callv (ins := fun i => .invokevirtual i) (qconsV (qrunV M_X12_isSeen (by decide) (by decide) (by decide) rfl tw_1324 tw_1326 tw_64 tw_1327 tw_90 ⟨by decide, by decide⟩ (by decide +kernel)) qnilV) dX12_can_52) ?_
  refine qcons (qk_ifne dX12_can_55 (by decide)) ?_
  refine qcons (qk_goto dX12_can_58 (by decide)) ?_
  refine qcons (qk_iinc dX12_can_61) ?_
  refine qcons (qk_iload dX12_can_64) ?_
  refine qcons (qk_istore dX12_can_66) ?_
  refine qcons (qk_iinc dX12_can_68) ?_
  refine qcons (qk_goto dX12_can_71 (by decide)) ?_
  refine qcons (qk_aload_n dX12_can_74 rfl) ?_
  refine qcons (qk_getR fd_X12_26 kd_12_5 dX12_can_75) ?_
  refine qcons (qk_iload_n dX12_can_78 rfl) ?_
  refine qcons (qk_iload_n dX12_can_79 rfl) ?_
  refine qcons (qk_iastore dX12_can_80) ?_
  refine qcons (qk_iload_n dX12_can_81 rfl) ?_
  refine qcons (qk_ifne dX12_can_82 (by decide)) ?_
  refine qcons (qk_iload dX12_can_85) ?_
  refine qcons (qk_goto dX12_can_87 (by decide)) ?_
  refine qcons (qk_iload dX12_can_90) ?_
  refine qcons (qk_ret dX12_can_92 (Or.inr (Or.inl ⟨rfl, rfl⟩))) ?_
  exact qnil
theorem M_X12_can {X : qX} {l : Launch} : qMet X l 10 yX12_can cX12_can 7 (some .int) S_X12_can := qmet_of K_X12_can (by decide) rfl rfl
theorem dX12_divisor_0 : decode cX12_divisor 0 = .ok (.iload_n 1, 1) := by decide +kernel
theorem dX12_divisor_1 : decode cX12_divisor 1 = .ok (.istore_n 3, 1) := by decide +kernel
theorem dX12_divisor_2 : decode cX12_divisor 2 = .ok (.iload_n 2, 1) := by decide +kernel
theorem dX12_divisor_3 : decode cX12_divisor 3 = .ok (.istore 4, 2) := by decide +kernel
theorem dX12_divisor_5 : decode cX12_divisor 5 = .ok (.iload 4, 2) := by decide +kernel
theorem dX12_divisor_7 : decode cX12_divisor 7 = .ok (.ifCond .eq 19, 3) := by decide +kernel
theorem dX12_divisor_10 : decode cX12_divisor 10 = .ok (.iload_n 3, 1) := by decide +kernel
theorem dX12_divisor_11 : decode cX12_divisor 11 = .ok (.iload 4, 2) := by decide +kernel
theorem dX12_divisor_13 : decode cX12_divisor 13 = .ok (.irem, 1) := by decide +kernel
theorem dX12_divisor_14 : decode cX12_divisor 14 = .ok (.istore 5, 2) := by decide +kernel
theorem dX12_divisor_16 : decode cX12_divisor 16 = .ok (.iload 4, 2) := by decide +kernel
theorem dX12_divisor_18 : decode cX12_divisor 18 = .ok (.istore_n 3, 1) := by decide +kernel
theorem dX12_divisor_19 : decode cX12_divisor 19 = .ok (.iload 5, 2) := by decide +kernel
theorem dX12_divisor_21 : decode cX12_divisor 21 = .ok (.istore 4, 2) := by decide +kernel
theorem dX12_divisor_23 : decode cX12_divisor 23 = .ok (.goto (-18), 3) := by decide +kernel
theorem dX12_divisor_26 : decode cX12_divisor 26 = .ok (.iload_n 3, 1) := by decide +kernel
theorem dX12_divisor_27 : decode cX12_divisor 27 = .ok (.ireturn, 1) := by decide +kernel
noncomputable def C_X12_divisor : List (Nat × qOp) := [(0, qo_iload 1 1),
  (1, qo_istore 3 1),
  (2, qo_iload 2 1),
  (3, qo_istore 4 2),
  (5, qo_iload 4 2),
  (7, qo_ifeq 26),
  (10, qo_iload 3 1),
  (11, qo_iload 4 2),
  (13, qo_irem),
  (14, qo_istore 5 2),
  (16, qo_iload 4 2),
  (18, qo_istore 3 1),
  (19, qo_iload 5 2),
  (21, qo_istore 4 2),
  (23, qo_goto 5),
  (26, qo_iload 3 1),
  (27, qo_ret (some .int) 1)]
noncomputable def S_X12_divisor : qSem := qM 6 C_X12_divisor
set_option maxRecDepth 20000 in
theorem K_X12_divisor {X : qX} {l : Launch} : ∀ q ∈ C_X12_divisor, qOk X l 1 cX12_divisor 6 RX12 "divisor" (some .int) q.1 q.2 := by
  unfold C_X12_divisor
  refine qcons (qk_iload_n dX12_divisor_0 rfl) ?_
  refine qcons (qk_istore_n dX12_divisor_1 rfl) ?_
  refine qcons (qk_iload_n dX12_divisor_2 rfl) ?_
  refine qcons (qk_istore dX12_divisor_3) ?_
  refine qcons (qk_iload dX12_divisor_5) ?_
  refine qcons (qk_ifeq dX12_divisor_7 (by decide)) ?_
  refine qcons (qk_iload_n dX12_divisor_10 rfl) ?_
  refine qcons (qk_iload dX12_divisor_11) ?_
  refine qcons (qk_irem dX12_divisor_13) ?_
  refine qcons (qk_istore dX12_divisor_14) ?_
  refine qcons (qk_iload dX12_divisor_16) ?_
  refine qcons (qk_istore_n dX12_divisor_18 rfl) ?_
  refine qcons (qk_iload dX12_divisor_19) ?_
  refine qcons (qk_istore dX12_divisor_21) ?_
  refine qcons (qk_goto dX12_divisor_23 (by decide)) ?_
  refine qcons (qk_iload_n dX12_divisor_26 rfl) ?_
  refine qcons (qk_ret dX12_divisor_27 (Or.inr (Or.inl ⟨rfl, rfl⟩))) ?_
  exact qnil
theorem M_X12_divisor {X : qX} {l : Launch} : qMet X l 1 yX12_divisor cX12_divisor 6 (some .int) S_X12_divisor := qmet_of K_X12_divisor (by decide) rfl rfl
theorem dX12_lowest_0 : decode cX12_lowest 0 = .ok (.aload_n 0, 1) := by decide +kernel
theorem dX12_lowest_1 : decode cX12_lowest 1 = .ok (.iload_n 1, 1) := by decide +kernel
theorem dX12_lowest_2 : decode cX12_lowest 2 = .ok (.iload_n 2, 1) := by decide +kernel
theorem dX12_lowest_3 : decode cX12_lowest 3 = .ok (.invokevirtual 388, 3) := by decide +kernel
theorem dX12_lowest_6 : decode cX12_lowest 6 = .ok (.istore 4, 2) := by decide +kernel
theorem dX12_lowest_8 : decode cX12_lowest 8 = .ok (.iload_n 3, 1) := by decide +kernel
theorem dX12_lowest_9 : decode cX12_lowest 9 = .ok (.ifCond .ne 11, 3) := by decide +kernel
theorem dX12_lowest_12 : decode cX12_lowest 12 = .ok (.iload_n 1, 1) := by decide +kernel
theorem dX12_lowest_13 : decode cX12_lowest 13 = .ok (.iload 4, 2) := by decide +kernel
theorem dX12_lowest_15 : decode cX12_lowest 15 = .ok (.idiv, 1) := by decide +kernel
theorem dX12_lowest_16 : decode cX12_lowest 16 = .ok (.i2l, 1) := by decide +kernel
theorem dX12_lowest_17 : decode cX12_lowest 17 = .ok (.goto 8, 3) := by decide +kernel
theorem dX12_lowest_20 : decode cX12_lowest 20 = .ok (.iload_n 2, 1) := by decide +kernel
theorem dX12_lowest_21 : decode cX12_lowest 21 = .ok (.iload 4, 2) := by decide +kernel
theorem dX12_lowest_23 : decode cX12_lowest 23 = .ok (.idiv, 1) := by decide +kernel
theorem dX12_lowest_24 : decode cX12_lowest 24 = .ok (.i2l, 1) := by decide +kernel
theorem dX12_lowest_25 : decode cX12_lowest 25 = .ok (.lreturn, 1) := by decide +kernel
noncomputable def C_X12_lowest : List (Nat × qOp) := [(0, qo_aload 0 1),
  (1, qo_iload 1 1),
  (2, qo_iload 2 1),
  (3, qo_callv [(12, S_X12_divisor)] 2),
  (6, qo_istore 4 2),
  (8, qo_iload 3 1),
  (9, qo_ifne 20),
  (12, qo_iload 1 1),
  (13, qo_iload 4 2),
  (15, qo_idiv),
  (16, qo_i2l),
  (17, qo_goto 25),
  (20, qo_iload 2 1),
  (21, qo_iload 4 2),
  (23, qo_idiv),
  (24, qo_i2l),
  (25, qo_ret (some .long) 2)]
noncomputable def S_X12_lowest : qSem := qM 5 C_X12_lowest
set_option maxRecDepth 20000 in
theorem K_X12_lowest {X : qX} {l : Launch} : ∀ q ∈ C_X12_lowest, qOk X l 2 cX12_lowest 5 RX12 "lowest" (some .long) q.1 q.2 := by
  unfold C_X12_lowest
  refine qcons (qk_aload_n dX12_lowest_0 rfl) ?_
  refine qcons (qk_iload_n dX12_lowest_1 rfl) ?_
  refine qcons (qk_iload_n dX12_lowest_2 rfl) ?_
  refine qcons (qk_callv (ins := fun i => .invokevirtual i) (qconsV (qrunV M_X12_divisor (by decide) (by decide) (by decide) rfl tw_1341 tw_1343 tw_66 tw_1344 tw_90 ⟨by decide, by decide⟩ (by decide +kernel)) qnilV) dX12_lowest_3) ?_
  refine qcons (qk_istore dX12_lowest_6) ?_
  refine qcons (qk_iload_n dX12_lowest_8 rfl) ?_
  refine qcons (qk_ifne dX12_lowest_9 (by decide)) ?_
  refine qcons (qk_iload_n dX12_lowest_12 rfl) ?_
  refine qcons (qk_iload dX12_lowest_13) ?_
  refine qcons (qk_idiv dX12_lowest_15) ?_
  refine qcons (qk_i2l dX12_lowest_16) ?_
  refine qcons (qk_goto dX12_lowest_17 (by decide)) ?_
  refine qcons (qk_iload_n dX12_lowest_20 rfl) ?_
  refine qcons (qk_iload dX12_lowest_21) ?_
  refine qcons (qk_idiv dX12_lowest_23) ?_
  refine qcons (qk_i2l dX12_lowest_24) ?_
  refine qcons (qk_ret dX12_lowest_25 (Or.inr (Or.inr (Or.inl ⟨rfl, rfl⟩)))) ?_
  exact qnil
theorem M_X12_lowest {X : qX} {l : Launch} : qMet X l 2 yX12_lowest cX12_lowest 5 (some .long) S_X12_lowest := qmet_of K_X12_lowest (by decide) rfl rfl
theorem dX12_odds_0 : decode cX12_odds 0 = .ok (.aload_n 0, 1) := by decide +kernel
theorem dX12_odds_1 : decode cX12_odds 1 = .ok (.iload_n 1, 1) := by decide +kernel
theorem dX12_odds_2 : decode cX12_odds 2 = .ok (.invokevirtual 351, 3) := by decide +kernel
theorem dX12_odds_5 : decode cX12_odds 5 = .ok (.ifCond .eq 28, 3) := by decide +kernel
theorem dX12_odds_8 : decode cX12_odds 8 = .ok (.aload_n 0, 1) := by decide +kernel
theorem dX12_odds_9 : decode cX12_odds 9 = .ok (.iload_n 2, 1) := by decide +kernel
theorem dX12_odds_10 : decode cX12_odds 10 = .ok (.invokevirtual 262, 3) := by decide +kernel
theorem dX12_odds_13 : decode cX12_odds 13 = .ok (.ifCond .eq 20, 3) := by decide +kernel
theorem dX12_odds_16 : decode cX12_odds 16 = .ok (.aload_n 0, 1) := by decide +kernel
theorem dX12_odds_17 : decode cX12_odds 17 = .ok (.iload_n 3, 1) := by decide +kernel
theorem dX12_odds_18 : decode cX12_odds 18 = .ok (.iconst 0, 1) := by decide +kernel
theorem dX12_odds_19 : decode cX12_odds 19 = .ok (.iconst 1, 1) := by decide +kernel
theorem dX12_odds_20 : decode cX12_odds 20 = .ok (.invokevirtual 240, 3) := by decide +kernel
theorem dX12_odds_23 : decode cX12_odds 23 = .ok (.ifCond .eq 10, 3) := by decide +kernel
theorem dX12_odds_26 : decode cX12_odds 26 = .ok (.aload_n 0, 1) := by decide +kernel
theorem dX12_odds_27 : decode cX12_odds 27 = .ok (.getfield 7, 3) := by decide +kernel
theorem dX12_odds_30 : decode cX12_odds 30 = .ok (.ifCond .ne 7, 3) := by decide +kernel
theorem dX12_odds_33 : decode cX12_odds 33 = .ok (.ldc2_w 391, 3) := by decide +kernel
theorem dX12_odds_36 : decode cX12_odds 36 = .ok (.lreturn, 1) := by decide +kernel
theorem dX12_odds_37 : decode cX12_odds 37 = .ok (.iconst 0, 1) := by decide +kernel
theorem dX12_odds_38 : decode cX12_odds 38 = .ok (.istore 4, 2) := by decide +kernel
theorem dX12_odds_40 : decode cX12_odds 40 = .ok (.iconst 0, 1) := by decide +kernel
theorem dX12_odds_41 : decode cX12_odds 41 = .ok (.istore 5, 2) := by decide +kernel
theorem dX12_odds_43 : decode cX12_odds 43 = .ok (.iload 5, 2) := by decide +kernel
theorem dX12_odds_45 : decode cX12_odds 45 = .ok (.aload_n 0, 1) := by decide +kernel
theorem dX12_odds_46 : decode cX12_odds 46 = .ok (.getfield 7, 3) := by decide +kernel
theorem dX12_odds_49 : decode cX12_odds 49 = .ok (.if_icmp .ge 39, 3) := by decide +kernel
theorem dX12_odds_52 : decode cX12_odds 52 = .ok (.aload_n 0, 1) := by decide +kernel
theorem dX12_odds_53 : decode cX12_odds 53 = .ok (.invokevirtual 358, 3) := by decide +kernel
theorem dX12_odds_56 : decode cX12_odds 56 = .ok (.aload_n 0, 1) := by decide +kernel
theorem dX12_odds_57 : decode cX12_odds 57 = .ok (.iload 5, 2) := by decide +kernel
theorem dX12_odds_59 : decode cX12_odds 59 = .ok (.iconst 1, 1) := by decide +kernel
theorem dX12_odds_60 : decode cX12_odds 60 = .ok (.invokevirtual 255, 3) := by decide +kernel
theorem dX12_odds_63 : decode cX12_odds 63 = .ok (.iload 4, 2) := by decide +kernel
theorem dX12_odds_65 : decode cX12_odds 65 = .ok (.aload_n 0, 1) := by decide +kernel
theorem dX12_odds_66 : decode cX12_odds 66 = .ok (.iload_n 1, 1) := by decide +kernel
theorem dX12_odds_67 : decode cX12_odds 67 = .ok (.invokevirtual 364, 3) := by decide +kernel
theorem dX12_odds_70 : decode cX12_odds 70 = .ok (.iload_n 2, 1) := by decide +kernel
theorem dX12_odds_71 : decode cX12_odds 71 = .ok (.if_icmp .lt 7, 3) := by decide +kernel
theorem dX12_odds_74 : decode cX12_odds 74 = .ok (.iconst 1, 1) := by decide +kernel
theorem dX12_odds_75 : decode cX12_odds 75 = .ok (.goto 4, 3) := by decide +kernel
theorem dX12_odds_78 : decode cX12_odds 78 = .ok (.iconst 0, 1) := by decide +kernel
theorem dX12_odds_79 : decode cX12_odds 79 = .ok (.iadd, 1) := by decide +kernel
theorem dX12_odds_80 : decode cX12_odds 80 = .ok (.istore 4, 2) := by decide +kernel
theorem dX12_odds_82 : decode cX12_odds 82 = .ok (.iinc 5 1, 3) := by decide +kernel
theorem dX12_odds_85 : decode cX12_odds 85 = .ok (.goto (-42), 3) := by decide +kernel
theorem dX12_odds_88 : decode cX12_odds 88 = .ok (.aload_n 0, 1) := by decide +kernel
theorem dX12_odds_89 : decode cX12_odds 89 = .ok (.iload 4, 2) := by decide +kernel
theorem dX12_odds_91 : decode cX12_odds 91 = .ok (.aload_n 0, 1) := by decide +kernel
theorem dX12_odds_92 : decode cX12_odds 92 = .ok (.getfield 7, 3) := by decide +kernel
theorem dX12_odds_95 : decode cX12_odds 95 = .ok (.iload_n 3, 1) := by decide +kernel
theorem dX12_odds_96 : decode cX12_odds 96 = .ok (.invokevirtual 393, 3) := by decide +kernel
theorem dX12_odds_99 : decode cX12_odds 99 = .ok (.lreturn, 1) := by decide +kernel
noncomputable def C_X12_odds : List (Nat × qOp) := [(0, qo_aload 0 1),
  (1, qo_iload 1 1),
  (2, qo_callv [(12, S_X12_isMinutes)] 1),
  (5, qo_ifeq 33),
  (8, qo_aload 0 1),
  (9, qo_iload 2 1),
  (10, qo_callv [(12, S_X12_isLetters)] 1),
  (13, qo_ifeq 33),
  (16, qo_aload 0 1),
  (17, qo_iload 3 1),
  (18, qo_ci 0 1),
  (19, qo_ci 1 1),
  (20, qo_callv [(12, S_X12_in)] 3),
  (23, qo_ifeq 33),
  (26, qo_aload 0 1),
  (27, qo_getI 12 0),
  (30, qo_ifne 37),
  (33, qo_cl (-9223372036854775808) 3),
  (36, qo_ret (some .long) 2),
  (37, qo_ci 0 1),
  (38, qo_istore 4 2),
  (40, qo_ci 0 1),
  (41, qo_istore 5 2),
  (43, qo_iload 5 2),
  (45, qo_aload 0 1),
  (46, qo_getI 12 0),
  (49, qo_icge 88),
  (52, qo_aload 0 1),
  (53, qo_callv [(12, S_X12_save)] 0),
  (56, qo_aload 0 1),
  (57, qo_iload 5 2),
  (59, qo_ci 1 1),
  (60, qo_callv [(12, S_X12_goes)] 2),
  (63, qo_iload 4 2),
  (65, qo_aload 0 1),
  (66, qo_iload 1 1),
  (67, qo_callv [(12, S_X12_yieldThen)] 1),
  (70, qo_iload 2 1),
  (71, qo_iclt 78),
  (74, qo_ci 1 1),
  (75, qo_goto 79),
  (78, qo_ci 0 1),
  (79, qo_iadd),
  (80, qo_istore 4 2),
  (82, qo_iinc 5 1),
  (85, qo_goto 43),
  (88, qo_aload 0 1),
  (89, qo_iload 4 2),
  (91, qo_aload 0 1),
  (92, qo_getI 12 0),
  (95, qo_iload 3 1),
  (96, qo_callv [(12, S_X12_lowest)] 3),
  (99, qo_ret (some .long) 2)]
noncomputable def S_X12_odds : qSem := qM 6 C_X12_odds
set_option maxRecDepth 20000 in
theorem K_X12_odds {X : qX} {l : Launch} : ∀ q ∈ C_X12_odds, qOk X l 10 cX12_odds 6 RX12 "odds" (some .long) q.1 q.2 := by
  unfold C_X12_odds
  refine qcons (qk_aload_n dX12_odds_0 rfl) ?_
  refine qcons (qk_iload_n dX12_odds_1 rfl) ?_
  refine qcons (qk_callv (ins := fun i => .invokevirtual i) (qconsV (qrunV M_X12_isMinutes (by decide) (by decide) (by decide) rfl tw_1246 tw_1248 tw_52 tw_1249 tw_90 ⟨by decide, by decide⟩ (by decide +kernel)) qnilV) dX12_odds_2) ?_
  refine qcons (qk_ifeq dX12_odds_5 (by decide)) ?_
  refine qcons (qk_aload_n dX12_odds_8 rfl) ?_
  refine qcons (qk_iload_n dX12_odds_9 rfl) ?_
  refine qcons (qk_callv (ins := fun i => .invokevirtual i) (qconsV (qrunV M_X12_isLetters (by decide) (by decide) (by decide) rfl tw_1122 tw_1124 tw_26 tw_1125 tw_90 ⟨by decide, by decide⟩ (by decide +kernel)) qnilV) dX12_odds_10) ?_
  refine qcons (qk_ifeq dX12_odds_13 (by decide)) ?_
  refine qcons (qk_aload_n dX12_odds_16 rfl) ?_
  refine qcons (qk_iload_n dX12_odds_17 rfl) ?_
  refine qcons (qk_iconst dX12_odds_18 (by decide)) ?_
  refine qcons (qk_iconst dX12_odds_19 (by decide)) ?_
  refine qcons (qk_callv (ins := fun i => .invokevirtual i) (qconsV (qrunV M_X12_in (by decide) (by decide) (by decide) rfl tw_1082 tw_1084 tw_20 tw_1085 tw_90 ⟨by decide, by decide⟩ (by decide +kernel)) qnilV) dX12_odds_20) ?_
  refine qcons (qk_ifeq dX12_odds_23 (by decide)) ?_
  refine qcons (qk_aload_n dX12_odds_26 rfl) ?_
  refine qcons (qk_getI fd_X12_7 kd_12_0 dX12_odds_27) ?_
  refine qcons (qk_ifne dX12_odds_30 (by decide)) ?_
  refine qcons (qk_ldc2 dX12_odds_33 tw_1336 (by decide)) ?_
  refine qcons (qk_ret dX12_odds_36 (Or.inr (Or.inr (Or.inl ⟨rfl, rfl⟩)))) ?_
  refine qcons (qk_iconst dX12_odds_37 (by decide)) ?_
  refine qcons (qk_istore dX12_odds_38) ?_
  refine qcons (qk_iconst dX12_odds_40 (by decide)) ?_
  refine qcons (qk_istore dX12_odds_41) ?_
  refine qcons (qk_iload dX12_odds_43) ?_
  refine qcons (qk_aload_n dX12_odds_45 rfl) ?_
  refine qcons (qk_getI fd_X12_7 kd_12_0 dX12_odds_46) ?_
  refine qcons (qk_icge dX12_odds_49 (by decide)) ?_
  refine qcons (qk_aload_n dX12_odds_52 rfl) ?_
  refine qcons (qk_callv (ins := fun i => .invokevirtual i) (qconsV (qrunV M_X12_save (by decide) (by decide) (by decide) rfl tw_1266 tw_1268 tw_56 tw_1269 tw_90 ⟨by decide, by decide⟩ (by decide +kernel)) qnilV) dX12_odds_53) ?_
  refine qcons (qk_aload_n dX12_odds_56 rfl) ?_
  refine qcons (qk_iload dX12_odds_57) ?_
  refine qcons (qk_iconst dX12_odds_59 (by decide)) ?_
  refine qcons (qk_callv (ins := fun i => .invokevirtual i) (qconsV (qrunV M_X12_goes (by decide) (by decide) (by decide) rfl tw_1106 tw_1108 tw_24 tw_1109 tw_90 ⟨by decide, by decide⟩ (by decide +kernel)) qnilV) dX12_odds_60) ?_
  refine qcons (qk_iload dX12_odds_63) ?_
  refine qcons (qk_aload_n dX12_odds_65 rfl) ?_
  refine qcons (qk_iload_n dX12_odds_66 rfl) ?_
  refine qcons (qk_callv (ins := fun i => .invokevirtual i) (qconsV (qrunV M_X12_yieldThen (by decide) (by decide) (by decide) rfl tw_1291 tw_1293 tw_60 tw_1294 tw_90 ⟨by decide, by decide⟩ (by decide +kernel)) qnilV) dX12_odds_67) ?_
  refine qcons (qk_iload_n dX12_odds_70 rfl) ?_
  refine qcons (qk_iclt dX12_odds_71 (by decide)) ?_
  refine qcons (qk_iconst dX12_odds_74 (by decide)) ?_
  refine qcons (qk_goto dX12_odds_75 (by decide)) ?_
  refine qcons (qk_iconst dX12_odds_78 (by decide)) ?_
  refine qcons (qk_iadd dX12_odds_79) ?_
  refine qcons (qk_istore dX12_odds_80) ?_
  refine qcons (qk_iinc dX12_odds_82) ?_
  refine qcons (qk_goto dX12_odds_85 (by decide)) ?_
  refine qcons (qk_aload_n dX12_odds_88 rfl) ?_
  refine qcons (qk_iload dX12_odds_89) ?_
  refine qcons (qk_aload_n dX12_odds_91 rfl) ?_
  refine qcons (qk_getI fd_X12_7 kd_12_0 dX12_odds_92) ?_
  refine qcons (qk_iload_n dX12_odds_95 rfl) ?_
  refine qcons (qk_callv (ins := fun i => .invokevirtual i) (qconsV (qrunV M_X12_lowest (by decide) (by decide) (by decide) rfl tw_1337 tw_1339 tw_65 tw_1340 tw_90 ⟨by decide, by decide⟩ (by decide +kernel)) qnilV) dX12_odds_96) ?_
  refine qcons (qk_ret dX12_odds_99 (Or.inr (Or.inr (Or.inl ⟨rfl, rfl⟩)))) ?_
  exact qnil
theorem M_X12_odds {X : qX} {l : Launch} : qMet X l 10 yX12_odds cX12_odds 6 (some .long) S_X12_odds := qmet_of K_X12_odds (by decide) rfl rfl
theorem dX12_mean_0 : decode cX12_mean 0 = .ok (.aload_n 0, 1) := by decide +kernel
theorem dX12_mean_1 : decode cX12_mean 1 = .ok (.iload_n 1, 1) := by decide +kernel
theorem dX12_mean_2 : decode cX12_mean 2 = .ok (.invokevirtual 351, 3) := by decide +kernel
theorem dX12_mean_5 : decode cX12_mean 5 = .ok (.ifCond .eq 20, 3) := by decide +kernel
theorem dX12_mean_8 : decode cX12_mean 8 = .ok (.aload_n 0, 1) := by decide +kernel
theorem dX12_mean_9 : decode cX12_mean 9 = .ok (.iload_n 2, 1) := by decide +kernel
theorem dX12_mean_10 : decode cX12_mean 10 = .ok (.iconst 0, 1) := by decide +kernel
theorem dX12_mean_11 : decode cX12_mean 11 = .ok (.iconst 1, 1) := by decide +kernel
theorem dX12_mean_12 : decode cX12_mean 12 = .ok (.invokevirtual 240, 3) := by decide +kernel
theorem dX12_mean_15 : decode cX12_mean 15 = .ok (.ifCond .eq 10, 3) := by decide +kernel
theorem dX12_mean_18 : decode cX12_mean 18 = .ok (.aload_n 0, 1) := by decide +kernel
theorem dX12_mean_19 : decode cX12_mean 19 = .ok (.getfield 7, 3) := by decide +kernel
theorem dX12_mean_22 : decode cX12_mean 22 = .ok (.ifCond .ne 7, 3) := by decide +kernel
theorem dX12_mean_25 : decode cX12_mean 25 = .ok (.ldc2_w 391, 3) := by decide +kernel
theorem dX12_mean_28 : decode cX12_mean 28 = .ok (.lreturn, 1) := by decide +kernel
theorem dX12_mean_29 : decode cX12_mean 29 = .ok (.aload_n 0, 1) := by decide +kernel
theorem dX12_mean_30 : decode cX12_mean 30 = .ok (.invokevirtual 358, 3) := by decide +kernel
theorem dX12_mean_33 : decode cX12_mean 33 = .ok (.aload_n 0, 1) := by decide +kernel
theorem dX12_mean_34 : decode cX12_mean 34 = .ok (.iload_n 1, 1) := by decide +kernel
theorem dX12_mean_35 : decode cX12_mean 35 = .ok (.invokevirtual 354, 3) := by decide +kernel
theorem dX12_mean_38 : decode cX12_mean 38 = .ok (.iconst 0, 1) := by decide +kernel
theorem dX12_mean_39 : decode cX12_mean 39 = .ok (.istore_n 3, 1) := by decide +kernel
theorem dX12_mean_40 : decode cX12_mean 40 = .ok (.iconst 0, 1) := by decide +kernel
theorem dX12_mean_41 : decode cX12_mean 41 = .ok (.istore 4, 2) := by decide +kernel
theorem dX12_mean_43 : decode cX12_mean 43 = .ok (.iload 4, 2) := by decide +kernel
theorem dX12_mean_45 : decode cX12_mean 45 = .ok (.aload_n 0, 1) := by decide +kernel
theorem dX12_mean_46 : decode cX12_mean 46 = .ok (.getfield 7, 3) := by decide +kernel
theorem dX12_mean_49 : decode cX12_mean 49 = .ok (.if_icmp .ge 27, 3) := by decide +kernel
theorem dX12_mean_52 : decode cX12_mean 52 = .ok (.iload_n 3, 1) := by decide +kernel
theorem dX12_mean_53 : decode cX12_mean 53 = .ok (.aload_n 0, 1) := by decide +kernel
theorem dX12_mean_54 : decode cX12_mean 54 = .ok (.getfield 35, 3) := by decide +kernel
theorem dX12_mean_57 : decode cX12_mean 57 = .ok (.iload 4, 2) := by decide +kernel
theorem dX12_mean_59 : decode cX12_mean 59 = .ok (.iaload, 1) := by decide +kernel
theorem dX12_mean_60 : decode cX12_mean 60 = .ok (.aload_n 0, 1) := by decide +kernel
theorem dX12_mean_61 : decode cX12_mean 61 = .ok (.getfield 121, 3) := by decide +kernel
theorem dX12_mean_64 : decode cX12_mean 64 = .ok (.iload 4, 2) := by decide +kernel
theorem dX12_mean_66 : decode cX12_mean 66 = .ok (.iaload, 1) := by decide +kernel
theorem dX12_mean_67 : decode cX12_mean 67 = .ok (.isub, 1) := by decide +kernel
theorem dX12_mean_68 : decode cX12_mean 68 = .ok (.iadd, 1) := by decide +kernel
theorem dX12_mean_69 : decode cX12_mean 69 = .ok (.istore_n 3, 1) := by decide +kernel
theorem dX12_mean_70 : decode cX12_mean 70 = .ok (.iinc 4 1, 3) := by decide +kernel
theorem dX12_mean_73 : decode cX12_mean 73 = .ok (.goto (-30), 3) := by decide +kernel
theorem dX12_mean_76 : decode cX12_mean 76 = .ok (.aload_n 0, 1) := by decide +kernel
theorem dX12_mean_77 : decode cX12_mean 77 = .ok (.invokevirtual 361, 3) := by decide +kernel
theorem dX12_mean_80 : decode cX12_mean 80 = .ok (.aload_n 0, 1) := by decide +kernel
theorem dX12_mean_81 : decode cX12_mean 81 = .ok (.iload_n 3, 1) := by decide +kernel
theorem dX12_mean_82 : decode cX12_mean 82 = .ok (.aload_n 0, 1) := by decide +kernel
theorem dX12_mean_83 : decode cX12_mean 83 = .ok (.getfield 7, 3) := by decide +kernel
theorem dX12_mean_86 : decode cX12_mean 86 = .ok (.iload_n 2, 1) := by decide +kernel
theorem dX12_mean_87 : decode cX12_mean 87 = .ok (.invokevirtual 393, 3) := by decide +kernel
theorem dX12_mean_90 : decode cX12_mean 90 = .ok (.lreturn, 1) := by decide +kernel
noncomputable def C_X12_mean : List (Nat × qOp) := [(0, qo_aload 0 1),
  (1, qo_iload 1 1),
  (2, qo_callv [(12, S_X12_isMinutes)] 1),
  (5, qo_ifeq 25),
  (8, qo_aload 0 1),
  (9, qo_iload 2 1),
  (10, qo_ci 0 1),
  (11, qo_ci 1 1),
  (12, qo_callv [(12, S_X12_in)] 3),
  (15, qo_ifeq 25),
  (18, qo_aload 0 1),
  (19, qo_getI 12 0),
  (22, qo_ifne 29),
  (25, qo_cl (-9223372036854775808) 3),
  (28, qo_ret (some .long) 2),
  (29, qo_aload 0 1),
  (30, qo_callv [(12, S_X12_save)] 0),
  (33, qo_aload 0 1),
  (34, qo_iload 1 1),
  (35, qo_callv [(12, S_X12_goMinutes)] 1),
  (38, qo_ci 0 1),
  (39, qo_istore 3 1),
  (40, qo_ci 0 1),
  (41, qo_istore 4 2),
  (43, qo_iload 4 2),
  (45, qo_aload 0 1),
  (46, qo_getI 12 0),
  (49, qo_icge 76),
  (52, qo_iload 3 1),
  (53, qo_aload 0 1),
  (54, qo_getR 12 8),
  (57, qo_iload 4 2),
  (59, qo_iaload),
  (60, qo_aload 0 1),
  (61, qo_getR 12 36),
  (64, qo_iload 4 2),
  (66, qo_iaload),
  (67, qo_isub),
  (68, qo_iadd),
  (69, qo_istore 3 1),
  (70, qo_iinc 4 1),
  (73, qo_goto 43),
  (76, qo_aload 0 1),
  (77, qo_callv [(12, S_X12_putBack)] 0),
  (80, qo_aload 0 1),
  (81, qo_iload 3 1),
  (82, qo_aload 0 1),
  (83, qo_getI 12 0),
  (86, qo_iload 2 1),
  (87, qo_callv [(12, S_X12_lowest)] 3),
  (90, qo_ret (some .long) 2)]
noncomputable def S_X12_mean : qSem := qM 5 C_X12_mean
set_option maxRecDepth 20000 in
theorem K_X12_mean {X : qX} {l : Launch} : ∀ q ∈ C_X12_mean, qOk X l 9 cX12_mean 5 RX12 "mean" (some .long) q.1 q.2 := by
  unfold C_X12_mean
  refine qcons (qk_aload_n dX12_mean_0 rfl) ?_
  refine qcons (qk_iload_n dX12_mean_1 rfl) ?_
  refine qcons (qk_callv (ins := fun i => .invokevirtual i) (qconsV (qrunV M_X12_isMinutes (by decide) (by decide) (by decide) rfl tw_1246 tw_1248 tw_52 tw_1249 tw_90 ⟨by decide, by decide⟩ (by decide +kernel)) qnilV) dX12_mean_2) ?_
  refine qcons (qk_ifeq dX12_mean_5 (by decide)) ?_
  refine qcons (qk_aload_n dX12_mean_8 rfl) ?_
  refine qcons (qk_iload_n dX12_mean_9 rfl) ?_
  refine qcons (qk_iconst dX12_mean_10 (by decide)) ?_
  refine qcons (qk_iconst dX12_mean_11 (by decide)) ?_
  refine qcons (qk_callv (ins := fun i => .invokevirtual i) (qconsV (qrunV M_X12_in (by decide) (by decide) (by decide) rfl tw_1082 tw_1084 tw_20 tw_1085 tw_90 ⟨by decide, by decide⟩ (by decide +kernel)) qnilV) dX12_mean_12) ?_
  refine qcons (qk_ifeq dX12_mean_15 (by decide)) ?_
  refine qcons (qk_aload_n dX12_mean_18 rfl) ?_
  refine qcons (qk_getI fd_X12_7 kd_12_0 dX12_mean_19) ?_
  refine qcons (qk_ifne dX12_mean_22 (by decide)) ?_
  refine qcons (qk_ldc2 dX12_mean_25 tw_1336 (by decide)) ?_
  refine qcons (qk_ret dX12_mean_28 (Or.inr (Or.inr (Or.inl ⟨rfl, rfl⟩)))) ?_
  refine qcons (qk_aload_n dX12_mean_29 rfl) ?_
  refine qcons (qk_callv (ins := fun i => .invokevirtual i) (qconsV (qrunV M_X12_save (by decide) (by decide) (by decide) rfl tw_1266 tw_1268 tw_56 tw_1269 tw_90 ⟨by decide, by decide⟩ (by decide +kernel)) qnilV) dX12_mean_30) ?_
  refine qcons (qk_aload_n dX12_mean_33 rfl) ?_
  refine qcons (qk_iload_n dX12_mean_34 rfl) ?_
  refine qcons (qk_callv (ins := fun i => .invokevirtual i) (qconsV (qrunV M_X12_goMinutes (by decide) (by decide) (by decide) rfl tw_1250 tw_1252 tw_53 tw_1253 tw_90 ⟨by decide, by decide⟩ (by decide +kernel)) qnilV) dX12_mean_35) ?_
  refine qcons (qk_iconst dX12_mean_38 (by decide)) ?_
  refine qcons (qk_istore_n dX12_mean_39 rfl) ?_
  refine qcons (qk_iconst dX12_mean_40 (by decide)) ?_
  refine qcons (qk_istore dX12_mean_41) ?_
  refine qcons (qk_iload dX12_mean_43) ?_
  refine qcons (qk_aload_n dX12_mean_45 rfl) ?_
  refine qcons (qk_getI fd_X12_7 kd_12_0 dX12_mean_46) ?_
  refine qcons (qk_icge dX12_mean_49 (by decide)) ?_
  refine qcons (qk_iload_n dX12_mean_52 rfl) ?_
  refine qcons (qk_aload_n dX12_mean_53 rfl) ?_
  refine qcons (qk_getR fd_X12_35 kd_12_8 dX12_mean_54) ?_
  refine qcons (qk_iload dX12_mean_57) ?_
  refine qcons (qk_iaload dX12_mean_59) ?_
  refine qcons (qk_aload_n dX12_mean_60 rfl) ?_
  refine qcons (qk_getR fd_X12_121 kd_12_36 dX12_mean_61) ?_
  refine qcons (qk_iload dX12_mean_64) ?_
  refine qcons (qk_iaload dX12_mean_66) ?_
  refine qcons (qk_isub dX12_mean_67) ?_
  refine qcons (qk_iadd dX12_mean_68) ?_
  refine qcons (qk_istore_n dX12_mean_69 rfl) ?_
  refine qcons (qk_iinc dX12_mean_70) ?_
  refine qcons (qk_goto dX12_mean_73 (by decide)) ?_
  refine qcons (qk_aload_n dX12_mean_76 rfl) ?_
  refine qcons (qk_callv (ins := fun i => .invokevirtual i) (qconsV (qrunV M_X12_putBack (by decide) (by decide) (by decide) rfl tw_1271 tw_1273 tw_57 tw_1274 tw_90 ⟨by decide, by decide⟩ (by decide +kernel)) qnilV) dX12_mean_77) ?_
  refine qcons (qk_aload_n dX12_mean_80 rfl) ?_
  refine qcons (qk_iload_n dX12_mean_81 rfl) ?_
  refine qcons (qk_aload_n dX12_mean_82 rfl) ?_
  refine qcons (qk_getI fd_X12_7 kd_12_0 dX12_mean_83) ?_
  refine qcons (qk_iload_n dX12_mean_86 rfl) ?_
  refine qcons (qk_callv (ins := fun i => .invokevirtual i) (qconsV (qrunV M_X12_lowest (by decide) (by decide) (by decide) rfl tw_1337 tw_1339 tw_65 tw_1340 tw_90 ⟨by decide, by decide⟩ (by decide +kernel)) qnilV) dX12_mean_87) ?_
  refine qcons (qk_ret dX12_mean_90 (Or.inr (Or.inr (Or.inl ⟨rfl, rfl⟩)))) ?_
  exact qnil
theorem M_X12_mean {X : qX} {l : Launch} : qMet X l 9 yX12_mean cX12_mean 5 (some .long) S_X12_mean := qmet_of K_X12_mean (by decide) rfl rfl
theorem dX12_evening_0 : decode cX12_evening 0 = .ok (.iload_n 1, 1) := by decide +kernel
theorem dX12_evening_1 : decode cX12_evening 1 = .ok (.iconst (-1), 1) := by decide +kernel
theorem dX12_evening_2 : decode cX12_evening 2 = .ok (.if_icmp .ne 10, 3) := by decide +kernel
theorem dX12_evening_5 : decode cX12_evening 5 = .ok (.aload_n 0, 1) := by decide +kernel
theorem dX12_evening_6 : decode cX12_evening 6 = .ok (.iconst 0, 1) := by decide +kernel
theorem dX12_evening_7 : decode cX12_evening 7 = .ok (.putfield 136, 3) := by decide +kernel
theorem dX12_evening_10 : decode cX12_evening 10 = .ok (.iconst 0, 1) := by decide +kernel
theorem dX12_evening_11 : decode cX12_evening 11 = .ok (.ireturn, 1) := by decide +kernel
theorem dX12_evening_12 : decode cX12_evening 12 = .ok (.aload_n 0, 1) := by decide +kernel
theorem dX12_evening_13 : decode cX12_evening 13 = .ok (.iload_n 1, 1) := by decide +kernel
theorem dX12_evening_14 : decode cX12_evening 14 = .ok (.iconst 0, 1) := by decide +kernel
theorem dX12_evening_15 : decode cX12_evening 15 = .ok (.iconst 5, 1) := by decide +kernel
theorem dX12_evening_16 : decode cX12_evening 16 = .ok (.invokevirtual 240, 3) := by decide +kernel
theorem dX12_evening_19 : decode cX12_evening 19 = .ok (.ifCond .eq 15, 3) := by decide +kernel
theorem dX12_evening_22 : decode cX12_evening 22 = .ok (.iload_n 1, 1) := by decide +kernel
theorem dX12_evening_23 : decode cX12_evening 23 = .ok (.ifCond .le 13, 3) := by decide +kernel
theorem dX12_evening_26 : decode cX12_evening 26 = .ok (.aload_n 0, 1) := by decide +kernel
theorem dX12_evening_27 : decode cX12_evening 27 = .ok (.iload_n 2, 1) := by decide +kernel
theorem dX12_evening_28 : decode cX12_evening 28 = .ok (.invokevirtual 248, 3) := by decide +kernel
theorem dX12_evening_31 : decode cX12_evening 31 = .ok (.ifCond .ne 5, 3) := by decide +kernel
theorem dX12_evening_34 : decode cX12_evening 34 = .ok (.iconst (-1), 1) := by decide +kernel
theorem dX12_evening_35 : decode cX12_evening 35 = .ok (.ireturn, 1) := by decide +kernel
theorem dX12_evening_36 : decode cX12_evening 36 = .ok (.aload_n 0, 1) := by decide +kernel
theorem dX12_evening_37 : decode cX12_evening 37 = .ok (.getfield 136, 3) := by decide +kernel
theorem dX12_evening_40 : decode cX12_evening 40 = .ok (.bipush 10, 2) := by decide +kernel
theorem dX12_evening_42 : decode cX12_evening 42 = .ok (.if_icmp .ne 6, 3) := by decide +kernel
theorem dX12_evening_45 : decode cX12_evening 45 = .ok (.bipush (-4), 2) := by decide +kernel
theorem dX12_evening_47 : decode cX12_evening 47 = .ok (.ireturn, 1) := by decide +kernel
theorem dX12_evening_48 : decode cX12_evening 48 = .ok (.aload_n 0, 1) := by decide +kernel
theorem dX12_evening_49 : decode cX12_evening 49 = .ok (.getfield 142, 3) := by decide +kernel
theorem dX12_evening_52 : decode cX12_evening 52 = .ok (.aload_n 0, 1) := by decide +kernel
theorem dX12_evening_53 : decode cX12_evening 53 = .ok (.getfield 136, 3) := by decide +kernel
theorem dX12_evening_56 : decode cX12_evening 56 = .ok (.iload_n 1, 1) := by decide +kernel
theorem dX12_evening_57 : decode cX12_evening 57 = .ok (.iastore, 1) := by decide +kernel
theorem dX12_evening_58 : decode cX12_evening 58 = .ok (.aload_n 0, 1) := by decide +kernel
theorem dX12_evening_59 : decode cX12_evening 59 = .ok (.getfield 145, 3) := by decide +kernel
theorem dX12_evening_62 : decode cX12_evening 62 = .ok (.aload_n 0, 1) := by decide +kernel
theorem dX12_evening_63 : decode cX12_evening 63 = .ok (.getfield 136, 3) := by decide +kernel
theorem dX12_evening_66 : decode cX12_evening 66 = .ok (.iload_n 1, 1) := by decide +kernel
theorem dX12_evening_67 : decode cX12_evening 67 = .ok (.ifCond .le 7, 3) := by decide +kernel
theorem dX12_evening_70 : decode cX12_evening 70 = .ok (.iload_n 2, 1) := by decide +kernel
theorem dX12_evening_71 : decode cX12_evening 71 = .ok (.goto 4, 3) := by decide +kernel
theorem dX12_evening_74 : decode cX12_evening 74 = .ok (.iconst 0, 1) := by decide +kernel
theorem dX12_evening_75 : decode cX12_evening 75 = .ok (.iastore, 1) := by decide +kernel
theorem dX12_evening_76 : decode cX12_evening 76 = .ok (.aload_n 0, 1) := by decide +kernel
theorem dX12_evening_77 : decode cX12_evening 77 = .ok (.dup, 1) := by decide +kernel
theorem dX12_evening_78 : decode cX12_evening 78 = .ok (.getfield 136, 3) := by decide +kernel
theorem dX12_evening_81 : decode cX12_evening 81 = .ok (.iconst 1, 1) := by decide +kernel
theorem dX12_evening_82 : decode cX12_evening 82 = .ok (.iadd, 1) := by decide +kernel
theorem dX12_evening_83 : decode cX12_evening 83 = .ok (.putfield 136, 3) := by decide +kernel
theorem dX12_evening_86 : decode cX12_evening 86 = .ok (.aload_n 0, 1) := by decide +kernel
theorem dX12_evening_87 : decode cX12_evening 87 = .ok (.getfield 136, 3) := by decide +kernel
theorem dX12_evening_90 : decode cX12_evening 90 = .ok (.ireturn, 1) := by decide +kernel
noncomputable def C_X12_evening : List (Nat × qOp) := [(0, qo_iload 1 1),
  (1, qo_ci (-1) 1),
  (2, qo_icne 12),
  (5, qo_aload 0 1),
  (6, qo_ci 0 1),
  (7, qo_putI 12 41),
  (10, qo_ci 0 1),
  (11, qo_ret (some .int) 1),
  (12, qo_aload 0 1),
  (13, qo_iload 1 1),
  (14, qo_ci 0 1),
  (15, qo_ci 5 1),
  (16, qo_callv [(12, S_X12_in)] 3),
  (19, qo_ifeq 34),
  (22, qo_iload 1 1),
  (23, qo_ifle 36),
  (26, qo_aload 0 1),
  (27, qo_iload 2 1),
  (28, qo_callv [(12, S_X12_isPerson)] 1),
  (31, qo_ifne 36),
  (34, qo_ci (-1) 1),
  (35, qo_ret (some .int) 1),
  (36, qo_aload 0 1),
  (37, qo_getI 12 41),
  (40, qo_ci 10 2),
  (42, qo_icne 48),
  (45, qo_ci (-4) 2),
  (47, qo_ret (some .int) 1),
  (48, qo_aload 0 1),
  (49, qo_getR 12 43),
  (52, qo_aload 0 1),
  (53, qo_getI 12 41),
  (56, qo_iload 1 1),
  (57, qo_iastore),
  (58, qo_aload 0 1),
  (59, qo_getR 12 44),
  (62, qo_aload 0 1),
  (63, qo_getI 12 41),
  (66, qo_iload 1 1),
  (67, qo_ifle 74),
  (70, qo_iload 2 1),
  (71, qo_goto 75),
  (74, qo_ci 0 1),
  (75, qo_iastore),
  (76, qo_aload 0 1),
  (77, qo_dup),
  (78, qo_getI 12 41),
  (81, qo_ci 1 1),
  (82, qo_iadd),
  (83, qo_putI 12 41),
  (86, qo_aload 0 1),
  (87, qo_getI 12 41),
  (90, qo_ret (some .int) 1)]
noncomputable def S_X12_evening : qSem := qM 3 C_X12_evening
set_option maxRecDepth 20000 in
theorem K_X12_evening {X : qX} {l : Launch} : ∀ q ∈ C_X12_evening, qOk X l 3 cX12_evening 3 RX12 "evening" (some .int) q.1 q.2 := by
  unfold C_X12_evening
  refine qcons (qk_iload_n dX12_evening_0 rfl) ?_
  refine qcons (qk_iconst dX12_evening_1 (by decide)) ?_
  refine qcons (qk_icne dX12_evening_2 (by decide)) ?_
  refine qcons (qk_aload_n dX12_evening_5 rfl) ?_
  refine qcons (qk_iconst dX12_evening_6 (by decide)) ?_
  refine qcons (qk_putI (ty := .int) fd_X12_136 tyX12_ok nmX12 (Or.inl rfl) kd_12_41 (tyX12_ok 41 (by decide)) dX12_evening_7) ?_
  refine qcons (qk_iconst dX12_evening_10 (by decide)) ?_
  refine qcons (qk_ret dX12_evening_11 (Or.inr (Or.inl ⟨rfl, rfl⟩))) ?_
  refine qcons (qk_aload_n dX12_evening_12 rfl) ?_
  refine qcons (qk_iload_n dX12_evening_13 rfl) ?_
  refine qcons (qk_iconst dX12_evening_14 (by decide)) ?_
  refine qcons (qk_iconst dX12_evening_15 (by decide)) ?_
  refine qcons (qk_callv (ins := fun i => .invokevirtual i) (qconsV (qrunV M_X12_in (by decide) (by decide) (by decide) rfl tw_1082 tw_1084 tw_20 tw_1085 tw_90 ⟨by decide, by decide⟩ (by decide +kernel)) qnilV) dX12_evening_16) ?_
  refine qcons (qk_ifeq dX12_evening_19 (by decide)) ?_
  refine qcons (qk_iload_n dX12_evening_22 rfl) ?_
  refine qcons (qk_ifle dX12_evening_23 (by decide)) ?_
  refine qcons (qk_aload_n dX12_evening_26 rfl) ?_
  refine qcons (qk_iload_n dX12_evening_27 rfl) ?_
  refine qcons (qk_callv (ins := fun i => .invokevirtual i) (qconsV (qrunV M_X12_isPerson (by decide) (by decide) (by decide) rfl tw_1094 tw_1096 tw_22 tw_1097 tw_90 ⟨by decide, by decide⟩ (by decide +kernel)) qnilV) dX12_evening_28) ?_
  refine qcons (qk_ifne dX12_evening_31 (by decide)) ?_
  refine qcons (qk_iconst dX12_evening_34 (by decide)) ?_
  refine qcons (qk_ret dX12_evening_35 (Or.inr (Or.inl ⟨rfl, rfl⟩))) ?_
  refine qcons (qk_aload_n dX12_evening_36 rfl) ?_
  refine qcons (qk_getI fd_X12_136 kd_12_41 dX12_evening_37) ?_
  refine qcons (qk_bipush dX12_evening_40 (by decide) (by decide)) ?_
  refine qcons (qk_icne dX12_evening_42 (by decide)) ?_
  refine qcons (qk_bipush dX12_evening_45 (by decide) (by decide)) ?_
  refine qcons (qk_ret dX12_evening_47 (Or.inr (Or.inl ⟨rfl, rfl⟩))) ?_
  refine qcons (qk_aload_n dX12_evening_48 rfl) ?_
  refine qcons (qk_getR fd_X12_142 kd_12_43 dX12_evening_49) ?_
  refine qcons (qk_aload_n dX12_evening_52 rfl) ?_
  refine qcons (qk_getI fd_X12_136 kd_12_41 dX12_evening_53) ?_
  refine qcons (qk_iload_n dX12_evening_56 rfl) ?_
  refine qcons (qk_iastore dX12_evening_57) ?_
  refine qcons (qk_aload_n dX12_evening_58 rfl) ?_
  refine qcons (qk_getR fd_X12_145 kd_12_44 dX12_evening_59) ?_
  refine qcons (qk_aload_n dX12_evening_62 rfl) ?_
  refine qcons (qk_getI fd_X12_136 kd_12_41 dX12_evening_63) ?_
  refine qcons (qk_iload_n dX12_evening_66 rfl) ?_
  refine qcons (qk_ifle dX12_evening_67 (by decide)) ?_
  refine qcons (qk_iload_n dX12_evening_70 rfl) ?_
  refine qcons (qk_goto dX12_evening_71 (by decide)) ?_
  refine qcons (qk_iconst dX12_evening_74 (by decide)) ?_
  refine qcons (qk_iastore dX12_evening_75) ?_
  refine qcons (qk_aload_n dX12_evening_76 rfl) ?_
  refine qcons (qk_dup dX12_evening_77) ?_
  refine qcons (qk_getI fd_X12_136 kd_12_41 dX12_evening_78) ?_
  refine qcons (qk_iconst dX12_evening_81 (by decide)) ?_
  refine qcons (qk_iadd dX12_evening_82) ?_
  refine qcons (qk_putI (ty := .int) fd_X12_136 tyX12_ok nmX12 (Or.inl rfl) kd_12_41 (tyX12_ok 41 (by decide)) dX12_evening_83) ?_
  refine qcons (qk_aload_n dX12_evening_86 rfl) ?_
  refine qcons (qk_getI fd_X12_136 kd_12_41 dX12_evening_87) ?_
  refine qcons (qk_ret dX12_evening_90 (Or.inr (Or.inl ⟨rfl, rfl⟩))) ?_
  exact qnil
theorem M_X12_evening {X : qX} {l : Launch} : qMet X l 3 yX12_evening cX12_evening 3 (some .int) S_X12_evening := qmet_of K_X12_evening (by decide) rfl rfl
theorem dX12_ends_0 : decode cX12_ends 0 = .ok (.aload_n 0, 1) := by decide +kernel
theorem dX12_ends_1 : decode cX12_ends 1 = .ok (.iload_n 1, 1) := by decide +kernel
theorem dX12_ends_2 : decode cX12_ends 2 = .ok (.iconst 0, 1) := by decide +kernel
theorem dX12_ends_3 : decode cX12_ends 3 = .ok (.iconst 1, 1) := by decide +kernel
theorem dX12_ends_4 : decode cX12_ends 4 = .ok (.invokevirtual 240, 3) := by decide +kernel
theorem dX12_ends_7 : decode cX12_ends 7 = .ok (.ifCond .ne 5, 3) := by decide +kernel
theorem dX12_ends_10 : decode cX12_ends 10 = .ok (.iconst (-1), 1) := by decide +kernel
theorem dX12_ends_11 : decode cX12_ends 11 = .ok (.ireturn, 1) := by decide +kernel
theorem dX12_ends_12 : decode cX12_ends 12 = .ok (.aload_n 0, 1) := by decide +kernel
theorem dX12_ends_13 : decode cX12_ends 13 = .ok (.invokevirtual 358, 3) := by decide +kernel
theorem dX12_ends_16 : decode cX12_ends 16 = .ok (.iconst 0, 1) := by decide +kernel
theorem dX12_ends_17 : decode cX12_ends 17 = .ok (.istore_n 2, 1) := by decide +kernel
theorem dX12_ends_18 : decode cX12_ends 18 = .ok (.iload_n 2, 1) := by decide +kernel
theorem dX12_ends_19 : decode cX12_ends 19 = .ok (.aload_n 0, 1) := by decide +kernel
theorem dX12_ends_20 : decode cX12_ends 20 = .ok (.getfield 136, 3) := by decide +kernel
theorem dX12_ends_23 : decode cX12_ends 23 = .ok (.if_icmp .ge 77, 3) := by decide +kernel
theorem dX12_ends_26 : decode cX12_ends 26 = .ok (.aload_n 0, 1) := by decide +kernel
theorem dX12_ends_27 : decode cX12_ends 27 = .ok (.getfield 142, 3) := by decide +kernel
theorem dX12_ends_30 : decode cX12_ends 30 = .ok (.iload_n 2, 1) := by decide +kernel
theorem dX12_ends_31 : decode cX12_ends 31 = .ok (.iaload, 1) := by decide +kernel
theorem dX12_ends_32 : decode cX12_ends 32 = .ok (.ifCond .ne 7, 3) := by decide +kernel
theorem dX12_ends_35 : decode cX12_ends 35 = .ok (.aload_n 0, 1) := by decide +kernel
theorem dX12_ends_36 : decode cX12_ends 36 = .ok (.invokevirtual 348, 3) := by decide +kernel
theorem dX12_ends_39 : decode cX12_ends 39 = .ok (.aload_n 0, 1) := by decide +kernel
theorem dX12_ends_40 : decode cX12_ends 40 = .ok (.aload_n 0, 1) := by decide +kernel
theorem dX12_ends_41 : decode cX12_ends 41 = .ok (.getfield 142, 3) := by decide +kernel
theorem dX12_ends_44 : decode cX12_ends 44 = .ok (.iload_n 2, 1) := by decide +kernel
theorem dX12_ends_45 : decode cX12_ends 45 = .ok (.iaload, 1) := by decide +kernel
theorem dX12_ends_46 : decode cX12_ends 46 = .ok (.iconst 1, 1) := by decide +kernel
theorem dX12_ends_47 : decode cX12_ends 47 = .ok (.iconst 4, 1) := by decide +kernel
theorem dX12_ends_48 : decode cX12_ends 48 = .ok (.invokevirtual 240, 3) := by decide +kernel
theorem dX12_ends_51 : decode cX12_ends 51 = .ok (.ifCond .eq 22, 3) := by decide +kernel
theorem dX12_ends_54 : decode cX12_ends 54 = .ok (.aload_n 0, 1) := by decide +kernel
theorem dX12_ends_55 : decode cX12_ends 55 = .ok (.getfield 29, 3) := by decide +kernel
theorem dX12_ends_58 : decode cX12_ends 58 = .ok (.aload_n 0, 1) := by decide +kernel
theorem dX12_ends_59 : decode cX12_ends 59 = .ok (.getfield 145, 3) := by decide +kernel
theorem dX12_ends_62 : decode cX12_ends 62 = .ok (.iload_n 2, 1) := by decide +kernel
theorem dX12_ends_63 : decode cX12_ends 63 = .ok (.iaload, 1) := by decide +kernel
theorem dX12_ends_64 : decode cX12_ends 64 = .ok (.aload_n 0, 1) := by decide +kernel
theorem dX12_ends_65 : decode cX12_ends 65 = .ok (.getfield 142, 3) := by decide +kernel
theorem dX12_ends_68 : decode cX12_ends 68 = .ok (.iload_n 2, 1) := by decide +kernel
theorem dX12_ends_69 : decode cX12_ends 69 = .ok (.iaload, 1) := by decide +kernel
theorem dX12_ends_70 : decode cX12_ends 70 = .ok (.iconst 1, 1) := by decide +kernel
theorem dX12_ends_71 : decode cX12_ends 71 = .ok (.isub, 1) := by decide +kernel
theorem dX12_ends_72 : decode cX12_ends 72 = .ok (.iastore, 1) := by decide +kernel
theorem dX12_ends_73 : decode cX12_ends 73 = .ok (.aload_n 0, 1) := by decide +kernel
theorem dX12_ends_74 : decode cX12_ends 74 = .ok (.getfield 142, 3) := by decide +kernel
theorem dX12_ends_77 : decode cX12_ends 77 = .ok (.iload_n 2, 1) := by decide +kernel
theorem dX12_ends_78 : decode cX12_ends 78 = .ok (.iaload, 1) := by decide +kernel
theorem dX12_ends_79 : decode cX12_ends 79 = .ok (.iconst 5, 1) := by decide +kernel
theorem dX12_ends_80 : decode cX12_ends 80 = .ok (.if_icmp .ne 14, 3) := by decide +kernel
theorem dX12_ends_83 : decode cX12_ends 83 = .ok (.aload_n 0, 1) := by decide +kernel
theorem dX12_ends_84 : decode cX12_ends 84 = .ok (.aload_n 0, 1) := by decide +kernel
theorem dX12_ends_85 : decode cX12_ends 85 = .ok (.getfield 145, 3) := by decide +kernel
theorem dX12_ends_88 : decode cX12_ends 88 = .ok (.iload_n 2, 1) := by decide +kernel
theorem dX12_ends_89 : decode cX12_ends 89 = .ok (.iaload, 1) := by decide +kernel
theorem dX12_ends_90 : decode cX12_ends 90 = .ok (.iconst 1, 1) := by decide +kernel
theorem dX12_ends_91 : decode cX12_ends 91 = .ok (.invokevirtual 255, 3) := by decide +kernel
theorem dX12_ends_94 : decode cX12_ends 94 = .ok (.iinc 2 1, 3) := by decide +kernel
theorem dX12_ends_97 : decode cX12_ends 97 = .ok (.goto (-79), 3) := by decide +kernel
theorem dX12_ends_100 : decode cX12_ends 100 = .ok (.iconst 0, 1) := by decide +kernel
theorem dX12_ends_101 : decode cX12_ends 101 = .ok (.istore_n 2, 1) := by decide +kernel
theorem dX12_ends_102 : decode cX12_ends 102 = .ok (.iconst 0, 1) := by decide +kernel
theorem dX12_ends_103 : decode cX12_ends 103 = .ok (.istore_n 3, 1) := by decide +kernel
theorem dX12_ends_104 : decode cX12_ends 104 = .ok (.iload_n 3, 1) := by decide +kernel
theorem dX12_ends_105 : decode cX12_ends 105 = .ok (.aload_n 0, 1) := by decide +kernel
theorem dX12_ends_106 : decode cX12_ends 106 = .ok (.getfield 7, 3) := by decide +kernel
theorem dX12_ends_109 : decode cX12_ends 109 = .ok (.if_icmp .ge 25, 3) := by decide +kernel
theorem dX12_ends_112 : decode cX12_ends 112 = .ok (.iload_n 2, 1) := by decide +kernel
theorem dX12_ends_113 : decode cX12_ends 113 = .ok (.aload_n 0, 1) := by decide +kernel
theorem dX12_ends_114 : decode cX12_ends 114 = .ok (.getfield 32, 3) := by decide +kernel
theorem dX12_ends_117 : decode cX12_ends 117 = .ok (.iload_n 3, 1) := by decide +kernel
theorem dX12_ends_118 : decode cX12_ends 118 = .ok (.iaload, 1) := by decide +kernel
theorem dX12_ends_119 : decode cX12_ends 119 = .ok (.aload_n 0, 1) := by decide +kernel
theorem dX12_ends_120 : decode cX12_ends 120 = .ok (.getfield 118, 3) := by decide +kernel
theorem dX12_ends_123 : decode cX12_ends 123 = .ok (.iload_n 3, 1) := by decide +kernel
theorem dX12_ends_124 : decode cX12_ends 124 = .ok (.iaload, 1) := by decide +kernel
theorem dX12_ends_125 : decode cX12_ends 125 = .ok (.isub, 1) := by decide +kernel
theorem dX12_ends_126 : decode cX12_ends 126 = .ok (.iadd, 1) := by decide +kernel
theorem dX12_ends_127 : decode cX12_ends 127 = .ok (.istore_n 2, 1) := by decide +kernel
theorem dX12_ends_128 : decode cX12_ends 128 = .ok (.iinc 3 1, 3) := by decide +kernel
theorem dX12_ends_131 : decode cX12_ends 131 = .ok (.goto (-27), 3) := by decide +kernel
theorem dX12_ends_134 : decode cX12_ends 134 = .ok (.iload_n 1, 1) := by decide +kernel
theorem dX12_ends_135 : decode cX12_ends 135 = .ok (.ifCond .ne 12, 3) := by decide +kernel
theorem dX12_ends_138 : decode cX12_ends 138 = .ok (.aload_n 0, 1) := by decide +kernel
theorem dX12_ends_139 : decode cX12_ends 139 = .ok (.getfield 19, 3) := by decide +kernel
theorem dX12_ends_142 : decode cX12_ends 142 = .ok (.iconst 4, 1) := by decide +kernel
theorem dX12_ends_143 : decode cX12_ends 143 = .ok (.iaload, 1) := by decide +kernel
theorem dX12_ends_144 : decode cX12_ends 144 = .ok (.goto 4, 3) := by decide +kernel
theorem dX12_ends_147 : decode cX12_ends 147 = .ok (.iload_n 2, 1) := by decide +kernel
theorem dX12_ends_148 : decode cX12_ends 148 = .ok (.istore_n 3, 1) := by decide +kernel
theorem dX12_ends_149 : decode cX12_ends 149 = .ok (.aload_n 0, 1) := by decide +kernel
theorem dX12_ends_150 : decode cX12_ends 150 = .ok (.invokevirtual 361, 3) := by decide +kernel
theorem dX12_ends_153 : decode cX12_ends 153 = .ok (.iload_n 3, 1) := by decide +kernel
theorem dX12_ends_154 : decode cX12_ends 154 = .ok (.ireturn, 1) := by decide +kernel
noncomputable def C_X12_ends : List (Nat × qOp) := [(0, qo_aload 0 1),
  (1, qo_iload 1 1),
  (2, qo_ci 0 1),
  (3, qo_ci 1 1),
  (4, qo_callv [(12, S_X12_in)] 3),
  (7, qo_ifne 12),
  (10, qo_ci (-1) 1),
  (11, qo_ret (some .int) 1),
  (12, qo_aload 0 1),
  (13, qo_callv [(12, S_X12_save)] 0),
  (16, qo_ci 0 1),
  (17, qo_istore 2 1),
  (18, qo_iload 2 1),
  (19, qo_aload 0 1),
  (20, qo_getI 12 41),
  (23, qo_icge 100),
  (26, qo_aload 0 1),
  (27, qo_getR 12 43),
  (30, qo_iload 2 1),
  (31, qo_iaload),
  (32, qo_ifne 39),
  (35, qo_aload 0 1),
  (36, qo_callv [(12, S_X12_goMinute)] 0),
  (39, qo_aload 0 1),
  (40, qo_aload 0 1),
  (41, qo_getR 12 43),
  (44, qo_iload 2 1),
  (45, qo_iaload),
  (46, qo_ci 1 1),
  (47, qo_ci 4 1),
  (48, qo_callv [(12, S_X12_in)] 3),
  (51, qo_ifeq 73),
  (54, qo_aload 0 1),
  (55, qo_getR 12 6),
  (58, qo_aload 0 1),
  (59, qo_getR 12 44),
  (62, qo_iload 2 1),
  (63, qo_iaload),
  (64, qo_aload 0 1),
  (65, qo_getR 12 43),
  (68, qo_iload 2 1),
  (69, qo_iaload),
  (70, qo_ci 1 1),
  (71, qo_isub),
  (72, qo_iastore),
  (73, qo_aload 0 1),
  (74, qo_getR 12 43),
  (77, qo_iload 2 1),
  (78, qo_iaload),
  (79, qo_ci 5 1),
  (80, qo_icne 94),
  (83, qo_aload 0 1),
  (84, qo_aload 0 1),
  (85, qo_getR 12 44),
  (88, qo_iload 2 1),
  (89, qo_iaload),
  (90, qo_ci 1 1),
  (91, qo_callv [(12, S_X12_goes)] 2),
  (94, qo_iinc 2 1),
  (97, qo_goto 18),
  (100, qo_ci 0 1),
  (101, qo_istore 2 1),
  (102, qo_ci 0 1),
  (103, qo_istore 3 1),
  (104, qo_iload 3 1),
  (105, qo_aload 0 1),
  (106, qo_getI 12 0),
  (109, qo_icge 134),
  (112, qo_iload 2 1),
  (113, qo_aload 0 1),
  (114, qo_getR 12 7),
  (117, qo_iload 3 1),
  (118, qo_iaload),
  (119, qo_aload 0 1),
  (120, qo_getR 12 35),
  (123, qo_iload 3 1),
  (124, qo_iaload),
  (125, qo_isub),
  (126, qo_iadd),
  (127, qo_istore 2 1),
  (128, qo_iinc 3 1),
  (131, qo_goto 104),
  (134, qo_iload 1 1),
  (135, qo_ifne 147),
  (138, qo_aload 0 1),
  (139, qo_getR 12 3),
  (142, qo_ci 4 1),
  (143, qo_iaload),
  (144, qo_goto 148),
  (147, qo_iload 2 1),
  (148, qo_istore 3 1),
  (149, qo_aload 0 1),
  (150, qo_callv [(12, S_X12_putBack)] 0),
  (153, qo_iload 3 1),
  (154, qo_ret (some .int) 1)]
noncomputable def S_X12_ends : qSem := qM 4 C_X12_ends
set_option maxRecDepth 20000 in
theorem K_X12_ends {X : qX} {l : Launch} : ∀ q ∈ C_X12_ends, qOk X l 8 cX12_ends 4 RX12 "ends" (some .int) q.1 q.2 := by
  unfold C_X12_ends
  refine qcons (qk_aload_n dX12_ends_0 rfl) ?_
  refine qcons (qk_iload_n dX12_ends_1 rfl) ?_
  refine qcons (qk_iconst dX12_ends_2 (by decide)) ?_
  refine qcons (qk_iconst dX12_ends_3 (by decide)) ?_
  refine qcons (qk_callv (ins := fun i => .invokevirtual i) (qconsV (qrunV M_X12_in (by decide) (by decide) (by decide) rfl tw_1082 tw_1084 tw_20 tw_1085 tw_90 ⟨by decide, by decide⟩ (by decide +kernel)) qnilV) dX12_ends_4) ?_
  refine qcons (qk_ifne dX12_ends_7 (by decide)) ?_
  refine qcons (qk_iconst dX12_ends_10 (by decide)) ?_
  refine qcons (qk_ret dX12_ends_11 (Or.inr (Or.inl ⟨rfl, rfl⟩))) ?_
  refine qcons (qk_aload_n dX12_ends_12 rfl) ?_
  refine qcons (qk_callv (ins := fun i => .invokevirtual i) (qconsV (qrunV M_X12_save (by decide) (by decide) (by decide) rfl tw_1266 tw_1268 tw_56 tw_1269 tw_90 ⟨by decide, by decide⟩ (by decide +kernel)) qnilV) dX12_ends_13) ?_
  refine qcons (qk_iconst dX12_ends_16 (by decide)) ?_
  refine qcons (qk_istore_n dX12_ends_17 rfl) ?_
  refine qcons (qk_iload_n dX12_ends_18 rfl) ?_
  refine qcons (qk_aload_n dX12_ends_19 rfl) ?_
  refine qcons (qk_getI fd_X12_136 kd_12_41 dX12_ends_20) ?_
  refine qcons (qk_icge dX12_ends_23 (by decide)) ?_
  refine qcons (qk_aload_n dX12_ends_26 rfl) ?_
  refine qcons (qk_getR fd_X12_142 kd_12_43 dX12_ends_27) ?_
  refine qcons (qk_iload_n dX12_ends_30 rfl) ?_
  refine qcons (qk_iaload dX12_ends_31) ?_
  refine qcons (qk_ifne dX12_ends_32 (by decide)) ?_
  refine qcons (qk_aload_n dX12_ends_35 rfl) ?_
  refine qcons (qk_callv (ins := fun i => .invokevirtual i) (qconsV (qrunV M_X12_goMinute (by decide) (by decide) (by decide) rfl tw_1254 tw_1256 tw_54 tw_1257 tw_90 ⟨by decide, by decide⟩ (by decide +kernel)) qnilV) dX12_ends_36) ?_
  refine qcons (qk_aload_n dX12_ends_39 rfl) ?_
  refine qcons (qk_aload_n dX12_ends_40 rfl) ?_
  refine qcons (qk_getR fd_X12_142 kd_12_43 dX12_ends_41) ?_
  refine qcons (qk_iload_n dX12_ends_44 rfl) ?_
  refine qcons (qk_iaload dX12_ends_45) ?_
  refine qcons (qk_iconst dX12_ends_46 (by decide)) ?_
  refine qcons (qk_iconst dX12_ends_47 (by decide)) ?_
  refine qcons (qk_callv (ins := fun i => .invokevirtual i) (qconsV (qrunV M_X12_in (by decide) (by decide) (by decide) rfl tw_1082 tw_1084 tw_20 tw_1085 tw_90 ⟨by decide, by decide⟩ (by decide +kernel)) qnilV) dX12_ends_48) ?_
  refine qcons (qk_ifeq dX12_ends_51 (by decide)) ?_
  refine qcons (qk_aload_n dX12_ends_54 rfl) ?_
  refine qcons (qk_getR fd_X12_29 kd_12_6 dX12_ends_55) ?_
  refine qcons (qk_aload_n dX12_ends_58 rfl) ?_
  refine qcons (qk_getR fd_X12_145 kd_12_44 dX12_ends_59) ?_
  refine qcons (qk_iload_n dX12_ends_62 rfl) ?_
  refine qcons (qk_iaload dX12_ends_63) ?_
  refine qcons (qk_aload_n dX12_ends_64 rfl) ?_
  refine qcons (qk_getR fd_X12_142 kd_12_43 dX12_ends_65) ?_
  refine qcons (qk_iload_n dX12_ends_68 rfl) ?_
  refine qcons (qk_iaload dX12_ends_69) ?_
  refine qcons (qk_iconst dX12_ends_70 (by decide)) ?_
  refine qcons (qk_isub dX12_ends_71) ?_
  refine qcons (qk_iastore dX12_ends_72) ?_
  refine qcons (qk_aload_n dX12_ends_73 rfl) ?_
  refine qcons (qk_getR fd_X12_142 kd_12_43 dX12_ends_74) ?_
  refine qcons (qk_iload_n dX12_ends_77 rfl) ?_
  refine qcons (qk_iaload dX12_ends_78) ?_
  refine qcons (qk_iconst dX12_ends_79 (by decide)) ?_
  refine qcons (qk_icne dX12_ends_80 (by decide)) ?_
  refine qcons (qk_aload_n dX12_ends_83 rfl) ?_
  refine qcons (qk_aload_n dX12_ends_84 rfl) ?_
  refine qcons (qk_getR fd_X12_145 kd_12_44 dX12_ends_85) ?_
  refine qcons (qk_iload_n dX12_ends_88 rfl) ?_
  refine qcons (qk_iaload dX12_ends_89) ?_
  refine qcons (qk_iconst dX12_ends_90 (by decide)) ?_
  refine qcons (qk_callv (ins := fun i => .invokevirtual i) (qconsV (qrunV M_X12_goes (by decide) (by decide) (by decide) rfl tw_1106 tw_1108 tw_24 tw_1109 tw_90 ⟨by decide, by decide⟩ (by decide +kernel)) qnilV) dX12_ends_91) ?_
  refine qcons (qk_iinc dX12_ends_94) ?_
  refine qcons (qk_goto dX12_ends_97 (by decide)) ?_
  refine qcons (qk_iconst dX12_ends_100 (by decide)) ?_
  refine qcons (qk_istore_n dX12_ends_101 rfl) ?_
  refine qcons (qk_iconst dX12_ends_102 (by decide)) ?_
  refine qcons (qk_istore_n dX12_ends_103 rfl) ?_
  refine qcons (qk_iload_n dX12_ends_104 rfl) ?_
  refine qcons (qk_aload_n dX12_ends_105 rfl) ?_
  refine qcons (qk_getI fd_X12_7 kd_12_0 dX12_ends_106) ?_
  refine qcons (qk_icge dX12_ends_109 (by decide)) ?_
  refine qcons (qk_iload_n dX12_ends_112 rfl) ?_
  refine qcons (qk_aload_n dX12_ends_113 rfl) ?_
  refine qcons (qk_getR fd_X12_32 kd_12_7 dX12_ends_114) ?_
  refine qcons (qk_iload_n dX12_ends_117 rfl) ?_
  refine qcons (qk_iaload dX12_ends_118) ?_
  refine qcons (qk_aload_n dX12_ends_119 rfl) ?_
  refine qcons (qk_getR fd_X12_118 kd_12_35 dX12_ends_120) ?_
  refine qcons (qk_iload_n dX12_ends_123 rfl) ?_
  refine qcons (qk_iaload dX12_ends_124) ?_
  refine qcons (qk_isub dX12_ends_125) ?_
  refine qcons (qk_iadd dX12_ends_126) ?_
  refine qcons (qk_istore_n dX12_ends_127 rfl) ?_
  refine qcons (qk_iinc dX12_ends_128) ?_
  refine qcons (qk_goto dX12_ends_131 (by decide)) ?_
  refine qcons (qk_iload_n dX12_ends_134 rfl) ?_
  refine qcons (qk_ifne dX12_ends_135 (by decide)) ?_
  refine qcons (qk_aload_n dX12_ends_138 rfl) ?_
  refine qcons (qk_getR fd_X12_19 kd_12_3 dX12_ends_139) ?_
  refine qcons (qk_iconst dX12_ends_142 (by decide)) ?_
  refine qcons (qk_iaload dX12_ends_143) ?_
  refine qcons (qk_goto dX12_ends_144 (by decide)) ?_
  refine qcons (qk_iload_n dX12_ends_147 rfl) ?_
  refine qcons (qk_istore_n dX12_ends_148 rfl) ?_
  refine qcons (qk_aload_n dX12_ends_149 rfl) ?_
  refine qcons (qk_callv (ins := fun i => .invokevirtual i) (qconsV (qrunV M_X12_putBack (by decide) (by decide) (by decide) rfl tw_1271 tw_1273 tw_57 tw_1274 tw_90 ⟨by decide, by decide⟩ (by decide +kernel)) qnilV) dX12_ends_150) ?_
  refine qcons (qk_iload_n dX12_ends_153 rfl) ?_
  refine qcons (qk_ret dX12_ends_154 (Or.inr (Or.inl ⟨rfl, rfl⟩))) ?_
  exact qnil
theorem M_X12_ends {X : qX} {l : Launch} : qMet X l 8 yX12_ends cX12_ends 4 (some .int) S_X12_ends := qmet_of K_X12_ends (by decide) rfl rfl
theorem dX12_book_0 : decode cX12_book 0 = .ok (.iload_n 1, 1) := by decide +kernel
theorem dX12_book_1 : decode cX12_book 1 = .ok (.iconst (-1), 1) := by decide +kernel
theorem dX12_book_2 : decode cX12_book 2 = .ok (.if_icmp .ne 10, 3) := by decide +kernel
theorem dX12_book_5 : decode cX12_book 5 = .ok (.aload_n 0, 1) := by decide +kernel
theorem dX12_book_6 : decode cX12_book 6 = .ok (.iconst 0, 1) := by decide +kernel
theorem dX12_book_7 : decode cX12_book 7 = .ok (.putfield 139, 3) := by decide +kernel
theorem dX12_book_10 : decode cX12_book 10 = .ok (.iconst 0, 1) := by decide +kernel
theorem dX12_book_11 : decode cX12_book 11 = .ok (.ireturn, 1) := by decide +kernel
theorem dX12_book_12 : decode cX12_book 12 = .ok (.aload_n 0, 1) := by decide +kernel
theorem dX12_book_13 : decode cX12_book 13 = .ok (.iload_n 1, 1) := by decide +kernel
theorem dX12_book_14 : decode cX12_book 14 = .ok (.invokevirtual 259, 3) := by decide +kernel
theorem dX12_book_17 : decode cX12_book 17 = .ok (.ifCond .ne 5, 3) := by decide +kernel
theorem dX12_book_20 : decode cX12_book 20 = .ok (.iconst (-1), 1) := by decide +kernel
theorem dX12_book_21 : decode cX12_book 21 = .ok (.ireturn, 1) := by decide +kernel
theorem dX12_book_22 : decode cX12_book 22 = .ok (.aload_n 0, 1) := by decide +kernel
theorem dX12_book_23 : decode cX12_book 23 = .ok (.iload_n 2, 1) := by decide +kernel
theorem dX12_book_24 : decode cX12_book 24 = .ok (.invokevirtual 262, 3) := by decide +kernel
theorem dX12_book_27 : decode cX12_book 27 = .ok (.ifCond .ne 6, 3) := by decide +kernel
theorem dX12_book_30 : decode cX12_book 30 = .ok (.bipush (-2), 2) := by decide +kernel
theorem dX12_book_32 : decode cX12_book 32 = .ok (.ireturn, 1) := by decide +kernel
theorem dX12_book_33 : decode cX12_book 33 = .ok (.aload_n 0, 1) := by decide +kernel
theorem dX12_book_34 : decode cX12_book 34 = .ok (.getfield 139, 3) := by decide +kernel
theorem dX12_book_37 : decode cX12_book 37 = .ok (.bipush 8, 2) := by decide +kernel
theorem dX12_book_39 : decode cX12_book 39 = .ok (.if_icmp .ne 6, 3) := by decide +kernel
theorem dX12_book_42 : decode cX12_book 42 = .ok (.bipush (-4), 2) := by decide +kernel
theorem dX12_book_44 : decode cX12_book 44 = .ok (.ireturn, 1) := by decide +kernel
theorem dX12_book_45 : decode cX12_book 45 = .ok (.aload_n 0, 1) := by decide +kernel
theorem dX12_book_46 : decode cX12_book 46 = .ok (.getfield 148, 3) := by decide +kernel
theorem dX12_book_49 : decode cX12_book 49 = .ok (.aload_n 0, 1) := by decide +kernel
theorem dX12_book_50 : decode cX12_book 50 = .ok (.getfield 139, 3) := by decide +kernel
theorem dX12_book_53 : decode cX12_book 53 = .ok (.iload_n 1, 1) := by decide +kernel
theorem dX12_book_54 : decode cX12_book 54 = .ok (.iastore, 1) := by decide +kernel
theorem dX12_book_55 : decode cX12_book 55 = .ok (.aload_n 0, 1) := by decide +kernel
theorem dX12_book_56 : decode cX12_book 56 = .ok (.getfield 151, 3) := by decide +kernel
theorem dX12_book_59 : decode cX12_book 59 = .ok (.aload_n 0, 1) := by decide +kernel
theorem dX12_book_60 : decode cX12_book 60 = .ok (.getfield 139, 3) := by decide +kernel
theorem dX12_book_63 : decode cX12_book 63 = .ok (.iload_n 2, 1) := by decide +kernel
theorem dX12_book_64 : decode cX12_book 64 = .ok (.iastore, 1) := by decide +kernel
theorem dX12_book_65 : decode cX12_book 65 = .ok (.aload_n 0, 1) := by decide +kernel
theorem dX12_book_66 : decode cX12_book 66 = .ok (.dup, 1) := by decide +kernel
theorem dX12_book_67 : decode cX12_book 67 = .ok (.getfield 139, 3) := by decide +kernel
theorem dX12_book_70 : decode cX12_book 70 = .ok (.iconst 1, 1) := by decide +kernel
theorem dX12_book_71 : decode cX12_book 71 = .ok (.iadd, 1) := by decide +kernel
theorem dX12_book_72 : decode cX12_book 72 = .ok (.putfield 139, 3) := by decide +kernel
theorem dX12_book_75 : decode cX12_book 75 = .ok (.aload_n 0, 1) := by decide +kernel
theorem dX12_book_76 : decode cX12_book 76 = .ok (.getfield 139, 3) := by decide +kernel
theorem dX12_book_79 : decode cX12_book 79 = .ok (.ireturn, 1) := by decide +kernel
noncomputable def C_X12_book : List (Nat × qOp) := [(0, qo_iload 1 1),
  (1, qo_ci (-1) 1),
  (2, qo_icne 12),
  (5, qo_aload 0 1),
  (6, qo_ci 0 1),
  (7, qo_putI 12 42),
  (10, qo_ci 0 1),
  (11, qo_ret (some .int) 1),
  (12, qo_aload 0 1),
  (13, qo_iload 1 1),
  (14, qo_callv [(12, S_X12_isHeap)] 1),
  (17, qo_ifne 22),
  (20, qo_ci (-1) 1),
  (21, qo_ret (some .int) 1),
  (22, qo_aload 0 1),
  (23, qo_iload 2 1),
  (24, qo_callv [(12, S_X12_isLetters)] 1),
  (27, qo_ifne 33),
  (30, qo_ci (-2) 2),
  (32, qo_ret (some .int) 1),
  (33, qo_aload 0 1),
  (34, qo_getI 12 42),
  (37, qo_ci 8 2),
  (39, qo_icne 45),
  (42, qo_ci (-4) 2),
  (44, qo_ret (some .int) 1),
  (45, qo_aload 0 1),
  (46, qo_getR 12 45),
  (49, qo_aload 0 1),
  (50, qo_getI 12 42),
  (53, qo_iload 1 1),
  (54, qo_iastore),
  (55, qo_aload 0 1),
  (56, qo_getR 12 46),
  (59, qo_aload 0 1),
  (60, qo_getI 12 42),
  (63, qo_iload 2 1),
  (64, qo_iastore),
  (65, qo_aload 0 1),
  (66, qo_dup),
  (67, qo_getI 12 42),
  (70, qo_ci 1 1),
  (71, qo_iadd),
  (72, qo_putI 12 42),
  (75, qo_aload 0 1),
  (76, qo_getI 12 42),
  (79, qo_ret (some .int) 1)]
noncomputable def S_X12_book : qSem := qM 3 C_X12_book
set_option maxRecDepth 20000 in
theorem K_X12_book {X : qX} {l : Launch} : ∀ q ∈ C_X12_book, qOk X l 3 cX12_book 3 RX12 "book" (some .int) q.1 q.2 := by
  unfold C_X12_book
  refine qcons (qk_iload_n dX12_book_0 rfl) ?_
  refine qcons (qk_iconst dX12_book_1 (by decide)) ?_
  refine qcons (qk_icne dX12_book_2 (by decide)) ?_
  refine qcons (qk_aload_n dX12_book_5 rfl) ?_
  refine qcons (qk_iconst dX12_book_6 (by decide)) ?_
  refine qcons (qk_putI (ty := .int) fd_X12_139 tyX12_ok nmX12 (Or.inl rfl) kd_12_42 (tyX12_ok 42 (by decide)) dX12_book_7) ?_
  refine qcons (qk_iconst dX12_book_10 (by decide)) ?_
  refine qcons (qk_ret dX12_book_11 (Or.inr (Or.inl ⟨rfl, rfl⟩))) ?_
  refine qcons (qk_aload_n dX12_book_12 rfl) ?_
  refine qcons (qk_iload_n dX12_book_13 rfl) ?_
  refine qcons (qk_callv (ins := fun i => .invokevirtual i) (qconsV (qrunV M_X12_isHeap (by decide) (by decide) (by decide) rfl tw_1118 tw_1120 tw_25 tw_1121 tw_90 ⟨by decide, by decide⟩ (by decide +kernel)) qnilV) dX12_book_14) ?_
  refine qcons (qk_ifne dX12_book_17 (by decide)) ?_
  refine qcons (qk_iconst dX12_book_20 (by decide)) ?_
  refine qcons (qk_ret dX12_book_21 (Or.inr (Or.inl ⟨rfl, rfl⟩))) ?_
  refine qcons (qk_aload_n dX12_book_22 rfl) ?_
  refine qcons (qk_iload_n dX12_book_23 rfl) ?_
  refine qcons (qk_callv (ins := fun i => .invokevirtual i) (qconsV (qrunV M_X12_isLetters (by decide) (by decide) (by decide) rfl tw_1122 tw_1124 tw_26 tw_1125 tw_90 ⟨by decide, by decide⟩ (by decide +kernel)) qnilV) dX12_book_24) ?_
  refine qcons (qk_ifne dX12_book_27 (by decide)) ?_
  refine qcons (qk_bipush dX12_book_30 (by decide) (by decide)) ?_
  refine qcons (qk_ret dX12_book_32 (Or.inr (Or.inl ⟨rfl, rfl⟩))) ?_
  refine qcons (qk_aload_n dX12_book_33 rfl) ?_
  refine qcons (qk_getI fd_X12_139 kd_12_42 dX12_book_34) ?_
  refine qcons (qk_bipush dX12_book_37 (by decide) (by decide)) ?_
  refine qcons (qk_icne dX12_book_39 (by decide)) ?_
  refine qcons (qk_bipush dX12_book_42 (by decide) (by decide)) ?_
  refine qcons (qk_ret dX12_book_44 (Or.inr (Or.inl ⟨rfl, rfl⟩))) ?_
  refine qcons (qk_aload_n dX12_book_45 rfl) ?_
  refine qcons (qk_getR fd_X12_148 kd_12_45 dX12_book_46) ?_
  refine qcons (qk_aload_n dX12_book_49 rfl) ?_
  refine qcons (qk_getI fd_X12_139 kd_12_42 dX12_book_50) ?_
  refine qcons (qk_iload_n dX12_book_53 rfl) ?_
  refine qcons (qk_iastore dX12_book_54) ?_
  refine qcons (qk_aload_n dX12_book_55 rfl) ?_
  refine qcons (qk_getR fd_X12_151 kd_12_46 dX12_book_56) ?_
  refine qcons (qk_aload_n dX12_book_59 rfl) ?_
  refine qcons (qk_getI fd_X12_139 kd_12_42 dX12_book_60) ?_
  refine qcons (qk_iload_n dX12_book_63 rfl) ?_
  refine qcons (qk_iastore dX12_book_64) ?_
  refine qcons (qk_aload_n dX12_book_65 rfl) ?_
  refine qcons (qk_dup dX12_book_66) ?_
  refine qcons (qk_getI fd_X12_139 kd_12_42 dX12_book_67) ?_
  refine qcons (qk_iconst dX12_book_70 (by decide)) ?_
  refine qcons (qk_iadd dX12_book_71) ?_
  refine qcons (qk_putI (ty := .int) fd_X12_139 tyX12_ok nmX12 (Or.inl rfl) kd_12_42 (tyX12_ok 42 (by decide)) dX12_book_72) ?_
  refine qcons (qk_aload_n dX12_book_75 rfl) ?_
  refine qcons (qk_getI fd_X12_139 kd_12_42 dX12_book_76) ?_
  refine qcons (qk_ret dX12_book_79 (Or.inr (Or.inl ⟨rfl, rfl⟩))) ?_
  exact qnil
theorem M_X12_book {X : qX} {l : Launch} : qMet X l 3 yX12_book cX12_book 3 (some .int) S_X12_book := qmet_of K_X12_book (by decide) rfl rfl
theorem dX12_looked_0 : decode cX12_looked 0 = .ok (.iconst 0, 1) := by decide +kernel
theorem dX12_looked_1 : decode cX12_looked 1 = .ok (.istore_n 1, 1) := by decide +kernel
theorem dX12_looked_2 : decode cX12_looked 2 = .ok (.iload_n 1, 1) := by decide +kernel
theorem dX12_looked_3 : decode cX12_looked 3 = .ok (.aload_n 0, 1) := by decide +kernel
theorem dX12_looked_4 : decode cX12_looked 4 = .ok (.getfield 139, 3) := by decide +kernel
theorem dX12_looked_7 : decode cX12_looked 7 = .ok (.if_icmp .ge 31, 3) := by decide +kernel
theorem dX12_looked_10 : decode cX12_looked 10 = .ok (.aload_n 0, 1) := by decide +kernel
theorem dX12_looked_11 : decode cX12_looked 11 = .ok (.getfield 19, 3) := by decide +kernel
theorem dX12_looked_14 : decode cX12_looked 14 = .ok (.aload_n 0, 1) := by decide +kernel
theorem dX12_looked_15 : decode cX12_looked 15 = .ok (.getfield 148, 3) := by decide +kernel
theorem dX12_looked_18 : decode cX12_looked 18 = .ok (.iload_n 1, 1) := by decide +kernel
theorem dX12_looked_19 : decode cX12_looked 19 = .ok (.iaload, 1) := by decide +kernel
theorem dX12_looked_20 : decode cX12_looked 20 = .ok (.iaload, 1) := by decide +kernel
theorem dX12_looked_21 : decode cX12_looked 21 = .ok (.aload_n 0, 1) := by decide +kernel
theorem dX12_looked_22 : decode cX12_looked 22 = .ok (.getfield 151, 3) := by decide +kernel
theorem dX12_looked_25 : decode cX12_looked 25 = .ok (.iload_n 1, 1) := by decide +kernel
theorem dX12_looked_26 : decode cX12_looked 26 = .ok (.iaload, 1) := by decide +kernel
theorem dX12_looked_27 : decode cX12_looked 27 = .ok (.if_icmp .eq 5, 3) := by decide +kernel
theorem dX12_looked_30 : decode cX12_looked 30 = .ok (.iload_n 1, 1) := by decide +kernel
theorem dX12_looked_31 : decode cX12_looked 31 = .ok (.ireturn, 1) := by decide +kernel
theorem dX12_looked_32 : decode cX12_looked 32 = .ok (.iinc 1 1, 3) := by decide +kernel
theorem dX12_looked_35 : decode cX12_looked 35 = .ok (.goto (-33), 3) := by decide +kernel
theorem dX12_looked_38 : decode cX12_looked 38 = .ok (.bipush (-5), 2) := by decide +kernel
theorem dX12_looked_40 : decode cX12_looked 40 = .ok (.ireturn, 1) := by decide +kernel
noncomputable def C_X12_looked : List (Nat × qOp) := [(0, qo_ci 0 1),
  (1, qo_istore 1 1),
  (2, qo_iload 1 1),
  (3, qo_aload 0 1),
  (4, qo_getI 12 42),
  (7, qo_icge 38),
  (10, qo_aload 0 1),
  (11, qo_getR 12 3),
  (14, qo_aload 0 1),
  (15, qo_getR 12 45),
  (18, qo_iload 1 1),
  (19, qo_iaload),
  (20, qo_iaload),
  (21, qo_aload 0 1),
  (22, qo_getR 12 46),
  (25, qo_iload 1 1),
  (26, qo_iaload),
  (27, qo_iceq 32),
  (30, qo_iload 1 1),
  (31, qo_ret (some .int) 1),
  (32, qo_iinc 1 1),
  (35, qo_goto 2),
  (38, qo_ci (-5) 2),
  (40, qo_ret (some .int) 1)]
noncomputable def S_X12_looked : qSem := qM 2 C_X12_looked
set_option maxRecDepth 20000 in
theorem K_X12_looked {X : qX} {l : Launch} : ∀ q ∈ C_X12_looked, qOk X l 1 cX12_looked 2 RX12 "looked" (some .int) q.1 q.2 := by
  unfold C_X12_looked
  refine qcons (qk_iconst dX12_looked_0 (by decide)) ?_
  refine qcons (qk_istore_n dX12_looked_1 rfl) ?_
  refine qcons (qk_iload_n dX12_looked_2 rfl) ?_
  refine qcons (qk_aload_n dX12_looked_3 rfl) ?_
  refine qcons (qk_getI fd_X12_139 kd_12_42 dX12_looked_4) ?_
  refine qcons (qk_icge dX12_looked_7 (by decide)) ?_
  refine qcons (qk_aload_n dX12_looked_10 rfl) ?_
  refine qcons (qk_getR fd_X12_19 kd_12_3 dX12_looked_11) ?_
  refine qcons (qk_aload_n dX12_looked_14 rfl) ?_
  refine qcons (qk_getR fd_X12_148 kd_12_45 dX12_looked_15) ?_
  refine qcons (qk_iload_n dX12_looked_18 rfl) ?_
  refine qcons (qk_iaload dX12_looked_19) ?_
  refine qcons (qk_iaload dX12_looked_20) ?_
  refine qcons (qk_aload_n dX12_looked_21 rfl) ?_
  refine qcons (qk_getR fd_X12_151 kd_12_46 dX12_looked_22) ?_
  refine qcons (qk_iload_n dX12_looked_25 rfl) ?_
  refine qcons (qk_iaload dX12_looked_26) ?_
  refine qcons (qk_iceq dX12_looked_27 (by decide)) ?_
  refine qcons (qk_iload_n dX12_looked_30 rfl) ?_
  refine qcons (qk_ret dX12_looked_31 (Or.inr (Or.inl ⟨rfl, rfl⟩))) ?_
  refine qcons (qk_iinc dX12_looked_32) ?_
  refine qcons (qk_goto dX12_looked_35 (by decide)) ?_
  refine qcons (qk_bipush dX12_looked_38 (by decide) (by decide)) ?_
  refine qcons (qk_ret dX12_looked_40 (Or.inr (Or.inl ⟨rfl, rfl⟩))) ?_
  exact qnil
theorem M_X12_looked {X : qX} {l : Launch} : qMet X l 1 yX12_looked cX12_looked 2 (some .int) S_X12_looked := qmet_of K_X12_looked (by decide) rfl rfl
