theorem dX12_isTape_0 : decode cX12_isTape 0 = .ok (.aload_n 0, 1) := by decide +kernel
theorem dX12_isTape_1 : decode cX12_isTape 1 = .ok (.iload_n 1, 1) := by decide +kernel
theorem dX12_isTape_2 : decode cX12_isTape 2 = .ok (.iconst 0, 1) := by decide +kernel
theorem dX12_isTape_3 : decode cX12_isTape 3 = .ok (.iconst 5, 1) := by decide +kernel
theorem dX12_isTape_4 : decode cX12_isTape 4 = .ok (.invokevirtual 240, 3) := by decide +kernel
theorem dX12_isTape_7 : decode cX12_isTape 7 = .ok (.ireturn, 1) := by decide +kernel
noncomputable def C_X12_isTape : List (Nat × qOp) := [(0, qo_aload 0 1),
  (1, qo_iload 1 1),
  (2, qo_ci 0 1),
  (3, qo_ci 5 1),
  (4, qo_callv [(12, S_X12_in)] 3),
  (7, qo_ret (some .boolean) 1)]
noncomputable def S_X12_isTape : qSem := qM 2 C_X12_isTape
set_option maxRecDepth 20000 in
theorem K_X12_isTape {X : qX} {l : Launch} : ∀ q ∈ C_X12_isTape, qOk X l 2 cX12_isTape 2 RX12 "isTape" (some .boolean) q.1 q.2 := by
  unfold C_X12_isTape
  refine qcons (qk_aload_n dX12_isTape_0 rfl) ?_
  refine qcons (qk_iload_n dX12_isTape_1 rfl) ?_
  refine qcons (qk_iconst dX12_isTape_2 (by decide)) ?_
  refine qcons (qk_iconst dX12_isTape_3 (by decide)) ?_
  refine qcons (qk_callv (ins := fun i => .invokevirtual i) (qconsV (qrunV M_X12_in (by decide) (by decide) (by decide) rfl tw_1082 tw_1084 tw_20 tw_1085 tw_90 ⟨by decide, by decide⟩ (by decide +kernel)) qnilV) dX12_isTape_4) ?_
  refine qcons (qk_ret dX12_isTape_7 (Or.inr (Or.inl ⟨rfl, rfl⟩))) ?_
  exact qnil
theorem M_X12_isTape {X : qX} {l : Launch} : qMet X l 2 yX12_isTape cX12_isTape 2 (some .boolean) S_X12_isTape := qmet_of K_X12_isTape (by decide) rfl rfl
theorem dX12_judge_0 : decode cX12_judge 0 = .ok (.aload_n 0, 1) := by decide +kernel
theorem dX12_judge_1 : decode cX12_judge 1 = .ok (.iload_n 1, 1) := by decide +kernel
theorem dX12_judge_2 : decode cX12_judge 2 = .ok (.invokevirtual 397, 3) := by decide +kernel
theorem dX12_judge_5 : decode cX12_judge 5 = .ok (.ifCond .ne 5, 3) := by decide +kernel
theorem dX12_judge_8 : decode cX12_judge 8 = .ok (.iconst (-1), 1) := by decide +kernel
theorem dX12_judge_9 : decode cX12_judge 9 = .ok (.ireturn, 1) := by decide +kernel
theorem dX12_judge_10 : decode cX12_judge 10 = .ok (.aload_n 0, 1) := by decide +kernel
theorem dX12_judge_11 : decode cX12_judge 11 = .ok (.getfield 227, 3) := by decide +kernel
theorem dX12_judge_14 : decode cX12_judge 14 = .ok (.iload_n 1, 1) := by decide +kernel
theorem dX12_judge_15 : decode cX12_judge 15 = .ok (.iaload, 1) := by decide +kernel
theorem dX12_judge_16 : decode cX12_judge 16 = .ok (.ifCond .lt 16, 3) := by decide +kernel
theorem dX12_judge_19 : decode cX12_judge 19 = .ok (.aload_n 0, 1) := by decide +kernel
theorem dX12_judge_20 : decode cX12_judge 20 = .ok (.getfield 227, 3) := by decide +kernel
theorem dX12_judge_23 : decode cX12_judge 23 = .ok (.iload_n 1, 1) := by decide +kernel
theorem dX12_judge_24 : decode cX12_judge 24 = .ok (.iaload, 1) := by decide +kernel
theorem dX12_judge_25 : decode cX12_judge 25 = .ok (.iconst 2, 1) := by decide +kernel
theorem dX12_judge_26 : decode cX12_judge 26 = .ok (.if_icmp .eq 6, 3) := by decide +kernel
theorem dX12_judge_29 : decode cX12_judge 29 = .ok (.bipush (-12), 2) := by decide +kernel
theorem dX12_judge_31 : decode cX12_judge 31 = .ok (.ireturn, 1) := by decide +kernel
theorem dX12_judge_32 : decode cX12_judge 32 = .ok (.iconst 0, 1) := by decide +kernel
theorem dX12_judge_33 : decode cX12_judge 33 = .ok (.istore_n 3, 1) := by decide +kernel
theorem dX12_judge_34 : decode cX12_judge 34 = .ok (.iload_n 3, 1) := by decide +kernel
theorem dX12_judge_35 : decode cX12_judge 35 = .ok (.iconst 5, 1) := by decide +kernel
theorem dX12_judge_36 : decode cX12_judge 36 = .ok (.if_icmp .ge 67, 3) := by decide +kernel
theorem dX12_judge_39 : decode cX12_judge 39 = .ok (.aload_n 0, 1) := by decide +kernel
theorem dX12_judge_40 : decode cX12_judge 40 = .ok (.getfield 227, 3) := by decide +kernel
theorem dX12_judge_43 : decode cX12_judge 43 = .ok (.iload_n 1, 1) := by decide +kernel
theorem dX12_judge_44 : decode cX12_judge 44 = .ok (.iaload, 1) := by decide +kernel
theorem dX12_judge_45 : decode cX12_judge 45 = .ok (.ifCond .lt 21, 3) := by decide +kernel
theorem dX12_judge_48 : decode cX12_judge 48 = .ok (.iload_n 2, 1) := by decide +kernel
theorem dX12_judge_49 : decode cX12_judge 49 = .ok (.ifCond .lt 17, 3) := by decide +kernel
theorem dX12_judge_52 : decode cX12_judge 52 = .ok (.iload_n 2, 1) := by decide +kernel
theorem dX12_judge_53 : decode cX12_judge 53 = .ok (.aload_n 0, 1) := by decide +kernel
theorem dX12_judge_54 : decode cX12_judge 54 = .ok (.getfield 230, 3) := by decide +kernel
theorem dX12_judge_57 : decode cX12_judge 57 = .ok (.iload_n 1, 1) := by decide +kernel
theorem dX12_judge_58 : decode cX12_judge 58 = .ok (.iaload, 1) := by decide +kernel
theorem dX12_judge_59 : decode cX12_judge 59 = .ok (.iload_n 3, 1) := by decide +kernel
theorem dX12_judge_60 : decode cX12_judge 60 = .ok (.isub, 1) := by decide +kernel
theorem dX12_judge_61 : decode cX12_judge 61 = .ok (.iconst 1, 1) := by decide +kernel
theorem dX12_judge_62 : decode cX12_judge 62 = .ok (.isub, 1) := by decide +kernel
theorem dX12_judge_63 : decode cX12_judge 63 = .ok (.if_icmp .le 8, 3) := by decide +kernel
theorem dX12_judge_66 : decode cX12_judge 66 = .ok (.bipush 100, 2) := by decide +kernel
theorem dX12_judge_68 : decode cX12_judge 68 = .ok (.iload_n 3, 1) := by decide +kernel
theorem dX12_judge_69 : decode cX12_judge 69 = .ok (.iadd, 1) := by decide +kernel
theorem dX12_judge_70 : decode cX12_judge 70 = .ok (.ireturn, 1) := by decide +kernel
theorem dX12_judge_71 : decode cX12_judge 71 = .ok (.aload_n 0, 1) := by decide +kernel
theorem dX12_judge_72 : decode cX12_judge 72 = .ok (.getfield 233, 3) := by decide +kernel
theorem dX12_judge_75 : decode cX12_judge 75 = .ok (.bipush 60, 2) := by decide +kernel
theorem dX12_judge_77 : decode cX12_judge 77 = .ok (.iload_n 1, 1) := by decide +kernel
theorem dX12_judge_78 : decode cX12_judge 78 = .ok (.imul, 1) := by decide +kernel
theorem dX12_judge_79 : decode cX12_judge 79 = .ok (.iload_n 2, 1) := by decide +kernel
theorem dX12_judge_80 : decode cX12_judge 80 = .ok (.iadd, 1) := by decide +kernel
theorem dX12_judge_81 : decode cX12_judge 81 = .ok (.iload_n 3, 1) := by decide +kernel
theorem dX12_judge_82 : decode cX12_judge 82 = .ok (.iadd, 1) := by decide +kernel
theorem dX12_judge_83 : decode cX12_judge 83 = .ok (.laload, 1) := by decide +kernel
theorem dX12_judge_84 : decode cX12_judge 84 = .ok (.aload_n 0, 1) := by decide +kernel
theorem dX12_judge_85 : decode cX12_judge 85 = .ok (.getfield 19, 3) := by decide +kernel
theorem dX12_judge_88 : decode cX12_judge 88 = .ok (.iload_n 3, 1) := by decide +kernel
theorem dX12_judge_89 : decode cX12_judge 89 = .ok (.iaload, 1) := by decide +kernel
theorem dX12_judge_90 : decode cX12_judge 90 = .ok (.i2l, 1) := by decide +kernel
theorem dX12_judge_91 : decode cX12_judge 91 = .ok (.lcmp, 1) := by decide +kernel
theorem dX12_judge_92 : decode cX12_judge 92 = .ok (.ifCond .eq 5, 3) := by decide +kernel
theorem dX12_judge_95 : decode cX12_judge 95 = .ok (.iload_n 3, 1) := by decide +kernel
theorem dX12_judge_96 : decode cX12_judge 96 = .ok (.ireturn, 1) := by decide +kernel
theorem dX12_judge_97 : decode cX12_judge 97 = .ok (.iinc 3 1, 3) := by decide +kernel
theorem dX12_judge_100 : decode cX12_judge 100 = .ok (.goto (-66), 3) := by decide +kernel
theorem dX12_judge_103 : decode cX12_judge 103 = .ok (.bipush (-5), 2) := by decide +kernel
theorem dX12_judge_105 : decode cX12_judge 105 = .ok (.ireturn, 1) := by decide +kernel
noncomputable def C_X12_judge : List (Nat × qOp) := [(0, qo_aload 0 1),
  (1, qo_iload 1 1),
  (2, qo_callv [(12, S_X12_isTape)] 1),
  (5, qo_ifne 10),
  (8, qo_ci (-1) 1),
  (9, qo_ret (some .int) 1),
  (10, qo_aload 0 1),
  (11, qo_getR 12 71),
  (14, qo_iload 1 1),
  (15, qo_iaload),
  (16, qo_iflt 32),
  (19, qo_aload 0 1),
  (20, qo_getR 12 71),
  (23, qo_iload 1 1),
  (24, qo_iaload),
  (25, qo_ci 2 1),
  (26, qo_iceq 32),
  (29, qo_ci (-12) 2),
  (31, qo_ret (some .int) 1),
  (32, qo_ci 0 1),
  (33, qo_istore 3 1),
  (34, qo_iload 3 1),
  (35, qo_ci 5 1),
  (36, qo_icge 103),
  (39, qo_aload 0 1),
  (40, qo_getR 12 71),
  (43, qo_iload 1 1),
  (44, qo_iaload),
  (45, qo_iflt 66),
  (48, qo_iload 2 1),
  (49, qo_iflt 66),
  (52, qo_iload 2 1),
  (53, qo_aload 0 1),
  (54, qo_getR 12 72),
  (57, qo_iload 1 1),
  (58, qo_iaload),
  (59, qo_iload 3 1),
  (60, qo_isub),
  (61, qo_ci 1 1),
  (62, qo_isub),
  (63, qo_icle 71),
  (66, qo_ci 100 2),
  (68, qo_iload 3 1),
  (69, qo_iadd),
  (70, qo_ret (some .int) 1),
  (71, qo_aload 0 1),
  (72, qo_getR 12 73),
  (75, qo_ci 60 2),
  (77, qo_iload 1 1),
  (78, qo_imul),
  (79, qo_iload 2 1),
  (80, qo_iadd),
  (81, qo_iload 3 1),
  (82, qo_iadd),
  (83, qo_laload),
  (84, qo_aload 0 1),
  (85, qo_getR 12 3),
  (88, qo_iload 3 1),
  (89, qo_iaload),
  (90, qo_i2l),
  (91, qo_lcmp),
  (92, qo_ifeq 97),
  (95, qo_iload 3 1),
  (96, qo_ret (some .int) 1),
  (97, qo_iinc 3 1),
  (100, qo_goto 34),
  (103, qo_ci (-5) 2),
  (105, qo_ret (some .int) 1)]
noncomputable def S_X12_judge : qSem := qM 4 C_X12_judge
set_option maxRecDepth 20000 in
theorem K_X12_judge {X : qX} {l : Launch} : ∀ q ∈ C_X12_judge, qOk X l 3 cX12_judge 4 RX12 "judge" (some .int) q.1 q.2 := by
  unfold C_X12_judge
  refine qcons (qk_aload_n dX12_judge_0 rfl) ?_
  refine qcons (qk_iload_n dX12_judge_1 rfl) ?_
  refine qcons (qk_callv (ins := fun i => .invokevirtual i) (qconsV (qrunV M_X12_isTape (by decide) (by decide) (by decide) rfl tw_1369 tw_1371 tw_67 tw_1372 tw_90 ⟨by decide, by decide⟩ (by decide +kernel)) qnilV) dX12_judge_2) ?_
  refine qcons (qk_ifne dX12_judge_5 (by decide)) ?_
  refine qcons (qk_iconst dX12_judge_8 (by decide)) ?_
  refine qcons (qk_ret dX12_judge_9 (Or.inr (Or.inl ⟨rfl, rfl⟩))) ?_
  refine qcons (qk_aload_n dX12_judge_10 rfl) ?_
  refine qcons (qk_getR fd_X12_227 kd_12_71 dX12_judge_11) ?_
  refine qcons (qk_iload_n dX12_judge_14 rfl) ?_
  refine qcons (qk_iaload dX12_judge_15) ?_
  refine qcons (qk_iflt dX12_judge_16 (by decide)) ?_
  refine qcons (qk_aload_n dX12_judge_19 rfl) ?_
  refine qcons (qk_getR fd_X12_227 kd_12_71 dX12_judge_20) ?_
  refine qcons (qk_iload_n dX12_judge_23 rfl) ?_
  refine qcons (qk_iaload dX12_judge_24) ?_
  refine qcons (qk_iconst dX12_judge_25 (by decide)) ?_
  refine qcons (qk_iceq dX12_judge_26 (by decide)) ?_
  refine qcons (qk_bipush dX12_judge_29 (by decide) (by decide)) ?_
  refine qcons (qk_ret dX12_judge_31 (Or.inr (Or.inl ⟨rfl, rfl⟩))) ?_
  refine qcons (qk_iconst dX12_judge_32 (by decide)) ?_
  refine qcons (qk_istore_n dX12_judge_33 rfl) ?_
  refine qcons (qk_iload_n dX12_judge_34 rfl) ?_
  refine qcons (qk_iconst dX12_judge_35 (by decide)) ?_
  refine qcons (qk_icge dX12_judge_36 (by decide)) ?_
  refine qcons (qk_aload_n dX12_judge_39 rfl) ?_
  refine qcons (qk_getR fd_X12_227 kd_12_71 dX12_judge_40) ?_
  refine qcons (qk_iload_n dX12_judge_43 rfl) ?_
  refine qcons (qk_iaload dX12_judge_44) ?_
  refine qcons (qk_iflt dX12_judge_45 (by decide)) ?_
  refine qcons (qk_iload_n dX12_judge_48 rfl) ?_
  refine qcons (qk_iflt dX12_judge_49 (by decide)) ?_
  refine qcons (qk_iload_n dX12_judge_52 rfl) ?_
  refine qcons (qk_aload_n dX12_judge_53 rfl) ?_
  refine qcons (qk_getR fd_X12_230 kd_12_72 dX12_judge_54) ?_
  refine qcons (qk_iload_n dX12_judge_57 rfl) ?_
  refine qcons (qk_iaload dX12_judge_58) ?_
  refine qcons (qk_iload_n dX12_judge_59 rfl) ?_
  refine qcons (qk_isub dX12_judge_60) ?_
  refine qcons (qk_iconst dX12_judge_61 (by decide)) ?_
  refine qcons (qk_isub dX12_judge_62) ?_
  refine qcons (qk_icle dX12_judge_63 (by decide)) ?_
  refine qcons (qk_bipush dX12_judge_66 (by decide) (by decide)) ?_
  refine qcons (qk_iload_n dX12_judge_68 rfl) ?_
  refine qcons (qk_iadd dX12_judge_69) ?_
  refine qcons (qk_ret dX12_judge_70 (Or.inr (Or.inl ⟨rfl, rfl⟩))) ?_
  refine qcons (qk_aload_n dX12_judge_71 rfl) ?_
  refine qcons (qk_getR fd_X12_233 kd_12_73 dX12_judge_72) ?_
  refine qcons (qk_bipush dX12_judge_75 (by decide) (by decide)) ?_
  refine qcons (qk_iload_n dX12_judge_77 rfl) ?_
  refine qcons (qk_imul dX12_judge_78) ?_
  refine qcons (qk_iload_n dX12_judge_79 rfl) ?_
  refine qcons (qk_iadd dX12_judge_80) ?_
  refine qcons (qk_iload_n dX12_judge_81 rfl) ?_
  refine qcons (qk_iadd dX12_judge_82) ?_
  refine qcons (qk_laload dX12_judge_83) ?_
  refine qcons (qk_aload_n dX12_judge_84 rfl) ?_
  refine qcons (qk_getR fd_X12_19 kd_12_3 dX12_judge_85) ?_
  refine qcons (qk_iload_n dX12_judge_88 rfl) ?_
  refine qcons (qk_iaload dX12_judge_89) ?_
  refine qcons (qk_i2l dX12_judge_90) ?_
  refine qcons (qk_lcmp dX12_judge_91) ?_
  refine qcons (qk_ifeq dX12_judge_92 (by decide)) ?_
  refine qcons (qk_iload_n dX12_judge_95 rfl) ?_
  refine qcons (qk_ret dX12_judge_96 (Or.inr (Or.inl ⟨rfl, rfl⟩))) ?_
  refine qcons (qk_iinc dX12_judge_97) ?_
  refine qcons (qk_goto dX12_judge_100 (by decide)) ?_
  refine qcons (qk_bipush dX12_judge_103 (by decide) (by decide)) ?_
  refine qcons (qk_ret dX12_judge_105 (Or.inr (Or.inl ⟨rfl, rfl⟩))) ?_
  exact qnil
theorem M_X12_judge {X : qX} {l : Launch} : qMet X l 3 yX12_judge cX12_judge 4 (some .int) S_X12_judge := qmet_of K_X12_judge (by decide) rfl rfl
theorem dX12_image_0 : decode cX12_image 0 = .ok (.aload_n 0, 1) := by decide +kernel
theorem dX12_image_1 : decode cX12_image 1 = .ok (.iconst 1, 1) := by decide +kernel
theorem dX12_image_2 : decode cX12_image 2 = .ok (.putfield 154, 3) := by decide +kernel
theorem dX12_image_5 : decode cX12_image 5 = .ok (.aload_n 0, 1) := by decide +kernel
theorem dX12_image_6 : decode cX12_image 6 = .ok (.aload_n 0, 1) := by decide +kernel
theorem dX12_image_7 : decode cX12_image 7 = .ok (.getfield 44, 3) := by decide +kernel
theorem dX12_image_10 : decode cX12_image 10 = .ok (.putfield 158, 3) := by decide +kernel
theorem dX12_image_13 : decode cX12_image 13 = .ok (.aload_n 0, 1) := by decide +kernel
theorem dX12_image_14 : decode cX12_image 14 = .ok (.aload_n 0, 1) := by decide +kernel
theorem dX12_image_15 : decode cX12_image 15 = .ok (.getfield 7, 3) := by decide +kernel
theorem dX12_image_18 : decode cX12_image 18 = .ok (.putfield 161, 3) := by decide +kernel
theorem dX12_image_21 : decode cX12_image 21 = .ok (.aload_n 0, 1) := by decide +kernel
theorem dX12_image_22 : decode cX12_image 22 = .ok (.aload_n 0, 1) := by decide +kernel
theorem dX12_image_23 : decode cX12_image 23 = .ok (.getfield 13, 3) := by decide +kernel
theorem dX12_image_26 : decode cX12_image 26 = .ok (.putfield 164, 3) := by decide +kernel
theorem dX12_image_29 : decode cX12_image 29 = .ok (.aload_n 0, 1) := by decide +kernel
theorem dX12_image_30 : decode cX12_image 30 = .ok (.aload_n 0, 1) := by decide +kernel
theorem dX12_image_31 : decode cX12_image 31 = .ok (.getfield 16, 3) := by decide +kernel
theorem dX12_image_34 : decode cX12_image 34 = .ok (.putfield 167, 3) := by decide +kernel
theorem dX12_image_37 : decode cX12_image 37 = .ok (.aload_n 0, 1) := by decide +kernel
theorem dX12_image_38 : decode cX12_image 38 = .ok (.aload_n 0, 1) := by decide +kernel
theorem dX12_image_39 : decode cX12_image 39 = .ok (.getfield 124, 3) := by decide +kernel
theorem dX12_image_42 : decode cX12_image 42 = .ok (.putfield 170, 3) := by decide +kernel
theorem dX12_image_45 : decode cX12_image 45 = .ok (.aload_n 0, 1) := by decide +kernel
theorem dX12_image_46 : decode cX12_image 46 = .ok (.aload_n 0, 1) := by decide +kernel
theorem dX12_image_47 : decode cX12_image 47 = .ok (.getfield 136, 3) := by decide +kernel
theorem dX12_image_50 : decode cX12_image 50 = .ok (.putfield 173, 3) := by decide +kernel
theorem dX12_image_53 : decode cX12_image 53 = .ok (.aload_n 0, 1) := by decide +kernel
theorem dX12_image_54 : decode cX12_image 54 = .ok (.aload_n 0, 1) := by decide +kernel
theorem dX12_image_55 : decode cX12_image 55 = .ok (.getfield 139, 3) := by decide +kernel
theorem dX12_image_58 : decode cX12_image 58 = .ok (.putfield 176, 3) := by decide +kernel
theorem dX12_image_61 : decode cX12_image 61 = .ok (.iconst 0, 1) := by decide +kernel
theorem dX12_image_62 : decode cX12_image 62 = .ok (.istore_n 1, 1) := by decide +kernel
theorem dX12_image_63 : decode cX12_image 63 = .ok (.iload_n 1, 1) := by decide +kernel
theorem dX12_image_64 : decode cX12_image 64 = .ok (.iconst 5, 1) := by decide +kernel
theorem dX12_image_65 : decode cX12_image 65 = .ok (.if_icmp .ge 57, 3) := by decide +kernel
theorem dX12_image_68 : decode cX12_image 68 = .ok (.aload_n 0, 1) := by decide +kernel
theorem dX12_image_69 : decode cX12_image 69 = .ok (.getfield 179, 3) := by decide +kernel
theorem dX12_image_72 : decode cX12_image 72 = .ok (.iload_n 1, 1) := by decide +kernel
theorem dX12_image_73 : decode cX12_image 73 = .ok (.aload_n 0, 1) := by decide +kernel
theorem dX12_image_74 : decode cX12_image 74 = .ok (.getfield 19, 3) := by decide +kernel
theorem dX12_image_77 : decode cX12_image 77 = .ok (.iload_n 1, 1) := by decide +kernel
theorem dX12_image_78 : decode cX12_image 78 = .ok (.iaload, 1) := by decide +kernel
theorem dX12_image_79 : decode cX12_image 79 = .ok (.iastore, 1) := by decide +kernel
theorem dX12_image_80 : decode cX12_image 80 = .ok (.aload_n 0, 1) := by decide +kernel
theorem dX12_image_81 : decode cX12_image 81 = .ok (.getfield 200, 3) := by decide +kernel
theorem dX12_image_84 : decode cX12_image 84 = .ok (.iload_n 1, 1) := by decide +kernel
theorem dX12_image_85 : decode cX12_image 85 = .ok (.aload_n 0, 1) := by decide +kernel
theorem dX12_image_86 : decode cX12_image 86 = .ok (.getfield 127, 3) := by decide +kernel
theorem dX12_image_89 : decode cX12_image 89 = .ok (.iload_n 1, 1) := by decide +kernel
theorem dX12_image_90 : decode cX12_image 90 = .ok (.iaload, 1) := by decide +kernel
theorem dX12_image_91 : decode cX12_image 91 = .ok (.iastore, 1) := by decide +kernel
theorem dX12_image_92 : decode cX12_image 92 = .ok (.aload_n 0, 1) := by decide +kernel
theorem dX12_image_93 : decode cX12_image 93 = .ok (.getfield 203, 3) := by decide +kernel
theorem dX12_image_96 : decode cX12_image 96 = .ok (.iload_n 1, 1) := by decide +kernel
theorem dX12_image_97 : decode cX12_image 97 = .ok (.aload_n 0, 1) := by decide +kernel
theorem dX12_image_98 : decode cX12_image 98 = .ok (.getfield 130, 3) := by decide +kernel
theorem dX12_image_101 : decode cX12_image 101 = .ok (.iload_n 1, 1) := by decide +kernel
theorem dX12_image_102 : decode cX12_image 102 = .ok (.iaload, 1) := by decide +kernel
theorem dX12_image_103 : decode cX12_image 103 = .ok (.iastore, 1) := by decide +kernel
theorem dX12_image_104 : decode cX12_image 104 = .ok (.aload_n 0, 1) := by decide +kernel
theorem dX12_image_105 : decode cX12_image 105 = .ok (.getfield 206, 3) := by decide +kernel
theorem dX12_image_108 : decode cX12_image 108 = .ok (.iload_n 1, 1) := by decide +kernel
theorem dX12_image_109 : decode cX12_image 109 = .ok (.aload_n 0, 1) := by decide +kernel
theorem dX12_image_110 : decode cX12_image 110 = .ok (.getfield 133, 3) := by decide +kernel
theorem dX12_image_113 : decode cX12_image 113 = .ok (.iload_n 1, 1) := by decide +kernel
theorem dX12_image_114 : decode cX12_image 114 = .ok (.iaload, 1) := by decide +kernel
theorem dX12_image_115 : decode cX12_image 115 = .ok (.iastore, 1) := by decide +kernel
theorem dX12_image_116 : decode cX12_image 116 = .ok (.iinc 1 1, 3) := by decide +kernel
theorem dX12_image_119 : decode cX12_image 119 = .ok (.goto (-56), 3) := by decide +kernel
theorem dX12_image_122 : decode cX12_image 122 = .ok (.iconst 0, 1) := by decide +kernel
theorem dX12_image_123 : decode cX12_image 123 = .ok (.istore_n 1, 1) := by decide +kernel
theorem dX12_image_124 : decode cX12_image 124 = .ok (.iload_n 1, 1) := by decide +kernel
theorem dX12_image_125 : decode cX12_image 125 = .ok (.bipush 6, 2) := by decide +kernel
theorem dX12_image_127 : decode cX12_image 127 = .ok (.if_icmp .ge 69, 3) := by decide +kernel
theorem dX12_image_130 : decode cX12_image 130 = .ok (.aload_n 0, 1) := by decide +kernel
theorem dX12_image_131 : decode cX12_image 131 = .ok (.getfield 182, 3) := by decide +kernel
theorem dX12_image_134 : decode cX12_image 134 = .ok (.iload_n 1, 1) := by decide +kernel
theorem dX12_image_135 : decode cX12_image 135 = .ok (.aload_n 0, 1) := by decide +kernel
theorem dX12_image_136 : decode cX12_image 136 = .ok (.getfield 23, 3) := by decide +kernel
theorem dX12_image_139 : decode cX12_image 139 = .ok (.iload_n 1, 1) := by decide +kernel
theorem dX12_image_140 : decode cX12_image 140 = .ok (.iaload, 1) := by decide +kernel
theorem dX12_image_141 : decode cX12_image 141 = .ok (.iastore, 1) := by decide +kernel
theorem dX12_image_142 : decode cX12_image 142 = .ok (.aload_n 0, 1) := by decide +kernel
theorem dX12_image_143 : decode cX12_image 143 = .ok (.getfield 185, 3) := by decide +kernel
theorem dX12_image_146 : decode cX12_image 146 = .ok (.iload_n 1, 1) := by decide +kernel
theorem dX12_image_147 : decode cX12_image 147 = .ok (.aload_n 0, 1) := by decide +kernel
theorem dX12_image_148 : decode cX12_image 148 = .ok (.getfield 26, 3) := by decide +kernel
theorem dX12_image_151 : decode cX12_image 151 = .ok (.iload_n 1, 1) := by decide +kernel
theorem dX12_image_152 : decode cX12_image 152 = .ok (.iaload, 1) := by decide +kernel
theorem dX12_image_153 : decode cX12_image 153 = .ok (.iastore, 1) := by decide +kernel
theorem dX12_image_154 : decode cX12_image 154 = .ok (.aload_n 0, 1) := by decide +kernel
theorem dX12_image_155 : decode cX12_image 155 = .ok (.getfield 188, 3) := by decide +kernel
theorem dX12_image_158 : decode cX12_image 158 = .ok (.iload_n 1, 1) := by decide +kernel
theorem dX12_image_159 : decode cX12_image 159 = .ok (.aload_n 0, 1) := by decide +kernel
theorem dX12_image_160 : decode cX12_image 160 = .ok (.getfield 29, 3) := by decide +kernel
theorem dX12_image_163 : decode cX12_image 163 = .ok (.iload_n 1, 1) := by decide +kernel
theorem dX12_image_164 : decode cX12_image 164 = .ok (.iaload, 1) := by decide +kernel
theorem dX12_image_165 : decode cX12_image 165 = .ok (.iastore, 1) := by decide +kernel
theorem dX12_image_166 : decode cX12_image 166 = .ok (.aload_n 0, 1) := by decide +kernel
theorem dX12_image_167 : decode cX12_image 167 = .ok (.getfield 191, 3) := by decide +kernel
theorem dX12_image_170 : decode cX12_image 170 = .ok (.iload_n 1, 1) := by decide +kernel
theorem dX12_image_171 : decode cX12_image 171 = .ok (.aload_n 0, 1) := by decide +kernel
theorem dX12_image_172 : decode cX12_image 172 = .ok (.getfield 32, 3) := by decide +kernel
theorem dX12_image_175 : decode cX12_image 175 = .ok (.iload_n 1, 1) := by decide +kernel
theorem dX12_image_176 : decode cX12_image 176 = .ok (.iaload, 1) := by decide +kernel
theorem dX12_image_177 : decode cX12_image 177 = .ok (.iastore, 1) := by decide +kernel
theorem dX12_image_178 : decode cX12_image 178 = .ok (.aload_n 0, 1) := by decide +kernel
theorem dX12_image_179 : decode cX12_image 179 = .ok (.getfield 194, 3) := by decide +kernel
theorem dX12_image_182 : decode cX12_image 182 = .ok (.iload_n 1, 1) := by decide +kernel
theorem dX12_image_183 : decode cX12_image 183 = .ok (.aload_n 0, 1) := by decide +kernel
theorem dX12_image_184 : decode cX12_image 184 = .ok (.getfield 35, 3) := by decide +kernel
theorem dX12_image_187 : decode cX12_image 187 = .ok (.iload_n 1, 1) := by decide +kernel
theorem dX12_image_188 : decode cX12_image 188 = .ok (.iaload, 1) := by decide +kernel
theorem dX12_image_189 : decode cX12_image 189 = .ok (.iastore, 1) := by decide +kernel
theorem dX12_image_190 : decode cX12_image 190 = .ok (.iinc 1 1, 3) := by decide +kernel
theorem dX12_image_193 : decode cX12_image 193 = .ok (.goto (-69), 3) := by decide +kernel
theorem dX12_image_196 : decode cX12_image 196 = .ok (.iconst 0, 1) := by decide +kernel
theorem dX12_image_197 : decode cX12_image 197 = .ok (.istore_n 1, 1) := by decide +kernel
theorem dX12_image_198 : decode cX12_image 198 = .ok (.iload_n 1, 1) := by decide +kernel
theorem dX12_image_199 : decode cX12_image 199 = .ok (.bipush 24, 2) := by decide +kernel
theorem dX12_image_201 : decode cX12_image 201 = .ok (.if_icmp .ge 21, 3) := by decide +kernel
theorem dX12_image_204 : decode cX12_image 204 = .ok (.aload_n 0, 1) := by decide +kernel
theorem dX12_image_205 : decode cX12_image 205 = .ok (.getfield 197, 3) := by decide +kernel
theorem dX12_image_208 : decode cX12_image 208 = .ok (.iload_n 1, 1) := by decide +kernel
theorem dX12_image_209 : decode cX12_image 209 = .ok (.aload_n 0, 1) := by decide +kernel
theorem dX12_image_210 : decode cX12_image 210 = .ok (.getfield 38, 3) := by decide +kernel
theorem dX12_image_213 : decode cX12_image 213 = .ok (.iload_n 1, 1) := by decide +kernel
theorem dX12_image_214 : decode cX12_image 214 = .ok (.iaload, 1) := by decide +kernel
theorem dX12_image_215 : decode cX12_image 215 = .ok (.iastore, 1) := by decide +kernel
theorem dX12_image_216 : decode cX12_image 216 = .ok (.iinc 1 1, 3) := by decide +kernel
theorem dX12_image_219 : decode cX12_image 219 = .ok (.goto (-21), 3) := by decide +kernel
theorem dX12_image_222 : decode cX12_image 222 = .ok (.iconst 0, 1) := by decide +kernel
theorem dX12_image_223 : decode cX12_image 223 = .ok (.istore_n 1, 1) := by decide +kernel
theorem dX12_image_224 : decode cX12_image 224 = .ok (.iload_n 1, 1) := by decide +kernel
theorem dX12_image_225 : decode cX12_image 225 = .ok (.bipush 10, 2) := by decide +kernel
theorem dX12_image_227 : decode cX12_image 227 = .ok (.if_icmp .ge 33, 3) := by decide +kernel
theorem dX12_image_230 : decode cX12_image 230 = .ok (.aload_n 0, 1) := by decide +kernel
theorem dX12_image_231 : decode cX12_image 231 = .ok (.getfield 209, 3) := by decide +kernel
theorem dX12_image_234 : decode cX12_image 234 = .ok (.iload_n 1, 1) := by decide +kernel
theorem dX12_image_235 : decode cX12_image 235 = .ok (.aload_n 0, 1) := by decide +kernel
theorem dX12_image_236 : decode cX12_image 236 = .ok (.getfield 142, 3) := by decide +kernel
theorem dX12_image_239 : decode cX12_image 239 = .ok (.iload_n 1, 1) := by decide +kernel
theorem dX12_image_240 : decode cX12_image 240 = .ok (.iaload, 1) := by decide +kernel
theorem dX12_image_241 : decode cX12_image 241 = .ok (.iastore, 1) := by decide +kernel
theorem dX12_image_242 : decode cX12_image 242 = .ok (.aload_n 0, 1) := by decide +kernel
theorem dX12_image_243 : decode cX12_image 243 = .ok (.getfield 212, 3) := by decide +kernel
theorem dX12_image_246 : decode cX12_image 246 = .ok (.iload_n 1, 1) := by decide +kernel
theorem dX12_image_247 : decode cX12_image 247 = .ok (.aload_n 0, 1) := by decide +kernel
theorem dX12_image_248 : decode cX12_image 248 = .ok (.getfield 145, 3) := by decide +kernel
theorem dX12_image_251 : decode cX12_image 251 = .ok (.iload_n 1, 1) := by decide +kernel
theorem dX12_image_252 : decode cX12_image 252 = .ok (.iaload, 1) := by decide +kernel
theorem dX12_image_253 : decode cX12_image 253 = .ok (.iastore, 1) := by decide +kernel
theorem dX12_image_254 : decode cX12_image 254 = .ok (.iinc 1 1, 3) := by decide +kernel
theorem dX12_image_257 : decode cX12_image 257 = .ok (.goto (-33), 3) := by decide +kernel
theorem dX12_image_260 : decode cX12_image 260 = .ok (.iconst 0, 1) := by decide +kernel
theorem dX12_image_261 : decode cX12_image 261 = .ok (.istore_n 1, 1) := by decide +kernel
theorem dX12_image_262 : decode cX12_image 262 = .ok (.iload_n 1, 1) := by decide +kernel
theorem dX12_image_263 : decode cX12_image 263 = .ok (.bipush 8, 2) := by decide +kernel
theorem dX12_image_265 : decode cX12_image 265 = .ok (.if_icmp .ge 33, 3) := by decide +kernel
theorem dX12_image_268 : decode cX12_image 268 = .ok (.aload_n 0, 1) := by decide +kernel
theorem dX12_image_269 : decode cX12_image 269 = .ok (.getfield 215, 3) := by decide +kernel
theorem dX12_image_272 : decode cX12_image 272 = .ok (.iload_n 1, 1) := by decide +kernel
theorem dX12_image_273 : decode cX12_image 273 = .ok (.aload_n 0, 1) := by decide +kernel
theorem dX12_image_274 : decode cX12_image 274 = .ok (.getfield 148, 3) := by decide +kernel
theorem dX12_image_277 : decode cX12_image 277 = .ok (.iload_n 1, 1) := by decide +kernel
theorem dX12_image_278 : decode cX12_image 278 = .ok (.iaload, 1) := by decide +kernel
theorem dX12_image_279 : decode cX12_image 279 = .ok (.iastore, 1) := by decide +kernel
theorem dX12_image_280 : decode cX12_image 280 = .ok (.aload_n 0, 1) := by decide +kernel
theorem dX12_image_281 : decode cX12_image 281 = .ok (.getfield 218, 3) := by decide +kernel
theorem dX12_image_284 : decode cX12_image 284 = .ok (.iload_n 1, 1) := by decide +kernel
theorem dX12_image_285 : decode cX12_image 285 = .ok (.aload_n 0, 1) := by decide +kernel
theorem dX12_image_286 : decode cX12_image 286 = .ok (.getfield 151, 3) := by decide +kernel
theorem dX12_image_289 : decode cX12_image 289 = .ok (.iload_n 1, 1) := by decide +kernel
theorem dX12_image_290 : decode cX12_image 290 = .ok (.iaload, 1) := by decide +kernel
theorem dX12_image_291 : decode cX12_image 291 = .ok (.iastore, 1) := by decide +kernel
theorem dX12_image_292 : decode cX12_image 292 = .ok (.iinc 1 1, 3) := by decide +kernel
theorem dX12_image_295 : decode cX12_image 295 = .ok (.goto (-33), 3) := by decide +kernel
theorem dX12_image_298 : decode cX12_image 298 = .ok (.aload_n 0, 1) := by decide +kernel
theorem dX12_image_299 : decode cX12_image 299 = .ok (.getfield 7, 3) := by decide +kernel
theorem dX12_image_302 : decode cX12_image 302 = .ok (.ireturn, 1) := by decide +kernel
noncomputable def C_X12_image : List (Nat × qOp) := [(0, qo_aload 0 1),
  (1, qo_ci 1 1),
  (2, qo_putZ 12 47),
  (5, qo_aload 0 1),
  (6, qo_aload 0 1),
  (7, qo_getI 12 11),
  (10, qo_putI 12 48),
  (13, qo_aload 0 1),
  (14, qo_aload 0 1),
  (15, qo_getI 12 0),
  (18, qo_putI 12 49),
  (21, qo_aload 0 1),
  (22, qo_aload 0 1),
  (23, qo_getI 12 1),
  (26, qo_putI 12 50),
  (29, qo_aload 0 1),
  (30, qo_aload 0 1),
  (31, qo_getI 12 2),
  (34, qo_putI 12 51),
  (37, qo_aload 0 1),
  (38, qo_aload 0 1),
  (39, qo_getI 12 37),
  (42, qo_putI 12 52),
  (45, qo_aload 0 1),
  (46, qo_aload 0 1),
  (47, qo_getI 12 41),
  (50, qo_putI 12 53),
  (53, qo_aload 0 1),
  (54, qo_aload 0 1),
  (55, qo_getI 12 42),
  (58, qo_putI 12 54),
  (61, qo_ci 0 1),
  (62, qo_istore 1 1),
  (63, qo_iload 1 1),
  (64, qo_ci 5 1),
  (65, qo_icge 122),
  (68, qo_aload 0 1),
  (69, qo_getR 12 55),
  (72, qo_iload 1 1),
  (73, qo_aload 0 1),
  (74, qo_getR 12 3),
  (77, qo_iload 1 1),
  (78, qo_iaload),
  (79, qo_iastore),
  (80, qo_aload 0 1),
  (81, qo_getR 12 62),
  (84, qo_iload 1 1),
  (85, qo_aload 0 1),
  (86, qo_getR 12 38),
  (89, qo_iload 1 1),
  (90, qo_iaload),
  (91, qo_iastore),
  (92, qo_aload 0 1),
  (93, qo_getR 12 63),
  (96, qo_iload 1 1),
  (97, qo_aload 0 1),
  (98, qo_getR 12 39),
  (101, qo_iload 1 1),
  (102, qo_iaload),
  (103, qo_iastore),
  (104, qo_aload 0 1),
  (105, qo_getR 12 64),
  (108, qo_iload 1 1),
  (109, qo_aload 0 1),
  (110, qo_getR 12 40),
  (113, qo_iload 1 1),
  (114, qo_iaload),
  (115, qo_iastore),
  (116, qo_iinc 1 1),
  (119, qo_goto 63),
  (122, qo_ci 0 1),
  (123, qo_istore 1 1),
  (124, qo_iload 1 1),
  (125, qo_ci 6 2),
  (127, qo_icge 196),
  (130, qo_aload 0 1),
  (131, qo_getR 12 56),
  (134, qo_iload 1 1),
  (135, qo_aload 0 1),
  (136, qo_getR 12 4),
  (139, qo_iload 1 1),
  (140, qo_iaload),
  (141, qo_iastore),
  (142, qo_aload 0 1),
  (143, qo_getR 12 57),
  (146, qo_iload 1 1),
  (147, qo_aload 0 1),
  (148, qo_getR 12 5),
  (151, qo_iload 1 1),
  (152, qo_iaload),
  (153, qo_iastore),
  (154, qo_aload 0 1),
  (155, qo_getR 12 58),
  (158, qo_iload 1 1),
  (159, qo_aload 0 1),
  (160, qo_getR 12 6),
  (163, qo_iload 1 1),
  (164, qo_iaload),
  (165, qo_iastore),
  (166, qo_aload 0 1),
  (167, qo_getR 12 59),
  (170, qo_iload 1 1),
  (171, qo_aload 0 1),
  (172, qo_getR 12 7),
  (175, qo_iload 1 1),
  (176, qo_iaload),
  (177, qo_iastore),
  (178, qo_aload 0 1),
  (179, qo_getR 12 60),
  (182, qo_iload 1 1),
  (183, qo_aload 0 1),
  (184, qo_getR 12 8),
  (187, qo_iload 1 1),
  (188, qo_iaload),
  (189, qo_iastore),
  (190, qo_iinc 1 1),
  (193, qo_goto 124),
  (196, qo_ci 0 1),
  (197, qo_istore 1 1),
  (198, qo_iload 1 1),
  (199, qo_ci 24 2),
  (201, qo_icge 222),
  (204, qo_aload 0 1),
  (205, qo_getR 12 61),
  (208, qo_iload 1 1),
  (209, qo_aload 0 1),
  (210, qo_getR 12 9),
  (213, qo_iload 1 1),
  (214, qo_iaload),
  (215, qo_iastore),
  (216, qo_iinc 1 1),
  (219, qo_goto 198),
  (222, qo_ci 0 1),
  (223, qo_istore 1 1),
  (224, qo_iload 1 1),
  (225, qo_ci 10 2),
  (227, qo_icge 260),
  (230, qo_aload 0 1),
  (231, qo_getR 12 65),
  (234, qo_iload 1 1),
  (235, qo_aload 0 1),
  (236, qo_getR 12 43),
  (239, qo_iload 1 1),
  (240, qo_iaload),
  (241, qo_iastore),
  (242, qo_aload 0 1),
  (243, qo_getR 12 66),
  (246, qo_iload 1 1),
  (247, qo_aload 0 1),
  (248, qo_getR 12 44),
  (251, qo_iload 1 1),
  (252, qo_iaload),
  (253, qo_iastore),
  (254, qo_iinc 1 1),
  (257, qo_goto 224),
  (260, qo_ci 0 1),
  (261, qo_istore 1 1),
  (262, qo_iload 1 1),
  (263, qo_ci 8 2),
  (265, qo_icge 298),
  (268, qo_aload 0 1),
  (269, qo_getR 12 67),
  (272, qo_iload 1 1),
  (273, qo_aload 0 1),
  (274, qo_getR 12 45),
  (277, qo_iload 1 1),
  (278, qo_iaload),
  (279, qo_iastore),
  (280, qo_aload 0 1),
  (281, qo_getR 12 68),
  (284, qo_iload 1 1),
  (285, qo_aload 0 1),
  (286, qo_getR 12 46),
  (289, qo_iload 1 1),
  (290, qo_iaload),
  (291, qo_iastore),
  (292, qo_iinc 1 1),
  (295, qo_goto 262),
  (298, qo_aload 0 1),
  (299, qo_getI 12 0),
  (302, qo_ret (some .int) 1)]
noncomputable def S_X12_image : qSem := qM 2 C_X12_image
set_option maxRecDepth 20000 in
theorem K_X12_image {X : qX} {l : Launch} : ∀ q ∈ C_X12_image, qOk X l 1 cX12_image 2 RX12 "image" (some .int) q.1 q.2 := by
  unfold C_X12_image
  refine qcons (qk_aload_n dX12_image_0 rfl) ?_
  refine qcons (qk_iconst dX12_image_1 (by decide)) ?_
  refine qcons (qk_putZ (ty := .int) fd_X12_154 tyX12_ok nmX12 (Or.inl rfl) kd_12_47 (tyX12_ok 47 (by decide)) dX12_image_2) ?_
  refine qcons (qk_aload_n dX12_image_5 rfl) ?_
  refine qcons (qk_aload_n dX12_image_6 rfl) ?_
  refine qcons (qk_getI fd_X12_44 kd_12_11 dX12_image_7) ?_
  refine qcons (qk_putI (ty := .int) fd_X12_158 tyX12_ok nmX12 (Or.inl rfl) kd_12_48 (tyX12_ok 48 (by decide)) dX12_image_10) ?_
  refine qcons (qk_aload_n dX12_image_13 rfl) ?_
  refine qcons (qk_aload_n dX12_image_14 rfl) ?_
  refine qcons (qk_getI fd_X12_7 kd_12_0 dX12_image_15) ?_
  refine qcons (qk_putI (ty := .int) fd_X12_161 tyX12_ok nmX12 (Or.inl rfl) kd_12_49 (tyX12_ok 49 (by decide)) dX12_image_18) ?_
  refine qcons (qk_aload_n dX12_image_21 rfl) ?_
  refine qcons (qk_aload_n dX12_image_22 rfl) ?_
  refine qcons (qk_getI fd_X12_13 kd_12_1 dX12_image_23) ?_
  refine qcons (qk_putI (ty := .int) fd_X12_164 tyX12_ok nmX12 (Or.inl rfl) kd_12_50 (tyX12_ok 50 (by decide)) dX12_image_26) ?_
  refine qcons (qk_aload_n dX12_image_29 rfl) ?_
  refine qcons (qk_aload_n dX12_image_30 rfl) ?_
  refine qcons (qk_getI fd_X12_16 kd_12_2 dX12_image_31) ?_
  refine qcons (qk_putI (ty := .int) fd_X12_167 tyX12_ok nmX12 (Or.inl rfl) kd_12_51 (tyX12_ok 51 (by decide)) dX12_image_34) ?_
  refine qcons (qk_aload_n dX12_image_37 rfl) ?_
  refine qcons (qk_aload_n dX12_image_38 rfl) ?_
  refine qcons (qk_getI fd_X12_124 kd_12_37 dX12_image_39) ?_
  refine qcons (qk_putI (ty := .int) fd_X12_170 tyX12_ok nmX12 (Or.inl rfl) kd_12_52 (tyX12_ok 52 (by decide)) dX12_image_42) ?_
  refine qcons (qk_aload_n dX12_image_45 rfl) ?_
  refine qcons (qk_aload_n dX12_image_46 rfl) ?_
  refine qcons (qk_getI fd_X12_136 kd_12_41 dX12_image_47) ?_
  refine qcons (qk_putI (ty := .int) fd_X12_173 tyX12_ok nmX12 (Or.inl rfl) kd_12_53 (tyX12_ok 53 (by decide)) dX12_image_50) ?_
  refine qcons (qk_aload_n dX12_image_53 rfl) ?_
  refine qcons (qk_aload_n dX12_image_54 rfl) ?_
  refine qcons (qk_getI fd_X12_139 kd_12_42 dX12_image_55) ?_
  refine qcons (qk_putI (ty := .int) fd_X12_176 tyX12_ok nmX12 (Or.inl rfl) kd_12_54 (tyX12_ok 54 (by decide)) dX12_image_58) ?_
  refine qcons (qk_iconst dX12_image_61 (by decide)) ?_
  refine qcons (qk_istore_n dX12_image_62 rfl) ?_
  refine qcons (qk_iload_n dX12_image_63 rfl) ?_
  refine qcons (qk_iconst dX12_image_64 (by decide)) ?_
  refine qcons (qk_icge dX12_image_65 (by decide)) ?_
  refine qcons (qk_aload_n dX12_image_68 rfl) ?_
  refine qcons (qk_getR fd_X12_179 kd_12_55 dX12_image_69) ?_
  refine qcons (qk_iload_n dX12_image_72 rfl) ?_
  refine qcons (qk_aload_n dX12_image_73 rfl) ?_
  refine qcons (qk_getR fd_X12_19 kd_12_3 dX12_image_74) ?_
  refine qcons (qk_iload_n dX12_image_77 rfl) ?_
  refine qcons (qk_iaload dX12_image_78) ?_
  refine qcons (qk_iastore dX12_image_79) ?_
  refine qcons (qk_aload_n dX12_image_80 rfl) ?_
  refine qcons (qk_getR fd_X12_200 kd_12_62 dX12_image_81) ?_
  refine qcons (qk_iload_n dX12_image_84 rfl) ?_
  refine qcons (qk_aload_n dX12_image_85 rfl) ?_
  refine qcons (qk_getR fd_X12_127 kd_12_38 dX12_image_86) ?_
  refine qcons (qk_iload_n dX12_image_89 rfl) ?_
  refine qcons (qk_iaload dX12_image_90) ?_
  refine qcons (qk_iastore dX12_image_91) ?_
  refine qcons (qk_aload_n dX12_image_92 rfl) ?_
  refine qcons (qk_getR fd_X12_203 kd_12_63 dX12_image_93) ?_
  refine qcons (qk_iload_n dX12_image_96 rfl) ?_
  refine qcons (qk_aload_n dX12_image_97 rfl) ?_
  refine qcons (qk_getR fd_X12_130 kd_12_39 dX12_image_98) ?_
  refine qcons (qk_iload_n dX12_image_101 rfl) ?_
  refine qcons (qk_iaload dX12_image_102) ?_
  refine qcons (qk_iastore dX12_image_103) ?_
  refine qcons (qk_aload_n dX12_image_104 rfl) ?_
  refine qcons (qk_getR fd_X12_206 kd_12_64 dX12_image_105) ?_
  refine qcons (qk_iload_n dX12_image_108 rfl) ?_
  refine qcons (qk_aload_n dX12_image_109 rfl) ?_
  refine qcons (qk_getR fd_X12_133 kd_12_40 dX12_image_110) ?_
  refine qcons (qk_iload_n dX12_image_113 rfl) ?_
  refine qcons (qk_iaload dX12_image_114) ?_
  refine qcons (qk_iastore dX12_image_115) ?_
  refine qcons (qk_iinc dX12_image_116) ?_
  refine qcons (qk_goto dX12_image_119 (by decide)) ?_
  refine qcons (qk_iconst dX12_image_122 (by decide)) ?_
  refine qcons (qk_istore_n dX12_image_123 rfl) ?_
  refine qcons (qk_iload_n dX12_image_124 rfl) ?_
  refine qcons (qk_bipush dX12_image_125 (by decide) (by decide)) ?_
  refine qcons (qk_icge dX12_image_127 (by decide)) ?_
  refine qcons (qk_aload_n dX12_image_130 rfl) ?_
  refine qcons (qk_getR fd_X12_182 kd_12_56 dX12_image_131) ?_
  refine qcons (qk_iload_n dX12_image_134 rfl) ?_
  refine qcons (qk_aload_n dX12_image_135 rfl) ?_
  refine qcons (qk_getR fd_X12_23 kd_12_4 dX12_image_136) ?_
  refine qcons (qk_iload_n dX12_image_139 rfl) ?_
  refine qcons (qk_iaload dX12_image_140) ?_
  refine qcons (qk_iastore dX12_image_141) ?_
  refine qcons (qk_aload_n dX12_image_142 rfl) ?_
  refine qcons (qk_getR fd_X12_185 kd_12_57 dX12_image_143) ?_
  refine qcons (qk_iload_n dX12_image_146 rfl) ?_
  refine qcons (qk_aload_n dX12_image_147 rfl) ?_
  refine qcons (qk_getR fd_X12_26 kd_12_5 dX12_image_148) ?_
  refine qcons (qk_iload_n dX12_image_151 rfl) ?_
  refine qcons (qk_iaload dX12_image_152) ?_
  refine qcons (qk_iastore dX12_image_153) ?_
  refine qcons (qk_aload_n dX12_image_154 rfl) ?_
  refine qcons (qk_getR fd_X12_188 kd_12_58 dX12_image_155) ?_
  refine qcons (qk_iload_n dX12_image_158 rfl) ?_
  refine qcons (qk_aload_n dX12_image_159 rfl) ?_
  refine qcons (qk_getR fd_X12_29 kd_12_6 dX12_image_160) ?_
  refine qcons (qk_iload_n dX12_image_163 rfl) ?_
  refine qcons (qk_iaload dX12_image_164) ?_
  refine qcons (qk_iastore dX12_image_165) ?_
  refine qcons (qk_aload_n dX12_image_166 rfl) ?_
  refine qcons (qk_getR fd_X12_191 kd_12_59 dX12_image_167) ?_
  refine qcons (qk_iload_n dX12_image_170 rfl) ?_
  refine qcons (qk_aload_n dX12_image_171 rfl) ?_
  refine qcons (qk_getR fd_X12_32 kd_12_7 dX12_image_172) ?_
  refine qcons (qk_iload_n dX12_image_175 rfl) ?_
  refine qcons (qk_iaload dX12_image_176) ?_
  refine qcons (qk_iastore dX12_image_177) ?_
  refine qcons (qk_aload_n dX12_image_178 rfl) ?_
  refine qcons (qk_getR fd_X12_194 kd_12_60 dX12_image_179) ?_
  refine qcons (qk_iload_n dX12_image_182 rfl) ?_
  refine qcons (qk_aload_n dX12_image_183 rfl) ?_
  refine qcons (qk_getR fd_X12_35 kd_12_8 dX12_image_184) ?_
  refine qcons (qk_iload_n dX12_image_187 rfl) ?_
  refine qcons (qk_iaload dX12_image_188) ?_
  refine qcons (qk_iastore dX12_image_189) ?_
  refine qcons (qk_iinc dX12_image_190) ?_
  refine qcons (qk_goto dX12_image_193 (by decide)) ?_
  refine qcons (qk_iconst dX12_image_196 (by decide)) ?_
  refine qcons (qk_istore_n dX12_image_197 rfl) ?_
  refine qcons (qk_iload_n dX12_image_198 rfl) ?_
  refine qcons (qk_bipush dX12_image_199 (by decide) (by decide)) ?_
  refine qcons (qk_icge dX12_image_201 (by decide)) ?_
  refine qcons (qk_aload_n dX12_image_204 rfl) ?_
  refine qcons (qk_getR fd_X12_197 kd_12_61 dX12_image_205) ?_
  refine qcons (qk_iload_n dX12_image_208 rfl) ?_
  refine qcons (qk_aload_n dX12_image_209 rfl) ?_
  refine qcons (qk_getR fd_X12_38 kd_12_9 dX12_image_210) ?_
  refine qcons (qk_iload_n dX12_image_213 rfl) ?_
  refine qcons (qk_iaload dX12_image_214) ?_
  refine qcons (qk_iastore dX12_image_215) ?_
  refine qcons (qk_iinc dX12_image_216) ?_
  refine qcons (qk_goto dX12_image_219 (by decide)) ?_
  refine qcons (qk_iconst dX12_image_222 (by decide)) ?_
  refine qcons (qk_istore_n dX12_image_223 rfl) ?_
  refine qcons (qk_iload_n dX12_image_224 rfl) ?_
  refine qcons (qk_bipush dX12_image_225 (by decide) (by decide)) ?_
  refine qcons (qk_icge dX12_image_227 (by decide)) ?_
  refine qcons (qk_aload_n dX12_image_230 rfl) ?_
  refine qcons (qk_getR fd_X12_209 kd_12_65 dX12_image_231) ?_
  refine qcons (qk_iload_n dX12_image_234 rfl) ?_
  refine qcons (qk_aload_n dX12_image_235 rfl) ?_
  refine qcons (qk_getR fd_X12_142 kd_12_43 dX12_image_236) ?_
  refine qcons (qk_iload_n dX12_image_239 rfl) ?_
  refine qcons (qk_iaload dX12_image_240) ?_
  refine qcons (qk_iastore dX12_image_241) ?_
  refine qcons (qk_aload_n dX12_image_242 rfl) ?_
  refine qcons (qk_getR fd_X12_212 kd_12_66 dX12_image_243) ?_
  refine qcons (qk_iload_n dX12_image_246 rfl) ?_
  refine qcons (qk_aload_n dX12_image_247 rfl) ?_
  refine qcons (qk_getR fd_X12_145 kd_12_44 dX12_image_248) ?_
  refine qcons (qk_iload_n dX12_image_251 rfl) ?_
  refine qcons (qk_iaload dX12_image_252) ?_
  refine qcons (qk_iastore dX12_image_253) ?_
  refine qcons (qk_iinc dX12_image_254) ?_
  refine qcons (qk_goto dX12_image_257 (by decide)) ?_
  refine qcons (qk_iconst dX12_image_260 (by decide)) ?_
  refine qcons (qk_istore_n dX12_image_261 rfl) ?_
  refine qcons (qk_iload_n dX12_image_262 rfl) ?_
  refine qcons (qk_bipush dX12_image_263 (by decide) (by decide)) ?_
  refine qcons (qk_icge dX12_image_265 (by decide)) ?_
  refine qcons (qk_aload_n dX12_image_268 rfl) ?_
  refine qcons (qk_getR fd_X12_215 kd_12_67 dX12_image_269) ?_
  refine qcons (qk_iload_n dX12_image_272 rfl) ?_
  refine qcons (qk_aload_n dX12_image_273 rfl) ?_
  refine qcons (qk_getR fd_X12_148 kd_12_45 dX12_image_274) ?_
  refine qcons (qk_iload_n dX12_image_277 rfl) ?_
  refine qcons (qk_iaload dX12_image_278) ?_
  refine qcons (qk_iastore dX12_image_279) ?_
  refine qcons (qk_aload_n dX12_image_280 rfl) ?_
  refine qcons (qk_getR fd_X12_218 kd_12_68 dX12_image_281) ?_
  refine qcons (qk_iload_n dX12_image_284 rfl) ?_
  refine qcons (qk_aload_n dX12_image_285 rfl) ?_
  refine qcons (qk_getR fd_X12_151 kd_12_46 dX12_image_286) ?_
  refine qcons (qk_iload_n dX12_image_289 rfl) ?_
  refine qcons (qk_iaload dX12_image_290) ?_
  refine qcons (qk_iastore dX12_image_291) ?_
  refine qcons (qk_iinc dX12_image_292) ?_
  refine qcons (qk_goto dX12_image_295 (by decide)) ?_
  refine qcons (qk_aload_n dX12_image_298 rfl) ?_
  refine qcons (qk_getI fd_X12_7 kd_12_0 dX12_image_299) ?_
  refine qcons (qk_ret dX12_image_302 (Or.inr (Or.inl ⟨rfl, rfl⟩))) ?_
  exact qnil
theorem M_X12_image {X : qX} {l : Launch} : qMet X l 1 yX12_image cX12_image 2 (some .int) S_X12_image := qmet_of K_X12_image (by decide) rfl rfl
theorem dX12_undo_0 : decode cX12_undo 0 = .ok (.aload_n 0, 1) := by decide +kernel
theorem dX12_undo_1 : decode cX12_undo 1 = .ok (.getfield 154, 3) := by decide +kernel
theorem dX12_undo_4 : decode cX12_undo 4 = .ok (.ifCond .ne 6, 3) := by decide +kernel
theorem dX12_undo_7 : decode cX12_undo 7 = .ok (.bipush (-3), 2) := by decide +kernel
theorem dX12_undo_9 : decode cX12_undo 9 = .ok (.ireturn, 1) := by decide +kernel
theorem dX12_undo_10 : decode cX12_undo 10 = .ok (.aload_n 0, 1) := by decide +kernel
theorem dX12_undo_11 : decode cX12_undo 11 = .ok (.aload_n 0, 1) := by decide +kernel
theorem dX12_undo_12 : decode cX12_undo 12 = .ok (.getfield 158, 3) := by decide +kernel
theorem dX12_undo_15 : decode cX12_undo 15 = .ok (.putfield 44, 3) := by decide +kernel
theorem dX12_undo_18 : decode cX12_undo 18 = .ok (.aload_n 0, 1) := by decide +kernel
theorem dX12_undo_19 : decode cX12_undo 19 = .ok (.aload_n 0, 1) := by decide +kernel
theorem dX12_undo_20 : decode cX12_undo 20 = .ok (.getfield 161, 3) := by decide +kernel
theorem dX12_undo_23 : decode cX12_undo 23 = .ok (.putfield 7, 3) := by decide +kernel
theorem dX12_undo_26 : decode cX12_undo 26 = .ok (.aload_n 0, 1) := by decide +kernel
theorem dX12_undo_27 : decode cX12_undo 27 = .ok (.aload_n 0, 1) := by decide +kernel
theorem dX12_undo_28 : decode cX12_undo 28 = .ok (.getfield 164, 3) := by decide +kernel
theorem dX12_undo_31 : decode cX12_undo 31 = .ok (.putfield 13, 3) := by decide +kernel
theorem dX12_undo_34 : decode cX12_undo 34 = .ok (.aload_n 0, 1) := by decide +kernel
theorem dX12_undo_35 : decode cX12_undo 35 = .ok (.aload_n 0, 1) := by decide +kernel
theorem dX12_undo_36 : decode cX12_undo 36 = .ok (.getfield 167, 3) := by decide +kernel
theorem dX12_undo_39 : decode cX12_undo 39 = .ok (.putfield 16, 3) := by decide +kernel
theorem dX12_undo_42 : decode cX12_undo 42 = .ok (.aload_n 0, 1) := by decide +kernel
theorem dX12_undo_43 : decode cX12_undo 43 = .ok (.aload_n 0, 1) := by decide +kernel
theorem dX12_undo_44 : decode cX12_undo 44 = .ok (.getfield 170, 3) := by decide +kernel
theorem dX12_undo_47 : decode cX12_undo 47 = .ok (.putfield 124, 3) := by decide +kernel
theorem dX12_undo_50 : decode cX12_undo 50 = .ok (.aload_n 0, 1) := by decide +kernel
theorem dX12_undo_51 : decode cX12_undo 51 = .ok (.aload_n 0, 1) := by decide +kernel
theorem dX12_undo_52 : decode cX12_undo 52 = .ok (.getfield 173, 3) := by decide +kernel
theorem dX12_undo_55 : decode cX12_undo 55 = .ok (.putfield 136, 3) := by decide +kernel
theorem dX12_undo_58 : decode cX12_undo 58 = .ok (.aload_n 0, 1) := by decide +kernel
theorem dX12_undo_59 : decode cX12_undo 59 = .ok (.aload_n 0, 1) := by decide +kernel
theorem dX12_undo_60 : decode cX12_undo 60 = .ok (.getfield 176, 3) := by decide +kernel
theorem dX12_undo_63 : decode cX12_undo 63 = .ok (.putfield 139, 3) := by decide +kernel
theorem dX12_undo_66 : decode cX12_undo 66 = .ok (.iconst 0, 1) := by decide +kernel
theorem dX12_undo_67 : decode cX12_undo 67 = .ok (.istore_n 1, 1) := by decide +kernel
theorem dX12_undo_68 : decode cX12_undo 68 = .ok (.iload_n 1, 1) := by decide +kernel
theorem dX12_undo_69 : decode cX12_undo 69 = .ok (.iconst 5, 1) := by decide +kernel
theorem dX12_undo_70 : decode cX12_undo 70 = .ok (.if_icmp .ge 57, 3) := by decide +kernel
theorem dX12_undo_73 : decode cX12_undo 73 = .ok (.aload_n 0, 1) := by decide +kernel
theorem dX12_undo_74 : decode cX12_undo 74 = .ok (.getfield 19, 3) := by decide +kernel
theorem dX12_undo_77 : decode cX12_undo 77 = .ok (.iload_n 1, 1) := by decide +kernel
theorem dX12_undo_78 : decode cX12_undo 78 = .ok (.aload_n 0, 1) := by decide +kernel
theorem dX12_undo_79 : decode cX12_undo 79 = .ok (.getfield 179, 3) := by decide +kernel
theorem dX12_undo_82 : decode cX12_undo 82 = .ok (.iload_n 1, 1) := by decide +kernel
theorem dX12_undo_83 : decode cX12_undo 83 = .ok (.iaload, 1) := by decide +kernel
theorem dX12_undo_84 : decode cX12_undo 84 = .ok (.iastore, 1) := by decide +kernel
theorem dX12_undo_85 : decode cX12_undo 85 = .ok (.aload_n 0, 1) := by decide +kernel
theorem dX12_undo_86 : decode cX12_undo 86 = .ok (.getfield 127, 3) := by decide +kernel
theorem dX12_undo_89 : decode cX12_undo 89 = .ok (.iload_n 1, 1) := by decide +kernel
theorem dX12_undo_90 : decode cX12_undo 90 = .ok (.aload_n 0, 1) := by decide +kernel
theorem dX12_undo_91 : decode cX12_undo 91 = .ok (.getfield 200, 3) := by decide +kernel
theorem dX12_undo_94 : decode cX12_undo 94 = .ok (.iload_n 1, 1) := by decide +kernel
theorem dX12_undo_95 : decode cX12_undo 95 = .ok (.iaload, 1) := by decide +kernel
theorem dX12_undo_96 : decode cX12_undo 96 = .ok (.iastore, 1) := by decide +kernel
theorem dX12_undo_97 : decode cX12_undo 97 = .ok (.aload_n 0, 1) := by decide +kernel
theorem dX12_undo_98 : decode cX12_undo 98 = .ok (.getfield 130, 3) := by decide +kernel
theorem dX12_undo_101 : decode cX12_undo 101 = .ok (.iload_n 1, 1) := by decide +kernel
theorem dX12_undo_102 : decode cX12_undo 102 = .ok (.aload_n 0, 1) := by decide +kernel
theorem dX12_undo_103 : decode cX12_undo 103 = .ok (.getfield 203, 3) := by decide +kernel
theorem dX12_undo_106 : decode cX12_undo 106 = .ok (.iload_n 1, 1) := by decide +kernel
theorem dX12_undo_107 : decode cX12_undo 107 = .ok (.iaload, 1) := by decide +kernel
theorem dX12_undo_108 : decode cX12_undo 108 = .ok (.iastore, 1) := by decide +kernel
theorem dX12_undo_109 : decode cX12_undo 109 = .ok (.aload_n 0, 1) := by decide +kernel
theorem dX12_undo_110 : decode cX12_undo 110 = .ok (.getfield 133, 3) := by decide +kernel
theorem dX12_undo_113 : decode cX12_undo 113 = .ok (.iload_n 1, 1) := by decide +kernel
theorem dX12_undo_114 : decode cX12_undo 114 = .ok (.aload_n 0, 1) := by decide +kernel
theorem dX12_undo_115 : decode cX12_undo 115 = .ok (.getfield 206, 3) := by decide +kernel
theorem dX12_undo_118 : decode cX12_undo 118 = .ok (.iload_n 1, 1) := by decide +kernel
theorem dX12_undo_119 : decode cX12_undo 119 = .ok (.iaload, 1) := by decide +kernel
theorem dX12_undo_120 : decode cX12_undo 120 = .ok (.iastore, 1) := by decide +kernel
theorem dX12_undo_121 : decode cX12_undo 121 = .ok (.iinc 1 1, 3) := by decide +kernel
theorem dX12_undo_124 : decode cX12_undo 124 = .ok (.goto (-56), 3) := by decide +kernel
theorem dX12_undo_127 : decode cX12_undo 127 = .ok (.iconst 0, 1) := by decide +kernel
theorem dX12_undo_128 : decode cX12_undo 128 = .ok (.istore_n 1, 1) := by decide +kernel
theorem dX12_undo_129 : decode cX12_undo 129 = .ok (.iload_n 1, 1) := by decide +kernel
theorem dX12_undo_130 : decode cX12_undo 130 = .ok (.bipush 6, 2) := by decide +kernel
theorem dX12_undo_132 : decode cX12_undo 132 = .ok (.if_icmp .ge 69, 3) := by decide +kernel
theorem dX12_undo_135 : decode cX12_undo 135 = .ok (.aload_n 0, 1) := by decide +kernel
theorem dX12_undo_136 : decode cX12_undo 136 = .ok (.getfield 23, 3) := by decide +kernel
theorem dX12_undo_139 : decode cX12_undo 139 = .ok (.iload_n 1, 1) := by decide +kernel
theorem dX12_undo_140 : decode cX12_undo 140 = .ok (.aload_n 0, 1) := by decide +kernel
theorem dX12_undo_141 : decode cX12_undo 141 = .ok (.getfield 182, 3) := by decide +kernel
theorem dX12_undo_144 : decode cX12_undo 144 = .ok (.iload_n 1, 1) := by decide +kernel
theorem dX12_undo_145 : decode cX12_undo 145 = .ok (.iaload, 1) := by decide +kernel
theorem dX12_undo_146 : decode cX12_undo 146 = .ok (.iastore, 1) := by decide +kernel
theorem dX12_undo_147 : decode cX12_undo 147 = .ok (.aload_n 0, 1) := by decide +kernel
theorem dX12_undo_148 : decode cX12_undo 148 = .ok (.getfield 26, 3) := by decide +kernel
theorem dX12_undo_151 : decode cX12_undo 151 = .ok (.iload_n 1, 1) := by decide +kernel
theorem dX12_undo_152 : decode cX12_undo 152 = .ok (.aload_n 0, 1) := by decide +kernel
theorem dX12_undo_153 : decode cX12_undo 153 = .ok (.getfield 185, 3) := by decide +kernel
theorem dX12_undo_156 : decode cX12_undo 156 = .ok (.iload_n 1, 1) := by decide +kernel
theorem dX12_undo_157 : decode cX12_undo 157 = .ok (.iaload, 1) := by decide +kernel
theorem dX12_undo_158 : decode cX12_undo 158 = .ok (.iastore, 1) := by decide +kernel
theorem dX12_undo_159 : decode cX12_undo 159 = .ok (.aload_n 0, 1) := by decide +kernel
theorem dX12_undo_160 : decode cX12_undo 160 = .ok (.getfield 29, 3) := by decide +kernel
theorem dX12_undo_163 : decode cX12_undo 163 = .ok (.iload_n 1, 1) := by decide +kernel
theorem dX12_undo_164 : decode cX12_undo 164 = .ok (.aload_n 0, 1) := by decide +kernel
theorem dX12_undo_165 : decode cX12_undo 165 = .ok (.getfield 188, 3) := by decide +kernel
theorem dX12_undo_168 : decode cX12_undo 168 = .ok (.iload_n 1, 1) := by decide +kernel
theorem dX12_undo_169 : decode cX12_undo 169 = .ok (.iaload, 1) := by decide +kernel
theorem dX12_undo_170 : decode cX12_undo 170 = .ok (.iastore, 1) := by decide +kernel
theorem dX12_undo_171 : decode cX12_undo 171 = .ok (.aload_n 0, 1) := by decide +kernel
theorem dX12_undo_172 : decode cX12_undo 172 = .ok (.getfield 32, 3) := by decide +kernel
theorem dX12_undo_175 : decode cX12_undo 175 = .ok (.iload_n 1, 1) := by decide +kernel
theorem dX12_undo_176 : decode cX12_undo 176 = .ok (.aload_n 0, 1) := by decide +kernel
theorem dX12_undo_177 : decode cX12_undo 177 = .ok (.getfield 191, 3) := by decide +kernel
theorem dX12_undo_180 : decode cX12_undo 180 = .ok (.iload_n 1, 1) := by decide +kernel
theorem dX12_undo_181 : decode cX12_undo 181 = .ok (.iaload, 1) := by decide +kernel
theorem dX12_undo_182 : decode cX12_undo 182 = .ok (.iastore, 1) := by decide +kernel
theorem dX12_undo_183 : decode cX12_undo 183 = .ok (.aload_n 0, 1) := by decide +kernel
theorem dX12_undo_184 : decode cX12_undo 184 = .ok (.getfield 35, 3) := by decide +kernel
theorem dX12_undo_187 : decode cX12_undo 187 = .ok (.iload_n 1, 1) := by decide +kernel
theorem dX12_undo_188 : decode cX12_undo 188 = .ok (.aload_n 0, 1) := by decide +kernel
theorem dX12_undo_189 : decode cX12_undo 189 = .ok (.getfield 194, 3) := by decide +kernel
theorem dX12_undo_192 : decode cX12_undo 192 = .ok (.iload_n 1, 1) := by decide +kernel
theorem dX12_undo_193 : decode cX12_undo 193 = .ok (.iaload, 1) := by decide +kernel
theorem dX12_undo_194 : decode cX12_undo 194 = .ok (.iastore, 1) := by decide +kernel
theorem dX12_undo_195 : decode cX12_undo 195 = .ok (.iinc 1 1, 3) := by decide +kernel
theorem dX12_undo_198 : decode cX12_undo 198 = .ok (.goto (-69), 3) := by decide +kernel
theorem dX12_undo_201 : decode cX12_undo 201 = .ok (.iconst 0, 1) := by decide +kernel
theorem dX12_undo_202 : decode cX12_undo 202 = .ok (.istore_n 1, 1) := by decide +kernel
theorem dX12_undo_203 : decode cX12_undo 203 = .ok (.iload_n 1, 1) := by decide +kernel
theorem dX12_undo_204 : decode cX12_undo 204 = .ok (.bipush 24, 2) := by decide +kernel
theorem dX12_undo_206 : decode cX12_undo 206 = .ok (.if_icmp .ge 21, 3) := by decide +kernel
theorem dX12_undo_209 : decode cX12_undo 209 = .ok (.aload_n 0, 1) := by decide +kernel
theorem dX12_undo_210 : decode cX12_undo 210 = .ok (.getfield 38, 3) := by decide +kernel
theorem dX12_undo_213 : decode cX12_undo 213 = .ok (.iload_n 1, 1) := by decide +kernel
theorem dX12_undo_214 : decode cX12_undo 214 = .ok (.aload_n 0, 1) := by decide +kernel
theorem dX12_undo_215 : decode cX12_undo 215 = .ok (.getfield 197, 3) := by decide +kernel
theorem dX12_undo_218 : decode cX12_undo 218 = .ok (.iload_n 1, 1) := by decide +kernel
theorem dX12_undo_219 : decode cX12_undo 219 = .ok (.iaload, 1) := by decide +kernel
theorem dX12_undo_220 : decode cX12_undo 220 = .ok (.iastore, 1) := by decide +kernel
theorem dX12_undo_221 : decode cX12_undo 221 = .ok (.iinc 1 1, 3) := by decide +kernel
theorem dX12_undo_224 : decode cX12_undo 224 = .ok (.goto (-21), 3) := by decide +kernel
theorem dX12_undo_227 : decode cX12_undo 227 = .ok (.iconst 0, 1) := by decide +kernel
theorem dX12_undo_228 : decode cX12_undo 228 = .ok (.istore_n 1, 1) := by decide +kernel
theorem dX12_undo_229 : decode cX12_undo 229 = .ok (.iload_n 1, 1) := by decide +kernel
theorem dX12_undo_230 : decode cX12_undo 230 = .ok (.bipush 10, 2) := by decide +kernel
theorem dX12_undo_232 : decode cX12_undo 232 = .ok (.if_icmp .ge 33, 3) := by decide +kernel
theorem dX12_undo_235 : decode cX12_undo 235 = .ok (.aload_n 0, 1) := by decide +kernel
theorem dX12_undo_236 : decode cX12_undo 236 = .ok (.getfield 142, 3) := by decide +kernel
theorem dX12_undo_239 : decode cX12_undo 239 = .ok (.iload_n 1, 1) := by decide +kernel
theorem dX12_undo_240 : decode cX12_undo 240 = .ok (.aload_n 0, 1) := by decide +kernel
theorem dX12_undo_241 : decode cX12_undo 241 = .ok (.getfield 209, 3) := by decide +kernel
theorem dX12_undo_244 : decode cX12_undo 244 = .ok (.iload_n 1, 1) := by decide +kernel
theorem dX12_undo_245 : decode cX12_undo 245 = .ok (.iaload, 1) := by decide +kernel
theorem dX12_undo_246 : decode cX12_undo 246 = .ok (.iastore, 1) := by decide +kernel
theorem dX12_undo_247 : decode cX12_undo 247 = .ok (.aload_n 0, 1) := by decide +kernel
theorem dX12_undo_248 : decode cX12_undo 248 = .ok (.getfield 145, 3) := by decide +kernel
theorem dX12_undo_251 : decode cX12_undo 251 = .ok (.iload_n 1, 1) := by decide +kernel
theorem dX12_undo_252 : decode cX12_undo 252 = .ok (.aload_n 0, 1) := by decide +kernel
theorem dX12_undo_253 : decode cX12_undo 253 = .ok (.getfield 212, 3) := by decide +kernel
theorem dX12_undo_256 : decode cX12_undo 256 = .ok (.iload_n 1, 1) := by decide +kernel
theorem dX12_undo_257 : decode cX12_undo 257 = .ok (.iaload, 1) := by decide +kernel
theorem dX12_undo_258 : decode cX12_undo 258 = .ok (.iastore, 1) := by decide +kernel
theorem dX12_undo_259 : decode cX12_undo 259 = .ok (.iinc 1 1, 3) := by decide +kernel
theorem dX12_undo_262 : decode cX12_undo 262 = .ok (.goto (-33), 3) := by decide +kernel
theorem dX12_undo_265 : decode cX12_undo 265 = .ok (.iconst 0, 1) := by decide +kernel
theorem dX12_undo_266 : decode cX12_undo 266 = .ok (.istore_n 1, 1) := by decide +kernel
theorem dX12_undo_267 : decode cX12_undo 267 = .ok (.iload_n 1, 1) := by decide +kernel
theorem dX12_undo_268 : decode cX12_undo 268 = .ok (.bipush 8, 2) := by decide +kernel
theorem dX12_undo_270 : decode cX12_undo 270 = .ok (.if_icmp .ge 33, 3) := by decide +kernel
theorem dX12_undo_273 : decode cX12_undo 273 = .ok (.aload_n 0, 1) := by decide +kernel
theorem dX12_undo_274 : decode cX12_undo 274 = .ok (.getfield 148, 3) := by decide +kernel
theorem dX12_undo_277 : decode cX12_undo 277 = .ok (.iload_n 1, 1) := by decide +kernel
theorem dX12_undo_278 : decode cX12_undo 278 = .ok (.aload_n 0, 1) := by decide +kernel
theorem dX12_undo_279 : decode cX12_undo 279 = .ok (.getfield 215, 3) := by decide +kernel
theorem dX12_undo_282 : decode cX12_undo 282 = .ok (.iload_n 1, 1) := by decide +kernel
theorem dX12_undo_283 : decode cX12_undo 283 = .ok (.iaload, 1) := by decide +kernel
theorem dX12_undo_284 : decode cX12_undo 284 = .ok (.iastore, 1) := by decide +kernel
theorem dX12_undo_285 : decode cX12_undo 285 = .ok (.aload_n 0, 1) := by decide +kernel
theorem dX12_undo_286 : decode cX12_undo 286 = .ok (.getfield 151, 3) := by decide +kernel
theorem dX12_undo_289 : decode cX12_undo 289 = .ok (.iload_n 1, 1) := by decide +kernel
theorem dX12_undo_290 : decode cX12_undo 290 = .ok (.aload_n 0, 1) := by decide +kernel
theorem dX12_undo_291 : decode cX12_undo 291 = .ok (.getfield 218, 3) := by decide +kernel
theorem dX12_undo_294 : decode cX12_undo 294 = .ok (.iload_n 1, 1) := by decide +kernel
theorem dX12_undo_295 : decode cX12_undo 295 = .ok (.iaload, 1) := by decide +kernel
theorem dX12_undo_296 : decode cX12_undo 296 = .ok (.iastore, 1) := by decide +kernel
theorem dX12_undo_297 : decode cX12_undo 297 = .ok (.iinc 1 1, 3) := by decide +kernel
theorem dX12_undo_300 : decode cX12_undo 300 = .ok (.goto (-33), 3) := by decide +kernel
theorem dX12_undo_303 : decode cX12_undo 303 = .ok (.aload_n 0, 1) := by decide +kernel
theorem dX12_undo_304 : decode cX12_undo 304 = .ok (.getfield 7, 3) := by decide +kernel
theorem dX12_undo_307 : decode cX12_undo 307 = .ok (.ireturn, 1) := by decide +kernel
noncomputable def C_X12_undo : List (Nat × qOp) := [(0, qo_aload 0 1),
  (1, qo_getI 12 47),
  (4, qo_ifne 10),
  (7, qo_ci (-3) 2),
  (9, qo_ret (some .int) 1),
  (10, qo_aload 0 1),
  (11, qo_aload 0 1),
  (12, qo_getI 12 48),
  (15, qo_putI 12 11),
  (18, qo_aload 0 1),
  (19, qo_aload 0 1),
  (20, qo_getI 12 49),
  (23, qo_putI 12 0),
  (26, qo_aload 0 1),
  (27, qo_aload 0 1),
  (28, qo_getI 12 50),
  (31, qo_putI 12 1),
  (34, qo_aload 0 1),
  (35, qo_aload 0 1),
  (36, qo_getI 12 51),
  (39, qo_putI 12 2),
  (42, qo_aload 0 1),
  (43, qo_aload 0 1),
  (44, qo_getI 12 52),
  (47, qo_putI 12 37),
  (50, qo_aload 0 1),
  (51, qo_aload 0 1),
  (52, qo_getI 12 53),
  (55, qo_putI 12 41),
  (58, qo_aload 0 1),
  (59, qo_aload 0 1),
  (60, qo_getI 12 54),
  (63, qo_putI 12 42),
  (66, qo_ci 0 1),
  (67, qo_istore 1 1),
  (68, qo_iload 1 1),
  (69, qo_ci 5 1),
  (70, qo_icge 127),
  (73, qo_aload 0 1),
  (74, qo_getR 12 3),
  (77, qo_iload 1 1),
  (78, qo_aload 0 1),
  (79, qo_getR 12 55),
  (82, qo_iload 1 1),
  (83, qo_iaload),
  (84, qo_iastore),
  (85, qo_aload 0 1),
  (86, qo_getR 12 38),
  (89, qo_iload 1 1),
  (90, qo_aload 0 1),
  (91, qo_getR 12 62),
  (94, qo_iload 1 1),
  (95, qo_iaload),
  (96, qo_iastore),
  (97, qo_aload 0 1),
  (98, qo_getR 12 39),
  (101, qo_iload 1 1),
  (102, qo_aload 0 1),
  (103, qo_getR 12 63),
  (106, qo_iload 1 1),
  (107, qo_iaload),
  (108, qo_iastore),
  (109, qo_aload 0 1),
  (110, qo_getR 12 40),
  (113, qo_iload 1 1),
  (114, qo_aload 0 1),
  (115, qo_getR 12 64),
  (118, qo_iload 1 1),
  (119, qo_iaload),
  (120, qo_iastore),
  (121, qo_iinc 1 1),
  (124, qo_goto 68),
  (127, qo_ci 0 1),
  (128, qo_istore 1 1),
  (129, qo_iload 1 1),
  (130, qo_ci 6 2),
  (132, qo_icge 201),
  (135, qo_aload 0 1),
  (136, qo_getR 12 4),
  (139, qo_iload 1 1),
  (140, qo_aload 0 1),
  (141, qo_getR 12 56),
  (144, qo_iload 1 1),
  (145, qo_iaload),
  (146, qo_iastore),
  (147, qo_aload 0 1),
  (148, qo_getR 12 5),
  (151, qo_iload 1 1),
  (152, qo_aload 0 1),
  (153, qo_getR 12 57),
  (156, qo_iload 1 1),
  (157, qo_iaload),
  (158, qo_iastore),
  (159, qo_aload 0 1),
  (160, qo_getR 12 6),
  (163, qo_iload 1 1),
  (164, qo_aload 0 1),
  (165, qo_getR 12 58),
  (168, qo_iload 1 1),
  (169, qo_iaload),
  (170, qo_iastore),
  (171, qo_aload 0 1),
  (172, qo_getR 12 7),
  (175, qo_iload 1 1),
  (176, qo_aload 0 1),
  (177, qo_getR 12 59),
  (180, qo_iload 1 1),
  (181, qo_iaload),
  (182, qo_iastore),
  (183, qo_aload 0 1),
  (184, qo_getR 12 8),
  (187, qo_iload 1 1),
  (188, qo_aload 0 1),
  (189, qo_getR 12 60),
  (192, qo_iload 1 1),
  (193, qo_iaload),
  (194, qo_iastore),
  (195, qo_iinc 1 1),
  (198, qo_goto 129),
  (201, qo_ci 0 1),
  (202, qo_istore 1 1),
  (203, qo_iload 1 1),
  (204, qo_ci 24 2),
  (206, qo_icge 227),
  (209, qo_aload 0 1),
  (210, qo_getR 12 9),
  (213, qo_iload 1 1),
  (214, qo_aload 0 1),
  (215, qo_getR 12 61),
  (218, qo_iload 1 1),
  (219, qo_iaload),
  (220, qo_iastore),
  (221, qo_iinc 1 1),
  (224, qo_goto 203),
  (227, qo_ci 0 1),
  (228, qo_istore 1 1),
  (229, qo_iload 1 1),
  (230, qo_ci 10 2),
  (232, qo_icge 265),
  (235, qo_aload 0 1),
  (236, qo_getR 12 43),
  (239, qo_iload 1 1),
  (240, qo_aload 0 1),
  (241, qo_getR 12 65),
  (244, qo_iload 1 1),
  (245, qo_iaload),
  (246, qo_iastore),
  (247, qo_aload 0 1),
  (248, qo_getR 12 44),
  (251, qo_iload 1 1),
  (252, qo_aload 0 1),
  (253, qo_getR 12 66),
  (256, qo_iload 1 1),
  (257, qo_iaload),
  (258, qo_iastore),
  (259, qo_iinc 1 1),
  (262, qo_goto 229),
  (265, qo_ci 0 1),
  (266, qo_istore 1 1),
  (267, qo_iload 1 1),
  (268, qo_ci 8 2),
  (270, qo_icge 303),
  (273, qo_aload 0 1),
  (274, qo_getR 12 45),
  (277, qo_iload 1 1),
  (278, qo_aload 0 1),
  (279, qo_getR 12 67),
  (282, qo_iload 1 1),
  (283, qo_iaload),
  (284, qo_iastore),
  (285, qo_aload 0 1),
  (286, qo_getR 12 46),
  (289, qo_iload 1 1),
  (290, qo_aload 0 1),
  (291, qo_getR 12 68),
  (294, qo_iload 1 1),
  (295, qo_iaload),
  (296, qo_iastore),
  (297, qo_iinc 1 1),
  (300, qo_goto 267),
  (303, qo_aload 0 1),
  (304, qo_getI 12 0),
  (307, qo_ret (some .int) 1)]
noncomputable def S_X12_undo : qSem := qM 2 C_X12_undo
set_option maxRecDepth 20000 in
theorem K_X12_undo {X : qX} {l : Launch} : ∀ q ∈ C_X12_undo, qOk X l 1 cX12_undo 2 RX12 "undo" (some .int) q.1 q.2 := by
  unfold C_X12_undo
  refine qcons (qk_aload_n dX12_undo_0 rfl) ?_
  refine qcons (qk_getI fd_X12_154 kd_12_47 dX12_undo_1) ?_
  refine qcons (qk_ifne dX12_undo_4 (by decide)) ?_
  refine qcons (qk_bipush dX12_undo_7 (by decide) (by decide)) ?_
  refine qcons (qk_ret dX12_undo_9 (Or.inr (Or.inl ⟨rfl, rfl⟩))) ?_
  refine qcons (qk_aload_n dX12_undo_10 rfl) ?_
  refine qcons (qk_aload_n dX12_undo_11 rfl) ?_
  refine qcons (qk_getI fd_X12_158 kd_12_48 dX12_undo_12) ?_
  refine qcons (qk_putI (ty := .int) fd_X12_44 tyX12_ok nmX12 (Or.inl rfl) kd_12_11 (tyX12_ok 11 (by decide)) dX12_undo_15) ?_
  refine qcons (qk_aload_n dX12_undo_18 rfl) ?_
  refine qcons (qk_aload_n dX12_undo_19 rfl) ?_
  refine qcons (qk_getI fd_X12_161 kd_12_49 dX12_undo_20) ?_
  refine qcons (qk_putI (ty := .int) fd_X12_7 tyX12_ok nmX12 (Or.inl rfl) kd_12_0 (tyX12_ok 0 (by decide)) dX12_undo_23) ?_
  refine qcons (qk_aload_n dX12_undo_26 rfl) ?_
  refine qcons (qk_aload_n dX12_undo_27 rfl) ?_
  refine qcons (qk_getI fd_X12_164 kd_12_50 dX12_undo_28) ?_
  refine qcons (qk_putI (ty := .int) fd_X12_13 tyX12_ok nmX12 (Or.inl rfl) kd_12_1 (tyX12_ok 1 (by decide)) dX12_undo_31) ?_
  refine qcons (qk_aload_n dX12_undo_34 rfl) ?_
  refine qcons (qk_aload_n dX12_undo_35 rfl) ?_
  refine qcons (qk_getI fd_X12_167 kd_12_51 dX12_undo_36) ?_
  refine qcons (qk_putI (ty := .int) fd_X12_16 tyX12_ok nmX12 (Or.inl rfl) kd_12_2 (tyX12_ok 2 (by decide)) dX12_undo_39) ?_
  refine qcons (qk_aload_n dX12_undo_42 rfl) ?_
  refine qcons (qk_aload_n dX12_undo_43 rfl) ?_
  refine qcons (qk_getI fd_X12_170 kd_12_52 dX12_undo_44) ?_
  refine qcons (qk_putI (ty := .int) fd_X12_124 tyX12_ok nmX12 (Or.inl rfl) kd_12_37 (tyX12_ok 37 (by decide)) dX12_undo_47) ?_
  refine qcons (qk_aload_n dX12_undo_50 rfl) ?_
  refine qcons (qk_aload_n dX12_undo_51 rfl) ?_
  refine qcons (qk_getI fd_X12_173 kd_12_53 dX12_undo_52) ?_
  refine qcons (qk_putI (ty := .int) fd_X12_136 tyX12_ok nmX12 (Or.inl rfl) kd_12_41 (tyX12_ok 41 (by decide)) dX12_undo_55) ?_
  refine qcons (qk_aload_n dX12_undo_58 rfl) ?_
  refine qcons (qk_aload_n dX12_undo_59 rfl) ?_
  refine qcons (qk_getI fd_X12_176 kd_12_54 dX12_undo_60) ?_
  refine qcons (qk_putI (ty := .int) fd_X12_139 tyX12_ok nmX12 (Or.inl rfl) kd_12_42 (tyX12_ok 42 (by decide)) dX12_undo_63) ?_
  refine qcons (qk_iconst dX12_undo_66 (by decide)) ?_
  refine qcons (qk_istore_n dX12_undo_67 rfl) ?_
  refine qcons (qk_iload_n dX12_undo_68 rfl) ?_
  refine qcons (qk_iconst dX12_undo_69 (by decide)) ?_
  refine qcons (qk_icge dX12_undo_70 (by decide)) ?_
  refine qcons (qk_aload_n dX12_undo_73 rfl) ?_
  refine qcons (qk_getR fd_X12_19 kd_12_3 dX12_undo_74) ?_
  refine qcons (qk_iload_n dX12_undo_77 rfl) ?_
  refine qcons (qk_aload_n dX12_undo_78 rfl) ?_
  refine qcons (qk_getR fd_X12_179 kd_12_55 dX12_undo_79) ?_
  refine qcons (qk_iload_n dX12_undo_82 rfl) ?_
  refine qcons (qk_iaload dX12_undo_83) ?_
  refine qcons (qk_iastore dX12_undo_84) ?_
  refine qcons (qk_aload_n dX12_undo_85 rfl) ?_
  refine qcons (qk_getR fd_X12_127 kd_12_38 dX12_undo_86) ?_
  refine qcons (qk_iload_n dX12_undo_89 rfl) ?_
  refine qcons (qk_aload_n dX12_undo_90 rfl) ?_
  refine qcons (qk_getR fd_X12_200 kd_12_62 dX12_undo_91) ?_
  refine qcons (qk_iload_n dX12_undo_94 rfl) ?_
  refine qcons (qk_iaload dX12_undo_95) ?_
  refine qcons (qk_iastore dX12_undo_96) ?_
  refine qcons (qk_aload_n dX12_undo_97 rfl) ?_
  refine qcons (qk_getR fd_X12_130 kd_12_39 dX12_undo_98) ?_
  refine qcons (qk_iload_n dX12_undo_101 rfl) ?_
  refine qcons (qk_aload_n dX12_undo_102 rfl) ?_
  refine qcons (qk_getR fd_X12_203 kd_12_63 dX12_undo_103) ?_
  refine qcons (qk_iload_n dX12_undo_106 rfl) ?_
  refine qcons (qk_iaload dX12_undo_107) ?_
  refine qcons (qk_iastore dX12_undo_108) ?_
  refine qcons (qk_aload_n dX12_undo_109 rfl) ?_
  refine qcons (qk_getR fd_X12_133 kd_12_40 dX12_undo_110) ?_
  refine qcons (qk_iload_n dX12_undo_113 rfl) ?_
  refine qcons (qk_aload_n dX12_undo_114 rfl) ?_
  refine qcons (qk_getR fd_X12_206 kd_12_64 dX12_undo_115) ?_
  refine qcons (qk_iload_n dX12_undo_118 rfl) ?_
  refine qcons (qk_iaload dX12_undo_119) ?_
  refine qcons (qk_iastore dX12_undo_120) ?_
  refine qcons (qk_iinc dX12_undo_121) ?_
  refine qcons (qk_goto dX12_undo_124 (by decide)) ?_
  refine qcons (qk_iconst dX12_undo_127 (by decide)) ?_
  refine qcons (qk_istore_n dX12_undo_128 rfl) ?_
  refine qcons (qk_iload_n dX12_undo_129 rfl) ?_
  refine qcons (qk_bipush dX12_undo_130 (by decide) (by decide)) ?_
  refine qcons (qk_icge dX12_undo_132 (by decide)) ?_
  refine qcons (qk_aload_n dX12_undo_135 rfl) ?_
  refine qcons (qk_getR fd_X12_23 kd_12_4 dX12_undo_136) ?_
  refine qcons (qk_iload_n dX12_undo_139 rfl) ?_
  refine qcons (qk_aload_n dX12_undo_140 rfl) ?_
  refine qcons (qk_getR fd_X12_182 kd_12_56 dX12_undo_141) ?_
  refine qcons (qk_iload_n dX12_undo_144 rfl) ?_
  refine qcons (qk_iaload dX12_undo_145) ?_
  refine qcons (qk_iastore dX12_undo_146) ?_
  refine qcons (qk_aload_n dX12_undo_147 rfl) ?_
  refine qcons (qk_getR fd_X12_26 kd_12_5 dX12_undo_148) ?_
  refine qcons (qk_iload_n dX12_undo_151 rfl) ?_
  refine qcons (qk_aload_n dX12_undo_152 rfl) ?_
  refine qcons (qk_getR fd_X12_185 kd_12_57 dX12_undo_153) ?_
  refine qcons (qk_iload_n dX12_undo_156 rfl) ?_
  refine qcons (qk_iaload dX12_undo_157) ?_
  refine qcons (qk_iastore dX12_undo_158) ?_
  refine qcons (qk_aload_n dX12_undo_159 rfl) ?_
  refine qcons (qk_getR fd_X12_29 kd_12_6 dX12_undo_160) ?_
  refine qcons (qk_iload_n dX12_undo_163 rfl) ?_
  refine qcons (qk_aload_n dX12_undo_164 rfl) ?_
  refine qcons (qk_getR fd_X12_188 kd_12_58 dX12_undo_165) ?_
  refine qcons (qk_iload_n dX12_undo_168 rfl) ?_
  refine qcons (qk_iaload dX12_undo_169) ?_
  refine qcons (qk_iastore dX12_undo_170) ?_
  refine qcons (qk_aload_n dX12_undo_171 rfl) ?_
  refine qcons (qk_getR fd_X12_32 kd_12_7 dX12_undo_172) ?_
  refine qcons (qk_iload_n dX12_undo_175 rfl) ?_
  refine qcons (qk_aload_n dX12_undo_176 rfl) ?_
  refine qcons (qk_getR fd_X12_191 kd_12_59 dX12_undo_177) ?_
  refine qcons (qk_iload_n dX12_undo_180 rfl) ?_
  refine qcons (qk_iaload dX12_undo_181) ?_
  refine qcons (qk_iastore dX12_undo_182) ?_
  refine qcons (qk_aload_n dX12_undo_183 rfl) ?_
  refine qcons (qk_getR fd_X12_35 kd_12_8 dX12_undo_184) ?_
  refine qcons (qk_iload_n dX12_undo_187 rfl) ?_
  refine qcons (qk_aload_n dX12_undo_188 rfl) ?_
  refine qcons (qk_getR fd_X12_194 kd_12_60 dX12_undo_189) ?_
  refine qcons (qk_iload_n dX12_undo_192 rfl) ?_
  refine qcons (qk_iaload dX12_undo_193) ?_
  refine qcons (qk_iastore dX12_undo_194) ?_
  refine qcons (qk_iinc dX12_undo_195) ?_
  refine qcons (qk_goto dX12_undo_198 (by decide)) ?_
  refine qcons (qk_iconst dX12_undo_201 (by decide)) ?_
  refine qcons (qk_istore_n dX12_undo_202 rfl) ?_
  refine qcons (qk_iload_n dX12_undo_203 rfl) ?_
  refine qcons (qk_bipush dX12_undo_204 (by decide) (by decide)) ?_
  refine qcons (qk_icge dX12_undo_206 (by decide)) ?_
  refine qcons (qk_aload_n dX12_undo_209 rfl) ?_
  refine qcons (qk_getR fd_X12_38 kd_12_9 dX12_undo_210) ?_
  refine qcons (qk_iload_n dX12_undo_213 rfl) ?_
  refine qcons (qk_aload_n dX12_undo_214 rfl) ?_
  refine qcons (qk_getR fd_X12_197 kd_12_61 dX12_undo_215) ?_
  refine qcons (qk_iload_n dX12_undo_218 rfl) ?_
  refine qcons (qk_iaload dX12_undo_219) ?_
  refine qcons (qk_iastore dX12_undo_220) ?_
  refine qcons (qk_iinc dX12_undo_221) ?_
  refine qcons (qk_goto dX12_undo_224 (by decide)) ?_
  refine qcons (qk_iconst dX12_undo_227 (by decide)) ?_
  refine qcons (qk_istore_n dX12_undo_228 rfl) ?_
  refine qcons (qk_iload_n dX12_undo_229 rfl) ?_
  refine qcons (qk_bipush dX12_undo_230 (by decide) (by decide)) ?_
  refine qcons (qk_icge dX12_undo_232 (by decide)) ?_
  refine qcons (qk_aload_n dX12_undo_235 rfl) ?_
  refine qcons (qk_getR fd_X12_142 kd_12_43 dX12_undo_236) ?_
  refine qcons (qk_iload_n dX12_undo_239 rfl) ?_
  refine qcons (qk_aload_n dX12_undo_240 rfl) ?_
  refine qcons (qk_getR fd_X12_209 kd_12_65 dX12_undo_241) ?_
  refine qcons (qk_iload_n dX12_undo_244 rfl) ?_
  refine qcons (qk_iaload dX12_undo_245) ?_
  refine qcons (qk_iastore dX12_undo_246) ?_
  refine qcons (qk_aload_n dX12_undo_247 rfl) ?_
  refine qcons (qk_getR fd_X12_145 kd_12_44 dX12_undo_248) ?_
  refine qcons (qk_iload_n dX12_undo_251 rfl) ?_
  refine qcons (qk_aload_n dX12_undo_252 rfl) ?_
  refine qcons (qk_getR fd_X12_212 kd_12_66 dX12_undo_253) ?_
  refine qcons (qk_iload_n dX12_undo_256 rfl) ?_
  refine qcons (qk_iaload dX12_undo_257) ?_
  refine qcons (qk_iastore dX12_undo_258) ?_
  refine qcons (qk_iinc dX12_undo_259) ?_
  refine qcons (qk_goto dX12_undo_262 (by decide)) ?_
  refine qcons (qk_iconst dX12_undo_265 (by decide)) ?_
  refine qcons (qk_istore_n dX12_undo_266 rfl) ?_
  refine qcons (qk_iload_n dX12_undo_267 rfl) ?_
  refine qcons (qk_bipush dX12_undo_268 (by decide) (by decide)) ?_
  refine qcons (qk_icge dX12_undo_270 (by decide)) ?_
  refine qcons (qk_aload_n dX12_undo_273 rfl) ?_
  refine qcons (qk_getR fd_X12_148 kd_12_45 dX12_undo_274) ?_
  refine qcons (qk_iload_n dX12_undo_277 rfl) ?_
  refine qcons (qk_aload_n dX12_undo_278 rfl) ?_
  refine qcons (qk_getR fd_X12_215 kd_12_67 dX12_undo_279) ?_
  refine qcons (qk_iload_n dX12_undo_282 rfl) ?_
  refine qcons (qk_iaload dX12_undo_283) ?_
  refine qcons (qk_iastore dX12_undo_284) ?_
  refine qcons (qk_aload_n dX12_undo_285 rfl) ?_
  refine qcons (qk_getR fd_X12_151 kd_12_46 dX12_undo_286) ?_
  refine qcons (qk_iload_n dX12_undo_289 rfl) ?_
  refine qcons (qk_aload_n dX12_undo_290 rfl) ?_
  refine qcons (qk_getR fd_X12_218 kd_12_68 dX12_undo_291) ?_
  refine qcons (qk_iload_n dX12_undo_294 rfl) ?_
  refine qcons (qk_iaload dX12_undo_295) ?_
  refine qcons (qk_iastore dX12_undo_296) ?_
  refine qcons (qk_iinc dX12_undo_297) ?_
  refine qcons (qk_goto dX12_undo_300 (by decide)) ?_
  refine qcons (qk_aload_n dX12_undo_303 rfl) ?_
  refine qcons (qk_getI fd_X12_7 kd_12_0 dX12_undo_304) ?_
  refine qcons (qk_ret dX12_undo_307 (Or.inr (Or.inl ⟨rfl, rfl⟩))) ?_
  exact qnil
theorem M_X12_undo {X : qX} {l : Launch} : qMet X l 1 yX12_undo cX12_undo 2 (some .int) S_X12_undo := qmet_of K_X12_undo (by decide) rfl rfl
theorem dX12_body_0 : decode cX12_body 0 = .ok (.aload_n 0, 1) := by decide +kernel
theorem dX12_body_1 : decode cX12_body 1 = .ok (.getfield 221, 3) := by decide +kernel
theorem dX12_body_4 : decode cX12_body 4 = .ok (.bipush 20, 2) := by decide +kernel
theorem dX12_body_6 : decode cX12_body 6 = .ok (.if_icmp .ge 13, 3) := by decide +kernel
theorem dX12_body_9 : decode cX12_body 9 = .ok (.aload_n 0, 1) := by decide +kernel
theorem dX12_body_10 : decode cX12_body 10 = .ok (.getfield 224, 3) := by decide +kernel
theorem dX12_body_13 : decode cX12_body 13 = .ok (.aload_n 0, 1) := by decide +kernel
theorem dX12_body_14 : decode cX12_body 14 = .ok (.getfield 221, 3) := by decide +kernel
theorem dX12_body_17 : decode cX12_body 17 = .ok (.iload_n 1, 1) := by decide +kernel
theorem dX12_body_18 : decode cX12_body 18 = .ok (.iastore, 1) := by decide +kernel
theorem dX12_body_19 : decode cX12_body 19 = .ok (.aload_n 0, 1) := by decide +kernel
theorem dX12_body_20 : decode cX12_body 20 = .ok (.dup, 1) := by decide +kernel
theorem dX12_body_21 : decode cX12_body 21 = .ok (.getfield 221, 3) := by decide +kernel
theorem dX12_body_24 : decode cX12_body 24 = .ok (.iconst 1, 1) := by decide +kernel
theorem dX12_body_25 : decode cX12_body 25 = .ok (.iadd, 1) := by decide +kernel
theorem dX12_body_26 : decode cX12_body 26 = .ok (.putfield 221, 3) := by decide +kernel
theorem dX12_body_29 : decode cX12_body 29 = .ok (.return_, 1) := by decide +kernel
noncomputable def C_X12_body : List (Nat × qOp) := [(0, qo_aload 0 1),
  (1, qo_getI 12 69),
  (4, qo_ci 20 2),
  (6, qo_icge 19),
  (9, qo_aload 0 1),
  (10, qo_getR 12 70),
  (13, qo_aload 0 1),
  (14, qo_getI 12 69),
  (17, qo_iload 1 1),
  (18, qo_iastore),
  (19, qo_aload 0 1),
  (20, qo_dup),
  (21, qo_getI 12 69),
  (24, qo_ci 1 1),
  (25, qo_iadd),
  (26, qo_putI 12 69),
  (29, qo_ret none 0)]
noncomputable def S_X12_body : qSem := qM 2 C_X12_body
set_option maxRecDepth 20000 in
theorem K_X12_body {X : qX} {l : Launch} : ∀ q ∈ C_X12_body, qOk X l 1 cX12_body 2 RX12 "body" none q.1 q.2 := by
  unfold C_X12_body
  refine qcons (qk_aload_n dX12_body_0 rfl) ?_
  refine qcons (qk_getI fd_X12_221 kd_12_69 dX12_body_1) ?_
  refine qcons (qk_bipush dX12_body_4 (by decide) (by decide)) ?_
  refine qcons (qk_icge dX12_body_6 (by decide)) ?_
  refine qcons (qk_aload_n dX12_body_9 rfl) ?_
  refine qcons (qk_getR fd_X12_224 kd_12_70 dX12_body_10) ?_
  refine qcons (qk_aload_n dX12_body_13 rfl) ?_
  refine qcons (qk_getI fd_X12_221 kd_12_69 dX12_body_14) ?_
  refine qcons (qk_iload_n dX12_body_17 rfl) ?_
  refine qcons (qk_iastore dX12_body_18) ?_
  refine qcons (qk_aload_n dX12_body_19 rfl) ?_
  refine qcons (qk_dup dX12_body_20) ?_
  refine qcons (qk_getI fd_X12_221 kd_12_69 dX12_body_21) ?_
  refine qcons (qk_iconst dX12_body_24 (by decide)) ?_
  refine qcons (qk_iadd dX12_body_25) ?_
  refine qcons (qk_putI (ty := .int) fd_X12_221 tyX12_ok nmX12 (Or.inl rfl) kd_12_69 (tyX12_ok 69 (by decide)) dX12_body_26) ?_
  refine qcons (qk_ret dX12_body_29 (Or.inl ⟨rfl, rfl⟩)) ?_
  exact qnil
theorem M_X12_body {X : qX} {l : Launch} : qMet X l 1 yX12_body cX12_body 2 none S_X12_body := qmet_of K_X12_body (by decide) rfl rfl
theorem dX12_personFolds_0 : decode cX12_personFolds 0 = .ok (.aload_n 0, 1) := by decide +kernel
theorem dX12_personFolds_1 : decode cX12_personFolds 1 = .ok (.bipush 10, 2) := by decide +kernel
theorem dX12_personFolds_3 : decode cX12_personFolds 3 = .ok (.invokevirtual 400, 3) := by decide +kernel
theorem dX12_personFolds_6 : decode cX12_personFolds 6 = .ok (.iload_n 2, 1) := by decide +kernel
theorem dX12_personFolds_7 : decode cX12_personFolds 7 = .ok (.iload_n 1, 1) := by decide +kernel
theorem dX12_personFolds_8 : decode cX12_personFolds 8 = .ok (.iadd, 1) := by decide +kernel
theorem dX12_personFolds_9 : decode cX12_personFolds 9 = .ok (.ireturn, 1) := by decide +kernel
noncomputable def C_X12_personFolds : List (Nat × qOp) := [(0, qo_aload 0 1),
  (1, qo_ci 10 2),
  (3, qo_callv [(12, S_X12_body)] 1),
  (6, qo_iload 2 1),
  (7, qo_iload 1 1),
  (8, qo_iadd),
  (9, qo_ret (some .int) 1)]
noncomputable def S_X12_personFolds : qSem := qM 3 C_X12_personFolds
set_option maxRecDepth 20000 in
theorem K_X12_personFolds {X : qX} {l : Launch} : ∀ q ∈ C_X12_personFolds, qOk X l 2 cX12_personFolds 3 RX12 "personFolds" (some .int) q.1 q.2 := by
  unfold C_X12_personFolds
  refine qcons (qk_aload_n dX12_personFolds_0 rfl) ?_
  refine qcons (qk_bipush dX12_personFolds_1 (by decide) (by decide)) ?_
  refine qcons (qk_callv (ins := fun i => .invokevirtual i) (qconsV (qrunV M_X12_body (by decide) (by decide) (by decide) rfl tw_1389 tw_1391 tw_69 tw_1392 tw_90 ⟨by decide, by decide⟩ (by decide +kernel)) qnilV) dX12_personFolds_3) ?_
  refine qcons (qk_iload_n dX12_personFolds_6 rfl) ?_
  refine qcons (qk_iload_n dX12_personFolds_7 rfl) ?_
  refine qcons (qk_iadd dX12_personFolds_8) ?_
  refine qcons (qk_ret dX12_personFolds_9 (Or.inr (Or.inl ⟨rfl, rfl⟩))) ?_
  exact qnil
theorem M_X12_personFolds {X : qX} {l : Launch} : qMet X l 2 yX12_personFolds cX12_personFolds 3 (some .int) S_X12_personFolds := qmet_of K_X12_personFolds (by decide) rfl rfl
theorem dX12_foldsAct_0 : decode cX12_foldsAct 0 = .ok (.aload_n 0, 1) := by decide +kernel
theorem dX12_foldsAct_1 : decode cX12_foldsAct 1 = .ok (.getfield 23, 3) := by decide +kernel
theorem dX12_foldsAct_4 : decode cX12_foldsAct 4 = .ok (.iload_n 1, 1) := by decide +kernel
theorem dX12_foldsAct_5 : decode cX12_foldsAct 5 = .ok (.iaload, 1) := by decide +kernel
theorem dX12_foldsAct_6 : decode cX12_foldsAct 6 = .ok (.tableswitch 83 2 6 #[34, 83, 49, 34, 63], 34) := by decide +kernel
theorem dX12_foldsAct_40 : decode cX12_foldsAct 40 = .ok (.aload_n 0, 1) := by decide +kernel
theorem dX12_foldsAct_41 : decode cX12_foldsAct 41 = .ok (.bipush 30, 2) := by decide +kernel
theorem dX12_foldsAct_43 : decode cX12_foldsAct 43 = .ok (.invokevirtual 400, 3) := by decide +kernel
theorem dX12_foldsAct_46 : decode cX12_foldsAct 46 = .ok (.aload_n 0, 1) := by decide +kernel
theorem dX12_foldsAct_47 : decode cX12_foldsAct 47 = .ok (.iload_n 1, 1) := by decide +kernel
theorem dX12_foldsAct_48 : decode cX12_foldsAct 48 = .ok (.iload_n 2, 1) := by decide +kernel
theorem dX12_foldsAct_49 : decode cX12_foldsAct 49 = .ok (.iconst 3, 1) := by decide +kernel
theorem dX12_foldsAct_50 : decode cX12_foldsAct 50 = .ok (.imul, 1) := by decide +kernel
theorem dX12_foldsAct_51 : decode cX12_foldsAct 51 = .ok (.invokevirtual 403, 3) := by decide +kernel
theorem dX12_foldsAct_54 : decode cX12_foldsAct 54 = .ok (.ireturn, 1) := by decide +kernel
theorem dX12_foldsAct_55 : decode cX12_foldsAct 55 = .ok (.aload_n 0, 1) := by decide +kernel
theorem dX12_foldsAct_56 : decode cX12_foldsAct 56 = .ok (.bipush 50, 2) := by decide +kernel
theorem dX12_foldsAct_58 : decode cX12_foldsAct 58 = .ok (.invokevirtual 400, 3) := by decide +kernel
theorem dX12_foldsAct_61 : decode cX12_foldsAct 61 = .ok (.aload_n 0, 1) := by decide +kernel
theorem dX12_foldsAct_62 : decode cX12_foldsAct 62 = .ok (.iload_n 1, 1) := by decide +kernel
theorem dX12_foldsAct_63 : decode cX12_foldsAct 63 = .ok (.iload_n 2, 1) := by decide +kernel
theorem dX12_foldsAct_64 : decode cX12_foldsAct 64 = .ok (.invokevirtual 403, 3) := by decide +kernel
theorem dX12_foldsAct_67 : decode cX12_foldsAct 67 = .ok (.ineg, 1) := by decide +kernel
theorem dX12_foldsAct_68 : decode cX12_foldsAct 68 = .ok (.ireturn, 1) := by decide +kernel
theorem dX12_foldsAct_69 : decode cX12_foldsAct 69 = .ok (.aload_n 0, 1) := by decide +kernel
theorem dX12_foldsAct_70 : decode cX12_foldsAct 70 = .ok (.bipush 71, 2) := by decide +kernel
theorem dX12_foldsAct_72 : decode cX12_foldsAct 72 = .ok (.invokevirtual 400, 3) := by decide +kernel
theorem dX12_foldsAct_75 : decode cX12_foldsAct 75 = .ok (.aload_n 0, 1) := by decide +kernel
theorem dX12_foldsAct_76 : decode cX12_foldsAct 76 = .ok (.iload_n 1, 1) := by decide +kernel
theorem dX12_foldsAct_77 : decode cX12_foldsAct 77 = .ok (.iload_n 2, 1) := by decide +kernel
theorem dX12_foldsAct_78 : decode cX12_foldsAct 78 = .ok (.invokevirtual 403, 3) := by decide +kernel
theorem dX12_foldsAct_81 : decode cX12_foldsAct 81 = .ok (.aload_n 0, 1) := by decide +kernel
theorem dX12_foldsAct_82 : decode cX12_foldsAct 82 = .ok (.getfield 26, 3) := by decide +kernel
theorem dX12_foldsAct_85 : decode cX12_foldsAct 85 = .ok (.iload_n 1, 1) := by decide +kernel
theorem dX12_foldsAct_86 : decode cX12_foldsAct 86 = .ok (.iaload, 1) := by decide +kernel
theorem dX12_foldsAct_87 : decode cX12_foldsAct 87 = .ok (.ixor, 1) := by decide +kernel
theorem dX12_foldsAct_88 : decode cX12_foldsAct 88 = .ok (.ireturn, 1) := by decide +kernel
theorem dX12_foldsAct_89 : decode cX12_foldsAct 89 = .ok (.aload_n 0, 1) := by decide +kernel
theorem dX12_foldsAct_90 : decode cX12_foldsAct 90 = .ok (.iload_n 1, 1) := by decide +kernel
theorem dX12_foldsAct_91 : decode cX12_foldsAct 91 = .ok (.iload_n 2, 1) := by decide +kernel
theorem dX12_foldsAct_92 : decode cX12_foldsAct 92 = .ok (.invokevirtual 403, 3) := by decide +kernel
theorem dX12_foldsAct_95 : decode cX12_foldsAct 95 = .ok (.ireturn, 1) := by decide +kernel
noncomputable def C_X12_foldsAct : List (Nat × qOp) := [(0, qo_aload 0 1),
  (1, qo_getR 12 4),
  (4, qo_iload 1 1),
  (5, qo_iaload),
  (6, qo_tsw 2 [40, 89, 55, 40, 69] 89),
  (40, qo_aload 0 1),
  (41, qo_ci 30 2),
  (43, qo_callv [(12, S_X12_body)] 1),
  (46, qo_aload 0 1),
  (47, qo_iload 1 1),
  (48, qo_iload 2 1),
  (49, qo_ci 3 1),
  (50, qo_imul),
  (51, qo_callv [(12, S_X12_personFolds)] 2),
  (54, qo_ret (some .int) 1),
  (55, qo_aload 0 1),
  (56, qo_ci 50 2),
  (58, qo_callv [(12, S_X12_body)] 1),
  (61, qo_aload 0 1),
  (62, qo_iload 1 1),
  (63, qo_iload 2 1),
  (64, qo_callv [(12, S_X12_personFolds)] 2),
  (67, qo_ineg),
  (68, qo_ret (some .int) 1),
  (69, qo_aload 0 1),
  (70, qo_ci 71 2),
  (72, qo_callv [(12, S_X12_body)] 1),
  (75, qo_aload 0 1),
  (76, qo_iload 1 1),
  (77, qo_iload 2 1),
  (78, qo_callv [(12, S_X12_personFolds)] 2),
  (81, qo_aload 0 1),
  (82, qo_getR 12 5),
  (85, qo_iload 1 1),
  (86, qo_iaload),
  (87, qo_ixor),
  (88, qo_ret (some .int) 1),
  (89, qo_aload 0 1),
  (90, qo_iload 1 1),
  (91, qo_iload 2 1),
  (92, qo_callv [(12, S_X12_personFolds)] 2),
  (95, qo_ret (some .int) 1)]
noncomputable def S_X12_foldsAct : qSem := qM 3 C_X12_foldsAct
set_option maxRecDepth 20000 in
theorem K_X12_foldsAct {X : qX} {l : Launch} : ∀ q ∈ C_X12_foldsAct, qOk X l 3 cX12_foldsAct 3 RX12 "foldsAct" (some .int) q.1 q.2 := by
  unfold C_X12_foldsAct
  refine qcons (qk_aload_n dX12_foldsAct_0 rfl) ?_
  refine qcons (qk_getR fd_X12_23 kd_12_4 dX12_foldsAct_1) ?_
  refine qcons (qk_iload_n dX12_foldsAct_4 rfl) ?_
  refine qcons (qk_iaload dX12_foldsAct_5) ?_
  refine qcons (qk_tsw dX12_foldsAct_6 (by decide) (by decide) (by decide)) ?_
  refine qcons (qk_aload_n dX12_foldsAct_40 rfl) ?_
  refine qcons (qk_bipush dX12_foldsAct_41 (by decide) (by decide)) ?_
  refine qcons (qk_callv (ins := fun i => .invokevirtual i) (qconsV (qrunV M_X12_body (by decide) (by decide) (by decide) rfl tw_1389 tw_1391 tw_69 tw_1392 tw_90 ⟨by decide, by decide⟩ (by decide +kernel)) qnilV) dX12_foldsAct_43) ?_
  refine qcons (qk_aload_n dX12_foldsAct_46 rfl) ?_
  refine qcons (qk_iload_n dX12_foldsAct_47 rfl) ?_
  refine qcons (qk_iload_n dX12_foldsAct_48 rfl) ?_
  refine qcons (qk_iconst dX12_foldsAct_49 (by decide)) ?_
  refine qcons (qk_imul dX12_foldsAct_50) ?_
  refine qcons (qk_callv (ins := fun i => .invokevirtual i) (qconsV (qrunV M_X12_personFolds (by decide) (by decide) (by decide) rfl tw_1393 tw_1395 tw_70 tw_1396 tw_90 ⟨by decide, by decide⟩ (by decide +kernel)) qnilV) dX12_foldsAct_51) ?_
  refine qcons (qk_ret dX12_foldsAct_54 (Or.inr (Or.inl ⟨rfl, rfl⟩))) ?_
  refine qcons (qk_aload_n dX12_foldsAct_55 rfl) ?_
  refine qcons (qk_bipush dX12_foldsAct_56 (by decide) (by decide)) ?_
  refine qcons (qk_callv (ins := fun i => .invokevirtual i) (qconsV (qrunV M_X12_body (by decide) (by decide) (by decide) rfl tw_1389 tw_1391 tw_69 tw_1392 tw_90 ⟨by decide, by decide⟩ (by decide +kernel)) qnilV) dX12_foldsAct_58) ?_
  refine qcons (qk_aload_n dX12_foldsAct_61 rfl) ?_
  refine qcons (qk_iload_n dX12_foldsAct_62 rfl) ?_
  refine qcons (qk_iload_n dX12_foldsAct_63 rfl) ?_
  refine qcons (qk_callv (ins := fun i => .invokevirtual i) (qconsV (qrunV M_X12_personFolds (by decide) (by decide) (by decide) rfl tw_1393 tw_1395 tw_70 tw_1396 tw_90 ⟨by decide, by decide⟩ (by decide +kernel)) qnilV) dX12_foldsAct_64) ?_
  refine qcons (qk_ineg dX12_foldsAct_67) ?_
  refine qcons (qk_ret dX12_foldsAct_68 (Or.inr (Or.inl ⟨rfl, rfl⟩))) ?_
  refine qcons (qk_aload_n dX12_foldsAct_69 rfl) ?_
  refine qcons (qk_bipush dX12_foldsAct_70 (by decide) (by decide)) ?_
  refine qcons (qk_callv (ins := fun i => .invokevirtual i) (qconsV (qrunV M_X12_body (by decide) (by decide) (by decide) rfl tw_1389 tw_1391 tw_69 tw_1392 tw_90 ⟨by decide, by decide⟩ (by decide +kernel)) qnilV) dX12_foldsAct_72) ?_
  refine qcons (qk_aload_n dX12_foldsAct_75 rfl) ?_
  refine qcons (qk_iload_n dX12_foldsAct_76 rfl) ?_
  refine qcons (qk_iload_n dX12_foldsAct_77 rfl) ?_
  refine qcons (qk_callv (ins := fun i => .invokevirtual i) (qconsV (qrunV M_X12_personFolds (by decide) (by decide) (by decide) rfl tw_1393 tw_1395 tw_70 tw_1396 tw_90 ⟨by decide, by decide⟩ (by decide +kernel)) qnilV) dX12_foldsAct_78) ?_
  refine qcons (qk_aload_n dX12_foldsAct_81 rfl) ?_
  refine qcons (qk_getR fd_X12_26 kd_12_5 dX12_foldsAct_82) ?_
  refine qcons (qk_iload_n dX12_foldsAct_85 rfl) ?_
  refine qcons (qk_iaload dX12_foldsAct_86) ?_
  refine qcons (qk_ixor dX12_foldsAct_87) ?_
  refine qcons (qk_ret dX12_foldsAct_88 (Or.inr (Or.inl ⟨rfl, rfl⟩))) ?_
  refine qcons (qk_aload_n dX12_foldsAct_89 rfl) ?_
  refine qcons (qk_iload_n dX12_foldsAct_90 rfl) ?_
  refine qcons (qk_iload_n dX12_foldsAct_91 rfl) ?_
  refine qcons (qk_callv (ins := fun i => .invokevirtual i) (qconsV (qrunV M_X12_personFolds (by decide) (by decide) (by decide) rfl tw_1393 tw_1395 tw_70 tw_1396 tw_90 ⟨by decide, by decide⟩ (by decide +kernel)) qnilV) dX12_foldsAct_92) ?_
  refine qcons (qk_ret dX12_foldsAct_95 (Or.inr (Or.inl ⟨rfl, rfl⟩))) ?_
  exact qnil
theorem M_X12_foldsAct {X : qX} {l : Launch} : qMet X l 3 yX12_foldsAct cX12_foldsAct 3 (some .int) S_X12_foldsAct := qmet_of K_X12_foldsAct (by decide) rfl rfl
theorem dX12_personLicks_0 : decode cX12_personLicks 0 = .ok (.aload_n 0, 1) := by decide +kernel
theorem dX12_personLicks_1 : decode cX12_personLicks 1 = .ok (.bipush 11, 2) := by decide +kernel
theorem dX12_personLicks_3 : decode cX12_personLicks 3 = .ok (.invokevirtual 400, 3) := by decide +kernel
theorem dX12_personLicks_6 : decode cX12_personLicks 6 = .ok (.aload_n 0, 1) := by decide +kernel
theorem dX12_personLicks_7 : decode cX12_personLicks 7 = .ok (.iload_n 1, 1) := by decide +kernel
theorem dX12_personLicks_8 : decode cX12_personLicks 8 = .ok (.iload_n 2, 1) := by decide +kernel
theorem dX12_personLicks_9 : decode cX12_personLicks 9 = .ok (.invokevirtual 406, 3) := by decide +kernel
theorem dX12_personLicks_12 : decode cX12_personLicks 12 = .ok (.aload_n 0, 1) := by decide +kernel
theorem dX12_personLicks_13 : decode cX12_personLicks 13 = .ok (.getfield 26, 3) := by decide +kernel
theorem dX12_personLicks_16 : decode cX12_personLicks 16 = .ok (.iload_n 1, 1) := by decide +kernel
theorem dX12_personLicks_17 : decode cX12_personLicks 17 = .ok (.iaload, 1) := by decide +kernel
theorem dX12_personLicks_18 : decode cX12_personLicks 18 = .ok (.isub, 1) := by decide +kernel
theorem dX12_personLicks_19 : decode cX12_personLicks 19 = .ok (.ireturn, 1) := by decide +kernel
noncomputable def C_X12_personLicks : List (Nat × qOp) := [(0, qo_aload 0 1),
  (1, qo_ci 11 2),
  (3, qo_callv [(12, S_X12_body)] 1),
  (6, qo_aload 0 1),
  (7, qo_iload 1 1),
  (8, qo_iload 2 1),
  (9, qo_callv [(12, S_X12_foldsAct)] 2),
  (12, qo_aload 0 1),
  (13, qo_getR 12 5),
  (16, qo_iload 1 1),
  (17, qo_iaload),
  (18, qo_isub),
  (19, qo_ret (some .int) 1)]
noncomputable def S_X12_personLicks : qSem := qM 3 C_X12_personLicks
set_option maxRecDepth 20000 in
theorem K_X12_personLicks {X : qX} {l : Launch} : ∀ q ∈ C_X12_personLicks, qOk X l 4 cX12_personLicks 3 RX12 "personLicks" (some .int) q.1 q.2 := by
  unfold C_X12_personLicks
  refine qcons (qk_aload_n dX12_personLicks_0 rfl) ?_
  refine qcons (qk_bipush dX12_personLicks_1 (by decide) (by decide)) ?_
  refine qcons (qk_callv (ins := fun i => .invokevirtual i) (qconsV (qrunV M_X12_body (by decide) (by decide) (by decide) rfl tw_1389 tw_1391 tw_69 tw_1392 tw_90 ⟨by decide, by decide⟩ (by decide +kernel)) qnilV) dX12_personLicks_3) ?_
  refine qcons (qk_aload_n dX12_personLicks_6 rfl) ?_
  refine qcons (qk_iload_n dX12_personLicks_7 rfl) ?_
  refine qcons (qk_iload_n dX12_personLicks_8 rfl) ?_
  refine qcons (qk_callv (ins := fun i => .invokevirtual i) (qconsV (qrunV M_X12_foldsAct (by decide) (by decide) (by decide) rfl tw_1385 tw_1387 tw_68 tw_1388 tw_90 ⟨by decide, by decide⟩ (by decide +kernel)) qnilV) dX12_personLicks_9) ?_
  refine qcons (qk_aload_n dX12_personLicks_12 rfl) ?_
  refine qcons (qk_getR fd_X12_26 kd_12_5 dX12_personLicks_13) ?_
  refine qcons (qk_iload_n dX12_personLicks_16 rfl) ?_
  refine qcons (qk_iaload dX12_personLicks_17) ?_
  refine qcons (qk_isub dX12_personLicks_18) ?_
  refine qcons (qk_ret dX12_personLicks_19 (Or.inr (Or.inl ⟨rfl, rfl⟩))) ?_
  exact qnil
theorem M_X12_personLicks {X : qX} {l : Launch} : qMet X l 4 yX12_personLicks cX12_personLicks 3 (some .int) S_X12_personLicks := qmet_of K_X12_personLicks (by decide) rfl rfl
theorem dX12_quickLicks_0 : decode cX12_quickLicks 0 = .ok (.aload_n 0, 1) := by decide +kernel
theorem dX12_quickLicks_1 : decode cX12_quickLicks 1 = .ok (.bipush 20, 2) := by decide +kernel
theorem dX12_quickLicks_3 : decode cX12_quickLicks 3 = .ok (.invokevirtual 400, 3) := by decide +kernel
theorem dX12_quickLicks_6 : decode cX12_quickLicks 6 = .ok (.aload_n 0, 1) := by decide +kernel
theorem dX12_quickLicks_7 : decode cX12_quickLicks 7 = .ok (.iload_n 1, 1) := by decide +kernel
theorem dX12_quickLicks_8 : decode cX12_quickLicks 8 = .ok (.iload_n 2, 1) := by decide +kernel
theorem dX12_quickLicks_9 : decode cX12_quickLicks 9 = .ok (.invokevirtual 409, 3) := by decide +kernel
theorem dX12_quickLicks_12 : decode cX12_quickLicks 12 = .ok (.bipush 6, 2) := by decide +kernel
theorem dX12_quickLicks_14 : decode cX12_quickLicks 14 = .ok (.ixor, 1) := by decide +kernel
theorem dX12_quickLicks_15 : decode cX12_quickLicks 15 = .ok (.ireturn, 1) := by decide +kernel
noncomputable def C_X12_quickLicks : List (Nat × qOp) := [(0, qo_aload 0 1),
  (1, qo_ci 20 2),
  (3, qo_callv [(12, S_X12_body)] 1),
  (6, qo_aload 0 1),
  (7, qo_iload 1 1),
  (8, qo_iload 2 1),
  (9, qo_callv [(12, S_X12_personLicks)] 2),
  (12, qo_ci 6 2),
  (14, qo_ixor),
  (15, qo_ret (some .int) 1)]
noncomputable def S_X12_quickLicks : qSem := qM 3 C_X12_quickLicks
set_option maxRecDepth 20000 in
theorem K_X12_quickLicks {X : qX} {l : Launch} : ∀ q ∈ C_X12_quickLicks, qOk X l 5 cX12_quickLicks 3 RX12 "quickLicks" (some .int) q.1 q.2 := by
  unfold C_X12_quickLicks
  refine qcons (qk_aload_n dX12_quickLicks_0 rfl) ?_
  refine qcons (qk_bipush dX12_quickLicks_1 (by decide) (by decide)) ?_
  refine qcons (qk_callv (ins := fun i => .invokevirtual i) (qconsV (qrunV M_X12_body (by decide) (by decide) (by decide) rfl tw_1389 tw_1391 tw_69 tw_1392 tw_90 ⟨by decide, by decide⟩ (by decide +kernel)) qnilV) dX12_quickLicks_3) ?_
  refine qcons (qk_aload_n dX12_quickLicks_6 rfl) ?_
  refine qcons (qk_iload_n dX12_quickLicks_7 rfl) ?_
  refine qcons (qk_iload_n dX12_quickLicks_8 rfl) ?_
  refine qcons (qk_callv (ins := fun i => .invokevirtual i) (qconsV (qrunV M_X12_personLicks (by decide) (by decide) (by decide) rfl tw_1405 tw_1407 tw_73 tw_1408 tw_90 ⟨by decide, by decide⟩ (by decide +kernel)) qnilV) dX12_quickLicks_9) ?_
  refine qcons (qk_bipush dX12_quickLicks_12 (by decide) (by decide)) ?_
  refine qcons (qk_ixor dX12_quickLicks_14) ?_
  refine qcons (qk_ret dX12_quickLicks_15 (Or.inr (Or.inl ⟨rfl, rfl⟩))) ?_
  exact qnil
theorem M_X12_quickLicks {X : qX} {l : Launch} : qMet X l 5 yX12_quickLicks cX12_quickLicks 3 (some .int) S_X12_quickLicks := qmet_of K_X12_quickLicks (by decide) rfl rfl
theorem dX12_licksAct_0 : decode cX12_licksAct 0 = .ok (.aload_n 0, 1) := by decide +kernel
theorem dX12_licksAct_1 : decode cX12_licksAct 1 = .ok (.getfield 23, 3) := by decide +kernel
theorem dX12_licksAct_4 : decode cX12_licksAct 4 = .ok (.iload_n 1, 1) := by decide +kernel
theorem dX12_licksAct_5 : decode cX12_licksAct 5 = .ok (.iaload, 1) := by decide +kernel
theorem dX12_licksAct_6 : decode cX12_licksAct 6 = .ok (.lookupswitch 78 #[(1, 34), (4, 41), (6, 56)], 34) := by decide +kernel
theorem dX12_licksAct_40 : decode cX12_licksAct 40 = .ok (.aload_n 0, 1) := by decide +kernel
theorem dX12_licksAct_41 : decode cX12_licksAct 41 = .ok (.iload_n 1, 1) := by decide +kernel
theorem dX12_licksAct_42 : decode cX12_licksAct 42 = .ok (.iload_n 2, 1) := by decide +kernel
theorem dX12_licksAct_43 : decode cX12_licksAct 43 = .ok (.invokevirtual 412, 3) := by decide +kernel
theorem dX12_licksAct_46 : decode cX12_licksAct 46 = .ok (.ireturn, 1) := by decide +kernel
theorem dX12_licksAct_47 : decode cX12_licksAct 47 = .ok (.aload_n 0, 1) := by decide +kernel
theorem dX12_licksAct_48 : decode cX12_licksAct 48 = .ok (.bipush 51, 2) := by decide +kernel
theorem dX12_licksAct_50 : decode cX12_licksAct 50 = .ok (.invokevirtual 400, 3) := by decide +kernel
theorem dX12_licksAct_53 : decode cX12_licksAct 53 = .ok (.aload_n 0, 1) := by decide +kernel
theorem dX12_licksAct_54 : decode cX12_licksAct 54 = .ok (.iload_n 1, 1) := by decide +kernel
theorem dX12_licksAct_55 : decode cX12_licksAct 55 = .ok (.iload_n 2, 1) := by decide +kernel
theorem dX12_licksAct_56 : decode cX12_licksAct 56 = .ok (.iconst 1, 1) := by decide +kernel
theorem dX12_licksAct_57 : decode cX12_licksAct 57 = .ok (.iadd, 1) := by decide +kernel
theorem dX12_licksAct_58 : decode cX12_licksAct 58 = .ok (.invokevirtual 412, 3) := by decide +kernel
theorem dX12_licksAct_61 : decode cX12_licksAct 61 = .ok (.ireturn, 1) := by decide +kernel
theorem dX12_licksAct_62 : decode cX12_licksAct 62 = .ok (.aload_n 0, 1) := by decide +kernel
theorem dX12_licksAct_63 : decode cX12_licksAct 63 = .ok (.bipush 70, 2) := by decide +kernel
theorem dX12_licksAct_65 : decode cX12_licksAct 65 = .ok (.invokevirtual 400, 3) := by decide +kernel
theorem dX12_licksAct_68 : decode cX12_licksAct 68 = .ok (.aload_n 0, 1) := by decide +kernel
theorem dX12_licksAct_69 : decode cX12_licksAct 69 = .ok (.iload_n 1, 1) := by decide +kernel
theorem dX12_licksAct_70 : decode cX12_licksAct 70 = .ok (.iload_n 2, 1) := by decide +kernel
theorem dX12_licksAct_71 : decode cX12_licksAct 71 = .ok (.invokevirtual 409, 3) := by decide +kernel
theorem dX12_licksAct_74 : decode cX12_licksAct 74 = .ok (.istore_n 3, 1) := by decide +kernel
theorem dX12_licksAct_75 : decode cX12_licksAct 75 = .ok (.iload_n 3, 1) := by decide +kernel
theorem dX12_licksAct_76 : decode cX12_licksAct 76 = .ok (.aload_n 0, 1) := by decide +kernel
theorem dX12_licksAct_77 : decode cX12_licksAct 77 = .ok (.iload_n 1, 1) := by decide +kernel
theorem dX12_licksAct_78 : decode cX12_licksAct 78 = .ok (.iconst 2, 1) := by decide +kernel
theorem dX12_licksAct_79 : decode cX12_licksAct 79 = .ok (.invokevirtual 403, 3) := by decide +kernel
theorem dX12_licksAct_82 : decode cX12_licksAct 82 = .ok (.iadd, 1) := by decide +kernel
theorem dX12_licksAct_83 : decode cX12_licksAct 83 = .ok (.ireturn, 1) := by decide +kernel
theorem dX12_licksAct_84 : decode cX12_licksAct 84 = .ok (.aload_n 0, 1) := by decide +kernel
theorem dX12_licksAct_85 : decode cX12_licksAct 85 = .ok (.iload_n 1, 1) := by decide +kernel
theorem dX12_licksAct_86 : decode cX12_licksAct 86 = .ok (.iload_n 2, 1) := by decide +kernel
theorem dX12_licksAct_87 : decode cX12_licksAct 87 = .ok (.invokevirtual 409, 3) := by decide +kernel
theorem dX12_licksAct_90 : decode cX12_licksAct 90 = .ok (.ireturn, 1) := by decide +kernel
noncomputable def C_X12_licksAct : List (Nat × qOp) := [(0, qo_aload 0 1),
  (1, qo_getR 12 4),
  (4, qo_iload 1 1),
  (5, qo_iaload),
  (6, qo_lsw [(1, 40), (4, 47), (6, 62)] 84),
  (40, qo_aload 0 1),
  (41, qo_iload 1 1),
  (42, qo_iload 2 1),
  (43, qo_callv [(12, S_X12_quickLicks)] 2),
  (46, qo_ret (some .int) 1),
  (47, qo_aload 0 1),
  (48, qo_ci 51 2),
  (50, qo_callv [(12, S_X12_body)] 1),
  (53, qo_aload 0 1),
  (54, qo_iload 1 1),
  (55, qo_iload 2 1),
  (56, qo_ci 1 1),
  (57, qo_iadd),
  (58, qo_callv [(12, S_X12_quickLicks)] 2),
  (61, qo_ret (some .int) 1),
  (62, qo_aload 0 1),
  (63, qo_ci 70 2),
  (65, qo_callv [(12, S_X12_body)] 1),
  (68, qo_aload 0 1),
  (69, qo_iload 1 1),
  (70, qo_iload 2 1),
  (71, qo_callv [(12, S_X12_personLicks)] 2),
  (74, qo_istore 3 1),
  (75, qo_iload 3 1),
  (76, qo_aload 0 1),
  (77, qo_iload 1 1),
  (78, qo_ci 2 1),
  (79, qo_callv [(12, S_X12_personFolds)] 2),
  (82, qo_iadd),
  (83, qo_ret (some .int) 1),
  (84, qo_aload 0 1),
  (85, qo_iload 1 1),
  (86, qo_iload 2 1),
  (87, qo_callv [(12, S_X12_personLicks)] 2),
  (90, qo_ret (some .int) 1)]
noncomputable def S_X12_licksAct : qSem := qM 4 C_X12_licksAct
set_option maxRecDepth 20000 in
theorem K_X12_licksAct {X : qX} {l : Launch} : ∀ q ∈ C_X12_licksAct, qOk X l 6 cX12_licksAct 4 RX12 "licksAct" (some .int) q.1 q.2 := by
  unfold C_X12_licksAct
  refine qcons (qk_aload_n dX12_licksAct_0 rfl) ?_
  refine qcons (qk_getR fd_X12_23 kd_12_4 dX12_licksAct_1) ?_
  refine qcons (qk_iload_n dX12_licksAct_4 rfl) ?_
  refine qcons (qk_iaload dX12_licksAct_5) ?_
  refine qcons (qk_lsw dX12_licksAct_6 (by decide) (by decide) (by decide)) ?_
  refine qcons (qk_aload_n dX12_licksAct_40 rfl) ?_
  refine qcons (qk_iload_n dX12_licksAct_41 rfl) ?_
  refine qcons (qk_iload_n dX12_licksAct_42 rfl) ?_
  refine qcons (qk_callv (ins := fun i => .invokevirtual i) (qconsV (qrunV M_X12_quickLicks (by decide) (by decide) (by decide) rfl tw_1401 tw_1403 tw_72 tw_1404 tw_90 ⟨by decide, by decide⟩ (by decide +kernel)) qnilV) dX12_licksAct_43) ?_
  refine qcons (qk_ret dX12_licksAct_46 (Or.inr (Or.inl ⟨rfl, rfl⟩))) ?_
  refine qcons (qk_aload_n dX12_licksAct_47 rfl) ?_
  refine qcons (qk_bipush dX12_licksAct_48 (by decide) (by decide)) ?_
  refine qcons (qk_callv (ins := fun i => .invokevirtual i) (qconsV (qrunV M_X12_body (by decide) (by decide) (by decide) rfl tw_1389 tw_1391 tw_69 tw_1392 tw_90 ⟨by decide, by decide⟩ (by decide +kernel)) qnilV) dX12_licksAct_50) ?_
  refine qcons (qk_aload_n dX12_licksAct_53 rfl) ?_
  refine qcons (qk_iload_n dX12_licksAct_54 rfl) ?_
  refine qcons (qk_iload_n dX12_licksAct_55 rfl) ?_
  refine qcons (qk_iconst dX12_licksAct_56 (by decide)) ?_
  refine qcons (qk_iadd dX12_licksAct_57) ?_
  refine qcons (qk_callv (ins := fun i => .invokevirtual i) (qconsV (qrunV M_X12_quickLicks (by decide) (by decide) (by decide) rfl tw_1401 tw_1403 tw_72 tw_1404 tw_90 ⟨by decide, by decide⟩ (by decide +kernel)) qnilV) dX12_licksAct_58) ?_
  refine qcons (qk_ret dX12_licksAct_61 (Or.inr (Or.inl ⟨rfl, rfl⟩))) ?_
  refine qcons (qk_aload_n dX12_licksAct_62 rfl) ?_
  refine qcons (qk_bipush dX12_licksAct_63 (by decide) (by decide)) ?_
  refine qcons (qk_callv (ins := fun i => .invokevirtual i) (qconsV (qrunV M_X12_body (by decide) (by decide) (by decide) rfl tw_1389 tw_1391 tw_69 tw_1392 tw_90 ⟨by decide, by decide⟩ (by decide +kernel)) qnilV) dX12_licksAct_65) ?_
  refine qcons (qk_aload_n dX12_licksAct_68 rfl) ?_
  refine qcons (qk_iload_n dX12_licksAct_69 rfl) ?_
  refine qcons (qk_iload_n dX12_licksAct_70 rfl) ?_
  refine qcons (qk_callv (ins := fun i => .invokevirtual i) (qconsV (qrunV M_X12_personLicks (by decide) (by decide) (by decide) rfl tw_1405 tw_1407 tw_73 tw_1408 tw_90 ⟨by decide, by decide⟩ (by decide +kernel)) qnilV) dX12_licksAct_71) ?_
  refine qcons (qk_istore_n dX12_licksAct_74 rfl) ?_
  refine qcons (qk_iload_n dX12_licksAct_75 rfl) ?_
  refine qcons (qk_aload_n dX12_licksAct_76 rfl) ?_
  refine qcons (qk_iload_n dX12_licksAct_77 rfl) ?_
  refine qcons (qk_iconst dX12_licksAct_78 (by decide)) ?_
  refine qcons (qk_callv (ins := fun i => .invokevirtual i) (qconsV (qrunV M_X12_personFolds (by decide) (by decide) (by decide) rfl tw_1393 tw_1395 tw_70 tw_1396 tw_90 ⟨by decide, by decide⟩ (by decide +kernel)) qnilV) dX12_licksAct_79) ?_
  refine qcons (qk_iadd dX12_licksAct_82) ?_
  refine qcons (qk_ret dX12_licksAct_83 (Or.inr (Or.inl ⟨rfl, rfl⟩))) ?_
  refine qcons (qk_aload_n dX12_licksAct_84 rfl) ?_
  refine qcons (qk_iload_n dX12_licksAct_85 rfl) ?_
  refine qcons (qk_iload_n dX12_licksAct_86 rfl) ?_
  refine qcons (qk_callv (ins := fun i => .invokevirtual i) (qconsV (qrunV M_X12_personLicks (by decide) (by decide) (by decide) rfl tw_1405 tw_1407 tw_73 tw_1408 tw_90 ⟨by decide, by decide⟩ (by decide +kernel)) qnilV) dX12_licksAct_87) ?_
  refine qcons (qk_ret dX12_licksAct_90 (Or.inr (Or.inl ⟨rfl, rfl⟩))) ?_
  exact qnil
theorem M_X12_licksAct {X : qX} {l : Launch} : qMet X l 6 yX12_licksAct cX12_licksAct 4 (some .int) S_X12_licksAct := qmet_of K_X12_licksAct (by decide) rfl rfl
theorem dX12_personTells_0 : decode cX12_personTells 0 = .ok (.aload_n 0, 1) := by decide +kernel
theorem dX12_personTells_1 : decode cX12_personTells 1 = .ok (.bipush 12, 2) := by decide +kernel
theorem dX12_personTells_3 : decode cX12_personTells 3 = .ok (.invokevirtual 400, 3) := by decide +kernel
theorem dX12_personTells_6 : decode cX12_personTells 6 = .ok (.aload_n 0, 1) := by decide +kernel
theorem dX12_personTells_7 : decode cX12_personTells 7 = .ok (.iload_n 1, 1) := by decide +kernel
theorem dX12_personTells_8 : decode cX12_personTells 8 = .ok (.iload_n 2, 1) := by decide +kernel
theorem dX12_personTells_9 : decode cX12_personTells 9 = .ok (.invokevirtual 415, 3) := by decide +kernel
theorem dX12_personTells_12 : decode cX12_personTells 12 = .ok (.iconst 2, 1) := by decide +kernel
theorem dX12_personTells_13 : decode cX12_personTells 13 = .ok (.imul, 1) := by decide +kernel
theorem dX12_personTells_14 : decode cX12_personTells 14 = .ok (.ireturn, 1) := by decide +kernel
noncomputable def C_X12_personTells : List (Nat × qOp) := [(0, qo_aload 0 1),
  (1, qo_ci 12 2),
  (3, qo_callv [(12, S_X12_body)] 1),
  (6, qo_aload 0 1),
  (7, qo_iload 1 1),
  (8, qo_iload 2 1),
  (9, qo_callv [(12, S_X12_licksAct)] 2),
  (12, qo_ci 2 1),
  (13, qo_imul),
  (14, qo_ret (some .int) 1)]
noncomputable def S_X12_personTells : qSem := qM 3 C_X12_personTells
set_option maxRecDepth 20000 in
theorem K_X12_personTells {X : qX} {l : Launch} : ∀ q ∈ C_X12_personTells, qOk X l 7 cX12_personTells 3 RX12 "personTells" (some .int) q.1 q.2 := by
  unfold C_X12_personTells
  refine qcons (qk_aload_n dX12_personTells_0 rfl) ?_
  refine qcons (qk_bipush dX12_personTells_1 (by decide) (by decide)) ?_
  refine qcons (qk_callv (ins := fun i => .invokevirtual i) (qconsV (qrunV M_X12_body (by decide) (by decide) (by decide) rfl tw_1389 tw_1391 tw_69 tw_1392 tw_90 ⟨by decide, by decide⟩ (by decide +kernel)) qnilV) dX12_personTells_3) ?_
  refine qcons (qk_aload_n dX12_personTells_6 rfl) ?_
  refine qcons (qk_iload_n dX12_personTells_7 rfl) ?_
  refine qcons (qk_iload_n dX12_personTells_8 rfl) ?_
  refine qcons (qk_callv (ins := fun i => .invokevirtual i) (qconsV (qrunV M_X12_licksAct (by decide) (by decide) (by decide) rfl tw_1397 tw_1399 tw_71 tw_1400 tw_90 ⟨by decide, by decide⟩ (by decide +kernel)) qnilV) dX12_personTells_9) ?_
  refine qcons (qk_iconst dX12_personTells_12 (by decide)) ?_
  refine qcons (qk_imul dX12_personTells_13) ?_
  refine qcons (qk_ret dX12_personTells_14 (Or.inr (Or.inl ⟨rfl, rfl⟩))) ?_
  exact qnil
theorem M_X12_personTells {X : qX} {l : Launch} : qMet X l 7 yX12_personTells cX12_personTells 3 (some .int) S_X12_personTells := qmet_of K_X12_personTells (by decide) rfl rfl
theorem dX12_tellsAct_0 : decode cX12_tellsAct 0 = .ok (.aload_n 0, 1) := by decide +kernel
theorem dX12_tellsAct_1 : decode cX12_tellsAct 1 = .ok (.getfield 23, 3) := by decide +kernel
theorem dX12_tellsAct_4 : decode cX12_tellsAct 4 = .ok (.iload_n 1, 1) := by decide +kernel
theorem dX12_tellsAct_5 : decode cX12_tellsAct 5 = .ok (.iaload, 1) := by decide +kernel
theorem dX12_tellsAct_6 : decode cX12_tellsAct 6 = .ok (.tableswitch 67 3 6 #[30, 67, 52, 30], 30) := by decide +kernel
theorem dX12_tellsAct_36 : decode cX12_tellsAct 36 = .ok (.aload_n 0, 1) := by decide +kernel
theorem dX12_tellsAct_37 : decode cX12_tellsAct 37 = .ok (.bipush 40, 2) := by decide +kernel
theorem dX12_tellsAct_39 : decode cX12_tellsAct 39 = .ok (.invokevirtual 400, 3) := by decide +kernel
theorem dX12_tellsAct_42 : decode cX12_tellsAct 42 = .ok (.aload_n 0, 1) := by decide +kernel
theorem dX12_tellsAct_43 : decode cX12_tellsAct 43 = .ok (.iload_n 1, 1) := by decide +kernel
theorem dX12_tellsAct_44 : decode cX12_tellsAct 44 = .ok (.iload_n 2, 1) := by decide +kernel
theorem dX12_tellsAct_45 : decode cX12_tellsAct 45 = .ok (.invokevirtual 418, 3) := by decide +kernel
theorem dX12_tellsAct_48 : decode cX12_tellsAct 48 = .ok (.istore_n 3, 1) := by decide +kernel
theorem dX12_tellsAct_49 : decode cX12_tellsAct 49 = .ok (.iload_n 3, 1) := by decide +kernel
theorem dX12_tellsAct_50 : decode cX12_tellsAct 50 = .ok (.aload_n 0, 1) := by decide +kernel
theorem dX12_tellsAct_51 : decode cX12_tellsAct 51 = .ok (.iload_n 1, 1) := by decide +kernel
theorem dX12_tellsAct_52 : decode cX12_tellsAct 52 = .ok (.iconst 1, 1) := by decide +kernel
theorem dX12_tellsAct_53 : decode cX12_tellsAct 53 = .ok (.invokevirtual 415, 3) := by decide +kernel
theorem dX12_tellsAct_56 : decode cX12_tellsAct 56 = .ok (.iadd, 1) := by decide +kernel
theorem dX12_tellsAct_57 : decode cX12_tellsAct 57 = .ok (.ireturn, 1) := by decide +kernel
theorem dX12_tellsAct_58 : decode cX12_tellsAct 58 = .ok (.aload_n 0, 1) := by decide +kernel
theorem dX12_tellsAct_59 : decode cX12_tellsAct 59 = .ok (.bipush 60, 2) := by decide +kernel
theorem dX12_tellsAct_61 : decode cX12_tellsAct 61 = .ok (.invokevirtual 400, 3) := by decide +kernel
theorem dX12_tellsAct_64 : decode cX12_tellsAct 64 = .ok (.aload_n 0, 1) := by decide +kernel
theorem dX12_tellsAct_65 : decode cX12_tellsAct 65 = .ok (.iload_n 1, 1) := by decide +kernel
theorem dX12_tellsAct_66 : decode cX12_tellsAct 66 = .ok (.iload_n 2, 1) := by decide +kernel
theorem dX12_tellsAct_67 : decode cX12_tellsAct 67 = .ok (.iload_n 1, 1) := by decide +kernel
theorem dX12_tellsAct_68 : decode cX12_tellsAct 68 = .ok (.isub, 1) := by decide +kernel
theorem dX12_tellsAct_69 : decode cX12_tellsAct 69 = .ok (.invokevirtual 418, 3) := by decide +kernel
theorem dX12_tellsAct_72 : decode cX12_tellsAct 72 = .ok (.ireturn, 1) := by decide +kernel
theorem dX12_tellsAct_73 : decode cX12_tellsAct 73 = .ok (.aload_n 0, 1) := by decide +kernel
theorem dX12_tellsAct_74 : decode cX12_tellsAct 74 = .ok (.iload_n 1, 1) := by decide +kernel
theorem dX12_tellsAct_75 : decode cX12_tellsAct 75 = .ok (.iload_n 2, 1) := by decide +kernel
theorem dX12_tellsAct_76 : decode cX12_tellsAct 76 = .ok (.invokevirtual 418, 3) := by decide +kernel
theorem dX12_tellsAct_79 : decode cX12_tellsAct 79 = .ok (.ireturn, 1) := by decide +kernel
noncomputable def C_X12_tellsAct : List (Nat × qOp) := [(0, qo_aload 0 1),
  (1, qo_getR 12 4),
  (4, qo_iload 1 1),
  (5, qo_iaload),
  (6, qo_tsw 3 [36, 73, 58, 36] 73),
  (36, qo_aload 0 1),
  (37, qo_ci 40 2),
  (39, qo_callv [(12, S_X12_body)] 1),
  (42, qo_aload 0 1),
  (43, qo_iload 1 1),
  (44, qo_iload 2 1),
  (45, qo_callv [(12, S_X12_personTells)] 2),
  (48, qo_istore 3 1),
  (49, qo_iload 3 1),
  (50, qo_aload 0 1),
  (51, qo_iload 1 1),
  (52, qo_ci 1 1),
  (53, qo_callv [(12, S_X12_licksAct)] 2),
  (56, qo_iadd),
  (57, qo_ret (some .int) 1),
  (58, qo_aload 0 1),
  (59, qo_ci 60 2),
  (61, qo_callv [(12, S_X12_body)] 1),
  (64, qo_aload 0 1),
  (65, qo_iload 1 1),
  (66, qo_iload 2 1),
  (67, qo_iload 1 1),
  (68, qo_isub),
  (69, qo_callv [(12, S_X12_personTells)] 2),
  (72, qo_ret (some .int) 1),
  (73, qo_aload 0 1),
  (74, qo_iload 1 1),
  (75, qo_iload 2 1),
  (76, qo_callv [(12, S_X12_personTells)] 2),
  (79, qo_ret (some .int) 1)]
noncomputable def S_X12_tellsAct : qSem := qM 4 C_X12_tellsAct
set_option maxRecDepth 20000 in
theorem K_X12_tellsAct {X : qX} {l : Launch} : ∀ q ∈ C_X12_tellsAct, qOk X l 8 cX12_tellsAct 4 RX12 "tellsAct" (some .int) q.1 q.2 := by
  unfold C_X12_tellsAct
  refine qcons (qk_aload_n dX12_tellsAct_0 rfl) ?_
  refine qcons (qk_getR fd_X12_23 kd_12_4 dX12_tellsAct_1) ?_
  refine qcons (qk_iload_n dX12_tellsAct_4 rfl) ?_
  refine qcons (qk_iaload dX12_tellsAct_5) ?_
  refine qcons (qk_tsw dX12_tellsAct_6 (by decide) (by decide) (by decide)) ?_
  refine qcons (qk_aload_n dX12_tellsAct_36 rfl) ?_
  refine qcons (qk_bipush dX12_tellsAct_37 (by decide) (by decide)) ?_
  refine qcons (qk_callv (ins := fun i => .invokevirtual i) (qconsV (qrunV M_X12_body (by decide) (by decide) (by decide) rfl tw_1389 tw_1391 tw_69 tw_1392 tw_90 ⟨by decide, by decide⟩ (by decide +kernel)) qnilV) dX12_tellsAct_39) ?_
  refine qcons (qk_aload_n dX12_tellsAct_42 rfl) ?_
  refine qcons (qk_iload_n dX12_tellsAct_43 rfl) ?_
  refine qcons (qk_iload_n dX12_tellsAct_44 rfl) ?_
  refine qcons (qk_callv (ins := fun i => .invokevirtual i) (qconsV (qrunV M_X12_personTells (by decide) (by decide) (by decide) rfl tw_1413 tw_1415 tw_75 tw_1416 tw_90 ⟨by decide, by decide⟩ (by decide +kernel)) qnilV) dX12_tellsAct_45) ?_
  refine qcons (qk_istore_n dX12_tellsAct_48 rfl) ?_
  refine qcons (qk_iload_n dX12_tellsAct_49 rfl) ?_
  refine qcons (qk_aload_n dX12_tellsAct_50 rfl) ?_
  refine qcons (qk_iload_n dX12_tellsAct_51 rfl) ?_
  refine qcons (qk_iconst dX12_tellsAct_52 (by decide)) ?_
  refine qcons (qk_callv (ins := fun i => .invokevirtual i) (qconsV (qrunV M_X12_licksAct (by decide) (by decide) (by decide) rfl tw_1397 tw_1399 tw_71 tw_1400 tw_90 ⟨by decide, by decide⟩ (by decide +kernel)) qnilV) dX12_tellsAct_53) ?_
  refine qcons (qk_iadd dX12_tellsAct_56) ?_
  refine qcons (qk_ret dX12_tellsAct_57 (Or.inr (Or.inl ⟨rfl, rfl⟩))) ?_
  refine qcons (qk_aload_n dX12_tellsAct_58 rfl) ?_
  refine qcons (qk_bipush dX12_tellsAct_59 (by decide) (by decide)) ?_
  refine qcons (qk_callv (ins := fun i => .invokevirtual i) (qconsV (qrunV M_X12_body (by decide) (by decide) (by decide) rfl tw_1389 tw_1391 tw_69 tw_1392 tw_90 ⟨by decide, by decide⟩ (by decide +kernel)) qnilV) dX12_tellsAct_61) ?_
  refine qcons (qk_aload_n dX12_tellsAct_64 rfl) ?_
  refine qcons (qk_iload_n dX12_tellsAct_65 rfl) ?_
  refine qcons (qk_iload_n dX12_tellsAct_66 rfl) ?_
  refine qcons (qk_iload_n dX12_tellsAct_67 rfl) ?_
  refine qcons (qk_isub dX12_tellsAct_68) ?_
  refine qcons (qk_callv (ins := fun i => .invokevirtual i) (qconsV (qrunV M_X12_personTells (by decide) (by decide) (by decide) rfl tw_1413 tw_1415 tw_75 tw_1416 tw_90 ⟨by decide, by decide⟩ (by decide +kernel)) qnilV) dX12_tellsAct_69) ?_
  refine qcons (qk_ret dX12_tellsAct_72 (Or.inr (Or.inl ⟨rfl, rfl⟩))) ?_
  refine qcons (qk_aload_n dX12_tellsAct_73 rfl) ?_
  refine qcons (qk_iload_n dX12_tellsAct_74 rfl) ?_
  refine qcons (qk_iload_n dX12_tellsAct_75 rfl) ?_
  refine qcons (qk_callv (ins := fun i => .invokevirtual i) (qconsV (qrunV M_X12_personTells (by decide) (by decide) (by decide) rfl tw_1413 tw_1415 tw_75 tw_1416 tw_90 ⟨by decide, by decide⟩ (by decide +kernel)) qnilV) dX12_tellsAct_76) ?_
  refine qcons (qk_ret dX12_tellsAct_79 (Or.inr (Or.inl ⟨rfl, rfl⟩))) ?_
  exact qnil
theorem M_X12_tellsAct {X : qX} {l : Launch} : qMet X l 8 yX12_tellsAct cX12_tellsAct 4 (some .int) S_X12_tellsAct := qmet_of K_X12_tellsAct (by decide) rfl rfl
theorem dX12_act_0 : decode cX12_act 0 = .ok (.aload_n 0, 1) := by decide +kernel
theorem dX12_act_1 : decode cX12_act 1 = .ok (.iconst 0, 1) := by decide +kernel
theorem dX12_act_2 : decode cX12_act 2 = .ok (.putfield 221, 3) := by decide +kernel
theorem dX12_act_5 : decode cX12_act 5 = .ok (.aload_n 0, 1) := by decide +kernel
theorem dX12_act_6 : decode cX12_act 6 = .ok (.iload_n 1, 1) := by decide +kernel
theorem dX12_act_7 : decode cX12_act 7 = .ok (.invokevirtual 248, 3) := by decide +kernel
theorem dX12_act_10 : decode cX12_act 10 = .ok (.ifCond .eq 13, 3) := by decide +kernel
theorem dX12_act_13 : decode cX12_act 13 = .ok (.aload_n 0, 1) := by decide +kernel
theorem dX12_act_14 : decode cX12_act 14 = .ok (.iload_n 2, 1) := by decide +kernel
theorem dX12_act_15 : decode cX12_act 15 = .ok (.iconst 0, 1) := by decide +kernel
theorem dX12_act_16 : decode cX12_act 16 = .ok (.iconst 2, 1) := by decide +kernel
theorem dX12_act_17 : decode cX12_act 17 = .ok (.invokevirtual 240, 3) := by decide +kernel
theorem dX12_act_20 : decode cX12_act 20 = .ok (.ifCond .ne 5, 3) := by decide +kernel
theorem dX12_act_23 : decode cX12_act 23 = .ok (.iconst 0, 1) := by decide +kernel
theorem dX12_act_24 : decode cX12_act 24 = .ok (.ireturn, 1) := by decide +kernel
theorem dX12_act_25 : decode cX12_act 25 = .ok (.iload_n 2, 1) := by decide +kernel
theorem dX12_act_26 : decode cX12_act 26 = .ok (.ifCond .ne 12, 3) := by decide +kernel
theorem dX12_act_29 : decode cX12_act 29 = .ok (.aload_n 0, 1) := by decide +kernel
theorem dX12_act_30 : decode cX12_act 30 = .ok (.iload_n 1, 1) := by decide +kernel
theorem dX12_act_31 : decode cX12_act 31 = .ok (.iload_n 3, 1) := by decide +kernel
theorem dX12_act_32 : decode cX12_act 32 = .ok (.invokevirtual 406, 3) := by decide +kernel
theorem dX12_act_35 : decode cX12_act 35 = .ok (.goto 23, 3) := by decide +kernel
theorem dX12_act_38 : decode cX12_act 38 = .ok (.iload_n 2, 1) := by decide +kernel
theorem dX12_act_39 : decode cX12_act 39 = .ok (.iconst 1, 1) := by decide +kernel
theorem dX12_act_40 : decode cX12_act 40 = .ok (.if_icmp .ne 12, 3) := by decide +kernel
theorem dX12_act_43 : decode cX12_act 43 = .ok (.aload_n 0, 1) := by decide +kernel
theorem dX12_act_44 : decode cX12_act 44 = .ok (.iload_n 1, 1) := by decide +kernel
theorem dX12_act_45 : decode cX12_act 45 = .ok (.iload_n 3, 1) := by decide +kernel
theorem dX12_act_46 : decode cX12_act 46 = .ok (.invokevirtual 415, 3) := by decide +kernel
theorem dX12_act_49 : decode cX12_act 49 = .ok (.goto 9, 3) := by decide +kernel
theorem dX12_act_52 : decode cX12_act 52 = .ok (.aload_n 0, 1) := by decide +kernel
theorem dX12_act_53 : decode cX12_act 53 = .ok (.iload_n 1, 1) := by decide +kernel
theorem dX12_act_54 : decode cX12_act 54 = .ok (.iload_n 3, 1) := by decide +kernel
theorem dX12_act_55 : decode cX12_act 55 = .ok (.invokevirtual 421, 3) := by decide +kernel
theorem dX12_act_58 : decode cX12_act 58 = .ok (.ireturn, 1) := by decide +kernel
noncomputable def C_X12_act : List (Nat × qOp) := [(0, qo_aload 0 1),
  (1, qo_ci 0 1),
  (2, qo_putI 12 69),
  (5, qo_aload 0 1),
  (6, qo_iload 1 1),
  (7, qo_callv [(12, S_X12_isPerson)] 1),
  (10, qo_ifeq 23),
  (13, qo_aload 0 1),
  (14, qo_iload 2 1),
  (15, qo_ci 0 1),
  (16, qo_ci 2 1),
  (17, qo_callv [(12, S_X12_in)] 3),
  (20, qo_ifne 25),
  (23, qo_ci 0 1),
  (24, qo_ret (some .int) 1),
  (25, qo_iload 2 1),
  (26, qo_ifne 38),
  (29, qo_aload 0 1),
  (30, qo_iload 1 1),
  (31, qo_iload 3 1),
  (32, qo_callv [(12, S_X12_foldsAct)] 2),
  (35, qo_goto 58),
  (38, qo_iload 2 1),
  (39, qo_ci 1 1),
  (40, qo_icne 52),
  (43, qo_aload 0 1),
  (44, qo_iload 1 1),
  (45, qo_iload 3 1),
  (46, qo_callv [(12, S_X12_licksAct)] 2),
  (49, qo_goto 58),
  (52, qo_aload 0 1),
  (53, qo_iload 1 1),
  (54, qo_iload 3 1),
  (55, qo_callv [(12, S_X12_tellsAct)] 2),
  (58, qo_ret (some .int) 1)]
noncomputable def S_X12_act : qSem := qM 4 C_X12_act
set_option maxRecDepth 20000 in
theorem K_X12_act {X : qX} {l : Launch} : ∀ q ∈ C_X12_act, qOk X l 9 cX12_act 4 RX12 "act" (some .int) q.1 q.2 := by
  unfold C_X12_act
  refine qcons (qk_aload_n dX12_act_0 rfl) ?_
  refine qcons (qk_iconst dX12_act_1 (by decide)) ?_
  refine qcons (qk_putI (ty := .int) fd_X12_221 tyX12_ok nmX12 (Or.inl rfl) kd_12_69 (tyX12_ok 69 (by decide)) dX12_act_2) ?_
  refine qcons (qk_aload_n dX12_act_5 rfl) ?_
  refine qcons (qk_iload_n dX12_act_6 rfl) ?_
  refine qcons (qk_callv (ins := fun i => .invokevirtual i) (qconsV (qrunV M_X12_isPerson (by decide) (by decide) (by decide) rfl tw_1094 tw_1096 tw_22 tw_1097 tw_90 ⟨by decide, by decide⟩ (by decide +kernel)) qnilV) dX12_act_7) ?_
  refine qcons (qk_ifeq dX12_act_10 (by decide)) ?_
  refine qcons (qk_aload_n dX12_act_13 rfl) ?_
  refine qcons (qk_iload_n dX12_act_14 rfl) ?_
  refine qcons (qk_iconst dX12_act_15 (by decide)) ?_
  refine qcons (qk_iconst dX12_act_16 (by decide)) ?_
  refine qcons (qk_callv (ins := fun i => .invokevirtual i) (qconsV (qrunV M_X12_in (by decide) (by decide) (by decide) rfl tw_1082 tw_1084 tw_20 tw_1085 tw_90 ⟨by decide, by decide⟩ (by decide +kernel)) qnilV) dX12_act_17) ?_
  refine qcons (qk_ifne dX12_act_20 (by decide)) ?_
  refine qcons (qk_iconst dX12_act_23 (by decide)) ?_
  refine qcons (qk_ret dX12_act_24 (Or.inr (Or.inl ⟨rfl, rfl⟩))) ?_
  refine qcons (qk_iload_n dX12_act_25 rfl) ?_
  refine qcons (qk_ifne dX12_act_26 (by decide)) ?_
  refine qcons (qk_aload_n dX12_act_29 rfl) ?_
  refine qcons (qk_iload_n dX12_act_30 rfl) ?_
  refine qcons (qk_iload_n dX12_act_31 rfl) ?_
  refine qcons (qk_callv (ins := fun i => .invokevirtual i) (qconsV (qrunV M_X12_foldsAct (by decide) (by decide) (by decide) rfl tw_1385 tw_1387 tw_68 tw_1388 tw_90 ⟨by decide, by decide⟩ (by decide +kernel)) qnilV) dX12_act_32) ?_
  refine qcons (qk_goto dX12_act_35 (by decide)) ?_
  refine qcons (qk_iload_n dX12_act_38 rfl) ?_
  refine qcons (qk_iconst dX12_act_39 (by decide)) ?_
  refine qcons (qk_icne dX12_act_40 (by decide)) ?_
  refine qcons (qk_aload_n dX12_act_43 rfl) ?_
  refine qcons (qk_iload_n dX12_act_44 rfl) ?_
  refine qcons (qk_iload_n dX12_act_45 rfl) ?_
  refine qcons (qk_callv (ins := fun i => .invokevirtual i) (qconsV (qrunV M_X12_licksAct (by decide) (by decide) (by decide) rfl tw_1397 tw_1399 tw_71 tw_1400 tw_90 ⟨by decide, by decide⟩ (by decide +kernel)) qnilV) dX12_act_46) ?_
  refine qcons (qk_goto dX12_act_49 (by decide)) ?_
  refine qcons (qk_aload_n dX12_act_52 rfl) ?_
  refine qcons (qk_iload_n dX12_act_53 rfl) ?_
  refine qcons (qk_iload_n dX12_act_54 rfl) ?_
  refine qcons (qk_callv (ins := fun i => .invokevirtual i) (qconsV (qrunV M_X12_tellsAct (by decide) (by decide) (by decide) rfl tw_1409 tw_1411 tw_74 tw_1412 tw_90 ⟨by decide, by decide⟩ (by decide +kernel)) qnilV) dX12_act_55) ?_
  refine qcons (qk_ret dX12_act_58 (Or.inr (Or.inl ⟨rfl, rfl⟩))) ?_
  exact qnil
theorem M_X12_act {X : qX} {l : Launch} : qMet X l 9 yX12_act cX12_act 4 (some .int) S_X12_act := qmet_of K_X12_act (by decide) rfl rfl
theorem dX12_trace_0 : decode cX12_trace 0 = .ok (.aload_n 0, 1) := by decide +kernel
theorem dX12_trace_1 : decode cX12_trace 1 = .ok (.iload_n 1, 1) := by decide +kernel
theorem dX12_trace_2 : decode cX12_trace 2 = .ok (.iconst 0, 1) := by decide +kernel
theorem dX12_trace_3 : decode cX12_trace 3 = .ok (.bipush 19, 2) := by decide +kernel
theorem dX12_trace_5 : decode cX12_trace 5 = .ok (.invokevirtual 240, 3) := by decide +kernel
theorem dX12_trace_8 : decode cX12_trace 8 = .ok (.ifCond .eq 20, 3) := by decide +kernel
theorem dX12_trace_11 : decode cX12_trace 11 = .ok (.iload_n 1, 1) := by decide +kernel
theorem dX12_trace_12 : decode cX12_trace 12 = .ok (.aload_n 0, 1) := by decide +kernel
theorem dX12_trace_13 : decode cX12_trace 13 = .ok (.getfield 221, 3) := by decide +kernel
theorem dX12_trace_16 : decode cX12_trace 16 = .ok (.if_icmp .ge 12, 3) := by decide +kernel
theorem dX12_trace_19 : decode cX12_trace 19 = .ok (.aload_n 0, 1) := by decide +kernel
theorem dX12_trace_20 : decode cX12_trace 20 = .ok (.getfield 224, 3) := by decide +kernel
theorem dX12_trace_23 : decode cX12_trace 23 = .ok (.iload_n 1, 1) := by decide +kernel
theorem dX12_trace_24 : decode cX12_trace 24 = .ok (.iaload, 1) := by decide +kernel
theorem dX12_trace_25 : decode cX12_trace 25 = .ok (.goto 4, 3) := by decide +kernel
theorem dX12_trace_28 : decode cX12_trace 28 = .ok (.iconst (-1), 1) := by decide +kernel
theorem dX12_trace_29 : decode cX12_trace 29 = .ok (.ireturn, 1) := by decide +kernel
noncomputable def C_X12_trace : List (Nat × qOp) := [(0, qo_aload 0 1),
  (1, qo_iload 1 1),
  (2, qo_ci 0 1),
  (3, qo_ci 19 2),
  (5, qo_callv [(12, S_X12_in)] 3),
  (8, qo_ifeq 28),
  (11, qo_iload 1 1),
  (12, qo_aload 0 1),
  (13, qo_getI 12 69),
  (16, qo_icge 28),
  (19, qo_aload 0 1),
  (20, qo_getR 12 70),
  (23, qo_iload 1 1),
  (24, qo_iaload),
  (25, qo_goto 29),
  (28, qo_ci (-1) 1),
  (29, qo_ret (some .int) 1)]
noncomputable def S_X12_trace : qSem := qM 2 C_X12_trace
set_option maxRecDepth 20000 in
theorem K_X12_trace {X : qX} {l : Launch} : ∀ q ∈ C_X12_trace, qOk X l 2 cX12_trace 2 RX12 "trace" (some .int) q.1 q.2 := by
  unfold C_X12_trace
  refine qcons (qk_aload_n dX12_trace_0 rfl) ?_
  refine qcons (qk_iload_n dX12_trace_1 rfl) ?_
  refine qcons (qk_iconst dX12_trace_2 (by decide)) ?_
  refine qcons (qk_bipush dX12_trace_3 (by decide) (by decide)) ?_
  refine qcons (qk_callv (ins := fun i => .invokevirtual i) (qconsV (qrunV M_X12_in (by decide) (by decide) (by decide) rfl tw_1082 tw_1084 tw_20 tw_1085 tw_90 ⟨by decide, by decide⟩ (by decide +kernel)) qnilV) dX12_trace_5) ?_
  refine qcons (qk_ifeq dX12_trace_8 (by decide)) ?_
  refine qcons (qk_iload_n dX12_trace_11 rfl) ?_
  refine qcons (qk_aload_n dX12_trace_12 rfl) ?_
  refine qcons (qk_getI fd_X12_221 kd_12_69 dX12_trace_13) ?_
  refine qcons (qk_icge dX12_trace_16 (by decide)) ?_
  refine qcons (qk_aload_n dX12_trace_19 rfl) ?_
  refine qcons (qk_getR fd_X12_224 kd_12_70 dX12_trace_20) ?_
  refine qcons (qk_iload_n dX12_trace_23 rfl) ?_
  refine qcons (qk_iaload dX12_trace_24) ?_
  refine qcons (qk_goto dX12_trace_25 (by decide)) ?_
  refine qcons (qk_iconst dX12_trace_28 (by decide)) ?_
  refine qcons (qk_ret dX12_trace_29 (Or.inr (Or.inl ⟨rfl, rfl⟩))) ?_
  exact qnil
theorem M_X12_trace {X : qX} {l : Launch} : qMet X l 2 yX12_trace cX12_trace 2 (some .int) S_X12_trace := qmet_of K_X12_trace (by decide) rfl rfl
theorem dX12_taken_0 : decode cX12_taken 0 = .ok (.aload_n 0, 1) := by decide +kernel
theorem dX12_taken_1 : decode cX12_taken 1 = .ok (.iload_n 2, 1) := by decide +kernel
theorem dX12_taken_2 : decode cX12_taken 2 = .ok (.iconst 0, 1) := by decide +kernel
theorem dX12_taken_3 : decode cX12_taken 3 = .ok (.bipush 6, 2) := by decide +kernel
theorem dX12_taken_5 : decode cX12_taken 5 = .ok (.invokevirtual 240, 3) := by decide +kernel
theorem dX12_taken_8 : decode cX12_taken 8 = .ok (.ifCond .ne 6, 3) := by decide +kernel
theorem dX12_taken_11 : decode cX12_taken 11 = .ok (.bipush (-2), 2) := by decide +kernel
theorem dX12_taken_13 : decode cX12_taken 13 = .ok (.ireturn, 1) := by decide +kernel
theorem dX12_taken_14 : decode cX12_taken 14 = .ok (.aload_n 0, 1) := by decide +kernel
theorem dX12_taken_15 : decode cX12_taken 15 = .ok (.iload_n 1, 1) := by decide +kernel
theorem dX12_taken_16 : decode cX12_taken 16 = .ok (.invokevirtual 248, 3) := by decide +kernel
theorem dX12_taken_19 : decode cX12_taken 19 = .ok (.ifCond .ne 6, 3) := by decide +kernel
theorem dX12_taken_22 : decode cX12_taken 22 = .ok (.bipush (-11), 2) := by decide +kernel
theorem dX12_taken_24 : decode cX12_taken 24 = .ok (.ireturn, 1) := by decide +kernel
theorem dX12_taken_25 : decode cX12_taken 25 = .ok (.aload_n 0, 1) := by decide +kernel
theorem dX12_taken_26 : decode cX12_taken 26 = .ok (.getfield 23, 3) := by decide +kernel
theorem dX12_taken_29 : decode cX12_taken 29 = .ok (.iload_n 1, 1) := by decide +kernel
theorem dX12_taken_30 : decode cX12_taken 30 = .ok (.iaload, 1) := by decide +kernel
theorem dX12_taken_31 : decode cX12_taken 31 = .ok (.istore_n 3, 1) := by decide +kernel
theorem dX12_taken_32 : decode cX12_taken 32 = .ok (.iload_n 2, 1) := by decide +kernel
theorem dX12_taken_33 : decode cX12_taken 33 = .ok (.ifCond .eq 39, 3) := by decide +kernel
theorem dX12_taken_36 : decode cX12_taken 36 = .ok (.iload_n 3, 1) := by decide +kernel
theorem dX12_taken_37 : decode cX12_taken 37 = .ok (.iload_n 2, 1) := by decide +kernel
theorem dX12_taken_38 : decode cX12_taken 38 = .ok (.if_icmp .eq 34, 3) := by decide +kernel
theorem dX12_taken_41 : decode cX12_taken 41 = .ok (.iload_n 2, 1) := by decide +kernel
theorem dX12_taken_42 : decode cX12_taken 42 = .ok (.iconst 1, 1) := by decide +kernel
theorem dX12_taken_43 : decode cX12_taken 43 = .ok (.if_icmp .ne 8, 3) := by decide +kernel
theorem dX12_taken_46 : decode cX12_taken 46 = .ok (.iload_n 3, 1) := by decide +kernel
theorem dX12_taken_47 : decode cX12_taken 47 = .ok (.iconst 4, 1) := by decide +kernel
theorem dX12_taken_48 : decode cX12_taken 48 = .ok (.if_icmp .eq 24, 3) := by decide +kernel
theorem dX12_taken_51 : decode cX12_taken 51 = .ok (.iload_n 2, 1) := by decide +kernel
theorem dX12_taken_52 : decode cX12_taken 52 = .ok (.iconst 2, 1) := by decide +kernel
theorem dX12_taken_53 : decode cX12_taken 53 = .ok (.if_icmp .ne 8, 3) := by decide +kernel
theorem dX12_taken_56 : decode cX12_taken 56 = .ok (.iload_n 3, 1) := by decide +kernel
theorem dX12_taken_57 : decode cX12_taken 57 = .ok (.iconst 5, 1) := by decide +kernel
theorem dX12_taken_58 : decode cX12_taken 58 = .ok (.if_icmp .eq 14, 3) := by decide +kernel
theorem dX12_taken_61 : decode cX12_taken 61 = .ok (.iload_n 2, 1) := by decide +kernel
theorem dX12_taken_62 : decode cX12_taken 62 = .ok (.iconst 3, 1) := by decide +kernel
theorem dX12_taken_63 : decode cX12_taken 63 = .ok (.if_icmp .ne 13, 3) := by decide +kernel
theorem dX12_taken_66 : decode cX12_taken 66 = .ok (.iload_n 3, 1) := by decide +kernel
theorem dX12_taken_67 : decode cX12_taken 67 = .ok (.bipush 6, 2) := by decide +kernel
theorem dX12_taken_69 : decode cX12_taken 69 = .ok (.if_icmp .ne 7, 3) := by decide +kernel
theorem dX12_taken_72 : decode cX12_taken 72 = .ok (.iload_n 3, 1) := by decide +kernel
theorem dX12_taken_73 : decode cX12_taken 73 = .ok (.goto 5, 3) := by decide +kernel
theorem dX12_taken_76 : decode cX12_taken 76 = .ok (.bipush (-12), 2) := by decide +kernel
theorem dX12_taken_78 : decode cX12_taken 78 = .ok (.ireturn, 1) := by decide +kernel
noncomputable def C_X12_taken : List (Nat × qOp) := [(0, qo_aload 0 1),
  (1, qo_iload 2 1),
  (2, qo_ci 0 1),
  (3, qo_ci 6 2),
  (5, qo_callv [(12, S_X12_in)] 3),
  (8, qo_ifne 14),
  (11, qo_ci (-2) 2),
  (13, qo_ret (some .int) 1),
  (14, qo_aload 0 1),
  (15, qo_iload 1 1),
  (16, qo_callv [(12, S_X12_isPerson)] 1),
  (19, qo_ifne 25),
  (22, qo_ci (-11) 2),
  (24, qo_ret (some .int) 1),
  (25, qo_aload 0 1),
  (26, qo_getR 12 4),
  (29, qo_iload 1 1),
  (30, qo_iaload),
  (31, qo_istore 3 1),
  (32, qo_iload 2 1),
  (33, qo_ifeq 72),
  (36, qo_iload 3 1),
  (37, qo_iload 2 1),
  (38, qo_iceq 72),
  (41, qo_iload 2 1),
  (42, qo_ci 1 1),
  (43, qo_icne 51),
  (46, qo_iload 3 1),
  (47, qo_ci 4 1),
  (48, qo_iceq 72),
  (51, qo_iload 2 1),
  (52, qo_ci 2 1),
  (53, qo_icne 61),
  (56, qo_iload 3 1),
  (57, qo_ci 5 1),
  (58, qo_iceq 72),
  (61, qo_iload 2 1),
  (62, qo_ci 3 1),
  (63, qo_icne 76),
  (66, qo_iload 3 1),
  (67, qo_ci 6 2),
  (69, qo_icne 76),
  (72, qo_iload 3 1),
  (73, qo_goto 78),
  (76, qo_ci (-12) 2),
  (78, qo_ret (some .int) 1)]
noncomputable def S_X12_taken : qSem := qM 4 C_X12_taken
set_option maxRecDepth 20000 in
theorem K_X12_taken {X : qX} {l : Launch} : ∀ q ∈ C_X12_taken, qOk X l 3 cX12_taken 4 RX12 "taken" (some .int) q.1 q.2 := by
  unfold C_X12_taken
  refine qcons (qk_aload_n dX12_taken_0 rfl) ?_
  refine qcons (qk_iload_n dX12_taken_1 rfl) ?_
  refine qcons (qk_iconst dX12_taken_2 (by decide)) ?_
  refine qcons (qk_bipush dX12_taken_3 (by decide) (by decide)) ?_
  refine qcons (qk_callv (ins := fun i => .invokevirtual i) (qconsV (qrunV M_X12_in (by decide) (by decide) (by decide) rfl tw_1082 tw_1084 tw_20 tw_1085 tw_90 ⟨by decide, by decide⟩ (by decide +kernel)) qnilV) dX12_taken_5) ?_
  refine qcons (qk_ifne dX12_taken_8 (by decide)) ?_
  refine qcons (qk_bipush dX12_taken_11 (by decide) (by decide)) ?_
  refine qcons (qk_ret dX12_taken_13 (Or.inr (Or.inl ⟨rfl, rfl⟩))) ?_
  refine qcons (qk_aload_n dX12_taken_14 rfl) ?_
  refine qcons (qk_iload_n dX12_taken_15 rfl) ?_
  refine qcons (qk_callv (ins := fun i => .invokevirtual i) (qconsV (qrunV M_X12_isPerson (by decide) (by decide) (by decide) rfl tw_1094 tw_1096 tw_22 tw_1097 tw_90 ⟨by decide, by decide⟩ (by decide +kernel)) qnilV) dX12_taken_16) ?_
  refine qcons (qk_ifne dX12_taken_19 (by decide)) ?_
  refine qcons (qk_bipush dX12_taken_22 (by decide) (by decide)) ?_
  refine qcons (qk_ret dX12_taken_24 (Or.inr (Or.inl ⟨rfl, rfl⟩))) ?_
  refine qcons (qk_aload_n dX12_taken_25 rfl) ?_
  refine qcons (qk_getR fd_X12_23 kd_12_4 dX12_taken_26) ?_
  refine qcons (qk_iload_n dX12_taken_29 rfl) ?_
  refine qcons (qk_iaload dX12_taken_30) ?_
  refine qcons (qk_istore_n dX12_taken_31 rfl) ?_
  refine qcons (qk_iload_n dX12_taken_32 rfl) ?_
  refine qcons (qk_ifeq dX12_taken_33 (by decide)) ?_
  refine qcons (qk_iload_n dX12_taken_36 rfl) ?_
  refine qcons (qk_iload_n dX12_taken_37 rfl) ?_
  refine qcons (qk_iceq dX12_taken_38 (by decide)) ?_
  refine qcons (qk_iload_n dX12_taken_41 rfl) ?_
  refine qcons (qk_iconst dX12_taken_42 (by decide)) ?_
  refine qcons (qk_icne dX12_taken_43 (by decide)) ?_
  refine qcons (qk_iload_n dX12_taken_46 rfl) ?_
  refine qcons (qk_iconst dX12_taken_47 (by decide)) ?_
  refine qcons (qk_iceq dX12_taken_48 (by decide)) ?_
  refine qcons (qk_iload_n dX12_taken_51 rfl) ?_
  refine qcons (qk_iconst dX12_taken_52 (by decide)) ?_
  refine qcons (qk_icne dX12_taken_53 (by decide)) ?_
  refine qcons (qk_iload_n dX12_taken_56 rfl) ?_
  refine qcons (qk_iconst dX12_taken_57 (by decide)) ?_
  refine qcons (qk_iceq dX12_taken_58 (by decide)) ?_
  refine qcons (qk_iload_n dX12_taken_61 rfl) ?_
  refine qcons (qk_iconst dX12_taken_62 (by decide)) ?_
  refine qcons (qk_icne dX12_taken_63 (by decide)) ?_
  refine qcons (qk_iload_n dX12_taken_66 rfl) ?_
  refine qcons (qk_bipush dX12_taken_67 (by decide) (by decide)) ?_
  refine qcons (qk_icne dX12_taken_69 (by decide)) ?_
  refine qcons (qk_iload_n dX12_taken_72 rfl) ?_
  refine qcons (qk_goto dX12_taken_73 (by decide)) ?_
  refine qcons (qk_bipush dX12_taken_76 (by decide) (by decide)) ?_
  refine qcons (qk_ret dX12_taken_78 (Or.inr (Or.inl ⟨rfl, rfl⟩))) ?_
  exact qnil
theorem M_X12_taken {X : qX} {l : Launch} : qMet X l 3 yX12_taken cX12_taken 4 (some .int) S_X12_taken := qmet_of K_X12_taken (by decide) rfl rfl
theorem dX12_count_0 : decode cX12_count 0 = .ok (.iload_n 1, 1) := by decide +kernel
theorem dX12_count_1 : decode cX12_count 1 = .ok (.tableswitch 78 0 6 #[43, 48, 53, 58, 63, 68, 73], 43) := by decide +kernel
theorem dX12_count_44 : decode cX12_count 44 = .ok (.aload_n 0, 1) := by decide +kernel
theorem dX12_count_45 : decode cX12_count 45 = .ok (.getfield 7, 3) := by decide +kernel
theorem dX12_count_48 : decode cX12_count 48 = .ok (.ireturn, 1) := by decide +kernel
theorem dX12_count_49 : decode cX12_count 49 = .ok (.aload_n 0, 1) := by decide +kernel
theorem dX12_count_50 : decode cX12_count 50 = .ok (.getfield 41, 3) := by decide +kernel
theorem dX12_count_53 : decode cX12_count 53 = .ok (.ireturn, 1) := by decide +kernel
theorem dX12_count_54 : decode cX12_count 54 = .ok (.aload_n 0, 1) := by decide +kernel
theorem dX12_count_55 : decode cX12_count 55 = .ok (.getfield 124, 3) := by decide +kernel
theorem dX12_count_58 : decode cX12_count 58 = .ok (.ireturn, 1) := by decide +kernel
theorem dX12_count_59 : decode cX12_count 59 = .ok (.aload_n 0, 1) := by decide +kernel
theorem dX12_count_60 : decode cX12_count 60 = .ok (.getfield 136, 3) := by decide +kernel
theorem dX12_count_63 : decode cX12_count 63 = .ok (.ireturn, 1) := by decide +kernel
theorem dX12_count_64 : decode cX12_count 64 = .ok (.aload_n 0, 1) := by decide +kernel
theorem dX12_count_65 : decode cX12_count 65 = .ok (.getfield 139, 3) := by decide +kernel
theorem dX12_count_68 : decode cX12_count 68 = .ok (.ireturn, 1) := by decide +kernel
theorem dX12_count_69 : decode cX12_count 69 = .ok (.aload_n 0, 1) := by decide +kernel
theorem dX12_count_70 : decode cX12_count 70 = .ok (.getfield 47, 3) := by decide +kernel
theorem dX12_count_73 : decode cX12_count 73 = .ok (.ireturn, 1) := by decide +kernel
theorem dX12_count_74 : decode cX12_count 74 = .ok (.aload_n 0, 1) := by decide +kernel
theorem dX12_count_75 : decode cX12_count 75 = .ok (.getfield 221, 3) := by decide +kernel
theorem dX12_count_78 : decode cX12_count 78 = .ok (.ireturn, 1) := by decide +kernel
theorem dX12_count_79 : decode cX12_count 79 = .ok (.bipush (-2), 2) := by decide +kernel
theorem dX12_count_81 : decode cX12_count 81 = .ok (.ireturn, 1) := by decide +kernel
noncomputable def C_X12_count : List (Nat × qOp) := [(0, qo_iload 1 1),
  (1, qo_tsw 0 [44, 49, 54, 59, 64, 69, 74] 79),
  (44, qo_aload 0 1),
  (45, qo_getI 12 0),
  (48, qo_ret (some .int) 1),
  (49, qo_aload 0 1),
  (50, qo_getI 12 10),
  (53, qo_ret (some .int) 1),
  (54, qo_aload 0 1),
  (55, qo_getI 12 37),
  (58, qo_ret (some .int) 1),
  (59, qo_aload 0 1),
  (60, qo_getI 12 41),
  (63, qo_ret (some .int) 1),
  (64, qo_aload 0 1),
  (65, qo_getI 12 42),
  (68, qo_ret (some .int) 1),
  (69, qo_aload 0 1),
  (70, qo_getI 12 12),
  (73, qo_ret (some .int) 1),
  (74, qo_aload 0 1),
  (75, qo_getI 12 69),
  (78, qo_ret (some .int) 1),
  (79, qo_ci (-2) 2),
  (81, qo_ret (some .int) 1)]
noncomputable def S_X12_count : qSem := qM 2 C_X12_count
set_option maxRecDepth 20000 in
theorem K_X12_count {X : qX} {l : Launch} : ∀ q ∈ C_X12_count, qOk X l 1 cX12_count 2 RX12 "count" (some .int) q.1 q.2 := by
  unfold C_X12_count
  refine qcons (qk_iload_n dX12_count_0 rfl) ?_
  refine qcons (qk_tsw dX12_count_1 (by decide) (by decide) (by decide)) ?_
  refine qcons (qk_aload_n dX12_count_44 rfl) ?_
  refine qcons (qk_getI fd_X12_7 kd_12_0 dX12_count_45) ?_
  refine qcons (qk_ret dX12_count_48 (Or.inr (Or.inl ⟨rfl, rfl⟩))) ?_
  refine qcons (qk_aload_n dX12_count_49 rfl) ?_
  refine qcons (qk_getI fd_X12_41 kd_12_10 dX12_count_50) ?_
  refine qcons (qk_ret dX12_count_53 (Or.inr (Or.inl ⟨rfl, rfl⟩))) ?_
  refine qcons (qk_aload_n dX12_count_54 rfl) ?_
  refine qcons (qk_getI fd_X12_124 kd_12_37 dX12_count_55) ?_
  refine qcons (qk_ret dX12_count_58 (Or.inr (Or.inl ⟨rfl, rfl⟩))) ?_
  refine qcons (qk_aload_n dX12_count_59 rfl) ?_
  refine qcons (qk_getI fd_X12_136 kd_12_41 dX12_count_60) ?_
  refine qcons (qk_ret dX12_count_63 (Or.inr (Or.inl ⟨rfl, rfl⟩))) ?_
  refine qcons (qk_aload_n dX12_count_64 rfl) ?_
  refine qcons (qk_getI fd_X12_139 kd_12_42 dX12_count_65) ?_
  refine qcons (qk_ret dX12_count_68 (Or.inr (Or.inl ⟨rfl, rfl⟩))) ?_
  refine qcons (qk_aload_n dX12_count_69 rfl) ?_
  refine qcons (qk_getI fd_X12_47 kd_12_12 dX12_count_70) ?_
  refine qcons (qk_ret dX12_count_73 (Or.inr (Or.inl ⟨rfl, rfl⟩))) ?_
  refine qcons (qk_aload_n dX12_count_74 rfl) ?_
  refine qcons (qk_getI fd_X12_221 kd_12_69 dX12_count_75) ?_
  refine qcons (qk_ret dX12_count_78 (Or.inr (Or.inl ⟨rfl, rfl⟩))) ?_
  refine qcons (qk_bipush dX12_count_79 (by decide) (by decide)) ?_
  refine qcons (qk_ret dX12_count_81 (Or.inr (Or.inl ⟨rfl, rfl⟩))) ?_
  exact qnil
theorem M_X12_count {X : qX} {l : Launch} : qMet X l 1 yX12_count cX12_count 2 (some .int) S_X12_count := qmet_of K_X12_count (by decide) rfl rfl
theorem dX12_tape_0 : decode cX12_tape 0 = .ok (.aload_n 0, 1) := by decide +kernel
theorem dX12_tape_1 : decode cX12_tape 1 = .ok (.iload_n 1, 1) := by decide +kernel
theorem dX12_tape_2 : decode cX12_tape 2 = .ok (.invokevirtual 397, 3) := by decide +kernel
theorem dX12_tape_5 : decode cX12_tape 5 = .ok (.ifCond .ne 5, 3) := by decide +kernel
theorem dX12_tape_8 : decode cX12_tape 8 = .ok (.iconst (-1), 1) := by decide +kernel
theorem dX12_tape_9 : decode cX12_tape 9 = .ok (.ireturn, 1) := by decide +kernel
theorem dX12_tape_10 : decode cX12_tape 10 = .ok (.aload_n 0, 1) := by decide +kernel
theorem dX12_tape_11 : decode cX12_tape 11 = .ok (.iload_n 2, 1) := by decide +kernel
theorem dX12_tape_12 : decode cX12_tape 12 = .ok (.iconst (-1), 1) := by decide +kernel
theorem dX12_tape_13 : decode cX12_tape 13 = .ok (.iconst 4, 1) := by decide +kernel
theorem dX12_tape_14 : decode cX12_tape 14 = .ok (.invokevirtual 240, 3) := by decide +kernel
theorem dX12_tape_17 : decode cX12_tape 17 = .ok (.ifCond .eq 13, 3) := by decide +kernel
theorem dX12_tape_20 : decode cX12_tape 20 = .ok (.iload_n 2, 1) := by decide +kernel
theorem dX12_tape_21 : decode cX12_tape 21 = .ok (.ifCond .lt 12, 3) := by decide +kernel
theorem dX12_tape_24 : decode cX12_tape 24 = .ok (.iload_n 3, 1) := by decide +kernel
theorem dX12_tape_25 : decode cX12_tape 25 = .ok (.bipush 60, 2) := by decide +kernel
theorem dX12_tape_27 : decode cX12_tape 27 = .ok (.if_icmp .le 6, 3) := by decide +kernel
theorem dX12_tape_30 : decode cX12_tape 30 = .ok (.bipush (-2), 2) := by decide +kernel
theorem dX12_tape_32 : decode cX12_tape 32 = .ok (.ireturn, 1) := by decide +kernel
theorem dX12_tape_33 : decode cX12_tape 33 = .ok (.iload_n 2, 1) := by decide +kernel
theorem dX12_tape_34 : decode cX12_tape 34 = .ok (.ifCond .lt 10, 3) := by decide +kernel
theorem dX12_tape_37 : decode cX12_tape 37 = .ok (.iload_n 3, 1) := by decide +kernel
theorem dX12_tape_38 : decode cX12_tape 38 = .ok (.ifCond .ge 6, 3) := by decide +kernel
theorem dX12_tape_41 : decode cX12_tape 41 = .ok (.bipush (-14), 2) := by decide +kernel
theorem dX12_tape_43 : decode cX12_tape 43 = .ok (.ireturn, 1) := by decide +kernel
theorem dX12_tape_44 : decode cX12_tape 44 = .ok (.aload_n 0, 1) := by decide +kernel
theorem dX12_tape_45 : decode cX12_tape 45 = .ok (.getfield 227, 3) := by decide +kernel
theorem dX12_tape_48 : decode cX12_tape 48 = .ok (.iload_n 1, 1) := by decide +kernel
theorem dX12_tape_49 : decode cX12_tape 49 = .ok (.iload_n 2, 1) := by decide +kernel
theorem dX12_tape_50 : decode cX12_tape 50 = .ok (.iastore, 1) := by decide +kernel
theorem dX12_tape_51 : decode cX12_tape 51 = .ok (.aload_n 0, 1) := by decide +kernel
theorem dX12_tape_52 : decode cX12_tape 52 = .ok (.getfield 230, 3) := by decide +kernel
theorem dX12_tape_55 : decode cX12_tape 55 = .ok (.iload_n 1, 1) := by decide +kernel
theorem dX12_tape_56 : decode cX12_tape 56 = .ok (.iload_n 2, 1) := by decide +kernel
theorem dX12_tape_57 : decode cX12_tape 57 = .ok (.ifCond .ge 7, 3) := by decide +kernel
theorem dX12_tape_60 : decode cX12_tape 60 = .ok (.iconst 0, 1) := by decide +kernel
theorem dX12_tape_61 : decode cX12_tape 61 = .ok (.goto 4, 3) := by decide +kernel
theorem dX12_tape_64 : decode cX12_tape 64 = .ok (.iload_n 3, 1) := by decide +kernel
theorem dX12_tape_65 : decode cX12_tape 65 = .ok (.iastore, 1) := by decide +kernel
theorem dX12_tape_66 : decode cX12_tape 66 = .ok (.iconst 0, 1) := by decide +kernel
theorem dX12_tape_67 : decode cX12_tape 67 = .ok (.istore 4, 2) := by decide +kernel
theorem dX12_tape_69 : decode cX12_tape 69 = .ok (.iload 4, 2) := by decide +kernel
theorem dX12_tape_71 : decode cX12_tape 71 = .ok (.bipush 60, 2) := by decide +kernel
theorem dX12_tape_73 : decode cX12_tape 73 = .ok (.if_icmp .ge 22, 3) := by decide +kernel
theorem dX12_tape_76 : decode cX12_tape 76 = .ok (.aload_n 0, 1) := by decide +kernel
theorem dX12_tape_77 : decode cX12_tape 77 = .ok (.getfield 233, 3) := by decide +kernel
theorem dX12_tape_80 : decode cX12_tape 80 = .ok (.bipush 60, 2) := by decide +kernel
theorem dX12_tape_82 : decode cX12_tape 82 = .ok (.iload_n 1, 1) := by decide +kernel
theorem dX12_tape_83 : decode cX12_tape 83 = .ok (.imul, 1) := by decide +kernel
theorem dX12_tape_84 : decode cX12_tape 84 = .ok (.iload 4, 2) := by decide +kernel
theorem dX12_tape_86 : decode cX12_tape 86 = .ok (.iadd, 1) := by decide +kernel
theorem dX12_tape_87 : decode cX12_tape 87 = .ok (.lconst 0, 1) := by decide +kernel
theorem dX12_tape_88 : decode cX12_tape 88 = .ok (.lastore, 1) := by decide +kernel
theorem dX12_tape_89 : decode cX12_tape 89 = .ok (.iinc 4 1, 3) := by decide +kernel
theorem dX12_tape_92 : decode cX12_tape 92 = .ok (.goto (-23), 3) := by decide +kernel
theorem dX12_tape_95 : decode cX12_tape 95 = .ok (.iconst 1, 1) := by decide +kernel
theorem dX12_tape_96 : decode cX12_tape 96 = .ok (.ireturn, 1) := by decide +kernel
noncomputable def C_X12_tape : List (Nat × qOp) := [(0, qo_aload 0 1),
  (1, qo_iload 1 1),
  (2, qo_callv [(12, S_X12_isTape)] 1),
  (5, qo_ifne 10),
  (8, qo_ci (-1) 1),
  (9, qo_ret (some .int) 1),
  (10, qo_aload 0 1),
  (11, qo_iload 2 1),
  (12, qo_ci (-1) 1),
  (13, qo_ci 4 1),
  (14, qo_callv [(12, S_X12_in)] 3),
  (17, qo_ifeq 30),
  (20, qo_iload 2 1),
  (21, qo_iflt 33),
  (24, qo_iload 3 1),
  (25, qo_ci 60 2),
  (27, qo_icle 33),
  (30, qo_ci (-2) 2),
  (32, qo_ret (some .int) 1),
  (33, qo_iload 2 1),
  (34, qo_iflt 44),
  (37, qo_iload 3 1),
  (38, qo_ifge 44),
  (41, qo_ci (-14) 2),
  (43, qo_ret (some .int) 1),
  (44, qo_aload 0 1),
  (45, qo_getR 12 71),
  (48, qo_iload 1 1),
  (49, qo_iload 2 1),
  (50, qo_iastore),
  (51, qo_aload 0 1),
  (52, qo_getR 12 72),
  (55, qo_iload 1 1),
  (56, qo_iload 2 1),
  (57, qo_ifge 64),
  (60, qo_ci 0 1),
  (61, qo_goto 65),
  (64, qo_iload 3 1),
  (65, qo_iastore),
  (66, qo_ci 0 1),
  (67, qo_istore 4 2),
  (69, qo_iload 4 2),
  (71, qo_ci 60 2),
  (73, qo_icge 95),
  (76, qo_aload 0 1),
  (77, qo_getR 12 73),
  (80, qo_ci 60 2),
  (82, qo_iload 1 1),
  (83, qo_imul),
  (84, qo_iload 4 2),
  (86, qo_iadd),
  (87, qo_cl 0 1),
  (88, qo_lastore),
  (89, qo_iinc 4 1),
  (92, qo_goto 69),
  (95, qo_ci 1 1),
  (96, qo_ret (some .int) 1)]
noncomputable def S_X12_tape : qSem := qM 5 C_X12_tape
set_option maxRecDepth 20000 in
theorem K_X12_tape {X : qX} {l : Launch} : ∀ q ∈ C_X12_tape, qOk X l 3 cX12_tape 5 RX12 "tape" (some .int) q.1 q.2 := by
  unfold C_X12_tape
  refine qcons (qk_aload_n dX12_tape_0 rfl) ?_
  refine qcons (qk_iload_n dX12_tape_1 rfl) ?_
  refine qcons (qk_callv (ins := fun i => .invokevirtual i) (qconsV (qrunV M_X12_isTape (by decide) (by decide) (by decide) rfl tw_1369 tw_1371 tw_67 tw_1372 tw_90 ⟨by decide, by decide⟩ (by decide +kernel)) qnilV) dX12_tape_2) ?_
  refine qcons (qk_ifne dX12_tape_5 (by decide)) ?_
  refine qcons (qk_iconst dX12_tape_8 (by decide)) ?_
  refine qcons (qk_ret dX12_tape_9 (Or.inr (Or.inl ⟨rfl, rfl⟩))) ?_
  refine qcons (qk_aload_n dX12_tape_10 rfl) ?_
  refine qcons (qk_iload_n dX12_tape_11 rfl) ?_
  refine qcons (qk_iconst dX12_tape_12 (by decide)) ?_
  refine qcons (qk_iconst dX12_tape_13 (by decide)) ?_
  refine qcons (qk_callv (ins := fun i => .invokevirtual i) (qconsV (qrunV M_X12_in (by decide) (by decide) (by decide) rfl tw_1082 tw_1084 tw_20 tw_1085 tw_90 ⟨by decide, by decide⟩ (by decide +kernel)) qnilV) dX12_tape_14) ?_
  refine qcons (qk_ifeq dX12_tape_17 (by decide)) ?_
  refine qcons (qk_iload_n dX12_tape_20 rfl) ?_
  refine qcons (qk_iflt dX12_tape_21 (by decide)) ?_
  refine qcons (qk_iload_n dX12_tape_24 rfl) ?_
  refine qcons (qk_bipush dX12_tape_25 (by decide) (by decide)) ?_
  refine qcons (qk_icle dX12_tape_27 (by decide)) ?_
  refine qcons (qk_bipush dX12_tape_30 (by decide) (by decide)) ?_
  refine qcons (qk_ret dX12_tape_32 (Or.inr (Or.inl ⟨rfl, rfl⟩))) ?_
  refine qcons (qk_iload_n dX12_tape_33 rfl) ?_
  refine qcons (qk_iflt dX12_tape_34 (by decide)) ?_
  refine qcons (qk_iload_n dX12_tape_37 rfl) ?_
  refine qcons (qk_ifge dX12_tape_38 (by decide)) ?_
  refine qcons (qk_bipush dX12_tape_41 (by decide) (by decide)) ?_
  refine qcons (qk_ret dX12_tape_43 (Or.inr (Or.inl ⟨rfl, rfl⟩))) ?_
  refine qcons (qk_aload_n dX12_tape_44 rfl) ?_
  refine qcons (qk_getR fd_X12_227 kd_12_71 dX12_tape_45) ?_
  refine qcons (qk_iload_n dX12_tape_48 rfl) ?_
  refine qcons (qk_iload_n dX12_tape_49 rfl) ?_
  refine qcons (qk_iastore dX12_tape_50) ?_
  refine qcons (qk_aload_n dX12_tape_51 rfl) ?_
  refine qcons (qk_getR fd_X12_230 kd_12_72 dX12_tape_52) ?_
  refine qcons (qk_iload_n dX12_tape_55 rfl) ?_
  refine qcons (qk_iload_n dX12_tape_56 rfl) ?_
  refine qcons (qk_ifge dX12_tape_57 (by decide)) ?_
  refine qcons (qk_iconst dX12_tape_60 (by decide)) ?_
  refine qcons (qk_goto dX12_tape_61 (by decide)) ?_
  refine qcons (qk_iload_n dX12_tape_64 rfl) ?_
  refine qcons (qk_iastore dX12_tape_65) ?_
  refine qcons (qk_iconst dX12_tape_66 (by decide)) ?_
  refine qcons (qk_istore dX12_tape_67) ?_
  refine qcons (qk_iload dX12_tape_69) ?_
  refine qcons (qk_bipush dX12_tape_71 (by decide) (by decide)) ?_
  refine qcons (qk_icge dX12_tape_73 (by decide)) ?_
  refine qcons (qk_aload_n dX12_tape_76 rfl) ?_
  refine qcons (qk_getR fd_X12_233 kd_12_73 dX12_tape_77) ?_
  refine qcons (qk_bipush dX12_tape_80 (by decide) (by decide)) ?_
  refine qcons (qk_iload_n dX12_tape_82 rfl) ?_
  refine qcons (qk_imul dX12_tape_83) ?_
  refine qcons (qk_iload dX12_tape_84) ?_
  refine qcons (qk_iadd dX12_tape_86) ?_
  refine qcons (qk_lconst dX12_tape_87 (by decide) (by decide)) ?_
  refine qcons (qk_lastore dX12_tape_88) ?_
  refine qcons (qk_iinc dX12_tape_89) ?_
  refine qcons (qk_goto dX12_tape_92 (by decide)) ?_
  refine qcons (qk_iconst dX12_tape_95 (by decide)) ?_
  refine qcons (qk_ret dX12_tape_96 (Or.inr (Or.inl ⟨rfl, rfl⟩))) ?_
  exact qnil
theorem M_X12_tape {X : qX} {l : Launch} : qMet X l 3 yX12_tape cX12_tape 5 (some .int) S_X12_tape := qmet_of K_X12_tape (by decide) rfl rfl
theorem dX12_narrow_0 : decode cX12_narrow 0 = .ok (.iload_n 1, 1) := by decide +kernel
theorem dX12_narrow_1 : decode cX12_narrow 1 = .ok (.ifCond .ne 10, 3) := by decide +kernel
theorem dX12_narrow_4 : decode cX12_narrow 4 = .ok (.lload_n 2, 1) := by decide +kernel
theorem dX12_narrow_5 : decode cX12_narrow 5 = .ok (.l2i, 1) := by decide +kernel
theorem dX12_narrow_6 : decode cX12_narrow 6 = .ok (.i2b, 1) := by decide +kernel
theorem dX12_narrow_7 : decode cX12_narrow 7 = .ok (.i2l, 1) := by decide +kernel
theorem dX12_narrow_8 : decode cX12_narrow 8 = .ok (.goto 46, 3) := by decide +kernel
theorem dX12_narrow_11 : decode cX12_narrow 11 = .ok (.iload_n 1, 1) := by decide +kernel
theorem dX12_narrow_12 : decode cX12_narrow 12 = .ok (.iconst 1, 1) := by decide +kernel
theorem dX12_narrow_13 : decode cX12_narrow 13 = .ok (.if_icmp .ne 10, 3) := by decide +kernel
theorem dX12_narrow_16 : decode cX12_narrow 16 = .ok (.lload_n 2, 1) := by decide +kernel
theorem dX12_narrow_17 : decode cX12_narrow 17 = .ok (.l2i, 1) := by decide +kernel
theorem dX12_narrow_18 : decode cX12_narrow 18 = .ok (.i2s, 1) := by decide +kernel
theorem dX12_narrow_19 : decode cX12_narrow 19 = .ok (.i2l, 1) := by decide +kernel
theorem dX12_narrow_20 : decode cX12_narrow 20 = .ok (.goto 34, 3) := by decide +kernel
theorem dX12_narrow_23 : decode cX12_narrow 23 = .ok (.iload_n 1, 1) := by decide +kernel
theorem dX12_narrow_24 : decode cX12_narrow 24 = .ok (.iconst 2, 1) := by decide +kernel
theorem dX12_narrow_25 : decode cX12_narrow 25 = .ok (.if_icmp .ne 9, 3) := by decide +kernel
theorem dX12_narrow_28 : decode cX12_narrow 28 = .ok (.lload_n 2, 1) := by decide +kernel
theorem dX12_narrow_29 : decode cX12_narrow 29 = .ok (.l2i, 1) := by decide +kernel
theorem dX12_narrow_30 : decode cX12_narrow 30 = .ok (.i2l, 1) := by decide +kernel
theorem dX12_narrow_31 : decode cX12_narrow 31 = .ok (.goto 23, 3) := by decide +kernel
theorem dX12_narrow_34 : decode cX12_narrow 34 = .ok (.iload_n 1, 1) := by decide +kernel
theorem dX12_narrow_35 : decode cX12_narrow 35 = .ok (.iconst 4, 1) := by decide +kernel
theorem dX12_narrow_36 : decode cX12_narrow 36 = .ok (.if_icmp .ne 17, 3) := by decide +kernel
theorem dX12_narrow_39 : decode cX12_narrow 39 = .ok (.lload_n 2, 1) := by decide +kernel
theorem dX12_narrow_40 : decode cX12_narrow 40 = .ok (.lconst 0, 1) := by decide +kernel
theorem dX12_narrow_41 : decode cX12_narrow 41 = .ok (.lcmp, 1) := by decide +kernel
theorem dX12_narrow_42 : decode cX12_narrow 42 = .ok (.ifCond .eq 7, 3) := by decide +kernel
theorem dX12_narrow_45 : decode cX12_narrow 45 = .ok (.lconst 1, 1) := by decide +kernel
theorem dX12_narrow_46 : decode cX12_narrow 46 = .ok (.goto 8, 3) := by decide +kernel
theorem dX12_narrow_49 : decode cX12_narrow 49 = .ok (.lconst 0, 1) := by decide +kernel
theorem dX12_narrow_50 : decode cX12_narrow 50 = .ok (.goto 4, 3) := by decide +kernel
theorem dX12_narrow_53 : decode cX12_narrow 53 = .ok (.lload_n 2, 1) := by decide +kernel
theorem dX12_narrow_54 : decode cX12_narrow 54 = .ok (.lreturn, 1) := by decide +kernel
noncomputable def C_X12_narrow : List (Nat × qOp) := [(0, qo_iload 1 1),
  (1, qo_ifne 11),
  (4, qo_lload 2 1),
  (5, qo_l2i),
  (6, qo_i2b),
  (7, qo_i2l),
  (8, qo_goto 54),
  (11, qo_iload 1 1),
  (12, qo_ci 1 1),
  (13, qo_icne 23),
  (16, qo_lload 2 1),
  (17, qo_l2i),
  (18, qo_i2s),
  (19, qo_i2l),
  (20, qo_goto 54),
  (23, qo_iload 1 1),
  (24, qo_ci 2 1),
  (25, qo_icne 34),
  (28, qo_lload 2 1),
  (29, qo_l2i),
  (30, qo_i2l),
  (31, qo_goto 54),
  (34, qo_iload 1 1),
  (35, qo_ci 4 1),
  (36, qo_icne 53),
  (39, qo_lload 2 1),
  (40, qo_cl 0 1),
  (41, qo_lcmp),
  (42, qo_ifeq 49),
  (45, qo_cl 1 1),
  (46, qo_goto 54),
  (49, qo_cl 0 1),
  (50, qo_goto 54),
  (53, qo_lload 2 1),
  (54, qo_ret (some .long) 2)]
noncomputable def S_X12_narrow : qSem := qM 4 C_X12_narrow
set_option maxRecDepth 20000 in
theorem K_X12_narrow {X : qX} {l : Launch} : ∀ q ∈ C_X12_narrow, qOk X l 1 cX12_narrow 4 RX12 "narrow" (some .long) q.1 q.2 := by
  unfold C_X12_narrow
  refine qcons (qk_iload_n dX12_narrow_0 rfl) ?_
  refine qcons (qk_ifne dX12_narrow_1 (by decide)) ?_
  refine qcons (qk_lload_n dX12_narrow_4 rfl) ?_
  refine qcons (qk_l2i dX12_narrow_5) ?_
  refine qcons (qk_i2b dX12_narrow_6) ?_
  refine qcons (qk_i2l dX12_narrow_7) ?_
  refine qcons (qk_goto dX12_narrow_8 (by decide)) ?_
  refine qcons (qk_iload_n dX12_narrow_11 rfl) ?_
  refine qcons (qk_iconst dX12_narrow_12 (by decide)) ?_
  refine qcons (qk_icne dX12_narrow_13 (by decide)) ?_
  refine qcons (qk_lload_n dX12_narrow_16 rfl) ?_
  refine qcons (qk_l2i dX12_narrow_17) ?_
  refine qcons (qk_i2s dX12_narrow_18) ?_
  refine qcons (qk_i2l dX12_narrow_19) ?_
  refine qcons (qk_goto dX12_narrow_20 (by decide)) ?_
  refine qcons (qk_iload_n dX12_narrow_23 rfl) ?_
  refine qcons (qk_iconst dX12_narrow_24 (by decide)) ?_
  refine qcons (qk_icne dX12_narrow_25 (by decide)) ?_
  refine qcons (qk_lload_n dX12_narrow_28 rfl) ?_
  refine qcons (qk_l2i dX12_narrow_29) ?_
  refine qcons (qk_i2l dX12_narrow_30) ?_
  refine qcons (qk_goto dX12_narrow_31 (by decide)) ?_
  refine qcons (qk_iload_n dX12_narrow_34 rfl) ?_
  refine qcons (qk_iconst dX12_narrow_35 (by decide)) ?_
  refine qcons (qk_icne dX12_narrow_36 (by decide)) ?_
  refine qcons (qk_lload_n dX12_narrow_39 rfl) ?_
  refine qcons (qk_lconst dX12_narrow_40 (by decide) (by decide)) ?_
  refine qcons (qk_lcmp dX12_narrow_41) ?_
  refine qcons (qk_ifeq dX12_narrow_42 (by decide)) ?_
  refine qcons (qk_lconst dX12_narrow_45 (by decide) (by decide)) ?_
  refine qcons (qk_goto dX12_narrow_46 (by decide)) ?_
  refine qcons (qk_lconst dX12_narrow_49 (by decide) (by decide)) ?_
  refine qcons (qk_goto dX12_narrow_50 (by decide)) ?_
  refine qcons (qk_lload_n dX12_narrow_53 rfl) ?_
  refine qcons (qk_ret dX12_narrow_54 (Or.inr (Or.inr (Or.inl ⟨rfl, rfl⟩)))) ?_
  exact qnil
theorem M_X12_narrow {X : qX} {l : Launch} : qMet X l 1 yX12_narrow cX12_narrow 4 (some .long) S_X12_narrow := qmet_of K_X12_narrow (by decide) rfl rfl
theorem dX12_item_0 : decode cX12_item 0 = .ok (.aload_n 0, 1) := by decide +kernel
theorem dX12_item_1 : decode cX12_item 1 = .ok (.iload_n 1, 1) := by decide +kernel
theorem dX12_item_2 : decode cX12_item 2 = .ok (.invokevirtual 397, 3) := by decide +kernel
theorem dX12_item_5 : decode cX12_item 5 = .ok (.ifCond .ne 5, 3) := by decide +kernel
theorem dX12_item_8 : decode cX12_item 8 = .ok (.iconst (-1), 1) := by decide +kernel
theorem dX12_item_9 : decode cX12_item 9 = .ok (.ireturn, 1) := by decide +kernel
theorem dX12_item_10 : decode cX12_item 10 = .ok (.aload_n 0, 1) := by decide +kernel
theorem dX12_item_11 : decode cX12_item 11 = .ok (.getfield 227, 3) := by decide +kernel
theorem dX12_item_14 : decode cX12_item 14 = .ok (.iload_n 1, 1) := by decide +kernel
theorem dX12_item_15 : decode cX12_item 15 = .ok (.iaload, 1) := by decide +kernel
theorem dX12_item_16 : decode cX12_item 16 = .ok (.ifCond .ge 6, 3) := by decide +kernel
theorem dX12_item_19 : decode cX12_item 19 = .ok (.bipush (-11), 2) := by decide +kernel
theorem dX12_item_21 : decode cX12_item 21 = .ok (.ireturn, 1) := by decide +kernel
theorem dX12_item_22 : decode cX12_item 22 = .ok (.aload_n 0, 1) := by decide +kernel
theorem dX12_item_23 : decode cX12_item 23 = .ok (.iload_n 2, 1) := by decide +kernel
theorem dX12_item_24 : decode cX12_item 24 = .ok (.iconst 0, 1) := by decide +kernel
theorem dX12_item_25 : decode cX12_item 25 = .ok (.aload_n 0, 1) := by decide +kernel
theorem dX12_item_26 : decode cX12_item 26 = .ok (.getfield 230, 3) := by decide +kernel
theorem dX12_item_29 : decode cX12_item 29 = .ok (.iload_n 1, 1) := by decide +kernel
theorem dX12_item_30 : decode cX12_item 30 = .ok (.iaload, 1) := by decide +kernel
theorem dX12_item_31 : decode cX12_item 31 = .ok (.iconst 1, 1) := by decide +kernel
theorem dX12_item_32 : decode cX12_item 32 = .ok (.isub, 1) := by decide +kernel
theorem dX12_item_33 : decode cX12_item 33 = .ok (.invokevirtual 240, 3) := by decide +kernel
theorem dX12_item_36 : decode cX12_item 36 = .ok (.ifCond .ne 6, 3) := by decide +kernel
theorem dX12_item_39 : decode cX12_item 39 = .ok (.bipush (-13), 2) := by decide +kernel
theorem dX12_item_41 : decode cX12_item 41 = .ok (.ireturn, 1) := by decide +kernel
theorem dX12_item_42 : decode cX12_item 42 = .ok (.aload_n 0, 1) := by decide +kernel
theorem dX12_item_43 : decode cX12_item 43 = .ok (.getfield 233, 3) := by decide +kernel
theorem dX12_item_46 : decode cX12_item 46 = .ok (.bipush 60, 2) := by decide +kernel
theorem dX12_item_48 : decode cX12_item 48 = .ok (.iload_n 1, 1) := by decide +kernel
theorem dX12_item_49 : decode cX12_item 49 = .ok (.imul, 1) := by decide +kernel
theorem dX12_item_50 : decode cX12_item 50 = .ok (.iload_n 2, 1) := by decide +kernel
theorem dX12_item_51 : decode cX12_item 51 = .ok (.iadd, 1) := by decide +kernel
theorem dX12_item_52 : decode cX12_item 52 = .ok (.aload_n 0, 1) := by decide +kernel
theorem dX12_item_53 : decode cX12_item 53 = .ok (.aload_n 0, 1) := by decide +kernel
theorem dX12_item_54 : decode cX12_item 54 = .ok (.getfield 227, 3) := by decide +kernel
theorem dX12_item_57 : decode cX12_item 57 = .ok (.iload_n 1, 1) := by decide +kernel
theorem dX12_item_58 : decode cX12_item 58 = .ok (.iaload, 1) := by decide +kernel
theorem dX12_item_59 : decode cX12_item 59 = .ok (.lload_n 3, 1) := by decide +kernel
theorem dX12_item_60 : decode cX12_item 60 = .ok (.invokevirtual 424, 3) := by decide +kernel
theorem dX12_item_63 : decode cX12_item 63 = .ok (.lastore, 1) := by decide +kernel
theorem dX12_item_64 : decode cX12_item 64 = .ok (.iconst 1, 1) := by decide +kernel
theorem dX12_item_65 : decode cX12_item 65 = .ok (.ireturn, 1) := by decide +kernel
noncomputable def C_X12_item : List (Nat × qOp) := [(0, qo_aload 0 1),
  (1, qo_iload 1 1),
  (2, qo_callv [(12, S_X12_isTape)] 1),
  (5, qo_ifne 10),
  (8, qo_ci (-1) 1),
  (9, qo_ret (some .int) 1),
  (10, qo_aload 0 1),
  (11, qo_getR 12 71),
  (14, qo_iload 1 1),
  (15, qo_iaload),
  (16, qo_ifge 22),
  (19, qo_ci (-11) 2),
  (21, qo_ret (some .int) 1),
  (22, qo_aload 0 1),
  (23, qo_iload 2 1),
  (24, qo_ci 0 1),
  (25, qo_aload 0 1),
  (26, qo_getR 12 72),
  (29, qo_iload 1 1),
  (30, qo_iaload),
  (31, qo_ci 1 1),
  (32, qo_isub),
  (33, qo_callv [(12, S_X12_in)] 3),
  (36, qo_ifne 42),
  (39, qo_ci (-13) 2),
  (41, qo_ret (some .int) 1),
  (42, qo_aload 0 1),
  (43, qo_getR 12 73),
  (46, qo_ci 60 2),
  (48, qo_iload 1 1),
  (49, qo_imul),
  (50, qo_iload 2 1),
  (51, qo_iadd),
  (52, qo_aload 0 1),
  (53, qo_aload 0 1),
  (54, qo_getR 12 71),
  (57, qo_iload 1 1),
  (58, qo_iaload),
  (59, qo_lload 3 1),
  (60, qo_callv [(12, S_X12_narrow)] 2),
  (63, qo_lastore),
  (64, qo_ci 1 1),
  (65, qo_ret (some .int) 1)]
noncomputable def S_X12_item : qSem := qM 5 C_X12_item
set_option maxRecDepth 20000 in
theorem K_X12_item {X : qX} {l : Launch} : ∀ q ∈ C_X12_item, qOk X l 3 cX12_item 5 RX12 "item" (some .int) q.1 q.2 := by
  unfold C_X12_item
  refine qcons (qk_aload_n dX12_item_0 rfl) ?_
  refine qcons (qk_iload_n dX12_item_1 rfl) ?_
  refine qcons (qk_callv (ins := fun i => .invokevirtual i) (qconsV (qrunV M_X12_isTape (by decide) (by decide) (by decide) rfl tw_1369 tw_1371 tw_67 tw_1372 tw_90 ⟨by decide, by decide⟩ (by decide +kernel)) qnilV) dX12_item_2) ?_
  refine qcons (qk_ifne dX12_item_5 (by decide)) ?_
  refine qcons (qk_iconst dX12_item_8 (by decide)) ?_
  refine qcons (qk_ret dX12_item_9 (Or.inr (Or.inl ⟨rfl, rfl⟩))) ?_
  refine qcons (qk_aload_n dX12_item_10 rfl) ?_
  refine qcons (qk_getR fd_X12_227 kd_12_71 dX12_item_11) ?_
  refine qcons (qk_iload_n dX12_item_14 rfl) ?_
  refine qcons (qk_iaload dX12_item_15) ?_
  refine qcons (qk_ifge dX12_item_16 (by decide)) ?_
  refine qcons (qk_bipush dX12_item_19 (by decide) (by decide)) ?_
  refine qcons (qk_ret dX12_item_21 (Or.inr (Or.inl ⟨rfl, rfl⟩))) ?_
  refine qcons (qk_aload_n dX12_item_22 rfl) ?_
  refine qcons (qk_iload_n dX12_item_23 rfl) ?_
  refine qcons (qk_iconst dX12_item_24 (by decide)) ?_
  refine qcons (qk_aload_n dX12_item_25 rfl) ?_
  refine qcons (qk_getR fd_X12_230 kd_12_72 dX12_item_26) ?_
  refine qcons (qk_iload_n dX12_item_29 rfl) ?_
  refine qcons (qk_iaload dX12_item_30) ?_
  refine qcons (qk_iconst dX12_item_31 (by decide)) ?_
  refine qcons (qk_isub dX12_item_32) ?_
  refine qcons (qk_callv (ins := fun i => .invokevirtual i) (qconsV (qrunV M_X12_in (by decide) (by decide) (by decide) rfl tw_1082 tw_1084 tw_20 tw_1085 tw_90 ⟨by decide, by decide⟩ (by decide +kernel)) qnilV) dX12_item_33) ?_
  refine qcons (qk_ifne dX12_item_36 (by decide)) ?_
  refine qcons (qk_bipush dX12_item_39 (by decide) (by decide)) ?_
  refine qcons (qk_ret dX12_item_41 (Or.inr (Or.inl ⟨rfl, rfl⟩))) ?_
  refine qcons (qk_aload_n dX12_item_42 rfl) ?_
  refine qcons (qk_getR fd_X12_233 kd_12_73 dX12_item_43) ?_
  refine qcons (qk_bipush dX12_item_46 (by decide) (by decide)) ?_
  refine qcons (qk_iload_n dX12_item_48 rfl) ?_
  refine qcons (qk_imul dX12_item_49) ?_
  refine qcons (qk_iload_n dX12_item_50 rfl) ?_
  refine qcons (qk_iadd dX12_item_51) ?_
  refine qcons (qk_aload_n dX12_item_52 rfl) ?_
  refine qcons (qk_aload_n dX12_item_53 rfl) ?_
  refine qcons (qk_getR fd_X12_227 kd_12_71 dX12_item_54) ?_
  refine qcons (qk_iload_n dX12_item_57 rfl) ?_
  refine qcons (qk_iaload dX12_item_58) ?_
  refine qcons (qk_lload_n dX12_item_59 rfl) ?_
  refine qcons (qk_callv (ins := fun i => .invokevirtual i) (qconsV (qrunV M_X12_narrow (by decide) (by decide) (by decide) rfl tw_1437 tw_1439 tw_76 tw_1440 tw_90 ⟨by decide, by decide⟩ (by decide +kernel)) qnilV) dX12_item_60) ?_
  refine qcons (qk_lastore dX12_item_63) ?_
  refine qcons (qk_iconst dX12_item_64 (by decide)) ?_
  refine qcons (qk_ret dX12_item_65 (Or.inr (Or.inl ⟨rfl, rfl⟩))) ?_
  exact qnil
theorem M_X12_item {X : qX} {l : Launch} : qMet X l 3 yX12_item cX12_item 5 (some .int) S_X12_item := qmet_of K_X12_item (by decide) rfl rfl
theorem dX12_read_0 : decode cX12_read 0 = .ok (.aload_n 0, 1) := by decide +kernel
theorem dX12_read_1 : decode cX12_read 1 = .ok (.iload_n 1, 1) := by decide +kernel
theorem dX12_read_2 : decode cX12_read 2 = .ok (.invokevirtual 397, 3) := by decide +kernel
theorem dX12_read_5 : decode cX12_read 5 = .ok (.ifCond .eq 29, 3) := by decide +kernel
theorem dX12_read_8 : decode cX12_read 8 = .ok (.aload_n 0, 1) := by decide +kernel
theorem dX12_read_9 : decode cX12_read 9 = .ok (.getfield 227, 3) := by decide +kernel
theorem dX12_read_12 : decode cX12_read 12 = .ok (.iload_n 1, 1) := by decide +kernel
theorem dX12_read_13 : decode cX12_read 13 = .ok (.iaload, 1) := by decide +kernel
theorem dX12_read_14 : decode cX12_read 14 = .ok (.ifCond .lt 20, 3) := by decide +kernel
theorem dX12_read_17 : decode cX12_read 17 = .ok (.aload_n 0, 1) := by decide +kernel
theorem dX12_read_18 : decode cX12_read 18 = .ok (.iload_n 2, 1) := by decide +kernel
theorem dX12_read_19 : decode cX12_read 19 = .ok (.iconst 0, 1) := by decide +kernel
theorem dX12_read_20 : decode cX12_read 20 = .ok (.aload_n 0, 1) := by decide +kernel
theorem dX12_read_21 : decode cX12_read 21 = .ok (.getfield 230, 3) := by decide +kernel
theorem dX12_read_24 : decode cX12_read 24 = .ok (.iload_n 1, 1) := by decide +kernel
theorem dX12_read_25 : decode cX12_read 25 = .ok (.iaload, 1) := by decide +kernel
theorem dX12_read_26 : decode cX12_read 26 = .ok (.iconst 1, 1) := by decide +kernel
theorem dX12_read_27 : decode cX12_read 27 = .ok (.isub, 1) := by decide +kernel
theorem dX12_read_28 : decode cX12_read 28 = .ok (.invokevirtual 240, 3) := by decide +kernel
theorem dX12_read_31 : decode cX12_read 31 = .ok (.ifCond .ne 9, 3) := by decide +kernel
theorem dX12_read_34 : decode cX12_read 34 = .ok (.ldc2_w 391, 3) := by decide +kernel
theorem dX12_read_37 : decode cX12_read 37 = .ok (.goto 14, 3) := by decide +kernel
theorem dX12_read_40 : decode cX12_read 40 = .ok (.aload_n 0, 1) := by decide +kernel
theorem dX12_read_41 : decode cX12_read 41 = .ok (.getfield 233, 3) := by decide +kernel
theorem dX12_read_44 : decode cX12_read 44 = .ok (.bipush 60, 2) := by decide +kernel
theorem dX12_read_46 : decode cX12_read 46 = .ok (.iload_n 1, 1) := by decide +kernel
theorem dX12_read_47 : decode cX12_read 47 = .ok (.imul, 1) := by decide +kernel
theorem dX12_read_48 : decode cX12_read 48 = .ok (.iload_n 2, 1) := by decide +kernel
theorem dX12_read_49 : decode cX12_read 49 = .ok (.iadd, 1) := by decide +kernel
theorem dX12_read_50 : decode cX12_read 50 = .ok (.laload, 1) := by decide +kernel
theorem dX12_read_51 : decode cX12_read 51 = .ok (.lreturn, 1) := by decide +kernel
noncomputable def C_X12_read : List (Nat × qOp) := [(0, qo_aload 0 1),
  (1, qo_iload 1 1),
  (2, qo_callv [(12, S_X12_isTape)] 1),
  (5, qo_ifeq 34),
  (8, qo_aload 0 1),
  (9, qo_getR 12 71),
  (12, qo_iload 1 1),
  (13, qo_iaload),
  (14, qo_iflt 34),
  (17, qo_aload 0 1),
  (18, qo_iload 2 1),
  (19, qo_ci 0 1),
  (20, qo_aload 0 1),
  (21, qo_getR 12 72),
  (24, qo_iload 1 1),
  (25, qo_iaload),
  (26, qo_ci 1 1),
  (27, qo_isub),
  (28, qo_callv [(12, S_X12_in)] 3),
  (31, qo_ifne 40),
  (34, qo_cl (-9223372036854775808) 3),
  (37, qo_goto 51),
  (40, qo_aload 0 1),
  (41, qo_getR 12 73),
  (44, qo_ci 60 2),
  (46, qo_iload 1 1),
  (47, qo_imul),
  (48, qo_iload 2 1),
  (49, qo_iadd),
  (50, qo_laload),
  (51, qo_ret (some .long) 2)]
noncomputable def S_X12_read : qSem := qM 3 C_X12_read
set_option maxRecDepth 20000 in
theorem K_X12_read {X : qX} {l : Launch} : ∀ q ∈ C_X12_read, qOk X l 3 cX12_read 3 RX12 "read" (some .long) q.1 q.2 := by
  unfold C_X12_read
  refine qcons (qk_aload_n dX12_read_0 rfl) ?_
  refine qcons (qk_iload_n dX12_read_1 rfl) ?_
  refine qcons (qk_callv (ins := fun i => .invokevirtual i) (qconsV (qrunV M_X12_isTape (by decide) (by decide) (by decide) rfl tw_1369 tw_1371 tw_67 tw_1372 tw_90 ⟨by decide, by decide⟩ (by decide +kernel)) qnilV) dX12_read_2) ?_
  refine qcons (qk_ifeq dX12_read_5 (by decide)) ?_
  refine qcons (qk_aload_n dX12_read_8 rfl) ?_
  refine qcons (qk_getR fd_X12_227 kd_12_71 dX12_read_9) ?_
  refine qcons (qk_iload_n dX12_read_12 rfl) ?_
  refine qcons (qk_iaload dX12_read_13) ?_
  refine qcons (qk_iflt dX12_read_14 (by decide)) ?_
  refine qcons (qk_aload_n dX12_read_17 rfl) ?_
  refine qcons (qk_iload_n dX12_read_18 rfl) ?_
  refine qcons (qk_iconst dX12_read_19 (by decide)) ?_
  refine qcons (qk_aload_n dX12_read_20 rfl) ?_
  refine qcons (qk_getR fd_X12_230 kd_12_72 dX12_read_21) ?_
  refine qcons (qk_iload_n dX12_read_24 rfl) ?_
  refine qcons (qk_iaload dX12_read_25) ?_
  refine qcons (qk_iconst dX12_read_26 (by decide)) ?_
  refine qcons (qk_isub dX12_read_27) ?_
  refine qcons (qk_callv (ins := fun i => .invokevirtual i) (qconsV (qrunV M_X12_in (by decide) (by decide) (by decide) rfl tw_1082 tw_1084 tw_20 tw_1085 tw_90 ⟨by decide, by decide⟩ (by decide +kernel)) qnilV) dX12_read_28) ?_
  refine qcons (qk_ifne dX12_read_31 (by decide)) ?_
  refine qcons (qk_ldc2 dX12_read_34 tw_1336 (by decide)) ?_
  refine qcons (qk_goto dX12_read_37 (by decide)) ?_
  refine qcons (qk_aload_n dX12_read_40 rfl) ?_
  refine qcons (qk_getR fd_X12_233 kd_12_73 dX12_read_41) ?_
  refine qcons (qk_bipush dX12_read_44 (by decide) (by decide)) ?_
  refine qcons (qk_iload_n dX12_read_46 rfl) ?_
  refine qcons (qk_imul dX12_read_47) ?_
  refine qcons (qk_iload_n dX12_read_48 rfl) ?_
  refine qcons (qk_iadd dX12_read_49) ?_
  refine qcons (qk_laload dX12_read_50) ?_
  refine qcons (qk_ret dX12_read_51 (Or.inr (Or.inr (Or.inl ⟨rfl, rfl⟩)))) ?_
  exact qnil
theorem M_X12_read {X : qX} {l : Launch} : qMet X l 3 yX12_read cX12_read 3 (some .long) S_X12_read := qmet_of K_X12_read (by decide) rfl rfl
theorem dX12_shift_0 : decode cX12_shift 0 = .ok (.aload_n 0, 1) := by decide +kernel
theorem dX12_shift_1 : decode cX12_shift 1 = .ok (.iload_n 1, 1) := by decide +kernel
theorem dX12_shift_2 : decode cX12_shift 2 = .ok (.invokevirtual 397, 3) := by decide +kernel
theorem dX12_shift_5 : decode cX12_shift 5 = .ok (.ifCond .eq 11, 3) := by decide +kernel
theorem dX12_shift_8 : decode cX12_shift 8 = .ok (.aload_n 0, 1) := by decide +kernel
theorem dX12_shift_9 : decode cX12_shift 9 = .ok (.iload_n 3, 1) := by decide +kernel
theorem dX12_shift_10 : decode cX12_shift 10 = .ok (.invokevirtual 397, 3) := by decide +kernel
theorem dX12_shift_13 : decode cX12_shift 13 = .ok (.ifCond .ne 5, 3) := by decide +kernel
theorem dX12_shift_16 : decode cX12_shift 16 = .ok (.iconst (-1), 1) := by decide +kernel
theorem dX12_shift_17 : decode cX12_shift 17 = .ok (.ireturn, 1) := by decide +kernel
theorem dX12_shift_18 : decode cX12_shift 18 = .ok (.aload_n 0, 1) := by decide +kernel
theorem dX12_shift_19 : decode cX12_shift 19 = .ok (.getfield 227, 3) := by decide +kernel
theorem dX12_shift_22 : decode cX12_shift 22 = .ok (.iload_n 1, 1) := by decide +kernel
theorem dX12_shift_23 : decode cX12_shift 23 = .ok (.iaload, 1) := by decide +kernel
theorem dX12_shift_24 : decode cX12_shift 24 = .ok (.ifCond .lt 12, 3) := by decide +kernel
theorem dX12_shift_27 : decode cX12_shift 27 = .ok (.aload_n 0, 1) := by decide +kernel
theorem dX12_shift_28 : decode cX12_shift 28 = .ok (.getfield 227, 3) := by decide +kernel
theorem dX12_shift_31 : decode cX12_shift 31 = .ok (.iload_n 3, 1) := by decide +kernel
theorem dX12_shift_32 : decode cX12_shift 32 = .ok (.iaload, 1) := by decide +kernel
theorem dX12_shift_33 : decode cX12_shift 33 = .ok (.ifCond .ge 6, 3) := by decide +kernel
theorem dX12_shift_36 : decode cX12_shift 36 = .ok (.bipush (-11), 2) := by decide +kernel
theorem dX12_shift_38 : decode cX12_shift 38 = .ok (.ireturn, 1) := by decide +kernel
theorem dX12_shift_39 : decode cX12_shift 39 = .ok (.aload_n 0, 1) := by decide +kernel
theorem dX12_shift_40 : decode cX12_shift 40 = .ok (.getfield 227, 3) := by decide +kernel
theorem dX12_shift_43 : decode cX12_shift 43 = .ok (.iload_n 1, 1) := by decide +kernel
theorem dX12_shift_44 : decode cX12_shift 44 = .ok (.iaload, 1) := by decide +kernel
theorem dX12_shift_45 : decode cX12_shift 45 = .ok (.aload_n 0, 1) := by decide +kernel
theorem dX12_shift_46 : decode cX12_shift 46 = .ok (.getfield 227, 3) := by decide +kernel
theorem dX12_shift_49 : decode cX12_shift 49 = .ok (.iload_n 3, 1) := by decide +kernel
theorem dX12_shift_50 : decode cX12_shift 50 = .ok (.iaload, 1) := by decide +kernel
theorem dX12_shift_51 : decode cX12_shift 51 = .ok (.if_icmp .eq 6, 3) := by decide +kernel
theorem dX12_shift_54 : decode cX12_shift 54 = .ok (.bipush (-12), 2) := by decide +kernel
theorem dX12_shift_56 : decode cX12_shift 56 = .ok (.ireturn, 1) := by decide +kernel
theorem dX12_shift_57 : decode cX12_shift 57 = .ok (.iload 5, 2) := by decide +kernel
theorem dX12_shift_59 : decode cX12_shift 59 = .ok (.ifCond .lt 39, 3) := by decide +kernel
theorem dX12_shift_62 : decode cX12_shift 62 = .ok (.iload_n 2, 1) := by decide +kernel
theorem dX12_shift_63 : decode cX12_shift 63 = .ok (.ifCond .lt 35, 3) := by decide +kernel
theorem dX12_shift_66 : decode cX12_shift 66 = .ok (.iload 4, 2) := by decide +kernel
theorem dX12_shift_68 : decode cX12_shift 68 = .ok (.ifCond .lt 30, 3) := by decide +kernel
theorem dX12_shift_71 : decode cX12_shift 71 = .ok (.iload_n 2, 1) := by decide +kernel
theorem dX12_shift_72 : decode cX12_shift 72 = .ok (.aload_n 0, 1) := by decide +kernel
theorem dX12_shift_73 : decode cX12_shift 73 = .ok (.getfield 230, 3) := by decide +kernel
theorem dX12_shift_76 : decode cX12_shift 76 = .ok (.iload_n 1, 1) := by decide +kernel
theorem dX12_shift_77 : decode cX12_shift 77 = .ok (.iaload, 1) := by decide +kernel
theorem dX12_shift_78 : decode cX12_shift 78 = .ok (.iload 5, 2) := by decide +kernel
theorem dX12_shift_80 : decode cX12_shift 80 = .ok (.isub, 1) := by decide +kernel
theorem dX12_shift_81 : decode cX12_shift 81 = .ok (.if_icmp .gt 17, 3) := by decide +kernel
theorem dX12_shift_84 : decode cX12_shift 84 = .ok (.iload 4, 2) := by decide +kernel
theorem dX12_shift_86 : decode cX12_shift 86 = .ok (.aload_n 0, 1) := by decide +kernel
theorem dX12_shift_87 : decode cX12_shift 87 = .ok (.getfield 230, 3) := by decide +kernel
theorem dX12_shift_90 : decode cX12_shift 90 = .ok (.iload_n 3, 1) := by decide +kernel
theorem dX12_shift_91 : decode cX12_shift 91 = .ok (.iaload, 1) := by decide +kernel
theorem dX12_shift_92 : decode cX12_shift 92 = .ok (.iload 5, 2) := by decide +kernel
theorem dX12_shift_94 : decode cX12_shift 94 = .ok (.isub, 1) := by decide +kernel
theorem dX12_shift_95 : decode cX12_shift 95 = .ok (.if_icmp .le 6, 3) := by decide +kernel
theorem dX12_shift_98 : decode cX12_shift 98 = .ok (.bipush (-13), 2) := by decide +kernel
theorem dX12_shift_100 : decode cX12_shift 100 = .ok (.ireturn, 1) := by decide +kernel
theorem dX12_shift_101 : decode cX12_shift 101 = .ok (.iconst 0, 1) := by decide +kernel
theorem dX12_shift_102 : decode cX12_shift 102 = .ok (.istore 6, 2) := by decide +kernel
theorem dX12_shift_104 : decode cX12_shift 104 = .ok (.iload 6, 2) := by decide +kernel
theorem dX12_shift_106 : decode cX12_shift 106 = .ok (.iload 5, 2) := by decide +kernel
theorem dX12_shift_108 : decode cX12_shift 108 = .ok (.if_icmp .ge 30, 3) := by decide +kernel
theorem dX12_shift_111 : decode cX12_shift 111 = .ok (.aload_n 0, 1) := by decide +kernel
theorem dX12_shift_112 : decode cX12_shift 112 = .ok (.getfield 237, 3) := by decide +kernel
theorem dX12_shift_115 : decode cX12_shift 115 = .ok (.iload 6, 2) := by decide +kernel
theorem dX12_shift_117 : decode cX12_shift 117 = .ok (.aload_n 0, 1) := by decide +kernel
theorem dX12_shift_118 : decode cX12_shift 118 = .ok (.getfield 233, 3) := by decide +kernel
theorem dX12_shift_121 : decode cX12_shift 121 = .ok (.bipush 60, 2) := by decide +kernel
theorem dX12_shift_123 : decode cX12_shift 123 = .ok (.iload_n 1, 1) := by decide +kernel
theorem dX12_shift_124 : decode cX12_shift 124 = .ok (.imul, 1) := by decide +kernel
theorem dX12_shift_125 : decode cX12_shift 125 = .ok (.iload_n 2, 1) := by decide +kernel
theorem dX12_shift_126 : decode cX12_shift 126 = .ok (.iadd, 1) := by decide +kernel
theorem dX12_shift_127 : decode cX12_shift 127 = .ok (.iload 6, 2) := by decide +kernel
theorem dX12_shift_129 : decode cX12_shift 129 = .ok (.iadd, 1) := by decide +kernel
theorem dX12_shift_130 : decode cX12_shift 130 = .ok (.laload, 1) := by decide +kernel
theorem dX12_shift_131 : decode cX12_shift 131 = .ok (.lastore, 1) := by decide +kernel
theorem dX12_shift_132 : decode cX12_shift 132 = .ok (.iinc 6 1, 3) := by decide +kernel
theorem dX12_shift_135 : decode cX12_shift 135 = .ok (.goto (-31), 3) := by decide +kernel
theorem dX12_shift_138 : decode cX12_shift 138 = .ok (.iconst 0, 1) := by decide +kernel
theorem dX12_shift_139 : decode cX12_shift 139 = .ok (.istore 6, 2) := by decide +kernel
theorem dX12_shift_141 : decode cX12_shift 141 = .ok (.iload 6, 2) := by decide +kernel
theorem dX12_shift_143 : decode cX12_shift 143 = .ok (.iload 5, 2) := by decide +kernel
theorem dX12_shift_145 : decode cX12_shift 145 = .ok (.if_icmp .ge 31, 3) := by decide +kernel
theorem dX12_shift_148 : decode cX12_shift 148 = .ok (.aload_n 0, 1) := by decide +kernel
theorem dX12_shift_149 : decode cX12_shift 149 = .ok (.getfield 233, 3) := by decide +kernel
theorem dX12_shift_152 : decode cX12_shift 152 = .ok (.bipush 60, 2) := by decide +kernel
theorem dX12_shift_154 : decode cX12_shift 154 = .ok (.iload_n 3, 1) := by decide +kernel
theorem dX12_shift_155 : decode cX12_shift 155 = .ok (.imul, 1) := by decide +kernel
theorem dX12_shift_156 : decode cX12_shift 156 = .ok (.iload 4, 2) := by decide +kernel
theorem dX12_shift_158 : decode cX12_shift 158 = .ok (.iadd, 1) := by decide +kernel
theorem dX12_shift_159 : decode cX12_shift 159 = .ok (.iload 6, 2) := by decide +kernel
theorem dX12_shift_161 : decode cX12_shift 161 = .ok (.iadd, 1) := by decide +kernel
theorem dX12_shift_162 : decode cX12_shift 162 = .ok (.aload_n 0, 1) := by decide +kernel
theorem dX12_shift_163 : decode cX12_shift 163 = .ok (.getfield 237, 3) := by decide +kernel
theorem dX12_shift_166 : decode cX12_shift 166 = .ok (.iload 6, 2) := by decide +kernel
theorem dX12_shift_168 : decode cX12_shift 168 = .ok (.laload, 1) := by decide +kernel
theorem dX12_shift_169 : decode cX12_shift 169 = .ok (.lastore, 1) := by decide +kernel
theorem dX12_shift_170 : decode cX12_shift 170 = .ok (.iinc 6 1, 3) := by decide +kernel
theorem dX12_shift_173 : decode cX12_shift 173 = .ok (.goto (-32), 3) := by decide +kernel
theorem dX12_shift_176 : decode cX12_shift 176 = .ok (.iload 5, 2) := by decide +kernel
theorem dX12_shift_178 : decode cX12_shift 178 = .ok (.ireturn, 1) := by decide +kernel
noncomputable def C_X12_shift : List (Nat × qOp) := [(0, qo_aload 0 1),
  (1, qo_iload 1 1),
  (2, qo_callv [(12, S_X12_isTape)] 1),
  (5, qo_ifeq 16),
  (8, qo_aload 0 1),
  (9, qo_iload 3 1),
  (10, qo_callv [(12, S_X12_isTape)] 1),
  (13, qo_ifne 18),
  (16, qo_ci (-1) 1),
  (17, qo_ret (some .int) 1),
  (18, qo_aload 0 1),
  (19, qo_getR 12 71),
  (22, qo_iload 1 1),
  (23, qo_iaload),
  (24, qo_iflt 36),
  (27, qo_aload 0 1),
  (28, qo_getR 12 71),
  (31, qo_iload 3 1),
  (32, qo_iaload),
  (33, qo_ifge 39),
  (36, qo_ci (-11) 2),
  (38, qo_ret (some .int) 1),
  (39, qo_aload 0 1),
  (40, qo_getR 12 71),
  (43, qo_iload 1 1),
  (44, qo_iaload),
  (45, qo_aload 0 1),
  (46, qo_getR 12 71),
  (49, qo_iload 3 1),
  (50, qo_iaload),
  (51, qo_iceq 57),
  (54, qo_ci (-12) 2),
  (56, qo_ret (some .int) 1),
  (57, qo_iload 5 2),
  (59, qo_iflt 98),
  (62, qo_iload 2 1),
  (63, qo_iflt 98),
  (66, qo_iload 4 2),
  (68, qo_iflt 98),
  (71, qo_iload 2 1),
  (72, qo_aload 0 1),
  (73, qo_getR 12 72),
  (76, qo_iload 1 1),
  (77, qo_iaload),
  (78, qo_iload 5 2),
  (80, qo_isub),
  (81, qo_icgt 98),
  (84, qo_iload 4 2),
  (86, qo_aload 0 1),
  (87, qo_getR 12 72),
  (90, qo_iload 3 1),
  (91, qo_iaload),
  (92, qo_iload 5 2),
  (94, qo_isub),
  (95, qo_icle 101),
  (98, qo_ci (-13) 2),
  (100, qo_ret (some .int) 1),
  (101, qo_ci 0 1),
  (102, qo_istore 6 2),
  (104, qo_iload 6 2),
  (106, qo_iload 5 2),
  (108, qo_icge 138),
  (111, qo_aload 0 1),
  (112, qo_getR 12 74),
  (115, qo_iload 6 2),
  (117, qo_aload 0 1),
  (118, qo_getR 12 73),
  (121, qo_ci 60 2),
  (123, qo_iload 1 1),
  (124, qo_imul),
  (125, qo_iload 2 1),
  (126, qo_iadd),
  (127, qo_iload 6 2),
  (129, qo_iadd),
  (130, qo_laload),
  (131, qo_lastore),
  (132, qo_iinc 6 1),
  (135, qo_goto 104),
  (138, qo_ci 0 1),
  (139, qo_istore 6 2),
  (141, qo_iload 6 2),
  (143, qo_iload 5 2),
  (145, qo_icge 176),
  (148, qo_aload 0 1),
  (149, qo_getR 12 73),
  (152, qo_ci 60 2),
  (154, qo_iload 3 1),
  (155, qo_imul),
  (156, qo_iload 4 2),
  (158, qo_iadd),
  (159, qo_iload 6 2),
  (161, qo_iadd),
  (162, qo_aload 0 1),
  (163, qo_getR 12 74),
  (166, qo_iload 6 2),
  (168, qo_laload),
  (169, qo_lastore),
  (170, qo_iinc 6 1),
  (173, qo_goto 141),
  (176, qo_iload 5 2),
  (178, qo_ret (some .int) 1)]
noncomputable def S_X12_shift : qSem := qM 7 C_X12_shift
set_option maxRecDepth 20000 in
theorem K_X12_shift {X : qX} {l : Launch} : ∀ q ∈ C_X12_shift, qOk X l 3 cX12_shift 7 RX12 "shift" (some .int) q.1 q.2 := by
  unfold C_X12_shift
  refine qcons (qk_aload_n dX12_shift_0 rfl) ?_
  refine qcons (qk_iload_n dX12_shift_1 rfl) ?_
  refine qcons (qk_callv (ins := fun i => .invokevirtual i) (qconsV (qrunV M_X12_isTape (by decide) (by decide) (by decide) rfl tw_1369 tw_1371 tw_67 tw_1372 tw_90 ⟨by decide, by decide⟩ (by decide +kernel)) qnilV) dX12_shift_2) ?_
  refine qcons (qk_ifeq dX12_shift_5 (by decide)) ?_
  refine qcons (qk_aload_n dX12_shift_8 rfl) ?_
  refine qcons (qk_iload_n dX12_shift_9 rfl) ?_
  refine qcons (qk_callv (ins := fun i => .invokevirtual i) (qconsV (qrunV M_X12_isTape (by decide) (by decide) (by decide) rfl tw_1369 tw_1371 tw_67 tw_1372 tw_90 ⟨by decide, by decide⟩ (by decide +kernel)) qnilV) dX12_shift_10) ?_
  refine qcons (qk_ifne dX12_shift_13 (by decide)) ?_
  refine qcons (qk_iconst dX12_shift_16 (by decide)) ?_
  refine qcons (qk_ret dX12_shift_17 (Or.inr (Or.inl ⟨rfl, rfl⟩))) ?_
  refine qcons (qk_aload_n dX12_shift_18 rfl) ?_
  refine qcons (qk_getR fd_X12_227 kd_12_71 dX12_shift_19) ?_
  refine qcons (qk_iload_n dX12_shift_22 rfl) ?_
  refine qcons (qk_iaload dX12_shift_23) ?_
  refine qcons (qk_iflt dX12_shift_24 (by decide)) ?_
  refine qcons (qk_aload_n dX12_shift_27 rfl) ?_
  refine qcons (qk_getR fd_X12_227 kd_12_71 dX12_shift_28) ?_
  refine qcons (qk_iload_n dX12_shift_31 rfl) ?_
  refine qcons (qk_iaload dX12_shift_32) ?_
  refine qcons (qk_ifge dX12_shift_33 (by decide)) ?_
  refine qcons (qk_bipush dX12_shift_36 (by decide) (by decide)) ?_
  refine qcons (qk_ret dX12_shift_38 (Or.inr (Or.inl ⟨rfl, rfl⟩))) ?_
  refine qcons (qk_aload_n dX12_shift_39 rfl) ?_
  refine qcons (qk_getR fd_X12_227 kd_12_71 dX12_shift_40) ?_
  refine qcons (qk_iload_n dX12_shift_43 rfl) ?_
  refine qcons (qk_iaload dX12_shift_44) ?_
  refine qcons (qk_aload_n dX12_shift_45 rfl) ?_
  refine qcons (qk_getR fd_X12_227 kd_12_71 dX12_shift_46) ?_
  refine qcons (qk_iload_n dX12_shift_49 rfl) ?_
  refine qcons (qk_iaload dX12_shift_50) ?_
  refine qcons (qk_iceq dX12_shift_51 (by decide)) ?_
  refine qcons (qk_bipush dX12_shift_54 (by decide) (by decide)) ?_
  refine qcons (qk_ret dX12_shift_56 (Or.inr (Or.inl ⟨rfl, rfl⟩))) ?_
  refine qcons (qk_iload dX12_shift_57) ?_
  refine qcons (qk_iflt dX12_shift_59 (by decide)) ?_
  refine qcons (qk_iload_n dX12_shift_62 rfl) ?_
  refine qcons (qk_iflt dX12_shift_63 (by decide)) ?_
  refine qcons (qk_iload dX12_shift_66) ?_
  refine qcons (qk_iflt dX12_shift_68 (by decide)) ?_
  refine qcons (qk_iload_n dX12_shift_71 rfl) ?_
  refine qcons (qk_aload_n dX12_shift_72 rfl) ?_
  refine qcons (qk_getR fd_X12_230 kd_12_72 dX12_shift_73) ?_
  refine qcons (qk_iload_n dX12_shift_76 rfl) ?_
  refine qcons (qk_iaload dX12_shift_77) ?_
  refine qcons (qk_iload dX12_shift_78) ?_
  refine qcons (qk_isub dX12_shift_80) ?_
  refine qcons (qk_icgt dX12_shift_81 (by decide)) ?_
  refine qcons (qk_iload dX12_shift_84) ?_
  refine qcons (qk_aload_n dX12_shift_86 rfl) ?_
  refine qcons (qk_getR fd_X12_230 kd_12_72 dX12_shift_87) ?_
  refine qcons (qk_iload_n dX12_shift_90 rfl) ?_
  refine qcons (qk_iaload dX12_shift_91) ?_
  refine qcons (qk_iload dX12_shift_92) ?_
  refine qcons (qk_isub dX12_shift_94) ?_
  refine qcons (qk_icle dX12_shift_95 (by decide)) ?_
  refine qcons (qk_bipush dX12_shift_98 (by decide) (by decide)) ?_
  refine qcons (qk_ret dX12_shift_100 (Or.inr (Or.inl ⟨rfl, rfl⟩))) ?_
  refine qcons (qk_iconst dX12_shift_101 (by decide)) ?_
  refine qcons (qk_istore dX12_shift_102) ?_
  refine qcons (qk_iload dX12_shift_104) ?_
  refine qcons (qk_iload dX12_shift_106) ?_
  refine qcons (qk_icge dX12_shift_108 (by decide)) ?_
  refine qcons (qk_aload_n dX12_shift_111 rfl) ?_
  refine qcons (qk_getR fd_X12_237 kd_12_74 dX12_shift_112) ?_
  refine qcons (qk_iload dX12_shift_115) ?_
  refine qcons (qk_aload_n dX12_shift_117 rfl) ?_
  refine qcons (qk_getR fd_X12_233 kd_12_73 dX12_shift_118) ?_
  refine qcons (qk_bipush dX12_shift_121 (by decide) (by decide)) ?_
  refine qcons (qk_iload_n dX12_shift_123 rfl) ?_
  refine qcons (qk_imul dX12_shift_124) ?_
  refine qcons (qk_iload_n dX12_shift_125 rfl) ?_
  refine qcons (qk_iadd dX12_shift_126) ?_
  refine qcons (qk_iload dX12_shift_127) ?_
  refine qcons (qk_iadd dX12_shift_129) ?_
  refine qcons (qk_laload dX12_shift_130) ?_
  refine qcons (qk_lastore dX12_shift_131) ?_
  refine qcons (qk_iinc dX12_shift_132) ?_
  refine qcons (qk_goto dX12_shift_135 (by decide)) ?_
  refine qcons (qk_iconst dX12_shift_138 (by decide)) ?_
  refine qcons (qk_istore dX12_shift_139) ?_
  refine qcons (qk_iload dX12_shift_141) ?_
  refine qcons (qk_iload dX12_shift_143) ?_
  refine qcons (qk_icge dX12_shift_145 (by decide)) ?_
  refine qcons (qk_aload_n dX12_shift_148 rfl) ?_
  refine qcons (qk_getR fd_X12_233 kd_12_73 dX12_shift_149) ?_
  refine qcons (qk_bipush dX12_shift_152 (by decide) (by decide)) ?_
  refine qcons (qk_iload_n dX12_shift_154 rfl) ?_
  refine qcons (qk_imul dX12_shift_155) ?_
  refine qcons (qk_iload dX12_shift_156) ?_
  refine qcons (qk_iadd dX12_shift_158) ?_
  refine qcons (qk_iload dX12_shift_159) ?_
  refine qcons (qk_iadd dX12_shift_161) ?_
  refine qcons (qk_aload_n dX12_shift_162 rfl) ?_
  refine qcons (qk_getR fd_X12_237 kd_12_74 dX12_shift_163) ?_
  refine qcons (qk_iload dX12_shift_166) ?_
  refine qcons (qk_laload dX12_shift_168) ?_
  refine qcons (qk_lastore dX12_shift_169) ?_
  refine qcons (qk_iinc dX12_shift_170) ?_
  refine qcons (qk_goto dX12_shift_173 (by decide)) ?_
  refine qcons (qk_iload dX12_shift_176) ?_
  refine qcons (qk_ret dX12_shift_178 (Or.inr (Or.inl ⟨rfl, rfl⟩))) ?_
  exact qnil
theorem M_X12_shift {X : qX} {l : Launch} : qMet X l 3 yX12_shift cX12_shift 7 (some .int) S_X12_shift := qmet_of K_X12_shift (by decide) rfl rfl
