theorem dX12_place_0 : decode cX12_place 0 = .ok (.iload_n 1, 1) := by decide +kernel
theorem dX12_place_1 : decode cX12_place 1 = .ok (.tableswitch 107 100 119 #[103, 107, 107, 107, 107, 107, 107, 97, 107, 105, 107, 107, 95, 107, 107, 107, 107, 107, 99, 101], 95) := by decide +kernel
theorem dX12_place_96 : decode cX12_place 96 = .ok (.iconst 0, 1) := by decide +kernel
theorem dX12_place_97 : decode cX12_place 97 = .ok (.ireturn, 1) := by decide +kernel
theorem dX12_place_98 : decode cX12_place 98 = .ok (.iconst 1, 1) := by decide +kernel
theorem dX12_place_99 : decode cX12_place 99 = .ok (.ireturn, 1) := by decide +kernel
theorem dX12_place_100 : decode cX12_place 100 = .ok (.iconst 2, 1) := by decide +kernel
theorem dX12_place_101 : decode cX12_place 101 = .ok (.ireturn, 1) := by decide +kernel
theorem dX12_place_102 : decode cX12_place 102 = .ok (.iconst 3, 1) := by decide +kernel
theorem dX12_place_103 : decode cX12_place 103 = .ok (.ireturn, 1) := by decide +kernel
theorem dX12_place_104 : decode cX12_place 104 = .ok (.iconst 4, 1) := by decide +kernel
theorem dX12_place_105 : decode cX12_place 105 = .ok (.ireturn, 1) := by decide +kernel
theorem dX12_place_106 : decode cX12_place 106 = .ok (.iconst 5, 1) := by decide +kernel
theorem dX12_place_107 : decode cX12_place 107 = .ok (.ireturn, 1) := by decide +kernel
theorem dX12_place_108 : decode cX12_place 108 = .ok (.iconst (-1), 1) := by decide +kernel
theorem dX12_place_109 : decode cX12_place 109 = .ok (.ireturn, 1) := by decide +kernel
noncomputable def C_X12_place : List (Nat × qOp) := [(0, qo_iload 1 1),
  (1, qo_tsw 100 [104, 108, 108, 108, 108, 108, 108, 98, 108, 106, 108, 108, 96, 108, 108, 108, 108, 108, 100, 102] 108),
  (96, qo_ci 0 1),
  (97, qo_ret (some .int) 1),
  (98, qo_ci 1 1),
  (99, qo_ret (some .int) 1),
  (100, qo_ci 2 1),
  (101, qo_ret (some .int) 1),
  (102, qo_ci 3 1),
  (103, qo_ret (some .int) 1),
  (104, qo_ci 4 1),
  (105, qo_ret (some .int) 1),
  (106, qo_ci 5 1),
  (107, qo_ret (some .int) 1),
  (108, qo_ci (-1) 1),
  (109, qo_ret (some .int) 1)]
noncomputable def S_X12_place : qSem := qM 2 C_X12_place
set_option maxRecDepth 20000 in
theorem K_X12_place {X : qX} {l : Launch} : ∀ q ∈ C_X12_place, qOk X l 1 cX12_place 2 RX12 "place" (some .int) q.1 q.2 := by
  unfold C_X12_place
  refine qcons (qk_iload_n dX12_place_0 rfl) ?_
  refine qcons (qk_tsw dX12_place_1 (by decide) (by decide) (by decide)) ?_
  refine qcons (qk_iconst dX12_place_96 (by decide)) ?_
  refine qcons (qk_ret dX12_place_97 (Or.inr (Or.inl ⟨rfl, rfl⟩))) ?_
  refine qcons (qk_iconst dX12_place_98 (by decide)) ?_
  refine qcons (qk_ret dX12_place_99 (Or.inr (Or.inl ⟨rfl, rfl⟩))) ?_
  refine qcons (qk_iconst dX12_place_100 (by decide)) ?_
  refine qcons (qk_ret dX12_place_101 (Or.inr (Or.inl ⟨rfl, rfl⟩))) ?_
  refine qcons (qk_iconst dX12_place_102 (by decide)) ?_
  refine qcons (qk_ret dX12_place_103 (Or.inr (Or.inl ⟨rfl, rfl⟩))) ?_
  refine qcons (qk_iconst dX12_place_104 (by decide)) ?_
  refine qcons (qk_ret dX12_place_105 (Or.inr (Or.inl ⟨rfl, rfl⟩))) ?_
  refine qcons (qk_iconst dX12_place_106 (by decide)) ?_
  refine qcons (qk_ret dX12_place_107 (Or.inr (Or.inl ⟨rfl, rfl⟩))) ?_
  refine qcons (qk_iconst dX12_place_108 (by decide)) ?_
  refine qcons (qk_ret dX12_place_109 (Or.inr (Or.inl ⟨rfl, rfl⟩))) ?_
  exact qnil
theorem M_X12_place {X : qX} {l : Launch} : qMet X l 1 yX12_place cX12_place 2 (some .int) S_X12_place := qmet_of K_X12_place (by decide) rfl rfl
theorem dX12_takesTest_0 : decode cX12_takesTest 0 = .ok (.aload_n 0, 1) := by decide +kernel
theorem dX12_takesTest_1 : decode cX12_takesTest 1 = .ok (.aload_n 0, 1) := by decide +kernel
theorem dX12_takesTest_2 : decode cX12_takesTest 2 = .ok (.invokevirtual 265, 3) := by decide +kernel
theorem dX12_takesTest_5 : decode cX12_takesTest 5 = .ok (.invokevirtual 280, 3) := by decide +kernel
theorem dX12_takesTest_8 : decode cX12_takesTest 8 = .ok (.istore_n 1, 1) := by decide +kernel
theorem dX12_takesTest_9 : decode cX12_takesTest 9 = .ok (.iload_n 1, 1) := by decide +kernel
theorem dX12_takesTest_10 : decode cX12_takesTest 10 = .ok (.ifCond .ge 5, 3) := by decide +kernel
theorem dX12_takesTest_13 : decode cX12_takesTest 13 = .ok (.iconst 0, 1) := by decide +kernel
theorem dX12_takesTest_14 : decode cX12_takesTest 14 = .ok (.ireturn, 1) := by decide +kernel
theorem dX12_takesTest_15 : decode cX12_takesTest 15 = .ok (.aload_n 0, 1) := by decide +kernel
theorem dX12_takesTest_16 : decode cX12_takesTest 16 = .ok (.dup, 1) := by decide +kernel
theorem dX12_takesTest_17 : decode cX12_takesTest 17 = .ok (.getfield 50, 3) := by decide +kernel
theorem dX12_takesTest_20 : decode cX12_takesTest 20 = .ok (.iconst 1, 1) := by decide +kernel
theorem dX12_takesTest_21 : decode cX12_takesTest 21 = .ok (.iadd, 1) := by decide +kernel
theorem dX12_takesTest_22 : decode cX12_takesTest 22 = .ok (.putfield 50, 3) := by decide +kernel
theorem dX12_takesTest_25 : decode cX12_takesTest 25 = .ok (.aload_n 0, 1) := by decide +kernel
theorem dX12_takesTest_26 : decode cX12_takesTest 26 = .ok (.invokevirtual 265, 3) := by decide +kernel
theorem dX12_takesTest_29 : decode cX12_takesTest 29 = .ok (.istore_n 2, 1) := by decide +kernel
theorem dX12_takesTest_30 : decode cX12_takesTest 30 = .ok (.aload_n 0, 1) := by decide +kernel
theorem dX12_takesTest_31 : decode cX12_takesTest 31 = .ok (.iload_n 2, 1) := by decide +kernel
theorem dX12_takesTest_32 : decode cX12_takesTest 32 = .ok (.bipush 60, 2) := by decide +kernel
theorem dX12_takesTest_34 : decode cX12_takesTest 34 = .ok (.bipush 62, 2) := by decide +kernel
theorem dX12_takesTest_36 : decode cX12_takesTest 36 = .ok (.invokevirtual 240, 3) := by decide +kernel
theorem dX12_takesTest_39 : decode cX12_takesTest 39 = .ok (.ifCond .ne 5, 3) := by decide +kernel
theorem dX12_takesTest_42 : decode cX12_takesTest 42 = .ok (.iconst 0, 1) := by decide +kernel
theorem dX12_takesTest_43 : decode cX12_takesTest 43 = .ok (.ireturn, 1) := by decide +kernel
theorem dX12_takesTest_44 : decode cX12_takesTest 44 = .ok (.aload_n 0, 1) := by decide +kernel
theorem dX12_takesTest_45 : decode cX12_takesTest 45 = .ok (.dup, 1) := by decide +kernel
theorem dX12_takesTest_46 : decode cX12_takesTest 46 = .ok (.getfield 50, 3) := by decide +kernel
theorem dX12_takesTest_49 : decode cX12_takesTest 49 = .ok (.iconst 1, 1) := by decide +kernel
theorem dX12_takesTest_50 : decode cX12_takesTest 50 = .ok (.iadd, 1) := by decide +kernel
theorem dX12_takesTest_51 : decode cX12_takesTest 51 = .ok (.putfield 50, 3) := by decide +kernel
theorem dX12_takesTest_54 : decode cX12_takesTest 54 = .ok (.aload_n 0, 1) := by decide +kernel
theorem dX12_takesTest_55 : decode cX12_takesTest 55 = .ok (.invokevirtual 284, 3) := by decide +kernel
theorem dX12_takesTest_58 : decode cX12_takesTest 58 = .ok (.ifCond .ne 5, 3) := by decide +kernel
theorem dX12_takesTest_61 : decode cX12_takesTest 61 = .ok (.iconst 0, 1) := by decide +kernel
theorem dX12_takesTest_62 : decode cX12_takesTest 62 = .ok (.ireturn, 1) := by decide +kernel
theorem dX12_takesTest_63 : decode cX12_takesTest 63 = .ok (.aload_n 0, 1) := by decide +kernel
theorem dX12_takesTest_64 : decode cX12_takesTest 64 = .ok (.sipush 1000, 3) := by decide +kernel
theorem dX12_takesTest_67 : decode cX12_takesTest 67 = .ok (.iload_n 1, 1) := by decide +kernel
theorem dX12_takesTest_68 : decode cX12_takesTest 68 = .ok (.imul, 1) := by decide +kernel
theorem dX12_takesTest_69 : decode cX12_takesTest 69 = .ok (.bipush 100, 2) := by decide +kernel
theorem dX12_takesTest_71 : decode cX12_takesTest 71 = .ok (.iload_n 2, 1) := by decide +kernel
theorem dX12_takesTest_72 : decode cX12_takesTest 72 = .ok (.bipush 60, 2) := by decide +kernel
theorem dX12_takesTest_74 : decode cX12_takesTest 74 = .ok (.isub, 1) := by decide +kernel
theorem dX12_takesTest_75 : decode cX12_takesTest 75 = .ok (.imul, 1) := by decide +kernel
theorem dX12_takesTest_76 : decode cX12_takesTest 76 = .ok (.iadd, 1) := by decide +kernel
theorem dX12_takesTest_77 : decode cX12_takesTest 77 = .ok (.aload_n 0, 1) := by decide +kernel
theorem dX12_takesTest_78 : decode cX12_takesTest 78 = .ok (.getfield 53, 3) := by decide +kernel
theorem dX12_takesTest_81 : decode cX12_takesTest 81 = .ok (.iadd, 1) := by decide +kernel
theorem dX12_takesTest_82 : decode cX12_takesTest 82 = .ok (.invokevirtual 276, 3) := by decide +kernel
theorem dX12_takesTest_85 : decode cX12_takesTest 85 = .ok (.aload_n 0, 1) := by decide +kernel
theorem dX12_takesTest_86 : decode cX12_takesTest 86 = .ok (.invokevirtual 287, 3) := by decide +kernel
theorem dX12_takesTest_89 : decode cX12_takesTest 89 = .ok (.iconst 1, 1) := by decide +kernel
theorem dX12_takesTest_90 : decode cX12_takesTest 90 = .ok (.ireturn, 1) := by decide +kernel
noncomputable def C_X12_takesTest : List (Nat × qOp) := [(0, qo_aload 0 1),
  (1, qo_aload 0 1),
  (2, qo_callv [(12, S_X12_next)] 0),
  (5, qo_callv [(12, S_X12_place)] 1),
  (8, qo_istore 1 1),
  (9, qo_iload 1 1),
  (10, qo_ifge 15),
  (13, qo_ci 0 1),
  (14, qo_ret (some .boolean) 1),
  (15, qo_aload 0 1),
  (16, qo_dup),
  (17, qo_getI 12 13),
  (20, qo_ci 1 1),
  (21, qo_iadd),
  (22, qo_putI 12 13),
  (25, qo_aload 0 1),
  (26, qo_callv [(12, S_X12_next)] 0),
  (29, qo_istore 2 1),
  (30, qo_aload 0 1),
  (31, qo_iload 2 1),
  (32, qo_ci 60 2),
  (34, qo_ci 62 2),
  (36, qo_callv [(12, S_X12_in)] 3),
  (39, qo_ifne 44),
  (42, qo_ci 0 1),
  (43, qo_ret (some .boolean) 1),
  (44, qo_aload 0 1),
  (45, qo_dup),
  (46, qo_getI 12 13),
  (49, qo_ci 1 1),
  (50, qo_iadd),
  (51, qo_putI 12 13),
  (54, qo_aload 0 1),
  (55, qo_callv [(12, S_X12_takesNumber)] 0),
  (58, qo_ifne 63),
  (61, qo_ci 0 1),
  (62, qo_ret (some .boolean) 1),
  (63, qo_aload 0 1),
  (64, qo_ci 1000 3),
  (67, qo_iload 1 1),
  (68, qo_imul),
  (69, qo_ci 100 2),
  (71, qo_iload 2 1),
  (72, qo_ci 60 2),
  (74, qo_isub),
  (75, qo_imul),
  (76, qo_iadd),
  (77, qo_aload 0 1),
  (78, qo_getI 12 14),
  (81, qo_iadd),
  (82, qo_callv [(12, S_X12_emits)] 1),
  (85, qo_aload 0 1),
  (86, qo_callv [(12, S_X12_whole)] 0),
  (89, qo_ci 1 1),
  (90, qo_ret (some .boolean) 1)]
noncomputable def S_X12_takesTest : qSem := qM 3 C_X12_takesTest
set_option maxRecDepth 20000 in
theorem K_X12_takesTest {X : qX} {l : Launch} : ∀ q ∈ C_X12_takesTest, qOk X l 4 cX12_takesTest 3 RX12 "takesTest" (some .boolean) q.1 q.2 := by
  unfold C_X12_takesTest
  refine qcons (qk_aload_n dX12_takesTest_0 rfl) ?_
  refine qcons (qk_aload_n dX12_takesTest_1 rfl) ?_
  refine qcons (qk_callv (ins := fun i => .invokevirtual i) (qconsV (qrunV M_X12_next (by decide) (by decide) (by decide) rfl tw_1146 tw_1148 tw_30 tw_1149 tw_90 ⟨by decide, by decide⟩ (by decide +kernel)) qnilV) dX12_takesTest_2) ?_
  refine qcons (qk_callv (ins := fun i => .invokevirtual i) (qconsV (qrunV M_X12_place (by decide) (by decide) (by decide) rfl tw_1174 tw_1176 tw_37 tw_1177 tw_90 ⟨by decide, by decide⟩ (by decide +kernel)) qnilV) dX12_takesTest_5) ?_
  refine qcons (qk_istore_n dX12_takesTest_8 rfl) ?_
  refine qcons (qk_iload_n dX12_takesTest_9 rfl) ?_
  refine qcons (qk_ifge dX12_takesTest_10 (by decide)) ?_
  refine qcons (qk_iconst dX12_takesTest_13 (by decide)) ?_
  refine qcons (qk_ret dX12_takesTest_14 (Or.inr (Or.inl ⟨rfl, rfl⟩))) ?_
  refine qcons (qk_aload_n dX12_takesTest_15 rfl) ?_
  refine qcons (qk_dup dX12_takesTest_16) ?_
  refine qcons (qk_getI fd_X12_50 kd_12_13 dX12_takesTest_17) ?_
  refine qcons (qk_iconst dX12_takesTest_20 (by decide)) ?_
  refine qcons (qk_iadd dX12_takesTest_21) ?_
  refine qcons (qk_putI (ty := .int) fd_X12_50 tyX12_ok nmX12 (Or.inl rfl) kd_12_13 (tyX12_ok 13 (by decide)) dX12_takesTest_22) ?_
  refine qcons (qk_aload_n dX12_takesTest_25 rfl) ?_
  refine qcons (qk_callv (ins := fun i => .invokevirtual i) (qconsV (qrunV M_X12_next (by decide) (by decide) (by decide) rfl tw_1146 tw_1148 tw_30 tw_1149 tw_90 ⟨by decide, by decide⟩ (by decide +kernel)) qnilV) dX12_takesTest_26) ?_
  refine qcons (qk_istore_n dX12_takesTest_29 rfl) ?_
  refine qcons (qk_aload_n dX12_takesTest_30 rfl) ?_
  refine qcons (qk_iload_n dX12_takesTest_31 rfl) ?_
  refine qcons (qk_bipush dX12_takesTest_32 (by decide) (by decide)) ?_
  refine qcons (qk_bipush dX12_takesTest_34 (by decide) (by decide)) ?_
  refine qcons (qk_callv (ins := fun i => .invokevirtual i) (qconsV (qrunV M_X12_in (by decide) (by decide) (by decide) rfl tw_1082 tw_1084 tw_20 tw_1085 tw_90 ⟨by decide, by decide⟩ (by decide +kernel)) qnilV) dX12_takesTest_36) ?_
  refine qcons (qk_ifne dX12_takesTest_39 (by decide)) ?_
  refine qcons (qk_iconst dX12_takesTest_42 (by decide)) ?_
  refine qcons (qk_ret dX12_takesTest_43 (Or.inr (Or.inl ⟨rfl, rfl⟩))) ?_
  refine qcons (qk_aload_n dX12_takesTest_44 rfl) ?_
  refine qcons (qk_dup dX12_takesTest_45) ?_
  refine qcons (qk_getI fd_X12_50 kd_12_13 dX12_takesTest_46) ?_
  refine qcons (qk_iconst dX12_takesTest_49 (by decide)) ?_
  refine qcons (qk_iadd dX12_takesTest_50) ?_
  refine qcons (qk_putI (ty := .int) fd_X12_50 tyX12_ok nmX12 (Or.inl rfl) kd_12_13 (tyX12_ok 13 (by decide)) dX12_takesTest_51) ?_
  refine qcons (qk_aload_n dX12_takesTest_54 rfl) ?_
  refine qcons (qk_callv (ins := fun i => .invokevirtual i) (qconsV (qrunV M_X12_takesNumber (by decide) (by decide) (by decide) rfl tw_1158 tw_1160 tw_33 tw_1161 tw_90 ⟨by decide, by decide⟩ (by decide +kernel)) qnilV) dX12_takesTest_55) ?_
  refine qcons (qk_ifne dX12_takesTest_58 (by decide)) ?_
  refine qcons (qk_iconst dX12_takesTest_61 (by decide)) ?_
  refine qcons (qk_ret dX12_takesTest_62 (Or.inr (Or.inl ⟨rfl, rfl⟩))) ?_
  refine qcons (qk_aload_n dX12_takesTest_63 rfl) ?_
  refine qcons (qk_sipush dX12_takesTest_64 (by decide) (by decide)) ?_
  refine qcons (qk_iload_n dX12_takesTest_67 rfl) ?_
  refine qcons (qk_imul dX12_takesTest_68) ?_
  refine qcons (qk_bipush dX12_takesTest_69 (by decide) (by decide)) ?_
  refine qcons (qk_iload_n dX12_takesTest_71 rfl) ?_
  refine qcons (qk_bipush dX12_takesTest_72 (by decide) (by decide)) ?_
  refine qcons (qk_isub dX12_takesTest_74) ?_
  refine qcons (qk_imul dX12_takesTest_75) ?_
  refine qcons (qk_iadd dX12_takesTest_76) ?_
  refine qcons (qk_aload_n dX12_takesTest_77 rfl) ?_
  refine qcons (qk_getI fd_X12_53 kd_12_14 dX12_takesTest_78) ?_
  refine qcons (qk_iadd dX12_takesTest_81) ?_
  refine qcons (qk_callv (ins := fun i => .invokevirtual i) (qconsV (qrunV M_X12_emits (by decide) (by decide) (by decide) rfl tw_1178 tw_1180 tw_38 tw_1181 tw_90 ⟨by decide, by decide⟩ (by decide +kernel)) qnilV) dX12_takesTest_82) ?_
  refine qcons (qk_aload_n dX12_takesTest_85 rfl) ?_
  refine qcons (qk_callv (ins := fun i => .invokevirtual i) (qconsV (qrunV M_X12_whole (by decide) (by decide) (by decide) rfl tw_1182 tw_1184 tw_39 tw_1185 tw_90 ⟨by decide, by decide⟩ (by decide +kernel)) qnilV) dX12_takesTest_86) ?_
  refine qcons (qk_iconst dX12_takesTest_89 (by decide)) ?_
  refine qcons (qk_ret dX12_takesTest_90 (Or.inr (Or.inl ⟨rfl, rfl⟩))) ?_
  exact qnil
theorem M_X12_takesTest {X : qX} {l : Launch} : qMet X l 4 yX12_takesTest cX12_takesTest 3 (some .boolean) S_X12_takesTest := qmet_of K_X12_takesTest (by decide) rfl rfl
theorem dX12_takesE_0 : decode cX12_takesE 0 = .ok (.aload_n 0, 1) := by decide +kernel
theorem dX12_takesE_1 : decode cX12_takesE 1 = .ok (.iconst 0, 1) := by decide +kernel
theorem dX12_takesE_2 : decode cX12_takesE 2 = .ok (.putfield 83, 3) := by decide +kernel
theorem dX12_takesE_5 : decode cX12_takesE 5 = .ok (.aload_n 0, 1) := by decide +kernel
theorem dX12_takesE_6 : decode cX12_takesE 6 = .ok (.iconst 0, 1) := by decide +kernel
theorem dX12_takesE_7 : decode cX12_takesE 7 = .ok (.putfield 86, 3) := by decide +kernel
theorem dX12_takesE_10 : decode cX12_takesE 10 = .ok (.aload_n 0, 1) := by decide +kernel
theorem dX12_takesE_11 : decode cX12_takesE 11 = .ok (.getfield 68, 3) := by decide +kernel
theorem dX12_takesE_14 : decode cX12_takesE 14 = .ok (.iload_n 1, 1) := by decide +kernel
theorem dX12_takesE_15 : decode cX12_takesE 15 = .ok (.aload_n 0, 1) := by decide +kernel
theorem dX12_takesE_16 : decode cX12_takesE 16 = .ok (.getfield 80, 3) := by decide +kernel
theorem dX12_takesE_19 : decode cX12_takesE 19 = .ok (.iastore, 1) := by decide +kernel
theorem dX12_takesE_20 : decode cX12_takesE 20 = .ok (.iconst 1, 1) := by decide +kernel
theorem dX12_takesE_21 : decode cX12_takesE 21 = .ok (.istore_n 2, 1) := by decide +kernel
theorem dX12_takesE_22 : decode cX12_takesE 22 = .ok (.aload_n 0, 1) := by decide +kernel
theorem dX12_takesE_23 : decode cX12_takesE 23 = .ok (.invokevirtual 265, 3) := by decide +kernel
theorem dX12_takesE_26 : decode cX12_takesE 26 = .ok (.istore_n 3, 1) := by decide +kernel
theorem dX12_takesE_27 : decode cX12_takesE 27 = .ok (.iload_n 2, 1) := by decide +kernel
theorem dX12_takesE_28 : decode cX12_takesE 28 = .ok (.ifCond .eq 82, 3) := by decide +kernel
theorem dX12_takesE_31 : decode cX12_takesE 31 = .ok (.iload_n 3, 1) := by decide +kernel
theorem dX12_takesE_32 : decode cX12_takesE 32 = .ok (.bipush 33, 2) := by decide +kernel
theorem dX12_takesE_34 : decode cX12_takesE 34 = .ok (.if_icmp .eq 9, 3) := by decide +kernel
theorem dX12_takesE_37 : decode cX12_takesE 37 = .ok (.iload_n 3, 1) := by decide +kernel
theorem dX12_takesE_38 : decode cX12_takesE 38 = .ok (.bipush 40, 2) := by decide +kernel
theorem dX12_takesE_40 : decode cX12_takesE 40 = .ok (.if_icmp .ne 56, 3) := by decide +kernel
theorem dX12_takesE_43 : decode cX12_takesE 43 = .ok (.aload_n 0, 1) := by decide +kernel
theorem dX12_takesE_44 : decode cX12_takesE 44 = .ok (.getfield 86, 3) := by decide +kernel
theorem dX12_takesE_47 : decode cX12_takesE 47 = .ok (.iconst 4, 1) := by decide +kernel
theorem dX12_takesE_48 : decode cX12_takesE 48 = .ok (.if_icmp .ne 5, 3) := by decide +kernel
theorem dX12_takesE_51 : decode cX12_takesE 51 = .ok (.iconst 0, 1) := by decide +kernel
theorem dX12_takesE_52 : decode cX12_takesE 52 = .ok (.ireturn, 1) := by decide +kernel
theorem dX12_takesE_53 : decode cX12_takesE 53 = .ok (.aload_n 0, 1) := by decide +kernel
theorem dX12_takesE_54 : decode cX12_takesE 54 = .ok (.dup, 1) := by decide +kernel
theorem dX12_takesE_55 : decode cX12_takesE 55 = .ok (.getfield 86, 3) := by decide +kernel
theorem dX12_takesE_58 : decode cX12_takesE 58 = .ok (.iconst 1, 1) := by decide +kernel
theorem dX12_takesE_59 : decode cX12_takesE 59 = .ok (.iadd, 1) := by decide +kernel
theorem dX12_takesE_60 : decode cX12_takesE 60 = .ok (.putfield 86, 3) := by decide +kernel
theorem dX12_takesE_63 : decode cX12_takesE 63 = .ok (.aload_n 0, 1) := by decide +kernel
theorem dX12_takesE_64 : decode cX12_takesE 64 = .ok (.getfield 77, 3) := by decide +kernel
theorem dX12_takesE_67 : decode cX12_takesE 67 = .ok (.aload_n 0, 1) := by decide +kernel
theorem dX12_takesE_68 : decode cX12_takesE 68 = .ok (.getfield 83, 3) := by decide +kernel
theorem dX12_takesE_71 : decode cX12_takesE 71 = .ok (.iload_n 3, 1) := by decide +kernel
theorem dX12_takesE_72 : decode cX12_takesE 72 = .ok (.iastore, 1) := by decide +kernel
theorem dX12_takesE_73 : decode cX12_takesE 73 = .ok (.aload_n 0, 1) := by decide +kernel
theorem dX12_takesE_74 : decode cX12_takesE 74 = .ok (.dup, 1) := by decide +kernel
theorem dX12_takesE_75 : decode cX12_takesE 75 = .ok (.getfield 83, 3) := by decide +kernel
theorem dX12_takesE_78 : decode cX12_takesE 78 = .ok (.iconst 1, 1) := by decide +kernel
theorem dX12_takesE_79 : decode cX12_takesE 79 = .ok (.iadd, 1) := by decide +kernel
theorem dX12_takesE_80 : decode cX12_takesE 80 = .ok (.putfield 83, 3) := by decide +kernel
theorem dX12_takesE_83 : decode cX12_takesE 83 = .ok (.aload_n 0, 1) := by decide +kernel
theorem dX12_takesE_84 : decode cX12_takesE 84 = .ok (.dup, 1) := by decide +kernel
theorem dX12_takesE_85 : decode cX12_takesE 85 = .ok (.getfield 50, 3) := by decide +kernel
theorem dX12_takesE_88 : decode cX12_takesE 88 = .ok (.iconst 1, 1) := by decide +kernel
theorem dX12_takesE_89 : decode cX12_takesE 89 = .ok (.iadd, 1) := by decide +kernel
theorem dX12_takesE_90 : decode cX12_takesE 90 = .ok (.putfield 50, 3) := by decide +kernel
theorem dX12_takesE_93 : decode cX12_takesE 93 = .ok (.goto (-71), 3) := by decide +kernel
theorem dX12_takesE_96 : decode cX12_takesE 96 = .ok (.aload_n 0, 1) := by decide +kernel
theorem dX12_takesE_97 : decode cX12_takesE 97 = .ok (.invokevirtual 290, 3) := by decide +kernel
theorem dX12_takesE_100 : decode cX12_takesE 100 = .ok (.ifCond .eq 8, 3) := by decide +kernel
theorem dX12_takesE_103 : decode cX12_takesE 103 = .ok (.iconst 0, 1) := by decide +kernel
theorem dX12_takesE_104 : decode cX12_takesE 104 = .ok (.istore_n 2, 1) := by decide +kernel
theorem dX12_takesE_105 : decode cX12_takesE 105 = .ok (.goto (-83), 3) := by decide +kernel
theorem dX12_takesE_108 : decode cX12_takesE 108 = .ok (.iconst 0, 1) := by decide +kernel
theorem dX12_takesE_109 : decode cX12_takesE 109 = .ok (.ireturn, 1) := by decide +kernel
theorem dX12_takesE_110 : decode cX12_takesE 110 = .ok (.iload_n 3, 1) := by decide +kernel
theorem dX12_takesE_111 : decode cX12_takesE 111 = .ok (.bipush 38, 2) := by decide +kernel
theorem dX12_takesE_113 : decode cX12_takesE 113 = .ok (.if_icmp .eq 9, 3) := by decide +kernel
theorem dX12_takesE_116 : decode cX12_takesE 116 = .ok (.iload_n 3, 1) := by decide +kernel
theorem dX12_takesE_117 : decode cX12_takesE 117 = .ok (.bipush 124, 2) := by decide +kernel
theorem dX12_takesE_119 : decode cX12_takesE 119 = .ok (.if_icmp .ne 43, 3) := by decide +kernel
theorem dX12_takesE_122 : decode cX12_takesE 122 = .ok (.aload_n 0, 1) := by decide +kernel
theorem dX12_takesE_123 : decode cX12_takesE 123 = .ok (.iload_n 3, 1) := by decide +kernel
theorem dX12_takesE_124 : decode cX12_takesE 124 = .ok (.invokevirtual 293, 3) := by decide +kernel
theorem dX12_takesE_127 : decode cX12_takesE 127 = .ok (.aload_n 0, 1) := by decide +kernel
theorem dX12_takesE_128 : decode cX12_takesE 128 = .ok (.getfield 77, 3) := by decide +kernel
theorem dX12_takesE_131 : decode cX12_takesE 131 = .ok (.aload_n 0, 1) := by decide +kernel
theorem dX12_takesE_132 : decode cX12_takesE 132 = .ok (.getfield 83, 3) := by decide +kernel
theorem dX12_takesE_135 : decode cX12_takesE 135 = .ok (.iload_n 3, 1) := by decide +kernel
theorem dX12_takesE_136 : decode cX12_takesE 136 = .ok (.iastore, 1) := by decide +kernel
theorem dX12_takesE_137 : decode cX12_takesE 137 = .ok (.aload_n 0, 1) := by decide +kernel
theorem dX12_takesE_138 : decode cX12_takesE 138 = .ok (.dup, 1) := by decide +kernel
theorem dX12_takesE_139 : decode cX12_takesE 139 = .ok (.getfield 83, 3) := by decide +kernel
theorem dX12_takesE_142 : decode cX12_takesE 142 = .ok (.iconst 1, 1) := by decide +kernel
theorem dX12_takesE_143 : decode cX12_takesE 143 = .ok (.iadd, 1) := by decide +kernel
theorem dX12_takesE_144 : decode cX12_takesE 144 = .ok (.putfield 83, 3) := by decide +kernel
theorem dX12_takesE_147 : decode cX12_takesE 147 = .ok (.iconst 1, 1) := by decide +kernel
theorem dX12_takesE_148 : decode cX12_takesE 148 = .ok (.istore_n 2, 1) := by decide +kernel
theorem dX12_takesE_149 : decode cX12_takesE 149 = .ok (.aload_n 0, 1) := by decide +kernel
theorem dX12_takesE_150 : decode cX12_takesE 150 = .ok (.dup, 1) := by decide +kernel
theorem dX12_takesE_151 : decode cX12_takesE 151 = .ok (.getfield 50, 3) := by decide +kernel
theorem dX12_takesE_154 : decode cX12_takesE 154 = .ok (.iconst 1, 1) := by decide +kernel
theorem dX12_takesE_155 : decode cX12_takesE 155 = .ok (.iadd, 1) := by decide +kernel
theorem dX12_takesE_156 : decode cX12_takesE 156 = .ok (.putfield 50, 3) := by decide +kernel
theorem dX12_takesE_159 : decode cX12_takesE 159 = .ok (.goto (-137), 3) := by decide +kernel
theorem dX12_takesE_162 : decode cX12_takesE 162 = .ok (.aload_n 0, 1) := by decide +kernel
theorem dX12_takesE_163 : decode cX12_takesE 163 = .ok (.bipush 124, 2) := by decide +kernel
theorem dX12_takesE_165 : decode cX12_takesE 165 = .ok (.invokevirtual 293, 3) := by decide +kernel
theorem dX12_takesE_168 : decode cX12_takesE 168 = .ok (.aload_n 0, 1) := by decide +kernel
theorem dX12_takesE_169 : decode cX12_takesE 169 = .ok (.getfield 71, 3) := by decide +kernel
theorem dX12_takesE_172 : decode cX12_takesE 172 = .ok (.iload_n 1, 1) := by decide +kernel
theorem dX12_takesE_173 : decode cX12_takesE 173 = .ok (.aload_n 0, 1) := by decide +kernel
theorem dX12_takesE_174 : decode cX12_takesE 174 = .ok (.getfield 80, 3) := by decide +kernel
theorem dX12_takesE_177 : decode cX12_takesE 177 = .ok (.iastore, 1) := by decide +kernel
theorem dX12_takesE_178 : decode cX12_takesE 178 = .ok (.aload_n 0, 1) := by decide +kernel
theorem dX12_takesE_179 : decode cX12_takesE 179 = .ok (.getfield 83, 3) := by decide +kernel
theorem dX12_takesE_182 : decode cX12_takesE 182 = .ok (.ifCond .ne 5, 3) := by decide +kernel
theorem dX12_takesE_185 : decode cX12_takesE 185 = .ok (.iconst 1, 1) := by decide +kernel
theorem dX12_takesE_186 : decode cX12_takesE 186 = .ok (.ireturn, 1) := by decide +kernel
theorem dX12_takesE_187 : decode cX12_takesE 187 = .ok (.iload_n 3, 1) := by decide +kernel
theorem dX12_takesE_188 : decode cX12_takesE 188 = .ok (.bipush 41, 2) := by decide +kernel
theorem dX12_takesE_190 : decode cX12_takesE 190 = .ok (.if_icmp .eq 5, 3) := by decide +kernel
theorem dX12_takesE_193 : decode cX12_takesE 193 = .ok (.iconst 0, 1) := by decide +kernel
theorem dX12_takesE_194 : decode cX12_takesE 194 = .ok (.ireturn, 1) := by decide +kernel
theorem dX12_takesE_195 : decode cX12_takesE 195 = .ok (.aload_n 0, 1) := by decide +kernel
theorem dX12_takesE_196 : decode cX12_takesE 196 = .ok (.dup, 1) := by decide +kernel
theorem dX12_takesE_197 : decode cX12_takesE 197 = .ok (.getfield 83, 3) := by decide +kernel
theorem dX12_takesE_200 : decode cX12_takesE 200 = .ok (.iconst 1, 1) := by decide +kernel
theorem dX12_takesE_201 : decode cX12_takesE 201 = .ok (.isub, 1) := by decide +kernel
theorem dX12_takesE_202 : decode cX12_takesE 202 = .ok (.putfield 83, 3) := by decide +kernel
theorem dX12_takesE_205 : decode cX12_takesE 205 = .ok (.aload_n 0, 1) := by decide +kernel
theorem dX12_takesE_206 : decode cX12_takesE 206 = .ok (.dup, 1) := by decide +kernel
theorem dX12_takesE_207 : decode cX12_takesE 207 = .ok (.getfield 86, 3) := by decide +kernel
theorem dX12_takesE_210 : decode cX12_takesE 210 = .ok (.iconst 1, 1) := by decide +kernel
theorem dX12_takesE_211 : decode cX12_takesE 211 = .ok (.isub, 1) := by decide +kernel
theorem dX12_takesE_212 : decode cX12_takesE 212 = .ok (.putfield 86, 3) := by decide +kernel
theorem dX12_takesE_215 : decode cX12_takesE 215 = .ok (.aload_n 0, 1) := by decide +kernel
theorem dX12_takesE_216 : decode cX12_takesE 216 = .ok (.dup, 1) := by decide +kernel
theorem dX12_takesE_217 : decode cX12_takesE 217 = .ok (.getfield 50, 3) := by decide +kernel
theorem dX12_takesE_220 : decode cX12_takesE 220 = .ok (.iconst 1, 1) := by decide +kernel
theorem dX12_takesE_221 : decode cX12_takesE 221 = .ok (.iadd, 1) := by decide +kernel
theorem dX12_takesE_222 : decode cX12_takesE 222 = .ok (.putfield 50, 3) := by decide +kernel
theorem dX12_takesE_225 : decode cX12_takesE 225 = .ok (.aload_n 0, 1) := by decide +kernel
theorem dX12_takesE_226 : decode cX12_takesE 226 = .ok (.invokevirtual 287, 3) := by decide +kernel
theorem dX12_takesE_229 : decode cX12_takesE 229 = .ok (.goto (-207), 3) := by decide +kernel
noncomputable def C_X12_takesE : List (Nat × qOp) := [(0, qo_aload 0 1),
  (1, qo_ci 0 1),
  (2, qo_putI 12 24),
  (5, qo_aload 0 1),
  (6, qo_ci 0 1),
  (7, qo_putI 12 25),
  (10, qo_aload 0 1),
  (11, qo_getR 12 19),
  (14, qo_iload 1 1),
  (15, qo_aload 0 1),
  (16, qo_getI 12 23),
  (19, qo_iastore),
  (20, qo_ci 1 1),
  (21, qo_istore 2 1),
  (22, qo_aload 0 1),
  (23, qo_callv [(12, S_X12_next)] 0),
  (26, qo_istore 3 1),
  (27, qo_iload 2 1),
  (28, qo_ifeq 110),
  (31, qo_iload 3 1),
  (32, qo_ci 33 2),
  (34, qo_iceq 43),
  (37, qo_iload 3 1),
  (38, qo_ci 40 2),
  (40, qo_icne 96),
  (43, qo_aload 0 1),
  (44, qo_getI 12 25),
  (47, qo_ci 4 1),
  (48, qo_icne 53),
  (51, qo_ci 0 1),
  (52, qo_ret (some .boolean) 1),
  (53, qo_aload 0 1),
  (54, qo_dup),
  (55, qo_getI 12 25),
  (58, qo_ci 1 1),
  (59, qo_iadd),
  (60, qo_putI 12 25),
  (63, qo_aload 0 1),
  (64, qo_getR 12 22),
  (67, qo_aload 0 1),
  (68, qo_getI 12 24),
  (71, qo_iload 3 1),
  (72, qo_iastore),
  (73, qo_aload 0 1),
  (74, qo_dup),
  (75, qo_getI 12 24),
  (78, qo_ci 1 1),
  (79, qo_iadd),
  (80, qo_putI 12 24),
  (83, qo_aload 0 1),
  (84, qo_dup),
  (85, qo_getI 12 13),
  (88, qo_ci 1 1),
  (89, qo_iadd),
  (90, qo_putI 12 13),
  (93, qo_goto 22),
  (96, qo_aload 0 1),
  (97, qo_callv [(12, S_X12_takesTest)] 0),
  (100, qo_ifeq 108),
  (103, qo_ci 0 1),
  (104, qo_istore 2 1),
  (105, qo_goto 22),
  (108, qo_ci 0 1),
  (109, qo_ret (some .boolean) 1),
  (110, qo_iload 3 1),
  (111, qo_ci 38 2),
  (113, qo_iceq 122),
  (116, qo_iload 3 1),
  (117, qo_ci 124 2),
  (119, qo_icne 162),
  (122, qo_aload 0 1),
  (123, qo_iload 3 1),
  (124, qo_callv [(12, S_X12_settle)] 1),
  (127, qo_aload 0 1),
  (128, qo_getR 12 22),
  (131, qo_aload 0 1),
  (132, qo_getI 12 24),
  (135, qo_iload 3 1),
  (136, qo_iastore),
  (137, qo_aload 0 1),
  (138, qo_dup),
  (139, qo_getI 12 24),
  (142, qo_ci 1 1),
  (143, qo_iadd),
  (144, qo_putI 12 24),
  (147, qo_ci 1 1),
  (148, qo_istore 2 1),
  (149, qo_aload 0 1),
  (150, qo_dup),
  (151, qo_getI 12 13),
  (154, qo_ci 1 1),
  (155, qo_iadd),
  (156, qo_putI 12 13),
  (159, qo_goto 22),
  (162, qo_aload 0 1),
  (163, qo_ci 124 2),
  (165, qo_callv [(12, S_X12_settle)] 1),
  (168, qo_aload 0 1),
  (169, qo_getR 12 20),
  (172, qo_iload 1 1),
  (173, qo_aload 0 1),
  (174, qo_getI 12 23),
  (177, qo_iastore),
  (178, qo_aload 0 1),
  (179, qo_getI 12 24),
  (182, qo_ifne 187),
  (185, qo_ci 1 1),
  (186, qo_ret (some .boolean) 1),
  (187, qo_iload 3 1),
  (188, qo_ci 41 2),
  (190, qo_iceq 195),
  (193, qo_ci 0 1),
  (194, qo_ret (some .boolean) 1),
  (195, qo_aload 0 1),
  (196, qo_dup),
  (197, qo_getI 12 24),
  (200, qo_ci 1 1),
  (201, qo_isub),
  (202, qo_putI 12 24),
  (205, qo_aload 0 1),
  (206, qo_dup),
  (207, qo_getI 12 25),
  (210, qo_ci 1 1),
  (211, qo_isub),
  (212, qo_putI 12 25),
  (215, qo_aload 0 1),
  (216, qo_dup),
  (217, qo_getI 12 13),
  (220, qo_ci 1 1),
  (221, qo_iadd),
  (222, qo_putI 12 13),
  (225, qo_aload 0 1),
  (226, qo_callv [(12, S_X12_whole)] 0),
  (229, qo_goto 22)]
noncomputable def S_X12_takesE : qSem := qM 4 C_X12_takesE
set_option maxRecDepth 20000 in
theorem K_X12_takesE {X : qX} {l : Launch} : ∀ q ∈ C_X12_takesE, qOk X l 5 cX12_takesE 4 RX12 "takesE" (some .boolean) q.1 q.2 := by
  unfold C_X12_takesE
  refine qcons (qk_aload_n dX12_takesE_0 rfl) ?_
  refine qcons (qk_iconst dX12_takesE_1 (by decide)) ?_
  refine qcons (qk_putI (ty := .int) fd_X12_83 tyX12_ok nmX12 (Or.inl rfl) kd_12_24 (tyX12_ok 24 (by decide)) dX12_takesE_2) ?_
  refine qcons (qk_aload_n dX12_takesE_5 rfl) ?_
  refine qcons (qk_iconst dX12_takesE_6 (by decide)) ?_
  refine qcons (qk_putI (ty := .int) fd_X12_86 tyX12_ok nmX12 (Or.inl rfl) kd_12_25 (tyX12_ok 25 (by decide)) dX12_takesE_7) ?_
  refine qcons (qk_aload_n dX12_takesE_10 rfl) ?_
  refine qcons (qk_getR fd_X12_68 kd_12_19 dX12_takesE_11) ?_
  refine qcons (qk_iload_n dX12_takesE_14 rfl) ?_
  refine qcons (qk_aload_n dX12_takesE_15 rfl) ?_
  refine qcons (qk_getI fd_X12_80 kd_12_23 dX12_takesE_16) ?_
  refine qcons (qk_iastore dX12_takesE_19) ?_
  refine qcons (qk_iconst dX12_takesE_20 (by decide)) ?_
  refine qcons (qk_istore_n dX12_takesE_21 rfl) ?_
  refine qcons (qk_aload_n dX12_takesE_22 rfl) ?_
  refine qcons (qk_callv (ins := fun i => .invokevirtual i) (qconsV (qrunV M_X12_next (by decide) (by decide) (by decide) rfl tw_1146 tw_1148 tw_30 tw_1149 tw_90 ⟨by decide, by decide⟩ (by decide +kernel)) qnilV) dX12_takesE_23) ?_
  refine qcons (qk_istore_n dX12_takesE_26 rfl) ?_
  refine qcons (qk_iload_n dX12_takesE_27 rfl) ?_
  refine qcons (qk_ifeq dX12_takesE_28 (by decide)) ?_
  refine qcons (qk_iload_n dX12_takesE_31 rfl) ?_
  refine qcons (qk_bipush dX12_takesE_32 (by decide) (by decide)) ?_
  refine qcons (qk_iceq dX12_takesE_34 (by decide)) ?_
  refine qcons (qk_iload_n dX12_takesE_37 rfl) ?_
  refine qcons (qk_bipush dX12_takesE_38 (by decide) (by decide)) ?_
  refine qcons (qk_icne dX12_takesE_40 (by decide)) ?_
  refine qcons (qk_aload_n dX12_takesE_43 rfl) ?_
  refine qcons (qk_getI fd_X12_86 kd_12_25 dX12_takesE_44) ?_
  refine qcons (qk_iconst dX12_takesE_47 (by decide)) ?_
  refine qcons (qk_icne dX12_takesE_48 (by decide)) ?_
  refine qcons (qk_iconst dX12_takesE_51 (by decide)) ?_
  refine qcons (qk_ret dX12_takesE_52 (Or.inr (Or.inl ⟨rfl, rfl⟩))) ?_
  refine qcons (qk_aload_n dX12_takesE_53 rfl) ?_
  refine qcons (qk_dup dX12_takesE_54) ?_
  refine qcons (qk_getI fd_X12_86 kd_12_25 dX12_takesE_55) ?_
  refine qcons (qk_iconst dX12_takesE_58 (by decide)) ?_
  refine qcons (qk_iadd dX12_takesE_59) ?_
  refine qcons (qk_putI (ty := .int) fd_X12_86 tyX12_ok nmX12 (Or.inl rfl) kd_12_25 (tyX12_ok 25 (by decide)) dX12_takesE_60) ?_
  refine qcons (qk_aload_n dX12_takesE_63 rfl) ?_
  refine qcons (qk_getR fd_X12_77 kd_12_22 dX12_takesE_64) ?_
  refine qcons (qk_aload_n dX12_takesE_67 rfl) ?_
  refine qcons (qk_getI fd_X12_83 kd_12_24 dX12_takesE_68) ?_
  refine qcons (qk_iload_n dX12_takesE_71 rfl) ?_
  refine qcons (qk_iastore dX12_takesE_72) ?_
  refine qcons (qk_aload_n dX12_takesE_73 rfl) ?_
  refine qcons (qk_dup dX12_takesE_74) ?_
  refine qcons (qk_getI fd_X12_83 kd_12_24 dX12_takesE_75) ?_
  refine qcons (qk_iconst dX12_takesE_78 (by decide)) ?_
  refine qcons (qk_iadd dX12_takesE_79) ?_
  refine qcons (qk_putI (ty := .int) fd_X12_83 tyX12_ok nmX12 (Or.inl rfl) kd_12_24 (tyX12_ok 24 (by decide)) dX12_takesE_80) ?_
  refine qcons (qk_aload_n dX12_takesE_83 rfl) ?_
  refine qcons (qk_dup dX12_takesE_84) ?_
  refine qcons (qk_getI fd_X12_50 kd_12_13 dX12_takesE_85) ?_
  refine qcons (qk_iconst dX12_takesE_88 (by decide)) ?_
  refine qcons (qk_iadd dX12_takesE_89) ?_
  refine qcons (qk_putI (ty := .int) fd_X12_50 tyX12_ok nmX12 (Or.inl rfl) kd_12_13 (tyX12_ok 13 (by decide)) dX12_takesE_90) ?_
  refine qcons (qk_goto dX12_takesE_93 (by decide)) ?_
  refine qcons (qk_aload_n dX12_takesE_96 rfl) ?_
  refine qcons (qk_callv (ins := fun i => .invokevirtual i) (qconsV (qrunV M_X12_takesTest (by decide) (by decide) (by decide) rfl tw_1170 tw_1172 tw_36 tw_1173 tw_90 ⟨by decide, by decide⟩ (by decide +kernel)) qnilV) dX12_takesE_97) ?_
  refine qcons (qk_ifeq dX12_takesE_100 (by decide)) ?_
  refine qcons (qk_iconst dX12_takesE_103 (by decide)) ?_
  refine qcons (qk_istore_n dX12_takesE_104 rfl) ?_
  refine qcons (qk_goto dX12_takesE_105 (by decide)) ?_
  refine qcons (qk_iconst dX12_takesE_108 (by decide)) ?_
  refine qcons (qk_ret dX12_takesE_109 (Or.inr (Or.inl ⟨rfl, rfl⟩))) ?_
  refine qcons (qk_iload_n dX12_takesE_110 rfl) ?_
  refine qcons (qk_bipush dX12_takesE_111 (by decide) (by decide)) ?_
  refine qcons (qk_iceq dX12_takesE_113 (by decide)) ?_
  refine qcons (qk_iload_n dX12_takesE_116 rfl) ?_
  refine qcons (qk_bipush dX12_takesE_117 (by decide) (by decide)) ?_
  refine qcons (qk_icne dX12_takesE_119 (by decide)) ?_
  refine qcons (qk_aload_n dX12_takesE_122 rfl) ?_
  refine qcons (qk_iload_n dX12_takesE_123 rfl) ?_
  refine qcons (qk_callv (ins := fun i => .invokevirtual i) (qconsV (qrunV M_X12_settle (by decide) (by decide) (by decide) rfl tw_1186 tw_1188 tw_40 tw_1189 tw_90 ⟨by decide, by decide⟩ (by decide +kernel)) qnilV) dX12_takesE_124) ?_
  refine qcons (qk_aload_n dX12_takesE_127 rfl) ?_
  refine qcons (qk_getR fd_X12_77 kd_12_22 dX12_takesE_128) ?_
  refine qcons (qk_aload_n dX12_takesE_131 rfl) ?_
  refine qcons (qk_getI fd_X12_83 kd_12_24 dX12_takesE_132) ?_
  refine qcons (qk_iload_n dX12_takesE_135 rfl) ?_
  refine qcons (qk_iastore dX12_takesE_136) ?_
  refine qcons (qk_aload_n dX12_takesE_137 rfl) ?_
  refine qcons (qk_dup dX12_takesE_138) ?_
  refine qcons (qk_getI fd_X12_83 kd_12_24 dX12_takesE_139) ?_
  refine qcons (qk_iconst dX12_takesE_142 (by decide)) ?_
  refine qcons (qk_iadd dX12_takesE_143) ?_
  refine qcons (qk_putI (ty := .int) fd_X12_83 tyX12_ok nmX12 (Or.inl rfl) kd_12_24 (tyX12_ok 24 (by decide)) dX12_takesE_144) ?_
  refine qcons (qk_iconst dX12_takesE_147 (by decide)) ?_
  refine qcons (qk_istore_n dX12_takesE_148 rfl) ?_
  refine qcons (qk_aload_n dX12_takesE_149 rfl) ?_
  refine qcons (qk_dup dX12_takesE_150) ?_
  refine qcons (qk_getI fd_X12_50 kd_12_13 dX12_takesE_151) ?_
  refine qcons (qk_iconst dX12_takesE_154 (by decide)) ?_
  refine qcons (qk_iadd dX12_takesE_155) ?_
  refine qcons (qk_putI (ty := .int) fd_X12_50 tyX12_ok nmX12 (Or.inl rfl) kd_12_13 (tyX12_ok 13 (by decide)) dX12_takesE_156) ?_
  refine qcons (qk_goto dX12_takesE_159 (by decide)) ?_
  refine qcons (qk_aload_n dX12_takesE_162 rfl) ?_
  refine qcons (qk_bipush dX12_takesE_163 (by decide) (by decide)) ?_
  refine qcons (qk_callv (ins := fun i => .invokevirtual i) (qconsV (qrunV M_X12_settle (by decide) (by decide) (by decide) rfl tw_1186 tw_1188 tw_40 tw_1189 tw_90 ⟨by decide, by decide⟩ (by decide +kernel)) qnilV) dX12_takesE_165) ?_
  refine qcons (qk_aload_n dX12_takesE_168 rfl) ?_
  refine qcons (qk_getR fd_X12_71 kd_12_20 dX12_takesE_169) ?_
  refine qcons (qk_iload_n dX12_takesE_172 rfl) ?_
  refine qcons (qk_aload_n dX12_takesE_173 rfl) ?_
  refine qcons (qk_getI fd_X12_80 kd_12_23 dX12_takesE_174) ?_
  refine qcons (qk_iastore dX12_takesE_177) ?_
  refine qcons (qk_aload_n dX12_takesE_178 rfl) ?_
  refine qcons (qk_getI fd_X12_83 kd_12_24 dX12_takesE_179) ?_
  refine qcons (qk_ifne dX12_takesE_182 (by decide)) ?_
  refine qcons (qk_iconst dX12_takesE_185 (by decide)) ?_
  refine qcons (qk_ret dX12_takesE_186 (Or.inr (Or.inl ⟨rfl, rfl⟩))) ?_
  refine qcons (qk_iload_n dX12_takesE_187 rfl) ?_
  refine qcons (qk_bipush dX12_takesE_188 (by decide) (by decide)) ?_
  refine qcons (qk_iceq dX12_takesE_190 (by decide)) ?_
  refine qcons (qk_iconst dX12_takesE_193 (by decide)) ?_
  refine qcons (qk_ret dX12_takesE_194 (Or.inr (Or.inl ⟨rfl, rfl⟩))) ?_
  refine qcons (qk_aload_n dX12_takesE_195 rfl) ?_
  refine qcons (qk_dup dX12_takesE_196) ?_
  refine qcons (qk_getI fd_X12_83 kd_12_24 dX12_takesE_197) ?_
  refine qcons (qk_iconst dX12_takesE_200 (by decide)) ?_
  refine qcons (qk_isub dX12_takesE_201) ?_
  refine qcons (qk_putI (ty := .int) fd_X12_83 tyX12_ok nmX12 (Or.inl rfl) kd_12_24 (tyX12_ok 24 (by decide)) dX12_takesE_202) ?_
  refine qcons (qk_aload_n dX12_takesE_205 rfl) ?_
  refine qcons (qk_dup dX12_takesE_206) ?_
  refine qcons (qk_getI fd_X12_86 kd_12_25 dX12_takesE_207) ?_
  refine qcons (qk_iconst dX12_takesE_210 (by decide)) ?_
  refine qcons (qk_isub dX12_takesE_211) ?_
  refine qcons (qk_putI (ty := .int) fd_X12_86 tyX12_ok nmX12 (Or.inl rfl) kd_12_25 (tyX12_ok 25 (by decide)) dX12_takesE_212) ?_
  refine qcons (qk_aload_n dX12_takesE_215 rfl) ?_
  refine qcons (qk_dup dX12_takesE_216) ?_
  refine qcons (qk_getI fd_X12_50 kd_12_13 dX12_takesE_217) ?_
  refine qcons (qk_iconst dX12_takesE_220 (by decide)) ?_
  refine qcons (qk_iadd dX12_takesE_221) ?_
  refine qcons (qk_putI (ty := .int) fd_X12_50 tyX12_ok nmX12 (Or.inl rfl) kd_12_13 (tyX12_ok 13 (by decide)) dX12_takesE_222) ?_
  refine qcons (qk_aload_n dX12_takesE_225 rfl) ?_
  refine qcons (qk_callv (ins := fun i => .invokevirtual i) (qconsV (qrunV M_X12_whole (by decide) (by decide) (by decide) rfl tw_1182 tw_1184 tw_39 tw_1185 tw_90 ⟨by decide, by decide⟩ (by decide +kernel)) qnilV) dX12_takesE_226) ?_
  refine qcons (qk_goto dX12_takesE_229 (by decide)) ?_
  exact qnil
theorem M_X12_takesE {X : qX} {l : Launch} : qMet X l 5 yX12_takesE cX12_takesE 4 (some .boolean) S_X12_takesE := qmet_of K_X12_takesE (by decide) rfl rfl
theorem dX12_takesHead_0 : decode cX12_takesHead 0 = .ok (.aload_n 0, 1) := by decide +kernel
theorem dX12_takesHead_1 : decode cX12_takesHead 1 = .ok (.invokevirtual 265, 3) := by decide +kernel
theorem dX12_takesHead_4 : decode cX12_takesHead 4 = .ok (.lookupswitch 79 #[(98, 36), (104, 64), (115, 50)], 36) := by decide +kernel
theorem dX12_takesHead_40 : decode cX12_takesHead 40 = .ok (.aload_n 0, 1) := by decide +kernel
theorem dX12_takesHead_41 : decode cX12_takesHead 41 = .ok (.getfield 62, 3) := by decide +kernel
theorem dX12_takesHead_44 : decode cX12_takesHead 44 = .ok (.iload_n 1, 1) := by decide +kernel
theorem dX12_takesHead_45 : decode cX12_takesHead 45 = .ok (.iconst 0, 1) := by decide +kernel
theorem dX12_takesHead_46 : decode cX12_takesHead 46 = .ok (.iastore, 1) := by decide +kernel
theorem dX12_takesHead_47 : decode cX12_takesHead 47 = .ok (.aload_n 0, 1) := by decide +kernel
theorem dX12_takesHead_48 : decode cX12_takesHead 48 = .ok (.iconst 0, 1) := by decide +kernel
theorem dX12_takesHead_49 : decode cX12_takesHead 49 = .ok (.iconst 5, 1) := by decide +kernel
theorem dX12_takesHead_50 : decode cX12_takesHead 50 = .ok (.invokevirtual 296, 3) := by decide +kernel
theorem dX12_takesHead_53 : decode cX12_takesHead 53 = .ok (.ireturn, 1) := by decide +kernel
theorem dX12_takesHead_54 : decode cX12_takesHead 54 = .ok (.aload_n 0, 1) := by decide +kernel
theorem dX12_takesHead_55 : decode cX12_takesHead 55 = .ok (.getfield 62, 3) := by decide +kernel
theorem dX12_takesHead_58 : decode cX12_takesHead 58 = .ok (.iload_n 1, 1) := by decide +kernel
theorem dX12_takesHead_59 : decode cX12_takesHead 59 = .ok (.iconst 1, 1) := by decide +kernel
theorem dX12_takesHead_60 : decode cX12_takesHead 60 = .ok (.iastore, 1) := by decide +kernel
theorem dX12_takesHead_61 : decode cX12_takesHead 61 = .ok (.aload_n 0, 1) := by decide +kernel
theorem dX12_takesHead_62 : decode cX12_takesHead 62 = .ok (.iconst 5, 1) := by decide +kernel
theorem dX12_takesHead_63 : decode cX12_takesHead 63 = .ok (.iconst 5, 1) := by decide +kernel
theorem dX12_takesHead_64 : decode cX12_takesHead 64 = .ok (.invokevirtual 296, 3) := by decide +kernel
theorem dX12_takesHead_67 : decode cX12_takesHead 67 = .ok (.ireturn, 1) := by decide +kernel
theorem dX12_takesHead_68 : decode cX12_takesHead 68 = .ok (.aload_n 0, 1) := by decide +kernel
theorem dX12_takesHead_69 : decode cX12_takesHead 69 = .ok (.getfield 62, 3) := by decide +kernel
theorem dX12_takesHead_72 : decode cX12_takesHead 72 = .ok (.iload_n 1, 1) := by decide +kernel
theorem dX12_takesHead_73 : decode cX12_takesHead 73 = .ok (.iconst 2, 1) := by decide +kernel
theorem dX12_takesHead_74 : decode cX12_takesHead 74 = .ok (.iastore, 1) := by decide +kernel
theorem dX12_takesHead_75 : decode cX12_takesHead 75 = .ok (.aload_n 0, 1) := by decide +kernel
theorem dX12_takesHead_76 : decode cX12_takesHead 76 = .ok (.bipush 10, 2) := by decide +kernel
theorem dX12_takesHead_78 : decode cX12_takesHead 78 = .ok (.iconst 4, 1) := by decide +kernel
theorem dX12_takesHead_79 : decode cX12_takesHead 79 = .ok (.invokevirtual 296, 3) := by decide +kernel
theorem dX12_takesHead_82 : decode cX12_takesHead 82 = .ok (.ireturn, 1) := by decide +kernel
theorem dX12_takesHead_83 : decode cX12_takesHead 83 = .ok (.aload_n 0, 1) := by decide +kernel
theorem dX12_takesHead_84 : decode cX12_takesHead 84 = .ok (.getfield 62, 3) := by decide +kernel
theorem dX12_takesHead_87 : decode cX12_takesHead 87 = .ok (.iload_n 1, 1) := by decide +kernel
theorem dX12_takesHead_88 : decode cX12_takesHead 88 = .ok (.iconst 3, 1) := by decide +kernel
theorem dX12_takesHead_89 : decode cX12_takesHead 89 = .ok (.iastore, 1) := by decide +kernel
theorem dX12_takesHead_90 : decode cX12_takesHead 90 = .ok (.aload_n 0, 1) := by decide +kernel
theorem dX12_takesHead_91 : decode cX12_takesHead 91 = .ok (.bipush 14, 2) := by decide +kernel
theorem dX12_takesHead_93 : decode cX12_takesHead 93 = .ok (.iconst 4, 1) := by decide +kernel
theorem dX12_takesHead_94 : decode cX12_takesHead 94 = .ok (.invokevirtual 296, 3) := by decide +kernel
theorem dX12_takesHead_97 : decode cX12_takesHead 97 = .ok (.ireturn, 1) := by decide +kernel
noncomputable def C_X12_takesHead : List (Nat × qOp) := [(0, qo_aload 0 1),
  (1, qo_callv [(12, S_X12_next)] 0),
  (4, qo_lsw [(98, 40), (104, 68), (115, 54)] 83),
  (40, qo_aload 0 1),
  (41, qo_getR 12 17),
  (44, qo_iload 1 1),
  (45, qo_ci 0 1),
  (46, qo_iastore),
  (47, qo_aload 0 1),
  (48, qo_ci 0 1),
  (49, qo_ci 5 1),
  (50, qo_callv [(12, S_X12_takesWord)] 2),
  (53, qo_ret (some .boolean) 1),
  (54, qo_aload 0 1),
  (55, qo_getR 12 17),
  (58, qo_iload 1 1),
  (59, qo_ci 1 1),
  (60, qo_iastore),
  (61, qo_aload 0 1),
  (62, qo_ci 5 1),
  (63, qo_ci 5 1),
  (64, qo_callv [(12, S_X12_takesWord)] 2),
  (67, qo_ret (some .boolean) 1),
  (68, qo_aload 0 1),
  (69, qo_getR 12 17),
  (72, qo_iload 1 1),
  (73, qo_ci 2 1),
  (74, qo_iastore),
  (75, qo_aload 0 1),
  (76, qo_ci 10 2),
  (78, qo_ci 4 1),
  (79, qo_callv [(12, S_X12_takesWord)] 2),
  (82, qo_ret (some .boolean) 1),
  (83, qo_aload 0 1),
  (84, qo_getR 12 17),
  (87, qo_iload 1 1),
  (88, qo_ci 3 1),
  (89, qo_iastore),
  (90, qo_aload 0 1),
  (91, qo_ci 14 2),
  (93, qo_ci 4 1),
  (94, qo_callv [(12, S_X12_takesWord)] 2),
  (97, qo_ret (some .boolean) 1)]
noncomputable def S_X12_takesHead : qSem := qM 2 C_X12_takesHead
set_option maxRecDepth 20000 in
theorem K_X12_takesHead {X : qX} {l : Launch} : ∀ q ∈ C_X12_takesHead, qOk X l 4 cX12_takesHead 2 RX12 "takesHead" (some .boolean) q.1 q.2 := by
  unfold C_X12_takesHead
  refine qcons (qk_aload_n dX12_takesHead_0 rfl) ?_
  refine qcons (qk_callv (ins := fun i => .invokevirtual i) (qconsV (qrunV M_X12_next (by decide) (by decide) (by decide) rfl tw_1146 tw_1148 tw_30 tw_1149 tw_90 ⟨by decide, by decide⟩ (by decide +kernel)) qnilV) dX12_takesHead_1) ?_
  refine qcons (qk_lsw dX12_takesHead_4 (by decide) (by decide) (by decide)) ?_
  refine qcons (qk_aload_n dX12_takesHead_40 rfl) ?_
  refine qcons (qk_getR fd_X12_62 kd_12_17 dX12_takesHead_41) ?_
  refine qcons (qk_iload_n dX12_takesHead_44 rfl) ?_
  refine qcons (qk_iconst dX12_takesHead_45 (by decide)) ?_
  refine qcons (qk_iastore dX12_takesHead_46) ?_
  refine qcons (qk_aload_n dX12_takesHead_47 rfl) ?_
  refine qcons (qk_iconst dX12_takesHead_48 (by decide)) ?_
  refine qcons (qk_iconst dX12_takesHead_49 (by decide)) ?_
  refine qcons (qk_callv (ins := fun i => .invokevirtual i) (qconsV (qrunV M_X12_takesWord (by decide) (by decide) (by decide) rfl tw_1150 tw_1152 tw_31 tw_1153 tw_90 ⟨by decide, by decide⟩ (by decide +kernel)) qnilV) dX12_takesHead_50) ?_
  refine qcons (qk_ret dX12_takesHead_53 (Or.inr (Or.inl ⟨rfl, rfl⟩))) ?_
  refine qcons (qk_aload_n dX12_takesHead_54 rfl) ?_
  refine qcons (qk_getR fd_X12_62 kd_12_17 dX12_takesHead_55) ?_
  refine qcons (qk_iload_n dX12_takesHead_58 rfl) ?_
  refine qcons (qk_iconst dX12_takesHead_59 (by decide)) ?_
  refine qcons (qk_iastore dX12_takesHead_60) ?_
  refine qcons (qk_aload_n dX12_takesHead_61 rfl) ?_
  refine qcons (qk_iconst dX12_takesHead_62 (by decide)) ?_
  refine qcons (qk_iconst dX12_takesHead_63 (by decide)) ?_
  refine qcons (qk_callv (ins := fun i => .invokevirtual i) (qconsV (qrunV M_X12_takesWord (by decide) (by decide) (by decide) rfl tw_1150 tw_1152 tw_31 tw_1153 tw_90 ⟨by decide, by decide⟩ (by decide +kernel)) qnilV) dX12_takesHead_64) ?_
  refine qcons (qk_ret dX12_takesHead_67 (Or.inr (Or.inl ⟨rfl, rfl⟩))) ?_
  refine qcons (qk_aload_n dX12_takesHead_68 rfl) ?_
  refine qcons (qk_getR fd_X12_62 kd_12_17 dX12_takesHead_69) ?_
  refine qcons (qk_iload_n dX12_takesHead_72 rfl) ?_
  refine qcons (qk_iconst dX12_takesHead_73 (by decide)) ?_
  refine qcons (qk_iastore dX12_takesHead_74) ?_
  refine qcons (qk_aload_n dX12_takesHead_75 rfl) ?_
  refine qcons (qk_bipush dX12_takesHead_76 (by decide) (by decide)) ?_
  refine qcons (qk_iconst dX12_takesHead_78 (by decide)) ?_
  refine qcons (qk_callv (ins := fun i => .invokevirtual i) (qconsV (qrunV M_X12_takesWord (by decide) (by decide) (by decide) rfl tw_1150 tw_1152 tw_31 tw_1153 tw_90 ⟨by decide, by decide⟩ (by decide +kernel)) qnilV) dX12_takesHead_79) ?_
  refine qcons (qk_ret dX12_takesHead_82 (Or.inr (Or.inl ⟨rfl, rfl⟩))) ?_
  refine qcons (qk_aload_n dX12_takesHead_83 rfl) ?_
  refine qcons (qk_getR fd_X12_62 kd_12_17 dX12_takesHead_84) ?_
  refine qcons (qk_iload_n dX12_takesHead_87 rfl) ?_
  refine qcons (qk_iconst dX12_takesHead_88 (by decide)) ?_
  refine qcons (qk_iastore dX12_takesHead_89) ?_
  refine qcons (qk_aload_n dX12_takesHead_90 rfl) ?_
  refine qcons (qk_bipush dX12_takesHead_91 (by decide) (by decide)) ?_
  refine qcons (qk_iconst dX12_takesHead_93 (by decide)) ?_
  refine qcons (qk_callv (ins := fun i => .invokevirtual i) (qconsV (qrunV M_X12_takesWord (by decide) (by decide) (by decide) rfl tw_1150 tw_1152 tw_31 tw_1153 tw_90 ⟨by decide, by decide⟩ (by decide +kernel)) qnilV) dX12_takesHead_94) ?_
  refine qcons (qk_ret dX12_takesHead_97 (Or.inr (Or.inl ⟨rfl, rfl⟩))) ?_
  exact qnil
theorem M_X12_takesHead {X : qX} {l : Launch} : qMet X l 4 yX12_takesHead cX12_takesHead 2 (some .boolean) S_X12_takesHead := qmet_of K_X12_takesHead (by decide) rfl rfl
theorem dX12_takesClause_0 : decode cX12_takesClause 0 = .ok (.aload_n 0, 1) := by decide +kernel
theorem dX12_takesClause_1 : decode cX12_takesClause 1 = .ok (.iload_n 1, 1) := by decide +kernel
theorem dX12_takesClause_2 : decode cX12_takesClause 2 = .ok (.invokevirtual 299, 3) := by decide +kernel
theorem dX12_takesClause_5 : decode cX12_takesClause 5 = .ok (.ifCond .eq 10, 3) := by decide +kernel
theorem dX12_takesClause_8 : decode cX12_takesClause 8 = .ok (.aload_n 0, 1) := by decide +kernel
theorem dX12_takesClause_9 : decode cX12_takesClause 9 = .ok (.invokevirtual 284, 3) := by decide +kernel
theorem dX12_takesClause_12 : decode cX12_takesClause 12 = .ok (.ifCond .ne 5, 3) := by decide +kernel
theorem dX12_takesClause_15 : decode cX12_takesClause 15 = .ok (.iconst 0, 1) := by decide +kernel
theorem dX12_takesClause_16 : decode cX12_takesClause 16 = .ok (.ireturn, 1) := by decide +kernel
theorem dX12_takesClause_17 : decode cX12_takesClause 17 = .ok (.aload_n 0, 1) := by decide +kernel
theorem dX12_takesClause_18 : decode cX12_takesClause 18 = .ok (.getfield 65, 3) := by decide +kernel
theorem dX12_takesClause_21 : decode cX12_takesClause 21 = .ok (.iload_n 1, 1) := by decide +kernel
theorem dX12_takesClause_22 : decode cX12_takesClause 22 = .ok (.aload_n 0, 1) := by decide +kernel
theorem dX12_takesClause_23 : decode cX12_takesClause 23 = .ok (.getfield 53, 3) := by decide +kernel
theorem dX12_takesClause_26 : decode cX12_takesClause 26 = .ok (.iastore, 1) := by decide +kernel
theorem dX12_takesClause_27 : decode cX12_takesClause 27 = .ok (.aload_n 0, 1) := by decide +kernel
theorem dX12_takesClause_28 : decode cX12_takesClause 28 = .ok (.getfield 62, 3) := by decide +kernel
theorem dX12_takesClause_31 : decode cX12_takesClause 31 = .ok (.iload_n 1, 1) := by decide +kernel
theorem dX12_takesClause_32 : decode cX12_takesClause 32 = .ok (.iaload, 1) := by decide +kernel
theorem dX12_takesClause_33 : decode cX12_takesClause 33 = .ok (.iconst 2, 1) := by decide +kernel
theorem dX12_takesClause_34 : decode cX12_takesClause 34 = .ok (.if_icmp .ge 20, 3) := by decide +kernel
theorem dX12_takesClause_37 : decode cX12_takesClause 37 = .ok (.aload_n 0, 1) := by decide +kernel
theorem dX12_takesClause_38 : decode cX12_takesClause 38 = .ok (.bipush 32, 2) := by decide +kernel
theorem dX12_takesClause_40 : decode cX12_takesClause 40 = .ok (.invokevirtual 269, 3) := by decide +kernel
theorem dX12_takesClause_43 : decode cX12_takesClause 43 = .ok (.ifCond .eq 15, 3) := by decide +kernel
theorem dX12_takesClause_46 : decode cX12_takesClause 46 = .ok (.aload_n 0, 1) := by decide +kernel
theorem dX12_takesClause_47 : decode cX12_takesClause 47 = .ok (.iload_n 1, 1) := by decide +kernel
theorem dX12_takesClause_48 : decode cX12_takesClause 48 = .ok (.invokevirtual 302, 3) := by decide +kernel
theorem dX12_takesClause_51 : decode cX12_takesClause 51 = .ok (.ifCond .eq 7, 3) := by decide +kernel
theorem dX12_takesClause_54 : decode cX12_takesClause 54 = .ok (.iconst 1, 1) := by decide +kernel
theorem dX12_takesClause_55 : decode cX12_takesClause 55 = .ok (.goto 4, 3) := by decide +kernel
theorem dX12_takesClause_58 : decode cX12_takesClause 58 = .ok (.iconst 0, 1) := by decide +kernel
theorem dX12_takesClause_59 : decode cX12_takesClause 59 = .ok (.ireturn, 1) := by decide +kernel
noncomputable def C_X12_takesClause : List (Nat × qOp) := [(0, qo_aload 0 1),
  (1, qo_iload 1 1),
  (2, qo_callv [(12, S_X12_takesHead)] 1),
  (5, qo_ifeq 15),
  (8, qo_aload 0 1),
  (9, qo_callv [(12, S_X12_takesNumber)] 0),
  (12, qo_ifne 17),
  (15, qo_ci 0 1),
  (16, qo_ret (some .boolean) 1),
  (17, qo_aload 0 1),
  (18, qo_getR 12 18),
  (21, qo_iload 1 1),
  (22, qo_aload 0 1),
  (23, qo_getI 12 14),
  (26, qo_iastore),
  (27, qo_aload 0 1),
  (28, qo_getR 12 17),
  (31, qo_iload 1 1),
  (32, qo_iaload),
  (33, qo_ci 2 1),
  (34, qo_icge 54),
  (37, qo_aload 0 1),
  (38, qo_ci 32 2),
  (40, qo_callv [(12, S_X12_takes)] 1),
  (43, qo_ifeq 58),
  (46, qo_aload 0 1),
  (47, qo_iload 1 1),
  (48, qo_callv [(12, S_X12_takesE)] 1),
  (51, qo_ifeq 58),
  (54, qo_ci 1 1),
  (55, qo_goto 59),
  (58, qo_ci 0 1),
  (59, qo_ret (some .boolean) 1)]
noncomputable def S_X12_takesClause : qSem := qM 2 C_X12_takesClause
set_option maxRecDepth 20000 in
theorem K_X12_takesClause {X : qX} {l : Launch} : ∀ q ∈ C_X12_takesClause, qOk X l 6 cX12_takesClause 2 RX12 "takesClause" (some .boolean) q.1 q.2 := by
  unfold C_X12_takesClause
  refine qcons (qk_aload_n dX12_takesClause_0 rfl) ?_
  refine qcons (qk_iload_n dX12_takesClause_1 rfl) ?_
  refine qcons (qk_callv (ins := fun i => .invokevirtual i) (qconsV (qrunV M_X12_takesHead (by decide) (by decide) (by decide) rfl tw_1142 tw_1144 tw_29 tw_1145 tw_90 ⟨by decide, by decide⟩ (by decide +kernel)) qnilV) dX12_takesClause_2) ?_
  refine qcons (qk_ifeq dX12_takesClause_5 (by decide)) ?_
  refine qcons (qk_aload_n dX12_takesClause_8 rfl) ?_
  refine qcons (qk_callv (ins := fun i => .invokevirtual i) (qconsV (qrunV M_X12_takesNumber (by decide) (by decide) (by decide) rfl tw_1158 tw_1160 tw_33 tw_1161 tw_90 ⟨by decide, by decide⟩ (by decide +kernel)) qnilV) dX12_takesClause_9) ?_
  refine qcons (qk_ifne dX12_takesClause_12 (by decide)) ?_
  refine qcons (qk_iconst dX12_takesClause_15 (by decide)) ?_
  refine qcons (qk_ret dX12_takesClause_16 (Or.inr (Or.inl ⟨rfl, rfl⟩))) ?_
  refine qcons (qk_aload_n dX12_takesClause_17 rfl) ?_
  refine qcons (qk_getR fd_X12_65 kd_12_18 dX12_takesClause_18) ?_
  refine qcons (qk_iload_n dX12_takesClause_21 rfl) ?_
  refine qcons (qk_aload_n dX12_takesClause_22 rfl) ?_
  refine qcons (qk_getI fd_X12_53 kd_12_14 dX12_takesClause_23) ?_
  refine qcons (qk_iastore dX12_takesClause_26) ?_
  refine qcons (qk_aload_n dX12_takesClause_27 rfl) ?_
  refine qcons (qk_getR fd_X12_62 kd_12_17 dX12_takesClause_28) ?_
  refine qcons (qk_iload_n dX12_takesClause_31 rfl) ?_
  refine qcons (qk_iaload dX12_takesClause_32) ?_
  refine qcons (qk_iconst dX12_takesClause_33 (by decide)) ?_
  refine qcons (qk_icge dX12_takesClause_34 (by decide)) ?_
  refine qcons (qk_aload_n dX12_takesClause_37 rfl) ?_
  refine qcons (qk_bipush dX12_takesClause_38 (by decide) (by decide)) ?_
  refine qcons (qk_callv (ins := fun i => .invokevirtual i) (qconsV (qrunV M_X12_takes (by decide) (by decide) (by decide) rfl tw_1154 tw_1156 tw_32 tw_1157 tw_90 ⟨by decide, by decide⟩ (by decide +kernel)) qnilV) dX12_takesClause_40) ?_
  refine qcons (qk_ifeq dX12_takesClause_43 (by decide)) ?_
  refine qcons (qk_aload_n dX12_takesClause_46 rfl) ?_
  refine qcons (qk_iload_n dX12_takesClause_47 rfl) ?_
  refine qcons (qk_callv (ins := fun i => .invokevirtual i) (qconsV (qrunV M_X12_takesE (by decide) (by decide) (by decide) rfl tw_1166 tw_1168 tw_35 tw_1169 tw_90 ⟨by decide, by decide⟩ (by decide +kernel)) qnilV) dX12_takesClause_48) ?_
  refine qcons (qk_ifeq dX12_takesClause_51 (by decide)) ?_
  refine qcons (qk_iconst dX12_takesClause_54 (by decide)) ?_
  refine qcons (qk_goto dX12_takesClause_55 (by decide)) ?_
  refine qcons (qk_iconst dX12_takesClause_58 (by decide)) ?_
  refine qcons (qk_ret dX12_takesClause_59 (Or.inr (Or.inl ⟨rfl, rfl⟩))) ?_
  exact qnil
theorem M_X12_takesClause {X : qX} {l : Launch} : qMet X l 6 yX12_takesClause cX12_takesClause 2 (some .boolean) S_X12_takesClause := qmet_of K_X12_takesClause (by decide) rfl rfl
theorem dX12_goesText_0 : decode cX12_goesText 0 = .ok (.aload_n 0, 1) := by decide +kernel
theorem dX12_goesText_1 : decode cX12_goesText 1 = .ok (.iconst 0, 1) := by decide +kernel
theorem dX12_goesText_2 : decode cX12_goesText 2 = .ok (.putfield 50, 3) := by decide +kernel
theorem dX12_goesText_5 : decode cX12_goesText 5 = .ok (.aload_n 0, 1) := by decide +kernel
theorem dX12_goesText_6 : decode cX12_goesText 6 = .ok (.bipush 100, 2) := by decide +kernel
theorem dX12_goesText_8 : decode cX12_goesText 8 = .ok (.iload_n 1, 1) := by decide +kernel
theorem dX12_goesText_9 : decode cX12_goesText 9 = .ok (.imul, 1) := by decide +kernel
theorem dX12_goesText_10 : decode cX12_goesText 10 = .ok (.putfield 80, 3) := by decide +kernel
theorem dX12_goesText_13 : decode cX12_goesText 13 = .ok (.iconst 0, 1) := by decide +kernel
theorem dX12_goesText_14 : decode cX12_goesText 14 = .ok (.istore_n 2, 1) := by decide +kernel
theorem dX12_goesText_15 : decode cX12_goesText 15 = .ok (.aload_n 0, 1) := by decide +kernel
theorem dX12_goesText_16 : decode cX12_goesText 16 = .ok (.bipush 10, 2) := by decide +kernel
theorem dX12_goesText_18 : decode cX12_goesText 18 = .ok (.iload_n 1, 1) := by decide +kernel
theorem dX12_goesText_19 : decode cX12_goesText 19 = .ok (.imul, 1) := by decide +kernel
theorem dX12_goesText_20 : decode cX12_goesText 20 = .ok (.iload_n 2, 1) := by decide +kernel
theorem dX12_goesText_21 : decode cX12_goesText 21 = .ok (.iadd, 1) := by decide +kernel
theorem dX12_goesText_22 : decode cX12_goesText 22 = .ok (.invokevirtual 305, 3) := by decide +kernel
theorem dX12_goesText_25 : decode cX12_goesText 25 = .ok (.ifCond .ne 5, 3) := by decide +kernel
theorem dX12_goesText_28 : decode cX12_goesText 28 = .ok (.iconst 0, 1) := by decide +kernel
theorem dX12_goesText_29 : decode cX12_goesText 29 = .ok (.ireturn, 1) := by decide +kernel
theorem dX12_goesText_30 : decode cX12_goesText 30 = .ok (.iinc 2 1, 3) := by decide +kernel
theorem dX12_goesText_33 : decode cX12_goesText 33 = .ok (.aload_n 0, 1) := by decide +kernel
theorem dX12_goesText_34 : decode cX12_goesText 34 = .ok (.getfield 59, 3) := by decide +kernel
theorem dX12_goesText_37 : decode cX12_goesText 37 = .ok (.iload_n 1, 1) := by decide +kernel
theorem dX12_goesText_38 : decode cX12_goesText 38 = .ok (.iload_n 2, 1) := by decide +kernel
theorem dX12_goesText_39 : decode cX12_goesText 39 = .ok (.iastore, 1) := by decide +kernel
theorem dX12_goesText_40 : decode cX12_goesText 40 = .ok (.aload_n 0, 1) := by decide +kernel
theorem dX12_goesText_41 : decode cX12_goesText 41 = .ok (.getfield 50, 3) := by decide +kernel
theorem dX12_goesText_44 : decode cX12_goesText 44 = .ok (.aload_n 0, 1) := by decide +kernel
theorem dX12_goesText_45 : decode cX12_goesText 45 = .ok (.getfield 47, 3) := by decide +kernel
theorem dX12_goesText_48 : decode cX12_goesText 48 = .ok (.if_icmp .ne 5, 3) := by decide +kernel
theorem dX12_goesText_51 : decode cX12_goesText 51 = .ok (.iconst 1, 1) := by decide +kernel
theorem dX12_goesText_52 : decode cX12_goesText 52 = .ok (.ireturn, 1) := by decide +kernel
theorem dX12_goesText_53 : decode cX12_goesText 53 = .ok (.iload_n 2, 1) := by decide +kernel
theorem dX12_goesText_54 : decode cX12_goesText 54 = .ok (.bipush 10, 2) := by decide +kernel
theorem dX12_goesText_56 : decode cX12_goesText 56 = .ok (.if_icmp .eq 12, 3) := by decide +kernel
theorem dX12_goesText_59 : decode cX12_goesText 59 = .ok (.aload_n 0, 1) := by decide +kernel
theorem dX12_goesText_60 : decode cX12_goesText 60 = .ok (.bipush 59, 2) := by decide +kernel
theorem dX12_goesText_62 : decode cX12_goesText 62 = .ok (.invokevirtual 269, 3) := by decide +kernel
theorem dX12_goesText_65 : decode cX12_goesText 65 = .ok (.ifCond .ne (-50), 3) := by decide +kernel
theorem dX12_goesText_68 : decode cX12_goesText 68 = .ok (.iconst 0, 1) := by decide +kernel
theorem dX12_goesText_69 : decode cX12_goesText 69 = .ok (.ireturn, 1) := by decide +kernel
noncomputable def C_X12_goesText : List (Nat × qOp) := [(0, qo_aload 0 1),
  (1, qo_ci 0 1),
  (2, qo_putI 12 13),
  (5, qo_aload 0 1),
  (6, qo_ci 100 2),
  (8, qo_iload 1 1),
  (9, qo_imul),
  (10, qo_putI 12 23),
  (13, qo_ci 0 1),
  (14, qo_istore 2 1),
  (15, qo_aload 0 1),
  (16, qo_ci 10 2),
  (18, qo_iload 1 1),
  (19, qo_imul),
  (20, qo_iload 2 1),
  (21, qo_iadd),
  (22, qo_callv [(12, S_X12_takesClause)] 1),
  (25, qo_ifne 30),
  (28, qo_ci 0 1),
  (29, qo_ret (some .boolean) 1),
  (30, qo_iinc 2 1),
  (33, qo_aload 0 1),
  (34, qo_getR 12 16),
  (37, qo_iload 1 1),
  (38, qo_iload 2 1),
  (39, qo_iastore),
  (40, qo_aload 0 1),
  (41, qo_getI 12 13),
  (44, qo_aload 0 1),
  (45, qo_getI 12 12),
  (48, qo_icne 53),
  (51, qo_ci 1 1),
  (52, qo_ret (some .boolean) 1),
  (53, qo_iload 2 1),
  (54, qo_ci 10 2),
  (56, qo_iceq 68),
  (59, qo_aload 0 1),
  (60, qo_ci 59 2),
  (62, qo_callv [(12, S_X12_takes)] 1),
  (65, qo_ifne 15),
  (68, qo_ci 0 1),
  (69, qo_ret (some .boolean) 1)]
noncomputable def S_X12_goesText : qSem := qM 3 C_X12_goesText
set_option maxRecDepth 20000 in
theorem K_X12_goesText {X : qX} {l : Launch} : ∀ q ∈ C_X12_goesText, qOk X l 7 cX12_goesText 3 RX12 "goesText" (some .boolean) q.1 q.2 := by
  unfold C_X12_goesText
  refine qcons (qk_aload_n dX12_goesText_0 rfl) ?_
  refine qcons (qk_iconst dX12_goesText_1 (by decide)) ?_
  refine qcons (qk_putI (ty := .int) fd_X12_50 tyX12_ok nmX12 (Or.inl rfl) kd_12_13 (tyX12_ok 13 (by decide)) dX12_goesText_2) ?_
  refine qcons (qk_aload_n dX12_goesText_5 rfl) ?_
  refine qcons (qk_bipush dX12_goesText_6 (by decide) (by decide)) ?_
  refine qcons (qk_iload_n dX12_goesText_8 rfl) ?_
  refine qcons (qk_imul dX12_goesText_9) ?_
  refine qcons (qk_putI (ty := .int) fd_X12_80 tyX12_ok nmX12 (Or.inl rfl) kd_12_23 (tyX12_ok 23 (by decide)) dX12_goesText_10) ?_
  refine qcons (qk_iconst dX12_goesText_13 (by decide)) ?_
  refine qcons (qk_istore_n dX12_goesText_14 rfl) ?_
  refine qcons (qk_aload_n dX12_goesText_15 rfl) ?_
  refine qcons (qk_bipush dX12_goesText_16 (by decide) (by decide)) ?_
  refine qcons (qk_iload_n dX12_goesText_18 rfl) ?_
  refine qcons (qk_imul dX12_goesText_19) ?_
  refine qcons (qk_iload_n dX12_goesText_20 rfl) ?_
  refine qcons (qk_iadd dX12_goesText_21) ?_
  refine qcons (qk_callv (ins := fun i => .invokevirtual i) (qconsV (qrunV M_X12_takesClause (by decide) (by decide) (by decide) rfl tw_1138 tw_1140 tw_28 tw_1141 tw_90 ⟨by decide, by decide⟩ (by decide +kernel)) qnilV) dX12_goesText_22) ?_
  refine qcons (qk_ifne dX12_goesText_25 (by decide)) ?_
  refine qcons (qk_iconst dX12_goesText_28 (by decide)) ?_
  refine qcons (qk_ret dX12_goesText_29 (Or.inr (Or.inl ⟨rfl, rfl⟩))) ?_
  refine qcons (qk_iinc dX12_goesText_30) ?_
  refine qcons (qk_aload_n dX12_goesText_33 rfl) ?_
  refine qcons (qk_getR fd_X12_59 kd_12_16 dX12_goesText_34) ?_
  refine qcons (qk_iload_n dX12_goesText_37 rfl) ?_
  refine qcons (qk_iload_n dX12_goesText_38 rfl) ?_
  refine qcons (qk_iastore dX12_goesText_39) ?_
  refine qcons (qk_aload_n dX12_goesText_40 rfl) ?_
  refine qcons (qk_getI fd_X12_50 kd_12_13 dX12_goesText_41) ?_
  refine qcons (qk_aload_n dX12_goesText_44 rfl) ?_
  refine qcons (qk_getI fd_X12_47 kd_12_12 dX12_goesText_45) ?_
  refine qcons (qk_icne dX12_goesText_48 (by decide)) ?_
  refine qcons (qk_iconst dX12_goesText_51 (by decide)) ?_
  refine qcons (qk_ret dX12_goesText_52 (Or.inr (Or.inl ⟨rfl, rfl⟩))) ?_
  refine qcons (qk_iload_n dX12_goesText_53 rfl) ?_
  refine qcons (qk_bipush dX12_goesText_54 (by decide) (by decide)) ?_
  refine qcons (qk_iceq dX12_goesText_56 (by decide)) ?_
  refine qcons (qk_aload_n dX12_goesText_59 rfl) ?_
  refine qcons (qk_bipush dX12_goesText_60 (by decide) (by decide)) ?_
  refine qcons (qk_callv (ins := fun i => .invokevirtual i) (qconsV (qrunV M_X12_takes (by decide) (by decide) (by decide) rfl tw_1154 tw_1156 tw_32 tw_1157 tw_90 ⟨by decide, by decide⟩ (by decide +kernel)) qnilV) dX12_goesText_62) ?_
  refine qcons (qk_ifne dX12_goesText_65 (by decide)) ?_
  refine qcons (qk_iconst dX12_goesText_68 (by decide)) ?_
  refine qcons (qk_ret dX12_goesText_69 (Or.inr (Or.inl ⟨rfl, rfl⟩))) ?_
  exact qnil
theorem M_X12_goesText {X : qX} {l : Launch} : qMet X l 7 yX12_goesText cX12_goesText 3 (some .boolean) S_X12_goesText := qmet_of K_X12_goesText (by decide) rfl rfl
theorem dX12_hall_0 : decode cX12_hall 0 = .ok (.aload_n 0, 1) := by decide +kernel
theorem dX12_hall_1 : decode cX12_hall 1 = .ok (.getfield 41, 3) := by decide +kernel
theorem dX12_hall_4 : decode cX12_hall 4 = .ok (.bipush 6, 2) := by decide +kernel
theorem dX12_hall_6 : decode cX12_hall 6 = .ok (.if_icmp .ne 6, 3) := by decide +kernel
theorem dX12_hall_9 : decode cX12_hall 9 = .ok (.bipush (-4), 2) := by decide +kernel
theorem dX12_hall_11 : decode cX12_hall 11 = .ok (.ireturn, 1) := by decide +kernel
theorem dX12_hall_12 : decode cX12_hall 12 = .ok (.aload_n 0, 1) := by decide +kernel
theorem dX12_hall_13 : decode cX12_hall 13 = .ok (.aload_n 0, 1) := by decide +kernel
theorem dX12_hall_14 : decode cX12_hall 14 = .ok (.getfield 41, 3) := by decide +kernel
theorem dX12_hall_17 : decode cX12_hall 17 = .ok (.invokevirtual 308, 3) := by decide +kernel
theorem dX12_hall_20 : decode cX12_hall 20 = .ok (.istore_n 1, 1) := by decide +kernel
theorem dX12_hall_21 : decode cX12_hall 21 = .ok (.aload_n 0, 1) := by decide +kernel
theorem dX12_hall_22 : decode cX12_hall 22 = .ok (.iconst 0, 1) := by decide +kernel
theorem dX12_hall_23 : decode cX12_hall 23 = .ok (.putfield 47, 3) := by decide +kernel
theorem dX12_hall_26 : decode cX12_hall 26 = .ok (.iload_n 1, 1) := by decide +kernel
theorem dX12_hall_27 : decode cX12_hall 27 = .ok (.ifCond .ne 11, 3) := by decide +kernel
theorem dX12_hall_30 : decode cX12_hall 30 = .ok (.bipush (-10), 2) := by decide +kernel
theorem dX12_hall_32 : decode cX12_hall 32 = .ok (.aload_n 0, 1) := by decide +kernel
theorem dX12_hall_33 : decode cX12_hall 33 = .ok (.getfield 50, 3) := by decide +kernel
theorem dX12_hall_36 : decode cX12_hall 36 = .ok (.isub, 1) := by decide +kernel
theorem dX12_hall_37 : decode cX12_hall 37 = .ok (.ireturn, 1) := by decide +kernel
theorem dX12_hall_38 : decode cX12_hall 38 = .ok (.aload_n 0, 1) := by decide +kernel
theorem dX12_hall_39 : decode cX12_hall 39 = .ok (.aload_n 0, 1) := by decide +kernel
theorem dX12_hall_40 : decode cX12_hall 40 = .ok (.getfield 41, 3) := by decide +kernel
theorem dX12_hall_43 : decode cX12_hall 43 = .ok (.putfield 44, 3) := by decide +kernel
theorem dX12_hall_46 : decode cX12_hall 46 = .ok (.aload_n 0, 1) := by decide +kernel
theorem dX12_hall_47 : decode cX12_hall 47 = .ok (.dup, 1) := by decide +kernel
theorem dX12_hall_48 : decode cX12_hall 48 = .ok (.getfield 41, 3) := by decide +kernel
theorem dX12_hall_51 : decode cX12_hall 51 = .ok (.iconst 1, 1) := by decide +kernel
theorem dX12_hall_52 : decode cX12_hall 52 = .ok (.iadd, 1) := by decide +kernel
theorem dX12_hall_53 : decode cX12_hall 53 = .ok (.putfield 41, 3) := by decide +kernel
theorem dX12_hall_56 : decode cX12_hall 56 = .ok (.aload_n 0, 1) := by decide +kernel
theorem dX12_hall_57 : decode cX12_hall 57 = .ok (.getfield 44, 3) := by decide +kernel
theorem dX12_hall_60 : decode cX12_hall 60 = .ok (.ireturn, 1) := by decide +kernel
noncomputable def C_X12_hall : List (Nat × qOp) := [(0, qo_aload 0 1),
  (1, qo_getI 12 10),
  (4, qo_ci 6 2),
  (6, qo_icne 12),
  (9, qo_ci (-4) 2),
  (11, qo_ret (some .int) 1),
  (12, qo_aload 0 1),
  (13, qo_aload 0 1),
  (14, qo_getI 12 10),
  (17, qo_callv [(12, S_X12_goesText)] 1),
  (20, qo_istore 1 1),
  (21, qo_aload 0 1),
  (22, qo_ci 0 1),
  (23, qo_putI 12 12),
  (26, qo_iload 1 1),
  (27, qo_ifne 38),
  (30, qo_ci (-10) 2),
  (32, qo_aload 0 1),
  (33, qo_getI 12 13),
  (36, qo_isub),
  (37, qo_ret (some .int) 1),
  (38, qo_aload 0 1),
  (39, qo_aload 0 1),
  (40, qo_getI 12 10),
  (43, qo_putI 12 11),
  (46, qo_aload 0 1),
  (47, qo_dup),
  (48, qo_getI 12 10),
  (51, qo_ci 1 1),
  (52, qo_iadd),
  (53, qo_putI 12 10),
  (56, qo_aload 0 1),
  (57, qo_getI 12 11),
  (60, qo_ret (some .int) 1)]
noncomputable def S_X12_hall : qSem := qM 2 C_X12_hall
set_option maxRecDepth 20000 in
theorem K_X12_hall {X : qX} {l : Launch} : ∀ q ∈ C_X12_hall, qOk X l 8 cX12_hall 2 RX12 "hall" (some .int) q.1 q.2 := by
  unfold C_X12_hall
  refine qcons (qk_aload_n dX12_hall_0 rfl) ?_
  refine qcons (qk_getI fd_X12_41 kd_12_10 dX12_hall_1) ?_
  refine qcons (qk_bipush dX12_hall_4 (by decide) (by decide)) ?_
  refine qcons (qk_icne dX12_hall_6 (by decide)) ?_
  refine qcons (qk_bipush dX12_hall_9 (by decide) (by decide)) ?_
  refine qcons (qk_ret dX12_hall_11 (Or.inr (Or.inl ⟨rfl, rfl⟩))) ?_
  refine qcons (qk_aload_n dX12_hall_12 rfl) ?_
  refine qcons (qk_aload_n dX12_hall_13 rfl) ?_
  refine qcons (qk_getI fd_X12_41 kd_12_10 dX12_hall_14) ?_
  refine qcons (qk_callv (ins := fun i => .invokevirtual i) (qconsV (qrunV M_X12_goesText (by decide) (by decide) (by decide) rfl tw_1134 tw_1136 tw_27 tw_1137 tw_90 ⟨by decide, by decide⟩ (by decide +kernel)) qnilV) dX12_hall_17) ?_
  refine qcons (qk_istore_n dX12_hall_20 rfl) ?_
  refine qcons (qk_aload_n dX12_hall_21 rfl) ?_
  refine qcons (qk_iconst dX12_hall_22 (by decide)) ?_
  refine qcons (qk_putI (ty := .int) fd_X12_47 tyX12_ok nmX12 (Or.inl rfl) kd_12_12 (tyX12_ok 12 (by decide)) dX12_hall_23) ?_
  refine qcons (qk_iload_n dX12_hall_26 rfl) ?_
  refine qcons (qk_ifne dX12_hall_27 (by decide)) ?_
  refine qcons (qk_bipush dX12_hall_30 (by decide) (by decide)) ?_
  refine qcons (qk_aload_n dX12_hall_32 rfl) ?_
  refine qcons (qk_getI fd_X12_50 kd_12_13 dX12_hall_33) ?_
  refine qcons (qk_isub dX12_hall_36) ?_
  refine qcons (qk_ret dX12_hall_37 (Or.inr (Or.inl ⟨rfl, rfl⟩))) ?_
  refine qcons (qk_aload_n dX12_hall_38 rfl) ?_
  refine qcons (qk_aload_n dX12_hall_39 rfl) ?_
  refine qcons (qk_getI fd_X12_41 kd_12_10 dX12_hall_40) ?_
  refine qcons (qk_putI (ty := .int) fd_X12_44 tyX12_ok nmX12 (Or.inl rfl) kd_12_11 (tyX12_ok 11 (by decide)) dX12_hall_43) ?_
  refine qcons (qk_aload_n dX12_hall_46 rfl) ?_
  refine qcons (qk_dup dX12_hall_47) ?_
  refine qcons (qk_getI fd_X12_41 kd_12_10 dX12_hall_48) ?_
  refine qcons (qk_iconst dX12_hall_51 (by decide)) ?_
  refine qcons (qk_iadd dX12_hall_52) ?_
  refine qcons (qk_putI (ty := .int) fd_X12_41 tyX12_ok nmX12 (Or.inl rfl) kd_12_10 (tyX12_ok 10 (by decide)) dX12_hall_53) ?_
  refine qcons (qk_aload_n dX12_hall_56 rfl) ?_
  refine qcons (qk_getI fd_X12_44 kd_12_11 dX12_hall_57) ?_
  refine qcons (qk_ret dX12_hall_60 (Or.inr (Or.inl ⟨rfl, rfl⟩))) ?_
  exact qnil
theorem M_X12_hall {X : qX} {l : Launch} : qMet X l 8 yX12_hall cX12_hall 2 (some .int) S_X12_hall := qmet_of K_X12_hall (by decide) rfl rfl
theorem dX12_begin_0 : decode cX12_begin 0 = .ok (.aload_n 0, 1) := by decide +kernel
theorem dX12_begin_1 : decode cX12_begin 1 = .ok (.getfield 44, 3) := by decide +kernel
theorem dX12_begin_4 : decode cX12_begin 4 = .ok (.ifCond .ge 7, 3) := by decide +kernel
theorem dX12_begin_7 : decode cX12_begin 7 = .ok (.iconst 0, 1) := by decide +kernel
theorem dX12_begin_8 : decode cX12_begin 8 = .ok (.goto 10, 3) := by decide +kernel
theorem dX12_begin_11 : decode cX12_begin 11 = .ok (.bipush 10, 2) := by decide +kernel
theorem dX12_begin_13 : decode cX12_begin 13 = .ok (.aload_n 0, 1) := by decide +kernel
theorem dX12_begin_14 : decode cX12_begin 14 = .ok (.getfield 44, 3) := by decide +kernel
theorem dX12_begin_17 : decode cX12_begin 17 = .ok (.imul, 1) := by decide +kernel
theorem dX12_begin_18 : decode cX12_begin 18 = .ok (.ireturn, 1) := by decide +kernel
noncomputable def C_X12_begin : List (Nat × qOp) := [(0, qo_aload 0 1),
  (1, qo_getI 12 11),
  (4, qo_ifge 11),
  (7, qo_ci 0 1),
  (8, qo_goto 18),
  (11, qo_ci 10 2),
  (13, qo_aload 0 1),
  (14, qo_getI 12 11),
  (17, qo_imul),
  (18, qo_ret (some .int) 1)]
noncomputable def S_X12_begin : qSem := qM 1 C_X12_begin
set_option maxRecDepth 20000 in
theorem K_X12_begin {X : qX} {l : Launch} : ∀ q ∈ C_X12_begin, qOk X l 1 cX12_begin 1 RX12 "begin" (some .int) q.1 q.2 := by
  unfold C_X12_begin
  refine qcons (qk_aload_n dX12_begin_0 rfl) ?_
  refine qcons (qk_getI fd_X12_44 kd_12_11 dX12_begin_1) ?_
  refine qcons (qk_ifge dX12_begin_4 (by decide)) ?_
  refine qcons (qk_iconst dX12_begin_7 (by decide)) ?_
  refine qcons (qk_goto dX12_begin_8 (by decide)) ?_
  refine qcons (qk_bipush dX12_begin_11 (by decide) (by decide)) ?_
  refine qcons (qk_aload_n dX12_begin_13 rfl) ?_
  refine qcons (qk_getI fd_X12_44 kd_12_11 dX12_begin_14) ?_
  refine qcons (qk_imul dX12_begin_17) ?_
  refine qcons (qk_ret dX12_begin_18 (Or.inr (Or.inl ⟨rfl, rfl⟩))) ?_
  exact qnil
theorem M_X12_begin {X : qX} {l : Launch} : qMet X l 1 yX12_begin cX12_begin 1 (some .int) S_X12_begin := qmet_of K_X12_begin (by decide) rfl rfl
theorem dX12_behind_0 : decode cX12_behind 0 = .ok (.aload_n 0, 1) := by decide +kernel
theorem dX12_behind_1 : decode cX12_behind 1 = .ok (.getfield 44, 3) := by decide +kernel
theorem dX12_behind_4 : decode cX12_behind 4 = .ok (.ifCond .ge 7, 3) := by decide +kernel
theorem dX12_behind_7 : decode cX12_behind 7 = .ok (.iconst 0, 1) := by decide +kernel
theorem dX12_behind_8 : decode cX12_behind 8 = .ok (.goto 20, 3) := by decide +kernel
theorem dX12_behind_11 : decode cX12_behind 11 = .ok (.bipush 10, 2) := by decide +kernel
theorem dX12_behind_13 : decode cX12_behind 13 = .ok (.aload_n 0, 1) := by decide +kernel
theorem dX12_behind_14 : decode cX12_behind 14 = .ok (.getfield 44, 3) := by decide +kernel
theorem dX12_behind_17 : decode cX12_behind 17 = .ok (.imul, 1) := by decide +kernel
theorem dX12_behind_18 : decode cX12_behind 18 = .ok (.aload_n 0, 1) := by decide +kernel
theorem dX12_behind_19 : decode cX12_behind 19 = .ok (.getfield 59, 3) := by decide +kernel
theorem dX12_behind_22 : decode cX12_behind 22 = .ok (.aload_n 0, 1) := by decide +kernel
theorem dX12_behind_23 : decode cX12_behind 23 = .ok (.getfield 44, 3) := by decide +kernel
theorem dX12_behind_26 : decode cX12_behind 26 = .ok (.iaload, 1) := by decide +kernel
theorem dX12_behind_27 : decode cX12_behind 27 = .ok (.iadd, 1) := by decide +kernel
theorem dX12_behind_28 : decode cX12_behind 28 = .ok (.ireturn, 1) := by decide +kernel
noncomputable def C_X12_behind : List (Nat × qOp) := [(0, qo_aload 0 1),
  (1, qo_getI 12 11),
  (4, qo_ifge 11),
  (7, qo_ci 0 1),
  (8, qo_goto 28),
  (11, qo_ci 10 2),
  (13, qo_aload 0 1),
  (14, qo_getI 12 11),
  (17, qo_imul),
  (18, qo_aload 0 1),
  (19, qo_getR 12 16),
  (22, qo_aload 0 1),
  (23, qo_getI 12 11),
  (26, qo_iaload),
  (27, qo_iadd),
  (28, qo_ret (some .int) 1)]
noncomputable def S_X12_behind : qSem := qM 1 C_X12_behind
set_option maxRecDepth 20000 in
theorem K_X12_behind {X : qX} {l : Launch} : ∀ q ∈ C_X12_behind, qOk X l 1 cX12_behind 1 RX12 "behind" (some .int) q.1 q.2 := by
  unfold C_X12_behind
  refine qcons (qk_aload_n dX12_behind_0 rfl) ?_
  refine qcons (qk_getI fd_X12_44 kd_12_11 dX12_behind_1) ?_
  refine qcons (qk_ifge dX12_behind_4 (by decide)) ?_
  refine qcons (qk_iconst dX12_behind_7 (by decide)) ?_
  refine qcons (qk_goto dX12_behind_8 (by decide)) ?_
  refine qcons (qk_bipush dX12_behind_11 (by decide) (by decide)) ?_
  refine qcons (qk_aload_n dX12_behind_13 rfl) ?_
  refine qcons (qk_getI fd_X12_44 kd_12_11 dX12_behind_14) ?_
  refine qcons (qk_imul dX12_behind_17) ?_
  refine qcons (qk_aload_n dX12_behind_18 rfl) ?_
  refine qcons (qk_getR fd_X12_59 kd_12_16 dX12_behind_19) ?_
  refine qcons (qk_aload_n dX12_behind_22 rfl) ?_
  refine qcons (qk_getI fd_X12_44 kd_12_11 dX12_behind_23) ?_
  refine qcons (qk_iaload dX12_behind_26) ?_
  refine qcons (qk_iadd dX12_behind_27) ?_
  refine qcons (qk_ret dX12_behind_28 (Or.inr (Or.inl ⟨rfl, rfl⟩))) ?_
  exact qnil
theorem M_X12_behind {X : qX} {l : Launch} : qMet X l 1 yX12_behind cX12_behind 1 (some .int) S_X12_behind := qmet_of K_X12_behind (by decide) rfl rfl
theorem dX12_lastOf_0 : decode cX12_lastOf 0 = .ok (.iload_n 2, 1) := by decide +kernel
theorem dX12_lastOf_1 : decode cX12_lastOf 1 = .ok (.istore_n 3, 1) := by decide +kernel
theorem dX12_lastOf_2 : decode cX12_lastOf 2 = .ok (.aload_n 0, 1) := by decide +kernel
theorem dX12_lastOf_3 : decode cX12_lastOf 3 = .ok (.invokevirtual 311, 3) := by decide +kernel
theorem dX12_lastOf_6 : decode cX12_lastOf 6 = .ok (.istore 4, 2) := by decide +kernel
theorem dX12_lastOf_8 : decode cX12_lastOf 8 = .ok (.iload 4, 2) := by decide +kernel
theorem dX12_lastOf_10 : decode cX12_lastOf 10 = .ok (.aload_n 0, 1) := by decide +kernel
theorem dX12_lastOf_11 : decode cX12_lastOf 11 = .ok (.invokevirtual 314, 3) := by decide +kernel
theorem dX12_lastOf_14 : decode cX12_lastOf 14 = .ok (.if_icmp .ge 32, 3) := by decide +kernel
theorem dX12_lastOf_17 : decode cX12_lastOf 17 = .ok (.aload_n 0, 1) := by decide +kernel
theorem dX12_lastOf_18 : decode cX12_lastOf 18 = .ok (.getfield 62, 3) := by decide +kernel
theorem dX12_lastOf_21 : decode cX12_lastOf 21 = .ok (.iload 4, 2) := by decide +kernel
theorem dX12_lastOf_23 : decode cX12_lastOf 23 = .ok (.iaload, 1) := by decide +kernel
theorem dX12_lastOf_24 : decode cX12_lastOf 24 = .ok (.iload_n 1, 1) := by decide +kernel
theorem dX12_lastOf_25 : decode cX12_lastOf 25 = .ok (.if_icmp .ne 13, 3) := by decide +kernel
theorem dX12_lastOf_28 : decode cX12_lastOf 28 = .ok (.aload_n 0, 1) := by decide +kernel
theorem dX12_lastOf_29 : decode cX12_lastOf 29 = .ok (.getfield 65, 3) := by decide +kernel
theorem dX12_lastOf_32 : decode cX12_lastOf 32 = .ok (.iload 4, 2) := by decide +kernel
theorem dX12_lastOf_34 : decode cX12_lastOf 34 = .ok (.iaload, 1) := by decide +kernel
theorem dX12_lastOf_35 : decode cX12_lastOf 35 = .ok (.goto 4, 3) := by decide +kernel
theorem dX12_lastOf_38 : decode cX12_lastOf 38 = .ok (.iload_n 3, 1) := by decide +kernel
theorem dX12_lastOf_39 : decode cX12_lastOf 39 = .ok (.istore_n 3, 1) := by decide +kernel
theorem dX12_lastOf_40 : decode cX12_lastOf 40 = .ok (.iinc 4 1, 3) := by decide +kernel
theorem dX12_lastOf_43 : decode cX12_lastOf 43 = .ok (.goto (-35), 3) := by decide +kernel
theorem dX12_lastOf_46 : decode cX12_lastOf 46 = .ok (.iload_n 3, 1) := by decide +kernel
theorem dX12_lastOf_47 : decode cX12_lastOf 47 = .ok (.ireturn, 1) := by decide +kernel
noncomputable def C_X12_lastOf : List (Nat × qOp) := [(0, qo_iload 2 1),
  (1, qo_istore 3 1),
  (2, qo_aload 0 1),
  (3, qo_callv [(12, S_X12_begin)] 0),
  (6, qo_istore 4 2),
  (8, qo_iload 4 2),
  (10, qo_aload 0 1),
  (11, qo_callv [(12, S_X12_behind)] 0),
  (14, qo_icge 46),
  (17, qo_aload 0 1),
  (18, qo_getR 12 17),
  (21, qo_iload 4 2),
  (23, qo_iaload),
  (24, qo_iload 1 1),
  (25, qo_icne 38),
  (28, qo_aload 0 1),
  (29, qo_getR 12 18),
  (32, qo_iload 4 2),
  (34, qo_iaload),
  (35, qo_goto 39),
  (38, qo_iload 3 1),
  (39, qo_istore 3 1),
  (40, qo_iinc 4 1),
  (43, qo_goto 8),
  (46, qo_iload 3 1),
  (47, qo_ret (some .int) 1)]
noncomputable def S_X12_lastOf : qSem := qM 5 C_X12_lastOf
set_option maxRecDepth 20000 in
theorem K_X12_lastOf {X : qX} {l : Launch} : ∀ q ∈ C_X12_lastOf, qOk X l 2 cX12_lastOf 5 RX12 "lastOf" (some .int) q.1 q.2 := by
  unfold C_X12_lastOf
  refine qcons (qk_iload_n dX12_lastOf_0 rfl) ?_
  refine qcons (qk_istore_n dX12_lastOf_1 rfl) ?_
  refine qcons (qk_aload_n dX12_lastOf_2 rfl) ?_
  refine qcons (qk_callv (ins := fun i => .invokevirtual i) (qconsV (qrunV M_X12_begin (by decide) (by decide) (by decide) rfl tw_1198 tw_1200 tw_42 tw_1201 tw_90 ⟨by decide, by decide⟩ (by decide +kernel)) qnilV) dX12_lastOf_3) ?_
  refine qcons (qk_istore dX12_lastOf_6) ?_
  refine qcons (qk_iload dX12_lastOf_8) ?_
  refine qcons (qk_aload_n dX12_lastOf_10 rfl) ?_
  refine qcons (qk_callv (ins := fun i => .invokevirtual i) (qconsV (qrunV M_X12_behind (by decide) (by decide) (by decide) rfl tw_1202 tw_1204 tw_43 tw_1205 tw_90 ⟨by decide, by decide⟩ (by decide +kernel)) qnilV) dX12_lastOf_11) ?_
  refine qcons (qk_icge dX12_lastOf_14 (by decide)) ?_
  refine qcons (qk_aload_n dX12_lastOf_17 rfl) ?_
  refine qcons (qk_getR fd_X12_62 kd_12_17 dX12_lastOf_18) ?_
  refine qcons (qk_iload dX12_lastOf_21) ?_
  refine qcons (qk_iaload dX12_lastOf_23) ?_
  refine qcons (qk_iload_n dX12_lastOf_24 rfl) ?_
  refine qcons (qk_icne dX12_lastOf_25 (by decide)) ?_
  refine qcons (qk_aload_n dX12_lastOf_28 rfl) ?_
  refine qcons (qk_getR fd_X12_65 kd_12_18 dX12_lastOf_29) ?_
  refine qcons (qk_iload dX12_lastOf_32) ?_
  refine qcons (qk_iaload dX12_lastOf_34) ?_
  refine qcons (qk_goto dX12_lastOf_35 (by decide)) ?_
  refine qcons (qk_iload_n dX12_lastOf_38 rfl) ?_
  refine qcons (qk_istore_n dX12_lastOf_39 rfl) ?_
  refine qcons (qk_iinc dX12_lastOf_40) ?_
  refine qcons (qk_goto dX12_lastOf_43 (by decide)) ?_
  refine qcons (qk_iload_n dX12_lastOf_46 rfl) ?_
  refine qcons (qk_ret dX12_lastOf_47 (Or.inr (Or.inl ⟨rfl, rfl⟩))) ?_
  exact qnil
theorem M_X12_lastOf {X : qX} {l : Launch} : qMet X l 2 yX12_lastOf cX12_lastOf 5 (some .int) S_X12_lastOf := qmet_of K_X12_lastOf (by decide) rfl rfl
theorem dX12_room_0 : decode cX12_room 0 = .ok (.aload_n 0, 1) := by decide +kernel
theorem dX12_room_1 : decode cX12_room 1 = .ok (.getfield 92, 3) := by decide +kernel
theorem dX12_room_4 : decode cX12_room 4 = .ok (.ifCond .lt 10, 3) := by decide +kernel
theorem dX12_room_7 : decode cX12_room 7 = .ok (.aload_n 0, 1) := by decide +kernel
theorem dX12_room_8 : decode cX12_room 8 = .ok (.getfield 92, 3) := by decide +kernel
theorem dX12_room_11 : decode cX12_room 11 = .ok (.goto 10, 3) := by decide +kernel
theorem dX12_room_14 : decode cX12_room 14 = .ok (.aload_n 0, 1) := by decide +kernel
theorem dX12_room_15 : decode cX12_room 15 = .ok (.iconst 2, 1) := by decide +kernel
theorem dX12_room_16 : decode cX12_room 16 = .ok (.bipush 50, 2) := by decide +kernel
theorem dX12_room_18 : decode cX12_room 18 = .ok (.invokevirtual 317, 3) := by decide +kernel
theorem dX12_room_21 : decode cX12_room 21 = .ok (.istore_n 1, 1) := by decide +kernel
theorem dX12_room_22 : decode cX12_room 22 = .ok (.iload_n 1, 1) := by decide +kernel
theorem dX12_room_23 : decode cX12_room 23 = .ok (.iconst 1, 1) := by decide +kernel
theorem dX12_room_24 : decode cX12_room 24 = .ok (.if_icmp .ge 7, 3) := by decide +kernel
theorem dX12_room_27 : decode cX12_room 27 = .ok (.iconst 1, 1) := by decide +kernel
theorem dX12_room_28 : decode cX12_room 28 = .ok (.goto 4, 3) := by decide +kernel
theorem dX12_room_31 : decode cX12_room 31 = .ok (.iload_n 1, 1) := by decide +kernel
theorem dX12_room_32 : decode cX12_room 32 = .ok (.ireturn, 1) := by decide +kernel
noncomputable def C_X12_room : List (Nat × qOp) := [(0, qo_aload 0 1),
  (1, qo_getI 12 27),
  (4, qo_iflt 14),
  (7, qo_aload 0 1),
  (8, qo_getI 12 27),
  (11, qo_goto 21),
  (14, qo_aload 0 1),
  (15, qo_ci 2 1),
  (16, qo_ci 50 2),
  (18, qo_callv [(12, S_X12_lastOf)] 2),
  (21, qo_istore 1 1),
  (22, qo_iload 1 1),
  (23, qo_ci 1 1),
  (24, qo_icge 31),
  (27, qo_ci 1 1),
  (28, qo_goto 32),
  (31, qo_iload 1 1),
  (32, qo_ret (some .int) 1)]
noncomputable def S_X12_room : qSem := qM 2 C_X12_room
set_option maxRecDepth 20000 in
theorem K_X12_room {X : qX} {l : Launch} : ∀ q ∈ C_X12_room, qOk X l 3 cX12_room 2 RX12 "room" (some .int) q.1 q.2 := by
  unfold C_X12_room
  refine qcons (qk_aload_n dX12_room_0 rfl) ?_
  refine qcons (qk_getI fd_X12_92 kd_12_27 dX12_room_1) ?_
  refine qcons (qk_iflt dX12_room_4 (by decide)) ?_
  refine qcons (qk_aload_n dX12_room_7 rfl) ?_
  refine qcons (qk_getI fd_X12_92 kd_12_27 dX12_room_8) ?_
  refine qcons (qk_goto dX12_room_11 (by decide)) ?_
  refine qcons (qk_aload_n dX12_room_14 rfl) ?_
  refine qcons (qk_iconst dX12_room_15 (by decide)) ?_
  refine qcons (qk_bipush dX12_room_16 (by decide) (by decide)) ?_
  refine qcons (qk_callv (ins := fun i => .invokevirtual i) (qconsV (qrunV M_X12_lastOf (by decide) (by decide) (by decide) rfl tw_1238 tw_1240 tw_51 tw_1241 tw_90 ⟨by decide, by decide⟩ (by decide +kernel)) qnilV) dX12_room_18) ?_
  refine qcons (qk_istore_n dX12_room_21 rfl) ?_
  refine qcons (qk_iload_n dX12_room_22 rfl) ?_
  refine qcons (qk_iconst dX12_room_23 (by decide)) ?_
  refine qcons (qk_icge dX12_room_24 (by decide)) ?_
  refine qcons (qk_iconst dX12_room_27 (by decide)) ?_
  refine qcons (qk_goto dX12_room_28 (by decide)) ?_
  refine qcons (qk_iload_n dX12_room_31 rfl) ?_
  refine qcons (qk_ret dX12_room_32 (Or.inr (Or.inl ⟨rfl, rfl⟩))) ?_
  exact qnil
theorem M_X12_room {X : qX} {l : Launch} : qMet X l 3 yX12_room cX12_room 2 (some .int) S_X12_room := qmet_of K_X12_room (by decide) rfl rfl
theorem dX12_factOf_0 : decode cX12_factOf 0 = .ok (.iload_n 1, 1) := by decide +kernel
theorem dX12_factOf_1 : decode cX12_factOf 1 = .ok (.tableswitch 68 0 4 #[35, 37, 44, 51, 58], 35) := by decide +kernel
theorem dX12_factOf_36 : decode cX12_factOf 36 = .ok (.iload_n 2, 1) := by decide +kernel
theorem dX12_factOf_37 : decode cX12_factOf 37 = .ok (.ireturn, 1) := by decide +kernel
theorem dX12_factOf_38 : decode cX12_factOf 38 = .ok (.aload_n 0, 1) := by decide +kernel
theorem dX12_factOf_39 : decode cX12_factOf 39 = .ok (.getfield 23, 3) := by decide +kernel
theorem dX12_factOf_42 : decode cX12_factOf 42 = .ok (.iload_n 2, 1) := by decide +kernel
theorem dX12_factOf_43 : decode cX12_factOf 43 = .ok (.iaload, 1) := by decide +kernel
theorem dX12_factOf_44 : decode cX12_factOf 44 = .ok (.ireturn, 1) := by decide +kernel
theorem dX12_factOf_45 : decode cX12_factOf 45 = .ok (.aload_n 0, 1) := by decide +kernel
theorem dX12_factOf_46 : decode cX12_factOf 46 = .ok (.getfield 26, 3) := by decide +kernel
theorem dX12_factOf_49 : decode cX12_factOf 49 = .ok (.iload_n 2, 1) := by decide +kernel
theorem dX12_factOf_50 : decode cX12_factOf 50 = .ok (.iaload, 1) := by decide +kernel
theorem dX12_factOf_51 : decode cX12_factOf 51 = .ok (.ireturn, 1) := by decide +kernel
theorem dX12_factOf_52 : decode cX12_factOf 52 = .ok (.aload_n 0, 1) := by decide +kernel
theorem dX12_factOf_53 : decode cX12_factOf 53 = .ok (.getfield 29, 3) := by decide +kernel
theorem dX12_factOf_56 : decode cX12_factOf 56 = .ok (.iload_n 2, 1) := by decide +kernel
theorem dX12_factOf_57 : decode cX12_factOf 57 = .ok (.iaload, 1) := by decide +kernel
theorem dX12_factOf_58 : decode cX12_factOf 58 = .ok (.ireturn, 1) := by decide +kernel
theorem dX12_factOf_59 : decode cX12_factOf 59 = .ok (.aload_n 0, 1) := by decide +kernel
theorem dX12_factOf_60 : decode cX12_factOf 60 = .ok (.getfield 32, 3) := by decide +kernel
theorem dX12_factOf_63 : decode cX12_factOf 63 = .ok (.iload_n 2, 1) := by decide +kernel
theorem dX12_factOf_64 : decode cX12_factOf 64 = .ok (.iaload, 1) := by decide +kernel
theorem dX12_factOf_65 : decode cX12_factOf 65 = .ok (.bipush 10, 2) := by decide +kernel
theorem dX12_factOf_67 : decode cX12_factOf 67 = .ok (.idiv, 1) := by decide +kernel
theorem dX12_factOf_68 : decode cX12_factOf 68 = .ok (.ireturn, 1) := by decide +kernel
theorem dX12_factOf_69 : decode cX12_factOf 69 = .ok (.aload_n 0, 1) := by decide +kernel
theorem dX12_factOf_70 : decode cX12_factOf 70 = .ok (.getfield 13, 3) := by decide +kernel
theorem dX12_factOf_73 : decode cX12_factOf 73 = .ok (.bipush 10, 2) := by decide +kernel
theorem dX12_factOf_75 : decode cX12_factOf 75 = .ok (.irem, 1) := by decide +kernel
theorem dX12_factOf_76 : decode cX12_factOf 76 = .ok (.ireturn, 1) := by decide +kernel
noncomputable def C_X12_factOf : List (Nat × qOp) := [(0, qo_iload 1 1),
  (1, qo_tsw 0 [36, 38, 45, 52, 59] 69),
  (36, qo_iload 2 1),
  (37, qo_ret (some .int) 1),
  (38, qo_aload 0 1),
  (39, qo_getR 12 4),
  (42, qo_iload 2 1),
  (43, qo_iaload),
  (44, qo_ret (some .int) 1),
  (45, qo_aload 0 1),
  (46, qo_getR 12 5),
  (49, qo_iload 2 1),
  (50, qo_iaload),
  (51, qo_ret (some .int) 1),
  (52, qo_aload 0 1),
  (53, qo_getR 12 6),
  (56, qo_iload 2 1),
  (57, qo_iaload),
  (58, qo_ret (some .int) 1),
  (59, qo_aload 0 1),
  (60, qo_getR 12 7),
  (63, qo_iload 2 1),
  (64, qo_iaload),
  (65, qo_ci 10 2),
  (67, qo_idiv),
  (68, qo_ret (some .int) 1),
  (69, qo_aload 0 1),
  (70, qo_getI 12 1),
  (73, qo_ci 10 2),
  (75, qo_irem),
  (76, qo_ret (some .int) 1)]
noncomputable def S_X12_factOf : qSem := qM 3 C_X12_factOf
set_option maxRecDepth 20000 in
theorem K_X12_factOf {X : qX} {l : Launch} : ∀ q ∈ C_X12_factOf, qOk X l 1 cX12_factOf 3 RX12 "factOf" (some .int) q.1 q.2 := by
  unfold C_X12_factOf
  refine qcons (qk_iload_n dX12_factOf_0 rfl) ?_
  refine qcons (qk_tsw dX12_factOf_1 (by decide) (by decide) (by decide)) ?_
  refine qcons (qk_iload_n dX12_factOf_36 rfl) ?_
  refine qcons (qk_ret dX12_factOf_37 (Or.inr (Or.inl ⟨rfl, rfl⟩))) ?_
  refine qcons (qk_aload_n dX12_factOf_38 rfl) ?_
  refine qcons (qk_getR fd_X12_23 kd_12_4 dX12_factOf_39) ?_
  refine qcons (qk_iload_n dX12_factOf_42 rfl) ?_
  refine qcons (qk_iaload dX12_factOf_43) ?_
  refine qcons (qk_ret dX12_factOf_44 (Or.inr (Or.inl ⟨rfl, rfl⟩))) ?_
  refine qcons (qk_aload_n dX12_factOf_45 rfl) ?_
  refine qcons (qk_getR fd_X12_26 kd_12_5 dX12_factOf_46) ?_
  refine qcons (qk_iload_n dX12_factOf_49 rfl) ?_
  refine qcons (qk_iaload dX12_factOf_50) ?_
  refine qcons (qk_ret dX12_factOf_51 (Or.inr (Or.inl ⟨rfl, rfl⟩))) ?_
  refine qcons (qk_aload_n dX12_factOf_52 rfl) ?_
  refine qcons (qk_getR fd_X12_29 kd_12_6 dX12_factOf_53) ?_
  refine qcons (qk_iload_n dX12_factOf_56 rfl) ?_
  refine qcons (qk_iaload dX12_factOf_57) ?_
  refine qcons (qk_ret dX12_factOf_58 (Or.inr (Or.inl ⟨rfl, rfl⟩))) ?_
  refine qcons (qk_aload_n dX12_factOf_59 rfl) ?_
  refine qcons (qk_getR fd_X12_32 kd_12_7 dX12_factOf_60) ?_
  refine qcons (qk_iload_n dX12_factOf_63 rfl) ?_
  refine qcons (qk_iaload dX12_factOf_64) ?_
  refine qcons (qk_bipush dX12_factOf_65 (by decide) (by decide)) ?_
  refine qcons (qk_idiv dX12_factOf_67) ?_
  refine qcons (qk_ret dX12_factOf_68 (Or.inr (Or.inl ⟨rfl, rfl⟩))) ?_
  refine qcons (qk_aload_n dX12_factOf_69 rfl) ?_
  refine qcons (qk_getI fd_X12_13 kd_12_1 dX12_factOf_70) ?_
  refine qcons (qk_bipush dX12_factOf_73 (by decide) (by decide)) ?_
  refine qcons (qk_irem dX12_factOf_75) ?_
  refine qcons (qk_ret dX12_factOf_76 (Or.inr (Or.inl ⟨rfl, rfl⟩))) ?_
  exact qnil
theorem M_X12_factOf {X : qX} {l : Launch} : qMet X l 1 yX12_factOf cX12_factOf 3 (some .int) S_X12_factOf := qmet_of K_X12_factOf (by decide) rfl rfl
theorem dX12_holds_0 : decode cX12_holds 0 = .ok (.iconst 0, 1) := by decide +kernel
theorem dX12_holds_1 : decode cX12_holds 1 = .ok (.istore_n 3, 1) := by decide +kernel
theorem dX12_holds_2 : decode cX12_holds 2 = .ok (.aload_n 0, 1) := by decide +kernel
theorem dX12_holds_3 : decode cX12_holds 3 = .ok (.getfield 68, 3) := by decide +kernel
theorem dX12_holds_6 : decode cX12_holds 6 = .ok (.iload_n 1, 1) := by decide +kernel
theorem dX12_holds_7 : decode cX12_holds 7 = .ok (.iaload, 1) := by decide +kernel
theorem dX12_holds_8 : decode cX12_holds 8 = .ok (.istore 4, 2) := by decide +kernel
theorem dX12_holds_10 : decode cX12_holds 10 = .ok (.iload 4, 2) := by decide +kernel
theorem dX12_holds_12 : decode cX12_holds 12 = .ok (.aload_n 0, 1) := by decide +kernel
theorem dX12_holds_13 : decode cX12_holds 13 = .ok (.getfield 71, 3) := by decide +kernel
theorem dX12_holds_16 : decode cX12_holds 16 = .ok (.iload_n 1, 1) := by decide +kernel
theorem dX12_holds_17 : decode cX12_holds 17 = .ok (.iaload, 1) := by decide +kernel
theorem dX12_holds_18 : decode cX12_holds 18 = .ok (.if_icmp .ge 225, 3) := by decide +kernel
theorem dX12_holds_21 : decode cX12_holds 21 = .ok (.aload_n 0, 1) := by decide +kernel
theorem dX12_holds_22 : decode cX12_holds 22 = .ok (.getfield 74, 3) := by decide +kernel
theorem dX12_holds_25 : decode cX12_holds 25 = .ok (.iload 4, 2) := by decide +kernel
theorem dX12_holds_27 : decode cX12_holds 27 = .ok (.iaload, 1) := by decide +kernel
theorem dX12_holds_28 : decode cX12_holds 28 = .ok (.istore 5, 2) := by decide +kernel
theorem dX12_holds_30 : decode cX12_holds 30 = .ok (.iload 5, 2) := by decide +kernel
theorem dX12_holds_32 : decode cX12_holds 32 = .ok (.bipush (-33), 2) := by decide +kernel
theorem dX12_holds_34 : decode cX12_holds 34 = .ok (.if_icmp .ne 30, 3) := by decide +kernel
theorem dX12_holds_37 : decode cX12_holds 37 = .ok (.aload_n 0, 1) := by decide +kernel
theorem dX12_holds_38 : decode cX12_holds 38 = .ok (.getfield 95, 3) := by decide +kernel
theorem dX12_holds_41 : decode cX12_holds 41 = .ok (.iload_n 3, 1) := by decide +kernel
theorem dX12_holds_42 : decode cX12_holds 42 = .ok (.iconst 1, 1) := by decide +kernel
theorem dX12_holds_43 : decode cX12_holds 43 = .ok (.isub, 1) := by decide +kernel
theorem dX12_holds_44 : decode cX12_holds 44 = .ok (.aload_n 0, 1) := by decide +kernel
theorem dX12_holds_45 : decode cX12_holds 45 = .ok (.getfield 95, 3) := by decide +kernel
theorem dX12_holds_48 : decode cX12_holds 48 = .ok (.iload_n 3, 1) := by decide +kernel
theorem dX12_holds_49 : decode cX12_holds 49 = .ok (.iconst 1, 1) := by decide +kernel
theorem dX12_holds_50 : decode cX12_holds 50 = .ok (.isub, 1) := by decide +kernel
theorem dX12_holds_51 : decode cX12_holds 51 = .ok (.baload, 1) := by decide +kernel
theorem dX12_holds_52 : decode cX12_holds 52 = .ok (.ifCond .ne 7, 3) := by decide +kernel
theorem dX12_holds_55 : decode cX12_holds 55 = .ok (.iconst 1, 1) := by decide +kernel
theorem dX12_holds_56 : decode cX12_holds 56 = .ok (.goto 4, 3) := by decide +kernel
theorem dX12_holds_59 : decode cX12_holds 59 = .ok (.iconst 0, 1) := by decide +kernel
theorem dX12_holds_60 : decode cX12_holds 60 = .ok (.bastore, 1) := by decide +kernel
theorem dX12_holds_61 : decode cX12_holds 61 = .ok (.goto 176, 3) := by decide +kernel
theorem dX12_holds_64 : decode cX12_holds 64 = .ok (.iload 5, 2) := by decide +kernel
theorem dX12_holds_66 : decode cX12_holds 66 = .ok (.ifCond .ge 77, 3) := by decide +kernel
theorem dX12_holds_69 : decode cX12_holds 69 = .ok (.iinc 3 (-1), 3) := by decide +kernel
theorem dX12_holds_72 : decode cX12_holds 72 = .ok (.aload_n 0, 1) := by decide +kernel
theorem dX12_holds_73 : decode cX12_holds 73 = .ok (.getfield 95, 3) := by decide +kernel
theorem dX12_holds_76 : decode cX12_holds 76 = .ok (.iload_n 3, 1) := by decide +kernel
theorem dX12_holds_77 : decode cX12_holds 77 = .ok (.iconst 1, 1) := by decide +kernel
theorem dX12_holds_78 : decode cX12_holds 78 = .ok (.isub, 1) := by decide +kernel
theorem dX12_holds_79 : decode cX12_holds 79 = .ok (.iload 5, 2) := by decide +kernel
theorem dX12_holds_81 : decode cX12_holds 81 = .ok (.bipush (-38), 2) := by decide +kernel
theorem dX12_holds_83 : decode cX12_holds 83 = .ok (.if_icmp .ne 31, 3) := by decide +kernel
theorem dX12_holds_86 : decode cX12_holds 86 = .ok (.aload_n 0, 1) := by decide +kernel
theorem dX12_holds_87 : decode cX12_holds 87 = .ok (.getfield 95, 3) := by decide +kernel
theorem dX12_holds_90 : decode cX12_holds 90 = .ok (.iload_n 3, 1) := by decide +kernel
theorem dX12_holds_91 : decode cX12_holds 91 = .ok (.iconst 1, 1) := by decide +kernel
theorem dX12_holds_92 : decode cX12_holds 92 = .ok (.isub, 1) := by decide +kernel
theorem dX12_holds_93 : decode cX12_holds 93 = .ok (.baload, 1) := by decide +kernel
theorem dX12_holds_94 : decode cX12_holds 94 = .ok (.ifCond .eq 16, 3) := by decide +kernel
theorem dX12_holds_97 : decode cX12_holds 97 = .ok (.aload_n 0, 1) := by decide +kernel
theorem dX12_holds_98 : decode cX12_holds 98 = .ok (.getfield 95, 3) := by decide +kernel
theorem dX12_holds_101 : decode cX12_holds 101 = .ok (.iload_n 3, 1) := by decide +kernel
theorem dX12_holds_102 : decode cX12_holds 102 = .ok (.baload, 1) := by decide +kernel
theorem dX12_holds_103 : decode cX12_holds 103 = .ok (.ifCond .eq 7, 3) := by decide +kernel
theorem dX12_holds_106 : decode cX12_holds 106 = .ok (.iconst 1, 1) := by decide +kernel
theorem dX12_holds_107 : decode cX12_holds 107 = .ok (.goto 32, 3) := by decide +kernel
theorem dX12_holds_110 : decode cX12_holds 110 = .ok (.iconst 0, 1) := by decide +kernel
theorem dX12_holds_111 : decode cX12_holds 111 = .ok (.goto 28, 3) := by decide +kernel
theorem dX12_holds_114 : decode cX12_holds 114 = .ok (.aload_n 0, 1) := by decide +kernel
theorem dX12_holds_115 : decode cX12_holds 115 = .ok (.getfield 95, 3) := by decide +kernel
theorem dX12_holds_118 : decode cX12_holds 118 = .ok (.iload_n 3, 1) := by decide +kernel
theorem dX12_holds_119 : decode cX12_holds 119 = .ok (.iconst 1, 1) := by decide +kernel
theorem dX12_holds_120 : decode cX12_holds 120 = .ok (.isub, 1) := by decide +kernel
theorem dX12_holds_121 : decode cX12_holds 121 = .ok (.baload, 1) := by decide +kernel
theorem dX12_holds_122 : decode cX12_holds 122 = .ok (.ifCond .ne 12, 3) := by decide +kernel
theorem dX12_holds_125 : decode cX12_holds 125 = .ok (.aload_n 0, 1) := by decide +kernel
theorem dX12_holds_126 : decode cX12_holds 126 = .ok (.getfield 95, 3) := by decide +kernel
theorem dX12_holds_129 : decode cX12_holds 129 = .ok (.iload_n 3, 1) := by decide +kernel
theorem dX12_holds_130 : decode cX12_holds 130 = .ok (.baload, 1) := by decide +kernel
theorem dX12_holds_131 : decode cX12_holds 131 = .ok (.ifCond .eq 7, 3) := by decide +kernel
theorem dX12_holds_134 : decode cX12_holds 134 = .ok (.iconst 1, 1) := by decide +kernel
theorem dX12_holds_135 : decode cX12_holds 135 = .ok (.goto 4, 3) := by decide +kernel
theorem dX12_holds_138 : decode cX12_holds 138 = .ok (.iconst 0, 1) := by decide +kernel
theorem dX12_holds_139 : decode cX12_holds 139 = .ok (.bastore, 1) := by decide +kernel
theorem dX12_holds_140 : decode cX12_holds 140 = .ok (.goto 97, 3) := by decide +kernel
theorem dX12_holds_143 : decode cX12_holds 143 = .ok (.aload_n 0, 1) := by decide +kernel
theorem dX12_holds_144 : decode cX12_holds 144 = .ok (.iload 5, 2) := by decide +kernel
theorem dX12_holds_146 : decode cX12_holds 146 = .ok (.sipush 1000, 3) := by decide +kernel
theorem dX12_holds_149 : decode cX12_holds 149 = .ok (.idiv, 1) := by decide +kernel
theorem dX12_holds_150 : decode cX12_holds 150 = .ok (.iload_n 2, 1) := by decide +kernel
theorem dX12_holds_151 : decode cX12_holds 151 = .ok (.invokevirtual 321, 3) := by decide +kernel
theorem dX12_holds_154 : decode cX12_holds 154 = .ok (.istore 6, 2) := by decide +kernel
theorem dX12_holds_156 : decode cX12_holds 156 = .ok (.iload 5, 2) := by decide +kernel
theorem dX12_holds_158 : decode cX12_holds 158 = .ok (.bipush 100, 2) := by decide +kernel
theorem dX12_holds_160 : decode cX12_holds 160 = .ok (.idiv, 1) := by decide +kernel
theorem dX12_holds_161 : decode cX12_holds 161 = .ok (.bipush 10, 2) := by decide +kernel
theorem dX12_holds_163 : decode cX12_holds 163 = .ok (.irem, 1) := by decide +kernel
theorem dX12_holds_164 : decode cX12_holds 164 = .ok (.istore 7, 2) := by decide +kernel
theorem dX12_holds_166 : decode cX12_holds 166 = .ok (.aload_n 0, 1) := by decide +kernel
theorem dX12_holds_167 : decode cX12_holds 167 = .ok (.getfield 95, 3) := by decide +kernel
theorem dX12_holds_170 : decode cX12_holds 170 = .ok (.iload_n 3, 1) := by decide +kernel
theorem dX12_holds_171 : decode cX12_holds 171 = .ok (.iload 7, 2) := by decide +kernel
theorem dX12_holds_173 : decode cX12_holds 173 = .ok (.ifCond .ne 21, 3) := by decide +kernel
theorem dX12_holds_176 : decode cX12_holds 176 = .ok (.iload 6, 2) := by decide +kernel
theorem dX12_holds_178 : decode cX12_holds 178 = .ok (.iload 5, 2) := by decide +kernel
theorem dX12_holds_180 : decode cX12_holds 180 = .ok (.bipush 100, 2) := by decide +kernel
theorem dX12_holds_182 : decode cX12_holds 182 = .ok (.irem, 1) := by decide +kernel
theorem dX12_holds_183 : decode cX12_holds 183 = .ok (.if_icmp .ge 7, 3) := by decide +kernel
theorem dX12_holds_186 : decode cX12_holds 186 = .ok (.iconst 1, 1) := by decide +kernel
theorem dX12_holds_187 : decode cX12_holds 187 = .ok (.goto 46, 3) := by decide +kernel
theorem dX12_holds_190 : decode cX12_holds 190 = .ok (.iconst 0, 1) := by decide +kernel
theorem dX12_holds_191 : decode cX12_holds 191 = .ok (.goto 42, 3) := by decide +kernel
theorem dX12_holds_194 : decode cX12_holds 194 = .ok (.iload 7, 2) := by decide +kernel
theorem dX12_holds_196 : decode cX12_holds 196 = .ok (.iconst 1, 1) := by decide +kernel
theorem dX12_holds_197 : decode cX12_holds 197 = .ok (.if_icmp .ne 21, 3) := by decide +kernel
theorem dX12_holds_200 : decode cX12_holds 200 = .ok (.iload 6, 2) := by decide +kernel
theorem dX12_holds_202 : decode cX12_holds 202 = .ok (.iload 5, 2) := by decide +kernel
theorem dX12_holds_204 : decode cX12_holds 204 = .ok (.bipush 100, 2) := by decide +kernel
theorem dX12_holds_206 : decode cX12_holds 206 = .ok (.irem, 1) := by decide +kernel
theorem dX12_holds_207 : decode cX12_holds 207 = .ok (.if_icmp .ne 7, 3) := by decide +kernel
theorem dX12_holds_210 : decode cX12_holds 210 = .ok (.iconst 1, 1) := by decide +kernel
theorem dX12_holds_211 : decode cX12_holds 211 = .ok (.goto 22, 3) := by decide +kernel
theorem dX12_holds_214 : decode cX12_holds 214 = .ok (.iconst 0, 1) := by decide +kernel
theorem dX12_holds_215 : decode cX12_holds 215 = .ok (.goto 18, 3) := by decide +kernel
theorem dX12_holds_218 : decode cX12_holds 218 = .ok (.iload 6, 2) := by decide +kernel
theorem dX12_holds_220 : decode cX12_holds 220 = .ok (.iload 5, 2) := by decide +kernel
theorem dX12_holds_222 : decode cX12_holds 222 = .ok (.bipush 100, 2) := by decide +kernel
theorem dX12_holds_224 : decode cX12_holds 224 = .ok (.irem, 1) := by decide +kernel
theorem dX12_holds_225 : decode cX12_holds 225 = .ok (.if_icmp .le 7, 3) := by decide +kernel
theorem dX12_holds_228 : decode cX12_holds 228 = .ok (.iconst 1, 1) := by decide +kernel
theorem dX12_holds_229 : decode cX12_holds 229 = .ok (.goto 4, 3) := by decide +kernel
theorem dX12_holds_232 : decode cX12_holds 232 = .ok (.iconst 0, 1) := by decide +kernel
theorem dX12_holds_233 : decode cX12_holds 233 = .ok (.bastore, 1) := by decide +kernel
theorem dX12_holds_234 : decode cX12_holds 234 = .ok (.iinc 3 1, 3) := by decide +kernel
theorem dX12_holds_237 : decode cX12_holds 237 = .ok (.iinc 4 1, 3) := by decide +kernel
theorem dX12_holds_240 : decode cX12_holds 240 = .ok (.goto (-230), 3) := by decide +kernel
theorem dX12_holds_243 : decode cX12_holds 243 = .ok (.aload_n 0, 1) := by decide +kernel
theorem dX12_holds_244 : decode cX12_holds 244 = .ok (.getfield 95, 3) := by decide +kernel
theorem dX12_holds_247 : decode cX12_holds 247 = .ok (.iconst 0, 1) := by decide +kernel
theorem dX12_holds_248 : decode cX12_holds 248 = .ok (.baload, 1) := by decide +kernel
theorem dX12_holds_249 : decode cX12_holds 249 = .ok (.ireturn, 1) := by decide +kernel
noncomputable def C_X12_holds : List (Nat × qOp) := [(0, qo_ci 0 1),
  (1, qo_istore 3 1),
  (2, qo_aload 0 1),
  (3, qo_getR 12 19),
  (6, qo_iload 1 1),
  (7, qo_iaload),
  (8, qo_istore 4 2),
  (10, qo_iload 4 2),
  (12, qo_aload 0 1),
  (13, qo_getR 12 20),
  (16, qo_iload 1 1),
  (17, qo_iaload),
  (18, qo_icge 243),
  (21, qo_aload 0 1),
  (22, qo_getR 12 21),
  (25, qo_iload 4 2),
  (27, qo_iaload),
  (28, qo_istore 5 2),
  (30, qo_iload 5 2),
  (32, qo_ci (-33) 2),
  (34, qo_icne 64),
  (37, qo_aload 0 1),
  (38, qo_getR 12 28),
  (41, qo_iload 3 1),
  (42, qo_ci 1 1),
  (43, qo_isub),
  (44, qo_aload 0 1),
  (45, qo_getR 12 28),
  (48, qo_iload 3 1),
  (49, qo_ci 1 1),
  (50, qo_isub),
  (51, qo_zaload),
  (52, qo_ifne 59),
  (55, qo_ci 1 1),
  (56, qo_goto 60),
  (59, qo_ci 0 1),
  (60, qo_zastore),
  (61, qo_goto 237),
  (64, qo_iload 5 2),
  (66, qo_ifge 143),
  (69, qo_iinc 3 (-1)),
  (72, qo_aload 0 1),
  (73, qo_getR 12 28),
  (76, qo_iload 3 1),
  (77, qo_ci 1 1),
  (78, qo_isub),
  (79, qo_iload 5 2),
  (81, qo_ci (-38) 2),
  (83, qo_icne 114),
  (86, qo_aload 0 1),
  (87, qo_getR 12 28),
  (90, qo_iload 3 1),
  (91, qo_ci 1 1),
  (92, qo_isub),
  (93, qo_zaload),
  (94, qo_ifeq 110),
  (97, qo_aload 0 1),
  (98, qo_getR 12 28),
  (101, qo_iload 3 1),
  (102, qo_zaload),
  (103, qo_ifeq 110),
  (106, qo_ci 1 1),
  (107, qo_goto 139),
  (110, qo_ci 0 1),
  (111, qo_goto 139),
  (114, qo_aload 0 1),
  (115, qo_getR 12 28),
  (118, qo_iload 3 1),
  (119, qo_ci 1 1),
  (120, qo_isub),
  (121, qo_zaload),
  (122, qo_ifne 134),
  (125, qo_aload 0 1),
  (126, qo_getR 12 28),
  (129, qo_iload 3 1),
  (130, qo_zaload),
  (131, qo_ifeq 138),
  (134, qo_ci 1 1),
  (135, qo_goto 139),
  (138, qo_ci 0 1),
  (139, qo_zastore),
  (140, qo_goto 237),
  (143, qo_aload 0 1),
  (144, qo_iload 5 2),
  (146, qo_ci 1000 3),
  (149, qo_idiv),
  (150, qo_iload 2 1),
  (151, qo_callv [(12, S_X12_factOf)] 2),
  (154, qo_istore 6 2),
  (156, qo_iload 5 2),
  (158, qo_ci 100 2),
  (160, qo_idiv),
  (161, qo_ci 10 2),
  (163, qo_irem),
  (164, qo_istore 7 2),
  (166, qo_aload 0 1),
  (167, qo_getR 12 28),
  (170, qo_iload 3 1),
  (171, qo_iload 7 2),
  (173, qo_ifne 194),
  (176, qo_iload 6 2),
  (178, qo_iload 5 2),
  (180, qo_ci 100 2),
  (182, qo_irem),
  (183, qo_icge 190),
  (186, qo_ci 1 1),
  (187, qo_goto 233),
  (190, qo_ci 0 1),
  (191, qo_goto 233),
  (194, qo_iload 7 2),
  (196, qo_ci 1 1),
  (197, qo_icne 218),
  (200, qo_iload 6 2),
  (202, qo_iload 5 2),
  (204, qo_ci 100 2),
  (206, qo_irem),
  (207, qo_icne 214),
  (210, qo_ci 1 1),
  (211, qo_goto 233),
  (214, qo_ci 0 1),
  (215, qo_goto 233),
  (218, qo_iload 6 2),
  (220, qo_iload 5 2),
  (222, qo_ci 100 2),
  (224, qo_irem),
  (225, qo_icle 232),
  (228, qo_ci 1 1),
  (229, qo_goto 233),
  (232, qo_ci 0 1),
  (233, qo_zastore),
  (234, qo_iinc 3 1),
  (237, qo_iinc 4 1),
  (240, qo_goto 10),
  (243, qo_aload 0 1),
  (244, qo_getR 12 28),
  (247, qo_ci 0 1),
  (248, qo_zaload),
  (249, qo_ret (some .boolean) 1)]
noncomputable def S_X12_holds : qSem := qM 8 C_X12_holds
set_option maxRecDepth 20000 in
theorem K_X12_holds {X : qX} {l : Launch} : ∀ q ∈ C_X12_holds, qOk X l 2 cX12_holds 8 RX12 "holds" (some .boolean) q.1 q.2 := by
  unfold C_X12_holds
  refine qcons (qk_iconst dX12_holds_0 (by decide)) ?_
  refine qcons (qk_istore_n dX12_holds_1 rfl) ?_
  refine qcons (qk_aload_n dX12_holds_2 rfl) ?_
  refine qcons (qk_getR fd_X12_68 kd_12_19 dX12_holds_3) ?_
  refine qcons (qk_iload_n dX12_holds_6 rfl) ?_
  refine qcons (qk_iaload dX12_holds_7) ?_
  refine qcons (qk_istore dX12_holds_8) ?_
  refine qcons (qk_iload dX12_holds_10) ?_
  refine qcons (qk_aload_n dX12_holds_12 rfl) ?_
  refine qcons (qk_getR fd_X12_71 kd_12_20 dX12_holds_13) ?_
  refine qcons (qk_iload_n dX12_holds_16 rfl) ?_
  refine qcons (qk_iaload dX12_holds_17) ?_
  refine qcons (qk_icge dX12_holds_18 (by decide)) ?_
  refine qcons (qk_aload_n dX12_holds_21 rfl) ?_
  refine qcons (qk_getR fd_X12_74 kd_12_21 dX12_holds_22) ?_
  refine qcons (qk_iload dX12_holds_25) ?_
  refine qcons (qk_iaload dX12_holds_27) ?_
  refine qcons (qk_istore dX12_holds_28) ?_
  refine qcons (qk_iload dX12_holds_30) ?_
  refine qcons (qk_bipush dX12_holds_32 (by decide) (by decide)) ?_
  refine qcons (qk_icne dX12_holds_34 (by decide)) ?_
  refine qcons (qk_aload_n dX12_holds_37 rfl) ?_
  refine qcons (qk_getR fd_X12_95 kd_12_28 dX12_holds_38) ?_
  refine qcons (qk_iload_n dX12_holds_41 rfl) ?_
  refine qcons (qk_iconst dX12_holds_42 (by decide)) ?_
  refine qcons (qk_isub dX12_holds_43) ?_
  refine qcons (qk_aload_n dX12_holds_44 rfl) ?_
  refine qcons (qk_getR fd_X12_95 kd_12_28 dX12_holds_45) ?_
  refine qcons (qk_iload_n dX12_holds_48 rfl) ?_
  refine qcons (qk_iconst dX12_holds_49 (by decide)) ?_
  refine qcons (qk_isub dX12_holds_50) ?_
  refine qcons (qk_zaload dX12_holds_51) ?_
  refine qcons (qk_ifne dX12_holds_52 (by decide)) ?_
  refine qcons (qk_iconst dX12_holds_55 (by decide)) ?_
  refine qcons (qk_goto dX12_holds_56 (by decide)) ?_
  refine qcons (qk_iconst dX12_holds_59 (by decide)) ?_
  refine qcons (qk_zastore dX12_holds_60) ?_
  refine qcons (qk_goto dX12_holds_61 (by decide)) ?_
  refine qcons (qk_iload dX12_holds_64) ?_
  refine qcons (qk_ifge dX12_holds_66 (by decide)) ?_
  refine qcons (qk_iinc dX12_holds_69) ?_
  refine qcons (qk_aload_n dX12_holds_72 rfl) ?_
  refine qcons (qk_getR fd_X12_95 kd_12_28 dX12_holds_73) ?_
  refine qcons (qk_iload_n dX12_holds_76 rfl) ?_
  refine qcons (qk_iconst dX12_holds_77 (by decide)) ?_
  refine qcons (qk_isub dX12_holds_78) ?_
  refine qcons (qk_iload dX12_holds_79) ?_
  refine qcons (qk_bipush dX12_holds_81 (by decide) (by decide)) ?_
  refine qcons (qk_icne dX12_holds_83 (by decide)) ?_
  refine qcons (qk_aload_n dX12_holds_86 rfl) ?_
  refine qcons (qk_getR fd_X12_95 kd_12_28 dX12_holds_87) ?_
  refine qcons (qk_iload_n dX12_holds_90 rfl) ?_
  refine qcons (qk_iconst dX12_holds_91 (by decide)) ?_
  refine qcons (qk_isub dX12_holds_92) ?_
  refine qcons (qk_zaload dX12_holds_93) ?_
  refine qcons (qk_ifeq dX12_holds_94 (by decide)) ?_
  refine qcons (qk_aload_n dX12_holds_97 rfl) ?_
  refine qcons (qk_getR fd_X12_95 kd_12_28 dX12_holds_98) ?_
  refine qcons (qk_iload_n dX12_holds_101 rfl) ?_
  refine qcons (qk_zaload dX12_holds_102) ?_
  refine qcons (qk_ifeq dX12_holds_103 (by decide)) ?_
  refine qcons (qk_iconst dX12_holds_106 (by decide)) ?_
  refine qcons (qk_goto dX12_holds_107 (by decide)) ?_
  refine qcons (qk_iconst dX12_holds_110 (by decide)) ?_
  refine qcons (qk_goto dX12_holds_111 (by decide)) ?_
  refine qcons (qk_aload_n dX12_holds_114 rfl) ?_
  refine qcons (qk_getR fd_X12_95 kd_12_28 dX12_holds_115) ?_
  refine qcons (qk_iload_n dX12_holds_118 rfl) ?_
  refine qcons (qk_iconst dX12_holds_119 (by decide)) ?_
  refine qcons (qk_isub dX12_holds_120) ?_
  refine qcons (qk_zaload dX12_holds_121) ?_
  refine qcons (qk_ifne dX12_holds_122 (by decide)) ?_
  refine qcons (qk_aload_n dX12_holds_125 rfl) ?_
  refine qcons (qk_getR fd_X12_95 kd_12_28 dX12_holds_126) ?_
  refine qcons (qk_iload_n dX12_holds_129 rfl) ?_
  refine qcons (qk_zaload dX12_holds_130) ?_
  refine qcons (qk_ifeq dX12_holds_131 (by decide)) ?_
  refine qcons (qk_iconst dX12_holds_134 (by decide)) ?_
  refine qcons (qk_goto dX12_holds_135 (by decide)) ?_
  refine qcons (qk_iconst dX12_holds_138 (by decide)) ?_
  refine qcons (qk_zastore dX12_holds_139) ?_
  refine qcons (qk_goto dX12_holds_140 (by decide)) ?_
  refine qcons (qk_aload_n dX12_holds_143 rfl) ?_
  refine qcons (qk_iload dX12_holds_144) ?_
  refine qcons (qk_sipush dX12_holds_146 (by decide) (by decide)) ?_
  refine qcons (qk_idiv dX12_holds_149) ?_
  refine qcons (qk_iload_n dX12_holds_150 rfl) ?_
  refine qcons (qk_callv (ins := fun i => .invokevirtual i) (qconsV (qrunV M_X12_factOf (by decide) (by decide) (by decide) rfl tw_1210 tw_1212 tw_45 tw_1213 tw_90 ⟨by decide, by decide⟩ (by decide +kernel)) qnilV) dX12_holds_151) ?_
  refine qcons (qk_istore dX12_holds_154) ?_
  refine qcons (qk_iload dX12_holds_156) ?_
  refine qcons (qk_bipush dX12_holds_158 (by decide) (by decide)) ?_
  refine qcons (qk_idiv dX12_holds_160) ?_
  refine qcons (qk_bipush dX12_holds_161 (by decide) (by decide)) ?_
  refine qcons (qk_irem dX12_holds_163) ?_
  refine qcons (qk_istore dX12_holds_164) ?_
  refine qcons (qk_aload_n dX12_holds_166 rfl) ?_
  refine qcons (qk_getR fd_X12_95 kd_12_28 dX12_holds_167) ?_
  refine qcons (qk_iload_n dX12_holds_170 rfl) ?_
  refine qcons (qk_iload dX12_holds_171) ?_
  refine qcons (qk_ifne dX12_holds_173 (by decide)) ?_
  refine qcons (qk_iload dX12_holds_176) ?_
  refine qcons (qk_iload dX12_holds_178) ?_
  refine qcons (qk_bipush dX12_holds_180 (by decide) (by decide)) ?_
  refine qcons (qk_irem dX12_holds_182) ?_
  refine qcons (qk_icge dX12_holds_183 (by decide)) ?_
  refine qcons (qk_iconst dX12_holds_186 (by decide)) ?_
  refine qcons (qk_goto dX12_holds_187 (by decide)) ?_
  refine qcons (qk_iconst dX12_holds_190 (by decide)) ?_
  refine qcons (qk_goto dX12_holds_191 (by decide)) ?_
  refine qcons (qk_iload dX12_holds_194) ?_
  refine qcons (qk_iconst dX12_holds_196 (by decide)) ?_
  refine qcons (qk_icne dX12_holds_197 (by decide)) ?_
  refine qcons (qk_iload dX12_holds_200) ?_
  refine qcons (qk_iload dX12_holds_202) ?_
  refine qcons (qk_bipush dX12_holds_204 (by decide) (by decide)) ?_
  refine qcons (qk_irem dX12_holds_206) ?_
  refine qcons (qk_icne dX12_holds_207 (by decide)) ?_
  refine qcons (qk_iconst dX12_holds_210 (by decide)) ?_
  refine qcons (qk_goto dX12_holds_211 (by decide)) ?_
  refine qcons (qk_iconst dX12_holds_214 (by decide)) ?_
  refine qcons (qk_goto dX12_holds_215 (by decide)) ?_
  refine qcons (qk_iload dX12_holds_218) ?_
  refine qcons (qk_iload dX12_holds_220) ?_
  refine qcons (qk_bipush dX12_holds_222 (by decide) (by decide)) ?_
  refine qcons (qk_irem dX12_holds_224) ?_
  refine qcons (qk_icle dX12_holds_225 (by decide)) ?_
  refine qcons (qk_iconst dX12_holds_228 (by decide)) ?_
  refine qcons (qk_goto dX12_holds_229 (by decide)) ?_
  refine qcons (qk_iconst dX12_holds_232 (by decide)) ?_
  refine qcons (qk_zastore dX12_holds_233) ?_
  refine qcons (qk_iinc dX12_holds_234) ?_
  refine qcons (qk_iinc dX12_holds_237) ?_
  refine qcons (qk_goto dX12_holds_240 (by decide)) ?_
  refine qcons (qk_aload_n dX12_holds_243 rfl) ?_
  refine qcons (qk_getR fd_X12_95 kd_12_28 dX12_holds_244) ?_
  refine qcons (qk_iconst dX12_holds_247 (by decide)) ?_
  refine qcons (qk_zaload dX12_holds_248) ?_
  refine qcons (qk_ret dX12_holds_249 (Or.inr (Or.inl ⟨rfl, rfl⟩))) ?_
  exact qnil
theorem M_X12_holds {X : qX} {l : Launch} : qMet X l 2 yX12_holds cX12_holds 8 (some .boolean) S_X12_holds := qmet_of K_X12_holds (by decide) rfl rfl
theorem dX12_zeal_0 : decode cX12_zeal 0 = .ok (.iconst 3, 1) := by decide +kernel
theorem dX12_zeal_1 : decode cX12_zeal 1 = .ok (.istore_n 2, 1) := by decide +kernel
theorem dX12_zeal_2 : decode cX12_zeal 2 = .ok (.aload_n 0, 1) := by decide +kernel
theorem dX12_zeal_3 : decode cX12_zeal 3 = .ok (.invokevirtual 311, 3) := by decide +kernel
theorem dX12_zeal_6 : decode cX12_zeal 6 = .ok (.istore_n 3, 1) := by decide +kernel
theorem dX12_zeal_7 : decode cX12_zeal 7 = .ok (.iload_n 3, 1) := by decide +kernel
theorem dX12_zeal_8 : decode cX12_zeal 8 = .ok (.aload_n 0, 1) := by decide +kernel
theorem dX12_zeal_9 : decode cX12_zeal 9 = .ok (.invokevirtual 314, 3) := by decide +kernel
theorem dX12_zeal_12 : decode cX12_zeal 12 = .ok (.if_icmp .ge 59, 3) := by decide +kernel
theorem dX12_zeal_15 : decode cX12_zeal 15 = .ok (.aload_n 0, 1) := by decide +kernel
theorem dX12_zeal_16 : decode cX12_zeal 16 = .ok (.getfield 62, 3) := by decide +kernel
theorem dX12_zeal_19 : decode cX12_zeal 19 = .ok (.iload_n 3, 1) := by decide +kernel
theorem dX12_zeal_20 : decode cX12_zeal 20 = .ok (.iaload, 1) := by decide +kernel
theorem dX12_zeal_21 : decode cX12_zeal 21 = .ok (.iconst 1, 1) := by decide +kernel
theorem dX12_zeal_22 : decode cX12_zeal 22 = .ok (.if_icmp .gt 43, 3) := by decide +kernel
theorem dX12_zeal_25 : decode cX12_zeal 25 = .ok (.aload_n 0, 1) := by decide +kernel
theorem dX12_zeal_26 : decode cX12_zeal 26 = .ok (.iload_n 3, 1) := by decide +kernel
theorem dX12_zeal_27 : decode cX12_zeal 27 = .ok (.iload_n 1, 1) := by decide +kernel
theorem dX12_zeal_28 : decode cX12_zeal 28 = .ok (.invokevirtual 324, 3) := by decide +kernel
theorem dX12_zeal_31 : decode cX12_zeal 31 = .ok (.ifCond .ne 6, 3) := by decide +kernel
theorem dX12_zeal_34 : decode cX12_zeal 34 = .ok (.goto 31, 3) := by decide +kernel
theorem dX12_zeal_37 : decode cX12_zeal 37 = .ok (.iload_n 2, 1) := by decide +kernel
theorem dX12_zeal_38 : decode cX12_zeal 38 = .ok (.aload_n 0, 1) := by decide +kernel
theorem dX12_zeal_39 : decode cX12_zeal 39 = .ok (.getfield 62, 3) := by decide +kernel
theorem dX12_zeal_42 : decode cX12_zeal 42 = .ok (.iload_n 3, 1) := by decide +kernel
theorem dX12_zeal_43 : decode cX12_zeal 43 = .ok (.iaload, 1) := by decide +kernel
theorem dX12_zeal_44 : decode cX12_zeal 44 = .ok (.ifCond .ne 12, 3) := by decide +kernel
theorem dX12_zeal_47 : decode cX12_zeal 47 = .ok (.aload_n 0, 1) := by decide +kernel
theorem dX12_zeal_48 : decode cX12_zeal 48 = .ok (.getfield 65, 3) := by decide +kernel
theorem dX12_zeal_51 : decode cX12_zeal 51 = .ok (.iload_n 3, 1) := by decide +kernel
theorem dX12_zeal_52 : decode cX12_zeal 52 = .ok (.iaload, 1) := by decide +kernel
theorem dX12_zeal_53 : decode cX12_zeal 53 = .ok (.goto 10, 3) := by decide +kernel
theorem dX12_zeal_56 : decode cX12_zeal 56 = .ok (.aload_n 0, 1) := by decide +kernel
theorem dX12_zeal_57 : decode cX12_zeal 57 = .ok (.getfield 65, 3) := by decide +kernel
theorem dX12_zeal_60 : decode cX12_zeal 60 = .ok (.iload_n 3, 1) := by decide +kernel
theorem dX12_zeal_61 : decode cX12_zeal 61 = .ok (.iaload, 1) := by decide +kernel
theorem dX12_zeal_62 : decode cX12_zeal 62 = .ok (.ineg, 1) := by decide +kernel
theorem dX12_zeal_63 : decode cX12_zeal 63 = .ok (.iadd, 1) := by decide +kernel
theorem dX12_zeal_64 : decode cX12_zeal 64 = .ok (.istore_n 2, 1) := by decide +kernel
theorem dX12_zeal_65 : decode cX12_zeal 65 = .ok (.iinc 3 1, 3) := by decide +kernel
theorem dX12_zeal_68 : decode cX12_zeal 68 = .ok (.goto (-61), 3) := by decide +kernel
theorem dX12_zeal_71 : decode cX12_zeal 71 = .ok (.iload_n 2, 1) := by decide +kernel
theorem dX12_zeal_72 : decode cX12_zeal 72 = .ok (.ireturn, 1) := by decide +kernel
noncomputable def C_X12_zeal : List (Nat × qOp) := [(0, qo_ci 3 1),
  (1, qo_istore 2 1),
  (2, qo_aload 0 1),
  (3, qo_callv [(12, S_X12_begin)] 0),
  (6, qo_istore 3 1),
  (7, qo_iload 3 1),
  (8, qo_aload 0 1),
  (9, qo_callv [(12, S_X12_behind)] 0),
  (12, qo_icge 71),
  (15, qo_aload 0 1),
  (16, qo_getR 12 17),
  (19, qo_iload 3 1),
  (20, qo_iaload),
  (21, qo_ci 1 1),
  (22, qo_icgt 65),
  (25, qo_aload 0 1),
  (26, qo_iload 3 1),
  (27, qo_iload 1 1),
  (28, qo_callv [(12, S_X12_holds)] 2),
  (31, qo_ifne 37),
  (34, qo_goto 65),
  (37, qo_iload 2 1),
  (38, qo_aload 0 1),
  (39, qo_getR 12 17),
  (42, qo_iload 3 1),
  (43, qo_iaload),
  (44, qo_ifne 56),
  (47, qo_aload 0 1),
  (48, qo_getR 12 18),
  (51, qo_iload 3 1),
  (52, qo_iaload),
  (53, qo_goto 63),
  (56, qo_aload 0 1),
  (57, qo_getR 12 18),
  (60, qo_iload 3 1),
  (61, qo_iaload),
  (62, qo_ineg),
  (63, qo_iadd),
  (64, qo_istore 2 1),
  (65, qo_iinc 3 1),
  (68, qo_goto 7),
  (71, qo_iload 2 1),
  (72, qo_ret (some .int) 1)]
noncomputable def S_X12_zeal : qSem := qM 4 C_X12_zeal
set_option maxRecDepth 20000 in
theorem K_X12_zeal {X : qX} {l : Launch} : ∀ q ∈ C_X12_zeal, qOk X l 3 cX12_zeal 4 RX12 "zeal" (some .int) q.1 q.2 := by
  unfold C_X12_zeal
  refine qcons (qk_iconst dX12_zeal_0 (by decide)) ?_
  refine qcons (qk_istore_n dX12_zeal_1 rfl) ?_
  refine qcons (qk_aload_n dX12_zeal_2 rfl) ?_
  refine qcons (qk_callv (ins := fun i => .invokevirtual i) (qconsV (qrunV M_X12_begin (by decide) (by decide) (by decide) rfl tw_1198 tw_1200 tw_42 tw_1201 tw_90 ⟨by decide, by decide⟩ (by decide +kernel)) qnilV) dX12_zeal_3) ?_
  refine qcons (qk_istore_n dX12_zeal_6 rfl) ?_
  refine qcons (qk_iload_n dX12_zeal_7 rfl) ?_
  refine qcons (qk_aload_n dX12_zeal_8 rfl) ?_
  refine qcons (qk_callv (ins := fun i => .invokevirtual i) (qconsV (qrunV M_X12_behind (by decide) (by decide) (by decide) rfl tw_1202 tw_1204 tw_43 tw_1205 tw_90 ⟨by decide, by decide⟩ (by decide +kernel)) qnilV) dX12_zeal_9) ?_
  refine qcons (qk_icge dX12_zeal_12 (by decide)) ?_
  refine qcons (qk_aload_n dX12_zeal_15 rfl) ?_
  refine qcons (qk_getR fd_X12_62 kd_12_17 dX12_zeal_16) ?_
  refine qcons (qk_iload_n dX12_zeal_19 rfl) ?_
  refine qcons (qk_iaload dX12_zeal_20) ?_
  refine qcons (qk_iconst dX12_zeal_21 (by decide)) ?_
  refine qcons (qk_icgt dX12_zeal_22 (by decide)) ?_
  refine qcons (qk_aload_n dX12_zeal_25 rfl) ?_
  refine qcons (qk_iload_n dX12_zeal_26 rfl) ?_
  refine qcons (qk_iload_n dX12_zeal_27 rfl) ?_
  refine qcons (qk_callv (ins := fun i => .invokevirtual i) (qconsV (qrunV M_X12_holds (by decide) (by decide) (by decide) rfl tw_1206 tw_1208 tw_44 tw_1209 tw_90 ⟨by decide, by decide⟩ (by decide +kernel)) qnilV) dX12_zeal_28) ?_
  refine qcons (qk_ifne dX12_zeal_31 (by decide)) ?_
  refine qcons (qk_goto dX12_zeal_34 (by decide)) ?_
  refine qcons (qk_iload_n dX12_zeal_37 rfl) ?_
  refine qcons (qk_aload_n dX12_zeal_38 rfl) ?_
  refine qcons (qk_getR fd_X12_62 kd_12_17 dX12_zeal_39) ?_
  refine qcons (qk_iload_n dX12_zeal_42 rfl) ?_
  refine qcons (qk_iaload dX12_zeal_43) ?_
  refine qcons (qk_ifne dX12_zeal_44 (by decide)) ?_
  refine qcons (qk_aload_n dX12_zeal_47 rfl) ?_
  refine qcons (qk_getR fd_X12_65 kd_12_18 dX12_zeal_48) ?_
  refine qcons (qk_iload_n dX12_zeal_51 rfl) ?_
  refine qcons (qk_iaload dX12_zeal_52) ?_
  refine qcons (qk_goto dX12_zeal_53 (by decide)) ?_
  refine qcons (qk_aload_n dX12_zeal_56 rfl) ?_
  refine qcons (qk_getR fd_X12_65 kd_12_18 dX12_zeal_57) ?_
  refine qcons (qk_iload_n dX12_zeal_60 rfl) ?_
  refine qcons (qk_iaload dX12_zeal_61) ?_
  refine qcons (qk_ineg dX12_zeal_62) ?_
  refine qcons (qk_iadd dX12_zeal_63) ?_
  refine qcons (qk_istore_n dX12_zeal_64 rfl) ?_
  refine qcons (qk_iinc dX12_zeal_65) ?_
  refine qcons (qk_goto dX12_zeal_68 (by decide)) ?_
  refine qcons (qk_iload_n dX12_zeal_71 rfl) ?_
  refine qcons (qk_ret dX12_zeal_72 (Or.inr (Or.inl ⟨rfl, rfl⟩))) ?_
  exact qnil
theorem M_X12_zeal {X : qX} {l : Launch} : qMet X l 3 yX12_zeal cX12_zeal 4 (some .int) S_X12_zeal := qmet_of K_X12_zeal (by decide) rfl rfl
theorem dX12_alike_0 : decode cX12_alike 0 = .ok (.iconst 0, 1) := by decide +kernel
theorem dX12_alike_1 : decode cX12_alike 1 = .ok (.istore_n 2, 1) := by decide +kernel
theorem dX12_alike_2 : decode cX12_alike 2 = .ok (.iconst 0, 1) := by decide +kernel
theorem dX12_alike_3 : decode cX12_alike 3 = .ok (.istore_n 3, 1) := by decide +kernel
theorem dX12_alike_4 : decode cX12_alike 4 = .ok (.iload_n 3, 1) := by decide +kernel
theorem dX12_alike_5 : decode cX12_alike 5 = .ok (.aload_n 0, 1) := by decide +kernel
theorem dX12_alike_6 : decode cX12_alike 6 = .ok (.getfield 7, 3) := by decide +kernel
theorem dX12_alike_9 : decode cX12_alike 9 = .ok (.if_icmp .ge 49, 3) := by decide +kernel
theorem dX12_alike_12 : decode cX12_alike 12 = .ok (.iload_n 2, 1) := by decide +kernel
theorem dX12_alike_13 : decode cX12_alike 13 = .ok (.iload_n 3, 1) := by decide +kernel
theorem dX12_alike_14 : decode cX12_alike 14 = .ok (.iload_n 1, 1) := by decide +kernel
theorem dX12_alike_15 : decode cX12_alike 15 = .ok (.if_icmp .eq 34, 3) := by decide +kernel
theorem dX12_alike_18 : decode cX12_alike 18 = .ok (.aload_n 0, 1) := by decide +kernel
theorem dX12_alike_19 : decode cX12_alike 19 = .ok (.aload_n 0, 1) := by decide +kernel
theorem dX12_alike_20 : decode cX12_alike 20 = .ok (.getfield 16, 3) := by decide +kernel
theorem dX12_alike_23 : decode cX12_alike 23 = .ok (.iload_n 3, 1) := by decide +kernel
theorem dX12_alike_24 : decode cX12_alike 24 = .ok (.invokevirtual 251, 3) := by decide +kernel
theorem dX12_alike_27 : decode cX12_alike 27 = .ok (.ifCond .ne 22, 3) := by decide +kernel
theorem dX12_alike_30 : decode cX12_alike 30 = .ok (.aload_n 0, 1) := by decide +kernel
theorem dX12_alike_31 : decode cX12_alike 31 = .ok (.getfield 29, 3) := by decide +kernel
theorem dX12_alike_34 : decode cX12_alike 34 = .ok (.iload_n 3, 1) := by decide +kernel
theorem dX12_alike_35 : decode cX12_alike 35 = .ok (.iaload, 1) := by decide +kernel
theorem dX12_alike_36 : decode cX12_alike 36 = .ok (.aload_n 0, 1) := by decide +kernel
theorem dX12_alike_37 : decode cX12_alike 37 = .ok (.getfield 29, 3) := by decide +kernel
theorem dX12_alike_40 : decode cX12_alike 40 = .ok (.iload_n 1, 1) := by decide +kernel
theorem dX12_alike_41 : decode cX12_alike 41 = .ok (.iaload, 1) := by decide +kernel
theorem dX12_alike_42 : decode cX12_alike 42 = .ok (.if_icmp .ne 7, 3) := by decide +kernel
theorem dX12_alike_45 : decode cX12_alike 45 = .ok (.iconst 1, 1) := by decide +kernel
theorem dX12_alike_46 : decode cX12_alike 46 = .ok (.goto 4, 3) := by decide +kernel
theorem dX12_alike_49 : decode cX12_alike 49 = .ok (.iconst 0, 1) := by decide +kernel
theorem dX12_alike_50 : decode cX12_alike 50 = .ok (.iadd, 1) := by decide +kernel
theorem dX12_alike_51 : decode cX12_alike 51 = .ok (.istore_n 2, 1) := by decide +kernel
theorem dX12_alike_52 : decode cX12_alike 52 = .ok (.iinc 3 1, 3) := by decide +kernel
theorem dX12_alike_55 : decode cX12_alike 55 = .ok (.goto (-51), 3) := by decide +kernel
theorem dX12_alike_58 : decode cX12_alike 58 = .ok (.iload_n 2, 1) := by decide +kernel
theorem dX12_alike_59 : decode cX12_alike 59 = .ok (.ireturn, 1) := by decide +kernel
noncomputable def C_X12_alike : List (Nat × qOp) := [(0, qo_ci 0 1),
  (1, qo_istore 2 1),
  (2, qo_ci 0 1),
  (3, qo_istore 3 1),
  (4, qo_iload 3 1),
  (5, qo_aload 0 1),
  (6, qo_getI 12 0),
  (9, qo_icge 58),
  (12, qo_iload 2 1),
  (13, qo_iload 3 1),
  (14, qo_iload 1 1),
  (15, qo_iceq 49),
  (18, qo_aload 0 1),
  (19, qo_aload 0 1),
  (20, qo_getI 12 2),
  (23, qo_iload 3 1),
  (24, qo_callv [(12, S_X12_has)] 2),
  (27, qo_ifne 49),
  (30, qo_aload 0 1),
  (31, qo_getR 12 6),
  (34, qo_iload 3 1),
  (35, qo_iaload),
  (36, qo_aload 0 1),
  (37, qo_getR 12 6),
  (40, qo_iload 1 1),
  (41, qo_iaload),
  (42, qo_icne 49),
  (45, qo_ci 1 1),
  (46, qo_goto 50),
  (49, qo_ci 0 1),
  (50, qo_iadd),
  (51, qo_istore 2 1),
  (52, qo_iinc 3 1),
  (55, qo_goto 4),
  (58, qo_iload 2 1),
  (59, qo_ret (some .int) 1)]
noncomputable def S_X12_alike : qSem := qM 4 C_X12_alike
set_option maxRecDepth 20000 in
theorem K_X12_alike {X : qX} {l : Launch} : ∀ q ∈ C_X12_alike, qOk X l 2 cX12_alike 4 RX12 "alike" (some .int) q.1 q.2 := by
  unfold C_X12_alike
  refine qcons (qk_iconst dX12_alike_0 (by decide)) ?_
  refine qcons (qk_istore_n dX12_alike_1 rfl) ?_
  refine qcons (qk_iconst dX12_alike_2 (by decide)) ?_
  refine qcons (qk_istore_n dX12_alike_3 rfl) ?_
  refine qcons (qk_iload_n dX12_alike_4 rfl) ?_
  refine qcons (qk_aload_n dX12_alike_5 rfl) ?_
  refine qcons (qk_getI fd_X12_7 kd_12_0 dX12_alike_6) ?_
  refine qcons (qk_icge dX12_alike_9 (by decide)) ?_
  refine qcons (qk_iload_n dX12_alike_12 rfl) ?_
  refine qcons (qk_iload_n dX12_alike_13 rfl) ?_
  refine qcons (qk_iload_n dX12_alike_14 rfl) ?_
  refine qcons (qk_iceq dX12_alike_15 (by decide)) ?_
  refine qcons (qk_aload_n dX12_alike_18 rfl) ?_
  refine qcons (qk_aload_n dX12_alike_19 rfl) ?_
  refine qcons (qk_getI fd_X12_16 kd_12_2 dX12_alike_20) ?_
  refine qcons (qk_iload_n dX12_alike_23 rfl) ?_
  refine qcons (qk_callv (ins := fun i => .invokevirtual i) (qconsV (qrunV M_X12_has (by decide) (by decide) (by decide) rfl tw_1102 tw_1104 tw_23 tw_1105 tw_90 ⟨by decide, by decide⟩ (by decide +kernel)) qnilV) dX12_alike_24) ?_
  refine qcons (qk_ifne dX12_alike_27 (by decide)) ?_
  refine qcons (qk_aload_n dX12_alike_30 rfl) ?_
  refine qcons (qk_getR fd_X12_29 kd_12_6 dX12_alike_31) ?_
  refine qcons (qk_iload_n dX12_alike_34 rfl) ?_
  refine qcons (qk_iaload dX12_alike_35) ?_
  refine qcons (qk_aload_n dX12_alike_36 rfl) ?_
  refine qcons (qk_getR fd_X12_29 kd_12_6 dX12_alike_37) ?_
  refine qcons (qk_iload_n dX12_alike_40 rfl) ?_
  refine qcons (qk_iaload dX12_alike_41) ?_
  refine qcons (qk_icne dX12_alike_42 (by decide)) ?_
  refine qcons (qk_iconst dX12_alike_45 (by decide)) ?_
  refine qcons (qk_goto dX12_alike_46 (by decide)) ?_
  refine qcons (qk_iconst dX12_alike_49 (by decide)) ?_
  refine qcons (qk_iadd dX12_alike_50) ?_
  refine qcons (qk_istore_n dX12_alike_51 rfl) ?_
  refine qcons (qk_iinc dX12_alike_52) ?_
  refine qcons (qk_goto dX12_alike_55 (by decide)) ?_
  refine qcons (qk_iload_n dX12_alike_58 rfl) ?_
  refine qcons (qk_ret dX12_alike_59 (Or.inr (Or.inl ⟨rfl, rfl⟩))) ?_
  exact qnil
theorem M_X12_alike {X : qX} {l : Launch} : qMet X l 2 yX12_alike cX12_alike 4 (some .int) S_X12_alike := qmet_of K_X12_alike (by decide) rfl rfl
theorem dX12_plainPace_0 : decode cX12_plainPace 0 = .ok (.aload_n 0, 1) := by decide +kernel
theorem dX12_plainPace_1 : decode cX12_plainPace 1 = .ok (.iload_n 1, 1) := by decide +kernel
theorem dX12_plainPace_2 : decode cX12_plainPace 2 = .ok (.invokevirtual 327, 3) := by decide +kernel
theorem dX12_plainPace_5 : decode cX12_plainPace 5 = .ok (.istore_n 2, 1) := by decide +kernel
theorem dX12_plainPace_6 : decode cX12_plainPace 6 = .ok (.aload_n 0, 1) := by decide +kernel
theorem dX12_plainPace_7 : decode cX12_plainPace 7 = .ok (.getfield 29, 3) := by decide +kernel
theorem dX12_plainPace_10 : decode cX12_plainPace 10 = .ok (.iload_n 1, 1) := by decide +kernel
theorem dX12_plainPace_11 : decode cX12_plainPace 11 = .ok (.iaload, 1) := by decide +kernel
theorem dX12_plainPace_12 : decode cX12_plainPace 12 = .ok (.iconst 2, 1) := by decide +kernel
theorem dX12_plainPace_13 : decode cX12_plainPace 13 = .ok (.if_icmp .ne 17, 3) := by decide +kernel
theorem dX12_plainPace_16 : decode cX12_plainPace 16 = .ok (.iload_n 2, 1) := by decide +kernel
theorem dX12_plainPace_17 : decode cX12_plainPace 17 = .ok (.aload_n 0, 1) := by decide +kernel
theorem dX12_plainPace_18 : decode cX12_plainPace 18 = .ok (.getfield 32, 3) := by decide +kernel
theorem dX12_plainPace_21 : decode cX12_plainPace 21 = .ok (.iload_n 1, 1) := by decide +kernel
theorem dX12_plainPace_22 : decode cX12_plainPace 22 = .ok (.iaload, 1) := by decide +kernel
theorem dX12_plainPace_23 : decode cX12_plainPace 23 = .ok (.bipush 20, 2) := by decide +kernel
theorem dX12_plainPace_25 : decode cX12_plainPace 25 = .ok (.idiv, 1) := by decide +kernel
theorem dX12_plainPace_26 : decode cX12_plainPace 26 = .ok (.isub, 1) := by decide +kernel
theorem dX12_plainPace_27 : decode cX12_plainPace 27 = .ok (.goto 4, 3) := by decide +kernel
theorem dX12_plainPace_30 : decode cX12_plainPace 30 = .ok (.iload_n 2, 1) := by decide +kernel
theorem dX12_plainPace_31 : decode cX12_plainPace 31 = .ok (.istore_n 3, 1) := by decide +kernel
theorem dX12_plainPace_32 : decode cX12_plainPace 32 = .ok (.aload_n 0, 1) := by decide +kernel
theorem dX12_plainPace_33 : decode cX12_plainPace 33 = .ok (.getfield 23, 3) := by decide +kernel
theorem dX12_plainPace_36 : decode cX12_plainPace 36 = .ok (.iload_n 1, 1) := by decide +kernel
theorem dX12_plainPace_37 : decode cX12_plainPace 37 = .ok (.iaload, 1) := by decide +kernel
theorem dX12_plainPace_38 : decode cX12_plainPace 38 = .ok (.tableswitch 124 1 6 #[38, 49, 51, 59, 86, 100], 38) := by decide +kernel
theorem dX12_plainPace_76 : decode cX12_plainPace 76 = .ok (.iload_n 2, 1) := by decide +kernel
theorem dX12_plainPace_77 : decode cX12_plainPace 77 = .ok (.aload_n 0, 1) := by decide +kernel
theorem dX12_plainPace_78 : decode cX12_plainPace 78 = .ok (.getfield 26, 3) := by decide +kernel
theorem dX12_plainPace_81 : decode cX12_plainPace 81 = .ok (.iload_n 1, 1) := by decide +kernel
theorem dX12_plainPace_82 : decode cX12_plainPace 82 = .ok (.iaload, 1) := by decide +kernel
theorem dX12_plainPace_83 : decode cX12_plainPace 83 = .ok (.iconst 2, 1) := by decide +kernel
theorem dX12_plainPace_84 : decode cX12_plainPace 84 = .ok (.idiv, 1) := by decide +kernel
theorem dX12_plainPace_85 : decode cX12_plainPace 85 = .ok (.iadd, 1) := by decide +kernel
theorem dX12_plainPace_86 : decode cX12_plainPace 86 = .ok (.ireturn, 1) := by decide +kernel
theorem dX12_plainPace_87 : decode cX12_plainPace 87 = .ok (.iload_n 3, 1) := by decide +kernel
theorem dX12_plainPace_88 : decode cX12_plainPace 88 = .ok (.ireturn, 1) := by decide +kernel
theorem dX12_plainPace_89 : decode cX12_plainPace 89 = .ok (.iload_n 2, 1) := by decide +kernel
theorem dX12_plainPace_90 : decode cX12_plainPace 90 = .ok (.aload_n 0, 1) := by decide +kernel
theorem dX12_plainPace_91 : decode cX12_plainPace 91 = .ok (.iload_n 1, 1) := by decide +kernel
theorem dX12_plainPace_92 : decode cX12_plainPace 92 = .ok (.invokevirtual 330, 3) := by decide +kernel
theorem dX12_plainPace_95 : decode cX12_plainPace 95 = .ok (.isub, 1) := by decide +kernel
theorem dX12_plainPace_96 : decode cX12_plainPace 96 = .ok (.ireturn, 1) := by decide +kernel
theorem dX12_plainPace_97 : decode cX12_plainPace 97 = .ok (.iload_n 2, 1) := by decide +kernel
theorem dX12_plainPace_98 : decode cX12_plainPace 98 = .ok (.aload_n 0, 1) := by decide +kernel
theorem dX12_plainPace_99 : decode cX12_plainPace 99 = .ok (.getfield 26, 3) := by decide +kernel
theorem dX12_plainPace_102 : decode cX12_plainPace 102 = .ok (.iload_n 1, 1) := by decide +kernel
theorem dX12_plainPace_103 : decode cX12_plainPace 103 = .ok (.iaload, 1) := by decide +kernel
theorem dX12_plainPace_104 : decode cX12_plainPace 104 = .ok (.iconst 2, 1) := by decide +kernel
theorem dX12_plainPace_105 : decode cX12_plainPace 105 = .ok (.idiv, 1) := by decide +kernel
theorem dX12_plainPace_106 : decode cX12_plainPace 106 = .ok (.iadd, 1) := by decide +kernel
theorem dX12_plainPace_107 : decode cX12_plainPace 107 = .ok (.aload_n 0, 1) := by decide +kernel
theorem dX12_plainPace_108 : decode cX12_plainPace 108 = .ok (.getfield 29, 3) := by decide +kernel
theorem dX12_plainPace_111 : decode cX12_plainPace 111 = .ok (.iload_n 1, 1) := by decide +kernel
theorem dX12_plainPace_112 : decode cX12_plainPace 112 = .ok (.iaload, 1) := by decide +kernel
theorem dX12_plainPace_113 : decode cX12_plainPace 113 = .ok (.iconst 2, 1) := by decide +kernel
theorem dX12_plainPace_114 : decode cX12_plainPace 114 = .ok (.if_icmp .ne 7, 3) := by decide +kernel
theorem dX12_plainPace_117 : decode cX12_plainPace 117 = .ok (.iconst 2, 1) := by decide +kernel
theorem dX12_plainPace_118 : decode cX12_plainPace 118 = .ok (.goto 4, 3) := by decide +kernel
theorem dX12_plainPace_121 : decode cX12_plainPace 121 = .ok (.iconst 0, 1) := by decide +kernel
theorem dX12_plainPace_122 : decode cX12_plainPace 122 = .ok (.iadd, 1) := by decide +kernel
theorem dX12_plainPace_123 : decode cX12_plainPace 123 = .ok (.ireturn, 1) := by decide +kernel
theorem dX12_plainPace_124 : decode cX12_plainPace 124 = .ok (.aload_n 0, 1) := by decide +kernel
theorem dX12_plainPace_125 : decode cX12_plainPace 125 = .ok (.iload_n 3, 1) := by decide +kernel
theorem dX12_plainPace_126 : decode cX12_plainPace 126 = .ok (.aload_n 0, 1) := by decide +kernel
theorem dX12_plainPace_127 : decode cX12_plainPace 127 = .ok (.getfield 26, 3) := by decide +kernel
theorem dX12_plainPace_130 : decode cX12_plainPace 130 = .ok (.iload_n 1, 1) := by decide +kernel
theorem dX12_plainPace_131 : decode cX12_plainPace 131 = .ok (.iaload, 1) := by decide +kernel
theorem dX12_plainPace_132 : decode cX12_plainPace 132 = .ok (.iconst 1, 1) := by decide +kernel
theorem dX12_plainPace_133 : decode cX12_plainPace 133 = .ok (.iadd, 1) := by decide +kernel
theorem dX12_plainPace_134 : decode cX12_plainPace 134 = .ok (.invokevirtual 333, 3) := by decide +kernel
theorem dX12_plainPace_137 : decode cX12_plainPace 137 = .ok (.ireturn, 1) := by decide +kernel
theorem dX12_plainPace_138 : decode cX12_plainPace 138 = .ok (.iload_n 2, 1) := by decide +kernel
theorem dX12_plainPace_139 : decode cX12_plainPace 139 = .ok (.aload_n 0, 1) := by decide +kernel
theorem dX12_plainPace_140 : decode cX12_plainPace 140 = .ok (.iload_n 1, 1) := by decide +kernel
theorem dX12_plainPace_141 : decode cX12_plainPace 141 = .ok (.invokevirtual 330, 3) := by decide +kernel
theorem dX12_plainPace_144 : decode cX12_plainPace 144 = .ok (.isub, 1) := by decide +kernel
theorem dX12_plainPace_145 : decode cX12_plainPace 145 = .ok (.aload_n 0, 1) := by decide +kernel
theorem dX12_plainPace_146 : decode cX12_plainPace 146 = .ok (.getfield 38, 3) := by decide +kernel
theorem dX12_plainPace_149 : decode cX12_plainPace 149 = .ok (.iconst 4, 1) := by decide +kernel
theorem dX12_plainPace_150 : decode cX12_plainPace 150 = .ok (.iload_n 1, 1) := by decide +kernel
theorem dX12_plainPace_151 : decode cX12_plainPace 151 = .ok (.imul, 1) := by decide +kernel
theorem dX12_plainPace_152 : decode cX12_plainPace 152 = .ok (.aload_n 0, 1) := by decide +kernel
theorem dX12_plainPace_153 : decode cX12_plainPace 153 = .ok (.getfield 13, 3) := by decide +kernel
theorem dX12_plainPace_156 : decode cX12_plainPace 156 = .ok (.iconst 4, 1) := by decide +kernel
theorem dX12_plainPace_157 : decode cX12_plainPace 157 = .ok (.irem, 1) := by decide +kernel
theorem dX12_plainPace_158 : decode cX12_plainPace 158 = .ok (.iadd, 1) := by decide +kernel
theorem dX12_plainPace_159 : decode cX12_plainPace 159 = .ok (.iaload, 1) := by decide +kernel
theorem dX12_plainPace_160 : decode cX12_plainPace 160 = .ok (.iadd, 1) := by decide +kernel
theorem dX12_plainPace_161 : decode cX12_plainPace 161 = .ok (.ireturn, 1) := by decide +kernel
theorem dX12_plainPace_162 : decode cX12_plainPace 162 = .ok (.iload_n 2, 1) := by decide +kernel
theorem dX12_plainPace_163 : decode cX12_plainPace 163 = .ok (.ireturn, 1) := by decide +kernel
noncomputable def C_X12_plainPace : List (Nat × qOp) := [(0, qo_aload 0 1),
  (1, qo_iload 1 1),
  (2, qo_callv [(12, S_X12_zeal)] 1),
  (5, qo_istore 2 1),
  (6, qo_aload 0 1),
  (7, qo_getR 12 6),
  (10, qo_iload 1 1),
  (11, qo_iaload),
  (12, qo_ci 2 1),
  (13, qo_icne 30),
  (16, qo_iload 2 1),
  (17, qo_aload 0 1),
  (18, qo_getR 12 7),
  (21, qo_iload 1 1),
  (22, qo_iaload),
  (23, qo_ci 20 2),
  (25, qo_idiv),
  (26, qo_isub),
  (27, qo_goto 31),
  (30, qo_iload 2 1),
  (31, qo_istore 3 1),
  (32, qo_aload 0 1),
  (33, qo_getR 12 4),
  (36, qo_iload 1 1),
  (37, qo_iaload),
  (38, qo_tsw 1 [76, 87, 89, 97, 124, 138] 162),
  (76, qo_iload 2 1),
  (77, qo_aload 0 1),
  (78, qo_getR 12 5),
  (81, qo_iload 1 1),
  (82, qo_iaload),
  (83, qo_ci 2 1),
  (84, qo_idiv),
  (85, qo_iadd),
  (86, qo_ret (some .int) 1),
  (87, qo_iload 3 1),
  (88, qo_ret (some .int) 1),
  (89, qo_iload 2 1),
  (90, qo_aload 0 1),
  (91, qo_iload 1 1),
  (92, qo_callv [(12, S_X12_alike)] 1),
  (95, qo_isub),
  (96, qo_ret (some .int) 1),
  (97, qo_iload 2 1),
  (98, qo_aload 0 1),
  (99, qo_getR 12 5),
  (102, qo_iload 1 1),
  (103, qo_iaload),
  (104, qo_ci 2 1),
  (105, qo_idiv),
  (106, qo_iadd),
  (107, qo_aload 0 1),
  (108, qo_getR 12 6),
  (111, qo_iload 1 1),
  (112, qo_iaload),
  (113, qo_ci 2 1),
  (114, qo_icne 121),
  (117, qo_ci 2 1),
  (118, qo_goto 122),
  (121, qo_ci 0 1),
  (122, qo_iadd),
  (123, qo_ret (some .int) 1),
  (124, qo_aload 0 1),
  (125, qo_iload 3 1),
  (126, qo_aload 0 1),
  (127, qo_getR 12 5),
  (130, qo_iload 1 1),
  (131, qo_iaload),
  (132, qo_ci 1 1),
  (133, qo_iadd),
  (134, qo_callv [(12, S_X12_least)] 2),
  (137, qo_ret (some .int) 1),
  (138, qo_iload 2 1),
  (139, qo_aload 0 1),
  (140, qo_iload 1 1),
  (141, qo_callv [(12, S_X12_alike)] 1),
  (144, qo_isub),
  (145, qo_aload 0 1),
  (146, qo_getR 12 9),
  (149, qo_ci 4 1),
  (150, qo_iload 1 1),
  (151, qo_imul),
  (152, qo_aload 0 1),
  (153, qo_getI 12 1),
  (156, qo_ci 4 1),
  (157, qo_irem),
  (158, qo_iadd),
  (159, qo_iaload),
  (160, qo_iadd),
  (161, qo_ret (some .int) 1),
  (162, qo_iload 2 1),
  (163, qo_ret (some .int) 1)]
noncomputable def S_X12_plainPace : qSem := qM 4 C_X12_plainPace
set_option maxRecDepth 20000 in
theorem K_X12_plainPace {X : qX} {l : Launch} : ∀ q ∈ C_X12_plainPace, qOk X l 4 cX12_plainPace 4 RX12 "plainPace" (some .int) q.1 q.2 := by
  unfold C_X12_plainPace
  refine qcons (qk_aload_n dX12_plainPace_0 rfl) ?_
  refine qcons (qk_iload_n dX12_plainPace_1 rfl) ?_
  refine qcons (qk_callv (ins := fun i => .invokevirtual i) (qconsV (qrunV M_X12_zeal (by decide) (by decide) (by decide) rfl tw_1194 tw_1196 tw_41 tw_1197 tw_90 ⟨by decide, by decide⟩ (by decide +kernel)) qnilV) dX12_plainPace_2) ?_
  refine qcons (qk_istore_n dX12_plainPace_5 rfl) ?_
  refine qcons (qk_aload_n dX12_plainPace_6 rfl) ?_
  refine qcons (qk_getR fd_X12_29 kd_12_6 dX12_plainPace_7) ?_
  refine qcons (qk_iload_n dX12_plainPace_10 rfl) ?_
  refine qcons (qk_iaload dX12_plainPace_11) ?_
  refine qcons (qk_iconst dX12_plainPace_12 (by decide)) ?_
  refine qcons (qk_icne dX12_plainPace_13 (by decide)) ?_
  refine qcons (qk_iload_n dX12_plainPace_16 rfl) ?_
  refine qcons (qk_aload_n dX12_plainPace_17 rfl) ?_
  refine qcons (qk_getR fd_X12_32 kd_12_7 dX12_plainPace_18) ?_
  refine qcons (qk_iload_n dX12_plainPace_21 rfl) ?_
  refine qcons (qk_iaload dX12_plainPace_22) ?_
  refine qcons (qk_bipush dX12_plainPace_23 (by decide) (by decide)) ?_
  refine qcons (qk_idiv dX12_plainPace_25) ?_
  refine qcons (qk_isub dX12_plainPace_26) ?_
  refine qcons (qk_goto dX12_plainPace_27 (by decide)) ?_
  refine qcons (qk_iload_n dX12_plainPace_30 rfl) ?_
  refine qcons (qk_istore_n dX12_plainPace_31 rfl) ?_
  refine qcons (qk_aload_n dX12_plainPace_32 rfl) ?_
  refine qcons (qk_getR fd_X12_23 kd_12_4 dX12_plainPace_33) ?_
  refine qcons (qk_iload_n dX12_plainPace_36 rfl) ?_
  refine qcons (qk_iaload dX12_plainPace_37) ?_
  refine qcons (qk_tsw dX12_plainPace_38 (by decide) (by decide) (by decide)) ?_
  refine qcons (qk_iload_n dX12_plainPace_76 rfl) ?_
  refine qcons (qk_aload_n dX12_plainPace_77 rfl) ?_
  refine qcons (qk_getR fd_X12_26 kd_12_5 dX12_plainPace_78) ?_
  refine qcons (qk_iload_n dX12_plainPace_81 rfl) ?_
  refine qcons (qk_iaload dX12_plainPace_82) ?_
  refine qcons (qk_iconst dX12_plainPace_83 (by decide)) ?_
  refine qcons (qk_idiv dX12_plainPace_84) ?_
  refine qcons (qk_iadd dX12_plainPace_85) ?_
  refine qcons (qk_ret dX12_plainPace_86 (Or.inr (Or.inl ⟨rfl, rfl⟩))) ?_
  refine qcons (qk_iload_n dX12_plainPace_87 rfl) ?_
  refine qcons (qk_ret dX12_plainPace_88 (Or.inr (Or.inl ⟨rfl, rfl⟩))) ?_
  refine qcons (qk_iload_n dX12_plainPace_89 rfl) ?_
  refine qcons (qk_aload_n dX12_plainPace_90 rfl) ?_
  refine qcons (qk_iload_n dX12_plainPace_91 rfl) ?_
  refine qcons (qk_callv (ins := fun i => .invokevirtual i) (qconsV (qrunV M_X12_alike (by decide) (by decide) (by decide) rfl tw_1222 tw_1224 tw_48 tw_1225 tw_90 ⟨by decide, by decide⟩ (by decide +kernel)) qnilV) dX12_plainPace_92) ?_
  refine qcons (qk_isub dX12_plainPace_95) ?_
  refine qcons (qk_ret dX12_plainPace_96 (Or.inr (Or.inl ⟨rfl, rfl⟩))) ?_
  refine qcons (qk_iload_n dX12_plainPace_97 rfl) ?_
  refine qcons (qk_aload_n dX12_plainPace_98 rfl) ?_
  refine qcons (qk_getR fd_X12_26 kd_12_5 dX12_plainPace_99) ?_
  refine qcons (qk_iload_n dX12_plainPace_102 rfl) ?_
  refine qcons (qk_iaload dX12_plainPace_103) ?_
  refine qcons (qk_iconst dX12_plainPace_104 (by decide)) ?_
  refine qcons (qk_idiv dX12_plainPace_105) ?_
  refine qcons (qk_iadd dX12_plainPace_106) ?_
  refine qcons (qk_aload_n dX12_plainPace_107 rfl) ?_
  refine qcons (qk_getR fd_X12_29 kd_12_6 dX12_plainPace_108) ?_
  refine qcons (qk_iload_n dX12_plainPace_111 rfl) ?_
  refine qcons (qk_iaload dX12_plainPace_112) ?_
  refine qcons (qk_iconst dX12_plainPace_113 (by decide)) ?_
  refine qcons (qk_icne dX12_plainPace_114 (by decide)) ?_
  refine qcons (qk_iconst dX12_plainPace_117 (by decide)) ?_
  refine qcons (qk_goto dX12_plainPace_118 (by decide)) ?_
  refine qcons (qk_iconst dX12_plainPace_121 (by decide)) ?_
  refine qcons (qk_iadd dX12_plainPace_122) ?_
  refine qcons (qk_ret dX12_plainPace_123 (Or.inr (Or.inl ⟨rfl, rfl⟩))) ?_
  refine qcons (qk_aload_n dX12_plainPace_124 rfl) ?_
  refine qcons (qk_iload_n dX12_plainPace_125 rfl) ?_
  refine qcons (qk_aload_n dX12_plainPace_126 rfl) ?_
  refine qcons (qk_getR fd_X12_26 kd_12_5 dX12_plainPace_127) ?_
  refine qcons (qk_iload_n dX12_plainPace_130 rfl) ?_
  refine qcons (qk_iaload dX12_plainPace_131) ?_
  refine qcons (qk_iconst dX12_plainPace_132 (by decide)) ?_
  refine qcons (qk_iadd dX12_plainPace_133) ?_
  refine qcons (qk_callv (ins := fun i => .invokevirtual i) (qconsV (qrunV M_X12_least (by decide) (by decide) (by decide) rfl tw_1226 tw_1228 tw_49 tw_1229 tw_90 ⟨by decide, by decide⟩ (by decide +kernel)) qnilV) dX12_plainPace_134) ?_
  refine qcons (qk_ret dX12_plainPace_137 (Or.inr (Or.inl ⟨rfl, rfl⟩))) ?_
  refine qcons (qk_iload_n dX12_plainPace_138 rfl) ?_
  refine qcons (qk_aload_n dX12_plainPace_139 rfl) ?_
  refine qcons (qk_iload_n dX12_plainPace_140 rfl) ?_
  refine qcons (qk_callv (ins := fun i => .invokevirtual i) (qconsV (qrunV M_X12_alike (by decide) (by decide) (by decide) rfl tw_1222 tw_1224 tw_48 tw_1225 tw_90 ⟨by decide, by decide⟩ (by decide +kernel)) qnilV) dX12_plainPace_141) ?_
  refine qcons (qk_isub dX12_plainPace_144) ?_
  refine qcons (qk_aload_n dX12_plainPace_145 rfl) ?_
  refine qcons (qk_getR fd_X12_38 kd_12_9 dX12_plainPace_146) ?_
  refine qcons (qk_iconst dX12_plainPace_149 (by decide)) ?_
  refine qcons (qk_iload_n dX12_plainPace_150 rfl) ?_
  refine qcons (qk_imul dX12_plainPace_151) ?_
  refine qcons (qk_aload_n dX12_plainPace_152 rfl) ?_
  refine qcons (qk_getI fd_X12_13 kd_12_1 dX12_plainPace_153) ?_
  refine qcons (qk_iconst dX12_plainPace_156 (by decide)) ?_
  refine qcons (qk_irem dX12_plainPace_157) ?_
  refine qcons (qk_iadd dX12_plainPace_158) ?_
  refine qcons (qk_iaload dX12_plainPace_159) ?_
  refine qcons (qk_iadd dX12_plainPace_160) ?_
  refine qcons (qk_ret dX12_plainPace_161 (Or.inr (Or.inl ⟨rfl, rfl⟩))) ?_
  refine qcons (qk_iload_n dX12_plainPace_162 rfl) ?_
  refine qcons (qk_ret dX12_plainPace_163 (Or.inr (Or.inl ⟨rfl, rfl⟩))) ?_
  exact qnil
theorem M_X12_plainPace {X : qX} {l : Launch} : qMet X l 4 yX12_plainPace cX12_plainPace 4 (some .int) S_X12_plainPace := qmet_of K_X12_plainPace (by decide) rfl rfl
theorem dX12_pace_0 : decode cX12_pace 0 = .ok (.aload_n 0, 1) := by decide +kernel
theorem dX12_pace_1 : decode cX12_pace 1 = .ok (.iload_n 1, 1) := by decide +kernel
theorem dX12_pace_2 : decode cX12_pace 2 = .ok (.invokevirtual 336, 3) := by decide +kernel
theorem dX12_pace_5 : decode cX12_pace 5 = .ok (.istore_n 2, 1) := by decide +kernel
theorem dX12_pace_6 : decode cX12_pace 6 = .ok (.iload_n 2, 1) := by decide +kernel
theorem dX12_pace_7 : decode cX12_pace 7 = .ok (.ifCond .ge 7, 3) := by decide +kernel
theorem dX12_pace_10 : decode cX12_pace 10 = .ok (.iconst 0, 1) := by decide +kernel
theorem dX12_pace_11 : decode cX12_pace 11 = .ok (.goto 4, 3) := by decide +kernel
theorem dX12_pace_14 : decode cX12_pace 14 = .ok (.iload_n 2, 1) := by decide +kernel
theorem dX12_pace_15 : decode cX12_pace 15 = .ok (.ireturn, 1) := by decide +kernel
noncomputable def C_X12_pace : List (Nat × qOp) := [(0, qo_aload 0 1),
  (1, qo_iload 1 1),
  (2, qo_callv [(12, S_X12_plainPace)] 1),
  (5, qo_istore 2 1),
  (6, qo_iload 2 1),
  (7, qo_ifge 14),
  (10, qo_ci 0 1),
  (11, qo_goto 15),
  (14, qo_iload 2 1),
  (15, qo_ret (some .int) 1)]
noncomputable def S_X12_pace : qSem := qM 3 C_X12_pace
set_option maxRecDepth 20000 in
theorem K_X12_pace {X : qX} {l : Launch} : ∀ q ∈ C_X12_pace, qOk X l 5 cX12_pace 3 RX12 "pace" (some .int) q.1 q.2 := by
  unfold C_X12_pace
  refine qcons (qk_aload_n dX12_pace_0 rfl) ?_
  refine qcons (qk_iload_n dX12_pace_1 rfl) ?_
  refine qcons (qk_callv (ins := fun i => .invokevirtual i) (qconsV (qrunV M_X12_plainPace (by decide) (by decide) (by decide) rfl tw_1218 tw_1220 tw_47 tw_1221 tw_90 ⟨by decide, by decide⟩ (by decide +kernel)) qnilV) dX12_pace_2) ?_
  refine qcons (qk_istore_n dX12_pace_5 rfl) ?_
  refine qcons (qk_iload_n dX12_pace_6 rfl) ?_
  refine qcons (qk_ifge dX12_pace_7 (by decide)) ?_
  refine qcons (qk_iconst dX12_pace_10 (by decide)) ?_
  refine qcons (qk_goto dX12_pace_11 (by decide)) ?_
  refine qcons (qk_iload_n dX12_pace_14 rfl) ?_
  refine qcons (qk_ret dX12_pace_15 (Or.inr (Or.inl ⟨rfl, rfl⟩))) ?_
  exact qnil
theorem M_X12_pace {X : qX} {l : Launch} : qMet X l 5 yX12_pace cX12_pace 3 (some .int) S_X12_pace := qmet_of K_X12_pace (by decide) rfl rfl
theorem dX12_of_0 : decode cX12_of 0 = .ok (.aload_n 0, 1) := by decide +kernel
theorem dX12_of_1 : decode cX12_of 1 = .ok (.iload_n 1, 1) := by decide +kernel
theorem dX12_of_2 : decode cX12_of 2 = .ok (.invokevirtual 248, 3) := by decide +kernel
theorem dX12_of_5 : decode cX12_of 5 = .ok (.ifCond .ne 7, 3) := by decide +kernel
theorem dX12_of_8 : decode cX12_of 8 = .ok (.sipush (-1001), 3) := by decide +kernel
theorem dX12_of_11 : decode cX12_of 11 = .ok (.ireturn, 1) := by decide +kernel
theorem dX12_of_12 : decode cX12_of 12 = .ok (.iload_n 2, 1) := by decide +kernel
theorem dX12_of_13 : decode cX12_of 13 = .ok (.tableswitch 112 0 7 #[47, 54, 61, 68, 75, 82, 100, 106], 47) := by decide +kernel
theorem dX12_of_60 : decode cX12_of 60 = .ok (.aload_n 0, 1) := by decide +kernel
theorem dX12_of_61 : decode cX12_of 61 = .ok (.getfield 23, 3) := by decide +kernel
theorem dX12_of_64 : decode cX12_of 64 = .ok (.iload_n 1, 1) := by decide +kernel
theorem dX12_of_65 : decode cX12_of 65 = .ok (.iaload, 1) := by decide +kernel
theorem dX12_of_66 : decode cX12_of 66 = .ok (.ireturn, 1) := by decide +kernel
theorem dX12_of_67 : decode cX12_of 67 = .ok (.aload_n 0, 1) := by decide +kernel
theorem dX12_of_68 : decode cX12_of 68 = .ok (.getfield 26, 3) := by decide +kernel
theorem dX12_of_71 : decode cX12_of 71 = .ok (.iload_n 1, 1) := by decide +kernel
theorem dX12_of_72 : decode cX12_of 72 = .ok (.iaload, 1) := by decide +kernel
theorem dX12_of_73 : decode cX12_of 73 = .ok (.ireturn, 1) := by decide +kernel
theorem dX12_of_74 : decode cX12_of 74 = .ok (.aload_n 0, 1) := by decide +kernel
theorem dX12_of_75 : decode cX12_of 75 = .ok (.getfield 29, 3) := by decide +kernel
theorem dX12_of_78 : decode cX12_of 78 = .ok (.iload_n 1, 1) := by decide +kernel
theorem dX12_of_79 : decode cX12_of 79 = .ok (.iaload, 1) := by decide +kernel
theorem dX12_of_80 : decode cX12_of 80 = .ok (.ireturn, 1) := by decide +kernel
theorem dX12_of_81 : decode cX12_of 81 = .ok (.aload_n 0, 1) := by decide +kernel
theorem dX12_of_82 : decode cX12_of 82 = .ok (.getfield 32, 3) := by decide +kernel
theorem dX12_of_85 : decode cX12_of 85 = .ok (.iload_n 1, 1) := by decide +kernel
theorem dX12_of_86 : decode cX12_of 86 = .ok (.iaload, 1) := by decide +kernel
theorem dX12_of_87 : decode cX12_of 87 = .ok (.ireturn, 1) := by decide +kernel
theorem dX12_of_88 : decode cX12_of 88 = .ok (.aload_n 0, 1) := by decide +kernel
theorem dX12_of_89 : decode cX12_of 89 = .ok (.getfield 35, 3) := by decide +kernel
theorem dX12_of_92 : decode cX12_of 92 = .ok (.iload_n 1, 1) := by decide +kernel
theorem dX12_of_93 : decode cX12_of 93 = .ok (.iaload, 1) := by decide +kernel
theorem dX12_of_94 : decode cX12_of 94 = .ok (.ireturn, 1) := by decide +kernel
theorem dX12_of_95 : decode cX12_of 95 = .ok (.aload_n 0, 1) := by decide +kernel
theorem dX12_of_96 : decode cX12_of 96 = .ok (.aload_n 0, 1) := by decide +kernel
theorem dX12_of_97 : decode cX12_of 97 = .ok (.getfield 16, 3) := by decide +kernel
theorem dX12_of_100 : decode cX12_of 100 = .ok (.iload_n 1, 1) := by decide +kernel
theorem dX12_of_101 : decode cX12_of 101 = .ok (.invokevirtual 251, 3) := by decide +kernel
theorem dX12_of_104 : decode cX12_of 104 = .ok (.ifCond .eq 7, 3) := by decide +kernel
theorem dX12_of_107 : decode cX12_of 107 = .ok (.iconst 1, 1) := by decide +kernel
theorem dX12_of_108 : decode cX12_of 108 = .ok (.goto 4, 3) := by decide +kernel
theorem dX12_of_111 : decode cX12_of 111 = .ok (.iconst 0, 1) := by decide +kernel
theorem dX12_of_112 : decode cX12_of 112 = .ok (.ireturn, 1) := by decide +kernel
theorem dX12_of_113 : decode cX12_of 113 = .ok (.aload_n 0, 1) := by decide +kernel
theorem dX12_of_114 : decode cX12_of 114 = .ok (.iload_n 1, 1) := by decide +kernel
theorem dX12_of_115 : decode cX12_of 115 = .ok (.invokevirtual 327, 3) := by decide +kernel
theorem dX12_of_118 : decode cX12_of 118 = .ok (.ireturn, 1) := by decide +kernel
theorem dX12_of_119 : decode cX12_of 119 = .ok (.aload_n 0, 1) := by decide +kernel
theorem dX12_of_120 : decode cX12_of 120 = .ok (.iload_n 1, 1) := by decide +kernel
theorem dX12_of_121 : decode cX12_of 121 = .ok (.invokevirtual 339, 3) := by decide +kernel
theorem dX12_of_124 : decode cX12_of 124 = .ok (.ireturn, 1) := by decide +kernel
theorem dX12_of_125 : decode cX12_of 125 = .ok (.sipush (-1001), 3) := by decide +kernel
theorem dX12_of_128 : decode cX12_of 128 = .ok (.ireturn, 1) := by decide +kernel
noncomputable def C_X12_of : List (Nat × qOp) := [(0, qo_aload 0 1),
  (1, qo_iload 1 1),
  (2, qo_callv [(12, S_X12_isPerson)] 1),
  (5, qo_ifne 12),
  (8, qo_ci (-1001) 3),
  (11, qo_ret (some .int) 1),
  (12, qo_iload 2 1),
  (13, qo_tsw 0 [60, 67, 74, 81, 88, 95, 113, 119] 125),
  (60, qo_aload 0 1),
  (61, qo_getR 12 4),
  (64, qo_iload 1 1),
  (65, qo_iaload),
  (66, qo_ret (some .int) 1),
  (67, qo_aload 0 1),
  (68, qo_getR 12 5),
  (71, qo_iload 1 1),
  (72, qo_iaload),
  (73, qo_ret (some .int) 1),
  (74, qo_aload 0 1),
  (75, qo_getR 12 6),
  (78, qo_iload 1 1),
  (79, qo_iaload),
  (80, qo_ret (some .int) 1),
  (81, qo_aload 0 1),
  (82, qo_getR 12 7),
  (85, qo_iload 1 1),
  (86, qo_iaload),
  (87, qo_ret (some .int) 1),
  (88, qo_aload 0 1),
  (89, qo_getR 12 8),
  (92, qo_iload 1 1),
  (93, qo_iaload),
  (94, qo_ret (some .int) 1),
  (95, qo_aload 0 1),
  (96, qo_aload 0 1),
  (97, qo_getI 12 2),
  (100, qo_iload 1 1),
  (101, qo_callv [(12, S_X12_has)] 2),
  (104, qo_ifeq 111),
  (107, qo_ci 1 1),
  (108, qo_goto 112),
  (111, qo_ci 0 1),
  (112, qo_ret (some .int) 1),
  (113, qo_aload 0 1),
  (114, qo_iload 1 1),
  (115, qo_callv [(12, S_X12_zeal)] 1),
  (118, qo_ret (some .int) 1),
  (119, qo_aload 0 1),
  (120, qo_iload 1 1),
  (121, qo_callv [(12, S_X12_pace)] 1),
  (124, qo_ret (some .int) 1),
  (125, qo_ci (-1001) 3),
  (128, qo_ret (some .int) 1)]
noncomputable def S_X12_of : qSem := qM 3 C_X12_of
set_option maxRecDepth 20000 in
theorem K_X12_of {X : qX} {l : Launch} : ∀ q ∈ C_X12_of, qOk X l 6 cX12_of 3 RX12 "of" (some .int) q.1 q.2 := by
  unfold C_X12_of
  refine qcons (qk_aload_n dX12_of_0 rfl) ?_
  refine qcons (qk_iload_n dX12_of_1 rfl) ?_
  refine qcons (qk_callv (ins := fun i => .invokevirtual i) (qconsV (qrunV M_X12_isPerson (by decide) (by decide) (by decide) rfl tw_1094 tw_1096 tw_22 tw_1097 tw_90 ⟨by decide, by decide⟩ (by decide +kernel)) qnilV) dX12_of_2) ?_
  refine qcons (qk_ifne dX12_of_5 (by decide)) ?_
  refine qcons (qk_sipush dX12_of_8 (by decide) (by decide)) ?_
  refine qcons (qk_ret dX12_of_11 (Or.inr (Or.inl ⟨rfl, rfl⟩))) ?_
  refine qcons (qk_iload_n dX12_of_12 rfl) ?_
  refine qcons (qk_tsw dX12_of_13 (by decide) (by decide) (by decide)) ?_
  refine qcons (qk_aload_n dX12_of_60 rfl) ?_
  refine qcons (qk_getR fd_X12_23 kd_12_4 dX12_of_61) ?_
  refine qcons (qk_iload_n dX12_of_64 rfl) ?_
  refine qcons (qk_iaload dX12_of_65) ?_
  refine qcons (qk_ret dX12_of_66 (Or.inr (Or.inl ⟨rfl, rfl⟩))) ?_
  refine qcons (qk_aload_n dX12_of_67 rfl) ?_
  refine qcons (qk_getR fd_X12_26 kd_12_5 dX12_of_68) ?_
  refine qcons (qk_iload_n dX12_of_71 rfl) ?_
  refine qcons (qk_iaload dX12_of_72) ?_
  refine qcons (qk_ret dX12_of_73 (Or.inr (Or.inl ⟨rfl, rfl⟩))) ?_
  refine qcons (qk_aload_n dX12_of_74 rfl) ?_
  refine qcons (qk_getR fd_X12_29 kd_12_6 dX12_of_75) ?_
  refine qcons (qk_iload_n dX12_of_78 rfl) ?_
  refine qcons (qk_iaload dX12_of_79) ?_
  refine qcons (qk_ret dX12_of_80 (Or.inr (Or.inl ⟨rfl, rfl⟩))) ?_
  refine qcons (qk_aload_n dX12_of_81 rfl) ?_
  refine qcons (qk_getR fd_X12_32 kd_12_7 dX12_of_82) ?_
  refine qcons (qk_iload_n dX12_of_85 rfl) ?_
  refine qcons (qk_iaload dX12_of_86) ?_
  refine qcons (qk_ret dX12_of_87 (Or.inr (Or.inl ⟨rfl, rfl⟩))) ?_
  refine qcons (qk_aload_n dX12_of_88 rfl) ?_
  refine qcons (qk_getR fd_X12_35 kd_12_8 dX12_of_89) ?_
  refine qcons (qk_iload_n dX12_of_92 rfl) ?_
  refine qcons (qk_iaload dX12_of_93) ?_
  refine qcons (qk_ret dX12_of_94 (Or.inr (Or.inl ⟨rfl, rfl⟩))) ?_
  refine qcons (qk_aload_n dX12_of_95 rfl) ?_
  refine qcons (qk_aload_n dX12_of_96 rfl) ?_
  refine qcons (qk_getI fd_X12_16 kd_12_2 dX12_of_97) ?_
  refine qcons (qk_iload_n dX12_of_100 rfl) ?_
  refine qcons (qk_callv (ins := fun i => .invokevirtual i) (qconsV (qrunV M_X12_has (by decide) (by decide) (by decide) rfl tw_1102 tw_1104 tw_23 tw_1105 tw_90 ⟨by decide, by decide⟩ (by decide +kernel)) qnilV) dX12_of_101) ?_
  refine qcons (qk_ifeq dX12_of_104 (by decide)) ?_
  refine qcons (qk_iconst dX12_of_107 (by decide)) ?_
  refine qcons (qk_goto dX12_of_108 (by decide)) ?_
  refine qcons (qk_iconst dX12_of_111 (by decide)) ?_
  refine qcons (qk_ret dX12_of_112 (Or.inr (Or.inl ⟨rfl, rfl⟩))) ?_
  refine qcons (qk_aload_n dX12_of_113 rfl) ?_
  refine qcons (qk_iload_n dX12_of_114 rfl) ?_
  refine qcons (qk_callv (ins := fun i => .invokevirtual i) (qconsV (qrunV M_X12_zeal (by decide) (by decide) (by decide) rfl tw_1194 tw_1196 tw_41 tw_1197 tw_90 ⟨by decide, by decide⟩ (by decide +kernel)) qnilV) dX12_of_115) ?_
  refine qcons (qk_ret dX12_of_118 (Or.inr (Or.inl ⟨rfl, rfl⟩))) ?_
  refine qcons (qk_aload_n dX12_of_119 rfl) ?_
  refine qcons (qk_iload_n dX12_of_120 rfl) ?_
  refine qcons (qk_callv (ins := fun i => .invokevirtual i) (qconsV (qrunV M_X12_pace (by decide) (by decide) (by decide) rfl tw_1214 tw_1216 tw_46 tw_1217 tw_90 ⟨by decide, by decide⟩ (by decide +kernel)) qnilV) dX12_of_121) ?_
  refine qcons (qk_ret dX12_of_124 (Or.inr (Or.inl ⟨rfl, rfl⟩))) ?_
  refine qcons (qk_sipush dX12_of_125 (by decide) (by decide)) ?_
  refine qcons (qk_ret dX12_of_128 (Or.inr (Or.inl ⟨rfl, rfl⟩))) ?_
  exact qnil
theorem M_X12_of {X : qX} {l : Launch} : qMet X l 6 yX12_of cX12_of 3 (some .int) S_X12_of := qmet_of K_X12_of (by decide) rfl rfl
theorem dX12_told_0 : decode cX12_told 0 = .ok (.aload_n 0, 1) := by decide +kernel
theorem dX12_told_1 : decode cX12_told 1 = .ok (.iload_n 1, 1) := by decide +kernel
theorem dX12_told_2 : decode cX12_told 2 = .ok (.bipush 10, 2) := by decide +kernel
theorem dX12_told_4 : decode cX12_told 4 = .ok (.bipush 14, 2) := by decide +kernel
theorem dX12_told_6 : decode cX12_told 6 = .ok (.invokevirtual 240, 3) := by decide +kernel
theorem dX12_told_9 : decode cX12_told 9 = .ok (.ifCond .eq 13, 3) := by decide +kernel
theorem dX12_told_12 : decode cX12_told 12 = .ok (.aload_n 0, 1) := by decide +kernel
theorem dX12_told_13 : decode cX12_told 13 = .ok (.getfield 19, 3) := by decide +kernel
theorem dX12_told_16 : decode cX12_told 16 = .ok (.iload_n 1, 1) := by decide +kernel
theorem dX12_told_17 : decode cX12_told 17 = .ok (.bipush 10, 2) := by decide +kernel
theorem dX12_told_19 : decode cX12_told 19 = .ok (.isub, 1) := by decide +kernel
theorem dX12_told_20 : decode cX12_told 20 = .ok (.iaload, 1) := by decide +kernel
theorem dX12_told_21 : decode cX12_told 21 = .ok (.ireturn, 1) := by decide +kernel
theorem dX12_told_22 : decode cX12_told 22 = .ok (.iload_n 1, 1) := by decide +kernel
theorem dX12_told_23 : decode cX12_told 23 = .ok (.tableswitch 42 0 2 #[25, 30, 35], 25) := by decide +kernel
theorem dX12_told_48 : decode cX12_told 48 = .ok (.aload_n 0, 1) := by decide +kernel
theorem dX12_told_49 : decode cX12_told 49 = .ok (.getfield 13, 3) := by decide +kernel
theorem dX12_told_52 : decode cX12_told 52 = .ok (.ireturn, 1) := by decide +kernel
theorem dX12_told_53 : decode cX12_told 53 = .ok (.aload_n 0, 1) := by decide +kernel
theorem dX12_told_54 : decode cX12_told 54 = .ok (.invokevirtual 342, 3) := by decide +kernel
theorem dX12_told_57 : decode cX12_told 57 = .ok (.ireturn, 1) := by decide +kernel
theorem dX12_told_58 : decode cX12_told 58 = .ok (.aload_n 0, 1) := by decide +kernel
theorem dX12_told_59 : decode cX12_told 59 = .ok (.iconst 3, 1) := by decide +kernel
theorem dX12_told_60 : decode cX12_told 60 = .ok (.iconst 0, 1) := by decide +kernel
theorem dX12_told_61 : decode cX12_told 61 = .ok (.invokevirtual 317, 3) := by decide +kernel
theorem dX12_told_64 : decode cX12_told 64 = .ok (.ireturn, 1) := by decide +kernel
theorem dX12_told_65 : decode cX12_told 65 = .ok (.iconst (-1), 1) := by decide +kernel
theorem dX12_told_66 : decode cX12_told 66 = .ok (.ireturn, 1) := by decide +kernel
noncomputable def C_X12_told : List (Nat × qOp) := [(0, qo_aload 0 1),
  (1, qo_iload 1 1),
  (2, qo_ci 10 2),
  (4, qo_ci 14 2),
  (6, qo_callv [(12, S_X12_in)] 3),
  (9, qo_ifeq 22),
  (12, qo_aload 0 1),
  (13, qo_getR 12 3),
  (16, qo_iload 1 1),
  (17, qo_ci 10 2),
  (19, qo_isub),
  (20, qo_iaload),
  (21, qo_ret (some .int) 1),
  (22, qo_iload 1 1),
  (23, qo_tsw 0 [48, 53, 58] 65),
  (48, qo_aload 0 1),
  (49, qo_getI 12 1),
  (52, qo_ret (some .int) 1),
  (53, qo_aload 0 1),
  (54, qo_callv [(12, S_X12_room)] 0),
  (57, qo_ret (some .int) 1),
  (58, qo_aload 0 1),
  (59, qo_ci 3 1),
  (60, qo_ci 0 1),
  (61, qo_callv [(12, S_X12_lastOf)] 2),
  (64, qo_ret (some .int) 1),
  (65, qo_ci (-1) 1),
  (66, qo_ret (some .int) 1)]
noncomputable def S_X12_told : qSem := qM 2 C_X12_told
set_option maxRecDepth 20000 in
theorem K_X12_told {X : qX} {l : Launch} : ∀ q ∈ C_X12_told, qOk X l 4 cX12_told 2 RX12 "told" (some .int) q.1 q.2 := by
  unfold C_X12_told
  refine qcons (qk_aload_n dX12_told_0 rfl) ?_
  refine qcons (qk_iload_n dX12_told_1 rfl) ?_
  refine qcons (qk_bipush dX12_told_2 (by decide) (by decide)) ?_
  refine qcons (qk_bipush dX12_told_4 (by decide) (by decide)) ?_
  refine qcons (qk_callv (ins := fun i => .invokevirtual i) (qconsV (qrunV M_X12_in (by decide) (by decide) (by decide) rfl tw_1082 tw_1084 tw_20 tw_1085 tw_90 ⟨by decide, by decide⟩ (by decide +kernel)) qnilV) dX12_told_6) ?_
  refine qcons (qk_ifeq dX12_told_9 (by decide)) ?_
  refine qcons (qk_aload_n dX12_told_12 rfl) ?_
  refine qcons (qk_getR fd_X12_19 kd_12_3 dX12_told_13) ?_
  refine qcons (qk_iload_n dX12_told_16 rfl) ?_
  refine qcons (qk_bipush dX12_told_17 (by decide) (by decide)) ?_
  refine qcons (qk_isub dX12_told_19) ?_
  refine qcons (qk_iaload dX12_told_20) ?_
  refine qcons (qk_ret dX12_told_21 (Or.inr (Or.inl ⟨rfl, rfl⟩))) ?_
  refine qcons (qk_iload_n dX12_told_22 rfl) ?_
  refine qcons (qk_tsw dX12_told_23 (by decide) (by decide) (by decide)) ?_
  refine qcons (qk_aload_n dX12_told_48 rfl) ?_
  refine qcons (qk_getI fd_X12_13 kd_12_1 dX12_told_49) ?_
  refine qcons (qk_ret dX12_told_52 (Or.inr (Or.inl ⟨rfl, rfl⟩))) ?_
  refine qcons (qk_aload_n dX12_told_53 rfl) ?_
  refine qcons (qk_callv (ins := fun i => .invokevirtual i) (qconsV (qrunV M_X12_room (by decide) (by decide) (by decide) rfl tw_1234 tw_1236 tw_50 tw_1237 tw_90 ⟨by decide, by decide⟩ (by decide +kernel)) qnilV) dX12_told_54) ?_
  refine qcons (qk_ret dX12_told_57 (Or.inr (Or.inl ⟨rfl, rfl⟩))) ?_
  refine qcons (qk_aload_n dX12_told_58 rfl) ?_
  refine qcons (qk_iconst dX12_told_59 (by decide)) ?_
  refine qcons (qk_iconst dX12_told_60 (by decide)) ?_
  refine qcons (qk_callv (ins := fun i => .invokevirtual i) (qconsV (qrunV M_X12_lastOf (by decide) (by decide) (by decide) rfl tw_1238 tw_1240 tw_51 tw_1241 tw_90 ⟨by decide, by decide⟩ (by decide +kernel)) qnilV) dX12_told_61) ?_
  refine qcons (qk_ret dX12_told_64 (Or.inr (Or.inl ⟨rfl, rfl⟩))) ?_
  refine qcons (qk_iconst dX12_told_65 (by decide)) ?_
  refine qcons (qk_ret dX12_told_66 (Or.inr (Or.inl ⟨rfl, rfl⟩))) ?_
  exact qnil
theorem M_X12_told {X : qX} {l : Launch} : qMet X l 4 yX12_told cX12_told 2 (some .int) S_X12_told := qmet_of K_X12_told (by decide) rfl rfl
theorem dX12_goPerson_0 : decode cX12_goPerson 0 = .ok (.aload_n 0, 1) := by decide +kernel
theorem dX12_goPerson_1 : decode cX12_goPerson 1 = .ok (.getfield 29, 3) := by decide +kernel
theorem dX12_goPerson_4 : decode cX12_goPerson 4 = .ok (.iload_n 1, 1) := by decide +kernel
theorem dX12_goPerson_5 : decode cX12_goPerson 5 = .ok (.iaload, 1) := by decide +kernel
theorem dX12_goPerson_6 : decode cX12_goPerson 6 = .ok (.istore_n 2, 1) := by decide +kernel
theorem dX12_goPerson_7 : decode cX12_goPerson 7 = .ok (.iload_n 2, 1) := by decide +kernel
theorem dX12_goPerson_8 : decode cX12_goPerson 8 = .ok (.iconst 3, 1) := by decide +kernel
theorem dX12_goPerson_9 : decode cX12_goPerson 9 = .ok (.if_icmp .ne 16, 3) := by decide +kernel
theorem dX12_goPerson_12 : decode cX12_goPerson 12 = .ok (.sipush 9999, 3) := by decide +kernel
theorem dX12_goPerson_15 : decode cX12_goPerson 15 = .ok (.aload_n 0, 1) := by decide +kernel
theorem dX12_goPerson_16 : decode cX12_goPerson 16 = .ok (.getfield 19, 3) := by decide +kernel
theorem dX12_goPerson_19 : decode cX12_goPerson 19 = .ok (.iconst 4, 1) := by decide +kernel
theorem dX12_goPerson_20 : decode cX12_goPerson 20 = .ok (.iaload, 1) := by decide +kernel
theorem dX12_goPerson_21 : decode cX12_goPerson 21 = .ok (.isub, 1) := by decide +kernel
theorem dX12_goPerson_22 : decode cX12_goPerson 22 = .ok (.goto 16, 3) := by decide +kernel
theorem dX12_goPerson_25 : decode cX12_goPerson 25 = .ok (.aload_n 0, 1) := by decide +kernel
theorem dX12_goPerson_26 : decode cX12_goPerson 26 = .ok (.invokevirtual 342, 3) := by decide +kernel
theorem dX12_goPerson_29 : decode cX12_goPerson 29 = .ok (.aload_n 0, 1) := by decide +kernel
theorem dX12_goPerson_30 : decode cX12_goPerson 30 = .ok (.getfield 19, 3) := by decide +kernel
theorem dX12_goPerson_33 : decode cX12_goPerson 33 = .ok (.iload_n 2, 1) := by decide +kernel
theorem dX12_goPerson_34 : decode cX12_goPerson 34 = .ok (.iconst 1, 1) := by decide +kernel
theorem dX12_goPerson_35 : decode cX12_goPerson 35 = .ok (.iadd, 1) := by decide +kernel
theorem dX12_goPerson_36 : decode cX12_goPerson 36 = .ok (.iaload, 1) := by decide +kernel
theorem dX12_goPerson_37 : decode cX12_goPerson 37 = .ok (.isub, 1) := by decide +kernel
theorem dX12_goPerson_38 : decode cX12_goPerson 38 = .ok (.istore_n 3, 1) := by decide +kernel
theorem dX12_goPerson_39 : decode cX12_goPerson 39 = .ok (.aload_n 0, 1) := by decide +kernel
theorem dX12_goPerson_40 : decode cX12_goPerson 40 = .ok (.aload_n 0, 1) := by decide +kernel
theorem dX12_goPerson_41 : decode cX12_goPerson 41 = .ok (.aload_n 0, 1) := by decide +kernel
theorem dX12_goPerson_42 : decode cX12_goPerson 42 = .ok (.iload_n 1, 1) := by decide +kernel
theorem dX12_goPerson_43 : decode cX12_goPerson 43 = .ok (.invokevirtual 339, 3) := by decide +kernel
theorem dX12_goPerson_46 : decode cX12_goPerson 46 = .ok (.aload_n 0, 1) := by decide +kernel
theorem dX12_goPerson_47 : decode cX12_goPerson 47 = .ok (.getfield 19, 3) := by decide +kernel
theorem dX12_goPerson_50 : decode cX12_goPerson 50 = .ok (.iload_n 2, 1) := by decide +kernel
theorem dX12_goPerson_51 : decode cX12_goPerson 51 = .ok (.iaload, 1) := by decide +kernel
theorem dX12_goPerson_52 : decode cX12_goPerson 52 = .ok (.invokevirtual 333, 3) := by decide +kernel
theorem dX12_goPerson_55 : decode cX12_goPerson 55 = .ok (.iload_n 3, 1) := by decide +kernel
theorem dX12_goPerson_56 : decode cX12_goPerson 56 = .ok (.ifCond .ge 7, 3) := by decide +kernel
theorem dX12_goPerson_59 : decode cX12_goPerson 59 = .ok (.iconst 0, 1) := by decide +kernel
theorem dX12_goPerson_60 : decode cX12_goPerson 60 = .ok (.goto 4, 3) := by decide +kernel
theorem dX12_goPerson_63 : decode cX12_goPerson 63 = .ok (.iload_n 3, 1) := by decide +kernel
theorem dX12_goPerson_64 : decode cX12_goPerson 64 = .ok (.invokevirtual 333, 3) := by decide +kernel
theorem dX12_goPerson_67 : decode cX12_goPerson 67 = .ok (.istore 4, 2) := by decide +kernel
theorem dX12_goPerson_69 : decode cX12_goPerson 69 = .ok (.aload_n 0, 1) := by decide +kernel
theorem dX12_goPerson_70 : decode cX12_goPerson 70 = .ok (.getfield 19, 3) := by decide +kernel
theorem dX12_goPerson_73 : decode cX12_goPerson 73 = .ok (.iload_n 2, 1) := by decide +kernel
theorem dX12_goPerson_74 : decode cX12_goPerson 74 = .ok (.dup2, 1) := by decide +kernel
theorem dX12_goPerson_75 : decode cX12_goPerson 75 = .ok (.iaload, 1) := by decide +kernel
theorem dX12_goPerson_76 : decode cX12_goPerson 76 = .ok (.iload 4, 2) := by decide +kernel
theorem dX12_goPerson_78 : decode cX12_goPerson 78 = .ok (.isub, 1) := by decide +kernel
theorem dX12_goPerson_79 : decode cX12_goPerson 79 = .ok (.iastore, 1) := by decide +kernel
theorem dX12_goPerson_80 : decode cX12_goPerson 80 = .ok (.aload_n 0, 1) := by decide +kernel
theorem dX12_goPerson_81 : decode cX12_goPerson 81 = .ok (.getfield 19, 3) := by decide +kernel
theorem dX12_goPerson_84 : decode cX12_goPerson 84 = .ok (.iload_n 2, 1) := by decide +kernel
theorem dX12_goPerson_85 : decode cX12_goPerson 85 = .ok (.iconst 1, 1) := by decide +kernel
theorem dX12_goPerson_86 : decode cX12_goPerson 86 = .ok (.iadd, 1) := by decide +kernel
theorem dX12_goPerson_87 : decode cX12_goPerson 87 = .ok (.dup2, 1) := by decide +kernel
theorem dX12_goPerson_88 : decode cX12_goPerson 88 = .ok (.iaload, 1) := by decide +kernel
theorem dX12_goPerson_89 : decode cX12_goPerson 89 = .ok (.iload 4, 2) := by decide +kernel
theorem dX12_goPerson_91 : decode cX12_goPerson 91 = .ok (.iadd, 1) := by decide +kernel
theorem dX12_goPerson_92 : decode cX12_goPerson 92 = .ok (.iastore, 1) := by decide +kernel
theorem dX12_goPerson_93 : decode cX12_goPerson 93 = .ok (.aload_n 0, 1) := by decide +kernel
theorem dX12_goPerson_94 : decode cX12_goPerson 94 = .ok (.getfield 32, 3) := by decide +kernel
theorem dX12_goPerson_97 : decode cX12_goPerson 97 = .ok (.iload_n 1, 1) := by decide +kernel
theorem dX12_goPerson_98 : decode cX12_goPerson 98 = .ok (.aload_n 0, 1) := by decide +kernel
theorem dX12_goPerson_99 : decode cX12_goPerson 99 = .ok (.aload_n 0, 1) := by decide +kernel
theorem dX12_goPerson_100 : decode cX12_goPerson 100 = .ok (.getfield 32, 3) := by decide +kernel
theorem dX12_goPerson_103 : decode cX12_goPerson 103 = .ok (.iload_n 1, 1) := by decide +kernel
theorem dX12_goPerson_104 : decode cX12_goPerson 104 = .ok (.iaload, 1) := by decide +kernel
theorem dX12_goPerson_105 : decode cX12_goPerson 105 = .ok (.iload 4, 2) := by decide +kernel
theorem dX12_goPerson_107 : decode cX12_goPerson 107 = .ok (.iadd, 1) := by decide +kernel
theorem dX12_goPerson_108 : decode cX12_goPerson 108 = .ok (.aload_n 0, 1) := by decide +kernel
theorem dX12_goPerson_109 : decode cX12_goPerson 109 = .ok (.getfield 100, 3) := by decide +kernel
theorem dX12_goPerson_112 : decode cX12_goPerson 112 = .ok (.invokevirtual 333, 3) := by decide +kernel
theorem dX12_goPerson_115 : decode cX12_goPerson 115 = .ok (.iastore, 1) := by decide +kernel
theorem dX12_goPerson_116 : decode cX12_goPerson 116 = .ok (.iload 4, 2) := by decide +kernel
theorem dX12_goPerson_118 : decode cX12_goPerson 118 = .ok (.ifCond .ne 25, 3) := by decide +kernel
theorem dX12_goPerson_121 : decode cX12_goPerson 121 = .ok (.aload_n 0, 1) := by decide +kernel
theorem dX12_goPerson_122 : decode cX12_goPerson 122 = .ok (.getfield 35, 3) := by decide +kernel
theorem dX12_goPerson_125 : decode cX12_goPerson 125 = .ok (.iload_n 1, 1) := by decide +kernel
theorem dX12_goPerson_126 : decode cX12_goPerson 126 = .ok (.aload_n 0, 1) := by decide +kernel
theorem dX12_goPerson_127 : decode cX12_goPerson 127 = .ok (.aload_n 0, 1) := by decide +kernel
theorem dX12_goPerson_128 : decode cX12_goPerson 128 = .ok (.getfield 35, 3) := by decide +kernel
theorem dX12_goPerson_131 : decode cX12_goPerson 131 = .ok (.iload_n 1, 1) := by decide +kernel
theorem dX12_goPerson_132 : decode cX12_goPerson 132 = .ok (.iaload, 1) := by decide +kernel
theorem dX12_goPerson_133 : decode cX12_goPerson 133 = .ok (.iconst 1, 1) := by decide +kernel
theorem dX12_goPerson_134 : decode cX12_goPerson 134 = .ok (.iadd, 1) := by decide +kernel
theorem dX12_goPerson_135 : decode cX12_goPerson 135 = .ok (.aload_n 0, 1) := by decide +kernel
theorem dX12_goPerson_136 : decode cX12_goPerson 136 = .ok (.getfield 103, 3) := by decide +kernel
theorem dX12_goPerson_139 : decode cX12_goPerson 139 = .ok (.invokevirtual 333, 3) := by decide +kernel
theorem dX12_goPerson_142 : decode cX12_goPerson 142 = .ok (.iastore, 1) := by decide +kernel
theorem dX12_goPerson_143 : decode cX12_goPerson 143 = .ok (.return_, 1) := by decide +kernel
noncomputable def C_X12_goPerson : List (Nat × qOp) := [(0, qo_aload 0 1),
  (1, qo_getR 12 6),
  (4, qo_iload 1 1),
  (5, qo_iaload),
  (6, qo_istore 2 1),
  (7, qo_iload 2 1),
  (8, qo_ci 3 1),
  (9, qo_icne 25),
  (12, qo_ci 9999 3),
  (15, qo_aload 0 1),
  (16, qo_getR 12 3),
  (19, qo_ci 4 1),
  (20, qo_iaload),
  (21, qo_isub),
  (22, qo_goto 38),
  (25, qo_aload 0 1),
  (26, qo_callv [(12, S_X12_room)] 0),
  (29, qo_aload 0 1),
  (30, qo_getR 12 3),
  (33, qo_iload 2 1),
  (34, qo_ci 1 1),
  (35, qo_iadd),
  (36, qo_iaload),
  (37, qo_isub),
  (38, qo_istore 3 1),
  (39, qo_aload 0 1),
  (40, qo_aload 0 1),
  (41, qo_aload 0 1),
  (42, qo_iload 1 1),
  (43, qo_callv [(12, S_X12_pace)] 1),
  (46, qo_aload 0 1),
  (47, qo_getR 12 3),
  (50, qo_iload 2 1),
  (51, qo_iaload),
  (52, qo_callv [(12, S_X12_least)] 2),
  (55, qo_iload 3 1),
  (56, qo_ifge 63),
  (59, qo_ci 0 1),
  (60, qo_goto 64),
  (63, qo_iload 3 1),
  (64, qo_callv [(12, S_X12_least)] 2),
  (67, qo_istore 4 2),
  (69, qo_aload 0 1),
  (70, qo_getR 12 3),
  (73, qo_iload 2 1),
  (74, qo_dup2),
  (75, qo_iaload),
  (76, qo_iload 4 2),
  (78, qo_isub),
  (79, qo_iastore),
  (80, qo_aload 0 1),
  (81, qo_getR 12 3),
  (84, qo_iload 2 1),
  (85, qo_ci 1 1),
  (86, qo_iadd),
  (87, qo_dup2),
  (88, qo_iaload),
  (89, qo_iload 4 2),
  (91, qo_iadd),
  (92, qo_iastore),
  (93, qo_aload 0 1),
  (94, qo_getR 12 7),
  (97, qo_iload 1 1),
  (98, qo_aload 0 1),
  (99, qo_aload 0 1),
  (100, qo_getR 12 7),
  (103, qo_iload 1 1),
  (104, qo_iaload),
  (105, qo_iload 4 2),
  (107, qo_iadd),
  (108, qo_aload 0 1),
  (109, qo_getI 12 29),
  (112, qo_callv [(12, S_X12_least)] 2),
  (115, qo_iastore),
  (116, qo_iload 4 2),
  (118, qo_ifne 143),
  (121, qo_aload 0 1),
  (122, qo_getR 12 8),
  (125, qo_iload 1 1),
  (126, qo_aload 0 1),
  (127, qo_aload 0 1),
  (128, qo_getR 12 8),
  (131, qo_iload 1 1),
  (132, qo_iaload),
  (133, qo_ci 1 1),
  (134, qo_iadd),
  (135, qo_aload 0 1),
  (136, qo_getI 12 30),
  (139, qo_callv [(12, S_X12_least)] 2),
  (142, qo_iastore),
  (143, qo_ret none 0)]
noncomputable def S_X12_goPerson : qSem := qM 5 C_X12_goPerson
set_option maxRecDepth 20000 in
theorem K_X12_goPerson {X : qX} {l : Launch} : ∀ q ∈ C_X12_goPerson, qOk X l 6 cX12_goPerson 5 RX12 "goPerson" none q.1 q.2 := by
  unfold C_X12_goPerson
  refine qcons (qk_aload_n dX12_goPerson_0 rfl) ?_
  refine qcons (qk_getR fd_X12_29 kd_12_6 dX12_goPerson_1) ?_
  refine qcons (qk_iload_n dX12_goPerson_4 rfl) ?_
  refine qcons (qk_iaload dX12_goPerson_5) ?_
  refine qcons (qk_istore_n dX12_goPerson_6 rfl) ?_
  refine qcons (qk_iload_n dX12_goPerson_7 rfl) ?_
  refine qcons (qk_iconst dX12_goPerson_8 (by decide)) ?_
  refine qcons (qk_icne dX12_goPerson_9 (by decide)) ?_
  refine qcons (qk_sipush dX12_goPerson_12 (by decide) (by decide)) ?_
  refine qcons (qk_aload_n dX12_goPerson_15 rfl) ?_
  refine qcons (qk_getR fd_X12_19 kd_12_3 dX12_goPerson_16) ?_
  refine qcons (qk_iconst dX12_goPerson_19 (by decide)) ?_
  refine qcons (qk_iaload dX12_goPerson_20) ?_
  refine qcons (qk_isub dX12_goPerson_21) ?_
  refine qcons (qk_goto dX12_goPerson_22 (by decide)) ?_
  refine qcons (qk_aload_n dX12_goPerson_25 rfl) ?_
  refine qcons (qk_callv (ins := fun i => .invokevirtual i) (qconsV (qrunV M_X12_room (by decide) (by decide) (by decide) rfl tw_1234 tw_1236 tw_50 tw_1237 tw_90 ⟨by decide, by decide⟩ (by decide +kernel)) qnilV) dX12_goPerson_26) ?_
  refine qcons (qk_aload_n dX12_goPerson_29 rfl) ?_
  refine qcons (qk_getR fd_X12_19 kd_12_3 dX12_goPerson_30) ?_
  refine qcons (qk_iload_n dX12_goPerson_33 rfl) ?_
  refine qcons (qk_iconst dX12_goPerson_34 (by decide)) ?_
  refine qcons (qk_iadd dX12_goPerson_35) ?_
  refine qcons (qk_iaload dX12_goPerson_36) ?_
  refine qcons (qk_isub dX12_goPerson_37) ?_
  refine qcons (qk_istore_n dX12_goPerson_38 rfl) ?_
  refine qcons (qk_aload_n dX12_goPerson_39 rfl) ?_
  refine qcons (qk_aload_n dX12_goPerson_40 rfl) ?_
  refine qcons (qk_aload_n dX12_goPerson_41 rfl) ?_
  refine qcons (qk_iload_n dX12_goPerson_42 rfl) ?_
  refine qcons (qk_callv (ins := fun i => .invokevirtual i) (qconsV (qrunV M_X12_pace (by decide) (by decide) (by decide) rfl tw_1214 tw_1216 tw_46 tw_1217 tw_90 ⟨by decide, by decide⟩ (by decide +kernel)) qnilV) dX12_goPerson_43) ?_
  refine qcons (qk_aload_n dX12_goPerson_46 rfl) ?_
  refine qcons (qk_getR fd_X12_19 kd_12_3 dX12_goPerson_47) ?_
  refine qcons (qk_iload_n dX12_goPerson_50 rfl) ?_
  refine qcons (qk_iaload dX12_goPerson_51) ?_
  refine qcons (qk_callv (ins := fun i => .invokevirtual i) (qconsV (qrunV M_X12_least (by decide) (by decide) (by decide) rfl tw_1226 tw_1228 tw_49 tw_1229 tw_90 ⟨by decide, by decide⟩ (by decide +kernel)) qnilV) dX12_goPerson_52) ?_
  refine qcons (qk_iload_n dX12_goPerson_55 rfl) ?_
  refine qcons (qk_ifge dX12_goPerson_56 (by decide)) ?_
  refine qcons (qk_iconst dX12_goPerson_59 (by decide)) ?_
  refine qcons (qk_goto dX12_goPerson_60 (by decide)) ?_
  refine qcons (qk_iload_n dX12_goPerson_63 rfl) ?_
  refine qcons (qk_callv (ins := fun i => .invokevirtual i) (qconsV (qrunV M_X12_least (by decide) (by decide) (by decide) rfl tw_1226 tw_1228 tw_49 tw_1229 tw_90 ⟨by decide, by decide⟩ (by decide +kernel)) qnilV) dX12_goPerson_64) ?_
  refine qcons (qk_istore dX12_goPerson_67) ?_
  refine qcons (qk_aload_n dX12_goPerson_69 rfl) ?_
  refine qcons (qk_getR fd_X12_19 kd_12_3 dX12_goPerson_70) ?_
  refine qcons (qk_iload_n dX12_goPerson_73 rfl) ?_
  refine qcons (qk_dup2 dX12_goPerson_74) ?_
  refine qcons (qk_iaload dX12_goPerson_75) ?_
  refine qcons (qk_iload dX12_goPerson_76) ?_
  refine qcons (qk_isub dX12_goPerson_78) ?_
  refine qcons (qk_iastore dX12_goPerson_79) ?_
  refine qcons (qk_aload_n dX12_goPerson_80 rfl) ?_
  refine qcons (qk_getR fd_X12_19 kd_12_3 dX12_goPerson_81) ?_
  refine qcons (qk_iload_n dX12_goPerson_84 rfl) ?_
  refine qcons (qk_iconst dX12_goPerson_85 (by decide)) ?_
  refine qcons (qk_iadd dX12_goPerson_86) ?_
  refine qcons (qk_dup2 dX12_goPerson_87) ?_
  refine qcons (qk_iaload dX12_goPerson_88) ?_
  refine qcons (qk_iload dX12_goPerson_89) ?_
  refine qcons (qk_iadd dX12_goPerson_91) ?_
  refine qcons (qk_iastore dX12_goPerson_92) ?_
  refine qcons (qk_aload_n dX12_goPerson_93 rfl) ?_
  refine qcons (qk_getR fd_X12_32 kd_12_7 dX12_goPerson_94) ?_
  refine qcons (qk_iload_n dX12_goPerson_97 rfl) ?_
  refine qcons (qk_aload_n dX12_goPerson_98 rfl) ?_
  refine qcons (qk_aload_n dX12_goPerson_99 rfl) ?_
  refine qcons (qk_getR fd_X12_32 kd_12_7 dX12_goPerson_100) ?_
  refine qcons (qk_iload_n dX12_goPerson_103 rfl) ?_
  refine qcons (qk_iaload dX12_goPerson_104) ?_
  refine qcons (qk_iload dX12_goPerson_105) ?_
  refine qcons (qk_iadd dX12_goPerson_107) ?_
  refine qcons (qk_aload_n dX12_goPerson_108 rfl) ?_
  refine qcons (qk_getI fd_X12_100 kd_12_29 dX12_goPerson_109) ?_
  refine qcons (qk_callv (ins := fun i => .invokevirtual i) (qconsV (qrunV M_X12_least (by decide) (by decide) (by decide) rfl tw_1226 tw_1228 tw_49 tw_1229 tw_90 ⟨by decide, by decide⟩ (by decide +kernel)) qnilV) dX12_goPerson_112) ?_
  refine qcons (qk_iastore dX12_goPerson_115) ?_
  refine qcons (qk_iload dX12_goPerson_116) ?_
  refine qcons (qk_ifne dX12_goPerson_118 (by decide)) ?_
  refine qcons (qk_aload_n dX12_goPerson_121 rfl) ?_
  refine qcons (qk_getR fd_X12_35 kd_12_8 dX12_goPerson_122) ?_
  refine qcons (qk_iload_n dX12_goPerson_125 rfl) ?_
  refine qcons (qk_aload_n dX12_goPerson_126 rfl) ?_
  refine qcons (qk_aload_n dX12_goPerson_127 rfl) ?_
  refine qcons (qk_getR fd_X12_35 kd_12_8 dX12_goPerson_128) ?_
  refine qcons (qk_iload_n dX12_goPerson_131 rfl) ?_
  refine qcons (qk_iaload dX12_goPerson_132) ?_
  refine qcons (qk_iconst dX12_goPerson_133 (by decide)) ?_
  refine qcons (qk_iadd dX12_goPerson_134) ?_
  refine qcons (qk_aload_n dX12_goPerson_135 rfl) ?_
  refine qcons (qk_getI fd_X12_103 kd_12_30 dX12_goPerson_136) ?_
  refine qcons (qk_callv (ins := fun i => .invokevirtual i) (qconsV (qrunV M_X12_least (by decide) (by decide) (by decide) rfl tw_1226 tw_1228 tw_49 tw_1229 tw_90 ⟨by decide, by decide⟩ (by decide +kernel)) qnilV) dX12_goPerson_139) ?_
  refine qcons (qk_iastore dX12_goPerson_142) ?_
  refine qcons (qk_ret dX12_goPerson_143 (Or.inl ⟨rfl, rfl⟩)) ?_
  exact qnil
theorem M_X12_goPerson {X : qX} {l : Launch} : qMet X l 6 yX12_goPerson cX12_goPerson 5 none S_X12_goPerson := qmet_of K_X12_goPerson (by decide) rfl rfl
theorem dX12_goMinute_0 : decode cX12_goMinute 0 = .ok (.iconst 0, 1) := by decide +kernel
theorem dX12_goMinute_1 : decode cX12_goMinute 1 = .ok (.istore_n 1, 1) := by decide +kernel
theorem dX12_goMinute_2 : decode cX12_goMinute 2 = .ok (.iload_n 1, 1) := by decide +kernel
theorem dX12_goMinute_3 : decode cX12_goMinute 3 = .ok (.aload_n 0, 1) := by decide +kernel
theorem dX12_goMinute_4 : decode cX12_goMinute 4 = .ok (.getfield 7, 3) := by decide +kernel
theorem dX12_goMinute_7 : decode cX12_goMinute 7 = .ok (.if_icmp .ge 26, 3) := by decide +kernel
theorem dX12_goMinute_10 : decode cX12_goMinute 10 = .ok (.aload_n 0, 1) := by decide +kernel
theorem dX12_goMinute_11 : decode cX12_goMinute 11 = .ok (.aload_n 0, 1) := by decide +kernel
theorem dX12_goMinute_12 : decode cX12_goMinute 12 = .ok (.getfield 16, 3) := by decide +kernel
theorem dX12_goMinute_15 : decode cX12_goMinute 15 = .ok (.iload_n 1, 1) := by decide +kernel
theorem dX12_goMinute_16 : decode cX12_goMinute 16 = .ok (.invokevirtual 251, 3) := by decide +kernel
theorem dX12_goMinute_19 : decode cX12_goMinute 19 = .ok (.ifCond .ne 8, 3) := by decide +kernel
theorem dX12_goMinute_22 : decode cX12_goMinute 22 = .ok (.aload_n 0, 1) := by decide +kernel
theorem dX12_goMinute_23 : decode cX12_goMinute 23 = .ok (.iload_n 1, 1) := by decide +kernel
theorem dX12_goMinute_24 : decode cX12_goMinute 24 = .ok (.invokevirtual 345, 3) := by decide +kernel
theorem dX12_goMinute_27 : decode cX12_goMinute 27 = .ok (.iinc 1 1, 3) := by decide +kernel
theorem dX12_goMinute_30 : decode cX12_goMinute 30 = .ok (.goto (-28), 3) := by decide +kernel
theorem dX12_goMinute_33 : decode cX12_goMinute 33 = .ok (.aload_n 0, 1) := by decide +kernel
theorem dX12_goMinute_34 : decode cX12_goMinute 34 = .ok (.getfield 19, 3) := by decide +kernel
theorem dX12_goMinute_37 : decode cX12_goMinute 37 = .ok (.iconst 0, 1) := by decide +kernel
theorem dX12_goMinute_38 : decode cX12_goMinute 38 = .ok (.aload_n 0, 1) := by decide +kernel
theorem dX12_goMinute_39 : decode cX12_goMinute 39 = .ok (.aload_n 0, 1) := by decide +kernel
theorem dX12_goMinute_40 : decode cX12_goMinute 40 = .ok (.getfield 19, 3) := by decide +kernel
theorem dX12_goMinute_43 : decode cX12_goMinute 43 = .ok (.iconst 0, 1) := by decide +kernel
theorem dX12_goMinute_44 : decode cX12_goMinute 44 = .ok (.iaload, 1) := by decide +kernel
theorem dX12_goMinute_45 : decode cX12_goMinute 45 = .ok (.aload_n 0, 1) := by decide +kernel
theorem dX12_goMinute_46 : decode cX12_goMinute 46 = .ok (.iconst 3, 1) := by decide +kernel
theorem dX12_goMinute_47 : decode cX12_goMinute 47 = .ok (.iconst 0, 1) := by decide +kernel
theorem dX12_goMinute_48 : decode cX12_goMinute 48 = .ok (.invokevirtual 317, 3) := by decide +kernel
theorem dX12_goMinute_51 : decode cX12_goMinute 51 = .ok (.iadd, 1) := by decide +kernel
theorem dX12_goMinute_52 : decode cX12_goMinute 52 = .ok (.sipush 9999, 3) := by decide +kernel
theorem dX12_goMinute_55 : decode cX12_goMinute 55 = .ok (.invokevirtual 333, 3) := by decide +kernel
theorem dX12_goMinute_58 : decode cX12_goMinute 58 = .ok (.iastore, 1) := by decide +kernel
theorem dX12_goMinute_59 : decode cX12_goMinute 59 = .ok (.aload_n 0, 1) := by decide +kernel
theorem dX12_goMinute_60 : decode cX12_goMinute 60 = .ok (.dup, 1) := by decide +kernel
theorem dX12_goMinute_61 : decode cX12_goMinute 61 = .ok (.getfield 13, 3) := by decide +kernel
theorem dX12_goMinute_64 : decode cX12_goMinute 64 = .ok (.iconst 1, 1) := by decide +kernel
theorem dX12_goMinute_65 : decode cX12_goMinute 65 = .ok (.iadd, 1) := by decide +kernel
theorem dX12_goMinute_66 : decode cX12_goMinute 66 = .ok (.putfield 13, 3) := by decide +kernel
theorem dX12_goMinute_69 : decode cX12_goMinute 69 = .ok (.return_, 1) := by decide +kernel
noncomputable def C_X12_goMinute : List (Nat × qOp) := [(0, qo_ci 0 1),
  (1, qo_istore 1 1),
  (2, qo_iload 1 1),
  (3, qo_aload 0 1),
  (4, qo_getI 12 0),
  (7, qo_icge 33),
  (10, qo_aload 0 1),
  (11, qo_aload 0 1),
  (12, qo_getI 12 2),
  (15, qo_iload 1 1),
  (16, qo_callv [(12, S_X12_has)] 2),
  (19, qo_ifne 27),
  (22, qo_aload 0 1),
  (23, qo_iload 1 1),
  (24, qo_callv [(12, S_X12_goPerson)] 1),
  (27, qo_iinc 1 1),
  (30, qo_goto 2),
  (33, qo_aload 0 1),
  (34, qo_getR 12 3),
  (37, qo_ci 0 1),
  (38, qo_aload 0 1),
  (39, qo_aload 0 1),
  (40, qo_getR 12 3),
  (43, qo_ci 0 1),
  (44, qo_iaload),
  (45, qo_aload 0 1),
  (46, qo_ci 3 1),
  (47, qo_ci 0 1),
  (48, qo_callv [(12, S_X12_lastOf)] 2),
  (51, qo_iadd),
  (52, qo_ci 9999 3),
  (55, qo_callv [(12, S_X12_least)] 2),
  (58, qo_iastore),
  (59, qo_aload 0 1),
  (60, qo_dup),
  (61, qo_getI 12 1),
  (64, qo_ci 1 1),
  (65, qo_iadd),
  (66, qo_putI 12 1),
  (69, qo_ret none 0)]
noncomputable def S_X12_goMinute : qSem := qM 2 C_X12_goMinute
set_option maxRecDepth 20000 in
theorem K_X12_goMinute {X : qX} {l : Launch} : ∀ q ∈ C_X12_goMinute, qOk X l 7 cX12_goMinute 2 RX12 "goMinute" none q.1 q.2 := by
  unfold C_X12_goMinute
  refine qcons (qk_iconst dX12_goMinute_0 (by decide)) ?_
  refine qcons (qk_istore_n dX12_goMinute_1 rfl) ?_
  refine qcons (qk_iload_n dX12_goMinute_2 rfl) ?_
  refine qcons (qk_aload_n dX12_goMinute_3 rfl) ?_
  refine qcons (qk_getI fd_X12_7 kd_12_0 dX12_goMinute_4) ?_
  refine qcons (qk_icge dX12_goMinute_7 (by decide)) ?_
  refine qcons (qk_aload_n dX12_goMinute_10 rfl) ?_
  refine qcons (qk_aload_n dX12_goMinute_11 rfl) ?_
  refine qcons (qk_getI fd_X12_16 kd_12_2 dX12_goMinute_12) ?_
  refine qcons (qk_iload_n dX12_goMinute_15 rfl) ?_
  refine qcons (qk_callv (ins := fun i => .invokevirtual i) (qconsV (qrunV M_X12_has (by decide) (by decide) (by decide) rfl tw_1102 tw_1104 tw_23 tw_1105 tw_90 ⟨by decide, by decide⟩ (by decide +kernel)) qnilV) dX12_goMinute_16) ?_
  refine qcons (qk_ifne dX12_goMinute_19 (by decide)) ?_
  refine qcons (qk_aload_n dX12_goMinute_22 rfl) ?_
  refine qcons (qk_iload_n dX12_goMinute_23 rfl) ?_
  refine qcons (qk_callv (ins := fun i => .invokevirtual i) (qconsV (qrunV M_X12_goPerson (by decide) (by decide) (by decide) rfl tw_1258 tw_1260 tw_55 tw_1261 tw_90 ⟨by decide, by decide⟩ (by decide +kernel)) qnilV) dX12_goMinute_24) ?_
  refine qcons (qk_iinc dX12_goMinute_27) ?_
  refine qcons (qk_goto dX12_goMinute_30 (by decide)) ?_
  refine qcons (qk_aload_n dX12_goMinute_33 rfl) ?_
  refine qcons (qk_getR fd_X12_19 kd_12_3 dX12_goMinute_34) ?_
  refine qcons (qk_iconst dX12_goMinute_37 (by decide)) ?_
  refine qcons (qk_aload_n dX12_goMinute_38 rfl) ?_
  refine qcons (qk_aload_n dX12_goMinute_39 rfl) ?_
  refine qcons (qk_getR fd_X12_19 kd_12_3 dX12_goMinute_40) ?_
  refine qcons (qk_iconst dX12_goMinute_43 (by decide)) ?_
  refine qcons (qk_iaload dX12_goMinute_44) ?_
  refine qcons (qk_aload_n dX12_goMinute_45 rfl) ?_
  refine qcons (qk_iconst dX12_goMinute_46 (by decide)) ?_
  refine qcons (qk_iconst dX12_goMinute_47 (by decide)) ?_
  refine qcons (qk_callv (ins := fun i => .invokevirtual i) (qconsV (qrunV M_X12_lastOf (by decide) (by decide) (by decide) rfl tw_1238 tw_1240 tw_51 tw_1241 tw_90 ⟨by decide, by decide⟩ (by decide +kernel)) qnilV) dX12_goMinute_48) ?_
  refine qcons (qk_iadd dX12_goMinute_51) ?_
  refine qcons (qk_sipush dX12_goMinute_52 (by decide) (by decide)) ?_
  refine qcons (qk_callv (ins := fun i => .invokevirtual i) (qconsV (qrunV M_X12_least (by decide) (by decide) (by decide) rfl tw_1226 tw_1228 tw_49 tw_1229 tw_90 ⟨by decide, by decide⟩ (by decide +kernel)) qnilV) dX12_goMinute_55) ?_
  refine qcons (qk_iastore dX12_goMinute_58) ?_
  refine qcons (qk_aload_n dX12_goMinute_59 rfl) ?_
  refine qcons (qk_dup dX12_goMinute_60) ?_
  refine qcons (qk_getI fd_X12_13 kd_12_1 dX12_goMinute_61) ?_
  refine qcons (qk_iconst dX12_goMinute_64 (by decide)) ?_
  refine qcons (qk_iadd dX12_goMinute_65) ?_
  refine qcons (qk_putI (ty := .int) fd_X12_13 tyX12_ok nmX12 (Or.inl rfl) kd_12_1 (tyX12_ok 1 (by decide)) dX12_goMinute_66) ?_
  refine qcons (qk_ret dX12_goMinute_69 (Or.inl ⟨rfl, rfl⟩)) ?_
  exact qnil
theorem M_X12_goMinute {X : qX} {l : Launch} : qMet X l 7 yX12_goMinute cX12_goMinute 2 none S_X12_goMinute := qmet_of K_X12_goMinute (by decide) rfl rfl
theorem dX12_goMinutes_0 : decode cX12_goMinutes 0 = .ok (.iconst 0, 1) := by decide +kernel
theorem dX12_goMinutes_1 : decode cX12_goMinutes 1 = .ok (.istore_n 2, 1) := by decide +kernel
theorem dX12_goMinutes_2 : decode cX12_goMinutes 2 = .ok (.iload_n 2, 1) := by decide +kernel
theorem dX12_goMinutes_3 : decode cX12_goMinutes 3 = .ok (.iload_n 1, 1) := by decide +kernel
theorem dX12_goMinutes_4 : decode cX12_goMinutes 4 = .ok (.if_icmp .ge 13, 3) := by decide +kernel
theorem dX12_goMinutes_7 : decode cX12_goMinutes 7 = .ok (.aload_n 0, 1) := by decide +kernel
theorem dX12_goMinutes_8 : decode cX12_goMinutes 8 = .ok (.invokevirtual 348, 3) := by decide +kernel
theorem dX12_goMinutes_11 : decode cX12_goMinutes 11 = .ok (.iinc 2 1, 3) := by decide +kernel
theorem dX12_goMinutes_14 : decode cX12_goMinutes 14 = .ok (.goto (-12), 3) := by decide +kernel
theorem dX12_goMinutes_17 : decode cX12_goMinutes 17 = .ok (.return_, 1) := by decide +kernel
noncomputable def C_X12_goMinutes : List (Nat × qOp) := [(0, qo_ci 0 1),
  (1, qo_istore 2 1),
  (2, qo_iload 2 1),
  (3, qo_iload 1 1),
  (4, qo_icge 17),
  (7, qo_aload 0 1),
  (8, qo_callv [(12, S_X12_goMinute)] 0),
  (11, qo_iinc 2 1),
  (14, qo_goto 2),
  (17, qo_ret none 0)]
noncomputable def S_X12_goMinutes : qSem := qM 3 C_X12_goMinutes
set_option maxRecDepth 20000 in
theorem K_X12_goMinutes {X : qX} {l : Launch} : ∀ q ∈ C_X12_goMinutes, qOk X l 8 cX12_goMinutes 3 RX12 "goMinutes" none q.1 q.2 := by
  unfold C_X12_goMinutes
  refine qcons (qk_iconst dX12_goMinutes_0 (by decide)) ?_
  refine qcons (qk_istore_n dX12_goMinutes_1 rfl) ?_
  refine qcons (qk_iload_n dX12_goMinutes_2 rfl) ?_
  refine qcons (qk_iload_n dX12_goMinutes_3 rfl) ?_
  refine qcons (qk_icge dX12_goMinutes_4 (by decide)) ?_
  refine qcons (qk_aload_n dX12_goMinutes_7 rfl) ?_
  refine qcons (qk_callv (ins := fun i => .invokevirtual i) (qconsV (qrunV M_X12_goMinute (by decide) (by decide) (by decide) rfl tw_1254 tw_1256 tw_54 tw_1257 tw_90 ⟨by decide, by decide⟩ (by decide +kernel)) qnilV) dX12_goMinutes_8) ?_
  refine qcons (qk_iinc dX12_goMinutes_11) ?_
  refine qcons (qk_goto dX12_goMinutes_14 (by decide)) ?_
  refine qcons (qk_ret dX12_goMinutes_17 (Or.inl ⟨rfl, rfl⟩)) ?_
  exact qnil
theorem M_X12_goMinutes {X : qX} {l : Launch} : qMet X l 8 yX12_goMinutes cX12_goMinutes 3 none S_X12_goMinutes := qmet_of K_X12_goMinutes (by decide) rfl rfl
theorem dX12_pass_0 : decode cX12_pass 0 = .ok (.aload_n 0, 1) := by decide +kernel
theorem dX12_pass_1 : decode cX12_pass 1 = .ok (.iload_n 1, 1) := by decide +kernel
theorem dX12_pass_2 : decode cX12_pass 2 = .ok (.invokevirtual 351, 3) := by decide +kernel
theorem dX12_pass_5 : decode cX12_pass 5 = .ok (.ifCond .ne 6, 3) := by decide +kernel
theorem dX12_pass_8 : decode cX12_pass 8 = .ok (.bipush (-2), 2) := by decide +kernel
theorem dX12_pass_10 : decode cX12_pass 10 = .ok (.ireturn, 1) := by decide +kernel
theorem dX12_pass_11 : decode cX12_pass 11 = .ok (.aload_n 0, 1) := by decide +kernel
theorem dX12_pass_12 : decode cX12_pass 12 = .ok (.getfield 13, 3) := by decide +kernel
theorem dX12_pass_15 : decode cX12_pass 15 = .ok (.iload_n 1, 1) := by decide +kernel
theorem dX12_pass_16 : decode cX12_pass 16 = .ok (.iadd, 1) := by decide +kernel
theorem dX12_pass_17 : decode cX12_pass 17 = .ok (.sipush 9999, 3) := by decide +kernel
theorem dX12_pass_20 : decode cX12_pass 20 = .ok (.if_icmp .le 6, 3) := by decide +kernel
theorem dX12_pass_23 : decode cX12_pass 23 = .ok (.bipush (-3), 2) := by decide +kernel
theorem dX12_pass_25 : decode cX12_pass 25 = .ok (.ireturn, 1) := by decide +kernel
theorem dX12_pass_26 : decode cX12_pass 26 = .ok (.aload_n 0, 1) := by decide +kernel
theorem dX12_pass_27 : decode cX12_pass 27 = .ok (.iload_n 1, 1) := by decide +kernel
theorem dX12_pass_28 : decode cX12_pass 28 = .ok (.invokevirtual 354, 3) := by decide +kernel
theorem dX12_pass_31 : decode cX12_pass 31 = .ok (.aload_n 0, 1) := by decide +kernel
theorem dX12_pass_32 : decode cX12_pass 32 = .ok (.getfield 19, 3) := by decide +kernel
theorem dX12_pass_35 : decode cX12_pass 35 = .ok (.iconst 4, 1) := by decide +kernel
theorem dX12_pass_36 : decode cX12_pass 36 = .ok (.iaload, 1) := by decide +kernel
theorem dX12_pass_37 : decode cX12_pass 37 = .ok (.ireturn, 1) := by decide +kernel
noncomputable def C_X12_pass : List (Nat × qOp) := [(0, qo_aload 0 1),
  (1, qo_iload 1 1),
  (2, qo_callv [(12, S_X12_isMinutes)] 1),
  (5, qo_ifne 11),
  (8, qo_ci (-2) 2),
  (10, qo_ret (some .int) 1),
  (11, qo_aload 0 1),
  (12, qo_getI 12 1),
  (15, qo_iload 1 1),
  (16, qo_iadd),
  (17, qo_ci 9999 3),
  (20, qo_icle 26),
  (23, qo_ci (-3) 2),
  (25, qo_ret (some .int) 1),
  (26, qo_aload 0 1),
  (27, qo_iload 1 1),
  (28, qo_callv [(12, S_X12_goMinutes)] 1),
  (31, qo_aload 0 1),
  (32, qo_getR 12 3),
  (35, qo_ci 4 1),
  (36, qo_iaload),
  (37, qo_ret (some .int) 1)]
noncomputable def S_X12_pass : qSem := qM 2 C_X12_pass
set_option maxRecDepth 20000 in
theorem K_X12_pass {X : qX} {l : Launch} : ∀ q ∈ C_X12_pass, qOk X l 9 cX12_pass 2 RX12 "pass" (some .int) q.1 q.2 := by
  unfold C_X12_pass
  refine qcons (qk_aload_n dX12_pass_0 rfl) ?_
  refine qcons (qk_iload_n dX12_pass_1 rfl) ?_
  refine qcons (qk_callv (ins := fun i => .invokevirtual i) (qconsV (qrunV M_X12_isMinutes (by decide) (by decide) (by decide) rfl tw_1246 tw_1248 tw_52 tw_1249 tw_90 ⟨by decide, by decide⟩ (by decide +kernel)) qnilV) dX12_pass_2) ?_
  refine qcons (qk_ifne dX12_pass_5 (by decide)) ?_
  refine qcons (qk_bipush dX12_pass_8 (by decide) (by decide)) ?_
  refine qcons (qk_ret dX12_pass_10 (Or.inr (Or.inl ⟨rfl, rfl⟩))) ?_
  refine qcons (qk_aload_n dX12_pass_11 rfl) ?_
  refine qcons (qk_getI fd_X12_13 kd_12_1 dX12_pass_12) ?_
  refine qcons (qk_iload_n dX12_pass_15 rfl) ?_
  refine qcons (qk_iadd dX12_pass_16) ?_
  refine qcons (qk_sipush dX12_pass_17 (by decide) (by decide)) ?_
  refine qcons (qk_icle dX12_pass_20 (by decide)) ?_
  refine qcons (qk_bipush dX12_pass_23 (by decide) (by decide)) ?_
  refine qcons (qk_ret dX12_pass_25 (Or.inr (Or.inl ⟨rfl, rfl⟩))) ?_
  refine qcons (qk_aload_n dX12_pass_26 rfl) ?_
  refine qcons (qk_iload_n dX12_pass_27 rfl) ?_
  refine qcons (qk_callv (ins := fun i => .invokevirtual i) (qconsV (qrunV M_X12_goMinutes (by decide) (by decide) (by decide) rfl tw_1250 tw_1252 tw_53 tw_1253 tw_90 ⟨by decide, by decide⟩ (by decide +kernel)) qnilV) dX12_pass_28) ?_
  refine qcons (qk_aload_n dX12_pass_31 rfl) ?_
  refine qcons (qk_getR fd_X12_19 kd_12_3 dX12_pass_32) ?_
  refine qcons (qk_iconst dX12_pass_35 (by decide)) ?_
  refine qcons (qk_iaload dX12_pass_36) ?_
  refine qcons (qk_ret dX12_pass_37 (Or.inr (Or.inl ⟨rfl, rfl⟩))) ?_
  exact qnil
theorem M_X12_pass {X : qX} {l : Launch} : qMet X l 9 yX12_pass cX12_pass 2 (some .int) S_X12_pass := qmet_of K_X12_pass (by decide) rfl rfl
theorem dX12_save_0 : decode cX12_save 0 = .ok (.aload_n 0, 1) := by decide +kernel
theorem dX12_save_1 : decode cX12_save 1 = .ok (.ldc_w 357, 3) := by decide +kernel
theorem dX12_save_4 : decode cX12_save 4 = .ok (.putfield 100, 3) := by decide +kernel
theorem dX12_save_7 : decode cX12_save 7 = .ok (.aload_n 0, 1) := by decide +kernel
theorem dX12_save_8 : decode cX12_save 8 = .ok (.ldc_w 357, 3) := by decide +kernel
theorem dX12_save_11 : decode cX12_save 11 = .ok (.putfield 103, 3) := by decide +kernel
theorem dX12_save_14 : decode cX12_save 14 = .ok (.aload_n 0, 1) := by decide +kernel
theorem dX12_save_15 : decode cX12_save 15 = .ok (.aload_n 0, 1) := by decide +kernel
theorem dX12_save_16 : decode cX12_save 16 = .ok (.getfield 13, 3) := by decide +kernel
theorem dX12_save_19 : decode cX12_save 19 = .ok (.putfield 106, 3) := by decide +kernel
theorem dX12_save_22 : decode cX12_save 22 = .ok (.aload_n 0, 1) := by decide +kernel
theorem dX12_save_23 : decode cX12_save 23 = .ok (.aload_n 0, 1) := by decide +kernel
theorem dX12_save_24 : decode cX12_save 24 = .ok (.getfield 16, 3) := by decide +kernel
theorem dX12_save_27 : decode cX12_save 27 = .ok (.putfield 109, 3) := by decide +kernel
theorem dX12_save_30 : decode cX12_save 30 = .ok (.iconst 0, 1) := by decide +kernel
theorem dX12_save_31 : decode cX12_save 31 = .ok (.istore_n 1, 1) := by decide +kernel
theorem dX12_save_32 : decode cX12_save 32 = .ok (.iload_n 1, 1) := by decide +kernel
theorem dX12_save_33 : decode cX12_save 33 = .ok (.iconst 5, 1) := by decide +kernel
theorem dX12_save_34 : decode cX12_save 34 = .ok (.if_icmp .ge 21, 3) := by decide +kernel
theorem dX12_save_37 : decode cX12_save 37 = .ok (.aload_n 0, 1) := by decide +kernel
theorem dX12_save_38 : decode cX12_save 38 = .ok (.getfield 112, 3) := by decide +kernel
theorem dX12_save_41 : decode cX12_save 41 = .ok (.iload_n 1, 1) := by decide +kernel
theorem dX12_save_42 : decode cX12_save 42 = .ok (.aload_n 0, 1) := by decide +kernel
theorem dX12_save_43 : decode cX12_save 43 = .ok (.getfield 19, 3) := by decide +kernel
theorem dX12_save_46 : decode cX12_save 46 = .ok (.iload_n 1, 1) := by decide +kernel
theorem dX12_save_47 : decode cX12_save 47 = .ok (.iaload, 1) := by decide +kernel
theorem dX12_save_48 : decode cX12_save 48 = .ok (.iastore, 1) := by decide +kernel
theorem dX12_save_49 : decode cX12_save 49 = .ok (.iinc 1 1, 3) := by decide +kernel
theorem dX12_save_52 : decode cX12_save 52 = .ok (.goto (-20), 3) := by decide +kernel
theorem dX12_save_55 : decode cX12_save 55 = .ok (.iconst 0, 1) := by decide +kernel
theorem dX12_save_56 : decode cX12_save 56 = .ok (.istore_n 1, 1) := by decide +kernel
theorem dX12_save_57 : decode cX12_save 57 = .ok (.iload_n 1, 1) := by decide +kernel
theorem dX12_save_58 : decode cX12_save 58 = .ok (.bipush 6, 2) := by decide +kernel
theorem dX12_save_60 : decode cX12_save 60 = .ok (.if_icmp .ge 45, 3) := by decide +kernel
theorem dX12_save_63 : decode cX12_save 63 = .ok (.aload_n 0, 1) := by decide +kernel
theorem dX12_save_64 : decode cX12_save 64 = .ok (.getfield 115, 3) := by decide +kernel
theorem dX12_save_67 : decode cX12_save 67 = .ok (.iload_n 1, 1) := by decide +kernel
theorem dX12_save_68 : decode cX12_save 68 = .ok (.aload_n 0, 1) := by decide +kernel
theorem dX12_save_69 : decode cX12_save 69 = .ok (.getfield 29, 3) := by decide +kernel
theorem dX12_save_72 : decode cX12_save 72 = .ok (.iload_n 1, 1) := by decide +kernel
theorem dX12_save_73 : decode cX12_save 73 = .ok (.iaload, 1) := by decide +kernel
theorem dX12_save_74 : decode cX12_save 74 = .ok (.iastore, 1) := by decide +kernel
theorem dX12_save_75 : decode cX12_save 75 = .ok (.aload_n 0, 1) := by decide +kernel
theorem dX12_save_76 : decode cX12_save 76 = .ok (.getfield 118, 3) := by decide +kernel
theorem dX12_save_79 : decode cX12_save 79 = .ok (.iload_n 1, 1) := by decide +kernel
theorem dX12_save_80 : decode cX12_save 80 = .ok (.aload_n 0, 1) := by decide +kernel
theorem dX12_save_81 : decode cX12_save 81 = .ok (.getfield 32, 3) := by decide +kernel
theorem dX12_save_84 : decode cX12_save 84 = .ok (.iload_n 1, 1) := by decide +kernel
theorem dX12_save_85 : decode cX12_save 85 = .ok (.iaload, 1) := by decide +kernel
theorem dX12_save_86 : decode cX12_save 86 = .ok (.iastore, 1) := by decide +kernel
theorem dX12_save_87 : decode cX12_save 87 = .ok (.aload_n 0, 1) := by decide +kernel
theorem dX12_save_88 : decode cX12_save 88 = .ok (.getfield 121, 3) := by decide +kernel
theorem dX12_save_91 : decode cX12_save 91 = .ok (.iload_n 1, 1) := by decide +kernel
theorem dX12_save_92 : decode cX12_save 92 = .ok (.aload_n 0, 1) := by decide +kernel
theorem dX12_save_93 : decode cX12_save 93 = .ok (.getfield 35, 3) := by decide +kernel
theorem dX12_save_96 : decode cX12_save 96 = .ok (.iload_n 1, 1) := by decide +kernel
theorem dX12_save_97 : decode cX12_save 97 = .ok (.iaload, 1) := by decide +kernel
theorem dX12_save_98 : decode cX12_save 98 = .ok (.iastore, 1) := by decide +kernel
theorem dX12_save_99 : decode cX12_save 99 = .ok (.iinc 1 1, 3) := by decide +kernel
theorem dX12_save_102 : decode cX12_save 102 = .ok (.goto (-45), 3) := by decide +kernel
theorem dX12_save_105 : decode cX12_save 105 = .ok (.return_, 1) := by decide +kernel
noncomputable def C_X12_save : List (Nat × qOp) := [(0, qo_aload 0 1),
  (1, qo_ci 2000000000 3),
  (4, qo_putI 12 29),
  (7, qo_aload 0 1),
  (8, qo_ci 2000000000 3),
  (11, qo_putI 12 30),
  (14, qo_aload 0 1),
  (15, qo_aload 0 1),
  (16, qo_getI 12 1),
  (19, qo_putI 12 31),
  (22, qo_aload 0 1),
  (23, qo_aload 0 1),
  (24, qo_getI 12 2),
  (27, qo_putI 12 32),
  (30, qo_ci 0 1),
  (31, qo_istore 1 1),
  (32, qo_iload 1 1),
  (33, qo_ci 5 1),
  (34, qo_icge 55),
  (37, qo_aload 0 1),
  (38, qo_getR 12 33),
  (41, qo_iload 1 1),
  (42, qo_aload 0 1),
  (43, qo_getR 12 3),
  (46, qo_iload 1 1),
  (47, qo_iaload),
  (48, qo_iastore),
  (49, qo_iinc 1 1),
  (52, qo_goto 32),
  (55, qo_ci 0 1),
  (56, qo_istore 1 1),
  (57, qo_iload 1 1),
  (58, qo_ci 6 2),
  (60, qo_icge 105),
  (63, qo_aload 0 1),
  (64, qo_getR 12 34),
  (67, qo_iload 1 1),
  (68, qo_aload 0 1),
  (69, qo_getR 12 6),
  (72, qo_iload 1 1),
  (73, qo_iaload),
  (74, qo_iastore),
  (75, qo_aload 0 1),
  (76, qo_getR 12 35),
  (79, qo_iload 1 1),
  (80, qo_aload 0 1),
  (81, qo_getR 12 7),
  (84, qo_iload 1 1),
  (85, qo_iaload),
  (86, qo_iastore),
  (87, qo_aload 0 1),
  (88, qo_getR 12 36),
  (91, qo_iload 1 1),
  (92, qo_aload 0 1),
  (93, qo_getR 12 8),
  (96, qo_iload 1 1),
  (97, qo_iaload),
  (98, qo_iastore),
  (99, qo_iinc 1 1),
  (102, qo_goto 57),
  (105, qo_ret none 0)]
noncomputable def S_X12_save : qSem := qM 2 C_X12_save
set_option maxRecDepth 20000 in
theorem K_X12_save {X : qX} {l : Launch} : ∀ q ∈ C_X12_save, qOk X l 1 cX12_save 2 RX12 "save" none q.1 q.2 := by
  unfold C_X12_save
  refine qcons (qk_aload_n dX12_save_0 rfl) ?_
  refine qcons (qk_ldcw dX12_save_1 tw_1270 (by decide)) ?_
  refine qcons (qk_putI (ty := .int) fd_X12_100 tyX12_ok nmX12 (Or.inl rfl) kd_12_29 (tyX12_ok 29 (by decide)) dX12_save_4) ?_
  refine qcons (qk_aload_n dX12_save_7 rfl) ?_
  refine qcons (qk_ldcw dX12_save_8 tw_1270 (by decide)) ?_
  refine qcons (qk_putI (ty := .int) fd_X12_103 tyX12_ok nmX12 (Or.inl rfl) kd_12_30 (tyX12_ok 30 (by decide)) dX12_save_11) ?_
  refine qcons (qk_aload_n dX12_save_14 rfl) ?_
  refine qcons (qk_aload_n dX12_save_15 rfl) ?_
  refine qcons (qk_getI fd_X12_13 kd_12_1 dX12_save_16) ?_
  refine qcons (qk_putI (ty := .int) fd_X12_106 tyX12_ok nmX12 (Or.inl rfl) kd_12_31 (tyX12_ok 31 (by decide)) dX12_save_19) ?_
  refine qcons (qk_aload_n dX12_save_22 rfl) ?_
  refine qcons (qk_aload_n dX12_save_23 rfl) ?_
  refine qcons (qk_getI fd_X12_16 kd_12_2 dX12_save_24) ?_
  refine qcons (qk_putI (ty := .int) fd_X12_109 tyX12_ok nmX12 (Or.inl rfl) kd_12_32 (tyX12_ok 32 (by decide)) dX12_save_27) ?_
  refine qcons (qk_iconst dX12_save_30 (by decide)) ?_
  refine qcons (qk_istore_n dX12_save_31 rfl) ?_
  refine qcons (qk_iload_n dX12_save_32 rfl) ?_
  refine qcons (qk_iconst dX12_save_33 (by decide)) ?_
  refine qcons (qk_icge dX12_save_34 (by decide)) ?_
  refine qcons (qk_aload_n dX12_save_37 rfl) ?_
  refine qcons (qk_getR fd_X12_112 kd_12_33 dX12_save_38) ?_
  refine qcons (qk_iload_n dX12_save_41 rfl) ?_
  refine qcons (qk_aload_n dX12_save_42 rfl) ?_
  refine qcons (qk_getR fd_X12_19 kd_12_3 dX12_save_43) ?_
  refine qcons (qk_iload_n dX12_save_46 rfl) ?_
  refine qcons (qk_iaload dX12_save_47) ?_
  refine qcons (qk_iastore dX12_save_48) ?_
  refine qcons (qk_iinc dX12_save_49) ?_
  refine qcons (qk_goto dX12_save_52 (by decide)) ?_
  refine qcons (qk_iconst dX12_save_55 (by decide)) ?_
  refine qcons (qk_istore_n dX12_save_56 rfl) ?_
  refine qcons (qk_iload_n dX12_save_57 rfl) ?_
  refine qcons (qk_bipush dX12_save_58 (by decide) (by decide)) ?_
  refine qcons (qk_icge dX12_save_60 (by decide)) ?_
  refine qcons (qk_aload_n dX12_save_63 rfl) ?_
  refine qcons (qk_getR fd_X12_115 kd_12_34 dX12_save_64) ?_
  refine qcons (qk_iload_n dX12_save_67 rfl) ?_
  refine qcons (qk_aload_n dX12_save_68 rfl) ?_
  refine qcons (qk_getR fd_X12_29 kd_12_6 dX12_save_69) ?_
  refine qcons (qk_iload_n dX12_save_72 rfl) ?_
  refine qcons (qk_iaload dX12_save_73) ?_
  refine qcons (qk_iastore dX12_save_74) ?_
  refine qcons (qk_aload_n dX12_save_75 rfl) ?_
  refine qcons (qk_getR fd_X12_118 kd_12_35 dX12_save_76) ?_
  refine qcons (qk_iload_n dX12_save_79 rfl) ?_
  refine qcons (qk_aload_n dX12_save_80 rfl) ?_
  refine qcons (qk_getR fd_X12_32 kd_12_7 dX12_save_81) ?_
  refine qcons (qk_iload_n dX12_save_84 rfl) ?_
  refine qcons (qk_iaload dX12_save_85) ?_
  refine qcons (qk_iastore dX12_save_86) ?_
  refine qcons (qk_aload_n dX12_save_87 rfl) ?_
  refine qcons (qk_getR fd_X12_121 kd_12_36 dX12_save_88) ?_
  refine qcons (qk_iload_n dX12_save_91 rfl) ?_
  refine qcons (qk_aload_n dX12_save_92 rfl) ?_
  refine qcons (qk_getR fd_X12_35 kd_12_8 dX12_save_93) ?_
  refine qcons (qk_iload_n dX12_save_96 rfl) ?_
  refine qcons (qk_iaload dX12_save_97) ?_
  refine qcons (qk_iastore dX12_save_98) ?_
  refine qcons (qk_iinc dX12_save_99) ?_
  refine qcons (qk_goto dX12_save_102 (by decide)) ?_
  refine qcons (qk_ret dX12_save_105 (Or.inl ⟨rfl, rfl⟩)) ?_
  exact qnil
theorem M_X12_save {X : qX} {l : Launch} : qMet X l 1 yX12_save cX12_save 2 none S_X12_save := qmet_of K_X12_save (by decide) rfl rfl
