theorem dX11_isAllSeenSo_0 : decode cX11_isAllSeenSo 0 = .ok (.iconst 0, 1) := by decide +kernel
theorem dX11_isAllSeenSo_1 : decode cX11_isAllSeenSo 1 = .ok (.istore_n 1, 1) := by decide +kernel
theorem dX11_isAllSeenSo_2 : decode cX11_isAllSeenSo 2 = .ok (.iconst 0, 1) := by decide +kernel
theorem dX11_isAllSeenSo_3 : decode cX11_isAllSeenSo 3 = .ok (.istore_n 2, 1) := by decide +kernel
theorem dX11_isAllSeenSo_4 : decode cX11_isAllSeenSo 4 = .ok (.iload_n 2, 1) := by decide +kernel
theorem dX11_isAllSeenSo_5 : decode cX11_isAllSeenSo 5 = .ok (.aload_n 0, 1) := by decide +kernel
theorem dX11_isAllSeenSo_6 : decode cX11_isAllSeenSo 6 = .ok (.getfield 59, 3) := by decide +kernel
theorem dX11_isAllSeenSo_9 : decode cX11_isAllSeenSo 9 = .ok (.getfield 217, 3) := by decide +kernel
theorem dX11_isAllSeenSo_12 : decode cX11_isAllSeenSo 12 = .ok (.if_icmp .ge 23, 3) := by decide +kernel
theorem dX11_isAllSeenSo_15 : decode cX11_isAllSeenSo 15 = .ok (.iload_n 1, 1) := by decide +kernel
theorem dX11_isAllSeenSo_16 : decode cX11_isAllSeenSo 16 = .ok (.aload_n 0, 1) := by decide +kernel
theorem dX11_isAllSeenSo_17 : decode cX11_isAllSeenSo 17 = .ok (.getfield 59, 3) := by decide +kernel
theorem dX11_isAllSeenSo_20 : decode cX11_isAllSeenSo 20 = .ok (.iload_n 2, 1) := by decide +kernel
theorem dX11_isAllSeenSo_21 : decode cX11_isAllSeenSo 21 = .ok (.iconst 2, 1) := by decide +kernel
theorem dX11_isAllSeenSo_22 : decode cX11_isAllSeenSo 22 = .ok (.invokevirtual 231, 3) := by decide +kernel
theorem dX11_isAllSeenSo_25 : decode cX11_isAllSeenSo 25 = .ok (.invokestatic 234, 3) := by decide +kernel
theorem dX11_isAllSeenSo_28 : decode cX11_isAllSeenSo 28 = .ok (.istore_n 1, 1) := by decide +kernel
theorem dX11_isAllSeenSo_29 : decode cX11_isAllSeenSo 29 = .ok (.iinc 2 1, 3) := by decide +kernel
theorem dX11_isAllSeenSo_32 : decode cX11_isAllSeenSo 32 = .ok (.goto (-28), 3) := by decide +kernel
theorem dX11_isAllSeenSo_35 : decode cX11_isAllSeenSo 35 = .ok (.iconst 0, 1) := by decide +kernel
theorem dX11_isAllSeenSo_36 : decode cX11_isAllSeenSo 36 = .ok (.istore_n 2, 1) := by decide +kernel
theorem dX11_isAllSeenSo_37 : decode cX11_isAllSeenSo 37 = .ok (.iload_n 2, 1) := by decide +kernel
theorem dX11_isAllSeenSo_38 : decode cX11_isAllSeenSo 38 = .ok (.iload_n 1, 1) := by decide +kernel
theorem dX11_isAllSeenSo_39 : decode cX11_isAllSeenSo 39 = .ok (.if_icmp .gt 85, 3) := by decide +kernel
theorem dX11_isAllSeenSo_42 : decode cX11_isAllSeenSo 42 = .ok (.iload_n 2, 1) := by decide +kernel
theorem dX11_isAllSeenSo_43 : decode cX11_isAllSeenSo 43 = .ok (.ifCond .le 12, 3) := by decide +kernel
theorem dX11_isAllSeenSo_46 : decode cX11_isAllSeenSo 46 = .ok (.aload_n 0, 1) := by decide +kernel
theorem dX11_isAllSeenSo_47 : decode cX11_isAllSeenSo 47 = .ok (.getfield 48, 3) := by decide +kernel
theorem dX11_isAllSeenSo_50 : decode cX11_isAllSeenSo 50 = .ok (.iconst 1, 1) := by decide +kernel
theorem dX11_isAllSeenSo_51 : decode cX11_isAllSeenSo 51 = .ok (.invokevirtual 190, 3) := by decide +kernel
theorem dX11_isAllSeenSo_54 : decode cX11_isAllSeenSo 54 = .ok (.pop, 1) := by decide +kernel
theorem dX11_isAllSeenSo_55 : decode cX11_isAllSeenSo 55 = .ok (.iconst 0, 1) := by decide +kernel
theorem dX11_isAllSeenSo_56 : decode cX11_isAllSeenSo 56 = .ok (.istore_n 3, 1) := by decide +kernel
theorem dX11_isAllSeenSo_57 : decode cX11_isAllSeenSo 57 = .ok (.iload_n 3, 1) := by decide +kernel
theorem dX11_isAllSeenSo_58 : decode cX11_isAllSeenSo 58 = .ok (.aload_n 0, 1) := by decide +kernel
theorem dX11_isAllSeenSo_59 : decode cX11_isAllSeenSo 59 = .ok (.getfield 59, 3) := by decide +kernel
theorem dX11_isAllSeenSo_62 : decode cX11_isAllSeenSo 62 = .ok (.getfield 217, 3) := by decide +kernel
theorem dX11_isAllSeenSo_65 : decode cX11_isAllSeenSo 65 = .ok (.if_icmp .ge 53, 3) := by decide +kernel
theorem dX11_isAllSeenSo_68 : decode cX11_isAllSeenSo 68 = .ok (.aload_n 0, 1) := by decide +kernel
theorem dX11_isAllSeenSo_69 : decode cX11_isAllSeenSo 69 = .ok (.getfield 59, 3) := by decide +kernel
theorem dX11_isAllSeenSo_72 : decode cX11_isAllSeenSo 72 = .ok (.iload_n 3, 1) := by decide +kernel
theorem dX11_isAllSeenSo_73 : decode cX11_isAllSeenSo 73 = .ok (.iconst 2, 1) := by decide +kernel
theorem dX11_isAllSeenSo_74 : decode cX11_isAllSeenSo 74 = .ok (.invokevirtual 231, 3) := by decide +kernel
theorem dX11_isAllSeenSo_77 : decode cX11_isAllSeenSo 77 = .ok (.iload_n 2, 1) := by decide +kernel
theorem dX11_isAllSeenSo_78 : decode cX11_isAllSeenSo 78 = .ok (.if_icmp .ne 34, 3) := by decide +kernel
theorem dX11_isAllSeenSo_81 : decode cX11_isAllSeenSo 81 = .ok (.aload_n 0, 1) := by decide +kernel
theorem dX11_isAllSeenSo_82 : decode cX11_isAllSeenSo 82 = .ok (.getfield 48, 3) := by decide +kernel
theorem dX11_isAllSeenSo_85 : decode cX11_isAllSeenSo 85 = .ok (.getfield 161, 3) := by decide +kernel
theorem dX11_isAllSeenSo_88 : decode cX11_isAllSeenSo 88 = .ok (.aload_n 0, 1) := by decide +kernel
theorem dX11_isAllSeenSo_89 : decode cX11_isAllSeenSo 89 = .ok (.getfield 59, 3) := by decide +kernel
theorem dX11_isAllSeenSo_92 : decode cX11_isAllSeenSo 92 = .ok (.iload_n 3, 1) := by decide +kernel
theorem dX11_isAllSeenSo_93 : decode cX11_isAllSeenSo 93 = .ok (.iconst 0, 1) := by decide +kernel
theorem dX11_isAllSeenSo_94 : decode cX11_isAllSeenSo 94 = .ok (.invokevirtual 231, 3) := by decide +kernel
theorem dX11_isAllSeenSo_97 : decode cX11_isAllSeenSo 97 = .ok (.iaload, 1) := by decide +kernel
theorem dX11_isAllSeenSo_98 : decode cX11_isAllSeenSo 98 = .ok (.aload_n 0, 1) := by decide +kernel
theorem dX11_isAllSeenSo_99 : decode cX11_isAllSeenSo 99 = .ok (.getfield 59, 3) := by decide +kernel
theorem dX11_isAllSeenSo_102 : decode cX11_isAllSeenSo 102 = .ok (.iload_n 3, 1) := by decide +kernel
theorem dX11_isAllSeenSo_103 : decode cX11_isAllSeenSo 103 = .ok (.iconst 1, 1) := by decide +kernel
theorem dX11_isAllSeenSo_104 : decode cX11_isAllSeenSo 104 = .ok (.invokevirtual 231, 3) := by decide +kernel
theorem dX11_isAllSeenSo_107 : decode cX11_isAllSeenSo 107 = .ok (.if_icmp .eq 5, 3) := by decide +kernel
theorem dX11_isAllSeenSo_110 : decode cX11_isAllSeenSo 110 = .ok (.iconst 0, 1) := by decide +kernel
theorem dX11_isAllSeenSo_111 : decode cX11_isAllSeenSo 111 = .ok (.ireturn, 1) := by decide +kernel
theorem dX11_isAllSeenSo_112 : decode cX11_isAllSeenSo 112 = .ok (.iinc 3 1, 3) := by decide +kernel
theorem dX11_isAllSeenSo_115 : decode cX11_isAllSeenSo 115 = .ok (.goto (-58), 3) := by decide +kernel
theorem dX11_isAllSeenSo_118 : decode cX11_isAllSeenSo 118 = .ok (.iinc 2 1, 3) := by decide +kernel
theorem dX11_isAllSeenSo_121 : decode cX11_isAllSeenSo 121 = .ok (.goto (-84), 3) := by decide +kernel
theorem dX11_isAllSeenSo_124 : decode cX11_isAllSeenSo 124 = .ok (.iconst 1, 1) := by decide +kernel
theorem dX11_isAllSeenSo_125 : decode cX11_isAllSeenSo 125 = .ok (.ireturn, 1) := by decide +kernel
noncomputable def C_X11_isAllSeenSo : List (Nat × qOp) := [(0, qo_ci 0 1),
  (1, qo_istore 1 1),
  (2, qo_ci 0 1),
  (3, qo_istore 2 1),
  (4, qo_iload 2 1),
  (5, qo_aload 0 1),
  (6, qo_getR 11 3),
  (9, qo_getI 6 3),
  (12, qo_icge 35),
  (15, qo_iload 1 1),
  (16, qo_aload 0 1),
  (17, qo_getR 11 3),
  (20, qo_iload 2 1),
  (21, qo_ci 2 1),
  (22, qo_callv [(6, S_X6_cell)] 2),
  (25, qo_mmax),
  (28, qo_istore 1 1),
  (29, qo_iinc 2 1),
  (32, qo_goto 4),
  (35, qo_ci 0 1),
  (36, qo_istore 2 1),
  (37, qo_iload 2 1),
  (38, qo_iload 1 1),
  (39, qo_icgt 124),
  (42, qo_iload 2 1),
  (43, qo_ifle 55),
  (46, qo_aload 0 1),
  (47, qo_getR 11 1),
  (50, qo_ci 1 1),
  (51, qo_callv [(8, S_X8_minutesGo)] 1),
  (54, qo_pop),
  (55, qo_ci 0 1),
  (56, qo_istore 3 1),
  (57, qo_iload 3 1),
  (58, qo_aload 0 1),
  (59, qo_getR 11 3),
  (62, qo_getI 6 3),
  (65, qo_icge 118),
  (68, qo_aload 0 1),
  (69, qo_getR 11 3),
  (72, qo_iload 3 1),
  (73, qo_ci 2 1),
  (74, qo_callv [(6, S_X6_cell)] 2),
  (77, qo_iload 2 1),
  (78, qo_icne 112),
  (81, qo_aload 0 1),
  (82, qo_getR 11 1),
  (85, qo_getR 8 2),
  (88, qo_aload 0 1),
  (89, qo_getR 11 3),
  (92, qo_iload 3 1),
  (93, qo_ci 0 1),
  (94, qo_callv [(6, S_X6_cell)] 2),
  (97, qo_iaload),
  (98, qo_aload 0 1),
  (99, qo_getR 11 3),
  (102, qo_iload 3 1),
  (103, qo_ci 1 1),
  (104, qo_callv [(6, S_X6_cell)] 2),
  (107, qo_iceq 112),
  (110, qo_ci 0 1),
  (111, qo_ret (some .boolean) 1),
  (112, qo_iinc 3 1),
  (115, qo_goto 57),
  (118, qo_iinc 2 1),
  (121, qo_goto 37),
  (124, qo_ci 1 1),
  (125, qo_ret (some .boolean) 1)]
noncomputable def S_X11_isAllSeenSo : qSem := qM 4 C_X11_isAllSeenSo
set_option maxRecDepth 20000 in
theorem K_X11_isAllSeenSo {X : qX} {l : Launch} : ∀ q ∈ C_X11_isAllSeenSo, qOk X l 6 cX11_isAllSeenSo 4 RX11 "isAllSeenSo" (some .boolean) q.1 q.2 := by
  unfold C_X11_isAllSeenSo
  refine qcons (qk_iconst dX11_isAllSeenSo_0 (by decide)) ?_
  refine qcons (qk_istore_n dX11_isAllSeenSo_1 rfl) ?_
  refine qcons (qk_iconst dX11_isAllSeenSo_2 (by decide)) ?_
  refine qcons (qk_istore_n dX11_isAllSeenSo_3 rfl) ?_
  refine qcons (qk_iload_n dX11_isAllSeenSo_4 rfl) ?_
  refine qcons (qk_aload_n dX11_isAllSeenSo_5 rfl) ?_
  refine qcons (qk_getR fd_X11_59 kd_11_3 dX11_isAllSeenSo_6) ?_
  refine qcons (qk_getI fd_X11_217 kd_6_3 dX11_isAllSeenSo_9) ?_
  refine qcons (qk_icge dX11_isAllSeenSo_12 (by decide)) ?_
  refine qcons (qk_iload_n dX11_isAllSeenSo_15 rfl) ?_
  refine qcons (qk_aload_n dX11_isAllSeenSo_16 rfl) ?_
  refine qcons (qk_getR fd_X11_59 kd_11_3 dX11_isAllSeenSo_17) ?_
  refine qcons (qk_iload_n dX11_isAllSeenSo_20 rfl) ?_
  refine qcons (qk_iconst dX11_isAllSeenSo_21 (by decide)) ?_
  refine qcons (qk_callv (ins := fun i => .invokevirtual i) (qconsV (qrunV M_X6_cell (by decide) (by decide) (by decide) rfl tw_666 tw_667 tw_668 tw_669 tw_88 ⟨by decide, by decide⟩ (by decide +kernel)) qnilV) dX11_isAllSeenSo_22) ?_
  refine qcons (qk_mmax (by decide) tw_670 tw_438 tw_91 tw_439 dX11_isAllSeenSo_25) ?_
  refine qcons (qk_istore_n dX11_isAllSeenSo_28 rfl) ?_
  refine qcons (qk_iinc dX11_isAllSeenSo_29) ?_
  refine qcons (qk_goto dX11_isAllSeenSo_32 (by decide)) ?_
  refine qcons (qk_iconst dX11_isAllSeenSo_35 (by decide)) ?_
  refine qcons (qk_istore_n dX11_isAllSeenSo_36 rfl) ?_
  refine qcons (qk_iload_n dX11_isAllSeenSo_37 rfl) ?_
  refine qcons (qk_iload_n dX11_isAllSeenSo_38 rfl) ?_
  refine qcons (qk_icgt dX11_isAllSeenSo_39 (by decide)) ?_
  refine qcons (qk_iload_n dX11_isAllSeenSo_42 rfl) ?_
  refine qcons (qk_ifle dX11_isAllSeenSo_43 (by decide)) ?_
  refine qcons (qk_aload_n dX11_isAllSeenSo_46 rfl) ?_
  refine qcons (qk_getR fd_X11_48 kd_11_1 dX11_isAllSeenSo_47) ?_
  refine qcons (qk_iconst dX11_isAllSeenSo_50 (by decide)) ?_
  refine qcons (qk_callv (ins := fun i => .invokevirtual i) (qconsV (qrunV M_X8_minutesGo (by decide) (by decide) (by decide) rfl tw_587 tw_588 tw_589 tw_590 tw_87 ⟨by decide, by decide⟩ (by decide +kernel)) qnilV) dX11_isAllSeenSo_51) ?_
  refine qcons (qk_pop dX11_isAllSeenSo_54) ?_
  refine qcons (qk_iconst dX11_isAllSeenSo_55 (by decide)) ?_
  refine qcons (qk_istore_n dX11_isAllSeenSo_56 rfl) ?_
  refine qcons (qk_iload_n dX11_isAllSeenSo_57 rfl) ?_
  refine qcons (qk_aload_n dX11_isAllSeenSo_58 rfl) ?_
  refine qcons (qk_getR fd_X11_59 kd_11_3 dX11_isAllSeenSo_59) ?_
  refine qcons (qk_getI fd_X11_217 kd_6_3 dX11_isAllSeenSo_62) ?_
  refine qcons (qk_icge dX11_isAllSeenSo_65 (by decide)) ?_
  refine qcons (qk_aload_n dX11_isAllSeenSo_68 rfl) ?_
  refine qcons (qk_getR fd_X11_59 kd_11_3 dX11_isAllSeenSo_69) ?_
  refine qcons (qk_iload_n dX11_isAllSeenSo_72 rfl) ?_
  refine qcons (qk_iconst dX11_isAllSeenSo_73 (by decide)) ?_
  refine qcons (qk_callv (ins := fun i => .invokevirtual i) (qconsV (qrunV M_X6_cell (by decide) (by decide) (by decide) rfl tw_666 tw_667 tw_668 tw_669 tw_88 ⟨by decide, by decide⟩ (by decide +kernel)) qnilV) dX11_isAllSeenSo_74) ?_
  refine qcons (qk_iload_n dX11_isAllSeenSo_77 rfl) ?_
  refine qcons (qk_icne dX11_isAllSeenSo_78 (by decide)) ?_
  refine qcons (qk_aload_n dX11_isAllSeenSo_81 rfl) ?_
  refine qcons (qk_getR fd_X11_48 kd_11_1 dX11_isAllSeenSo_82) ?_
  refine qcons (qk_getR fd_X11_161 kd_8_2 dX11_isAllSeenSo_85) ?_
  refine qcons (qk_aload_n dX11_isAllSeenSo_88 rfl) ?_
  refine qcons (qk_getR fd_X11_59 kd_11_3 dX11_isAllSeenSo_89) ?_
  refine qcons (qk_iload_n dX11_isAllSeenSo_92 rfl) ?_
  refine qcons (qk_iconst dX11_isAllSeenSo_93 (by decide)) ?_
  refine qcons (qk_callv (ins := fun i => .invokevirtual i) (qconsV (qrunV M_X6_cell (by decide) (by decide) (by decide) rfl tw_666 tw_667 tw_668 tw_669 tw_88 ⟨by decide, by decide⟩ (by decide +kernel)) qnilV) dX11_isAllSeenSo_94) ?_
  refine qcons (qk_iaload dX11_isAllSeenSo_97) ?_
  refine qcons (qk_aload_n dX11_isAllSeenSo_98 rfl) ?_
  refine qcons (qk_getR fd_X11_59 kd_11_3 dX11_isAllSeenSo_99) ?_
  refine qcons (qk_iload_n dX11_isAllSeenSo_102 rfl) ?_
  refine qcons (qk_iconst dX11_isAllSeenSo_103 (by decide)) ?_
  refine qcons (qk_callv (ins := fun i => .invokevirtual i) (qconsV (qrunV M_X6_cell (by decide) (by decide) (by decide) rfl tw_666 tw_667 tw_668 tw_669 tw_88 ⟨by decide, by decide⟩ (by decide +kernel)) qnilV) dX11_isAllSeenSo_104) ?_
  refine qcons (qk_iceq dX11_isAllSeenSo_107 (by decide)) ?_
  refine qcons (qk_iconst dX11_isAllSeenSo_110 (by decide)) ?_
  refine qcons (qk_ret dX11_isAllSeenSo_111 (Or.inr (Or.inl ⟨rfl, rfl⟩))) ?_
  refine qcons (qk_iinc dX11_isAllSeenSo_112) ?_
  refine qcons (qk_goto dX11_isAllSeenSo_115 (by decide)) ?_
  refine qcons (qk_iinc dX11_isAllSeenSo_118) ?_
  refine qcons (qk_goto dX11_isAllSeenSo_121 (by decide)) ?_
  refine qcons (qk_iconst dX11_isAllSeenSo_124 (by decide)) ?_
  refine qcons (qk_ret dX11_isAllSeenSo_125 (Or.inr (Or.inl ⟨rfl, rfl⟩))) ?_
  exact qnil
theorem M_X11_isAllSeenSo {X : qX} {l : Launch} : qMet X l 6 yX11_isAllSeenSo cX11_isAllSeenSo 4 (some .boolean) S_X11_isAllSeenSo := qmet_of K_X11_isAllSeenSo (by decide) rfl rfl
theorem dX11_fitting_0 : decode cX11_fitting 0 = .ok (.iconst 0, 1) := by decide +kernel
theorem dX11_fitting_1 : decode cX11_fitting 1 = .ok (.istore 5, 2) := by decide +kernel
theorem dX11_fitting_3 : decode cX11_fitting 3 = .ok (.bipush (-5), 2) := by decide +kernel
theorem dX11_fitting_5 : decode cX11_fitting 5 = .ok (.istore 6, 2) := by decide +kernel
theorem dX11_fitting_7 : decode cX11_fitting 7 = .ok (.iconst 0, 1) := by decide +kernel
theorem dX11_fitting_8 : decode cX11_fitting 8 = .ok (.istore 7, 2) := by decide +kernel
theorem dX11_fitting_10 : decode cX11_fitting 10 = .ok (.iload 7, 2) := by decide +kernel
theorem dX11_fitting_12 : decode cX11_fitting 12 = .ok (.iload_n 3, 1) := by decide +kernel
theorem dX11_fitting_13 : decode cX11_fitting 13 = .ok (.if_icmp .gt 44, 3) := by decide +kernel
theorem dX11_fitting_16 : decode cX11_fitting 16 = .ok (.aload_n 0, 1) := by decide +kernel
theorem dX11_fitting_17 : decode cX11_fitting 17 = .ok (.getfield 48, 3) := by decide +kernel
theorem dX11_fitting_20 : decode cX11_fitting 20 = .ok (.aload_n 0, 1) := by decide +kernel
theorem dX11_fitting_21 : decode cX11_fitting 21 = .ok (.getfield 41, 3) := by decide +kernel
theorem dX11_fitting_24 : decode cX11_fitting 24 = .ok (.invokevirtual 193, 3) := by decide +kernel
theorem dX11_fitting_27 : decode cX11_fitting 27 = .ok (.aload_n 1, 1) := by decide +kernel
theorem dX11_fitting_28 : decode cX11_fitting 28 = .ok (.iload_n 2, 1) := by decide +kernel
theorem dX11_fitting_29 : decode cX11_fitting 29 = .ok (.iload 7, 2) := by decide +kernel
theorem dX11_fitting_31 : decode cX11_fitting 31 = .ok (.iastore, 1) := by decide +kernel
theorem dX11_fitting_32 : decode cX11_fitting 32 = .ok (.aload_n 0, 1) := by decide +kernel
theorem dX11_fitting_33 : decode cX11_fitting 33 = .ok (.invokevirtual 227, 3) := by decide +kernel
theorem dX11_fitting_36 : decode cX11_fitting 36 = .ok (.ifCond .eq 15, 3) := by decide +kernel
theorem dX11_fitting_39 : decode cX11_fitting 39 = .ok (.iload 5, 2) := by decide +kernel
theorem dX11_fitting_41 : decode cX11_fitting 41 = .ok (.ifCond .ne 7, 3) := by decide +kernel
theorem dX11_fitting_44 : decode cX11_fitting 44 = .ok (.iload 7, 2) := by decide +kernel
theorem dX11_fitting_46 : decode cX11_fitting 46 = .ok (.istore 6, 2) := by decide +kernel
theorem dX11_fitting_48 : decode cX11_fitting 48 = .ok (.iinc 5 1, 3) := by decide +kernel
theorem dX11_fitting_51 : decode cX11_fitting 51 = .ok (.iinc 7 1, 3) := by decide +kernel
theorem dX11_fitting_54 : decode cX11_fitting 54 = .ok (.goto (-44), 3) := by decide +kernel
theorem dX11_fitting_57 : decode cX11_fitting 57 = .ok (.iload 4, 2) := by decide +kernel
theorem dX11_fitting_59 : decode cX11_fitting 59 = .ok (.ifCond .ne 8, 3) := by decide +kernel
theorem dX11_fitting_62 : decode cX11_fitting 62 = .ok (.iload 5, 2) := by decide +kernel
theorem dX11_fitting_64 : decode cX11_fitting 64 = .ok (.goto 5, 3) := by decide +kernel
theorem dX11_fitting_67 : decode cX11_fitting 67 = .ok (.iload 6, 2) := by decide +kernel
theorem dX11_fitting_69 : decode cX11_fitting 69 = .ok (.ireturn, 1) := by decide +kernel
noncomputable def C_X11_fitting : List (Nat × qOp) := [(0, qo_ci 0 1),
  (1, qo_istore 5 2),
  (3, qo_ci (-5) 2),
  (5, qo_istore 6 2),
  (7, qo_ci 0 1),
  (8, qo_istore 7 2),
  (10, qo_iload 7 2),
  (12, qo_iload 3 1),
  (13, qo_icgt 57),
  (16, qo_aload 0 1),
  (17, qo_getR 11 1),
  (20, qo_aload 0 1),
  (21, qo_getR 11 0),
  (24, qo_callv [(8, S_X8_becomes)] 1),
  (27, qo_aload 1 1),
  (28, qo_iload 2 1),
  (29, qo_iload 7 2),
  (31, qo_iastore),
  (32, qo_aload 0 1),
  (33, qo_callv [(11, S_X11_isAllSeenSo)] 0),
  (36, qo_ifeq 51),
  (39, qo_iload 5 2),
  (41, qo_ifne 48),
  (44, qo_iload 7 2),
  (46, qo_istore 6 2),
  (48, qo_iinc 5 1),
  (51, qo_iinc 7 1),
  (54, qo_goto 10),
  (57, qo_iload 4 2),
  (59, qo_ifne 67),
  (62, qo_iload 5 2),
  (64, qo_goto 69),
  (67, qo_iload 6 2),
  (69, qo_ret (some .int) 1)]
noncomputable def S_X11_fitting : qSem := qM 8 C_X11_fitting
set_option maxRecDepth 20000 in
theorem K_X11_fitting {X : qX} {l : Launch} : ∀ q ∈ C_X11_fitting, qOk X l 7 cX11_fitting 8 RX11 "fitting" (some .int) q.1 q.2 := by
  unfold C_X11_fitting
  refine qcons (qk_iconst dX11_fitting_0 (by decide)) ?_
  refine qcons (qk_istore dX11_fitting_1) ?_
  refine qcons (qk_bipush dX11_fitting_3 (by decide) (by decide)) ?_
  refine qcons (qk_istore dX11_fitting_5) ?_
  refine qcons (qk_iconst dX11_fitting_7 (by decide)) ?_
  refine qcons (qk_istore dX11_fitting_8) ?_
  refine qcons (qk_iload dX11_fitting_10) ?_
  refine qcons (qk_iload_n dX11_fitting_12 rfl) ?_
  refine qcons (qk_icgt dX11_fitting_13 (by decide)) ?_
  refine qcons (qk_aload_n dX11_fitting_16 rfl) ?_
  refine qcons (qk_getR fd_X11_48 kd_11_1 dX11_fitting_17) ?_
  refine qcons (qk_aload_n dX11_fitting_20 rfl) ?_
  refine qcons (qk_getR fd_X11_41 kd_11_0 dX11_fitting_21) ?_
  refine qcons (qk_callv (ins := fun i => .invokevirtual i) (qconsV (qrunV M_X8_becomes (by decide) (by decide) (by decide) rfl tw_601 tw_602 tw_603 tw_604 tw_87 ⟨by decide, by decide⟩ (by decide +kernel)) qnilV) dX11_fitting_24) ?_
  refine qcons (qk_aload_n dX11_fitting_27 rfl) ?_
  refine qcons (qk_iload_n dX11_fitting_28 rfl) ?_
  refine qcons (qk_iload dX11_fitting_29) ?_
  refine qcons (qk_iastore dX11_fitting_31) ?_
  refine qcons (qk_aload_n dX11_fitting_32 rfl) ?_
  refine qcons (qk_callv (ins := fun i => .invokevirtual i) (qconsV (qrunV M_X11_isAllSeenSo (by decide) (by decide) (by decide) rfl tw_662 tw_664 tw_18 tw_665 tw_78 ⟨by decide, by decide⟩ (by decide +kernel)) qnilV) dX11_fitting_33) ?_
  refine qcons (qk_ifeq dX11_fitting_36 (by decide)) ?_
  refine qcons (qk_iload dX11_fitting_39) ?_
  refine qcons (qk_ifne dX11_fitting_41 (by decide)) ?_
  refine qcons (qk_iload dX11_fitting_44) ?_
  refine qcons (qk_istore dX11_fitting_46) ?_
  refine qcons (qk_iinc dX11_fitting_48) ?_
  refine qcons (qk_iinc dX11_fitting_51) ?_
  refine qcons (qk_goto dX11_fitting_54 (by decide)) ?_
  refine qcons (qk_iload dX11_fitting_57) ?_
  refine qcons (qk_ifne dX11_fitting_59 (by decide)) ?_
  refine qcons (qk_iload dX11_fitting_62) ?_
  refine qcons (qk_goto dX11_fitting_64 (by decide)) ?_
  refine qcons (qk_iload dX11_fitting_67) ?_
  refine qcons (qk_ret dX11_fitting_69 (Or.inr (Or.inl ⟨rfl, rfl⟩))) ?_
  exact qnil
theorem M_X11_fitting {X : qX} {l : Launch} : qMet X l 7 yX11_fitting cX11_fitting 8 (some .int) S_X11_fitting := qmet_of K_X11_fitting (by decide) rfl rfl
theorem dX11_were_0 : decode cX11_were 0 = .ok (.iload_n 1, 1) := by decide +kernel
theorem dX11_were_1 : decode cX11_were 1 = .ok (.invokestatic 158, 3) := by decide +kernel
theorem dX11_were_4 : decode cX11_were 4 = .ok (.ifCond .eq 11, 3) := by decide +kernel
theorem dX11_were_7 : decode cX11_were 7 = .ok (.iload_n 2, 1) := by decide +kernel
theorem dX11_were_8 : decode cX11_were 8 = .ok (.iconst 1, 1) := by decide +kernel
theorem dX11_were_9 : decode cX11_were 9 = .ok (.invokestatic 105, 3) := by decide +kernel
theorem dX11_were_12 : decode cX11_were 12 = .ok (.ifCond .ne 5, 3) := by decide +kernel
theorem dX11_were_15 : decode cX11_were 15 = .ok (.iconst (-1), 1) := by decide +kernel
theorem dX11_were_16 : decode cX11_were 16 = .ok (.ireturn, 1) := by decide +kernel
theorem dX11_were_17 : decode cX11_were 17 = .ok (.aload_n 0, 1) := by decide +kernel
theorem dX11_were_18 : decode cX11_were 18 = .ok (.aload_n 0, 1) := by decide +kernel
theorem dX11_were_19 : decode cX11_were 19 = .ok (.getfield 48, 3) := by decide +kernel
theorem dX11_were_22 : decode cX11_were 22 = .ok (.getfield 161, 3) := by decide +kernel
theorem dX11_were_25 : decode cX11_were 25 = .ok (.iload_n 1, 1) := by decide +kernel
theorem dX11_were_26 : decode cX11_were 26 = .ok (.bipush 40, 2) := by decide +kernel
theorem dX11_were_28 : decode cX11_were 28 = .ok (.iload_n 2, 1) := by decide +kernel
theorem dX11_were_29 : decode cX11_were 29 = .ok (.invokevirtual 223, 3) := by decide +kernel
theorem dX11_were_32 : decode cX11_were 32 = .ok (.ireturn, 1) := by decide +kernel
noncomputable def C_X11_were : List (Nat × qOp) := [(0, qo_iload 1 1),
  (1, qo_calls S_X11_isHeap 1),
  (4, qo_ifeq 15),
  (7, qo_iload 2 1),
  (8, qo_ci 1 1),
  (9, qo_calls S_X11_isIn 2),
  (12, qo_ifne 17),
  (15, qo_ci (-1) 1),
  (16, qo_ret (some .int) 1),
  (17, qo_aload 0 1),
  (18, qo_aload 0 1),
  (19, qo_getR 11 1),
  (22, qo_getR 8 2),
  (25, qo_iload 1 1),
  (26, qo_ci 40 2),
  (28, qo_iload 2 1),
  (29, qo_callv [(11, S_X11_fitting)] 4),
  (32, qo_ret (some .int) 1)]
noncomputable def S_X11_were : qSem := qM 3 C_X11_were
set_option maxRecDepth 20000 in
theorem K_X11_were {X : qX} {l : Launch} : ∀ q ∈ C_X11_were, qOk X l 8 cX11_were 3 RX11 "were" (some .int) q.1 q.2 := by
  unfold C_X11_were
  refine qcons (qk_iload_n dX11_were_0 rfl) ?_
  refine qcons (qk_calls (qrunS M_X11_isHeap (by decide) (by decide) tw_456 tw_457 tw_458 tw_78 ⟨by decide, by decide⟩ (by decide +kernel)) dX11_were_1) ?_
  refine qcons (qk_ifeq dX11_were_4 (by decide)) ?_
  refine qcons (qk_iload_n dX11_were_7 rfl) ?_
  refine qcons (qk_iconst dX11_were_8 (by decide)) ?_
  refine qcons (qk_calls (qrunS M_X11_isIn (by decide) (by decide) tw_377 tw_378 tw_379 tw_78 ⟨by decide, by decide⟩ (by decide +kernel)) dX11_were_9) ?_
  refine qcons (qk_ifne dX11_were_12 (by decide)) ?_
  refine qcons (qk_iconst dX11_were_15 (by decide)) ?_
  refine qcons (qk_ret dX11_were_16 (Or.inr (Or.inl ⟨rfl, rfl⟩))) ?_
  refine qcons (qk_aload_n dX11_were_17 rfl) ?_
  refine qcons (qk_aload_n dX11_were_18 rfl) ?_
  refine qcons (qk_getR fd_X11_48 kd_11_1 dX11_were_19) ?_
  refine qcons (qk_getR fd_X11_161 kd_8_2 dX11_were_22) ?_
  refine qcons (qk_iload_n dX11_were_25 rfl) ?_
  refine qcons (qk_bipush dX11_were_26 (by decide) (by decide)) ?_
  refine qcons (qk_iload_n dX11_were_28 rfl) ?_
  refine qcons (qk_callv (ins := fun i => .invokevirtual i) (qconsV (qrunV M_X11_fitting (by decide) (by decide) (by decide) rfl tw_658 tw_660 tw_17 tw_661 tw_78 ⟨by decide, by decide⟩ (by decide +kernel)) qnilV) dX11_were_29) ?_
  refine qcons (qk_ret dX11_were_32 (Or.inr (Or.inl ⟨rfl, rfl⟩))) ?_
  exact qnil
theorem M_X11_were {X : qX} {l : Launch} : qMet X l 8 yX11_were cX11_were 3 (some .int) S_X11_were := qmet_of K_X11_were (by decide) rfl rfl
theorem dX11_can_0 : decode cX11_can 0 = .ok (.aload_n 0, 1) := by decide +kernel
theorem dX11_can_1 : decode cX11_can 1 = .ok (.iload_n 1, 1) := by decide +kernel
theorem dX11_can_2 : decode cX11_can 2 = .ok (.invokevirtual 121, 3) := by decide +kernel
theorem dX11_can_5 : decode cX11_can 5 = .ok (.ifCond .eq 11, 3) := by decide +kernel
theorem dX11_can_8 : decode cX11_can 8 = .ok (.iload_n 2, 1) := by decide +kernel
theorem dX11_can_9 : decode cX11_can 9 = .ok (.iconst 1, 1) := by decide +kernel
theorem dX11_can_10 : decode cX11_can 10 = .ok (.invokestatic 105, 3) := by decide +kernel
theorem dX11_can_13 : decode cX11_can 13 = .ok (.ifCond .ne 5, 3) := by decide +kernel
theorem dX11_can_16 : decode cX11_can 16 = .ok (.iconst (-1), 1) := by decide +kernel
theorem dX11_can_17 : decode cX11_can 17 = .ok (.ireturn, 1) := by decide +kernel
theorem dX11_can_18 : decode cX11_can 18 = .ok (.aload_n 0, 1) := by decide +kernel
theorem dX11_can_19 : decode cX11_can 19 = .ok (.aload_n 0, 1) := by decide +kernel
theorem dX11_can_20 : decode cX11_can 20 = .ok (.getfield 48, 3) := by decide +kernel
theorem dX11_can_23 : decode cX11_can 23 = .ok (.getfield 127, 3) := by decide +kernel
theorem dX11_can_26 : decode cX11_can 26 = .ok (.iload_n 1, 1) := by decide +kernel
theorem dX11_can_27 : decode cX11_can 27 = .ok (.bipush 9, 2) := by decide +kernel
theorem dX11_can_29 : decode cX11_can 29 = .ok (.iload_n 2, 1) := by decide +kernel
theorem dX11_can_30 : decode cX11_can 30 = .ok (.invokevirtual 223, 3) := by decide +kernel
theorem dX11_can_33 : decode cX11_can 33 = .ok (.ireturn, 1) := by decide +kernel
noncomputable def C_X11_can : List (Nat × qOp) := [(0, qo_aload 0 1),
  (1, qo_iload 1 1),
  (2, qo_callv [(11, S_X11_isPerson)] 1),
  (5, qo_ifeq 16),
  (8, qo_iload 2 1),
  (9, qo_ci 1 1),
  (10, qo_calls S_X11_isIn 2),
  (13, qo_ifne 18),
  (16, qo_ci (-1) 1),
  (17, qo_ret (some .int) 1),
  (18, qo_aload 0 1),
  (19, qo_aload 0 1),
  (20, qo_getR 11 1),
  (23, qo_getR 8 4),
  (26, qo_iload 1 1),
  (27, qo_ci 9 2),
  (29, qo_iload 2 1),
  (30, qo_callv [(11, S_X11_fitting)] 4),
  (33, qo_ret (some .int) 1)]
noncomputable def S_X11_can : qSem := qM 3 C_X11_can
set_option maxRecDepth 20000 in
theorem K_X11_can {X : qX} {l : Launch} : ∀ q ∈ C_X11_can, qOk X l 8 cX11_can 3 RX11 "can" (some .int) q.1 q.2 := by
  unfold C_X11_can
  refine qcons (qk_aload_n dX11_can_0 rfl) ?_
  refine qcons (qk_iload_n dX11_can_1 rfl) ?_
  refine qcons (qk_callv (ins := fun i => .invokevirtual i) (qconsV (qrunV M_X11_isPerson (by decide) (by decide) (by decide) rfl tw_391 tw_393 tw_0 tw_394 tw_78 ⟨by decide, by decide⟩ (by decide +kernel)) qnilV) dX11_can_2) ?_
  refine qcons (qk_ifeq dX11_can_5 (by decide)) ?_
  refine qcons (qk_iload_n dX11_can_8 rfl) ?_
  refine qcons (qk_iconst dX11_can_9 (by decide)) ?_
  refine qcons (qk_calls (qrunS M_X11_isIn (by decide) (by decide) tw_377 tw_378 tw_379 tw_78 ⟨by decide, by decide⟩ (by decide +kernel)) dX11_can_10) ?_
  refine qcons (qk_ifne dX11_can_13 (by decide)) ?_
  refine qcons (qk_iconst dX11_can_16 (by decide)) ?_
  refine qcons (qk_ret dX11_can_17 (Or.inr (Or.inl ⟨rfl, rfl⟩))) ?_
  refine qcons (qk_aload_n dX11_can_18 rfl) ?_
  refine qcons (qk_aload_n dX11_can_19 rfl) ?_
  refine qcons (qk_getR fd_X11_48 kd_11_1 dX11_can_20) ?_
  refine qcons (qk_getR fd_X11_127 kd_8_4 dX11_can_23) ?_
  refine qcons (qk_iload_n dX11_can_26 rfl) ?_
  refine qcons (qk_bipush dX11_can_27 (by decide) (by decide)) ?_
  refine qcons (qk_iload_n dX11_can_29 rfl) ?_
  refine qcons (qk_callv (ins := fun i => .invokevirtual i) (qconsV (qrunV M_X11_fitting (by decide) (by decide) (by decide) rfl tw_658 tw_660 tw_17 tw_661 tw_78 ⟨by decide, by decide⟩ (by decide +kernel)) qnilV) dX11_can_30) ?_
  refine qcons (qk_ret dX11_can_33 (Or.inr (Or.inl ⟨rfl, rfl⟩))) ?_
  exact qnil
theorem M_X11_can {X : qX} {l : Launch} : qMet X l 8 yX11_can cX11_can 3 (some .int) S_X11_can := qmet_of K_X11_can (by decide) rfl rfl
theorem dX11_partOfFraction_0 : decode cX11_partOfFraction 0 = .ok (.iload_n 0, 1) := by decide +kernel
theorem dX11_partOfFraction_1 : decode cX11_partOfFraction 1 = .ok (.istore_n 3, 1) := by decide +kernel
theorem dX11_partOfFraction_2 : decode cX11_partOfFraction 2 = .ok (.iload_n 1, 1) := by decide +kernel
theorem dX11_partOfFraction_3 : decode cX11_partOfFraction 3 = .ok (.istore 4, 2) := by decide +kernel
theorem dX11_partOfFraction_5 : decode cX11_partOfFraction 5 = .ok (.iconst 0, 1) := by decide +kernel
theorem dX11_partOfFraction_6 : decode cX11_partOfFraction 6 = .ok (.istore 5, 2) := by decide +kernel
theorem dX11_partOfFraction_8 : decode cX11_partOfFraction 8 = .ok (.iload 5, 2) := by decide +kernel
theorem dX11_partOfFraction_10 : decode cX11_partOfFraction 10 = .ok (.bipush 64, 2) := by decide +kernel
theorem dX11_partOfFraction_12 : decode cX11_partOfFraction 12 = .ok (.if_icmp .ge 27, 3) := by decide +kernel
theorem dX11_partOfFraction_15 : decode cX11_partOfFraction 15 = .ok (.iload 4, 2) := by decide +kernel
theorem dX11_partOfFraction_17 : decode cX11_partOfFraction 17 = .ok (.ifCond .eq 22, 3) := by decide +kernel
theorem dX11_partOfFraction_20 : decode cX11_partOfFraction 20 = .ok (.iload_n 3, 1) := by decide +kernel
theorem dX11_partOfFraction_21 : decode cX11_partOfFraction 21 = .ok (.iload 4, 2) := by decide +kernel
theorem dX11_partOfFraction_23 : decode cX11_partOfFraction 23 = .ok (.irem, 1) := by decide +kernel
theorem dX11_partOfFraction_24 : decode cX11_partOfFraction 24 = .ok (.istore 6, 2) := by decide +kernel
theorem dX11_partOfFraction_26 : decode cX11_partOfFraction 26 = .ok (.iload 4, 2) := by decide +kernel
theorem dX11_partOfFraction_28 : decode cX11_partOfFraction 28 = .ok (.istore_n 3, 1) := by decide +kernel
theorem dX11_partOfFraction_29 : decode cX11_partOfFraction 29 = .ok (.iload 6, 2) := by decide +kernel
theorem dX11_partOfFraction_31 : decode cX11_partOfFraction 31 = .ok (.istore 4, 2) := by decide +kernel
theorem dX11_partOfFraction_33 : decode cX11_partOfFraction 33 = .ok (.iinc 5 1, 3) := by decide +kernel
theorem dX11_partOfFraction_36 : decode cX11_partOfFraction 36 = .ok (.goto (-28), 3) := by decide +kernel
theorem dX11_partOfFraction_39 : decode cX11_partOfFraction 39 = .ok (.iconst 1, 1) := by decide +kernel
theorem dX11_partOfFraction_40 : decode cX11_partOfFraction 40 = .ok (.iload_n 3, 1) := by decide +kernel
theorem dX11_partOfFraction_41 : decode cX11_partOfFraction 41 = .ok (.invokestatic 234, 3) := by decide +kernel
theorem dX11_partOfFraction_44 : decode cX11_partOfFraction 44 = .ok (.istore 5, 2) := by decide +kernel
theorem dX11_partOfFraction_46 : decode cX11_partOfFraction 46 = .ok (.iload_n 2, 1) := by decide +kernel
theorem dX11_partOfFraction_47 : decode cX11_partOfFraction 47 = .ok (.ifCond .ne 7, 3) := by decide +kernel
theorem dX11_partOfFraction_50 : decode cX11_partOfFraction 50 = .ok (.iload_n 0, 1) := by decide +kernel
theorem dX11_partOfFraction_51 : decode cX11_partOfFraction 51 = .ok (.goto 4, 3) := by decide +kernel
theorem dX11_partOfFraction_54 : decode cX11_partOfFraction 54 = .ok (.iload_n 1, 1) := by decide +kernel
theorem dX11_partOfFraction_55 : decode cX11_partOfFraction 55 = .ok (.iload 5, 2) := by decide +kernel
theorem dX11_partOfFraction_57 : decode cX11_partOfFraction 57 = .ok (.idiv, 1) := by decide +kernel
theorem dX11_partOfFraction_58 : decode cX11_partOfFraction 58 = .ok (.i2l, 1) := by decide +kernel
theorem dX11_partOfFraction_59 : decode cX11_partOfFraction 59 = .ok (.lreturn, 1) := by decide +kernel
noncomputable def C_X11_partOfFraction : List (Nat × qOp) := [(0, qo_iload 0 1),
  (1, qo_istore 3 1),
  (2, qo_iload 1 1),
  (3, qo_istore 4 2),
  (5, qo_ci 0 1),
  (6, qo_istore 5 2),
  (8, qo_iload 5 2),
  (10, qo_ci 64 2),
  (12, qo_icge 39),
  (15, qo_iload 4 2),
  (17, qo_ifeq 39),
  (20, qo_iload 3 1),
  (21, qo_iload 4 2),
  (23, qo_irem),
  (24, qo_istore 6 2),
  (26, qo_iload 4 2),
  (28, qo_istore 3 1),
  (29, qo_iload 6 2),
  (31, qo_istore 4 2),
  (33, qo_iinc 5 1),
  (36, qo_goto 8),
  (39, qo_ci 1 1),
  (40, qo_iload 3 1),
  (41, qo_mmax),
  (44, qo_istore 5 2),
  (46, qo_iload 2 1),
  (47, qo_ifne 54),
  (50, qo_iload 0 1),
  (51, qo_goto 55),
  (54, qo_iload 1 1),
  (55, qo_iload 5 2),
  (57, qo_idiv),
  (58, qo_i2l),
  (59, qo_ret (some .long) 2)]
noncomputable def S_X11_partOfFraction : qSem := qM 7 C_X11_partOfFraction
set_option maxRecDepth 20000 in
theorem K_X11_partOfFraction {X : qX} {l : Launch} : ∀ q ∈ C_X11_partOfFraction, qOk X l 1 cX11_partOfFraction 7 RX11 "partOfFraction" (some .long) q.1 q.2 := by
  unfold C_X11_partOfFraction
  refine qcons (qk_iload_n dX11_partOfFraction_0 rfl) ?_
  refine qcons (qk_istore_n dX11_partOfFraction_1 rfl) ?_
  refine qcons (qk_iload_n dX11_partOfFraction_2 rfl) ?_
  refine qcons (qk_istore dX11_partOfFraction_3) ?_
  refine qcons (qk_iconst dX11_partOfFraction_5 (by decide)) ?_
  refine qcons (qk_istore dX11_partOfFraction_6) ?_
  refine qcons (qk_iload dX11_partOfFraction_8) ?_
  refine qcons (qk_bipush dX11_partOfFraction_10 (by decide) (by decide)) ?_
  refine qcons (qk_icge dX11_partOfFraction_12 (by decide)) ?_
  refine qcons (qk_iload dX11_partOfFraction_15) ?_
  refine qcons (qk_ifeq dX11_partOfFraction_17 (by decide)) ?_
  refine qcons (qk_iload_n dX11_partOfFraction_20 rfl) ?_
  refine qcons (qk_iload dX11_partOfFraction_21) ?_
  refine qcons (qk_irem dX11_partOfFraction_23) ?_
  refine qcons (qk_istore dX11_partOfFraction_24) ?_
  refine qcons (qk_iload dX11_partOfFraction_26) ?_
  refine qcons (qk_istore_n dX11_partOfFraction_28 rfl) ?_
  refine qcons (qk_iload dX11_partOfFraction_29) ?_
  refine qcons (qk_istore dX11_partOfFraction_31) ?_
  refine qcons (qk_iinc dX11_partOfFraction_33) ?_
  refine qcons (qk_goto dX11_partOfFraction_36 (by decide)) ?_
  refine qcons (qk_iconst dX11_partOfFraction_39 (by decide)) ?_
  refine qcons (qk_iload_n dX11_partOfFraction_40 rfl) ?_
  refine qcons (qk_mmax (by decide) tw_670 tw_438 tw_91 tw_439 dX11_partOfFraction_41) ?_
  refine qcons (qk_istore dX11_partOfFraction_44) ?_
  refine qcons (qk_iload_n dX11_partOfFraction_46 rfl) ?_
  refine qcons (qk_ifne dX11_partOfFraction_47 (by decide)) ?_
  refine qcons (qk_iload_n dX11_partOfFraction_50 rfl) ?_
  refine qcons (qk_goto dX11_partOfFraction_51 (by decide)) ?_
  refine qcons (qk_iload_n dX11_partOfFraction_54 rfl) ?_
  refine qcons (qk_iload dX11_partOfFraction_55) ?_
  refine qcons (qk_idiv dX11_partOfFraction_57) ?_
  refine qcons (qk_i2l dX11_partOfFraction_58) ?_
  refine qcons (qk_ret dX11_partOfFraction_59 (Or.inr (Or.inr (Or.inl ⟨rfl, rfl⟩)))) ?_
  exact qnil
theorem M_X11_partOfFraction {X : qX} {l : Launch} : qMet X l 1 yX11_partOfFraction cX11_partOfFraction 7 (some .long) S_X11_partOfFraction := qmet_of K_X11_partOfFraction (by decide) rfl rfl
theorem dX11_odds_0 : decode cX11_odds 0 = .ok (.iload_n 1, 1) := by decide +kernel
theorem dX11_odds_1 : decode cX11_odds 1 = .ok (.bipush 60, 2) := by decide +kernel
theorem dX11_odds_3 : decode cX11_odds 3 = .ok (.invokestatic 105, 3) := by decide +kernel
theorem dX11_odds_6 : decode cX11_odds 6 = .ok (.ifCond .eq 31, 3) := by decide +kernel
theorem dX11_odds_9 : decode cX11_odds 9 = .ok (.iload_n 2, 1) := by decide +kernel
theorem dX11_odds_10 : decode cX11_odds 10 = .ok (.sipush 9999, 3) := by decide +kernel
theorem dX11_odds_13 : decode cX11_odds 13 = .ok (.invokestatic 105, 3) := by decide +kernel
theorem dX11_odds_16 : decode cX11_odds 16 = .ok (.ifCond .eq 21, 3) := by decide +kernel
theorem dX11_odds_19 : decode cX11_odds 19 = .ok (.iload_n 3, 1) := by decide +kernel
theorem dX11_odds_20 : decode cX11_odds 20 = .ok (.iconst 1, 1) := by decide +kernel
theorem dX11_odds_21 : decode cX11_odds 21 = .ok (.invokestatic 105, 3) := by decide +kernel
theorem dX11_odds_24 : decode cX11_odds 24 = .ok (.ifCond .eq 13, 3) := by decide +kernel
theorem dX11_odds_27 : decode cX11_odds 27 = .ok (.aload_n 0, 1) := by decide +kernel
theorem dX11_odds_28 : decode cX11_odds 28 = .ok (.getfield 41, 3) := by decide +kernel
theorem dX11_odds_31 : decode cX11_odds 31 = .ok (.getfield 113, 3) := by decide +kernel
theorem dX11_odds_34 : decode cX11_odds 34 = .ok (.ifCond .ne 7, 3) := by decide +kernel
theorem dX11_odds_37 : decode cX11_odds 37 = .ok (.ldc2_w 239, 3) := by decide +kernel
theorem dX11_odds_40 : decode cX11_odds 40 = .ok (.lreturn, 1) := by decide +kernel
theorem dX11_odds_41 : decode cX11_odds 41 = .ok (.iconst 0, 1) := by decide +kernel
theorem dX11_odds_42 : decode cX11_odds 42 = .ok (.istore 4, 2) := by decide +kernel
theorem dX11_odds_44 : decode cX11_odds 44 = .ok (.iconst 0, 1) := by decide +kernel
theorem dX11_odds_45 : decode cX11_odds 45 = .ok (.istore 5, 2) := by decide +kernel
theorem dX11_odds_47 : decode cX11_odds 47 = .ok (.iload 5, 2) := by decide +kernel
theorem dX11_odds_49 : decode cX11_odds 49 = .ok (.aload_n 0, 1) := by decide +kernel
theorem dX11_odds_50 : decode cX11_odds 50 = .ok (.getfield 41, 3) := by decide +kernel
theorem dX11_odds_53 : decode cX11_odds 53 = .ok (.getfield 113, 3) := by decide +kernel
theorem dX11_odds_56 : decode cX11_odds 56 = .ok (.if_icmp .ge 23, 3) := by decide +kernel
theorem dX11_odds_59 : decode cX11_odds 59 = .ok (.aload_n 0, 1) := by decide +kernel
theorem dX11_odds_60 : decode cX11_odds 60 = .ok (.iload 5, 2) := by decide +kernel
theorem dX11_odds_62 : decode cX11_odds 62 = .ok (.iload_n 1, 1) := by decide +kernel
theorem dX11_odds_63 : decode cX11_odds 63 = .ok (.invokevirtual 213, 3) := by decide +kernel
theorem dX11_odds_66 : decode cX11_odds 66 = .ok (.iload_n 2, 1) := by decide +kernel
theorem dX11_odds_67 : decode cX11_odds 67 = .ok (.if_icmp .lt 6, 3) := by decide +kernel
theorem dX11_odds_70 : decode cX11_odds 70 = .ok (.iinc 4 1, 3) := by decide +kernel
theorem dX11_odds_73 : decode cX11_odds 73 = .ok (.iinc 5 1, 3) := by decide +kernel
theorem dX11_odds_76 : decode cX11_odds 76 = .ok (.goto (-29), 3) := by decide +kernel
theorem dX11_odds_79 : decode cX11_odds 79 = .ok (.iload 4, 2) := by decide +kernel
theorem dX11_odds_81 : decode cX11_odds 81 = .ok (.aload_n 0, 1) := by decide +kernel
theorem dX11_odds_82 : decode cX11_odds 82 = .ok (.getfield 41, 3) := by decide +kernel
theorem dX11_odds_85 : decode cX11_odds 85 = .ok (.getfield 113, 3) := by decide +kernel
theorem dX11_odds_88 : decode cX11_odds 88 = .ok (.iload_n 3, 1) := by decide +kernel
theorem dX11_odds_89 : decode cX11_odds 89 = .ok (.invokestatic 241, 3) := by decide +kernel
theorem dX11_odds_92 : decode cX11_odds 92 = .ok (.lreturn, 1) := by decide +kernel
noncomputable def C_X11_odds : List (Nat × qOp) := [(0, qo_iload 1 1),
  (1, qo_ci 60 2),
  (3, qo_calls S_X11_isIn 2),
  (6, qo_ifeq 37),
  (9, qo_iload 2 1),
  (10, qo_ci 9999 3),
  (13, qo_calls S_X11_isIn 2),
  (16, qo_ifeq 37),
  (19, qo_iload 3 1),
  (20, qo_ci 1 1),
  (21, qo_calls S_X11_isIn 2),
  (24, qo_ifeq 37),
  (27, qo_aload 0 1),
  (28, qo_getR 11 0),
  (31, qo_getI 8 10),
  (34, qo_ifne 41),
  (37, qo_cl (-9223372036854775808) 3),
  (40, qo_ret (some .long) 2),
  (41, qo_ci 0 1),
  (42, qo_istore 4 2),
  (44, qo_ci 0 1),
  (45, qo_istore 5 2),
  (47, qo_iload 5 2),
  (49, qo_aload 0 1),
  (50, qo_getR 11 0),
  (53, qo_getI 8 10),
  (56, qo_icge 79),
  (59, qo_aload 0 1),
  (60, qo_iload 5 2),
  (62, qo_iload 1 1),
  (63, qo_callv [(11, S_X11_behindWithout)] 2),
  (66, qo_iload 2 1),
  (67, qo_iclt 73),
  (70, qo_iinc 4 1),
  (73, qo_iinc 5 1),
  (76, qo_goto 47),
  (79, qo_iload 4 2),
  (81, qo_aload 0 1),
  (82, qo_getR 11 0),
  (85, qo_getI 8 10),
  (88, qo_iload 3 1),
  (89, qo_calls S_X11_partOfFraction 3),
  (92, qo_ret (some .long) 2)]
noncomputable def S_X11_odds : qSem := qM 6 C_X11_odds
set_option maxRecDepth 20000 in
theorem K_X11_odds {X : qX} {l : Launch} : ∀ q ∈ C_X11_odds, qOk X l 7 cX11_odds 6 RX11 "odds" (some .long) q.1 q.2 := by
  unfold C_X11_odds
  refine qcons (qk_iload_n dX11_odds_0 rfl) ?_
  refine qcons (qk_bipush dX11_odds_1 (by decide) (by decide)) ?_
  refine qcons (qk_calls (qrunS M_X11_isIn (by decide) (by decide) tw_377 tw_378 tw_379 tw_78 ⟨by decide, by decide⟩ (by decide +kernel)) dX11_odds_3) ?_
  refine qcons (qk_ifeq dX11_odds_6 (by decide)) ?_
  refine qcons (qk_iload_n dX11_odds_9 rfl) ?_
  refine qcons (qk_sipush dX11_odds_10 (by decide) (by decide)) ?_
  refine qcons (qk_calls (qrunS M_X11_isIn (by decide) (by decide) tw_377 tw_378 tw_379 tw_78 ⟨by decide, by decide⟩ (by decide +kernel)) dX11_odds_13) ?_
  refine qcons (qk_ifeq dX11_odds_16 (by decide)) ?_
  refine qcons (qk_iload_n dX11_odds_19 rfl) ?_
  refine qcons (qk_iconst dX11_odds_20 (by decide)) ?_
  refine qcons (qk_calls (qrunS M_X11_isIn (by decide) (by decide) tw_377 tw_378 tw_379 tw_78 ⟨by decide, by decide⟩ (by decide +kernel)) dX11_odds_21) ?_
  refine qcons (qk_ifeq dX11_odds_24 (by decide)) ?_
  refine qcons (qk_aload_n dX11_odds_27 rfl) ?_
  refine qcons (qk_getR fd_X11_41 kd_11_0 dX11_odds_28) ?_
  refine qcons (qk_getI fd_X11_113 kd_8_10 dX11_odds_31) ?_
  refine qcons (qk_ifne dX11_odds_34 (by decide)) ?_
  refine qcons (qk_ldc2 dX11_odds_37 tw_679 (by decide)) ?_
  refine qcons (qk_ret dX11_odds_40 (Or.inr (Or.inr (Or.inl ⟨rfl, rfl⟩)))) ?_
  refine qcons (qk_iconst dX11_odds_41 (by decide)) ?_
  refine qcons (qk_istore dX11_odds_42) ?_
  refine qcons (qk_iconst dX11_odds_44 (by decide)) ?_
  refine qcons (qk_istore dX11_odds_45) ?_
  refine qcons (qk_iload dX11_odds_47) ?_
  refine qcons (qk_aload_n dX11_odds_49 rfl) ?_
  refine qcons (qk_getR fd_X11_41 kd_11_0 dX11_odds_50) ?_
  refine qcons (qk_getI fd_X11_113 kd_8_10 dX11_odds_53) ?_
  refine qcons (qk_icge dX11_odds_56 (by decide)) ?_
  refine qcons (qk_aload_n dX11_odds_59 rfl) ?_
  refine qcons (qk_iload dX11_odds_60) ?_
  refine qcons (qk_iload_n dX11_odds_62 rfl) ?_
  refine qcons (qk_callv (ins := fun i => .invokevirtual i) (qconsV (qrunV M_X11_behindWithout (by decide) (by decide) (by decide) rfl tw_634 tw_636 tw_16 tw_637 tw_78 ⟨by decide, by decide⟩ (by decide +kernel)) qnilV) dX11_odds_63) ?_
  refine qcons (qk_iload_n dX11_odds_66 rfl) ?_
  refine qcons (qk_iclt dX11_odds_67 (by decide)) ?_
  refine qcons (qk_iinc dX11_odds_70) ?_
  refine qcons (qk_iinc dX11_odds_73) ?_
  refine qcons (qk_goto dX11_odds_76 (by decide)) ?_
  refine qcons (qk_iload dX11_odds_79) ?_
  refine qcons (qk_aload_n dX11_odds_81 rfl) ?_
  refine qcons (qk_getR fd_X11_41 kd_11_0 dX11_odds_82) ?_
  refine qcons (qk_getI fd_X11_113 kd_8_10 dX11_odds_85) ?_
  refine qcons (qk_iload_n dX11_odds_88 rfl) ?_
  refine qcons (qk_calls (qrunS M_X11_partOfFraction (by decide) (by decide) tw_680 tw_681 tw_682 tw_78 ⟨by decide, by decide⟩ (by decide +kernel)) dX11_odds_89) ?_
  refine qcons (qk_ret dX11_odds_92 (Or.inr (Or.inr (Or.inl ⟨rfl, rfl⟩)))) ?_
  exact qnil
theorem M_X11_odds {X : qX} {l : Launch} : qMet X l 7 yX11_odds cX11_odds 6 (some .long) S_X11_odds := qmet_of K_X11_odds (by decide) rfl rfl
theorem dX11_mean_0 : decode cX11_mean 0 = .ok (.iload_n 1, 1) := by decide +kernel
theorem dX11_mean_1 : decode cX11_mean 1 = .ok (.bipush 60, 2) := by decide +kernel
theorem dX11_mean_3 : decode cX11_mean 3 = .ok (.invokestatic 105, 3) := by decide +kernel
theorem dX11_mean_6 : decode cX11_mean 6 = .ok (.ifCond .eq 21, 3) := by decide +kernel
theorem dX11_mean_9 : decode cX11_mean 9 = .ok (.iload_n 2, 1) := by decide +kernel
theorem dX11_mean_10 : decode cX11_mean 10 = .ok (.iconst 1, 1) := by decide +kernel
theorem dX11_mean_11 : decode cX11_mean 11 = .ok (.invokestatic 105, 3) := by decide +kernel
theorem dX11_mean_14 : decode cX11_mean 14 = .ok (.ifCond .eq 13, 3) := by decide +kernel
theorem dX11_mean_17 : decode cX11_mean 17 = .ok (.aload_n 0, 1) := by decide +kernel
theorem dX11_mean_18 : decode cX11_mean 18 = .ok (.getfield 41, 3) := by decide +kernel
theorem dX11_mean_21 : decode cX11_mean 21 = .ok (.getfield 113, 3) := by decide +kernel
theorem dX11_mean_24 : decode cX11_mean 24 = .ok (.ifCond .ne 7, 3) := by decide +kernel
theorem dX11_mean_27 : decode cX11_mean 27 = .ok (.ldc2_w 239, 3) := by decide +kernel
theorem dX11_mean_30 : decode cX11_mean 30 = .ok (.lreturn, 1) := by decide +kernel
theorem dX11_mean_31 : decode cX11_mean 31 = .ok (.aload_n 0, 1) := by decide +kernel
theorem dX11_mean_32 : decode cX11_mean 32 = .ok (.getfield 48, 3) := by decide +kernel
theorem dX11_mean_35 : decode cX11_mean 35 = .ok (.aload_n 0, 1) := by decide +kernel
theorem dX11_mean_36 : decode cX11_mean 36 = .ok (.getfield 41, 3) := by decide +kernel
theorem dX11_mean_39 : decode cX11_mean 39 = .ok (.invokevirtual 193, 3) := by decide +kernel
theorem dX11_mean_42 : decode cX11_mean 42 = .ok (.aload_n 0, 1) := by decide +kernel
theorem dX11_mean_43 : decode cX11_mean 43 = .ok (.getfield 48, 3) := by decide +kernel
theorem dX11_mean_46 : decode cX11_mean 46 = .ok (.iload_n 1, 1) := by decide +kernel
theorem dX11_mean_47 : decode cX11_mean 47 = .ok (.invokevirtual 190, 3) := by decide +kernel
theorem dX11_mean_50 : decode cX11_mean 50 = .ok (.pop, 1) := by decide +kernel
theorem dX11_mean_51 : decode cX11_mean 51 = .ok (.iconst 0, 1) := by decide +kernel
theorem dX11_mean_52 : decode cX11_mean 52 = .ok (.istore_n 3, 1) := by decide +kernel
theorem dX11_mean_53 : decode cX11_mean 53 = .ok (.iconst 0, 1) := by decide +kernel
theorem dX11_mean_54 : decode cX11_mean 54 = .ok (.istore 4, 2) := by decide +kernel
theorem dX11_mean_56 : decode cX11_mean 56 = .ok (.iload 4, 2) := by decide +kernel
theorem dX11_mean_58 : decode cX11_mean 58 = .ok (.aload_n 0, 1) := by decide +kernel
theorem dX11_mean_59 : decode cX11_mean 59 = .ok (.getfield 41, 3) := by decide +kernel
theorem dX11_mean_62 : decode cX11_mean 62 = .ok (.getfield 113, 3) := by decide +kernel
theorem dX11_mean_65 : decode cX11_mean 65 = .ok (.if_icmp .ge 33, 3) := by decide +kernel
theorem dX11_mean_68 : decode cX11_mean 68 = .ok (.iload_n 3, 1) := by decide +kernel
theorem dX11_mean_69 : decode cX11_mean 69 = .ok (.aload_n 0, 1) := by decide +kernel
theorem dX11_mean_70 : decode cX11_mean 70 = .ok (.getfield 48, 3) := by decide +kernel
theorem dX11_mean_73 : decode cX11_mean 73 = .ok (.getfield 136, 3) := by decide +kernel
theorem dX11_mean_76 : decode cX11_mean 76 = .ok (.iload 4, 2) := by decide +kernel
theorem dX11_mean_78 : decode cX11_mean 78 = .ok (.iaload, 1) := by decide +kernel
theorem dX11_mean_79 : decode cX11_mean 79 = .ok (.aload_n 0, 1) := by decide +kernel
theorem dX11_mean_80 : decode cX11_mean 80 = .ok (.getfield 41, 3) := by decide +kernel
theorem dX11_mean_83 : decode cX11_mean 83 = .ok (.getfield 136, 3) := by decide +kernel
theorem dX11_mean_86 : decode cX11_mean 86 = .ok (.iload 4, 2) := by decide +kernel
theorem dX11_mean_88 : decode cX11_mean 88 = .ok (.iaload, 1) := by decide +kernel
theorem dX11_mean_89 : decode cX11_mean 89 = .ok (.isub, 1) := by decide +kernel
theorem dX11_mean_90 : decode cX11_mean 90 = .ok (.iadd, 1) := by decide +kernel
theorem dX11_mean_91 : decode cX11_mean 91 = .ok (.istore_n 3, 1) := by decide +kernel
theorem dX11_mean_92 : decode cX11_mean 92 = .ok (.iinc 4 1, 3) := by decide +kernel
theorem dX11_mean_95 : decode cX11_mean 95 = .ok (.goto (-39), 3) := by decide +kernel
theorem dX11_mean_98 : decode cX11_mean 98 = .ok (.iload_n 3, 1) := by decide +kernel
theorem dX11_mean_99 : decode cX11_mean 99 = .ok (.aload_n 0, 1) := by decide +kernel
theorem dX11_mean_100 : decode cX11_mean 100 = .ok (.getfield 41, 3) := by decide +kernel
theorem dX11_mean_103 : decode cX11_mean 103 = .ok (.getfield 113, 3) := by decide +kernel
theorem dX11_mean_106 : decode cX11_mean 106 = .ok (.iload_n 2, 1) := by decide +kernel
theorem dX11_mean_107 : decode cX11_mean 107 = .ok (.invokestatic 241, 3) := by decide +kernel
theorem dX11_mean_110 : decode cX11_mean 110 = .ok (.lreturn, 1) := by decide +kernel
noncomputable def C_X11_mean : List (Nat × qOp) := [(0, qo_iload 1 1),
  (1, qo_ci 60 2),
  (3, qo_calls S_X11_isIn 2),
  (6, qo_ifeq 27),
  (9, qo_iload 2 1),
  (10, qo_ci 1 1),
  (11, qo_calls S_X11_isIn 2),
  (14, qo_ifeq 27),
  (17, qo_aload 0 1),
  (18, qo_getR 11 0),
  (21, qo_getI 8 10),
  (24, qo_ifne 31),
  (27, qo_cl (-9223372036854775808) 3),
  (30, qo_ret (some .long) 2),
  (31, qo_aload 0 1),
  (32, qo_getR 11 1),
  (35, qo_aload 0 1),
  (36, qo_getR 11 0),
  (39, qo_callv [(8, S_X8_becomes)] 1),
  (42, qo_aload 0 1),
  (43, qo_getR 11 1),
  (46, qo_iload 1 1),
  (47, qo_callv [(8, S_X8_minutesGo)] 1),
  (50, qo_pop),
  (51, qo_ci 0 1),
  (52, qo_istore 3 1),
  (53, qo_ci 0 1),
  (54, qo_istore 4 2),
  (56, qo_iload 4 2),
  (58, qo_aload 0 1),
  (59, qo_getR 11 0),
  (62, qo_getI 8 10),
  (65, qo_icge 98),
  (68, qo_iload 3 1),
  (69, qo_aload 0 1),
  (70, qo_getR 11 1),
  (73, qo_getR 8 7),
  (76, qo_iload 4 2),
  (78, qo_iaload),
  (79, qo_aload 0 1),
  (80, qo_getR 11 0),
  (83, qo_getR 8 7),
  (86, qo_iload 4 2),
  (88, qo_iaload),
  (89, qo_isub),
  (90, qo_iadd),
  (91, qo_istore 3 1),
  (92, qo_iinc 4 1),
  (95, qo_goto 56),
  (98, qo_iload 3 1),
  (99, qo_aload 0 1),
  (100, qo_getR 11 0),
  (103, qo_getI 8 10),
  (106, qo_iload 2 1),
  (107, qo_calls S_X11_partOfFraction 3),
  (110, qo_ret (some .long) 2)]
noncomputable def S_X11_mean : qSem := qM 5 C_X11_mean
set_option maxRecDepth 20000 in
theorem K_X11_mean {X : qX} {l : Launch} : ∀ q ∈ C_X11_mean, qOk X l 6 cX11_mean 5 RX11 "mean" (some .long) q.1 q.2 := by
  unfold C_X11_mean
  refine qcons (qk_iload_n dX11_mean_0 rfl) ?_
  refine qcons (qk_bipush dX11_mean_1 (by decide) (by decide)) ?_
  refine qcons (qk_calls (qrunS M_X11_isIn (by decide) (by decide) tw_377 tw_378 tw_379 tw_78 ⟨by decide, by decide⟩ (by decide +kernel)) dX11_mean_3) ?_
  refine qcons (qk_ifeq dX11_mean_6 (by decide)) ?_
  refine qcons (qk_iload_n dX11_mean_9 rfl) ?_
  refine qcons (qk_iconst dX11_mean_10 (by decide)) ?_
  refine qcons (qk_calls (qrunS M_X11_isIn (by decide) (by decide) tw_377 tw_378 tw_379 tw_78 ⟨by decide, by decide⟩ (by decide +kernel)) dX11_mean_11) ?_
  refine qcons (qk_ifeq dX11_mean_14 (by decide)) ?_
  refine qcons (qk_aload_n dX11_mean_17 rfl) ?_
  refine qcons (qk_getR fd_X11_41 kd_11_0 dX11_mean_18) ?_
  refine qcons (qk_getI fd_X11_113 kd_8_10 dX11_mean_21) ?_
  refine qcons (qk_ifne dX11_mean_24 (by decide)) ?_
  refine qcons (qk_ldc2 dX11_mean_27 tw_679 (by decide)) ?_
  refine qcons (qk_ret dX11_mean_30 (Or.inr (Or.inr (Or.inl ⟨rfl, rfl⟩)))) ?_
  refine qcons (qk_aload_n dX11_mean_31 rfl) ?_
  refine qcons (qk_getR fd_X11_48 kd_11_1 dX11_mean_32) ?_
  refine qcons (qk_aload_n dX11_mean_35 rfl) ?_
  refine qcons (qk_getR fd_X11_41 kd_11_0 dX11_mean_36) ?_
  refine qcons (qk_callv (ins := fun i => .invokevirtual i) (qconsV (qrunV M_X8_becomes (by decide) (by decide) (by decide) rfl tw_601 tw_602 tw_603 tw_604 tw_87 ⟨by decide, by decide⟩ (by decide +kernel)) qnilV) dX11_mean_39) ?_
  refine qcons (qk_aload_n dX11_mean_42 rfl) ?_
  refine qcons (qk_getR fd_X11_48 kd_11_1 dX11_mean_43) ?_
  refine qcons (qk_iload_n dX11_mean_46 rfl) ?_
  refine qcons (qk_callv (ins := fun i => .invokevirtual i) (qconsV (qrunV M_X8_minutesGo (by decide) (by decide) (by decide) rfl tw_587 tw_588 tw_589 tw_590 tw_87 ⟨by decide, by decide⟩ (by decide +kernel)) qnilV) dX11_mean_47) ?_
  refine qcons (qk_pop dX11_mean_50) ?_
  refine qcons (qk_iconst dX11_mean_51 (by decide)) ?_
  refine qcons (qk_istore_n dX11_mean_52 rfl) ?_
  refine qcons (qk_iconst dX11_mean_53 (by decide)) ?_
  refine qcons (qk_istore dX11_mean_54) ?_
  refine qcons (qk_iload dX11_mean_56) ?_
  refine qcons (qk_aload_n dX11_mean_58 rfl) ?_
  refine qcons (qk_getR fd_X11_41 kd_11_0 dX11_mean_59) ?_
  refine qcons (qk_getI fd_X11_113 kd_8_10 dX11_mean_62) ?_
  refine qcons (qk_icge dX11_mean_65 (by decide)) ?_
  refine qcons (qk_iload_n dX11_mean_68 rfl) ?_
  refine qcons (qk_aload_n dX11_mean_69 rfl) ?_
  refine qcons (qk_getR fd_X11_48 kd_11_1 dX11_mean_70) ?_
  refine qcons (qk_getR fd_X11_136 kd_8_7 dX11_mean_73) ?_
  refine qcons (qk_iload dX11_mean_76) ?_
  refine qcons (qk_iaload dX11_mean_78) ?_
  refine qcons (qk_aload_n dX11_mean_79 rfl) ?_
  refine qcons (qk_getR fd_X11_41 kd_11_0 dX11_mean_80) ?_
  refine qcons (qk_getR fd_X11_136 kd_8_7 dX11_mean_83) ?_
  refine qcons (qk_iload dX11_mean_86) ?_
  refine qcons (qk_iaload dX11_mean_88) ?_
  refine qcons (qk_isub dX11_mean_89) ?_
  refine qcons (qk_iadd dX11_mean_90) ?_
  refine qcons (qk_istore_n dX11_mean_91 rfl) ?_
  refine qcons (qk_iinc dX11_mean_92) ?_
  refine qcons (qk_goto dX11_mean_95 (by decide)) ?_
  refine qcons (qk_iload_n dX11_mean_98 rfl) ?_
  refine qcons (qk_aload_n dX11_mean_99 rfl) ?_
  refine qcons (qk_getR fd_X11_41 kd_11_0 dX11_mean_100) ?_
  refine qcons (qk_getI fd_X11_113 kd_8_10 dX11_mean_103) ?_
  refine qcons (qk_iload_n dX11_mean_106 rfl) ?_
  refine qcons (qk_calls (qrunS M_X11_partOfFraction (by decide) (by decide) tw_680 tw_681 tw_682 tw_78 ⟨by decide, by decide⟩ (by decide +kernel)) dX11_mean_107) ?_
  refine qcons (qk_ret dX11_mean_110 (Or.inr (Or.inr (Or.inl ⟨rfl, rfl⟩)))) ?_
  exact qnil
theorem M_X11_mean {X : qX} {l : Launch} : qMet X l 6 yX11_mean cX11_mean 5 (some .long) S_X11_mean := qmet_of K_X11_mean (by decide) rfl rfl
theorem dX11_evening_0 : decode cX11_evening 0 = .ok (.iload_n 1, 1) := by decide +kernel
theorem dX11_evening_1 : decode cX11_evening 1 = .ok (.iconst (-1), 1) := by decide +kernel
theorem dX11_evening_2 : decode cX11_evening 2 = .ok (.if_icmp .ne 13, 3) := by decide +kernel
theorem dX11_evening_5 : decode cX11_evening 5 = .ok (.aload_n 0, 1) := by decide +kernel
theorem dX11_evening_6 : decode cX11_evening 6 = .ok (.getfield 63, 3) := by decide +kernel
theorem dX11_evening_9 : decode cX11_evening 9 = .ok (.iconst 0, 1) := by decide +kernel
theorem dX11_evening_10 : decode cX11_evening 10 = .ok (.putfield 217, 3) := by decide +kernel
theorem dX11_evening_13 : decode cX11_evening 13 = .ok (.iconst 0, 1) := by decide +kernel
theorem dX11_evening_14 : decode cX11_evening 14 = .ok (.ireturn, 1) := by decide +kernel
theorem dX11_evening_15 : decode cX11_evening 15 = .ok (.iload_n 1, 1) := by decide +kernel
theorem dX11_evening_16 : decode cX11_evening 16 = .ok (.iconst 5, 1) := by decide +kernel
theorem dX11_evening_17 : decode cX11_evening 17 = .ok (.invokestatic 105, 3) := by decide +kernel
theorem dX11_evening_20 : decode cX11_evening 20 = .ok (.ifCond .eq 15, 3) := by decide +kernel
theorem dX11_evening_23 : decode cX11_evening 23 = .ok (.iload_n 1, 1) := by decide +kernel
theorem dX11_evening_24 : decode cX11_evening 24 = .ok (.ifCond .eq 13, 3) := by decide +kernel
theorem dX11_evening_27 : decode cX11_evening 27 = .ok (.aload_n 0, 1) := by decide +kernel
theorem dX11_evening_28 : decode cX11_evening 28 = .ok (.iload_n 2, 1) := by decide +kernel
theorem dX11_evening_29 : decode cX11_evening 29 = .ok (.invokevirtual 121, 3) := by decide +kernel
theorem dX11_evening_32 : decode cX11_evening 32 = .ok (.ifCond .ne 5, 3) := by decide +kernel
theorem dX11_evening_35 : decode cX11_evening 35 = .ok (.iconst (-1), 1) := by decide +kernel
theorem dX11_evening_36 : decode cX11_evening 36 = .ok (.ireturn, 1) := by decide +kernel
theorem dX11_evening_37 : decode cX11_evening 37 = .ok (.aload_n 0, 1) := by decide +kernel
theorem dX11_evening_38 : decode cX11_evening 38 = .ok (.getfield 63, 3) := by decide +kernel
theorem dX11_evening_41 : decode cX11_evening 41 = .ok (.iload_n 1, 1) := by decide +kernel
theorem dX11_evening_42 : decode cX11_evening 42 = .ok (.iload_n 2, 1) := by decide +kernel
theorem dX11_evening_43 : decode cX11_evening 43 = .ok (.iconst 0, 1) := by decide +kernel
theorem dX11_evening_44 : decode cX11_evening 44 = .ok (.invokevirtual 220, 3) := by decide +kernel
theorem dX11_evening_47 : decode cX11_evening 47 = .ok (.ireturn, 1) := by decide +kernel
noncomputable def C_X11_evening : List (Nat × qOp) := [(0, qo_iload 1 1),
  (1, qo_ci (-1) 1),
  (2, qo_icne 15),
  (5, qo_aload 0 1),
  (6, qo_getR 11 4),
  (9, qo_ci 0 1),
  (10, qo_putI 6 3),
  (13, qo_ci 0 1),
  (14, qo_ret (some .int) 1),
  (15, qo_iload 1 1),
  (16, qo_ci 5 1),
  (17, qo_calls S_X11_isIn 2),
  (20, qo_ifeq 35),
  (23, qo_iload 1 1),
  (24, qo_ifeq 37),
  (27, qo_aload 0 1),
  (28, qo_iload 2 1),
  (29, qo_callv [(11, S_X11_isPerson)] 1),
  (32, qo_ifne 37),
  (35, qo_ci (-1) 1),
  (36, qo_ret (some .int) 1),
  (37, qo_aload 0 1),
  (38, qo_getR 11 4),
  (41, qo_iload 1 1),
  (42, qo_iload 2 1),
  (43, qo_ci 0 1),
  (44, qo_callv [(6, S_X6_add)] 3),
  (47, qo_ret (some .int) 1)]
noncomputable def S_X11_evening : qSem := qM 3 C_X11_evening
set_option maxRecDepth 20000 in
theorem K_X11_evening {X : qX} {l : Launch} : ∀ q ∈ C_X11_evening, qOk X l 2 cX11_evening 3 RX11 "evening" (some .int) q.1 q.2 := by
  unfold C_X11_evening
  refine qcons (qk_iload_n dX11_evening_0 rfl) ?_
  refine qcons (qk_iconst dX11_evening_1 (by decide)) ?_
  refine qcons (qk_icne dX11_evening_2 (by decide)) ?_
  refine qcons (qk_aload_n dX11_evening_5 rfl) ?_
  refine qcons (qk_getR fd_X11_63 kd_11_4 dX11_evening_6) ?_
  refine qcons (qk_iconst dX11_evening_9 (by decide)) ?_
  refine qcons (qk_putI (ty := .int) fd_X11_217 tyX6_ok nmX6 (Or.inl rfl) kd_6_3 (tyX6_ok 3 (by decide)) dX11_evening_10) ?_
  refine qcons (qk_iconst dX11_evening_13 (by decide)) ?_
  refine qcons (qk_ret dX11_evening_14 (Or.inr (Or.inl ⟨rfl, rfl⟩))) ?_
  refine qcons (qk_iload_n dX11_evening_15 rfl) ?_
  refine qcons (qk_iconst dX11_evening_16 (by decide)) ?_
  refine qcons (qk_calls (qrunS M_X11_isIn (by decide) (by decide) tw_377 tw_378 tw_379 tw_78 ⟨by decide, by decide⟩ (by decide +kernel)) dX11_evening_17) ?_
  refine qcons (qk_ifeq dX11_evening_20 (by decide)) ?_
  refine qcons (qk_iload_n dX11_evening_23 rfl) ?_
  refine qcons (qk_ifeq dX11_evening_24 (by decide)) ?_
  refine qcons (qk_aload_n dX11_evening_27 rfl) ?_
  refine qcons (qk_iload_n dX11_evening_28 rfl) ?_
  refine qcons (qk_callv (ins := fun i => .invokevirtual i) (qconsV (qrunV M_X11_isPerson (by decide) (by decide) (by decide) rfl tw_391 tw_393 tw_0 tw_394 tw_78 ⟨by decide, by decide⟩ (by decide +kernel)) qnilV) dX11_evening_29) ?_
  refine qcons (qk_ifne dX11_evening_32 (by decide)) ?_
  refine qcons (qk_iconst dX11_evening_35 (by decide)) ?_
  refine qcons (qk_ret dX11_evening_36 (Or.inr (Or.inl ⟨rfl, rfl⟩))) ?_
  refine qcons (qk_aload_n dX11_evening_37 rfl) ?_
  refine qcons (qk_getR fd_X11_63 kd_11_4 dX11_evening_38) ?_
  refine qcons (qk_iload_n dX11_evening_41 rfl) ?_
  refine qcons (qk_iload_n dX11_evening_42 rfl) ?_
  refine qcons (qk_iconst dX11_evening_43 (by decide)) ?_
  refine qcons (qk_callv (ins := fun i => .invokevirtual i) (qconsV (qrunV M_X6_add (by decide) (by decide) (by decide) rfl tw_650 tw_651 tw_652 tw_653 tw_88 ⟨by decide, by decide⟩ (by decide +kernel)) qnilV) dX11_evening_44) ?_
  refine qcons (qk_ret dX11_evening_47 (Or.inr (Or.inl ⟨rfl, rfl⟩))) ?_
  exact qnil
theorem M_X11_evening {X : qX} {l : Launch} : qMet X l 2 yX11_evening cX11_evening 3 (some .int) S_X11_evening := qmet_of K_X11_evening (by decide) rfl rfl
theorem dX11_goesInTrial_0 : decode cX11_goesInTrial 0 = .ok (.iload_n 1, 1) := by decide +kernel
theorem dX11_goesInTrial_1 : decode cX11_goesInTrial 1 = .ok (.ifCond .ne 15, 3) := by decide +kernel
theorem dX11_goesInTrial_4 : decode cX11_goesInTrial 4 = .ok (.aload_n 0, 1) := by decide +kernel
theorem dX11_goesInTrial_5 : decode cX11_goesInTrial 5 = .ok (.getfield 48, 3) := by decide +kernel
theorem dX11_goesInTrial_8 : decode cX11_goesInTrial 8 = .ok (.iconst 1, 1) := by decide +kernel
theorem dX11_goesInTrial_9 : decode cX11_goesInTrial 9 = .ok (.invokevirtual 190, 3) := by decide +kernel
theorem dX11_goesInTrial_12 : decode cX11_goesInTrial 12 = .ok (.pop, 1) := by decide +kernel
theorem dX11_goesInTrial_13 : decode cX11_goesInTrial 13 = .ok (.goto 41, 3) := by decide +kernel
theorem dX11_goesInTrial_16 : decode cX11_goesInTrial 16 = .ok (.aload_n 0, 1) := by decide +kernel
theorem dX11_goesInTrial_17 : decode cX11_goesInTrial 17 = .ok (.iload_n 2, 1) := by decide +kernel
theorem dX11_goesInTrial_18 : decode cX11_goesInTrial 18 = .ok (.invokevirtual 121, 3) := by decide +kernel
theorem dX11_goesInTrial_21 : decode cX11_goesInTrial 21 = .ok (.ifCond .eq 33, 3) := by decide +kernel
theorem dX11_goesInTrial_24 : decode cX11_goesInTrial 24 = .ok (.iload_n 1, 1) := by decide +kernel
theorem dX11_goesInTrial_25 : decode cX11_goesInTrial 25 = .ok (.iconst 4, 1) := by decide +kernel
theorem dX11_goesInTrial_26 : decode cX11_goesInTrial 26 = .ok (.if_icmp .gt 18, 3) := by decide +kernel
theorem dX11_goesInTrial_29 : decode cX11_goesInTrial 29 = .ok (.aload_n 0, 1) := by decide +kernel
theorem dX11_goesInTrial_30 : decode cX11_goesInTrial 30 = .ok (.getfield 48, 3) := by decide +kernel
theorem dX11_goesInTrial_33 : decode cX11_goesInTrial 33 = .ok (.getfield 130, 3) := by decide +kernel
theorem dX11_goesInTrial_36 : decode cX11_goesInTrial 36 = .ok (.iload_n 2, 1) := by decide +kernel
theorem dX11_goesInTrial_37 : decode cX11_goesInTrial 37 = .ok (.iload_n 1, 1) := by decide +kernel
theorem dX11_goesInTrial_38 : decode cX11_goesInTrial 38 = .ok (.iconst 1, 1) := by decide +kernel
theorem dX11_goesInTrial_39 : decode cX11_goesInTrial 39 = .ok (.isub, 1) := by decide +kernel
theorem dX11_goesInTrial_40 : decode cX11_goesInTrial 40 = .ok (.iastore, 1) := by decide +kernel
theorem dX11_goesInTrial_41 : decode cX11_goesInTrial 41 = .ok (.goto 13, 3) := by decide +kernel
theorem dX11_goesInTrial_44 : decode cX11_goesInTrial 44 = .ok (.aload_n 0, 1) := by decide +kernel
theorem dX11_goesInTrial_45 : decode cX11_goesInTrial 45 = .ok (.getfield 48, 3) := by decide +kernel
theorem dX11_goesInTrial_48 : decode cX11_goesInTrial 48 = .ok (.getfield 139, 3) := by decide +kernel
theorem dX11_goesInTrial_51 : decode cX11_goesInTrial 51 = .ok (.iload_n 2, 1) := by decide +kernel
theorem dX11_goesInTrial_52 : decode cX11_goesInTrial 52 = .ok (.iconst 1, 1) := by decide +kernel
theorem dX11_goesInTrial_53 : decode cX11_goesInTrial 53 = .ok (.bastore, 1) := by decide +kernel
theorem dX11_goesInTrial_54 : decode cX11_goesInTrial 54 = .ok (.return_, 1) := by decide +kernel
noncomputable def C_X11_goesInTrial : List (Nat × qOp) := [(0, qo_iload 1 1),
  (1, qo_ifne 16),
  (4, qo_aload 0 1),
  (5, qo_getR 11 1),
  (8, qo_ci 1 1),
  (9, qo_callv [(8, S_X8_minutesGo)] 1),
  (12, qo_pop),
  (13, qo_goto 54),
  (16, qo_aload 0 1),
  (17, qo_iload 2 1),
  (18, qo_callv [(11, S_X11_isPerson)] 1),
  (21, qo_ifeq 54),
  (24, qo_iload 1 1),
  (25, qo_ci 4 1),
  (26, qo_icgt 44),
  (29, qo_aload 0 1),
  (30, qo_getR 11 1),
  (33, qo_getR 8 5),
  (36, qo_iload 2 1),
  (37, qo_iload 1 1),
  (38, qo_ci 1 1),
  (39, qo_isub),
  (40, qo_iastore),
  (41, qo_goto 54),
  (44, qo_aload 0 1),
  (45, qo_getR 11 1),
  (48, qo_getR 8 9),
  (51, qo_iload 2 1),
  (52, qo_ci 1 1),
  (53, qo_zastore),
  (54, qo_ret none 0)]
noncomputable def S_X11_goesInTrial : qSem := qM 3 C_X11_goesInTrial
set_option maxRecDepth 20000 in
theorem K_X11_goesInTrial {X : qX} {l : Launch} : ∀ q ∈ C_X11_goesInTrial, qOk X l 6 cX11_goesInTrial 3 RX11 "goesInTrial" none q.1 q.2 := by
  unfold C_X11_goesInTrial
  refine qcons (qk_iload_n dX11_goesInTrial_0 rfl) ?_
  refine qcons (qk_ifne dX11_goesInTrial_1 (by decide)) ?_
  refine qcons (qk_aload_n dX11_goesInTrial_4 rfl) ?_
  refine qcons (qk_getR fd_X11_48 kd_11_1 dX11_goesInTrial_5) ?_
  refine qcons (qk_iconst dX11_goesInTrial_8 (by decide)) ?_
  refine qcons (qk_callv (ins := fun i => .invokevirtual i) (qconsV (qrunV M_X8_minutesGo (by decide) (by decide) (by decide) rfl tw_587 tw_588 tw_589 tw_590 tw_87 ⟨by decide, by decide⟩ (by decide +kernel)) qnilV) dX11_goesInTrial_9) ?_
  refine qcons (qk_pop dX11_goesInTrial_12) ?_
  refine qcons (qk_goto dX11_goesInTrial_13 (by decide)) ?_
  refine qcons (qk_aload_n dX11_goesInTrial_16 rfl) ?_
  refine qcons (qk_iload_n dX11_goesInTrial_17 rfl) ?_
  refine qcons (qk_callv (ins := fun i => .invokevirtual i) (qconsV (qrunV M_X11_isPerson (by decide) (by decide) (by decide) rfl tw_391 tw_393 tw_0 tw_394 tw_78 ⟨by decide, by decide⟩ (by decide +kernel)) qnilV) dX11_goesInTrial_18) ?_
  refine qcons (qk_ifeq dX11_goesInTrial_21 (by decide)) ?_
  refine qcons (qk_iload_n dX11_goesInTrial_24 rfl) ?_
  refine qcons (qk_iconst dX11_goesInTrial_25 (by decide)) ?_
  refine qcons (qk_icgt dX11_goesInTrial_26 (by decide)) ?_
  refine qcons (qk_aload_n dX11_goesInTrial_29 rfl) ?_
  refine qcons (qk_getR fd_X11_48 kd_11_1 dX11_goesInTrial_30) ?_
  refine qcons (qk_getR fd_X11_130 kd_8_5 dX11_goesInTrial_33) ?_
  refine qcons (qk_iload_n dX11_goesInTrial_36 rfl) ?_
  refine qcons (qk_iload_n dX11_goesInTrial_37 rfl) ?_
  refine qcons (qk_iconst dX11_goesInTrial_38 (by decide)) ?_
  refine qcons (qk_isub dX11_goesInTrial_39) ?_
  refine qcons (qk_iastore dX11_goesInTrial_40) ?_
  refine qcons (qk_goto dX11_goesInTrial_41 (by decide)) ?_
  refine qcons (qk_aload_n dX11_goesInTrial_44 rfl) ?_
  refine qcons (qk_getR fd_X11_48 kd_11_1 dX11_goesInTrial_45) ?_
  refine qcons (qk_getR fd_X11_139 kd_8_9 dX11_goesInTrial_48) ?_
  refine qcons (qk_iload_n dX11_goesInTrial_51 rfl) ?_
  refine qcons (qk_iconst dX11_goesInTrial_52 (by decide)) ?_
  refine qcons (qk_zastore dX11_goesInTrial_53) ?_
  refine qcons (qk_ret dX11_goesInTrial_54 (Or.inl ⟨rfl, rfl⟩)) ?_
  exact qnil
theorem M_X11_goesInTrial {X : qX} {l : Launch} : qMet X l 6 yX11_goesInTrial cX11_goesInTrial 3 none S_X11_goesInTrial := qmet_of K_X11_goesInTrial (by decide) rfl rfl
theorem dX11_ends_0 : decode cX11_ends 0 = .ok (.iload_n 1, 1) := by decide +kernel
theorem dX11_ends_1 : decode cX11_ends 1 = .ok (.iconst 1, 1) := by decide +kernel
theorem dX11_ends_2 : decode cX11_ends 2 = .ok (.invokestatic 105, 3) := by decide +kernel
theorem dX11_ends_5 : decode cX11_ends 5 = .ok (.ifCond .ne 5, 3) := by decide +kernel
theorem dX11_ends_8 : decode cX11_ends 8 = .ok (.iconst (-1), 1) := by decide +kernel
theorem dX11_ends_9 : decode cX11_ends 9 = .ok (.ireturn, 1) := by decide +kernel
theorem dX11_ends_10 : decode cX11_ends 10 = .ok (.aload_n 0, 1) := by decide +kernel
theorem dX11_ends_11 : decode cX11_ends 11 = .ok (.getfield 48, 3) := by decide +kernel
theorem dX11_ends_14 : decode cX11_ends 14 = .ok (.aload_n 0, 1) := by decide +kernel
theorem dX11_ends_15 : decode cX11_ends 15 = .ok (.getfield 41, 3) := by decide +kernel
theorem dX11_ends_18 : decode cX11_ends 18 = .ok (.invokevirtual 193, 3) := by decide +kernel
theorem dX11_ends_21 : decode cX11_ends 21 = .ok (.iconst 0, 1) := by decide +kernel
theorem dX11_ends_22 : decode cX11_ends 22 = .ok (.istore_n 2, 1) := by decide +kernel
theorem dX11_ends_23 : decode cX11_ends 23 = .ok (.iload_n 2, 1) := by decide +kernel
theorem dX11_ends_24 : decode cX11_ends 24 = .ok (.aload_n 0, 1) := by decide +kernel
theorem dX11_ends_25 : decode cX11_ends 25 = .ok (.getfield 63, 3) := by decide +kernel
theorem dX11_ends_28 : decode cX11_ends 28 = .ok (.getfield 217, 3) := by decide +kernel
theorem dX11_ends_31 : decode cX11_ends 31 = .ok (.if_icmp .ge 31, 3) := by decide +kernel
theorem dX11_ends_34 : decode cX11_ends 34 = .ok (.aload_n 0, 1) := by decide +kernel
theorem dX11_ends_35 : decode cX11_ends 35 = .ok (.aload_n 0, 1) := by decide +kernel
theorem dX11_ends_36 : decode cX11_ends 36 = .ok (.getfield 63, 3) := by decide +kernel
theorem dX11_ends_39 : decode cX11_ends 39 = .ok (.iload_n 2, 1) := by decide +kernel
theorem dX11_ends_40 : decode cX11_ends 40 = .ok (.iconst 0, 1) := by decide +kernel
theorem dX11_ends_41 : decode cX11_ends 41 = .ok (.invokevirtual 231, 3) := by decide +kernel
theorem dX11_ends_44 : decode cX11_ends 44 = .ok (.aload_n 0, 1) := by decide +kernel
theorem dX11_ends_45 : decode cX11_ends 45 = .ok (.getfield 63, 3) := by decide +kernel
theorem dX11_ends_48 : decode cX11_ends 48 = .ok (.iload_n 2, 1) := by decide +kernel
theorem dX11_ends_49 : decode cX11_ends 49 = .ok (.iconst 1, 1) := by decide +kernel
theorem dX11_ends_50 : decode cX11_ends 50 = .ok (.invokevirtual 231, 3) := by decide +kernel
theorem dX11_ends_53 : decode cX11_ends 53 = .ok (.invokevirtual 245, 3) := by decide +kernel
theorem dX11_ends_56 : decode cX11_ends 56 = .ok (.iinc 2 1, 3) := by decide +kernel
theorem dX11_ends_59 : decode cX11_ends 59 = .ok (.goto (-36), 3) := by decide +kernel
theorem dX11_ends_62 : decode cX11_ends 62 = .ok (.iload_n 1, 1) := by decide +kernel
theorem dX11_ends_63 : decode cX11_ends 63 = .ok (.ifCond .ne 13, 3) := by decide +kernel
theorem dX11_ends_66 : decode cX11_ends 66 = .ok (.aload_n 0, 1) := by decide +kernel
theorem dX11_ends_67 : decode cX11_ends 67 = .ok (.getfield 48, 3) := by decide +kernel
theorem dX11_ends_70 : decode cX11_ends 70 = .ok (.getfield 161, 3) := by decide +kernel
theorem dX11_ends_73 : decode cX11_ends 73 = .ok (.iconst 4, 1) := by decide +kernel
theorem dX11_ends_74 : decode cX11_ends 74 = .ok (.iaload, 1) := by decide +kernel
theorem dX11_ends_75 : decode cX11_ends 75 = .ok (.ireturn, 1) := by decide +kernel
theorem dX11_ends_76 : decode cX11_ends 76 = .ok (.iconst 0, 1) := by decide +kernel
theorem dX11_ends_77 : decode cX11_ends 77 = .ok (.istore_n 2, 1) := by decide +kernel
theorem dX11_ends_78 : decode cX11_ends 78 = .ok (.iconst 0, 1) := by decide +kernel
theorem dX11_ends_79 : decode cX11_ends 79 = .ok (.istore_n 3, 1) := by decide +kernel
theorem dX11_ends_80 : decode cX11_ends 80 = .ok (.iload_n 3, 1) := by decide +kernel
theorem dX11_ends_81 : decode cX11_ends 81 = .ok (.aload_n 0, 1) := by decide +kernel
theorem dX11_ends_82 : decode cX11_ends 82 = .ok (.getfield 41, 3) := by decide +kernel
theorem dX11_ends_85 : decode cX11_ends 85 = .ok (.getfield 113, 3) := by decide +kernel
theorem dX11_ends_88 : decode cX11_ends 88 = .ok (.if_icmp .ge 31, 3) := by decide +kernel
theorem dX11_ends_91 : decode cX11_ends 91 = .ok (.iload_n 2, 1) := by decide +kernel
theorem dX11_ends_92 : decode cX11_ends 92 = .ok (.aload_n 0, 1) := by decide +kernel
theorem dX11_ends_93 : decode cX11_ends 93 = .ok (.getfield 48, 3) := by decide +kernel
theorem dX11_ends_96 : decode cX11_ends 96 = .ok (.getfield 133, 3) := by decide +kernel
theorem dX11_ends_99 : decode cX11_ends 99 = .ok (.iload_n 3, 1) := by decide +kernel
theorem dX11_ends_100 : decode cX11_ends 100 = .ok (.iaload, 1) := by decide +kernel
theorem dX11_ends_101 : decode cX11_ends 101 = .ok (.aload_n 0, 1) := by decide +kernel
theorem dX11_ends_102 : decode cX11_ends 102 = .ok (.getfield 41, 3) := by decide +kernel
theorem dX11_ends_105 : decode cX11_ends 105 = .ok (.getfield 133, 3) := by decide +kernel
theorem dX11_ends_108 : decode cX11_ends 108 = .ok (.iload_n 3, 1) := by decide +kernel
theorem dX11_ends_109 : decode cX11_ends 109 = .ok (.iaload, 1) := by decide +kernel
theorem dX11_ends_110 : decode cX11_ends 110 = .ok (.isub, 1) := by decide +kernel
theorem dX11_ends_111 : decode cX11_ends 111 = .ok (.iadd, 1) := by decide +kernel
theorem dX11_ends_112 : decode cX11_ends 112 = .ok (.istore_n 2, 1) := by decide +kernel
theorem dX11_ends_113 : decode cX11_ends 113 = .ok (.iinc 3 1, 3) := by decide +kernel
theorem dX11_ends_116 : decode cX11_ends 116 = .ok (.goto (-36), 3) := by decide +kernel
theorem dX11_ends_119 : decode cX11_ends 119 = .ok (.iload_n 2, 1) := by decide +kernel
theorem dX11_ends_120 : decode cX11_ends 120 = .ok (.ireturn, 1) := by decide +kernel
noncomputable def C_X11_ends : List (Nat × qOp) := [(0, qo_iload 1 1),
  (1, qo_ci 1 1),
  (2, qo_calls S_X11_isIn 2),
  (5, qo_ifne 10),
  (8, qo_ci (-1) 1),
  (9, qo_ret (some .int) 1),
  (10, qo_aload 0 1),
  (11, qo_getR 11 1),
  (14, qo_aload 0 1),
  (15, qo_getR 11 0),
  (18, qo_callv [(8, S_X8_becomes)] 1),
  (21, qo_ci 0 1),
  (22, qo_istore 2 1),
  (23, qo_iload 2 1),
  (24, qo_aload 0 1),
  (25, qo_getR 11 4),
  (28, qo_getI 6 3),
  (31, qo_icge 62),
  (34, qo_aload 0 1),
  (35, qo_aload 0 1),
  (36, qo_getR 11 4),
  (39, qo_iload 2 1),
  (40, qo_ci 0 1),
  (41, qo_callv [(6, S_X6_cell)] 2),
  (44, qo_aload 0 1),
  (45, qo_getR 11 4),
  (48, qo_iload 2 1),
  (49, qo_ci 1 1),
  (50, qo_callv [(6, S_X6_cell)] 2),
  (53, qo_callv [(11, S_X11_goesInTrial)] 2),
  (56, qo_iinc 2 1),
  (59, qo_goto 23),
  (62, qo_iload 1 1),
  (63, qo_ifne 76),
  (66, qo_aload 0 1),
  (67, qo_getR 11 1),
  (70, qo_getR 8 2),
  (73, qo_ci 4 1),
  (74, qo_iaload),
  (75, qo_ret (some .int) 1),
  (76, qo_ci 0 1),
  (77, qo_istore 2 1),
  (78, qo_ci 0 1),
  (79, qo_istore 3 1),
  (80, qo_iload 3 1),
  (81, qo_aload 0 1),
  (82, qo_getR 11 0),
  (85, qo_getI 8 10),
  (88, qo_icge 119),
  (91, qo_iload 2 1),
  (92, qo_aload 0 1),
  (93, qo_getR 11 1),
  (96, qo_getR 8 6),
  (99, qo_iload 3 1),
  (100, qo_iaload),
  (101, qo_aload 0 1),
  (102, qo_getR 11 0),
  (105, qo_getR 8 6),
  (108, qo_iload 3 1),
  (109, qo_iaload),
  (110, qo_isub),
  (111, qo_iadd),
  (112, qo_istore 2 1),
  (113, qo_iinc 3 1),
  (116, qo_goto 80),
  (119, qo_iload 2 1),
  (120, qo_ret (some .int) 1)]
noncomputable def S_X11_ends : qSem := qM 4 C_X11_ends
set_option maxRecDepth 20000 in
theorem K_X11_ends {X : qX} {l : Launch} : ∀ q ∈ C_X11_ends, qOk X l 7 cX11_ends 4 RX11 "ends" (some .int) q.1 q.2 := by
  unfold C_X11_ends
  refine qcons (qk_iload_n dX11_ends_0 rfl) ?_
  refine qcons (qk_iconst dX11_ends_1 (by decide)) ?_
  refine qcons (qk_calls (qrunS M_X11_isIn (by decide) (by decide) tw_377 tw_378 tw_379 tw_78 ⟨by decide, by decide⟩ (by decide +kernel)) dX11_ends_2) ?_
  refine qcons (qk_ifne dX11_ends_5 (by decide)) ?_
  refine qcons (qk_iconst dX11_ends_8 (by decide)) ?_
  refine qcons (qk_ret dX11_ends_9 (Or.inr (Or.inl ⟨rfl, rfl⟩))) ?_
  refine qcons (qk_aload_n dX11_ends_10 rfl) ?_
  refine qcons (qk_getR fd_X11_48 kd_11_1 dX11_ends_11) ?_
  refine qcons (qk_aload_n dX11_ends_14 rfl) ?_
  refine qcons (qk_getR fd_X11_41 kd_11_0 dX11_ends_15) ?_
  refine qcons (qk_callv (ins := fun i => .invokevirtual i) (qconsV (qrunV M_X8_becomes (by decide) (by decide) (by decide) rfl tw_601 tw_602 tw_603 tw_604 tw_87 ⟨by decide, by decide⟩ (by decide +kernel)) qnilV) dX11_ends_18) ?_
  refine qcons (qk_iconst dX11_ends_21 (by decide)) ?_
  refine qcons (qk_istore_n dX11_ends_22 rfl) ?_
  refine qcons (qk_iload_n dX11_ends_23 rfl) ?_
  refine qcons (qk_aload_n dX11_ends_24 rfl) ?_
  refine qcons (qk_getR fd_X11_63 kd_11_4 dX11_ends_25) ?_
  refine qcons (qk_getI fd_X11_217 kd_6_3 dX11_ends_28) ?_
  refine qcons (qk_icge dX11_ends_31 (by decide)) ?_
  refine qcons (qk_aload_n dX11_ends_34 rfl) ?_
  refine qcons (qk_aload_n dX11_ends_35 rfl) ?_
  refine qcons (qk_getR fd_X11_63 kd_11_4 dX11_ends_36) ?_
  refine qcons (qk_iload_n dX11_ends_39 rfl) ?_
  refine qcons (qk_iconst dX11_ends_40 (by decide)) ?_
  refine qcons (qk_callv (ins := fun i => .invokevirtual i) (qconsV (qrunV M_X6_cell (by decide) (by decide) (by decide) rfl tw_666 tw_667 tw_668 tw_669 tw_88 ⟨by decide, by decide⟩ (by decide +kernel)) qnilV) dX11_ends_41) ?_
  refine qcons (qk_aload_n dX11_ends_44 rfl) ?_
  refine qcons (qk_getR fd_X11_63 kd_11_4 dX11_ends_45) ?_
  refine qcons (qk_iload_n dX11_ends_48 rfl) ?_
  refine qcons (qk_iconst dX11_ends_49 (by decide)) ?_
  refine qcons (qk_callv (ins := fun i => .invokevirtual i) (qconsV (qrunV M_X6_cell (by decide) (by decide) (by decide) rfl tw_666 tw_667 tw_668 tw_669 tw_88 ⟨by decide, by decide⟩ (by decide +kernel)) qnilV) dX11_ends_50) ?_
  refine qcons (qk_callv (ins := fun i => .invokevirtual i) (qconsV (qrunV M_X11_goesInTrial (by decide) (by decide) (by decide) rfl tw_695 tw_697 tw_19 tw_698 tw_78 ⟨by decide, by decide⟩ (by decide +kernel)) qnilV) dX11_ends_53) ?_
  refine qcons (qk_iinc dX11_ends_56) ?_
  refine qcons (qk_goto dX11_ends_59 (by decide)) ?_
  refine qcons (qk_iload_n dX11_ends_62 rfl) ?_
  refine qcons (qk_ifne dX11_ends_63 (by decide)) ?_
  refine qcons (qk_aload_n dX11_ends_66 rfl) ?_
  refine qcons (qk_getR fd_X11_48 kd_11_1 dX11_ends_67) ?_
  refine qcons (qk_getR fd_X11_161 kd_8_2 dX11_ends_70) ?_
  refine qcons (qk_iconst dX11_ends_73 (by decide)) ?_
  refine qcons (qk_iaload dX11_ends_74) ?_
  refine qcons (qk_ret dX11_ends_75 (Or.inr (Or.inl ⟨rfl, rfl⟩))) ?_
  refine qcons (qk_iconst dX11_ends_76 (by decide)) ?_
  refine qcons (qk_istore_n dX11_ends_77 rfl) ?_
  refine qcons (qk_iconst dX11_ends_78 (by decide)) ?_
  refine qcons (qk_istore_n dX11_ends_79 rfl) ?_
  refine qcons (qk_iload_n dX11_ends_80 rfl) ?_
  refine qcons (qk_aload_n dX11_ends_81 rfl) ?_
  refine qcons (qk_getR fd_X11_41 kd_11_0 dX11_ends_82) ?_
  refine qcons (qk_getI fd_X11_113 kd_8_10 dX11_ends_85) ?_
  refine qcons (qk_icge dX11_ends_88 (by decide)) ?_
  refine qcons (qk_iload_n dX11_ends_91 rfl) ?_
  refine qcons (qk_aload_n dX11_ends_92 rfl) ?_
  refine qcons (qk_getR fd_X11_48 kd_11_1 dX11_ends_93) ?_
  refine qcons (qk_getR fd_X11_133 kd_8_6 dX11_ends_96) ?_
  refine qcons (qk_iload_n dX11_ends_99 rfl) ?_
  refine qcons (qk_iaload dX11_ends_100) ?_
  refine qcons (qk_aload_n dX11_ends_101 rfl) ?_
  refine qcons (qk_getR fd_X11_41 kd_11_0 dX11_ends_102) ?_
  refine qcons (qk_getR fd_X11_133 kd_8_6 dX11_ends_105) ?_
  refine qcons (qk_iload_n dX11_ends_108 rfl) ?_
  refine qcons (qk_iaload dX11_ends_109) ?_
  refine qcons (qk_isub dX11_ends_110) ?_
  refine qcons (qk_iadd dX11_ends_111) ?_
  refine qcons (qk_istore_n dX11_ends_112 rfl) ?_
  refine qcons (qk_iinc dX11_ends_113) ?_
  refine qcons (qk_goto dX11_ends_116 (by decide)) ?_
  refine qcons (qk_iload_n dX11_ends_119 rfl) ?_
  refine qcons (qk_ret dX11_ends_120 (Or.inr (Or.inl ⟨rfl, rfl⟩))) ?_
  exact qnil
theorem M_X11_ends {X : qX} {l : Launch} : qMet X l 7 yX11_ends cX11_ends 4 (some .int) S_X11_ends := qmet_of K_X11_ends (by decide) rfl rfl
theorem dX11_book_0 : decode cX11_book 0 = .ok (.iload_n 1, 1) := by decide +kernel
theorem dX11_book_1 : decode cX11_book 1 = .ok (.iconst (-1), 1) := by decide +kernel
theorem dX11_book_2 : decode cX11_book 2 = .ok (.if_icmp .ne 13, 3) := by decide +kernel
theorem dX11_book_5 : decode cX11_book 5 = .ok (.aload_n 0, 1) := by decide +kernel
theorem dX11_book_6 : decode cX11_book 6 = .ok (.getfield 66, 3) := by decide +kernel
theorem dX11_book_9 : decode cX11_book 9 = .ok (.iconst 0, 1) := by decide +kernel
theorem dX11_book_10 : decode cX11_book 10 = .ok (.putfield 217, 3) := by decide +kernel
theorem dX11_book_13 : decode cX11_book 13 = .ok (.iconst 0, 1) := by decide +kernel
theorem dX11_book_14 : decode cX11_book 14 = .ok (.ireturn, 1) := by decide +kernel
theorem dX11_book_15 : decode cX11_book 15 = .ok (.iload_n 1, 1) := by decide +kernel
theorem dX11_book_16 : decode cX11_book 16 = .ok (.invokestatic 158, 3) := by decide +kernel
theorem dX11_book_19 : decode cX11_book 19 = .ok (.ifCond .ne 5, 3) := by decide +kernel
theorem dX11_book_22 : decode cX11_book 22 = .ok (.iconst (-1), 1) := by decide +kernel
theorem dX11_book_23 : decode cX11_book 23 = .ok (.ireturn, 1) := by decide +kernel
theorem dX11_book_24 : decode cX11_book 24 = .ok (.iload_n 2, 1) := by decide +kernel
theorem dX11_book_25 : decode cX11_book 25 = .ok (.sipush 9999, 3) := by decide +kernel
theorem dX11_book_28 : decode cX11_book 28 = .ok (.invokestatic 105, 3) := by decide +kernel
theorem dX11_book_31 : decode cX11_book 31 = .ok (.ifCond .ne 6, 3) := by decide +kernel
theorem dX11_book_34 : decode cX11_book 34 = .ok (.bipush (-2), 2) := by decide +kernel
theorem dX11_book_36 : decode cX11_book 36 = .ok (.ireturn, 1) := by decide +kernel
theorem dX11_book_37 : decode cX11_book 37 = .ok (.aload_n 0, 1) := by decide +kernel
theorem dX11_book_38 : decode cX11_book 38 = .ok (.getfield 66, 3) := by decide +kernel
theorem dX11_book_41 : decode cX11_book 41 = .ok (.iload_n 1, 1) := by decide +kernel
theorem dX11_book_42 : decode cX11_book 42 = .ok (.iload_n 2, 1) := by decide +kernel
theorem dX11_book_43 : decode cX11_book 43 = .ok (.iconst 0, 1) := by decide +kernel
theorem dX11_book_44 : decode cX11_book 44 = .ok (.invokevirtual 220, 3) := by decide +kernel
theorem dX11_book_47 : decode cX11_book 47 = .ok (.ireturn, 1) := by decide +kernel
noncomputable def C_X11_book : List (Nat × qOp) := [(0, qo_iload 1 1),
  (1, qo_ci (-1) 1),
  (2, qo_icne 15),
  (5, qo_aload 0 1),
  (6, qo_getR 11 5),
  (9, qo_ci 0 1),
  (10, qo_putI 6 3),
  (13, qo_ci 0 1),
  (14, qo_ret (some .int) 1),
  (15, qo_iload 1 1),
  (16, qo_calls S_X11_isHeap 1),
  (19, qo_ifne 24),
  (22, qo_ci (-1) 1),
  (23, qo_ret (some .int) 1),
  (24, qo_iload 2 1),
  (25, qo_ci 9999 3),
  (28, qo_calls S_X11_isIn 2),
  (31, qo_ifne 37),
  (34, qo_ci (-2) 2),
  (36, qo_ret (some .int) 1),
  (37, qo_aload 0 1),
  (38, qo_getR 11 5),
  (41, qo_iload 1 1),
  (42, qo_iload 2 1),
  (43, qo_ci 0 1),
  (44, qo_callv [(6, S_X6_add)] 3),
  (47, qo_ret (some .int) 1)]
noncomputable def S_X11_book : qSem := qM 3 C_X11_book
set_option maxRecDepth 20000 in
theorem K_X11_book {X : qX} {l : Launch} : ∀ q ∈ C_X11_book, qOk X l 2 cX11_book 3 RX11 "book" (some .int) q.1 q.2 := by
  unfold C_X11_book
  refine qcons (qk_iload_n dX11_book_0 rfl) ?_
  refine qcons (qk_iconst dX11_book_1 (by decide)) ?_
  refine qcons (qk_icne dX11_book_2 (by decide)) ?_
  refine qcons (qk_aload_n dX11_book_5 rfl) ?_
  refine qcons (qk_getR fd_X11_66 kd_11_5 dX11_book_6) ?_
  refine qcons (qk_iconst dX11_book_9 (by decide)) ?_
  refine qcons (qk_putI (ty := .int) fd_X11_217 tyX6_ok nmX6 (Or.inl rfl) kd_6_3 (tyX6_ok 3 (by decide)) dX11_book_10) ?_
  refine qcons (qk_iconst dX11_book_13 (by decide)) ?_
  refine qcons (qk_ret dX11_book_14 (Or.inr (Or.inl ⟨rfl, rfl⟩))) ?_
  refine qcons (qk_iload_n dX11_book_15 rfl) ?_
  refine qcons (qk_calls (qrunS M_X11_isHeap (by decide) (by decide) tw_456 tw_457 tw_458 tw_78 ⟨by decide, by decide⟩ (by decide +kernel)) dX11_book_16) ?_
  refine qcons (qk_ifne dX11_book_19 (by decide)) ?_
  refine qcons (qk_iconst dX11_book_22 (by decide)) ?_
  refine qcons (qk_ret dX11_book_23 (Or.inr (Or.inl ⟨rfl, rfl⟩))) ?_
  refine qcons (qk_iload_n dX11_book_24 rfl) ?_
  refine qcons (qk_sipush dX11_book_25 (by decide) (by decide)) ?_
  refine qcons (qk_calls (qrunS M_X11_isIn (by decide) (by decide) tw_377 tw_378 tw_379 tw_78 ⟨by decide, by decide⟩ (by decide +kernel)) dX11_book_28) ?_
  refine qcons (qk_ifne dX11_book_31 (by decide)) ?_
  refine qcons (qk_bipush dX11_book_34 (by decide) (by decide)) ?_
  refine qcons (qk_ret dX11_book_36 (Or.inr (Or.inl ⟨rfl, rfl⟩))) ?_
  refine qcons (qk_aload_n dX11_book_37 rfl) ?_
  refine qcons (qk_getR fd_X11_66 kd_11_5 dX11_book_38) ?_
  refine qcons (qk_iload_n dX11_book_41 rfl) ?_
  refine qcons (qk_iload_n dX11_book_42 rfl) ?_
  refine qcons (qk_iconst dX11_book_43 (by decide)) ?_
  refine qcons (qk_callv (ins := fun i => .invokevirtual i) (qconsV (qrunV M_X6_add (by decide) (by decide) (by decide) rfl tw_650 tw_651 tw_652 tw_653 tw_88 ⟨by decide, by decide⟩ (by decide +kernel)) qnilV) dX11_book_44) ?_
  refine qcons (qk_ret dX11_book_47 (Or.inr (Or.inl ⟨rfl, rfl⟩))) ?_
  exact qnil
theorem M_X11_book {X : qX} {l : Launch} : qMet X l 2 yX11_book cX11_book 3 (some .int) S_X11_book := qmet_of K_X11_book (by decide) rfl rfl
theorem dX11_looked_0 : decode cX11_looked 0 = .ok (.iconst 0, 1) := by decide +kernel
theorem dX11_looked_1 : decode cX11_looked 1 = .ok (.istore_n 1, 1) := by decide +kernel
theorem dX11_looked_2 : decode cX11_looked 2 = .ok (.iload_n 1, 1) := by decide +kernel
theorem dX11_looked_3 : decode cX11_looked 3 = .ok (.aload_n 0, 1) := by decide +kernel
theorem dX11_looked_4 : decode cX11_looked 4 = .ok (.getfield 66, 3) := by decide +kernel
theorem dX11_looked_7 : decode cX11_looked 7 = .ok (.getfield 217, 3) := by decide +kernel
theorem dX11_looked_10 : decode cX11_looked 10 = .ok (.if_icmp .ge 40, 3) := by decide +kernel
theorem dX11_looked_13 : decode cX11_looked 13 = .ok (.aload_n 0, 1) := by decide +kernel
theorem dX11_looked_14 : decode cX11_looked 14 = .ok (.getfield 41, 3) := by decide +kernel
theorem dX11_looked_17 : decode cX11_looked 17 = .ok (.getfield 161, 3) := by decide +kernel
theorem dX11_looked_20 : decode cX11_looked 20 = .ok (.aload_n 0, 1) := by decide +kernel
theorem dX11_looked_21 : decode cX11_looked 21 = .ok (.getfield 66, 3) := by decide +kernel
theorem dX11_looked_24 : decode cX11_looked 24 = .ok (.iload_n 1, 1) := by decide +kernel
theorem dX11_looked_25 : decode cX11_looked 25 = .ok (.iconst 0, 1) := by decide +kernel
theorem dX11_looked_26 : decode cX11_looked 26 = .ok (.invokevirtual 231, 3) := by decide +kernel
theorem dX11_looked_29 : decode cX11_looked 29 = .ok (.iaload, 1) := by decide +kernel
theorem dX11_looked_30 : decode cX11_looked 30 = .ok (.aload_n 0, 1) := by decide +kernel
theorem dX11_looked_31 : decode cX11_looked 31 = .ok (.getfield 66, 3) := by decide +kernel
theorem dX11_looked_34 : decode cX11_looked 34 = .ok (.iload_n 1, 1) := by decide +kernel
theorem dX11_looked_35 : decode cX11_looked 35 = .ok (.iconst 1, 1) := by decide +kernel
theorem dX11_looked_36 : decode cX11_looked 36 = .ok (.invokevirtual 231, 3) := by decide +kernel
theorem dX11_looked_39 : decode cX11_looked 39 = .ok (.if_icmp .eq 5, 3) := by decide +kernel
theorem dX11_looked_42 : decode cX11_looked 42 = .ok (.iload_n 1, 1) := by decide +kernel
theorem dX11_looked_43 : decode cX11_looked 43 = .ok (.ireturn, 1) := by decide +kernel
theorem dX11_looked_44 : decode cX11_looked 44 = .ok (.iinc 1 1, 3) := by decide +kernel
theorem dX11_looked_47 : decode cX11_looked 47 = .ok (.goto (-45), 3) := by decide +kernel
theorem dX11_looked_50 : decode cX11_looked 50 = .ok (.bipush (-5), 2) := by decide +kernel
theorem dX11_looked_52 : decode cX11_looked 52 = .ok (.ireturn, 1) := by decide +kernel
noncomputable def C_X11_looked : List (Nat × qOp) := [(0, qo_ci 0 1),
  (1, qo_istore 1 1),
  (2, qo_iload 1 1),
  (3, qo_aload 0 1),
  (4, qo_getR 11 5),
  (7, qo_getI 6 3),
  (10, qo_icge 50),
  (13, qo_aload 0 1),
  (14, qo_getR 11 0),
  (17, qo_getR 8 2),
  (20, qo_aload 0 1),
  (21, qo_getR 11 5),
  (24, qo_iload 1 1),
  (25, qo_ci 0 1),
  (26, qo_callv [(6, S_X6_cell)] 2),
  (29, qo_iaload),
  (30, qo_aload 0 1),
  (31, qo_getR 11 5),
  (34, qo_iload 1 1),
  (35, qo_ci 1 1),
  (36, qo_callv [(6, S_X6_cell)] 2),
  (39, qo_iceq 44),
  (42, qo_iload 1 1),
  (43, qo_ret (some .int) 1),
  (44, qo_iinc 1 1),
  (47, qo_goto 2),
  (50, qo_ci (-5) 2),
  (52, qo_ret (some .int) 1)]
noncomputable def S_X11_looked : qSem := qM 2 C_X11_looked
set_option maxRecDepth 20000 in
theorem K_X11_looked {X : qX} {l : Launch} : ∀ q ∈ C_X11_looked, qOk X l 2 cX11_looked 2 RX11 "looked" (some .int) q.1 q.2 := by
  unfold C_X11_looked
  refine qcons (qk_iconst dX11_looked_0 (by decide)) ?_
  refine qcons (qk_istore_n dX11_looked_1 rfl) ?_
  refine qcons (qk_iload_n dX11_looked_2 rfl) ?_
  refine qcons (qk_aload_n dX11_looked_3 rfl) ?_
  refine qcons (qk_getR fd_X11_66 kd_11_5 dX11_looked_4) ?_
  refine qcons (qk_getI fd_X11_217 kd_6_3 dX11_looked_7) ?_
  refine qcons (qk_icge dX11_looked_10 (by decide)) ?_
  refine qcons (qk_aload_n dX11_looked_13 rfl) ?_
  refine qcons (qk_getR fd_X11_41 kd_11_0 dX11_looked_14) ?_
  refine qcons (qk_getR fd_X11_161 kd_8_2 dX11_looked_17) ?_
  refine qcons (qk_aload_n dX11_looked_20 rfl) ?_
  refine qcons (qk_getR fd_X11_66 kd_11_5 dX11_looked_21) ?_
  refine qcons (qk_iload_n dX11_looked_24 rfl) ?_
  refine qcons (qk_iconst dX11_looked_25 (by decide)) ?_
  refine qcons (qk_callv (ins := fun i => .invokevirtual i) (qconsV (qrunV M_X6_cell (by decide) (by decide) (by decide) rfl tw_666 tw_667 tw_668 tw_669 tw_88 ⟨by decide, by decide⟩ (by decide +kernel)) qnilV) dX11_looked_26) ?_
  refine qcons (qk_iaload dX11_looked_29) ?_
  refine qcons (qk_aload_n dX11_looked_30 rfl) ?_
  refine qcons (qk_getR fd_X11_66 kd_11_5 dX11_looked_31) ?_
  refine qcons (qk_iload_n dX11_looked_34 rfl) ?_
  refine qcons (qk_iconst dX11_looked_35 (by decide)) ?_
  refine qcons (qk_callv (ins := fun i => .invokevirtual i) (qconsV (qrunV M_X6_cell (by decide) (by decide) (by decide) rfl tw_666 tw_667 tw_668 tw_669 tw_88 ⟨by decide, by decide⟩ (by decide +kernel)) qnilV) dX11_looked_36) ?_
  refine qcons (qk_iceq dX11_looked_39 (by decide)) ?_
  refine qcons (qk_iload_n dX11_looked_42 rfl) ?_
  refine qcons (qk_ret dX11_looked_43 (Or.inr (Or.inl ⟨rfl, rfl⟩))) ?_
  refine qcons (qk_iinc dX11_looked_44) ?_
  refine qcons (qk_goto dX11_looked_47 (by decide)) ?_
  refine qcons (qk_bipush dX11_looked_50 (by decide) (by decide)) ?_
  refine qcons (qk_ret dX11_looked_52 (Or.inr (Or.inl ⟨rfl, rfl⟩))) ?_
  exact qnil
theorem M_X11_looked {X : qX} {l : Launch} : qMet X l 2 yX11_looked cX11_looked 2 (some .int) S_X11_looked := qmet_of K_X11_looked (by decide) rfl rfl
theorem dX11_isTape_0 : decode cX11_isTape 0 = .ok (.iload_n 0, 1) := by decide +kernel
theorem dX11_isTape_1 : decode cX11_isTape 1 = .ok (.ifCond .lt 13, 3) := by decide +kernel
theorem dX11_isTape_4 : decode cX11_isTape 4 = .ok (.iload_n 0, 1) := by decide +kernel
theorem dX11_isTape_5 : decode cX11_isTape 5 = .ok (.bipush 6, 2) := by decide +kernel
theorem dX11_isTape_7 : decode cX11_isTape 7 = .ok (.if_icmp .ge 7, 3) := by decide +kernel
theorem dX11_isTape_10 : decode cX11_isTape 10 = .ok (.iconst 1, 1) := by decide +kernel
theorem dX11_isTape_11 : decode cX11_isTape 11 = .ok (.goto 4, 3) := by decide +kernel
theorem dX11_isTape_14 : decode cX11_isTape 14 = .ok (.iconst 0, 1) := by decide +kernel
theorem dX11_isTape_15 : decode cX11_isTape 15 = .ok (.ireturn, 1) := by decide +kernel
noncomputable def C_X11_isTape : List (Nat × qOp) := [(0, qo_iload 0 1),
  (1, qo_iflt 14),
  (4, qo_iload 0 1),
  (5, qo_ci 6 2),
  (7, qo_icge 14),
  (10, qo_ci 1 1),
  (11, qo_goto 15),
  (14, qo_ci 0 1),
  (15, qo_ret (some .boolean) 1)]
noncomputable def S_X11_isTape : qSem := qM 1 C_X11_isTape
set_option maxRecDepth 20000 in
theorem K_X11_isTape {X : qX} {l : Launch} : ∀ q ∈ C_X11_isTape, qOk X l 1 cX11_isTape 1 RX11 "isTape" (some .boolean) q.1 q.2 := by
  unfold C_X11_isTape
  refine qcons (qk_iload_n dX11_isTape_0 rfl) ?_
  refine qcons (qk_iflt dX11_isTape_1 (by decide)) ?_
  refine qcons (qk_iload_n dX11_isTape_4 rfl) ?_
  refine qcons (qk_bipush dX11_isTape_5 (by decide) (by decide)) ?_
  refine qcons (qk_icge dX11_isTape_7 (by decide)) ?_
  refine qcons (qk_iconst dX11_isTape_10 (by decide)) ?_
  refine qcons (qk_goto dX11_isTape_11 (by decide)) ?_
  refine qcons (qk_iconst dX11_isTape_14 (by decide)) ?_
  refine qcons (qk_ret dX11_isTape_15 (Or.inr (Or.inl ⟨rfl, rfl⟩))) ?_
  exact qnil
theorem M_X11_isTape {X : qX} {l : Launch} : qMet X l 1 yX11_isTape cX11_isTape 1 (some .boolean) S_X11_isTape := qmet_of K_X11_isTape (by decide) rfl rfl
theorem dX11_judge_0 : decode cX11_judge 0 = .ok (.iload_n 1, 1) := by decide +kernel
theorem dX11_judge_1 : decode cX11_judge 1 = .ok (.invokestatic 248, 3) := by decide +kernel
theorem dX11_judge_4 : decode cX11_judge 4 = .ok (.ifCond .ne 5, 3) := by decide +kernel
theorem dX11_judge_7 : decode cX11_judge 7 = .ok (.iconst (-1), 1) := by decide +kernel
theorem dX11_judge_8 : decode cX11_judge 8 = .ok (.ireturn, 1) := by decide +kernel
theorem dX11_judge_9 : decode cX11_judge 9 = .ok (.aload_n 0, 1) := by decide +kernel
theorem dX11_judge_10 : decode cX11_judge 10 = .ok (.getfield 93, 3) := by decide +kernel
theorem dX11_judge_13 : decode cX11_judge 13 = .ok (.iload_n 1, 1) := by decide +kernel
theorem dX11_judge_14 : decode cX11_judge 14 = .ok (.iaload, 1) := by decide +kernel
theorem dX11_judge_15 : decode cX11_judge 15 = .ok (.iconst (-1), 1) := by decide +kernel
theorem dX11_judge_16 : decode cX11_judge 16 = .ok (.if_icmp .ne 6, 3) := by decide +kernel
theorem dX11_judge_19 : decode cX11_judge 19 = .ok (.bipush 100, 2) := by decide +kernel
theorem dX11_judge_21 : decode cX11_judge 21 = .ok (.ireturn, 1) := by decide +kernel
theorem dX11_judge_22 : decode cX11_judge 22 = .ok (.aload_n 0, 1) := by decide +kernel
theorem dX11_judge_23 : decode cX11_judge 23 = .ok (.getfield 93, 3) := by decide +kernel
theorem dX11_judge_26 : decode cX11_judge 26 = .ok (.iload_n 1, 1) := by decide +kernel
theorem dX11_judge_27 : decode cX11_judge 27 = .ok (.iaload, 1) := by decide +kernel
theorem dX11_judge_28 : decode cX11_judge 28 = .ok (.iconst 2, 1) := by decide +kernel
theorem dX11_judge_29 : decode cX11_judge 29 = .ok (.if_icmp .eq 6, 3) := by decide +kernel
theorem dX11_judge_32 : decode cX11_judge 32 = .ok (.bipush (-12), 2) := by decide +kernel
theorem dX11_judge_34 : decode cX11_judge 34 = .ok (.ireturn, 1) := by decide +kernel
theorem dX11_judge_35 : decode cX11_judge 35 = .ok (.iload_n 2, 1) := by decide +kernel
theorem dX11_judge_36 : decode cX11_judge 36 = .ok (.ifCond .ge 6, 3) := by decide +kernel
theorem dX11_judge_39 : decode cX11_judge 39 = .ok (.bipush 100, 2) := by decide +kernel
theorem dX11_judge_41 : decode cX11_judge 41 = .ok (.ireturn, 1) := by decide +kernel
theorem dX11_judge_42 : decode cX11_judge 42 = .ok (.iconst 0, 1) := by decide +kernel
theorem dX11_judge_43 : decode cX11_judge 43 = .ok (.istore_n 3, 1) := by decide +kernel
theorem dX11_judge_44 : decode cX11_judge 44 = .ok (.iload_n 3, 1) := by decide +kernel
theorem dX11_judge_45 : decode cX11_judge 45 = .ok (.iconst 5, 1) := by decide +kernel
theorem dX11_judge_46 : decode cX11_judge 46 = .ok (.if_icmp .ge 52, 3) := by decide +kernel
theorem dX11_judge_49 : decode cX11_judge 49 = .ok (.iload_n 2, 1) := by decide +kernel
theorem dX11_judge_50 : decode cX11_judge 50 = .ok (.aload_n 0, 1) := by decide +kernel
theorem dX11_judge_51 : decode cX11_judge 51 = .ok (.getfield 97, 3) := by decide +kernel
theorem dX11_judge_54 : decode cX11_judge 54 = .ok (.iload_n 1, 1) := by decide +kernel
theorem dX11_judge_55 : decode cX11_judge 55 = .ok (.iaload, 1) := by decide +kernel
theorem dX11_judge_56 : decode cX11_judge 56 = .ok (.iload_n 3, 1) := by decide +kernel
theorem dX11_judge_57 : decode cX11_judge 57 = .ok (.isub, 1) := by decide +kernel
theorem dX11_judge_58 : decode cX11_judge 58 = .ok (.if_icmp .lt 8, 3) := by decide +kernel
theorem dX11_judge_61 : decode cX11_judge 61 = .ok (.bipush 100, 2) := by decide +kernel
theorem dX11_judge_63 : decode cX11_judge 63 = .ok (.iload_n 3, 1) := by decide +kernel
theorem dX11_judge_64 : decode cX11_judge 64 = .ok (.iadd, 1) := by decide +kernel
theorem dX11_judge_65 : decode cX11_judge 65 = .ok (.ireturn, 1) := by decide +kernel
theorem dX11_judge_66 : decode cX11_judge 66 = .ok (.aload_n 0, 1) := by decide +kernel
theorem dX11_judge_67 : decode cX11_judge 67 = .ok (.getfield 102, 3) := by decide +kernel
theorem dX11_judge_70 : decode cX11_judge 70 = .ok (.iload_n 1, 1) := by decide +kernel
theorem dX11_judge_71 : decode cX11_judge 71 = .ok (.aaload, 1) := by decide +kernel
theorem dX11_judge_72 : decode cX11_judge 72 = .ok (.iload_n 2, 1) := by decide +kernel
theorem dX11_judge_73 : decode cX11_judge 73 = .ok (.iload_n 3, 1) := by decide +kernel
theorem dX11_judge_74 : decode cX11_judge 74 = .ok (.iadd, 1) := by decide +kernel
theorem dX11_judge_75 : decode cX11_judge 75 = .ok (.laload, 1) := by decide +kernel
theorem dX11_judge_76 : decode cX11_judge 76 = .ok (.aload_n 0, 1) := by decide +kernel
theorem dX11_judge_77 : decode cX11_judge 77 = .ok (.getfield 41, 3) := by decide +kernel
theorem dX11_judge_80 : decode cX11_judge 80 = .ok (.getfield 161, 3) := by decide +kernel
theorem dX11_judge_83 : decode cX11_judge 83 = .ok (.iload_n 3, 1) := by decide +kernel
theorem dX11_judge_84 : decode cX11_judge 84 = .ok (.iaload, 1) := by decide +kernel
theorem dX11_judge_85 : decode cX11_judge 85 = .ok (.i2l, 1) := by decide +kernel
theorem dX11_judge_86 : decode cX11_judge 86 = .ok (.lcmp, 1) := by decide +kernel
theorem dX11_judge_87 : decode cX11_judge 87 = .ok (.ifCond .eq 5, 3) := by decide +kernel
theorem dX11_judge_90 : decode cX11_judge 90 = .ok (.iload_n 3, 1) := by decide +kernel
theorem dX11_judge_91 : decode cX11_judge 91 = .ok (.ireturn, 1) := by decide +kernel
theorem dX11_judge_92 : decode cX11_judge 92 = .ok (.iinc 3 1, 3) := by decide +kernel
theorem dX11_judge_95 : decode cX11_judge 95 = .ok (.goto (-51), 3) := by decide +kernel
theorem dX11_judge_98 : decode cX11_judge 98 = .ok (.bipush (-5), 2) := by decide +kernel
theorem dX11_judge_100 : decode cX11_judge 100 = .ok (.ireturn, 1) := by decide +kernel
noncomputable def C_X11_judge : List (Nat × qOp) := [(0, qo_iload 1 1),
  (1, qo_calls S_X11_isTape 1),
  (4, qo_ifne 9),
  (7, qo_ci (-1) 1),
  (8, qo_ret (some .int) 1),
  (9, qo_aload 0 1),
  (10, qo_getR 11 15),
  (13, qo_iload 1 1),
  (14, qo_iaload),
  (15, qo_ci (-1) 1),
  (16, qo_icne 22),
  (19, qo_ci 100 2),
  (21, qo_ret (some .int) 1),
  (22, qo_aload 0 1),
  (23, qo_getR 11 15),
  (26, qo_iload 1 1),
  (27, qo_iaload),
  (28, qo_ci 2 1),
  (29, qo_iceq 35),
  (32, qo_ci (-12) 2),
  (34, qo_ret (some .int) 1),
  (35, qo_iload 2 1),
  (36, qo_ifge 42),
  (39, qo_ci 100 2),
  (41, qo_ret (some .int) 1),
  (42, qo_ci 0 1),
  (43, qo_istore 3 1),
  (44, qo_iload 3 1),
  (45, qo_ci 5 1),
  (46, qo_icge 98),
  (49, qo_iload 2 1),
  (50, qo_aload 0 1),
  (51, qo_getR 11 16),
  (54, qo_iload 1 1),
  (55, qo_iaload),
  (56, qo_iload 3 1),
  (57, qo_isub),
  (58, qo_iclt 66),
  (61, qo_ci 100 2),
  (63, qo_iload 3 1),
  (64, qo_iadd),
  (65, qo_ret (some .int) 1),
  (66, qo_aload 0 1),
  (67, qo_getR 11 17),
  (70, qo_iload 1 1),
  (71, qo_aaload),
  (72, qo_iload 2 1),
  (73, qo_iload 3 1),
  (74, qo_iadd),
  (75, qo_laload),
  (76, qo_aload 0 1),
  (77, qo_getR 11 0),
  (80, qo_getR 8 2),
  (83, qo_iload 3 1),
  (84, qo_iaload),
  (85, qo_i2l),
  (86, qo_lcmp),
  (87, qo_ifeq 92),
  (90, qo_iload 3 1),
  (91, qo_ret (some .int) 1),
  (92, qo_iinc 3 1),
  (95, qo_goto 44),
  (98, qo_ci (-5) 2),
  (100, qo_ret (some .int) 1)]
noncomputable def S_X11_judge : qSem := qM 4 C_X11_judge
set_option maxRecDepth 20000 in
theorem K_X11_judge {X : qX} {l : Launch} : ∀ q ∈ C_X11_judge, qOk X l 2 cX11_judge 4 RX11 "judge" (some .int) q.1 q.2 := by
  unfold C_X11_judge
  refine qcons (qk_iload_n dX11_judge_0 rfl) ?_
  refine qcons (qk_calls (qrunS M_X11_isTape (by decide) (by decide) tw_711 tw_712 tw_713 tw_78 ⟨by decide, by decide⟩ (by decide +kernel)) dX11_judge_1) ?_
  refine qcons (qk_ifne dX11_judge_4 (by decide)) ?_
  refine qcons (qk_iconst dX11_judge_7 (by decide)) ?_
  refine qcons (qk_ret dX11_judge_8 (Or.inr (Or.inl ⟨rfl, rfl⟩))) ?_
  refine qcons (qk_aload_n dX11_judge_9 rfl) ?_
  refine qcons (qk_getR fd_X11_93 kd_11_15 dX11_judge_10) ?_
  refine qcons (qk_iload_n dX11_judge_13 rfl) ?_
  refine qcons (qk_iaload dX11_judge_14) ?_
  refine qcons (qk_iconst dX11_judge_15 (by decide)) ?_
  refine qcons (qk_icne dX11_judge_16 (by decide)) ?_
  refine qcons (qk_bipush dX11_judge_19 (by decide) (by decide)) ?_
  refine qcons (qk_ret dX11_judge_21 (Or.inr (Or.inl ⟨rfl, rfl⟩))) ?_
  refine qcons (qk_aload_n dX11_judge_22 rfl) ?_
  refine qcons (qk_getR fd_X11_93 kd_11_15 dX11_judge_23) ?_
  refine qcons (qk_iload_n dX11_judge_26 rfl) ?_
  refine qcons (qk_iaload dX11_judge_27) ?_
  refine qcons (qk_iconst dX11_judge_28 (by decide)) ?_
  refine qcons (qk_iceq dX11_judge_29 (by decide)) ?_
  refine qcons (qk_bipush dX11_judge_32 (by decide) (by decide)) ?_
  refine qcons (qk_ret dX11_judge_34 (Or.inr (Or.inl ⟨rfl, rfl⟩))) ?_
  refine qcons (qk_iload_n dX11_judge_35 rfl) ?_
  refine qcons (qk_ifge dX11_judge_36 (by decide)) ?_
  refine qcons (qk_bipush dX11_judge_39 (by decide) (by decide)) ?_
  refine qcons (qk_ret dX11_judge_41 (Or.inr (Or.inl ⟨rfl, rfl⟩))) ?_
  refine qcons (qk_iconst dX11_judge_42 (by decide)) ?_
  refine qcons (qk_istore_n dX11_judge_43 rfl) ?_
  refine qcons (qk_iload_n dX11_judge_44 rfl) ?_
  refine qcons (qk_iconst dX11_judge_45 (by decide)) ?_
  refine qcons (qk_icge dX11_judge_46 (by decide)) ?_
  refine qcons (qk_iload_n dX11_judge_49 rfl) ?_
  refine qcons (qk_aload_n dX11_judge_50 rfl) ?_
  refine qcons (qk_getR fd_X11_97 kd_11_16 dX11_judge_51) ?_
  refine qcons (qk_iload_n dX11_judge_54 rfl) ?_
  refine qcons (qk_iaload dX11_judge_55) ?_
  refine qcons (qk_iload_n dX11_judge_56 rfl) ?_
  refine qcons (qk_isub dX11_judge_57) ?_
  refine qcons (qk_iclt dX11_judge_58 (by decide)) ?_
  refine qcons (qk_bipush dX11_judge_61 (by decide) (by decide)) ?_
  refine qcons (qk_iload_n dX11_judge_63 rfl) ?_
  refine qcons (qk_iadd dX11_judge_64) ?_
  refine qcons (qk_ret dX11_judge_65 (Or.inr (Or.inl ⟨rfl, rfl⟩))) ?_
  refine qcons (qk_aload_n dX11_judge_66 rfl) ?_
  refine qcons (qk_getR fd_X11_102 kd_11_17 dX11_judge_67) ?_
  refine qcons (qk_iload_n dX11_judge_70 rfl) ?_
  refine qcons (qk_aaload dX11_judge_71) ?_
  refine qcons (qk_iload_n dX11_judge_72 rfl) ?_
  refine qcons (qk_iload_n dX11_judge_73 rfl) ?_
  refine qcons (qk_iadd dX11_judge_74) ?_
  refine qcons (qk_laload dX11_judge_75) ?_
  refine qcons (qk_aload_n dX11_judge_76 rfl) ?_
  refine qcons (qk_getR fd_X11_41 kd_11_0 dX11_judge_77) ?_
  refine qcons (qk_getR fd_X11_161 kd_8_2 dX11_judge_80) ?_
  refine qcons (qk_iload_n dX11_judge_83 rfl) ?_
  refine qcons (qk_iaload dX11_judge_84) ?_
  refine qcons (qk_i2l dX11_judge_85) ?_
  refine qcons (qk_lcmp dX11_judge_86) ?_
  refine qcons (qk_ifeq dX11_judge_87 (by decide)) ?_
  refine qcons (qk_iload_n dX11_judge_90 rfl) ?_
  refine qcons (qk_ret dX11_judge_91 (Or.inr (Or.inl ⟨rfl, rfl⟩))) ?_
  refine qcons (qk_iinc dX11_judge_92) ?_
  refine qcons (qk_goto dX11_judge_95 (by decide)) ?_
  refine qcons (qk_bipush dX11_judge_98 (by decide) (by decide)) ?_
  refine qcons (qk_ret dX11_judge_100 (Or.inr (Or.inl ⟨rfl, rfl⟩))) ?_
  exact qnil
theorem M_X11_judge {X : qX} {l : Launch} : qMet X l 2 yX11_judge cX11_judge 4 (some .int) S_X11_judge := qmet_of K_X11_judge (by decide) rfl rfl
theorem dX11_image_0 : decode cX11_image 0 = .ok (.aload_n 0, 1) := by decide +kernel
theorem dX11_image_1 : decode cX11_image 1 = .ok (.getfield 51, 3) := by decide +kernel
theorem dX11_image_4 : decode cX11_image 4 = .ok (.aload_n 0, 1) := by decide +kernel
theorem dX11_image_5 : decode cX11_image 5 = .ok (.getfield 41, 3) := by decide +kernel
theorem dX11_image_8 : decode cX11_image 8 = .ok (.invokevirtual 193, 3) := by decide +kernel
theorem dX11_image_11 : decode cX11_image 11 = .ok (.aload_n 0, 1) := by decide +kernel
theorem dX11_image_12 : decode cX11_image 12 = .ok (.getfield 69, 3) := by decide +kernel
theorem dX11_image_15 : decode cX11_image 15 = .ok (.aload_n 0, 1) := by decide +kernel
theorem dX11_image_16 : decode cX11_image 16 = .ok (.getfield 59, 3) := by decide +kernel
theorem dX11_image_19 : decode cX11_image 19 = .ok (.invokevirtual 251, 3) := by decide +kernel
theorem dX11_image_22 : decode cX11_image 22 = .ok (.aload_n 0, 1) := by decide +kernel
theorem dX11_image_23 : decode cX11_image 23 = .ok (.getfield 72, 3) := by decide +kernel
theorem dX11_image_26 : decode cX11_image 26 = .ok (.aload_n 0, 1) := by decide +kernel
theorem dX11_image_27 : decode cX11_image 27 = .ok (.getfield 63, 3) := by decide +kernel
theorem dX11_image_30 : decode cX11_image 30 = .ok (.invokevirtual 251, 3) := by decide +kernel
theorem dX11_image_33 : decode cX11_image 33 = .ok (.aload_n 0, 1) := by decide +kernel
theorem dX11_image_34 : decode cX11_image 34 = .ok (.getfield 75, 3) := by decide +kernel
theorem dX11_image_37 : decode cX11_image 37 = .ok (.aload_n 0, 1) := by decide +kernel
theorem dX11_image_38 : decode cX11_image 38 = .ok (.getfield 66, 3) := by decide +kernel
theorem dX11_image_41 : decode cX11_image 41 = .ok (.invokevirtual 251, 3) := by decide +kernel
theorem dX11_image_44 : decode cX11_image 44 = .ok (.aload_n 0, 1) := by decide +kernel
theorem dX11_image_45 : decode cX11_image 45 = .ok (.iconst 1, 1) := by decide +kernel
theorem dX11_image_46 : decode cX11_image 46 = .ok (.putfield 254, 3) := by decide +kernel
theorem dX11_image_49 : decode cX11_image 49 = .ok (.aload_n 0, 1) := by decide +kernel
theorem dX11_image_50 : decode cX11_image 50 = .ok (.getfield 41, 3) := by decide +kernel
theorem dX11_image_53 : decode cX11_image 53 = .ok (.getfield 113, 3) := by decide +kernel
theorem dX11_image_56 : decode cX11_image 56 = .ok (.ireturn, 1) := by decide +kernel
noncomputable def C_X11_image : List (Nat × qOp) := [(0, qo_aload 0 1),
  (1, qo_getR 11 2),
  (4, qo_aload 0 1),
  (5, qo_getR 11 0),
  (8, qo_callv [(8, S_X8_becomes)] 1),
  (11, qo_aload 0 1),
  (12, qo_getR 11 6),
  (15, qo_aload 0 1),
  (16, qo_getR 11 3),
  (19, qo_callv [(6, S_X6_becomes)] 1),
  (22, qo_aload 0 1),
  (23, qo_getR 11 7),
  (26, qo_aload 0 1),
  (27, qo_getR 11 4),
  (30, qo_callv [(6, S_X6_becomes)] 1),
  (33, qo_aload 0 1),
  (34, qo_getR 11 8),
  (37, qo_aload 0 1),
  (38, qo_getR 11 5),
  (41, qo_callv [(6, S_X6_becomes)] 1),
  (44, qo_aload 0 1),
  (45, qo_ci 1 1),
  (46, qo_putZ 11 9),
  (49, qo_aload 0 1),
  (50, qo_getR 11 0),
  (53, qo_getI 8 10),
  (56, qo_ret (some .int) 1)]
noncomputable def S_X11_image : qSem := qM 1 C_X11_image
set_option maxRecDepth 20000 in
theorem K_X11_image {X : qX} {l : Launch} : ∀ q ∈ C_X11_image, qOk X l 2 cX11_image 1 RX11 "image" (some .int) q.1 q.2 := by
  unfold C_X11_image
  refine qcons (qk_aload_n dX11_image_0 rfl) ?_
  refine qcons (qk_getR fd_X11_51 kd_11_2 dX11_image_1) ?_
  refine qcons (qk_aload_n dX11_image_4 rfl) ?_
  refine qcons (qk_getR fd_X11_41 kd_11_0 dX11_image_5) ?_
  refine qcons (qk_callv (ins := fun i => .invokevirtual i) (qconsV (qrunV M_X8_becomes (by decide) (by decide) (by decide) rfl tw_601 tw_602 tw_603 tw_604 tw_87 ⟨by decide, by decide⟩ (by decide +kernel)) qnilV) dX11_image_8) ?_
  refine qcons (qk_aload_n dX11_image_11 rfl) ?_
  refine qcons (qk_getR fd_X11_69 kd_11_6 dX11_image_12) ?_
  refine qcons (qk_aload_n dX11_image_15 rfl) ?_
  refine qcons (qk_getR fd_X11_59 kd_11_3 dX11_image_16) ?_
  refine qcons (qk_callv (ins := fun i => .invokevirtual i) (qconsV (qrunV M_X6_becomes (by decide) (by decide) (by decide) rfl tw_718 tw_719 tw_720 tw_721 tw_88 ⟨by decide, by decide⟩ (by decide +kernel)) qnilV) dX11_image_19) ?_
  refine qcons (qk_aload_n dX11_image_22 rfl) ?_
  refine qcons (qk_getR fd_X11_72 kd_11_7 dX11_image_23) ?_
  refine qcons (qk_aload_n dX11_image_26 rfl) ?_
  refine qcons (qk_getR fd_X11_63 kd_11_4 dX11_image_27) ?_
  refine qcons (qk_callv (ins := fun i => .invokevirtual i) (qconsV (qrunV M_X6_becomes (by decide) (by decide) (by decide) rfl tw_718 tw_719 tw_720 tw_721 tw_88 ⟨by decide, by decide⟩ (by decide +kernel)) qnilV) dX11_image_30) ?_
  refine qcons (qk_aload_n dX11_image_33 rfl) ?_
  refine qcons (qk_getR fd_X11_75 kd_11_8 dX11_image_34) ?_
  refine qcons (qk_aload_n dX11_image_37 rfl) ?_
  refine qcons (qk_getR fd_X11_66 kd_11_5 dX11_image_38) ?_
  refine qcons (qk_callv (ins := fun i => .invokevirtual i) (qconsV (qrunV M_X6_becomes (by decide) (by decide) (by decide) rfl tw_718 tw_719 tw_720 tw_721 tw_88 ⟨by decide, by decide⟩ (by decide +kernel)) qnilV) dX11_image_41) ?_
  refine qcons (qk_aload_n dX11_image_44 rfl) ?_
  refine qcons (qk_iconst dX11_image_45 (by decide)) ?_
  refine qcons (qk_putZ (ty := .int) fd_X11_254 tyX11_ok nmX11 (Or.inl rfl) kd_11_9 (tyX11_ok 9 (by decide)) dX11_image_46) ?_
  refine qcons (qk_aload_n dX11_image_49 rfl) ?_
  refine qcons (qk_getR fd_X11_41 kd_11_0 dX11_image_50) ?_
  refine qcons (qk_getI fd_X11_113 kd_8_10 dX11_image_53) ?_
  refine qcons (qk_ret dX11_image_56 (Or.inr (Or.inl ⟨rfl, rfl⟩))) ?_
  exact qnil
theorem M_X11_image {X : qX} {l : Launch} : qMet X l 2 yX11_image cX11_image 1 (some .int) S_X11_image := qmet_of K_X11_image (by decide) rfl rfl
theorem dX11_undo_0 : decode cX11_undo 0 = .ok (.aload_n 0, 1) := by decide +kernel
theorem dX11_undo_1 : decode cX11_undo 1 = .ok (.getfield 254, 3) := by decide +kernel
theorem dX11_undo_4 : decode cX11_undo 4 = .ok (.ifCond .ne 6, 3) := by decide +kernel
theorem dX11_undo_7 : decode cX11_undo 7 = .ok (.bipush (-3), 2) := by decide +kernel
theorem dX11_undo_9 : decode cX11_undo 9 = .ok (.ireturn, 1) := by decide +kernel
theorem dX11_undo_10 : decode cX11_undo 10 = .ok (.aload_n 0, 1) := by decide +kernel
theorem dX11_undo_11 : decode cX11_undo 11 = .ok (.getfield 41, 3) := by decide +kernel
theorem dX11_undo_14 : decode cX11_undo 14 = .ok (.aload_n 0, 1) := by decide +kernel
theorem dX11_undo_15 : decode cX11_undo 15 = .ok (.getfield 51, 3) := by decide +kernel
theorem dX11_undo_18 : decode cX11_undo 18 = .ok (.invokevirtual 193, 3) := by decide +kernel
theorem dX11_undo_21 : decode cX11_undo 21 = .ok (.aload_n 0, 1) := by decide +kernel
theorem dX11_undo_22 : decode cX11_undo 22 = .ok (.getfield 59, 3) := by decide +kernel
theorem dX11_undo_25 : decode cX11_undo 25 = .ok (.aload_n 0, 1) := by decide +kernel
theorem dX11_undo_26 : decode cX11_undo 26 = .ok (.getfield 69, 3) := by decide +kernel
theorem dX11_undo_29 : decode cX11_undo 29 = .ok (.invokevirtual 251, 3) := by decide +kernel
theorem dX11_undo_32 : decode cX11_undo 32 = .ok (.aload_n 0, 1) := by decide +kernel
theorem dX11_undo_33 : decode cX11_undo 33 = .ok (.getfield 63, 3) := by decide +kernel
theorem dX11_undo_36 : decode cX11_undo 36 = .ok (.aload_n 0, 1) := by decide +kernel
theorem dX11_undo_37 : decode cX11_undo 37 = .ok (.getfield 72, 3) := by decide +kernel
theorem dX11_undo_40 : decode cX11_undo 40 = .ok (.invokevirtual 251, 3) := by decide +kernel
theorem dX11_undo_43 : decode cX11_undo 43 = .ok (.aload_n 0, 1) := by decide +kernel
theorem dX11_undo_44 : decode cX11_undo 44 = .ok (.getfield 66, 3) := by decide +kernel
theorem dX11_undo_47 : decode cX11_undo 47 = .ok (.aload_n 0, 1) := by decide +kernel
theorem dX11_undo_48 : decode cX11_undo 48 = .ok (.getfield 75, 3) := by decide +kernel
theorem dX11_undo_51 : decode cX11_undo 51 = .ok (.invokevirtual 251, 3) := by decide +kernel
theorem dX11_undo_54 : decode cX11_undo 54 = .ok (.aload_n 0, 1) := by decide +kernel
theorem dX11_undo_55 : decode cX11_undo 55 = .ok (.getfield 41, 3) := by decide +kernel
theorem dX11_undo_58 : decode cX11_undo 58 = .ok (.getfield 113, 3) := by decide +kernel
theorem dX11_undo_61 : decode cX11_undo 61 = .ok (.ireturn, 1) := by decide +kernel
noncomputable def C_X11_undo : List (Nat × qOp) := [(0, qo_aload 0 1),
  (1, qo_getI 11 9),
  (4, qo_ifne 10),
  (7, qo_ci (-3) 2),
  (9, qo_ret (some .int) 1),
  (10, qo_aload 0 1),
  (11, qo_getR 11 0),
  (14, qo_aload 0 1),
  (15, qo_getR 11 2),
  (18, qo_callv [(8, S_X8_becomes)] 1),
  (21, qo_aload 0 1),
  (22, qo_getR 11 3),
  (25, qo_aload 0 1),
  (26, qo_getR 11 6),
  (29, qo_callv [(6, S_X6_becomes)] 1),
  (32, qo_aload 0 1),
  (33, qo_getR 11 4),
  (36, qo_aload 0 1),
  (37, qo_getR 11 7),
  (40, qo_callv [(6, S_X6_becomes)] 1),
  (43, qo_aload 0 1),
  (44, qo_getR 11 5),
  (47, qo_aload 0 1),
  (48, qo_getR 11 8),
  (51, qo_callv [(6, S_X6_becomes)] 1),
  (54, qo_aload 0 1),
  (55, qo_getR 11 0),
  (58, qo_getI 8 10),
  (61, qo_ret (some .int) 1)]
noncomputable def S_X11_undo : qSem := qM 1 C_X11_undo
set_option maxRecDepth 20000 in
theorem K_X11_undo {X : qX} {l : Launch} : ∀ q ∈ C_X11_undo, qOk X l 2 cX11_undo 1 RX11 "undo" (some .int) q.1 q.2 := by
  unfold C_X11_undo
  refine qcons (qk_aload_n dX11_undo_0 rfl) ?_
  refine qcons (qk_getI fd_X11_254 kd_11_9 dX11_undo_1) ?_
  refine qcons (qk_ifne dX11_undo_4 (by decide)) ?_
  refine qcons (qk_bipush dX11_undo_7 (by decide) (by decide)) ?_
  refine qcons (qk_ret dX11_undo_9 (Or.inr (Or.inl ⟨rfl, rfl⟩))) ?_
  refine qcons (qk_aload_n dX11_undo_10 rfl) ?_
  refine qcons (qk_getR fd_X11_41 kd_11_0 dX11_undo_11) ?_
  refine qcons (qk_aload_n dX11_undo_14 rfl) ?_
  refine qcons (qk_getR fd_X11_51 kd_11_2 dX11_undo_15) ?_
  refine qcons (qk_callv (ins := fun i => .invokevirtual i) (qconsV (qrunV M_X8_becomes (by decide) (by decide) (by decide) rfl tw_601 tw_602 tw_603 tw_604 tw_87 ⟨by decide, by decide⟩ (by decide +kernel)) qnilV) dX11_undo_18) ?_
  refine qcons (qk_aload_n dX11_undo_21 rfl) ?_
  refine qcons (qk_getR fd_X11_59 kd_11_3 dX11_undo_22) ?_
  refine qcons (qk_aload_n dX11_undo_25 rfl) ?_
  refine qcons (qk_getR fd_X11_69 kd_11_6 dX11_undo_26) ?_
  refine qcons (qk_callv (ins := fun i => .invokevirtual i) (qconsV (qrunV M_X6_becomes (by decide) (by decide) (by decide) rfl tw_718 tw_719 tw_720 tw_721 tw_88 ⟨by decide, by decide⟩ (by decide +kernel)) qnilV) dX11_undo_29) ?_
  refine qcons (qk_aload_n dX11_undo_32 rfl) ?_
  refine qcons (qk_getR fd_X11_63 kd_11_4 dX11_undo_33) ?_
  refine qcons (qk_aload_n dX11_undo_36 rfl) ?_
  refine qcons (qk_getR fd_X11_72 kd_11_7 dX11_undo_37) ?_
  refine qcons (qk_callv (ins := fun i => .invokevirtual i) (qconsV (qrunV M_X6_becomes (by decide) (by decide) (by decide) rfl tw_718 tw_719 tw_720 tw_721 tw_88 ⟨by decide, by decide⟩ (by decide +kernel)) qnilV) dX11_undo_40) ?_
  refine qcons (qk_aload_n dX11_undo_43 rfl) ?_
  refine qcons (qk_getR fd_X11_66 kd_11_5 dX11_undo_44) ?_
  refine qcons (qk_aload_n dX11_undo_47 rfl) ?_
  refine qcons (qk_getR fd_X11_75 kd_11_8 dX11_undo_48) ?_
  refine qcons (qk_callv (ins := fun i => .invokevirtual i) (qconsV (qrunV M_X6_becomes (by decide) (by decide) (by decide) rfl tw_718 tw_719 tw_720 tw_721 tw_88 ⟨by decide, by decide⟩ (by decide +kernel)) qnilV) dX11_undo_51) ?_
  refine qcons (qk_aload_n dX11_undo_54 rfl) ?_
  refine qcons (qk_getR fd_X11_41 kd_11_0 dX11_undo_55) ?_
  refine qcons (qk_getI fd_X11_113 kd_8_10 dX11_undo_58) ?_
  refine qcons (qk_ret dX11_undo_61 (Or.inr (Or.inl ⟨rfl, rfl⟩))) ?_
  exact qnil
theorem M_X11_undo {X : qX} {l : Launch} : qMet X l 2 yX11_undo cX11_undo 1 (some .int) S_X11_undo := qmet_of K_X11_undo (by decide) rfl rfl
theorem dX11_act_0 : decode cX11_act 0 = .ok (.aload_n 0, 1) := by decide +kernel
theorem dX11_act_1 : decode cX11_act 1 = .ok (.getfield 89, 3) := by decide +kernel
theorem dX11_act_4 : decode cX11_act 4 = .ok (.iconst 0, 1) := by decide +kernel
theorem dX11_act_5 : decode cX11_act 5 = .ok (.putfield 258, 3) := by decide +kernel
theorem dX11_act_8 : decode cX11_act 8 = .ok (.aload_n 0, 1) := by decide +kernel
theorem dX11_act_9 : decode cX11_act 9 = .ok (.iload_n 1, 1) := by decide +kernel
theorem dX11_act_10 : decode cX11_act 10 = .ok (.invokevirtual 121, 3) := by decide +kernel
theorem dX11_act_13 : decode cX11_act 13 = .ok (.ifCond .ne 5, 3) := by decide +kernel
theorem dX11_act_16 : decode cX11_act 16 = .ok (.iconst 0, 1) := by decide +kernel
theorem dX11_act_17 : decode cX11_act 17 = .ok (.ireturn, 1) := by decide +kernel
theorem dX11_act_18 : decode cX11_act 18 = .ok (.aload_n 0, 1) := by decide +kernel
theorem dX11_act_19 : decode cX11_act 19 = .ok (.getfield 89, 3) := by decide +kernel
theorem dX11_act_22 : decode cX11_act 22 = .ok (.iload_n 1, 1) := by decide +kernel
theorem dX11_act_23 : decode cX11_act 23 = .ok (.putfield 261, 3) := by decide +kernel
theorem dX11_act_26 : decode cX11_act 26 = .ok (.aload_n 0, 1) := by decide +kernel
theorem dX11_act_27 : decode cX11_act 27 = .ok (.getfield 89, 3) := by decide +kernel
theorem dX11_act_30 : decode cX11_act 30 = .ok (.aload_n 0, 1) := by decide +kernel
theorem dX11_act_31 : decode cX11_act 31 = .ok (.getfield 41, 3) := by decide +kernel
theorem dX11_act_34 : decode cX11_act 34 = .ok (.getfield 127, 3) := by decide +kernel
theorem dX11_act_37 : decode cX11_act 37 = .ok (.iload_n 1, 1) := by decide +kernel
theorem dX11_act_38 : decode cX11_act 38 = .ok (.iaload, 1) := by decide +kernel
theorem dX11_act_39 : decode cX11_act 39 = .ok (.putfield 264, 3) := by decide +kernel
theorem dX11_act_42 : decode cX11_act 42 = .ok (.aload_n 0, 1) := by decide +kernel
theorem dX11_act_43 : decode cX11_act 43 = .ok (.getfield 41, 3) := by decide +kernel
theorem dX11_act_46 : decode cX11_act 46 = .ok (.getfield 266, 3) := by decide +kernel
theorem dX11_act_49 : decode cX11_act 49 = .ok (.aload_n 0, 1) := by decide +kernel
theorem dX11_act_50 : decode cX11_act 50 = .ok (.getfield 41, 3) := by decide +kernel
theorem dX11_act_53 : decode cX11_act 53 = .ok (.getfield 124, 3) := by decide +kernel
theorem dX11_act_56 : decode cX11_act 56 = .ok (.iload_n 1, 1) := by decide +kernel
theorem dX11_act_57 : decode cX11_act 57 = .ok (.iaload, 1) := by decide +kernel
theorem dX11_act_58 : decode cX11_act 58 = .ok (.aaload, 1) := by decide +kernel
theorem dX11_act_59 : decode cX11_act 59 = .ok (.astore 4, 2) := by decide +kernel
theorem dX11_act_61 : decode cX11_act 61 = .ok (.iload_n 2, 1) := by decide +kernel
theorem dX11_act_62 : decode cX11_act 62 = .ok (.tableswitch 59 0 2 #[26, 37, 48], 26) := by decide +kernel
theorem dX11_act_88 : decode cX11_act 88 = .ok (.aload 4, 2) := by decide +kernel
theorem dX11_act_90 : decode cX11_act 90 = .ok (.aload_n 0, 1) := by decide +kernel
theorem dX11_act_91 : decode cX11_act 91 = .ok (.getfield 89, 3) := by decide +kernel
theorem dX11_act_94 : decode cX11_act 94 = .ok (.iload_n 3, 1) := by decide +kernel
theorem dX11_act_95 : decode cX11_act 95 = .ok (.invokevirtual 270, 3) := by decide +kernel
theorem dX11_act_98 : decode cX11_act 98 = .ok (.ireturn, 1) := by decide +kernel
theorem dX11_act_99 : decode cX11_act 99 = .ok (.aload 4, 2) := by decide +kernel
theorem dX11_act_101 : decode cX11_act 101 = .ok (.aload_n 0, 1) := by decide +kernel
theorem dX11_act_102 : decode cX11_act 102 = .ok (.getfield 89, 3) := by decide +kernel
theorem dX11_act_105 : decode cX11_act 105 = .ok (.iload_n 3, 1) := by decide +kernel
theorem dX11_act_106 : decode cX11_act 106 = .ok (.invokevirtual 274, 3) := by decide +kernel
theorem dX11_act_109 : decode cX11_act 109 = .ok (.ireturn, 1) := by decide +kernel
theorem dX11_act_110 : decode cX11_act 110 = .ok (.aload 4, 2) := by decide +kernel
theorem dX11_act_112 : decode cX11_act 112 = .ok (.aload_n 0, 1) := by decide +kernel
theorem dX11_act_113 : decode cX11_act 113 = .ok (.getfield 89, 3) := by decide +kernel
theorem dX11_act_116 : decode cX11_act 116 = .ok (.iload_n 3, 1) := by decide +kernel
theorem dX11_act_117 : decode cX11_act 117 = .ok (.invokevirtual 277, 3) := by decide +kernel
theorem dX11_act_120 : decode cX11_act 120 = .ok (.ireturn, 1) := by decide +kernel
theorem dX11_act_121 : decode cX11_act 121 = .ok (.iconst 0, 1) := by decide +kernel
theorem dX11_act_122 : decode cX11_act 122 = .ok (.ireturn, 1) := by decide +kernel
noncomputable def C_X11_act : List (Nat × qOp) := [(0, qo_aload 0 1),
  (1, qo_getR 11 14),
  (4, qo_ci 0 1),
  (5, qo_putI 0 3),
  (8, qo_aload 0 1),
  (9, qo_iload 1 1),
  (10, qo_callv [(11, S_X11_isPerson)] 1),
  (13, qo_ifne 18),
  (16, qo_ci 0 1),
  (17, qo_ret (some .int) 1),
  (18, qo_aload 0 1),
  (19, qo_getR 11 14),
  (22, qo_iload 1 1),
  (23, qo_putI 0 1),
  (26, qo_aload 0 1),
  (27, qo_getR 11 14),
  (30, qo_aload 0 1),
  (31, qo_getR 11 0),
  (34, qo_getR 8 4),
  (37, qo_iload 1 1),
  (38, qo_iaload),
  (39, qo_putI 0 2),
  (42, qo_aload 0 1),
  (43, qo_getR 11 0),
  (46, qo_getR 8 0),
  (49, qo_aload 0 1),
  (50, qo_getR 11 0),
  (53, qo_getR 8 3),
  (56, qo_iload 1 1),
  (57, qo_iaload),
  (58, qo_aaload),
  (59, qo_astore 4 2),
  (61, qo_iload 2 1),
  (62, qo_tsw 0 [88, 99, 110] 121),
  (88, qo_aload 4 2),
  (90, qo_aload 0 1),
  (91, qo_getR 11 14),
  (94, qo_iload 3 1),
  (95, qo_callv [(4, S_X4_folds), (5, S_X4_folds), (2, S_X2_folds), (9, S_X4_folds), (7, S_X7_folds), (1, S_X2_folds), (10, S_X10_folds)] 2),
  (98, qo_ret (some .int) 1),
  (99, qo_aload 4 2),
  (101, qo_aload 0 1),
  (102, qo_getR 11 14),
  (105, qo_iload 3 1),
  (106, qo_callv [(4, S_X4_licks), (5, S_X5_licks), (2, S_X4_licks), (9, S_X4_licks), (7, S_X7_licks), (1, S_X4_licks), (10, S_X10_licks)] 2),
  (109, qo_ret (some .int) 1),
  (110, qo_aload 4 2),
  (112, qo_aload 0 1),
  (113, qo_getR 11 14),
  (116, qo_iload 3 1),
  (117, qo_callv [(4, S_X4_tells), (5, S_X4_tells), (2, S_X4_tells), (9, S_X9_tells), (7, S_X4_tells), (1, S_X1_tells), (10, S_X9_tells)] 2),
  (120, qo_ret (some .int) 1),
  (121, qo_ci 0 1),
  (122, qo_ret (some .int) 1)]
noncomputable def S_X11_act : qSem := qM 5 C_X11_act
set_option maxRecDepth 20000 in
theorem K_X11_act {X : qX} {l : Launch} : ∀ q ∈ C_X11_act, qOk X l 9 cX11_act 5 RX11 "act" (some .int) q.1 q.2 := by
  unfold C_X11_act
  refine qcons (qk_aload_n dX11_act_0 rfl) ?_
  refine qcons (qk_getR fd_X11_89 kd_11_14 dX11_act_1) ?_
  refine qcons (qk_iconst dX11_act_4 (by decide)) ?_
  refine qcons (qk_putI (ty := .int) fd_X11_258 tyX0_ok nmX0 (Or.inl rfl) kd_0_3 (tyX0_ok 3 (by decide)) dX11_act_5) ?_
  refine qcons (qk_aload_n dX11_act_8 rfl) ?_
  refine qcons (qk_iload_n dX11_act_9 rfl) ?_
  refine qcons (qk_callv (ins := fun i => .invokevirtual i) (qconsV (qrunV M_X11_isPerson (by decide) (by decide) (by decide) rfl tw_391 tw_393 tw_0 tw_394 tw_78 ⟨by decide, by decide⟩ (by decide +kernel)) qnilV) dX11_act_10) ?_
  refine qcons (qk_ifne dX11_act_13 (by decide)) ?_
  refine qcons (qk_iconst dX11_act_16 (by decide)) ?_
  refine qcons (qk_ret dX11_act_17 (Or.inr (Or.inl ⟨rfl, rfl⟩))) ?_
  refine qcons (qk_aload_n dX11_act_18 rfl) ?_
  refine qcons (qk_getR fd_X11_89 kd_11_14 dX11_act_19) ?_
  refine qcons (qk_iload_n dX11_act_22 rfl) ?_
  refine qcons (qk_putI (ty := .int) fd_X11_261 tyX0_ok nmX0 (Or.inl rfl) kd_0_1 (tyX0_ok 1 (by decide)) dX11_act_23) ?_
  refine qcons (qk_aload_n dX11_act_26 rfl) ?_
  refine qcons (qk_getR fd_X11_89 kd_11_14 dX11_act_27) ?_
  refine qcons (qk_aload_n dX11_act_30 rfl) ?_
  refine qcons (qk_getR fd_X11_41 kd_11_0 dX11_act_31) ?_
  refine qcons (qk_getR fd_X11_127 kd_8_4 dX11_act_34) ?_
  refine qcons (qk_iload_n dX11_act_37 rfl) ?_
  refine qcons (qk_iaload dX11_act_38) ?_
  refine qcons (qk_putI (ty := .int) fd_X11_264 tyX0_ok nmX0 (Or.inl rfl) kd_0_2 (tyX0_ok 2 (by decide)) dX11_act_39) ?_
  refine qcons (qk_aload_n dX11_act_42 rfl) ?_
  refine qcons (qk_getR fd_X11_41 kd_11_0 dX11_act_43) ?_
  refine qcons (qk_getR fd_X11_266 kd_8_0 dX11_act_46) ?_
  refine qcons (qk_aload_n dX11_act_49 rfl) ?_
  refine qcons (qk_getR fd_X11_41 kd_11_0 dX11_act_50) ?_
  refine qcons (qk_getR fd_X11_124 kd_8_3 dX11_act_53) ?_
  refine qcons (qk_iload_n dX11_act_56 rfl) ?_
  refine qcons (qk_iaload dX11_act_57) ?_
  refine qcons (qk_aaload dX11_act_58) ?_
  refine qcons (qk_astore dX11_act_59) ?_
  refine qcons (qk_iload_n dX11_act_61 rfl) ?_
  refine qcons (qk_tsw dX11_act_62 (by decide) (by decide) (by decide)) ?_
  refine qcons (qk_aload dX11_act_88) ?_
  refine qcons (qk_aload_n dX11_act_90 rfl) ?_
  refine qcons (qk_getR fd_X11_89 kd_11_14 dX11_act_91) ?_
  refine qcons (qk_iload_n dX11_act_94 rfl) ?_
  refine qcons (qk_callv (ins := fun i => .invokevirtual i) (qconsV (qrunU (C := RX4) (owner := RX4) (x := yX4_folds) (y := yX4_folds) M_X4_folds (by decide) (by decide) (by decide) rfl tw_732 tw_733 tw_734 tw_760 tw_79 tw_735 tw_733 tw_760 ⟨by decide, by decide⟩ (by decide +kernel)) (qconsV (qrunU (C := RX5) (owner := RX4) (x := yX4_folds) (y := yX4_folds) M_X4_folds (by decide) (by decide) (by decide) rfl tw_732 tw_733 tw_745 tw_760 tw_79 tw_735 tw_733 tw_760 ⟨by decide, by decide⟩ (by decide +kernel)) (qconsV (qrunU (C := RX2) (owner := RX4) (x := yX4_folds) (y := yX2_folds) M_X2_folds (by decide) (by decide) (by decide) rfl tw_732 tw_737 tw_744 tw_738 tw_81 tw_735 tw_733 tw_760 ⟨by decide, by decide⟩ (by decide +kernel)) (qconsV (qrunU (C := RX9) (owner := RX4) (x := yX4_folds) (y := yX4_folds) M_X4_folds (by decide) (by decide) (by decide) rfl tw_732 tw_733 tw_753 tw_760 tw_79 tw_735 tw_733 tw_760 ⟨by decide, by decide⟩ (by decide +kernel)) (qconsV (qrunU (C := RX7) (owner := RX4) (x := yX4_folds) (y := yX7_folds) M_X7_folds (by decide) (by decide) (by decide) rfl tw_732 tw_747 tw_746 tw_748 tw_83 tw_735 tw_733 tw_760 ⟨by decide, by decide⟩ (by decide +kernel)) (qconsV (qrunU (C := RX1) (owner := RX4) (x := yX4_folds) (y := yX2_folds) M_X2_folds (by decide) (by decide) (by decide) rfl tw_732 tw_737 tw_736 tw_738 tw_81 tw_735 tw_733 tw_760 ⟨by decide, by decide⟩ (by decide +kernel)) (qconsV (qrunU (C := RX10) (owner := RX4) (x := yX4_folds) (y := yX10_folds) M_X10_folds (by decide) (by decide) (by decide) rfl tw_732 tw_755 tw_754 tw_756 tw_85 tw_735 tw_733 tw_760 ⟨by decide, by decide⟩ (by decide +kernel)) qnilV))))))) dX11_act_95) ?_
  refine qcons (qk_ret dX11_act_98 (Or.inr (Or.inl ⟨rfl, rfl⟩))) ?_
  refine qcons (qk_aload dX11_act_99) ?_
  refine qcons (qk_aload_n dX11_act_101 rfl) ?_
  refine qcons (qk_getR fd_X11_89 kd_11_14 dX11_act_102) ?_
  refine qcons (qk_iload_n dX11_act_105 rfl) ?_
  refine qcons (qk_callv (ins := fun i => .invokevirtual i) (qconsV (qrunU (C := RX4) (owner := RX4) (x := yX4_licks) (y := yX4_licks) M_X4_licks (by decide) (by decide) (by decide) rfl tw_762 tw_763 tw_764 tw_784 tw_79 tw_765 tw_763 tw_784 ⟨by decide, by decide⟩ (by decide +kernel)) (qconsV (qrunU (C := RX5) (owner := RX4) (x := yX4_licks) (y := yX5_licks) M_X5_licks (by decide) (by decide) (by decide) rfl tw_762 tw_769 tw_768 tw_770 tw_80 tw_765 tw_763 tw_784 ⟨by decide, by decide⟩ (by decide +kernel)) (qconsV (qrunU (C := RX2) (owner := RX4) (x := yX4_licks) (y := yX4_licks) M_X4_licks (by decide) (by decide) (by decide) rfl tw_762 tw_763 tw_767 tw_784 tw_79 tw_765 tw_763 tw_784 ⟨by decide, by decide⟩ (by decide +kernel)) (qconsV (qrunU (C := RX9) (owner := RX4) (x := yX4_licks) (y := yX4_licks) M_X4_licks (by decide) (by decide) (by decide) rfl tw_762 tw_763 tw_777 tw_784 tw_79 tw_765 tw_763 tw_784 ⟨by decide, by decide⟩ (by decide +kernel)) (qconsV (qrunU (C := RX7) (owner := RX4) (x := yX4_licks) (y := yX7_licks) M_X7_licks (by decide) (by decide) (by decide) rfl tw_762 tw_774 tw_773 tw_775 tw_83 tw_765 tw_763 tw_784 ⟨by decide, by decide⟩ (by decide +kernel)) (qconsV (qrunU (C := RX1) (owner := RX4) (x := yX4_licks) (y := yX4_licks) M_X4_licks (by decide) (by decide) (by decide) rfl tw_762 tw_763 tw_766 tw_784 tw_79 tw_765 tw_763 tw_784 ⟨by decide, by decide⟩ (by decide +kernel)) (qconsV (qrunU (C := RX10) (owner := RX4) (x := yX4_licks) (y := yX10_licks) M_X10_licks (by decide) (by decide) (by decide) rfl tw_762 tw_779 tw_778 tw_780 tw_85 tw_765 tw_763 tw_784 ⟨by decide, by decide⟩ (by decide +kernel)) qnilV))))))) dX11_act_106) ?_
  refine qcons (qk_ret dX11_act_109 (Or.inr (Or.inl ⟨rfl, rfl⟩))) ?_
  refine qcons (qk_aload dX11_act_110) ?_
  refine qcons (qk_aload_n dX11_act_112 rfl) ?_
  refine qcons (qk_getR fd_X11_89 kd_11_14 dX11_act_113) ?_
  refine qcons (qk_iload_n dX11_act_116 rfl) ?_
  refine qcons (qk_callv (ins := fun i => .invokevirtual i) (qconsV (qrunU (C := RX4) (owner := RX4) (x := yX4_tells) (y := yX4_tells) M_X4_tells (by decide) (by decide) (by decide) rfl tw_786 tw_787 tw_788 tw_809 tw_79 tw_789 tw_787 tw_809 ⟨by decide, by decide⟩ (by decide +kernel)) (qconsV (qrunU (C := RX5) (owner := RX4) (x := yX4_tells) (y := yX4_tells) M_X4_tells (by decide) (by decide) (by decide) rfl tw_786 tw_787 tw_798 tw_809 tw_79 tw_789 tw_787 tw_809 ⟨by decide, by decide⟩ (by decide +kernel)) (qconsV (qrunU (C := RX2) (owner := RX4) (x := yX4_tells) (y := yX4_tells) M_X4_tells (by decide) (by decide) (by decide) rfl tw_786 tw_787 tw_797 tw_809 tw_79 tw_789 tw_787 tw_809 ⟨by decide, by decide⟩ (by decide +kernel)) (qconsV (qrunU (C := RX9) (owner := RX4) (x := yX4_tells) (y := yX9_tells) M_X9_tells (by decide) (by decide) (by decide) rfl tw_786 tw_801 tw_800 tw_802 tw_82 tw_789 tw_787 tw_809 ⟨by decide, by decide⟩ (by decide +kernel)) (qconsV (qrunU (C := RX7) (owner := RX4) (x := yX4_tells) (y := yX4_tells) M_X4_tells (by decide) (by decide) (by decide) rfl tw_786 tw_787 tw_799 tw_809 tw_79 tw_789 tw_787 tw_809 ⟨by decide, by decide⟩ (by decide +kernel)) (qconsV (qrunU (C := RX1) (owner := RX4) (x := yX4_tells) (y := yX1_tells) M_X1_tells (by decide) (by decide) (by decide) rfl tw_786 tw_791 tw_790 tw_792 tw_84 tw_789 tw_787 tw_809 ⟨by decide, by decide⟩ (by decide +kernel)) (qconsV (qrunU (C := RX10) (owner := RX4) (x := yX4_tells) (y := yX9_tells) M_X9_tells (by decide) (by decide) (by decide) rfl tw_786 tw_801 tw_808 tw_802 tw_82 tw_789 tw_787 tw_809 ⟨by decide, by decide⟩ (by decide +kernel)) qnilV))))))) dX11_act_117) ?_
  refine qcons (qk_ret dX11_act_120 (Or.inr (Or.inl ⟨rfl, rfl⟩))) ?_
  refine qcons (qk_iconst dX11_act_121 (by decide)) ?_
  refine qcons (qk_ret dX11_act_122 (Or.inr (Or.inl ⟨rfl, rfl⟩))) ?_
  exact qnil
theorem M_X11_act {X : qX} {l : Launch} : qMet X l 9 yX11_act cX11_act 5 (some .int) S_X11_act := qmet_of K_X11_act (by decide) rfl rfl
theorem dX11_trace_0 : decode cX11_trace 0 = .ok (.iload_n 1, 1) := by decide +kernel
theorem dX11_trace_1 : decode cX11_trace 1 = .ok (.ifCond .lt 38, 3) := by decide +kernel
theorem dX11_trace_4 : decode cX11_trace 4 = .ok (.iload_n 1, 1) := by decide +kernel
theorem dX11_trace_5 : decode cX11_trace 5 = .ok (.aload_n 0, 1) := by decide +kernel
theorem dX11_trace_6 : decode cX11_trace 6 = .ok (.getfield 89, 3) := by decide +kernel
theorem dX11_trace_9 : decode cX11_trace 9 = .ok (.getfield 258, 3) := by decide +kernel
theorem dX11_trace_12 : decode cX11_trace 12 = .ok (.if_icmp .ge 27, 3) := by decide +kernel
theorem dX11_trace_15 : decode cX11_trace 15 = .ok (.iload_n 1, 1) := by decide +kernel
theorem dX11_trace_16 : decode cX11_trace 16 = .ok (.aload_n 0, 1) := by decide +kernel
theorem dX11_trace_17 : decode cX11_trace 17 = .ok (.getfield 89, 3) := by decide +kernel
theorem dX11_trace_20 : decode cX11_trace 20 = .ok (.getfield 280, 3) := by decide +kernel
theorem dX11_trace_23 : decode cX11_trace 23 = .ok (.arraylength, 1) := by decide +kernel
theorem dX11_trace_24 : decode cX11_trace 24 = .ok (.if_icmp .ge 15, 3) := by decide +kernel
theorem dX11_trace_27 : decode cX11_trace 27 = .ok (.aload_n 0, 1) := by decide +kernel
theorem dX11_trace_28 : decode cX11_trace 28 = .ok (.getfield 89, 3) := by decide +kernel
theorem dX11_trace_31 : decode cX11_trace 31 = .ok (.getfield 280, 3) := by decide +kernel
theorem dX11_trace_34 : decode cX11_trace 34 = .ok (.iload_n 1, 1) := by decide +kernel
theorem dX11_trace_35 : decode cX11_trace 35 = .ok (.iaload, 1) := by decide +kernel
theorem dX11_trace_36 : decode cX11_trace 36 = .ok (.goto 4, 3) := by decide +kernel
theorem dX11_trace_39 : decode cX11_trace 39 = .ok (.iconst (-1), 1) := by decide +kernel
theorem dX11_trace_40 : decode cX11_trace 40 = .ok (.ireturn, 1) := by decide +kernel
noncomputable def C_X11_trace : List (Nat × qOp) := [(0, qo_iload 1 1),
  (1, qo_iflt 39),
  (4, qo_iload 1 1),
  (5, qo_aload 0 1),
  (6, qo_getR 11 14),
  (9, qo_getI 0 3),
  (12, qo_icge 39),
  (15, qo_iload 1 1),
  (16, qo_aload 0 1),
  (17, qo_getR 11 14),
  (20, qo_getR 0 0),
  (23, qo_alen),
  (24, qo_icge 39),
  (27, qo_aload 0 1),
  (28, qo_getR 11 14),
  (31, qo_getR 0 0),
  (34, qo_iload 1 1),
  (35, qo_iaload),
  (36, qo_goto 40),
  (39, qo_ci (-1) 1),
  (40, qo_ret (some .int) 1)]
noncomputable def S_X11_trace : qSem := qM 2 C_X11_trace
set_option maxRecDepth 20000 in
theorem K_X11_trace {X : qX} {l : Launch} : ∀ q ∈ C_X11_trace, qOk X l 1 cX11_trace 2 RX11 "trace" (some .int) q.1 q.2 := by
  unfold C_X11_trace
  refine qcons (qk_iload_n dX11_trace_0 rfl) ?_
  refine qcons (qk_iflt dX11_trace_1 (by decide)) ?_
  refine qcons (qk_iload_n dX11_trace_4 rfl) ?_
  refine qcons (qk_aload_n dX11_trace_5 rfl) ?_
  refine qcons (qk_getR fd_X11_89 kd_11_14 dX11_trace_6) ?_
  refine qcons (qk_getI fd_X11_258 kd_0_3 dX11_trace_9) ?_
  refine qcons (qk_icge dX11_trace_12 (by decide)) ?_
  refine qcons (qk_iload_n dX11_trace_15 rfl) ?_
  refine qcons (qk_aload_n dX11_trace_16 rfl) ?_
  refine qcons (qk_getR fd_X11_89 kd_11_14 dX11_trace_17) ?_
  refine qcons (qk_getR fd_X11_280 kd_0_0 dX11_trace_20) ?_
  refine qcons (qk_alen dX11_trace_23) ?_
  refine qcons (qk_icge dX11_trace_24 (by decide)) ?_
  refine qcons (qk_aload_n dX11_trace_27 rfl) ?_
  refine qcons (qk_getR fd_X11_89 kd_11_14 dX11_trace_28) ?_
  refine qcons (qk_getR fd_X11_280 kd_0_0 dX11_trace_31) ?_
  refine qcons (qk_iload_n dX11_trace_34 rfl) ?_
  refine qcons (qk_iaload dX11_trace_35) ?_
  refine qcons (qk_goto dX11_trace_36 (by decide)) ?_
  refine qcons (qk_iconst dX11_trace_39 (by decide)) ?_
  refine qcons (qk_ret dX11_trace_40 (Or.inr (Or.inl ⟨rfl, rfl⟩))) ?_
  exact qnil
theorem M_X11_trace {X : qX} {l : Launch} : qMet X l 1 yX11_trace cX11_trace 2 (some .int) S_X11_trace := qmet_of K_X11_trace (by decide) rfl rfl
theorem dX11_taken_0 : decode cX11_taken 0 = .ok (.iload_n 2, 1) := by decide +kernel
theorem dX11_taken_1 : decode cX11_taken 1 = .ok (.bipush 6, 2) := by decide +kernel
theorem dX11_taken_3 : decode cX11_taken 3 = .ok (.invokestatic 105, 3) := by decide +kernel
theorem dX11_taken_6 : decode cX11_taken 6 = .ok (.ifCond .ne 6, 3) := by decide +kernel
theorem dX11_taken_9 : decode cX11_taken 9 = .ok (.bipush (-2), 2) := by decide +kernel
theorem dX11_taken_11 : decode cX11_taken 11 = .ok (.ireturn, 1) := by decide +kernel
theorem dX11_taken_12 : decode cX11_taken 12 = .ok (.aload_n 0, 1) := by decide +kernel
theorem dX11_taken_13 : decode cX11_taken 13 = .ok (.iload_n 1, 1) := by decide +kernel
theorem dX11_taken_14 : decode cX11_taken 14 = .ok (.invokevirtual 121, 3) := by decide +kernel
theorem dX11_taken_17 : decode cX11_taken 17 = .ok (.ifCond .ne 6, 3) := by decide +kernel
theorem dX11_taken_20 : decode cX11_taken 20 = .ok (.bipush (-11), 2) := by decide +kernel
theorem dX11_taken_22 : decode cX11_taken 22 = .ok (.ireturn, 1) := by decide +kernel
theorem dX11_taken_23 : decode cX11_taken 23 = .ok (.aload_n 0, 1) := by decide +kernel
theorem dX11_taken_24 : decode cX11_taken 24 = .ok (.getfield 41, 3) := by decide +kernel
theorem dX11_taken_27 : decode cX11_taken 27 = .ok (.getfield 124, 3) := by decide +kernel
theorem dX11_taken_30 : decode cX11_taken 30 = .ok (.iload_n 1, 1) := by decide +kernel
theorem dX11_taken_31 : decode cX11_taken 31 = .ok (.iaload, 1) := by decide +kernel
theorem dX11_taken_32 : decode cX11_taken 32 = .ok (.istore_n 3, 1) := by decide +kernel
theorem dX11_taken_33 : decode cX11_taken 33 = .ok (.iload_n 3, 1) := by decide +kernel
theorem dX11_taken_34 : decode cX11_taken 34 = .ok (.istore 4, 2) := by decide +kernel
theorem dX11_taken_36 : decode cX11_taken 36 = .ok (.iconst 0, 1) := by decide +kernel
theorem dX11_taken_37 : decode cX11_taken 37 = .ok (.istore 5, 2) := by decide +kernel
theorem dX11_taken_39 : decode cX11_taken 39 = .ok (.iload 5, 2) := by decide +kernel
theorem dX11_taken_41 : decode cX11_taken 41 = .ok (.bipush 7, 2) := by decide +kernel
theorem dX11_taken_43 : decode cX11_taken 43 = .ok (.if_icmp .ge 30, 3) := by decide +kernel
theorem dX11_taken_46 : decode cX11_taken 46 = .ok (.iload 4, 2) := by decide +kernel
theorem dX11_taken_48 : decode cX11_taken 48 = .ok (.ifCond .lt 25, 3) := by decide +kernel
theorem dX11_taken_51 : decode cX11_taken 51 = .ok (.iload 4, 2) := by decide +kernel
theorem dX11_taken_53 : decode cX11_taken 53 = .ok (.iload_n 2, 1) := by decide +kernel
theorem dX11_taken_54 : decode cX11_taken 54 = .ok (.if_icmp .ne 5, 3) := by decide +kernel
theorem dX11_taken_57 : decode cX11_taken 57 = .ok (.iload_n 3, 1) := by decide +kernel
theorem dX11_taken_58 : decode cX11_taken 58 = .ok (.ireturn, 1) := by decide +kernel
theorem dX11_taken_59 : decode cX11_taken 59 = .ok (.getstatic 283, 3) := by decide +kernel
theorem dX11_taken_62 : decode cX11_taken 62 = .ok (.iload 4, 2) := by decide +kernel
theorem dX11_taken_64 : decode cX11_taken 64 = .ok (.iaload, 1) := by decide +kernel
theorem dX11_taken_65 : decode cX11_taken 65 = .ok (.istore 4, 2) := by decide +kernel
theorem dX11_taken_67 : decode cX11_taken 67 = .ok (.iinc 5 1, 3) := by decide +kernel
theorem dX11_taken_70 : decode cX11_taken 70 = .ok (.goto (-31), 3) := by decide +kernel
theorem dX11_taken_73 : decode cX11_taken 73 = .ok (.bipush (-12), 2) := by decide +kernel
theorem dX11_taken_75 : decode cX11_taken 75 = .ok (.ireturn, 1) := by decide +kernel
noncomputable def C_X11_taken : List (Nat × qOp) := [(0, qo_iload 2 1),
  (1, qo_ci 6 2),
  (3, qo_calls S_X11_isIn 2),
  (6, qo_ifne 12),
  (9, qo_ci (-2) 2),
  (11, qo_ret (some .int) 1),
  (12, qo_aload 0 1),
  (13, qo_iload 1 1),
  (14, qo_callv [(11, S_X11_isPerson)] 1),
  (17, qo_ifne 23),
  (20, qo_ci (-11) 2),
  (22, qo_ret (some .int) 1),
  (23, qo_aload 0 1),
  (24, qo_getR 11 0),
  (27, qo_getR 8 3),
  (30, qo_iload 1 1),
  (31, qo_iaload),
  (32, qo_istore 3 1),
  (33, qo_iload 3 1),
  (34, qo_istore 4 2),
  (36, qo_ci 0 1),
  (37, qo_istore 5 2),
  (39, qo_iload 5 2),
  (41, qo_ci 7 2),
  (43, qo_icge 73),
  (46, qo_iload 4 2),
  (48, qo_iflt 73),
  (51, qo_iload 4 2),
  (53, qo_iload 2 1),
  (54, qo_icne 59),
  (57, qo_iload 3 1),
  (58, qo_ret (some .int) 1),
  (59, qo_push (qA (-11)) 3),
  (62, qo_iload 4 2),
  (64, qo_tld),
  (65, qo_istore 4 2),
  (67, qo_iinc 5 1),
  (70, qo_goto 39),
  (73, qo_ci (-12) 2),
  (75, qo_ret (some .int) 1)]
noncomputable def S_X11_taken : qSem := qM 6 C_X11_taken
set_option maxRecDepth 20000 in
theorem K_X11_taken {X : qX} {l : Launch} : ∀ q ∈ C_X11_taken, qOk X l 2 cX11_taken 6 RX11 "taken" (some .int) q.1 q.2 := by
  unfold C_X11_taken
  refine qcons (qk_iload_n dX11_taken_0 rfl) ?_
  refine qcons (qk_bipush dX11_taken_1 (by decide) (by decide)) ?_
  refine qcons (qk_calls (qrunS M_X11_isIn (by decide) (by decide) tw_377 tw_378 tw_379 tw_78 ⟨by decide, by decide⟩ (by decide +kernel)) dX11_taken_3) ?_
  refine qcons (qk_ifne dX11_taken_6 (by decide)) ?_
  refine qcons (qk_bipush dX11_taken_9 (by decide) (by decide)) ?_
  refine qcons (qk_ret dX11_taken_11 (Or.inr (Or.inl ⟨rfl, rfl⟩))) ?_
  refine qcons (qk_aload_n dX11_taken_12 rfl) ?_
  refine qcons (qk_iload_n dX11_taken_13 rfl) ?_
  refine qcons (qk_callv (ins := fun i => .invokevirtual i) (qconsV (qrunV M_X11_isPerson (by decide) (by decide) (by decide) rfl tw_391 tw_393 tw_0 tw_394 tw_78 ⟨by decide, by decide⟩ (by decide +kernel)) qnilV) dX11_taken_14) ?_
  refine qcons (qk_ifne dX11_taken_17 (by decide)) ?_
  refine qcons (qk_bipush dX11_taken_20 (by decide) (by decide)) ?_
  refine qcons (qk_ret dX11_taken_22 (Or.inr (Or.inl ⟨rfl, rfl⟩))) ?_
  refine qcons (qk_aload_n dX11_taken_23 rfl) ?_
  refine qcons (qk_getR fd_X11_41 kd_11_0 dX11_taken_24) ?_
  refine qcons (qk_getR fd_X11_124 kd_8_3 dX11_taken_27) ?_
  refine qcons (qk_iload_n dX11_taken_30 rfl) ?_
  refine qcons (qk_iaload dX11_taken_31) ?_
  refine qcons (qk_istore_n dX11_taken_32 rfl) ?_
  refine qcons (qk_iload_n dX11_taken_33 rfl) ?_
  refine qcons (qk_istore dX11_taken_34) ?_
  refine qcons (qk_iconst dX11_taken_36 (by decide)) ?_
  refine qcons (qk_istore dX11_taken_37) ?_
  refine qcons (qk_iload dX11_taken_39) ?_
  refine qcons (qk_bipush dX11_taken_41 (by decide) (by decide)) ?_
  refine qcons (qk_icge dX11_taken_43 (by decide)) ?_
  refine qcons (qk_iload dX11_taken_46) ?_
  refine qcons (qk_iflt dX11_taken_48 (by decide)) ?_
  refine qcons (qk_iload dX11_taken_51) ?_
  refine qcons (qk_iload_n dX11_taken_53 rfl) ?_
  refine qcons (qk_icne dX11_taken_54 (by decide)) ?_
  refine qcons (qk_iload_n dX11_taken_57 rfl) ?_
  refine qcons (qk_ret dX11_taken_58 (Or.inr (Or.inl ⟨rfl, rfl⟩))) ?_
  refine qcons (qk_gstat trivial (fun _ _ => qz_kinds) tw_819 dX11_taken_59) ?_
  refine qcons (qk_iload dX11_taken_62) ?_
  refine qcons (qk_tld dX11_taken_64) ?_
  refine qcons (qk_istore dX11_taken_65) ?_
  refine qcons (qk_iinc dX11_taken_67) ?_
  refine qcons (qk_goto dX11_taken_70 (by decide)) ?_
  refine qcons (qk_bipush dX11_taken_73 (by decide) (by decide)) ?_
  refine qcons (qk_ret dX11_taken_75 (Or.inr (Or.inl ⟨rfl, rfl⟩))) ?_
  exact qnil
theorem M_X11_taken {X : qX} {l : Launch} : qMet X l 2 yX11_taken cX11_taken 6 (some .int) S_X11_taken := qmet_of K_X11_taken (by decide) rfl rfl
theorem dX11_count_0 : decode cX11_count 0 = .ok (.iload_n 1, 1) := by decide +kernel
theorem dX11_count_1 : decode cX11_count 1 = .ok (.tableswitch 93 0 6 #[43, 51, 56, 64, 72, 80, 85], 43) := by decide +kernel
theorem dX11_count_44 : decode cX11_count 44 = .ok (.aload_n 0, 1) := by decide +kernel
theorem dX11_count_45 : decode cX11_count 45 = .ok (.getfield 41, 3) := by decide +kernel
theorem dX11_count_48 : decode cX11_count 48 = .ok (.getfield 113, 3) := by decide +kernel
theorem dX11_count_51 : decode cX11_count 51 = .ok (.ireturn, 1) := by decide +kernel
theorem dX11_count_52 : decode cX11_count 52 = .ok (.aload_n 0, 1) := by decide +kernel
theorem dX11_count_53 : decode cX11_count 53 = .ok (.getfield 167, 3) := by decide +kernel
theorem dX11_count_56 : decode cX11_count 56 = .ok (.ireturn, 1) := by decide +kernel
theorem dX11_count_57 : decode cX11_count 57 = .ok (.aload_n 0, 1) := by decide +kernel
theorem dX11_count_58 : decode cX11_count 58 = .ok (.getfield 59, 3) := by decide +kernel
theorem dX11_count_61 : decode cX11_count 61 = .ok (.getfield 217, 3) := by decide +kernel
theorem dX11_count_64 : decode cX11_count 64 = .ok (.ireturn, 1) := by decide +kernel
theorem dX11_count_65 : decode cX11_count 65 = .ok (.aload_n 0, 1) := by decide +kernel
theorem dX11_count_66 : decode cX11_count 66 = .ok (.getfield 63, 3) := by decide +kernel
theorem dX11_count_69 : decode cX11_count 69 = .ok (.getfield 217, 3) := by decide +kernel
theorem dX11_count_72 : decode cX11_count 72 = .ok (.ireturn, 1) := by decide +kernel
theorem dX11_count_73 : decode cX11_count 73 = .ok (.aload_n 0, 1) := by decide +kernel
theorem dX11_count_74 : decode cX11_count 74 = .ok (.getfield 66, 3) := by decide +kernel
theorem dX11_count_77 : decode cX11_count 77 = .ok (.getfield 217, 3) := by decide +kernel
theorem dX11_count_80 : decode cX11_count 80 = .ok (.ireturn, 1) := by decide +kernel
theorem dX11_count_81 : decode cX11_count 81 = .ok (.aload_n 0, 1) := by decide +kernel
theorem dX11_count_82 : decode cX11_count 82 = .ok (.getfield 164, 3) := by decide +kernel
theorem dX11_count_85 : decode cX11_count 85 = .ok (.ireturn, 1) := by decide +kernel
theorem dX11_count_86 : decode cX11_count 86 = .ok (.aload_n 0, 1) := by decide +kernel
theorem dX11_count_87 : decode cX11_count 87 = .ok (.getfield 89, 3) := by decide +kernel
theorem dX11_count_90 : decode cX11_count 90 = .ok (.getfield 258, 3) := by decide +kernel
theorem dX11_count_93 : decode cX11_count 93 = .ok (.ireturn, 1) := by decide +kernel
theorem dX11_count_94 : decode cX11_count 94 = .ok (.bipush (-2), 2) := by decide +kernel
theorem dX11_count_96 : decode cX11_count 96 = .ok (.ireturn, 1) := by decide +kernel
noncomputable def C_X11_count : List (Nat × qOp) := [(0, qo_iload 1 1),
  (1, qo_tsw 0 [44, 52, 57, 65, 73, 81, 86] 94),
  (44, qo_aload 0 1),
  (45, qo_getR 11 0),
  (48, qo_getI 8 10),
  (51, qo_ret (some .int) 1),
  (52, qo_aload 0 1),
  (53, qo_getI 11 13),
  (56, qo_ret (some .int) 1),
  (57, qo_aload 0 1),
  (58, qo_getR 11 3),
  (61, qo_getI 6 3),
  (64, qo_ret (some .int) 1),
  (65, qo_aload 0 1),
  (66, qo_getR 11 4),
  (69, qo_getI 6 3),
  (72, qo_ret (some .int) 1),
  (73, qo_aload 0 1),
  (74, qo_getR 11 5),
  (77, qo_getI 6 3),
  (80, qo_ret (some .int) 1),
  (81, qo_aload 0 1),
  (82, qo_getI 11 11),
  (85, qo_ret (some .int) 1),
  (86, qo_aload 0 1),
  (87, qo_getR 11 14),
  (90, qo_getI 0 3),
  (93, qo_ret (some .int) 1),
  (94, qo_ci (-2) 2),
  (96, qo_ret (some .int) 1)]
noncomputable def S_X11_count : qSem := qM 2 C_X11_count
set_option maxRecDepth 20000 in
theorem K_X11_count {X : qX} {l : Launch} : ∀ q ∈ C_X11_count, qOk X l 1 cX11_count 2 RX11 "count" (some .int) q.1 q.2 := by
  unfold C_X11_count
  refine qcons (qk_iload_n dX11_count_0 rfl) ?_
  refine qcons (qk_tsw dX11_count_1 (by decide) (by decide) (by decide)) ?_
  refine qcons (qk_aload_n dX11_count_44 rfl) ?_
  refine qcons (qk_getR fd_X11_41 kd_11_0 dX11_count_45) ?_
  refine qcons (qk_getI fd_X11_113 kd_8_10 dX11_count_48) ?_
  refine qcons (qk_ret dX11_count_51 (Or.inr (Or.inl ⟨rfl, rfl⟩))) ?_
  refine qcons (qk_aload_n dX11_count_52 rfl) ?_
  refine qcons (qk_getI fd_X11_167 kd_11_13 dX11_count_53) ?_
  refine qcons (qk_ret dX11_count_56 (Or.inr (Or.inl ⟨rfl, rfl⟩))) ?_
  refine qcons (qk_aload_n dX11_count_57 rfl) ?_
  refine qcons (qk_getR fd_X11_59 kd_11_3 dX11_count_58) ?_
  refine qcons (qk_getI fd_X11_217 kd_6_3 dX11_count_61) ?_
  refine qcons (qk_ret dX11_count_64 (Or.inr (Or.inl ⟨rfl, rfl⟩))) ?_
  refine qcons (qk_aload_n dX11_count_65 rfl) ?_
  refine qcons (qk_getR fd_X11_63 kd_11_4 dX11_count_66) ?_
  refine qcons (qk_getI fd_X11_217 kd_6_3 dX11_count_69) ?_
  refine qcons (qk_ret dX11_count_72 (Or.inr (Or.inl ⟨rfl, rfl⟩))) ?_
  refine qcons (qk_aload_n dX11_count_73 rfl) ?_
  refine qcons (qk_getR fd_X11_66 kd_11_5 dX11_count_74) ?_
  refine qcons (qk_getI fd_X11_217 kd_6_3 dX11_count_77) ?_
  refine qcons (qk_ret dX11_count_80 (Or.inr (Or.inl ⟨rfl, rfl⟩))) ?_
  refine qcons (qk_aload_n dX11_count_81 rfl) ?_
  refine qcons (qk_getI fd_X11_164 kd_11_11 dX11_count_82) ?_
  refine qcons (qk_ret dX11_count_85 (Or.inr (Or.inl ⟨rfl, rfl⟩))) ?_
  refine qcons (qk_aload_n dX11_count_86 rfl) ?_
  refine qcons (qk_getR fd_X11_89 kd_11_14 dX11_count_87) ?_
  refine qcons (qk_getI fd_X11_258 kd_0_3 dX11_count_90) ?_
  refine qcons (qk_ret dX11_count_93 (Or.inr (Or.inl ⟨rfl, rfl⟩))) ?_
  refine qcons (qk_bipush dX11_count_94 (by decide) (by decide)) ?_
  refine qcons (qk_ret dX11_count_96 (Or.inr (Or.inl ⟨rfl, rfl⟩))) ?_
  exact qnil
theorem M_X11_count {X : qX} {l : Launch} : qMet X l 1 yX11_count cX11_count 2 (some .int) S_X11_count := qmet_of K_X11_count (by decide) rfl rfl
theorem dX11_tape_0 : decode cX11_tape 0 = .ok (.iload_n 1, 1) := by decide +kernel
theorem dX11_tape_1 : decode cX11_tape 1 = .ok (.invokestatic 248, 3) := by decide +kernel
theorem dX11_tape_4 : decode cX11_tape 4 = .ok (.ifCond .ne 5, 3) := by decide +kernel
theorem dX11_tape_7 : decode cX11_tape 7 = .ok (.iconst (-1), 1) := by decide +kernel
theorem dX11_tape_8 : decode cX11_tape 8 = .ok (.ireturn, 1) := by decide +kernel
theorem dX11_tape_9 : decode cX11_tape 9 = .ok (.iload_n 2, 1) := by decide +kernel
theorem dX11_tape_10 : decode cX11_tape 10 = .ok (.iconst (-1), 1) := by decide +kernel
theorem dX11_tape_11 : decode cX11_tape 11 = .ok (.if_icmp .ne 12, 3) := by decide +kernel
theorem dX11_tape_14 : decode cX11_tape 14 = .ok (.aload_n 0, 1) := by decide +kernel
theorem dX11_tape_15 : decode cX11_tape 15 = .ok (.getfield 93, 3) := by decide +kernel
theorem dX11_tape_18 : decode cX11_tape 18 = .ok (.iload_n 1, 1) := by decide +kernel
theorem dX11_tape_19 : decode cX11_tape 19 = .ok (.iconst (-1), 1) := by decide +kernel
theorem dX11_tape_20 : decode cX11_tape 20 = .ok (.iastore, 1) := by decide +kernel
theorem dX11_tape_21 : decode cX11_tape 21 = .ok (.iconst 1, 1) := by decide +kernel
theorem dX11_tape_22 : decode cX11_tape 22 = .ok (.ireturn, 1) := by decide +kernel
theorem dX11_tape_23 : decode cX11_tape 23 = .ok (.iload_n 2, 1) := by decide +kernel
theorem dX11_tape_24 : decode cX11_tape 24 = .ok (.iconst 4, 1) := by decide +kernel
theorem dX11_tape_25 : decode cX11_tape 25 = .ok (.invokestatic 105, 3) := by decide +kernel
theorem dX11_tape_28 : decode cX11_tape 28 = .ok (.ifCond .eq 9, 3) := by decide +kernel
theorem dX11_tape_31 : decode cX11_tape 31 = .ok (.iload_n 3, 1) := by decide +kernel
theorem dX11_tape_32 : decode cX11_tape 32 = .ok (.bipush 60, 2) := by decide +kernel
theorem dX11_tape_34 : decode cX11_tape 34 = .ok (.if_icmp .le 6, 3) := by decide +kernel
theorem dX11_tape_37 : decode cX11_tape 37 = .ok (.bipush (-2), 2) := by decide +kernel
theorem dX11_tape_39 : decode cX11_tape 39 = .ok (.ireturn, 1) := by decide +kernel
theorem dX11_tape_40 : decode cX11_tape 40 = .ok (.iload_n 3, 1) := by decide +kernel
theorem dX11_tape_41 : decode cX11_tape 41 = .ok (.ifCond .ge 6, 3) := by decide +kernel
theorem dX11_tape_44 : decode cX11_tape 44 = .ok (.bipush (-14), 2) := by decide +kernel
theorem dX11_tape_46 : decode cX11_tape 46 = .ok (.ireturn, 1) := by decide +kernel
theorem dX11_tape_47 : decode cX11_tape 47 = .ok (.aload_n 0, 1) := by decide +kernel
theorem dX11_tape_48 : decode cX11_tape 48 = .ok (.getfield 93, 3) := by decide +kernel
theorem dX11_tape_51 : decode cX11_tape 51 = .ok (.iload_n 1, 1) := by decide +kernel
theorem dX11_tape_52 : decode cX11_tape 52 = .ok (.iload_n 2, 1) := by decide +kernel
theorem dX11_tape_53 : decode cX11_tape 53 = .ok (.iastore, 1) := by decide +kernel
theorem dX11_tape_54 : decode cX11_tape 54 = .ok (.aload_n 0, 1) := by decide +kernel
theorem dX11_tape_55 : decode cX11_tape 55 = .ok (.getfield 97, 3) := by decide +kernel
theorem dX11_tape_58 : decode cX11_tape 58 = .ok (.iload_n 1, 1) := by decide +kernel
theorem dX11_tape_59 : decode cX11_tape 59 = .ok (.iload_n 3, 1) := by decide +kernel
theorem dX11_tape_60 : decode cX11_tape 60 = .ok (.iastore, 1) := by decide +kernel
theorem dX11_tape_61 : decode cX11_tape 61 = .ok (.iconst 0, 1) := by decide +kernel
theorem dX11_tape_62 : decode cX11_tape 62 = .ok (.istore 4, 2) := by decide +kernel
theorem dX11_tape_64 : decode cX11_tape 64 = .ok (.iload 4, 2) := by decide +kernel
theorem dX11_tape_66 : decode cX11_tape 66 = .ok (.iload_n 3, 1) := by decide +kernel
theorem dX11_tape_67 : decode cX11_tape 67 = .ok (.if_icmp .ge 19, 3) := by decide +kernel
theorem dX11_tape_70 : decode cX11_tape 70 = .ok (.aload_n 0, 1) := by decide +kernel
theorem dX11_tape_71 : decode cX11_tape 71 = .ok (.getfield 102, 3) := by decide +kernel
theorem dX11_tape_74 : decode cX11_tape 74 = .ok (.iload_n 1, 1) := by decide +kernel
theorem dX11_tape_75 : decode cX11_tape 75 = .ok (.aaload, 1) := by decide +kernel
theorem dX11_tape_76 : decode cX11_tape 76 = .ok (.iload 4, 2) := by decide +kernel
theorem dX11_tape_78 : decode cX11_tape 78 = .ok (.lconst 0, 1) := by decide +kernel
theorem dX11_tape_79 : decode cX11_tape 79 = .ok (.lastore, 1) := by decide +kernel
theorem dX11_tape_80 : decode cX11_tape 80 = .ok (.iinc 4 1, 3) := by decide +kernel
theorem dX11_tape_83 : decode cX11_tape 83 = .ok (.goto (-19), 3) := by decide +kernel
theorem dX11_tape_86 : decode cX11_tape 86 = .ok (.iconst 1, 1) := by decide +kernel
theorem dX11_tape_87 : decode cX11_tape 87 = .ok (.ireturn, 1) := by decide +kernel
noncomputable def C_X11_tape : List (Nat × qOp) := [(0, qo_iload 1 1),
  (1, qo_calls S_X11_isTape 1),
  (4, qo_ifne 9),
  (7, qo_ci (-1) 1),
  (8, qo_ret (some .int) 1),
  (9, qo_iload 2 1),
  (10, qo_ci (-1) 1),
  (11, qo_icne 23),
  (14, qo_aload 0 1),
  (15, qo_getR 11 15),
  (18, qo_iload 1 1),
  (19, qo_ci (-1) 1),
  (20, qo_iastore),
  (21, qo_ci 1 1),
  (22, qo_ret (some .int) 1),
  (23, qo_iload 2 1),
  (24, qo_ci 4 1),
  (25, qo_calls S_X11_isIn 2),
  (28, qo_ifeq 37),
  (31, qo_iload 3 1),
  (32, qo_ci 60 2),
  (34, qo_icle 40),
  (37, qo_ci (-2) 2),
  (39, qo_ret (some .int) 1),
  (40, qo_iload 3 1),
  (41, qo_ifge 47),
  (44, qo_ci (-14) 2),
  (46, qo_ret (some .int) 1),
  (47, qo_aload 0 1),
  (48, qo_getR 11 15),
  (51, qo_iload 1 1),
  (52, qo_iload 2 1),
  (53, qo_iastore),
  (54, qo_aload 0 1),
  (55, qo_getR 11 16),
  (58, qo_iload 1 1),
  (59, qo_iload 3 1),
  (60, qo_iastore),
  (61, qo_ci 0 1),
  (62, qo_istore 4 2),
  (64, qo_iload 4 2),
  (66, qo_iload 3 1),
  (67, qo_icge 86),
  (70, qo_aload 0 1),
  (71, qo_getR 11 17),
  (74, qo_iload 1 1),
  (75, qo_aaload),
  (76, qo_iload 4 2),
  (78, qo_cl 0 1),
  (79, qo_lastore),
  (80, qo_iinc 4 1),
  (83, qo_goto 64),
  (86, qo_ci 1 1),
  (87, qo_ret (some .int) 1)]
noncomputable def S_X11_tape : qSem := qM 5 C_X11_tape
set_option maxRecDepth 20000 in
theorem K_X11_tape {X : qX} {l : Launch} : ∀ q ∈ C_X11_tape, qOk X l 2 cX11_tape 5 RX11 "tape" (some .int) q.1 q.2 := by
  unfold C_X11_tape
  refine qcons (qk_iload_n dX11_tape_0 rfl) ?_
  refine qcons (qk_calls (qrunS M_X11_isTape (by decide) (by decide) tw_711 tw_712 tw_713 tw_78 ⟨by decide, by decide⟩ (by decide +kernel)) dX11_tape_1) ?_
  refine qcons (qk_ifne dX11_tape_4 (by decide)) ?_
  refine qcons (qk_iconst dX11_tape_7 (by decide)) ?_
  refine qcons (qk_ret dX11_tape_8 (Or.inr (Or.inl ⟨rfl, rfl⟩))) ?_
  refine qcons (qk_iload_n dX11_tape_9 rfl) ?_
  refine qcons (qk_iconst dX11_tape_10 (by decide)) ?_
  refine qcons (qk_icne dX11_tape_11 (by decide)) ?_
  refine qcons (qk_aload_n dX11_tape_14 rfl) ?_
  refine qcons (qk_getR fd_X11_93 kd_11_15 dX11_tape_15) ?_
  refine qcons (qk_iload_n dX11_tape_18 rfl) ?_
  refine qcons (qk_iconst dX11_tape_19 (by decide)) ?_
  refine qcons (qk_iastore dX11_tape_20) ?_
  refine qcons (qk_iconst dX11_tape_21 (by decide)) ?_
  refine qcons (qk_ret dX11_tape_22 (Or.inr (Or.inl ⟨rfl, rfl⟩))) ?_
  refine qcons (qk_iload_n dX11_tape_23 rfl) ?_
  refine qcons (qk_iconst dX11_tape_24 (by decide)) ?_
  refine qcons (qk_calls (qrunS M_X11_isIn (by decide) (by decide) tw_377 tw_378 tw_379 tw_78 ⟨by decide, by decide⟩ (by decide +kernel)) dX11_tape_25) ?_
  refine qcons (qk_ifeq dX11_tape_28 (by decide)) ?_
  refine qcons (qk_iload_n dX11_tape_31 rfl) ?_
  refine qcons (qk_bipush dX11_tape_32 (by decide) (by decide)) ?_
  refine qcons (qk_icle dX11_tape_34 (by decide)) ?_
  refine qcons (qk_bipush dX11_tape_37 (by decide) (by decide)) ?_
  refine qcons (qk_ret dX11_tape_39 (Or.inr (Or.inl ⟨rfl, rfl⟩))) ?_
  refine qcons (qk_iload_n dX11_tape_40 rfl) ?_
  refine qcons (qk_ifge dX11_tape_41 (by decide)) ?_
  refine qcons (qk_bipush dX11_tape_44 (by decide) (by decide)) ?_
  refine qcons (qk_ret dX11_tape_46 (Or.inr (Or.inl ⟨rfl, rfl⟩))) ?_
  refine qcons (qk_aload_n dX11_tape_47 rfl) ?_
  refine qcons (qk_getR fd_X11_93 kd_11_15 dX11_tape_48) ?_
  refine qcons (qk_iload_n dX11_tape_51 rfl) ?_
  refine qcons (qk_iload_n dX11_tape_52 rfl) ?_
  refine qcons (qk_iastore dX11_tape_53) ?_
  refine qcons (qk_aload_n dX11_tape_54 rfl) ?_
  refine qcons (qk_getR fd_X11_97 kd_11_16 dX11_tape_55) ?_
  refine qcons (qk_iload_n dX11_tape_58 rfl) ?_
  refine qcons (qk_iload_n dX11_tape_59 rfl) ?_
  refine qcons (qk_iastore dX11_tape_60) ?_
  refine qcons (qk_iconst dX11_tape_61 (by decide)) ?_
  refine qcons (qk_istore dX11_tape_62) ?_
  refine qcons (qk_iload dX11_tape_64) ?_
  refine qcons (qk_iload_n dX11_tape_66 rfl) ?_
  refine qcons (qk_icge dX11_tape_67 (by decide)) ?_
  refine qcons (qk_aload_n dX11_tape_70 rfl) ?_
  refine qcons (qk_getR fd_X11_102 kd_11_17 dX11_tape_71) ?_
  refine qcons (qk_iload_n dX11_tape_74 rfl) ?_
  refine qcons (qk_aaload dX11_tape_75) ?_
  refine qcons (qk_iload dX11_tape_76) ?_
  refine qcons (qk_lconst dX11_tape_78 (by decide) (by decide)) ?_
  refine qcons (qk_lastore dX11_tape_79) ?_
  refine qcons (qk_iinc dX11_tape_80) ?_
  refine qcons (qk_goto dX11_tape_83 (by decide)) ?_
  refine qcons (qk_iconst dX11_tape_86 (by decide)) ?_
  refine qcons (qk_ret dX11_tape_87 (Or.inr (Or.inl ⟨rfl, rfl⟩))) ?_
  exact qnil
theorem M_X11_tape {X : qX} {l : Launch} : qMet X l 2 yX11_tape cX11_tape 5 (some .int) S_X11_tape := qmet_of K_X11_tape (by decide) rfl rfl
theorem dX11_asItem_0 : decode cX11_asItem 0 = .ok (.iload_n 0, 1) := by decide +kernel
theorem dX11_asItem_1 : decode cX11_asItem 1 = .ok (.tableswitch 61 0 4 #[35, 40, 45, 61, 49], 35) := by decide +kernel
theorem dX11_asItem_36 : decode cX11_asItem 36 = .ok (.lload_n 1, 1) := by decide +kernel
theorem dX11_asItem_37 : decode cX11_asItem 37 = .ok (.l2i, 1) := by decide +kernel
theorem dX11_asItem_38 : decode cX11_asItem 38 = .ok (.i2b, 1) := by decide +kernel
theorem dX11_asItem_39 : decode cX11_asItem 39 = .ok (.i2l, 1) := by decide +kernel
theorem dX11_asItem_40 : decode cX11_asItem 40 = .ok (.lreturn, 1) := by decide +kernel
theorem dX11_asItem_41 : decode cX11_asItem 41 = .ok (.lload_n 1, 1) := by decide +kernel
theorem dX11_asItem_42 : decode cX11_asItem 42 = .ok (.l2i, 1) := by decide +kernel
theorem dX11_asItem_43 : decode cX11_asItem 43 = .ok (.i2s, 1) := by decide +kernel
theorem dX11_asItem_44 : decode cX11_asItem 44 = .ok (.i2l, 1) := by decide +kernel
theorem dX11_asItem_45 : decode cX11_asItem 45 = .ok (.lreturn, 1) := by decide +kernel
theorem dX11_asItem_46 : decode cX11_asItem 46 = .ok (.lload_n 1, 1) := by decide +kernel
theorem dX11_asItem_47 : decode cX11_asItem 47 = .ok (.l2i, 1) := by decide +kernel
theorem dX11_asItem_48 : decode cX11_asItem 48 = .ok (.i2l, 1) := by decide +kernel
theorem dX11_asItem_49 : decode cX11_asItem 49 = .ok (.lreturn, 1) := by decide +kernel
theorem dX11_asItem_50 : decode cX11_asItem 50 = .ok (.lload_n 1, 1) := by decide +kernel
theorem dX11_asItem_51 : decode cX11_asItem 51 = .ok (.lconst 0, 1) := by decide +kernel
theorem dX11_asItem_52 : decode cX11_asItem 52 = .ok (.lcmp, 1) := by decide +kernel
theorem dX11_asItem_53 : decode cX11_asItem 53 = .ok (.ifCond .eq 7, 3) := by decide +kernel
theorem dX11_asItem_56 : decode cX11_asItem 56 = .ok (.lconst 1, 1) := by decide +kernel
theorem dX11_asItem_57 : decode cX11_asItem 57 = .ok (.goto 4, 3) := by decide +kernel
theorem dX11_asItem_60 : decode cX11_asItem 60 = .ok (.lconst 0, 1) := by decide +kernel
theorem dX11_asItem_61 : decode cX11_asItem 61 = .ok (.lreturn, 1) := by decide +kernel
theorem dX11_asItem_62 : decode cX11_asItem 62 = .ok (.lload_n 1, 1) := by decide +kernel
theorem dX11_asItem_63 : decode cX11_asItem 63 = .ok (.lreturn, 1) := by decide +kernel
noncomputable def C_X11_asItem : List (Nat × qOp) := [(0, qo_iload 0 1),
  (1, qo_tsw 0 [36, 41, 46, 62, 50] 62),
  (36, qo_lload 1 1),
  (37, qo_l2i),
  (38, qo_i2b),
  (39, qo_i2l),
  (40, qo_ret (some .long) 2),
  (41, qo_lload 1 1),
  (42, qo_l2i),
  (43, qo_i2s),
  (44, qo_i2l),
  (45, qo_ret (some .long) 2),
  (46, qo_lload 1 1),
  (47, qo_l2i),
  (48, qo_i2l),
  (49, qo_ret (some .long) 2),
  (50, qo_lload 1 1),
  (51, qo_cl 0 1),
  (52, qo_lcmp),
  (53, qo_ifeq 60),
  (56, qo_cl 1 1),
  (57, qo_goto 61),
  (60, qo_cl 0 1),
  (61, qo_ret (some .long) 2),
  (62, qo_lload 1 1),
  (63, qo_ret (some .long) 2)]
noncomputable def S_X11_asItem : qSem := qM 3 C_X11_asItem
set_option maxRecDepth 20000 in
theorem K_X11_asItem {X : qX} {l : Launch} : ∀ q ∈ C_X11_asItem, qOk X l 1 cX11_asItem 3 RX11 "asItem" (some .long) q.1 q.2 := by
  unfold C_X11_asItem
  refine qcons (qk_iload_n dX11_asItem_0 rfl) ?_
  refine qcons (qk_tsw dX11_asItem_1 (by decide) (by decide) (by decide)) ?_
  refine qcons (qk_lload_n dX11_asItem_36 rfl) ?_
  refine qcons (qk_l2i dX11_asItem_37) ?_
  refine qcons (qk_i2b dX11_asItem_38) ?_
  refine qcons (qk_i2l dX11_asItem_39) ?_
  refine qcons (qk_ret dX11_asItem_40 (Or.inr (Or.inr (Or.inl ⟨rfl, rfl⟩)))) ?_
  refine qcons (qk_lload_n dX11_asItem_41 rfl) ?_
  refine qcons (qk_l2i dX11_asItem_42) ?_
  refine qcons (qk_i2s dX11_asItem_43) ?_
  refine qcons (qk_i2l dX11_asItem_44) ?_
  refine qcons (qk_ret dX11_asItem_45 (Or.inr (Or.inr (Or.inl ⟨rfl, rfl⟩)))) ?_
  refine qcons (qk_lload_n dX11_asItem_46 rfl) ?_
  refine qcons (qk_l2i dX11_asItem_47) ?_
  refine qcons (qk_i2l dX11_asItem_48) ?_
  refine qcons (qk_ret dX11_asItem_49 (Or.inr (Or.inr (Or.inl ⟨rfl, rfl⟩)))) ?_
  refine qcons (qk_lload_n dX11_asItem_50 rfl) ?_
  refine qcons (qk_lconst dX11_asItem_51 (by decide) (by decide)) ?_
  refine qcons (qk_lcmp dX11_asItem_52) ?_
  refine qcons (qk_ifeq dX11_asItem_53 (by decide)) ?_
  refine qcons (qk_lconst dX11_asItem_56 (by decide) (by decide)) ?_
  refine qcons (qk_goto dX11_asItem_57 (by decide)) ?_
  refine qcons (qk_lconst dX11_asItem_60 (by decide) (by decide)) ?_
  refine qcons (qk_ret dX11_asItem_61 (Or.inr (Or.inr (Or.inl ⟨rfl, rfl⟩)))) ?_
  refine qcons (qk_lload_n dX11_asItem_62 rfl) ?_
  refine qcons (qk_ret dX11_asItem_63 (Or.inr (Or.inr (Or.inl ⟨rfl, rfl⟩)))) ?_
  exact qnil
theorem M_X11_asItem {X : qX} {l : Launch} : qMet X l 1 yX11_asItem cX11_asItem 3 (some .long) S_X11_asItem := qmet_of K_X11_asItem (by decide) rfl rfl
theorem dX11_item_0 : decode cX11_item 0 = .ok (.iload_n 1, 1) := by decide +kernel
theorem dX11_item_1 : decode cX11_item 1 = .ok (.invokestatic 248, 3) := by decide +kernel
theorem dX11_item_4 : decode cX11_item 4 = .ok (.ifCond .ne 5, 3) := by decide +kernel
theorem dX11_item_7 : decode cX11_item 7 = .ok (.iconst (-1), 1) := by decide +kernel
theorem dX11_item_8 : decode cX11_item 8 = .ok (.ireturn, 1) := by decide +kernel
theorem dX11_item_9 : decode cX11_item 9 = .ok (.aload_n 0, 1) := by decide +kernel
theorem dX11_item_10 : decode cX11_item 10 = .ok (.getfield 93, 3) := by decide +kernel
theorem dX11_item_13 : decode cX11_item 13 = .ok (.iload_n 1, 1) := by decide +kernel
theorem dX11_item_14 : decode cX11_item 14 = .ok (.iaload, 1) := by decide +kernel
theorem dX11_item_15 : decode cX11_item 15 = .ok (.iconst (-1), 1) := by decide +kernel
theorem dX11_item_16 : decode cX11_item 16 = .ok (.if_icmp .ne 6, 3) := by decide +kernel
theorem dX11_item_19 : decode cX11_item 19 = .ok (.bipush (-11), 2) := by decide +kernel
theorem dX11_item_21 : decode cX11_item 21 = .ok (.ireturn, 1) := by decide +kernel
theorem dX11_item_22 : decode cX11_item 22 = .ok (.iload_n 2, 1) := by decide +kernel
theorem dX11_item_23 : decode cX11_item 23 = .ok (.ifCond .lt 13, 3) := by decide +kernel
theorem dX11_item_26 : decode cX11_item 26 = .ok (.iload_n 2, 1) := by decide +kernel
theorem dX11_item_27 : decode cX11_item 27 = .ok (.aload_n 0, 1) := by decide +kernel
theorem dX11_item_28 : decode cX11_item 28 = .ok (.getfield 97, 3) := by decide +kernel
theorem dX11_item_31 : decode cX11_item 31 = .ok (.iload_n 1, 1) := by decide +kernel
theorem dX11_item_32 : decode cX11_item 32 = .ok (.iaload, 1) := by decide +kernel
theorem dX11_item_33 : decode cX11_item 33 = .ok (.if_icmp .lt 6, 3) := by decide +kernel
theorem dX11_item_36 : decode cX11_item 36 = .ok (.bipush (-13), 2) := by decide +kernel
theorem dX11_item_38 : decode cX11_item 38 = .ok (.ireturn, 1) := by decide +kernel
theorem dX11_item_39 : decode cX11_item 39 = .ok (.aload_n 0, 1) := by decide +kernel
theorem dX11_item_40 : decode cX11_item 40 = .ok (.getfield 102, 3) := by decide +kernel
theorem dX11_item_43 : decode cX11_item 43 = .ok (.iload_n 1, 1) := by decide +kernel
theorem dX11_item_44 : decode cX11_item 44 = .ok (.aaload, 1) := by decide +kernel
theorem dX11_item_45 : decode cX11_item 45 = .ok (.iload_n 2, 1) := by decide +kernel
theorem dX11_item_46 : decode cX11_item 46 = .ok (.aload_n 0, 1) := by decide +kernel
theorem dX11_item_47 : decode cX11_item 47 = .ok (.getfield 93, 3) := by decide +kernel
theorem dX11_item_50 : decode cX11_item 50 = .ok (.iload_n 1, 1) := by decide +kernel
theorem dX11_item_51 : decode cX11_item 51 = .ok (.iaload, 1) := by decide +kernel
theorem dX11_item_52 : decode cX11_item 52 = .ok (.lload_n 3, 1) := by decide +kernel
theorem dX11_item_53 : decode cX11_item 53 = .ok (.invokestatic 286, 3) := by decide +kernel
theorem dX11_item_56 : decode cX11_item 56 = .ok (.lastore, 1) := by decide +kernel
theorem dX11_item_57 : decode cX11_item 57 = .ok (.iconst 1, 1) := by decide +kernel
theorem dX11_item_58 : decode cX11_item 58 = .ok (.ireturn, 1) := by decide +kernel
noncomputable def C_X11_item : List (Nat × qOp) := [(0, qo_iload 1 1),
  (1, qo_calls S_X11_isTape 1),
  (4, qo_ifne 9),
  (7, qo_ci (-1) 1),
  (8, qo_ret (some .int) 1),
  (9, qo_aload 0 1),
  (10, qo_getR 11 15),
  (13, qo_iload 1 1),
  (14, qo_iaload),
  (15, qo_ci (-1) 1),
  (16, qo_icne 22),
  (19, qo_ci (-11) 2),
  (21, qo_ret (some .int) 1),
  (22, qo_iload 2 1),
  (23, qo_iflt 36),
  (26, qo_iload 2 1),
  (27, qo_aload 0 1),
  (28, qo_getR 11 16),
  (31, qo_iload 1 1),
  (32, qo_iaload),
  (33, qo_iclt 39),
  (36, qo_ci (-13) 2),
  (38, qo_ret (some .int) 1),
  (39, qo_aload 0 1),
  (40, qo_getR 11 17),
  (43, qo_iload 1 1),
  (44, qo_aaload),
  (45, qo_iload 2 1),
  (46, qo_aload 0 1),
  (47, qo_getR 11 15),
  (50, qo_iload 1 1),
  (51, qo_iaload),
  (52, qo_lload 3 1),
  (53, qo_calls S_X11_asItem 2),
  (56, qo_lastore),
  (57, qo_ci 1 1),
  (58, qo_ret (some .int) 1)]
noncomputable def S_X11_item : qSem := qM 5 C_X11_item
set_option maxRecDepth 20000 in
theorem K_X11_item {X : qX} {l : Launch} : ∀ q ∈ C_X11_item, qOk X l 2 cX11_item 5 RX11 "item" (some .int) q.1 q.2 := by
  unfold C_X11_item
  refine qcons (qk_iload_n dX11_item_0 rfl) ?_
  refine qcons (qk_calls (qrunS M_X11_isTape (by decide) (by decide) tw_711 tw_712 tw_713 tw_78 ⟨by decide, by decide⟩ (by decide +kernel)) dX11_item_1) ?_
  refine qcons (qk_ifne dX11_item_4 (by decide)) ?_
  refine qcons (qk_iconst dX11_item_7 (by decide)) ?_
  refine qcons (qk_ret dX11_item_8 (Or.inr (Or.inl ⟨rfl, rfl⟩))) ?_
  refine qcons (qk_aload_n dX11_item_9 rfl) ?_
  refine qcons (qk_getR fd_X11_93 kd_11_15 dX11_item_10) ?_
  refine qcons (qk_iload_n dX11_item_13 rfl) ?_
  refine qcons (qk_iaload dX11_item_14) ?_
  refine qcons (qk_iconst dX11_item_15 (by decide)) ?_
  refine qcons (qk_icne dX11_item_16 (by decide)) ?_
  refine qcons (qk_bipush dX11_item_19 (by decide) (by decide)) ?_
  refine qcons (qk_ret dX11_item_21 (Or.inr (Or.inl ⟨rfl, rfl⟩))) ?_
  refine qcons (qk_iload_n dX11_item_22 rfl) ?_
  refine qcons (qk_iflt dX11_item_23 (by decide)) ?_
  refine qcons (qk_iload_n dX11_item_26 rfl) ?_
  refine qcons (qk_aload_n dX11_item_27 rfl) ?_
  refine qcons (qk_getR fd_X11_97 kd_11_16 dX11_item_28) ?_
  refine qcons (qk_iload_n dX11_item_31 rfl) ?_
  refine qcons (qk_iaload dX11_item_32) ?_
  refine qcons (qk_iclt dX11_item_33 (by decide)) ?_
  refine qcons (qk_bipush dX11_item_36 (by decide) (by decide)) ?_
  refine qcons (qk_ret dX11_item_38 (Or.inr (Or.inl ⟨rfl, rfl⟩))) ?_
  refine qcons (qk_aload_n dX11_item_39 rfl) ?_
  refine qcons (qk_getR fd_X11_102 kd_11_17 dX11_item_40) ?_
  refine qcons (qk_iload_n dX11_item_43 rfl) ?_
  refine qcons (qk_aaload dX11_item_44) ?_
  refine qcons (qk_iload_n dX11_item_45 rfl) ?_
  refine qcons (qk_aload_n dX11_item_46 rfl) ?_
  refine qcons (qk_getR fd_X11_93 kd_11_15 dX11_item_47) ?_
  refine qcons (qk_iload_n dX11_item_50 rfl) ?_
  refine qcons (qk_iaload dX11_item_51) ?_
  refine qcons (qk_lload_n dX11_item_52 rfl) ?_
  refine qcons (qk_calls (qrunS M_X11_asItem (by decide) (by decide) tw_833 tw_834 tw_835 tw_78 ⟨by decide, by decide⟩ (by decide +kernel)) dX11_item_53) ?_
  refine qcons (qk_lastore dX11_item_56) ?_
  refine qcons (qk_iconst dX11_item_57 (by decide)) ?_
  refine qcons (qk_ret dX11_item_58 (Or.inr (Or.inl ⟨rfl, rfl⟩))) ?_
  exact qnil
theorem M_X11_item {X : qX} {l : Launch} : qMet X l 2 yX11_item cX11_item 5 (some .int) S_X11_item := qmet_of K_X11_item (by decide) rfl rfl
theorem dX11_read_0 : decode cX11_read 0 = .ok (.iload_n 1, 1) := by decide +kernel
theorem dX11_read_1 : decode cX11_read 1 = .ok (.invokestatic 248, 3) := by decide +kernel
theorem dX11_read_4 : decode cX11_read 4 = .ok (.ifCond .eq 27, 3) := by decide +kernel
theorem dX11_read_7 : decode cX11_read 7 = .ok (.aload_n 0, 1) := by decide +kernel
theorem dX11_read_8 : decode cX11_read 8 = .ok (.getfield 93, 3) := by decide +kernel
theorem dX11_read_11 : decode cX11_read 11 = .ok (.iload_n 1, 1) := by decide +kernel
theorem dX11_read_12 : decode cX11_read 12 = .ok (.iaload, 1) := by decide +kernel
theorem dX11_read_13 : decode cX11_read 13 = .ok (.iconst (-1), 1) := by decide +kernel
theorem dX11_read_14 : decode cX11_read 14 = .ok (.if_icmp .eq 17, 3) := by decide +kernel
theorem dX11_read_17 : decode cX11_read 17 = .ok (.iload_n 2, 1) := by decide +kernel
theorem dX11_read_18 : decode cX11_read 18 = .ok (.ifCond .lt 13, 3) := by decide +kernel
theorem dX11_read_21 : decode cX11_read 21 = .ok (.iload_n 2, 1) := by decide +kernel
theorem dX11_read_22 : decode cX11_read 22 = .ok (.aload_n 0, 1) := by decide +kernel
theorem dX11_read_23 : decode cX11_read 23 = .ok (.getfield 97, 3) := by decide +kernel
theorem dX11_read_26 : decode cX11_read 26 = .ok (.iload_n 1, 1) := by decide +kernel
theorem dX11_read_27 : decode cX11_read 27 = .ok (.iaload, 1) := by decide +kernel
theorem dX11_read_28 : decode cX11_read 28 = .ok (.if_icmp .lt 7, 3) := by decide +kernel
theorem dX11_read_31 : decode cX11_read 31 = .ok (.ldc2_w 239, 3) := by decide +kernel
theorem dX11_read_34 : decode cX11_read 34 = .ok (.lreturn, 1) := by decide +kernel
theorem dX11_read_35 : decode cX11_read 35 = .ok (.aload_n 0, 1) := by decide +kernel
theorem dX11_read_36 : decode cX11_read 36 = .ok (.getfield 102, 3) := by decide +kernel
theorem dX11_read_39 : decode cX11_read 39 = .ok (.iload_n 1, 1) := by decide +kernel
theorem dX11_read_40 : decode cX11_read 40 = .ok (.aaload, 1) := by decide +kernel
theorem dX11_read_41 : decode cX11_read 41 = .ok (.iload_n 2, 1) := by decide +kernel
theorem dX11_read_42 : decode cX11_read 42 = .ok (.laload, 1) := by decide +kernel
theorem dX11_read_43 : decode cX11_read 43 = .ok (.lreturn, 1) := by decide +kernel
noncomputable def C_X11_read : List (Nat × qOp) := [(0, qo_iload 1 1),
  (1, qo_calls S_X11_isTape 1),
  (4, qo_ifeq 31),
  (7, qo_aload 0 1),
  (8, qo_getR 11 15),
  (11, qo_iload 1 1),
  (12, qo_iaload),
  (13, qo_ci (-1) 1),
  (14, qo_iceq 31),
  (17, qo_iload 2 1),
  (18, qo_iflt 31),
  (21, qo_iload 2 1),
  (22, qo_aload 0 1),
  (23, qo_getR 11 16),
  (26, qo_iload 1 1),
  (27, qo_iaload),
  (28, qo_iclt 35),
  (31, qo_cl (-9223372036854775808) 3),
  (34, qo_ret (some .long) 2),
  (35, qo_aload 0 1),
  (36, qo_getR 11 17),
  (39, qo_iload 1 1),
  (40, qo_aaload),
  (41, qo_iload 2 1),
  (42, qo_laload),
  (43, qo_ret (some .long) 2)]
noncomputable def S_X11_read : qSem := qM 3 C_X11_read
set_option maxRecDepth 20000 in
theorem K_X11_read {X : qX} {l : Launch} : ∀ q ∈ C_X11_read, qOk X l 2 cX11_read 3 RX11 "read" (some .long) q.1 q.2 := by
  unfold C_X11_read
  refine qcons (qk_iload_n dX11_read_0 rfl) ?_
  refine qcons (qk_calls (qrunS M_X11_isTape (by decide) (by decide) tw_711 tw_712 tw_713 tw_78 ⟨by decide, by decide⟩ (by decide +kernel)) dX11_read_1) ?_
  refine qcons (qk_ifeq dX11_read_4 (by decide)) ?_
  refine qcons (qk_aload_n dX11_read_7 rfl) ?_
  refine qcons (qk_getR fd_X11_93 kd_11_15 dX11_read_8) ?_
  refine qcons (qk_iload_n dX11_read_11 rfl) ?_
  refine qcons (qk_iaload dX11_read_12) ?_
  refine qcons (qk_iconst dX11_read_13 (by decide)) ?_
  refine qcons (qk_iceq dX11_read_14 (by decide)) ?_
  refine qcons (qk_iload_n dX11_read_17 rfl) ?_
  refine qcons (qk_iflt dX11_read_18 (by decide)) ?_
  refine qcons (qk_iload_n dX11_read_21 rfl) ?_
  refine qcons (qk_aload_n dX11_read_22 rfl) ?_
  refine qcons (qk_getR fd_X11_97 kd_11_16 dX11_read_23) ?_
  refine qcons (qk_iload_n dX11_read_26 rfl) ?_
  refine qcons (qk_iaload dX11_read_27) ?_
  refine qcons (qk_iclt dX11_read_28 (by decide)) ?_
  refine qcons (qk_ldc2 dX11_read_31 tw_679 (by decide)) ?_
  refine qcons (qk_ret dX11_read_34 (Or.inr (Or.inr (Or.inl ⟨rfl, rfl⟩)))) ?_
  refine qcons (qk_aload_n dX11_read_35 rfl) ?_
  refine qcons (qk_getR fd_X11_102 kd_11_17 dX11_read_36) ?_
  refine qcons (qk_iload_n dX11_read_39 rfl) ?_
  refine qcons (qk_aaload dX11_read_40) ?_
  refine qcons (qk_iload_n dX11_read_41 rfl) ?_
  refine qcons (qk_laload dX11_read_42) ?_
  refine qcons (qk_ret dX11_read_43 (Or.inr (Or.inr (Or.inl ⟨rfl, rfl⟩)))) ?_
  exact qnil
theorem M_X11_read {X : qX} {l : Launch} : qMet X l 2 yX11_read cX11_read 3 (some .long) S_X11_read := qmet_of K_X11_read (by decide) rfl rfl
theorem dX11_shift_0 : decode cX11_shift 0 = .ok (.iload_n 1, 1) := by decide +kernel
theorem dX11_shift_1 : decode cX11_shift 1 = .ok (.invokestatic 248, 3) := by decide +kernel
theorem dX11_shift_4 : decode cX11_shift 4 = .ok (.ifCond .eq 10, 3) := by decide +kernel
theorem dX11_shift_7 : decode cX11_shift 7 = .ok (.iload_n 3, 1) := by decide +kernel
theorem dX11_shift_8 : decode cX11_shift 8 = .ok (.invokestatic 248, 3) := by decide +kernel
theorem dX11_shift_11 : decode cX11_shift 11 = .ok (.ifCond .ne 5, 3) := by decide +kernel
theorem dX11_shift_14 : decode cX11_shift 14 = .ok (.iconst (-1), 1) := by decide +kernel
theorem dX11_shift_15 : decode cX11_shift 15 = .ok (.ireturn, 1) := by decide +kernel
theorem dX11_shift_16 : decode cX11_shift 16 = .ok (.aload_n 0, 1) := by decide +kernel
theorem dX11_shift_17 : decode cX11_shift 17 = .ok (.getfield 93, 3) := by decide +kernel
theorem dX11_shift_20 : decode cX11_shift 20 = .ok (.iload_n 1, 1) := by decide +kernel
theorem dX11_shift_21 : decode cX11_shift 21 = .ok (.iaload, 1) := by decide +kernel
theorem dX11_shift_22 : decode cX11_shift 22 = .ok (.iconst (-1), 1) := by decide +kernel
theorem dX11_shift_23 : decode cX11_shift 23 = .ok (.if_icmp .eq 13, 3) := by decide +kernel
theorem dX11_shift_26 : decode cX11_shift 26 = .ok (.aload_n 0, 1) := by decide +kernel
theorem dX11_shift_27 : decode cX11_shift 27 = .ok (.getfield 93, 3) := by decide +kernel
theorem dX11_shift_30 : decode cX11_shift 30 = .ok (.iload_n 3, 1) := by decide +kernel
theorem dX11_shift_31 : decode cX11_shift 31 = .ok (.iaload, 1) := by decide +kernel
theorem dX11_shift_32 : decode cX11_shift 32 = .ok (.iconst (-1), 1) := by decide +kernel
theorem dX11_shift_33 : decode cX11_shift 33 = .ok (.if_icmp .ne 6, 3) := by decide +kernel
theorem dX11_shift_36 : decode cX11_shift 36 = .ok (.bipush (-11), 2) := by decide +kernel
theorem dX11_shift_38 : decode cX11_shift 38 = .ok (.ireturn, 1) := by decide +kernel
theorem dX11_shift_39 : decode cX11_shift 39 = .ok (.aload_n 0, 1) := by decide +kernel
theorem dX11_shift_40 : decode cX11_shift 40 = .ok (.getfield 93, 3) := by decide +kernel
theorem dX11_shift_43 : decode cX11_shift 43 = .ok (.iload_n 1, 1) := by decide +kernel
theorem dX11_shift_44 : decode cX11_shift 44 = .ok (.iaload, 1) := by decide +kernel
theorem dX11_shift_45 : decode cX11_shift 45 = .ok (.aload_n 0, 1) := by decide +kernel
theorem dX11_shift_46 : decode cX11_shift 46 = .ok (.getfield 93, 3) := by decide +kernel
theorem dX11_shift_49 : decode cX11_shift 49 = .ok (.iload_n 3, 1) := by decide +kernel
theorem dX11_shift_50 : decode cX11_shift 50 = .ok (.iaload, 1) := by decide +kernel
theorem dX11_shift_51 : decode cX11_shift 51 = .ok (.if_icmp .eq 6, 3) := by decide +kernel
theorem dX11_shift_54 : decode cX11_shift 54 = .ok (.bipush (-12), 2) := by decide +kernel
theorem dX11_shift_56 : decode cX11_shift 56 = .ok (.ireturn, 1) := by decide +kernel
theorem dX11_shift_57 : decode cX11_shift 57 = .ok (.iload 5, 2) := by decide +kernel
theorem dX11_shift_59 : decode cX11_shift 59 = .ok (.ifCond .lt 39, 3) := by decide +kernel
theorem dX11_shift_62 : decode cX11_shift 62 = .ok (.iload_n 2, 1) := by decide +kernel
theorem dX11_shift_63 : decode cX11_shift 63 = .ok (.ifCond .lt 35, 3) := by decide +kernel
theorem dX11_shift_66 : decode cX11_shift 66 = .ok (.iload 4, 2) := by decide +kernel
theorem dX11_shift_68 : decode cX11_shift 68 = .ok (.ifCond .lt 30, 3) := by decide +kernel
theorem dX11_shift_71 : decode cX11_shift 71 = .ok (.iload 5, 2) := by decide +kernel
theorem dX11_shift_73 : decode cX11_shift 73 = .ok (.aload_n 0, 1) := by decide +kernel
theorem dX11_shift_74 : decode cX11_shift 74 = .ok (.getfield 97, 3) := by decide +kernel
theorem dX11_shift_77 : decode cX11_shift 77 = .ok (.iload_n 1, 1) := by decide +kernel
theorem dX11_shift_78 : decode cX11_shift 78 = .ok (.iaload, 1) := by decide +kernel
theorem dX11_shift_79 : decode cX11_shift 79 = .ok (.iload_n 2, 1) := by decide +kernel
theorem dX11_shift_80 : decode cX11_shift 80 = .ok (.isub, 1) := by decide +kernel
theorem dX11_shift_81 : decode cX11_shift 81 = .ok (.if_icmp .gt 17, 3) := by decide +kernel
theorem dX11_shift_84 : decode cX11_shift 84 = .ok (.iload 5, 2) := by decide +kernel
theorem dX11_shift_86 : decode cX11_shift 86 = .ok (.aload_n 0, 1) := by decide +kernel
theorem dX11_shift_87 : decode cX11_shift 87 = .ok (.getfield 97, 3) := by decide +kernel
theorem dX11_shift_90 : decode cX11_shift 90 = .ok (.iload_n 3, 1) := by decide +kernel
theorem dX11_shift_91 : decode cX11_shift 91 = .ok (.iaload, 1) := by decide +kernel
theorem dX11_shift_92 : decode cX11_shift 92 = .ok (.iload 4, 2) := by decide +kernel
theorem dX11_shift_94 : decode cX11_shift 94 = .ok (.isub, 1) := by decide +kernel
theorem dX11_shift_95 : decode cX11_shift 95 = .ok (.if_icmp .le 6, 3) := by decide +kernel
theorem dX11_shift_98 : decode cX11_shift 98 = .ok (.bipush (-13), 2) := by decide +kernel
theorem dX11_shift_100 : decode cX11_shift 100 = .ok (.ireturn, 1) := by decide +kernel
theorem dX11_shift_101 : decode cX11_shift 101 = .ok (.aload_n 0, 1) := by decide +kernel
theorem dX11_shift_102 : decode cX11_shift 102 = .ok (.getfield 102, 3) := by decide +kernel
theorem dX11_shift_105 : decode cX11_shift 105 = .ok (.iload_n 1, 1) := by decide +kernel
theorem dX11_shift_106 : decode cX11_shift 106 = .ok (.aaload, 1) := by decide +kernel
theorem dX11_shift_107 : decode cX11_shift 107 = .ok (.iload_n 2, 1) := by decide +kernel
theorem dX11_shift_108 : decode cX11_shift 108 = .ok (.aload_n 0, 1) := by decide +kernel
theorem dX11_shift_109 : decode cX11_shift 109 = .ok (.getfield 102, 3) := by decide +kernel
theorem dX11_shift_112 : decode cX11_shift 112 = .ok (.iload_n 3, 1) := by decide +kernel
theorem dX11_shift_113 : decode cX11_shift 113 = .ok (.aaload, 1) := by decide +kernel
theorem dX11_shift_114 : decode cX11_shift 114 = .ok (.iload 4, 2) := by decide +kernel
theorem dX11_shift_116 : decode cX11_shift 116 = .ok (.iload 5, 2) := by decide +kernel
theorem dX11_shift_118 : decode cX11_shift 118 = .ok (.invokestatic 290, 3) := by decide +kernel
theorem dX11_shift_121 : decode cX11_shift 121 = .ok (.iload 5, 2) := by decide +kernel
theorem dX11_shift_123 : decode cX11_shift 123 = .ok (.ireturn, 1) := by decide +kernel
noncomputable def C_X11_shift : List (Nat × qOp) := [(0, qo_iload 1 1),
  (1, qo_calls S_X11_isTape 1),
  (4, qo_ifeq 14),
  (7, qo_iload 3 1),
  (8, qo_calls S_X11_isTape 1),
  (11, qo_ifne 16),
  (14, qo_ci (-1) 1),
  (15, qo_ret (some .int) 1),
  (16, qo_aload 0 1),
  (17, qo_getR 11 15),
  (20, qo_iload 1 1),
  (21, qo_iaload),
  (22, qo_ci (-1) 1),
  (23, qo_iceq 36),
  (26, qo_aload 0 1),
  (27, qo_getR 11 15),
  (30, qo_iload 3 1),
  (31, qo_iaload),
  (32, qo_ci (-1) 1),
  (33, qo_icne 39),
  (36, qo_ci (-11) 2),
  (38, qo_ret (some .int) 1),
  (39, qo_aload 0 1),
  (40, qo_getR 11 15),
  (43, qo_iload 1 1),
  (44, qo_iaload),
  (45, qo_aload 0 1),
  (46, qo_getR 11 15),
  (49, qo_iload 3 1),
  (50, qo_iaload),
  (51, qo_iceq 57),
  (54, qo_ci (-12) 2),
  (56, qo_ret (some .int) 1),
  (57, qo_iload 5 2),
  (59, qo_iflt 98),
  (62, qo_iload 2 1),
  (63, qo_iflt 98),
  (66, qo_iload 4 2),
  (68, qo_iflt 98),
  (71, qo_iload 5 2),
  (73, qo_aload 0 1),
  (74, qo_getR 11 16),
  (77, qo_iload 1 1),
  (78, qo_iaload),
  (79, qo_iload 2 1),
  (80, qo_isub),
  (81, qo_icgt 98),
  (84, qo_iload 5 2),
  (86, qo_aload 0 1),
  (87, qo_getR 11 16),
  (90, qo_iload 3 1),
  (91, qo_iaload),
  (92, qo_iload 4 2),
  (94, qo_isub),
  (95, qo_icle 101),
  (98, qo_ci (-13) 2),
  (100, qo_ret (some .int) 1),
  (101, qo_aload 0 1),
  (102, qo_getR 11 17),
  (105, qo_iload 1 1),
  (106, qo_aaload),
  (107, qo_iload 2 1),
  (108, qo_aload 0 1),
  (109, qo_getR 11 17),
  (112, qo_iload 3 1),
  (113, qo_aaload),
  (114, qo_iload 4 2),
  (116, qo_iload 5 2),
  (118, qo_copyl 103),
  (121, qo_iload 5 2),
  (123, qo_ret (some .int) 1)]
noncomputable def S_X11_shift : qSem := qM 6 C_X11_shift
set_option maxRecDepth 20000 in
theorem K_X11_shift {X : qX} {l : Launch} : ∀ q ∈ C_X11_shift, qOk X l 2 cX11_shift 6 RX11 "shift" (some .int) q.1 q.2 := by
  unfold C_X11_shift
  refine qcons (qk_iload_n dX11_shift_0 rfl) ?_
  refine qcons (qk_calls (qrunS M_X11_isTape (by decide) (by decide) tw_711 tw_712 tw_713 tw_78 ⟨by decide, by decide⟩ (by decide +kernel)) dX11_shift_1) ?_
  refine qcons (qk_ifeq dX11_shift_4 (by decide)) ?_
  refine qcons (qk_iload_n dX11_shift_7 rfl) ?_
  refine qcons (qk_calls (qrunS M_X11_isTape (by decide) (by decide) tw_711 tw_712 tw_713 tw_78 ⟨by decide, by decide⟩ (by decide +kernel)) dX11_shift_8) ?_
  refine qcons (qk_ifne dX11_shift_11 (by decide)) ?_
  refine qcons (qk_iconst dX11_shift_14 (by decide)) ?_
  refine qcons (qk_ret dX11_shift_15 (Or.inr (Or.inl ⟨rfl, rfl⟩))) ?_
  refine qcons (qk_aload_n dX11_shift_16 rfl) ?_
  refine qcons (qk_getR fd_X11_93 kd_11_15 dX11_shift_17) ?_
  refine qcons (qk_iload_n dX11_shift_20 rfl) ?_
  refine qcons (qk_iaload dX11_shift_21) ?_
  refine qcons (qk_iconst dX11_shift_22 (by decide)) ?_
  refine qcons (qk_iceq dX11_shift_23 (by decide)) ?_
  refine qcons (qk_aload_n dX11_shift_26 rfl) ?_
  refine qcons (qk_getR fd_X11_93 kd_11_15 dX11_shift_27) ?_
  refine qcons (qk_iload_n dX11_shift_30 rfl) ?_
  refine qcons (qk_iaload dX11_shift_31) ?_
  refine qcons (qk_iconst dX11_shift_32 (by decide)) ?_
  refine qcons (qk_icne dX11_shift_33 (by decide)) ?_
  refine qcons (qk_bipush dX11_shift_36 (by decide) (by decide)) ?_
  refine qcons (qk_ret dX11_shift_38 (Or.inr (Or.inl ⟨rfl, rfl⟩))) ?_
  refine qcons (qk_aload_n dX11_shift_39 rfl) ?_
  refine qcons (qk_getR fd_X11_93 kd_11_15 dX11_shift_40) ?_
  refine qcons (qk_iload_n dX11_shift_43 rfl) ?_
  refine qcons (qk_iaload dX11_shift_44) ?_
  refine qcons (qk_aload_n dX11_shift_45 rfl) ?_
  refine qcons (qk_getR fd_X11_93 kd_11_15 dX11_shift_46) ?_
  refine qcons (qk_iload_n dX11_shift_49 rfl) ?_
  refine qcons (qk_iaload dX11_shift_50) ?_
  refine qcons (qk_iceq dX11_shift_51 (by decide)) ?_
  refine qcons (qk_bipush dX11_shift_54 (by decide) (by decide)) ?_
  refine qcons (qk_ret dX11_shift_56 (Or.inr (Or.inl ⟨rfl, rfl⟩))) ?_
  refine qcons (qk_iload dX11_shift_57) ?_
  refine qcons (qk_iflt dX11_shift_59 (by decide)) ?_
  refine qcons (qk_iload_n dX11_shift_62 rfl) ?_
  refine qcons (qk_iflt dX11_shift_63 (by decide)) ?_
  refine qcons (qk_iload dX11_shift_66) ?_
  refine qcons (qk_iflt dX11_shift_68 (by decide)) ?_
  refine qcons (qk_iload dX11_shift_71) ?_
  refine qcons (qk_aload_n dX11_shift_73 rfl) ?_
  refine qcons (qk_getR fd_X11_97 kd_11_16 dX11_shift_74) ?_
  refine qcons (qk_iload_n dX11_shift_77 rfl) ?_
  refine qcons (qk_iaload dX11_shift_78) ?_
  refine qcons (qk_iload_n dX11_shift_79 rfl) ?_
  refine qcons (qk_isub dX11_shift_80) ?_
  refine qcons (qk_icgt dX11_shift_81 (by decide)) ?_
  refine qcons (qk_iload dX11_shift_84) ?_
  refine qcons (qk_aload_n dX11_shift_86 rfl) ?_
  refine qcons (qk_getR fd_X11_97 kd_11_16 dX11_shift_87) ?_
  refine qcons (qk_iload_n dX11_shift_90 rfl) ?_
  refine qcons (qk_iaload dX11_shift_91) ?_
  refine qcons (qk_iload dX11_shift_92) ?_
  refine qcons (qk_isub dX11_shift_94) ?_
  refine qcons (qk_icle dX11_shift_95 (by decide)) ?_
  refine qcons (qk_bipush dX11_shift_98 (by decide) (by decide)) ?_
  refine qcons (qk_ret dX11_shift_100 (Or.inr (Or.inl ⟨rfl, rfl⟩))) ?_
  refine qcons (qk_aload_n dX11_shift_101 rfl) ?_
  refine qcons (qk_getR fd_X11_102 kd_11_17 dX11_shift_102) ?_
  refine qcons (qk_iload_n dX11_shift_105 rfl) ?_
  refine qcons (qk_aaload dX11_shift_106) ?_
  refine qcons (qk_iload_n dX11_shift_107 rfl) ?_
  refine qcons (qk_aload_n dX11_shift_108 rfl) ?_
  refine qcons (qk_getR fd_X11_102 kd_11_17 dX11_shift_109) ?_
  refine qcons (qk_iload_n dX11_shift_112 rfl) ?_
  refine qcons (qk_aaload dX11_shift_113) ?_
  refine qcons (qk_iload dX11_shift_114) ?_
  refine qcons (qk_iload dX11_shift_116) ?_
  refine qcons (qk_copyl rfl (by decide) tw_844 tw_474 tw_473 tw_92 dX11_shift_118) ?_
  refine qcons (qk_iload dX11_shift_121) ?_
  refine qcons (qk_ret dX11_shift_123 (Or.inr (Or.inl ⟨rfl, rfl⟩))) ?_
  exact qnil
theorem M_X11_shift {X : qX} {l : Launch} : qMet X l 2 yX11_shift cX11_shift 6 (some .int) S_X11_shift := qmet_of K_X11_shift (by decide) rfl rfl
