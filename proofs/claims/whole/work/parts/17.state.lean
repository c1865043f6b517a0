theorem dX6_init_0 : decode cX6_init 0 = .ok (.aload_n 0, 1) := by decide +kernel
theorem dX6_init_1 : decode cX6_init 1 = .ok (.invokespecial 3, 3) := by decide +kernel
theorem dX6_init_4 : decode cX6_init 4 = .ok (.aload_n 0, 1) := by decide +kernel
theorem dX6_init_5 : decode cX6_init 5 = .ok (.iload_n 1, 1) := by decide +kernel
theorem dX6_init_6 : decode cX6_init 6 = .ok (.putfield 9, 3) := by decide +kernel
theorem dX6_init_9 : decode cX6_init 9 = .ok (.aload_n 0, 1) := by decide +kernel
theorem dX6_init_10 : decode cX6_init 10 = .ok (.iload_n 2, 1) := by decide +kernel
theorem dX6_init_11 : decode cX6_init 11 = .ok (.putfield 15, 3) := by decide +kernel
theorem dX6_init_14 : decode cX6_init 14 = .ok (.aload_n 0, 1) := by decide +kernel
theorem dX6_init_15 : decode cX6_init 15 = .ok (.iload_n 1, 1) := by decide +kernel
theorem dX6_init_16 : decode cX6_init 16 = .ok (.iload_n 2, 1) := by decide +kernel
theorem dX6_init_17 : decode cX6_init 17 = .ok (.imul, 1) := by decide +kernel
theorem dX6_init_18 : decode cX6_init 18 = .ok (.newarray .int, 2) := by decide +kernel
theorem dX6_init_20 : decode cX6_init 20 = .ok (.putfield 18, 3) := by decide +kernel
theorem dX6_init_23 : decode cX6_init 23 = .ok (.return_, 1) := by decide +kernel
noncomputable def C_X6_init : List (Nat × qOp) := [(0, qo_aload 0 1),
  (1, qo_oinit),
  (4, qo_aload 0 1),
  (5, qo_iload 1 1),
  (6, qo_putI 6 0),
  (9, qo_aload 0 1),
  (10, qo_iload 2 1),
  (11, qo_putI 6 1),
  (14, qo_aload 0 1),
  (15, qo_iload 1 1),
  (16, qo_iload 2 1),
  (17, qo_imul),
  (18, qo_newa 100),
  (20, qo_putR 6 2),
  (23, qo_ret none 0)]
noncomputable def S_X6_init : qSem := qM 3 C_X6_init
set_option maxRecDepth 20000 in
theorem K_X6_init {X : qX} {l : Launch} : ∀ q ∈ C_X6_init, qOk X l 1 cX6_init 3 RX6 "<init>" none q.1 q.2 := by
  unfold C_X6_init
  refine qcons (qk_aload_n dX6_init_0 rfl) ?_
  refine qcons (qk_oinit (by decide) tw_274 tw_103 tw_104 dX6_init_1) ?_
  refine qcons (qk_aload_n dX6_init_4 rfl) ?_
  refine qcons (qk_iload_n dX6_init_5 rfl) ?_
  refine qcons (qk_putI (ty := .int) fd_X6_9 tyX6_ok nmX6 (Or.inr ⟨rfl, rfl, rfl⟩) kd_6_0 (tyX6_ok 0 (by decide)) dX6_init_6) ?_
  refine qcons (qk_aload_n dX6_init_9 rfl) ?_
  refine qcons (qk_iload_n dX6_init_10 rfl) ?_
  refine qcons (qk_putI (ty := .int) fd_X6_15 tyX6_ok nmX6 (Or.inr ⟨rfl, rfl, rfl⟩) kd_6_1 (tyX6_ok 1 (by decide)) dX6_init_11) ?_
  refine qcons (qk_aload_n dX6_init_14 rfl) ?_
  refine qcons (qk_iload_n dX6_init_15 rfl) ?_
  refine qcons (qk_iload_n dX6_init_16 rfl) ?_
  refine qcons (qk_imul dX6_init_17) ?_
  refine qcons (qk_newa (atype := .int) (ty := .int) rfl (Or.inl ⟨rfl, rfl⟩) tw_188 dX6_init_18) ?_
  refine qcons (qk_putR fd_X6_18 tyX6_ok nmX6 (Or.inr ⟨rfl, rfl, rfl⟩) kd_6_2 (tyX6_ok 2 (by decide)) (Or.inr ⟨_, rfl⟩) dX6_init_20) ?_
  refine qcons (qk_ret dX6_init_23 (Or.inl ⟨rfl, rfl⟩)) ?_
  exact qnil
theorem M_X6_init {X : qX} {l : Launch} : qMet X l 1 yX6_init cX6_init 3 none S_X6_init := qmet_of K_X6_init (by decide) rfl rfl
theorem dX6_add_0 : decode cX6_add 0 = .ok (.aload_n 0, 1) := by decide +kernel
theorem dX6_add_1 : decode cX6_add 1 = .ok (.getfield 22, 3) := by decide +kernel
theorem dX6_add_4 : decode cX6_add 4 = .ok (.aload_n 0, 1) := by decide +kernel
theorem dX6_add_5 : decode cX6_add 5 = .ok (.getfield 9, 3) := by decide +kernel
theorem dX6_add_8 : decode cX6_add 8 = .ok (.if_icmp .lt 6, 3) := by decide +kernel
theorem dX6_add_11 : decode cX6_add 11 = .ok (.bipush (-4), 2) := by decide +kernel
theorem dX6_add_13 : decode cX6_add 13 = .ok (.ireturn, 1) := by decide +kernel
theorem dX6_add_14 : decode cX6_add 14 = .ok (.aload_n 0, 1) := by decide +kernel
theorem dX6_add_15 : decode cX6_add 15 = .ok (.getfield 22, 3) := by decide +kernel
theorem dX6_add_18 : decode cX6_add 18 = .ok (.aload_n 0, 1) := by decide +kernel
theorem dX6_add_19 : decode cX6_add 19 = .ok (.getfield 15, 3) := by decide +kernel
theorem dX6_add_22 : decode cX6_add 22 = .ok (.imul, 1) := by decide +kernel
theorem dX6_add_23 : decode cX6_add 23 = .ok (.istore 4, 2) := by decide +kernel
theorem dX6_add_25 : decode cX6_add 25 = .ok (.aload_n 0, 1) := by decide +kernel
theorem dX6_add_26 : decode cX6_add 26 = .ok (.getfield 18, 3) := by decide +kernel
theorem dX6_add_29 : decode cX6_add 29 = .ok (.iload 4, 2) := by decide +kernel
theorem dX6_add_31 : decode cX6_add 31 = .ok (.iload_n 1, 1) := by decide +kernel
theorem dX6_add_32 : decode cX6_add 32 = .ok (.iastore, 1) := by decide +kernel
theorem dX6_add_33 : decode cX6_add 33 = .ok (.aload_n 0, 1) := by decide +kernel
theorem dX6_add_34 : decode cX6_add 34 = .ok (.getfield 18, 3) := by decide +kernel
theorem dX6_add_37 : decode cX6_add 37 = .ok (.iload 4, 2) := by decide +kernel
theorem dX6_add_39 : decode cX6_add 39 = .ok (.iconst 1, 1) := by decide +kernel
theorem dX6_add_40 : decode cX6_add 40 = .ok (.iadd, 1) := by decide +kernel
theorem dX6_add_41 : decode cX6_add 41 = .ok (.iload_n 2, 1) := by decide +kernel
theorem dX6_add_42 : decode cX6_add 42 = .ok (.iastore, 1) := by decide +kernel
theorem dX6_add_43 : decode cX6_add 43 = .ok (.aload_n 0, 1) := by decide +kernel
theorem dX6_add_44 : decode cX6_add 44 = .ok (.getfield 15, 3) := by decide +kernel
theorem dX6_add_47 : decode cX6_add 47 = .ok (.iconst 2, 1) := by decide +kernel
theorem dX6_add_48 : decode cX6_add 48 = .ok (.if_icmp .le 13, 3) := by decide +kernel
theorem dX6_add_51 : decode cX6_add 51 = .ok (.aload_n 0, 1) := by decide +kernel
theorem dX6_add_52 : decode cX6_add 52 = .ok (.getfield 18, 3) := by decide +kernel
theorem dX6_add_55 : decode cX6_add 55 = .ok (.iload 4, 2) := by decide +kernel
theorem dX6_add_57 : decode cX6_add 57 = .ok (.iconst 2, 1) := by decide +kernel
theorem dX6_add_58 : decode cX6_add 58 = .ok (.iadd, 1) := by decide +kernel
theorem dX6_add_59 : decode cX6_add 59 = .ok (.iload_n 3, 1) := by decide +kernel
theorem dX6_add_60 : decode cX6_add 60 = .ok (.iastore, 1) := by decide +kernel
theorem dX6_add_61 : decode cX6_add 61 = .ok (.aload_n 0, 1) := by decide +kernel
theorem dX6_add_62 : decode cX6_add 62 = .ok (.dup, 1) := by decide +kernel
theorem dX6_add_63 : decode cX6_add 63 = .ok (.getfield 22, 3) := by decide +kernel
theorem dX6_add_66 : decode cX6_add 66 = .ok (.iconst 1, 1) := by decide +kernel
theorem dX6_add_67 : decode cX6_add 67 = .ok (.iadd, 1) := by decide +kernel
theorem dX6_add_68 : decode cX6_add 68 = .ok (.putfield 22, 3) := by decide +kernel
theorem dX6_add_71 : decode cX6_add 71 = .ok (.aload_n 0, 1) := by decide +kernel
theorem dX6_add_72 : decode cX6_add 72 = .ok (.getfield 22, 3) := by decide +kernel
theorem dX6_add_75 : decode cX6_add 75 = .ok (.ireturn, 1) := by decide +kernel
noncomputable def C_X6_add : List (Nat × qOp) := [(0, qo_aload 0 1),
  (1, qo_getI 6 3),
  (4, qo_aload 0 1),
  (5, qo_getI 6 0),
  (8, qo_iclt 14),
  (11, qo_ci (-4) 2),
  (13, qo_ret (some .int) 1),
  (14, qo_aload 0 1),
  (15, qo_getI 6 3),
  (18, qo_aload 0 1),
  (19, qo_getI 6 1),
  (22, qo_imul),
  (23, qo_istore 4 2),
  (25, qo_aload 0 1),
  (26, qo_getR 6 2),
  (29, qo_iload 4 2),
  (31, qo_iload 1 1),
  (32, qo_iastore),
  (33, qo_aload 0 1),
  (34, qo_getR 6 2),
  (37, qo_iload 4 2),
  (39, qo_ci 1 1),
  (40, qo_iadd),
  (41, qo_iload 2 1),
  (42, qo_iastore),
  (43, qo_aload 0 1),
  (44, qo_getI 6 1),
  (47, qo_ci 2 1),
  (48, qo_icle 61),
  (51, qo_aload 0 1),
  (52, qo_getR 6 2),
  (55, qo_iload 4 2),
  (57, qo_ci 2 1),
  (58, qo_iadd),
  (59, qo_iload 3 1),
  (60, qo_iastore),
  (61, qo_aload 0 1),
  (62, qo_dup),
  (63, qo_getI 6 3),
  (66, qo_ci 1 1),
  (67, qo_iadd),
  (68, qo_putI 6 3),
  (71, qo_aload 0 1),
  (72, qo_getI 6 3),
  (75, qo_ret (some .int) 1)]
noncomputable def S_X6_add : qSem := qM 5 C_X6_add
set_option maxRecDepth 20000 in
theorem K_X6_add {X : qX} {l : Launch} : ∀ q ∈ C_X6_add, qOk X l 1 cX6_add 5 RX6 "add" (some .int) q.1 q.2 := by
  unfold C_X6_add
  refine qcons (qk_aload_n dX6_add_0 rfl) ?_
  refine qcons (qk_getI fd_X6_22 kd_6_3 dX6_add_1) ?_
  refine qcons (qk_aload_n dX6_add_4 rfl) ?_
  refine qcons (qk_getI fd_X6_9 kd_6_0 dX6_add_5) ?_
  refine qcons (qk_iclt dX6_add_8 (by decide)) ?_
  refine qcons (qk_bipush dX6_add_11 (by decide) (by decide)) ?_
  refine qcons (qk_ret dX6_add_13 (Or.inr (Or.inl ⟨rfl, rfl⟩))) ?_
  refine qcons (qk_aload_n dX6_add_14 rfl) ?_
  refine qcons (qk_getI fd_X6_22 kd_6_3 dX6_add_15) ?_
  refine qcons (qk_aload_n dX6_add_18 rfl) ?_
  refine qcons (qk_getI fd_X6_15 kd_6_1 dX6_add_19) ?_
  refine qcons (qk_imul dX6_add_22) ?_
  refine qcons (qk_istore dX6_add_23) ?_
  refine qcons (qk_aload_n dX6_add_25 rfl) ?_
  refine qcons (qk_getR fd_X6_18 kd_6_2 dX6_add_26) ?_
  refine qcons (qk_iload dX6_add_29) ?_
  refine qcons (qk_iload_n dX6_add_31 rfl) ?_
  refine qcons (qk_iastore dX6_add_32) ?_
  refine qcons (qk_aload_n dX6_add_33 rfl) ?_
  refine qcons (qk_getR fd_X6_18 kd_6_2 dX6_add_34) ?_
  refine qcons (qk_iload dX6_add_37) ?_
  refine qcons (qk_iconst dX6_add_39 (by decide)) ?_
  refine qcons (qk_iadd dX6_add_40) ?_
  refine qcons (qk_iload_n dX6_add_41 rfl) ?_
  refine qcons (qk_iastore dX6_add_42) ?_
  refine qcons (qk_aload_n dX6_add_43 rfl) ?_
  refine qcons (qk_getI fd_X6_15 kd_6_1 dX6_add_44) ?_
  refine qcons (qk_iconst dX6_add_47 (by decide)) ?_
  refine qcons (qk_icle dX6_add_48 (by decide)) ?_
  refine qcons (qk_aload_n dX6_add_51 rfl) ?_
  refine qcons (qk_getR fd_X6_18 kd_6_2 dX6_add_52) ?_
  refine qcons (qk_iload dX6_add_55) ?_
  refine qcons (qk_iconst dX6_add_57 (by decide)) ?_
  refine qcons (qk_iadd dX6_add_58) ?_
  refine qcons (qk_iload_n dX6_add_59 rfl) ?_
  refine qcons (qk_iastore dX6_add_60) ?_
  refine qcons (qk_aload_n dX6_add_61 rfl) ?_
  refine qcons (qk_dup dX6_add_62) ?_
  refine qcons (qk_getI fd_X6_22 kd_6_3 dX6_add_63) ?_
  refine qcons (qk_iconst dX6_add_66 (by decide)) ?_
  refine qcons (qk_iadd dX6_add_67) ?_
  refine qcons (qk_putI (ty := .int) fd_X6_22 tyX6_ok nmX6 (Or.inl rfl) kd_6_3 (tyX6_ok 3 (by decide)) dX6_add_68) ?_
  refine qcons (qk_aload_n dX6_add_71 rfl) ?_
  refine qcons (qk_getI fd_X6_22 kd_6_3 dX6_add_72) ?_
  refine qcons (qk_ret dX6_add_75 (Or.inr (Or.inl ⟨rfl, rfl⟩))) ?_
  exact qnil
theorem M_X6_add {X : qX} {l : Launch} : qMet X l 1 yX6_add cX6_add 5 (some .int) S_X6_add := qmet_of K_X6_add (by decide) rfl rfl
theorem dX6_cell_0 : decode cX6_cell 0 = .ok (.aload_n 0, 1) := by decide +kernel
theorem dX6_cell_1 : decode cX6_cell 1 = .ok (.getfield 18, 3) := by decide +kernel
theorem dX6_cell_4 : decode cX6_cell 4 = .ok (.iload_n 1, 1) := by decide +kernel
theorem dX6_cell_5 : decode cX6_cell 5 = .ok (.aload_n 0, 1) := by decide +kernel
theorem dX6_cell_6 : decode cX6_cell 6 = .ok (.getfield 15, 3) := by decide +kernel
theorem dX6_cell_9 : decode cX6_cell 9 = .ok (.imul, 1) := by decide +kernel
theorem dX6_cell_10 : decode cX6_cell 10 = .ok (.iload_n 2, 1) := by decide +kernel
theorem dX6_cell_11 : decode cX6_cell 11 = .ok (.iadd, 1) := by decide +kernel
theorem dX6_cell_12 : decode cX6_cell 12 = .ok (.iaload, 1) := by decide +kernel
theorem dX6_cell_13 : decode cX6_cell 13 = .ok (.ireturn, 1) := by decide +kernel
noncomputable def C_X6_cell : List (Nat × qOp) := [(0, qo_aload 0 1),
  (1, qo_getR 6 2),
  (4, qo_iload 1 1),
  (5, qo_aload 0 1),
  (6, qo_getI 6 1),
  (9, qo_imul),
  (10, qo_iload 2 1),
  (11, qo_iadd),
  (12, qo_iaload),
  (13, qo_ret (some .int) 1)]
noncomputable def S_X6_cell : qSem := qM 3 C_X6_cell
set_option maxRecDepth 20000 in
theorem K_X6_cell {X : qX} {l : Launch} : ∀ q ∈ C_X6_cell, qOk X l 1 cX6_cell 3 RX6 "cell" (some .int) q.1 q.2 := by
  unfold C_X6_cell
  refine qcons (qk_aload_n dX6_cell_0 rfl) ?_
  refine qcons (qk_getR fd_X6_18 kd_6_2 dX6_cell_1) ?_
  refine qcons (qk_iload_n dX6_cell_4 rfl) ?_
  refine qcons (qk_aload_n dX6_cell_5 rfl) ?_
  refine qcons (qk_getI fd_X6_15 kd_6_1 dX6_cell_6) ?_
  refine qcons (qk_imul dX6_cell_9) ?_
  refine qcons (qk_iload_n dX6_cell_10 rfl) ?_
  refine qcons (qk_iadd dX6_cell_11) ?_
  refine qcons (qk_iaload dX6_cell_12) ?_
  refine qcons (qk_ret dX6_cell_13 (Or.inr (Or.inl ⟨rfl, rfl⟩))) ?_
  exact qnil
theorem M_X6_cell {X : qX} {l : Launch} : qMet X l 1 yX6_cell cX6_cell 3 (some .int) S_X6_cell := qmet_of K_X6_cell (by decide) rfl rfl
theorem dX6_becomes_0 : decode cX6_becomes 0 = .ok (.aload_n 1, 1) := by decide +kernel
theorem dX6_becomes_1 : decode cX6_becomes 1 = .ok (.getfield 18, 3) := by decide +kernel
theorem dX6_becomes_4 : decode cX6_becomes 4 = .ok (.iconst 0, 1) := by decide +kernel
theorem dX6_becomes_5 : decode cX6_becomes 5 = .ok (.aload_n 0, 1) := by decide +kernel
theorem dX6_becomes_6 : decode cX6_becomes 6 = .ok (.getfield 18, 3) := by decide +kernel
theorem dX6_becomes_9 : decode cX6_becomes 9 = .ok (.iconst 0, 1) := by decide +kernel
theorem dX6_becomes_10 : decode cX6_becomes 10 = .ok (.aload_n 0, 1) := by decide +kernel
theorem dX6_becomes_11 : decode cX6_becomes 11 = .ok (.getfield 18, 3) := by decide +kernel
theorem dX6_becomes_14 : decode cX6_becomes 14 = .ok (.arraylength, 1) := by decide +kernel
theorem dX6_becomes_15 : decode cX6_becomes 15 = .ok (.aload_n 1, 1) := by decide +kernel
theorem dX6_becomes_16 : decode cX6_becomes 16 = .ok (.getfield 18, 3) := by decide +kernel
theorem dX6_becomes_19 : decode cX6_becomes 19 = .ok (.arraylength, 1) := by decide +kernel
theorem dX6_becomes_20 : decode cX6_becomes 20 = .ok (.invokestatic 25, 3) := by decide +kernel
theorem dX6_becomes_23 : decode cX6_becomes 23 = .ok (.invokestatic 31, 3) := by decide +kernel
theorem dX6_becomes_26 : decode cX6_becomes 26 = .ok (.aload_n 0, 1) := by decide +kernel
theorem dX6_becomes_27 : decode cX6_becomes 27 = .ok (.aload_n 1, 1) := by decide +kernel
theorem dX6_becomes_28 : decode cX6_becomes 28 = .ok (.getfield 22, 3) := by decide +kernel
theorem dX6_becomes_31 : decode cX6_becomes 31 = .ok (.putfield 22, 3) := by decide +kernel
theorem dX6_becomes_34 : decode cX6_becomes 34 = .ok (.return_, 1) := by decide +kernel
noncomputable def C_X6_becomes : List (Nat × qOp) := [(0, qo_aload 1 1),
  (1, qo_getR 6 2),
  (4, qo_ci 0 1),
  (5, qo_aload 0 1),
  (6, qo_getR 6 2),
  (9, qo_ci 0 1),
  (10, qo_aload 0 1),
  (11, qo_getR 6 2),
  (14, qo_alen),
  (15, qo_aload 1 1),
  (16, qo_getR 6 2),
  (19, qo_alen),
  (20, qo_mmin),
  (23, qo_copy 100),
  (26, qo_aload 0 1),
  (27, qo_aload 1 1),
  (28, qo_getI 6 3),
  (31, qo_putI 6 3),
  (34, qo_ret none 0)]
noncomputable def S_X6_becomes : qSem := qM 2 C_X6_becomes
set_option maxRecDepth 20000 in
theorem K_X6_becomes {X : qX} {l : Launch} : ∀ q ∈ C_X6_becomes, qOk X l 1 cX6_becomes 2 RX6 "becomes" none q.1 q.2 := by
  unfold C_X6_becomes
  refine qcons (qk_aload_n dX6_becomes_0 rfl) ?_
  refine qcons (qk_getR fd_X6_18 kd_6_2 dX6_becomes_1) ?_
  refine qcons (qk_iconst dX6_becomes_4 (by decide)) ?_
  refine qcons (qk_aload_n dX6_becomes_5 rfl) ?_
  refine qcons (qk_getR fd_X6_18 kd_6_2 dX6_becomes_6) ?_
  refine qcons (qk_iconst dX6_becomes_9 (by decide)) ?_
  refine qcons (qk_aload_n dX6_becomes_10 rfl) ?_
  refine qcons (qk_getR fd_X6_18 kd_6_2 dX6_becomes_11) ?_
  refine qcons (qk_alen dX6_becomes_14) ?_
  refine qcons (qk_aload_n dX6_becomes_15 rfl) ?_
  refine qcons (qk_getR fd_X6_18 kd_6_2 dX6_becomes_16) ?_
  refine qcons (qk_alen dX6_becomes_19) ?_
  refine qcons (qk_mmin (by decide) tw_722 tw_419 tw_91 tw_420 dX6_becomes_20) ?_
  refine qcons (qk_copy (by decide) (by decide) tw_723 tw_474 tw_473 tw_92 dX6_becomes_23) ?_
  refine qcons (qk_aload_n dX6_becomes_26 rfl) ?_
  refine qcons (qk_aload_n dX6_becomes_27 rfl) ?_
  refine qcons (qk_getI fd_X6_22 kd_6_3 dX6_becomes_28) ?_
  refine qcons (qk_putI (ty := .int) fd_X6_22 tyX6_ok nmX6 (Or.inl rfl) kd_6_3 (tyX6_ok 3 (by decide)) dX6_becomes_31) ?_
  refine qcons (qk_ret dX6_becomes_34 (Or.inl ⟨rfl, rfl⟩)) ?_
  exact qnil
theorem M_X6_becomes {X : qX} {l : Launch} : qMet X l 1 yX6_becomes cX6_becomes 2 none S_X6_becomes := qmet_of K_X6_becomes (by decide) rfl rfl
theorem dX8_init_0 : decode cX8_init 0 = .ok (.aload_n 0, 1) := by decide +kernel
theorem dX8_init_1 : decode cX8_init 1 = .ok (.invokespecial 3, 3) := by decide +kernel
theorem dX8_init_4 : decode cX8_init 4 = .ok (.aload_n 0, 1) := by decide +kernel
theorem dX8_init_5 : decode cX8_init 5 = .ok (.aload_n 1, 1) := by decide +kernel
theorem dX8_init_6 : decode cX8_init 6 = .ok (.putfield 9, 3) := by decide +kernel
theorem dX8_init_9 : decode cX8_init 9 = .ok (.aload_n 0, 1) := by decide +kernel
theorem dX8_init_10 : decode cX8_init 10 = .ok (.iload_n 3, 1) := by decide +kernel
theorem dX8_init_11 : decode cX8_init 11 = .ok (.putfield 15, 3) := by decide +kernel
theorem dX8_init_14 : decode cX8_init 14 = .ok (.aload_n 0, 1) := by decide +kernel
theorem dX8_init_15 : decode cX8_init 15 = .ok (.aload_n 2, 1) := by decide +kernel
theorem dX8_init_16 : decode cX8_init 16 = .ok (.putfield 19, 3) := by decide +kernel
theorem dX8_init_19 : decode cX8_init 19 = .ok (.aload_n 0, 1) := by decide +kernel
theorem dX8_init_20 : decode cX8_init 20 = .ok (.aload_n 2, 1) := by decide +kernel
theorem dX8_init_21 : decode cX8_init 21 = .ok (.getfield 23, 3) := by decide +kernel
theorem dX8_init_24 : decode cX8_init 24 = .ok (.putfield 28, 3) := by decide +kernel
theorem dX8_init_27 : decode cX8_init 27 = .ok (.aload_n 0, 1) := by decide +kernel
theorem dX8_init_28 : decode cX8_init 28 = .ok (.iconst 5, 1) := by decide +kernel
theorem dX8_init_29 : decode cX8_init 29 = .ok (.newarray .int, 2) := by decide +kernel
theorem dX8_init_31 : decode cX8_init 31 = .ok (.putfield 29, 3) := by decide +kernel
theorem dX8_init_34 : decode cX8_init 34 = .ok (.aload_n 0, 1) := by decide +kernel
theorem dX8_init_35 : decode cX8_init 35 = .ok (.bipush 6, 2) := by decide +kernel
theorem dX8_init_37 : decode cX8_init 37 = .ok (.newarray .int, 2) := by decide +kernel
theorem dX8_init_39 : decode cX8_init 39 = .ok (.putfield 33, 3) := by decide +kernel
theorem dX8_init_42 : decode cX8_init 42 = .ok (.aload_n 0, 1) := by decide +kernel
theorem dX8_init_43 : decode cX8_init 43 = .ok (.bipush 6, 2) := by decide +kernel
theorem dX8_init_45 : decode cX8_init 45 = .ok (.newarray .int, 2) := by decide +kernel
theorem dX8_init_47 : decode cX8_init 47 = .ok (.putfield 36, 3) := by decide +kernel
theorem dX8_init_50 : decode cX8_init 50 = .ok (.aload_n 0, 1) := by decide +kernel
theorem dX8_init_51 : decode cX8_init 51 = .ok (.bipush 6, 2) := by decide +kernel
theorem dX8_init_53 : decode cX8_init 53 = .ok (.newarray .int, 2) := by decide +kernel
theorem dX8_init_55 : decode cX8_init 55 = .ok (.putfield 39, 3) := by decide +kernel
theorem dX8_init_58 : decode cX8_init 58 = .ok (.aload_n 0, 1) := by decide +kernel
theorem dX8_init_59 : decode cX8_init 59 = .ok (.bipush 6, 2) := by decide +kernel
theorem dX8_init_61 : decode cX8_init 61 = .ok (.newarray .int, 2) := by decide +kernel
theorem dX8_init_63 : decode cX8_init 63 = .ok (.putfield 42, 3) := by decide +kernel
theorem dX8_init_66 : decode cX8_init 66 = .ok (.aload_n 0, 1) := by decide +kernel
theorem dX8_init_67 : decode cX8_init 67 = .ok (.bipush 6, 2) := by decide +kernel
theorem dX8_init_69 : decode cX8_init 69 = .ok (.newarray .int, 2) := by decide +kernel
theorem dX8_init_71 : decode cX8_init 71 = .ok (.putfield 45, 3) := by decide +kernel
theorem dX8_init_74 : decode cX8_init 74 = .ok (.aload_n 0, 1) := by decide +kernel
theorem dX8_init_75 : decode cX8_init 75 = .ok (.bipush 24, 2) := by decide +kernel
theorem dX8_init_77 : decode cX8_init 77 = .ok (.newarray .int, 2) := by decide +kernel
theorem dX8_init_79 : decode cX8_init 79 = .ok (.putfield 48, 3) := by decide +kernel
theorem dX8_init_82 : decode cX8_init 82 = .ok (.aload_n 0, 1) := by decide +kernel
theorem dX8_init_83 : decode cX8_init 83 = .ok (.bipush 6, 2) := by decide +kernel
theorem dX8_init_85 : decode cX8_init 85 = .ok (.newarray .boolean, 2) := by decide +kernel
theorem dX8_init_87 : decode cX8_init 87 = .ok (.putfield 51, 3) := by decide +kernel
theorem dX8_init_90 : decode cX8_init 90 = .ok (.return_, 1) := by decide +kernel
noncomputable def C_X8_init : List (Nat × qOp) := [(0, qo_aload 0 1),
  (1, qo_oinit),
  (4, qo_aload 0 1),
  (5, qo_aload 1 1),
  (6, qo_putR 8 0),
  (9, qo_aload 0 1),
  (10, qo_iload 3 1),
  (11, qo_putI 8 1),
  (14, qo_aload 0 1),
  (15, qo_aload 2 1),
  (16, qo_putD 8 13),
  (19, qo_aload 0 1),
  (20, qo_aload 2 1),
  (21, qo_getI 3 4),
  (24, qo_putI 8 12),
  (27, qo_aload 0 1),
  (28, qo_ci 5 1),
  (29, qo_newa 100),
  (31, qo_putR 8 2),
  (34, qo_aload 0 1),
  (35, qo_ci 6 2),
  (37, qo_newa 100),
  (39, qo_putR 8 3),
  (42, qo_aload 0 1),
  (43, qo_ci 6 2),
  (45, qo_newa 100),
  (47, qo_putR 8 4),
  (50, qo_aload 0 1),
  (51, qo_ci 6 2),
  (53, qo_newa 100),
  (55, qo_putR 8 5),
  (58, qo_aload 0 1),
  (59, qo_ci 6 2),
  (61, qo_newa 100),
  (63, qo_putR 8 6),
  (66, qo_aload 0 1),
  (67, qo_ci 6 2),
  (69, qo_newa 100),
  (71, qo_putR 8 7),
  (74, qo_aload 0 1),
  (75, qo_ci 24 2),
  (77, qo_newa 100),
  (79, qo_putR 8 8),
  (82, qo_aload 0 1),
  (83, qo_ci 6 2),
  (85, qo_newa 102),
  (87, qo_putR 8 9),
  (90, qo_ret none 0)]
noncomputable def S_X8_init : qSem := qM 4 C_X8_init
set_option maxRecDepth 20000 in
theorem K_X8_init {X : qX} {l : Launch} : ∀ q ∈ C_X8_init, qOk X l 1 cX8_init 4 RX8 "<init>" none q.1 q.2 := by
  unfold C_X8_init
  refine qcons (qk_aload_n dX8_init_0 rfl) ?_
  refine qcons (qk_oinit (by decide) tw_195 tw_103 tw_104 dX8_init_1) ?_
  refine qcons (qk_aload_n dX8_init_4 rfl) ?_
  refine qcons (qk_aload_n dX8_init_5 rfl) ?_
  refine qcons (qk_putR fd_X8_9 tyX8_ok nmX8 (Or.inr ⟨rfl, rfl, rfl⟩) kd_8_0 (tyX8_ok 0 (by decide)) (Or.inr ⟨_, rfl⟩) dX8_init_6) ?_
  refine qcons (qk_aload_n dX8_init_9 rfl) ?_
  refine qcons (qk_iload_n dX8_init_10 rfl) ?_
  refine qcons (qk_putI (ty := .int) fd_X8_15 tyX8_ok nmX8 (Or.inr ⟨rfl, rfl, rfl⟩) kd_8_1 (tyX8_ok 1 (by decide)) dX8_init_11) ?_
  refine qcons (qk_aload_n dX8_init_14 rfl) ?_
  refine qcons (qk_aload_n dX8_init_15 rfl) ?_
  refine qcons (qk_putD fd_X8_19 tyX8_ok nmX8 (Or.inl rfl) kd_8_13 (tyX8_ok 13 (by decide)) (Or.inl ⟨_, rfl⟩) dX8_init_16) ?_
  refine qcons (qk_aload_n dX8_init_19 rfl) ?_
  refine qcons (qk_aload_n dX8_init_20 rfl) ?_
  refine qcons (qk_getI fd_X8_23 kd_3_4 dX8_init_21) ?_
  refine qcons (qk_putI (ty := .int) fd_X8_28 tyX8_ok nmX8 (Or.inl rfl) kd_8_12 (tyX8_ok 12 (by decide)) dX8_init_24) ?_
  refine qcons (qk_aload_n dX8_init_27 rfl) ?_
  refine qcons (qk_iconst dX8_init_28 (by decide)) ?_
  refine qcons (qk_newa (atype := .int) (ty := .int) rfl (Or.inl ⟨rfl, rfl⟩) tw_188 dX8_init_29) ?_
  refine qcons (qk_putR fd_X8_29 tyX8_ok nmX8 (Or.inr ⟨rfl, rfl, rfl⟩) kd_8_2 (tyX8_ok 2 (by decide)) (Or.inr ⟨_, rfl⟩) dX8_init_31) ?_
  refine qcons (qk_aload_n dX8_init_34 rfl) ?_
  refine qcons (qk_bipush dX8_init_35 (by decide) (by decide)) ?_
  refine qcons (qk_newa (atype := .int) (ty := .int) rfl (Or.inl ⟨rfl, rfl⟩) tw_188 dX8_init_37) ?_
  refine qcons (qk_putR fd_X8_33 tyX8_ok nmX8 (Or.inr ⟨rfl, rfl, rfl⟩) kd_8_3 (tyX8_ok 3 (by decide)) (Or.inr ⟨_, rfl⟩) dX8_init_39) ?_
  refine qcons (qk_aload_n dX8_init_42 rfl) ?_
  refine qcons (qk_bipush dX8_init_43 (by decide) (by decide)) ?_
  refine qcons (qk_newa (atype := .int) (ty := .int) rfl (Or.inl ⟨rfl, rfl⟩) tw_188 dX8_init_45) ?_
  refine qcons (qk_putR fd_X8_36 tyX8_ok nmX8 (Or.inr ⟨rfl, rfl, rfl⟩) kd_8_4 (tyX8_ok 4 (by decide)) (Or.inr ⟨_, rfl⟩) dX8_init_47) ?_
  refine qcons (qk_aload_n dX8_init_50 rfl) ?_
  refine qcons (qk_bipush dX8_init_51 (by decide) (by decide)) ?_
  refine qcons (qk_newa (atype := .int) (ty := .int) rfl (Or.inl ⟨rfl, rfl⟩) tw_188 dX8_init_53) ?_
  refine qcons (qk_putR fd_X8_39 tyX8_ok nmX8 (Or.inr ⟨rfl, rfl, rfl⟩) kd_8_5 (tyX8_ok 5 (by decide)) (Or.inr ⟨_, rfl⟩) dX8_init_55) ?_
  refine qcons (qk_aload_n dX8_init_58 rfl) ?_
  refine qcons (qk_bipush dX8_init_59 (by decide) (by decide)) ?_
  refine qcons (qk_newa (atype := .int) (ty := .int) rfl (Or.inl ⟨rfl, rfl⟩) tw_188 dX8_init_61) ?_
  refine qcons (qk_putR fd_X8_42 tyX8_ok nmX8 (Or.inr ⟨rfl, rfl, rfl⟩) kd_8_6 (tyX8_ok 6 (by decide)) (Or.inr ⟨_, rfl⟩) dX8_init_63) ?_
  refine qcons (qk_aload_n dX8_init_66 rfl) ?_
  refine qcons (qk_bipush dX8_init_67 (by decide) (by decide)) ?_
  refine qcons (qk_newa (atype := .int) (ty := .int) rfl (Or.inl ⟨rfl, rfl⟩) tw_188 dX8_init_69) ?_
  refine qcons (qk_putR fd_X8_45 tyX8_ok nmX8 (Or.inr ⟨rfl, rfl, rfl⟩) kd_8_7 (tyX8_ok 7 (by decide)) (Or.inr ⟨_, rfl⟩) dX8_init_71) ?_
  refine qcons (qk_aload_n dX8_init_74 rfl) ?_
  refine qcons (qk_bipush dX8_init_75 (by decide) (by decide)) ?_
  refine qcons (qk_newa (atype := .int) (ty := .int) rfl (Or.inl ⟨rfl, rfl⟩) tw_188 dX8_init_77) ?_
  refine qcons (qk_putR fd_X8_48 tyX8_ok nmX8 (Or.inr ⟨rfl, rfl, rfl⟩) kd_8_8 (tyX8_ok 8 (by decide)) (Or.inr ⟨_, rfl⟩) dX8_init_79) ?_
  refine qcons (qk_aload_n dX8_init_82 rfl) ?_
  refine qcons (qk_bipush dX8_init_83 (by decide) (by decide)) ?_
  refine qcons (qk_newa (atype := .boolean) (ty := .boolean) rfl (Or.inr (Or.inr (Or.inl ⟨rfl, rfl⟩))) tw_267 dX8_init_85) ?_
  refine qcons (qk_putR fd_X8_51 tyX8_ok nmX8 (Or.inr ⟨rfl, rfl, rfl⟩) kd_8_9 (tyX8_ok 9 (by decide)) (Or.inr ⟨_, rfl⟩) dX8_init_87) ?_
  refine qcons (qk_ret dX8_init_90 (Or.inl ⟨rfl, rfl⟩)) ?_
  exact qnil
theorem M_X8_init {X : qX} {l : Launch} : qMet X l 1 yX8_init cX8_init 4 none S_X8_init := qmet_of K_X8_init (by decide) rfl rfl
theorem dX8_becomes_0 : decode cX8_becomes 0 = .ok (.aload_n 1, 1) := by decide +kernel
theorem dX8_becomes_1 : decode cX8_becomes 1 = .ok (.getfield 29, 3) := by decide +kernel
theorem dX8_becomes_4 : decode cX8_becomes 4 = .ok (.iconst 0, 1) := by decide +kernel
theorem dX8_becomes_5 : decode cX8_becomes 5 = .ok (.aload_n 0, 1) := by decide +kernel
theorem dX8_becomes_6 : decode cX8_becomes 6 = .ok (.getfield 29, 3) := by decide +kernel
theorem dX8_becomes_9 : decode cX8_becomes 9 = .ok (.iconst 0, 1) := by decide +kernel
theorem dX8_becomes_10 : decode cX8_becomes 10 = .ok (.iconst 5, 1) := by decide +kernel
theorem dX8_becomes_11 : decode cX8_becomes 11 = .ok (.invokestatic 55, 3) := by decide +kernel
theorem dX8_becomes_14 : decode cX8_becomes 14 = .ok (.aload_n 1, 1) := by decide +kernel
theorem dX8_becomes_15 : decode cX8_becomes 15 = .ok (.getfield 33, 3) := by decide +kernel
theorem dX8_becomes_18 : decode cX8_becomes 18 = .ok (.iconst 0, 1) := by decide +kernel
theorem dX8_becomes_19 : decode cX8_becomes 19 = .ok (.aload_n 0, 1) := by decide +kernel
theorem dX8_becomes_20 : decode cX8_becomes 20 = .ok (.getfield 33, 3) := by decide +kernel
theorem dX8_becomes_23 : decode cX8_becomes 23 = .ok (.iconst 0, 1) := by decide +kernel
theorem dX8_becomes_24 : decode cX8_becomes 24 = .ok (.bipush 6, 2) := by decide +kernel
theorem dX8_becomes_26 : decode cX8_becomes 26 = .ok (.invokestatic 55, 3) := by decide +kernel
theorem dX8_becomes_29 : decode cX8_becomes 29 = .ok (.aload_n 1, 1) := by decide +kernel
theorem dX8_becomes_30 : decode cX8_becomes 30 = .ok (.getfield 36, 3) := by decide +kernel
theorem dX8_becomes_33 : decode cX8_becomes 33 = .ok (.iconst 0, 1) := by decide +kernel
theorem dX8_becomes_34 : decode cX8_becomes 34 = .ok (.aload_n 0, 1) := by decide +kernel
theorem dX8_becomes_35 : decode cX8_becomes 35 = .ok (.getfield 36, 3) := by decide +kernel
theorem dX8_becomes_38 : decode cX8_becomes 38 = .ok (.iconst 0, 1) := by decide +kernel
theorem dX8_becomes_39 : decode cX8_becomes 39 = .ok (.bipush 6, 2) := by decide +kernel
theorem dX8_becomes_41 : decode cX8_becomes 41 = .ok (.invokestatic 55, 3) := by decide +kernel
theorem dX8_becomes_44 : decode cX8_becomes 44 = .ok (.aload_n 1, 1) := by decide +kernel
theorem dX8_becomes_45 : decode cX8_becomes 45 = .ok (.getfield 39, 3) := by decide +kernel
theorem dX8_becomes_48 : decode cX8_becomes 48 = .ok (.iconst 0, 1) := by decide +kernel
theorem dX8_becomes_49 : decode cX8_becomes 49 = .ok (.aload_n 0, 1) := by decide +kernel
theorem dX8_becomes_50 : decode cX8_becomes 50 = .ok (.getfield 39, 3) := by decide +kernel
theorem dX8_becomes_53 : decode cX8_becomes 53 = .ok (.iconst 0, 1) := by decide +kernel
theorem dX8_becomes_54 : decode cX8_becomes 54 = .ok (.bipush 6, 2) := by decide +kernel
theorem dX8_becomes_56 : decode cX8_becomes 56 = .ok (.invokestatic 55, 3) := by decide +kernel
theorem dX8_becomes_59 : decode cX8_becomes 59 = .ok (.aload_n 1, 1) := by decide +kernel
theorem dX8_becomes_60 : decode cX8_becomes 60 = .ok (.getfield 42, 3) := by decide +kernel
theorem dX8_becomes_63 : decode cX8_becomes 63 = .ok (.iconst 0, 1) := by decide +kernel
theorem dX8_becomes_64 : decode cX8_becomes 64 = .ok (.aload_n 0, 1) := by decide +kernel
theorem dX8_becomes_65 : decode cX8_becomes 65 = .ok (.getfield 42, 3) := by decide +kernel
theorem dX8_becomes_68 : decode cX8_becomes 68 = .ok (.iconst 0, 1) := by decide +kernel
theorem dX8_becomes_69 : decode cX8_becomes 69 = .ok (.bipush 6, 2) := by decide +kernel
theorem dX8_becomes_71 : decode cX8_becomes 71 = .ok (.invokestatic 55, 3) := by decide +kernel
theorem dX8_becomes_74 : decode cX8_becomes 74 = .ok (.aload_n 1, 1) := by decide +kernel
theorem dX8_becomes_75 : decode cX8_becomes 75 = .ok (.getfield 45, 3) := by decide +kernel
theorem dX8_becomes_78 : decode cX8_becomes 78 = .ok (.iconst 0, 1) := by decide +kernel
theorem dX8_becomes_79 : decode cX8_becomes 79 = .ok (.aload_n 0, 1) := by decide +kernel
theorem dX8_becomes_80 : decode cX8_becomes 80 = .ok (.getfield 45, 3) := by decide +kernel
theorem dX8_becomes_83 : decode cX8_becomes 83 = .ok (.iconst 0, 1) := by decide +kernel
theorem dX8_becomes_84 : decode cX8_becomes 84 = .ok (.bipush 6, 2) := by decide +kernel
theorem dX8_becomes_86 : decode cX8_becomes 86 = .ok (.invokestatic 55, 3) := by decide +kernel
theorem dX8_becomes_89 : decode cX8_becomes 89 = .ok (.aload_n 1, 1) := by decide +kernel
theorem dX8_becomes_90 : decode cX8_becomes 90 = .ok (.getfield 48, 3) := by decide +kernel
theorem dX8_becomes_93 : decode cX8_becomes 93 = .ok (.iconst 0, 1) := by decide +kernel
theorem dX8_becomes_94 : decode cX8_becomes 94 = .ok (.aload_n 0, 1) := by decide +kernel
theorem dX8_becomes_95 : decode cX8_becomes 95 = .ok (.getfield 48, 3) := by decide +kernel
theorem dX8_becomes_98 : decode cX8_becomes 98 = .ok (.iconst 0, 1) := by decide +kernel
theorem dX8_becomes_99 : decode cX8_becomes 99 = .ok (.bipush 24, 2) := by decide +kernel
theorem dX8_becomes_101 : decode cX8_becomes 101 = .ok (.invokestatic 55, 3) := by decide +kernel
theorem dX8_becomes_104 : decode cX8_becomes 104 = .ok (.aload_n 1, 1) := by decide +kernel
theorem dX8_becomes_105 : decode cX8_becomes 105 = .ok (.getfield 51, 3) := by decide +kernel
theorem dX8_becomes_108 : decode cX8_becomes 108 = .ok (.iconst 0, 1) := by decide +kernel
theorem dX8_becomes_109 : decode cX8_becomes 109 = .ok (.aload_n 0, 1) := by decide +kernel
theorem dX8_becomes_110 : decode cX8_becomes 110 = .ok (.getfield 51, 3) := by decide +kernel
theorem dX8_becomes_113 : decode cX8_becomes 113 = .ok (.iconst 0, 1) := by decide +kernel
theorem dX8_becomes_114 : decode cX8_becomes 114 = .ok (.bipush 6, 2) := by decide +kernel
theorem dX8_becomes_116 : decode cX8_becomes 116 = .ok (.invokestatic 55, 3) := by decide +kernel
theorem dX8_becomes_119 : decode cX8_becomes 119 = .ok (.aload_n 0, 1) := by decide +kernel
theorem dX8_becomes_120 : decode cX8_becomes 120 = .ok (.aload_n 1, 1) := by decide +kernel
theorem dX8_becomes_121 : decode cX8_becomes 121 = .ok (.getfield 61, 3) := by decide +kernel
theorem dX8_becomes_124 : decode cX8_becomes 124 = .ok (.putfield 61, 3) := by decide +kernel
theorem dX8_becomes_127 : decode cX8_becomes 127 = .ok (.aload_n 0, 1) := by decide +kernel
theorem dX8_becomes_128 : decode cX8_becomes 128 = .ok (.aload_n 1, 1) := by decide +kernel
theorem dX8_becomes_129 : decode cX8_becomes 129 = .ok (.getfield 64, 3) := by decide +kernel
theorem dX8_becomes_132 : decode cX8_becomes 132 = .ok (.putfield 64, 3) := by decide +kernel
theorem dX8_becomes_135 : decode cX8_becomes 135 = .ok (.aload_n 0, 1) := by decide +kernel
theorem dX8_becomes_136 : decode cX8_becomes 136 = .ok (.aload_n 1, 1) := by decide +kernel
theorem dX8_becomes_137 : decode cX8_becomes 137 = .ok (.getfield 28, 3) := by decide +kernel
theorem dX8_becomes_140 : decode cX8_becomes 140 = .ok (.putfield 28, 3) := by decide +kernel
theorem dX8_becomes_143 : decode cX8_becomes 143 = .ok (.aload_n 0, 1) := by decide +kernel
theorem dX8_becomes_144 : decode cX8_becomes 144 = .ok (.aload_n 1, 1) := by decide +kernel
theorem dX8_becomes_145 : decode cX8_becomes 145 = .ok (.getfield 19, 3) := by decide +kernel
theorem dX8_becomes_148 : decode cX8_becomes 148 = .ok (.putfield 19, 3) := by decide +kernel
theorem dX8_becomes_151 : decode cX8_becomes 151 = .ok (.return_, 1) := by decide +kernel
noncomputable def C_X8_becomes : List (Nat × qOp) := [(0, qo_aload 1 1),
  (1, qo_getR 8 2),
  (4, qo_ci 0 1),
  (5, qo_aload 0 1),
  (6, qo_getR 8 2),
  (9, qo_ci 0 1),
  (10, qo_ci 5 1),
  (11, qo_copy 100),
  (14, qo_aload 1 1),
  (15, qo_getR 8 3),
  (18, qo_ci 0 1),
  (19, qo_aload 0 1),
  (20, qo_getR 8 3),
  (23, qo_ci 0 1),
  (24, qo_ci 6 2),
  (26, qo_copy 100),
  (29, qo_aload 1 1),
  (30, qo_getR 8 4),
  (33, qo_ci 0 1),
  (34, qo_aload 0 1),
  (35, qo_getR 8 4),
  (38, qo_ci 0 1),
  (39, qo_ci 6 2),
  (41, qo_copy 100),
  (44, qo_aload 1 1),
  (45, qo_getR 8 5),
  (48, qo_ci 0 1),
  (49, qo_aload 0 1),
  (50, qo_getR 8 5),
  (53, qo_ci 0 1),
  (54, qo_ci 6 2),
  (56, qo_copy 100),
  (59, qo_aload 1 1),
  (60, qo_getR 8 6),
  (63, qo_ci 0 1),
  (64, qo_aload 0 1),
  (65, qo_getR 8 6),
  (68, qo_ci 0 1),
  (69, qo_ci 6 2),
  (71, qo_copy 100),
  (74, qo_aload 1 1),
  (75, qo_getR 8 7),
  (78, qo_ci 0 1),
  (79, qo_aload 0 1),
  (80, qo_getR 8 7),
  (83, qo_ci 0 1),
  (84, qo_ci 6 2),
  (86, qo_copy 100),
  (89, qo_aload 1 1),
  (90, qo_getR 8 8),
  (93, qo_ci 0 1),
  (94, qo_aload 0 1),
  (95, qo_getR 8 8),
  (98, qo_ci 0 1),
  (99, qo_ci 24 2),
  (101, qo_copy 100),
  (104, qo_aload 1 1),
  (105, qo_getR 8 9),
  (108, qo_ci 0 1),
  (109, qo_aload 0 1),
  (110, qo_getR 8 9),
  (113, qo_ci 0 1),
  (114, qo_ci 6 2),
  (116, qo_copy 102),
  (119, qo_aload 0 1),
  (120, qo_aload 1 1),
  (121, qo_getI 8 10),
  (124, qo_putI 8 10),
  (127, qo_aload 0 1),
  (128, qo_aload 1 1),
  (129, qo_getI 8 11),
  (132, qo_putI 8 11),
  (135, qo_aload 0 1),
  (136, qo_aload 1 1),
  (137, qo_getI 8 12),
  (140, qo_putI 8 12),
  (143, qo_aload 0 1),
  (144, qo_aload 1 1),
  (145, qo_getD 8 13),
  (148, qo_putD 8 13),
  (151, qo_ret none 0)]
noncomputable def S_X8_becomes : qSem := qM 2 C_X8_becomes
set_option maxRecDepth 20000 in
theorem K_X8_becomes {X : qX} {l : Launch} : ∀ q ∈ C_X8_becomes, qOk X l 1 cX8_becomes 2 RX8 "becomes" none q.1 q.2 := by
  unfold C_X8_becomes
  refine qcons (qk_aload_n dX8_becomes_0 rfl) ?_
  refine qcons (qk_getR fd_X8_29 kd_8_2 dX8_becomes_1) ?_
  refine qcons (qk_iconst dX8_becomes_4 (by decide)) ?_
  refine qcons (qk_aload_n dX8_becomes_5 rfl) ?_
  refine qcons (qk_getR fd_X8_29 kd_8_2 dX8_becomes_6) ?_
  refine qcons (qk_iconst dX8_becomes_9 (by decide)) ?_
  refine qcons (qk_iconst dX8_becomes_10 (by decide)) ?_
  refine qcons (qk_copy (by decide) (by decide) tw_605 tw_474 tw_473 tw_92 dX8_becomes_11) ?_
  refine qcons (qk_aload_n dX8_becomes_14 rfl) ?_
  refine qcons (qk_getR fd_X8_33 kd_8_3 dX8_becomes_15) ?_
  refine qcons (qk_iconst dX8_becomes_18 (by decide)) ?_
  refine qcons (qk_aload_n dX8_becomes_19 rfl) ?_
  refine qcons (qk_getR fd_X8_33 kd_8_3 dX8_becomes_20) ?_
  refine qcons (qk_iconst dX8_becomes_23 (by decide)) ?_
  refine qcons (qk_bipush dX8_becomes_24 (by decide) (by decide)) ?_
  refine qcons (qk_copy (by decide) (by decide) tw_605 tw_474 tw_473 tw_92 dX8_becomes_26) ?_
  refine qcons (qk_aload_n dX8_becomes_29 rfl) ?_
  refine qcons (qk_getR fd_X8_36 kd_8_4 dX8_becomes_30) ?_
  refine qcons (qk_iconst dX8_becomes_33 (by decide)) ?_
  refine qcons (qk_aload_n dX8_becomes_34 rfl) ?_
  refine qcons (qk_getR fd_X8_36 kd_8_4 dX8_becomes_35) ?_
  refine qcons (qk_iconst dX8_becomes_38 (by decide)) ?_
  refine qcons (qk_bipush dX8_becomes_39 (by decide) (by decide)) ?_
  refine qcons (qk_copy (by decide) (by decide) tw_605 tw_474 tw_473 tw_92 dX8_becomes_41) ?_
  refine qcons (qk_aload_n dX8_becomes_44 rfl) ?_
  refine qcons (qk_getR fd_X8_39 kd_8_5 dX8_becomes_45) ?_
  refine qcons (qk_iconst dX8_becomes_48 (by decide)) ?_
  refine qcons (qk_aload_n dX8_becomes_49 rfl) ?_
  refine qcons (qk_getR fd_X8_39 kd_8_5 dX8_becomes_50) ?_
  refine qcons (qk_iconst dX8_becomes_53 (by decide)) ?_
  refine qcons (qk_bipush dX8_becomes_54 (by decide) (by decide)) ?_
  refine qcons (qk_copy (by decide) (by decide) tw_605 tw_474 tw_473 tw_92 dX8_becomes_56) ?_
  refine qcons (qk_aload_n dX8_becomes_59 rfl) ?_
  refine qcons (qk_getR fd_X8_42 kd_8_6 dX8_becomes_60) ?_
  refine qcons (qk_iconst dX8_becomes_63 (by decide)) ?_
  refine qcons (qk_aload_n dX8_becomes_64 rfl) ?_
  refine qcons (qk_getR fd_X8_42 kd_8_6 dX8_becomes_65) ?_
  refine qcons (qk_iconst dX8_becomes_68 (by decide)) ?_
  refine qcons (qk_bipush dX8_becomes_69 (by decide) (by decide)) ?_
  refine qcons (qk_copy (by decide) (by decide) tw_605 tw_474 tw_473 tw_92 dX8_becomes_71) ?_
  refine qcons (qk_aload_n dX8_becomes_74 rfl) ?_
  refine qcons (qk_getR fd_X8_45 kd_8_7 dX8_becomes_75) ?_
  refine qcons (qk_iconst dX8_becomes_78 (by decide)) ?_
  refine qcons (qk_aload_n dX8_becomes_79 rfl) ?_
  refine qcons (qk_getR fd_X8_45 kd_8_7 dX8_becomes_80) ?_
  refine qcons (qk_iconst dX8_becomes_83 (by decide)) ?_
  refine qcons (qk_bipush dX8_becomes_84 (by decide) (by decide)) ?_
  refine qcons (qk_copy (by decide) (by decide) tw_605 tw_474 tw_473 tw_92 dX8_becomes_86) ?_
  refine qcons (qk_aload_n dX8_becomes_89 rfl) ?_
  refine qcons (qk_getR fd_X8_48 kd_8_8 dX8_becomes_90) ?_
  refine qcons (qk_iconst dX8_becomes_93 (by decide)) ?_
  refine qcons (qk_aload_n dX8_becomes_94 rfl) ?_
  refine qcons (qk_getR fd_X8_48 kd_8_8 dX8_becomes_95) ?_
  refine qcons (qk_iconst dX8_becomes_98 (by decide)) ?_
  refine qcons (qk_bipush dX8_becomes_99 (by decide) (by decide)) ?_
  refine qcons (qk_copy (by decide) (by decide) tw_605 tw_474 tw_473 tw_92 dX8_becomes_101) ?_
  refine qcons (qk_aload_n dX8_becomes_104 rfl) ?_
  refine qcons (qk_getR fd_X8_51 kd_8_9 dX8_becomes_105) ?_
  refine qcons (qk_iconst dX8_becomes_108 (by decide)) ?_
  refine qcons (qk_aload_n dX8_becomes_109 rfl) ?_
  refine qcons (qk_getR fd_X8_51 kd_8_9 dX8_becomes_110) ?_
  refine qcons (qk_iconst dX8_becomes_113 (by decide)) ?_
  refine qcons (qk_bipush dX8_becomes_114 (by decide) (by decide)) ?_
  refine qcons (qk_copy (by decide) (by decide) tw_605 tw_474 tw_473 tw_92 dX8_becomes_116) ?_
  refine qcons (qk_aload_n dX8_becomes_119 rfl) ?_
  refine qcons (qk_aload_n dX8_becomes_120 rfl) ?_
  refine qcons (qk_getI fd_X8_61 kd_8_10 dX8_becomes_121) ?_
  refine qcons (qk_putI (ty := .int) fd_X8_61 tyX8_ok nmX8 (Or.inl rfl) kd_8_10 (tyX8_ok 10 (by decide)) dX8_becomes_124) ?_
  refine qcons (qk_aload_n dX8_becomes_127 rfl) ?_
  refine qcons (qk_aload_n dX8_becomes_128 rfl) ?_
  refine qcons (qk_getI fd_X8_64 kd_8_11 dX8_becomes_129) ?_
  refine qcons (qk_putI (ty := .int) fd_X8_64 tyX8_ok nmX8 (Or.inl rfl) kd_8_11 (tyX8_ok 11 (by decide)) dX8_becomes_132) ?_
  refine qcons (qk_aload_n dX8_becomes_135 rfl) ?_
  refine qcons (qk_aload_n dX8_becomes_136 rfl) ?_
  refine qcons (qk_getI fd_X8_28 kd_8_12 dX8_becomes_137) ?_
  refine qcons (qk_putI (ty := .int) fd_X8_28 tyX8_ok nmX8 (Or.inl rfl) kd_8_12 (tyX8_ok 12 (by decide)) dX8_becomes_140) ?_
  refine qcons (qk_aload_n dX8_becomes_143 rfl) ?_
  refine qcons (qk_aload_n dX8_becomes_144 rfl) ?_
  refine qcons (qk_getD fd_X8_19 kd_8_13 dX8_becomes_145) ?_
  refine qcons (qk_putD fd_X8_19 tyX8_ok nmX8 (Or.inl rfl) kd_8_13 (tyX8_ok 13 (by decide)) (Or.inl ⟨_, rfl⟩) dX8_becomes_148) ?_
  refine qcons (qk_ret dX8_becomes_151 (Or.inl ⟨rfl, rfl⟩)) ?_
  exact qnil
theorem M_X8_becomes {X : qX} {l : Launch} : qMet X l 1 yX8_becomes cX8_becomes 2 none S_X8_becomes := qmet_of K_X8_becomes (by decide) rfl rfl
theorem dX8_comes_0 : decode cX8_comes 0 = .ok (.aload_n 0, 1) := by decide +kernel
theorem dX8_comes_1 : decode cX8_comes 1 = .ok (.getfield 61, 3) := by decide +kernel
theorem dX8_comes_4 : decode cX8_comes 4 = .ok (.istore 4, 2) := by decide +kernel
theorem dX8_comes_6 : decode cX8_comes 6 = .ok (.aload_n 0, 1) := by decide +kernel
theorem dX8_comes_7 : decode cX8_comes 7 = .ok (.getfield 33, 3) := by decide +kernel
theorem dX8_comes_10 : decode cX8_comes 10 = .ok (.iload 4, 2) := by decide +kernel
theorem dX8_comes_12 : decode cX8_comes 12 = .ok (.iload_n 1, 1) := by decide +kernel
theorem dX8_comes_13 : decode cX8_comes 13 = .ok (.iastore, 1) := by decide +kernel
theorem dX8_comes_14 : decode cX8_comes 14 = .ok (.aload_n 0, 1) := by decide +kernel
theorem dX8_comes_15 : decode cX8_comes 15 = .ok (.getfield 36, 3) := by decide +kernel
theorem dX8_comes_18 : decode cX8_comes 18 = .ok (.iload 4, 2) := by decide +kernel
theorem dX8_comes_20 : decode cX8_comes 20 = .ok (.iload_n 2, 1) := by decide +kernel
theorem dX8_comes_21 : decode cX8_comes 21 = .ok (.iastore, 1) := by decide +kernel
theorem dX8_comes_22 : decode cX8_comes 22 = .ok (.aload_n 0, 1) := by decide +kernel
theorem dX8_comes_23 : decode cX8_comes 23 = .ok (.getfield 39, 3) := by decide +kernel
theorem dX8_comes_26 : decode cX8_comes 26 = .ok (.iload 4, 2) := by decide +kernel
theorem dX8_comes_28 : decode cX8_comes 28 = .ok (.iload_n 3, 1) := by decide +kernel
theorem dX8_comes_29 : decode cX8_comes 29 = .ok (.iastore, 1) := by decide +kernel
theorem dX8_comes_30 : decode cX8_comes 30 = .ok (.aload_n 0, 1) := by decide +kernel
theorem dX8_comes_31 : decode cX8_comes 31 = .ok (.dup, 1) := by decide +kernel
theorem dX8_comes_32 : decode cX8_comes 32 = .ok (.getfield 61, 3) := by decide +kernel
theorem dX8_comes_35 : decode cX8_comes 35 = .ok (.iconst 1, 1) := by decide +kernel
theorem dX8_comes_36 : decode cX8_comes 36 = .ok (.iadd, 1) := by decide +kernel
theorem dX8_comes_37 : decode cX8_comes 37 = .ok (.putfield 61, 3) := by decide +kernel
theorem dX8_comes_40 : decode cX8_comes 40 = .ok (.iload 4, 2) := by decide +kernel
theorem dX8_comes_42 : decode cX8_comes 42 = .ok (.ireturn, 1) := by decide +kernel
noncomputable def C_X8_comes : List (Nat × qOp) := [(0, qo_aload 0 1),
  (1, qo_getI 8 10),
  (4, qo_istore 4 2),
  (6, qo_aload 0 1),
  (7, qo_getR 8 3),
  (10, qo_iload 4 2),
  (12, qo_iload 1 1),
  (13, qo_iastore),
  (14, qo_aload 0 1),
  (15, qo_getR 8 4),
  (18, qo_iload 4 2),
  (20, qo_iload 2 1),
  (21, qo_iastore),
  (22, qo_aload 0 1),
  (23, qo_getR 8 5),
  (26, qo_iload 4 2),
  (28, qo_iload 3 1),
  (29, qo_iastore),
  (30, qo_aload 0 1),
  (31, qo_dup),
  (32, qo_getI 8 10),
  (35, qo_ci 1 1),
  (36, qo_iadd),
  (37, qo_putI 8 10),
  (40, qo_iload 4 2),
  (42, qo_ret (some .int) 1)]
noncomputable def S_X8_comes : qSem := qM 5 C_X8_comes
set_option maxRecDepth 20000 in
theorem K_X8_comes {X : qX} {l : Launch} : ∀ q ∈ C_X8_comes, qOk X l 1 cX8_comes 5 RX8 "comes" (some .int) q.1 q.2 := by
  unfold C_X8_comes
  refine qcons (qk_aload_n dX8_comes_0 rfl) ?_
  refine qcons (qk_getI fd_X8_61 kd_8_10 dX8_comes_1) ?_
  refine qcons (qk_istore dX8_comes_4) ?_
  refine qcons (qk_aload_n dX8_comes_6 rfl) ?_
  refine qcons (qk_getR fd_X8_33 kd_8_3 dX8_comes_7) ?_
  refine qcons (qk_iload dX8_comes_10) ?_
  refine qcons (qk_iload_n dX8_comes_12 rfl) ?_
  refine qcons (qk_iastore dX8_comes_13) ?_
  refine qcons (qk_aload_n dX8_comes_14 rfl) ?_
  refine qcons (qk_getR fd_X8_36 kd_8_4 dX8_comes_15) ?_
  refine qcons (qk_iload dX8_comes_18) ?_
  refine qcons (qk_iload_n dX8_comes_20 rfl) ?_
  refine qcons (qk_iastore dX8_comes_21) ?_
  refine qcons (qk_aload_n dX8_comes_22 rfl) ?_
  refine qcons (qk_getR fd_X8_39 kd_8_5 dX8_comes_23) ?_
  refine qcons (qk_iload dX8_comes_26) ?_
  refine qcons (qk_iload_n dX8_comes_28 rfl) ?_
  refine qcons (qk_iastore dX8_comes_29) ?_
  refine qcons (qk_aload_n dX8_comes_30 rfl) ?_
  refine qcons (qk_dup dX8_comes_31) ?_
  refine qcons (qk_getI fd_X8_61 kd_8_10 dX8_comes_32) ?_
  refine qcons (qk_iconst dX8_comes_35 (by decide)) ?_
  refine qcons (qk_iadd dX8_comes_36) ?_
  refine qcons (qk_putI (ty := .int) fd_X8_61 tyX8_ok nmX8 (Or.inl rfl) kd_8_10 (tyX8_ok 10 (by decide)) dX8_comes_37) ?_
  refine qcons (qk_iload dX8_comes_40) ?_
  refine qcons (qk_ret dX8_comes_42 (Or.inr (Or.inl ⟨rfl, rfl⟩))) ?_
  exact qnil
theorem M_X8_comes {X : qX} {l : Launch} : qMet X l 1 yX8_comes cX8_comes 5 (some .int) S_X8_comes := qmet_of K_X8_comes (by decide) rfl rfl
theorem dX8_holds_0 : decode cX8_holds 0 = .ok (.aload_n 0, 1) := by decide +kernel
theorem dX8_holds_1 : decode cX8_holds 1 = .ok (.aload_n 1, 1) := by decide +kernel
theorem dX8_holds_2 : decode cX8_holds 2 = .ok (.putfield 19, 3) := by decide +kernel
theorem dX8_holds_5 : decode cX8_holds 5 = .ok (.aload_n 0, 1) := by decide +kernel
theorem dX8_holds_6 : decode cX8_holds 6 = .ok (.aload_n 1, 1) := by decide +kernel
theorem dX8_holds_7 : decode cX8_holds 7 = .ok (.getfield 23, 3) := by decide +kernel
theorem dX8_holds_10 : decode cX8_holds 10 = .ok (.putfield 28, 3) := by decide +kernel
theorem dX8_holds_13 : decode cX8_holds 13 = .ok (.return_, 1) := by decide +kernel
noncomputable def C_X8_holds : List (Nat × qOp) := [(0, qo_aload 0 1),
  (1, qo_aload 1 1),
  (2, qo_putD 8 13),
  (5, qo_aload 0 1),
  (6, qo_aload 1 1),
  (7, qo_getI 3 4),
  (10, qo_putI 8 12),
  (13, qo_ret none 0)]
noncomputable def S_X8_holds : qSem := qM 2 C_X8_holds
set_option maxRecDepth 20000 in
theorem K_X8_holds {X : qX} {l : Launch} : ∀ q ∈ C_X8_holds, qOk X l 1 cX8_holds 2 RX8 "holds" none q.1 q.2 := by
  unfold C_X8_holds
  refine qcons (qk_aload_n dX8_holds_0 rfl) ?_
  refine qcons (qk_aload_n dX8_holds_1 rfl) ?_
  refine qcons (qk_putD fd_X8_19 tyX8_ok nmX8 (Or.inl rfl) kd_8_13 (tyX8_ok 13 (by decide)) (Or.inl ⟨_, rfl⟩) dX8_holds_2) ?_
  refine qcons (qk_aload_n dX8_holds_5 rfl) ?_
  refine qcons (qk_aload_n dX8_holds_6 rfl) ?_
  refine qcons (qk_getI fd_X8_23 kd_3_4 dX8_holds_7) ?_
  refine qcons (qk_putI (ty := .int) fd_X8_28 tyX8_ok nmX8 (Or.inl rfl) kd_8_12 (tyX8_ok 12 (by decide)) dX8_holds_10) ?_
  refine qcons (qk_ret dX8_holds_13 (Or.inl ⟨rfl, rfl⟩)) ?_
  exact qnil
theorem M_X8_holds {X : qX} {l : Launch} : qMet X l 1 yX8_holds cX8_holds 2 none S_X8_holds := qmet_of K_X8_holds (by decide) rfl rfl
theorem dX8_paceOf_0 : decode cX8_paceOf 0 = .ok (.iconst 0, 1) := by decide +kernel
theorem dX8_paceOf_1 : decode cX8_paceOf 1 = .ok (.aload_n 0, 1) := by decide +kernel
theorem dX8_paceOf_2 : decode cX8_paceOf 2 = .ok (.getfield 9, 3) := by decide +kernel
theorem dX8_paceOf_5 : decode cX8_paceOf 5 = .ok (.aload_n 0, 1) := by decide +kernel
theorem dX8_paceOf_6 : decode cX8_paceOf 6 = .ok (.getfield 33, 3) := by decide +kernel
theorem dX8_paceOf_9 : decode cX8_paceOf 9 = .ok (.iload_n 1, 1) := by decide +kernel
theorem dX8_paceOf_10 : decode cX8_paceOf 10 = .ok (.iaload, 1) := by decide +kernel
theorem dX8_paceOf_11 : decode cX8_paceOf 11 = .ok (.aaload, 1) := by decide +kernel
theorem dX8_paceOf_12 : decode cX8_paceOf 12 = .ok (.aload_n 0, 1) := by decide +kernel
theorem dX8_paceOf_13 : decode cX8_paceOf 13 = .ok (.iload_n 1, 1) := by decide +kernel
theorem dX8_paceOf_14 : decode cX8_paceOf 14 = .ok (.aload_n 0, 1) := by decide +kernel
theorem dX8_paceOf_15 : decode cX8_paceOf 15 = .ok (.getfield 19, 3) := by decide +kernel
theorem dX8_paceOf_18 : decode cX8_paceOf 18 = .ok (.aload_n 0, 1) := by decide +kernel
theorem dX8_paceOf_19 : decode cX8_paceOf 19 = .ok (.iload_n 1, 1) := by decide +kernel
theorem dX8_paceOf_20 : decode cX8_paceOf 20 = .ok (.invokevirtual 84, 3) := by decide +kernel
theorem dX8_paceOf_23 : decode cX8_paceOf 23 = .ok (.invokevirtual 88, 3) := by decide +kernel
theorem dX8_paceOf_26 : decode cX8_paceOf 26 = .ok (.invokestatic 94, 3) := by decide +kernel
theorem dX8_paceOf_29 : decode cX8_paceOf 29 = .ok (.ireturn, 1) := by decide +kernel
noncomputable def C_X8_paceOf : List (Nat × qOp) := [(0, qo_ci 0 1),
  (1, qo_aload 0 1),
  (2, qo_getR 8 0),
  (5, qo_aload 0 1),
  (6, qo_getR 8 3),
  (9, qo_iload 1 1),
  (10, qo_iaload),
  (11, qo_aaload),
  (12, qo_aload 0 1),
  (13, qo_iload 1 1),
  (14, qo_aload 0 1),
  (15, qo_getD 8 13),
  (18, qo_aload 0 1),
  (19, qo_iload 1 1),
  (20, qo_callv [(3, S_X3_zealOf)] 2),
  (23, qo_callv [(4, S_X4_pace), (5, S_X5_pace), (2, S_X2_pace), (9, S_X9_pace), (7, S_X7_pace), (1, S_X1_pace), (10, S_X10_pace)] 3),
  (26, qo_mmax),
  (29, qo_ret (some .int) 1)]
noncomputable def S_X8_paceOf : qSem := qM 2 C_X8_paceOf
set_option maxRecDepth 20000 in
theorem K_X8_paceOf {X : qX} {l : Launch} : ∀ q ∈ C_X8_paceOf, qOk X l 3 cX8_paceOf 2 RX8 "paceOf" (some .int) q.1 q.2 := by
  unfold C_X8_paceOf
  refine qcons (qk_iconst dX8_paceOf_0 (by decide)) ?_
  refine qcons (qk_aload_n dX8_paceOf_1 rfl) ?_
  refine qcons (qk_getR fd_X8_9 kd_8_0 dX8_paceOf_2) ?_
  refine qcons (qk_aload_n dX8_paceOf_5 rfl) ?_
  refine qcons (qk_getR fd_X8_33 kd_8_3 dX8_paceOf_6) ?_
  refine qcons (qk_iload_n dX8_paceOf_9 rfl) ?_
  refine qcons (qk_iaload dX8_paceOf_10) ?_
  refine qcons (qk_aaload dX8_paceOf_11) ?_
  refine qcons (qk_aload_n dX8_paceOf_12 rfl) ?_
  refine qcons (qk_iload_n dX8_paceOf_13 rfl) ?_
  refine qcons (qk_aload_n dX8_paceOf_14 rfl) ?_
  refine qcons (qk_getD fd_X8_19 kd_8_13 dX8_paceOf_15) ?_
  refine qcons (qk_aload_n dX8_paceOf_18 rfl) ?_
  refine qcons (qk_iload_n dX8_paceOf_19 rfl) ?_
  refine qcons (qk_callv (ins := fun i => .invokevirtual i) (qconsV (qrunV M_X3_zealOf (by decide) (by decide) (by decide) rfl tw_407 tw_396 tw_397 tw_398 tw_86 ⟨by decide, by decide⟩ (by decide +kernel)) qnilV) dX8_paceOf_20) ?_
  refine qcons (qk_callv (ins := fun i => .invokevirtual i) (qconsV (qrunU (C := RX4) (owner := RX4) (x := yX4_pace) (y := yX4_pace) M_X4_pace (by decide) (by decide) (by decide) rfl tw_408 tw_409 tw_410 tw_436 tw_79 tw_411 tw_409 tw_436 ⟨by decide, by decide⟩ (by decide +kernel)) (qconsV (qrunU (C := RX5) (owner := RX4) (x := yX4_pace) (y := yX5_pace) M_X5_pace (by decide) (by decide) (by decide) rfl tw_408 tw_423 tw_422 tw_424 tw_80 tw_411 tw_409 tw_436 ⟨by decide, by decide⟩ (by decide +kernel)) (qconsV (qrunU (C := RX2) (owner := RX4) (x := yX4_pace) (y := yX2_pace) M_X2_pace (by decide) (by decide) (by decide) rfl tw_408 tw_416 tw_421 tw_417 tw_81 tw_411 tw_409 tw_436 ⟨by decide, by decide⟩ (by decide +kernel)) (qconsV (qrunU (C := RX9) (owner := RX4) (x := yX4_pace) (y := yX9_pace) M_X9_pace (by decide) (by decide) (by decide) rfl tw_408 tw_430 tw_429 tw_431 tw_82 tw_411 tw_409 tw_436 ⟨by decide, by decide⟩ (by decide +kernel)) (qconsV (qrunU (C := RX7) (owner := RX4) (x := yX4_pace) (y := yX7_pace) M_X7_pace (by decide) (by decide) (by decide) rfl tw_408 tw_426 tw_425 tw_427 tw_83 tw_411 tw_409 tw_436 ⟨by decide, by decide⟩ (by decide +kernel)) (qconsV (qrunU (C := RX1) (owner := RX4) (x := yX4_pace) (y := yX1_pace) M_X1_pace (by decide) (by decide) (by decide) rfl tw_408 tw_413 tw_412 tw_414 tw_84 tw_411 tw_409 tw_436 ⟨by decide, by decide⟩ (by decide +kernel)) (qconsV (qrunU (C := RX10) (owner := RX4) (x := yX4_pace) (y := yX10_pace) M_X10_pace (by decide) (by decide) (by decide) rfl tw_408 tw_433 tw_432 tw_434 tw_85 tw_411 tw_409 tw_436 ⟨by decide, by decide⟩ (by decide +kernel)) qnilV))))))) dX8_paceOf_23) ?_
  refine qcons (qk_mmax (by decide) tw_437 tw_438 tw_91 tw_439 dX8_paceOf_26) ?_
  refine qcons (qk_ret dX8_paceOf_29 (Or.inr (Or.inl ⟨rfl, rfl⟩))) ?_
  exact qnil
theorem M_X8_paceOf {X : qX} {l : Launch} : qMet X l 3 yX8_paceOf cX8_paceOf 2 (some .int) S_X8_paceOf := qmet_of K_X8_paceOf (by decide) rfl rfl
theorem dX8_works_0 : decode cX8_works 0 = .ok (.aload_n 0, 1) := by decide +kernel
theorem dX8_works_1 : decode cX8_works 1 = .ok (.getfield 39, 3) := by decide +kernel
theorem dX8_works_4 : decode cX8_works 4 = .ok (.iload_n 1, 1) := by decide +kernel
theorem dX8_works_5 : decode cX8_works 5 = .ok (.iaload, 1) := by decide +kernel
theorem dX8_works_6 : decode cX8_works 6 = .ok (.istore_n 2, 1) := by decide +kernel
theorem dX8_works_7 : decode cX8_works 7 = .ok (.iload_n 2, 1) := by decide +kernel
theorem dX8_works_8 : decode cX8_works 8 = .ok (.iconst 1, 1) := by decide +kernel
theorem dX8_works_9 : decode cX8_works 9 = .ok (.iadd, 1) := by decide +kernel
theorem dX8_works_10 : decode cX8_works 10 = .ok (.istore_n 3, 1) := by decide +kernel
theorem dX8_works_11 : decode cX8_works 11 = .ok (.iload_n 3, 1) := by decide +kernel
theorem dX8_works_12 : decode cX8_works 12 = .ok (.iconst 4, 1) := by decide +kernel
theorem dX8_works_13 : decode cX8_works 13 = .ok (.if_icmp .ne 9, 3) := by decide +kernel
theorem dX8_works_16 : decode cX8_works 16 = .ok (.sipush 9999, 3) := by decide +kernel
theorem dX8_works_19 : decode cX8_works 19 = .ok (.goto 7, 3) := by decide +kernel
theorem dX8_works_22 : decode cX8_works 22 = .ok (.aload_n 0, 1) := by decide +kernel
theorem dX8_works_23 : decode cX8_works 23 = .ok (.getfield 28, 3) := by decide +kernel
theorem dX8_works_26 : decode cX8_works 26 = .ok (.aload_n 0, 1) := by decide +kernel
theorem dX8_works_27 : decode cX8_works 27 = .ok (.getfield 29, 3) := by decide +kernel
theorem dX8_works_30 : decode cX8_works 30 = .ok (.iload_n 3, 1) := by decide +kernel
theorem dX8_works_31 : decode cX8_works 31 = .ok (.iaload, 1) := by decide +kernel
theorem dX8_works_32 : decode cX8_works 32 = .ok (.isub, 1) := by decide +kernel
theorem dX8_works_33 : decode cX8_works 33 = .ok (.istore 4, 2) := by decide +kernel
theorem dX8_works_35 : decode cX8_works 35 = .ok (.aload_n 0, 1) := by decide +kernel
theorem dX8_works_36 : decode cX8_works 36 = .ok (.getfield 29, 3) := by decide +kernel
theorem dX8_works_39 : decode cX8_works 39 = .ok (.iload_n 2, 1) := by decide +kernel
theorem dX8_works_40 : decode cX8_works 40 = .ok (.iaload, 1) := by decide +kernel
theorem dX8_works_41 : decode cX8_works 41 = .ok (.iload 4, 2) := by decide +kernel
theorem dX8_works_43 : decode cX8_works 43 = .ok (.invokestatic 74, 3) := by decide +kernel
theorem dX8_works_46 : decode cX8_works 46 = .ok (.istore 5, 2) := by decide +kernel
theorem dX8_works_48 : decode cX8_works 48 = .ok (.iload 5, 2) := by decide +kernel
theorem dX8_works_50 : decode cX8_works 50 = .ok (.ifCond .le 15, 3) := by decide +kernel
theorem dX8_works_53 : decode cX8_works 53 = .ok (.iload 5, 2) := by decide +kernel
theorem dX8_works_55 : decode cX8_works 55 = .ok (.aload_n 0, 1) := by decide +kernel
theorem dX8_works_56 : decode cX8_works 56 = .ok (.iload_n 1, 1) := by decide +kernel
theorem dX8_works_57 : decode cX8_works 57 = .ok (.invokevirtual 80, 3) := by decide +kernel
theorem dX8_works_60 : decode cX8_works 60 = .ok (.invokestatic 74, 3) := by decide +kernel
theorem dX8_works_63 : decode cX8_works 63 = .ok (.istore 5, 2) := by decide +kernel
theorem dX8_works_65 : decode cX8_works 65 = .ok (.iload 5, 2) := by decide +kernel
theorem dX8_works_67 : decode cX8_works 67 = .ok (.ifCond .gt 14, 3) := by decide +kernel
theorem dX8_works_70 : decode cX8_works 70 = .ok (.aload_n 0, 1) := by decide +kernel
theorem dX8_works_71 : decode cX8_works 71 = .ok (.getfield 45, 3) := by decide +kernel
theorem dX8_works_74 : decode cX8_works 74 = .ok (.iload_n 1, 1) := by decide +kernel
theorem dX8_works_75 : decode cX8_works 75 = .ok (.dup2, 1) := by decide +kernel
theorem dX8_works_76 : decode cX8_works 76 = .ok (.iaload, 1) := by decide +kernel
theorem dX8_works_77 : decode cX8_works 77 = .ok (.iconst 1, 1) := by decide +kernel
theorem dX8_works_78 : decode cX8_works 78 = .ok (.iadd, 1) := by decide +kernel
theorem dX8_works_79 : decode cX8_works 79 = .ok (.iastore, 1) := by decide +kernel
theorem dX8_works_80 : decode cX8_works 80 = .ok (.return_, 1) := by decide +kernel
theorem dX8_works_81 : decode cX8_works 81 = .ok (.aload_n 0, 1) := by decide +kernel
theorem dX8_works_82 : decode cX8_works 82 = .ok (.getfield 29, 3) := by decide +kernel
theorem dX8_works_85 : decode cX8_works 85 = .ok (.iload_n 2, 1) := by decide +kernel
theorem dX8_works_86 : decode cX8_works 86 = .ok (.dup2, 1) := by decide +kernel
theorem dX8_works_87 : decode cX8_works 87 = .ok (.iaload, 1) := by decide +kernel
theorem dX8_works_88 : decode cX8_works 88 = .ok (.iload 5, 2) := by decide +kernel
theorem dX8_works_90 : decode cX8_works 90 = .ok (.isub, 1) := by decide +kernel
theorem dX8_works_91 : decode cX8_works 91 = .ok (.iastore, 1) := by decide +kernel
theorem dX8_works_92 : decode cX8_works 92 = .ok (.aload_n 0, 1) := by decide +kernel
theorem dX8_works_93 : decode cX8_works 93 = .ok (.getfield 29, 3) := by decide +kernel
theorem dX8_works_96 : decode cX8_works 96 = .ok (.iload_n 3, 1) := by decide +kernel
theorem dX8_works_97 : decode cX8_works 97 = .ok (.dup2, 1) := by decide +kernel
theorem dX8_works_98 : decode cX8_works 98 = .ok (.iaload, 1) := by decide +kernel
theorem dX8_works_99 : decode cX8_works 99 = .ok (.iload 5, 2) := by decide +kernel
theorem dX8_works_101 : decode cX8_works 101 = .ok (.iadd, 1) := by decide +kernel
theorem dX8_works_102 : decode cX8_works 102 = .ok (.iastore, 1) := by decide +kernel
theorem dX8_works_103 : decode cX8_works 103 = .ok (.aload_n 0, 1) := by decide +kernel
theorem dX8_works_104 : decode cX8_works 104 = .ok (.getfield 42, 3) := by decide +kernel
theorem dX8_works_107 : decode cX8_works 107 = .ok (.iload_n 1, 1) := by decide +kernel
theorem dX8_works_108 : decode cX8_works 108 = .ok (.aload_n 0, 1) := by decide +kernel
theorem dX8_works_109 : decode cX8_works 109 = .ok (.getfield 42, 3) := by decide +kernel
theorem dX8_works_112 : decode cX8_works 112 = .ok (.iload_n 1, 1) := by decide +kernel
theorem dX8_works_113 : decode cX8_works 113 = .ok (.iaload, 1) := by decide +kernel
theorem dX8_works_114 : decode cX8_works 114 = .ok (.iload 5, 2) := by decide +kernel
theorem dX8_works_116 : decode cX8_works 116 = .ok (.iadd, 1) := by decide +kernel
theorem dX8_works_117 : decode cX8_works 117 = .ok (.aload_n 0, 1) := by decide +kernel
theorem dX8_works_118 : decode cX8_works 118 = .ok (.getfield 15, 3) := by decide +kernel
theorem dX8_works_121 : decode cX8_works 121 = .ok (.invokestatic 74, 3) := by decide +kernel
theorem dX8_works_124 : decode cX8_works 124 = .ok (.iastore, 1) := by decide +kernel
theorem dX8_works_125 : decode cX8_works 125 = .ok (.return_, 1) := by decide +kernel
noncomputable def C_X8_works : List (Nat × qOp) := [(0, qo_aload 0 1),
  (1, qo_getR 8 5),
  (4, qo_iload 1 1),
  (5, qo_iaload),
  (6, qo_istore 2 1),
  (7, qo_iload 2 1),
  (8, qo_ci 1 1),
  (9, qo_iadd),
  (10, qo_istore 3 1),
  (11, qo_iload 3 1),
  (12, qo_ci 4 1),
  (13, qo_icne 22),
  (16, qo_ci 9999 3),
  (19, qo_goto 26),
  (22, qo_aload 0 1),
  (23, qo_getI 8 12),
  (26, qo_aload 0 1),
  (27, qo_getR 8 2),
  (30, qo_iload 3 1),
  (31, qo_iaload),
  (32, qo_isub),
  (33, qo_istore 4 2),
  (35, qo_aload 0 1),
  (36, qo_getR 8 2),
  (39, qo_iload 2 1),
  (40, qo_iaload),
  (41, qo_iload 4 2),
  (43, qo_mmin),
  (46, qo_istore 5 2),
  (48, qo_iload 5 2),
  (50, qo_ifle 65),
  (53, qo_iload 5 2),
  (55, qo_aload 0 1),
  (56, qo_iload 1 1),
  (57, qo_callv [(8, S_X8_paceOf)] 1),
  (60, qo_mmin),
  (63, qo_istore 5 2),
  (65, qo_iload 5 2),
  (67, qo_ifgt 81),
  (70, qo_aload 0 1),
  (71, qo_getR 8 7),
  (74, qo_iload 1 1),
  (75, qo_dup2),
  (76, qo_iaload),
  (77, qo_ci 1 1),
  (78, qo_iadd),
  (79, qo_iastore),
  (80, qo_ret none 0),
  (81, qo_aload 0 1),
  (82, qo_getR 8 2),
  (85, qo_iload 2 1),
  (86, qo_dup2),
  (87, qo_iaload),
  (88, qo_iload 5 2),
  (90, qo_isub),
  (91, qo_iastore),
  (92, qo_aload 0 1),
  (93, qo_getR 8 2),
  (96, qo_iload 3 1),
  (97, qo_dup2),
  (98, qo_iaload),
  (99, qo_iload 5 2),
  (101, qo_iadd),
  (102, qo_iastore),
  (103, qo_aload 0 1),
  (104, qo_getR 8 6),
  (107, qo_iload 1 1),
  (108, qo_aload 0 1),
  (109, qo_getR 8 6),
  (112, qo_iload 1 1),
  (113, qo_iaload),
  (114, qo_iload 5 2),
  (116, qo_iadd),
  (117, qo_aload 0 1),
  (118, qo_getI 8 1),
  (121, qo_mmin),
  (124, qo_iastore),
  (125, qo_ret none 0)]
noncomputable def S_X8_works : qSem := qM 6 C_X8_works
set_option maxRecDepth 20000 in
theorem K_X8_works {X : qX} {l : Launch} : ∀ q ∈ C_X8_works, qOk X l 4 cX8_works 6 RX8 "works" none q.1 q.2 := by
  unfold C_X8_works
  refine qcons (qk_aload_n dX8_works_0 rfl) ?_
  refine qcons (qk_getR fd_X8_39 kd_8_5 dX8_works_1) ?_
  refine qcons (qk_iload_n dX8_works_4 rfl) ?_
  refine qcons (qk_iaload dX8_works_5) ?_
  refine qcons (qk_istore_n dX8_works_6 rfl) ?_
  refine qcons (qk_iload_n dX8_works_7 rfl) ?_
  refine qcons (qk_iconst dX8_works_8 (by decide)) ?_
  refine qcons (qk_iadd dX8_works_9) ?_
  refine qcons (qk_istore_n dX8_works_10 rfl) ?_
  refine qcons (qk_iload_n dX8_works_11 rfl) ?_
  refine qcons (qk_iconst dX8_works_12 (by decide)) ?_
  refine qcons (qk_icne dX8_works_13 (by decide)) ?_
  refine qcons (qk_sipush dX8_works_16 (by decide) (by decide)) ?_
  refine qcons (qk_goto dX8_works_19 (by decide)) ?_
  refine qcons (qk_aload_n dX8_works_22 rfl) ?_
  refine qcons (qk_getI fd_X8_28 kd_8_12 dX8_works_23) ?_
  refine qcons (qk_aload_n dX8_works_26 rfl) ?_
  refine qcons (qk_getR fd_X8_29 kd_8_2 dX8_works_27) ?_
  refine qcons (qk_iload_n dX8_works_30 rfl) ?_
  refine qcons (qk_iaload dX8_works_31) ?_
  refine qcons (qk_isub dX8_works_32) ?_
  refine qcons (qk_istore dX8_works_33) ?_
  refine qcons (qk_aload_n dX8_works_35 rfl) ?_
  refine qcons (qk_getR fd_X8_29 kd_8_2 dX8_works_36) ?_
  refine qcons (qk_iload_n dX8_works_39 rfl) ?_
  refine qcons (qk_iaload dX8_works_40) ?_
  refine qcons (qk_iload dX8_works_41) ?_
  refine qcons (qk_mmin (by decide) tw_595 tw_419 tw_91 tw_420 dX8_works_43) ?_
  refine qcons (qk_istore dX8_works_46) ?_
  refine qcons (qk_iload dX8_works_48) ?_
  refine qcons (qk_ifle dX8_works_50 (by decide)) ?_
  refine qcons (qk_iload dX8_works_53) ?_
  refine qcons (qk_aload_n dX8_works_55 rfl) ?_
  refine qcons (qk_iload_n dX8_works_56 rfl) ?_
  refine qcons (qk_callv (ins := fun i => .invokevirtual i) (qconsV (qrunV M_X8_paceOf (by decide) (by decide) (by decide) rfl tw_596 tw_404 tw_405 tw_406 tw_87 ⟨by decide, by decide⟩ (by decide +kernel)) qnilV) dX8_works_57) ?_
  refine qcons (qk_mmin (by decide) tw_595 tw_419 tw_91 tw_420 dX8_works_60) ?_
  refine qcons (qk_istore dX8_works_63) ?_
  refine qcons (qk_iload dX8_works_65) ?_
  refine qcons (qk_ifgt dX8_works_67 (by decide)) ?_
  refine qcons (qk_aload_n dX8_works_70 rfl) ?_
  refine qcons (qk_getR fd_X8_45 kd_8_7 dX8_works_71) ?_
  refine qcons (qk_iload_n dX8_works_74 rfl) ?_
  refine qcons (qk_dup2 dX8_works_75) ?_
  refine qcons (qk_iaload dX8_works_76) ?_
  refine qcons (qk_iconst dX8_works_77 (by decide)) ?_
  refine qcons (qk_iadd dX8_works_78) ?_
  refine qcons (qk_iastore dX8_works_79) ?_
  refine qcons (qk_ret dX8_works_80 (Or.inl ⟨rfl, rfl⟩)) ?_
  refine qcons (qk_aload_n dX8_works_81 rfl) ?_
  refine qcons (qk_getR fd_X8_29 kd_8_2 dX8_works_82) ?_
  refine qcons (qk_iload_n dX8_works_85 rfl) ?_
  refine qcons (qk_dup2 dX8_works_86) ?_
  refine qcons (qk_iaload dX8_works_87) ?_
  refine qcons (qk_iload dX8_works_88) ?_
  refine qcons (qk_isub dX8_works_90) ?_
  refine qcons (qk_iastore dX8_works_91) ?_
  refine qcons (qk_aload_n dX8_works_92 rfl) ?_
  refine qcons (qk_getR fd_X8_29 kd_8_2 dX8_works_93) ?_
  refine qcons (qk_iload_n dX8_works_96 rfl) ?_
  refine qcons (qk_dup2 dX8_works_97) ?_
  refine qcons (qk_iaload dX8_works_98) ?_
  refine qcons (qk_iload dX8_works_99) ?_
  refine qcons (qk_iadd dX8_works_101) ?_
  refine qcons (qk_iastore dX8_works_102) ?_
  refine qcons (qk_aload_n dX8_works_103 rfl) ?_
  refine qcons (qk_getR fd_X8_42 kd_8_6 dX8_works_104) ?_
  refine qcons (qk_iload_n dX8_works_107 rfl) ?_
  refine qcons (qk_aload_n dX8_works_108 rfl) ?_
  refine qcons (qk_getR fd_X8_42 kd_8_6 dX8_works_109) ?_
  refine qcons (qk_iload_n dX8_works_112 rfl) ?_
  refine qcons (qk_iaload dX8_works_113) ?_
  refine qcons (qk_iload dX8_works_114) ?_
  refine qcons (qk_iadd dX8_works_116) ?_
  refine qcons (qk_aload_n dX8_works_117 rfl) ?_
  refine qcons (qk_getI fd_X8_15 kd_8_1 dX8_works_118) ?_
  refine qcons (qk_mmin (by decide) tw_595 tw_419 tw_91 tw_420 dX8_works_121) ?_
  refine qcons (qk_iastore dX8_works_124) ?_
  refine qcons (qk_ret dX8_works_125 (Or.inl ⟨rfl, rfl⟩)) ?_
  exact qnil
theorem M_X8_works {X : qX} {l : Launch} : qMet X l 4 yX8_works cX8_works 6 none S_X8_works := qmet_of K_X8_works (by decide) rfl rfl
theorem dX8_minutesGo_0 : decode cX8_minutesGo 0 = .ok (.iconst 0, 1) := by decide +kernel
theorem dX8_minutesGo_1 : decode cX8_minutesGo 1 = .ok (.istore_n 2, 1) := by decide +kernel
theorem dX8_minutesGo_2 : decode cX8_minutesGo 2 = .ok (.iload_n 2, 1) := by decide +kernel
theorem dX8_minutesGo_3 : decode cX8_minutesGo 3 = .ok (.iload_n 1, 1) := by decide +kernel
theorem dX8_minutesGo_4 : decode cX8_minutesGo 4 = .ok (.if_icmp .ge 75, 3) := by decide +kernel
theorem dX8_minutesGo_7 : decode cX8_minutesGo 7 = .ok (.iconst 0, 1) := by decide +kernel
theorem dX8_minutesGo_8 : decode cX8_minutesGo 8 = .ok (.istore_n 3, 1) := by decide +kernel
theorem dX8_minutesGo_9 : decode cX8_minutesGo 9 = .ok (.iload_n 3, 1) := by decide +kernel
theorem dX8_minutesGo_10 : decode cX8_minutesGo 10 = .ok (.aload_n 0, 1) := by decide +kernel
theorem dX8_minutesGo_11 : decode cX8_minutesGo 11 = .ok (.getfield 61, 3) := by decide +kernel
theorem dX8_minutesGo_14 : decode cX8_minutesGo 14 = .ok (.if_icmp .ge 23, 3) := by decide +kernel
theorem dX8_minutesGo_17 : decode cX8_minutesGo 17 = .ok (.aload_n 0, 1) := by decide +kernel
theorem dX8_minutesGo_18 : decode cX8_minutesGo 18 = .ok (.getfield 51, 3) := by decide +kernel
theorem dX8_minutesGo_21 : decode cX8_minutesGo 21 = .ok (.iload_n 3, 1) := by decide +kernel
theorem dX8_minutesGo_22 : decode cX8_minutesGo 22 = .ok (.baload, 1) := by decide +kernel
theorem dX8_minutesGo_23 : decode cX8_minutesGo 23 = .ok (.ifCond .ne 8, 3) := by decide +kernel
theorem dX8_minutesGo_26 : decode cX8_minutesGo 26 = .ok (.aload_n 0, 1) := by decide +kernel
theorem dX8_minutesGo_27 : decode cX8_minutesGo 27 = .ok (.iload_n 3, 1) := by decide +kernel
theorem dX8_minutesGo_28 : decode cX8_minutesGo 28 = .ok (.invokevirtual 67, 3) := by decide +kernel
theorem dX8_minutesGo_31 : decode cX8_minutesGo 31 = .ok (.iinc 3 1, 3) := by decide +kernel
theorem dX8_minutesGo_34 : decode cX8_minutesGo 34 = .ok (.goto (-25), 3) := by decide +kernel
theorem dX8_minutesGo_37 : decode cX8_minutesGo 37 = .ok (.aload_n 0, 1) := by decide +kernel
theorem dX8_minutesGo_38 : decode cX8_minutesGo 38 = .ok (.getfield 29, 3) := by decide +kernel
theorem dX8_minutesGo_41 : decode cX8_minutesGo 41 = .ok (.iconst 0, 1) := by decide +kernel
theorem dX8_minutesGo_42 : decode cX8_minutesGo 42 = .ok (.aload_n 0, 1) := by decide +kernel
theorem dX8_minutesGo_43 : decode cX8_minutesGo 43 = .ok (.getfield 29, 3) := by decide +kernel
theorem dX8_minutesGo_46 : decode cX8_minutesGo 46 = .ok (.iconst 0, 1) := by decide +kernel
theorem dX8_minutesGo_47 : decode cX8_minutesGo 47 = .ok (.iaload, 1) := by decide +kernel
theorem dX8_minutesGo_48 : decode cX8_minutesGo 48 = .ok (.aload_n 0, 1) := by decide +kernel
theorem dX8_minutesGo_49 : decode cX8_minutesGo 49 = .ok (.getfield 19, 3) := by decide +kernel
theorem dX8_minutesGo_52 : decode cX8_minutesGo 52 = .ok (.getfield 71, 3) := by decide +kernel
theorem dX8_minutesGo_55 : decode cX8_minutesGo 55 = .ok (.iadd, 1) := by decide +kernel
theorem dX8_minutesGo_56 : decode cX8_minutesGo 56 = .ok (.sipush 9999, 3) := by decide +kernel
theorem dX8_minutesGo_59 : decode cX8_minutesGo 59 = .ok (.invokestatic 74, 3) := by decide +kernel
theorem dX8_minutesGo_62 : decode cX8_minutesGo 62 = .ok (.iastore, 1) := by decide +kernel
theorem dX8_minutesGo_63 : decode cX8_minutesGo 63 = .ok (.aload_n 0, 1) := by decide +kernel
theorem dX8_minutesGo_64 : decode cX8_minutesGo 64 = .ok (.dup, 1) := by decide +kernel
theorem dX8_minutesGo_65 : decode cX8_minutesGo 65 = .ok (.getfield 64, 3) := by decide +kernel
theorem dX8_minutesGo_68 : decode cX8_minutesGo 68 = .ok (.iconst 1, 1) := by decide +kernel
theorem dX8_minutesGo_69 : decode cX8_minutesGo 69 = .ok (.iadd, 1) := by decide +kernel
theorem dX8_minutesGo_70 : decode cX8_minutesGo 70 = .ok (.putfield 64, 3) := by decide +kernel
theorem dX8_minutesGo_73 : decode cX8_minutesGo 73 = .ok (.iinc 2 1, 3) := by decide +kernel
theorem dX8_minutesGo_76 : decode cX8_minutesGo 76 = .ok (.goto (-74), 3) := by decide +kernel
theorem dX8_minutesGo_79 : decode cX8_minutesGo 79 = .ok (.aload_n 0, 1) := by decide +kernel
theorem dX8_minutesGo_80 : decode cX8_minutesGo 80 = .ok (.getfield 29, 3) := by decide +kernel
theorem dX8_minutesGo_83 : decode cX8_minutesGo 83 = .ok (.iconst 4, 1) := by decide +kernel
theorem dX8_minutesGo_84 : decode cX8_minutesGo 84 = .ok (.iaload, 1) := by decide +kernel
theorem dX8_minutesGo_85 : decode cX8_minutesGo 85 = .ok (.ireturn, 1) := by decide +kernel
noncomputable def C_X8_minutesGo : List (Nat × qOp) := [(0, qo_ci 0 1),
  (1, qo_istore 2 1),
  (2, qo_iload 2 1),
  (3, qo_iload 1 1),
  (4, qo_icge 79),
  (7, qo_ci 0 1),
  (8, qo_istore 3 1),
  (9, qo_iload 3 1),
  (10, qo_aload 0 1),
  (11, qo_getI 8 10),
  (14, qo_icge 37),
  (17, qo_aload 0 1),
  (18, qo_getR 8 9),
  (21, qo_iload 3 1),
  (22, qo_zaload),
  (23, qo_ifne 31),
  (26, qo_aload 0 1),
  (27, qo_iload 3 1),
  (28, qo_callv [(8, S_X8_works)] 1),
  (31, qo_iinc 3 1),
  (34, qo_goto 9),
  (37, qo_aload 0 1),
  (38, qo_getR 8 2),
  (41, qo_ci 0 1),
  (42, qo_aload 0 1),
  (43, qo_getR 8 2),
  (46, qo_ci 0 1),
  (47, qo_iaload),
  (48, qo_aload 0 1),
  (49, qo_getD 8 13),
  (52, qo_getI 3 5),
  (55, qo_iadd),
  (56, qo_ci 9999 3),
  (59, qo_mmin),
  (62, qo_iastore),
  (63, qo_aload 0 1),
  (64, qo_dup),
  (65, qo_getI 8 11),
  (68, qo_ci 1 1),
  (69, qo_iadd),
  (70, qo_putI 8 11),
  (73, qo_iinc 2 1),
  (76, qo_goto 2),
  (79, qo_aload 0 1),
  (80, qo_getR 8 2),
  (83, qo_ci 4 1),
  (84, qo_iaload),
  (85, qo_ret (some .int) 1)]
noncomputable def S_X8_minutesGo : qSem := qM 4 C_X8_minutesGo
set_option maxRecDepth 20000 in
theorem K_X8_minutesGo {X : qX} {l : Launch} : ∀ q ∈ C_X8_minutesGo, qOk X l 5 cX8_minutesGo 4 RX8 "minutesGo" (some .int) q.1 q.2 := by
  unfold C_X8_minutesGo
  refine qcons (qk_iconst dX8_minutesGo_0 (by decide)) ?_
  refine qcons (qk_istore_n dX8_minutesGo_1 rfl) ?_
  refine qcons (qk_iload_n dX8_minutesGo_2 rfl) ?_
  refine qcons (qk_iload_n dX8_minutesGo_3 rfl) ?_
  refine qcons (qk_icge dX8_minutesGo_4 (by decide)) ?_
  refine qcons (qk_iconst dX8_minutesGo_7 (by decide)) ?_
  refine qcons (qk_istore_n dX8_minutesGo_8 rfl) ?_
  refine qcons (qk_iload_n dX8_minutesGo_9 rfl) ?_
  refine qcons (qk_aload_n dX8_minutesGo_10 rfl) ?_
  refine qcons (qk_getI fd_X8_61 kd_8_10 dX8_minutesGo_11) ?_
  refine qcons (qk_icge dX8_minutesGo_14 (by decide)) ?_
  refine qcons (qk_aload_n dX8_minutesGo_17 rfl) ?_
  refine qcons (qk_getR fd_X8_51 kd_8_9 dX8_minutesGo_18) ?_
  refine qcons (qk_iload_n dX8_minutesGo_21 rfl) ?_
  refine qcons (qk_zaload dX8_minutesGo_22) ?_
  refine qcons (qk_ifne dX8_minutesGo_23 (by decide)) ?_
  refine qcons (qk_aload_n dX8_minutesGo_26 rfl) ?_
  refine qcons (qk_iload_n dX8_minutesGo_27 rfl) ?_
  refine qcons (qk_callv (ins := fun i => .invokevirtual i) (qconsV (qrunV M_X8_works (by decide) (by decide) (by decide) rfl tw_591 tw_593 tw_10 tw_594 tw_87 ⟨by decide, by decide⟩ (by decide +kernel)) qnilV) dX8_minutesGo_28) ?_
  refine qcons (qk_iinc dX8_minutesGo_31) ?_
  refine qcons (qk_goto dX8_minutesGo_34 (by decide)) ?_
  refine qcons (qk_aload_n dX8_minutesGo_37 rfl) ?_
  refine qcons (qk_getR fd_X8_29 kd_8_2 dX8_minutesGo_38) ?_
  refine qcons (qk_iconst dX8_minutesGo_41 (by decide)) ?_
  refine qcons (qk_aload_n dX8_minutesGo_42 rfl) ?_
  refine qcons (qk_getR fd_X8_29 kd_8_2 dX8_minutesGo_43) ?_
  refine qcons (qk_iconst dX8_minutesGo_46 (by decide)) ?_
  refine qcons (qk_iaload dX8_minutesGo_47) ?_
  refine qcons (qk_aload_n dX8_minutesGo_48 rfl) ?_
  refine qcons (qk_getD fd_X8_19 kd_8_13 dX8_minutesGo_49) ?_
  refine qcons (qk_getI fd_X8_71 kd_3_5 dX8_minutesGo_52) ?_
  refine qcons (qk_iadd dX8_minutesGo_55) ?_
  refine qcons (qk_sipush dX8_minutesGo_56 (by decide) (by decide)) ?_
  refine qcons (qk_mmin (by decide) tw_595 tw_419 tw_91 tw_420 dX8_minutesGo_59) ?_
  refine qcons (qk_iastore dX8_minutesGo_62) ?_
  refine qcons (qk_aload_n dX8_minutesGo_63 rfl) ?_
  refine qcons (qk_dup dX8_minutesGo_64) ?_
  refine qcons (qk_getI fd_X8_64 kd_8_11 dX8_minutesGo_65) ?_
  refine qcons (qk_iconst dX8_minutesGo_68 (by decide)) ?_
  refine qcons (qk_iadd dX8_minutesGo_69) ?_
  refine qcons (qk_putI (ty := .int) fd_X8_64 tyX8_ok nmX8 (Or.inl rfl) kd_8_11 (tyX8_ok 11 (by decide)) dX8_minutesGo_70) ?_
  refine qcons (qk_iinc dX8_minutesGo_73) ?_
  refine qcons (qk_goto dX8_minutesGo_76 (by decide)) ?_
  refine qcons (qk_aload_n dX8_minutesGo_79 rfl) ?_
  refine qcons (qk_getR fd_X8_29 kd_8_2 dX8_minutesGo_80) ?_
  refine qcons (qk_iconst dX8_minutesGo_83 (by decide)) ?_
  refine qcons (qk_iaload dX8_minutesGo_84) ?_
  refine qcons (qk_ret dX8_minutesGo_85 (Or.inr (Or.inl ⟨rfl, rfl⟩))) ?_
  exact qnil
theorem M_X8_minutesGo {X : qX} {l : Launch} : qMet X l 5 yX8_minutesGo cX8_minutesGo 4 (some .int) S_X8_minutesGo := qmet_of K_X8_minutesGo (by decide) rfl rfl
