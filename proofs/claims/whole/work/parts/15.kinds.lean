theorem dX0_init_0 : decode cX0_init 0 = .ok (.aload_n 0, 1) := by decide +kernel
theorem dX0_init_1 : decode cX0_init 1 = .ok (.invokespecial 1, 3) := by decide +kernel
theorem dX0_init_4 : decode cX0_init 4 = .ok (.aload_n 0, 1) := by decide +kernel
theorem dX0_init_5 : decode cX0_init 5 = .ok (.bipush 20, 2) := by decide +kernel
theorem dX0_init_7 : decode cX0_init 7 = .ok (.newarray .int, 2) := by decide +kernel
theorem dX0_init_9 : decode cX0_init 9 = .ok (.putfield 7, 3) := by decide +kernel
theorem dX0_init_12 : decode cX0_init 12 = .ok (.return_, 1) := by decide +kernel
noncomputable def C_X0_init : List (Nat × qOp) := [(0, qo_aload 0 1),
  (1, qo_oinit),
  (4, qo_aload 0 1),
  (5, qo_ci 20 2),
  (7, qo_newa 100),
  (9, qo_putR 0 0),
  (12, qo_ret none 0)]
noncomputable def S_X0_init : qSem := qM 1 C_X0_init
set_option maxRecDepth 20000 in
theorem K_X0_init {X : qX} {l : Launch} : ∀ q ∈ C_X0_init, qOk X l 1 cX0_init 1 RX0 "<init>" none q.1 q.2 := by
  unfold C_X0_init
  refine qcons (qk_aload_n dX0_init_0 rfl) ?_
  refine qcons (qk_oinit (by decide) tw_295 tw_103 tw_104 dX0_init_1) ?_
  refine qcons (qk_aload_n dX0_init_4 rfl) ?_
  refine qcons (qk_bipush dX0_init_5 (by decide) (by decide)) ?_
  refine qcons (qk_newa (atype := .int) (ty := .int) rfl (Or.inl ⟨rfl, rfl⟩) tw_188 dX0_init_7) ?_
  refine qcons (qk_putR fd_X0_7 tyX0_ok nmX0 (Or.inr ⟨rfl, rfl, rfl⟩) kd_0_0 (tyX0_ok 0 (by decide)) (Or.inr ⟨_, rfl⟩) dX0_init_9) ?_
  refine qcons (qk_ret dX0_init_12 (Or.inl ⟨rfl, rfl⟩)) ?_
  exact qnil
theorem M_X0_init {X : qX} {l : Launch} : qMet X l 1 yX0_init cX0_init 1 none S_X0_init := qmet_of K_X0_init (by decide) rfl rfl
theorem dX0_begins_0 : decode cX0_begins 0 = .ok (.aload_n 0, 1) := by decide +kernel
theorem dX0_begins_1 : decode cX0_begins 1 = .ok (.getfield 13, 3) := by decide +kernel
theorem dX0_begins_4 : decode cX0_begins 4 = .ok (.aload_n 0, 1) := by decide +kernel
theorem dX0_begins_5 : decode cX0_begins 5 = .ok (.getfield 7, 3) := by decide +kernel
theorem dX0_begins_8 : decode cX0_begins 8 = .ok (.arraylength, 1) := by decide +kernel
theorem dX0_begins_9 : decode cX0_begins 9 = .ok (.if_icmp .ge 13, 3) := by decide +kernel
theorem dX0_begins_12 : decode cX0_begins 12 = .ok (.aload_n 0, 1) := by decide +kernel
theorem dX0_begins_13 : decode cX0_begins 13 = .ok (.getfield 7, 3) := by decide +kernel
theorem dX0_begins_16 : decode cX0_begins 16 = .ok (.aload_n 0, 1) := by decide +kernel
theorem dX0_begins_17 : decode cX0_begins 17 = .ok (.getfield 13, 3) := by decide +kernel
theorem dX0_begins_20 : decode cX0_begins 20 = .ok (.iload_n 1, 1) := by decide +kernel
theorem dX0_begins_21 : decode cX0_begins 21 = .ok (.iastore, 1) := by decide +kernel
theorem dX0_begins_22 : decode cX0_begins 22 = .ok (.aload_n 0, 1) := by decide +kernel
theorem dX0_begins_23 : decode cX0_begins 23 = .ok (.dup, 1) := by decide +kernel
theorem dX0_begins_24 : decode cX0_begins 24 = .ok (.getfield 13, 3) := by decide +kernel
theorem dX0_begins_27 : decode cX0_begins 27 = .ok (.iconst 1, 1) := by decide +kernel
theorem dX0_begins_28 : decode cX0_begins 28 = .ok (.iadd, 1) := by decide +kernel
theorem dX0_begins_29 : decode cX0_begins 29 = .ok (.putfield 13, 3) := by decide +kernel
theorem dX0_begins_32 : decode cX0_begins 32 = .ok (.return_, 1) := by decide +kernel
noncomputable def C_X0_begins : List (Nat × qOp) := [(0, qo_aload 0 1),
  (1, qo_getI 0 3),
  (4, qo_aload 0 1),
  (5, qo_getR 0 0),
  (8, qo_alen),
  (9, qo_icge 22),
  (12, qo_aload 0 1),
  (13, qo_getR 0 0),
  (16, qo_aload 0 1),
  (17, qo_getI 0 3),
  (20, qo_iload 1 1),
  (21, qo_iastore),
  (22, qo_aload 0 1),
  (23, qo_dup),
  (24, qo_getI 0 3),
  (27, qo_ci 1 1),
  (28, qo_iadd),
  (29, qo_putI 0 3),
  (32, qo_ret none 0)]
noncomputable def S_X0_begins : qSem := qM 2 C_X0_begins
set_option maxRecDepth 20000 in
theorem K_X0_begins {X : qX} {l : Launch} : ∀ q ∈ C_X0_begins, qOk X l 1 cX0_begins 2 RX0 "begins" none q.1 q.2 := by
  unfold C_X0_begins
  refine qcons (qk_aload_n dX0_begins_0 rfl) ?_
  refine qcons (qk_getI fd_X0_13 kd_0_3 dX0_begins_1) ?_
  refine qcons (qk_aload_n dX0_begins_4 rfl) ?_
  refine qcons (qk_getR fd_X0_7 kd_0_0 dX0_begins_5) ?_
  refine qcons (qk_alen dX0_begins_8) ?_
  refine qcons (qk_icge dX0_begins_9 (by decide)) ?_
  refine qcons (qk_aload_n dX0_begins_12 rfl) ?_
  refine qcons (qk_getR fd_X0_7 kd_0_0 dX0_begins_13) ?_
  refine qcons (qk_aload_n dX0_begins_16 rfl) ?_
  refine qcons (qk_getI fd_X0_13 kd_0_3 dX0_begins_17) ?_
  refine qcons (qk_iload_n dX0_begins_20 rfl) ?_
  refine qcons (qk_iastore dX0_begins_21) ?_
  refine qcons (qk_aload_n dX0_begins_22 rfl) ?_
  refine qcons (qk_dup dX0_begins_23) ?_
  refine qcons (qk_getI fd_X0_13 kd_0_3 dX0_begins_24) ?_
  refine qcons (qk_iconst dX0_begins_27 (by decide)) ?_
  refine qcons (qk_iadd dX0_begins_28) ?_
  refine qcons (qk_putI (ty := .int) fd_X0_13 tyX0_ok nmX0 (Or.inl rfl) kd_0_3 (tyX0_ok 3 (by decide)) dX0_begins_29) ?_
  refine qcons (qk_ret dX0_begins_32 (Or.inl ⟨rfl, rfl⟩)) ?_
  exact qnil
theorem M_X0_begins {X : qX} {l : Launch} : qMet X l 1 yX0_begins cX0_begins 2 none S_X0_begins := qmet_of K_X0_begins (by decide) rfl rfl
theorem dX4_init_0 : decode cX4_init 0 = .ok (.aload_n 0, 1) := by decide +kernel
theorem dX4_init_1 : decode cX4_init 1 = .ok (.invokespecial 1, 3) := by decide +kernel
theorem dX4_init_4 : decode cX4_init 4 = .ok (.return_, 1) := by decide +kernel
noncomputable def C_X4_init : List (Nat × qOp) := [(0, qo_aload 0 1),
  (1, qo_oinit),
  (4, qo_ret none 0)]
noncomputable def S_X4_init : qSem := qM 1 C_X4_init
set_option maxRecDepth 20000 in
theorem K_X4_init {X : qX} {l : Launch} : ∀ q ∈ C_X4_init, qOk X l 1 cX4_init 1 RX4 "<init>" none q.1 q.2 := by
  unfold C_X4_init
  refine qcons (qk_aload_n dX4_init_0 rfl) ?_
  refine qcons (qk_oinit (by decide) tw_111 tw_103 tw_104 dX4_init_1) ?_
  refine qcons (qk_ret dX4_init_4 (Or.inl ⟨rfl, rfl⟩)) ?_
  exact qnil
theorem M_X4_init {X : qX} {l : Launch} : qMet X l 1 yX4_init cX4_init 1 none S_X4_init := qmet_of K_X4_init (by decide) rfl rfl
theorem dX2_init_0 : decode cX2_init 0 = .ok (.aload_n 0, 1) := by decide +kernel
theorem dX2_init_1 : decode cX2_init 1 = .ok (.invokespecial 3, 3) := by decide +kernel
theorem dX2_init_4 : decode cX2_init 4 = .ok (.return_, 1) := by decide +kernel
noncomputable def C_X2_init : List (Nat × qOp) := [(0, qo_aload 0 1),
  (1, qo_callv [(2, S_X4_init), (1, S_X4_init)] 0),
  (4, qo_ret none 0)]
noncomputable def S_X2_init : qSem := qM 1 C_X2_init
set_option maxRecDepth 20000 in
theorem K_X2_init {X : qX} {l : Launch} : ∀ q ∈ C_X2_init, qOk X l 2 cX2_init 1 RX2 "<init>" none q.1 q.2 := by
  unfold C_X2_init
  refine qcons (qk_aload_n dX2_init_0 rfl) ?_
  refine qcons (qk_callv (ins := fun i => .invokespecial i) (qconsV (qrunIN (host := RX11) M_X4_init (by decide) (by decide) (by decide) tw_125 tw_109 tw_110 tw_79 rfl ⟨by decide, by decide⟩ (by decide +kernel)) (qconsV (qrunIN (host := RX11) M_X4_init (by decide) (by decide) (by decide) tw_125 tw_109 tw_110 tw_79 rfl ⟨by decide, by decide⟩ (by decide +kernel)) qnilV)) dX2_init_1) ?_
  refine qcons (qk_ret dX2_init_4 (Or.inl ⟨rfl, rfl⟩)) ?_
  exact qnil
theorem M_X2_init {X : qX} {l : Launch} : qMet X l 2 yX2_init cX2_init 1 none S_X2_init := qmet_of K_X2_init (by decide) rfl rfl
theorem dX1_init_0 : decode cX1_init 0 = .ok (.aload_n 0, 1) := by decide +kernel
theorem dX1_init_1 : decode cX1_init 1 = .ok (.invokespecial 1, 3) := by decide +kernel
theorem dX1_init_4 : decode cX1_init 4 = .ok (.return_, 1) := by decide +kernel
noncomputable def C_X1_init : List (Nat × qOp) := [(0, qo_aload 0 1),
  (1, qo_callv [(1, S_X2_init)] 0),
  (4, qo_ret none 0)]
noncomputable def S_X1_init : qSem := qM 1 C_X1_init
set_option maxRecDepth 20000 in
theorem K_X1_init {X : qX} {l : Launch} : ∀ q ∈ C_X1_init, qOk X l 3 cX1_init 1 RX1 "<init>" none q.1 q.2 := by
  unfold C_X1_init
  refine qcons (qk_aload_n dX1_init_0 rfl) ?_
  refine qcons (qk_callv (ins := fun i => .invokespecial i) (qconsV (qrunIN (host := RX11) M_X2_init (by decide) (by decide) (by decide) tw_146 tw_123 tw_124 tw_81 rfl ⟨by decide, by decide⟩ (by decide +kernel)) qnilV) dX1_init_1) ?_
  refine qcons (qk_ret dX1_init_4 (Or.inl ⟨rfl, rfl⟩)) ?_
  exact qnil
theorem M_X1_init {X : qX} {l : Launch} : qMet X l 3 yX1_init cX1_init 1 none S_X1_init := qmet_of K_X1_init (by decide) rfl rfl
theorem dX2_pace_0 : decode cX2_pace 0 = .ok (.aload_n 1, 1) := by decide +kernel
theorem dX2_pace_1 : decode cX2_pace 1 = .ok (.getfield 9, 3) := by decide +kernel
theorem dX2_pace_4 : decode cX2_pace 4 = .ok (.iload_n 2, 1) := by decide +kernel
theorem dX2_pace_5 : decode cX2_pace 5 = .ok (.iaload, 1) := by decide +kernel
theorem dX2_pace_6 : decode cX2_pace 6 = .ok (.iconst 2, 1) := by decide +kernel
theorem dX2_pace_7 : decode cX2_pace 7 = .ok (.if_icmp .ne 17, 3) := by decide +kernel
theorem dX2_pace_10 : decode cX2_pace 10 = .ok (.iload_n 3, 1) := by decide +kernel
theorem dX2_pace_11 : decode cX2_pace 11 = .ok (.aload_n 1, 1) := by decide +kernel
theorem dX2_pace_12 : decode cX2_pace 12 = .ok (.getfield 15, 3) := by decide +kernel
theorem dX2_pace_15 : decode cX2_pace 15 = .ok (.iload_n 2, 1) := by decide +kernel
theorem dX2_pace_16 : decode cX2_pace 16 = .ok (.iaload, 1) := by decide +kernel
theorem dX2_pace_17 : decode cX2_pace 17 = .ok (.bipush 20, 2) := by decide +kernel
theorem dX2_pace_19 : decode cX2_pace 19 = .ok (.idiv, 1) := by decide +kernel
theorem dX2_pace_20 : decode cX2_pace 20 = .ok (.isub, 1) := by decide +kernel
theorem dX2_pace_21 : decode cX2_pace 21 = .ok (.goto 4, 3) := by decide +kernel
theorem dX2_pace_24 : decode cX2_pace 24 = .ok (.iload_n 3, 1) := by decide +kernel
theorem dX2_pace_25 : decode cX2_pace 25 = .ok (.ireturn, 1) := by decide +kernel
noncomputable def C_X2_pace : List (Nat × qOp) := [(0, qo_aload 1 1),
  (1, qo_getR 8 5),
  (4, qo_iload 2 1),
  (5, qo_iaload),
  (6, qo_ci 2 1),
  (7, qo_icne 24),
  (10, qo_iload 3 1),
  (11, qo_aload 1 1),
  (12, qo_getR 8 6),
  (15, qo_iload 2 1),
  (16, qo_iaload),
  (17, qo_ci 20 2),
  (19, qo_idiv),
  (20, qo_isub),
  (21, qo_goto 25),
  (24, qo_iload 3 1),
  (25, qo_ret (some .int) 1)]
noncomputable def S_X2_pace : qSem := qM 4 C_X2_pace
set_option maxRecDepth 20000 in
theorem K_X2_pace {X : qX} {l : Launch} : ∀ q ∈ C_X2_pace, qOk X l 1 cX2_pace 4 RX2 "pace" (some .int) q.1 q.2 := by
  unfold C_X2_pace
  refine qcons (qk_aload_n dX2_pace_0 rfl) ?_
  refine qcons (qk_getR fd_X2_9 kd_8_5 dX2_pace_1) ?_
  refine qcons (qk_iload_n dX2_pace_4 rfl) ?_
  refine qcons (qk_iaload dX2_pace_5) ?_
  refine qcons (qk_iconst dX2_pace_6 (by decide)) ?_
  refine qcons (qk_icne dX2_pace_7 (by decide)) ?_
  refine qcons (qk_iload_n dX2_pace_10 rfl) ?_
  refine qcons (qk_aload_n dX2_pace_11 rfl) ?_
  refine qcons (qk_getR fd_X2_15 kd_8_6 dX2_pace_12) ?_
  refine qcons (qk_iload_n dX2_pace_15 rfl) ?_
  refine qcons (qk_iaload dX2_pace_16) ?_
  refine qcons (qk_bipush dX2_pace_17 (by decide) (by decide)) ?_
  refine qcons (qk_idiv dX2_pace_19) ?_
  refine qcons (qk_isub dX2_pace_20) ?_
  refine qcons (qk_goto dX2_pace_21 (by decide)) ?_
  refine qcons (qk_iload_n dX2_pace_24 rfl) ?_
  refine qcons (qk_ret dX2_pace_25 (Or.inr (Or.inl ⟨rfl, rfl⟩))) ?_
  exact qnil
theorem M_X2_pace {X : qX} {l : Launch} : qMet X l 1 yX2_pace cX2_pace 4 (some .int) S_X2_pace := qmet_of K_X2_pace (by decide) rfl rfl
theorem dX1_pace_0 : decode cX1_pace 0 = .ok (.aload_n 0, 1) := by decide +kernel
theorem dX1_pace_1 : decode cX1_pace 1 = .ok (.aload_n 1, 1) := by decide +kernel
theorem dX1_pace_2 : decode cX1_pace 2 = .ok (.iload_n 2, 1) := by decide +kernel
theorem dX1_pace_3 : decode cX1_pace 3 = .ok (.iload_n 3, 1) := by decide +kernel
theorem dX1_pace_4 : decode cX1_pace 4 = .ok (.invokespecial 7, 3) := by decide +kernel
theorem dX1_pace_7 : decode cX1_pace 7 = .ok (.aload_n 1, 1) := by decide +kernel
theorem dX1_pace_8 : decode cX1_pace 8 = .ok (.getfield 11, 3) := by decide +kernel
theorem dX1_pace_11 : decode cX1_pace 11 = .ok (.iload_n 2, 1) := by decide +kernel
theorem dX1_pace_12 : decode cX1_pace 12 = .ok (.iaload, 1) := by decide +kernel
theorem dX1_pace_13 : decode cX1_pace 13 = .ok (.iconst 1, 1) := by decide +kernel
theorem dX1_pace_14 : decode cX1_pace 14 = .ok (.iadd, 1) := by decide +kernel
theorem dX1_pace_15 : decode cX1_pace 15 = .ok (.invokestatic 17, 3) := by decide +kernel
theorem dX1_pace_18 : decode cX1_pace 18 = .ok (.ireturn, 1) := by decide +kernel
noncomputable def C_X1_pace : List (Nat × qOp) := [(0, qo_aload 0 1),
  (1, qo_aload 1 1),
  (2, qo_iload 2 1),
  (3, qo_iload 3 1),
  (4, qo_callv [(1, S_X2_pace)] 3),
  (7, qo_aload 1 1),
  (8, qo_getR 8 4),
  (11, qo_iload 2 1),
  (12, qo_iaload),
  (13, qo_ci 1 1),
  (14, qo_iadd),
  (15, qo_mmin),
  (18, qo_ret (some .int) 1)]
noncomputable def S_X1_pace : qSem := qM 4 C_X1_pace
set_option maxRecDepth 20000 in
theorem K_X1_pace {X : qX} {l : Launch} : ∀ q ∈ C_X1_pace, qOk X l 2 cX1_pace 4 RX1 "pace" (some .int) q.1 q.2 := by
  unfold C_X1_pace
  refine qcons (qk_aload_n dX1_pace_0 rfl) ?_
  refine qcons (qk_aload_n dX1_pace_1 rfl) ?_
  refine qcons (qk_iload_n dX1_pace_2 rfl) ?_
  refine qcons (qk_iload_n dX1_pace_3 rfl) ?_
  refine qcons (qk_callv (ins := fun i => .invokespecial i) (qconsV (qrunSU (C := RX1) M_X2_pace (by decide) (by decide) (by decide) rfl tw_415 tw_416 tw_147 tw_417 tw_81 tw_1450 (by decide) (by decide +kernel)) qnilV) dX1_pace_4) ?_
  refine qcons (qk_aload_n dX1_pace_7 rfl) ?_
  refine qcons (qk_getR fd_X1_11 kd_8_4 dX1_pace_8) ?_
  refine qcons (qk_iload_n dX1_pace_11 rfl) ?_
  refine qcons (qk_iaload dX1_pace_12) ?_
  refine qcons (qk_iconst dX1_pace_13 (by decide)) ?_
  refine qcons (qk_iadd dX1_pace_14) ?_
  refine qcons (qk_mmin (by decide) tw_418 tw_419 tw_91 tw_420 dX1_pace_15) ?_
  refine qcons (qk_ret dX1_pace_18 (Or.inr (Or.inl ⟨rfl, rfl⟩))) ?_
  exact qnil
theorem M_X1_pace {X : qX} {l : Launch} : qMet X l 2 yX1_pace cX1_pace 4 (some .int) S_X1_pace := qmet_of K_X1_pace (by decide) rfl rfl
theorem dX4_folds_0 : decode cX4_folds 0 = .ok (.aload_n 1, 1) := by decide +kernel
theorem dX4_folds_1 : decode cX4_folds 1 = .ok (.bipush 10, 2) := by decide +kernel
theorem dX4_folds_3 : decode cX4_folds 3 = .ok (.invokevirtual 7, 3) := by decide +kernel
theorem dX4_folds_6 : decode cX4_folds 6 = .ok (.iload_n 2, 1) := by decide +kernel
theorem dX4_folds_7 : decode cX4_folds 7 = .ok (.aload_n 1, 1) := by decide +kernel
theorem dX4_folds_8 : decode cX4_folds 8 = .ok (.getfield 13, 3) := by decide +kernel
theorem dX4_folds_11 : decode cX4_folds 11 = .ok (.iadd, 1) := by decide +kernel
theorem dX4_folds_12 : decode cX4_folds 12 = .ok (.ireturn, 1) := by decide +kernel
noncomputable def C_X4_folds : List (Nat × qOp) := [(0, qo_aload 1 1),
  (1, qo_ci 10 2),
  (3, qo_callv [(0, S_X0_begins)] 1),
  (6, qo_iload 2 1),
  (7, qo_aload 1 1),
  (8, qo_getI 0 1),
  (11, qo_iadd),
  (12, qo_ret (some .int) 1)]
noncomputable def S_X4_folds : qSem := qM 3 C_X4_folds
set_option maxRecDepth 20000 in
theorem K_X4_folds {X : qX} {l : Launch} : ∀ q ∈ C_X4_folds, qOk X l 2 cX4_folds 3 RX4 "folds" (some .int) q.1 q.2 := by
  unfold C_X4_folds
  refine qcons (qk_aload_n dX4_folds_0 rfl) ?_
  refine qcons (qk_bipush dX4_folds_1 (by decide) (by decide)) ?_
  refine qcons (qk_callv (ins := fun i => .invokevirtual i) (qconsV (qrunV M_X0_begins (by decide) (by decide) (by decide) rfl tw_761 tw_740 tw_741 tw_742 tw_89 ⟨by decide, by decide⟩ (by decide +kernel)) qnilV) dX4_folds_3) ?_
  refine qcons (qk_iload_n dX4_folds_6 rfl) ?_
  refine qcons (qk_aload_n dX4_folds_7 rfl) ?_
  refine qcons (qk_getI fd_X4_13 kd_0_1 dX4_folds_8) ?_
  refine qcons (qk_iadd dX4_folds_11) ?_
  refine qcons (qk_ret dX4_folds_12 (Or.inr (Or.inl ⟨rfl, rfl⟩))) ?_
  exact qnil
theorem M_X4_folds {X : qX} {l : Launch} : qMet X l 2 yX4_folds cX4_folds 3 (some .int) S_X4_folds := qmet_of K_X4_folds (by decide) rfl rfl
theorem dX10_folds_0 : decode cX10_folds 0 = .ok (.aload_n 1, 1) := by decide +kernel
theorem dX10_folds_1 : decode cX10_folds 1 = .ok (.bipush 71, 2) := by decide +kernel
theorem dX10_folds_3 : decode cX10_folds 3 = .ok (.invokevirtual 23, 3) := by decide +kernel
theorem dX10_folds_6 : decode cX10_folds 6 = .ok (.aload_n 0, 1) := by decide +kernel
theorem dX10_folds_7 : decode cX10_folds 7 = .ok (.aload_n 1, 1) := by decide +kernel
theorem dX10_folds_8 : decode cX10_folds 8 = .ok (.iload_n 2, 1) := by decide +kernel
theorem dX10_folds_9 : decode cX10_folds 9 = .ok (.invokespecial 33, 3) := by decide +kernel
theorem dX10_folds_12 : decode cX10_folds 12 = .ok (.aload_n 1, 1) := by decide +kernel
theorem dX10_folds_13 : decode cX10_folds 13 = .ok (.getfield 36, 3) := by decide +kernel
theorem dX10_folds_16 : decode cX10_folds 16 = .ok (.ixor, 1) := by decide +kernel
theorem dX10_folds_17 : decode cX10_folds 17 = .ok (.ireturn, 1) := by decide +kernel
noncomputable def C_X10_folds : List (Nat × qOp) := [(0, qo_aload 1 1),
  (1, qo_ci 71 2),
  (3, qo_callv [(0, S_X0_begins)] 1),
  (6, qo_aload 0 1),
  (7, qo_aload 1 1),
  (8, qo_iload 2 1),
  (9, qo_callv [(10, S_X4_folds)] 2),
  (12, qo_aload 1 1),
  (13, qo_getI 0 2),
  (16, qo_ixor),
  (17, qo_ret (some .int) 1)]
noncomputable def S_X10_folds : qSem := qM 3 C_X10_folds
set_option maxRecDepth 20000 in
theorem K_X10_folds {X : qX} {l : Launch} : ∀ q ∈ C_X10_folds, qOk X l 3 cX10_folds 3 RX10 "folds" (some .int) q.1 q.2 := by
  unfold C_X10_folds
  refine qcons (qk_aload_n dX10_folds_0 rfl) ?_
  refine qcons (qk_bipush dX10_folds_1 (by decide) (by decide)) ?_
  refine qcons (qk_callv (ins := fun i => .invokevirtual i) (qconsV (qrunV M_X0_begins (by decide) (by decide) (by decide) rfl tw_757 tw_740 tw_741 tw_742 tw_89 ⟨by decide, by decide⟩ (by decide +kernel)) qnilV) dX10_folds_3) ?_
  refine qcons (qk_aload_n dX10_folds_6 rfl) ?_
  refine qcons (qk_aload_n dX10_folds_7 rfl) ?_
  refine qcons (qk_iload_n dX10_folds_8 rfl) ?_
  refine qcons (qk_callv (ins := fun i => .invokespecial i) (qconsV (qrunSUi (C := RX10) (x := ⟨RX9, "folds", "(LFoldedFilled$Act;I)I"⟩) (owner := RX4) M_X4_folds (by decide) (by decide) (by decide) rfl tw_758 tw_733 tw_154 tw_133 tw_760 tw_79 tw_759 (by decide) (by decide +kernel)) qnilV) dX10_folds_9) ?_
  refine qcons (qk_aload_n dX10_folds_12 rfl) ?_
  refine qcons (qk_getI fd_X10_36 kd_0_2 dX10_folds_13) ?_
  refine qcons (qk_ixor dX10_folds_16) ?_
  refine qcons (qk_ret dX10_folds_17 (Or.inr (Or.inl ⟨rfl, rfl⟩))) ?_
  exact qnil
theorem M_X10_folds {X : qX} {l : Launch} : qMet X l 3 yX10_folds cX10_folds 3 (some .int) S_X10_folds := qmet_of K_X10_folds (by decide) rfl rfl
theorem dX2_folds_0 : decode cX2_folds 0 = .ok (.aload_n 1, 1) := by decide +kernel
theorem dX2_folds_1 : decode cX2_folds 1 = .ok (.bipush 30, 2) := by decide +kernel
theorem dX2_folds_3 : decode cX2_folds 3 = .ok (.invokevirtual 18, 3) := by decide +kernel
theorem dX2_folds_6 : decode cX2_folds 6 = .ok (.aload_n 0, 1) := by decide +kernel
theorem dX2_folds_7 : decode cX2_folds 7 = .ok (.aload_n 1, 1) := by decide +kernel
theorem dX2_folds_8 : decode cX2_folds 8 = .ok (.iload_n 2, 1) := by decide +kernel
theorem dX2_folds_9 : decode cX2_folds 9 = .ok (.iconst 3, 1) := by decide +kernel
theorem dX2_folds_10 : decode cX2_folds 10 = .ok (.imul, 1) := by decide +kernel
theorem dX2_folds_11 : decode cX2_folds 11 = .ok (.invokespecial 24, 3) := by decide +kernel
theorem dX2_folds_14 : decode cX2_folds 14 = .ok (.ireturn, 1) := by decide +kernel
noncomputable def C_X2_folds : List (Nat × qOp) := [(0, qo_aload 1 1),
  (1, qo_ci 30 2),
  (3, qo_callv [(0, S_X0_begins)] 1),
  (6, qo_aload 0 1),
  (7, qo_aload 1 1),
  (8, qo_iload 2 1),
  (9, qo_ci 3 1),
  (10, qo_imul),
  (11, qo_callv [(2, S_X4_folds), (1, S_X4_folds)] 2),
  (14, qo_ret (some .int) 1)]
noncomputable def S_X2_folds : qSem := qM 3 C_X2_folds
set_option maxRecDepth 20000 in
theorem K_X2_folds {X : qX} {l : Launch} : ∀ q ∈ C_X2_folds, qOk X l 3 cX2_folds 3 RX2 "folds" (some .int) q.1 q.2 := by
  unfold C_X2_folds
  refine qcons (qk_aload_n dX2_folds_0 rfl) ?_
  refine qcons (qk_bipush dX2_folds_1 (by decide) (by decide)) ?_
  refine qcons (qk_callv (ins := fun i => .invokevirtual i) (qconsV (qrunV M_X0_begins (by decide) (by decide) (by decide) rfl tw_739 tw_740 tw_741 tw_742 tw_89 ⟨by decide, by decide⟩ (by decide +kernel)) qnilV) dX2_folds_3) ?_
  refine qcons (qk_aload_n dX2_folds_6 rfl) ?_
  refine qcons (qk_aload_n dX2_folds_7 rfl) ?_
  refine qcons (qk_iload_n dX2_folds_8 rfl) ?_
  refine qcons (qk_iconst dX2_folds_9 (by decide)) ?_
  refine qcons (qk_imul dX2_folds_10) ?_
  refine qcons (qk_callv (ins := fun i => .invokespecial i) (qconsV (qrunSU (C := RX2) M_X4_folds (by decide) (by decide) (by decide) rfl tw_743 tw_733 tw_126 tw_760 tw_79 tw_735 (by decide) (by decide +kernel)) (qconsV (qrunSU (C := RX1) M_X4_folds (by decide) (by decide) (by decide) rfl tw_743 tw_733 tw_126 tw_760 tw_79 tw_735 (by decide) (by decide +kernel)) qnilV)) dX2_folds_11) ?_
  refine qcons (qk_ret dX2_folds_14 (Or.inr (Or.inl ⟨rfl, rfl⟩))) ?_
  exact qnil
theorem M_X2_folds {X : qX} {l : Launch} : qMet X l 3 yX2_folds cX2_folds 3 (some .int) S_X2_folds := qmet_of K_X2_folds (by decide) rfl rfl
theorem dX7_folds_0 : decode cX7_folds 0 = .ok (.aload_n 1, 1) := by decide +kernel
theorem dX7_folds_1 : decode cX7_folds 1 = .ok (.bipush 50, 2) := by decide +kernel
theorem dX7_folds_3 : decode cX7_folds 3 = .ok (.invokevirtual 19, 3) := by decide +kernel
theorem dX7_folds_6 : decode cX7_folds 6 = .ok (.aload_n 0, 1) := by decide +kernel
theorem dX7_folds_7 : decode cX7_folds 7 = .ok (.aload_n 1, 1) := by decide +kernel
theorem dX7_folds_8 : decode cX7_folds 8 = .ok (.iload_n 2, 1) := by decide +kernel
theorem dX7_folds_9 : decode cX7_folds 9 = .ok (.invokespecial 25, 3) := by decide +kernel
theorem dX7_folds_12 : decode cX7_folds 12 = .ok (.ineg, 1) := by decide +kernel
theorem dX7_folds_13 : decode cX7_folds 13 = .ok (.ireturn, 1) := by decide +kernel
noncomputable def C_X7_folds : List (Nat × qOp) := [(0, qo_aload 1 1),
  (1, qo_ci 50 2),
  (3, qo_callv [(0, S_X0_begins)] 1),
  (6, qo_aload 0 1),
  (7, qo_aload 1 1),
  (8, qo_iload 2 1),
  (9, qo_callv [(7, S_X4_folds)] 2),
  (12, qo_ineg),
  (13, qo_ret (some .int) 1)]
noncomputable def S_X7_folds : qSem := qM 3 C_X7_folds
set_option maxRecDepth 20000 in
theorem K_X7_folds {X : qX} {l : Launch} : ∀ q ∈ C_X7_folds, qOk X l 3 cX7_folds 3 RX7 "folds" (some .int) q.1 q.2 := by
  unfold C_X7_folds
  refine qcons (qk_aload_n dX7_folds_0 rfl) ?_
  refine qcons (qk_bipush dX7_folds_1 (by decide) (by decide)) ?_
  refine qcons (qk_callv (ins := fun i => .invokevirtual i) (qconsV (qrunV M_X0_begins (by decide) (by decide) (by decide) rfl tw_749 tw_740 tw_741 tw_742 tw_89 ⟨by decide, by decide⟩ (by decide +kernel)) qnilV) dX7_folds_3) ?_
  refine qcons (qk_aload_n dX7_folds_6 rfl) ?_
  refine qcons (qk_aload_n dX7_folds_7 rfl) ?_
  refine qcons (qk_iload_n dX7_folds_8 rfl) ?_
  refine qcons (qk_callv (ins := fun i => .invokespecial i) (qconsV (qrunSUi (C := RX7) (x := ⟨RX5, "folds", "(LFoldedFilled$Act;I)I"⟩) (owner := RX4) M_X4_folds (by decide) (by decide) (by decide) rfl tw_750 tw_733 tw_140 tw_119 tw_760 tw_79 tw_751 (by decide) (by decide +kernel)) qnilV) dX7_folds_9) ?_
  refine qcons (qk_ineg dX7_folds_12) ?_
  refine qcons (qk_ret dX7_folds_13 (Or.inr (Or.inl ⟨rfl, rfl⟩))) ?_
  exact qnil
theorem M_X7_folds {X : qX} {l : Launch} : qMet X l 3 yX7_folds cX7_folds 3 (some .int) S_X7_folds := qmet_of K_X7_folds (by decide) rfl rfl
theorem dX4_licks_0 : decode cX4_licks 0 = .ok (.aload_n 1, 1) := by decide +kernel
theorem dX4_licks_1 : decode cX4_licks 1 = .ok (.bipush 11, 2) := by decide +kernel
theorem dX4_licks_3 : decode cX4_licks 3 = .ok (.invokevirtual 7, 3) := by decide +kernel
theorem dX4_licks_6 : decode cX4_licks 6 = .ok (.aload_n 0, 1) := by decide +kernel
theorem dX4_licks_7 : decode cX4_licks 7 = .ok (.aload_n 1, 1) := by decide +kernel
theorem dX4_licks_8 : decode cX4_licks 8 = .ok (.iload_n 2, 1) := by decide +kernel
theorem dX4_licks_9 : decode cX4_licks 9 = .ok (.invokevirtual 17, 3) := by decide +kernel
theorem dX4_licks_12 : decode cX4_licks 12 = .ok (.aload_n 1, 1) := by decide +kernel
theorem dX4_licks_13 : decode cX4_licks 13 = .ok (.getfield 23, 3) := by decide +kernel
theorem dX4_licks_16 : decode cX4_licks 16 = .ok (.isub, 1) := by decide +kernel
theorem dX4_licks_17 : decode cX4_licks 17 = .ok (.ireturn, 1) := by decide +kernel
noncomputable def C_X4_licks : List (Nat × qOp) := [(0, qo_aload 1 1),
  (1, qo_ci 11 2),
  (3, qo_callv [(0, S_X0_begins)] 1),
  (6, qo_aload 0 1),
  (7, qo_aload 1 1),
  (8, qo_iload 2 1),
  (9, qo_callv [(4, S_X4_folds), (5, S_X4_folds), (2, S_X2_folds), (9, S_X4_folds), (7, S_X7_folds), (1, S_X2_folds), (10, S_X10_folds)] 2),
  (12, qo_aload 1 1),
  (13, qo_getI 0 2),
  (16, qo_isub),
  (17, qo_ret (some .int) 1)]
noncomputable def S_X4_licks : qSem := qM 3 C_X4_licks
set_option maxRecDepth 20000 in
theorem K_X4_licks {X : qX} {l : Launch} : ∀ q ∈ C_X4_licks, qOk X l 4 cX4_licks 3 RX4 "licks" (some .int) q.1 q.2 := by
  unfold C_X4_licks
  refine qcons (qk_aload_n dX4_licks_0 rfl) ?_
  refine qcons (qk_bipush dX4_licks_1 (by decide) (by decide)) ?_
  refine qcons (qk_callv (ins := fun i => .invokevirtual i) (qconsV (qrunV M_X0_begins (by decide) (by decide) (by decide) rfl tw_761 tw_740 tw_741 tw_742 tw_89 ⟨by decide, by decide⟩ (by decide +kernel)) qnilV) dX4_licks_3) ?_
  refine qcons (qk_aload_n dX4_licks_6 rfl) ?_
  refine qcons (qk_aload_n dX4_licks_7 rfl) ?_
  refine qcons (qk_iload_n dX4_licks_8 rfl) ?_
  refine qcons (qk_callv (ins := fun i => .invokevirtual i) (qconsV (qrunU (C := RX4) (owner := RX4) (x := yX4_folds) (y := yX4_folds) M_X4_folds (by decide) (by decide) (by decide) rfl tw_785 tw_733 tw_734 tw_760 tw_79 tw_735 tw_733 tw_760 ⟨by decide, by decide⟩ (by decide +kernel)) (qconsV (qrunU (C := RX5) (owner := RX4) (x := yX4_folds) (y := yX4_folds) M_X4_folds (by decide) (by decide) (by decide) rfl tw_785 tw_733 tw_745 tw_760 tw_79 tw_735 tw_733 tw_760 ⟨by decide, by decide⟩ (by decide +kernel)) (qconsV (qrunU (C := RX2) (owner := RX4) (x := yX4_folds) (y := yX2_folds) M_X2_folds (by decide) (by decide) (by decide) rfl tw_785 tw_737 tw_744 tw_738 tw_81 tw_735 tw_733 tw_760 ⟨by decide, by decide⟩ (by decide +kernel)) (qconsV (qrunU (C := RX9) (owner := RX4) (x := yX4_folds) (y := yX4_folds) M_X4_folds (by decide) (by decide) (by decide) rfl tw_785 tw_733 tw_753 tw_760 tw_79 tw_735 tw_733 tw_760 ⟨by decide, by decide⟩ (by decide +kernel)) (qconsV (qrunU (C := RX7) (owner := RX4) (x := yX4_folds) (y := yX7_folds) M_X7_folds (by decide) (by decide) (by decide) rfl tw_785 tw_747 tw_746 tw_748 tw_83 tw_735 tw_733 tw_760 ⟨by decide, by decide⟩ (by decide +kernel)) (qconsV (qrunU (C := RX1) (owner := RX4) (x := yX4_folds) (y := yX2_folds) M_X2_folds (by decide) (by decide) (by decide) rfl tw_785 tw_737 tw_736 tw_738 tw_81 tw_735 tw_733 tw_760 ⟨by decide, by decide⟩ (by decide +kernel)) (qconsV (qrunU (C := RX10) (owner := RX4) (x := yX4_folds) (y := yX10_folds) M_X10_folds (by decide) (by decide) (by decide) rfl tw_785 tw_755 tw_754 tw_756 tw_85 tw_735 tw_733 tw_760 ⟨by decide, by decide⟩ (by decide +kernel)) qnilV))))))) dX4_licks_9) ?_
  refine qcons (qk_aload_n dX4_licks_12 rfl) ?_
  refine qcons (qk_getI fd_X4_23 kd_0_2 dX4_licks_13) ?_
  refine qcons (qk_isub dX4_licks_16) ?_
  refine qcons (qk_ret dX4_licks_17 (Or.inr (Or.inl ⟨rfl, rfl⟩))) ?_
  exact qnil
theorem M_X4_licks {X : qX} {l : Launch} : qMet X l 4 yX4_licks cX4_licks 3 (some .int) S_X4_licks := qmet_of K_X4_licks (by decide) rfl rfl
theorem dX10_licks_0 : decode cX10_licks 0 = .ok (.aload_n 1, 1) := by decide +kernel
theorem dX10_licks_1 : decode cX10_licks 1 = .ok (.bipush 70, 2) := by decide +kernel
theorem dX10_licks_3 : decode cX10_licks 3 = .ok (.invokevirtual 23, 3) := by decide +kernel
theorem dX10_licks_6 : decode cX10_licks 6 = .ok (.aload_n 0, 1) := by decide +kernel
theorem dX10_licks_7 : decode cX10_licks 7 = .ok (.aload_n 1, 1) := by decide +kernel
theorem dX10_licks_8 : decode cX10_licks 8 = .ok (.iload_n 2, 1) := by decide +kernel
theorem dX10_licks_9 : decode cX10_licks 9 = .ok (.invokespecial 29, 3) := by decide +kernel
theorem dX10_licks_12 : decode cX10_licks 12 = .ok (.istore_n 3, 1) := by decide +kernel
theorem dX10_licks_13 : decode cX10_licks 13 = .ok (.iload_n 3, 1) := by decide +kernel
theorem dX10_licks_14 : decode cX10_licks 14 = .ok (.aload_n 0, 1) := by decide +kernel
theorem dX10_licks_15 : decode cX10_licks 15 = .ok (.aload_n 1, 1) := by decide +kernel
theorem dX10_licks_16 : decode cX10_licks 16 = .ok (.iconst 2, 1) := by decide +kernel
theorem dX10_licks_17 : decode cX10_licks 17 = .ok (.invokespecial 33, 3) := by decide +kernel
theorem dX10_licks_20 : decode cX10_licks 20 = .ok (.iadd, 1) := by decide +kernel
theorem dX10_licks_21 : decode cX10_licks 21 = .ok (.ireturn, 1) := by decide +kernel
noncomputable def C_X10_licks : List (Nat × qOp) := [(0, qo_aload 1 1),
  (1, qo_ci 70 2),
  (3, qo_callv [(0, S_X0_begins)] 1),
  (6, qo_aload 0 1),
  (7, qo_aload 1 1),
  (8, qo_iload 2 1),
  (9, qo_callv [(10, S_X4_licks)] 2),
  (12, qo_istore 3 1),
  (13, qo_iload 3 1),
  (14, qo_aload 0 1),
  (15, qo_aload 1 1),
  (16, qo_ci 2 1),
  (17, qo_callv [(10, S_X4_folds)] 2),
  (20, qo_iadd),
  (21, qo_ret (some .int) 1)]
noncomputable def S_X10_licks : qSem := qM 4 C_X10_licks
set_option maxRecDepth 20000 in
theorem K_X10_licks {X : qX} {l : Launch} : ∀ q ∈ C_X10_licks, qOk X l 5 cX10_licks 4 RX10 "licks" (some .int) q.1 q.2 := by
  unfold C_X10_licks
  refine qcons (qk_aload_n dX10_licks_0 rfl) ?_
  refine qcons (qk_bipush dX10_licks_1 (by decide) (by decide)) ?_
  refine qcons (qk_callv (ins := fun i => .invokevirtual i) (qconsV (qrunV M_X0_begins (by decide) (by decide) (by decide) rfl tw_757 tw_740 tw_741 tw_742 tw_89 ⟨by decide, by decide⟩ (by decide +kernel)) qnilV) dX10_licks_3) ?_
  refine qcons (qk_aload_n dX10_licks_6 rfl) ?_
  refine qcons (qk_aload_n dX10_licks_7 rfl) ?_
  refine qcons (qk_iload_n dX10_licks_8 rfl) ?_
  refine qcons (qk_callv (ins := fun i => .invokespecial i) (qconsV (qrunSUi (C := RX10) (x := ⟨RX9, "licks", "(LFoldedFilled$Act;I)I"⟩) (owner := RX4) M_X4_licks (by decide) (by decide) (by decide) rfl tw_781 tw_763 tw_154 tw_133 tw_784 tw_79 tw_782 (by decide) (by decide +kernel)) qnilV) dX10_licks_9) ?_
  refine qcons (qk_istore_n dX10_licks_12 rfl) ?_
  refine qcons (qk_iload_n dX10_licks_13 rfl) ?_
  refine qcons (qk_aload_n dX10_licks_14 rfl) ?_
  refine qcons (qk_aload_n dX10_licks_15 rfl) ?_
  refine qcons (qk_iconst dX10_licks_16 (by decide)) ?_
  refine qcons (qk_callv (ins := fun i => .invokespecial i) (qconsV (qrunSUi (C := RX10) (x := ⟨RX9, "folds", "(LFoldedFilled$Act;I)I"⟩) (owner := RX4) M_X4_folds (by decide) (by decide) (by decide) rfl tw_758 tw_733 tw_154 tw_133 tw_760 tw_79 tw_759 (by decide) (by decide +kernel)) qnilV) dX10_licks_17) ?_
  refine qcons (qk_iadd dX10_licks_20) ?_
  refine qcons (qk_ret dX10_licks_21 (Or.inr (Or.inl ⟨rfl, rfl⟩))) ?_
  exact qnil
theorem M_X10_licks {X : qX} {l : Launch} : qMet X l 5 yX10_licks cX10_licks 4 (some .int) S_X10_licks := qmet_of K_X10_licks (by decide) rfl rfl
theorem dX5_licks_0 : decode cX5_licks 0 = .ok (.aload_n 1, 1) := by decide +kernel
theorem dX5_licks_1 : decode cX5_licks 1 = .ok (.bipush 20, 2) := by decide +kernel
theorem dX5_licks_3 : decode cX5_licks 3 = .ok (.invokevirtual 13, 3) := by decide +kernel
theorem dX5_licks_6 : decode cX5_licks 6 = .ok (.aload_n 0, 1) := by decide +kernel
theorem dX5_licks_7 : decode cX5_licks 7 = .ok (.aload_n 1, 1) := by decide +kernel
theorem dX5_licks_8 : decode cX5_licks 8 = .ok (.iload_n 2, 1) := by decide +kernel
theorem dX5_licks_9 : decode cX5_licks 9 = .ok (.invokespecial 19, 3) := by decide +kernel
theorem dX5_licks_12 : decode cX5_licks 12 = .ok (.bipush 6, 2) := by decide +kernel
theorem dX5_licks_14 : decode cX5_licks 14 = .ok (.ixor, 1) := by decide +kernel
theorem dX5_licks_15 : decode cX5_licks 15 = .ok (.ireturn, 1) := by decide +kernel
noncomputable def C_X5_licks : List (Nat × qOp) := [(0, qo_aload 1 1),
  (1, qo_ci 20 2),
  (3, qo_callv [(0, S_X0_begins)] 1),
  (6, qo_aload 0 1),
  (7, qo_aload 1 1),
  (8, qo_iload 2 1),
  (9, qo_callv [(5, S_X4_licks), (7, S_X4_licks)] 2),
  (12, qo_ci 6 2),
  (14, qo_ixor),
  (15, qo_ret (some .int) 1)]
noncomputable def S_X5_licks : qSem := qM 3 C_X5_licks
set_option maxRecDepth 20000 in
theorem K_X5_licks {X : qX} {l : Launch} : ∀ q ∈ C_X5_licks, qOk X l 5 cX5_licks 3 RX5 "licks" (some .int) q.1 q.2 := by
  unfold C_X5_licks
  refine qcons (qk_aload_n dX5_licks_0 rfl) ?_
  refine qcons (qk_bipush dX5_licks_1 (by decide) (by decide)) ?_
  refine qcons (qk_callv (ins := fun i => .invokevirtual i) (qconsV (qrunV M_X0_begins (by decide) (by decide) (by decide) rfl tw_771 tw_740 tw_741 tw_742 tw_89 ⟨by decide, by decide⟩ (by decide +kernel)) qnilV) dX5_licks_3) ?_
  refine qcons (qk_aload_n dX5_licks_6 rfl) ?_
  refine qcons (qk_aload_n dX5_licks_7 rfl) ?_
  refine qcons (qk_iload_n dX5_licks_8 rfl) ?_
  refine qcons (qk_callv (ins := fun i => .invokespecial i) (qconsV (qrunSU (C := RX5) M_X4_licks (by decide) (by decide) (by decide) rfl tw_772 tw_763 tw_119 tw_784 tw_79 tw_765 (by decide) (by decide +kernel)) (qconsV (qrunSU (C := RX7) M_X4_licks (by decide) (by decide) (by decide) rfl tw_772 tw_763 tw_119 tw_784 tw_79 tw_765 (by decide) (by decide +kernel)) qnilV)) dX5_licks_9) ?_
  refine qcons (qk_bipush dX5_licks_12 (by decide) (by decide)) ?_
  refine qcons (qk_ixor dX5_licks_14) ?_
  refine qcons (qk_ret dX5_licks_15 (Or.inr (Or.inl ⟨rfl, rfl⟩))) ?_
  exact qnil
theorem M_X5_licks {X : qX} {l : Launch} : qMet X l 5 yX5_licks cX5_licks 3 (some .int) S_X5_licks := qmet_of K_X5_licks (by decide) rfl rfl
theorem dX7_licks_0 : decode cX7_licks 0 = .ok (.aload_n 1, 1) := by decide +kernel
theorem dX7_licks_1 : decode cX7_licks 1 = .ok (.bipush 51, 2) := by decide +kernel
theorem dX7_licks_3 : decode cX7_licks 3 = .ok (.invokevirtual 19, 3) := by decide +kernel
theorem dX7_licks_6 : decode cX7_licks 6 = .ok (.aload_n 0, 1) := by decide +kernel
theorem dX7_licks_7 : decode cX7_licks 7 = .ok (.aload_n 1, 1) := by decide +kernel
theorem dX7_licks_8 : decode cX7_licks 8 = .ok (.iload_n 2, 1) := by decide +kernel
theorem dX7_licks_9 : decode cX7_licks 9 = .ok (.iconst 1, 1) := by decide +kernel
theorem dX7_licks_10 : decode cX7_licks 10 = .ok (.iadd, 1) := by decide +kernel
theorem dX7_licks_11 : decode cX7_licks 11 = .ok (.invokespecial 29, 3) := by decide +kernel
theorem dX7_licks_14 : decode cX7_licks 14 = .ok (.ireturn, 1) := by decide +kernel
noncomputable def C_X7_licks : List (Nat × qOp) := [(0, qo_aload 1 1),
  (1, qo_ci 51 2),
  (3, qo_callv [(0, S_X0_begins)] 1),
  (6, qo_aload 0 1),
  (7, qo_aload 1 1),
  (8, qo_iload 2 1),
  (9, qo_ci 1 1),
  (10, qo_iadd),
  (11, qo_callv [(7, S_X5_licks)] 2),
  (14, qo_ret (some .int) 1)]
noncomputable def S_X7_licks : qSem := qM 3 C_X7_licks
set_option maxRecDepth 20000 in
theorem K_X7_licks {X : qX} {l : Launch} : ∀ q ∈ C_X7_licks, qOk X l 6 cX7_licks 3 RX7 "licks" (some .int) q.1 q.2 := by
  unfold C_X7_licks
  refine qcons (qk_aload_n dX7_licks_0 rfl) ?_
  refine qcons (qk_bipush dX7_licks_1 (by decide) (by decide)) ?_
  refine qcons (qk_callv (ins := fun i => .invokevirtual i) (qconsV (qrunV M_X0_begins (by decide) (by decide) (by decide) rfl tw_749 tw_740 tw_741 tw_742 tw_89 ⟨by decide, by decide⟩ (by decide +kernel)) qnilV) dX7_licks_3) ?_
  refine qcons (qk_aload_n dX7_licks_6 rfl) ?_
  refine qcons (qk_aload_n dX7_licks_7 rfl) ?_
  refine qcons (qk_iload_n dX7_licks_8 rfl) ?_
  refine qcons (qk_iconst dX7_licks_9 (by decide)) ?_
  refine qcons (qk_iadd dX7_licks_10) ?_
  refine qcons (qk_callv (ins := fun i => .invokespecial i) (qconsV (qrunSU (C := RX7) M_X5_licks (by decide) (by decide) (by decide) rfl tw_776 tw_769 tw_140 tw_770 tw_80 tw_1453 (by decide) (by decide +kernel)) qnilV) dX7_licks_11) ?_
  refine qcons (qk_ret dX7_licks_14 (Or.inr (Or.inl ⟨rfl, rfl⟩))) ?_
  exact qnil
theorem M_X7_licks {X : qX} {l : Launch} : qMet X l 6 yX7_licks cX7_licks 3 (some .int) S_X7_licks := qmet_of K_X7_licks (by decide) rfl rfl
theorem dX4_tells_0 : decode cX4_tells 0 = .ok (.aload_n 1, 1) := by decide +kernel
theorem dX4_tells_1 : decode cX4_tells 1 = .ok (.bipush 12, 2) := by decide +kernel
theorem dX4_tells_3 : decode cX4_tells 3 = .ok (.invokevirtual 7, 3) := by decide +kernel
theorem dX4_tells_6 : decode cX4_tells 6 = .ok (.aload_n 0, 1) := by decide +kernel
theorem dX4_tells_7 : decode cX4_tells 7 = .ok (.aload_n 1, 1) := by decide +kernel
theorem dX4_tells_8 : decode cX4_tells 8 = .ok (.iload_n 2, 1) := by decide +kernel
theorem dX4_tells_9 : decode cX4_tells 9 = .ok (.invokevirtual 26, 3) := by decide +kernel
theorem dX4_tells_12 : decode cX4_tells 12 = .ok (.iconst 2, 1) := by decide +kernel
theorem dX4_tells_13 : decode cX4_tells 13 = .ok (.imul, 1) := by decide +kernel
theorem dX4_tells_14 : decode cX4_tells 14 = .ok (.ireturn, 1) := by decide +kernel
noncomputable def C_X4_tells : List (Nat × qOp) := [(0, qo_aload 1 1),
  (1, qo_ci 12 2),
  (3, qo_callv [(0, S_X0_begins)] 1),
  (6, qo_aload 0 1),
  (7, qo_aload 1 1),
  (8, qo_iload 2 1),
  (9, qo_callv [(4, S_X4_licks), (5, S_X5_licks), (2, S_X4_licks), (9, S_X4_licks), (7, S_X7_licks), (1, S_X4_licks), (10, S_X10_licks)] 2),
  (12, qo_ci 2 1),
  (13, qo_imul),
  (14, qo_ret (some .int) 1)]
noncomputable def S_X4_tells : qSem := qM 3 C_X4_tells
set_option maxRecDepth 20000 in
theorem K_X4_tells {X : qX} {l : Launch} : ∀ q ∈ C_X4_tells, qOk X l 7 cX4_tells 3 RX4 "tells" (some .int) q.1 q.2 := by
  unfold C_X4_tells
  refine qcons (qk_aload_n dX4_tells_0 rfl) ?_
  refine qcons (qk_bipush dX4_tells_1 (by decide) (by decide)) ?_
  refine qcons (qk_callv (ins := fun i => .invokevirtual i) (qconsV (qrunV M_X0_begins (by decide) (by decide) (by decide) rfl tw_761 tw_740 tw_741 tw_742 tw_89 ⟨by decide, by decide⟩ (by decide +kernel)) qnilV) dX4_tells_3) ?_
  refine qcons (qk_aload_n dX4_tells_6 rfl) ?_
  refine qcons (qk_aload_n dX4_tells_7 rfl) ?_
  refine qcons (qk_iload_n dX4_tells_8 rfl) ?_
  refine qcons (qk_callv (ins := fun i => .invokevirtual i) (qconsV (qrunU (C := RX4) (owner := RX4) (x := yX4_licks) (y := yX4_licks) M_X4_licks (by decide) (by decide) (by decide) rfl tw_810 tw_763 tw_764 tw_784 tw_79 tw_765 tw_763 tw_784 ⟨by decide, by decide⟩ (by decide +kernel)) (qconsV (qrunU (C := RX5) (owner := RX4) (x := yX4_licks) (y := yX5_licks) M_X5_licks (by decide) (by decide) (by decide) rfl tw_810 tw_769 tw_768 tw_770 tw_80 tw_765 tw_763 tw_784 ⟨by decide, by decide⟩ (by decide +kernel)) (qconsV (qrunU (C := RX2) (owner := RX4) (x := yX4_licks) (y := yX4_licks) M_X4_licks (by decide) (by decide) (by decide) rfl tw_810 tw_763 tw_767 tw_784 tw_79 tw_765 tw_763 tw_784 ⟨by decide, by decide⟩ (by decide +kernel)) (qconsV (qrunU (C := RX9) (owner := RX4) (x := yX4_licks) (y := yX4_licks) M_X4_licks (by decide) (by decide) (by decide) rfl tw_810 tw_763 tw_777 tw_784 tw_79 tw_765 tw_763 tw_784 ⟨by decide, by decide⟩ (by decide +kernel)) (qconsV (qrunU (C := RX7) (owner := RX4) (x := yX4_licks) (y := yX7_licks) M_X7_licks (by decide) (by decide) (by decide) rfl tw_810 tw_774 tw_773 tw_775 tw_83 tw_765 tw_763 tw_784 ⟨by decide, by decide⟩ (by decide +kernel)) (qconsV (qrunU (C := RX1) (owner := RX4) (x := yX4_licks) (y := yX4_licks) M_X4_licks (by decide) (by decide) (by decide) rfl tw_810 tw_763 tw_766 tw_784 tw_79 tw_765 tw_763 tw_784 ⟨by decide, by decide⟩ (by decide +kernel)) (qconsV (qrunU (C := RX10) (owner := RX4) (x := yX4_licks) (y := yX10_licks) M_X10_licks (by decide) (by decide) (by decide) rfl tw_810 tw_779 tw_778 tw_780 tw_85 tw_765 tw_763 tw_784 ⟨by decide, by decide⟩ (by decide +kernel)) qnilV))))))) dX4_tells_9) ?_
  refine qcons (qk_iconst dX4_tells_12 (by decide)) ?_
  refine qcons (qk_imul dX4_tells_13) ?_
  refine qcons (qk_ret dX4_tells_14 (Or.inr (Or.inl ⟨rfl, rfl⟩))) ?_
  exact qnil
theorem M_X4_tells {X : qX} {l : Launch} : qMet X l 7 yX4_tells cX4_tells 3 (some .int) S_X4_tells := qmet_of K_X4_tells (by decide) rfl rfl
theorem dX1_tells_0 : decode cX1_tells 0 = .ok (.aload_n 1, 1) := by decide +kernel
theorem dX1_tells_1 : decode cX1_tells 1 = .ok (.bipush 60, 2) := by decide +kernel
theorem dX1_tells_3 : decode cX1_tells 3 = .ok (.invokevirtual 23, 3) := by decide +kernel
theorem dX1_tells_6 : decode cX1_tells 6 = .ok (.aload_n 0, 1) := by decide +kernel
theorem dX1_tells_7 : decode cX1_tells 7 = .ok (.aload_n 1, 1) := by decide +kernel
theorem dX1_tells_8 : decode cX1_tells 8 = .ok (.iload_n 2, 1) := by decide +kernel
theorem dX1_tells_9 : decode cX1_tells 9 = .ok (.aload_n 1, 1) := by decide +kernel
theorem dX1_tells_10 : decode cX1_tells 10 = .ok (.getfield 29, 3) := by decide +kernel
theorem dX1_tells_13 : decode cX1_tells 13 = .ok (.isub, 1) := by decide +kernel
theorem dX1_tells_14 : decode cX1_tells 14 = .ok (.invokespecial 33, 3) := by decide +kernel
theorem dX1_tells_17 : decode cX1_tells 17 = .ok (.ireturn, 1) := by decide +kernel
noncomputable def C_X1_tells : List (Nat × qOp) := [(0, qo_aload 1 1),
  (1, qo_ci 60 2),
  (3, qo_callv [(0, S_X0_begins)] 1),
  (6, qo_aload 0 1),
  (7, qo_aload 1 1),
  (8, qo_iload 2 1),
  (9, qo_aload 1 1),
  (10, qo_getI 0 1),
  (13, qo_isub),
  (14, qo_callv [(1, S_X4_tells)] 2),
  (17, qo_ret (some .int) 1)]
noncomputable def S_X1_tells : qSem := qM 3 C_X1_tells
set_option maxRecDepth 20000 in
theorem K_X1_tells {X : qX} {l : Launch} : ∀ q ∈ C_X1_tells, qOk X l 8 cX1_tells 3 RX1 "tells" (some .int) q.1 q.2 := by
  unfold C_X1_tells
  refine qcons (qk_aload_n dX1_tells_0 rfl) ?_
  refine qcons (qk_bipush dX1_tells_1 (by decide) (by decide)) ?_
  refine qcons (qk_callv (ins := fun i => .invokevirtual i) (qconsV (qrunV M_X0_begins (by decide) (by decide) (by decide) rfl tw_793 tw_740 tw_741 tw_742 tw_89 ⟨by decide, by decide⟩ (by decide +kernel)) qnilV) dX1_tells_3) ?_
  refine qcons (qk_aload_n dX1_tells_6 rfl) ?_
  refine qcons (qk_aload_n dX1_tells_7 rfl) ?_
  refine qcons (qk_iload_n dX1_tells_8 rfl) ?_
  refine qcons (qk_aload_n dX1_tells_9 rfl) ?_
  refine qcons (qk_getI fd_X1_29 kd_0_1 dX1_tells_10) ?_
  refine qcons (qk_isub dX1_tells_13) ?_
  refine qcons (qk_callv (ins := fun i => .invokespecial i) (qconsV (qrunSUi (C := RX1) (x := ⟨RX2, "tells", "(LFoldedFilled$Act;I)I"⟩) (owner := RX4) M_X4_tells (by decide) (by decide) (by decide) rfl tw_794 tw_787 tw_147 tw_126 tw_809 tw_79 tw_795 (by decide) (by decide +kernel)) qnilV) dX1_tells_14) ?_
  refine qcons (qk_ret dX1_tells_17 (Or.inr (Or.inl ⟨rfl, rfl⟩))) ?_
  exact qnil
theorem M_X1_tells {X : qX} {l : Launch} : qMet X l 8 yX1_tells cX1_tells 3 (some .int) S_X1_tells := qmet_of K_X1_tells (by decide) rfl rfl
theorem dX4_pace_0 : decode cX4_pace 0 = .ok (.iload_n 3, 1) := by decide +kernel
theorem dX4_pace_1 : decode cX4_pace 1 = .ok (.ireturn, 1) := by decide +kernel
noncomputable def C_X4_pace : List (Nat × qOp) := [(0, qo_iload 3 1),
  (1, qo_ret (some .int) 1)]
noncomputable def S_X4_pace : qSem := qM 4 C_X4_pace
set_option maxRecDepth 20000 in
theorem K_X4_pace {X : qX} {l : Launch} : ∀ q ∈ C_X4_pace, qOk X l 1 cX4_pace 4 RX4 "pace" (some .int) q.1 q.2 := by
  unfold C_X4_pace
  refine qcons (qk_iload_n dX4_pace_0 rfl) ?_
  refine qcons (qk_ret dX4_pace_1 (Or.inr (Or.inl ⟨rfl, rfl⟩))) ?_
  exact qnil
theorem M_X4_pace {X : qX} {l : Launch} : qMet X l 1 yX4_pace cX4_pace 4 (some .int) S_X4_pace := qmet_of K_X4_pace (by decide) rfl rfl
theorem dX5_init_0 : decode cX5_init 0 = .ok (.aload_n 0, 1) := by decide +kernel
theorem dX5_init_1 : decode cX5_init 1 = .ok (.invokespecial 1, 3) := by decide +kernel
theorem dX5_init_4 : decode cX5_init 4 = .ok (.return_, 1) := by decide +kernel
noncomputable def C_X5_init : List (Nat × qOp) := [(0, qo_aload 0 1),
  (1, qo_callv [(5, S_X4_init), (7, S_X4_init)] 0),
  (4, qo_ret none 0)]
noncomputable def S_X5_init : qSem := qM 1 C_X5_init
set_option maxRecDepth 20000 in
theorem K_X5_init {X : qX} {l : Launch} : ∀ q ∈ C_X5_init, qOk X l 2 cX5_init 1 RX5 "<init>" none q.1 q.2 := by
  unfold C_X5_init
  refine qcons (qk_aload_n dX5_init_0 rfl) ?_
  refine qcons (qk_callv (ins := fun i => .invokespecial i) (qconsV (qrunIN (host := RX11) M_X4_init (by decide) (by decide) (by decide) tw_118 tw_109 tw_110 tw_79 rfl ⟨by decide, by decide⟩ (by decide +kernel)) (qconsV (qrunIN (host := RX11) M_X4_init (by decide) (by decide) (by decide) tw_118 tw_109 tw_110 tw_79 rfl ⟨by decide, by decide⟩ (by decide +kernel)) qnilV)) dX5_init_1) ?_
  refine qcons (qk_ret dX5_init_4 (Or.inl ⟨rfl, rfl⟩)) ?_
  exact qnil
theorem M_X5_init {X : qX} {l : Launch} : qMet X l 2 yX5_init cX5_init 1 none S_X5_init := qmet_of K_X5_init (by decide) rfl rfl
theorem dX5_pace_0 : decode cX5_pace 0 = .ok (.iload_n 3, 1) := by decide +kernel
theorem dX5_pace_1 : decode cX5_pace 1 = .ok (.aload_n 1, 1) := by decide +kernel
theorem dX5_pace_2 : decode cX5_pace 2 = .ok (.getfield 7, 3) := by decide +kernel
theorem dX5_pace_5 : decode cX5_pace 5 = .ok (.iload_n 2, 1) := by decide +kernel
theorem dX5_pace_6 : decode cX5_pace 6 = .ok (.iaload, 1) := by decide +kernel
theorem dX5_pace_7 : decode cX5_pace 7 = .ok (.iconst 2, 1) := by decide +kernel
theorem dX5_pace_8 : decode cX5_pace 8 = .ok (.idiv, 1) := by decide +kernel
theorem dX5_pace_9 : decode cX5_pace 9 = .ok (.iadd, 1) := by decide +kernel
theorem dX5_pace_10 : decode cX5_pace 10 = .ok (.ireturn, 1) := by decide +kernel
noncomputable def C_X5_pace : List (Nat × qOp) := [(0, qo_iload 3 1),
  (1, qo_aload 1 1),
  (2, qo_getR 8 4),
  (5, qo_iload 2 1),
  (6, qo_iaload),
  (7, qo_ci 2 1),
  (8, qo_idiv),
  (9, qo_iadd),
  (10, qo_ret (some .int) 1)]
noncomputable def S_X5_pace : qSem := qM 4 C_X5_pace
set_option maxRecDepth 20000 in
theorem K_X5_pace {X : qX} {l : Launch} : ∀ q ∈ C_X5_pace, qOk X l 1 cX5_pace 4 RX5 "pace" (some .int) q.1 q.2 := by
  unfold C_X5_pace
  refine qcons (qk_iload_n dX5_pace_0 rfl) ?_
  refine qcons (qk_aload_n dX5_pace_1 rfl) ?_
  refine qcons (qk_getR fd_X5_7 kd_8_4 dX5_pace_2) ?_
  refine qcons (qk_iload_n dX5_pace_5 rfl) ?_
  refine qcons (qk_iaload dX5_pace_6) ?_
  refine qcons (qk_iconst dX5_pace_7 (by decide)) ?_
  refine qcons (qk_idiv dX5_pace_8) ?_
  refine qcons (qk_iadd dX5_pace_9) ?_
  refine qcons (qk_ret dX5_pace_10 (Or.inr (Or.inl ⟨rfl, rfl⟩))) ?_
  exact qnil
theorem M_X5_pace {X : qX} {l : Launch} : qMet X l 1 yX5_pace cX5_pace 4 (some .int) S_X5_pace := qmet_of K_X5_pace (by decide) rfl rfl
theorem dX7_init_0 : decode cX7_init 0 = .ok (.aload_n 0, 1) := by decide +kernel
theorem dX7_init_1 : decode cX7_init 1 = .ok (.invokespecial 3, 3) := by decide +kernel
theorem dX7_init_4 : decode cX7_init 4 = .ok (.return_, 1) := by decide +kernel
noncomputable def C_X7_init : List (Nat × qOp) := [(0, qo_aload 0 1),
  (1, qo_callv [(7, S_X5_init)] 0),
  (4, qo_ret none 0)]
noncomputable def S_X7_init : qSem := qM 1 C_X7_init
set_option maxRecDepth 20000 in
theorem K_X7_init {X : qX} {l : Launch} : ∀ q ∈ C_X7_init, qOk X l 3 cX7_init 1 RX7 "<init>" none q.1 q.2 := by
  unfold C_X7_init
  refine qcons (qk_aload_n dX7_init_0 rfl) ?_
  refine qcons (qk_callv (ins := fun i => .invokespecial i) (qconsV (qrunIN (host := RX11) M_X5_init (by decide) (by decide) (by decide) tw_139 tw_116 tw_117 tw_80 rfl ⟨by decide, by decide⟩ (by decide +kernel)) qnilV) dX7_init_1) ?_
  refine qcons (qk_ret dX7_init_4 (Or.inl ⟨rfl, rfl⟩)) ?_
  exact qnil
theorem M_X7_init {X : qX} {l : Launch} : qMet X l 3 yX7_init cX7_init 1 none S_X7_init := qmet_of K_X7_init (by decide) rfl rfl
theorem dX7_pace_0 : decode cX7_pace 0 = .ok (.aload_n 0, 1) := by decide +kernel
theorem dX7_pace_1 : decode cX7_pace 1 = .ok (.aload_n 1, 1) := by decide +kernel
theorem dX7_pace_2 : decode cX7_pace 2 = .ok (.iload_n 2, 1) := by decide +kernel
theorem dX7_pace_3 : decode cX7_pace 3 = .ok (.iload_n 3, 1) := by decide +kernel
theorem dX7_pace_4 : decode cX7_pace 4 = .ok (.invokespecial 9, 3) := by decide +kernel
theorem dX7_pace_7 : decode cX7_pace 7 = .ok (.istore 4, 2) := by decide +kernel
theorem dX7_pace_9 : decode cX7_pace 9 = .ok (.aload_n 1, 1) := by decide +kernel
theorem dX7_pace_10 : decode cX7_pace 10 = .ok (.getfield 13, 3) := by decide +kernel
theorem dX7_pace_13 : decode cX7_pace 13 = .ok (.iload_n 2, 1) := by decide +kernel
theorem dX7_pace_14 : decode cX7_pace 14 = .ok (.iaload, 1) := by decide +kernel
theorem dX7_pace_15 : decode cX7_pace 15 = .ok (.iconst 2, 1) := by decide +kernel
theorem dX7_pace_16 : decode cX7_pace 16 = .ok (.if_icmp .ne 10, 3) := by decide +kernel
theorem dX7_pace_19 : decode cX7_pace 19 = .ok (.iload 4, 2) := by decide +kernel
theorem dX7_pace_21 : decode cX7_pace 21 = .ok (.iconst 2, 1) := by decide +kernel
theorem dX7_pace_22 : decode cX7_pace 22 = .ok (.iadd, 1) := by decide +kernel
theorem dX7_pace_23 : decode cX7_pace 23 = .ok (.goto 5, 3) := by decide +kernel
theorem dX7_pace_26 : decode cX7_pace 26 = .ok (.iload 4, 2) := by decide +kernel
theorem dX7_pace_28 : decode cX7_pace 28 = .ok (.ireturn, 1) := by decide +kernel
noncomputable def C_X7_pace : List (Nat × qOp) := [(0, qo_aload 0 1),
  (1, qo_aload 1 1),
  (2, qo_iload 2 1),
  (3, qo_iload 3 1),
  (4, qo_callv [(7, S_X5_pace)] 3),
  (7, qo_istore 4 2),
  (9, qo_aload 1 1),
  (10, qo_getR 8 5),
  (13, qo_iload 2 1),
  (14, qo_iaload),
  (15, qo_ci 2 1),
  (16, qo_icne 26),
  (19, qo_iload 4 2),
  (21, qo_ci 2 1),
  (22, qo_iadd),
  (23, qo_goto 28),
  (26, qo_iload 4 2),
  (28, qo_ret (some .int) 1)]
noncomputable def S_X7_pace : qSem := qM 5 C_X7_pace
set_option maxRecDepth 20000 in
theorem K_X7_pace {X : qX} {l : Launch} : ∀ q ∈ C_X7_pace, qOk X l 2 cX7_pace 5 RX7 "pace" (some .int) q.1 q.2 := by
  unfold C_X7_pace
  refine qcons (qk_aload_n dX7_pace_0 rfl) ?_
  refine qcons (qk_aload_n dX7_pace_1 rfl) ?_
  refine qcons (qk_iload_n dX7_pace_2 rfl) ?_
  refine qcons (qk_iload_n dX7_pace_3 rfl) ?_
  refine qcons (qk_callv (ins := fun i => .invokespecial i) (qconsV (qrunSU (C := RX7) M_X5_pace (by decide) (by decide) (by decide) rfl tw_428 tw_423 tw_140 tw_424 tw_80 tw_1451 (by decide) (by decide +kernel)) qnilV) dX7_pace_4) ?_
  refine qcons (qk_istore dX7_pace_7) ?_
  refine qcons (qk_aload_n dX7_pace_9 rfl) ?_
  refine qcons (qk_getR fd_X7_13 kd_8_5 dX7_pace_10) ?_
  refine qcons (qk_iload_n dX7_pace_13 rfl) ?_
  refine qcons (qk_iaload dX7_pace_14) ?_
  refine qcons (qk_iconst dX7_pace_15 (by decide)) ?_
  refine qcons (qk_icne dX7_pace_16 (by decide)) ?_
  refine qcons (qk_iload dX7_pace_19) ?_
  refine qcons (qk_iconst dX7_pace_21 (by decide)) ?_
  refine qcons (qk_iadd dX7_pace_22) ?_
  refine qcons (qk_goto dX7_pace_23 (by decide)) ?_
  refine qcons (qk_iload dX7_pace_26) ?_
  refine qcons (qk_ret dX7_pace_28 (Or.inr (Or.inl ⟨rfl, rfl⟩))) ?_
  exact qnil
theorem M_X7_pace {X : qX} {l : Launch} : qMet X l 2 yX7_pace cX7_pace 5 (some .int) S_X7_pace := qmet_of K_X7_pace (by decide) rfl rfl
theorem dX9_pace_0 : decode cX9_pace 0 = .ok (.iload_n 3, 1) := by decide +kernel
theorem dX9_pace_1 : decode cX9_pace 1 = .ok (.istore 4, 2) := by decide +kernel
theorem dX9_pace_3 : decode cX9_pace 3 = .ok (.iconst 0, 1) := by decide +kernel
theorem dX9_pace_4 : decode cX9_pace 4 = .ok (.istore 5, 2) := by decide +kernel
theorem dX9_pace_6 : decode cX9_pace 6 = .ok (.iload 5, 2) := by decide +kernel
theorem dX9_pace_8 : decode cX9_pace 8 = .ok (.aload_n 1, 1) := by decide +kernel
theorem dX9_pace_9 : decode cX9_pace 9 = .ok (.getfield 7, 3) := by decide +kernel
theorem dX9_pace_12 : decode cX9_pace 12 = .ok (.if_icmp .ge 44, 3) := by decide +kernel
theorem dX9_pace_15 : decode cX9_pace 15 = .ok (.iload 5, 2) := by decide +kernel
theorem dX9_pace_17 : decode cX9_pace 17 = .ok (.iload_n 2, 1) := by decide +kernel
theorem dX9_pace_18 : decode cX9_pace 18 = .ok (.if_icmp .eq 32, 3) := by decide +kernel
theorem dX9_pace_21 : decode cX9_pace 21 = .ok (.aload_n 1, 1) := by decide +kernel
theorem dX9_pace_22 : decode cX9_pace 22 = .ok (.getfield 13, 3) := by decide +kernel
theorem dX9_pace_25 : decode cX9_pace 25 = .ok (.iload 5, 2) := by decide +kernel
theorem dX9_pace_27 : decode cX9_pace 27 = .ok (.baload, 1) := by decide +kernel
theorem dX9_pace_28 : decode cX9_pace 28 = .ok (.ifCond .ne 22, 3) := by decide +kernel
theorem dX9_pace_31 : decode cX9_pace 31 = .ok (.aload_n 1, 1) := by decide +kernel
theorem dX9_pace_32 : decode cX9_pace 32 = .ok (.getfield 17, 3) := by decide +kernel
theorem dX9_pace_35 : decode cX9_pace 35 = .ok (.iload 5, 2) := by decide +kernel
theorem dX9_pace_37 : decode cX9_pace 37 = .ok (.iaload, 1) := by decide +kernel
theorem dX9_pace_38 : decode cX9_pace 38 = .ok (.aload_n 1, 1) := by decide +kernel
theorem dX9_pace_39 : decode cX9_pace 39 = .ok (.getfield 17, 3) := by decide +kernel
theorem dX9_pace_42 : decode cX9_pace 42 = .ok (.iload_n 2, 1) := by decide +kernel
theorem dX9_pace_43 : decode cX9_pace 43 = .ok (.iaload, 1) := by decide +kernel
theorem dX9_pace_44 : decode cX9_pace 44 = .ok (.if_icmp .ne 6, 3) := by decide +kernel
theorem dX9_pace_47 : decode cX9_pace 47 = .ok (.iinc 4 (-1), 3) := by decide +kernel
theorem dX9_pace_50 : decode cX9_pace 50 = .ok (.iinc 5 1, 3) := by decide +kernel
theorem dX9_pace_53 : decode cX9_pace 53 = .ok (.goto (-47), 3) := by decide +kernel
theorem dX9_pace_56 : decode cX9_pace 56 = .ok (.iload 4, 2) := by decide +kernel
theorem dX9_pace_58 : decode cX9_pace 58 = .ok (.ireturn, 1) := by decide +kernel
noncomputable def C_X9_pace : List (Nat × qOp) := [(0, qo_iload 3 1),
  (1, qo_istore 4 2),
  (3, qo_ci 0 1),
  (4, qo_istore 5 2),
  (6, qo_iload 5 2),
  (8, qo_aload 1 1),
  (9, qo_getI 8 10),
  (12, qo_icge 56),
  (15, qo_iload 5 2),
  (17, qo_iload 2 1),
  (18, qo_iceq 50),
  (21, qo_aload 1 1),
  (22, qo_getR 8 9),
  (25, qo_iload 5 2),
  (27, qo_zaload),
  (28, qo_ifne 50),
  (31, qo_aload 1 1),
  (32, qo_getR 8 5),
  (35, qo_iload 5 2),
  (37, qo_iaload),
  (38, qo_aload 1 1),
  (39, qo_getR 8 5),
  (42, qo_iload 2 1),
  (43, qo_iaload),
  (44, qo_icne 50),
  (47, qo_iinc 4 (-1)),
  (50, qo_iinc 5 1),
  (53, qo_goto 6),
  (56, qo_iload 4 2),
  (58, qo_ret (some .int) 1)]
noncomputable def S_X9_pace : qSem := qM 6 C_X9_pace
set_option maxRecDepth 20000 in
theorem K_X9_pace {X : qX} {l : Launch} : ∀ q ∈ C_X9_pace, qOk X l 1 cX9_pace 6 RX9 "pace" (some .int) q.1 q.2 := by
  unfold C_X9_pace
  refine qcons (qk_iload_n dX9_pace_0 rfl) ?_
  refine qcons (qk_istore dX9_pace_1) ?_
  refine qcons (qk_iconst dX9_pace_3 (by decide)) ?_
  refine qcons (qk_istore dX9_pace_4) ?_
  refine qcons (qk_iload dX9_pace_6) ?_
  refine qcons (qk_aload_n dX9_pace_8 rfl) ?_
  refine qcons (qk_getI fd_X9_7 kd_8_10 dX9_pace_9) ?_
  refine qcons (qk_icge dX9_pace_12 (by decide)) ?_
  refine qcons (qk_iload dX9_pace_15) ?_
  refine qcons (qk_iload_n dX9_pace_17 rfl) ?_
  refine qcons (qk_iceq dX9_pace_18 (by decide)) ?_
  refine qcons (qk_aload_n dX9_pace_21 rfl) ?_
  refine qcons (qk_getR fd_X9_13 kd_8_9 dX9_pace_22) ?_
  refine qcons (qk_iload dX9_pace_25) ?_
  refine qcons (qk_zaload dX9_pace_27) ?_
  refine qcons (qk_ifne dX9_pace_28 (by decide)) ?_
  refine qcons (qk_aload_n dX9_pace_31 rfl) ?_
  refine qcons (qk_getR fd_X9_17 kd_8_5 dX9_pace_32) ?_
  refine qcons (qk_iload dX9_pace_35) ?_
  refine qcons (qk_iaload dX9_pace_37) ?_
  refine qcons (qk_aload_n dX9_pace_38 rfl) ?_
  refine qcons (qk_getR fd_X9_17 kd_8_5 dX9_pace_39) ?_
  refine qcons (qk_iload_n dX9_pace_42 rfl) ?_
  refine qcons (qk_iaload dX9_pace_43) ?_
  refine qcons (qk_icne dX9_pace_44 (by decide)) ?_
  refine qcons (qk_iinc dX9_pace_47) ?_
  refine qcons (qk_iinc dX9_pace_50) ?_
  refine qcons (qk_goto dX9_pace_53 (by decide)) ?_
  refine qcons (qk_iload dX9_pace_56) ?_
  refine qcons (qk_ret dX9_pace_58 (Or.inr (Or.inl ⟨rfl, rfl⟩))) ?_
  exact qnil
theorem M_X9_pace {X : qX} {l : Launch} : qMet X l 1 yX9_pace cX9_pace 6 (some .int) S_X9_pace := qmet_of K_X9_pace (by decide) rfl rfl
theorem dX10_pace_0 : decode cX10_pace 0 = .ok (.aload_n 0, 1) := by decide +kernel
theorem dX10_pace_1 : decode cX10_pace 1 = .ok (.aload_n 1, 1) := by decide +kernel
theorem dX10_pace_2 : decode cX10_pace 2 = .ok (.iload_n 2, 1) := by decide +kernel
theorem dX10_pace_3 : decode cX10_pace 3 = .ok (.iload_n 3, 1) := by decide +kernel
theorem dX10_pace_4 : decode cX10_pace 4 = .ok (.invokespecial 9, 3) := by decide +kernel
theorem dX10_pace_7 : decode cX10_pace 7 = .ok (.aload_n 1, 1) := by decide +kernel
theorem dX10_pace_8 : decode cX10_pace 8 = .ok (.getfield 13, 3) := by decide +kernel
theorem dX10_pace_11 : decode cX10_pace 11 = .ok (.iload_n 2, 1) := by decide +kernel
theorem dX10_pace_12 : decode cX10_pace 12 = .ok (.iconst 4, 1) := by decide +kernel
theorem dX10_pace_13 : decode cX10_pace 13 = .ok (.imul, 1) := by decide +kernel
theorem dX10_pace_14 : decode cX10_pace 14 = .ok (.aload_n 1, 1) := by decide +kernel
theorem dX10_pace_15 : decode cX10_pace 15 = .ok (.getfield 19, 3) := by decide +kernel
theorem dX10_pace_18 : decode cX10_pace 18 = .ok (.iconst 4, 1) := by decide +kernel
theorem dX10_pace_19 : decode cX10_pace 19 = .ok (.irem, 1) := by decide +kernel
theorem dX10_pace_20 : decode cX10_pace 20 = .ok (.iadd, 1) := by decide +kernel
theorem dX10_pace_21 : decode cX10_pace 21 = .ok (.iaload, 1) := by decide +kernel
theorem dX10_pace_22 : decode cX10_pace 22 = .ok (.iadd, 1) := by decide +kernel
theorem dX10_pace_23 : decode cX10_pace 23 = .ok (.ireturn, 1) := by decide +kernel
noncomputable def C_X10_pace : List (Nat × qOp) := [(0, qo_aload 0 1),
  (1, qo_aload 1 1),
  (2, qo_iload 2 1),
  (3, qo_iload 3 1),
  (4, qo_callv [(10, S_X9_pace)] 3),
  (7, qo_aload 1 1),
  (8, qo_getR 8 8),
  (11, qo_iload 2 1),
  (12, qo_ci 4 1),
  (13, qo_imul),
  (14, qo_aload 1 1),
  (15, qo_getI 8 11),
  (18, qo_ci 4 1),
  (19, qo_irem),
  (20, qo_iadd),
  (21, qo_iaload),
  (22, qo_iadd),
  (23, qo_ret (some .int) 1)]
noncomputable def S_X10_pace : qSem := qM 4 C_X10_pace
set_option maxRecDepth 20000 in
theorem K_X10_pace {X : qX} {l : Launch} : ∀ q ∈ C_X10_pace, qOk X l 2 cX10_pace 4 RX10 "pace" (some .int) q.1 q.2 := by
  unfold C_X10_pace
  refine qcons (qk_aload_n dX10_pace_0 rfl) ?_
  refine qcons (qk_aload_n dX10_pace_1 rfl) ?_
  refine qcons (qk_iload_n dX10_pace_2 rfl) ?_
  refine qcons (qk_iload_n dX10_pace_3 rfl) ?_
  refine qcons (qk_callv (ins := fun i => .invokespecial i) (qconsV (qrunSU (C := RX10) M_X9_pace (by decide) (by decide) (by decide) rfl tw_435 tw_430 tw_154 tw_431 tw_82 tw_1452 (by decide) (by decide +kernel)) qnilV) dX10_pace_4) ?_
  refine qcons (qk_aload_n dX10_pace_7 rfl) ?_
  refine qcons (qk_getR fd_X10_13 kd_8_8 dX10_pace_8) ?_
  refine qcons (qk_iload_n dX10_pace_11 rfl) ?_
  refine qcons (qk_iconst dX10_pace_12 (by decide)) ?_
  refine qcons (qk_imul dX10_pace_13) ?_
  refine qcons (qk_aload_n dX10_pace_14 rfl) ?_
  refine qcons (qk_getI fd_X10_19 kd_8_11 dX10_pace_15) ?_
  refine qcons (qk_iconst dX10_pace_18 (by decide)) ?_
  refine qcons (qk_irem dX10_pace_19) ?_
  refine qcons (qk_iadd dX10_pace_20) ?_
  refine qcons (qk_iaload dX10_pace_21) ?_
  refine qcons (qk_iadd dX10_pace_22) ?_
  refine qcons (qk_ret dX10_pace_23 (Or.inr (Or.inl ⟨rfl, rfl⟩))) ?_
  exact qnil
theorem M_X10_pace {X : qX} {l : Launch} : qMet X l 2 yX10_pace cX10_pace 4 (some .int) S_X10_pace := qmet_of K_X10_pace (by decide) rfl rfl
theorem dX9_init_0 : decode cX9_init 0 = .ok (.aload_n 0, 1) := by decide +kernel
theorem dX9_init_1 : decode cX9_init 1 = .ok (.invokespecial 1, 3) := by decide +kernel
theorem dX9_init_4 : decode cX9_init 4 = .ok (.return_, 1) := by decide +kernel
noncomputable def C_X9_init : List (Nat × qOp) := [(0, qo_aload 0 1),
  (1, qo_callv [(9, S_X4_init), (10, S_X4_init)] 0),
  (4, qo_ret none 0)]
noncomputable def S_X9_init : qSem := qM 1 C_X9_init
set_option maxRecDepth 20000 in
theorem K_X9_init {X : qX} {l : Launch} : ∀ q ∈ C_X9_init, qOk X l 2 cX9_init 1 RX9 "<init>" none q.1 q.2 := by
  unfold C_X9_init
  refine qcons (qk_aload_n dX9_init_0 rfl) ?_
  refine qcons (qk_callv (ins := fun i => .invokespecial i) (qconsV (qrunIN (host := RX11) M_X4_init (by decide) (by decide) (by decide) tw_132 tw_109 tw_110 tw_79 rfl ⟨by decide, by decide⟩ (by decide +kernel)) (qconsV (qrunIN (host := RX11) M_X4_init (by decide) (by decide) (by decide) tw_132 tw_109 tw_110 tw_79 rfl ⟨by decide, by decide⟩ (by decide +kernel)) qnilV)) dX9_init_1) ?_
  refine qcons (qk_ret dX9_init_4 (Or.inl ⟨rfl, rfl⟩)) ?_
  exact qnil
theorem M_X9_init {X : qX} {l : Launch} : qMet X l 2 yX9_init cX9_init 1 none S_X9_init := qmet_of K_X9_init (by decide) rfl rfl
theorem dX9_tells_0 : decode cX9_tells 0 = .ok (.aload_n 1, 1) := by decide +kernel
theorem dX9_tells_1 : decode cX9_tells 1 = .ok (.bipush 40, 2) := by decide +kernel
theorem dX9_tells_3 : decode cX9_tells 3 = .ok (.invokevirtual 21, 3) := by decide +kernel
theorem dX9_tells_6 : decode cX9_tells 6 = .ok (.aload_n 0, 1) := by decide +kernel
theorem dX9_tells_7 : decode cX9_tells 7 = .ok (.aload_n 1, 1) := by decide +kernel
theorem dX9_tells_8 : decode cX9_tells 8 = .ok (.iload_n 2, 1) := by decide +kernel
theorem dX9_tells_9 : decode cX9_tells 9 = .ok (.invokespecial 27, 3) := by decide +kernel
theorem dX9_tells_12 : decode cX9_tells 12 = .ok (.istore_n 3, 1) := by decide +kernel
theorem dX9_tells_13 : decode cX9_tells 13 = .ok (.iload_n 3, 1) := by decide +kernel
theorem dX9_tells_14 : decode cX9_tells 14 = .ok (.aload_n 0, 1) := by decide +kernel
theorem dX9_tells_15 : decode cX9_tells 15 = .ok (.aload_n 1, 1) := by decide +kernel
theorem dX9_tells_16 : decode cX9_tells 16 = .ok (.iconst 1, 1) := by decide +kernel
theorem dX9_tells_17 : decode cX9_tells 17 = .ok (.invokevirtual 31, 3) := by decide +kernel
theorem dX9_tells_20 : decode cX9_tells 20 = .ok (.iadd, 1) := by decide +kernel
theorem dX9_tells_21 : decode cX9_tells 21 = .ok (.ireturn, 1) := by decide +kernel
noncomputable def C_X9_tells : List (Nat × qOp) := [(0, qo_aload 1 1),
  (1, qo_ci 40 2),
  (3, qo_callv [(0, S_X0_begins)] 1),
  (6, qo_aload 0 1),
  (7, qo_aload 1 1),
  (8, qo_iload 2 1),
  (9, qo_callv [(9, S_X4_tells), (10, S_X4_tells)] 2),
  (12, qo_istore 3 1),
  (13, qo_iload 3 1),
  (14, qo_aload 0 1),
  (15, qo_aload 1 1),
  (16, qo_ci 1 1),
  (17, qo_callv [(9, S_X4_licks), (10, S_X10_licks)] 2),
  (20, qo_iadd),
  (21, qo_ret (some .int) 1)]
noncomputable def S_X9_tells : qSem := qM 4 C_X9_tells
set_option maxRecDepth 20000 in
theorem K_X9_tells {X : qX} {l : Launch} : ∀ q ∈ C_X9_tells, qOk X l 8 cX9_tells 4 RX9 "tells" (some .int) q.1 q.2 := by
  unfold C_X9_tells
  refine qcons (qk_aload_n dX9_tells_0 rfl) ?_
  refine qcons (qk_bipush dX9_tells_1 (by decide) (by decide)) ?_
  refine qcons (qk_callv (ins := fun i => .invokevirtual i) (qconsV (qrunV M_X0_begins (by decide) (by decide) (by decide) rfl tw_803 tw_740 tw_741 tw_742 tw_89 ⟨by decide, by decide⟩ (by decide +kernel)) qnilV) dX9_tells_3) ?_
  refine qcons (qk_aload_n dX9_tells_6 rfl) ?_
  refine qcons (qk_aload_n dX9_tells_7 rfl) ?_
  refine qcons (qk_iload_n dX9_tells_8 rfl) ?_
  refine qcons (qk_callv (ins := fun i => .invokespecial i) (qconsV (qrunSU (C := RX9) M_X4_tells (by decide) (by decide) (by decide) rfl tw_804 tw_787 tw_133 tw_809 tw_79 tw_789 (by decide) (by decide +kernel)) (qconsV (qrunSU (C := RX10) M_X4_tells (by decide) (by decide) (by decide) rfl tw_804 tw_787 tw_133 tw_809 tw_79 tw_789 (by decide) (by decide +kernel)) qnilV)) dX9_tells_9) ?_
  refine qcons (qk_istore_n dX9_tells_12 rfl) ?_
  refine qcons (qk_iload_n dX9_tells_13 rfl) ?_
  refine qcons (qk_aload_n dX9_tells_14 rfl) ?_
  refine qcons (qk_aload_n dX9_tells_15 rfl) ?_
  refine qcons (qk_iconst dX9_tells_16 (by decide)) ?_
  refine qcons (qk_callv (ins := fun i => .invokevirtual i) (qconsV (qrunU (C := RX9) (owner := RX4) (x := ⟨RX9, "licks", "(LFoldedFilled$Act;I)I"⟩) (y := yX4_licks) M_X4_licks (by decide) (by decide) (by decide) rfl tw_805 tw_763 tw_806 tw_784 tw_79 tw_782 tw_763 tw_784 ⟨by decide, by decide⟩ (by decide +kernel)) (qconsV (qrunU (C := RX10) (owner := RX4) (x := ⟨RX9, "licks", "(LFoldedFilled$Act;I)I"⟩) (y := yX10_licks) M_X10_licks (by decide) (by decide) (by decide) rfl tw_805 tw_779 tw_807 tw_780 tw_85 tw_782 tw_763 tw_784 ⟨by decide, by decide⟩ (by decide +kernel)) qnilV)) dX9_tells_17) ?_
  refine qcons (qk_iadd dX9_tells_20) ?_
  refine qcons (qk_ret dX9_tells_21 (Or.inr (Or.inl ⟨rfl, rfl⟩))) ?_
  exact qnil
theorem M_X9_tells {X : qX} {l : Launch} : qMet X l 8 yX9_tells cX9_tells 4 (some .int) S_X9_tells := qmet_of K_X9_tells (by decide) rfl rfl
theorem dX10_init_0 : decode cX10_init 0 = .ok (.aload_n 0, 1) := by decide +kernel
theorem dX10_init_1 : decode cX10_init 1 = .ok (.invokespecial 3, 3) := by decide +kernel
theorem dX10_init_4 : decode cX10_init 4 = .ok (.return_, 1) := by decide +kernel
noncomputable def C_X10_init : List (Nat × qOp) := [(0, qo_aload 0 1),
  (1, qo_callv [(10, S_X9_init)] 0),
  (4, qo_ret none 0)]
noncomputable def S_X10_init : qSem := qM 1 C_X10_init
set_option maxRecDepth 20000 in
theorem K_X10_init {X : qX} {l : Launch} : ∀ q ∈ C_X10_init, qOk X l 3 cX10_init 1 RX10 "<init>" none q.1 q.2 := by
  unfold C_X10_init
  refine qcons (qk_aload_n dX10_init_0 rfl) ?_
  refine qcons (qk_callv (ins := fun i => .invokespecial i) (qconsV (qrunIN (host := RX11) M_X9_init (by decide) (by decide) (by decide) tw_153 tw_130 tw_131 tw_82 rfl ⟨by decide, by decide⟩ (by decide +kernel)) qnilV) dX10_init_1) ?_
  refine qcons (qk_ret dX10_init_4 (Or.inl ⟨rfl, rfl⟩)) ?_
  exact qnil
theorem M_X10_init {X : qX} {l : Launch} : qMet X l 3 yX10_init cX10_init 1 none S_X10_init := qmet_of K_X10_init (by decide) rfl rfl
