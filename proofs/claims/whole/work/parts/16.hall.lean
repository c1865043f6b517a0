theorem dX3_init_0 : decode cX3_init 0 = .ok (.aload_n 0, 1) := by decide +kernel
theorem dX3_init_1 : decode cX3_init 1 = .ok (.invokespecial 3, 3) := by decide +kernel
theorem dX3_init_4 : decode cX3_init 4 = .ok (.aload_n 0, 1) := by decide +kernel
theorem dX3_init_5 : decode cX3_init 5 = .ok (.bipush 100, 2) := by decide +kernel
theorem dX3_init_7 : decode cX3_init 7 = .ok (.newarray .byte, 2) := by decide +kernel
theorem dX3_init_9 : decode cX3_init 9 = .ok (.putfield 9, 3) := by decide +kernel
theorem dX3_init_12 : decode cX3_init 12 = .ok (.aload_n 0, 1) := by decide +kernel
theorem dX3_init_13 : decode cX3_init 13 = .ok (.bipush 100, 2) := by decide +kernel
theorem dX3_init_15 : decode cX3_init 15 = .ok (.newarray .int, 2) := by decide +kernel
theorem dX3_init_17 : decode cX3_init 17 = .ok (.putfield 15, 3) := by decide +kernel
theorem dX3_init_20 : decode cX3_init 20 = .ok (.aload_n 0, 1) := by decide +kernel
theorem dX3_init_21 : decode cX3_init 21 = .ok (.bipush 50, 2) := by decide +kernel
theorem dX3_init_23 : decode cX3_init 23 = .ok (.putfield 19, 3) := by decide +kernel
theorem dX3_init_26 : decode cX3_init 26 = .ok (.return_, 1) := by decide +kernel
noncomputable def C_X3_init : List (Nat × qOp) := [(0, qo_aload 0 1),
  (1, qo_oinit),
  (4, qo_aload 0 1),
  (5, qo_ci 100 2),
  (7, qo_newa 101),
  (9, qo_putR 3 0),
  (12, qo_aload 0 1),
  (13, qo_ci 100 2),
  (15, qo_newa 100),
  (17, qo_putR 3 1),
  (20, qo_aload 0 1),
  (21, qo_ci 50 2),
  (23, qo_putI 3 4),
  (26, qo_ret none 0)]
noncomputable def S_X3_init : qSem := qM 1 C_X3_init
set_option maxRecDepth 20000 in
theorem K_X3_init {X : qX} {l : Launch} : ∀ q ∈ C_X3_init, qOk X l 1 cX3_init 1 RX3 "<init>" none q.1 q.2 := by
  unfold C_X3_init
  refine qcons (qk_aload_n dX3_init_0 rfl) ?_
  refine qcons (qk_oinit (by decide) tw_160 tw_103 tw_104 dX3_init_1) ?_
  refine qcons (qk_aload_n dX3_init_4 rfl) ?_
  refine qcons (qk_bipush dX3_init_5 (by decide) (by decide)) ?_
  refine qcons (qk_newa (atype := .byte) (ty := .byte) rfl (Or.inr (Or.inl ⟨rfl, rfl⟩)) tw_187 dX3_init_7) ?_
  refine qcons (qk_putR fd_X3_9 tyX3_ok nmX3 (Or.inr ⟨rfl, rfl, rfl⟩) kd_3_0 (tyX3_ok 0 (by decide)) (Or.inr ⟨_, rfl⟩) dX3_init_9) ?_
  refine qcons (qk_aload_n dX3_init_12 rfl) ?_
  refine qcons (qk_bipush dX3_init_13 (by decide) (by decide)) ?_
  refine qcons (qk_newa (atype := .int) (ty := .int) rfl (Or.inl ⟨rfl, rfl⟩) tw_188 dX3_init_15) ?_
  refine qcons (qk_putR fd_X3_15 tyX3_ok nmX3 (Or.inr ⟨rfl, rfl, rfl⟩) kd_3_1 (tyX3_ok 1 (by decide)) (Or.inr ⟨_, rfl⟩) dX3_init_17) ?_
  refine qcons (qk_aload_n dX3_init_20 rfl) ?_
  refine qcons (qk_bipush dX3_init_21 (by decide) (by decide)) ?_
  refine qcons (qk_putI (ty := .int) fd_X3_19 tyX3_ok nmX3 (Or.inl rfl) kd_3_4 (tyX3_ok 4 (by decide)) dX3_init_23) ?_
  refine qcons (qk_ret dX3_init_26 (Or.inl ⟨rfl, rfl⟩)) ?_
  exact qnil
theorem M_X3_init {X : qX} {l : Launch} : qMet X l 1 yX3_init cX3_init 1 none S_X3_init := qmet_of K_X3_init (by decide) rfl rfl
theorem dX3_isTrue_0 : decode cX3_isTrue 0 = .ok (.iload_n 0, 1) := by decide +kernel
theorem dX3_isTrue_1 : decode cX3_isTrue 1 = .ok (.sipush 255, 3) := by decide +kernel
theorem dX3_isTrue_4 : decode cX3_isTrue 4 = .ok (.iand, 1) := by decide +kernel
theorem dX3_isTrue_5 : decode cX3_isTrue 5 = .ok (.lookupswitch 99 #[(100, 86), (107, 56), (112, 51), (118, 66), (119, 76)], 51) := by decide +kernel
theorem dX3_isTrue_56 : decode cX3_isTrue 56 = .ok (.iload_n 2, 1) := by decide +kernel
theorem dX3_isTrue_57 : decode cX3_isTrue 57 = .ok (.istore_n 3, 1) := by decide +kernel
theorem dX3_isTrue_58 : decode cX3_isTrue 58 = .ok (.goto 54, 3) := by decide +kernel
theorem dX3_isTrue_61 : decode cX3_isTrue 61 = .ok (.aload_n 1, 1) := by decide +kernel
theorem dX3_isTrue_62 : decode cX3_isTrue 62 = .ok (.getfield 32, 3) := by decide +kernel
theorem dX3_isTrue_65 : decode cX3_isTrue 65 = .ok (.iload_n 2, 1) := by decide +kernel
theorem dX3_isTrue_66 : decode cX3_isTrue 66 = .ok (.iaload, 1) := by decide +kernel
theorem dX3_isTrue_67 : decode cX3_isTrue 67 = .ok (.istore_n 3, 1) := by decide +kernel
theorem dX3_isTrue_68 : decode cX3_isTrue 68 = .ok (.goto 44, 3) := by decide +kernel
theorem dX3_isTrue_71 : decode cX3_isTrue 71 = .ok (.aload_n 1, 1) := by decide +kernel
theorem dX3_isTrue_72 : decode cX3_isTrue 72 = .ok (.getfield 37, 3) := by decide +kernel
theorem dX3_isTrue_75 : decode cX3_isTrue 75 = .ok (.iload_n 2, 1) := by decide +kernel
theorem dX3_isTrue_76 : decode cX3_isTrue 76 = .ok (.iaload, 1) := by decide +kernel
theorem dX3_isTrue_77 : decode cX3_isTrue 77 = .ok (.istore_n 3, 1) := by decide +kernel
theorem dX3_isTrue_78 : decode cX3_isTrue 78 = .ok (.goto 34, 3) := by decide +kernel
theorem dX3_isTrue_81 : decode cX3_isTrue 81 = .ok (.aload_n 1, 1) := by decide +kernel
theorem dX3_isTrue_82 : decode cX3_isTrue 82 = .ok (.getfield 40, 3) := by decide +kernel
theorem dX3_isTrue_85 : decode cX3_isTrue 85 = .ok (.iload_n 2, 1) := by decide +kernel
theorem dX3_isTrue_86 : decode cX3_isTrue 86 = .ok (.iaload, 1) := by decide +kernel
theorem dX3_isTrue_87 : decode cX3_isTrue 87 = .ok (.istore_n 3, 1) := by decide +kernel
theorem dX3_isTrue_88 : decode cX3_isTrue 88 = .ok (.goto 24, 3) := by decide +kernel
theorem dX3_isTrue_91 : decode cX3_isTrue 91 = .ok (.aload_n 1, 1) := by decide +kernel
theorem dX3_isTrue_92 : decode cX3_isTrue 92 = .ok (.getfield 43, 3) := by decide +kernel
theorem dX3_isTrue_95 : decode cX3_isTrue 95 = .ok (.iload_n 2, 1) := by decide +kernel
theorem dX3_isTrue_96 : decode cX3_isTrue 96 = .ok (.iaload, 1) := by decide +kernel
theorem dX3_isTrue_97 : decode cX3_isTrue 97 = .ok (.bipush 10, 2) := by decide +kernel
theorem dX3_isTrue_99 : decode cX3_isTrue 99 = .ok (.idiv, 1) := by decide +kernel
theorem dX3_isTrue_100 : decode cX3_isTrue 100 = .ok (.istore_n 3, 1) := by decide +kernel
theorem dX3_isTrue_101 : decode cX3_isTrue 101 = .ok (.goto 11, 3) := by decide +kernel
theorem dX3_isTrue_104 : decode cX3_isTrue 104 = .ok (.aload_n 1, 1) := by decide +kernel
theorem dX3_isTrue_105 : decode cX3_isTrue 105 = .ok (.getfield 46, 3) := by decide +kernel
theorem dX3_isTrue_108 : decode cX3_isTrue 108 = .ok (.bipush 10, 2) := by decide +kernel
theorem dX3_isTrue_110 : decode cX3_isTrue 110 = .ok (.irem, 1) := by decide +kernel
theorem dX3_isTrue_111 : decode cX3_isTrue 111 = .ok (.istore_n 3, 1) := by decide +kernel
theorem dX3_isTrue_112 : decode cX3_isTrue 112 = .ok (.iload_n 0, 1) := by decide +kernel
theorem dX3_isTrue_113 : decode cX3_isTrue 113 = .ok (.bipush 16, 2) := by decide +kernel
theorem dX3_isTrue_115 : decode cX3_isTrue 115 = .ok (.ishr, 1) := by decide +kernel
theorem dX3_isTrue_116 : decode cX3_isTrue 116 = .ok (.istore 4, 2) := by decide +kernel
theorem dX3_isTrue_118 : decode cX3_isTrue 118 = .ok (.iload_n 0, 1) := by decide +kernel
theorem dX3_isTrue_119 : decode cX3_isTrue 119 = .ok (.bipush 8, 2) := by decide +kernel
theorem dX3_isTrue_121 : decode cX3_isTrue 121 = .ok (.ishr, 1) := by decide +kernel
theorem dX3_isTrue_122 : decode cX3_isTrue 122 = .ok (.sipush 255, 3) := by decide +kernel
theorem dX3_isTrue_125 : decode cX3_isTrue 125 = .ok (.iand, 1) := by decide +kernel
theorem dX3_isTrue_126 : decode cX3_isTrue 126 = .ok (.lookupswitch 50 #[(60, 26), (62, 38)], 26) := by decide +kernel
theorem dX3_isTrue_152 : decode cX3_isTrue 152 = .ok (.iload_n 3, 1) := by decide +kernel
theorem dX3_isTrue_153 : decode cX3_isTrue 153 = .ok (.iload 4, 2) := by decide +kernel
theorem dX3_isTrue_155 : decode cX3_isTrue 155 = .ok (.if_icmp .ge 7, 3) := by decide +kernel
theorem dX3_isTrue_158 : decode cX3_isTrue 158 = .ok (.iconst 1, 1) := by decide +kernel
theorem dX3_isTrue_159 : decode cX3_isTrue 159 = .ok (.goto 4, 3) := by decide +kernel
theorem dX3_isTrue_162 : decode cX3_isTrue 162 = .ok (.iconst 0, 1) := by decide +kernel
theorem dX3_isTrue_163 : decode cX3_isTrue 163 = .ok (.ireturn, 1) := by decide +kernel
theorem dX3_isTrue_164 : decode cX3_isTrue 164 = .ok (.iload_n 3, 1) := by decide +kernel
theorem dX3_isTrue_165 : decode cX3_isTrue 165 = .ok (.iload 4, 2) := by decide +kernel
theorem dX3_isTrue_167 : decode cX3_isTrue 167 = .ok (.if_icmp .le 7, 3) := by decide +kernel
theorem dX3_isTrue_170 : decode cX3_isTrue 170 = .ok (.iconst 1, 1) := by decide +kernel
theorem dX3_isTrue_171 : decode cX3_isTrue 171 = .ok (.goto 4, 3) := by decide +kernel
theorem dX3_isTrue_174 : decode cX3_isTrue 174 = .ok (.iconst 0, 1) := by decide +kernel
theorem dX3_isTrue_175 : decode cX3_isTrue 175 = .ok (.ireturn, 1) := by decide +kernel
theorem dX3_isTrue_176 : decode cX3_isTrue 176 = .ok (.iload_n 3, 1) := by decide +kernel
theorem dX3_isTrue_177 : decode cX3_isTrue 177 = .ok (.iload 4, 2) := by decide +kernel
theorem dX3_isTrue_179 : decode cX3_isTrue 179 = .ok (.if_icmp .ne 7, 3) := by decide +kernel
theorem dX3_isTrue_182 : decode cX3_isTrue 182 = .ok (.iconst 1, 1) := by decide +kernel
theorem dX3_isTrue_183 : decode cX3_isTrue 183 = .ok (.goto 4, 3) := by decide +kernel
theorem dX3_isTrue_186 : decode cX3_isTrue 186 = .ok (.iconst 0, 1) := by decide +kernel
theorem dX3_isTrue_187 : decode cX3_isTrue 187 = .ok (.ireturn, 1) := by decide +kernel
noncomputable def C_X3_isTrue : List (Nat × qOp) := [(0, qo_iload 0 1),
  (1, qo_ci 255 3),
  (4, qo_iand),
  (5, qo_lsw [(100, 91), (107, 61), (112, 56), (118, 71), (119, 81)] 104),
  (56, qo_iload 2 1),
  (57, qo_istore 3 1),
  (58, qo_goto 112),
  (61, qo_aload 1 1),
  (62, qo_getR 8 3),
  (65, qo_iload 2 1),
  (66, qo_iaload),
  (67, qo_istore 3 1),
  (68, qo_goto 112),
  (71, qo_aload 1 1),
  (72, qo_getR 8 4),
  (75, qo_iload 2 1),
  (76, qo_iaload),
  (77, qo_istore 3 1),
  (78, qo_goto 112),
  (81, qo_aload 1 1),
  (82, qo_getR 8 5),
  (85, qo_iload 2 1),
  (86, qo_iaload),
  (87, qo_istore 3 1),
  (88, qo_goto 112),
  (91, qo_aload 1 1),
  (92, qo_getR 8 6),
  (95, qo_iload 2 1),
  (96, qo_iaload),
  (97, qo_ci 10 2),
  (99, qo_idiv),
  (100, qo_istore 3 1),
  (101, qo_goto 112),
  (104, qo_aload 1 1),
  (105, qo_getI 8 11),
  (108, qo_ci 10 2),
  (110, qo_irem),
  (111, qo_istore 3 1),
  (112, qo_iload 0 1),
  (113, qo_ci 16 2),
  (115, qo_ishr),
  (116, qo_istore 4 2),
  (118, qo_iload 0 1),
  (119, qo_ci 8 2),
  (121, qo_ishr),
  (122, qo_ci 255 3),
  (125, qo_iand),
  (126, qo_lsw [(60, 152), (62, 164)] 176),
  (152, qo_iload 3 1),
  (153, qo_iload 4 2),
  (155, qo_icge 162),
  (158, qo_ci 1 1),
  (159, qo_goto 163),
  (162, qo_ci 0 1),
  (163, qo_ret (some .boolean) 1),
  (164, qo_iload 3 1),
  (165, qo_iload 4 2),
  (167, qo_icle 174),
  (170, qo_ci 1 1),
  (171, qo_goto 175),
  (174, qo_ci 0 1),
  (175, qo_ret (some .boolean) 1),
  (176, qo_iload 3 1),
  (177, qo_iload 4 2),
  (179, qo_icne 186),
  (182, qo_ci 1 1),
  (183, qo_goto 187),
  (186, qo_ci 0 1),
  (187, qo_ret (some .boolean) 1)]
noncomputable def S_X3_isTrue : qSem := qM 5 C_X3_isTrue
set_option maxRecDepth 20000 in
theorem K_X3_isTrue {X : qX} {l : Launch} : ∀ q ∈ C_X3_isTrue, qOk X l 1 cX3_isTrue 5 RX3 "isTrue" (some .boolean) q.1 q.2 := by
  unfold C_X3_isTrue
  refine qcons (qk_iload_n dX3_isTrue_0 rfl) ?_
  refine qcons (qk_sipush dX3_isTrue_1 (by decide) (by decide)) ?_
  refine qcons (qk_iand dX3_isTrue_4) ?_
  refine qcons (qk_lsw dX3_isTrue_5 (by decide) (by decide) (by decide)) ?_
  refine qcons (qk_iload_n dX3_isTrue_56 rfl) ?_
  refine qcons (qk_istore_n dX3_isTrue_57 rfl) ?_
  refine qcons (qk_goto dX3_isTrue_58 (by decide)) ?_
  refine qcons (qk_aload_n dX3_isTrue_61 rfl) ?_
  refine qcons (qk_getR fd_X3_32 kd_8_3 dX3_isTrue_62) ?_
  refine qcons (qk_iload_n dX3_isTrue_65 rfl) ?_
  refine qcons (qk_iaload dX3_isTrue_66) ?_
  refine qcons (qk_istore_n dX3_isTrue_67 rfl) ?_
  refine qcons (qk_goto dX3_isTrue_68 (by decide)) ?_
  refine qcons (qk_aload_n dX3_isTrue_71 rfl) ?_
  refine qcons (qk_getR fd_X3_37 kd_8_4 dX3_isTrue_72) ?_
  refine qcons (qk_iload_n dX3_isTrue_75 rfl) ?_
  refine qcons (qk_iaload dX3_isTrue_76) ?_
  refine qcons (qk_istore_n dX3_isTrue_77 rfl) ?_
  refine qcons (qk_goto dX3_isTrue_78 (by decide)) ?_
  refine qcons (qk_aload_n dX3_isTrue_81 rfl) ?_
  refine qcons (qk_getR fd_X3_40 kd_8_5 dX3_isTrue_82) ?_
  refine qcons (qk_iload_n dX3_isTrue_85 rfl) ?_
  refine qcons (qk_iaload dX3_isTrue_86) ?_
  refine qcons (qk_istore_n dX3_isTrue_87 rfl) ?_
  refine qcons (qk_goto dX3_isTrue_88 (by decide)) ?_
  refine qcons (qk_aload_n dX3_isTrue_91 rfl) ?_
  refine qcons (qk_getR fd_X3_43 kd_8_6 dX3_isTrue_92) ?_
  refine qcons (qk_iload_n dX3_isTrue_95 rfl) ?_
  refine qcons (qk_iaload dX3_isTrue_96) ?_
  refine qcons (qk_bipush dX3_isTrue_97 (by decide) (by decide)) ?_
  refine qcons (qk_idiv dX3_isTrue_99) ?_
  refine qcons (qk_istore_n dX3_isTrue_100 rfl) ?_
  refine qcons (qk_goto dX3_isTrue_101 (by decide)) ?_
  refine qcons (qk_aload_n dX3_isTrue_104 rfl) ?_
  refine qcons (qk_getI fd_X3_46 kd_8_11 dX3_isTrue_105) ?_
  refine qcons (qk_bipush dX3_isTrue_108 (by decide) (by decide)) ?_
  refine qcons (qk_irem dX3_isTrue_110) ?_
  refine qcons (qk_istore_n dX3_isTrue_111 rfl) ?_
  refine qcons (qk_iload_n dX3_isTrue_112 rfl) ?_
  refine qcons (qk_bipush dX3_isTrue_113 (by decide) (by decide)) ?_
  refine qcons (qk_ishr dX3_isTrue_115) ?_
  refine qcons (qk_istore dX3_isTrue_116) ?_
  refine qcons (qk_iload_n dX3_isTrue_118 rfl) ?_
  refine qcons (qk_bipush dX3_isTrue_119 (by decide) (by decide)) ?_
  refine qcons (qk_ishr dX3_isTrue_121) ?_
  refine qcons (qk_sipush dX3_isTrue_122 (by decide) (by decide)) ?_
  refine qcons (qk_iand dX3_isTrue_125) ?_
  refine qcons (qk_lsw dX3_isTrue_126 (by decide) (by decide) (by decide)) ?_
  refine qcons (qk_iload_n dX3_isTrue_152 rfl) ?_
  refine qcons (qk_iload dX3_isTrue_153) ?_
  refine qcons (qk_icge dX3_isTrue_155 (by decide)) ?_
  refine qcons (qk_iconst dX3_isTrue_158 (by decide)) ?_
  refine qcons (qk_goto dX3_isTrue_159 (by decide)) ?_
  refine qcons (qk_iconst dX3_isTrue_162 (by decide)) ?_
  refine qcons (qk_ret dX3_isTrue_163 (Or.inr (Or.inl ⟨rfl, rfl⟩))) ?_
  refine qcons (qk_iload_n dX3_isTrue_164 rfl) ?_
  refine qcons (qk_iload dX3_isTrue_165) ?_
  refine qcons (qk_icle dX3_isTrue_167 (by decide)) ?_
  refine qcons (qk_iconst dX3_isTrue_170 (by decide)) ?_
  refine qcons (qk_goto dX3_isTrue_171 (by decide)) ?_
  refine qcons (qk_iconst dX3_isTrue_174 (by decide)) ?_
  refine qcons (qk_ret dX3_isTrue_175 (Or.inr (Or.inl ⟨rfl, rfl⟩))) ?_
  refine qcons (qk_iload_n dX3_isTrue_176 rfl) ?_
  refine qcons (qk_iload dX3_isTrue_177) ?_
  refine qcons (qk_icne dX3_isTrue_179 (by decide)) ?_
  refine qcons (qk_iconst dX3_isTrue_182 (by decide)) ?_
  refine qcons (qk_goto dX3_isTrue_183 (by decide)) ?_
  refine qcons (qk_iconst dX3_isTrue_186 (by decide)) ?_
  refine qcons (qk_ret dX3_isTrue_187 (Or.inr (Or.inl ⟨rfl, rfl⟩))) ?_
  exact qnil
theorem M_X3_isTrue {X : qX} {l : Launch} : qMet X l 1 yX3_isTrue cX3_isTrue 5 (some .boolean) S_X3_isTrue := qmet_of K_X3_isTrue (by decide) rfl rfl
theorem dX3_zealOf_0 : decode cX3_zealOf 0 = .ok (.iconst 3, 1) := by decide +kernel
theorem dX3_zealOf_1 : decode cX3_zealOf 1 = .ok (.istore_n 3, 1) := by decide +kernel
theorem dX3_zealOf_2 : decode cX3_zealOf 2 = .ok (.lconst 0, 1) := by decide +kernel
theorem dX3_zealOf_3 : decode cX3_zealOf 3 = .ok (.lstore 4, 2) := by decide +kernel
theorem dX3_zealOf_5 : decode cX3_zealOf 5 = .ok (.iconst 0, 1) := by decide +kernel
theorem dX3_zealOf_6 : decode cX3_zealOf 6 = .ok (.istore 6, 2) := by decide +kernel
theorem dX3_zealOf_8 : decode cX3_zealOf 8 = .ok (.iload 6, 2) := by decide +kernel
theorem dX3_zealOf_10 : decode cX3_zealOf 10 = .ok (.aload_n 0, 1) := by decide +kernel
theorem dX3_zealOf_11 : decode cX3_zealOf 11 = .ok (.getfield 23, 3) := by decide +kernel
theorem dX3_zealOf_14 : decode cX3_zealOf 14 = .ok (.if_icmp .ge 223, 3) := by decide +kernel
theorem dX3_zealOf_17 : decode cX3_zealOf 17 = .ok (.lload 4, 2) := by decide +kernel
theorem dX3_zealOf_19 : decode cX3_zealOf 19 = .ok (.lconst 1, 1) := by decide +kernel
theorem dX3_zealOf_20 : decode cX3_zealOf 20 = .ok (.land, 1) := by decide +kernel
theorem dX3_zealOf_21 : decode cX3_zealOf 21 = .ok (.lconst 0, 1) := by decide +kernel
theorem dX3_zealOf_22 : decode cX3_zealOf 22 = .ok (.lcmp, 1) := by decide +kernel
theorem dX3_zealOf_23 : decode cX3_zealOf 23 = .ok (.ifCond .eq 7, 3) := by decide +kernel
theorem dX3_zealOf_26 : decode cX3_zealOf 26 = .ok (.iconst 1, 1) := by decide +kernel
theorem dX3_zealOf_27 : decode cX3_zealOf 27 = .ok (.goto 4, 3) := by decide +kernel
theorem dX3_zealOf_30 : decode cX3_zealOf 30 = .ok (.iconst 0, 1) := by decide +kernel
theorem dX3_zealOf_31 : decode cX3_zealOf 31 = .ok (.istore 7, 2) := by decide +kernel
theorem dX3_zealOf_33 : decode cX3_zealOf 33 = .ok (.aload_n 0, 1) := by decide +kernel
theorem dX3_zealOf_34 : decode cX3_zealOf 34 = .ok (.getfield 15, 3) := by decide +kernel
theorem dX3_zealOf_37 : decode cX3_zealOf 37 = .ok (.iload 6, 2) := by decide +kernel
theorem dX3_zealOf_39 : decode cX3_zealOf 39 = .ok (.iaload, 1) := by decide +kernel
theorem dX3_zealOf_40 : decode cX3_zealOf 40 = .ok (.sipush 255, 3) := by decide +kernel
theorem dX3_zealOf_43 : decode cX3_zealOf 43 = .ok (.iand, 1) := by decide +kernel
theorem dX3_zealOf_44 : decode cX3_zealOf 44 = .ok (.lookupswitch 159 #[(33, 52), (38, 61), (98, 109), (115, 134), (124, 86)], 52) := by decide +kernel
theorem dX3_zealOf_96 : decode cX3_zealOf 96 = .ok (.lload 4, 2) := by decide +kernel
theorem dX3_zealOf_98 : decode cX3_zealOf 98 = .ok (.lconst 1, 1) := by decide +kernel
theorem dX3_zealOf_99 : decode cX3_zealOf 99 = .ok (.lxor, 1) := by decide +kernel
theorem dX3_zealOf_100 : decode cX3_zealOf 100 = .ok (.lstore 4, 2) := by decide +kernel
theorem dX3_zealOf_102 : decode cX3_zealOf 102 = .ok (.goto 129, 3) := by decide +kernel
theorem dX3_zealOf_105 : decode cX3_zealOf 105 = .ok (.iload 7, 2) := by decide +kernel
theorem dX3_zealOf_107 : decode cX3_zealOf 107 = .ok (.ifCond .eq 10, 3) := by decide +kernel
theorem dX3_zealOf_110 : decode cX3_zealOf 110 = .ok (.lload 4, 2) := by decide +kernel
theorem dX3_zealOf_112 : decode cX3_zealOf 112 = .ok (.iconst 1, 1) := by decide +kernel
theorem dX3_zealOf_113 : decode cX3_zealOf 113 = .ok (.lushr, 1) := by decide +kernel
theorem dX3_zealOf_114 : decode cX3_zealOf 114 = .ok (.goto 11, 3) := by decide +kernel
theorem dX3_zealOf_117 : decode cX3_zealOf 117 = .ok (.lload 4, 2) := by decide +kernel
theorem dX3_zealOf_119 : decode cX3_zealOf 119 = .ok (.iconst 1, 1) := by decide +kernel
theorem dX3_zealOf_120 : decode cX3_zealOf 120 = .ok (.lushr, 1) := by decide +kernel
theorem dX3_zealOf_121 : decode cX3_zealOf 121 = .ok (.ldc2_w 26, 3) := by decide +kernel
theorem dX3_zealOf_124 : decode cX3_zealOf 124 = .ok (.land, 1) := by decide +kernel
theorem dX3_zealOf_125 : decode cX3_zealOf 125 = .ok (.lstore 4, 2) := by decide +kernel
theorem dX3_zealOf_127 : decode cX3_zealOf 127 = .ok (.goto 104, 3) := by decide +kernel
theorem dX3_zealOf_130 : decode cX3_zealOf 130 = .ok (.iload 7, 2) := by decide +kernel
theorem dX3_zealOf_132 : decode cX3_zealOf 132 = .ok (.ifCond .eq 12, 3) := by decide +kernel
theorem dX3_zealOf_135 : decode cX3_zealOf 135 = .ok (.lload 4, 2) := by decide +kernel
theorem dX3_zealOf_137 : decode cX3_zealOf 137 = .ok (.iconst 1, 1) := by decide +kernel
theorem dX3_zealOf_138 : decode cX3_zealOf 138 = .ok (.lushr, 1) := by decide +kernel
theorem dX3_zealOf_139 : decode cX3_zealOf 139 = .ok (.lconst 1, 1) := by decide +kernel
theorem dX3_zealOf_140 : decode cX3_zealOf 140 = .ok (.lor, 1) := by decide +kernel
theorem dX3_zealOf_141 : decode cX3_zealOf 141 = .ok (.goto 7, 3) := by decide +kernel
theorem dX3_zealOf_144 : decode cX3_zealOf 144 = .ok (.lload 4, 2) := by decide +kernel
theorem dX3_zealOf_146 : decode cX3_zealOf 146 = .ok (.iconst 1, 1) := by decide +kernel
theorem dX3_zealOf_147 : decode cX3_zealOf 147 = .ok (.lushr, 1) := by decide +kernel
theorem dX3_zealOf_148 : decode cX3_zealOf 148 = .ok (.lstore 4, 2) := by decide +kernel
theorem dX3_zealOf_150 : decode cX3_zealOf 150 = .ok (.goto 81, 3) := by decide +kernel
theorem dX3_zealOf_153 : decode cX3_zealOf 153 = .ok (.iload_n 3, 1) := by decide +kernel
theorem dX3_zealOf_154 : decode cX3_zealOf 154 = .ok (.iload 7, 2) := by decide +kernel
theorem dX3_zealOf_156 : decode cX3_zealOf 156 = .ok (.ifCond .eq 16, 3) := by decide +kernel
theorem dX3_zealOf_159 : decode cX3_zealOf 159 = .ok (.aload_n 0, 1) := by decide +kernel
theorem dX3_zealOf_160 : decode cX3_zealOf 160 = .ok (.getfield 15, 3) := by decide +kernel
theorem dX3_zealOf_163 : decode cX3_zealOf 163 = .ok (.iload 6, 2) := by decide +kernel
theorem dX3_zealOf_165 : decode cX3_zealOf 165 = .ok (.iaload, 1) := by decide +kernel
theorem dX3_zealOf_166 : decode cX3_zealOf 166 = .ok (.bipush 16, 2) := by decide +kernel
theorem dX3_zealOf_168 : decode cX3_zealOf 168 = .ok (.ishr, 1) := by decide +kernel
theorem dX3_zealOf_169 : decode cX3_zealOf 169 = .ok (.goto 4, 3) := by decide +kernel
theorem dX3_zealOf_172 : decode cX3_zealOf 172 = .ok (.iconst 0, 1) := by decide +kernel
theorem dX3_zealOf_173 : decode cX3_zealOf 173 = .ok (.iadd, 1) := by decide +kernel
theorem dX3_zealOf_174 : decode cX3_zealOf 174 = .ok (.istore_n 3, 1) := by decide +kernel
theorem dX3_zealOf_175 : decode cX3_zealOf 175 = .ok (.goto 56, 3) := by decide +kernel
theorem dX3_zealOf_178 : decode cX3_zealOf 178 = .ok (.iload_n 3, 1) := by decide +kernel
theorem dX3_zealOf_179 : decode cX3_zealOf 179 = .ok (.iload 7, 2) := by decide +kernel
theorem dX3_zealOf_181 : decode cX3_zealOf 181 = .ok (.ifCond .eq 16, 3) := by decide +kernel
theorem dX3_zealOf_184 : decode cX3_zealOf 184 = .ok (.aload_n 0, 1) := by decide +kernel
theorem dX3_zealOf_185 : decode cX3_zealOf 185 = .ok (.getfield 15, 3) := by decide +kernel
theorem dX3_zealOf_188 : decode cX3_zealOf 188 = .ok (.iload 6, 2) := by decide +kernel
theorem dX3_zealOf_190 : decode cX3_zealOf 190 = .ok (.iaload, 1) := by decide +kernel
theorem dX3_zealOf_191 : decode cX3_zealOf 191 = .ok (.bipush 16, 2) := by decide +kernel
theorem dX3_zealOf_193 : decode cX3_zealOf 193 = .ok (.ishr, 1) := by decide +kernel
theorem dX3_zealOf_194 : decode cX3_zealOf 194 = .ok (.goto 4, 3) := by decide +kernel
theorem dX3_zealOf_197 : decode cX3_zealOf 197 = .ok (.iconst 0, 1) := by decide +kernel
theorem dX3_zealOf_198 : decode cX3_zealOf 198 = .ok (.isub, 1) := by decide +kernel
theorem dX3_zealOf_199 : decode cX3_zealOf 199 = .ok (.istore_n 3, 1) := by decide +kernel
theorem dX3_zealOf_200 : decode cX3_zealOf 200 = .ok (.goto 31, 3) := by decide +kernel
theorem dX3_zealOf_203 : decode cX3_zealOf 203 = .ok (.lload 4, 2) := by decide +kernel
theorem dX3_zealOf_205 : decode cX3_zealOf 205 = .ok (.iconst 1, 1) := by decide +kernel
theorem dX3_zealOf_206 : decode cX3_zealOf 206 = .ok (.lshl, 1) := by decide +kernel
theorem dX3_zealOf_207 : decode cX3_zealOf 207 = .ok (.aload_n 0, 1) := by decide +kernel
theorem dX3_zealOf_208 : decode cX3_zealOf 208 = .ok (.getfield 15, 3) := by decide +kernel
theorem dX3_zealOf_211 : decode cX3_zealOf 211 = .ok (.iload 6, 2) := by decide +kernel
theorem dX3_zealOf_213 : decode cX3_zealOf 213 = .ok (.iaload, 1) := by decide +kernel
theorem dX3_zealOf_214 : decode cX3_zealOf 214 = .ok (.aload_n 1, 1) := by decide +kernel
theorem dX3_zealOf_215 : decode cX3_zealOf 215 = .ok (.iload_n 2, 1) := by decide +kernel
theorem dX3_zealOf_216 : decode cX3_zealOf 216 = .ok (.invokestatic 28, 3) := by decide +kernel
theorem dX3_zealOf_219 : decode cX3_zealOf 219 = .ok (.ifCond .eq 7, 3) := by decide +kernel
theorem dX3_zealOf_222 : decode cX3_zealOf 222 = .ok (.iconst 1, 1) := by decide +kernel
theorem dX3_zealOf_223 : decode cX3_zealOf 223 = .ok (.goto 4, 3) := by decide +kernel
theorem dX3_zealOf_226 : decode cX3_zealOf 226 = .ok (.iconst 0, 1) := by decide +kernel
theorem dX3_zealOf_227 : decode cX3_zealOf 227 = .ok (.i2l, 1) := by decide +kernel
theorem dX3_zealOf_228 : decode cX3_zealOf 228 = .ok (.lor, 1) := by decide +kernel
theorem dX3_zealOf_229 : decode cX3_zealOf 229 = .ok (.lstore 4, 2) := by decide +kernel
theorem dX3_zealOf_231 : decode cX3_zealOf 231 = .ok (.iinc 6 1, 3) := by decide +kernel
theorem dX3_zealOf_234 : decode cX3_zealOf 234 = .ok (.goto (-226), 3) := by decide +kernel
theorem dX3_zealOf_237 : decode cX3_zealOf 237 = .ok (.iload_n 3, 1) := by decide +kernel
theorem dX3_zealOf_238 : decode cX3_zealOf 238 = .ok (.ireturn, 1) := by decide +kernel
noncomputable def C_X3_zealOf : List (Nat × qOp) := [(0, qo_ci 3 1),
  (1, qo_istore 3 1),
  (2, qo_cl 0 1),
  (3, qo_lstore 4 2),
  (5, qo_ci 0 1),
  (6, qo_istore 6 2),
  (8, qo_iload 6 2),
  (10, qo_aload 0 1),
  (11, qo_getI 3 3),
  (14, qo_icge 237),
  (17, qo_lload 4 2),
  (19, qo_cl 1 1),
  (20, qo_land),
  (21, qo_cl 0 1),
  (22, qo_lcmp),
  (23, qo_ifeq 30),
  (26, qo_ci 1 1),
  (27, qo_goto 31),
  (30, qo_ci 0 1),
  (31, qo_istore 7 2),
  (33, qo_aload 0 1),
  (34, qo_getR 3 1),
  (37, qo_iload 6 2),
  (39, qo_iaload),
  (40, qo_ci 255 3),
  (43, qo_iand),
  (44, qo_lsw [(33, 96), (38, 105), (98, 153), (115, 178), (124, 130)] 203),
  (96, qo_lload 4 2),
  (98, qo_cl 1 1),
  (99, qo_lxor),
  (100, qo_lstore 4 2),
  (102, qo_goto 231),
  (105, qo_iload 7 2),
  (107, qo_ifeq 117),
  (110, qo_lload 4 2),
  (112, qo_ci 1 1),
  (113, qo_lushr),
  (114, qo_goto 125),
  (117, qo_lload 4 2),
  (119, qo_ci 1 1),
  (120, qo_lushr),
  (121, qo_cl (-2) 3),
  (124, qo_land),
  (125, qo_lstore 4 2),
  (127, qo_goto 231),
  (130, qo_iload 7 2),
  (132, qo_ifeq 144),
  (135, qo_lload 4 2),
  (137, qo_ci 1 1),
  (138, qo_lushr),
  (139, qo_cl 1 1),
  (140, qo_lor),
  (141, qo_goto 148),
  (144, qo_lload 4 2),
  (146, qo_ci 1 1),
  (147, qo_lushr),
  (148, qo_lstore 4 2),
  (150, qo_goto 231),
  (153, qo_iload 3 1),
  (154, qo_iload 7 2),
  (156, qo_ifeq 172),
  (159, qo_aload 0 1),
  (160, qo_getR 3 1),
  (163, qo_iload 6 2),
  (165, qo_iaload),
  (166, qo_ci 16 2),
  (168, qo_ishr),
  (169, qo_goto 173),
  (172, qo_ci 0 1),
  (173, qo_iadd),
  (174, qo_istore 3 1),
  (175, qo_goto 231),
  (178, qo_iload 3 1),
  (179, qo_iload 7 2),
  (181, qo_ifeq 197),
  (184, qo_aload 0 1),
  (185, qo_getR 3 1),
  (188, qo_iload 6 2),
  (190, qo_iaload),
  (191, qo_ci 16 2),
  (193, qo_ishr),
  (194, qo_goto 198),
  (197, qo_ci 0 1),
  (198, qo_isub),
  (199, qo_istore 3 1),
  (200, qo_goto 231),
  (203, qo_lload 4 2),
  (205, qo_ci 1 1),
  (206, qo_lshl),
  (207, qo_aload 0 1),
  (208, qo_getR 3 1),
  (211, qo_iload 6 2),
  (213, qo_iaload),
  (214, qo_aload 1 1),
  (215, qo_iload 2 1),
  (216, qo_calls S_X3_isTrue 3),
  (219, qo_ifeq 226),
  (222, qo_ci 1 1),
  (223, qo_goto 227),
  (226, qo_ci 0 1),
  (227, qo_i2l),
  (228, qo_lor),
  (229, qo_lstore 4 2),
  (231, qo_iinc 6 1),
  (234, qo_goto 8),
  (237, qo_iload 3 1),
  (238, qo_ret (some .int) 1)]
noncomputable def S_X3_zealOf : qSem := qM 8 C_X3_zealOf
set_option maxRecDepth 20000 in
theorem K_X3_zealOf {X : qX} {l : Launch} : ∀ q ∈ C_X3_zealOf, qOk X l 2 cX3_zealOf 8 RX3 "zealOf" (some .int) q.1 q.2 := by
  unfold C_X3_zealOf
  refine qcons (qk_iconst dX3_zealOf_0 (by decide)) ?_
  refine qcons (qk_istore_n dX3_zealOf_1 rfl) ?_
  refine qcons (qk_lconst dX3_zealOf_2 (by decide) (by decide)) ?_
  refine qcons (qk_lstore dX3_zealOf_3) ?_
  refine qcons (qk_iconst dX3_zealOf_5 (by decide)) ?_
  refine qcons (qk_istore dX3_zealOf_6) ?_
  refine qcons (qk_iload dX3_zealOf_8) ?_
  refine qcons (qk_aload_n dX3_zealOf_10 rfl) ?_
  refine qcons (qk_getI fd_X3_23 kd_3_3 dX3_zealOf_11) ?_
  refine qcons (qk_icge dX3_zealOf_14 (by decide)) ?_
  refine qcons (qk_lload dX3_zealOf_17) ?_
  refine qcons (qk_lconst dX3_zealOf_19 (by decide) (by decide)) ?_
  refine qcons (qk_land dX3_zealOf_20) ?_
  refine qcons (qk_lconst dX3_zealOf_21 (by decide) (by decide)) ?_
  refine qcons (qk_lcmp dX3_zealOf_22) ?_
  refine qcons (qk_ifeq dX3_zealOf_23 (by decide)) ?_
  refine qcons (qk_iconst dX3_zealOf_26 (by decide)) ?_
  refine qcons (qk_goto dX3_zealOf_27 (by decide)) ?_
  refine qcons (qk_iconst dX3_zealOf_30 (by decide)) ?_
  refine qcons (qk_istore dX3_zealOf_31) ?_
  refine qcons (qk_aload_n dX3_zealOf_33 rfl) ?_
  refine qcons (qk_getR fd_X3_15 kd_3_1 dX3_zealOf_34) ?_
  refine qcons (qk_iload dX3_zealOf_37) ?_
  refine qcons (qk_iaload dX3_zealOf_39) ?_
  refine qcons (qk_sipush dX3_zealOf_40 (by decide) (by decide)) ?_
  refine qcons (qk_iand dX3_zealOf_43) ?_
  refine qcons (qk_lsw dX3_zealOf_44 (by decide) (by decide) (by decide)) ?_
  refine qcons (qk_lload dX3_zealOf_96) ?_
  refine qcons (qk_lconst dX3_zealOf_98 (by decide) (by decide)) ?_
  refine qcons (qk_lxor dX3_zealOf_99) ?_
  refine qcons (qk_lstore dX3_zealOf_100) ?_
  refine qcons (qk_goto dX3_zealOf_102 (by decide)) ?_
  refine qcons (qk_iload dX3_zealOf_105) ?_
  refine qcons (qk_ifeq dX3_zealOf_107 (by decide)) ?_
  refine qcons (qk_lload dX3_zealOf_110) ?_
  refine qcons (qk_iconst dX3_zealOf_112 (by decide)) ?_
  refine qcons (qk_lushr dX3_zealOf_113) ?_
  refine qcons (qk_goto dX3_zealOf_114 (by decide)) ?_
  refine qcons (qk_lload dX3_zealOf_117) ?_
  refine qcons (qk_iconst dX3_zealOf_119 (by decide)) ?_
  refine qcons (qk_lushr dX3_zealOf_120) ?_
  refine qcons (qk_ldc2 dX3_zealOf_121 tw_399 (by decide)) ?_
  refine qcons (qk_land dX3_zealOf_124) ?_
  refine qcons (qk_lstore dX3_zealOf_125) ?_
  refine qcons (qk_goto dX3_zealOf_127 (by decide)) ?_
  refine qcons (qk_iload dX3_zealOf_130) ?_
  refine qcons (qk_ifeq dX3_zealOf_132 (by decide)) ?_
  refine qcons (qk_lload dX3_zealOf_135) ?_
  refine qcons (qk_iconst dX3_zealOf_137 (by decide)) ?_
  refine qcons (qk_lushr dX3_zealOf_138) ?_
  refine qcons (qk_lconst dX3_zealOf_139 (by decide) (by decide)) ?_
  refine qcons (qk_lor dX3_zealOf_140) ?_
  refine qcons (qk_goto dX3_zealOf_141 (by decide)) ?_
  refine qcons (qk_lload dX3_zealOf_144) ?_
  refine qcons (qk_iconst dX3_zealOf_146 (by decide)) ?_
  refine qcons (qk_lushr dX3_zealOf_147) ?_
  refine qcons (qk_lstore dX3_zealOf_148) ?_
  refine qcons (qk_goto dX3_zealOf_150 (by decide)) ?_
  refine qcons (qk_iload_n dX3_zealOf_153 rfl) ?_
  refine qcons (qk_iload dX3_zealOf_154) ?_
  refine qcons (qk_ifeq dX3_zealOf_156 (by decide)) ?_
  refine qcons (qk_aload_n dX3_zealOf_159 rfl) ?_
  refine qcons (qk_getR fd_X3_15 kd_3_1 dX3_zealOf_160) ?_
  refine qcons (qk_iload dX3_zealOf_163) ?_
  refine qcons (qk_iaload dX3_zealOf_165) ?_
  refine qcons (qk_bipush dX3_zealOf_166 (by decide) (by decide)) ?_
  refine qcons (qk_ishr dX3_zealOf_168) ?_
  refine qcons (qk_goto dX3_zealOf_169 (by decide)) ?_
  refine qcons (qk_iconst dX3_zealOf_172 (by decide)) ?_
  refine qcons (qk_iadd dX3_zealOf_173) ?_
  refine qcons (qk_istore_n dX3_zealOf_174 rfl) ?_
  refine qcons (qk_goto dX3_zealOf_175 (by decide)) ?_
  refine qcons (qk_iload_n dX3_zealOf_178 rfl) ?_
  refine qcons (qk_iload dX3_zealOf_179) ?_
  refine qcons (qk_ifeq dX3_zealOf_181 (by decide)) ?_
  refine qcons (qk_aload_n dX3_zealOf_184 rfl) ?_
  refine qcons (qk_getR fd_X3_15 kd_3_1 dX3_zealOf_185) ?_
  refine qcons (qk_iload dX3_zealOf_188) ?_
  refine qcons (qk_iaload dX3_zealOf_190) ?_
  refine qcons (qk_bipush dX3_zealOf_191 (by decide) (by decide)) ?_
  refine qcons (qk_ishr dX3_zealOf_193) ?_
  refine qcons (qk_goto dX3_zealOf_194 (by decide)) ?_
  refine qcons (qk_iconst dX3_zealOf_197 (by decide)) ?_
  refine qcons (qk_isub dX3_zealOf_198) ?_
  refine qcons (qk_istore_n dX3_zealOf_199 rfl) ?_
  refine qcons (qk_goto dX3_zealOf_200 (by decide)) ?_
  refine qcons (qk_lload dX3_zealOf_203) ?_
  refine qcons (qk_iconst dX3_zealOf_205 (by decide)) ?_
  refine qcons (qk_lshl dX3_zealOf_206) ?_
  refine qcons (qk_aload_n dX3_zealOf_207 rfl) ?_
  refine qcons (qk_getR fd_X3_15 kd_3_1 dX3_zealOf_208) ?_
  refine qcons (qk_iload dX3_zealOf_211) ?_
  refine qcons (qk_iaload dX3_zealOf_213) ?_
  refine qcons (qk_aload_n dX3_zealOf_214 rfl) ?_
  refine qcons (qk_iload_n dX3_zealOf_215 rfl) ?_
  refine qcons (qk_calls (qrunS M_X3_isTrue (by decide) (by decide) tw_400 tw_401 tw_402 tw_86 ⟨by decide, by decide⟩ (by decide +kernel)) dX3_zealOf_216) ?_
  refine qcons (qk_ifeq dX3_zealOf_219 (by decide)) ?_
  refine qcons (qk_iconst dX3_zealOf_222 (by decide)) ?_
  refine qcons (qk_goto dX3_zealOf_223 (by decide)) ?_
  refine qcons (qk_iconst dX3_zealOf_226 (by decide)) ?_
  refine qcons (qk_i2l dX3_zealOf_227) ?_
  refine qcons (qk_lor dX3_zealOf_228) ?_
  refine qcons (qk_lstore dX3_zealOf_229) ?_
  refine qcons (qk_iinc dX3_zealOf_231) ?_
  refine qcons (qk_goto dX3_zealOf_234 (by decide)) ?_
  refine qcons (qk_iload_n dX3_zealOf_237 rfl) ?_
  refine qcons (qk_ret dX3_zealOf_238 (Or.inr (Or.inl ⟨rfl, rfl⟩))) ?_
  exact qnil
theorem M_X3_zealOf {X : qX} {l : Launch} : qMet X l 2 yX3_zealOf cX3_zealOf 8 (some .int) S_X3_zealOf := qmet_of K_X3_zealOf (by decide) rfl rfl
theorem dX3_adds_0 : decode cX3_adds 0 = .ok (.aload_n 0, 1) := by decide +kernel
theorem dX3_adds_1 : decode cX3_adds 1 = .ok (.getfield 23, 3) := by decide +kernel
theorem dX3_adds_4 : decode cX3_adds 4 = .ok (.aload_n 0, 1) := by decide +kernel
theorem dX3_adds_5 : decode cX3_adds 5 = .ok (.getfield 15, 3) := by decide +kernel
theorem dX3_adds_8 : decode cX3_adds 8 = .ok (.arraylength, 1) := by decide +kernel
theorem dX3_adds_9 : decode cX3_adds 9 = .ok (.if_icmp .ge 23, 3) := by decide +kernel
theorem dX3_adds_12 : decode cX3_adds 12 = .ok (.aload_n 0, 1) := by decide +kernel
theorem dX3_adds_13 : decode cX3_adds 13 = .ok (.getfield 15, 3) := by decide +kernel
theorem dX3_adds_16 : decode cX3_adds 16 = .ok (.aload_n 0, 1) := by decide +kernel
theorem dX3_adds_17 : decode cX3_adds 17 = .ok (.getfield 23, 3) := by decide +kernel
theorem dX3_adds_20 : decode cX3_adds 20 = .ok (.iload_n 1, 1) := by decide +kernel
theorem dX3_adds_21 : decode cX3_adds 21 = .ok (.iastore, 1) := by decide +kernel
theorem dX3_adds_22 : decode cX3_adds 22 = .ok (.aload_n 0, 1) := by decide +kernel
theorem dX3_adds_23 : decode cX3_adds 23 = .ok (.dup, 1) := by decide +kernel
theorem dX3_adds_24 : decode cX3_adds 24 = .ok (.getfield 23, 3) := by decide +kernel
theorem dX3_adds_27 : decode cX3_adds 27 = .ok (.iconst 1, 1) := by decide +kernel
theorem dX3_adds_28 : decode cX3_adds 28 = .ok (.iadd, 1) := by decide +kernel
theorem dX3_adds_29 : decode cX3_adds 29 = .ok (.putfield 23, 3) := by decide +kernel
theorem dX3_adds_32 : decode cX3_adds 32 = .ok (.return_, 1) := by decide +kernel
noncomputable def C_X3_adds : List (Nat × qOp) := [(0, qo_aload 0 1),
  (1, qo_getI 3 3),
  (4, qo_aload 0 1),
  (5, qo_getR 3 1),
  (8, qo_alen),
  (9, qo_icge 32),
  (12, qo_aload 0 1),
  (13, qo_getR 3 1),
  (16, qo_aload 0 1),
  (17, qo_getI 3 3),
  (20, qo_iload 1 1),
  (21, qo_iastore),
  (22, qo_aload 0 1),
  (23, qo_dup),
  (24, qo_getI 3 3),
  (27, qo_ci 1 1),
  (28, qo_iadd),
  (29, qo_putI 3 3),
  (32, qo_ret none 0)]
noncomputable def S_X3_adds : qSem := qM 2 C_X3_adds
set_option maxRecDepth 20000 in
theorem K_X3_adds {X : qX} {l : Launch} : ∀ q ∈ C_X3_adds, qOk X l 1 cX3_adds 2 RX3 "adds" none q.1 q.2 := by
  unfold C_X3_adds
  refine qcons (qk_aload_n dX3_adds_0 rfl) ?_
  refine qcons (qk_getI fd_X3_23 kd_3_3 dX3_adds_1) ?_
  refine qcons (qk_aload_n dX3_adds_4 rfl) ?_
  refine qcons (qk_getR fd_X3_15 kd_3_1 dX3_adds_5) ?_
  refine qcons (qk_alen dX3_adds_8) ?_
  refine qcons (qk_icge dX3_adds_9 (by decide)) ?_
  refine qcons (qk_aload_n dX3_adds_12 rfl) ?_
  refine qcons (qk_getR fd_X3_15 kd_3_1 dX3_adds_13) ?_
  refine qcons (qk_aload_n dX3_adds_16 rfl) ?_
  refine qcons (qk_getI fd_X3_23 kd_3_3 dX3_adds_17) ?_
  refine qcons (qk_iload_n dX3_adds_20 rfl) ?_
  refine qcons (qk_iastore dX3_adds_21) ?_
  refine qcons (qk_aload_n dX3_adds_22 rfl) ?_
  refine qcons (qk_dup dX3_adds_23) ?_
  refine qcons (qk_getI fd_X3_23 kd_3_3 dX3_adds_24) ?_
  refine qcons (qk_iconst dX3_adds_27 (by decide)) ?_
  refine qcons (qk_iadd dX3_adds_28) ?_
  refine qcons (qk_putI (ty := .int) fd_X3_23 tyX3_ok nmX3 (Or.inl rfl) kd_3_3 (tyX3_ok 3 (by decide)) dX3_adds_29) ?_
  refine qcons (qk_ret dX3_adds_32 (Or.inl ⟨rfl, rfl⟩)) ?_
  exact qnil
theorem M_X3_adds {X : qX} {l : Launch} : qMet X l 1 yX3_adds cX3_adds 2 none S_X3_adds := qmet_of K_X3_adds (by decide) rfl rfl
theorem dX3_next_0 : decode cX3_next 0 = .ok (.aload_n 0, 1) := by decide +kernel
theorem dX3_next_1 : decode cX3_next 1 = .ok (.getfield 64, 3) := by decide +kernel
theorem dX3_next_4 : decode cX3_next 4 = .ok (.aload_n 0, 1) := by decide +kernel
theorem dX3_next_5 : decode cX3_next 5 = .ok (.getfield 55, 3) := by decide +kernel
theorem dX3_next_8 : decode cX3_next 8 = .ok (.if_icmp .ge 15, 3) := by decide +kernel
theorem dX3_next_11 : decode cX3_next 11 = .ok (.aload_n 0, 1) := by decide +kernel
theorem dX3_next_12 : decode cX3_next 12 = .ok (.getfield 9, 3) := by decide +kernel
theorem dX3_next_15 : decode cX3_next 15 = .ok (.aload_n 0, 1) := by decide +kernel
theorem dX3_next_16 : decode cX3_next 16 = .ok (.getfield 64, 3) := by decide +kernel
theorem dX3_next_19 : decode cX3_next 19 = .ok (.baload, 1) := by decide +kernel
theorem dX3_next_20 : decode cX3_next 20 = .ok (.goto 4, 3) := by decide +kernel
theorem dX3_next_23 : decode cX3_next 23 = .ok (.iconst (-1), 1) := by decide +kernel
theorem dX3_next_24 : decode cX3_next 24 = .ok (.ireturn, 1) := by decide +kernel
noncomputable def C_X3_next : List (Nat × qOp) := [(0, qo_aload 0 1),
  (1, qo_getI 3 6),
  (4, qo_aload 0 1),
  (5, qo_getI 3 2),
  (8, qo_icge 23),
  (11, qo_aload 0 1),
  (12, qo_getR 3 0),
  (15, qo_aload 0 1),
  (16, qo_getI 3 6),
  (19, qo_baload),
  (20, qo_goto 24),
  (23, qo_ci (-1) 1),
  (24, qo_ret (some .int) 1)]
noncomputable def S_X3_next : qSem := qM 1 C_X3_next
set_option maxRecDepth 20000 in
theorem K_X3_next {X : qX} {l : Launch} : ∀ q ∈ C_X3_next, qOk X l 1 cX3_next 1 RX3 "next" (some .int) q.1 q.2 := by
  unfold C_X3_next
  refine qcons (qk_aload_n dX3_next_0 rfl) ?_
  refine qcons (qk_getI fd_X3_64 kd_3_6 dX3_next_1) ?_
  refine qcons (qk_aload_n dX3_next_4 rfl) ?_
  refine qcons (qk_getI fd_X3_55 kd_3_2 dX3_next_5) ?_
  refine qcons (qk_icge dX3_next_8 (by decide)) ?_
  refine qcons (qk_aload_n dX3_next_11 rfl) ?_
  refine qcons (qk_getR fd_X3_9 kd_3_0 dX3_next_12) ?_
  refine qcons (qk_aload_n dX3_next_15 rfl) ?_
  refine qcons (qk_getI fd_X3_64 kd_3_6 dX3_next_16) ?_
  refine qcons (qk_baload dX3_next_19) ?_
  refine qcons (qk_goto dX3_next_20 (by decide)) ?_
  refine qcons (qk_iconst dX3_next_23 (by decide)) ?_
  refine qcons (qk_ret dX3_next_24 (Or.inr (Or.inl ⟨rfl, rfl⟩))) ?_
  exact qnil
theorem M_X3_next {X : qX} {l : Launch} : qMet X l 1 yX3_next cX3_next 1 (some .int) S_X3_next := qmet_of K_X3_next (by decide) rfl rfl
theorem dX3_takesSign_0 : decode cX3_takesSign 0 = .ok (.aload_n 0, 1) := by decide +kernel
theorem dX3_takesSign_1 : decode cX3_takesSign 1 = .ok (.invokevirtual 74, 3) := by decide +kernel
theorem dX3_takesSign_4 : decode cX3_takesSign 4 = .ok (.iload_n 1, 1) := by decide +kernel
theorem dX3_takesSign_5 : decode cX3_takesSign 5 = .ok (.if_icmp .eq 5, 3) := by decide +kernel
theorem dX3_takesSign_8 : decode cX3_takesSign 8 = .ok (.iconst 0, 1) := by decide +kernel
theorem dX3_takesSign_9 : decode cX3_takesSign 9 = .ok (.ireturn, 1) := by decide +kernel
theorem dX3_takesSign_10 : decode cX3_takesSign 10 = .ok (.aload_n 0, 1) := by decide +kernel
theorem dX3_takesSign_11 : decode cX3_takesSign 11 = .ok (.dup, 1) := by decide +kernel
theorem dX3_takesSign_12 : decode cX3_takesSign 12 = .ok (.getfield 64, 3) := by decide +kernel
theorem dX3_takesSign_15 : decode cX3_takesSign 15 = .ok (.iconst 1, 1) := by decide +kernel
theorem dX3_takesSign_16 : decode cX3_takesSign 16 = .ok (.iadd, 1) := by decide +kernel
theorem dX3_takesSign_17 : decode cX3_takesSign 17 = .ok (.putfield 64, 3) := by decide +kernel
theorem dX3_takesSign_20 : decode cX3_takesSign 20 = .ok (.iconst 1, 1) := by decide +kernel
theorem dX3_takesSign_21 : decode cX3_takesSign 21 = .ok (.ireturn, 1) := by decide +kernel
noncomputable def C_X3_takesSign : List (Nat × qOp) := [(0, qo_aload 0 1),
  (1, qo_callv [(3, S_X3_next)] 0),
  (4, qo_iload 1 1),
  (5, qo_iceq 10),
  (8, qo_ci 0 1),
  (9, qo_ret (some .boolean) 1),
  (10, qo_aload 0 1),
  (11, qo_dup),
  (12, qo_getI 3 6),
  (15, qo_ci 1 1),
  (16, qo_iadd),
  (17, qo_putI 3 6),
  (20, qo_ci 1 1),
  (21, qo_ret (some .boolean) 1)]
noncomputable def S_X3_takesSign : qSem := qM 2 C_X3_takesSign
set_option maxRecDepth 20000 in
theorem K_X3_takesSign {X : qX} {l : Launch} : ∀ q ∈ C_X3_takesSign, qOk X l 2 cX3_takesSign 2 RX3 "takesSign" (some .boolean) q.1 q.2 := by
  unfold C_X3_takesSign
  refine qcons (qk_aload_n dX3_takesSign_0 rfl) ?_
  refine qcons (qk_callv (ins := fun i => .invokevirtual i) (qconsV (qrunV M_X3_next (by decide) (by decide) (by decide) rfl tw_479 tw_481 tw_2 tw_482 tw_86 ⟨by decide, by decide⟩ (by decide +kernel)) qnilV) dX3_takesSign_1) ?_
  refine qcons (qk_iload_n dX3_takesSign_4 rfl) ?_
  refine qcons (qk_iceq dX3_takesSign_5 (by decide)) ?_
  refine qcons (qk_iconst dX3_takesSign_8 (by decide)) ?_
  refine qcons (qk_ret dX3_takesSign_9 (Or.inr (Or.inl ⟨rfl, rfl⟩))) ?_
  refine qcons (qk_aload_n dX3_takesSign_10 rfl) ?_
  refine qcons (qk_dup dX3_takesSign_11) ?_
  refine qcons (qk_getI fd_X3_64 kd_3_6 dX3_takesSign_12) ?_
  refine qcons (qk_iconst dX3_takesSign_15 (by decide)) ?_
  refine qcons (qk_iadd dX3_takesSign_16) ?_
  refine qcons (qk_putI (ty := .int) fd_X3_64 tyX3_ok nmX3 (Or.inl rfl) kd_3_6 (tyX3_ok 6 (by decide)) dX3_takesSign_17) ?_
  refine qcons (qk_iconst dX3_takesSign_20 (by decide)) ?_
  refine qcons (qk_ret dX3_takesSign_21 (Or.inr (Or.inl ⟨rfl, rfl⟩))) ?_
  exact qnil
theorem M_X3_takesSign {X : qX} {l : Launch} : qMet X l 2 yX3_takesSign cX3_takesSign 2 (some .boolean) S_X3_takesSign := qmet_of K_X3_takesSign (by decide) rfl rfl
theorem dX3_isAskedFor_0 : decode cX3_isAskedFor 0 = .ok (.iload_n 0, 1) := by decide +kernel
theorem dX3_isAskedFor_1 : decode cX3_isAskedFor 1 = .ok (.bipush 112, 2) := by decide +kernel
theorem dX3_isAskedFor_3 : decode cX3_isAskedFor 3 = .ok (.if_icmp .eq 33, 3) := by decide +kernel
theorem dX3_isAskedFor_6 : decode cX3_isAskedFor 6 = .ok (.iload_n 0, 1) := by decide +kernel
theorem dX3_isAskedFor_7 : decode cX3_isAskedFor 7 = .ok (.bipush 107, 2) := by decide +kernel
theorem dX3_isAskedFor_9 : decode cX3_isAskedFor 9 = .ok (.if_icmp .eq 27, 3) := by decide +kernel
theorem dX3_isAskedFor_12 : decode cX3_isAskedFor 12 = .ok (.iload_n 0, 1) := by decide +kernel
theorem dX3_isAskedFor_13 : decode cX3_isAskedFor 13 = .ok (.bipush 118, 2) := by decide +kernel
theorem dX3_isAskedFor_15 : decode cX3_isAskedFor 15 = .ok (.if_icmp .eq 21, 3) := by decide +kernel
theorem dX3_isAskedFor_18 : decode cX3_isAskedFor 18 = .ok (.iload_n 0, 1) := by decide +kernel
theorem dX3_isAskedFor_19 : decode cX3_isAskedFor 19 = .ok (.bipush 119, 2) := by decide +kernel
theorem dX3_isAskedFor_21 : decode cX3_isAskedFor 21 = .ok (.if_icmp .eq 15, 3) := by decide +kernel
theorem dX3_isAskedFor_24 : decode cX3_isAskedFor 24 = .ok (.iload_n 0, 1) := by decide +kernel
theorem dX3_isAskedFor_25 : decode cX3_isAskedFor 25 = .ok (.bipush 100, 2) := by decide +kernel
theorem dX3_isAskedFor_27 : decode cX3_isAskedFor 27 = .ok (.if_icmp .eq 9, 3) := by decide +kernel
theorem dX3_isAskedFor_30 : decode cX3_isAskedFor 30 = .ok (.iload_n 0, 1) := by decide +kernel
theorem dX3_isAskedFor_31 : decode cX3_isAskedFor 31 = .ok (.bipush 109, 2) := by decide +kernel
theorem dX3_isAskedFor_33 : decode cX3_isAskedFor 33 = .ok (.if_icmp .ne 7, 3) := by decide +kernel
theorem dX3_isAskedFor_36 : decode cX3_isAskedFor 36 = .ok (.iconst 1, 1) := by decide +kernel
theorem dX3_isAskedFor_37 : decode cX3_isAskedFor 37 = .ok (.goto 4, 3) := by decide +kernel
theorem dX3_isAskedFor_40 : decode cX3_isAskedFor 40 = .ok (.iconst 0, 1) := by decide +kernel
theorem dX3_isAskedFor_41 : decode cX3_isAskedFor 41 = .ok (.ireturn, 1) := by decide +kernel
noncomputable def C_X3_isAskedFor : List (Nat × qOp) := [(0, qo_iload 0 1),
  (1, qo_ci 112 2),
  (3, qo_iceq 36),
  (6, qo_iload 0 1),
  (7, qo_ci 107 2),
  (9, qo_iceq 36),
  (12, qo_iload 0 1),
  (13, qo_ci 118 2),
  (15, qo_iceq 36),
  (18, qo_iload 0 1),
  (19, qo_ci 119 2),
  (21, qo_iceq 36),
  (24, qo_iload 0 1),
  (25, qo_ci 100 2),
  (27, qo_iceq 36),
  (30, qo_iload 0 1),
  (31, qo_ci 109 2),
  (33, qo_icne 40),
  (36, qo_ci 1 1),
  (37, qo_goto 41),
  (40, qo_ci 0 1),
  (41, qo_ret (some .boolean) 1)]
noncomputable def S_X3_isAskedFor : qSem := qM 1 C_X3_isAskedFor
set_option maxRecDepth 20000 in
theorem K_X3_isAskedFor {X : qX} {l : Launch} : ∀ q ∈ C_X3_isAskedFor, qOk X l 1 cX3_isAskedFor 1 RX3 "isAskedFor" (some .boolean) q.1 q.2 := by
  unfold C_X3_isAskedFor
  refine qcons (qk_iload_n dX3_isAskedFor_0 rfl) ?_
  refine qcons (qk_bipush dX3_isAskedFor_1 (by decide) (by decide)) ?_
  refine qcons (qk_iceq dX3_isAskedFor_3 (by decide)) ?_
  refine qcons (qk_iload_n dX3_isAskedFor_6 rfl) ?_
  refine qcons (qk_bipush dX3_isAskedFor_7 (by decide) (by decide)) ?_
  refine qcons (qk_iceq dX3_isAskedFor_9 (by decide)) ?_
  refine qcons (qk_iload_n dX3_isAskedFor_12 rfl) ?_
  refine qcons (qk_bipush dX3_isAskedFor_13 (by decide) (by decide)) ?_
  refine qcons (qk_iceq dX3_isAskedFor_15 (by decide)) ?_
  refine qcons (qk_iload_n dX3_isAskedFor_18 rfl) ?_
  refine qcons (qk_bipush dX3_isAskedFor_19 (by decide) (by decide)) ?_
  refine qcons (qk_iceq dX3_isAskedFor_21 (by decide)) ?_
  refine qcons (qk_iload_n dX3_isAskedFor_24 rfl) ?_
  refine qcons (qk_bipush dX3_isAskedFor_25 (by decide) (by decide)) ?_
  refine qcons (qk_iceq dX3_isAskedFor_27 (by decide)) ?_
  refine qcons (qk_iload_n dX3_isAskedFor_30 rfl) ?_
  refine qcons (qk_bipush dX3_isAskedFor_31 (by decide) (by decide)) ?_
  refine qcons (qk_icne dX3_isAskedFor_33 (by decide)) ?_
  refine qcons (qk_iconst dX3_isAskedFor_36 (by decide)) ?_
  refine qcons (qk_goto dX3_isAskedFor_37 (by decide)) ?_
  refine qcons (qk_iconst dX3_isAskedFor_40 (by decide)) ?_
  refine qcons (qk_ret dX3_isAskedFor_41 (Or.inr (Or.inl ⟨rfl, rfl⟩))) ?_
  exact qnil
theorem M_X3_isAskedFor {X : qX} {l : Launch} : qMet X l 1 yX3_isAskedFor cX3_isAskedFor 1 (some .boolean) S_X3_isAskedFor := qmet_of K_X3_isAskedFor (by decide) rfl rfl
theorem dX3_takesNumber_0 : decode cX3_takesNumber 0 = .ok (.iconst (-1), 1) := by decide +kernel
theorem dX3_takesNumber_1 : decode cX3_takesNumber 1 = .ok (.istore_n 1, 1) := by decide +kernel
theorem dX3_takesNumber_2 : decode cX3_takesNumber 2 = .ok (.iconst 0, 1) := by decide +kernel
theorem dX3_takesNumber_3 : decode cX3_takesNumber 3 = .ok (.istore_n 2, 1) := by decide +kernel
theorem dX3_takesNumber_4 : decode cX3_takesNumber 4 = .ok (.iload_n 2, 1) := by decide +kernel
theorem dX3_takesNumber_5 : decode cX3_takesNumber 5 = .ok (.iconst 2, 1) := by decide +kernel
theorem dX3_takesNumber_6 : decode cX3_takesNumber 6 = .ok (.if_icmp .ge 56, 3) := by decide +kernel
theorem dX3_takesNumber_9 : decode cX3_takesNumber 9 = .ok (.aload_n 0, 1) := by decide +kernel
theorem dX3_takesNumber_10 : decode cX3_takesNumber 10 = .ok (.invokevirtual 74, 3) := by decide +kernel
theorem dX3_takesNumber_13 : decode cX3_takesNumber 13 = .ok (.istore_n 3, 1) := by decide +kernel
theorem dX3_takesNumber_14 : decode cX3_takesNumber 14 = .ok (.iload_n 3, 1) := by decide +kernel
theorem dX3_takesNumber_15 : decode cX3_takesNumber 15 = .ok (.bipush 48, 2) := by decide +kernel
theorem dX3_takesNumber_17 : decode cX3_takesNumber 17 = .ok (.if_icmp .lt 9, 3) := by decide +kernel
theorem dX3_takesNumber_20 : decode cX3_takesNumber 20 = .ok (.iload_n 3, 1) := by decide +kernel
theorem dX3_takesNumber_21 : decode cX3_takesNumber 21 = .ok (.bipush 57, 2) := by decide +kernel
theorem dX3_takesNumber_23 : decode cX3_takesNumber 23 = .ok (.if_icmp .le 5, 3) := by decide +kernel
theorem dX3_takesNumber_26 : decode cX3_takesNumber 26 = .ok (.iload_n 1, 1) := by decide +kernel
theorem dX3_takesNumber_27 : decode cX3_takesNumber 27 = .ok (.ireturn, 1) := by decide +kernel
theorem dX3_takesNumber_28 : decode cX3_takesNumber 28 = .ok (.iload_n 2, 1) := by decide +kernel
theorem dX3_takesNumber_29 : decode cX3_takesNumber 29 = .ok (.ifCond .ne 7, 3) := by decide +kernel
theorem dX3_takesNumber_32 : decode cX3_takesNumber 32 = .ok (.iconst 0, 1) := by decide +kernel
theorem dX3_takesNumber_33 : decode cX3_takesNumber 33 = .ok (.goto 7, 3) := by decide +kernel
theorem dX3_takesNumber_36 : decode cX3_takesNumber 36 = .ok (.bipush 10, 2) := by decide +kernel
theorem dX3_takesNumber_38 : decode cX3_takesNumber 38 = .ok (.iload_n 1, 1) := by decide +kernel
theorem dX3_takesNumber_39 : decode cX3_takesNumber 39 = .ok (.imul, 1) := by decide +kernel
theorem dX3_takesNumber_40 : decode cX3_takesNumber 40 = .ok (.iload_n 3, 1) := by decide +kernel
theorem dX3_takesNumber_41 : decode cX3_takesNumber 41 = .ok (.iadd, 1) := by decide +kernel
theorem dX3_takesNumber_42 : decode cX3_takesNumber 42 = .ok (.bipush 48, 2) := by decide +kernel
theorem dX3_takesNumber_44 : decode cX3_takesNumber 44 = .ok (.isub, 1) := by decide +kernel
theorem dX3_takesNumber_45 : decode cX3_takesNumber 45 = .ok (.istore_n 1, 1) := by decide +kernel
theorem dX3_takesNumber_46 : decode cX3_takesNumber 46 = .ok (.aload_n 0, 1) := by decide +kernel
theorem dX3_takesNumber_47 : decode cX3_takesNumber 47 = .ok (.dup, 1) := by decide +kernel
theorem dX3_takesNumber_48 : decode cX3_takesNumber 48 = .ok (.getfield 64, 3) := by decide +kernel
theorem dX3_takesNumber_51 : decode cX3_takesNumber 51 = .ok (.iconst 1, 1) := by decide +kernel
theorem dX3_takesNumber_52 : decode cX3_takesNumber 52 = .ok (.iadd, 1) := by decide +kernel
theorem dX3_takesNumber_53 : decode cX3_takesNumber 53 = .ok (.putfield 64, 3) := by decide +kernel
theorem dX3_takesNumber_56 : decode cX3_takesNumber 56 = .ok (.iinc 2 1, 3) := by decide +kernel
theorem dX3_takesNumber_59 : decode cX3_takesNumber 59 = .ok (.goto (-55), 3) := by decide +kernel
theorem dX3_takesNumber_62 : decode cX3_takesNumber 62 = .ok (.iload_n 1, 1) := by decide +kernel
theorem dX3_takesNumber_63 : decode cX3_takesNumber 63 = .ok (.ireturn, 1) := by decide +kernel
noncomputable def C_X3_takesNumber : List (Nat × qOp) := [(0, qo_ci (-1) 1),
  (1, qo_istore 1 1),
  (2, qo_ci 0 1),
  (3, qo_istore 2 1),
  (4, qo_iload 2 1),
  (5, qo_ci 2 1),
  (6, qo_icge 62),
  (9, qo_aload 0 1),
  (10, qo_callv [(3, S_X3_next)] 0),
  (13, qo_istore 3 1),
  (14, qo_iload 3 1),
  (15, qo_ci 48 2),
  (17, qo_iclt 26),
  (20, qo_iload 3 1),
  (21, qo_ci 57 2),
  (23, qo_icle 28),
  (26, qo_iload 1 1),
  (27, qo_ret (some .int) 1),
  (28, qo_iload 2 1),
  (29, qo_ifne 36),
  (32, qo_ci 0 1),
  (33, qo_goto 40),
  (36, qo_ci 10 2),
  (38, qo_iload 1 1),
  (39, qo_imul),
  (40, qo_iload 3 1),
  (41, qo_iadd),
  (42, qo_ci 48 2),
  (44, qo_isub),
  (45, qo_istore 1 1),
  (46, qo_aload 0 1),
  (47, qo_dup),
  (48, qo_getI 3 6),
  (51, qo_ci 1 1),
  (52, qo_iadd),
  (53, qo_putI 3 6),
  (56, qo_iinc 2 1),
  (59, qo_goto 4),
  (62, qo_iload 1 1),
  (63, qo_ret (some .int) 1)]
noncomputable def S_X3_takesNumber : qSem := qM 4 C_X3_takesNumber
set_option maxRecDepth 20000 in
theorem K_X3_takesNumber {X : qX} {l : Launch} : ∀ q ∈ C_X3_takesNumber, qOk X l 2 cX3_takesNumber 4 RX3 "takesNumber" (some .int) q.1 q.2 := by
  unfold C_X3_takesNumber
  refine qcons (qk_iconst dX3_takesNumber_0 (by decide)) ?_
  refine qcons (qk_istore_n dX3_takesNumber_1 rfl) ?_
  refine qcons (qk_iconst dX3_takesNumber_2 (by decide)) ?_
  refine qcons (qk_istore_n dX3_takesNumber_3 rfl) ?_
  refine qcons (qk_iload_n dX3_takesNumber_4 rfl) ?_
  refine qcons (qk_iconst dX3_takesNumber_5 (by decide)) ?_
  refine qcons (qk_icge dX3_takesNumber_6 (by decide)) ?_
  refine qcons (qk_aload_n dX3_takesNumber_9 rfl) ?_
  refine qcons (qk_callv (ins := fun i => .invokevirtual i) (qconsV (qrunV M_X3_next (by decide) (by decide) (by decide) rfl tw_479 tw_481 tw_2 tw_482 tw_86 ⟨by decide, by decide⟩ (by decide +kernel)) qnilV) dX3_takesNumber_10) ?_
  refine qcons (qk_istore_n dX3_takesNumber_13 rfl) ?_
  refine qcons (qk_iload_n dX3_takesNumber_14 rfl) ?_
  refine qcons (qk_bipush dX3_takesNumber_15 (by decide) (by decide)) ?_
  refine qcons (qk_iclt dX3_takesNumber_17 (by decide)) ?_
  refine qcons (qk_iload_n dX3_takesNumber_20 rfl) ?_
  refine qcons (qk_bipush dX3_takesNumber_21 (by decide) (by decide)) ?_
  refine qcons (qk_icle dX3_takesNumber_23 (by decide)) ?_
  refine qcons (qk_iload_n dX3_takesNumber_26 rfl) ?_
  refine qcons (qk_ret dX3_takesNumber_27 (Or.inr (Or.inl ⟨rfl, rfl⟩))) ?_
  refine qcons (qk_iload_n dX3_takesNumber_28 rfl) ?_
  refine qcons (qk_ifne dX3_takesNumber_29 (by decide)) ?_
  refine qcons (qk_iconst dX3_takesNumber_32 (by decide)) ?_
  refine qcons (qk_goto dX3_takesNumber_33 (by decide)) ?_
  refine qcons (qk_bipush dX3_takesNumber_36 (by decide) (by decide)) ?_
  refine qcons (qk_iload_n dX3_takesNumber_38 rfl) ?_
  refine qcons (qk_imul dX3_takesNumber_39) ?_
  refine qcons (qk_iload_n dX3_takesNumber_40 rfl) ?_
  refine qcons (qk_iadd dX3_takesNumber_41) ?_
  refine qcons (qk_bipush dX3_takesNumber_42 (by decide) (by decide)) ?_
  refine qcons (qk_isub dX3_takesNumber_44) ?_
  refine qcons (qk_istore_n dX3_takesNumber_45 rfl) ?_
  refine qcons (qk_aload_n dX3_takesNumber_46 rfl) ?_
  refine qcons (qk_dup dX3_takesNumber_47) ?_
  refine qcons (qk_getI fd_X3_64 kd_3_6 dX3_takesNumber_48) ?_
  refine qcons (qk_iconst dX3_takesNumber_51 (by decide)) ?_
  refine qcons (qk_iadd dX3_takesNumber_52) ?_
  refine qcons (qk_putI (ty := .int) fd_X3_64 tyX3_ok nmX3 (Or.inl rfl) kd_3_6 (tyX3_ok 6 (by decide)) dX3_takesNumber_53) ?_
  refine qcons (qk_iinc dX3_takesNumber_56) ?_
  refine qcons (qk_goto dX3_takesNumber_59 (by decide)) ?_
  refine qcons (qk_iload_n dX3_takesNumber_62 rfl) ?_
  refine qcons (qk_ret dX3_takesNumber_63 (Or.inr (Or.inl ⟨rfl, rfl⟩))) ?_
  exact qnil
theorem M_X3_takesNumber {X : qX} {l : Launch} : qMet X l 2 yX3_takesNumber cX3_takesNumber 4 (some .int) S_X3_takesNumber := qmet_of K_X3_takesNumber (by decide) rfl rfl
theorem dX3_takesTest_0 : decode cX3_takesTest 0 = .ok (.aload_n 0, 1) := by decide +kernel
theorem dX3_takesTest_1 : decode cX3_takesTest 1 = .ok (.invokevirtual 74, 3) := by decide +kernel
theorem dX3_takesTest_4 : decode cX3_takesTest 4 = .ok (.istore_n 1, 1) := by decide +kernel
theorem dX3_takesTest_5 : decode cX3_takesTest 5 = .ok (.iload_n 1, 1) := by decide +kernel
theorem dX3_takesTest_6 : decode cX3_takesTest 6 = .ok (.invokestatic 130, 3) := by decide +kernel
theorem dX3_takesTest_9 : decode cX3_takesTest 9 = .ok (.ifCond .ne 5, 3) := by decide +kernel
theorem dX3_takesTest_12 : decode cX3_takesTest 12 = .ok (.iconst 0, 1) := by decide +kernel
theorem dX3_takesTest_13 : decode cX3_takesTest 13 = .ok (.ireturn, 1) := by decide +kernel
theorem dX3_takesTest_14 : decode cX3_takesTest 14 = .ok (.aload_n 0, 1) := by decide +kernel
theorem dX3_takesTest_15 : decode cX3_takesTest 15 = .ok (.dup, 1) := by decide +kernel
theorem dX3_takesTest_16 : decode cX3_takesTest 16 = .ok (.getfield 64, 3) := by decide +kernel
theorem dX3_takesTest_19 : decode cX3_takesTest 19 = .ok (.iconst 1, 1) := by decide +kernel
theorem dX3_takesTest_20 : decode cX3_takesTest 20 = .ok (.iadd, 1) := by decide +kernel
theorem dX3_takesTest_21 : decode cX3_takesTest 21 = .ok (.putfield 64, 3) := by decide +kernel
theorem dX3_takesTest_24 : decode cX3_takesTest 24 = .ok (.aload_n 0, 1) := by decide +kernel
theorem dX3_takesTest_25 : decode cX3_takesTest 25 = .ok (.invokevirtual 74, 3) := by decide +kernel
theorem dX3_takesTest_28 : decode cX3_takesTest 28 = .ok (.istore_n 2, 1) := by decide +kernel
theorem dX3_takesTest_29 : decode cX3_takesTest 29 = .ok (.iload_n 2, 1) := by decide +kernel
theorem dX3_takesTest_30 : decode cX3_takesTest 30 = .ok (.bipush 60, 2) := by decide +kernel
theorem dX3_takesTest_32 : decode cX3_takesTest 32 = .ok (.if_icmp .eq 17, 3) := by decide +kernel
theorem dX3_takesTest_35 : decode cX3_takesTest 35 = .ok (.iload_n 2, 1) := by decide +kernel
theorem dX3_takesTest_36 : decode cX3_takesTest 36 = .ok (.bipush 61, 2) := by decide +kernel
theorem dX3_takesTest_38 : decode cX3_takesTest 38 = .ok (.if_icmp .eq 11, 3) := by decide +kernel
theorem dX3_takesTest_41 : decode cX3_takesTest 41 = .ok (.iload_n 2, 1) := by decide +kernel
theorem dX3_takesTest_42 : decode cX3_takesTest 42 = .ok (.bipush 62, 2) := by decide +kernel
theorem dX3_takesTest_44 : decode cX3_takesTest 44 = .ok (.if_icmp .eq 5, 3) := by decide +kernel
theorem dX3_takesTest_47 : decode cX3_takesTest 47 = .ok (.iconst 0, 1) := by decide +kernel
theorem dX3_takesTest_48 : decode cX3_takesTest 48 = .ok (.ireturn, 1) := by decide +kernel
theorem dX3_takesTest_49 : decode cX3_takesTest 49 = .ok (.aload_n 0, 1) := by decide +kernel
theorem dX3_takesTest_50 : decode cX3_takesTest 50 = .ok (.dup, 1) := by decide +kernel
theorem dX3_takesTest_51 : decode cX3_takesTest 51 = .ok (.getfield 64, 3) := by decide +kernel
theorem dX3_takesTest_54 : decode cX3_takesTest 54 = .ok (.iconst 1, 1) := by decide +kernel
theorem dX3_takesTest_55 : decode cX3_takesTest 55 = .ok (.iadd, 1) := by decide +kernel
theorem dX3_takesTest_56 : decode cX3_takesTest 56 = .ok (.putfield 64, 3) := by decide +kernel
theorem dX3_takesTest_59 : decode cX3_takesTest 59 = .ok (.aload_n 0, 1) := by decide +kernel
theorem dX3_takesTest_60 : decode cX3_takesTest 60 = .ok (.invokevirtual 86, 3) := by decide +kernel
theorem dX3_takesTest_63 : decode cX3_takesTest 63 = .ok (.istore_n 3, 1) := by decide +kernel
theorem dX3_takesTest_64 : decode cX3_takesTest 64 = .ok (.iload_n 3, 1) := by decide +kernel
theorem dX3_takesTest_65 : decode cX3_takesTest 65 = .ok (.ifCond .ge 5, 3) := by decide +kernel
theorem dX3_takesTest_68 : decode cX3_takesTest 68 = .ok (.iconst 0, 1) := by decide +kernel
theorem dX3_takesTest_69 : decode cX3_takesTest 69 = .ok (.ireturn, 1) := by decide +kernel
theorem dX3_takesTest_70 : decode cX3_takesTest 70 = .ok (.aload_n 0, 1) := by decide +kernel
theorem dX3_takesTest_71 : decode cX3_takesTest 71 = .ok (.iload_n 1, 1) := by decide +kernel
theorem dX3_takesTest_72 : decode cX3_takesTest 72 = .ok (.iload_n 2, 1) := by decide +kernel
theorem dX3_takesTest_73 : decode cX3_takesTest 73 = .ok (.bipush 8, 2) := by decide +kernel
theorem dX3_takesTest_75 : decode cX3_takesTest 75 = .ok (.ishl, 1) := by decide +kernel
theorem dX3_takesTest_76 : decode cX3_takesTest 76 = .ok (.ior, 1) := by decide +kernel
theorem dX3_takesTest_77 : decode cX3_takesTest 77 = .ok (.iload_n 3, 1) := by decide +kernel
theorem dX3_takesTest_78 : decode cX3_takesTest 78 = .ok (.bipush 16, 2) := by decide +kernel
theorem dX3_takesTest_80 : decode cX3_takesTest 80 = .ok (.ishl, 1) := by decide +kernel
theorem dX3_takesTest_81 : decode cX3_takesTest 81 = .ok (.ior, 1) := by decide +kernel
theorem dX3_takesTest_82 : decode cX3_takesTest 82 = .ok (.invokevirtual 95, 3) := by decide +kernel
theorem dX3_takesTest_85 : decode cX3_takesTest 85 = .ok (.iconst 1, 1) := by decide +kernel
theorem dX3_takesTest_86 : decode cX3_takesTest 86 = .ok (.ireturn, 1) := by decide +kernel
noncomputable def C_X3_takesTest : List (Nat × qOp) := [(0, qo_aload 0 1),
  (1, qo_callv [(3, S_X3_next)] 0),
  (4, qo_istore 1 1),
  (5, qo_iload 1 1),
  (6, qo_calls S_X3_isAskedFor 1),
  (9, qo_ifne 14),
  (12, qo_ci 0 1),
  (13, qo_ret (some .boolean) 1),
  (14, qo_aload 0 1),
  (15, qo_dup),
  (16, qo_getI 3 6),
  (19, qo_ci 1 1),
  (20, qo_iadd),
  (21, qo_putI 3 6),
  (24, qo_aload 0 1),
  (25, qo_callv [(3, S_X3_next)] 0),
  (28, qo_istore 2 1),
  (29, qo_iload 2 1),
  (30, qo_ci 60 2),
  (32, qo_iceq 49),
  (35, qo_iload 2 1),
  (36, qo_ci 61 2),
  (38, qo_iceq 49),
  (41, qo_iload 2 1),
  (42, qo_ci 62 2),
  (44, qo_iceq 49),
  (47, qo_ci 0 1),
  (48, qo_ret (some .boolean) 1),
  (49, qo_aload 0 1),
  (50, qo_dup),
  (51, qo_getI 3 6),
  (54, qo_ci 1 1),
  (55, qo_iadd),
  (56, qo_putI 3 6),
  (59, qo_aload 0 1),
  (60, qo_callv [(3, S_X3_takesNumber)] 0),
  (63, qo_istore 3 1),
  (64, qo_iload 3 1),
  (65, qo_ifge 70),
  (68, qo_ci 0 1),
  (69, qo_ret (some .boolean) 1),
  (70, qo_aload 0 1),
  (71, qo_iload 1 1),
  (72, qo_iload 2 1),
  (73, qo_ci 8 2),
  (75, qo_ishl),
  (76, qo_ior),
  (77, qo_iload 3 1),
  (78, qo_ci 16 2),
  (80, qo_ishl),
  (81, qo_ior),
  (82, qo_callv [(3, S_X3_adds)] 1),
  (85, qo_ci 1 1),
  (86, qo_ret (some .boolean) 1)]
noncomputable def S_X3_takesTest : qSem := qM 4 C_X3_takesTest
set_option maxRecDepth 20000 in
theorem K_X3_takesTest {X : qX} {l : Launch} : ∀ q ∈ C_X3_takesTest, qOk X l 3 cX3_takesTest 4 RX3 "takesTest" (some .boolean) q.1 q.2 := by
  unfold C_X3_takesTest
  refine qcons (qk_aload_n dX3_takesTest_0 rfl) ?_
  refine qcons (qk_callv (ins := fun i => .invokevirtual i) (qconsV (qrunV M_X3_next (by decide) (by decide) (by decide) rfl tw_479 tw_481 tw_2 tw_482 tw_86 ⟨by decide, by decide⟩ (by decide +kernel)) qnilV) dX3_takesTest_1) ?_
  refine qcons (qk_istore_n dX3_takesTest_4 rfl) ?_
  refine qcons (qk_iload_n dX3_takesTest_5 rfl) ?_
  refine qcons (qk_calls (qrunS M_X3_isAskedFor (by decide) (by decide) tw_568 tw_569 tw_570 tw_86 ⟨by decide, by decide⟩ (by decide +kernel)) dX3_takesTest_6) ?_
  refine qcons (qk_ifne dX3_takesTest_9 (by decide)) ?_
  refine qcons (qk_iconst dX3_takesTest_12 (by decide)) ?_
  refine qcons (qk_ret dX3_takesTest_13 (Or.inr (Or.inl ⟨rfl, rfl⟩))) ?_
  refine qcons (qk_aload_n dX3_takesTest_14 rfl) ?_
  refine qcons (qk_dup dX3_takesTest_15) ?_
  refine qcons (qk_getI fd_X3_64 kd_3_6 dX3_takesTest_16) ?_
  refine qcons (qk_iconst dX3_takesTest_19 (by decide)) ?_
  refine qcons (qk_iadd dX3_takesTest_20) ?_
  refine qcons (qk_putI (ty := .int) fd_X3_64 tyX3_ok nmX3 (Or.inl rfl) kd_3_6 (tyX3_ok 6 (by decide)) dX3_takesTest_21) ?_
  refine qcons (qk_aload_n dX3_takesTest_24 rfl) ?_
  refine qcons (qk_callv (ins := fun i => .invokevirtual i) (qconsV (qrunV M_X3_next (by decide) (by decide) (by decide) rfl tw_479 tw_481 tw_2 tw_482 tw_86 ⟨by decide, by decide⟩ (by decide +kernel)) qnilV) dX3_takesTest_25) ?_
  refine qcons (qk_istore_n dX3_takesTest_28 rfl) ?_
  refine qcons (qk_iload_n dX3_takesTest_29 rfl) ?_
  refine qcons (qk_bipush dX3_takesTest_30 (by decide) (by decide)) ?_
  refine qcons (qk_iceq dX3_takesTest_32 (by decide)) ?_
  refine qcons (qk_iload_n dX3_takesTest_35 rfl) ?_
  refine qcons (qk_bipush dX3_takesTest_36 (by decide) (by decide)) ?_
  refine qcons (qk_iceq dX3_takesTest_38 (by decide)) ?_
  refine qcons (qk_iload_n dX3_takesTest_41 rfl) ?_
  refine qcons (qk_bipush dX3_takesTest_42 (by decide) (by decide)) ?_
  refine qcons (qk_iceq dX3_takesTest_44 (by decide)) ?_
  refine qcons (qk_iconst dX3_takesTest_47 (by decide)) ?_
  refine qcons (qk_ret dX3_takesTest_48 (Or.inr (Or.inl ⟨rfl, rfl⟩))) ?_
  refine qcons (qk_aload_n dX3_takesTest_49 rfl) ?_
  refine qcons (qk_dup dX3_takesTest_50) ?_
  refine qcons (qk_getI fd_X3_64 kd_3_6 dX3_takesTest_51) ?_
  refine qcons (qk_iconst dX3_takesTest_54 (by decide)) ?_
  refine qcons (qk_iadd dX3_takesTest_55) ?_
  refine qcons (qk_putI (ty := .int) fd_X3_64 tyX3_ok nmX3 (Or.inl rfl) kd_3_6 (tyX3_ok 6 (by decide)) dX3_takesTest_56) ?_
  refine qcons (qk_aload_n dX3_takesTest_59 rfl) ?_
  refine qcons (qk_callv (ins := fun i => .invokevirtual i) (qconsV (qrunV M_X3_takesNumber (by decide) (by decide) (by decide) rfl tw_547 tw_549 tw_4 tw_550 tw_86 ⟨by decide, by decide⟩ (by decide +kernel)) qnilV) dX3_takesTest_60) ?_
  refine qcons (qk_istore_n dX3_takesTest_63 rfl) ?_
  refine qcons (qk_iload_n dX3_takesTest_64 rfl) ?_
  refine qcons (qk_ifge dX3_takesTest_65 (by decide)) ?_
  refine qcons (qk_iconst dX3_takesTest_68 (by decide)) ?_
  refine qcons (qk_ret dX3_takesTest_69 (Or.inr (Or.inl ⟨rfl, rfl⟩))) ?_
  refine qcons (qk_aload_n dX3_takesTest_70 rfl) ?_
  refine qcons (qk_iload_n dX3_takesTest_71 rfl) ?_
  refine qcons (qk_iload_n dX3_takesTest_72 rfl) ?_
  refine qcons (qk_bipush dX3_takesTest_73 (by decide) (by decide)) ?_
  refine qcons (qk_ishl dX3_takesTest_75) ?_
  refine qcons (qk_ior dX3_takesTest_76) ?_
  refine qcons (qk_iload_n dX3_takesTest_77 rfl) ?_
  refine qcons (qk_bipush dX3_takesTest_78 (by decide) (by decide)) ?_
  refine qcons (qk_ishl dX3_takesTest_80) ?_
  refine qcons (qk_ior dX3_takesTest_81) ?_
  refine qcons (qk_callv (ins := fun i => .invokevirtual i) (qconsV (qrunV M_X3_adds (by decide) (by decide) (by decide) rfl tw_571 tw_573 tw_9 tw_574 tw_86 ⟨by decide, by decide⟩ (by decide +kernel)) qnilV) dX3_takesTest_82) ?_
  refine qcons (qk_iconst dX3_takesTest_85 (by decide)) ?_
  refine qcons (qk_ret dX3_takesTest_86 (Or.inr (Or.inl ⟨rfl, rfl⟩))) ?_
  exact qnil
theorem M_X3_takesTest {X : qX} {l : Launch} : qMet X l 3 yX3_takesTest cX3_takesTest 4 (some .boolean) S_X3_takesTest := qmet_of K_X3_takesTest (by decide) rfl rfl
theorem dX3_takesBoth_0 : decode cX3_takesBoth 0 = .ok (.aload_n 0, 1) := by decide +kernel
theorem dX3_takesBoth_1 : decode cX3_takesBoth 1 = .ok (.iload_n 1, 1) := by decide +kernel
theorem dX3_takesBoth_2 : decode cX3_takesBoth 2 = .ok (.invokevirtual 124, 3) := by decide +kernel
theorem dX3_takesBoth_5 : decode cX3_takesBoth 5 = .ok (.ifCond .ne 5, 3) := by decide +kernel
theorem dX3_takesBoth_8 : decode cX3_takesBoth 8 = .ok (.iconst 0, 1) := by decide +kernel
theorem dX3_takesBoth_9 : decode cX3_takesBoth 9 = .ok (.ireturn, 1) := by decide +kernel
theorem dX3_takesBoth_10 : decode cX3_takesBoth 10 = .ok (.iconst 0, 1) := by decide +kernel
theorem dX3_takesBoth_11 : decode cX3_takesBoth 11 = .ok (.istore_n 2, 1) := by decide +kernel
theorem dX3_takesBoth_12 : decode cX3_takesBoth 12 = .ok (.iload_n 2, 1) := by decide +kernel
theorem dX3_takesBoth_13 : decode cX3_takesBoth 13 = .ok (.bipush 100, 2) := by decide +kernel
theorem dX3_takesBoth_15 : decode cX3_takesBoth 15 = .ok (.if_icmp .ge 34, 3) := by decide +kernel
theorem dX3_takesBoth_18 : decode cX3_takesBoth 18 = .ok (.aload_n 0, 1) := by decide +kernel
theorem dX3_takesBoth_19 : decode cX3_takesBoth 19 = .ok (.bipush 38, 2) := by decide +kernel
theorem dX3_takesBoth_21 : decode cX3_takesBoth 21 = .ok (.invokevirtual 70, 3) := by decide +kernel
theorem dX3_takesBoth_24 : decode cX3_takesBoth 24 = .ok (.ifCond .eq 25, 3) := by decide +kernel
theorem dX3_takesBoth_27 : decode cX3_takesBoth 27 = .ok (.aload_n 0, 1) := by decide +kernel
theorem dX3_takesBoth_28 : decode cX3_takesBoth 28 = .ok (.iload_n 1, 1) := by decide +kernel
theorem dX3_takesBoth_29 : decode cX3_takesBoth 29 = .ok (.invokevirtual 124, 3) := by decide +kernel
theorem dX3_takesBoth_32 : decode cX3_takesBoth 32 = .ok (.ifCond .ne 5, 3) := by decide +kernel
theorem dX3_takesBoth_35 : decode cX3_takesBoth 35 = .ok (.iconst 0, 1) := by decide +kernel
theorem dX3_takesBoth_36 : decode cX3_takesBoth 36 = .ok (.ireturn, 1) := by decide +kernel
theorem dX3_takesBoth_37 : decode cX3_takesBoth 37 = .ok (.aload_n 0, 1) := by decide +kernel
theorem dX3_takesBoth_38 : decode cX3_takesBoth 38 = .ok (.bipush 38, 2) := by decide +kernel
theorem dX3_takesBoth_40 : decode cX3_takesBoth 40 = .ok (.invokevirtual 95, 3) := by decide +kernel
theorem dX3_takesBoth_43 : decode cX3_takesBoth 43 = .ok (.iinc 2 1, 3) := by decide +kernel
theorem dX3_takesBoth_46 : decode cX3_takesBoth 46 = .ok (.goto (-34), 3) := by decide +kernel
theorem dX3_takesBoth_49 : decode cX3_takesBoth 49 = .ok (.iconst 1, 1) := by decide +kernel
theorem dX3_takesBoth_50 : decode cX3_takesBoth 50 = .ok (.ireturn, 1) := by decide +kernel
noncomputable def C_X3_takesBoth (S_X3_takesOne : qSem) : List (Nat × qOp) := [(0, qo_aload 0 1),
  (1, qo_iload 1 1),
  (2, qo_callv [(3, S_X3_takesOne)] 1),
  (5, qo_ifne 10),
  (8, qo_ci 0 1),
  (9, qo_ret (some .boolean) 1),
  (10, qo_ci 0 1),
  (11, qo_istore 2 1),
  (12, qo_iload 2 1),
  (13, qo_ci 100 2),
  (15, qo_icge 49),
  (18, qo_aload 0 1),
  (19, qo_ci 38 2),
  (21, qo_callv [(3, S_X3_takesSign)] 1),
  (24, qo_ifeq 49),
  (27, qo_aload 0 1),
  (28, qo_iload 1 1),
  (29, qo_callv [(3, S_X3_takesOne)] 1),
  (32, qo_ifne 37),
  (35, qo_ci 0 1),
  (36, qo_ret (some .boolean) 1),
  (37, qo_aload 0 1),
  (38, qo_ci 38 2),
  (40, qo_callv [(3, S_X3_adds)] 1),
  (43, qo_iinc 2 1),
  (46, qo_goto 12),
  (49, qo_ci 1 1),
  (50, qo_ret (some .boolean) 1)]
set_option maxRecDepth 20000 in
theorem K_X3_takesBoth {X : qX} {l : Launch} {K : Nat} (hK : 10 ≤ K) {S_X3_takesOne : qSem} {k_X3_takesOne : Nat} (M_X3_takesOne : qMet X l k_X3_takesOne yX3_takesOne cX3_takesOne 4 (some .boolean) S_X3_takesOne) (h_X3_takesOne : k_X3_takesOne + 1 ≤ K) : ∀ q ∈ C_X3_takesBoth S_X3_takesOne, qOk X l K cX3_takesBoth 3 RX3 "takesBoth" (some .boolean) q.1 q.2 := by
  unfold C_X3_takesBoth
  refine qcons (qk_aload_n dX3_takesBoth_0 rfl) ?_
  refine qcons (qk_iload_n dX3_takesBoth_1 rfl) ?_
  refine qcons (qk_callv (ins := fun i => .invokevirtual i) (qconsV (qrunV M_X3_takesOne (by first | decide | omega) (by first | decide | omega) (by first | decide | omega) rfl tw_560 tw_562 tw_7 tw_563 tw_86 ⟨by decide, by decide⟩ (by decide +kernel)) qnilV) dX3_takesBoth_2) ?_
  refine qcons (qk_ifne dX3_takesBoth_5 (by first | decide | omega)) ?_
  refine qcons (qk_iconst dX3_takesBoth_8 (by first | decide | omega)) ?_
  refine qcons (qk_ret dX3_takesBoth_9 (Or.inr (Or.inl ⟨rfl, rfl⟩))) ?_
  refine qcons (qk_iconst dX3_takesBoth_10 (by first | decide | omega)) ?_
  refine qcons (qk_istore_n dX3_takesBoth_11 rfl) ?_
  refine qcons (qk_iload_n dX3_takesBoth_12 rfl) ?_
  refine qcons (qk_bipush dX3_takesBoth_13 (by first | decide | omega) (by first | decide | omega)) ?_
  refine qcons (qk_icge dX3_takesBoth_15 (by first | decide | omega)) ?_
  refine qcons (qk_aload_n dX3_takesBoth_18 rfl) ?_
  refine qcons (qk_bipush dX3_takesBoth_19 (by first | decide | omega) (by first | decide | omega)) ?_
  refine qcons (qk_callv (ins := fun i => .invokevirtual i) (qconsV (qrunV M_X3_takesSign (by first | decide | omega) (by first | decide | omega) (by first | decide | omega) rfl tw_475 tw_477 tw_1 tw_478 tw_86 ⟨by decide, by decide⟩ (by decide +kernel)) qnilV) dX3_takesBoth_21) ?_
  refine qcons (qk_ifeq dX3_takesBoth_24 (by first | decide | omega)) ?_
  refine qcons (qk_aload_n dX3_takesBoth_27 rfl) ?_
  refine qcons (qk_iload_n dX3_takesBoth_28 rfl) ?_
  refine qcons (qk_callv (ins := fun i => .invokevirtual i) (qconsV (qrunV M_X3_takesOne (by first | decide | omega) (by first | decide | omega) (by first | decide | omega) rfl tw_560 tw_562 tw_7 tw_563 tw_86 ⟨by decide, by decide⟩ (by decide +kernel)) qnilV) dX3_takesBoth_29) ?_
  refine qcons (qk_ifne dX3_takesBoth_32 (by first | decide | omega)) ?_
  refine qcons (qk_iconst dX3_takesBoth_35 (by first | decide | omega)) ?_
  refine qcons (qk_ret dX3_takesBoth_36 (Or.inr (Or.inl ⟨rfl, rfl⟩))) ?_
  refine qcons (qk_aload_n dX3_takesBoth_37 rfl) ?_
  refine qcons (qk_bipush dX3_takesBoth_38 (by first | decide | omega) (by first | decide | omega)) ?_
  refine qcons (qk_callv (ins := fun i => .invokevirtual i) (qconsV (qrunV M_X3_adds (by first | decide | omega) (by first | decide | omega) (by first | decide | omega) rfl tw_571 tw_573 tw_9 tw_574 tw_86 ⟨by decide, by decide⟩ (by decide +kernel)) qnilV) dX3_takesBoth_40) ?_
  refine qcons (qk_iinc dX3_takesBoth_43) ?_
  refine qcons (qk_goto dX3_takesBoth_46 (by first | decide | omega)) ?_
  refine qcons (qk_iconst dX3_takesBoth_49 (by first | decide | omega)) ?_
  refine qcons (qk_ret dX3_takesBoth_50 (Or.inr (Or.inl ⟨rfl, rfl⟩))) ?_
  exact qnil
theorem dX3_takesEither_0 : decode cX3_takesEither 0 = .ok (.aload_n 0, 1) := by decide +kernel
theorem dX3_takesEither_1 : decode cX3_takesEither 1 = .ok (.iload_n 1, 1) := by decide +kernel
theorem dX3_takesEither_2 : decode cX3_takesEither 2 = .ok (.invokevirtual 121, 3) := by decide +kernel
theorem dX3_takesEither_5 : decode cX3_takesEither 5 = .ok (.ifCond .ne 5, 3) := by decide +kernel
theorem dX3_takesEither_8 : decode cX3_takesEither 8 = .ok (.iconst 0, 1) := by decide +kernel
theorem dX3_takesEither_9 : decode cX3_takesEither 9 = .ok (.ireturn, 1) := by decide +kernel
theorem dX3_takesEither_10 : decode cX3_takesEither 10 = .ok (.iconst 0, 1) := by decide +kernel
theorem dX3_takesEither_11 : decode cX3_takesEither 11 = .ok (.istore_n 2, 1) := by decide +kernel
theorem dX3_takesEither_12 : decode cX3_takesEither 12 = .ok (.iload_n 2, 1) := by decide +kernel
theorem dX3_takesEither_13 : decode cX3_takesEither 13 = .ok (.bipush 100, 2) := by decide +kernel
theorem dX3_takesEither_15 : decode cX3_takesEither 15 = .ok (.if_icmp .ge 34, 3) := by decide +kernel
theorem dX3_takesEither_18 : decode cX3_takesEither 18 = .ok (.aload_n 0, 1) := by decide +kernel
theorem dX3_takesEither_19 : decode cX3_takesEither 19 = .ok (.bipush 124, 2) := by decide +kernel
theorem dX3_takesEither_21 : decode cX3_takesEither 21 = .ok (.invokevirtual 70, 3) := by decide +kernel
theorem dX3_takesEither_24 : decode cX3_takesEither 24 = .ok (.ifCond .eq 25, 3) := by decide +kernel
theorem dX3_takesEither_27 : decode cX3_takesEither 27 = .ok (.aload_n 0, 1) := by decide +kernel
theorem dX3_takesEither_28 : decode cX3_takesEither 28 = .ok (.iload_n 1, 1) := by decide +kernel
theorem dX3_takesEither_29 : decode cX3_takesEither 29 = .ok (.invokevirtual 121, 3) := by decide +kernel
theorem dX3_takesEither_32 : decode cX3_takesEither 32 = .ok (.ifCond .ne 5, 3) := by decide +kernel
theorem dX3_takesEither_35 : decode cX3_takesEither 35 = .ok (.iconst 0, 1) := by decide +kernel
theorem dX3_takesEither_36 : decode cX3_takesEither 36 = .ok (.ireturn, 1) := by decide +kernel
theorem dX3_takesEither_37 : decode cX3_takesEither 37 = .ok (.aload_n 0, 1) := by decide +kernel
theorem dX3_takesEither_38 : decode cX3_takesEither 38 = .ok (.bipush 124, 2) := by decide +kernel
theorem dX3_takesEither_40 : decode cX3_takesEither 40 = .ok (.invokevirtual 95, 3) := by decide +kernel
theorem dX3_takesEither_43 : decode cX3_takesEither 43 = .ok (.iinc 2 1, 3) := by decide +kernel
theorem dX3_takesEither_46 : decode cX3_takesEither 46 = .ok (.goto (-34), 3) := by decide +kernel
theorem dX3_takesEither_49 : decode cX3_takesEither 49 = .ok (.iconst 1, 1) := by decide +kernel
theorem dX3_takesEither_50 : decode cX3_takesEither 50 = .ok (.ireturn, 1) := by decide +kernel
noncomputable def C_X3_takesEither (S_X3_takesBoth : qSem) : List (Nat × qOp) := [(0, qo_aload 0 1),
  (1, qo_iload 1 1),
  (2, qo_callv [(3, S_X3_takesBoth)] 1),
  (5, qo_ifne 10),
  (8, qo_ci 0 1),
  (9, qo_ret (some .boolean) 1),
  (10, qo_ci 0 1),
  (11, qo_istore 2 1),
  (12, qo_iload 2 1),
  (13, qo_ci 100 2),
  (15, qo_icge 49),
  (18, qo_aload 0 1),
  (19, qo_ci 124 2),
  (21, qo_callv [(3, S_X3_takesSign)] 1),
  (24, qo_ifeq 49),
  (27, qo_aload 0 1),
  (28, qo_iload 1 1),
  (29, qo_callv [(3, S_X3_takesBoth)] 1),
  (32, qo_ifne 37),
  (35, qo_ci 0 1),
  (36, qo_ret (some .boolean) 1),
  (37, qo_aload 0 1),
  (38, qo_ci 124 2),
  (40, qo_callv [(3, S_X3_adds)] 1),
  (43, qo_iinc 2 1),
  (46, qo_goto 12),
  (49, qo_ci 1 1),
  (50, qo_ret (some .boolean) 1)]
set_option maxRecDepth 20000 in
theorem K_X3_takesEither {X : qX} {l : Launch} {K : Nat} (hK : 10 ≤ K) {S_X3_takesBoth : qSem} {k_X3_takesBoth : Nat} (M_X3_takesBoth : qMet X l k_X3_takesBoth yX3_takesBoth cX3_takesBoth 3 (some .boolean) S_X3_takesBoth) (h_X3_takesBoth : k_X3_takesBoth + 1 ≤ K) : ∀ q ∈ C_X3_takesEither S_X3_takesBoth, qOk X l K cX3_takesEither 3 RX3 "takesEither" (some .boolean) q.1 q.2 := by
  unfold C_X3_takesEither
  refine qcons (qk_aload_n dX3_takesEither_0 rfl) ?_
  refine qcons (qk_iload_n dX3_takesEither_1 rfl) ?_
  refine qcons (qk_callv (ins := fun i => .invokevirtual i) (qconsV (qrunV M_X3_takesBoth (by first | decide | omega) (by first | decide | omega) (by first | decide | omega) rfl tw_556 tw_558 tw_6 tw_559 tw_86 ⟨by decide, by decide⟩ (by decide +kernel)) qnilV) dX3_takesEither_2) ?_
  refine qcons (qk_ifne dX3_takesEither_5 (by first | decide | omega)) ?_
  refine qcons (qk_iconst dX3_takesEither_8 (by first | decide | omega)) ?_
  refine qcons (qk_ret dX3_takesEither_9 (Or.inr (Or.inl ⟨rfl, rfl⟩))) ?_
  refine qcons (qk_iconst dX3_takesEither_10 (by first | decide | omega)) ?_
  refine qcons (qk_istore_n dX3_takesEither_11 rfl) ?_
  refine qcons (qk_iload_n dX3_takesEither_12 rfl) ?_
  refine qcons (qk_bipush dX3_takesEither_13 (by first | decide | omega) (by first | decide | omega)) ?_
  refine qcons (qk_icge dX3_takesEither_15 (by first | decide | omega)) ?_
  refine qcons (qk_aload_n dX3_takesEither_18 rfl) ?_
  refine qcons (qk_bipush dX3_takesEither_19 (by first | decide | omega) (by first | decide | omega)) ?_
  refine qcons (qk_callv (ins := fun i => .invokevirtual i) (qconsV (qrunV M_X3_takesSign (by first | decide | omega) (by first | decide | omega) (by first | decide | omega) rfl tw_475 tw_477 tw_1 tw_478 tw_86 ⟨by decide, by decide⟩ (by decide +kernel)) qnilV) dX3_takesEither_21) ?_
  refine qcons (qk_ifeq dX3_takesEither_24 (by first | decide | omega)) ?_
  refine qcons (qk_aload_n dX3_takesEither_27 rfl) ?_
  refine qcons (qk_iload_n dX3_takesEither_28 rfl) ?_
  refine qcons (qk_callv (ins := fun i => .invokevirtual i) (qconsV (qrunV M_X3_takesBoth (by first | decide | omega) (by first | decide | omega) (by first | decide | omega) rfl tw_556 tw_558 tw_6 tw_559 tw_86 ⟨by decide, by decide⟩ (by decide +kernel)) qnilV) dX3_takesEither_29) ?_
  refine qcons (qk_ifne dX3_takesEither_32 (by first | decide | omega)) ?_
  refine qcons (qk_iconst dX3_takesEither_35 (by first | decide | omega)) ?_
  refine qcons (qk_ret dX3_takesEither_36 (Or.inr (Or.inl ⟨rfl, rfl⟩))) ?_
  refine qcons (qk_aload_n dX3_takesEither_37 rfl) ?_
  refine qcons (qk_bipush dX3_takesEither_38 (by first | decide | omega) (by first | decide | omega)) ?_
  refine qcons (qk_callv (ins := fun i => .invokevirtual i) (qconsV (qrunV M_X3_adds (by first | decide | omega) (by first | decide | omega) (by first | decide | omega) rfl tw_571 tw_573 tw_9 tw_574 tw_86 ⟨by decide, by decide⟩ (by decide +kernel)) qnilV) dX3_takesEither_40) ?_
  refine qcons (qk_iinc dX3_takesEither_43) ?_
  refine qcons (qk_goto dX3_takesEither_46 (by first | decide | omega)) ?_
  refine qcons (qk_iconst dX3_takesEither_49 (by first | decide | omega)) ?_
  refine qcons (qk_ret dX3_takesEither_50 (Or.inr (Or.inl ⟨rfl, rfl⟩))) ?_
  exact qnil
theorem dX3_takesOne_0 : decode cX3_takesOne 0 = .ok (.aload_n 0, 1) := by decide +kernel
theorem dX3_takesOne_1 : decode cX3_takesOne 1 = .ok (.invokevirtual 74, 3) := by decide +kernel
theorem dX3_takesOne_4 : decode cX3_takesOne 4 = .ok (.istore_n 2, 1) := by decide +kernel
theorem dX3_takesOne_5 : decode cX3_takesOne 5 = .ok (.iload_n 2, 1) := by decide +kernel
theorem dX3_takesOne_6 : decode cX3_takesOne 6 = .ok (.bipush 33, 2) := by decide +kernel
theorem dX3_takesOne_8 : decode cX3_takesOne 8 = .ok (.if_icmp .eq 14, 3) := by decide +kernel
theorem dX3_takesOne_11 : decode cX3_takesOne 11 = .ok (.iload_n 2, 1) := by decide +kernel
theorem dX3_takesOne_12 : decode cX3_takesOne 12 = .ok (.bipush 40, 2) := by decide +kernel
theorem dX3_takesOne_14 : decode cX3_takesOne 14 = .ok (.if_icmp .eq 8, 3) := by decide +kernel
theorem dX3_takesOne_17 : decode cX3_takesOne 17 = .ok (.aload_n 0, 1) := by decide +kernel
theorem dX3_takesOne_18 : decode cX3_takesOne 18 = .ok (.invokevirtual 127, 3) := by decide +kernel
theorem dX3_takesOne_21 : decode cX3_takesOne 21 = .ok (.ireturn, 1) := by decide +kernel
theorem dX3_takesOne_22 : decode cX3_takesOne 22 = .ok (.iload_n 1, 1) := by decide +kernel
theorem dX3_takesOne_23 : decode cX3_takesOne 23 = .ok (.iconst 4, 1) := by decide +kernel
theorem dX3_takesOne_24 : decode cX3_takesOne 24 = .ok (.if_icmp .lt 5, 3) := by decide +kernel
theorem dX3_takesOne_27 : decode cX3_takesOne 27 = .ok (.iconst 0, 1) := by decide +kernel
theorem dX3_takesOne_28 : decode cX3_takesOne 28 = .ok (.ireturn, 1) := by decide +kernel
theorem dX3_takesOne_29 : decode cX3_takesOne 29 = .ok (.aload_n 0, 1) := by decide +kernel
theorem dX3_takesOne_30 : decode cX3_takesOne 30 = .ok (.dup, 1) := by decide +kernel
theorem dX3_takesOne_31 : decode cX3_takesOne 31 = .ok (.getfield 64, 3) := by decide +kernel
theorem dX3_takesOne_34 : decode cX3_takesOne 34 = .ok (.iconst 1, 1) := by decide +kernel
theorem dX3_takesOne_35 : decode cX3_takesOne 35 = .ok (.iadd, 1) := by decide +kernel
theorem dX3_takesOne_36 : decode cX3_takesOne 36 = .ok (.putfield 64, 3) := by decide +kernel
theorem dX3_takesOne_39 : decode cX3_takesOne 39 = .ok (.iload_n 2, 1) := by decide +kernel
theorem dX3_takesOne_40 : decode cX3_takesOne 40 = .ok (.bipush 40, 2) := by decide +kernel
theorem dX3_takesOne_42 : decode cX3_takesOne 42 = .ok (.if_icmp .ne 28, 3) := by decide +kernel
theorem dX3_takesOne_45 : decode cX3_takesOne 45 = .ok (.aload_n 0, 1) := by decide +kernel
theorem dX3_takesOne_46 : decode cX3_takesOne 46 = .ok (.iload_n 1, 1) := by decide +kernel
theorem dX3_takesOne_47 : decode cX3_takesOne 47 = .ok (.iconst 1, 1) := by decide +kernel
theorem dX3_takesOne_48 : decode cX3_takesOne 48 = .ok (.iadd, 1) := by decide +kernel
theorem dX3_takesOne_49 : decode cX3_takesOne 49 = .ok (.invokevirtual 92, 3) := by decide +kernel
theorem dX3_takesOne_52 : decode cX3_takesOne 52 = .ok (.ifCond .eq 16, 3) := by decide +kernel
theorem dX3_takesOne_55 : decode cX3_takesOne 55 = .ok (.aload_n 0, 1) := by decide +kernel
theorem dX3_takesOne_56 : decode cX3_takesOne 56 = .ok (.bipush 41, 2) := by decide +kernel
theorem dX3_takesOne_58 : decode cX3_takesOne 58 = .ok (.invokevirtual 70, 3) := by decide +kernel
theorem dX3_takesOne_61 : decode cX3_takesOne 61 = .ok (.ifCond .eq 7, 3) := by decide +kernel
theorem dX3_takesOne_64 : decode cX3_takesOne 64 = .ok (.iconst 1, 1) := by decide +kernel
theorem dX3_takesOne_65 : decode cX3_takesOne 65 = .ok (.goto 4, 3) := by decide +kernel
theorem dX3_takesOne_68 : decode cX3_takesOne 68 = .ok (.iconst 0, 1) := by decide +kernel
theorem dX3_takesOne_69 : decode cX3_takesOne 69 = .ok (.ireturn, 1) := by decide +kernel
theorem dX3_takesOne_70 : decode cX3_takesOne 70 = .ok (.aload_n 0, 1) := by decide +kernel
theorem dX3_takesOne_71 : decode cX3_takesOne 71 = .ok (.iload_n 1, 1) := by decide +kernel
theorem dX3_takesOne_72 : decode cX3_takesOne 72 = .ok (.iconst 1, 1) := by decide +kernel
theorem dX3_takesOne_73 : decode cX3_takesOne 73 = .ok (.iadd, 1) := by decide +kernel
theorem dX3_takesOne_74 : decode cX3_takesOne 74 = .ok (.invokevirtual 124, 3) := by decide +kernel
theorem dX3_takesOne_77 : decode cX3_takesOne 77 = .ok (.istore_n 3, 1) := by decide +kernel
theorem dX3_takesOne_78 : decode cX3_takesOne 78 = .ok (.aload_n 0, 1) := by decide +kernel
theorem dX3_takesOne_79 : decode cX3_takesOne 79 = .ok (.bipush 33, 2) := by decide +kernel
theorem dX3_takesOne_81 : decode cX3_takesOne 81 = .ok (.invokevirtual 95, 3) := by decide +kernel
theorem dX3_takesOne_84 : decode cX3_takesOne 84 = .ok (.iload_n 3, 1) := by decide +kernel
theorem dX3_takesOne_85 : decode cX3_takesOne 85 = .ok (.ireturn, 1) := by decide +kernel
noncomputable def C_X3_takesOne (S_X3_takesEither : qSem) (S_X3_takesOne : qSem) : List (Nat × qOp) := [(0, qo_aload 0 1),
  (1, qo_callv [(3, S_X3_next)] 0),
  (4, qo_istore 2 1),
  (5, qo_iload 2 1),
  (6, qo_ci 33 2),
  (8, qo_iceq 22),
  (11, qo_iload 2 1),
  (12, qo_ci 40 2),
  (14, qo_iceq 22),
  (17, qo_aload 0 1),
  (18, qo_callv [(3, S_X3_takesTest)] 0),
  (21, qo_ret (some .boolean) 1),
  (22, qo_iload 1 1),
  (23, qo_ci 4 1),
  (24, qo_iclt 29),
  (27, qo_ci 0 1),
  (28, qo_ret (some .boolean) 1),
  (29, qo_aload 0 1),
  (30, qo_dup),
  (31, qo_getI 3 6),
  (34, qo_ci 1 1),
  (35, qo_iadd),
  (36, qo_putI 3 6),
  (39, qo_iload 2 1),
  (40, qo_ci 40 2),
  (42, qo_icne 70),
  (45, qo_aload 0 1),
  (46, qo_iload 1 1),
  (47, qo_ci 1 1),
  (48, qo_iadd),
  (49, qo_callv [(3, S_X3_takesEither)] 1),
  (52, qo_ifeq 68),
  (55, qo_aload 0 1),
  (56, qo_ci 41 2),
  (58, qo_callv [(3, S_X3_takesSign)] 1),
  (61, qo_ifeq 68),
  (64, qo_ci 1 1),
  (65, qo_goto 69),
  (68, qo_ci 0 1),
  (69, qo_ret (some .boolean) 1),
  (70, qo_aload 0 1),
  (71, qo_iload 1 1),
  (72, qo_ci 1 1),
  (73, qo_iadd),
  (74, qo_callv [(3, S_X3_takesOne)] 1),
  (77, qo_istore 3 1),
  (78, qo_aload 0 1),
  (79, qo_ci 33 2),
  (81, qo_callv [(3, S_X3_adds)] 1),
  (84, qo_iload 3 1),
  (85, qo_ret (some .boolean) 1)]
set_option maxRecDepth 20000 in
theorem K_X3_takesOne {X : qX} {l : Launch} {K : Nat} (hK : 10 ≤ K) {S_X3_takesEither : qSem} {k_X3_takesEither : Nat} (M_X3_takesEither : qMet X l k_X3_takesEither yX3_takesEither cX3_takesEither 3 (some .boolean) S_X3_takesEither) (h_X3_takesEither : k_X3_takesEither + 1 ≤ K) {S_X3_takesOne : qSem} {k_X3_takesOne : Nat} (M_X3_takesOne : qMet X l k_X3_takesOne yX3_takesOne cX3_takesOne 4 (some .boolean) S_X3_takesOne) (h_X3_takesOne : k_X3_takesOne + 1 ≤ K) : ∀ q ∈ C_X3_takesOne S_X3_takesEither S_X3_takesOne, qOk X l K cX3_takesOne 4 RX3 "takesOne" (some .boolean) q.1 q.2 := by
  unfold C_X3_takesOne
  refine qcons (qk_aload_n dX3_takesOne_0 rfl) ?_
  refine qcons (qk_callv (ins := fun i => .invokevirtual i) (qconsV (qrunV M_X3_next (by first | decide | omega) (by first | decide | omega) (by first | decide | omega) rfl tw_479 tw_481 tw_2 tw_482 tw_86 ⟨by decide, by decide⟩ (by decide +kernel)) qnilV) dX3_takesOne_1) ?_
  refine qcons (qk_istore_n dX3_takesOne_4 rfl) ?_
  refine qcons (qk_iload_n dX3_takesOne_5 rfl) ?_
  refine qcons (qk_bipush dX3_takesOne_6 (by first | decide | omega) (by first | decide | omega)) ?_
  refine qcons (qk_iceq dX3_takesOne_8 (by first | decide | omega)) ?_
  refine qcons (qk_iload_n dX3_takesOne_11 rfl) ?_
  refine qcons (qk_bipush dX3_takesOne_12 (by first | decide | omega) (by first | decide | omega)) ?_
  refine qcons (qk_iceq dX3_takesOne_14 (by first | decide | omega)) ?_
  refine qcons (qk_aload_n dX3_takesOne_17 rfl) ?_
  refine qcons (qk_callv (ins := fun i => .invokevirtual i) (qconsV (qrunV M_X3_takesTest (by first | decide | omega) (by first | decide | omega) (by first | decide | omega) rfl tw_564 tw_566 tw_8 tw_567 tw_86 ⟨by decide, by decide⟩ (by decide +kernel)) qnilV) dX3_takesOne_18) ?_
  refine qcons (qk_ret dX3_takesOne_21 (Or.inr (Or.inl ⟨rfl, rfl⟩))) ?_
  refine qcons (qk_iload_n dX3_takesOne_22 rfl) ?_
  refine qcons (qk_iconst dX3_takesOne_23 (by first | decide | omega)) ?_
  refine qcons (qk_iclt dX3_takesOne_24 (by first | decide | omega)) ?_
  refine qcons (qk_iconst dX3_takesOne_27 (by first | decide | omega)) ?_
  refine qcons (qk_ret dX3_takesOne_28 (Or.inr (Or.inl ⟨rfl, rfl⟩))) ?_
  refine qcons (qk_aload_n dX3_takesOne_29 rfl) ?_
  refine qcons (qk_dup dX3_takesOne_30) ?_
  refine qcons (qk_getI fd_X3_64 kd_3_6 dX3_takesOne_31) ?_
  refine qcons (qk_iconst dX3_takesOne_34 (by first | decide | omega)) ?_
  refine qcons (qk_iadd dX3_takesOne_35) ?_
  refine qcons (qk_putI (ty := .int) fd_X3_64 tyX3_ok nmX3 (Or.inl rfl) kd_3_6 (tyX3_ok 6 (by first | decide | omega)) dX3_takesOne_36) ?_
  refine qcons (qk_iload_n dX3_takesOne_39 rfl) ?_
  refine qcons (qk_bipush dX3_takesOne_40 (by first | decide | omega) (by first | decide | omega)) ?_
  refine qcons (qk_icne dX3_takesOne_42 (by first | decide | omega)) ?_
  refine qcons (qk_aload_n dX3_takesOne_45 rfl) ?_
  refine qcons (qk_iload_n dX3_takesOne_46 rfl) ?_
  refine qcons (qk_iconst dX3_takesOne_47 (by first | decide | omega)) ?_
  refine qcons (qk_iadd dX3_takesOne_48) ?_
  refine qcons (qk_callv (ins := fun i => .invokevirtual i) (qconsV (qrunV M_X3_takesEither (by first | decide | omega) (by first | decide | omega) (by first | decide | omega) rfl tw_552 tw_554 tw_5 tw_555 tw_86 ⟨by decide, by decide⟩ (by decide +kernel)) qnilV) dX3_takesOne_49) ?_
  refine qcons (qk_ifeq dX3_takesOne_52 (by first | decide | omega)) ?_
  refine qcons (qk_aload_n dX3_takesOne_55 rfl) ?_
  refine qcons (qk_bipush dX3_takesOne_56 (by first | decide | omega) (by first | decide | omega)) ?_
  refine qcons (qk_callv (ins := fun i => .invokevirtual i) (qconsV (qrunV M_X3_takesSign (by first | decide | omega) (by first | decide | omega) (by first | decide | omega) rfl tw_475 tw_477 tw_1 tw_478 tw_86 ⟨by decide, by decide⟩ (by decide +kernel)) qnilV) dX3_takesOne_58) ?_
  refine qcons (qk_ifeq dX3_takesOne_61 (by first | decide | omega)) ?_
  refine qcons (qk_iconst dX3_takesOne_64 (by first | decide | omega)) ?_
  refine qcons (qk_goto dX3_takesOne_65 (by first | decide | omega)) ?_
  refine qcons (qk_iconst dX3_takesOne_68 (by first | decide | omega)) ?_
  refine qcons (qk_ret dX3_takesOne_69 (Or.inr (Or.inl ⟨rfl, rfl⟩))) ?_
  refine qcons (qk_aload_n dX3_takesOne_70 rfl) ?_
  refine qcons (qk_iload_n dX3_takesOne_71 rfl) ?_
  refine qcons (qk_iconst dX3_takesOne_72 (by first | decide | omega)) ?_
  refine qcons (qk_iadd dX3_takesOne_73) ?_
  refine qcons (qk_callv (ins := fun i => .invokevirtual i) (qconsV (qrunV M_X3_takesOne (by first | decide | omega) (by first | decide | omega) (by first | decide | omega) rfl tw_560 tw_562 tw_7 tw_563 tw_86 ⟨by decide, by decide⟩ (by decide +kernel)) qnilV) dX3_takesOne_74) ?_
  refine qcons (qk_istore_n dX3_takesOne_77 rfl) ?_
  refine qcons (qk_aload_n dX3_takesOne_78 rfl) ?_
  refine qcons (qk_bipush dX3_takesOne_79 (by first | decide | omega) (by first | decide | omega)) ?_
  refine qcons (qk_callv (ins := fun i => .invokevirtual i) (qconsV (qrunV M_X3_adds (by first | decide | omega) (by first | decide | omega) (by first | decide | omega) rfl tw_571 tw_573 tw_9 tw_574 tw_86 ⟨by decide, by decide⟩ (by decide +kernel)) qnilV) dX3_takesOne_81) ?_
  refine qcons (qk_iload_n dX3_takesOne_84 rfl) ?_
  refine qcons (qk_ret dX3_takesOne_85 (Or.inr (Or.inl ⟨rfl, rfl⟩))) ?_
  exact qnil
noncomputable def qone : Nat → qSem
  | 0 => fun _ _ => none
  | d + 1 => qM 4 (C_X3_takesOne (qM 3 (C_X3_takesEither (qM 3 (C_X3_takesBoth (qone d))))) (qone d))
noncomputable def qboth (d : Nat) : qSem := qM 3 (C_X3_takesBoth (qone d))
noncomputable def qeith (d : Nat) : qSem := qM 3 (C_X3_takesEither (qboth d))
theorem qone_succ (d : Nat) : qone (d + 1) = qM 4 (C_X3_takesOne (qeith d) (qone d)) := rfl
theorem M_both {X : qX} {l : Launch} {d k : Nat} (hk : 10 ≤ k) (h : qMet X l k yX3_takesOne cX3_takesOne 4 (some .boolean) (qone d)) : qMet X l (k + 1) yX3_takesBoth cX3_takesBoth 3 (some .boolean) (qboth d) := qmet_of (K_X3_takesBoth (K := k + 1) (by omega) h (by omega)) (by decide) rfl rfl
theorem M_eith {X : qX} {l : Launch} {d k : Nat} (hk : 10 ≤ k) (h : qMet X l k yX3_takesBoth cX3_takesBoth 3 (some .boolean) (qboth d)) : qMet X l (k + 1) yX3_takesEither cX3_takesEither 3 (some .boolean) (qeith d) := qmet_of (K_X3_takesEither (K := k + 1) (by omega) h (by omega)) (by decide) rfl rfl
theorem M_one {X : qX} {l : Launch} : ∀ d : Nat, qMet X l (10 + 3 * d) yX3_takesOne cX3_takesOne 4 (some .boolean) (qone d)
  | 0 => ⟨fun _ _ _ _ h => (by cases h), fun _ _ _ _ _ h => (by cases h)⟩
  | d + 1 => by
    have h := M_one (X := X) (l := l) d
    have h2 := M_both (by omega) h
    have h3 := M_eith (by omega) h2
    rw [qone_succ]
    exact qmet_of (K_X3_takesOne (K := 10 + 3 * (d + 1)) (by omega) h3 (by omega) h (by omega)) (by decide) rfl rfl
noncomputable def S_X3_takesEither : qSem := qeith 5
theorem M_X3_takesEither {X : qX} {l : Launch} : qMet X l 27 yX3_takesEither cX3_takesEither 3 (some .boolean) S_X3_takesEither := M_eith (by decide) (M_both (by decide) (M_one 5))
theorem dJ0_isLatin1_aae02_0 : decode cJ0_isLatin1_aae02 0 = .ok (.getstatic 38, 3) := by decide +kernel
theorem dJ0_isLatin1_aae02_3 : decode cJ0_isLatin1_aae02 3 = .ok (.ifCond .eq 14, 3) := by decide +kernel
theorem dJ0_isLatin1_aae02_6 : decode cJ0_isLatin1_aae02 6 = .ok (.aload_n 0, 1) := by decide +kernel
theorem dJ0_isLatin1_aae02_7 : decode cJ0_isLatin1_aae02 7 = .ok (.getfield 15, 3) := by decide +kernel
theorem dJ0_isLatin1_aae02_10 : decode cJ0_isLatin1_aae02 10 = .ok (.ifCond .ne 7, 3) := by decide +kernel
theorem dJ0_isLatin1_aae02_13 : decode cJ0_isLatin1_aae02 13 = .ok (.iconst 1, 1) := by decide +kernel
theorem dJ0_isLatin1_aae02_14 : decode cJ0_isLatin1_aae02 14 = .ok (.goto 4, 3) := by decide +kernel
theorem dJ0_isLatin1_aae02_17 : decode cJ0_isLatin1_aae02 17 = .ok (.iconst 0, 1) := by decide +kernel
theorem dJ0_isLatin1_aae02_18 : decode cJ0_isLatin1_aae02 18 = .ok (.ireturn, 1) := by decide +kernel
noncomputable def C_J0_isLatin1_aae02 : List (Nat × qOp) := [(0, qo_push (qI 1) 3),
  (3, qo_ifeq 17),
  (6, qo_aload 0 1),
  (7, qo_xcod),
  (10, qo_ifne 17),
  (13, qo_ci 1 1),
  (14, qo_goto 18),
  (17, qo_ci 0 1),
  (18, qo_ret (some .boolean) 1)]
noncomputable def S_J0_isLatin1_aae02 : qSem := qM 1 C_J0_isLatin1_aae02
set_option maxRecDepth 20000 in
theorem K_J0_isLatin1_aae02 {X : qX} {l : Launch} : ∀ q ∈ C_J0_isLatin1_aae02, qOk X l 1 cJ0_isLatin1_aae02 1 RJ0 "isLatin1" (some .boolean) q.1 q.2 := by
  unfold C_J0_isLatin1_aae02
  refine qcons (qk_gstat ⟨by decide, by decide⟩ (fun _ _ => qz_compact) tw_503 dJ0_isLatin1_aae02_0) ?_
  refine qcons (qk_ifeq dJ0_isLatin1_aae02_3 (by decide)) ?_
  refine qcons (qk_aload_n dJ0_isLatin1_aae02_6 rfl) ?_
  refine qcons (qk_xcod tw_1461 dJ0_isLatin1_aae02_7) ?_
  refine qcons (qk_ifne dJ0_isLatin1_aae02_10 (by decide)) ?_
  refine qcons (qk_iconst dJ0_isLatin1_aae02_13 (by decide)) ?_
  refine qcons (qk_goto dJ0_isLatin1_aae02_14 (by decide)) ?_
  refine qcons (qk_iconst dJ0_isLatin1_aae02_17 (by decide)) ?_
  refine qcons (qk_ret dJ0_isLatin1_aae02_18 (Or.inr (Or.inl ⟨rfl, rfl⟩))) ?_
  exact qnil
theorem M_J0_isLatin1_aae02 {X : qX} {l : Launch} : qMet X l 1 yJ0_isLatin1_aae02 cJ0_isLatin1_aae02 1 (some .boolean) S_J0_isLatin1_aae02 := qmet_of K_J0_isLatin1_aae02 (by decide) rfl rfl
theorem dJ3_checkIndex_8e157_0 : decode cJ3_checkIndex_8e157 0 = .ok (.iload_n 0, 1) := by decide +kernel
theorem dJ3_checkIndex_8e157_1 : decode cJ3_checkIndex_8e157 1 = .ok (.ifCond .lt 8, 3) := by decide +kernel
theorem dJ3_checkIndex_8e157_4 : decode cJ3_checkIndex_8e157 4 = .ok (.iload_n 0, 1) := by decide +kernel
theorem dJ3_checkIndex_8e157_5 : decode cJ3_checkIndex_8e157 5 = .ok (.iload_n 1, 1) := by decide +kernel
theorem dJ3_checkIndex_8e157_6 : decode cJ3_checkIndex_8e157 6 = .ok (.if_icmp .lt 10, 3) := by decide +kernel
theorem dJ3_checkIndex_8e157_9 : decode cJ3_checkIndex_8e157 9 = .ok (.aload_n 2, 1) := by decide +kernel
theorem dJ3_checkIndex_8e157_10 : decode cJ3_checkIndex_8e157 10 = .ok (.iload_n 0, 1) := by decide +kernel
theorem dJ3_checkIndex_8e157_11 : decode cJ3_checkIndex_8e157 11 = .ok (.iload_n 1, 1) := by decide +kernel
theorem dJ3_checkIndex_8e157_12 : decode cJ3_checkIndex_8e157 12 = .ok (.invokestatic 95, 3) := by decide +kernel
theorem dJ3_checkIndex_8e157_15 : decode cJ3_checkIndex_8e157 15 = .ok (.athrow, 1) := by decide +kernel
theorem dJ3_checkIndex_8e157_16 : decode cJ3_checkIndex_8e157 16 = .ok (.iload_n 0, 1) := by decide +kernel
theorem dJ3_checkIndex_8e157_17 : decode cJ3_checkIndex_8e157 17 = .ok (.ireturn, 1) := by decide +kernel
noncomputable def C_J3_checkIndex_8e157 : List (Nat × qOp) := [(0, qo_iload 0 1),
  (1, qo_iflt 9),
  (4, qo_iload 0 1),
  (5, qo_iload 1 1),
  (6, qo_iclt 16),
  (9, qo_aload 2 1),
  (10, qo_iload 0 1),
  (11, qo_iload 1 1),
  (16, qo_iload 0 1),
  (17, qo_ret (some .int) 1)]
noncomputable def S_J3_checkIndex_8e157 : qSem := qM 3 C_J3_checkIndex_8e157
set_option maxRecDepth 20000 in
theorem K_J3_checkIndex_8e157 {X : qX} {l : Launch} : ∀ q ∈ C_J3_checkIndex_8e157, qOk X l 1 cJ3_checkIndex_8e157 3 RJ3 "checkIndex" (some .int) q.1 q.2 := by
  unfold C_J3_checkIndex_8e157
  refine qcons (qk_iload_n dJ3_checkIndex_8e157_0 rfl) ?_
  refine qcons (qk_iflt dJ3_checkIndex_8e157_1 (by decide)) ?_
  refine qcons (qk_iload_n dJ3_checkIndex_8e157_4 rfl) ?_
  refine qcons (qk_iload_n dJ3_checkIndex_8e157_5 rfl) ?_
  refine qcons (qk_iclt dJ3_checkIndex_8e157_6 (by decide)) ?_
  refine qcons (qk_aload_n dJ3_checkIndex_8e157_9 rfl) ?_
  refine qcons (qk_iload_n dJ3_checkIndex_8e157_10 rfl) ?_
  refine qcons (qk_iload_n dJ3_checkIndex_8e157_11 rfl) ?_
  refine qcons (qk_iload_n dJ3_checkIndex_8e157_16 rfl) ?_
  refine qcons (qk_ret dJ3_checkIndex_8e157_17 (Or.inr (Or.inl ⟨rfl, rfl⟩))) ?_
  exact qnil
theorem M_J3_checkIndex_8e157 {X : qX} {l : Launch} : qMet X l 1 yJ3_checkIndex_8e157 cJ3_checkIndex_8e157 3 (some .int) S_J3_checkIndex_8e157 := qmet_of K_J3_checkIndex_8e157 (by decide) rfl rfl
theorem dJ0_checkIndex_df160_0 : decode cJ0_checkIndex_df160 0 = .ok (.iload_n 0, 1) := by decide +kernel
theorem dJ0_checkIndex_df160_1 : decode cJ0_checkIndex_df160 1 = .ok (.iload_n 1, 1) := by decide +kernel
theorem dJ0_checkIndex_df160_2 : decode cJ0_checkIndex_df160 2 = .ok (.getstatic 1053, 3) := by decide +kernel
theorem dJ0_checkIndex_df160_5 : decode cJ0_checkIndex_df160 5 = .ok (.invokestatic 1059, 3) := by decide +kernel
theorem dJ0_checkIndex_df160_8 : decode cJ0_checkIndex_df160 8 = .ok (.pop, 1) := by decide +kernel
theorem dJ0_checkIndex_df160_9 : decode cJ0_checkIndex_df160 9 = .ok (.return_, 1) := by decide +kernel
noncomputable def C_J0_checkIndex_df160 : List (Nat × qOp) := [(0, qo_iload 0 1),
  (1, qo_iload 1 1),
  (2, qo_push (qA (-12)) 3),
  (5, qo_calls S_J3_checkIndex_8e157 3),
  (8, qo_pop),
  (9, qo_ret none 0)]
noncomputable def S_J0_checkIndex_df160 : qSem := qM 2 C_J0_checkIndex_df160
set_option maxRecDepth 20000 in
theorem K_J0_checkIndex_df160 {X : qX} {l : Launch} : ∀ q ∈ C_J0_checkIndex_df160, qOk X l 2 cJ0_checkIndex_df160 2 RJ0 "checkIndex" none q.1 q.2 := by
  unfold C_J0_checkIndex_df160
  refine qcons (qk_iload_n dJ0_checkIndex_df160_0 rfl) ?_
  refine qcons (qk_iload_n dJ0_checkIndex_df160_1 rfl) ?_
  refine qcons (qk_gstat trivial (fun _ _ => qz_format) tw_519 dJ0_checkIndex_df160_2) ?_
  refine qcons (qk_calls (qrunS M_J3_checkIndex_8e157 (by decide) (by decide) tw_521 tw_522 tw_523 tw_95 ⟨by decide, by decide⟩ (by decide +kernel)) dJ0_checkIndex_df160_5) ?_
  refine qcons (qk_pop dJ0_checkIndex_df160_8) ?_
  refine qcons (qk_ret dJ0_checkIndex_df160_9 (Or.inl ⟨rfl, rfl⟩)) ?_
  exact qnil
theorem M_J0_checkIndex_df160 {X : qX} {l : Launch} : qMet X l 2 yJ0_checkIndex_df160 cJ0_checkIndex_df160 2 none S_J0_checkIndex_df160 := qmet_of K_J0_checkIndex_df160 (by decide) rfl rfl
theorem dJ1_charAt_3b067_0 : decode cJ1_charAt_3b067 0 = .ok (.iload_n 1, 1) := by decide +kernel
theorem dJ1_charAt_3b067_1 : decode cJ1_charAt_3b067 1 = .ok (.aload_n 0, 1) := by decide +kernel
theorem dJ1_charAt_3b067_2 : decode cJ1_charAt_3b067 2 = .ok (.arraylength, 1) := by decide +kernel
theorem dJ1_charAt_3b067_3 : decode cJ1_charAt_3b067 3 = .ok (.invokestatic 9, 3) := by decide +kernel
theorem dJ1_charAt_3b067_6 : decode cJ1_charAt_3b067 6 = .ok (.aload_n 0, 1) := by decide +kernel
theorem dJ1_charAt_3b067_7 : decode cJ1_charAt_3b067 7 = .ok (.iload_n 1, 1) := by decide +kernel
theorem dJ1_charAt_3b067_8 : decode cJ1_charAt_3b067 8 = .ok (.baload, 1) := by decide +kernel
theorem dJ1_charAt_3b067_9 : decode cJ1_charAt_3b067 9 = .ok (.sipush 255, 3) := by decide +kernel
theorem dJ1_charAt_3b067_12 : decode cJ1_charAt_3b067 12 = .ok (.iand, 1) := by decide +kernel
theorem dJ1_charAt_3b067_13 : decode cJ1_charAt_3b067 13 = .ok (.i2c, 1) := by decide +kernel
theorem dJ1_charAt_3b067_14 : decode cJ1_charAt_3b067 14 = .ok (.ireturn, 1) := by decide +kernel
noncomputable def C_J1_charAt_3b067 : List (Nat × qOp) := [(0, qo_iload 1 1),
  (1, qo_aload 0 1),
  (2, qo_xlen),
  (3, qo_calls S_J0_checkIndex_df160 2),
  (6, qo_aload 0 1),
  (7, qo_iload 1 1),
  (8, qo_xbal),
  (9, qo_ci 255 3),
  (12, qo_iand),
  (13, qo_i2c),
  (14, qo_ret (some .char) 1)]
noncomputable def S_J1_charAt_3b067 : qSem := qM 2 C_J1_charAt_3b067
set_option maxRecDepth 20000 in
theorem K_J1_charAt_3b067 {X : qX} {l : Launch} : ∀ q ∈ C_J1_charAt_3b067, qOk X l 3 cJ1_charAt_3b067 2 RJ1 "charAt" (some .char) q.1 q.2 := by
  unfold C_J1_charAt_3b067
  refine qcons (qk_iload_n dJ1_charAt_3b067_0 rfl) ?_
  refine qcons (qk_aload_n dJ1_charAt_3b067_1 rfl) ?_
  refine qcons (qk_xlen dJ1_charAt_3b067_2) ?_
  refine qcons (qk_calls (qrunS M_J0_checkIndex_df160 (by decide) (by decide) tw_516 tw_517 tw_518 tw_93 ⟨by decide, by decide⟩ (by decide +kernel)) dJ1_charAt_3b067_3) ?_
  refine qcons (qk_aload_n dJ1_charAt_3b067_6 rfl) ?_
  refine qcons (qk_iload_n dJ1_charAt_3b067_7 rfl) ?_
  refine qcons (qk_xbal dJ1_charAt_3b067_8) ?_
  refine qcons (qk_sipush dJ1_charAt_3b067_9 (by decide) (by decide)) ?_
  refine qcons (qk_iand dJ1_charAt_3b067_12) ?_
  refine qcons (qk_i2c dJ1_charAt_3b067_13) ?_
  refine qcons (qk_ret dJ1_charAt_3b067_14 (Or.inr (Or.inl ⟨rfl, rfl⟩))) ?_
  exact qnil
theorem M_J1_charAt_3b067 {X : qX} {l : Launch} : qMet X l 3 yJ1_charAt_3b067 cJ1_charAt_3b067 2 (some .char) S_J1_charAt_3b067 := qmet_of K_J1_charAt_3b067 (by decide) rfl rfl
theorem dJ0_charAt_5068e_0 : decode cJ0_charAt_5068e 0 = .ok (.aload_n 0, 1) := by decide +kernel
theorem dJ0_charAt_5068e_1 : decode cJ0_charAt_5068e 1 = .ok (.invokevirtual 492, 3) := by decide +kernel
theorem dJ0_charAt_5068e_4 : decode cJ0_charAt_5068e 4 = .ok (.ifCond .eq 12, 3) := by decide +kernel
theorem dJ0_charAt_5068e_7 : decode cJ0_charAt_5068e 7 = .ok (.aload_n 0, 1) := by decide +kernel
theorem dJ0_charAt_5068e_8 : decode cJ0_charAt_5068e 8 = .ok (.getfield 9, 3) := by decide +kernel
theorem dJ0_charAt_5068e_11 : decode cJ0_charAt_5068e 11 = .ok (.iload_n 1, 1) := by decide +kernel
theorem dJ0_charAt_5068e_12 : decode cJ0_charAt_5068e 12 = .ok (.invokestatic 495, 3) := by decide +kernel
theorem dJ0_charAt_5068e_15 : decode cJ0_charAt_5068e 15 = .ok (.ireturn, 1) := by decide +kernel
theorem dJ0_charAt_5068e_16 : decode cJ0_charAt_5068e 16 = .ok (.aload_n 0, 1) := by decide +kernel
theorem dJ0_charAt_5068e_17 : decode cJ0_charAt_5068e 17 = .ok (.getfield 9, 3) := by decide +kernel
theorem dJ0_charAt_5068e_20 : decode cJ0_charAt_5068e 20 = .ok (.iload_n 1, 1) := by decide +kernel
theorem dJ0_charAt_5068e_21 : decode cJ0_charAt_5068e 21 = .ok (.invokestatic 498, 3) := by decide +kernel
theorem dJ0_charAt_5068e_24 : decode cJ0_charAt_5068e 24 = .ok (.ireturn, 1) := by decide +kernel
noncomputable def C_J0_charAt_5068e : List (Nat × qOp) := [(0, qo_aload 0 1),
  (1, qo_callx S_J0_isLatin1_aae02 0),
  (4, qo_ifeq 16),
  (7, qo_aload 0 1),
  (8, qo_xval),
  (11, qo_iload 1 1),
  (12, qo_calls S_J1_charAt_3b067 2),
  (15, qo_ret (some .char) 1),
  (16, qo_aload 0 1),
  (17, qo_xval),
  (20, qo_iload 1 1),
  (24, qo_ret (some .char) 1)]
noncomputable def S_J0_charAt_5068e : qSem := qM 2 C_J0_charAt_5068e
set_option maxRecDepth 20000 in
theorem K_J0_charAt_5068e {X : qX} {l : Launch} : ∀ q ∈ C_J0_charAt_5068e, qOk X l 4 cJ0_charAt_5068e 2 RJ0 "charAt" (some .char) q.1 q.2 := by
  unfold C_J0_charAt_5068e
  refine qcons (qk_aload_n dJ0_charAt_5068e_0 rfl) ?_
  refine qcons (qk_callx M_J0_isLatin1_aae02 (by decide) (by decide) tw_509 tw_510 tw_511 tw_512 tw_93 ⟨by decide, by decide⟩ (by decide +kernel) dJ0_charAt_5068e_1) ?_
  refine qcons (qk_ifeq dJ0_charAt_5068e_4 (by decide)) ?_
  refine qcons (qk_aload_n dJ0_charAt_5068e_7 rfl) ?_
  refine qcons (qk_xval tw_1460 dJ0_charAt_5068e_8) ?_
  refine qcons (qk_iload_n dJ0_charAt_5068e_11 rfl) ?_
  refine qcons (qk_calls (qrunS M_J1_charAt_3b067 (by decide) (by decide) tw_513 tw_514 tw_515 tw_94 ⟨by decide, by decide⟩ (by decide +kernel)) dJ0_charAt_5068e_12) ?_
  refine qcons (qk_ret dJ0_charAt_5068e_15 (Or.inr (Or.inl ⟨rfl, rfl⟩))) ?_
  refine qcons (qk_aload_n dJ0_charAt_5068e_16 rfl) ?_
  refine qcons (qk_xval tw_1460 dJ0_charAt_5068e_17) ?_
  refine qcons (qk_iload_n dJ0_charAt_5068e_20 rfl) ?_
  refine qcons (qk_ret dJ0_charAt_5068e_24 (Or.inr (Or.inl ⟨rfl, rfl⟩))) ?_
  exact qnil
theorem M_J0_charAt_5068e {X : qX} {l : Launch} : qMet X l 4 yJ0_charAt_5068e cJ0_charAt_5068e 2 (some .char) S_J0_charAt_5068e := qmet_of K_J0_charAt_5068e (by decide) rfl rfl
theorem dJ0_isEmpty_aae02_0 : decode cJ0_isEmpty_aae02 0 = .ok (.aload_n 0, 1) := by decide +kernel
theorem dJ0_isEmpty_aae02_1 : decode cJ0_isEmpty_aae02 1 = .ok (.getfield 9, 3) := by decide +kernel
theorem dJ0_isEmpty_aae02_4 : decode cJ0_isEmpty_aae02 4 = .ok (.arraylength, 1) := by decide +kernel
theorem dJ0_isEmpty_aae02_5 : decode cJ0_isEmpty_aae02 5 = .ok (.ifCond .ne 7, 3) := by decide +kernel
theorem dJ0_isEmpty_aae02_8 : decode cJ0_isEmpty_aae02 8 = .ok (.iconst 1, 1) := by decide +kernel
theorem dJ0_isEmpty_aae02_9 : decode cJ0_isEmpty_aae02 9 = .ok (.goto 4, 3) := by decide +kernel
theorem dJ0_isEmpty_aae02_12 : decode cJ0_isEmpty_aae02 12 = .ok (.iconst 0, 1) := by decide +kernel
theorem dJ0_isEmpty_aae02_13 : decode cJ0_isEmpty_aae02 13 = .ok (.ireturn, 1) := by decide +kernel
noncomputable def C_J0_isEmpty_aae02 : List (Nat × qOp) := [(0, qo_aload 0 1),
  (1, qo_xval),
  (4, qo_xlen),
  (5, qo_ifne 12),
  (8, qo_ci 1 1),
  (9, qo_goto 13),
  (12, qo_ci 0 1),
  (13, qo_ret (some .boolean) 1)]
noncomputable def S_J0_isEmpty_aae02 : qSem := qM 1 C_J0_isEmpty_aae02
set_option maxRecDepth 20000 in
theorem K_J0_isEmpty_aae02 {X : qX} {l : Launch} : ∀ q ∈ C_J0_isEmpty_aae02, qOk X l 1 cJ0_isEmpty_aae02 1 RJ0 "isEmpty" (some .boolean) q.1 q.2 := by
  unfold C_J0_isEmpty_aae02
  refine qcons (qk_aload_n dJ0_isEmpty_aae02_0 rfl) ?_
  refine qcons (qk_xval tw_1460 dJ0_isEmpty_aae02_1) ?_
  refine qcons (qk_xlen dJ0_isEmpty_aae02_4) ?_
  refine qcons (qk_ifne dJ0_isEmpty_aae02_5 (by decide)) ?_
  refine qcons (qk_iconst dJ0_isEmpty_aae02_8 (by decide)) ?_
  refine qcons (qk_goto dJ0_isEmpty_aae02_9 (by decide)) ?_
  refine qcons (qk_iconst dJ0_isEmpty_aae02_12 (by decide)) ?_
  refine qcons (qk_ret dJ0_isEmpty_aae02_13 (Or.inr (Or.inl ⟨rfl, rfl⟩))) ?_
  exact qnil
theorem M_J0_isEmpty_aae02 {X : qX} {l : Launch} : qMet X l 1 yJ0_isEmpty_aae02 cJ0_isEmpty_aae02 1 (some .boolean) S_J0_isEmpty_aae02 := qmet_of K_J0_isEmpty_aae02 (by decide) rfl rfl
theorem dJ0_coder_7d493_0 : decode cJ0_coder_7d493 0 = .ok (.getstatic 38, 3) := by decide +kernel
theorem dJ0_coder_7d493_3 : decode cJ0_coder_7d493 3 = .ok (.ifCond .eq 10, 3) := by decide +kernel
theorem dJ0_coder_7d493_6 : decode cJ0_coder_7d493 6 = .ok (.aload_n 0, 1) := by decide +kernel
theorem dJ0_coder_7d493_7 : decode cJ0_coder_7d493 7 = .ok (.getfield 15, 3) := by decide +kernel
theorem dJ0_coder_7d493_10 : decode cJ0_coder_7d493 10 = .ok (.goto 4, 3) := by decide +kernel
theorem dJ0_coder_7d493_13 : decode cJ0_coder_7d493 13 = .ok (.iconst 1, 1) := by decide +kernel
theorem dJ0_coder_7d493_14 : decode cJ0_coder_7d493 14 = .ok (.ireturn, 1) := by decide +kernel
noncomputable def C_J0_coder_7d493 : List (Nat × qOp) := [(0, qo_push (qI 1) 3),
  (3, qo_ifeq 13),
  (6, qo_aload 0 1),
  (7, qo_xcod),
  (10, qo_goto 14),
  (13, qo_ci 1 1),
  (14, qo_ret (some .byte) 1)]
noncomputable def S_J0_coder_7d493 : qSem := qM 1 C_J0_coder_7d493
set_option maxRecDepth 20000 in
theorem K_J0_coder_7d493 {X : qX} {l : Launch} : ∀ q ∈ C_J0_coder_7d493, qOk X l 1 cJ0_coder_7d493 1 RJ0 "coder" (some .byte) q.1 q.2 := by
  unfold C_J0_coder_7d493
  refine qcons (qk_gstat ⟨by decide, by decide⟩ (fun _ _ => qz_compact) tw_503 dJ0_coder_7d493_0) ?_
  refine qcons (qk_ifeq dJ0_coder_7d493_3 (by decide)) ?_
  refine qcons (qk_aload_n dJ0_coder_7d493_6 rfl) ?_
  refine qcons (qk_xcod tw_1461 dJ0_coder_7d493_7) ?_
  refine qcons (qk_goto dJ0_coder_7d493_10 (by decide)) ?_
  refine qcons (qk_iconst dJ0_coder_7d493_13 (by decide)) ?_
  refine qcons (qk_ret dJ0_coder_7d493_14 (Or.inr (Or.inl ⟨rfl, rfl⟩))) ?_
  exact qnil
theorem M_J0_coder_7d493 {X : qX} {l : Launch} : qMet X l 1 yJ0_coder_7d493 cJ0_coder_7d493 1 (some .byte) S_J0_coder_7d493 := qmet_of K_J0_coder_7d493 (by decide) rfl rfl
theorem dJ0_length_8abf5_0 : decode cJ0_length_8abf5 0 = .ok (.aload_n 0, 1) := by decide +kernel
theorem dJ0_length_8abf5_1 : decode cJ0_length_8abf5 1 = .ok (.getfield 9, 3) := by decide +kernel
theorem dJ0_length_8abf5_4 : decode cJ0_length_8abf5 4 = .ok (.arraylength, 1) := by decide +kernel
theorem dJ0_length_8abf5_5 : decode cJ0_length_8abf5 5 = .ok (.aload_n 0, 1) := by decide +kernel
theorem dJ0_length_8abf5_6 : decode cJ0_length_8abf5 6 = .ok (.invokevirtual 335, 3) := by decide +kernel
theorem dJ0_length_8abf5_9 : decode cJ0_length_8abf5 9 = .ok (.ishr, 1) := by decide +kernel
theorem dJ0_length_8abf5_10 : decode cJ0_length_8abf5 10 = .ok (.ireturn, 1) := by decide +kernel
noncomputable def C_J0_length_8abf5 : List (Nat × qOp) := [(0, qo_aload 0 1),
  (1, qo_xval),
  (4, qo_xlen),
  (5, qo_aload 0 1),
  (6, qo_callx S_J0_coder_7d493 0),
  (9, qo_ishr),
  (10, qo_ret (some .int) 1)]
noncomputable def S_J0_length_8abf5 : qSem := qM 1 C_J0_length_8abf5
set_option maxRecDepth 20000 in
theorem K_J0_length_8abf5 {X : qX} {l : Launch} : ∀ q ∈ C_J0_length_8abf5, qOk X l 2 cJ0_length_8abf5 1 RJ0 "length" (some .int) q.1 q.2 := by
  unfold C_J0_length_8abf5
  refine qcons (qk_aload_n dJ0_length_8abf5_0 rfl) ?_
  refine qcons (qk_xval tw_1460 dJ0_length_8abf5_1) ?_
  refine qcons (qk_xlen dJ0_length_8abf5_4) ?_
  refine qcons (qk_aload_n dJ0_length_8abf5_5 rfl) ?_
  refine qcons (qk_callx M_J0_coder_7d493 (by decide) (by decide) tw_499 tw_500 tw_501 tw_502 tw_93 ⟨by decide, by decide⟩ (by decide +kernel) dJ0_length_8abf5_6) ?_
  refine qcons (qk_ishr dJ0_length_8abf5_9) ?_
  refine qcons (qk_ret dJ0_length_8abf5_10 (Or.inr (Or.inl ⟨rfl, rfl⟩))) ?_
  exact qnil
theorem M_J0_length_8abf5 {X : qX} {l : Launch} : qMet X l 2 yJ0_length_8abf5 cJ0_length_8abf5 1 (some .int) S_J0_length_8abf5 := qmet_of K_J0_length_8abf5 (by decide) rfl rfl
theorem dX3_takesWord_0 : decode cX3_takesWord 0 = .ok (.iconst 0, 1) := by decide +kernel
theorem dX3_takesWord_1 : decode cX3_takesWord 1 = .ok (.istore_n 2, 1) := by decide +kernel
theorem dX3_takesWord_2 : decode cX3_takesWord 2 = .ok (.iload_n 2, 1) := by decide +kernel
theorem dX3_takesWord_3 : decode cX3_takesWord 3 = .ok (.aload_n 1, 1) := by decide +kernel
theorem dX3_takesWord_4 : decode cX3_takesWord 4 = .ok (.invokevirtual 108, 3) := by decide +kernel
theorem dX3_takesWord_7 : decode cX3_takesWord 7 = .ok (.if_icmp .ge 23, 3) := by decide +kernel
theorem dX3_takesWord_10 : decode cX3_takesWord 10 = .ok (.aload_n 0, 1) := by decide +kernel
theorem dX3_takesWord_11 : decode cX3_takesWord 11 = .ok (.aload_n 1, 1) := by decide +kernel
theorem dX3_takesWord_12 : decode cX3_takesWord 12 = .ok (.iload_n 2, 1) := by decide +kernel
theorem dX3_takesWord_13 : decode cX3_takesWord 13 = .ok (.invokevirtual 113, 3) := by decide +kernel
theorem dX3_takesWord_16 : decode cX3_takesWord 16 = .ok (.invokevirtual 70, 3) := by decide +kernel
theorem dX3_takesWord_19 : decode cX3_takesWord 19 = .ok (.ifCond .ne 5, 3) := by decide +kernel
theorem dX3_takesWord_22 : decode cX3_takesWord 22 = .ok (.iconst 0, 1) := by decide +kernel
theorem dX3_takesWord_23 : decode cX3_takesWord 23 = .ok (.ireturn, 1) := by decide +kernel
theorem dX3_takesWord_24 : decode cX3_takesWord 24 = .ok (.iinc 2 1, 3) := by decide +kernel
theorem dX3_takesWord_27 : decode cX3_takesWord 27 = .ok (.goto (-25), 3) := by decide +kernel
theorem dX3_takesWord_30 : decode cX3_takesWord 30 = .ok (.aload_n 1, 1) := by decide +kernel
theorem dX3_takesWord_31 : decode cX3_takesWord 31 = .ok (.invokevirtual 117, 3) := by decide +kernel
theorem dX3_takesWord_34 : decode cX3_takesWord 34 = .ok (.ifCond .ne 7, 3) := by decide +kernel
theorem dX3_takesWord_37 : decode cX3_takesWord 37 = .ok (.iconst 1, 1) := by decide +kernel
theorem dX3_takesWord_38 : decode cX3_takesWord 38 = .ok (.goto 4, 3) := by decide +kernel
theorem dX3_takesWord_41 : decode cX3_takesWord 41 = .ok (.iconst 0, 1) := by decide +kernel
theorem dX3_takesWord_42 : decode cX3_takesWord 42 = .ok (.ireturn, 1) := by decide +kernel
noncomputable def C_X3_takesWord : List (Nat × qOp) := [(0, qo_ci 0 1),
  (1, qo_istore 2 1),
  (2, qo_iload 2 1),
  (3, qo_aload 1 1),
  (4, qo_callx S_J0_length_8abf5 0),
  (7, qo_icge 30),
  (10, qo_aload 0 1),
  (11, qo_aload 1 1),
  (12, qo_iload 2 1),
  (13, qo_callx S_J0_charAt_5068e 1),
  (16, qo_callv [(3, S_X3_takesSign)] 1),
  (19, qo_ifne 24),
  (22, qo_ci 0 1),
  (23, qo_ret (some .boolean) 1),
  (24, qo_iinc 2 1),
  (27, qo_goto 2),
  (30, qo_aload 1 1),
  (31, qo_callx S_J0_isEmpty_aae02 0),
  (34, qo_ifne 41),
  (37, qo_ci 1 1),
  (38, qo_goto 42),
  (41, qo_ci 0 1),
  (42, qo_ret (some .boolean) 1)]
noncomputable def S_X3_takesWord : qSem := qM 3 C_X3_takesWord
set_option maxRecDepth 20000 in
theorem K_X3_takesWord {X : qX} {l : Launch} : ∀ q ∈ C_X3_takesWord, qOk X l 5 cX3_takesWord 3 RX3 "takesWord" (some .boolean) q.1 q.2 := by
  unfold C_X3_takesWord
  refine qcons (qk_iconst dX3_takesWord_0 (by decide)) ?_
  refine qcons (qk_istore_n dX3_takesWord_1 rfl) ?_
  refine qcons (qk_iload_n dX3_takesWord_2 rfl) ?_
  refine qcons (qk_aload_n dX3_takesWord_3 rfl) ?_
  refine qcons (qk_callx M_J0_length_8abf5 (by decide) (by decide) tw_495 tw_496 tw_497 tw_498 tw_93 ⟨by decide, by decide⟩ (by decide +kernel) dX3_takesWord_4) ?_
  refine qcons (qk_icge dX3_takesWord_7 (by decide)) ?_
  refine qcons (qk_aload_n dX3_takesWord_10 rfl) ?_
  refine qcons (qk_aload_n dX3_takesWord_11 rfl) ?_
  refine qcons (qk_iload_n dX3_takesWord_12 rfl) ?_
  refine qcons (qk_callx M_J0_charAt_5068e (by decide) (by decide) tw_505 tw_506 tw_507 tw_508 tw_93 ⟨by decide, by decide⟩ (by decide +kernel) dX3_takesWord_13) ?_
  refine qcons (qk_callv (ins := fun i => .invokevirtual i) (qconsV (qrunV M_X3_takesSign (by decide) (by decide) (by decide) rfl tw_475 tw_477 tw_1 tw_478 tw_86 ⟨by decide, by decide⟩ (by decide +kernel)) qnilV) dX3_takesWord_16) ?_
  refine qcons (qk_ifne dX3_takesWord_19 (by decide)) ?_
  refine qcons (qk_iconst dX3_takesWord_22 (by decide)) ?_
  refine qcons (qk_ret dX3_takesWord_23 (Or.inr (Or.inl ⟨rfl, rfl⟩))) ?_
  refine qcons (qk_iinc dX3_takesWord_24) ?_
  refine qcons (qk_goto dX3_takesWord_27 (by decide)) ?_
  refine qcons (qk_aload_n dX3_takesWord_30 rfl) ?_
  refine qcons (qk_callx M_J0_isEmpty_aae02 (by decide) (by decide) tw_543 tw_544 tw_545 tw_546 tw_93 ⟨by decide, by decide⟩ (by decide +kernel) dX3_takesWord_31) ?_
  refine qcons (qk_ifne dX3_takesWord_34 (by decide)) ?_
  refine qcons (qk_iconst dX3_takesWord_37 (by decide)) ?_
  refine qcons (qk_goto dX3_takesWord_38 (by decide)) ?_
  refine qcons (qk_iconst dX3_takesWord_41 (by decide)) ?_
  refine qcons (qk_ret dX3_takesWord_42 (Or.inr (Or.inl ⟨rfl, rfl⟩))) ?_
  exact qnil
theorem M_X3_takesWord {X : qX} {l : Launch} : qMet X l 5 yX3_takesWord cX3_takesWord 3 (some .boolean) S_X3_takesWord := qmet_of K_X3_takesWord (by decide) rfl rfl
theorem dX3_wordOf_0 : decode cX3_wordOf 0 = .ok (.iload_n 0, 1) := by decide +kernel
theorem dX3_wordOf_1 : decode cX3_wordOf 1 = .ok (.lookupswitch 55 #[(98, 43), (104, 49), (112, 52), (115, 46)], 43) := by decide +kernel
theorem dX3_wordOf_44 : decode cX3_wordOf 44 = .ok (.ldc 99, 2) := by decide +kernel
theorem dX3_wordOf_46 : decode cX3_wordOf 46 = .ok (.areturn, 1) := by decide +kernel
theorem dX3_wordOf_47 : decode cX3_wordOf 47 = .ok (.ldc 101, 2) := by decide +kernel
theorem dX3_wordOf_49 : decode cX3_wordOf 49 = .ok (.areturn, 1) := by decide +kernel
theorem dX3_wordOf_50 : decode cX3_wordOf 50 = .ok (.ldc 103, 2) := by decide +kernel
theorem dX3_wordOf_52 : decode cX3_wordOf 52 = .ok (.areturn, 1) := by decide +kernel
theorem dX3_wordOf_53 : decode cX3_wordOf 53 = .ok (.ldc 105, 2) := by decide +kernel
theorem dX3_wordOf_55 : decode cX3_wordOf 55 = .ok (.areturn, 1) := by decide +kernel
theorem dX3_wordOf_56 : decode cX3_wordOf 56 = .ok (.ldc 106, 2) := by decide +kernel
theorem dX3_wordOf_58 : decode cX3_wordOf 58 = .ok (.areturn, 1) := by decide +kernel
noncomputable def C_X3_wordOf : List (Nat × qOp) := [(0, qo_iload 0 1),
  (1, qo_lsw [(98, 44), (104, 50), (112, 53), (115, 47)] 56),
  (44, qo_push (qA (-2 - ((0 : Nat) : Int))) 2),
  (46, qo_ret (some (.object "java/lang/String")) 3),
  (47, qo_push (qA (-2 - ((1 : Nat) : Int))) 2),
  (49, qo_ret (some (.object "java/lang/String")) 3),
  (50, qo_push (qA (-2 - ((2 : Nat) : Int))) 2),
  (52, qo_ret (some (.object "java/lang/String")) 3),
  (53, qo_push (qA (-2 - ((3 : Nat) : Int))) 2),
  (55, qo_ret (some (.object "java/lang/String")) 3),
  (56, qo_push (qA (-2 - ((4 : Nat) : Int))) 2),
  (58, qo_ret (some (.object "java/lang/String")) 3)]
noncomputable def S_X3_wordOf : qSem := qM 1 C_X3_wordOf
set_option maxRecDepth 20000 in
theorem K_X3_wordOf {X : qX} {l : Launch} : ∀ q ∈ C_X3_wordOf, qOk X l 1 cX3_wordOf 1 RX3 "wordOf" (some (.object "java/lang/String")) q.1 q.2 := by
  unfold C_X3_wordOf
  refine qcons (qk_iload_n dX3_wordOf_0 rfl) ?_
  refine qcons (qk_lsw dX3_wordOf_1 (by decide) (by decide) (by decide)) ?_
  refine qcons (qk_ldcs (i := 0) rfl rfl dX3_wordOf_44) ?_
  refine qcons (qk_ret dX3_wordOf_46 (Or.inr (Or.inr (Or.inr ⟨rfl, rfl⟩)))) ?_
  refine qcons (qk_ldcs (i := 1) rfl rfl dX3_wordOf_47) ?_
  refine qcons (qk_ret dX3_wordOf_49 (Or.inr (Or.inr (Or.inr ⟨rfl, rfl⟩)))) ?_
  refine qcons (qk_ldcs (i := 2) rfl rfl dX3_wordOf_50) ?_
  refine qcons (qk_ret dX3_wordOf_52 (Or.inr (Or.inr (Or.inr ⟨rfl, rfl⟩)))) ?_
  refine qcons (qk_ldcs (i := 3) rfl rfl dX3_wordOf_53) ?_
  refine qcons (qk_ret dX3_wordOf_55 (Or.inr (Or.inr (Or.inr ⟨rfl, rfl⟩)))) ?_
  refine qcons (qk_ldcs (i := 4) rfl rfl dX3_wordOf_56) ?_
  refine qcons (qk_ret dX3_wordOf_58 (Or.inr (Or.inr (Or.inr ⟨rfl, rfl⟩)))) ?_
  exact qnil
theorem M_X3_wordOf {X : qX} {l : Launch} : qMet X l 1 yX3_wordOf cX3_wordOf 1 (some (.object "java/lang/String")) S_X3_wordOf := qmet_of K_X3_wordOf (by decide) rfl rfl
theorem dX3_takesText_0 : decode cX3_takesText 0 = .ok (.aload_n 0, 1) := by decide +kernel
theorem dX3_takesText_1 : decode cX3_takesText 1 = .ok (.iload_n 2, 1) := by decide +kernel
theorem dX3_takesText_2 : decode cX3_takesText 2 = .ok (.aload_n 1, 1) := by decide +kernel
theorem dX3_takesText_3 : decode cX3_takesText 3 = .ok (.arraylength, 1) := by decide +kernel
theorem dX3_takesText_4 : decode cX3_takesText 4 = .ok (.aload_n 0, 1) := by decide +kernel
theorem dX3_takesText_5 : decode cX3_takesText 5 = .ok (.getfield 9, 3) := by decide +kernel
theorem dX3_takesText_8 : decode cX3_takesText 8 = .ok (.arraylength, 1) := by decide +kernel
theorem dX3_takesText_9 : decode cX3_takesText 9 = .ok (.invokestatic 49, 3) := by decide +kernel
theorem dX3_takesText_12 : decode cX3_takesText 12 = .ok (.invokestatic 49, 3) := by decide +kernel
theorem dX3_takesText_15 : decode cX3_takesText 15 = .ok (.putfield 55, 3) := by decide +kernel
theorem dX3_takesText_18 : decode cX3_takesText 18 = .ok (.aload_n 1, 1) := by decide +kernel
theorem dX3_takesText_19 : decode cX3_takesText 19 = .ok (.iconst 0, 1) := by decide +kernel
theorem dX3_takesText_20 : decode cX3_takesText 20 = .ok (.aload_n 0, 1) := by decide +kernel
theorem dX3_takesText_21 : decode cX3_takesText 21 = .ok (.getfield 9, 3) := by decide +kernel
theorem dX3_takesText_24 : decode cX3_takesText 24 = .ok (.iconst 0, 1) := by decide +kernel
theorem dX3_takesText_25 : decode cX3_takesText 25 = .ok (.aload_n 0, 1) := by decide +kernel
theorem dX3_takesText_26 : decode cX3_takesText 26 = .ok (.getfield 55, 3) := by decide +kernel
theorem dX3_takesText_29 : decode cX3_takesText 29 = .ok (.invokestatic 58, 3) := by decide +kernel
theorem dX3_takesText_32 : decode cX3_takesText 32 = .ok (.aload_n 0, 1) := by decide +kernel
theorem dX3_takesText_33 : decode cX3_takesText 33 = .ok (.iconst 0, 1) := by decide +kernel
theorem dX3_takesText_34 : decode cX3_takesText 34 = .ok (.putfield 64, 3) := by decide +kernel
theorem dX3_takesText_37 : decode cX3_takesText 37 = .ok (.aload_n 0, 1) := by decide +kernel
theorem dX3_takesText_38 : decode cX3_takesText 38 = .ok (.iconst 0, 1) := by decide +kernel
theorem dX3_takesText_39 : decode cX3_takesText 39 = .ok (.putfield 23, 3) := by decide +kernel
theorem dX3_takesText_42 : decode cX3_takesText 42 = .ok (.aload_n 0, 1) := by decide +kernel
theorem dX3_takesText_43 : decode cX3_takesText 43 = .ok (.bipush 50, 2) := by decide +kernel
theorem dX3_takesText_45 : decode cX3_takesText 45 = .ok (.putfield 19, 3) := by decide +kernel
theorem dX3_takesText_48 : decode cX3_takesText 48 = .ok (.aload_n 0, 1) := by decide +kernel
theorem dX3_takesText_49 : decode cX3_takesText 49 = .ok (.iconst 0, 1) := by decide +kernel
theorem dX3_takesText_50 : decode cX3_takesText 50 = .ok (.putfield 67, 3) := by decide +kernel
theorem dX3_takesText_53 : decode cX3_takesText 53 = .ok (.iconst 0, 1) := by decide +kernel
theorem dX3_takesText_54 : decode cX3_takesText 54 = .ok (.istore_n 3, 1) := by decide +kernel
theorem dX3_takesText_55 : decode cX3_takesText 55 = .ok (.iload_n 3, 1) := by decide +kernel
theorem dX3_takesText_56 : decode cX3_takesText 56 = .ok (.bipush 10, 2) := by decide +kernel
theorem dX3_takesText_58 : decode cX3_takesText 58 = .ok (.if_icmp .ge 134, 3) := by decide +kernel
theorem dX3_takesText_61 : decode cX3_takesText 61 = .ok (.iload_n 3, 1) := by decide +kernel
theorem dX3_takesText_62 : decode cX3_takesText 62 = .ok (.ifCond .eq 12, 3) := by decide +kernel
theorem dX3_takesText_65 : decode cX3_takesText 65 = .ok (.aload_n 0, 1) := by decide +kernel
theorem dX3_takesText_66 : decode cX3_takesText 66 = .ok (.bipush 59, 2) := by decide +kernel
theorem dX3_takesText_68 : decode cX3_takesText 68 = .ok (.invokevirtual 70, 3) := by decide +kernel
theorem dX3_takesText_71 : decode cX3_takesText 71 = .ok (.ifCond .eq 121, 3) := by decide +kernel
theorem dX3_takesText_74 : decode cX3_takesText 74 = .ok (.aload_n 0, 1) := by decide +kernel
theorem dX3_takesText_75 : decode cX3_takesText 75 = .ok (.invokevirtual 74, 3) := by decide +kernel
theorem dX3_takesText_78 : decode cX3_takesText 78 = .ok (.istore 4, 2) := by decide +kernel
theorem dX3_takesText_80 : decode cX3_takesText 80 = .ok (.aload_n 0, 1) := by decide +kernel
theorem dX3_takesText_81 : decode cX3_takesText 81 = .ok (.iload 4, 2) := by decide +kernel
theorem dX3_takesText_83 : decode cX3_takesText 83 = .ok (.invokestatic 78, 3) := by decide +kernel
theorem dX3_takesText_86 : decode cX3_takesText 86 = .ok (.invokevirtual 82, 3) := by decide +kernel
theorem dX3_takesText_89 : decode cX3_takesText 89 = .ok (.ifCond .eq 12, 3) := by decide +kernel
theorem dX3_takesText_92 : decode cX3_takesText 92 = .ok (.aload_n 0, 1) := by decide +kernel
theorem dX3_takesText_93 : decode cX3_takesText 93 = .ok (.bipush 32, 2) := by decide +kernel
theorem dX3_takesText_95 : decode cX3_takesText 95 = .ok (.invokevirtual 70, 3) := by decide +kernel
theorem dX3_takesText_98 : decode cX3_takesText 98 = .ok (.ifCond .ne 5, 3) := by decide +kernel
theorem dX3_takesText_101 : decode cX3_takesText 101 = .ok (.iconst 0, 1) := by decide +kernel
theorem dX3_takesText_102 : decode cX3_takesText 102 = .ok (.ireturn, 1) := by decide +kernel
theorem dX3_takesText_103 : decode cX3_takesText 103 = .ok (.aload_n 0, 1) := by decide +kernel
theorem dX3_takesText_104 : decode cX3_takesText 104 = .ok (.invokevirtual 86, 3) := by decide +kernel
theorem dX3_takesText_107 : decode cX3_takesText 107 = .ok (.istore 5, 2) := by decide +kernel
theorem dX3_takesText_109 : decode cX3_takesText 109 = .ok (.iload 5, 2) := by decide +kernel
theorem dX3_takesText_111 : decode cX3_takesText 111 = .ok (.ifCond .ge 5, 3) := by decide +kernel
theorem dX3_takesText_114 : decode cX3_takesText 114 = .ok (.iconst 0, 1) := by decide +kernel
theorem dX3_takesText_115 : decode cX3_takesText 115 = .ok (.ireturn, 1) := by decide +kernel
theorem dX3_takesText_116 : decode cX3_takesText 116 = .ok (.iload 4, 2) := by decide +kernel
theorem dX3_takesText_118 : decode cX3_takesText 118 = .ok (.bipush 104, 2) := by decide +kernel
theorem dX3_takesText_120 : decode cX3_takesText 120 = .ok (.if_icmp .ne 16, 3) := by decide +kernel
theorem dX3_takesText_123 : decode cX3_takesText 123 = .ok (.aload_n 0, 1) := by decide +kernel
theorem dX3_takesText_124 : decode cX3_takesText 124 = .ok (.iconst 1, 1) := by decide +kernel
theorem dX3_takesText_125 : decode cX3_takesText 125 = .ok (.iload 5, 2) := by decide +kernel
theorem dX3_takesText_127 : decode cX3_takesText 127 = .ok (.invokestatic 89, 3) := by decide +kernel
theorem dX3_takesText_130 : decode cX3_takesText 130 = .ok (.putfield 19, 3) := by decide +kernel
theorem dX3_takesText_133 : decode cX3_takesText 133 = .ok (.goto 53, 3) := by decide +kernel
theorem dX3_takesText_136 : decode cX3_takesText 136 = .ok (.iload 4, 2) := by decide +kernel
theorem dX3_takesText_138 : decode cX3_takesText 138 = .ok (.bipush 112, 2) := by decide +kernel
theorem dX3_takesText_140 : decode cX3_takesText 140 = .ok (.if_icmp .ne 12, 3) := by decide +kernel
theorem dX3_takesText_143 : decode cX3_takesText 143 = .ok (.aload_n 0, 1) := by decide +kernel
theorem dX3_takesText_144 : decode cX3_takesText 144 = .ok (.iload 5, 2) := by decide +kernel
theorem dX3_takesText_146 : decode cX3_takesText 146 = .ok (.putfield 67, 3) := by decide +kernel
theorem dX3_takesText_149 : decode cX3_takesText 149 = .ok (.goto 37, 3) := by decide +kernel
theorem dX3_takesText_152 : decode cX3_takesText 152 = .ok (.aload_n 0, 1) := by decide +kernel
theorem dX3_takesText_153 : decode cX3_takesText 153 = .ok (.bipush 32, 2) := by decide +kernel
theorem dX3_takesText_155 : decode cX3_takesText 155 = .ok (.invokevirtual 70, 3) := by decide +kernel
theorem dX3_takesText_158 : decode cX3_takesText 158 = .ok (.ifCond .eq 26, 3) := by decide +kernel
theorem dX3_takesText_161 : decode cX3_takesText 161 = .ok (.aload_n 0, 1) := by decide +kernel
theorem dX3_takesText_162 : decode cX3_takesText 162 = .ok (.iconst 0, 1) := by decide +kernel
theorem dX3_takesText_163 : decode cX3_takesText 163 = .ok (.invokevirtual 92, 3) := by decide +kernel
theorem dX3_takesText_166 : decode cX3_takesText 166 = .ok (.ifCond .eq 18, 3) := by decide +kernel
theorem dX3_takesText_169 : decode cX3_takesText 169 = .ok (.aload_n 0, 1) := by decide +kernel
theorem dX3_takesText_170 : decode cX3_takesText 170 = .ok (.iload 4, 2) := by decide +kernel
theorem dX3_takesText_172 : decode cX3_takesText 172 = .ok (.iload 5, 2) := by decide +kernel
theorem dX3_takesText_174 : decode cX3_takesText 174 = .ok (.bipush 16, 2) := by decide +kernel
theorem dX3_takesText_176 : decode cX3_takesText 176 = .ok (.ishl, 1) := by decide +kernel
theorem dX3_takesText_177 : decode cX3_takesText 177 = .ok (.ior, 1) := by decide +kernel
theorem dX3_takesText_178 : decode cX3_takesText 178 = .ok (.invokevirtual 95, 3) := by decide +kernel
theorem dX3_takesText_181 : decode cX3_takesText 181 = .ok (.goto 5, 3) := by decide +kernel
theorem dX3_takesText_184 : decode cX3_takesText 184 = .ok (.iconst 0, 1) := by decide +kernel
theorem dX3_takesText_185 : decode cX3_takesText 185 = .ok (.ireturn, 1) := by decide +kernel
theorem dX3_takesText_186 : decode cX3_takesText 186 = .ok (.iinc 3 1, 3) := by decide +kernel
theorem dX3_takesText_189 : decode cX3_takesText 189 = .ok (.goto (-134), 3) := by decide +kernel
theorem dX3_takesText_192 : decode cX3_takesText 192 = .ok (.aload_n 0, 1) := by decide +kernel
theorem dX3_takesText_193 : decode cX3_takesText 193 = .ok (.getfield 64, 3) := by decide +kernel
theorem dX3_takesText_196 : decode cX3_takesText 196 = .ok (.aload_n 0, 1) := by decide +kernel
theorem dX3_takesText_197 : decode cX3_takesText 197 = .ok (.getfield 55, 3) := by decide +kernel
theorem dX3_takesText_200 : decode cX3_takesText 200 = .ok (.if_icmp .ne 7, 3) := by decide +kernel
theorem dX3_takesText_203 : decode cX3_takesText 203 = .ok (.iconst 1, 1) := by decide +kernel
theorem dX3_takesText_204 : decode cX3_takesText 204 = .ok (.goto 4, 3) := by decide +kernel
theorem dX3_takesText_207 : decode cX3_takesText 207 = .ok (.iconst 0, 1) := by decide +kernel
theorem dX3_takesText_208 : decode cX3_takesText 208 = .ok (.ireturn, 1) := by decide +kernel
noncomputable def C_X3_takesText : List (Nat × qOp) := [(0, qo_aload 0 1),
  (1, qo_iload 2 1),
  (2, qo_aload 1 1),
  (3, qo_alen),
  (4, qo_aload 0 1),
  (5, qo_getR 3 0),
  (8, qo_alen),
  (9, qo_mmin),
  (12, qo_mmin),
  (15, qo_putI 3 2),
  (18, qo_aload 1 1),
  (19, qo_ci 0 1),
  (20, qo_aload 0 1),
  (21, qo_getR 3 0),
  (24, qo_ci 0 1),
  (25, qo_aload 0 1),
  (26, qo_getI 3 2),
  (29, qo_copy 101),
  (32, qo_aload 0 1),
  (33, qo_ci 0 1),
  (34, qo_putI 3 6),
  (37, qo_aload 0 1),
  (38, qo_ci 0 1),
  (39, qo_putI 3 3),
  (42, qo_aload 0 1),
  (43, qo_ci 50 2),
  (45, qo_putI 3 4),
  (48, qo_aload 0 1),
  (49, qo_ci 0 1),
  (50, qo_putI 3 5),
  (53, qo_ci 0 1),
  (54, qo_istore 3 1),
  (55, qo_iload 3 1),
  (56, qo_ci 10 2),
  (58, qo_icge 192),
  (61, qo_iload 3 1),
  (62, qo_ifeq 74),
  (65, qo_aload 0 1),
  (66, qo_ci 59 2),
  (68, qo_callv [(3, S_X3_takesSign)] 1),
  (71, qo_ifeq 192),
  (74, qo_aload 0 1),
  (75, qo_callv [(3, S_X3_next)] 0),
  (78, qo_istore 4 2),
  (80, qo_aload 0 1),
  (81, qo_iload 4 2),
  (83, qo_calls S_X3_wordOf 1),
  (86, qo_callv [(3, S_X3_takesWord)] 1),
  (89, qo_ifeq 101),
  (92, qo_aload 0 1),
  (93, qo_ci 32 2),
  (95, qo_callv [(3, S_X3_takesSign)] 1),
  (98, qo_ifne 103),
  (101, qo_ci 0 1),
  (102, qo_ret (some .boolean) 1),
  (103, qo_aload 0 1),
  (104, qo_callv [(3, S_X3_takesNumber)] 0),
  (107, qo_istore 5 2),
  (109, qo_iload 5 2),
  (111, qo_ifge 116),
  (114, qo_ci 0 1),
  (115, qo_ret (some .boolean) 1),
  (116, qo_iload 4 2),
  (118, qo_ci 104 2),
  (120, qo_icne 136),
  (123, qo_aload 0 1),
  (124, qo_ci 1 1),
  (125, qo_iload 5 2),
  (127, qo_mmax),
  (130, qo_putI 3 4),
  (133, qo_goto 186),
  (136, qo_iload 4 2),
  (138, qo_ci 112 2),
  (140, qo_icne 152),
  (143, qo_aload 0 1),
  (144, qo_iload 5 2),
  (146, qo_putI 3 5),
  (149, qo_goto 186),
  (152, qo_aload 0 1),
  (153, qo_ci 32 2),
  (155, qo_callv [(3, S_X3_takesSign)] 1),
  (158, qo_ifeq 184),
  (161, qo_aload 0 1),
  (162, qo_ci 0 1),
  (163, qo_callv [(3, S_X3_takesEither)] 1),
  (166, qo_ifeq 184),
  (169, qo_aload 0 1),
  (170, qo_iload 4 2),
  (172, qo_iload 5 2),
  (174, qo_ci 16 2),
  (176, qo_ishl),
  (177, qo_ior),
  (178, qo_callv [(3, S_X3_adds)] 1),
  (181, qo_goto 186),
  (184, qo_ci 0 1),
  (185, qo_ret (some .boolean) 1),
  (186, qo_iinc 3 1),
  (189, qo_goto 55),
  (192, qo_aload 0 1),
  (193, qo_getI 3 6),
  (196, qo_aload 0 1),
  (197, qo_getI 3 2),
  (200, qo_icne 207),
  (203, qo_ci 1 1),
  (204, qo_goto 208),
  (207, qo_ci 0 1),
  (208, qo_ret (some .boolean) 1)]
noncomputable def S_X3_takesText : qSem := qM 6 C_X3_takesText
set_option maxRecDepth 20000 in
theorem K_X3_takesText {X : qX} {l : Launch} : ∀ q ∈ C_X3_takesText, qOk X l 28 cX3_takesText 6 RX3 "takesText" (some .boolean) q.1 q.2 := by
  unfold C_X3_takesText
  refine qcons (qk_aload_n dX3_takesText_0 rfl) ?_
  refine qcons (qk_iload_n dX3_takesText_1 rfl) ?_
  refine qcons (qk_aload_n dX3_takesText_2 rfl) ?_
  refine qcons (qk_alen dX3_takesText_3) ?_
  refine qcons (qk_aload_n dX3_takesText_4 rfl) ?_
  refine qcons (qk_getR fd_X3_9 kd_3_0 dX3_takesText_5) ?_
  refine qcons (qk_alen dX3_takesText_8) ?_
  refine qcons (qk_mmin (by decide) tw_471 tw_419 tw_91 tw_420 dX3_takesText_9) ?_
  refine qcons (qk_mmin (by decide) tw_471 tw_419 tw_91 tw_420 dX3_takesText_12) ?_
  refine qcons (qk_putI (ty := .int) fd_X3_55 tyX3_ok nmX3 (Or.inl rfl) kd_3_2 (tyX3_ok 2 (by decide)) dX3_takesText_15) ?_
  refine qcons (qk_aload_n dX3_takesText_18 rfl) ?_
  refine qcons (qk_iconst dX3_takesText_19 (by decide)) ?_
  refine qcons (qk_aload_n dX3_takesText_20 rfl) ?_
  refine qcons (qk_getR fd_X3_9 kd_3_0 dX3_takesText_21) ?_
  refine qcons (qk_iconst dX3_takesText_24 (by decide)) ?_
  refine qcons (qk_aload_n dX3_takesText_25 rfl) ?_
  refine qcons (qk_getI fd_X3_55 kd_3_2 dX3_takesText_26) ?_
  refine qcons (qk_copy (by decide) (by decide) tw_472 tw_474 tw_473 tw_92 dX3_takesText_29) ?_
  refine qcons (qk_aload_n dX3_takesText_32 rfl) ?_
  refine qcons (qk_iconst dX3_takesText_33 (by decide)) ?_
  refine qcons (qk_putI (ty := .int) fd_X3_64 tyX3_ok nmX3 (Or.inl rfl) kd_3_6 (tyX3_ok 6 (by decide)) dX3_takesText_34) ?_
  refine qcons (qk_aload_n dX3_takesText_37 rfl) ?_
  refine qcons (qk_iconst dX3_takesText_38 (by decide)) ?_
  refine qcons (qk_putI (ty := .int) fd_X3_23 tyX3_ok nmX3 (Or.inl rfl) kd_3_3 (tyX3_ok 3 (by decide)) dX3_takesText_39) ?_
  refine qcons (qk_aload_n dX3_takesText_42 rfl) ?_
  refine qcons (qk_bipush dX3_takesText_43 (by decide) (by decide)) ?_
  refine qcons (qk_putI (ty := .int) fd_X3_19 tyX3_ok nmX3 (Or.inl rfl) kd_3_4 (tyX3_ok 4 (by decide)) dX3_takesText_45) ?_
  refine qcons (qk_aload_n dX3_takesText_48 rfl) ?_
  refine qcons (qk_iconst dX3_takesText_49 (by decide)) ?_
  refine qcons (qk_putI (ty := .int) fd_X3_67 tyX3_ok nmX3 (Or.inl rfl) kd_3_5 (tyX3_ok 5 (by decide)) dX3_takesText_50) ?_
  refine qcons (qk_iconst dX3_takesText_53 (by decide)) ?_
  refine qcons (qk_istore_n dX3_takesText_54 rfl) ?_
  refine qcons (qk_iload_n dX3_takesText_55 rfl) ?_
  refine qcons (qk_bipush dX3_takesText_56 (by decide) (by decide)) ?_
  refine qcons (qk_icge dX3_takesText_58 (by decide)) ?_
  refine qcons (qk_iload_n dX3_takesText_61 rfl) ?_
  refine qcons (qk_ifeq dX3_takesText_62 (by decide)) ?_
  refine qcons (qk_aload_n dX3_takesText_65 rfl) ?_
  refine qcons (qk_bipush dX3_takesText_66 (by decide) (by decide)) ?_
  refine qcons (qk_callv (ins := fun i => .invokevirtual i) (qconsV (qrunV M_X3_takesSign (by decide) (by decide) (by decide) rfl tw_475 tw_477 tw_1 tw_478 tw_86 ⟨by decide, by decide⟩ (by decide +kernel)) qnilV) dX3_takesText_68) ?_
  refine qcons (qk_ifeq dX3_takesText_71 (by decide)) ?_
  refine qcons (qk_aload_n dX3_takesText_74 rfl) ?_
  refine qcons (qk_callv (ins := fun i => .invokevirtual i) (qconsV (qrunV M_X3_next (by decide) (by decide) (by decide) rfl tw_479 tw_481 tw_2 tw_482 tw_86 ⟨by decide, by decide⟩ (by decide +kernel)) qnilV) dX3_takesText_75) ?_
  refine qcons (qk_istore dX3_takesText_78) ?_
  refine qcons (qk_aload_n dX3_takesText_80 rfl) ?_
  refine qcons (qk_iload dX3_takesText_81) ?_
  refine qcons (qk_calls (qrunS M_X3_wordOf (by decide) (by decide) tw_483 tw_484 tw_485 tw_86 ⟨by decide, by decide⟩ (by decide +kernel)) dX3_takesText_83) ?_
  refine qcons (qk_callv (ins := fun i => .invokevirtual i) (qconsV (qrunV M_X3_takesWord (by decide) (by decide) (by decide) rfl tw_491 tw_493 tw_3 tw_494 tw_86 ⟨by decide, by decide⟩ (by decide +kernel)) qnilV) dX3_takesText_86) ?_
  refine qcons (qk_ifeq dX3_takesText_89 (by decide)) ?_
  refine qcons (qk_aload_n dX3_takesText_92 rfl) ?_
  refine qcons (qk_bipush dX3_takesText_93 (by decide) (by decide)) ?_
  refine qcons (qk_callv (ins := fun i => .invokevirtual i) (qconsV (qrunV M_X3_takesSign (by decide) (by decide) (by decide) rfl tw_475 tw_477 tw_1 tw_478 tw_86 ⟨by decide, by decide⟩ (by decide +kernel)) qnilV) dX3_takesText_95) ?_
  refine qcons (qk_ifne dX3_takesText_98 (by decide)) ?_
  refine qcons (qk_iconst dX3_takesText_101 (by decide)) ?_
  refine qcons (qk_ret dX3_takesText_102 (Or.inr (Or.inl ⟨rfl, rfl⟩))) ?_
  refine qcons (qk_aload_n dX3_takesText_103 rfl) ?_
  refine qcons (qk_callv (ins := fun i => .invokevirtual i) (qconsV (qrunV M_X3_takesNumber (by decide) (by decide) (by decide) rfl tw_547 tw_549 tw_4 tw_550 tw_86 ⟨by decide, by decide⟩ (by decide +kernel)) qnilV) dX3_takesText_104) ?_
  refine qcons (qk_istore dX3_takesText_107) ?_
  refine qcons (qk_iload dX3_takesText_109) ?_
  refine qcons (qk_ifge dX3_takesText_111 (by decide)) ?_
  refine qcons (qk_iconst dX3_takesText_114 (by decide)) ?_
  refine qcons (qk_ret dX3_takesText_115 (Or.inr (Or.inl ⟨rfl, rfl⟩))) ?_
  refine qcons (qk_iload dX3_takesText_116) ?_
  refine qcons (qk_bipush dX3_takesText_118 (by decide) (by decide)) ?_
  refine qcons (qk_icne dX3_takesText_120 (by decide)) ?_
  refine qcons (qk_aload_n dX3_takesText_123 rfl) ?_
  refine qcons (qk_iconst dX3_takesText_124 (by decide)) ?_
  refine qcons (qk_iload dX3_takesText_125) ?_
  refine qcons (qk_mmax (by decide) tw_551 tw_438 tw_91 tw_439 dX3_takesText_127) ?_
  refine qcons (qk_putI (ty := .int) fd_X3_19 tyX3_ok nmX3 (Or.inl rfl) kd_3_4 (tyX3_ok 4 (by decide)) dX3_takesText_130) ?_
  refine qcons (qk_goto dX3_takesText_133 (by decide)) ?_
  refine qcons (qk_iload dX3_takesText_136) ?_
  refine qcons (qk_bipush dX3_takesText_138 (by decide) (by decide)) ?_
  refine qcons (qk_icne dX3_takesText_140 (by decide)) ?_
  refine qcons (qk_aload_n dX3_takesText_143 rfl) ?_
  refine qcons (qk_iload dX3_takesText_144) ?_
  refine qcons (qk_putI (ty := .int) fd_X3_67 tyX3_ok nmX3 (Or.inl rfl) kd_3_5 (tyX3_ok 5 (by decide)) dX3_takesText_146) ?_
  refine qcons (qk_goto dX3_takesText_149 (by decide)) ?_
  refine qcons (qk_aload_n dX3_takesText_152 rfl) ?_
  refine qcons (qk_bipush dX3_takesText_153 (by decide) (by decide)) ?_
  refine qcons (qk_callv (ins := fun i => .invokevirtual i) (qconsV (qrunV M_X3_takesSign (by decide) (by decide) (by decide) rfl tw_475 tw_477 tw_1 tw_478 tw_86 ⟨by decide, by decide⟩ (by decide +kernel)) qnilV) dX3_takesText_155) ?_
  refine qcons (qk_ifeq dX3_takesText_158 (by decide)) ?_
  refine qcons (qk_aload_n dX3_takesText_161 rfl) ?_
  refine qcons (qk_iconst dX3_takesText_162 (by decide)) ?_
  refine qcons (qk_callv (ins := fun i => .invokevirtual i) (qconsV (qrunV M_X3_takesEither (by decide) (by decide) (by decide) rfl tw_552 tw_554 tw_5 tw_555 tw_86 ⟨by decide, by decide⟩ (by decide +kernel)) qnilV) dX3_takesText_163) ?_
  refine qcons (qk_ifeq dX3_takesText_166 (by decide)) ?_
  refine qcons (qk_aload_n dX3_takesText_169 rfl) ?_
  refine qcons (qk_iload dX3_takesText_170) ?_
  refine qcons (qk_iload dX3_takesText_172) ?_
  refine qcons (qk_bipush dX3_takesText_174 (by decide) (by decide)) ?_
  refine qcons (qk_ishl dX3_takesText_176) ?_
  refine qcons (qk_ior dX3_takesText_177) ?_
  refine qcons (qk_callv (ins := fun i => .invokevirtual i) (qconsV (qrunV M_X3_adds (by decide) (by decide) (by decide) rfl tw_571 tw_573 tw_9 tw_574 tw_86 ⟨by decide, by decide⟩ (by decide +kernel)) qnilV) dX3_takesText_178) ?_
  refine qcons (qk_goto dX3_takesText_181 (by decide)) ?_
  refine qcons (qk_iconst dX3_takesText_184 (by decide)) ?_
  refine qcons (qk_ret dX3_takesText_185 (Or.inr (Or.inl ⟨rfl, rfl⟩))) ?_
  refine qcons (qk_iinc dX3_takesText_186) ?_
  refine qcons (qk_goto dX3_takesText_189 (by decide)) ?_
  refine qcons (qk_aload_n dX3_takesText_192 rfl) ?_
  refine qcons (qk_getI fd_X3_64 kd_3_6 dX3_takesText_193) ?_
  refine qcons (qk_aload_n dX3_takesText_196 rfl) ?_
  refine qcons (qk_getI fd_X3_55 kd_3_2 dX3_takesText_197) ?_
  refine qcons (qk_icne dX3_takesText_200 (by decide)) ?_
  refine qcons (qk_iconst dX3_takesText_203 (by decide)) ?_
  refine qcons (qk_goto dX3_takesText_204 (by decide)) ?_
  refine qcons (qk_iconst dX3_takesText_207 (by decide)) ?_
  refine qcons (qk_ret dX3_takesText_208 (Or.inr (Or.inl ⟨rfl, rfl⟩))) ?_
  exact qnil
theorem M_X3_takesText {X : qX} {l : Launch} : qMet X l 28 yX3_takesText cX3_takesText 6 (some .boolean) S_X3_takesText := qmet_of K_X3_takesText (by decide) rfl rfl
