set_option maxRecDepth 20000 in
theorem cs_34 : S_X11_init [qA 0] hk_1 = some (none, hk_186) := by
  refine (qM_at (ls := [some (qA 0), none, none, none]) (Nat.le_of_ble_eq_true rfl) rfl).trans ?_
  refine (qlim_n (n := 3) (c' := (6, [some (qA 0), none, none, none], [qI 7], hk_1)) rfl).trans ?_
  refine Eq.trans (b := qlim C_X11_init (9, [some (qA 0), none, none, none], [qA 1], hk_2)) (qs_anew rfl (by decide +kernel) (by decide +kernel) rfl) ?_
  refine (qlim_n (n := 2) (c' := (11, [some (qA 0), none, none, none], [qI 0, qA 1, qA 1], hk_2)) rfl).trans ?_
  refine Eq.trans (b := qlim C_X11_init (14, [some (qA 0), none, none, none], [qA 2, qI 0, qA 1, qA 1], hk_3)) (qs_new rfl (by decide +kernel)) ?_
  refine (qlim_n (n := 1) (c' := (15, [some (qA 0), none, none, none], [qA 2, qA 2, qI 0, qA 1, qA 1], hk_3)) rfl).trans ?_
  refine Eq.trans (b := qlim C_X11_init (18, [some (qA 0), none, none, none], [qA 2, qI 0, qA 1, qA 1], hk_3)) (qlim_callc (ci := 4) (nn := 0) rfl rfl rfl (by decide) (by decide) (by decide +kernel) rfl cs_1) ?_
  refine Eq.trans (b := qlim C_X11_init (19, [some (qA 0), none, none, none], [qA 1], hk_4)) (qs_aastore (n := 7) (ci := 4) (m := 0) rfl (by decide +kernel) (by decide) (by decide) (by decide +kernel) (by decide)) ?_
  refine (qlim_n (n := 2) (c' := (21, [some (qA 0), none, none, none], [qI 1, qA 1, qA 1], hk_4)) rfl).trans ?_
  refine Eq.trans (b := qlim C_X11_init (24, [some (qA 0), none, none, none], [qA 3, qI 1, qA 1, qA 1], hk_5)) (qs_new rfl (by decide +kernel)) ?_
  refine (qlim_n (n := 1) (c' := (25, [some (qA 0), none, none, none], [qA 3, qA 3, qI 1, qA 1, qA 1], hk_5)) rfl).trans ?_
  refine Eq.trans (b := qlim C_X11_init (28, [some (qA 0), none, none, none], [qA 3, qI 1, qA 1, qA 1], hk_5)) (qlim_callc (ci := 5) (nn := 0) rfl rfl rfl (by decide) (by decide) (by decide +kernel) rfl cs_3) ?_
  refine Eq.trans (b := qlim C_X11_init (29, [some (qA 0), none, none, none], [qA 1], hk_6)) (qs_aastore (n := 7) (ci := 5) (m := 0) rfl (by decide +kernel) (by decide) (by decide) (by decide +kernel) (by decide)) ?_
  refine (qlim_n (n := 2) (c' := (31, [some (qA 0), none, none, none], [qI 2, qA 1, qA 1], hk_6)) rfl).trans ?_
  refine Eq.trans (b := qlim C_X11_init (34, [some (qA 0), none, none, none], [qA 4, qI 2, qA 1, qA 1], hk_7)) (qs_new rfl (by decide +kernel)) ?_
  refine (qlim_n (n := 1) (c' := (35, [some (qA 0), none, none, none], [qA 4, qA 4, qI 2, qA 1, qA 1], hk_7)) rfl).trans ?_
  refine Eq.trans (b := qlim C_X11_init (38, [some (qA 0), none, none, none], [qA 4, qI 2, qA 1, qA 1], hk_7)) (qlim_callc (ci := 2) (nn := 0) rfl rfl rfl (by decide) (by decide) (by decide +kernel) rfl cs_5) ?_
  refine Eq.trans (b := qlim C_X11_init (39, [some (qA 0), none, none, none], [qA 1], hk_8)) (qs_aastore (n := 7) (ci := 2) (m := 0) rfl (by decide +kernel) (by decide) (by decide) (by decide +kernel) (by decide)) ?_
  refine (qlim_n (n := 2) (c' := (41, [some (qA 0), none, none, none], [qI 3, qA 1, qA 1], hk_8)) rfl).trans ?_
  refine Eq.trans (b := qlim C_X11_init (44, [some (qA 0), none, none, none], [qA 5, qI 3, qA 1, qA 1], hk_9)) (qs_new rfl (by decide +kernel)) ?_
  refine (qlim_n (n := 1) (c' := (45, [some (qA 0), none, none, none], [qA 5, qA 5, qI 3, qA 1, qA 1], hk_9)) rfl).trans ?_
  refine Eq.trans (b := qlim C_X11_init (48, [some (qA 0), none, none, none], [qA 5, qI 3, qA 1, qA 1], hk_9)) (qlim_callc (ci := 9) (nn := 0) rfl rfl rfl (by decide) (by decide) (by decide +kernel) rfl cs_7) ?_
  refine Eq.trans (b := qlim C_X11_init (49, [some (qA 0), none, none, none], [qA 1], hk_10)) (qs_aastore (n := 7) (ci := 9) (m := 0) rfl (by decide +kernel) (by decide) (by decide) (by decide +kernel) (by decide)) ?_
  refine (qlim_n (n := 2) (c' := (51, [some (qA 0), none, none, none], [qI 4, qA 1, qA 1], hk_10)) rfl).trans ?_
  refine Eq.trans (b := qlim C_X11_init (54, [some (qA 0), none, none, none], [qA 6, qI 4, qA 1, qA 1], hk_11)) (qs_new rfl (by decide +kernel)) ?_
  refine (qlim_n (n := 1) (c' := (55, [some (qA 0), none, none, none], [qA 6, qA 6, qI 4, qA 1, qA 1], hk_11)) rfl).trans ?_
  refine Eq.trans (b := qlim C_X11_init (58, [some (qA 0), none, none, none], [qA 6, qI 4, qA 1, qA 1], hk_11)) (qlim_callc (ci := 7) (nn := 0) rfl rfl rfl (by decide) (by decide) (by decide +kernel) rfl cs_10) ?_
  refine Eq.trans (b := qlim C_X11_init (59, [some (qA 0), none, none, none], [qA 1], hk_12)) (qs_aastore (n := 7) (ci := 7) (m := 0) rfl (by decide +kernel) (by decide) (by decide) (by decide +kernel) (by decide)) ?_
  refine (qlim_n (n := 2) (c' := (61, [some (qA 0), none, none, none], [qI 5, qA 1, qA 1], hk_12)) rfl).trans ?_
  refine Eq.trans (b := qlim C_X11_init (64, [some (qA 0), none, none, none], [qA 7, qI 5, qA 1, qA 1], hk_13)) (qs_new rfl (by decide +kernel)) ?_
  refine (qlim_n (n := 1) (c' := (65, [some (qA 0), none, none, none], [qA 7, qA 7, qI 5, qA 1, qA 1], hk_13)) rfl).trans ?_
  refine Eq.trans (b := qlim C_X11_init (68, [some (qA 0), none, none, none], [qA 7, qI 5, qA 1, qA 1], hk_13)) (qlim_callc (ci := 1) (nn := 0) rfl rfl rfl (by decide) (by decide) (by decide +kernel) rfl cs_13) ?_
  refine Eq.trans (b := qlim C_X11_init (69, [some (qA 0), none, none, none], [qA 1], hk_14)) (qs_aastore (n := 7) (ci := 1) (m := 0) rfl (by decide +kernel) (by decide) (by decide) (by decide +kernel) (by decide)) ?_
  refine (qlim_n (n := 2) (c' := (72, [some (qA 0), none, none, none], [qI 6, qA 1, qA 1], hk_14)) rfl).trans ?_
  refine Eq.trans (b := qlim C_X11_init (75, [some (qA 0), none, none, none], [qA 8, qI 6, qA 1, qA 1], hk_15)) (qs_new rfl (by decide +kernel)) ?_
  refine (qlim_n (n := 1) (c' := (76, [some (qA 0), none, none, none], [qA 8, qA 8, qI 6, qA 1, qA 1], hk_15)) rfl).trans ?_
  refine Eq.trans (b := qlim C_X11_init (79, [some (qA 0), none, none, none], [qA 8, qI 6, qA 1, qA 1], hk_15)) (qlim_callc (ci := 10) (nn := 0) rfl rfl rfl (by decide) (by decide) (by decide +kernel) rfl cs_16) ?_
  refine Eq.trans (b := qlim C_X11_init (80, [some (qA 0), none, none, none], [qA 1], hk_16)) (qs_aastore (n := 7) (ci := 10) (m := 0) rfl (by decide +kernel) (by decide) (by decide) (by decide +kernel) (by decide)) ?_
  refine (qlim_n (n := 1) (c' := (81, [some (qA 0), some (qA 1), none, none], [], hk_16)) rfl).trans ?_
  refine Eq.trans (b := qlim C_X11_init (84, [some (qA 0), some (qA 1), none, none], [qA 9], hk_17)) (qs_new rfl (by decide +kernel)) ?_
  refine (qlim_n (n := 1) (c' := (85, [some (qA 0), some (qA 1), none, none], [qA 9, qA 9], hk_17)) rfl).trans ?_
  refine Eq.trans (b := qlim C_X11_init (88, [some (qA 0), some (qA 1), none, none], [qA 9], hk_22)) (qlim_callc (ci := 3) (nn := 7) rfl rfl rfl (by decide) (by decide) (by decide +kernel) rfl cs_17) ?_
  refine (qlim_n (n := 2) (c' := (90, [some (qA 0), some (qA 1), some (qA 9), none], [qA 0], hk_22)) rfl).trans ?_
  refine Eq.trans (b := qlim C_X11_init (93, [some (qA 0), some (qA 1), some (qA 9), none], [qA 12, qA 0], hk_23)) (qs_new rfl (by decide +kernel)) ?_
  refine (qlim_n (n := 4) (c' := (98, [some (qA 0), some (qA 1), some (qA 9), none], [qI 99999, qA 9, qA 1, qA 12, qA 12, qA 0], hk_23)) rfl).trans ?_
  refine Eq.trans (b := qlim C_X11_init (101, [some (qA 0), some (qA 1), some (qA 9), none], [qA 12, qA 0], hk_43)) (qlim_callc (ci := 8) (nn := 14) rfl rfl rfl (by decide) (by decide) (by decide +kernel) rfl cs_18) ?_
  refine Eq.trans (b := qlim C_X11_init (104, [some (qA 0), some (qA 1), some (qA 9), none], [], hk_44)) (qs_putR (n := 18) rfl (by decide +kernel) (by decide) (by decide)) ?_
  refine (qlim_n (n := 1) (c' := (105, [some (qA 0), some (qA 1), some (qA 9), none], [qA 0], hk_44)) rfl).trans ?_
  refine Eq.trans (b := qlim C_X11_init (108, [some (qA 0), some (qA 1), some (qA 9), none], [qA 21, qA 0], hk_45)) (qs_new rfl (by decide +kernel)) ?_
  refine (qlim_n (n := 4) (c' := (113, [some (qA 0), some (qA 1), some (qA 9), none], [qI 2147483647, qA 9, qA 1, qA 21, qA 21, qA 0], hk_45)) rfl).trans ?_
  refine Eq.trans (b := qlim C_X11_init (116, [some (qA 0), some (qA 1), some (qA 9), none], [qA 21, qA 0], hk_65)) (qlim_callc (ci := 8) (nn := 14) rfl rfl rfl (by decide) (by decide) (by decide +kernel) rfl cs_19) ?_
  refine Eq.trans (b := qlim C_X11_init (119, [some (qA 0), some (qA 1), some (qA 9), none], [], hk_66)) (qs_putR (n := 18) rfl (by decide +kernel) (by decide) (by decide)) ?_
  refine (qlim_n (n := 1) (c' := (120, [some (qA 0), some (qA 1), some (qA 9), none], [qA 0], hk_66)) rfl).trans ?_
  refine Eq.trans (b := qlim C_X11_init (123, [some (qA 0), some (qA 1), some (qA 9), none], [qA 30, qA 0], hk_67)) (qs_new rfl (by decide +kernel)) ?_
  refine (qlim_n (n := 4) (c' := (128, [some (qA 0), some (qA 1), some (qA 9), none], [qI 99999, qA 9, qA 1, qA 30, qA 30, qA 0], hk_67)) rfl).trans ?_
  refine Eq.trans (b := qlim C_X11_init (131, [some (qA 0), some (qA 1), some (qA 9), none], [qA 30, qA 0], hk_87)) (qlim_callc (ci := 8) (nn := 14) rfl rfl rfl (by decide) (by decide) (by decide +kernel) rfl cs_20) ?_
  refine Eq.trans (b := qlim C_X11_init (134, [some (qA 0), some (qA 1), some (qA 9), none], [], hk_88)) (qs_putR (n := 18) rfl (by decide +kernel) (by decide) (by decide)) ?_
  refine (qlim_n (n := 1) (c' := (135, [some (qA 0), some (qA 1), some (qA 9), none], [qA 0], hk_88)) rfl).trans ?_
  refine Eq.trans (b := qlim C_X11_init (138, [some (qA 0), some (qA 1), some (qA 9), none], [qA 39, qA 0], hk_89)) (qs_new rfl (by decide +kernel)) ?_
  refine (qlim_n (n := 3) (c' := (141, [some (qA 0), some (qA 1), some (qA 9), none], [qI 3, qI 5, qA 39, qA 39, qA 0], hk_89)) rfl).trans ?_
  refine Eq.trans (b := qlim C_X11_init (144, [some (qA 0), some (qA 1), some (qA 9), none], [qA 39, qA 0], hk_93)) (qlim_callc (ci := 6) (nn := 4) rfl rfl rfl (by decide) (by decide) (by decide +kernel) rfl cs_21) ?_
  refine Eq.trans (b := qlim C_X11_init (147, [some (qA 0), some (qA 1), some (qA 9), none], [], hk_94)) (qs_putR (n := 18) rfl (by decide +kernel) (by decide) (by decide)) ?_
  refine (qlim_n (n := 1) (c' := (148, [some (qA 0), some (qA 1), some (qA 9), none], [qA 0], hk_94)) rfl).trans ?_
  refine Eq.trans (b := qlim C_X11_init (151, [some (qA 0), some (qA 1), some (qA 9), none], [qA 41, qA 0], hk_95)) (qs_new rfl (by decide +kernel)) ?_
  refine (qlim_n (n := 3) (c' := (155, [some (qA 0), some (qA 1), some (qA 9), none], [qI 2, qI 10, qA 41, qA 41, qA 0], hk_95)) rfl).trans ?_
  refine Eq.trans (b := qlim C_X11_init (158, [some (qA 0), some (qA 1), some (qA 9), none], [qA 41, qA 0], hk_99)) (qlim_callc (ci := 6) (nn := 4) rfl rfl rfl (by decide) (by decide) (by decide +kernel) rfl cs_22) ?_
  refine Eq.trans (b := qlim C_X11_init (161, [some (qA 0), some (qA 1), some (qA 9), none], [], hk_100)) (qs_putR (n := 18) rfl (by decide +kernel) (by decide) (by decide)) ?_
  refine (qlim_n (n := 1) (c' := (162, [some (qA 0), some (qA 1), some (qA 9), none], [qA 0], hk_100)) rfl).trans ?_
  refine Eq.trans (b := qlim C_X11_init (165, [some (qA 0), some (qA 1), some (qA 9), none], [qA 43, qA 0], hk_101)) (qs_new rfl (by decide +kernel)) ?_
  refine (qlim_n (n := 3) (c' := (169, [some (qA 0), some (qA 1), some (qA 9), none], [qI 2, qI 8, qA 43, qA 43, qA 0], hk_101)) rfl).trans ?_
  refine Eq.trans (b := qlim C_X11_init (172, [some (qA 0), some (qA 1), some (qA 9), none], [qA 43, qA 0], hk_105)) (qlim_callc (ci := 6) (nn := 4) rfl rfl rfl (by decide) (by decide) (by decide +kernel) rfl cs_23) ?_
  refine Eq.trans (b := qlim C_X11_init (175, [some (qA 0), some (qA 1), some (qA 9), none], [], hk_106)) (qs_putR (n := 18) rfl (by decide +kernel) (by decide) (by decide)) ?_
  refine (qlim_n (n := 1) (c' := (176, [some (qA 0), some (qA 1), some (qA 9), none], [qA 0], hk_106)) rfl).trans ?_
  refine Eq.trans (b := qlim C_X11_init (179, [some (qA 0), some (qA 1), some (qA 9), none], [qA 45, qA 0], hk_107)) (qs_new rfl (by decide +kernel)) ?_
  refine (qlim_n (n := 3) (c' := (182, [some (qA 0), some (qA 1), some (qA 9), none], [qI 3, qI 5, qA 45, qA 45, qA 0], hk_107)) rfl).trans ?_
  refine Eq.trans (b := qlim C_X11_init (185, [some (qA 0), some (qA 1), some (qA 9), none], [qA 45, qA 0], hk_111)) (qlim_callc (ci := 6) (nn := 4) rfl rfl rfl (by decide) (by decide) (by decide +kernel) rfl cs_24) ?_
  refine Eq.trans (b := qlim C_X11_init (188, [some (qA 0), some (qA 1), some (qA 9), none], [], hk_112)) (qs_putR (n := 18) rfl (by decide +kernel) (by decide) (by decide)) ?_
  refine (qlim_n (n := 1) (c' := (189, [some (qA 0), some (qA 1), some (qA 9), none], [qA 0], hk_112)) rfl).trans ?_
  refine Eq.trans (b := qlim C_X11_init (192, [some (qA 0), some (qA 1), some (qA 9), none], [qA 47, qA 0], hk_113)) (qs_new rfl (by decide +kernel)) ?_
  refine (qlim_n (n := 3) (c' := (196, [some (qA 0), some (qA 1), some (qA 9), none], [qI 2, qI 10, qA 47, qA 47, qA 0], hk_113)) rfl).trans ?_
  refine Eq.trans (b := qlim C_X11_init (199, [some (qA 0), some (qA 1), some (qA 9), none], [qA 47, qA 0], hk_117)) (qlim_callc (ci := 6) (nn := 4) rfl rfl rfl (by decide) (by decide) (by decide +kernel) rfl cs_25) ?_
  refine Eq.trans (b := qlim C_X11_init (202, [some (qA 0), some (qA 1), some (qA 9), none], [], hk_118)) (qs_putR (n := 18) rfl (by decide +kernel) (by decide) (by decide)) ?_
  refine (qlim_n (n := 1) (c' := (203, [some (qA 0), some (qA 1), some (qA 9), none], [qA 0], hk_118)) rfl).trans ?_
  refine Eq.trans (b := qlim C_X11_init (206, [some (qA 0), some (qA 1), some (qA 9), none], [qA 49, qA 0], hk_119)) (qs_new rfl (by decide +kernel)) ?_
  refine (qlim_n (n := 3) (c' := (210, [some (qA 0), some (qA 1), some (qA 9), none], [qI 2, qI 8, qA 49, qA 49, qA 0], hk_119)) rfl).trans ?_
  refine Eq.trans (b := qlim C_X11_init (213, [some (qA 0), some (qA 1), some (qA 9), none], [qA 49, qA 0], hk_123)) (qlim_callc (ci := 6) (nn := 4) rfl rfl rfl (by decide) (by decide) (by decide +kernel) rfl cs_26) ?_
  refine Eq.trans (b := qlim C_X11_init (216, [some (qA 0), some (qA 1), some (qA 9), none], [], hk_124)) (qs_putR (n := 18) rfl (by decide +kernel) (by decide) (by decide)) ?_
  refine (qlim_n (n := 2) (c' := (219, [some (qA 0), some (qA 1), some (qA 9), none], [qI 100, qA 0], hk_124)) rfl).trans ?_
  refine Eq.trans (b := qlim C_X11_init (221, [some (qA 0), some (qA 1), some (qA 9), none], [qA 51, qA 0], hk_125)) (qs_newa rfl (by decide +kernel) (by decide +kernel) rfl) ?_
  refine Eq.trans (b := qlim C_X11_init (224, [some (qA 0), some (qA 1), some (qA 9), none], [], hk_126)) (qs_putR (n := 18) rfl (by decide +kernel) (by decide) (by decide)) ?_
  refine (qlim_n (n := 2) (c' := (227, [some (qA 0), some (qA 1), some (qA 9), none], [qI 6, qA 0], hk_126)) rfl).trans ?_
  refine Eq.trans (b := qlim C_X11_init (230, [some (qA 0), some (qA 1), some (qA 9), none], [qA 52, qA 0], hk_127)) (qs_anew rfl (by decide +kernel) (by decide +kernel) rfl) ?_
  refine Eq.trans (b := qlim C_X11_init (233, [some (qA 0), some (qA 1), some (qA 9), none], [], hk_128)) (qs_putR (n := 18) rfl (by decide +kernel) (by decide) (by decide)) ?_
  refine (qlim_n (n := 6) (c' := (242, [some (qA 0), some (qA 1), some (qA 9), some (qI 0)], [qA 0], hk_128)) rfl).trans ?_
  refine Eq.trans (b := qlim C_X11_init (245, [some (qA 0), some (qA 1), some (qA 9), some (qI 0)], [qA 52], hk_128)) (qs_getR (n := 18) rfl (by decide +kernel) (by decide) (by decide +kernel)) ?_
  refine (qlim_n (n := 1) (c' := (246, [some (qA 0), some (qA 1), some (qA 9), some (qI 0)], [qI 0, qA 52], hk_128)) rfl).trans ?_
  refine Eq.trans (b := qlim C_X11_init (249, [some (qA 0), some (qA 1), some (qA 9), some (qI 0)], [qA 53, qI 0, qA 52], hk_129)) (qs_new rfl (by decide +kernel)) ?_
  refine (qlim_n (n := 1) (c' := (250, [some (qA 0), some (qA 1), some (qA 9), some (qI 0)], [qA 53, qA 53, qI 0, qA 52], hk_129)) rfl).trans ?_
  refine Eq.trans (b := qlim C_X11_init (253, [some (qA 0), some (qA 1), some (qA 9), some (qI 0)], [qA 53, qI 0, qA 52], hk_134)) (qlim_callc (ci := 3) (nn := 7) rfl rfl rfl (by decide) (by decide) (by decide +kernel) rfl cs_27) ?_
  refine Eq.trans (b := qlim C_X11_init (254, [some (qA 0), some (qA 1), some (qA 9), some (qI 0)], [], hk_135)) (qs_aastore (n := 6) (ci := 3) (m := 7) rfl (by decide +kernel) (by decide) (by decide) (by decide +kernel) (by decide)) ?_
  refine (qlim_n (n := 6) (c' := (242, [some (qA 0), some (qA 1), some (qA 9), some (qI 1)], [qA 0], hk_135)) rfl).trans ?_
  refine Eq.trans (b := qlim C_X11_init (245, [some (qA 0), some (qA 1), some (qA 9), some (qI 1)], [qA 52], hk_135)) (qs_getR (n := 18) rfl (by decide +kernel) (by decide) (by decide +kernel)) ?_
  refine (qlim_n (n := 1) (c' := (246, [some (qA 0), some (qA 1), some (qA 9), some (qI 1)], [qI 1, qA 52], hk_135)) rfl).trans ?_
  refine Eq.trans (b := qlim C_X11_init (249, [some (qA 0), some (qA 1), some (qA 9), some (qI 1)], [qA 56, qI 1, qA 52], hk_136)) (qs_new rfl (by decide +kernel)) ?_
  refine (qlim_n (n := 1) (c' := (250, [some (qA 0), some (qA 1), some (qA 9), some (qI 1)], [qA 56, qA 56, qI 1, qA 52], hk_136)) rfl).trans ?_
  refine Eq.trans (b := qlim C_X11_init (253, [some (qA 0), some (qA 1), some (qA 9), some (qI 1)], [qA 56, qI 1, qA 52], hk_141)) (qlim_callc (ci := 3) (nn := 7) rfl rfl rfl (by decide) (by decide) (by decide +kernel) rfl cs_28) ?_
  refine Eq.trans (b := qlim C_X11_init (254, [some (qA 0), some (qA 1), some (qA 9), some (qI 1)], [], hk_142)) (qs_aastore (n := 6) (ci := 3) (m := 7) rfl (by decide +kernel) (by decide) (by decide) (by decide +kernel) (by decide)) ?_
  refine (qlim_n (n := 6) (c' := (242, [some (qA 0), some (qA 1), some (qA 9), some (qI 2)], [qA 0], hk_142)) rfl).trans ?_
  refine Eq.trans (b := qlim C_X11_init (245, [some (qA 0), some (qA 1), some (qA 9), some (qI 2)], [qA 52], hk_142)) (qs_getR (n := 18) rfl (by decide +kernel) (by decide) (by decide +kernel)) ?_
  refine (qlim_n (n := 1) (c' := (246, [some (qA 0), some (qA 1), some (qA 9), some (qI 2)], [qI 2, qA 52], hk_142)) rfl).trans ?_
  refine Eq.trans (b := qlim C_X11_init (249, [some (qA 0), some (qA 1), some (qA 9), some (qI 2)], [qA 59, qI 2, qA 52], hk_143)) (qs_new rfl (by decide +kernel)) ?_
  refine (qlim_n (n := 1) (c' := (250, [some (qA 0), some (qA 1), some (qA 9), some (qI 2)], [qA 59, qA 59, qI 2, qA 52], hk_143)) rfl).trans ?_
  refine Eq.trans (b := qlim C_X11_init (253, [some (qA 0), some (qA 1), some (qA 9), some (qI 2)], [qA 59, qI 2, qA 52], hk_148)) (qlim_callc (ci := 3) (nn := 7) rfl rfl rfl (by decide) (by decide) (by decide +kernel) rfl cs_29) ?_
  refine Eq.trans (b := qlim C_X11_init (254, [some (qA 0), some (qA 1), some (qA 9), some (qI 2)], [], hk_149)) (qs_aastore (n := 6) (ci := 3) (m := 7) rfl (by decide +kernel) (by decide) (by decide) (by decide +kernel) (by decide)) ?_
  refine (qlim_n (n := 6) (c' := (242, [some (qA 0), some (qA 1), some (qA 9), some (qI 3)], [qA 0], hk_149)) rfl).trans ?_
  refine Eq.trans (b := qlim C_X11_init (245, [some (qA 0), some (qA 1), some (qA 9), some (qI 3)], [qA 52], hk_149)) (qs_getR (n := 18) rfl (by decide +kernel) (by decide) (by decide +kernel)) ?_
  refine (qlim_n (n := 1) (c' := (246, [some (qA 0), some (qA 1), some (qA 9), some (qI 3)], [qI 3, qA 52], hk_149)) rfl).trans ?_
  refine Eq.trans (b := qlim C_X11_init (249, [some (qA 0), some (qA 1), some (qA 9), some (qI 3)], [qA 62, qI 3, qA 52], hk_150)) (qs_new rfl (by decide +kernel)) ?_
  refine (qlim_n (n := 1) (c' := (250, [some (qA 0), some (qA 1), some (qA 9), some (qI 3)], [qA 62, qA 62, qI 3, qA 52], hk_150)) rfl).trans ?_
  refine Eq.trans (b := qlim C_X11_init (253, [some (qA 0), some (qA 1), some (qA 9), some (qI 3)], [qA 62, qI 3, qA 52], hk_155)) (qlim_callc (ci := 3) (nn := 7) rfl rfl rfl (by decide) (by decide) (by decide +kernel) rfl cs_30) ?_
  refine Eq.trans (b := qlim C_X11_init (254, [some (qA 0), some (qA 1), some (qA 9), some (qI 3)], [], hk_156)) (qs_aastore (n := 6) (ci := 3) (m := 7) rfl (by decide +kernel) (by decide) (by decide) (by decide +kernel) (by decide)) ?_
  refine (qlim_n (n := 6) (c' := (242, [some (qA 0), some (qA 1), some (qA 9), some (qI 4)], [qA 0], hk_156)) rfl).trans ?_
  refine Eq.trans (b := qlim C_X11_init (245, [some (qA 0), some (qA 1), some (qA 9), some (qI 4)], [qA 52], hk_156)) (qs_getR (n := 18) rfl (by decide +kernel) (by decide) (by decide +kernel)) ?_
  refine (qlim_n (n := 1) (c' := (246, [some (qA 0), some (qA 1), some (qA 9), some (qI 4)], [qI 4, qA 52], hk_156)) rfl).trans ?_
  refine Eq.trans (b := qlim C_X11_init (249, [some (qA 0), some (qA 1), some (qA 9), some (qI 4)], [qA 65, qI 4, qA 52], hk_157)) (qs_new rfl (by decide +kernel)) ?_
  refine (qlim_n (n := 1) (c' := (250, [some (qA 0), some (qA 1), some (qA 9), some (qI 4)], [qA 65, qA 65, qI 4, qA 52], hk_157)) rfl).trans ?_
  refine Eq.trans (b := qlim C_X11_init (253, [some (qA 0), some (qA 1), some (qA 9), some (qI 4)], [qA 65, qI 4, qA 52], hk_162)) (qlim_callc (ci := 3) (nn := 7) rfl rfl rfl (by decide) (by decide) (by decide +kernel) rfl cs_31) ?_
  refine Eq.trans (b := qlim C_X11_init (254, [some (qA 0), some (qA 1), some (qA 9), some (qI 4)], [], hk_163)) (qs_aastore (n := 6) (ci := 3) (m := 7) rfl (by decide +kernel) (by decide) (by decide) (by decide +kernel) (by decide)) ?_
  refine (qlim_n (n := 6) (c' := (242, [some (qA 0), some (qA 1), some (qA 9), some (qI 5)], [qA 0], hk_163)) rfl).trans ?_
  refine Eq.trans (b := qlim C_X11_init (245, [some (qA 0), some (qA 1), some (qA 9), some (qI 5)], [qA 52], hk_163)) (qs_getR (n := 18) rfl (by decide +kernel) (by decide) (by decide +kernel)) ?_
  refine (qlim_n (n := 1) (c' := (246, [some (qA 0), some (qA 1), some (qA 9), some (qI 5)], [qI 5, qA 52], hk_163)) rfl).trans ?_
  refine Eq.trans (b := qlim C_X11_init (249, [some (qA 0), some (qA 1), some (qA 9), some (qI 5)], [qA 68, qI 5, qA 52], hk_164)) (qs_new rfl (by decide +kernel)) ?_
  refine (qlim_n (n := 1) (c' := (250, [some (qA 0), some (qA 1), some (qA 9), some (qI 5)], [qA 68, qA 68, qI 5, qA 52], hk_164)) rfl).trans ?_
  refine Eq.trans (b := qlim C_X11_init (253, [some (qA 0), some (qA 1), some (qA 9), some (qI 5)], [qA 68, qI 5, qA 52], hk_169)) (qlim_callc (ci := 3) (nn := 7) rfl rfl rfl (by decide) (by decide) (by decide +kernel) rfl cs_32) ?_
  refine Eq.trans (b := qlim C_X11_init (254, [some (qA 0), some (qA 1), some (qA 9), some (qI 5)], [], hk_170)) (qs_aastore (n := 6) (ci := 3) (m := 7) rfl (by decide +kernel) (by decide) (by decide) (by decide +kernel) (by decide)) ?_
  refine (qlim_n (n := 6) (c' := (261, [some (qA 0), some (qA 1), some (qA 9), some (qI 6)], [qA 0], hk_170)) rfl).trans ?_
  refine Eq.trans (b := qlim C_X11_init (264, [some (qA 0), some (qA 1), some (qA 9), some (qI 6)], [qA 71, qA 0], hk_171)) (qs_new rfl (by decide +kernel)) ?_
  refine (qlim_n (n := 1) (c' := (265, [some (qA 0), some (qA 1), some (qA 9), some (qI 6)], [qA 71, qA 71, qA 0], hk_171)) rfl).trans ?_
  refine Eq.trans (b := qlim C_X11_init (268, [some (qA 0), some (qA 1), some (qA 9), some (qI 6)], [qA 71, qA 0], hk_173)) (qlim_callc (ci := 0) (nn := 4) rfl rfl rfl (by decide) (by decide) (by decide +kernel) rfl cs_33) ?_
  refine Eq.trans (b := qlim C_X11_init (271, [some (qA 0), some (qA 1), some (qA 9), some (qI 6)], [], hk_174)) (qs_putR (n := 18) rfl (by decide +kernel) (by decide) (by decide)) ?_
  refine (qlim_n (n := 2) (c' := (274, [some (qA 0), some (qA 1), some (qA 9), some (qI 6)], [qI 6, qA 0], hk_174)) rfl).trans ?_
  refine Eq.trans (b := qlim C_X11_init (276, [some (qA 0), some (qA 1), some (qA 9), some (qI 6)], [qA 73, qA 0], hk_175)) (qs_newa rfl (by decide +kernel) (by decide +kernel) rfl) ?_
  refine Eq.trans (b := qlim C_X11_init (279, [some (qA 0), some (qA 1), some (qA 9), some (qI 6)], [], hk_176)) (qs_putR (n := 18) rfl (by decide +kernel) (by decide) (by decide)) ?_
  refine (qlim_n (n := 2) (c' := (282, [some (qA 0), some (qA 1), some (qA 9), some (qI 6)], [qI 6, qA 0], hk_176)) rfl).trans ?_
  refine Eq.trans (b := qlim C_X11_init (284, [some (qA 0), some (qA 1), some (qA 9), some (qI 6)], [qA 74, qA 0], hk_177)) (qs_newa rfl (by decide +kernel) (by decide +kernel) rfl) ?_
  refine Eq.trans (b := qlim C_X11_init (287, [some (qA 0), some (qA 1), some (qA 9), some (qI 6)], [], hk_178)) (qs_putR (n := 18) rfl (by decide +kernel) (by decide) (by decide)) ?_
  refine (qlim_n (n := 6) (c' := (296, [some (qA 0), some (qA 1), some (qA 9), some (qI 0)], [qA 0], hk_178)) rfl).trans ?_
  refine Eq.trans (b := qlim C_X11_init (299, [some (qA 0), some (qA 1), some (qA 9), some (qI 0)], [qA 73], hk_178)) (qs_getR (n := 18) rfl (by decide +kernel) (by decide) (by decide +kernel)) ?_
  refine (qlim_n (n := 2) (c' := (301, [some (qA 0), some (qA 1), some (qA 9), some (qI 0)], [qI (-1), qI 0, qA 73], hk_178)) rfl).trans ?_
  refine Eq.trans (b := qlim C_X11_init (302, [some (qA 0), some (qA 1), some (qA 9), some (qI 0)], [], hk_179)) (qs_iastore (n := 6) rfl (by decide +kernel) (by decide) (by decide)) ?_
  refine (qlim_n (n := 6) (c' := (296, [some (qA 0), some (qA 1), some (qA 9), some (qI 1)], [qA 0], hk_179)) rfl).trans ?_
  refine Eq.trans (b := qlim C_X11_init (299, [some (qA 0), some (qA 1), some (qA 9), some (qI 1)], [qA 73], hk_179)) (qs_getR (n := 18) rfl (by decide +kernel) (by decide) (by decide +kernel)) ?_
  refine (qlim_n (n := 2) (c' := (301, [some (qA 0), some (qA 1), some (qA 9), some (qI 1)], [qI (-1), qI 1, qA 73], hk_179)) rfl).trans ?_
  refine Eq.trans (b := qlim C_X11_init (302, [some (qA 0), some (qA 1), some (qA 9), some (qI 1)], [], hk_180)) (qs_iastore (n := 6) rfl (by decide +kernel) (by decide) (by decide)) ?_
  refine (qlim_n (n := 6) (c' := (296, [some (qA 0), some (qA 1), some (qA 9), some (qI 2)], [qA 0], hk_180)) rfl).trans ?_
  refine Eq.trans (b := qlim C_X11_init (299, [some (qA 0), some (qA 1), some (qA 9), some (qI 2)], [qA 73], hk_180)) (qs_getR (n := 18) rfl (by decide +kernel) (by decide) (by decide +kernel)) ?_
  refine (qlim_n (n := 2) (c' := (301, [some (qA 0), some (qA 1), some (qA 9), some (qI 2)], [qI (-1), qI 2, qA 73], hk_180)) rfl).trans ?_
  refine Eq.trans (b := qlim C_X11_init (302, [some (qA 0), some (qA 1), some (qA 9), some (qI 2)], [], hk_181)) (qs_iastore (n := 6) rfl (by decide +kernel) (by decide) (by decide)) ?_
  refine (qlim_n (n := 6) (c' := (296, [some (qA 0), some (qA 1), some (qA 9), some (qI 3)], [qA 0], hk_181)) rfl).trans ?_
  refine Eq.trans (b := qlim C_X11_init (299, [some (qA 0), some (qA 1), some (qA 9), some (qI 3)], [qA 73], hk_181)) (qs_getR (n := 18) rfl (by decide +kernel) (by decide) (by decide +kernel)) ?_
  refine (qlim_n (n := 2) (c' := (301, [some (qA 0), some (qA 1), some (qA 9), some (qI 3)], [qI (-1), qI 3, qA 73], hk_181)) rfl).trans ?_
  refine Eq.trans (b := qlim C_X11_init (302, [some (qA 0), some (qA 1), some (qA 9), some (qI 3)], [], hk_182)) (qs_iastore (n := 6) rfl (by decide +kernel) (by decide) (by decide)) ?_
  refine (qlim_n (n := 6) (c' := (296, [some (qA 0), some (qA 1), some (qA 9), some (qI 4)], [qA 0], hk_182)) rfl).trans ?_
  refine Eq.trans (b := qlim C_X11_init (299, [some (qA 0), some (qA 1), some (qA 9), some (qI 4)], [qA 73], hk_182)) (qs_getR (n := 18) rfl (by decide +kernel) (by decide) (by decide +kernel)) ?_
  refine (qlim_n (n := 2) (c' := (301, [some (qA 0), some (qA 1), some (qA 9), some (qI 4)], [qI (-1), qI 4, qA 73], hk_182)) rfl).trans ?_
  refine Eq.trans (b := qlim C_X11_init (302, [some (qA 0), some (qA 1), some (qA 9), some (qI 4)], [], hk_183)) (qs_iastore (n := 6) rfl (by decide +kernel) (by decide) (by decide)) ?_
  refine (qlim_n (n := 6) (c' := (296, [some (qA 0), some (qA 1), some (qA 9), some (qI 5)], [qA 0], hk_183)) rfl).trans ?_
  refine Eq.trans (b := qlim C_X11_init (299, [some (qA 0), some (qA 1), some (qA 9), some (qI 5)], [qA 73], hk_183)) (qs_getR (n := 18) rfl (by decide +kernel) (by decide) (by decide +kernel)) ?_
  refine (qlim_n (n := 2) (c' := (301, [some (qA 0), some (qA 1), some (qA 9), some (qI 5)], [qI (-1), qI 5, qA 73], hk_183)) rfl).trans ?_
  refine Eq.trans (b := qlim C_X11_init (302, [some (qA 0), some (qA 1), some (qA 9), some (qI 5)], [], hk_184)) (qs_iastore (n := 6) rfl (by decide +kernel) (by decide) (by decide)) ?_
  refine (qlim_n (n := 8) (c' := (313, [some (qA 0), some (qA 1), some (qA 9), some (qI 6)], [qI 60, qI 6, qA 0], hk_184)) rfl).trans ?_
  refine Eq.trans (b := qlim C_X11_init (317, [some (qA 0), some (qA 1), some (qA 9), some (qI 6)], [qA 75, qA 0], hk_185)) (qs_mna rfl (by decide +kernel) (by decide +kernel) rfl rfl) ?_
  refine Eq.trans (b := qlim C_X11_init (320, [some (qA 0), some (qA 1), some (qA 9), some (qI 6)], [], hk_186)) (qs_putR (n := 18) rfl (by decide +kernel) (by decide) (by decide)) ?_
  exact qlim_r rfl
