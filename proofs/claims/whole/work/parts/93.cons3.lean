set_option maxRecDepth 20000 in
theorem cs_35 : S_X12_init [qA 82] hk_187 = some (none, hk_333) := by
  refine (qM_at (ls := [some (qA 82)]) (Nat.le_of_ble_eq_true rfl) rfl).trans ?_
  refine (qlim_n (n := 4) (c' := (6, [some (qA 82)], [qI 0, qA 82], hk_187)) rfl).trans ?_
  refine Eq.trans (b := qlim C_X12_init (9, [some (qA 82)], [], hk_188)) (qs_putI (n := 75) rfl (by decide +kernel) (by decide)) ?_
  refine (qlim_n (n := 2) (c' := (11, [some (qA 82)], [qI 0, qA 82], hk_188)) rfl).trans ?_
  refine Eq.trans (b := qlim C_X12_init (14, [some (qA 82)], [], hk_189)) (qs_putI (n := 75) rfl (by decide +kernel) (by decide)) ?_
  refine (qlim_n (n := 2) (c' := (16, [some (qA 82)], [qI 0, qA 82], hk_189)) rfl).trans ?_
  refine Eq.trans (b := qlim C_X12_init (19, [some (qA 82)], [], hk_190)) (qs_putI (n := 75) rfl (by decide +kernel) (by decide)) ?_
  refine (qlim_n (n := 2) (c' := (21, [some (qA 82)], [qI 5, qA 82], hk_190)) rfl).trans ?_
  refine Eq.trans (b := qlim C_X12_init (23, [some (qA 82)], [qA 83, qA 82], hk_191)) (qs_newa rfl (by decide +kernel) (by decide +kernel) rfl) ?_
  refine Eq.trans (b := qlim C_X12_init (26, [some (qA 82)], [], hk_192)) (qs_putR (n := 75) rfl (by decide +kernel) (by decide) (by decide)) ?_
  refine (qlim_n (n := 2) (c' := (29, [some (qA 82)], [qI 6, qA 82], hk_192)) rfl).trans ?_
  refine Eq.trans (b := qlim C_X12_init (31, [some (qA 82)], [qA 84, qA 82], hk_193)) (qs_newa rfl (by decide +kernel) (by decide +kernel) rfl) ?_
  refine Eq.trans (b := qlim C_X12_init (34, [some (qA 82)], [], hk_194)) (qs_putR (n := 75) rfl (by decide +kernel) (by decide) (by decide)) ?_
  refine (qlim_n (n := 2) (c' := (37, [some (qA 82)], [qI 6, qA 82], hk_194)) rfl).trans ?_
  refine Eq.trans (b := qlim C_X12_init (39, [some (qA 82)], [qA 85, qA 82], hk_195)) (qs_newa rfl (by decide +kernel) (by decide +kernel) rfl) ?_
  refine Eq.trans (b := qlim C_X12_init (42, [some (qA 82)], [], hk_196)) (qs_putR (n := 75) rfl (by decide +kernel) (by decide) (by decide)) ?_
  refine (qlim_n (n := 2) (c' := (45, [some (qA 82)], [qI 6, qA 82], hk_196)) rfl).trans ?_
  refine Eq.trans (b := qlim C_X12_init (47, [some (qA 82)], [qA 86, qA 82], hk_197)) (qs_newa rfl (by decide +kernel) (by decide +kernel) rfl) ?_
  refine Eq.trans (b := qlim C_X12_init (50, [some (qA 82)], [], hk_198)) (qs_putR (n := 75) rfl (by decide +kernel) (by decide) (by decide)) ?_
  refine (qlim_n (n := 2) (c' := (53, [some (qA 82)], [qI 6, qA 82], hk_198)) rfl).trans ?_
  refine Eq.trans (b := qlim C_X12_init (55, [some (qA 82)], [qA 87, qA 82], hk_199)) (qs_newa rfl (by decide +kernel) (by decide +kernel) rfl) ?_
  refine Eq.trans (b := qlim C_X12_init (58, [some (qA 82)], [], hk_200)) (qs_putR (n := 75) rfl (by decide +kernel) (by decide) (by decide)) ?_
  refine (qlim_n (n := 2) (c' := (61, [some (qA 82)], [qI 6, qA 82], hk_200)) rfl).trans ?_
  refine Eq.trans (b := qlim C_X12_init (63, [some (qA 82)], [qA 88, qA 82], hk_201)) (qs_newa rfl (by decide +kernel) (by decide +kernel) rfl) ?_
  refine Eq.trans (b := qlim C_X12_init (66, [some (qA 82)], [], hk_202)) (qs_putR (n := 75) rfl (by decide +kernel) (by decide) (by decide)) ?_
  refine (qlim_n (n := 2) (c' := (69, [some (qA 82)], [qI 24, qA 82], hk_202)) rfl).trans ?_
  refine Eq.trans (b := qlim C_X12_init (71, [some (qA 82)], [qA 89, qA 82], hk_203)) (qs_newa rfl (by decide +kernel) (by decide +kernel) rfl) ?_
  refine Eq.trans (b := qlim C_X12_init (74, [some (qA 82)], [], hk_204)) (qs_putR (n := 75) rfl (by decide +kernel) (by decide) (by decide)) ?_
  refine (qlim_n (n := 2) (c' := (76, [some (qA 82)], [qI 0, qA 82], hk_204)) rfl).trans ?_
  refine Eq.trans (b := qlim C_X12_init (79, [some (qA 82)], [], hk_205)) (qs_putI (n := 75) rfl (by decide +kernel) (by decide)) ?_
  refine (qlim_n (n := 2) (c' := (81, [some (qA 82)], [qI (-1), qA 82], hk_205)) rfl).trans ?_
  refine Eq.trans (b := qlim C_X12_init (84, [some (qA 82)], [], hk_206)) (qs_putI (n := 75) rfl (by decide +kernel) (by decide)) ?_
  refine (qlim_n (n := 2) (c' := (86, [some (qA 82)], [qI 0, qA 82], hk_206)) rfl).trans ?_
  refine Eq.trans (b := qlim C_X12_init (89, [some (qA 82)], [], hk_207)) (qs_putI (n := 75) rfl (by decide +kernel) (by decide)) ?_
  refine (qlim_n (n := 2) (c' := (91, [some (qA 82)], [qI 0, qA 82], hk_207)) rfl).trans ?_
  refine Eq.trans (b := qlim C_X12_init (94, [some (qA 82)], [], hk_208)) (qs_putI (n := 75) rfl (by decide +kernel) (by decide)) ?_
  refine (qlim_n (n := 2) (c' := (96, [some (qA 82)], [qI 0, qA 82], hk_208)) rfl).trans ?_
  refine Eq.trans (b := qlim C_X12_init (99, [some (qA 82)], [], hk_209)) (qs_putI (n := 75) rfl (by decide +kernel) (by decide)) ?_
  refine (qlim_n (n := 2) (c' := (102, [some (qA 82)], [qI 100, qA 82], hk_209)) rfl).trans ?_
  refine Eq.trans (b := qlim C_X12_init (104, [some (qA 82)], [qA 90, qA 82], hk_210)) (qs_newa rfl (by decide +kernel) (by decide +kernel) rfl) ?_
  refine Eq.trans (b := qlim C_X12_init (107, [some (qA 82)], [], hk_211)) (qs_putR (n := 75) rfl (by decide +kernel) (by decide) (by decide)) ?_
  refine (qlim_n (n := 2) (c' := (110, [some (qA 82)], [qI 6, qA 82], hk_211)) rfl).trans ?_
  refine Eq.trans (b := qlim C_X12_init (112, [some (qA 82)], [qA 91, qA 82], hk_212)) (qs_newa rfl (by decide +kernel) (by decide +kernel) rfl) ?_
  refine Eq.trans (b := qlim C_X12_init (115, [some (qA 82)], [], hk_213)) (qs_putR (n := 75) rfl (by decide +kernel) (by decide) (by decide)) ?_
  refine (qlim_n (n := 2) (c' := (118, [some (qA 82)], [qI 60, qA 82], hk_213)) rfl).trans ?_
  refine Eq.trans (b := qlim C_X12_init (120, [some (qA 82)], [qA 92, qA 82], hk_214)) (qs_newa rfl (by decide +kernel) (by decide +kernel) rfl) ?_
  refine Eq.trans (b := qlim C_X12_init (123, [some (qA 82)], [], hk_215)) (qs_putR (n := 75) rfl (by decide +kernel) (by decide) (by decide)) ?_
  refine (qlim_n (n := 2) (c' := (126, [some (qA 82)], [qI 60, qA 82], hk_215)) rfl).trans ?_
  refine Eq.trans (b := qlim C_X12_init (128, [some (qA 82)], [qA 93, qA 82], hk_216)) (qs_newa rfl (by decide +kernel) (by decide +kernel) rfl) ?_
  refine Eq.trans (b := qlim C_X12_init (131, [some (qA 82)], [], hk_217)) (qs_putR (n := 75) rfl (by decide +kernel) (by decide) (by decide)) ?_
  refine (qlim_n (n := 2) (c' := (134, [some (qA 82)], [qI 60, qA 82], hk_217)) rfl).trans ?_
  refine Eq.trans (b := qlim C_X12_init (136, [some (qA 82)], [qA 94, qA 82], hk_218)) (qs_newa rfl (by decide +kernel) (by decide +kernel) rfl) ?_
  refine Eq.trans (b := qlim C_X12_init (139, [some (qA 82)], [], hk_219)) (qs_putR (n := 75) rfl (by decide +kernel) (by decide) (by decide)) ?_
  refine (qlim_n (n := 2) (c' := (142, [some (qA 82)], [qI 60, qA 82], hk_219)) rfl).trans ?_
  refine Eq.trans (b := qlim C_X12_init (144, [some (qA 82)], [qA 95, qA 82], hk_220)) (qs_newa rfl (by decide +kernel) (by decide +kernel) rfl) ?_
  refine Eq.trans (b := qlim C_X12_init (147, [some (qA 82)], [], hk_221)) (qs_putR (n := 75) rfl (by decide +kernel) (by decide) (by decide)) ?_
  refine (qlim_n (n := 2) (c' := (151, [some (qA 82)], [qI 600, qA 82], hk_221)) rfl).trans ?_
  refine Eq.trans (b := qlim C_X12_init (153, [some (qA 82)], [qA 96, qA 82], hk_222)) (qs_newa rfl (by decide +kernel) (by decide +kernel) rfl) ?_
  refine Eq.trans (b := qlim C_X12_init (156, [some (qA 82)], [], hk_223)) (qs_putR (n := 75) rfl (by decide +kernel) (by decide) (by decide)) ?_
  refine (qlim_n (n := 2) (c' := (159, [some (qA 82)], [qI 101, qA 82], hk_223)) rfl).trans ?_
  refine Eq.trans (b := qlim C_X12_init (161, [some (qA 82)], [qA 97, qA 82], hk_224)) (qs_newa rfl (by decide +kernel) (by decide +kernel) rfl) ?_
  refine Eq.trans (b := qlim C_X12_init (164, [some (qA 82)], [], hk_225)) (qs_putR (n := 75) rfl (by decide +kernel) (by decide) (by decide)) ?_
  refine (qlim_n (n := 2) (c' := (166, [some (qA 82)], [qI 0, qA 82], hk_225)) rfl).trans ?_
  refine Eq.trans (b := qlim C_X12_init (169, [some (qA 82)], [], hk_226)) (qs_putI (n := 75) rfl (by decide +kernel) (by decide)) ?_
  refine (qlim_n (n := 2) (c' := (171, [some (qA 82)], [qI 0, qA 82], hk_226)) rfl).trans ?_
  refine Eq.trans (b := qlim C_X12_init (174, [some (qA 82)], [], hk_227)) (qs_putI (n := 75) rfl (by decide +kernel) (by decide)) ?_
  refine (qlim_n (n := 2) (c' := (176, [some (qA 82)], [qI 0, qA 82], hk_227)) rfl).trans ?_
  refine Eq.trans (b := qlim C_X12_init (179, [some (qA 82)], [], hk_228)) (qs_putI (n := 75) rfl (by decide +kernel) (by decide)) ?_
  refine (qlim_n (n := 2) (c' := (182, [some (qA 82)], [qI 18, qA 82], hk_228)) rfl).trans ?_
  refine Eq.trans (b := qlim C_X12_init (184, [some (qA 82)], [qA 98, qA 82], hk_229)) (qs_newa rfl (by decide +kernel) (by decide +kernel) rfl) ?_
  refine (qlim_n (n := 3) (c' := (188, [some (qA 82)], [qI 98, qI 0, qA 98, qA 98, qA 82], hk_229)) rfl).trans ?_
  refine Eq.trans (b := qlim C_X12_init (189, [some (qA 82)], [qA 98, qA 82], hk_230)) (qs_iastore (n := 18) rfl (by decide +kernel) (by decide) (by decide)) ?_
  refine (qlim_n (n := 3) (c' := (193, [some (qA 82)], [qI 114, qI 1, qA 98, qA 98, qA 82], hk_230)) rfl).trans ?_
  refine Eq.trans (b := qlim C_X12_init (194, [some (qA 82)], [qA 98, qA 82], hk_231)) (qs_iastore (n := 18) rfl (by decide +kernel) (by decide) (by decide)) ?_
  refine (qlim_n (n := 3) (c' := (198, [some (qA 82)], [qI 105, qI 2, qA 98, qA 98, qA 82], hk_231)) rfl).trans ?_
  refine Eq.trans (b := qlim C_X12_init (199, [some (qA 82)], [qA 98, qA 82], hk_232)) (qs_iastore (n := 18) rfl (by decide +kernel) (by decide) (by decide)) ?_
  refine (qlim_n (n := 3) (c' := (203, [some (qA 82)], [qI 115, qI 3, qA 98, qA 98, qA 82], hk_232)) rfl).trans ?_
  refine Eq.trans (b := qlim C_X12_init (204, [some (qA 82)], [qA 98, qA 82], hk_233)) (qs_iastore (n := 18) rfl (by decide +kernel) (by decide) (by decide)) ?_
  refine (qlim_n (n := 3) (c' := (208, [some (qA 82)], [qI 107, qI 4, qA 98, qA 98, qA 82], hk_233)) rfl).trans ?_
  refine Eq.trans (b := qlim C_X12_init (209, [some (qA 82)], [qA 98, qA 82], hk_234)) (qs_iastore (n := 18) rfl (by decide +kernel) (by decide) (by decide)) ?_
  refine (qlim_n (n := 3) (c' := (213, [some (qA 82)], [qI 115, qI 5, qA 98, qA 98, qA 82], hk_234)) rfl).trans ?_
  refine Eq.trans (b := qlim C_X12_init (214, [some (qA 82)], [qA 98, qA 82], hk_235)) (qs_iastore (n := 18) rfl (by decide +kernel) (by decide) (by decide)) ?_
  refine (qlim_n (n := 3) (c' := (219, [some (qA 82)], [qI 108, qI 6, qA 98, qA 98, qA 82], hk_235)) rfl).trans ?_
  refine Eq.trans (b := qlim C_X12_init (220, [some (qA 82)], [qA 98, qA 82], hk_236)) (qs_iastore (n := 18) rfl (by decide +kernel) (by decide) (by decide)) ?_
  refine (qlim_n (n := 3) (c' := (225, [some (qA 82)], [qI 97, qI 7, qA 98, qA 98, qA 82], hk_236)) rfl).trans ?_
  refine Eq.trans (b := qlim C_X12_init (226, [some (qA 82)], [qA 98, qA 82], hk_237)) (qs_iastore (n := 18) rfl (by decide +kernel) (by decide) (by decide)) ?_
  refine (qlim_n (n := 3) (c' := (231, [some (qA 82)], [qI 99, qI 8, qA 98, qA 98, qA 82], hk_237)) rfl).trans ?_
  refine Eq.trans (b := qlim C_X12_init (232, [some (qA 82)], [qA 98, qA 82], hk_238)) (qs_iastore (n := 18) rfl (by decide +kernel) (by decide) (by decide)) ?_
  refine (qlim_n (n := 3) (c' := (237, [some (qA 82)], [qI 107, qI 9, qA 98, qA 98, qA 82], hk_238)) rfl).trans ?_
  refine Eq.trans (b := qlim C_X12_init (238, [some (qA 82)], [qA 98, qA 82], hk_239)) (qs_iastore (n := 18) rfl (by decide +kernel) (by decide) (by decide)) ?_
  refine (qlim_n (n := 3) (c' := (243, [some (qA 82)], [qI 104, qI 10, qA 98, qA 98, qA 82], hk_239)) rfl).trans ?_
  refine Eq.trans (b := qlim C_X12_init (244, [some (qA 82)], [qA 98, qA 82], hk_240)) (qs_iastore (n := 18) rfl (by decide +kernel) (by decide) (by decide)) ?_
  refine (qlim_n (n := 3) (c' := (249, [some (qA 82)], [qI 101, qI 11, qA 98, qA 98, qA 82], hk_240)) rfl).trans ?_
  refine Eq.trans (b := qlim C_X12_init (250, [some (qA 82)], [qA 98, qA 82], hk_241)) (qs_iastore (n := 18) rfl (by decide +kernel) (by decide) (by decide)) ?_
  refine (qlim_n (n := 3) (c' := (255, [some (qA 82)], [qI 97, qI 12, qA 98, qA 98, qA 82], hk_241)) rfl).trans ?_
  refine Eq.trans (b := qlim C_X12_init (256, [some (qA 82)], [qA 98, qA 82], hk_242)) (qs_iastore (n := 18) rfl (by decide +kernel) (by decide) (by decide)) ?_
  refine (qlim_n (n := 3) (c' := (261, [some (qA 82)], [qI 112, qI 13, qA 98, qA 98, qA 82], hk_242)) rfl).trans ?_
  refine Eq.trans (b := qlim C_X12_init (262, [some (qA 82)], [qA 98, qA 82], hk_243)) (qs_iastore (n := 18) rfl (by decide +kernel) (by decide) (by decide)) ?_
  refine (qlim_n (n := 3) (c' := (267, [some (qA 82)], [qI 112, qI 14, qA 98, qA 98, qA 82], hk_243)) rfl).trans ?_
  refine Eq.trans (b := qlim C_X12_init (268, [some (qA 82)], [qA 98, qA 82], hk_244)) (qs_iastore (n := 18) rfl (by decide +kernel) (by decide) (by decide)) ?_
  refine (qlim_n (n := 3) (c' := (273, [some (qA 82)], [qI 111, qI 15, qA 98, qA 98, qA 82], hk_244)) rfl).trans ?_
  refine Eq.trans (b := qlim C_X12_init (274, [some (qA 82)], [qA 98, qA 82], hk_245)) (qs_iastore (n := 18) rfl (by decide +kernel) (by decide) (by decide)) ?_
  refine (qlim_n (n := 3) (c' := (279, [some (qA 82)], [qI 115, qI 16, qA 98, qA 98, qA 82], hk_245)) rfl).trans ?_
  refine Eq.trans (b := qlim C_X12_init (280, [some (qA 82)], [qA 98, qA 82], hk_246)) (qs_iastore (n := 18) rfl (by decide +kernel) (by decide) (by decide)) ?_
  refine (qlim_n (n := 3) (c' := (285, [some (qA 82)], [qI 116, qI 17, qA 98, qA 98, qA 82], hk_246)) rfl).trans ?_
  refine Eq.trans (b := qlim C_X12_init (286, [some (qA 82)], [qA 98, qA 82], hk_247)) (qs_iastore (n := 18) rfl (by decide +kernel) (by decide) (by decide)) ?_
  refine Eq.trans (b := qlim C_X12_init (289, [some (qA 82)], [], hk_248)) (qs_putR (n := 75) rfl (by decide +kernel) (by decide) (by decide)) ?_
  refine (qlim_n (n := 2) (c' := (291, [some (qA 82)], [qI (-1), qA 82], hk_248)) rfl).trans ?_
  refine Eq.trans (b := qlim C_X12_init (294, [some (qA 82)], [], hk_249)) (qs_putI (n := 75) rfl (by decide +kernel) (by decide)) ?_
  refine (qlim_n (n := 2) (c' := (297, [some (qA 82)], [qI 100, qA 82], hk_249)) rfl).trans ?_
  refine Eq.trans (b := qlim C_X12_init (299, [some (qA 82)], [qA 99, qA 82], hk_250)) (qs_newa rfl (by decide +kernel) (by decide +kernel) rfl) ?_
  refine Eq.trans (b := qlim C_X12_init (302, [some (qA 82)], [], hk_251)) (qs_putR (n := 75) rfl (by decide +kernel) (by decide) (by decide)) ?_
  refine (qlim_n (n := 2) (c' := (305, [some (qA 82)], [qI 99999, qA 82], hk_251)) rfl).trans ?_
  refine Eq.trans (b := qlim C_X12_init (308, [some (qA 82)], [], hk_252)) (qs_putI (n := 75) rfl (by decide +kernel) (by decide)) ?_
  refine (qlim_n (n := 2) (c' := (312, [some (qA 82)], [qI 9999, qA 82], hk_252)) rfl).trans ?_
  refine Eq.trans (b := qlim C_X12_init (315, [some (qA 82)], [], hk_253)) (qs_putI (n := 75) rfl (by decide +kernel) (by decide)) ?_
  refine (qlim_n (n := 2) (c' := (317, [some (qA 82)], [qI 0, qA 82], hk_253)) rfl).trans ?_
  refine Eq.trans (b := qlim C_X12_init (320, [some (qA 82)], [], hk_254)) (qs_putI (n := 75) rfl (by decide +kernel) (by decide)) ?_
  refine (qlim_n (n := 2) (c' := (322, [some (qA 82)], [qI 0, qA 82], hk_254)) rfl).trans ?_
  refine Eq.trans (b := qlim C_X12_init (325, [some (qA 82)], [], hk_255)) (qs_putI (n := 75) rfl (by decide +kernel) (by decide)) ?_
  refine (qlim_n (n := 2) (c' := (327, [some (qA 82)], [qI 5, qA 82], hk_255)) rfl).trans ?_
  refine Eq.trans (b := qlim C_X12_init (329, [some (qA 82)], [qA 100, qA 82], hk_256)) (qs_newa rfl (by decide +kernel) (by decide +kernel) rfl) ?_
  refine Eq.trans (b := qlim C_X12_init (332, [some (qA 82)], [], hk_257)) (qs_putR (n := 75) rfl (by decide +kernel) (by decide) (by decide)) ?_
  refine (qlim_n (n := 2) (c' := (335, [some (qA 82)], [qI 6, qA 82], hk_257)) rfl).trans ?_
  refine Eq.trans (b := qlim C_X12_init (337, [some (qA 82)], [qA 101, qA 82], hk_258)) (qs_newa rfl (by decide +kernel) (by decide +kernel) rfl) ?_
  refine Eq.trans (b := qlim C_X12_init (340, [some (qA 82)], [], hk_259)) (qs_putR (n := 75) rfl (by decide +kernel) (by decide) (by decide)) ?_
  refine (qlim_n (n := 2) (c' := (343, [some (qA 82)], [qI 6, qA 82], hk_259)) rfl).trans ?_
  refine Eq.trans (b := qlim C_X12_init (345, [some (qA 82)], [qA 102, qA 82], hk_260)) (qs_newa rfl (by decide +kernel) (by decide +kernel) rfl) ?_
  refine Eq.trans (b := qlim C_X12_init (348, [some (qA 82)], [], hk_261)) (qs_putR (n := 75) rfl (by decide +kernel) (by decide) (by decide)) ?_
  refine (qlim_n (n := 2) (c' := (351, [some (qA 82)], [qI 6, qA 82], hk_261)) rfl).trans ?_
  refine Eq.trans (b := qlim C_X12_init (353, [some (qA 82)], [qA 103, qA 82], hk_262)) (qs_newa rfl (by decide +kernel) (by decide +kernel) rfl) ?_
  refine Eq.trans (b := qlim C_X12_init (356, [some (qA 82)], [], hk_263)) (qs_putR (n := 75) rfl (by decide +kernel) (by decide) (by decide)) ?_
  refine (qlim_n (n := 2) (c' := (358, [some (qA 82)], [qI 0, qA 82], hk_263)) rfl).trans ?_
  refine Eq.trans (b := qlim C_X12_init (361, [some (qA 82)], [], hk_264)) (qs_putI (n := 75) rfl (by decide +kernel) (by decide)) ?_
  refine (qlim_n (n := 2) (c' := (363, [some (qA 82)], [qI 5, qA 82], hk_264)) rfl).trans ?_
  refine Eq.trans (b := qlim C_X12_init (365, [some (qA 82)], [qA 104, qA 82], hk_265)) (qs_newa rfl (by decide +kernel) (by decide +kernel) rfl) ?_
  refine Eq.trans (b := qlim C_X12_init (368, [some (qA 82)], [], hk_266)) (qs_putR (n := 75) rfl (by decide +kernel) (by decide) (by decide)) ?_
  refine (qlim_n (n := 2) (c' := (370, [some (qA 82)], [qI 5, qA 82], hk_266)) rfl).trans ?_
  refine Eq.trans (b := qlim C_X12_init (372, [some (qA 82)], [qA 105, qA 82], hk_267)) (qs_newa rfl (by decide +kernel) (by decide +kernel) rfl) ?_
  refine Eq.trans (b := qlim C_X12_init (375, [some (qA 82)], [], hk_268)) (qs_putR (n := 75) rfl (by decide +kernel) (by decide) (by decide)) ?_
  refine (qlim_n (n := 2) (c' := (377, [some (qA 82)], [qI 5, qA 82], hk_268)) rfl).trans ?_
  refine Eq.trans (b := qlim C_X12_init (379, [some (qA 82)], [qA 106, qA 82], hk_269)) (qs_newa rfl (by decide +kernel) (by decide +kernel) rfl) ?_
  refine Eq.trans (b := qlim C_X12_init (382, [some (qA 82)], [], hk_270)) (qs_putR (n := 75) rfl (by decide +kernel) (by decide) (by decide)) ?_
  refine (qlim_n (n := 2) (c' := (384, [some (qA 82)], [qI 0, qA 82], hk_270)) rfl).trans ?_
  refine Eq.trans (b := qlim C_X12_init (387, [some (qA 82)], [], hk_271)) (qs_putI (n := 75) rfl (by decide +kernel) (by decide)) ?_
  refine (qlim_n (n := 2) (c' := (389, [some (qA 82)], [qI 0, qA 82], hk_271)) rfl).trans ?_
  refine Eq.trans (b := qlim C_X12_init (392, [some (qA 82)], [], hk_272)) (qs_putI (n := 75) rfl (by decide +kernel) (by decide)) ?_
  refine (qlim_n (n := 2) (c' := (395, [some (qA 82)], [qI 10, qA 82], hk_272)) rfl).trans ?_
  refine Eq.trans (b := qlim C_X12_init (397, [some (qA 82)], [qA 107, qA 82], hk_273)) (qs_newa rfl (by decide +kernel) (by decide +kernel) rfl) ?_
  refine Eq.trans (b := qlim C_X12_init (400, [some (qA 82)], [], hk_274)) (qs_putR (n := 75) rfl (by decide +kernel) (by decide) (by decide)) ?_
  refine (qlim_n (n := 2) (c' := (403, [some (qA 82)], [qI 10, qA 82], hk_274)) rfl).trans ?_
  refine Eq.trans (b := qlim C_X12_init (405, [some (qA 82)], [qA 108, qA 82], hk_275)) (qs_newa rfl (by decide +kernel) (by decide +kernel) rfl) ?_
  refine Eq.trans (b := qlim C_X12_init (408, [some (qA 82)], [], hk_276)) (qs_putR (n := 75) rfl (by decide +kernel) (by decide) (by decide)) ?_
  refine (qlim_n (n := 2) (c' := (411, [some (qA 82)], [qI 8, qA 82], hk_276)) rfl).trans ?_
  refine Eq.trans (b := qlim C_X12_init (413, [some (qA 82)], [qA 109, qA 82], hk_277)) (qs_newa rfl (by decide +kernel) (by decide +kernel) rfl) ?_
  refine Eq.trans (b := qlim C_X12_init (416, [some (qA 82)], [], hk_278)) (qs_putR (n := 75) rfl (by decide +kernel) (by decide) (by decide)) ?_
  refine (qlim_n (n := 2) (c' := (419, [some (qA 82)], [qI 8, qA 82], hk_278)) rfl).trans ?_
  refine Eq.trans (b := qlim C_X12_init (421, [some (qA 82)], [qA 110, qA 82], hk_279)) (qs_newa rfl (by decide +kernel) (by decide +kernel) rfl) ?_
  refine Eq.trans (b := qlim C_X12_init (424, [some (qA 82)], [], hk_280)) (qs_putR (n := 75) rfl (by decide +kernel) (by decide) (by decide)) ?_
  refine (qlim_n (n := 2) (c' := (426, [some (qA 82)], [qI 0, qA 82], hk_280)) rfl).trans ?_
  refine Eq.trans (b := qlim C_X12_init (429, [some (qA 82)], [], hk_281)) (qs_putZ (n := 75) rfl (by decide +kernel) (by decide) (by decide)) ?_
  refine (qlim_n (n := 2) (c' := (431, [some (qA 82)], [qI (-1), qA 82], hk_281)) rfl).trans ?_
  refine Eq.trans (b := qlim C_X12_init (434, [some (qA 82)], [], hk_282)) (qs_putI (n := 75) rfl (by decide +kernel) (by decide)) ?_
  refine (qlim_n (n := 2) (c' := (436, [some (qA 82)], [qI 0, qA 82], hk_282)) rfl).trans ?_
  refine Eq.trans (b := qlim C_X12_init (439, [some (qA 82)], [], hk_283)) (qs_putI (n := 75) rfl (by decide +kernel) (by decide)) ?_
  refine (qlim_n (n := 2) (c' := (441, [some (qA 82)], [qI 0, qA 82], hk_283)) rfl).trans ?_
  refine Eq.trans (b := qlim C_X12_init (444, [some (qA 82)], [], hk_284)) (qs_putI (n := 75) rfl (by decide +kernel) (by decide)) ?_
  refine (qlim_n (n := 2) (c' := (446, [some (qA 82)], [qI 0, qA 82], hk_284)) rfl).trans ?_
  refine Eq.trans (b := qlim C_X12_init (449, [some (qA 82)], [], hk_285)) (qs_putI (n := 75) rfl (by decide +kernel) (by decide)) ?_
  refine (qlim_n (n := 2) (c' := (451, [some (qA 82)], [qI 0, qA 82], hk_285)) rfl).trans ?_
  refine Eq.trans (b := qlim C_X12_init (454, [some (qA 82)], [], hk_286)) (qs_putI (n := 75) rfl (by decide +kernel) (by decide)) ?_
  refine (qlim_n (n := 2) (c' := (456, [some (qA 82)], [qI 0, qA 82], hk_286)) rfl).trans ?_
  refine Eq.trans (b := qlim C_X12_init (459, [some (qA 82)], [], hk_287)) (qs_putI (n := 75) rfl (by decide +kernel) (by decide)) ?_
  refine (qlim_n (n := 2) (c' := (461, [some (qA 82)], [qI 0, qA 82], hk_287)) rfl).trans ?_
  refine Eq.trans (b := qlim C_X12_init (464, [some (qA 82)], [], hk_288)) (qs_putI (n := 75) rfl (by decide +kernel) (by decide)) ?_
  refine (qlim_n (n := 2) (c' := (466, [some (qA 82)], [qI 5, qA 82], hk_288)) rfl).trans ?_
  refine Eq.trans (b := qlim C_X12_init (468, [some (qA 82)], [qA 111, qA 82], hk_289)) (qs_newa rfl (by decide +kernel) (by decide +kernel) rfl) ?_
  refine Eq.trans (b := qlim C_X12_init (471, [some (qA 82)], [], hk_290)) (qs_putR (n := 75) rfl (by decide +kernel) (by decide) (by decide)) ?_
  refine (qlim_n (n := 2) (c' := (474, [some (qA 82)], [qI 6, qA 82], hk_290)) rfl).trans ?_
  refine Eq.trans (b := qlim C_X12_init (476, [some (qA 82)], [qA 112, qA 82], hk_291)) (qs_newa rfl (by decide +kernel) (by decide +kernel) rfl) ?_
  refine Eq.trans (b := qlim C_X12_init (479, [some (qA 82)], [], hk_292)) (qs_putR (n := 75) rfl (by decide +kernel) (by decide) (by decide)) ?_
  refine (qlim_n (n := 2) (c' := (482, [some (qA 82)], [qI 6, qA 82], hk_292)) rfl).trans ?_
  refine Eq.trans (b := qlim C_X12_init (484, [some (qA 82)], [qA 113, qA 82], hk_293)) (qs_newa rfl (by decide +kernel) (by decide +kernel) rfl) ?_
  refine Eq.trans (b := qlim C_X12_init (487, [some (qA 82)], [], hk_294)) (qs_putR (n := 75) rfl (by decide +kernel) (by decide) (by decide)) ?_
  refine (qlim_n (n := 2) (c' := (490, [some (qA 82)], [qI 6, qA 82], hk_294)) rfl).trans ?_
  refine Eq.trans (b := qlim C_X12_init (492, [some (qA 82)], [qA 114, qA 82], hk_295)) (qs_newa rfl (by decide +kernel) (by decide +kernel) rfl) ?_
  refine Eq.trans (b := qlim C_X12_init (495, [some (qA 82)], [], hk_296)) (qs_putR (n := 75) rfl (by decide +kernel) (by decide) (by decide)) ?_
  refine (qlim_n (n := 2) (c' := (498, [some (qA 82)], [qI 6, qA 82], hk_296)) rfl).trans ?_
  refine Eq.trans (b := qlim C_X12_init (500, [some (qA 82)], [qA 115, qA 82], hk_297)) (qs_newa rfl (by decide +kernel) (by decide +kernel) rfl) ?_
  refine Eq.trans (b := qlim C_X12_init (503, [some (qA 82)], [], hk_298)) (qs_putR (n := 75) rfl (by decide +kernel) (by decide) (by decide)) ?_
  refine (qlim_n (n := 2) (c' := (506, [some (qA 82)], [qI 6, qA 82], hk_298)) rfl).trans ?_
  refine Eq.trans (b := qlim C_X12_init (508, [some (qA 82)], [qA 116, qA 82], hk_299)) (qs_newa rfl (by decide +kernel) (by decide +kernel) rfl) ?_
  refine Eq.trans (b := qlim C_X12_init (511, [some (qA 82)], [], hk_300)) (qs_putR (n := 75) rfl (by decide +kernel) (by decide) (by decide)) ?_
  refine (qlim_n (n := 2) (c' := (514, [some (qA 82)], [qI 24, qA 82], hk_300)) rfl).trans ?_
  refine Eq.trans (b := qlim C_X12_init (516, [some (qA 82)], [qA 117, qA 82], hk_301)) (qs_newa rfl (by decide +kernel) (by decide +kernel) rfl) ?_
  refine Eq.trans (b := qlim C_X12_init (519, [some (qA 82)], [], hk_302)) (qs_putR (n := 75) rfl (by decide +kernel) (by decide) (by decide)) ?_
  refine (qlim_n (n := 2) (c' := (521, [some (qA 82)], [qI 5, qA 82], hk_302)) rfl).trans ?_
  refine Eq.trans (b := qlim C_X12_init (523, [some (qA 82)], [qA 118, qA 82], hk_303)) (qs_newa rfl (by decide +kernel) (by decide +kernel) rfl) ?_
  refine Eq.trans (b := qlim C_X12_init (526, [some (qA 82)], [], hk_304)) (qs_putR (n := 75) rfl (by decide +kernel) (by decide) (by decide)) ?_
  refine (qlim_n (n := 2) (c' := (528, [some (qA 82)], [qI 5, qA 82], hk_304)) rfl).trans ?_
  refine Eq.trans (b := qlim C_X12_init (530, [some (qA 82)], [qA 119, qA 82], hk_305)) (qs_newa rfl (by decide +kernel) (by decide +kernel) rfl) ?_
  refine Eq.trans (b := qlim C_X12_init (533, [some (qA 82)], [], hk_306)) (qs_putR (n := 75) rfl (by decide +kernel) (by decide) (by decide)) ?_
  refine (qlim_n (n := 2) (c' := (535, [some (qA 82)], [qI 5, qA 82], hk_306)) rfl).trans ?_
  refine Eq.trans (b := qlim C_X12_init (537, [some (qA 82)], [qA 120, qA 82], hk_307)) (qs_newa rfl (by decide +kernel) (by decide +kernel) rfl) ?_
  refine Eq.trans (b := qlim C_X12_init (540, [some (qA 82)], [], hk_308)) (qs_putR (n := 75) rfl (by decide +kernel) (by decide) (by decide)) ?_
  refine (qlim_n (n := 2) (c' := (543, [some (qA 82)], [qI 10, qA 82], hk_308)) rfl).trans ?_
  refine Eq.trans (b := qlim C_X12_init (545, [some (qA 82)], [qA 121, qA 82], hk_309)) (qs_newa rfl (by decide +kernel) (by decide +kernel) rfl) ?_
  refine Eq.trans (b := qlim C_X12_init (548, [some (qA 82)], [], hk_310)) (qs_putR (n := 75) rfl (by decide +kernel) (by decide) (by decide)) ?_
  refine (qlim_n (n := 2) (c' := (551, [some (qA 82)], [qI 10, qA 82], hk_310)) rfl).trans ?_
  refine Eq.trans (b := qlim C_X12_init (553, [some (qA 82)], [qA 122, qA 82], hk_311)) (qs_newa rfl (by decide +kernel) (by decide +kernel) rfl) ?_
  refine Eq.trans (b := qlim C_X12_init (556, [some (qA 82)], [], hk_312)) (qs_putR (n := 75) rfl (by decide +kernel) (by decide) (by decide)) ?_
  refine (qlim_n (n := 2) (c' := (559, [some (qA 82)], [qI 8, qA 82], hk_312)) rfl).trans ?_
  refine Eq.trans (b := qlim C_X12_init (561, [some (qA 82)], [qA 123, qA 82], hk_313)) (qs_newa rfl (by decide +kernel) (by decide +kernel) rfl) ?_
  refine Eq.trans (b := qlim C_X12_init (564, [some (qA 82)], [], hk_314)) (qs_putR (n := 75) rfl (by decide +kernel) (by decide) (by decide)) ?_
  refine (qlim_n (n := 2) (c' := (567, [some (qA 82)], [qI 8, qA 82], hk_314)) rfl).trans ?_
  refine Eq.trans (b := qlim C_X12_init (569, [some (qA 82)], [qA 124, qA 82], hk_315)) (qs_newa rfl (by decide +kernel) (by decide +kernel) rfl) ?_
  refine Eq.trans (b := qlim C_X12_init (572, [some (qA 82)], [], hk_316)) (qs_putR (n := 75) rfl (by decide +kernel) (by decide) (by decide)) ?_
  refine (qlim_n (n := 2) (c' := (574, [some (qA 82)], [qI 0, qA 82], hk_316)) rfl).trans ?_
  refine Eq.trans (b := qlim C_X12_init (577, [some (qA 82)], [], hk_317)) (qs_putI (n := 75) rfl (by decide +kernel) (by decide)) ?_
  refine (qlim_n (n := 2) (c' := (580, [some (qA 82)], [qI 20, qA 82], hk_317)) rfl).trans ?_
  refine Eq.trans (b := qlim C_X12_init (582, [some (qA 82)], [qA 125, qA 82], hk_318)) (qs_newa rfl (by decide +kernel) (by decide +kernel) rfl) ?_
  refine Eq.trans (b := qlim C_X12_init (585, [some (qA 82)], [], hk_319)) (qs_putR (n := 75) rfl (by decide +kernel) (by decide) (by decide)) ?_
  refine (qlim_n (n := 2) (c' := (588, [some (qA 82)], [qI 6, qA 82], hk_319)) rfl).trans ?_
  refine Eq.trans (b := qlim C_X12_init (590, [some (qA 82)], [qA 126, qA 82], hk_320)) (qs_newa rfl (by decide +kernel) (by decide +kernel) rfl) ?_
  refine (qlim_n (n := 3) (c' := (593, [some (qA 82)], [qI (-1), qI 0, qA 126, qA 126, qA 82], hk_320)) rfl).trans ?_
  refine Eq.trans (b := qlim C_X12_init (594, [some (qA 82)], [qA 126, qA 82], hk_321)) (qs_iastore (n := 6) rfl (by decide +kernel) (by decide) (by decide)) ?_
  refine (qlim_n (n := 3) (c' := (597, [some (qA 82)], [qI (-1), qI 1, qA 126, qA 126, qA 82], hk_321)) rfl).trans ?_
  refine Eq.trans (b := qlim C_X12_init (598, [some (qA 82)], [qA 126, qA 82], hk_322)) (qs_iastore (n := 6) rfl (by decide +kernel) (by decide) (by decide)) ?_
  refine (qlim_n (n := 3) (c' := (601, [some (qA 82)], [qI (-1), qI 2, qA 126, qA 126, qA 82], hk_322)) rfl).trans ?_
  refine Eq.trans (b := qlim C_X12_init (602, [some (qA 82)], [qA 126, qA 82], hk_323)) (qs_iastore (n := 6) rfl (by decide +kernel) (by decide) (by decide)) ?_
  refine (qlim_n (n := 3) (c' := (605, [some (qA 82)], [qI (-1), qI 3, qA 126, qA 126, qA 82], hk_323)) rfl).trans ?_
  refine Eq.trans (b := qlim C_X12_init (606, [some (qA 82)], [qA 126, qA 82], hk_324)) (qs_iastore (n := 6) rfl (by decide +kernel) (by decide) (by decide)) ?_
  refine (qlim_n (n := 3) (c' := (609, [some (qA 82)], [qI (-1), qI 4, qA 126, qA 126, qA 82], hk_324)) rfl).trans ?_
  refine Eq.trans (b := qlim C_X12_init (610, [some (qA 82)], [qA 126, qA 82], hk_325)) (qs_iastore (n := 6) rfl (by decide +kernel) (by decide) (by decide)) ?_
  refine (qlim_n (n := 3) (c' := (613, [some (qA 82)], [qI (-1), qI 5, qA 126, qA 126, qA 82], hk_325)) rfl).trans ?_
  refine Eq.trans (b := qlim C_X12_init (614, [some (qA 82)], [qA 126, qA 82], hk_326)) (qs_iastore (n := 6) rfl (by decide +kernel) (by decide) (by decide)) ?_
  refine Eq.trans (b := qlim C_X12_init (617, [some (qA 82)], [], hk_327)) (qs_putR (n := 75) rfl (by decide +kernel) (by decide) (by decide)) ?_
  refine (qlim_n (n := 2) (c' := (620, [some (qA 82)], [qI 6, qA 82], hk_327)) rfl).trans ?_
  refine Eq.trans (b := qlim C_X12_init (622, [some (qA 82)], [qA 127, qA 82], hk_328)) (qs_newa rfl (by decide +kernel) (by decide +kernel) rfl) ?_
  refine Eq.trans (b := qlim C_X12_init (625, [some (qA 82)], [], hk_329)) (qs_putR (n := 75) rfl (by decide +kernel) (by decide) (by decide)) ?_
  refine (qlim_n (n := 2) (c' := (629, [some (qA 82)], [qI 360, qA 82], hk_329)) rfl).trans ?_
  refine Eq.trans (b := qlim C_X12_init (631, [some (qA 82)], [qA 128, qA 82], hk_330)) (qs_newa rfl (by decide +kernel) (by decide +kernel) rfl) ?_
  refine Eq.trans (b := qlim C_X12_init (634, [some (qA 82)], [], hk_331)) (qs_putR (n := 75) rfl (by decide +kernel) (by decide) (by decide)) ?_
  refine (qlim_n (n := 2) (c' := (637, [some (qA 82)], [qI 60, qA 82], hk_331)) rfl).trans ?_
  refine Eq.trans (b := qlim C_X12_init (639, [some (qA 82)], [qA 129, qA 82], hk_332)) (qs_newa rfl (by decide +kernel) (by decide +kernel) rfl) ?_
  refine Eq.trans (b := qlim C_X12_init (642, [some (qA 82)], [], hk_333)) (qs_putR (n := 75) rfl (by decide +kernel) (by decide) (by decide)) ?_
  exact qlim_r rfl
