theorem dL_law_0 : decode cL_law 0 = .ok (.new 7, 3) := by decide +kernel
theorem dL_law_3 : decode cL_law 3 = .ok (.dup, 1) := by decide +kernel
theorem dL_law_4 : decode cL_law 4 = .ok (.invokespecial 9, 3) := by decide +kernel
theorem dL_law_7 : decode cL_law 7 = .ok (.astore_n 1, 1) := by decide +kernel
theorem dL_law_8 : decode cL_law 8 = .ok (.new 10, 3) := by decide +kernel
theorem dL_law_11 : decode cL_law 11 = .ok (.dup, 1) := by decide +kernel
theorem dL_law_12 : decode cL_law 12 = .ok (.invokespecial 12, 3) := by decide +kernel
theorem dL_law_15 : decode cL_law 15 = .ok (.astore_n 2, 1) := by decide +kernel
theorem dL_law_16 : decode cL_law 16 = .ok (.iconst 0, 1) := by decide +kernel
theorem dL_law_17 : decode cL_law 17 = .ok (.istore_n 3, 1) := by decide +kernel
theorem dL_law_18 : decode cL_law 18 = .ok (.iload_n 3, 1) := by decide +kernel
theorem dL_law_19 : decode cL_law 19 = .ok (.aload_n 0, 1) := by decide +kernel
theorem dL_law_20 : decode cL_law 20 = .ok (.arraylength, 1) := by decide +kernel
theorem dL_law_21 : decode cL_law 21 = .ok (.bipush 6, 2) := by decide +kernel
theorem dL_law_23 : decode cL_law 23 = .ok (.isub, 1) := by decide +kernel
theorem dL_law_24 : decode cL_law 24 = .ok (.if_icmp .gt 1304, 3) := by decide +kernel
theorem dL_law_27 : decode cL_law 27 = .ok (.aload_n 0, 1) := by decide +kernel
theorem dL_law_28 : decode cL_law 28 = .ok (.iload_n 3, 1) := by decide +kernel
theorem dL_law_29 : decode cL_law 29 = .ok (.iaload, 1) := by decide +kernel
theorem dL_law_30 : decode cL_law 30 = .ok (.bipush 63, 2) := by decide +kernel
theorem dL_law_32 : decode cL_law 32 = .ok (.iand, 1) := by decide +kernel
theorem dL_law_33 : decode cL_law 33 = .ok (.tableswitch 1289 0 34 #[155, 198, 231, 264, 313, 356, 389, 412, 425, 448, 471, 504, 527, 550, 583, 606, 649, 682, 715, 759, 793, 826, 849, 882, 895, 928, 941, 954, 997, 1020, 1053, 1076, 1119, 1192, 1226], 155) := by decide +kernel
theorem dL_law_188 : decode cL_law 188 = .ok (.aload_n 1, 1) := by decide +kernel
theorem dL_law_189 : decode cL_law 189 = .ok (.aload_n 0, 1) := by decide +kernel
theorem dL_law_190 : decode cL_law 190 = .ok (.iload_n 3, 1) := by decide +kernel
theorem dL_law_191 : decode cL_law 191 = .ok (.iconst 1, 1) := by decide +kernel
theorem dL_law_192 : decode cL_law 192 = .ok (.iadd, 1) := by decide +kernel
theorem dL_law_193 : decode cL_law 193 = .ok (.iaload, 1) := by decide +kernel
theorem dL_law_194 : decode cL_law 194 = .ok (.aload_n 0, 1) := by decide +kernel
theorem dL_law_195 : decode cL_law 195 = .ok (.iload_n 3, 1) := by decide +kernel
theorem dL_law_196 : decode cL_law 196 = .ok (.iconst 2, 1) := by decide +kernel
theorem dL_law_197 : decode cL_law 197 = .ok (.iadd, 1) := by decide +kernel
theorem dL_law_198 : decode cL_law 198 = .ok (.iaload, 1) := by decide +kernel
theorem dL_law_199 : decode cL_law 199 = .ok (.aload_n 0, 1) := by decide +kernel
theorem dL_law_200 : decode cL_law 200 = .ok (.iload_n 3, 1) := by decide +kernel
theorem dL_law_201 : decode cL_law 201 = .ok (.iconst 3, 1) := by decide +kernel
theorem dL_law_202 : decode cL_law 202 = .ok (.iadd, 1) := by decide +kernel
theorem dL_law_203 : decode cL_law 203 = .ok (.iaload, 1) := by decide +kernel
theorem dL_law_204 : decode cL_law 204 = .ok (.invokevirtual 13, 3) := by decide +kernel
theorem dL_law_207 : decode cL_law 207 = .ok (.aload_n 2, 1) := by decide +kernel
theorem dL_law_208 : decode cL_law 208 = .ok (.aload_n 0, 1) := by decide +kernel
theorem dL_law_209 : decode cL_law 209 = .ok (.iload_n 3, 1) := by decide +kernel
theorem dL_law_210 : decode cL_law 210 = .ok (.iconst 1, 1) := by decide +kernel
theorem dL_law_211 : decode cL_law 211 = .ok (.iadd, 1) := by decide +kernel
theorem dL_law_212 : decode cL_law 212 = .ok (.iaload, 1) := by decide +kernel
theorem dL_law_213 : decode cL_law 213 = .ok (.aload_n 0, 1) := by decide +kernel
theorem dL_law_214 : decode cL_law 214 = .ok (.iload_n 3, 1) := by decide +kernel
theorem dL_law_215 : decode cL_law 215 = .ok (.iconst 2, 1) := by decide +kernel
theorem dL_law_216 : decode cL_law 216 = .ok (.iadd, 1) := by decide +kernel
theorem dL_law_217 : decode cL_law 217 = .ok (.iaload, 1) := by decide +kernel
theorem dL_law_218 : decode cL_law 218 = .ok (.aload_n 0, 1) := by decide +kernel
theorem dL_law_219 : decode cL_law 219 = .ok (.iload_n 3, 1) := by decide +kernel
theorem dL_law_220 : decode cL_law 220 = .ok (.iconst 3, 1) := by decide +kernel
theorem dL_law_221 : decode cL_law 221 = .ok (.iadd, 1) := by decide +kernel
theorem dL_law_222 : decode cL_law 222 = .ok (.iaload, 1) := by decide +kernel
theorem dL_law_223 : decode cL_law 223 = .ok (.invokevirtual 17, 3) := by decide +kernel
theorem dL_law_226 : decode cL_law 226 = .ok (.if_icmp .eq 1096, 3) := by decide +kernel
theorem dL_law_229 : decode cL_law 229 = .ok (.iconst 0, 1) := by decide +kernel
theorem dL_law_230 : decode cL_law 230 = .ok (.ireturn, 1) := by decide +kernel
theorem dL_law_231 : decode cL_law 231 = .ok (.aload_n 1, 1) := by decide +kernel
theorem dL_law_232 : decode cL_law 232 = .ok (.aload_n 0, 1) := by decide +kernel
theorem dL_law_233 : decode cL_law 233 = .ok (.iload_n 3, 1) := by decide +kernel
theorem dL_law_234 : decode cL_law 234 = .ok (.iconst 1, 1) := by decide +kernel
theorem dL_law_235 : decode cL_law 235 = .ok (.iadd, 1) := by decide +kernel
theorem dL_law_236 : decode cL_law 236 = .ok (.iaload, 1) := by decide +kernel
theorem dL_law_237 : decode cL_law 237 = .ok (.aload_n 0, 1) := by decide +kernel
theorem dL_law_238 : decode cL_law 238 = .ok (.iload_n 3, 1) := by decide +kernel
theorem dL_law_239 : decode cL_law 239 = .ok (.iconst 2, 1) := by decide +kernel
theorem dL_law_240 : decode cL_law 240 = .ok (.iadd, 1) := by decide +kernel
theorem dL_law_241 : decode cL_law 241 = .ok (.iaload, 1) := by decide +kernel
theorem dL_law_242 : decode cL_law 242 = .ok (.invokevirtual 18, 3) := by decide +kernel
theorem dL_law_245 : decode cL_law 245 = .ok (.aload_n 2, 1) := by decide +kernel
theorem dL_law_246 : decode cL_law 246 = .ok (.aload_n 0, 1) := by decide +kernel
theorem dL_law_247 : decode cL_law 247 = .ok (.iload_n 3, 1) := by decide +kernel
theorem dL_law_248 : decode cL_law 248 = .ok (.iconst 1, 1) := by decide +kernel
theorem dL_law_249 : decode cL_law 249 = .ok (.iadd, 1) := by decide +kernel
theorem dL_law_250 : decode cL_law 250 = .ok (.iaload, 1) := by decide +kernel
theorem dL_law_251 : decode cL_law 251 = .ok (.aload_n 0, 1) := by decide +kernel
theorem dL_law_252 : decode cL_law 252 = .ok (.iload_n 3, 1) := by decide +kernel
theorem dL_law_253 : decode cL_law 253 = .ok (.iconst 2, 1) := by decide +kernel
theorem dL_law_254 : decode cL_law 254 = .ok (.iadd, 1) := by decide +kernel
theorem dL_law_255 : decode cL_law 255 = .ok (.iaload, 1) := by decide +kernel
theorem dL_law_256 : decode cL_law 256 = .ok (.invokevirtual 22, 3) := by decide +kernel
theorem dL_law_259 : decode cL_law 259 = .ok (.if_icmp .eq 1063, 3) := by decide +kernel
theorem dL_law_262 : decode cL_law 262 = .ok (.iconst 0, 1) := by decide +kernel
theorem dL_law_263 : decode cL_law 263 = .ok (.ireturn, 1) := by decide +kernel
theorem dL_law_264 : decode cL_law 264 = .ok (.aload_n 1, 1) := by decide +kernel
theorem dL_law_265 : decode cL_law 265 = .ok (.aload_n 0, 1) := by decide +kernel
theorem dL_law_266 : decode cL_law 266 = .ok (.iload_n 3, 1) := by decide +kernel
theorem dL_law_267 : decode cL_law 267 = .ok (.iconst 1, 1) := by decide +kernel
theorem dL_law_268 : decode cL_law 268 = .ok (.iadd, 1) := by decide +kernel
theorem dL_law_269 : decode cL_law 269 = .ok (.iaload, 1) := by decide +kernel
theorem dL_law_270 : decode cL_law 270 = .ok (.aload_n 0, 1) := by decide +kernel
theorem dL_law_271 : decode cL_law 271 = .ok (.iload_n 3, 1) := by decide +kernel
noncomputable def CL_0 (L : Nat) (xs : Nat → Int32) : List (Nat × qOp) := [(0, qo_new 11 18),
  (3, qo_dup),
  (4, qo_callv [(11, S_X11_init)] 0),
  (7, qo_astore 1 1),
  (8, qo_new 12 75),
  (11, qo_dup),
  (12, qo_callv [(12, S_X12_init)] 0),
  (15, qo_astore 2 1),
  (16, qo_ci 0 1),
  (17, qo_istore 3 1),
  (18, qo_iload 3 1),
  (19, qo_aload 0 1),
  (20, qo_slen L),
  (21, qo_ci 6 2),
  (23, qo_isub),
  (24, qo_icgt 1328),
  (27, qo_aload 0 1),
  (28, qo_iload 3 1),
  (29, qo_sld L xs),
  (30, qo_ci 63 2),
  (32, qo_iand),
  (33, qo_tsw 0 [188, 231, 264, 297, 346, 389, 422, 445, 458, 481, 504, 537, 560, 583, 616, 639, 682, 715, 748, 792, 826, 859, 882, 915, 928, 961, 974, 987, 1030, 1053, 1086, 1109, 1152, 1225, 1259] 1322),
  (188, qo_aload 1 1),
  (189, qo_aload 0 1),
  (190, qo_iload 3 1),
  (191, qo_ci 1 1),
  (192, qo_iadd),
  (193, qo_sld L xs),
  (194, qo_aload 0 1),
  (195, qo_iload 3 1),
  (196, qo_ci 2 1),
  (197, qo_iadd),
  (198, qo_sld L xs),
  (199, qo_aload 0 1),
  (200, qo_iload 3 1),
  (201, qo_ci 3 1),
  (202, qo_iadd),
  (203, qo_sld L xs),
  (204, qo_callv [(11, S_X11_person)] 3),
  (207, qo_aload 2 1),
  (208, qo_aload 0 1),
  (209, qo_iload 3 1),
  (210, qo_ci 1 1),
  (211, qo_iadd),
  (212, qo_sld L xs),
  (213, qo_aload 0 1),
  (214, qo_iload 3 1),
  (215, qo_ci 2 1),
  (216, qo_iadd),
  (217, qo_sld L xs),
  (218, qo_aload 0 1),
  (219, qo_iload 3 1),
  (220, qo_ci 3 1),
  (221, qo_iadd),
  (222, qo_sld L xs),
  (223, qo_callv [(12, S_X12_person)] 3),
  (226, qo_iceq 1322),
  (229, qo_ci 0 1),
  (230, qo_ret (some .boolean) 1),
  (231, qo_aload 1 1),
  (232, qo_aload 0 1),
  (233, qo_iload 3 1),
  (234, qo_ci 1 1),
  (235, qo_iadd),
  (236, qo_sld L xs),
  (237, qo_aload 0 1),
  (238, qo_iload 3 1),
  (239, qo_ci 2 1),
  (240, qo_iadd),
  (241, qo_sld L xs),
  (242, qo_callv [(11, S_X11_of)] 2),
  (245, qo_aload 2 1),
  (246, qo_aload 0 1),
  (247, qo_iload 3 1),
  (248, qo_ci 1 1),
  (249, qo_iadd),
  (250, qo_sld L xs),
  (251, qo_aload 0 1),
  (252, qo_iload 3 1),
  (253, qo_ci 2 1),
  (254, qo_iadd),
  (255, qo_sld L xs),
  (256, qo_callv [(12, S_X12_of)] 2),
  (259, qo_iceq 1322),
  (262, qo_ci 0 1),
  (263, qo_ret (some .boolean) 1),
  (264, qo_aload 1 1),
  (265, qo_aload 0 1),
  (266, qo_iload 3 1),
  (267, qo_ci 1 1),
  (268, qo_iadd),
  (269, qo_sld L xs),
  (270, qo_aload 0 1),
  (271, qo_iload 3 1)]
set_option maxRecDepth 20000 in
theorem KL_0 {X : qX} {l : Launch} {b L : Nat} {xs : Nat → Int32} {nm : String} (hL : L ≤ 3072) : ∀ q ∈ CL_0 L xs, qOkS X l b L xs 31 cL_law 4 RL nm (some .boolean) q.1 q.2 := by
  unfold CL_0
  refine qconsS (qOkS_of (qk_new rfl (by decide) inT11 tyX11_ok tw_97 tw_98 tw_78 nd_11 dL_law_0)) ?_
  refine qconsS (qOkS_of (qk_dup dL_law_3)) ?_
  refine qconsS (qOkS_of (qk_callv (ins := fun i => .invokespecial i) (qconsV (qrunI M_X11_init (by decide) (by decide) (by decide) tw_99 tw_100 tw_101 tw_78 rfl ⟨by decide, by decide⟩ (by decide +kernel)) qnilV) dL_law_4)) ?_
  refine qconsS (qOkS_of (qk_astore_n dL_law_7 rfl)) ?_
  refine qconsS (qOkS_of (qk_new rfl (by decide) inT12 tyX12_ok tw_845 tw_846 tw_90 nd_12 dL_law_8)) ?_
  refine qconsS (qOkS_of (qk_dup dL_law_11)) ?_
  refine qconsS (qOkS_of (qk_callv (ins := fun i => .invokespecial i) (qconsV (qrunI M_X12_init (by decide) (by decide) (by decide) tw_847 tw_848 tw_849 tw_90 rfl ⟨by decide, by decide⟩ (by decide +kernel)) qnilV) dL_law_12)) ?_
  refine qconsS (qOkS_of (qk_astore_n dL_law_15 rfl)) ?_
  refine qconsS (qOkS_of (qk_iconst dL_law_16 (by decide))) ?_
  refine qconsS (qOkS_of (qk_istore_n dL_law_17 rfl)) ?_
  refine qconsS (qOkS_of (qk_iload_n dL_law_18 rfl)) ?_
  refine qconsS (qOkS_of (qk_aload_n dL_law_19 rfl)) ?_
  refine qconsS (qk_slen hL dL_law_20) ?_
  refine qconsS (qOkS_of (qk_bipush dL_law_21 (by decide) (by decide))) ?_
  refine qconsS (qOkS_of (qk_isub dL_law_23)) ?_
  refine qconsS (qOkS_of (qk_icgt dL_law_24 (by decide))) ?_
  refine qconsS (qOkS_of (qk_aload_n dL_law_27 rfl)) ?_
  refine qconsS (qOkS_of (qk_iload_n dL_law_28 rfl)) ?_
  refine qconsS (qk_sld hL dL_law_29) ?_
  refine qconsS (qOkS_of (qk_bipush dL_law_30 (by decide) (by decide))) ?_
  refine qconsS (qOkS_of (qk_iand dL_law_32)) ?_
  refine qconsS (qOkS_of (qk_tsw dL_law_33 (by decide) (by decide) (by decide))) ?_
  refine qconsS (qOkS_of (qk_aload_n dL_law_188 rfl)) ?_
  refine qconsS (qOkS_of (qk_aload_n dL_law_189 rfl)) ?_
  refine qconsS (qOkS_of (qk_iload_n dL_law_190 rfl)) ?_
  refine qconsS (qOkS_of (qk_iconst dL_law_191 (by decide))) ?_
  refine qconsS (qOkS_of (qk_iadd dL_law_192)) ?_
  refine qconsS (qk_sld hL dL_law_193) ?_
  refine qconsS (qOkS_of (qk_aload_n dL_law_194 rfl)) ?_
  refine qconsS (qOkS_of (qk_iload_n dL_law_195 rfl)) ?_
  refine qconsS (qOkS_of (qk_iconst dL_law_196 (by decide))) ?_
  refine qconsS (qOkS_of (qk_iadd dL_law_197)) ?_
  refine qconsS (qk_sld hL dL_law_198) ?_
  refine qconsS (qOkS_of (qk_aload_n dL_law_199 rfl)) ?_
  refine qconsS (qOkS_of (qk_iload_n dL_law_200 rfl)) ?_
  refine qconsS (qOkS_of (qk_iconst dL_law_201 (by decide))) ?_
  refine qconsS (qOkS_of (qk_iadd dL_law_202)) ?_
  refine qconsS (qk_sld hL dL_law_203) ?_
  refine qconsS (qOkS_of (qk_callv (ins := fun i => .invokevirtual i) (qconsV (qrunV M_X11_person (by decide) (by decide) (by decide) rfl tw_373 tw_374 tw_375 tw_376 tw_78 ⟨by decide, by decide⟩ (by decide +kernel)) qnilV) dL_law_204)) ?_
  refine qconsS (qOkS_of (qk_aload_n dL_law_207 rfl)) ?_
  refine qconsS (qOkS_of (qk_aload_n dL_law_208 rfl)) ?_
  refine qconsS (qOkS_of (qk_iload_n dL_law_209 rfl)) ?_
  refine qconsS (qOkS_of (qk_iconst dL_law_210 (by decide))) ?_
  refine qconsS (qOkS_of (qk_iadd dL_law_211)) ?_
  refine qconsS (qk_sld hL dL_law_212) ?_
  refine qconsS (qOkS_of (qk_aload_n dL_law_213 rfl)) ?_
  refine qconsS (qOkS_of (qk_iload_n dL_law_214 rfl)) ?_
  refine qconsS (qOkS_of (qk_iconst dL_law_215 (by decide))) ?_
  refine qconsS (qOkS_of (qk_iadd dL_law_216)) ?_
  refine qconsS (qk_sld hL dL_law_217) ?_
  refine qconsS (qOkS_of (qk_aload_n dL_law_218 rfl)) ?_
  refine qconsS (qOkS_of (qk_iload_n dL_law_219 rfl)) ?_
  refine qconsS (qOkS_of (qk_iconst dL_law_220 (by decide))) ?_
  refine qconsS (qOkS_of (qk_iadd dL_law_221)) ?_
  refine qconsS (qk_sld hL dL_law_222) ?_
  refine qconsS (qOkS_of (qk_callv (ins := fun i => .invokevirtual i) (qconsV (qrunV M_X12_person (by decide) (by decide) (by decide) rfl tw_1078 tw_1079 tw_1080 tw_1081 tw_90 ⟨by decide, by decide⟩ (by decide +kernel)) qnilV) dL_law_223)) ?_
  refine qconsS (qOkS_of (qk_iceq dL_law_226 (by decide))) ?_
  refine qconsS (qOkS_of (qk_iconst dL_law_229 (by decide))) ?_
  refine qconsS (qOkS_of (qk_ret dL_law_230 (Or.inr (Or.inl ⟨rfl, rfl⟩)))) ?_
  refine qconsS (qOkS_of (qk_aload_n dL_law_231 rfl)) ?_
  refine qconsS (qOkS_of (qk_aload_n dL_law_232 rfl)) ?_
  refine qconsS (qOkS_of (qk_iload_n dL_law_233 rfl)) ?_
  refine qconsS (qOkS_of (qk_iconst dL_law_234 (by decide))) ?_
  refine qconsS (qOkS_of (qk_iadd dL_law_235)) ?_
  refine qconsS (qk_sld hL dL_law_236) ?_
  refine qconsS (qOkS_of (qk_aload_n dL_law_237 rfl)) ?_
  refine qconsS (qOkS_of (qk_iload_n dL_law_238 rfl)) ?_
  refine qconsS (qOkS_of (qk_iconst dL_law_239 (by decide))) ?_
  refine qconsS (qOkS_of (qk_iadd dL_law_240)) ?_
  refine qconsS (qk_sld hL dL_law_241) ?_
  refine qconsS (qOkS_of (qk_callv (ins := fun i => .invokevirtual i) (qconsV (qrunV M_X11_of (by decide) (by decide) (by decide) rfl tw_387 tw_388 tw_389 tw_390 tw_78 ⟨by decide, by decide⟩ (by decide +kernel)) qnilV) dL_law_242)) ?_
  refine qconsS (qOkS_of (qk_aload_n dL_law_245 rfl)) ?_
  refine qconsS (qOkS_of (qk_aload_n dL_law_246 rfl)) ?_
  refine qconsS (qOkS_of (qk_iload_n dL_law_247 rfl)) ?_
  refine qconsS (qOkS_of (qk_iconst dL_law_248 (by decide))) ?_
  refine qconsS (qOkS_of (qk_iadd dL_law_249)) ?_
  refine qconsS (qk_sld hL dL_law_250) ?_
  refine qconsS (qOkS_of (qk_aload_n dL_law_251 rfl)) ?_
  refine qconsS (qOkS_of (qk_iload_n dL_law_252 rfl)) ?_
  refine qconsS (qOkS_of (qk_iconst dL_law_253 (by decide))) ?_
  refine qconsS (qOkS_of (qk_iadd dL_law_254)) ?_
  refine qconsS (qk_sld hL dL_law_255) ?_
  refine qconsS (qOkS_of (qk_callv (ins := fun i => .invokevirtual i) (qconsV (qrunV M_X12_of (by decide) (by decide) (by decide) rfl tw_1190 tw_1191 tw_1192 tw_1193 tw_90 ⟨by decide, by decide⟩ (by decide +kernel)) qnilV) dL_law_256)) ?_
  refine qconsS (qOkS_of (qk_iceq dL_law_259 (by decide))) ?_
  refine qconsS (qOkS_of (qk_iconst dL_law_262 (by decide))) ?_
  refine qconsS (qOkS_of (qk_ret dL_law_263 (Or.inr (Or.inl ⟨rfl, rfl⟩)))) ?_
  refine qconsS (qOkS_of (qk_aload_n dL_law_264 rfl)) ?_
  refine qconsS (qOkS_of (qk_aload_n dL_law_265 rfl)) ?_
  refine qconsS (qOkS_of (qk_iload_n dL_law_266 rfl)) ?_
  refine qconsS (qOkS_of (qk_iconst dL_law_267 (by decide))) ?_
  refine qconsS (qOkS_of (qk_iadd dL_law_268)) ?_
  refine qconsS (qk_sld hL dL_law_269) ?_
  refine qconsS (qOkS_of (qk_aload_n dL_law_270 rfl)) ?_
  refine qconsS (qOkS_of (qk_iload_n dL_law_271 rfl)) ?_
  exact qnilS
