theorem dX11_init_0 : decode cX11_init 0 = .ok (.aload_n 0, 1) := by decide +kernel
theorem dX11_init_1 : decode cX11_init 1 = .ok (.invokespecial 3, 3) := by decide +kernel
theorem dX11_init_4 : decode cX11_init 4 = .ok (.bipush 7, 2) := by decide +kernel
theorem dX11_init_6 : decode cX11_init 6 = .ok (.anewarray 9, 3) := by decide +kernel
theorem dX11_init_9 : decode cX11_init 9 = .ok (.dup, 1) := by decide +kernel
theorem dX11_init_10 : decode cX11_init 10 = .ok (.iconst 0, 1) := by decide +kernel
theorem dX11_init_11 : decode cX11_init 11 = .ok (.new 9, 3) := by decide +kernel
theorem dX11_init_14 : decode cX11_init 14 = .ok (.dup, 1) := by decide +kernel
theorem dX11_init_15 : decode cX11_init 15 = .ok (.invokespecial 11, 3) := by decide +kernel
theorem dX11_init_18 : decode cX11_init 18 = .ok (.aastore, 1) := by decide +kernel
theorem dX11_init_19 : decode cX11_init 19 = .ok (.dup, 1) := by decide +kernel
theorem dX11_init_20 : decode cX11_init 20 = .ok (.iconst 1, 1) := by decide +kernel
theorem dX11_init_21 : decode cX11_init 21 = .ok (.new 12, 3) := by decide +kernel
theorem dX11_init_24 : decode cX11_init 24 = .ok (.dup, 1) := by decide +kernel
theorem dX11_init_25 : decode cX11_init 25 = .ok (.invokespecial 14, 3) := by decide +kernel
theorem dX11_init_28 : decode cX11_init 28 = .ok (.aastore, 1) := by decide +kernel
theorem dX11_init_29 : decode cX11_init 29 = .ok (.dup, 1) := by decide +kernel
theorem dX11_init_30 : decode cX11_init 30 = .ok (.iconst 2, 1) := by decide +kernel
theorem dX11_init_31 : decode cX11_init 31 = .ok (.new 15, 3) := by decide +kernel
theorem dX11_init_34 : decode cX11_init 34 = .ok (.dup, 1) := by decide +kernel
theorem dX11_init_35 : decode cX11_init 35 = .ok (.invokespecial 17, 3) := by decide +kernel
theorem dX11_init_38 : decode cX11_init 38 = .ok (.aastore, 1) := by decide +kernel
theorem dX11_init_39 : decode cX11_init 39 = .ok (.dup, 1) := by decide +kernel
theorem dX11_init_40 : decode cX11_init 40 = .ok (.iconst 3, 1) := by decide +kernel
theorem dX11_init_41 : decode cX11_init 41 = .ok (.new 18, 3) := by decide +kernel
theorem dX11_init_44 : decode cX11_init 44 = .ok (.dup, 1) := by decide +kernel
theorem dX11_init_45 : decode cX11_init 45 = .ok (.invokespecial 20, 3) := by decide +kernel
theorem dX11_init_48 : decode cX11_init 48 = .ok (.aastore, 1) := by decide +kernel
theorem dX11_init_49 : decode cX11_init 49 = .ok (.dup, 1) := by decide +kernel
theorem dX11_init_50 : decode cX11_init 50 = .ok (.iconst 4, 1) := by decide +kernel
theorem dX11_init_51 : decode cX11_init 51 = .ok (.new 21, 3) := by decide +kernel
theorem dX11_init_54 : decode cX11_init 54 = .ok (.dup, 1) := by decide +kernel
theorem dX11_init_55 : decode cX11_init 55 = .ok (.invokespecial 23, 3) := by decide +kernel
theorem dX11_init_58 : decode cX11_init 58 = .ok (.aastore, 1) := by decide +kernel
theorem dX11_init_59 : decode cX11_init 59 = .ok (.dup, 1) := by decide +kernel
theorem dX11_init_60 : decode cX11_init 60 = .ok (.iconst 5, 1) := by decide +kernel
theorem dX11_init_61 : decode cX11_init 61 = .ok (.new 24, 3) := by decide +kernel
theorem dX11_init_64 : decode cX11_init 64 = .ok (.dup, 1) := by decide +kernel
theorem dX11_init_65 : decode cX11_init 65 = .ok (.invokespecial 26, 3) := by decide +kernel
theorem dX11_init_68 : decode cX11_init 68 = .ok (.aastore, 1) := by decide +kernel
theorem dX11_init_69 : decode cX11_init 69 = .ok (.dup, 1) := by decide +kernel
theorem dX11_init_70 : decode cX11_init 70 = .ok (.bipush 6, 2) := by decide +kernel
theorem dX11_init_72 : decode cX11_init 72 = .ok (.new 27, 3) := by decide +kernel
theorem dX11_init_75 : decode cX11_init 75 = .ok (.dup, 1) := by decide +kernel
theorem dX11_init_76 : decode cX11_init 76 = .ok (.invokespecial 29, 3) := by decide +kernel
theorem dX11_init_79 : decode cX11_init 79 = .ok (.aastore, 1) := by decide +kernel
theorem dX11_init_80 : decode cX11_init 80 = .ok (.astore_n 1, 1) := by decide +kernel
theorem dX11_init_81 : decode cX11_init 81 = .ok (.new 30, 3) := by decide +kernel
theorem dX11_init_84 : decode cX11_init 84 = .ok (.dup, 1) := by decide +kernel
theorem dX11_init_85 : decode cX11_init 85 = .ok (.invokespecial 32, 3) := by decide +kernel
theorem dX11_init_88 : decode cX11_init 88 = .ok (.astore_n 2, 1) := by decide +kernel
theorem dX11_init_89 : decode cX11_init 89 = .ok (.aload_n 0, 1) := by decide +kernel
theorem dX11_init_90 : decode cX11_init 90 = .ok (.new 33, 3) := by decide +kernel
theorem dX11_init_93 : decode cX11_init 93 = .ok (.dup, 1) := by decide +kernel
theorem dX11_init_94 : decode cX11_init 94 = .ok (.aload_n 1, 1) := by decide +kernel
theorem dX11_init_95 : decode cX11_init 95 = .ok (.aload_n 2, 1) := by decide +kernel
theorem dX11_init_96 : decode cX11_init 96 = .ok (.ldc 37, 2) := by decide +kernel
theorem dX11_init_98 : decode cX11_init 98 = .ok (.invokespecial 38, 3) := by decide +kernel
theorem dX11_init_101 : decode cX11_init 101 = .ok (.putfield 41, 3) := by decide +kernel
theorem dX11_init_104 : decode cX11_init 104 = .ok (.aload_n 0, 1) := by decide +kernel
theorem dX11_init_105 : decode cX11_init 105 = .ok (.new 33, 3) := by decide +kernel
theorem dX11_init_108 : decode cX11_init 108 = .ok (.dup, 1) := by decide +kernel
theorem dX11_init_109 : decode cX11_init 109 = .ok (.aload_n 1, 1) := by decide +kernel
theorem dX11_init_110 : decode cX11_init 110 = .ok (.aload_n 2, 1) := by decide +kernel
theorem dX11_init_111 : decode cX11_init 111 = .ok (.ldc 47, 2) := by decide +kernel
theorem dX11_init_113 : decode cX11_init 113 = .ok (.invokespecial 38, 3) := by decide +kernel
theorem dX11_init_116 : decode cX11_init 116 = .ok (.putfield 48, 3) := by decide +kernel
theorem dX11_init_119 : decode cX11_init 119 = .ok (.aload_n 0, 1) := by decide +kernel
theorem dX11_init_120 : decode cX11_init 120 = .ok (.new 33, 3) := by decide +kernel
theorem dX11_init_123 : decode cX11_init 123 = .ok (.dup, 1) := by decide +kernel
theorem dX11_init_124 : decode cX11_init 124 = .ok (.aload_n 1, 1) := by decide +kernel
theorem dX11_init_125 : decode cX11_init 125 = .ok (.aload_n 2, 1) := by decide +kernel
theorem dX11_init_126 : decode cX11_init 126 = .ok (.ldc 37, 2) := by decide +kernel
theorem dX11_init_128 : decode cX11_init 128 = .ok (.invokespecial 38, 3) := by decide +kernel
theorem dX11_init_131 : decode cX11_init 131 = .ok (.putfield 51, 3) := by decide +kernel
theorem dX11_init_134 : decode cX11_init 134 = .ok (.aload_n 0, 1) := by decide +kernel
theorem dX11_init_135 : decode cX11_init 135 = .ok (.new 54, 3) := by decide +kernel
theorem dX11_init_138 : decode cX11_init 138 = .ok (.dup, 1) := by decide +kernel
theorem dX11_init_139 : decode cX11_init 139 = .ok (.iconst 5, 1) := by decide +kernel
theorem dX11_init_140 : decode cX11_init 140 = .ok (.iconst 3, 1) := by decide +kernel
theorem dX11_init_141 : decode cX11_init 141 = .ok (.invokespecial 56, 3) := by decide +kernel
theorem dX11_init_144 : decode cX11_init 144 = .ok (.putfield 59, 3) := by decide +kernel
theorem dX11_init_147 : decode cX11_init 147 = .ok (.aload_n 0, 1) := by decide +kernel
theorem dX11_init_148 : decode cX11_init 148 = .ok (.new 54, 3) := by decide +kernel
theorem dX11_init_151 : decode cX11_init 151 = .ok (.dup, 1) := by decide +kernel
theorem dX11_init_152 : decode cX11_init 152 = .ok (.bipush 10, 2) := by decide +kernel
theorem dX11_init_154 : decode cX11_init 154 = .ok (.iconst 2, 1) := by decide +kernel
theorem dX11_init_155 : decode cX11_init 155 = .ok (.invokespecial 56, 3) := by decide +kernel
theorem dX11_init_158 : decode cX11_init 158 = .ok (.putfield 63, 3) := by decide +kernel
theorem dX11_init_161 : decode cX11_init 161 = .ok (.aload_n 0, 1) := by decide +kernel
theorem dX11_init_162 : decode cX11_init 162 = .ok (.new 54, 3) := by decide +kernel
theorem dX11_init_165 : decode cX11_init 165 = .ok (.dup, 1) := by decide +kernel
theorem dX11_init_166 : decode cX11_init 166 = .ok (.bipush 8, 2) := by decide +kernel
theorem dX11_init_168 : decode cX11_init 168 = .ok (.iconst 2, 1) := by decide +kernel
theorem dX11_init_169 : decode cX11_init 169 = .ok (.invokespecial 56, 3) := by decide +kernel
theorem dX11_init_172 : decode cX11_init 172 = .ok (.putfield 66, 3) := by decide +kernel
theorem dX11_init_175 : decode cX11_init 175 = .ok (.aload_n 0, 1) := by decide +kernel
theorem dX11_init_176 : decode cX11_init 176 = .ok (.new 54, 3) := by decide +kernel
theorem dX11_init_179 : decode cX11_init 179 = .ok (.dup, 1) := by decide +kernel
theorem dX11_init_180 : decode cX11_init 180 = .ok (.iconst 5, 1) := by decide +kernel
theorem dX11_init_181 : decode cX11_init 181 = .ok (.iconst 3, 1) := by decide +kernel
theorem dX11_init_182 : decode cX11_init 182 = .ok (.invokespecial 56, 3) := by decide +kernel
theorem dX11_init_185 : decode cX11_init 185 = .ok (.putfield 69, 3) := by decide +kernel
theorem dX11_init_188 : decode cX11_init 188 = .ok (.aload_n 0, 1) := by decide +kernel
theorem dX11_init_189 : decode cX11_init 189 = .ok (.new 54, 3) := by decide +kernel
theorem dX11_init_192 : decode cX11_init 192 = .ok (.dup, 1) := by decide +kernel
theorem dX11_init_193 : decode cX11_init 193 = .ok (.bipush 10, 2) := by decide +kernel
theorem dX11_init_195 : decode cX11_init 195 = .ok (.iconst 2, 1) := by decide +kernel
theorem dX11_init_196 : decode cX11_init 196 = .ok (.invokespecial 56, 3) := by decide +kernel
theorem dX11_init_199 : decode cX11_init 199 = .ok (.putfield 72, 3) := by decide +kernel
theorem dX11_init_202 : decode cX11_init 202 = .ok (.aload_n 0, 1) := by decide +kernel
theorem dX11_init_203 : decode cX11_init 203 = .ok (.new 54, 3) := by decide +kernel
theorem dX11_init_206 : decode cX11_init 206 = .ok (.dup, 1) := by decide +kernel
theorem dX11_init_207 : decode cX11_init 207 = .ok (.bipush 8, 2) := by decide +kernel
theorem dX11_init_209 : decode cX11_init 209 = .ok (.iconst 2, 1) := by decide +kernel
theorem dX11_init_210 : decode cX11_init 210 = .ok (.invokespecial 56, 3) := by decide +kernel
theorem dX11_init_213 : decode cX11_init 213 = .ok (.putfield 75, 3) := by decide +kernel
theorem dX11_init_216 : decode cX11_init 216 = .ok (.aload_n 0, 1) := by decide +kernel
theorem dX11_init_217 : decode cX11_init 217 = .ok (.bipush 100, 2) := by decide +kernel
theorem dX11_init_219 : decode cX11_init 219 = .ok (.newarray .byte, 2) := by decide +kernel
theorem dX11_init_221 : decode cX11_init 221 = .ok (.putfield 78, 3) := by decide +kernel
theorem dX11_init_224 : decode cX11_init 224 = .ok (.aload_n 0, 1) := by decide +kernel
theorem dX11_init_225 : decode cX11_init 225 = .ok (.bipush 6, 2) := by decide +kernel
theorem dX11_init_227 : decode cX11_init 227 = .ok (.anewarray 30, 3) := by decide +kernel
theorem dX11_init_230 : decode cX11_init 230 = .ok (.putfield 82, 3) := by decide +kernel
theorem dX11_init_233 : decode cX11_init 233 = .ok (.iconst 0, 1) := by decide +kernel
theorem dX11_init_234 : decode cX11_init 234 = .ok (.istore_n 3, 1) := by decide +kernel
theorem dX11_init_235 : decode cX11_init 235 = .ok (.iload_n 3, 1) := by decide +kernel
theorem dX11_init_236 : decode cX11_init 236 = .ok (.bipush 6, 2) := by decide +kernel
theorem dX11_init_238 : decode cX11_init 238 = .ok (.if_icmp .ge 22, 3) := by decide +kernel
theorem dX11_init_241 : decode cX11_init 241 = .ok (.aload_n 0, 1) := by decide +kernel
theorem dX11_init_242 : decode cX11_init 242 = .ok (.getfield 82, 3) := by decide +kernel
theorem dX11_init_245 : decode cX11_init 245 = .ok (.iload_n 3, 1) := by decide +kernel
theorem dX11_init_246 : decode cX11_init 246 = .ok (.new 30, 3) := by decide +kernel
theorem dX11_init_249 : decode cX11_init 249 = .ok (.dup, 1) := by decide +kernel
theorem dX11_init_250 : decode cX11_init 250 = .ok (.invokespecial 32, 3) := by decide +kernel
theorem dX11_init_253 : decode cX11_init 253 = .ok (.aastore, 1) := by decide +kernel
theorem dX11_init_254 : decode cX11_init 254 = .ok (.iinc 3 1, 3) := by decide +kernel
theorem dX11_init_257 : decode cX11_init 257 = .ok (.goto (-22), 3) := by decide +kernel
theorem dX11_init_260 : decode cX11_init 260 = .ok (.aload_n 0, 1) := by decide +kernel
theorem dX11_init_261 : decode cX11_init 261 = .ok (.new 86, 3) := by decide +kernel
theorem dX11_init_264 : decode cX11_init 264 = .ok (.dup, 1) := by decide +kernel
theorem dX11_init_265 : decode cX11_init 265 = .ok (.invokespecial 88, 3) := by decide +kernel
theorem dX11_init_268 : decode cX11_init 268 = .ok (.putfield 89, 3) := by decide +kernel
theorem dX11_init_271 : decode cX11_init 271 = .ok (.aload_n 0, 1) := by decide +kernel
theorem dX11_init_272 : decode cX11_init 272 = .ok (.bipush 6, 2) := by decide +kernel
theorem dX11_init_274 : decode cX11_init 274 = .ok (.newarray .int, 2) := by decide +kernel
theorem dX11_init_276 : decode cX11_init 276 = .ok (.putfield 93, 3) := by decide +kernel
theorem dX11_init_279 : decode cX11_init 279 = .ok (.aload_n 0, 1) := by decide +kernel
theorem dX11_init_280 : decode cX11_init 280 = .ok (.bipush 6, 2) := by decide +kernel
theorem dX11_init_282 : decode cX11_init 282 = .ok (.newarray .int, 2) := by decide +kernel
theorem dX11_init_284 : decode cX11_init 284 = .ok (.putfield 97, 3) := by decide +kernel
theorem dX11_init_287 : decode cX11_init 287 = .ok (.iconst 0, 1) := by decide +kernel
theorem dX11_init_288 : decode cX11_init 288 = .ok (.istore_n 3, 1) := by decide +kernel
theorem dX11_init_289 : decode cX11_init 289 = .ok (.iload_n 3, 1) := by decide +kernel
theorem dX11_init_290 : decode cX11_init 290 = .ok (.bipush 6, 2) := by decide +kernel
theorem dX11_init_292 : decode cX11_init 292 = .ok (.if_icmp .ge 16, 3) := by decide +kernel
theorem dX11_init_295 : decode cX11_init 295 = .ok (.aload_n 0, 1) := by decide +kernel
theorem dX11_init_296 : decode cX11_init 296 = .ok (.getfield 93, 3) := by decide +kernel
theorem dX11_init_299 : decode cX11_init 299 = .ok (.iload_n 3, 1) := by decide +kernel
theorem dX11_init_300 : decode cX11_init 300 = .ok (.iconst (-1), 1) := by decide +kernel
theorem dX11_init_301 : decode cX11_init 301 = .ok (.iastore, 1) := by decide +kernel
theorem dX11_init_302 : decode cX11_init 302 = .ok (.iinc 3 1, 3) := by decide +kernel
theorem dX11_init_305 : decode cX11_init 305 = .ok (.goto (-16), 3) := by decide +kernel
theorem dX11_init_308 : decode cX11_init 308 = .ok (.aload_n 0, 1) := by decide +kernel
theorem dX11_init_309 : decode cX11_init 309 = .ok (.bipush 6, 2) := by decide +kernel
theorem dX11_init_311 : decode cX11_init 311 = .ok (.bipush 60, 2) := by decide +kernel
theorem dX11_init_313 : decode cX11_init 313 = .ok (.multianewarray 100 2, 4) := by decide +kernel
theorem dX11_init_317 : decode cX11_init 317 = .ok (.putfield 102, 3) := by decide +kernel
theorem dX11_init_320 : decode cX11_init 320 = .ok (.return_, 1) := by decide +kernel
noncomputable def C_X11_init : List (Nat × qOp) := [(0, qo_aload 0 1),
  (1, qo_oinit),
  (4, qo_ci 7 2),
  (6, qo_anew 104),
  (9, qo_dup),
  (10, qo_ci 0 1),
  (11, qo_new 4 0),
  (14, qo_dup),
  (15, qo_callv [(4, S_X4_init)] 0),
  (18, qo_aastore 104 qPk),
  (19, qo_dup),
  (20, qo_ci 1 1),
  (21, qo_new 5 0),
  (24, qo_dup),
  (25, qo_callv [(5, S_X5_init)] 0),
  (28, qo_aastore 104 qPk),
  (29, qo_dup),
  (30, qo_ci 2 1),
  (31, qo_new 2 0),
  (34, qo_dup),
  (35, qo_callv [(2, S_X2_init)] 0),
  (38, qo_aastore 104 qPk),
  (39, qo_dup),
  (40, qo_ci 3 1),
  (41, qo_new 9 0),
  (44, qo_dup),
  (45, qo_callv [(9, S_X9_init)] 0),
  (48, qo_aastore 104 qPk),
  (49, qo_dup),
  (50, qo_ci 4 1),
  (51, qo_new 7 0),
  (54, qo_dup),
  (55, qo_callv [(7, S_X7_init)] 0),
  (58, qo_aastore 104 qPk),
  (59, qo_dup),
  (60, qo_ci 5 1),
  (61, qo_new 1 0),
  (64, qo_dup),
  (65, qo_callv [(1, S_X1_init)] 0),
  (68, qo_aastore 104 qPk),
  (69, qo_dup),
  (70, qo_ci 6 2),
  (72, qo_new 10 0),
  (75, qo_dup),
  (76, qo_callv [(10, S_X10_init)] 0),
  (79, qo_aastore 104 qPk),
  (80, qo_astore 1 1),
  (81, qo_new 3 7),
  (84, qo_dup),
  (85, qo_callv [(3, S_X3_init)] 0),
  (88, qo_astore 2 1),
  (89, qo_aload 0 1),
  (90, qo_new 8 14),
  (93, qo_dup),
  (94, qo_aload 1 1),
  (95, qo_aload 2 1),
  (96, qo_ci 99999 2),
  (98, qo_callv [(8, S_X8_init)] 3),
  (101, qo_putR 11 0),
  (104, qo_aload 0 1),
  (105, qo_new 8 14),
  (108, qo_dup),
  (109, qo_aload 1 1),
  (110, qo_aload 2 1),
  (111, qo_ci 2147483647 2),
  (113, qo_callv [(8, S_X8_init)] 3),
  (116, qo_putR 11 1),
  (119, qo_aload 0 1),
  (120, qo_new 8 14),
  (123, qo_dup),
  (124, qo_aload 1 1),
  (125, qo_aload 2 1),
  (126, qo_ci 99999 2),
  (128, qo_callv [(8, S_X8_init)] 3),
  (131, qo_putR 11 2),
  (134, qo_aload 0 1),
  (135, qo_new 6 4),
  (138, qo_dup),
  (139, qo_ci 5 1),
  (140, qo_ci 3 1),
  (141, qo_callv [(6, S_X6_init)] 2),
  (144, qo_putR 11 3),
  (147, qo_aload 0 1),
  (148, qo_new 6 4),
  (151, qo_dup),
  (152, qo_ci 10 2),
  (154, qo_ci 2 1),
  (155, qo_callv [(6, S_X6_init)] 2),
  (158, qo_putR 11 4),
  (161, qo_aload 0 1),
  (162, qo_new 6 4),
  (165, qo_dup),
  (166, qo_ci 8 2),
  (168, qo_ci 2 1),
  (169, qo_callv [(6, S_X6_init)] 2),
  (172, qo_putR 11 5),
  (175, qo_aload 0 1),
  (176, qo_new 6 4),
  (179, qo_dup),
  (180, qo_ci 5 1),
  (181, qo_ci 3 1),
  (182, qo_callv [(6, S_X6_init)] 2),
  (185, qo_putR 11 6),
  (188, qo_aload 0 1),
  (189, qo_new 6 4),
  (192, qo_dup),
  (193, qo_ci 10 2),
  (195, qo_ci 2 1),
  (196, qo_callv [(6, S_X6_init)] 2),
  (199, qo_putR 11 7),
  (202, qo_aload 0 1),
  (203, qo_new 6 4),
  (206, qo_dup),
  (207, qo_ci 8 2),
  (209, qo_ci 2 1),
  (210, qo_callv [(6, S_X6_init)] 2),
  (213, qo_putR 11 8),
  (216, qo_aload 0 1),
  (217, qo_ci 100 2),
  (219, qo_newa 101),
  (221, qo_putR 11 10),
  (224, qo_aload 0 1),
  (225, qo_ci 6 2),
  (227, qo_anew 105),
  (230, qo_putR 11 12),
  (233, qo_ci 0 1),
  (234, qo_istore 3 1),
  (235, qo_iload 3 1),
  (236, qo_ci 6 2),
  (238, qo_icge 260),
  (241, qo_aload 0 1),
  (242, qo_getR 11 12),
  (245, qo_iload 3 1),
  (246, qo_new 3 7),
  (249, qo_dup),
  (250, qo_callv [(3, S_X3_init)] 0),
  (253, qo_aastore 105 [3]),
  (254, qo_iinc 3 1),
  (257, qo_goto 235),
  (260, qo_aload 0 1),
  (261, qo_new 0 4),
  (264, qo_dup),
  (265, qo_callv [(0, S_X0_init)] 0),
  (268, qo_putR 11 14),
  (271, qo_aload 0 1),
  (272, qo_ci 6 2),
  (274, qo_newa 100),
  (276, qo_putR 11 15),
  (279, qo_aload 0 1),
  (280, qo_ci 6 2),
  (282, qo_newa 100),
  (284, qo_putR 11 16),
  (287, qo_ci 0 1),
  (288, qo_istore 3 1),
  (289, qo_iload 3 1),
  (290, qo_ci 6 2),
  (292, qo_icge 308),
  (295, qo_aload 0 1),
  (296, qo_getR 11 15),
  (299, qo_iload 3 1),
  (300, qo_ci (-1) 1),
  (301, qo_iastore),
  (302, qo_iinc 3 1),
  (305, qo_goto 289),
  (308, qo_aload 0 1),
  (309, qo_ci 6 2),
  (311, qo_ci 60 2),
  (313, qo_mna),
  (317, qo_putR 11 17),
  (320, qo_ret none 0)]
noncomputable def S_X11_init : qSem := qM 4 C_X11_init
set_option maxRecDepth 20000 in
theorem K_X11_init {X : qX} {l : Launch} : ∀ q ∈ C_X11_init, qOk X l 4 cX11_init 4 RX11 "<init>" none q.1 q.2 := by
  unfold C_X11_init
  refine qcons (qk_aload_n dX11_init_0 rfl) ?_
  refine qcons (qk_oinit (by decide) tw_102 tw_103 tw_104 dX11_init_1) ?_
  refine qcons (qk_bipush dX11_init_4 (by decide) (by decide)) ?_
  refine qcons (qk_anew (Or.inl ⟨rfl, rfl⟩) tw_105 tw_106 dX11_init_6) ?_
  refine qcons (qk_dup dX11_init_9) ?_
  refine qcons (qk_iconst dX11_init_10 (by decide)) ?_
  refine qcons (qk_new rfl (by decide) inT4 tyX4_ok tw_105 tw_107 tw_79 nd_4 dX11_init_11) ?_
  refine qcons (qk_dup dX11_init_14) ?_
  refine qcons (qk_callv (ins := fun i => .invokespecial i) (qconsV (qrunIN (host := RX11) M_X4_init (by decide) (by decide) (by decide) tw_108 tw_109 tw_110 tw_79 rfl ⟨by decide, by decide⟩ (by decide +kernel)) qnilV) dX11_init_15) ?_
  refine qcons (qk_aastore (Or.inl rfl) aaP dX11_init_18) ?_
  refine qcons (qk_dup dX11_init_19) ?_
  refine qcons (qk_iconst dX11_init_20 (by decide)) ?_
  refine qcons (qk_new rfl (by decide) inT5 tyX5_ok tw_113 tw_114 tw_80 nd_5 dX11_init_21) ?_
  refine qcons (qk_dup dX11_init_24) ?_
  refine qcons (qk_callv (ins := fun i => .invokespecial i) (qconsV (qrunIN (host := RX11) M_X5_init (by decide) (by decide) (by decide) tw_115 tw_116 tw_117 tw_80 rfl ⟨by decide, by decide⟩ (by decide +kernel)) qnilV) dX11_init_25) ?_
  refine qcons (qk_aastore (Or.inl rfl) aaP dX11_init_28) ?_
  refine qcons (qk_dup dX11_init_29) ?_
  refine qcons (qk_iconst dX11_init_30 (by decide)) ?_
  refine qcons (qk_new rfl (by decide) inT2 tyX2_ok tw_120 tw_121 tw_81 nd_2 dX11_init_31) ?_
  refine qcons (qk_dup dX11_init_34) ?_
  refine qcons (qk_callv (ins := fun i => .invokespecial i) (qconsV (qrunIN (host := RX11) M_X2_init (by decide) (by decide) (by decide) tw_122 tw_123 tw_124 tw_81 rfl ⟨by decide, by decide⟩ (by decide +kernel)) qnilV) dX11_init_35) ?_
  refine qcons (qk_aastore (Or.inl rfl) aaP dX11_init_38) ?_
  refine qcons (qk_dup dX11_init_39) ?_
  refine qcons (qk_iconst dX11_init_40 (by decide)) ?_
  refine qcons (qk_new rfl (by decide) inT9 tyX9_ok tw_127 tw_128 tw_82 nd_9 dX11_init_41) ?_
  refine qcons (qk_dup dX11_init_44) ?_
  refine qcons (qk_callv (ins := fun i => .invokespecial i) (qconsV (qrunIN (host := RX11) M_X9_init (by decide) (by decide) (by decide) tw_129 tw_130 tw_131 tw_82 rfl ⟨by decide, by decide⟩ (by decide +kernel)) qnilV) dX11_init_45) ?_
  refine qcons (qk_aastore (Or.inl rfl) aaP dX11_init_48) ?_
  refine qcons (qk_dup dX11_init_49) ?_
  refine qcons (qk_iconst dX11_init_50 (by decide)) ?_
  refine qcons (qk_new rfl (by decide) inT7 tyX7_ok tw_134 tw_135 tw_83 nd_7 dX11_init_51) ?_
  refine qcons (qk_dup dX11_init_54) ?_
  refine qcons (qk_callv (ins := fun i => .invokespecial i) (qconsV (qrunIN (host := RX11) M_X7_init (by decide) (by decide) (by decide) tw_136 tw_137 tw_138 tw_83 rfl ⟨by decide, by decide⟩ (by decide +kernel)) qnilV) dX11_init_55) ?_
  refine qcons (qk_aastore (Or.inl rfl) aaP dX11_init_58) ?_
  refine qcons (qk_dup dX11_init_59) ?_
  refine qcons (qk_iconst dX11_init_60 (by decide)) ?_
  refine qcons (qk_new rfl (by decide) inT1 tyX1_ok tw_141 tw_142 tw_84 nd_1 dX11_init_61) ?_
  refine qcons (qk_dup dX11_init_64) ?_
  refine qcons (qk_callv (ins := fun i => .invokespecial i) (qconsV (qrunIN (host := RX11) M_X1_init (by decide) (by decide) (by decide) tw_143 tw_144 tw_145 tw_84 rfl ⟨by decide, by decide⟩ (by decide +kernel)) qnilV) dX11_init_65) ?_
  refine qcons (qk_aastore (Or.inl rfl) aaP dX11_init_68) ?_
  refine qcons (qk_dup dX11_init_69) ?_
  refine qcons (qk_bipush dX11_init_70 (by decide) (by decide)) ?_
  refine qcons (qk_new rfl (by decide) inT10 tyX10_ok tw_148 tw_149 tw_85 nd_10 dX11_init_72) ?_
  refine qcons (qk_dup dX11_init_75) ?_
  refine qcons (qk_callv (ins := fun i => .invokespecial i) (qconsV (qrunIN (host := RX11) M_X10_init (by decide) (by decide) (by decide) tw_150 tw_151 tw_152 tw_85 rfl ⟨by decide, by decide⟩ (by decide +kernel)) qnilV) dX11_init_76) ?_
  refine qcons (qk_aastore (Or.inl rfl) aaP dX11_init_79) ?_
  refine qcons (qk_astore_n dX11_init_80 rfl) ?_
  refine qcons (qk_new rfl (by decide) inT3 tyX3_ok tw_155 tw_156 tw_86 nd_3 dX11_init_81) ?_
  refine qcons (qk_dup dX11_init_84) ?_
  refine qcons (qk_callv (ins := fun i => .invokespecial i) (qconsV (qrunI M_X3_init (by decide) (by decide) (by decide) tw_157 tw_158 tw_159 tw_86 rfl ⟨by decide, by decide⟩ (by decide +kernel)) qnilV) dX11_init_85) ?_
  refine qcons (qk_astore_n dX11_init_88 rfl) ?_
  refine qcons (qk_aload_n dX11_init_89 rfl) ?_
  refine qcons (qk_new rfl (by decide) inT8 tyX8_ok tw_189 tw_190 tw_87 nd_8 dX11_init_90) ?_
  refine qcons (qk_dup dX11_init_93) ?_
  refine qcons (qk_aload_n dX11_init_94 rfl) ?_
  refine qcons (qk_aload_n dX11_init_95 rfl) ?_
  refine qcons (qk_ldc dX11_init_96 tw_191 (by decide)) ?_
  refine qcons (qk_callv (ins := fun i => .invokespecial i) (qconsV (qrunI M_X8_init (by decide) (by decide) (by decide) tw_192 tw_193 tw_194 tw_87 rfl ⟨by decide, by decide⟩ (by decide +kernel)) qnilV) dX11_init_98) ?_
  refine qcons (qk_putR fd_X11_41 tyX11_ok nmX11 (Or.inr ⟨rfl, rfl, rfl⟩) kd_11_0 (tyX11_ok 0 (by decide)) (Or.inl ⟨_, rfl⟩) dX11_init_101) ?_
  refine qcons (qk_aload_n dX11_init_104 rfl) ?_
  refine qcons (qk_new rfl (by decide) inT8 tyX8_ok tw_189 tw_190 tw_87 nd_8 dX11_init_105) ?_
  refine qcons (qk_dup dX11_init_108) ?_
  refine qcons (qk_aload_n dX11_init_109 rfl) ?_
  refine qcons (qk_aload_n dX11_init_110 rfl) ?_
  refine qcons (qk_ldc dX11_init_111 tw_268 (by decide)) ?_
  refine qcons (qk_callv (ins := fun i => .invokespecial i) (qconsV (qrunI M_X8_init (by decide) (by decide) (by decide) tw_192 tw_193 tw_194 tw_87 rfl ⟨by decide, by decide⟩ (by decide +kernel)) qnilV) dX11_init_113) ?_
  refine qcons (qk_putR fd_X11_48 tyX11_ok nmX11 (Or.inr ⟨rfl, rfl, rfl⟩) kd_11_1 (tyX11_ok 1 (by decide)) (Or.inl ⟨_, rfl⟩) dX11_init_116) ?_
  refine qcons (qk_aload_n dX11_init_119 rfl) ?_
  refine qcons (qk_new rfl (by decide) inT8 tyX8_ok tw_189 tw_190 tw_87 nd_8 dX11_init_120) ?_
  refine qcons (qk_dup dX11_init_123) ?_
  refine qcons (qk_aload_n dX11_init_124 rfl) ?_
  refine qcons (qk_aload_n dX11_init_125 rfl) ?_
  refine qcons (qk_ldc dX11_init_126 tw_191 (by decide)) ?_
  refine qcons (qk_callv (ins := fun i => .invokespecial i) (qconsV (qrunI M_X8_init (by decide) (by decide) (by decide) tw_192 tw_193 tw_194 tw_87 rfl ⟨by decide, by decide⟩ (by decide +kernel)) qnilV) dX11_init_128) ?_
  refine qcons (qk_putR fd_X11_51 tyX11_ok nmX11 (Or.inr ⟨rfl, rfl, rfl⟩) kd_11_2 (tyX11_ok 2 (by decide)) (Or.inl ⟨_, rfl⟩) dX11_init_131) ?_
  refine qcons (qk_aload_n dX11_init_134 rfl) ?_
  refine qcons (qk_new rfl (by decide) inT6 tyX6_ok tw_269 tw_270 tw_88 nd_6 dX11_init_135) ?_
  refine qcons (qk_dup dX11_init_138) ?_
  refine qcons (qk_iconst dX11_init_139 (by decide)) ?_
  refine qcons (qk_iconst dX11_init_140 (by decide)) ?_
  refine qcons (qk_callv (ins := fun i => .invokespecial i) (qconsV (qrunI M_X6_init (by decide) (by decide) (by decide) tw_271 tw_272 tw_273 tw_88 rfl ⟨by decide, by decide⟩ (by decide +kernel)) qnilV) dX11_init_141) ?_
  refine qcons (qk_putR fd_X11_59 tyX11_ok nmX11 (Or.inr ⟨rfl, rfl, rfl⟩) kd_11_3 (tyX11_ok 3 (by decide)) (Or.inl ⟨_, rfl⟩) dX11_init_144) ?_
  refine qcons (qk_aload_n dX11_init_147 rfl) ?_
  refine qcons (qk_new rfl (by decide) inT6 tyX6_ok tw_269 tw_270 tw_88 nd_6 dX11_init_148) ?_
  refine qcons (qk_dup dX11_init_151) ?_
  refine qcons (qk_bipush dX11_init_152 (by decide) (by decide)) ?_
  refine qcons (qk_iconst dX11_init_154 (by decide)) ?_
  refine qcons (qk_callv (ins := fun i => .invokespecial i) (qconsV (qrunI M_X6_init (by decide) (by decide) (by decide) tw_271 tw_272 tw_273 tw_88 rfl ⟨by decide, by decide⟩ (by decide +kernel)) qnilV) dX11_init_155) ?_
  refine qcons (qk_putR fd_X11_63 tyX11_ok nmX11 (Or.inr ⟨rfl, rfl, rfl⟩) kd_11_4 (tyX11_ok 4 (by decide)) (Or.inl ⟨_, rfl⟩) dX11_init_158) ?_
  refine qcons (qk_aload_n dX11_init_161 rfl) ?_
  refine qcons (qk_new rfl (by decide) inT6 tyX6_ok tw_269 tw_270 tw_88 nd_6 dX11_init_162) ?_
  refine qcons (qk_dup dX11_init_165) ?_
  refine qcons (qk_bipush dX11_init_166 (by decide) (by decide)) ?_
  refine qcons (qk_iconst dX11_init_168 (by decide)) ?_
  refine qcons (qk_callv (ins := fun i => .invokespecial i) (qconsV (qrunI M_X6_init (by decide) (by decide) (by decide) tw_271 tw_272 tw_273 tw_88 rfl ⟨by decide, by decide⟩ (by decide +kernel)) qnilV) dX11_init_169) ?_
  refine qcons (qk_putR fd_X11_66 tyX11_ok nmX11 (Or.inr ⟨rfl, rfl, rfl⟩) kd_11_5 (tyX11_ok 5 (by decide)) (Or.inl ⟨_, rfl⟩) dX11_init_172) ?_
  refine qcons (qk_aload_n dX11_init_175 rfl) ?_
  refine qcons (qk_new rfl (by decide) inT6 tyX6_ok tw_269 tw_270 tw_88 nd_6 dX11_init_176) ?_
  refine qcons (qk_dup dX11_init_179) ?_
  refine qcons (qk_iconst dX11_init_180 (by decide)) ?_
  refine qcons (qk_iconst dX11_init_181 (by decide)) ?_
  refine qcons (qk_callv (ins := fun i => .invokespecial i) (qconsV (qrunI M_X6_init (by decide) (by decide) (by decide) tw_271 tw_272 tw_273 tw_88 rfl ⟨by decide, by decide⟩ (by decide +kernel)) qnilV) dX11_init_182) ?_
  refine qcons (qk_putR fd_X11_69 tyX11_ok nmX11 (Or.inr ⟨rfl, rfl, rfl⟩) kd_11_6 (tyX11_ok 6 (by decide)) (Or.inl ⟨_, rfl⟩) dX11_init_185) ?_
  refine qcons (qk_aload_n dX11_init_188 rfl) ?_
  refine qcons (qk_new rfl (by decide) inT6 tyX6_ok tw_269 tw_270 tw_88 nd_6 dX11_init_189) ?_
  refine qcons (qk_dup dX11_init_192) ?_
  refine qcons (qk_bipush dX11_init_193 (by decide) (by decide)) ?_
  refine qcons (qk_iconst dX11_init_195 (by decide)) ?_
  refine qcons (qk_callv (ins := fun i => .invokespecial i) (qconsV (qrunI M_X6_init (by decide) (by decide) (by decide) tw_271 tw_272 tw_273 tw_88 rfl ⟨by decide, by decide⟩ (by decide +kernel)) qnilV) dX11_init_196) ?_
  refine qcons (qk_putR fd_X11_72 tyX11_ok nmX11 (Or.inr ⟨rfl, rfl, rfl⟩) kd_11_7 (tyX11_ok 7 (by decide)) (Or.inl ⟨_, rfl⟩) dX11_init_199) ?_
  refine qcons (qk_aload_n dX11_init_202 rfl) ?_
  refine qcons (qk_new rfl (by decide) inT6 tyX6_ok tw_269 tw_270 tw_88 nd_6 dX11_init_203) ?_
  refine qcons (qk_dup dX11_init_206) ?_
  refine qcons (qk_bipush dX11_init_207 (by decide) (by decide)) ?_
  refine qcons (qk_iconst dX11_init_209 (by decide)) ?_
  refine qcons (qk_callv (ins := fun i => .invokespecial i) (qconsV (qrunI M_X6_init (by decide) (by decide) (by decide) tw_271 tw_272 tw_273 tw_88 rfl ⟨by decide, by decide⟩ (by decide +kernel)) qnilV) dX11_init_210) ?_
  refine qcons (qk_putR fd_X11_75 tyX11_ok nmX11 (Or.inr ⟨rfl, rfl, rfl⟩) kd_11_8 (tyX11_ok 8 (by decide)) (Or.inl ⟨_, rfl⟩) dX11_init_213) ?_
  refine qcons (qk_aload_n dX11_init_216 rfl) ?_
  refine qcons (qk_bipush dX11_init_217 (by decide) (by decide)) ?_
  refine qcons (qk_newa (atype := .byte) (ty := .byte) rfl (Or.inr (Or.inl ⟨rfl, rfl⟩)) tw_187 dX11_init_219) ?_
  refine qcons (qk_putR fd_X11_78 tyX11_ok nmX11 (Or.inr ⟨rfl, rfl, rfl⟩) kd_11_10 (tyX11_ok 10 (by decide)) (Or.inr ⟨_, rfl⟩) dX11_init_221) ?_
  refine qcons (qk_aload_n dX11_init_224 rfl) ?_
  refine qcons (qk_bipush dX11_init_225 (by decide) (by decide)) ?_
  refine qcons (qk_anew (Or.inr ⟨rfl, rfl⟩) tw_155 tw_289 dX11_init_227) ?_
  refine qcons (qk_putR fd_X11_82 tyX11_ok nmX11 (Or.inr ⟨rfl, rfl, rfl⟩) kd_11_12 (tyX11_ok 12 (by decide)) (Or.inr ⟨_, rfl⟩) dX11_init_230) ?_
  refine qcons (qk_iconst dX11_init_233 (by decide)) ?_
  refine qcons (qk_istore_n dX11_init_234 rfl) ?_
  refine qcons (qk_iload_n dX11_init_235 rfl) ?_
  refine qcons (qk_bipush dX11_init_236 (by decide) (by decide)) ?_
  refine qcons (qk_icge dX11_init_238 (by decide)) ?_
  refine qcons (qk_aload_n dX11_init_241 rfl) ?_
  refine qcons (qk_getR fd_X11_82 kd_11_12 dX11_init_242) ?_
  refine qcons (qk_iload_n dX11_init_245 rfl) ?_
  refine qcons (qk_new rfl (by decide) inT3 tyX3_ok tw_155 tw_156 tw_86 nd_3 dX11_init_246) ?_
  refine qcons (qk_dup dX11_init_249) ?_
  refine qcons (qk_callv (ins := fun i => .invokespecial i) (qconsV (qrunI M_X3_init (by decide) (by decide) (by decide) tw_157 tw_158 tw_159 tw_86 rfl ⟨by decide, by decide⟩ (by decide +kernel)) qnilV) dX11_init_250) ?_
  refine qcons (qk_aastore (Or.inr rfl) aaH dX11_init_253) ?_
  refine qcons (qk_iinc dX11_init_254) ?_
  refine qcons (qk_goto dX11_init_257 (by decide)) ?_
  refine qcons (qk_aload_n dX11_init_260 rfl) ?_
  refine qcons (qk_new rfl (by decide) inT0 tyX0_ok tw_290 tw_291 tw_89 nd_0 dX11_init_261) ?_
  refine qcons (qk_dup dX11_init_264) ?_
  refine qcons (qk_callv (ins := fun i => .invokespecial i) (qconsV (qrunI M_X0_init (by decide) (by decide) (by decide) tw_292 tw_293 tw_294 tw_89 rfl ⟨by decide, by decide⟩ (by decide +kernel)) qnilV) dX11_init_265) ?_
  refine qcons (qk_putR fd_X11_89 tyX11_ok nmX11 (Or.inr ⟨rfl, rfl, rfl⟩) kd_11_14 (tyX11_ok 14 (by decide)) (Or.inl ⟨_, rfl⟩) dX11_init_268) ?_
  refine qcons (qk_aload_n dX11_init_271 rfl) ?_
  refine qcons (qk_bipush dX11_init_272 (by decide) (by decide)) ?_
  refine qcons (qk_newa (atype := .int) (ty := .int) rfl (Or.inl ⟨rfl, rfl⟩) tw_188 dX11_init_274) ?_
  refine qcons (qk_putR fd_X11_93 tyX11_ok nmX11 (Or.inr ⟨rfl, rfl, rfl⟩) kd_11_15 (tyX11_ok 15 (by decide)) (Or.inr ⟨_, rfl⟩) dX11_init_276) ?_
  refine qcons (qk_aload_n dX11_init_279 rfl) ?_
  refine qcons (qk_bipush dX11_init_280 (by decide) (by decide)) ?_
  refine qcons (qk_newa (atype := .int) (ty := .int) rfl (Or.inl ⟨rfl, rfl⟩) tw_188 dX11_init_282) ?_
  refine qcons (qk_putR fd_X11_97 tyX11_ok nmX11 (Or.inr ⟨rfl, rfl, rfl⟩) kd_11_16 (tyX11_ok 16 (by decide)) (Or.inr ⟨_, rfl⟩) dX11_init_284) ?_
  refine qcons (qk_iconst dX11_init_287 (by decide)) ?_
  refine qcons (qk_istore_n dX11_init_288 rfl) ?_
  refine qcons (qk_iload_n dX11_init_289 rfl) ?_
  refine qcons (qk_bipush dX11_init_290 (by decide) (by decide)) ?_
  refine qcons (qk_icge dX11_init_292 (by decide)) ?_
  refine qcons (qk_aload_n dX11_init_295 rfl) ?_
  refine qcons (qk_getR fd_X11_93 kd_11_15 dX11_init_296) ?_
  refine qcons (qk_iload_n dX11_init_299 rfl) ?_
  refine qcons (qk_iconst dX11_init_300 (by decide)) ?_
  refine qcons (qk_iastore dX11_init_301) ?_
  refine qcons (qk_iinc dX11_init_302) ?_
  refine qcons (qk_goto dX11_init_305 (by decide)) ?_
  refine qcons (qk_aload_n dX11_init_308 rfl) ?_
  refine qcons (qk_bipush dX11_init_309 (by decide) (by decide)) ?_
  refine qcons (qk_bipush dX11_init_311 (by decide) (by decide)) ?_
  refine qcons (qk_mna tw_315 tw_316 tw_372 dX11_init_313) ?_
  refine qcons (qk_putR fd_X11_102 tyX11_ok nmX11 (Or.inr ⟨rfl, rfl, rfl⟩) kd_11_17 (tyX11_ok 17 (by decide)) (Or.inr ⟨_, rfl⟩) dX11_init_317) ?_
  refine qcons (qk_ret dX11_init_320 (Or.inl ⟨rfl, rfl⟩)) ?_
  exact qnil
theorem M_X11_init {X : qX} {l : Launch} : qMet X l 4 yX11_init cX11_init 4 none S_X11_init := qmet_of K_X11_init (by decide) rfl rfl
theorem dX11_isIn_0 : decode cX11_isIn 0 = .ok (.iload_n 0, 1) := by decide +kernel
theorem dX11_isIn_1 : decode cX11_isIn 1 = .ok (.ifCond .lt 12, 3) := by decide +kernel
theorem dX11_isIn_4 : decode cX11_isIn 4 = .ok (.iload_n 0, 1) := by decide +kernel
theorem dX11_isIn_5 : decode cX11_isIn 5 = .ok (.iload_n 1, 1) := by decide +kernel
theorem dX11_isIn_6 : decode cX11_isIn 6 = .ok (.if_icmp .gt 7, 3) := by decide +kernel
theorem dX11_isIn_9 : decode cX11_isIn 9 = .ok (.iconst 1, 1) := by decide +kernel
theorem dX11_isIn_10 : decode cX11_isIn 10 = .ok (.goto 4, 3) := by decide +kernel
theorem dX11_isIn_13 : decode cX11_isIn 13 = .ok (.iconst 0, 1) := by decide +kernel
theorem dX11_isIn_14 : decode cX11_isIn 14 = .ok (.ireturn, 1) := by decide +kernel
noncomputable def C_X11_isIn : List (Nat × qOp) := [(0, qo_iload 0 1),
  (1, qo_iflt 13),
  (4, qo_iload 0 1),
  (5, qo_iload 1 1),
  (6, qo_icgt 13),
  (9, qo_ci 1 1),
  (10, qo_goto 14),
  (13, qo_ci 0 1),
  (14, qo_ret (some .boolean) 1)]
noncomputable def S_X11_isIn : qSem := qM 2 C_X11_isIn
set_option maxRecDepth 20000 in
theorem K_X11_isIn {X : qX} {l : Launch} : ∀ q ∈ C_X11_isIn, qOk X l 1 cX11_isIn 2 RX11 "isIn" (some .boolean) q.1 q.2 := by
  unfold C_X11_isIn
  refine qcons (qk_iload_n dX11_isIn_0 rfl) ?_
  refine qcons (qk_iflt dX11_isIn_1 (by decide)) ?_
  refine qcons (qk_iload_n dX11_isIn_4 rfl) ?_
  refine qcons (qk_iload_n dX11_isIn_5 rfl) ?_
  refine qcons (qk_icgt dX11_isIn_6 (by decide)) ?_
  refine qcons (qk_iconst dX11_isIn_9 (by decide)) ?_
  refine qcons (qk_goto dX11_isIn_10 (by decide)) ?_
  refine qcons (qk_iconst dX11_isIn_13 (by decide)) ?_
  refine qcons (qk_ret dX11_isIn_14 (Or.inr (Or.inl ⟨rfl, rfl⟩))) ?_
  exact qnil
theorem M_X11_isIn {X : qX} {l : Launch} : qMet X l 1 yX11_isIn cX11_isIn 2 (some .boolean) S_X11_isIn := qmet_of K_X11_isIn (by decide) rfl rfl
theorem dX11_isWork_0 : decode cX11_isWork 0 = .ok (.iload_n 0, 1) := by decide +kernel
theorem dX11_isWork_1 : decode cX11_isWork 1 = .ok (.ifCond .lt 12, 3) := by decide +kernel
theorem dX11_isWork_4 : decode cX11_isWork 4 = .ok (.iload_n 0, 1) := by decide +kernel
theorem dX11_isWork_5 : decode cX11_isWork 5 = .ok (.iconst 4, 1) := by decide +kernel
theorem dX11_isWork_6 : decode cX11_isWork 6 = .ok (.if_icmp .ge 7, 3) := by decide +kernel
theorem dX11_isWork_9 : decode cX11_isWork 9 = .ok (.iconst 1, 1) := by decide +kernel
theorem dX11_isWork_10 : decode cX11_isWork 10 = .ok (.goto 4, 3) := by decide +kernel
theorem dX11_isWork_13 : decode cX11_isWork 13 = .ok (.iconst 0, 1) := by decide +kernel
theorem dX11_isWork_14 : decode cX11_isWork 14 = .ok (.ireturn, 1) := by decide +kernel
noncomputable def C_X11_isWork : List (Nat × qOp) := [(0, qo_iload 0 1),
  (1, qo_iflt 13),
  (4, qo_iload 0 1),
  (5, qo_ci 4 1),
  (6, qo_icge 13),
  (9, qo_ci 1 1),
  (10, qo_goto 14),
  (13, qo_ci 0 1),
  (14, qo_ret (some .boolean) 1)]
noncomputable def S_X11_isWork : qSem := qM 1 C_X11_isWork
set_option maxRecDepth 20000 in
theorem K_X11_isWork {X : qX} {l : Launch} : ∀ q ∈ C_X11_isWork, qOk X l 1 cX11_isWork 1 RX11 "isWork" (some .boolean) q.1 q.2 := by
  unfold C_X11_isWork
  refine qcons (qk_iload_n dX11_isWork_0 rfl) ?_
  refine qcons (qk_iflt dX11_isWork_1 (by decide)) ?_
  refine qcons (qk_iload_n dX11_isWork_4 rfl) ?_
  refine qcons (qk_iconst dX11_isWork_5 (by decide)) ?_
  refine qcons (qk_icge dX11_isWork_6 (by decide)) ?_
  refine qcons (qk_iconst dX11_isWork_9 (by decide)) ?_
  refine qcons (qk_goto dX11_isWork_10 (by decide)) ?_
  refine qcons (qk_iconst dX11_isWork_13 (by decide)) ?_
  refine qcons (qk_ret dX11_isWork_14 (Or.inr (Or.inl ⟨rfl, rfl⟩))) ?_
  exact qnil
theorem M_X11_isWork {X : qX} {l : Launch} : qMet X l 1 yX11_isWork cX11_isWork 1 (some .boolean) S_X11_isWork := qmet_of K_X11_isWork (by decide) rfl rfl
theorem dX11_person_0 : decode cX11_person 0 = .ok (.iload_n 1, 1) := by decide +kernel
theorem dX11_person_1 : decode cX11_person 1 = .ok (.bipush 6, 2) := by decide +kernel
theorem dX11_person_3 : decode cX11_person 3 = .ok (.invokestatic 105, 3) := by decide +kernel
theorem dX11_person_6 : decode cX11_person 6 = .ok (.ifCond .eq 10, 3) := by decide +kernel
theorem dX11_person_9 : decode cX11_person 9 = .ok (.iload_n 3, 1) := by decide +kernel
theorem dX11_person_10 : decode cX11_person 10 = .ok (.invokestatic 109, 3) := by decide +kernel
theorem dX11_person_13 : decode cX11_person 13 = .ok (.ifCond .ne 5, 3) := by decide +kernel
theorem dX11_person_16 : decode cX11_person 16 = .ok (.iconst (-1), 1) := by decide +kernel
theorem dX11_person_17 : decode cX11_person 17 = .ok (.ireturn, 1) := by decide +kernel
theorem dX11_person_18 : decode cX11_person 18 = .ok (.iload_n 2, 1) := by decide +kernel
theorem dX11_person_19 : decode cX11_person 19 = .ok (.bipush 9, 2) := by decide +kernel
theorem dX11_person_21 : decode cX11_person 21 = .ok (.invokestatic 105, 3) := by decide +kernel
theorem dX11_person_24 : decode cX11_person 24 = .ok (.ifCond .ne 6, 3) := by decide +kernel
theorem dX11_person_27 : decode cX11_person 27 = .ok (.bipush (-2), 2) := by decide +kernel
theorem dX11_person_29 : decode cX11_person 29 = .ok (.ireturn, 1) := by decide +kernel
theorem dX11_person_30 : decode cX11_person 30 = .ok (.aload_n 0, 1) := by decide +kernel
theorem dX11_person_31 : decode cX11_person 31 = .ok (.getfield 41, 3) := by decide +kernel
theorem dX11_person_34 : decode cX11_person 34 = .ok (.getfield 113, 3) := by decide +kernel
theorem dX11_person_37 : decode cX11_person 37 = .ok (.bipush 6, 2) := by decide +kernel
theorem dX11_person_39 : decode cX11_person 39 = .ok (.if_icmp .lt 6, 3) := by decide +kernel
theorem dX11_person_42 : decode cX11_person 42 = .ok (.bipush (-4), 2) := by decide +kernel
theorem dX11_person_44 : decode cX11_person 44 = .ok (.ireturn, 1) := by decide +kernel
theorem dX11_person_45 : decode cX11_person 45 = .ok (.aload_n 0, 1) := by decide +kernel
theorem dX11_person_46 : decode cX11_person 46 = .ok (.getfield 41, 3) := by decide +kernel
theorem dX11_person_49 : decode cX11_person 49 = .ok (.iload_n 1, 1) := by decide +kernel
theorem dX11_person_50 : decode cX11_person 50 = .ok (.iload_n 2, 1) := by decide +kernel
theorem dX11_person_51 : decode cX11_person 51 = .ok (.iload_n 3, 1) := by decide +kernel
theorem dX11_person_52 : decode cX11_person 52 = .ok (.invokevirtual 117, 3) := by decide +kernel
theorem dX11_person_55 : decode cX11_person 55 = .ok (.ireturn, 1) := by decide +kernel
noncomputable def C_X11_person : List (Nat × qOp) := [(0, qo_iload 1 1),
  (1, qo_ci 6 2),
  (3, qo_calls S_X11_isIn 2),
  (6, qo_ifeq 16),
  (9, qo_iload 3 1),
  (10, qo_calls S_X11_isWork 1),
  (13, qo_ifne 18),
  (16, qo_ci (-1) 1),
  (17, qo_ret (some .int) 1),
  (18, qo_iload 2 1),
  (19, qo_ci 9 2),
  (21, qo_calls S_X11_isIn 2),
  (24, qo_ifne 30),
  (27, qo_ci (-2) 2),
  (29, qo_ret (some .int) 1),
  (30, qo_aload 0 1),
  (31, qo_getR 11 0),
  (34, qo_getI 8 10),
  (37, qo_ci 6 2),
  (39, qo_iclt 45),
  (42, qo_ci (-4) 2),
  (44, qo_ret (some .int) 1),
  (45, qo_aload 0 1),
  (46, qo_getR 11 0),
  (49, qo_iload 1 1),
  (50, qo_iload 2 1),
  (51, qo_iload 3 1),
  (52, qo_callv [(8, S_X8_comes)] 3),
  (55, qo_ret (some .int) 1)]
noncomputable def S_X11_person : qSem := qM 4 C_X11_person
set_option maxRecDepth 20000 in
theorem K_X11_person {X : qX} {l : Launch} : ∀ q ∈ C_X11_person, qOk X l 2 cX11_person 4 RX11 "person" (some .int) q.1 q.2 := by
  unfold C_X11_person
  refine qcons (qk_iload_n dX11_person_0 rfl) ?_
  refine qcons (qk_bipush dX11_person_1 (by decide) (by decide)) ?_
  refine qcons (qk_calls (qrunS M_X11_isIn (by decide) (by decide) tw_377 tw_378 tw_379 tw_78 ⟨by decide, by decide⟩ (by decide +kernel)) dX11_person_3) ?_
  refine qcons (qk_ifeq dX11_person_6 (by decide)) ?_
  refine qcons (qk_iload_n dX11_person_9 rfl) ?_
  refine qcons (qk_calls (qrunS M_X11_isWork (by decide) (by decide) tw_380 tw_381 tw_382 tw_78 ⟨by decide, by decide⟩ (by decide +kernel)) dX11_person_10) ?_
  refine qcons (qk_ifne dX11_person_13 (by decide)) ?_
  refine qcons (qk_iconst dX11_person_16 (by decide)) ?_
  refine qcons (qk_ret dX11_person_17 (Or.inr (Or.inl ⟨rfl, rfl⟩))) ?_
  refine qcons (qk_iload_n dX11_person_18 rfl) ?_
  refine qcons (qk_bipush dX11_person_19 (by decide) (by decide)) ?_
  refine qcons (qk_calls (qrunS M_X11_isIn (by decide) (by decide) tw_377 tw_378 tw_379 tw_78 ⟨by decide, by decide⟩ (by decide +kernel)) dX11_person_21) ?_
  refine qcons (qk_ifne dX11_person_24 (by decide)) ?_
  refine qcons (qk_bipush dX11_person_27 (by decide) (by decide)) ?_
  refine qcons (qk_ret dX11_person_29 (Or.inr (Or.inl ⟨rfl, rfl⟩))) ?_
  refine qcons (qk_aload_n dX11_person_30 rfl) ?_
  refine qcons (qk_getR fd_X11_41 kd_11_0 dX11_person_31) ?_
  refine qcons (qk_getI fd_X11_113 kd_8_10 dX11_person_34) ?_
  refine qcons (qk_bipush dX11_person_37 (by decide) (by decide)) ?_
  refine qcons (qk_iclt dX11_person_39 (by decide)) ?_
  refine qcons (qk_bipush dX11_person_42 (by decide) (by decide)) ?_
  refine qcons (qk_ret dX11_person_44 (Or.inr (Or.inl ⟨rfl, rfl⟩))) ?_
  refine qcons (qk_aload_n dX11_person_45 rfl) ?_
  refine qcons (qk_getR fd_X11_41 kd_11_0 dX11_person_46) ?_
  refine qcons (qk_iload_n dX11_person_49 rfl) ?_
  refine qcons (qk_iload_n dX11_person_50 rfl) ?_
  refine qcons (qk_iload_n dX11_person_51 rfl) ?_
  refine qcons (qk_callv (ins := fun i => .invokevirtual i) (qconsV (qrunV M_X8_comes (by decide) (by decide) (by decide) rfl tw_383 tw_384 tw_385 tw_386 tw_87 ⟨by decide, by decide⟩ (by decide +kernel)) qnilV) dX11_person_52) ?_
  refine qcons (qk_ret dX11_person_55 (Or.inr (Or.inl ⟨rfl, rfl⟩))) ?_
  exact qnil
theorem M_X11_person {X : qX} {l : Launch} : qMet X l 2 yX11_person cX11_person 4 (some .int) S_X11_person := qmet_of K_X11_person (by decide) rfl rfl
theorem dX11_isPerson_0 : decode cX11_isPerson 0 = .ok (.iload_n 1, 1) := by decide +kernel
theorem dX11_isPerson_1 : decode cX11_isPerson 1 = .ok (.ifCond .lt 18, 3) := by decide +kernel
theorem dX11_isPerson_4 : decode cX11_isPerson 4 = .ok (.iload_n 1, 1) := by decide +kernel
theorem dX11_isPerson_5 : decode cX11_isPerson 5 = .ok (.aload_n 0, 1) := by decide +kernel
theorem dX11_isPerson_6 : decode cX11_isPerson 6 = .ok (.getfield 41, 3) := by decide +kernel
theorem dX11_isPerson_9 : decode cX11_isPerson 9 = .ok (.getfield 113, 3) := by decide +kernel
theorem dX11_isPerson_12 : decode cX11_isPerson 12 = .ok (.if_icmp .ge 7, 3) := by decide +kernel
theorem dX11_isPerson_15 : decode cX11_isPerson 15 = .ok (.iconst 1, 1) := by decide +kernel
theorem dX11_isPerson_16 : decode cX11_isPerson 16 = .ok (.goto 4, 3) := by decide +kernel
theorem dX11_isPerson_19 : decode cX11_isPerson 19 = .ok (.iconst 0, 1) := by decide +kernel
theorem dX11_isPerson_20 : decode cX11_isPerson 20 = .ok (.ireturn, 1) := by decide +kernel
noncomputable def C_X11_isPerson : List (Nat × qOp) := [(0, qo_iload 1 1),
  (1, qo_iflt 19),
  (4, qo_iload 1 1),
  (5, qo_aload 0 1),
  (6, qo_getR 11 0),
  (9, qo_getI 8 10),
  (12, qo_icge 19),
  (15, qo_ci 1 1),
  (16, qo_goto 20),
  (19, qo_ci 0 1),
  (20, qo_ret (some .boolean) 1)]
noncomputable def S_X11_isPerson : qSem := qM 2 C_X11_isPerson
set_option maxRecDepth 20000 in
theorem K_X11_isPerson {X : qX} {l : Launch} : ∀ q ∈ C_X11_isPerson, qOk X l 1 cX11_isPerson 2 RX11 "isPerson" (some .boolean) q.1 q.2 := by
  unfold C_X11_isPerson
  refine qcons (qk_iload_n dX11_isPerson_0 rfl) ?_
  refine qcons (qk_iflt dX11_isPerson_1 (by decide)) ?_
  refine qcons (qk_iload_n dX11_isPerson_4 rfl) ?_
  refine qcons (qk_aload_n dX11_isPerson_5 rfl) ?_
  refine qcons (qk_getR fd_X11_41 kd_11_0 dX11_isPerson_6) ?_
  refine qcons (qk_getI fd_X11_113 kd_8_10 dX11_isPerson_9) ?_
  refine qcons (qk_icge dX11_isPerson_12 (by decide)) ?_
  refine qcons (qk_iconst dX11_isPerson_15 (by decide)) ?_
  refine qcons (qk_goto dX11_isPerson_16 (by decide)) ?_
  refine qcons (qk_iconst dX11_isPerson_19 (by decide)) ?_
  refine qcons (qk_ret dX11_isPerson_20 (Or.inr (Or.inl ⟨rfl, rfl⟩))) ?_
  exact qnil
theorem M_X11_isPerson {X : qX} {l : Launch} : qMet X l 1 yX11_isPerson cX11_isPerson 2 (some .boolean) S_X11_isPerson := qmet_of K_X11_isPerson (by decide) rfl rfl
theorem dX11_of_0 : decode cX11_of 0 = .ok (.aload_n 0, 1) := by decide +kernel
theorem dX11_of_1 : decode cX11_of 1 = .ok (.iload_n 1, 1) := by decide +kernel
theorem dX11_of_2 : decode cX11_of 2 = .ok (.invokevirtual 121, 3) := by decide +kernel
theorem dX11_of_5 : decode cX11_of 5 = .ok (.ifCond .ne 7, 3) := by decide +kernel
theorem dX11_of_8 : decode cX11_of 8 = .ok (.sipush (-1001), 3) := by decide +kernel
theorem dX11_of_11 : decode cX11_of 11 = .ok (.ireturn, 1) := by decide +kernel
theorem dX11_of_12 : decode cX11_of 12 = .ok (.iload_n 2, 1) := by decide +kernel
theorem dX11_of_13 : decode cX11_of 13 = .ok (.tableswitch 140 0 7 #[47, 57, 67, 77, 87, 97, 115, 131], 47) := by decide +kernel
theorem dX11_of_60 : decode cX11_of 60 = .ok (.aload_n 0, 1) := by decide +kernel
theorem dX11_of_61 : decode cX11_of 61 = .ok (.getfield 41, 3) := by decide +kernel
theorem dX11_of_64 : decode cX11_of 64 = .ok (.getfield 124, 3) := by decide +kernel
theorem dX11_of_67 : decode cX11_of 67 = .ok (.iload_n 1, 1) := by decide +kernel
theorem dX11_of_68 : decode cX11_of 68 = .ok (.iaload, 1) := by decide +kernel
theorem dX11_of_69 : decode cX11_of 69 = .ok (.ireturn, 1) := by decide +kernel
theorem dX11_of_70 : decode cX11_of 70 = .ok (.aload_n 0, 1) := by decide +kernel
theorem dX11_of_71 : decode cX11_of 71 = .ok (.getfield 41, 3) := by decide +kernel
theorem dX11_of_74 : decode cX11_of 74 = .ok (.getfield 127, 3) := by decide +kernel
theorem dX11_of_77 : decode cX11_of 77 = .ok (.iload_n 1, 1) := by decide +kernel
theorem dX11_of_78 : decode cX11_of 78 = .ok (.iaload, 1) := by decide +kernel
theorem dX11_of_79 : decode cX11_of 79 = .ok (.ireturn, 1) := by decide +kernel
theorem dX11_of_80 : decode cX11_of 80 = .ok (.aload_n 0, 1) := by decide +kernel
theorem dX11_of_81 : decode cX11_of 81 = .ok (.getfield 41, 3) := by decide +kernel
theorem dX11_of_84 : decode cX11_of 84 = .ok (.getfield 130, 3) := by decide +kernel
theorem dX11_of_87 : decode cX11_of 87 = .ok (.iload_n 1, 1) := by decide +kernel
theorem dX11_of_88 : decode cX11_of 88 = .ok (.iaload, 1) := by decide +kernel
theorem dX11_of_89 : decode cX11_of 89 = .ok (.ireturn, 1) := by decide +kernel
theorem dX11_of_90 : decode cX11_of 90 = .ok (.aload_n 0, 1) := by decide +kernel
theorem dX11_of_91 : decode cX11_of 91 = .ok (.getfield 41, 3) := by decide +kernel
theorem dX11_of_94 : decode cX11_of 94 = .ok (.getfield 133, 3) := by decide +kernel
theorem dX11_of_97 : decode cX11_of 97 = .ok (.iload_n 1, 1) := by decide +kernel
theorem dX11_of_98 : decode cX11_of 98 = .ok (.iaload, 1) := by decide +kernel
theorem dX11_of_99 : decode cX11_of 99 = .ok (.ireturn, 1) := by decide +kernel
theorem dX11_of_100 : decode cX11_of 100 = .ok (.aload_n 0, 1) := by decide +kernel
theorem dX11_of_101 : decode cX11_of 101 = .ok (.getfield 41, 3) := by decide +kernel
theorem dX11_of_104 : decode cX11_of 104 = .ok (.getfield 136, 3) := by decide +kernel
theorem dX11_of_107 : decode cX11_of 107 = .ok (.iload_n 1, 1) := by decide +kernel
theorem dX11_of_108 : decode cX11_of 108 = .ok (.iaload, 1) := by decide +kernel
theorem dX11_of_109 : decode cX11_of 109 = .ok (.ireturn, 1) := by decide +kernel
theorem dX11_of_110 : decode cX11_of 110 = .ok (.aload_n 0, 1) := by decide +kernel
theorem dX11_of_111 : decode cX11_of 111 = .ok (.getfield 41, 3) := by decide +kernel
theorem dX11_of_114 : decode cX11_of 114 = .ok (.getfield 139, 3) := by decide +kernel
theorem dX11_of_117 : decode cX11_of 117 = .ok (.iload_n 1, 1) := by decide +kernel
theorem dX11_of_118 : decode cX11_of 118 = .ok (.baload, 1) := by decide +kernel
theorem dX11_of_119 : decode cX11_of 119 = .ok (.ifCond .eq 7, 3) := by decide +kernel
theorem dX11_of_122 : decode cX11_of 122 = .ok (.iconst 1, 1) := by decide +kernel
theorem dX11_of_123 : decode cX11_of 123 = .ok (.goto 4, 3) := by decide +kernel
theorem dX11_of_126 : decode cX11_of 126 = .ok (.iconst 0, 1) := by decide +kernel
theorem dX11_of_127 : decode cX11_of 127 = .ok (.ireturn, 1) := by decide +kernel
theorem dX11_of_128 : decode cX11_of 128 = .ok (.aload_n 0, 1) := by decide +kernel
theorem dX11_of_129 : decode cX11_of 129 = .ok (.getfield 41, 3) := by decide +kernel
theorem dX11_of_132 : decode cX11_of 132 = .ok (.getfield 143, 3) := by decide +kernel
theorem dX11_of_135 : decode cX11_of 135 = .ok (.aload_n 0, 1) := by decide +kernel
theorem dX11_of_136 : decode cX11_of 136 = .ok (.getfield 41, 3) := by decide +kernel
theorem dX11_of_139 : decode cX11_of 139 = .ok (.iload_n 1, 1) := by decide +kernel
theorem dX11_of_140 : decode cX11_of 140 = .ok (.invokevirtual 147, 3) := by decide +kernel
theorem dX11_of_143 : decode cX11_of 143 = .ok (.ireturn, 1) := by decide +kernel
theorem dX11_of_144 : decode cX11_of 144 = .ok (.aload_n 0, 1) := by decide +kernel
theorem dX11_of_145 : decode cX11_of 145 = .ok (.getfield 41, 3) := by decide +kernel
theorem dX11_of_148 : decode cX11_of 148 = .ok (.iload_n 1, 1) := by decide +kernel
theorem dX11_of_149 : decode cX11_of 149 = .ok (.invokevirtual 151, 3) := by decide +kernel
theorem dX11_of_152 : decode cX11_of 152 = .ok (.ireturn, 1) := by decide +kernel
theorem dX11_of_153 : decode cX11_of 153 = .ok (.sipush (-1001), 3) := by decide +kernel
theorem dX11_of_156 : decode cX11_of 156 = .ok (.ireturn, 1) := by decide +kernel
noncomputable def C_X11_of : List (Nat × qOp) := [(0, qo_aload 0 1),
  (1, qo_iload 1 1),
  (2, qo_callv [(11, S_X11_isPerson)] 1),
  (5, qo_ifne 12),
  (8, qo_ci (-1001) 3),
  (11, qo_ret (some .int) 1),
  (12, qo_iload 2 1),
  (13, qo_tsw 0 [60, 70, 80, 90, 100, 110, 128, 144] 153),
  (60, qo_aload 0 1),
  (61, qo_getR 11 0),
  (64, qo_getR 8 3),
  (67, qo_iload 1 1),
  (68, qo_iaload),
  (69, qo_ret (some .int) 1),
  (70, qo_aload 0 1),
  (71, qo_getR 11 0),
  (74, qo_getR 8 4),
  (77, qo_iload 1 1),
  (78, qo_iaload),
  (79, qo_ret (some .int) 1),
  (80, qo_aload 0 1),
  (81, qo_getR 11 0),
  (84, qo_getR 8 5),
  (87, qo_iload 1 1),
  (88, qo_iaload),
  (89, qo_ret (some .int) 1),
  (90, qo_aload 0 1),
  (91, qo_getR 11 0),
  (94, qo_getR 8 6),
  (97, qo_iload 1 1),
  (98, qo_iaload),
  (99, qo_ret (some .int) 1),
  (100, qo_aload 0 1),
  (101, qo_getR 11 0),
  (104, qo_getR 8 7),
  (107, qo_iload 1 1),
  (108, qo_iaload),
  (109, qo_ret (some .int) 1),
  (110, qo_aload 0 1),
  (111, qo_getR 11 0),
  (114, qo_getR 8 9),
  (117, qo_iload 1 1),
  (118, qo_zaload),
  (119, qo_ifeq 126),
  (122, qo_ci 1 1),
  (123, qo_goto 127),
  (126, qo_ci 0 1),
  (127, qo_ret (some .int) 1),
  (128, qo_aload 0 1),
  (129, qo_getR 11 0),
  (132, qo_getD 8 13),
  (135, qo_aload 0 1),
  (136, qo_getR 11 0),
  (139, qo_iload 1 1),
  (140, qo_callv [(3, S_X3_zealOf)] 2),
  (143, qo_ret (some .int) 1),
  (144, qo_aload 0 1),
  (145, qo_getR 11 0),
  (148, qo_iload 1 1),
  (149, qo_callv [(8, S_X8_paceOf)] 1),
  (152, qo_ret (some .int) 1),
  (153, qo_ci (-1001) 3),
  (156, qo_ret (some .int) 1)]
noncomputable def S_X11_of : qSem := qM 3 C_X11_of
set_option maxRecDepth 20000 in
theorem K_X11_of {X : qX} {l : Launch} : ∀ q ∈ C_X11_of, qOk X l 4 cX11_of 3 RX11 "of" (some .int) q.1 q.2 := by
  unfold C_X11_of
  refine qcons (qk_aload_n dX11_of_0 rfl) ?_
  refine qcons (qk_iload_n dX11_of_1 rfl) ?_
  refine qcons (qk_callv (ins := fun i => .invokevirtual i) (qconsV (qrunV M_X11_isPerson (by decide) (by decide) (by decide) rfl tw_391 tw_393 tw_0 tw_394 tw_78 ⟨by decide, by decide⟩ (by decide +kernel)) qnilV) dX11_of_2) ?_
  refine qcons (qk_ifne dX11_of_5 (by decide)) ?_
  refine qcons (qk_sipush dX11_of_8 (by decide) (by decide)) ?_
  refine qcons (qk_ret dX11_of_11 (Or.inr (Or.inl ⟨rfl, rfl⟩))) ?_
  refine qcons (qk_iload_n dX11_of_12 rfl) ?_
  refine qcons (qk_tsw dX11_of_13 (by decide) (by decide) (by decide)) ?_
  refine qcons (qk_aload_n dX11_of_60 rfl) ?_
  refine qcons (qk_getR fd_X11_41 kd_11_0 dX11_of_61) ?_
  refine qcons (qk_getR fd_X11_124 kd_8_3 dX11_of_64) ?_
  refine qcons (qk_iload_n dX11_of_67 rfl) ?_
  refine qcons (qk_iaload dX11_of_68) ?_
  refine qcons (qk_ret dX11_of_69 (Or.inr (Or.inl ⟨rfl, rfl⟩))) ?_
  refine qcons (qk_aload_n dX11_of_70 rfl) ?_
  refine qcons (qk_getR fd_X11_41 kd_11_0 dX11_of_71) ?_
  refine qcons (qk_getR fd_X11_127 kd_8_4 dX11_of_74) ?_
  refine qcons (qk_iload_n dX11_of_77 rfl) ?_
  refine qcons (qk_iaload dX11_of_78) ?_
  refine qcons (qk_ret dX11_of_79 (Or.inr (Or.inl ⟨rfl, rfl⟩))) ?_
  refine qcons (qk_aload_n dX11_of_80 rfl) ?_
  refine qcons (qk_getR fd_X11_41 kd_11_0 dX11_of_81) ?_
  refine qcons (qk_getR fd_X11_130 kd_8_5 dX11_of_84) ?_
  refine qcons (qk_iload_n dX11_of_87 rfl) ?_
  refine qcons (qk_iaload dX11_of_88) ?_
  refine qcons (qk_ret dX11_of_89 (Or.inr (Or.inl ⟨rfl, rfl⟩))) ?_
  refine qcons (qk_aload_n dX11_of_90 rfl) ?_
  refine qcons (qk_getR fd_X11_41 kd_11_0 dX11_of_91) ?_
  refine qcons (qk_getR fd_X11_133 kd_8_6 dX11_of_94) ?_
  refine qcons (qk_iload_n dX11_of_97 rfl) ?_
  refine qcons (qk_iaload dX11_of_98) ?_
  refine qcons (qk_ret dX11_of_99 (Or.inr (Or.inl ⟨rfl, rfl⟩))) ?_
  refine qcons (qk_aload_n dX11_of_100 rfl) ?_
  refine qcons (qk_getR fd_X11_41 kd_11_0 dX11_of_101) ?_
  refine qcons (qk_getR fd_X11_136 kd_8_7 dX11_of_104) ?_
  refine qcons (qk_iload_n dX11_of_107 rfl) ?_
  refine qcons (qk_iaload dX11_of_108) ?_
  refine qcons (qk_ret dX11_of_109 (Or.inr (Or.inl ⟨rfl, rfl⟩))) ?_
  refine qcons (qk_aload_n dX11_of_110 rfl) ?_
  refine qcons (qk_getR fd_X11_41 kd_11_0 dX11_of_111) ?_
  refine qcons (qk_getR fd_X11_139 kd_8_9 dX11_of_114) ?_
  refine qcons (qk_iload_n dX11_of_117 rfl) ?_
  refine qcons (qk_zaload dX11_of_118) ?_
  refine qcons (qk_ifeq dX11_of_119 (by decide)) ?_
  refine qcons (qk_iconst dX11_of_122 (by decide)) ?_
  refine qcons (qk_goto dX11_of_123 (by decide)) ?_
  refine qcons (qk_iconst dX11_of_126 (by decide)) ?_
  refine qcons (qk_ret dX11_of_127 (Or.inr (Or.inl ⟨rfl, rfl⟩))) ?_
  refine qcons (qk_aload_n dX11_of_128 rfl) ?_
  refine qcons (qk_getR fd_X11_41 kd_11_0 dX11_of_129) ?_
  refine qcons (qk_getD fd_X11_143 kd_8_13 dX11_of_132) ?_
  refine qcons (qk_aload_n dX11_of_135 rfl) ?_
  refine qcons (qk_getR fd_X11_41 kd_11_0 dX11_of_136) ?_
  refine qcons (qk_iload_n dX11_of_139 rfl) ?_
  refine qcons (qk_callv (ins := fun i => .invokevirtual i) (qconsV (qrunV M_X3_zealOf (by decide) (by decide) (by decide) rfl tw_395 tw_396 tw_397 tw_398 tw_86 ⟨by decide, by decide⟩ (by decide +kernel)) qnilV) dX11_of_140) ?_
  refine qcons (qk_ret dX11_of_143 (Or.inr (Or.inl ⟨rfl, rfl⟩))) ?_
  refine qcons (qk_aload_n dX11_of_144 rfl) ?_
  refine qcons (qk_getR fd_X11_41 kd_11_0 dX11_of_145) ?_
  refine qcons (qk_iload_n dX11_of_148 rfl) ?_
  refine qcons (qk_callv (ins := fun i => .invokevirtual i) (qconsV (qrunV M_X8_paceOf (by decide) (by decide) (by decide) rfl tw_403 tw_404 tw_405 tw_406 tw_87 ⟨by decide, by decide⟩ (by decide +kernel)) qnilV) dX11_of_149) ?_
  refine qcons (qk_ret dX11_of_152 (Or.inr (Or.inl ⟨rfl, rfl⟩))) ?_
  refine qcons (qk_sipush dX11_of_153 (by decide) (by decide)) ?_
  refine qcons (qk_ret dX11_of_156 (Or.inr (Or.inl ⟨rfl, rfl⟩))) ?_
  exact qnil
theorem M_X11_of {X : qX} {l : Launch} : qMet X l 4 yX11_of cX11_of 3 (some .int) S_X11_of := qmet_of K_X11_of (by decide) rfl rfl
theorem dX11_work_0 : decode cX11_work 0 = .ok (.aload_n 0, 1) := by decide +kernel
theorem dX11_work_1 : decode cX11_work 1 = .ok (.iload_n 1, 1) := by decide +kernel
theorem dX11_work_2 : decode cX11_work 2 = .ok (.invokevirtual 121, 3) := by decide +kernel
theorem dX11_work_5 : decode cX11_work 5 = .ok (.ifCond .eq 10, 3) := by decide +kernel
theorem dX11_work_8 : decode cX11_work 8 = .ok (.iload_n 2, 1) := by decide +kernel
theorem dX11_work_9 : decode cX11_work 9 = .ok (.invokestatic 109, 3) := by decide +kernel
theorem dX11_work_12 : decode cX11_work 12 = .ok (.ifCond .ne 5, 3) := by decide +kernel
theorem dX11_work_15 : decode cX11_work 15 = .ok (.iconst (-1), 1) := by decide +kernel
theorem dX11_work_16 : decode cX11_work 16 = .ok (.ireturn, 1) := by decide +kernel
theorem dX11_work_17 : decode cX11_work 17 = .ok (.aload_n 0, 1) := by decide +kernel
theorem dX11_work_18 : decode cX11_work 18 = .ok (.getfield 41, 3) := by decide +kernel
theorem dX11_work_21 : decode cX11_work 21 = .ok (.getfield 130, 3) := by decide +kernel
theorem dX11_work_24 : decode cX11_work 24 = .ok (.iload_n 1, 1) := by decide +kernel
theorem dX11_work_25 : decode cX11_work 25 = .ok (.iaload, 1) := by decide +kernel
theorem dX11_work_26 : decode cX11_work 26 = .ok (.istore_n 3, 1) := by decide +kernel
theorem dX11_work_27 : decode cX11_work 27 = .ok (.aload_n 0, 1) := by decide +kernel
theorem dX11_work_28 : decode cX11_work 28 = .ok (.getfield 41, 3) := by decide +kernel
theorem dX11_work_31 : decode cX11_work 31 = .ok (.getfield 130, 3) := by decide +kernel
theorem dX11_work_34 : decode cX11_work 34 = .ok (.iload_n 1, 1) := by decide +kernel
theorem dX11_work_35 : decode cX11_work 35 = .ok (.iload_n 2, 1) := by decide +kernel
theorem dX11_work_36 : decode cX11_work 36 = .ok (.iastore, 1) := by decide +kernel
theorem dX11_work_37 : decode cX11_work 37 = .ok (.iload_n 3, 1) := by decide +kernel
theorem dX11_work_38 : decode cX11_work 38 = .ok (.ireturn, 1) := by decide +kernel
noncomputable def C_X11_work : List (Nat × qOp) := [(0, qo_aload 0 1),
  (1, qo_iload 1 1),
  (2, qo_callv [(11, S_X11_isPerson)] 1),
  (5, qo_ifeq 15),
  (8, qo_iload 2 1),
  (9, qo_calls S_X11_isWork 1),
  (12, qo_ifne 17),
  (15, qo_ci (-1) 1),
  (16, qo_ret (some .int) 1),
  (17, qo_aload 0 1),
  (18, qo_getR 11 0),
  (21, qo_getR 8 5),
  (24, qo_iload 1 1),
  (25, qo_iaload),
  (26, qo_istore 3 1),
  (27, qo_aload 0 1),
  (28, qo_getR 11 0),
  (31, qo_getR 8 5),
  (34, qo_iload 1 1),
  (35, qo_iload 2 1),
  (36, qo_iastore),
  (37, qo_iload 3 1),
  (38, qo_ret (some .int) 1)]
noncomputable def S_X11_work : qSem := qM 4 C_X11_work
set_option maxRecDepth 20000 in
theorem K_X11_work {X : qX} {l : Launch} : ∀ q ∈ C_X11_work, qOk X l 2 cX11_work 4 RX11 "work" (some .int) q.1 q.2 := by
  unfold C_X11_work
  refine qcons (qk_aload_n dX11_work_0 rfl) ?_
  refine qcons (qk_iload_n dX11_work_1 rfl) ?_
  refine qcons (qk_callv (ins := fun i => .invokevirtual i) (qconsV (qrunV M_X11_isPerson (by decide) (by decide) (by decide) rfl tw_391 tw_393 tw_0 tw_394 tw_78 ⟨by decide, by decide⟩ (by decide +kernel)) qnilV) dX11_work_2) ?_
  refine qcons (qk_ifeq dX11_work_5 (by decide)) ?_
  refine qcons (qk_iload_n dX11_work_8 rfl) ?_
  refine qcons (qk_calls (qrunS M_X11_isWork (by decide) (by decide) tw_380 tw_381 tw_382 tw_78 ⟨by decide, by decide⟩ (by decide +kernel)) dX11_work_9) ?_
  refine qcons (qk_ifne dX11_work_12 (by decide)) ?_
  refine qcons (qk_iconst dX11_work_15 (by decide)) ?_
  refine qcons (qk_ret dX11_work_16 (Or.inr (Or.inl ⟨rfl, rfl⟩))) ?_
  refine qcons (qk_aload_n dX11_work_17 rfl) ?_
  refine qcons (qk_getR fd_X11_41 kd_11_0 dX11_work_18) ?_
  refine qcons (qk_getR fd_X11_130 kd_8_5 dX11_work_21) ?_
  refine qcons (qk_iload_n dX11_work_24 rfl) ?_
  refine qcons (qk_iaload dX11_work_25) ?_
  refine qcons (qk_istore_n dX11_work_26 rfl) ?_
  refine qcons (qk_aload_n dX11_work_27 rfl) ?_
  refine qcons (qk_getR fd_X11_41 kd_11_0 dX11_work_28) ?_
  refine qcons (qk_getR fd_X11_130 kd_8_5 dX11_work_31) ?_
  refine qcons (qk_iload_n dX11_work_34 rfl) ?_
  refine qcons (qk_iload_n dX11_work_35 rfl) ?_
  refine qcons (qk_iastore dX11_work_36) ?_
  refine qcons (qk_iload_n dX11_work_37 rfl) ?_
  refine qcons (qk_ret dX11_work_38 (Or.inr (Or.inl ⟨rfl, rfl⟩))) ?_
  exact qnil
theorem M_X11_work {X : qX} {l : Launch} : qMet X l 2 yX11_work cX11_work 4 (some .int) S_X11_work := qmet_of K_X11_work (by decide) rfl rfl
theorem dX11_home_0 : decode cX11_home 0 = .ok (.aload_n 0, 1) := by decide +kernel
theorem dX11_home_1 : decode cX11_home 1 = .ok (.iload_n 1, 1) := by decide +kernel
theorem dX11_home_2 : decode cX11_home 2 = .ok (.invokevirtual 121, 3) := by decide +kernel
theorem dX11_home_5 : decode cX11_home 5 = .ok (.ifCond .ne 5, 3) := by decide +kernel
theorem dX11_home_8 : decode cX11_home 8 = .ok (.iconst (-1), 1) := by decide +kernel
theorem dX11_home_9 : decode cX11_home 9 = .ok (.ireturn, 1) := by decide +kernel
theorem dX11_home_10 : decode cX11_home 10 = .ok (.aload_n 0, 1) := by decide +kernel
theorem dX11_home_11 : decode cX11_home 11 = .ok (.getfield 41, 3) := by decide +kernel
theorem dX11_home_14 : decode cX11_home 14 = .ok (.getfield 139, 3) := by decide +kernel
theorem dX11_home_17 : decode cX11_home 17 = .ok (.iload_n 1, 1) := by decide +kernel
theorem dX11_home_18 : decode cX11_home 18 = .ok (.baload, 1) := by decide +kernel
theorem dX11_home_19 : decode cX11_home 19 = .ok (.ifCond .eq 7, 3) := by decide +kernel
theorem dX11_home_22 : decode cX11_home 22 = .ok (.iconst 1, 1) := by decide +kernel
theorem dX11_home_23 : decode cX11_home 23 = .ok (.goto 4, 3) := by decide +kernel
theorem dX11_home_26 : decode cX11_home 26 = .ok (.iconst 0, 1) := by decide +kernel
theorem dX11_home_27 : decode cX11_home 27 = .ok (.istore_n 3, 1) := by decide +kernel
theorem dX11_home_28 : decode cX11_home 28 = .ok (.aload_n 0, 1) := by decide +kernel
theorem dX11_home_29 : decode cX11_home 29 = .ok (.getfield 41, 3) := by decide +kernel
theorem dX11_home_32 : decode cX11_home 32 = .ok (.getfield 139, 3) := by decide +kernel
theorem dX11_home_35 : decode cX11_home 35 = .ok (.iload_n 1, 1) := by decide +kernel
theorem dX11_home_36 : decode cX11_home 36 = .ok (.iload_n 2, 1) := by decide +kernel
theorem dX11_home_37 : decode cX11_home 37 = .ok (.bastore, 1) := by decide +kernel
theorem dX11_home_38 : decode cX11_home 38 = .ok (.iload_n 3, 1) := by decide +kernel
theorem dX11_home_39 : decode cX11_home 39 = .ok (.ireturn, 1) := by decide +kernel
noncomputable def C_X11_home : List (Nat × qOp) := [(0, qo_aload 0 1),
  (1, qo_iload 1 1),
  (2, qo_callv [(11, S_X11_isPerson)] 1),
  (5, qo_ifne 10),
  (8, qo_ci (-1) 1),
  (9, qo_ret (some .int) 1),
  (10, qo_aload 0 1),
  (11, qo_getR 11 0),
  (14, qo_getR 8 9),
  (17, qo_iload 1 1),
  (18, qo_zaload),
  (19, qo_ifeq 26),
  (22, qo_ci 1 1),
  (23, qo_goto 27),
  (26, qo_ci 0 1),
  (27, qo_istore 3 1),
  (28, qo_aload 0 1),
  (29, qo_getR 11 0),
  (32, qo_getR 8 9),
  (35, qo_iload 1 1),
  (36, qo_iload 2 1),
  (37, qo_zastore),
  (38, qo_iload 3 1),
  (39, qo_ret (some .int) 1)]
noncomputable def S_X11_home : qSem := qM 4 C_X11_home
set_option maxRecDepth 20000 in
theorem K_X11_home {X : qX} {l : Launch} : ∀ q ∈ C_X11_home, qOk X l 2 cX11_home 4 RX11 "home" (some .int) q.1 q.2 := by
  unfold C_X11_home
  refine qcons (qk_aload_n dX11_home_0 rfl) ?_
  refine qcons (qk_iload_n dX11_home_1 rfl) ?_
  refine qcons (qk_callv (ins := fun i => .invokevirtual i) (qconsV (qrunV M_X11_isPerson (by decide) (by decide) (by decide) rfl tw_391 tw_393 tw_0 tw_394 tw_78 ⟨by decide, by decide⟩ (by decide +kernel)) qnilV) dX11_home_2) ?_
  refine qcons (qk_ifne dX11_home_5 (by decide)) ?_
  refine qcons (qk_iconst dX11_home_8 (by decide)) ?_
  refine qcons (qk_ret dX11_home_9 (Or.inr (Or.inl ⟨rfl, rfl⟩))) ?_
  refine qcons (qk_aload_n dX11_home_10 rfl) ?_
  refine qcons (qk_getR fd_X11_41 kd_11_0 dX11_home_11) ?_
  refine qcons (qk_getR fd_X11_139 kd_8_9 dX11_home_14) ?_
  refine qcons (qk_iload_n dX11_home_17 rfl) ?_
  refine qcons (qk_zaload dX11_home_18) ?_
  refine qcons (qk_ifeq dX11_home_19 (by decide)) ?_
  refine qcons (qk_iconst dX11_home_22 (by decide)) ?_
  refine qcons (qk_goto dX11_home_23 (by decide)) ?_
  refine qcons (qk_iconst dX11_home_26 (by decide)) ?_
  refine qcons (qk_istore_n dX11_home_27 rfl) ?_
  refine qcons (qk_aload_n dX11_home_28 rfl) ?_
  refine qcons (qk_getR fd_X11_41 kd_11_0 dX11_home_29) ?_
  refine qcons (qk_getR fd_X11_139 kd_8_9 dX11_home_32) ?_
  refine qcons (qk_iload_n dX11_home_35 rfl) ?_
  refine qcons (qk_iload_n dX11_home_36 rfl) ?_
  refine qcons (qk_zastore dX11_home_37) ?_
  refine qcons (qk_iload_n dX11_home_38 rfl) ?_
  refine qcons (qk_ret dX11_home_39 (Or.inr (Or.inl ⟨rfl, rfl⟩))) ?_
  exact qnil
theorem M_X11_home {X : qX} {l : Launch} : qMet X l 2 yX11_home cX11_home 4 (some .int) S_X11_home := qmet_of K_X11_home (by decide) rfl rfl
theorem dX11_row_0 : decode cX11_row 0 = .ok (.aload_n 0, 1) := by decide +kernel
theorem dX11_row_1 : decode cX11_row 1 = .ok (.iload_n 1, 1) := by decide +kernel
theorem dX11_row_2 : decode cX11_row 2 = .ok (.invokevirtual 121, 3) := by decide +kernel
theorem dX11_row_5 : decode cX11_row 5 = .ok (.ifCond .eq 11, 3) := by decide +kernel
theorem dX11_row_8 : decode cX11_row 8 = .ok (.iload_n 2, 1) := by decide +kernel
theorem dX11_row_9 : decode cX11_row 9 = .ok (.iconst 3, 1) := by decide +kernel
theorem dX11_row_10 : decode cX11_row 10 = .ok (.invokestatic 105, 3) := by decide +kernel
theorem dX11_row_13 : decode cX11_row 13 = .ok (.ifCond .ne 5, 3) := by decide +kernel
theorem dX11_row_16 : decode cX11_row 16 = .ok (.iconst (-1), 1) := by decide +kernel
theorem dX11_row_17 : decode cX11_row 17 = .ok (.ireturn, 1) := by decide +kernel
theorem dX11_row_18 : decode cX11_row 18 = .ok (.iload_n 3, 1) := by decide +kernel
theorem dX11_row_19 : decode cX11_row 19 = .ok (.bipush 9, 2) := by decide +kernel
theorem dX11_row_21 : decode cX11_row 21 = .ok (.invokestatic 105, 3) := by decide +kernel
theorem dX11_row_24 : decode cX11_row 24 = .ok (.ifCond .ne 6, 3) := by decide +kernel
theorem dX11_row_27 : decode cX11_row 27 = .ok (.bipush (-2), 2) := by decide +kernel
theorem dX11_row_29 : decode cX11_row 29 = .ok (.ireturn, 1) := by decide +kernel
theorem dX11_row_30 : decode cX11_row 30 = .ok (.aload_n 0, 1) := by decide +kernel
theorem dX11_row_31 : decode cX11_row 31 = .ok (.getfield 41, 3) := by decide +kernel
theorem dX11_row_34 : decode cX11_row 34 = .ok (.getfield 124, 3) := by decide +kernel
theorem dX11_row_37 : decode cX11_row 37 = .ok (.iload_n 1, 1) := by decide +kernel
theorem dX11_row_38 : decode cX11_row 38 = .ok (.iaload, 1) := by decide +kernel
theorem dX11_row_39 : decode cX11_row 39 = .ok (.bipush 6, 2) := by decide +kernel
theorem dX11_row_41 : decode cX11_row 41 = .ok (.if_icmp .eq 6, 3) := by decide +kernel
theorem dX11_row_44 : decode cX11_row 44 = .ok (.bipush (-3), 2) := by decide +kernel
theorem dX11_row_46 : decode cX11_row 46 = .ok (.ireturn, 1) := by decide +kernel
theorem dX11_row_47 : decode cX11_row 47 = .ok (.iload_n 1, 1) := by decide +kernel
theorem dX11_row_48 : decode cX11_row 48 = .ok (.iconst 4, 1) := by decide +kernel
theorem dX11_row_49 : decode cX11_row 49 = .ok (.imul, 1) := by decide +kernel
theorem dX11_row_50 : decode cX11_row 50 = .ok (.iload_n 2, 1) := by decide +kernel
theorem dX11_row_51 : decode cX11_row 51 = .ok (.iadd, 1) := by decide +kernel
theorem dX11_row_52 : decode cX11_row 52 = .ok (.istore 4, 2) := by decide +kernel
theorem dX11_row_54 : decode cX11_row 54 = .ok (.aload_n 0, 1) := by decide +kernel
theorem dX11_row_55 : decode cX11_row 55 = .ok (.getfield 41, 3) := by decide +kernel
theorem dX11_row_58 : decode cX11_row 58 = .ok (.getfield 155, 3) := by decide +kernel
theorem dX11_row_61 : decode cX11_row 61 = .ok (.iload 4, 2) := by decide +kernel
theorem dX11_row_63 : decode cX11_row 63 = .ok (.iaload, 1) := by decide +kernel
theorem dX11_row_64 : decode cX11_row 64 = .ok (.istore 5, 2) := by decide +kernel
theorem dX11_row_66 : decode cX11_row 66 = .ok (.aload_n 0, 1) := by decide +kernel
theorem dX11_row_67 : decode cX11_row 67 = .ok (.getfield 41, 3) := by decide +kernel
theorem dX11_row_70 : decode cX11_row 70 = .ok (.getfield 155, 3) := by decide +kernel
theorem dX11_row_73 : decode cX11_row 73 = .ok (.iload 4, 2) := by decide +kernel
theorem dX11_row_75 : decode cX11_row 75 = .ok (.iload_n 3, 1) := by decide +kernel
theorem dX11_row_76 : decode cX11_row 76 = .ok (.iastore, 1) := by decide +kernel
theorem dX11_row_77 : decode cX11_row 77 = .ok (.iload 5, 2) := by decide +kernel
theorem dX11_row_79 : decode cX11_row 79 = .ok (.ireturn, 1) := by decide +kernel
noncomputable def C_X11_row : List (Nat × qOp) := [(0, qo_aload 0 1),
  (1, qo_iload 1 1),
  (2, qo_callv [(11, S_X11_isPerson)] 1),
  (5, qo_ifeq 16),
  (8, qo_iload 2 1),
  (9, qo_ci 3 1),
  (10, qo_calls S_X11_isIn 2),
  (13, qo_ifne 18),
  (16, qo_ci (-1) 1),
  (17, qo_ret (some .int) 1),
  (18, qo_iload 3 1),
  (19, qo_ci 9 2),
  (21, qo_calls S_X11_isIn 2),
  (24, qo_ifne 30),
  (27, qo_ci (-2) 2),
  (29, qo_ret (some .int) 1),
  (30, qo_aload 0 1),
  (31, qo_getR 11 0),
  (34, qo_getR 8 3),
  (37, qo_iload 1 1),
  (38, qo_iaload),
  (39, qo_ci 6 2),
  (41, qo_iceq 47),
  (44, qo_ci (-3) 2),
  (46, qo_ret (some .int) 1),
  (47, qo_iload 1 1),
  (48, qo_ci 4 1),
  (49, qo_imul),
  (50, qo_iload 2 1),
  (51, qo_iadd),
  (52, qo_istore 4 2),
  (54, qo_aload 0 1),
  (55, qo_getR 11 0),
  (58, qo_getR 8 8),
  (61, qo_iload 4 2),
  (63, qo_iaload),
  (64, qo_istore 5 2),
  (66, qo_aload 0 1),
  (67, qo_getR 11 0),
  (70, qo_getR 8 8),
  (73, qo_iload 4 2),
  (75, qo_iload 3 1),
  (76, qo_iastore),
  (77, qo_iload 5 2),
  (79, qo_ret (some .int) 1)]
noncomputable def S_X11_row : qSem := qM 6 C_X11_row
set_option maxRecDepth 20000 in
theorem K_X11_row {X : qX} {l : Launch} : ∀ q ∈ C_X11_row, qOk X l 2 cX11_row 6 RX11 "row" (some .int) q.1 q.2 := by
  unfold C_X11_row
  refine qcons (qk_aload_n dX11_row_0 rfl) ?_
  refine qcons (qk_iload_n dX11_row_1 rfl) ?_
  refine qcons (qk_callv (ins := fun i => .invokevirtual i) (qconsV (qrunV M_X11_isPerson (by decide) (by decide) (by decide) rfl tw_391 tw_393 tw_0 tw_394 tw_78 ⟨by decide, by decide⟩ (by decide +kernel)) qnilV) dX11_row_2) ?_
  refine qcons (qk_ifeq dX11_row_5 (by decide)) ?_
  refine qcons (qk_iload_n dX11_row_8 rfl) ?_
  refine qcons (qk_iconst dX11_row_9 (by decide)) ?_
  refine qcons (qk_calls (qrunS M_X11_isIn (by decide) (by decide) tw_377 tw_378 tw_379 tw_78 ⟨by decide, by decide⟩ (by decide +kernel)) dX11_row_10) ?_
  refine qcons (qk_ifne dX11_row_13 (by decide)) ?_
  refine qcons (qk_iconst dX11_row_16 (by decide)) ?_
  refine qcons (qk_ret dX11_row_17 (Or.inr (Or.inl ⟨rfl, rfl⟩))) ?_
  refine qcons (qk_iload_n dX11_row_18 rfl) ?_
  refine qcons (qk_bipush dX11_row_19 (by decide) (by decide)) ?_
  refine qcons (qk_calls (qrunS M_X11_isIn (by decide) (by decide) tw_377 tw_378 tw_379 tw_78 ⟨by decide, by decide⟩ (by decide +kernel)) dX11_row_21) ?_
  refine qcons (qk_ifne dX11_row_24 (by decide)) ?_
  refine qcons (qk_bipush dX11_row_27 (by decide) (by decide)) ?_
  refine qcons (qk_ret dX11_row_29 (Or.inr (Or.inl ⟨rfl, rfl⟩))) ?_
  refine qcons (qk_aload_n dX11_row_30 rfl) ?_
  refine qcons (qk_getR fd_X11_41 kd_11_0 dX11_row_31) ?_
  refine qcons (qk_getR fd_X11_124 kd_8_3 dX11_row_34) ?_
  refine qcons (qk_iload_n dX11_row_37 rfl) ?_
  refine qcons (qk_iaload dX11_row_38) ?_
  refine qcons (qk_bipush dX11_row_39 (by decide) (by decide)) ?_
  refine qcons (qk_iceq dX11_row_41 (by decide)) ?_
  refine qcons (qk_bipush dX11_row_44 (by decide) (by decide)) ?_
  refine qcons (qk_ret dX11_row_46 (Or.inr (Or.inl ⟨rfl, rfl⟩))) ?_
  refine qcons (qk_iload_n dX11_row_47 rfl) ?_
  refine qcons (qk_iconst dX11_row_48 (by decide)) ?_
  refine qcons (qk_imul dX11_row_49) ?_
  refine qcons (qk_iload_n dX11_row_50 rfl) ?_
  refine qcons (qk_iadd dX11_row_51) ?_
  refine qcons (qk_istore dX11_row_52) ?_
  refine qcons (qk_aload_n dX11_row_54 rfl) ?_
  refine qcons (qk_getR fd_X11_41 kd_11_0 dX11_row_55) ?_
  refine qcons (qk_getR fd_X11_155 kd_8_8 dX11_row_58) ?_
  refine qcons (qk_iload dX11_row_61) ?_
  refine qcons (qk_iaload dX11_row_63) ?_
  refine qcons (qk_istore dX11_row_64) ?_
  refine qcons (qk_aload_n dX11_row_66 rfl) ?_
  refine qcons (qk_getR fd_X11_41 kd_11_0 dX11_row_67) ?_
  refine qcons (qk_getR fd_X11_155 kd_8_8 dX11_row_70) ?_
  refine qcons (qk_iload dX11_row_73) ?_
  refine qcons (qk_iload_n dX11_row_75 rfl) ?_
  refine qcons (qk_iastore dX11_row_76) ?_
  refine qcons (qk_iload dX11_row_77) ?_
  refine qcons (qk_ret dX11_row_79 (Or.inr (Or.inl ⟨rfl, rfl⟩))) ?_
  exact qnil
theorem M_X11_row {X : qX} {l : Launch} : qMet X l 2 yX11_row cX11_row 6 (some .int) S_X11_row := qmet_of K_X11_row (by decide) rfl rfl
theorem dX11_isHeap_0 : decode cX11_isHeap 0 = .ok (.iload_n 0, 1) := by decide +kernel
theorem dX11_isHeap_1 : decode cX11_isHeap 1 = .ok (.ifCond .lt 12, 3) := by decide +kernel
theorem dX11_isHeap_4 : decode cX11_isHeap 4 = .ok (.iload_n 0, 1) := by decide +kernel
theorem dX11_isHeap_5 : decode cX11_isHeap 5 = .ok (.iconst 5, 1) := by decide +kernel
theorem dX11_isHeap_6 : decode cX11_isHeap 6 = .ok (.if_icmp .ge 7, 3) := by decide +kernel
theorem dX11_isHeap_9 : decode cX11_isHeap 9 = .ok (.iconst 1, 1) := by decide +kernel
theorem dX11_isHeap_10 : decode cX11_isHeap 10 = .ok (.goto 4, 3) := by decide +kernel
theorem dX11_isHeap_13 : decode cX11_isHeap 13 = .ok (.iconst 0, 1) := by decide +kernel
theorem dX11_isHeap_14 : decode cX11_isHeap 14 = .ok (.ireturn, 1) := by decide +kernel
noncomputable def C_X11_isHeap : List (Nat × qOp) := [(0, qo_iload 0 1),
  (1, qo_iflt 13),
  (4, qo_iload 0 1),
  (5, qo_ci 5 1),
  (6, qo_icge 13),
  (9, qo_ci 1 1),
  (10, qo_goto 14),
  (13, qo_ci 0 1),
  (14, qo_ret (some .boolean) 1)]
noncomputable def S_X11_isHeap : qSem := qM 1 C_X11_isHeap
set_option maxRecDepth 20000 in
theorem K_X11_isHeap {X : qX} {l : Launch} : ∀ q ∈ C_X11_isHeap, qOk X l 1 cX11_isHeap 1 RX11 "isHeap" (some .boolean) q.1 q.2 := by
  unfold C_X11_isHeap
  refine qcons (qk_iload_n dX11_isHeap_0 rfl) ?_
  refine qcons (qk_iflt dX11_isHeap_1 (by decide)) ?_
  refine qcons (qk_iload_n dX11_isHeap_4 rfl) ?_
  refine qcons (qk_iconst dX11_isHeap_5 (by decide)) ?_
  refine qcons (qk_icge dX11_isHeap_6 (by decide)) ?_
  refine qcons (qk_iconst dX11_isHeap_9 (by decide)) ?_
  refine qcons (qk_goto dX11_isHeap_10 (by decide)) ?_
  refine qcons (qk_iconst dX11_isHeap_13 (by decide)) ?_
  refine qcons (qk_ret dX11_isHeap_14 (Or.inr (Or.inl ⟨rfl, rfl⟩))) ?_
  exact qnil
theorem M_X11_isHeap {X : qX} {l : Launch} : qMet X l 1 yX11_isHeap cX11_isHeap 1 (some .boolean) S_X11_isHeap := qmet_of K_X11_isHeap (by decide) rfl rfl
theorem dX11_heap_0 : decode cX11_heap 0 = .ok (.iload_n 1, 1) := by decide +kernel
theorem dX11_heap_1 : decode cX11_heap 1 = .ok (.invokestatic 158, 3) := by decide +kernel
theorem dX11_heap_4 : decode cX11_heap 4 = .ok (.ifCond .ne 5, 3) := by decide +kernel
theorem dX11_heap_7 : decode cX11_heap 7 = .ok (.iconst (-1), 1) := by decide +kernel
theorem dX11_heap_8 : decode cX11_heap 8 = .ok (.ireturn, 1) := by decide +kernel
theorem dX11_heap_9 : decode cX11_heap 9 = .ok (.iload_n 2, 1) := by decide +kernel
theorem dX11_heap_10 : decode cX11_heap 10 = .ok (.sipush 9999, 3) := by decide +kernel
theorem dX11_heap_13 : decode cX11_heap 13 = .ok (.invokestatic 105, 3) := by decide +kernel
theorem dX11_heap_16 : decode cX11_heap 16 = .ok (.ifCond .ne 6, 3) := by decide +kernel
theorem dX11_heap_19 : decode cX11_heap 19 = .ok (.bipush (-2), 2) := by decide +kernel
theorem dX11_heap_21 : decode cX11_heap 21 = .ok (.ireturn, 1) := by decide +kernel
theorem dX11_heap_22 : decode cX11_heap 22 = .ok (.aload_n 0, 1) := by decide +kernel
theorem dX11_heap_23 : decode cX11_heap 23 = .ok (.getfield 41, 3) := by decide +kernel
theorem dX11_heap_26 : decode cX11_heap 26 = .ok (.getfield 161, 3) := by decide +kernel
theorem dX11_heap_29 : decode cX11_heap 29 = .ok (.iload_n 1, 1) := by decide +kernel
theorem dX11_heap_30 : decode cX11_heap 30 = .ok (.iaload, 1) := by decide +kernel
theorem dX11_heap_31 : decode cX11_heap 31 = .ok (.istore_n 3, 1) := by decide +kernel
theorem dX11_heap_32 : decode cX11_heap 32 = .ok (.aload_n 0, 1) := by decide +kernel
theorem dX11_heap_33 : decode cX11_heap 33 = .ok (.getfield 41, 3) := by decide +kernel
theorem dX11_heap_36 : decode cX11_heap 36 = .ok (.getfield 161, 3) := by decide +kernel
theorem dX11_heap_39 : decode cX11_heap 39 = .ok (.iload_n 1, 1) := by decide +kernel
theorem dX11_heap_40 : decode cX11_heap 40 = .ok (.iload_n 2, 1) := by decide +kernel
theorem dX11_heap_41 : decode cX11_heap 41 = .ok (.iastore, 1) := by decide +kernel
theorem dX11_heap_42 : decode cX11_heap 42 = .ok (.iload_n 3, 1) := by decide +kernel
theorem dX11_heap_43 : decode cX11_heap 43 = .ok (.ireturn, 1) := by decide +kernel
noncomputable def C_X11_heap : List (Nat × qOp) := [(0, qo_iload 1 1),
  (1, qo_calls S_X11_isHeap 1),
  (4, qo_ifne 9),
  (7, qo_ci (-1) 1),
  (8, qo_ret (some .int) 1),
  (9, qo_iload 2 1),
  (10, qo_ci 9999 3),
  (13, qo_calls S_X11_isIn 2),
  (16, qo_ifne 22),
  (19, qo_ci (-2) 2),
  (21, qo_ret (some .int) 1),
  (22, qo_aload 0 1),
  (23, qo_getR 11 0),
  (26, qo_getR 8 2),
  (29, qo_iload 1 1),
  (30, qo_iaload),
  (31, qo_istore 3 1),
  (32, qo_aload 0 1),
  (33, qo_getR 11 0),
  (36, qo_getR 8 2),
  (39, qo_iload 1 1),
  (40, qo_iload 2 1),
  (41, qo_iastore),
  (42, qo_iload 3 1),
  (43, qo_ret (some .int) 1)]
noncomputable def S_X11_heap : qSem := qM 4 C_X11_heap
set_option maxRecDepth 20000 in
theorem K_X11_heap {X : qX} {l : Launch} : ∀ q ∈ C_X11_heap, qOk X l 2 cX11_heap 4 RX11 "heap" (some .int) q.1 q.2 := by
  unfold C_X11_heap
  refine qcons (qk_iload_n dX11_heap_0 rfl) ?_
  refine qcons (qk_calls (qrunS M_X11_isHeap (by decide) (by decide) tw_456 tw_457 tw_458 tw_78 ⟨by decide, by decide⟩ (by decide +kernel)) dX11_heap_1) ?_
  refine qcons (qk_ifne dX11_heap_4 (by decide)) ?_
  refine qcons (qk_iconst dX11_heap_7 (by decide)) ?_
  refine qcons (qk_ret dX11_heap_8 (Or.inr (Or.inl ⟨rfl, rfl⟩))) ?_
  refine qcons (qk_iload_n dX11_heap_9 rfl) ?_
  refine qcons (qk_sipush dX11_heap_10 (by decide) (by decide)) ?_
  refine qcons (qk_calls (qrunS M_X11_isIn (by decide) (by decide) tw_377 tw_378 tw_379 tw_78 ⟨by decide, by decide⟩ (by decide +kernel)) dX11_heap_13) ?_
  refine qcons (qk_ifne dX11_heap_16 (by decide)) ?_
  refine qcons (qk_bipush dX11_heap_19 (by decide) (by decide)) ?_
  refine qcons (qk_ret dX11_heap_21 (Or.inr (Or.inl ⟨rfl, rfl⟩))) ?_
  refine qcons (qk_aload_n dX11_heap_22 rfl) ?_
  refine qcons (qk_getR fd_X11_41 kd_11_0 dX11_heap_23) ?_
  refine qcons (qk_getR fd_X11_161 kd_8_2 dX11_heap_26) ?_
  refine qcons (qk_iload_n dX11_heap_29 rfl) ?_
  refine qcons (qk_iaload dX11_heap_30) ?_
  refine qcons (qk_istore_n dX11_heap_31 rfl) ?_
  refine qcons (qk_aload_n dX11_heap_32 rfl) ?_
  refine qcons (qk_getR fd_X11_41 kd_11_0 dX11_heap_33) ?_
  refine qcons (qk_getR fd_X11_161 kd_8_2 dX11_heap_36) ?_
  refine qcons (qk_iload_n dX11_heap_39 rfl) ?_
  refine qcons (qk_iload_n dX11_heap_40 rfl) ?_
  refine qcons (qk_iastore dX11_heap_41) ?_
  refine qcons (qk_iload_n dX11_heap_42 rfl) ?_
  refine qcons (qk_ret dX11_heap_43 (Or.inr (Or.inl ⟨rfl, rfl⟩))) ?_
  exact qnil
theorem M_X11_heap {X : qX} {l : Launch} : qMet X l 2 yX11_heap cX11_heap 4 (some .int) S_X11_heap := qmet_of K_X11_heap (by decide) rfl rfl
theorem dX11_feed_0 : decode cX11_feed 0 = .ok (.iload_n 1, 1) := by decide +kernel
theorem dX11_feed_1 : decode cX11_feed 1 = .ok (.bipush 127, 2) := by decide +kernel
theorem dX11_feed_3 : decode cX11_feed 3 = .ok (.invokestatic 105, 3) := by decide +kernel
theorem dX11_feed_6 : decode cX11_feed 6 = .ok (.ifCond .ne 6, 3) := by decide +kernel
theorem dX11_feed_9 : decode cX11_feed 9 = .ok (.bipush (-2), 2) := by decide +kernel
theorem dX11_feed_11 : decode cX11_feed 11 = .ok (.ireturn, 1) := by decide +kernel
theorem dX11_feed_12 : decode cX11_feed 12 = .ok (.aload_n 0, 1) := by decide +kernel
theorem dX11_feed_13 : decode cX11_feed 13 = .ok (.getfield 164, 3) := by decide +kernel
theorem dX11_feed_16 : decode cX11_feed 16 = .ok (.bipush 100, 2) := by decide +kernel
theorem dX11_feed_18 : decode cX11_feed 18 = .ok (.if_icmp .lt 6, 3) := by decide +kernel
theorem dX11_feed_21 : decode cX11_feed 21 = .ok (.bipush (-4), 2) := by decide +kernel
theorem dX11_feed_23 : decode cX11_feed 23 = .ok (.ireturn, 1) := by decide +kernel
theorem dX11_feed_24 : decode cX11_feed 24 = .ok (.aload_n 0, 1) := by decide +kernel
theorem dX11_feed_25 : decode cX11_feed 25 = .ok (.getfield 78, 3) := by decide +kernel
theorem dX11_feed_28 : decode cX11_feed 28 = .ok (.aload_n 0, 1) := by decide +kernel
theorem dX11_feed_29 : decode cX11_feed 29 = .ok (.getfield 164, 3) := by decide +kernel
theorem dX11_feed_32 : decode cX11_feed 32 = .ok (.iload_n 1, 1) := by decide +kernel
theorem dX11_feed_33 : decode cX11_feed 33 = .ok (.i2b, 1) := by decide +kernel
theorem dX11_feed_34 : decode cX11_feed 34 = .ok (.bastore, 1) := by decide +kernel
theorem dX11_feed_35 : decode cX11_feed 35 = .ok (.aload_n 0, 1) := by decide +kernel
theorem dX11_feed_36 : decode cX11_feed 36 = .ok (.dup, 1) := by decide +kernel
theorem dX11_feed_37 : decode cX11_feed 37 = .ok (.getfield 164, 3) := by decide +kernel
theorem dX11_feed_40 : decode cX11_feed 40 = .ok (.iconst 1, 1) := by decide +kernel
theorem dX11_feed_41 : decode cX11_feed 41 = .ok (.iadd, 1) := by decide +kernel
theorem dX11_feed_42 : decode cX11_feed 42 = .ok (.putfield 164, 3) := by decide +kernel
theorem dX11_feed_45 : decode cX11_feed 45 = .ok (.aload_n 0, 1) := by decide +kernel
theorem dX11_feed_46 : decode cX11_feed 46 = .ok (.getfield 164, 3) := by decide +kernel
theorem dX11_feed_49 : decode cX11_feed 49 = .ok (.ireturn, 1) := by decide +kernel
noncomputable def C_X11_feed : List (Nat × qOp) := [(0, qo_iload 1 1),
  (1, qo_ci 127 2),
  (3, qo_calls S_X11_isIn 2),
  (6, qo_ifne 12),
  (9, qo_ci (-2) 2),
  (11, qo_ret (some .int) 1),
  (12, qo_aload 0 1),
  (13, qo_getI 11 11),
  (16, qo_ci 100 2),
  (18, qo_iclt 24),
  (21, qo_ci (-4) 2),
  (23, qo_ret (some .int) 1),
  (24, qo_aload 0 1),
  (25, qo_getR 11 10),
  (28, qo_aload 0 1),
  (29, qo_getI 11 11),
  (32, qo_iload 1 1),
  (33, qo_i2b),
  (34, qo_bastore),
  (35, qo_aload 0 1),
  (36, qo_dup),
  (37, qo_getI 11 11),
  (40, qo_ci 1 1),
  (41, qo_iadd),
  (42, qo_putI 11 11),
  (45, qo_aload 0 1),
  (46, qo_getI 11 11),
  (49, qo_ret (some .int) 1)]
noncomputable def S_X11_feed : qSem := qM 2 C_X11_feed
set_option maxRecDepth 20000 in
theorem K_X11_feed {X : qX} {l : Launch} : ∀ q ∈ C_X11_feed, qOk X l 2 cX11_feed 2 RX11 "feed" (some .int) q.1 q.2 := by
  unfold C_X11_feed
  refine qcons (qk_iload_n dX11_feed_0 rfl) ?_
  refine qcons (qk_bipush dX11_feed_1 (by decide) (by decide)) ?_
  refine qcons (qk_calls (qrunS M_X11_isIn (by decide) (by decide) tw_377 tw_378 tw_379 tw_78 ⟨by decide, by decide⟩ (by decide +kernel)) dX11_feed_3) ?_
  refine qcons (qk_ifne dX11_feed_6 (by decide)) ?_
  refine qcons (qk_bipush dX11_feed_9 (by decide) (by decide)) ?_
  refine qcons (qk_ret dX11_feed_11 (Or.inr (Or.inl ⟨rfl, rfl⟩))) ?_
  refine qcons (qk_aload_n dX11_feed_12 rfl) ?_
  refine qcons (qk_getI fd_X11_164 kd_11_11 dX11_feed_13) ?_
  refine qcons (qk_bipush dX11_feed_16 (by decide) (by decide)) ?_
  refine qcons (qk_iclt dX11_feed_18 (by decide)) ?_
  refine qcons (qk_bipush dX11_feed_21 (by decide) (by decide)) ?_
  refine qcons (qk_ret dX11_feed_23 (Or.inr (Or.inl ⟨rfl, rfl⟩))) ?_
  refine qcons (qk_aload_n dX11_feed_24 rfl) ?_
  refine qcons (qk_getR fd_X11_78 kd_11_10 dX11_feed_25) ?_
  refine qcons (qk_aload_n dX11_feed_28 rfl) ?_
  refine qcons (qk_getI fd_X11_164 kd_11_11 dX11_feed_29) ?_
  refine qcons (qk_iload_n dX11_feed_32 rfl) ?_
  refine qcons (qk_i2b dX11_feed_33) ?_
  refine qcons (qk_bastore dX11_feed_34) ?_
  refine qcons (qk_aload_n dX11_feed_35 rfl) ?_
  refine qcons (qk_dup dX11_feed_36) ?_
  refine qcons (qk_getI fd_X11_164 kd_11_11 dX11_feed_37) ?_
  refine qcons (qk_iconst dX11_feed_40 (by decide)) ?_
  refine qcons (qk_iadd dX11_feed_41) ?_
  refine qcons (qk_putI (ty := .int) fd_X11_164 tyX11_ok nmX11 (Or.inl rfl) kd_11_11 (tyX11_ok 11 (by decide)) dX11_feed_42) ?_
  refine qcons (qk_aload_n dX11_feed_45 rfl) ?_
  refine qcons (qk_getI fd_X11_164 kd_11_11 dX11_feed_46) ?_
  refine qcons (qk_ret dX11_feed_49 (Or.inr (Or.inl ⟨rfl, rfl⟩))) ?_
  exact qnil
theorem M_X11_feed {X : qX} {l : Launch} : qMet X l 2 yX11_feed cX11_feed 2 (some .int) S_X11_feed := qmet_of K_X11_feed (by decide) rfl rfl
theorem dX11_hall_0 : decode cX11_hall 0 = .ok (.aload_n 0, 1) := by decide +kernel
theorem dX11_hall_1 : decode cX11_hall 1 = .ok (.getfield 167, 3) := by decide +kernel
theorem dX11_hall_4 : decode cX11_hall 4 = .ok (.bipush 6, 2) := by decide +kernel
theorem dX11_hall_6 : decode cX11_hall 6 = .ok (.if_icmp .lt 6, 3) := by decide +kernel
theorem dX11_hall_9 : decode cX11_hall 9 = .ok (.bipush (-4), 2) := by decide +kernel
theorem dX11_hall_11 : decode cX11_hall 11 = .ok (.ireturn, 1) := by decide +kernel
theorem dX11_hall_12 : decode cX11_hall 12 = .ok (.aload_n 0, 1) := by decide +kernel
theorem dX11_hall_13 : decode cX11_hall 13 = .ok (.getfield 82, 3) := by decide +kernel
theorem dX11_hall_16 : decode cX11_hall 16 = .ok (.aload_n 0, 1) := by decide +kernel
theorem dX11_hall_17 : decode cX11_hall 17 = .ok (.getfield 167, 3) := by decide +kernel
theorem dX11_hall_20 : decode cX11_hall 20 = .ok (.aaload, 1) := by decide +kernel
theorem dX11_hall_21 : decode cX11_hall 21 = .ok (.astore_n 1, 1) := by decide +kernel
theorem dX11_hall_22 : decode cX11_hall 22 = .ok (.aload_n 1, 1) := by decide +kernel
theorem dX11_hall_23 : decode cX11_hall 23 = .ok (.aload_n 0, 1) := by decide +kernel
theorem dX11_hall_24 : decode cX11_hall 24 = .ok (.getfield 78, 3) := by decide +kernel
theorem dX11_hall_27 : decode cX11_hall 27 = .ok (.aload_n 0, 1) := by decide +kernel
theorem dX11_hall_28 : decode cX11_hall 28 = .ok (.getfield 164, 3) := by decide +kernel
theorem dX11_hall_31 : decode cX11_hall 31 = .ok (.invokevirtual 170, 3) := by decide +kernel
theorem dX11_hall_34 : decode cX11_hall 34 = .ok (.istore_n 2, 1) := by decide +kernel
theorem dX11_hall_35 : decode cX11_hall 35 = .ok (.aload_n 0, 1) := by decide +kernel
theorem dX11_hall_36 : decode cX11_hall 36 = .ok (.iconst 0, 1) := by decide +kernel
theorem dX11_hall_37 : decode cX11_hall 37 = .ok (.putfield 164, 3) := by decide +kernel
theorem dX11_hall_40 : decode cX11_hall 40 = .ok (.iload_n 2, 1) := by decide +kernel
theorem dX11_hall_41 : decode cX11_hall 41 = .ok (.ifCond .ne 11, 3) := by decide +kernel
theorem dX11_hall_44 : decode cX11_hall 44 = .ok (.bipush (-10), 2) := by decide +kernel
theorem dX11_hall_46 : decode cX11_hall 46 = .ok (.aload_n 1, 1) := by decide +kernel
theorem dX11_hall_47 : decode cX11_hall 47 = .ok (.getfield 174, 3) := by decide +kernel
theorem dX11_hall_50 : decode cX11_hall 50 = .ok (.isub, 1) := by decide +kernel
theorem dX11_hall_51 : decode cX11_hall 51 = .ok (.ireturn, 1) := by decide +kernel
theorem dX11_hall_52 : decode cX11_hall 52 = .ok (.aload_n 0, 1) := by decide +kernel
theorem dX11_hall_53 : decode cX11_hall 53 = .ok (.getfield 41, 3) := by decide +kernel
theorem dX11_hall_56 : decode cX11_hall 56 = .ok (.aload_n 1, 1) := by decide +kernel
theorem dX11_hall_57 : decode cX11_hall 57 = .ok (.invokevirtual 177, 3) := by decide +kernel
theorem dX11_hall_60 : decode cX11_hall 60 = .ok (.aload_n 0, 1) := by decide +kernel
theorem dX11_hall_61 : decode cX11_hall 61 = .ok (.dup, 1) := by decide +kernel
theorem dX11_hall_62 : decode cX11_hall 62 = .ok (.getfield 167, 3) := by decide +kernel
theorem dX11_hall_65 : decode cX11_hall 65 = .ok (.iconst 1, 1) := by decide +kernel
theorem dX11_hall_66 : decode cX11_hall 66 = .ok (.iadd, 1) := by decide +kernel
theorem dX11_hall_67 : decode cX11_hall 67 = .ok (.putfield 167, 3) := by decide +kernel
theorem dX11_hall_70 : decode cX11_hall 70 = .ok (.aload_n 0, 1) := by decide +kernel
theorem dX11_hall_71 : decode cX11_hall 71 = .ok (.getfield 167, 3) := by decide +kernel
theorem dX11_hall_74 : decode cX11_hall 74 = .ok (.iconst 1, 1) := by decide +kernel
theorem dX11_hall_75 : decode cX11_hall 75 = .ok (.isub, 1) := by decide +kernel
theorem dX11_hall_76 : decode cX11_hall 76 = .ok (.ireturn, 1) := by decide +kernel
noncomputable def C_X11_hall : List (Nat × qOp) := [(0, qo_aload 0 1),
  (1, qo_getI 11 13),
  (4, qo_ci 6 2),
  (6, qo_iclt 12),
  (9, qo_ci (-4) 2),
  (11, qo_ret (some .int) 1),
  (12, qo_aload 0 1),
  (13, qo_getR 11 12),
  (16, qo_aload 0 1),
  (17, qo_getI 11 13),
  (20, qo_aaload),
  (21, qo_astore 1 1),
  (22, qo_aload 1 1),
  (23, qo_aload 0 1),
  (24, qo_getR 11 10),
  (27, qo_aload 0 1),
  (28, qo_getI 11 11),
  (31, qo_callv [(3, S_X3_takesText)] 2),
  (34, qo_istore 2 1),
  (35, qo_aload 0 1),
  (36, qo_ci 0 1),
  (37, qo_putI 11 11),
  (40, qo_iload 2 1),
  (41, qo_ifne 52),
  (44, qo_ci (-10) 2),
  (46, qo_aload 1 1),
  (47, qo_getI 3 6),
  (50, qo_isub),
  (51, qo_ret (some .int) 1),
  (52, qo_aload 0 1),
  (53, qo_getR 11 0),
  (56, qo_aload 1 1),
  (57, qo_callv [(8, S_X8_holds)] 1),
  (60, qo_aload 0 1),
  (61, qo_dup),
  (62, qo_getI 11 13),
  (65, qo_ci 1 1),
  (66, qo_iadd),
  (67, qo_putI 11 13),
  (70, qo_aload 0 1),
  (71, qo_getI 11 13),
  (74, qo_ci 1 1),
  (75, qo_isub),
  (76, qo_ret (some .int) 1)]
noncomputable def S_X11_hall : qSem := qM 3 C_X11_hall
set_option maxRecDepth 20000 in
theorem K_X11_hall {X : qX} {l : Launch} : ∀ q ∈ C_X11_hall, qOk X l 29 cX11_hall 3 RX11 "hall" (some .int) q.1 q.2 := by
  unfold C_X11_hall
  refine qcons (qk_aload_n dX11_hall_0 rfl) ?_
  refine qcons (qk_getI fd_X11_167 kd_11_13 dX11_hall_1) ?_
  refine qcons (qk_bipush dX11_hall_4 (by decide) (by decide)) ?_
  refine qcons (qk_iclt dX11_hall_6 (by decide)) ?_
  refine qcons (qk_bipush dX11_hall_9 (by decide) (by decide)) ?_
  refine qcons (qk_ret dX11_hall_11 (Or.inr (Or.inl ⟨rfl, rfl⟩))) ?_
  refine qcons (qk_aload_n dX11_hall_12 rfl) ?_
  refine qcons (qk_getR fd_X11_82 kd_11_12 dX11_hall_13) ?_
  refine qcons (qk_aload_n dX11_hall_16 rfl) ?_
  refine qcons (qk_getI fd_X11_167 kd_11_13 dX11_hall_17) ?_
  refine qcons (qk_aaload dX11_hall_20) ?_
  refine qcons (qk_astore_n dX11_hall_21 rfl) ?_
  refine qcons (qk_aload_n dX11_hall_22 rfl) ?_
  refine qcons (qk_aload_n dX11_hall_23 rfl) ?_
  refine qcons (qk_getR fd_X11_78 kd_11_10 dX11_hall_24) ?_
  refine qcons (qk_aload_n dX11_hall_27 rfl) ?_
  refine qcons (qk_getI fd_X11_164 kd_11_11 dX11_hall_28) ?_
  refine qcons (qk_callv (ins := fun i => .invokevirtual i) (qconsV (qrunV M_X3_takesText (by decide) (by decide) (by decide) rfl tw_467 tw_468 tw_469 tw_470 tw_86 ⟨by decide, by decide⟩ (by decide +kernel)) qnilV) dX11_hall_31) ?_
  refine qcons (qk_istore_n dX11_hall_34 rfl) ?_
  refine qcons (qk_aload_n dX11_hall_35 rfl) ?_
  refine qcons (qk_iconst dX11_hall_36 (by decide)) ?_
  refine qcons (qk_putI (ty := .int) fd_X11_164 tyX11_ok nmX11 (Or.inl rfl) kd_11_11 (tyX11_ok 11 (by decide)) dX11_hall_37) ?_
  refine qcons (qk_iload_n dX11_hall_40 rfl) ?_
  refine qcons (qk_ifne dX11_hall_41 (by decide)) ?_
  refine qcons (qk_bipush dX11_hall_44 (by decide) (by decide)) ?_
  refine qcons (qk_aload_n dX11_hall_46 rfl) ?_
  refine qcons (qk_getI fd_X11_174 kd_3_6 dX11_hall_47) ?_
  refine qcons (qk_isub dX11_hall_50) ?_
  refine qcons (qk_ret dX11_hall_51 (Or.inr (Or.inl ⟨rfl, rfl⟩))) ?_
  refine qcons (qk_aload_n dX11_hall_52 rfl) ?_
  refine qcons (qk_getR fd_X11_41 kd_11_0 dX11_hall_53) ?_
  refine qcons (qk_aload_n dX11_hall_56 rfl) ?_
  refine qcons (qk_callv (ins := fun i => .invokevirtual i) (qconsV (qrunV M_X8_holds (by decide) (by decide) (by decide) rfl tw_575 tw_576 tw_577 tw_578 tw_87 ⟨by decide, by decide⟩ (by decide +kernel)) qnilV) dX11_hall_57) ?_
  refine qcons (qk_aload_n dX11_hall_60 rfl) ?_
  refine qcons (qk_dup dX11_hall_61) ?_
  refine qcons (qk_getI fd_X11_167 kd_11_13 dX11_hall_62) ?_
  refine qcons (qk_iconst dX11_hall_65 (by decide)) ?_
  refine qcons (qk_iadd dX11_hall_66) ?_
  refine qcons (qk_putI (ty := .int) fd_X11_167 tyX11_ok nmX11 (Or.inl rfl) kd_11_13 (tyX11_ok 13 (by decide)) dX11_hall_67) ?_
  refine qcons (qk_aload_n dX11_hall_70 rfl) ?_
  refine qcons (qk_getI fd_X11_167 kd_11_13 dX11_hall_71) ?_
  refine qcons (qk_iconst dX11_hall_74 (by decide)) ?_
  refine qcons (qk_isub dX11_hall_75) ?_
  refine qcons (qk_ret dX11_hall_76 (Or.inr (Or.inl ⟨rfl, rfl⟩))) ?_
  exact qnil
theorem M_X11_hall {X : qX} {l : Launch} : qMet X l 29 yX11_hall cX11_hall 3 (some .int) S_X11_hall := qmet_of K_X11_hall (by decide) rfl rfl
theorem dX11_told_0 : decode cX11_told 0 = .ok (.iload_n 1, 1) := by decide +kernel
theorem dX11_told_1 : decode cX11_told 1 = .ok (.tableswitch 54 0 2 #[27, 35, 43], 27) := by decide +kernel
theorem dX11_told_28 : decode cX11_told 28 = .ok (.aload_n 0, 1) := by decide +kernel
theorem dX11_told_29 : decode cX11_told 29 = .ok (.getfield 41, 3) := by decide +kernel
theorem dX11_told_32 : decode cX11_told 32 = .ok (.getfield 181, 3) := by decide +kernel
theorem dX11_told_35 : decode cX11_told 35 = .ok (.ireturn, 1) := by decide +kernel
theorem dX11_told_36 : decode cX11_told 36 = .ok (.aload_n 0, 1) := by decide +kernel
theorem dX11_told_37 : decode cX11_told 37 = .ok (.getfield 41, 3) := by decide +kernel
theorem dX11_told_40 : decode cX11_told 40 = .ok (.getfield 184, 3) := by decide +kernel
theorem dX11_told_43 : decode cX11_told 43 = .ok (.ireturn, 1) := by decide +kernel
theorem dX11_told_44 : decode cX11_told 44 = .ok (.aload_n 0, 1) := by decide +kernel
theorem dX11_told_45 : decode cX11_told 45 = .ok (.getfield 41, 3) := by decide +kernel
theorem dX11_told_48 : decode cX11_told 48 = .ok (.getfield 143, 3) := by decide +kernel
theorem dX11_told_51 : decode cX11_told 51 = .ok (.getfield 187, 3) := by decide +kernel
theorem dX11_told_54 : decode cX11_told 54 = .ok (.ireturn, 1) := by decide +kernel
theorem dX11_told_55 : decode cX11_told 55 = .ok (.iload_n 1, 1) := by decide +kernel
theorem dX11_told_56 : decode cX11_told 56 = .ok (.bipush 10, 2) := by decide +kernel
theorem dX11_told_58 : decode cX11_told 58 = .ok (.if_icmp .lt 24, 3) := by decide +kernel
theorem dX11_told_61 : decode cX11_told 61 = .ok (.iload_n 1, 1) := by decide +kernel
theorem dX11_told_62 : decode cX11_told 62 = .ok (.bipush 15, 2) := by decide +kernel
theorem dX11_told_64 : decode cX11_told 64 = .ok (.if_icmp .ge 18, 3) := by decide +kernel
theorem dX11_told_67 : decode cX11_told 67 = .ok (.aload_n 0, 1) := by decide +kernel
theorem dX11_told_68 : decode cX11_told 68 = .ok (.getfield 41, 3) := by decide +kernel
theorem dX11_told_71 : decode cX11_told 71 = .ok (.getfield 161, 3) := by decide +kernel
theorem dX11_told_74 : decode cX11_told 74 = .ok (.iload_n 1, 1) := by decide +kernel
theorem dX11_told_75 : decode cX11_told 75 = .ok (.bipush 10, 2) := by decide +kernel
theorem dX11_told_77 : decode cX11_told 77 = .ok (.isub, 1) := by decide +kernel
theorem dX11_told_78 : decode cX11_told 78 = .ok (.iaload, 1) := by decide +kernel
theorem dX11_told_79 : decode cX11_told 79 = .ok (.goto 4, 3) := by decide +kernel
theorem dX11_told_82 : decode cX11_told 82 = .ok (.iconst (-1), 1) := by decide +kernel
theorem dX11_told_83 : decode cX11_told 83 = .ok (.ireturn, 1) := by decide +kernel
noncomputable def C_X11_told : List (Nat × qOp) := [(0, qo_iload 1 1),
  (1, qo_tsw 0 [28, 36, 44] 55),
  (28, qo_aload 0 1),
  (29, qo_getR 11 0),
  (32, qo_getI 8 11),
  (35, qo_ret (some .int) 1),
  (36, qo_aload 0 1),
  (37, qo_getR 11 0),
  (40, qo_getI 8 12),
  (43, qo_ret (some .int) 1),
  (44, qo_aload 0 1),
  (45, qo_getR 11 0),
  (48, qo_getD 8 13),
  (51, qo_getI 3 5),
  (54, qo_ret (some .int) 1),
  (55, qo_iload 1 1),
  (56, qo_ci 10 2),
  (58, qo_iclt 82),
  (61, qo_iload 1 1),
  (62, qo_ci 15 2),
  (64, qo_icge 82),
  (67, qo_aload 0 1),
  (68, qo_getR 11 0),
  (71, qo_getR 8 2),
  (74, qo_iload 1 1),
  (75, qo_ci 10 2),
  (77, qo_isub),
  (78, qo_iaload),
  (79, qo_goto 83),
  (82, qo_ci (-1) 1),
  (83, qo_ret (some .int) 1)]
noncomputable def S_X11_told : qSem := qM 2 C_X11_told
set_option maxRecDepth 20000 in
theorem K_X11_told {X : qX} {l : Launch} : ∀ q ∈ C_X11_told, qOk X l 1 cX11_told 2 RX11 "told" (some .int) q.1 q.2 := by
  unfold C_X11_told
  refine qcons (qk_iload_n dX11_told_0 rfl) ?_
  refine qcons (qk_tsw dX11_told_1 (by decide) (by decide) (by decide)) ?_
  refine qcons (qk_aload_n dX11_told_28 rfl) ?_
  refine qcons (qk_getR fd_X11_41 kd_11_0 dX11_told_29) ?_
  refine qcons (qk_getI fd_X11_181 kd_8_11 dX11_told_32) ?_
  refine qcons (qk_ret dX11_told_35 (Or.inr (Or.inl ⟨rfl, rfl⟩))) ?_
  refine qcons (qk_aload_n dX11_told_36 rfl) ?_
  refine qcons (qk_getR fd_X11_41 kd_11_0 dX11_told_37) ?_
  refine qcons (qk_getI fd_X11_184 kd_8_12 dX11_told_40) ?_
  refine qcons (qk_ret dX11_told_43 (Or.inr (Or.inl ⟨rfl, rfl⟩))) ?_
  refine qcons (qk_aload_n dX11_told_44 rfl) ?_
  refine qcons (qk_getR fd_X11_41 kd_11_0 dX11_told_45) ?_
  refine qcons (qk_getD fd_X11_143 kd_8_13 dX11_told_48) ?_
  refine qcons (qk_getI fd_X11_187 kd_3_5 dX11_told_51) ?_
  refine qcons (qk_ret dX11_told_54 (Or.inr (Or.inl ⟨rfl, rfl⟩))) ?_
  refine qcons (qk_iload_n dX11_told_55 rfl) ?_
  refine qcons (qk_bipush dX11_told_56 (by decide) (by decide)) ?_
  refine qcons (qk_iclt dX11_told_58 (by decide)) ?_
  refine qcons (qk_iload_n dX11_told_61 rfl) ?_
  refine qcons (qk_bipush dX11_told_62 (by decide) (by decide)) ?_
  refine qcons (qk_icge dX11_told_64 (by decide)) ?_
  refine qcons (qk_aload_n dX11_told_67 rfl) ?_
  refine qcons (qk_getR fd_X11_41 kd_11_0 dX11_told_68) ?_
  refine qcons (qk_getR fd_X11_161 kd_8_2 dX11_told_71) ?_
  refine qcons (qk_iload_n dX11_told_74 rfl) ?_
  refine qcons (qk_bipush dX11_told_75 (by decide) (by decide)) ?_
  refine qcons (qk_isub dX11_told_77) ?_
  refine qcons (qk_iaload dX11_told_78) ?_
  refine qcons (qk_goto dX11_told_79 (by decide)) ?_
  refine qcons (qk_iconst dX11_told_82 (by decide)) ?_
  refine qcons (qk_ret dX11_told_83 (Or.inr (Or.inl ⟨rfl, rfl⟩))) ?_
  exact qnil
theorem M_X11_told {X : qX} {l : Launch} : qMet X l 1 yX11_told cX11_told 2 (some .int) S_X11_told := qmet_of K_X11_told (by decide) rfl rfl
theorem dX11_pass_0 : decode cX11_pass 0 = .ok (.iload_n 1, 1) := by decide +kernel
theorem dX11_pass_1 : decode cX11_pass 1 = .ok (.bipush 60, 2) := by decide +kernel
theorem dX11_pass_3 : decode cX11_pass 3 = .ok (.invokestatic 105, 3) := by decide +kernel
theorem dX11_pass_6 : decode cX11_pass 6 = .ok (.ifCond .ne 6, 3) := by decide +kernel
theorem dX11_pass_9 : decode cX11_pass 9 = .ok (.bipush (-2), 2) := by decide +kernel
theorem dX11_pass_11 : decode cX11_pass 11 = .ok (.ireturn, 1) := by decide +kernel
theorem dX11_pass_12 : decode cX11_pass 12 = .ok (.aload_n 0, 1) := by decide +kernel
theorem dX11_pass_13 : decode cX11_pass 13 = .ok (.getfield 41, 3) := by decide +kernel
theorem dX11_pass_16 : decode cX11_pass 16 = .ok (.getfield 181, 3) := by decide +kernel
theorem dX11_pass_19 : decode cX11_pass 19 = .ok (.iload_n 1, 1) := by decide +kernel
theorem dX11_pass_20 : decode cX11_pass 20 = .ok (.iadd, 1) := by decide +kernel
theorem dX11_pass_21 : decode cX11_pass 21 = .ok (.sipush 9999, 3) := by decide +kernel
theorem dX11_pass_24 : decode cX11_pass 24 = .ok (.if_icmp .le 6, 3) := by decide +kernel
theorem dX11_pass_27 : decode cX11_pass 27 = .ok (.bipush (-3), 2) := by decide +kernel
theorem dX11_pass_29 : decode cX11_pass 29 = .ok (.ireturn, 1) := by decide +kernel
theorem dX11_pass_30 : decode cX11_pass 30 = .ok (.aload_n 0, 1) := by decide +kernel
theorem dX11_pass_31 : decode cX11_pass 31 = .ok (.getfield 41, 3) := by decide +kernel
theorem dX11_pass_34 : decode cX11_pass 34 = .ok (.iload_n 1, 1) := by decide +kernel
theorem dX11_pass_35 : decode cX11_pass 35 = .ok (.invokevirtual 190, 3) := by decide +kernel
theorem dX11_pass_38 : decode cX11_pass 38 = .ok (.ireturn, 1) := by decide +kernel
noncomputable def C_X11_pass : List (Nat × qOp) := [(0, qo_iload 1 1),
  (1, qo_ci 60 2),
  (3, qo_calls S_X11_isIn 2),
  (6, qo_ifne 12),
  (9, qo_ci (-2) 2),
  (11, qo_ret (some .int) 1),
  (12, qo_aload 0 1),
  (13, qo_getR 11 0),
  (16, qo_getI 8 11),
  (19, qo_iload 1 1),
  (20, qo_iadd),
  (21, qo_ci 9999 3),
  (24, qo_icle 30),
  (27, qo_ci (-3) 2),
  (29, qo_ret (some .int) 1),
  (30, qo_aload 0 1),
  (31, qo_getR 11 0),
  (34, qo_iload 1 1),
  (35, qo_callv [(8, S_X8_minutesGo)] 1),
  (38, qo_ret (some .int) 1)]
noncomputable def S_X11_pass : qSem := qM 2 C_X11_pass
set_option maxRecDepth 20000 in
theorem K_X11_pass {X : qX} {l : Launch} : ∀ q ∈ C_X11_pass, qOk X l 6 cX11_pass 2 RX11 "pass" (some .int) q.1 q.2 := by
  unfold C_X11_pass
  refine qcons (qk_iload_n dX11_pass_0 rfl) ?_
  refine qcons (qk_bipush dX11_pass_1 (by decide) (by decide)) ?_
  refine qcons (qk_calls (qrunS M_X11_isIn (by decide) (by decide) tw_377 tw_378 tw_379 tw_78 ⟨by decide, by decide⟩ (by decide +kernel)) dX11_pass_3) ?_
  refine qcons (qk_ifne dX11_pass_6 (by decide)) ?_
  refine qcons (qk_bipush dX11_pass_9 (by decide) (by decide)) ?_
  refine qcons (qk_ret dX11_pass_11 (Or.inr (Or.inl ⟨rfl, rfl⟩))) ?_
  refine qcons (qk_aload_n dX11_pass_12 rfl) ?_
  refine qcons (qk_getR fd_X11_41 kd_11_0 dX11_pass_13) ?_
  refine qcons (qk_getI fd_X11_181 kd_8_11 dX11_pass_16) ?_
  refine qcons (qk_iload_n dX11_pass_19 rfl) ?_
  refine qcons (qk_iadd dX11_pass_20) ?_
  refine qcons (qk_sipush dX11_pass_21 (by decide) (by decide)) ?_
  refine qcons (qk_icle dX11_pass_24 (by decide)) ?_
  refine qcons (qk_bipush dX11_pass_27 (by decide) (by decide)) ?_
  refine qcons (qk_ret dX11_pass_29 (Or.inr (Or.inl ⟨rfl, rfl⟩))) ?_
  refine qcons (qk_aload_n dX11_pass_30 rfl) ?_
  refine qcons (qk_getR fd_X11_41 kd_11_0 dX11_pass_31) ?_
  refine qcons (qk_iload_n dX11_pass_34 rfl) ?_
  refine qcons (qk_callv (ins := fun i => .invokevirtual i) (qconsV (qrunV M_X8_minutesGo (by decide) (by decide) (by decide) rfl tw_587 tw_588 tw_589 tw_590 tw_87 ⟨by decide, by decide⟩ (by decide +kernel)) qnilV) dX11_pass_35) ?_
  refine qcons (qk_ret dX11_pass_38 (Or.inr (Or.inl ⟨rfl, rfl⟩))) ?_
  exact qnil
theorem M_X11_pass {X : qX} {l : Launch} : qMet X l 6 yX11_pass cX11_pass 2 (some .int) S_X11_pass := qmet_of K_X11_pass (by decide) rfl rfl
theorem dX11_on_0 : decode cX11_on 0 = .ok (.iload_n 2, 1) := by decide +kernel
theorem dX11_on_1 : decode cX11_on 1 = .ok (.bipush 10, 2) := by decide +kernel
theorem dX11_on_3 : decode cX11_on 3 = .ok (.if_icmp .lt 17, 3) := by decide +kernel
theorem dX11_on_6 : decode cX11_on 6 = .ok (.iload_n 2, 1) := by decide +kernel
theorem dX11_on_7 : decode cX11_on 7 = .ok (.bipush 10, 2) := by decide +kernel
theorem dX11_on_9 : decode cX11_on 9 = .ok (.isub, 1) := by decide +kernel
theorem dX11_on_10 : decode cX11_on 10 = .ok (.invokestatic 158, 3) := by decide +kernel
theorem dX11_on_13 : decode cX11_on 13 = .ok (.ifCond .eq 7, 3) := by decide +kernel
theorem dX11_on_16 : decode cX11_on 16 = .ok (.iconst 1, 1) := by decide +kernel
theorem dX11_on_17 : decode cX11_on 17 = .ok (.goto 4, 3) := by decide +kernel
theorem dX11_on_20 : decode cX11_on 20 = .ok (.iconst 0, 1) := by decide +kernel
theorem dX11_on_21 : decode cX11_on 21 = .ok (.istore_n 3, 1) := by decide +kernel
theorem dX11_on_22 : decode cX11_on 22 = .ok (.iload_n 2, 1) := by decide +kernel
theorem dX11_on_23 : decode cX11_on 23 = .ok (.bipush 20, 2) := by decide +kernel
theorem dX11_on_25 : decode cX11_on 25 = .ok (.if_icmp .lt 24, 3) := by decide +kernel
theorem dX11_on_28 : decode cX11_on 28 = .ok (.iload_n 2, 1) := by decide +kernel
theorem dX11_on_29 : decode cX11_on 29 = .ok (.bipush 40, 2) := by decide +kernel
theorem dX11_on_31 : decode cX11_on 31 = .ok (.if_icmp .ge 18, 3) := by decide +kernel
theorem dX11_on_34 : decode cX11_on 34 = .ok (.aload_n 0, 1) := by decide +kernel
theorem dX11_on_35 : decode cX11_on 35 = .ok (.iload_n 2, 1) := by decide +kernel
theorem dX11_on_36 : decode cX11_on 36 = .ok (.bipush 10, 2) := by decide +kernel
theorem dX11_on_38 : decode cX11_on 38 = .ok (.irem, 1) := by decide +kernel
theorem dX11_on_39 : decode cX11_on 39 = .ok (.invokevirtual 121, 3) := by decide +kernel
theorem dX11_on_42 : decode cX11_on 42 = .ok (.ifCond .eq 7, 3) := by decide +kernel
theorem dX11_on_45 : decode cX11_on 45 = .ok (.iconst 1, 1) := by decide +kernel
theorem dX11_on_46 : decode cX11_on 46 = .ok (.goto 4, 3) := by decide +kernel
theorem dX11_on_49 : decode cX11_on 49 = .ok (.iconst 0, 1) := by decide +kernel
theorem dX11_on_50 : decode cX11_on 50 = .ok (.istore 4, 2) := by decide +kernel
theorem dX11_on_52 : decode cX11_on 52 = .ok (.iload_n 3, 1) := by decide +kernel
theorem dX11_on_53 : decode cX11_on 53 = .ok (.ifCond .ne 10, 3) := by decide +kernel
theorem dX11_on_56 : decode cX11_on 56 = .ok (.iload 4, 2) := by decide +kernel
theorem dX11_on_58 : decode cX11_on 58 = .ok (.ifCond .ne 5, 3) := by decide +kernel
theorem dX11_on_61 : decode cX11_on 61 = .ok (.iconst (-1), 1) := by decide +kernel
theorem dX11_on_62 : decode cX11_on 62 = .ok (.ireturn, 1) := by decide +kernel
theorem dX11_on_63 : decode cX11_on 63 = .ok (.iload_n 1, 1) := by decide +kernel
theorem dX11_on_64 : decode cX11_on 64 = .ok (.bipush 60, 2) := by decide +kernel
theorem dX11_on_66 : decode cX11_on 66 = .ok (.invokestatic 105, 3) := by decide +kernel
theorem dX11_on_69 : decode cX11_on 69 = .ok (.ifCond .ne 6, 3) := by decide +kernel
theorem dX11_on_72 : decode cX11_on 72 = .ok (.bipush (-2), 2) := by decide +kernel
theorem dX11_on_74 : decode cX11_on 74 = .ok (.ireturn, 1) := by decide +kernel
theorem dX11_on_75 : decode cX11_on 75 = .ok (.aload_n 0, 1) := by decide +kernel
theorem dX11_on_76 : decode cX11_on 76 = .ok (.getfield 48, 3) := by decide +kernel
theorem dX11_on_79 : decode cX11_on 79 = .ok (.aload_n 0, 1) := by decide +kernel
theorem dX11_on_80 : decode cX11_on 80 = .ok (.getfield 41, 3) := by decide +kernel
theorem dX11_on_83 : decode cX11_on 83 = .ok (.invokevirtual 193, 3) := by decide +kernel
theorem dX11_on_86 : decode cX11_on 86 = .ok (.aload_n 0, 1) := by decide +kernel
theorem dX11_on_87 : decode cX11_on 87 = .ok (.getfield 48, 3) := by decide +kernel
theorem dX11_on_90 : decode cX11_on 90 = .ok (.iload_n 1, 1) := by decide +kernel
theorem dX11_on_91 : decode cX11_on 91 = .ok (.invokevirtual 190, 3) := by decide +kernel
theorem dX11_on_94 : decode cX11_on 94 = .ok (.pop, 1) := by decide +kernel
theorem dX11_on_95 : decode cX11_on 95 = .ok (.iload_n 3, 1) := by decide +kernel
theorem dX11_on_96 : decode cX11_on 96 = .ok (.ifCond .eq 16, 3) := by decide +kernel
theorem dX11_on_99 : decode cX11_on 99 = .ok (.aload_n 0, 1) := by decide +kernel
theorem dX11_on_100 : decode cX11_on 100 = .ok (.getfield 48, 3) := by decide +kernel
theorem dX11_on_103 : decode cX11_on 103 = .ok (.getfield 161, 3) := by decide +kernel
theorem dX11_on_106 : decode cX11_on 106 = .ok (.iload_n 2, 1) := by decide +kernel
theorem dX11_on_107 : decode cX11_on 107 = .ok (.bipush 10, 2) := by decide +kernel
theorem dX11_on_109 : decode cX11_on 109 = .ok (.isub, 1) := by decide +kernel
theorem dX11_on_110 : decode cX11_on 110 = .ok (.iaload, 1) := by decide +kernel
theorem dX11_on_111 : decode cX11_on 111 = .ok (.ireturn, 1) := by decide +kernel
theorem dX11_on_112 : decode cX11_on 112 = .ok (.iload_n 2, 1) := by decide +kernel
theorem dX11_on_113 : decode cX11_on 113 = .ok (.bipush 30, 2) := by decide +kernel
theorem dX11_on_115 : decode cX11_on 115 = .ok (.if_icmp .ge 18, 3) := by decide +kernel
theorem dX11_on_118 : decode cX11_on 118 = .ok (.aload_n 0, 1) := by decide +kernel
theorem dX11_on_119 : decode cX11_on 119 = .ok (.getfield 48, 3) := by decide +kernel
theorem dX11_on_122 : decode cX11_on 122 = .ok (.getfield 133, 3) := by decide +kernel
theorem dX11_on_125 : decode cX11_on 125 = .ok (.iload_n 2, 1) := by decide +kernel
theorem dX11_on_126 : decode cX11_on 126 = .ok (.bipush 10, 2) := by decide +kernel
theorem dX11_on_128 : decode cX11_on 128 = .ok (.irem, 1) := by decide +kernel
theorem dX11_on_129 : decode cX11_on 129 = .ok (.iaload, 1) := by decide +kernel
theorem dX11_on_130 : decode cX11_on 130 = .ok (.goto 15, 3) := by decide +kernel
theorem dX11_on_133 : decode cX11_on 133 = .ok (.aload_n 0, 1) := by decide +kernel
theorem dX11_on_134 : decode cX11_on 134 = .ok (.getfield 48, 3) := by decide +kernel
theorem dX11_on_137 : decode cX11_on 137 = .ok (.getfield 136, 3) := by decide +kernel
theorem dX11_on_140 : decode cX11_on 140 = .ok (.iload_n 2, 1) := by decide +kernel
theorem dX11_on_141 : decode cX11_on 141 = .ok (.bipush 10, 2) := by decide +kernel
theorem dX11_on_143 : decode cX11_on 143 = .ok (.irem, 1) := by decide +kernel
theorem dX11_on_144 : decode cX11_on 144 = .ok (.iaload, 1) := by decide +kernel
theorem dX11_on_145 : decode cX11_on 145 = .ok (.ireturn, 1) := by decide +kernel
noncomputable def C_X11_on : List (Nat × qOp) := [(0, qo_iload 2 1),
  (1, qo_ci 10 2),
  (3, qo_iclt 20),
  (6, qo_iload 2 1),
  (7, qo_ci 10 2),
  (9, qo_isub),
  (10, qo_calls S_X11_isHeap 1),
  (13, qo_ifeq 20),
  (16, qo_ci 1 1),
  (17, qo_goto 21),
  (20, qo_ci 0 1),
  (21, qo_istore 3 1),
  (22, qo_iload 2 1),
  (23, qo_ci 20 2),
  (25, qo_iclt 49),
  (28, qo_iload 2 1),
  (29, qo_ci 40 2),
  (31, qo_icge 49),
  (34, qo_aload 0 1),
  (35, qo_iload 2 1),
  (36, qo_ci 10 2),
  (38, qo_irem),
  (39, qo_callv [(11, S_X11_isPerson)] 1),
  (42, qo_ifeq 49),
  (45, qo_ci 1 1),
  (46, qo_goto 50),
  (49, qo_ci 0 1),
  (50, qo_istore 4 2),
  (52, qo_iload 3 1),
  (53, qo_ifne 63),
  (56, qo_iload 4 2),
  (58, qo_ifne 63),
  (61, qo_ci (-1) 1),
  (62, qo_ret (some .int) 1),
  (63, qo_iload 1 1),
  (64, qo_ci 60 2),
  (66, qo_calls S_X11_isIn 2),
  (69, qo_ifne 75),
  (72, qo_ci (-2) 2),
  (74, qo_ret (some .int) 1),
  (75, qo_aload 0 1),
  (76, qo_getR 11 1),
  (79, qo_aload 0 1),
  (80, qo_getR 11 0),
  (83, qo_callv [(8, S_X8_becomes)] 1),
  (86, qo_aload 0 1),
  (87, qo_getR 11 1),
  (90, qo_iload 1 1),
  (91, qo_callv [(8, S_X8_minutesGo)] 1),
  (94, qo_pop),
  (95, qo_iload 3 1),
  (96, qo_ifeq 112),
  (99, qo_aload 0 1),
  (100, qo_getR 11 1),
  (103, qo_getR 8 2),
  (106, qo_iload 2 1),
  (107, qo_ci 10 2),
  (109, qo_isub),
  (110, qo_iaload),
  (111, qo_ret (some .int) 1),
  (112, qo_iload 2 1),
  (113, qo_ci 30 2),
  (115, qo_icge 133),
  (118, qo_aload 0 1),
  (119, qo_getR 11 1),
  (122, qo_getR 8 6),
  (125, qo_iload 2 1),
  (126, qo_ci 10 2),
  (128, qo_irem),
  (129, qo_iaload),
  (130, qo_goto 145),
  (133, qo_aload 0 1),
  (134, qo_getR 11 1),
  (137, qo_getR 8 7),
  (140, qo_iload 2 1),
  (141, qo_ci 10 2),
  (143, qo_irem),
  (144, qo_iaload),
  (145, qo_ret (some .int) 1)]
noncomputable def S_X11_on : qSem := qM 5 C_X11_on
set_option maxRecDepth 20000 in
theorem K_X11_on {X : qX} {l : Launch} : ∀ q ∈ C_X11_on, qOk X l 6 cX11_on 5 RX11 "on" (some .int) q.1 q.2 := by
  unfold C_X11_on
  refine qcons (qk_iload_n dX11_on_0 rfl) ?_
  refine qcons (qk_bipush dX11_on_1 (by decide) (by decide)) ?_
  refine qcons (qk_iclt dX11_on_3 (by decide)) ?_
  refine qcons (qk_iload_n dX11_on_6 rfl) ?_
  refine qcons (qk_bipush dX11_on_7 (by decide) (by decide)) ?_
  refine qcons (qk_isub dX11_on_9) ?_
  refine qcons (qk_calls (qrunS M_X11_isHeap (by decide) (by decide) tw_456 tw_457 tw_458 tw_78 ⟨by decide, by decide⟩ (by decide +kernel)) dX11_on_10) ?_
  refine qcons (qk_ifeq dX11_on_13 (by decide)) ?_
  refine qcons (qk_iconst dX11_on_16 (by decide)) ?_
  refine qcons (qk_goto dX11_on_17 (by decide)) ?_
  refine qcons (qk_iconst dX11_on_20 (by decide)) ?_
  refine qcons (qk_istore_n dX11_on_21 rfl) ?_
  refine qcons (qk_iload_n dX11_on_22 rfl) ?_
  refine qcons (qk_bipush dX11_on_23 (by decide) (by decide)) ?_
  refine qcons (qk_iclt dX11_on_25 (by decide)) ?_
  refine qcons (qk_iload_n dX11_on_28 rfl) ?_
  refine qcons (qk_bipush dX11_on_29 (by decide) (by decide)) ?_
  refine qcons (qk_icge dX11_on_31 (by decide)) ?_
  refine qcons (qk_aload_n dX11_on_34 rfl) ?_
  refine qcons (qk_iload_n dX11_on_35 rfl) ?_
  refine qcons (qk_bipush dX11_on_36 (by decide) (by decide)) ?_
  refine qcons (qk_irem dX11_on_38) ?_
  refine qcons (qk_callv (ins := fun i => .invokevirtual i) (qconsV (qrunV M_X11_isPerson (by decide) (by decide) (by decide) rfl tw_391 tw_393 tw_0 tw_394 tw_78 ⟨by decide, by decide⟩ (by decide +kernel)) qnilV) dX11_on_39) ?_
  refine qcons (qk_ifeq dX11_on_42 (by decide)) ?_
  refine qcons (qk_iconst dX11_on_45 (by decide)) ?_
  refine qcons (qk_goto dX11_on_46 (by decide)) ?_
  refine qcons (qk_iconst dX11_on_49 (by decide)) ?_
  refine qcons (qk_istore dX11_on_50) ?_
  refine qcons (qk_iload_n dX11_on_52 rfl) ?_
  refine qcons (qk_ifne dX11_on_53 (by decide)) ?_
  refine qcons (qk_iload dX11_on_56) ?_
  refine qcons (qk_ifne dX11_on_58 (by decide)) ?_
  refine qcons (qk_iconst dX11_on_61 (by decide)) ?_
  refine qcons (qk_ret dX11_on_62 (Or.inr (Or.inl ⟨rfl, rfl⟩))) ?_
  refine qcons (qk_iload_n dX11_on_63 rfl) ?_
  refine qcons (qk_bipush dX11_on_64 (by decide) (by decide)) ?_
  refine qcons (qk_calls (qrunS M_X11_isIn (by decide) (by decide) tw_377 tw_378 tw_379 tw_78 ⟨by decide, by decide⟩ (by decide +kernel)) dX11_on_66) ?_
  refine qcons (qk_ifne dX11_on_69 (by decide)) ?_
  refine qcons (qk_bipush dX11_on_72 (by decide) (by decide)) ?_
  refine qcons (qk_ret dX11_on_74 (Or.inr (Or.inl ⟨rfl, rfl⟩))) ?_
  refine qcons (qk_aload_n dX11_on_75 rfl) ?_
  refine qcons (qk_getR fd_X11_48 kd_11_1 dX11_on_76) ?_
  refine qcons (qk_aload_n dX11_on_79 rfl) ?_
  refine qcons (qk_getR fd_X11_41 kd_11_0 dX11_on_80) ?_
  refine qcons (qk_callv (ins := fun i => .invokevirtual i) (qconsV (qrunV M_X8_becomes (by decide) (by decide) (by decide) rfl tw_601 tw_602 tw_603 tw_604 tw_87 ⟨by decide, by decide⟩ (by decide +kernel)) qnilV) dX11_on_83) ?_
  refine qcons (qk_aload_n dX11_on_86 rfl) ?_
  refine qcons (qk_getR fd_X11_48 kd_11_1 dX11_on_87) ?_
  refine qcons (qk_iload_n dX11_on_90 rfl) ?_
  refine qcons (qk_callv (ins := fun i => .invokevirtual i) (qconsV (qrunV M_X8_minutesGo (by decide) (by decide) (by decide) rfl tw_587 tw_588 tw_589 tw_590 tw_87 ⟨by decide, by decide⟩ (by decide +kernel)) qnilV) dX11_on_91) ?_
  refine qcons (qk_pop dX11_on_94) ?_
  refine qcons (qk_iload_n dX11_on_95 rfl) ?_
  refine qcons (qk_ifeq dX11_on_96 (by decide)) ?_
  refine qcons (qk_aload_n dX11_on_99 rfl) ?_
  refine qcons (qk_getR fd_X11_48 kd_11_1 dX11_on_100) ?_
  refine qcons (qk_getR fd_X11_161 kd_8_2 dX11_on_103) ?_
  refine qcons (qk_iload_n dX11_on_106 rfl) ?_
  refine qcons (qk_bipush dX11_on_107 (by decide) (by decide)) ?_
  refine qcons (qk_isub dX11_on_109) ?_
  refine qcons (qk_iaload dX11_on_110) ?_
  refine qcons (qk_ret dX11_on_111 (Or.inr (Or.inl ⟨rfl, rfl⟩))) ?_
  refine qcons (qk_iload_n dX11_on_112 rfl) ?_
  refine qcons (qk_bipush dX11_on_113 (by decide) (by decide)) ?_
  refine qcons (qk_icge dX11_on_115 (by decide)) ?_
  refine qcons (qk_aload_n dX11_on_118 rfl) ?_
  refine qcons (qk_getR fd_X11_48 kd_11_1 dX11_on_119) ?_
  refine qcons (qk_getR fd_X11_133 kd_8_6 dX11_on_122) ?_
  refine qcons (qk_iload_n dX11_on_125 rfl) ?_
  refine qcons (qk_bipush dX11_on_126 (by decide) (by decide)) ?_
  refine qcons (qk_irem dX11_on_128) ?_
  refine qcons (qk_iaload dX11_on_129) ?_
  refine qcons (qk_goto dX11_on_130 (by decide)) ?_
  refine qcons (qk_aload_n dX11_on_133 rfl) ?_
  refine qcons (qk_getR fd_X11_48 kd_11_1 dX11_on_134) ?_
  refine qcons (qk_getR fd_X11_136 kd_8_7 dX11_on_137) ?_
  refine qcons (qk_iload_n dX11_on_140 rfl) ?_
  refine qcons (qk_bipush dX11_on_141 (by decide) (by decide)) ?_
  refine qcons (qk_irem dX11_on_143) ?_
  refine qcons (qk_iaload dX11_on_144) ?_
  refine qcons (qk_ret dX11_on_145 (Or.inr (Or.inl ⟨rfl, rfl⟩))) ?_
  exact qnil
theorem M_X11_on {X : qX} {l : Launch} : qMet X l 6 yX11_on cX11_on 5 (some .int) S_X11_on := qmet_of K_X11_on (by decide) rfl rfl
theorem dX11_ready_0 : decode cX11_ready 0 = .ok (.iload_n 1, 1) := by decide +kernel
theorem dX11_ready_1 : decode cX11_ready 1 = .ok (.sipush 9999, 3) := by decide +kernel
theorem dX11_ready_4 : decode cX11_ready 4 = .ok (.invokestatic 105, 3) := by decide +kernel
theorem dX11_ready_7 : decode cX11_ready 7 = .ok (.ifCond .ne 6, 3) := by decide +kernel
theorem dX11_ready_10 : decode cX11_ready 10 = .ok (.bipush (-2), 2) := by decide +kernel
theorem dX11_ready_12 : decode cX11_ready 12 = .ok (.ireturn, 1) := by decide +kernel
theorem dX11_ready_13 : decode cX11_ready 13 = .ok (.aload_n 0, 1) := by decide +kernel
theorem dX11_ready_14 : decode cX11_ready 14 = .ok (.getfield 48, 3) := by decide +kernel
theorem dX11_ready_17 : decode cX11_ready 17 = .ok (.aload_n 0, 1) := by decide +kernel
theorem dX11_ready_18 : decode cX11_ready 18 = .ok (.getfield 41, 3) := by decide +kernel
theorem dX11_ready_21 : decode cX11_ready 21 = .ok (.invokevirtual 193, 3) := by decide +kernel
theorem dX11_ready_24 : decode cX11_ready 24 = .ok (.iconst 0, 1) := by decide +kernel
theorem dX11_ready_25 : decode cX11_ready 25 = .ok (.istore_n 2, 1) := by decide +kernel
theorem dX11_ready_26 : decode cX11_ready 26 = .ok (.iload_n 2, 1) := by decide +kernel
theorem dX11_ready_27 : decode cX11_ready 27 = .ok (.bipush 99, 2) := by decide +kernel
theorem dX11_ready_29 : decode cX11_ready 29 = .ok (.if_icmp .gt 33, 3) := by decide +kernel
theorem dX11_ready_32 : decode cX11_ready 32 = .ok (.aload_n 0, 1) := by decide +kernel
theorem dX11_ready_33 : decode cX11_ready 33 = .ok (.getfield 48, 3) := by decide +kernel
theorem dX11_ready_36 : decode cX11_ready 36 = .ok (.getfield 161, 3) := by decide +kernel
theorem dX11_ready_39 : decode cX11_ready 39 = .ok (.iconst 4, 1) := by decide +kernel
theorem dX11_ready_40 : decode cX11_ready 40 = .ok (.iaload, 1) := by decide +kernel
theorem dX11_ready_41 : decode cX11_ready 41 = .ok (.iload_n 1, 1) := by decide +kernel
theorem dX11_ready_42 : decode cX11_ready 42 = .ok (.if_icmp .lt 5, 3) := by decide +kernel
theorem dX11_ready_45 : decode cX11_ready 45 = .ok (.iload_n 2, 1) := by decide +kernel
theorem dX11_ready_46 : decode cX11_ready 46 = .ok (.ireturn, 1) := by decide +kernel
theorem dX11_ready_47 : decode cX11_ready 47 = .ok (.aload_n 0, 1) := by decide +kernel
theorem dX11_ready_48 : decode cX11_ready 48 = .ok (.getfield 48, 3) := by decide +kernel
theorem dX11_ready_51 : decode cX11_ready 51 = .ok (.iconst 1, 1) := by decide +kernel
theorem dX11_ready_52 : decode cX11_ready 52 = .ok (.invokevirtual 190, 3) := by decide +kernel
theorem dX11_ready_55 : decode cX11_ready 55 = .ok (.pop, 1) := by decide +kernel
theorem dX11_ready_56 : decode cX11_ready 56 = .ok (.iinc 2 1, 3) := by decide +kernel
theorem dX11_ready_59 : decode cX11_ready 59 = .ok (.goto (-33), 3) := by decide +kernel
theorem dX11_ready_62 : decode cX11_ready 62 = .ok (.bipush (-5), 2) := by decide +kernel
theorem dX11_ready_64 : decode cX11_ready 64 = .ok (.ireturn, 1) := by decide +kernel
noncomputable def C_X11_ready : List (Nat × qOp) := [(0, qo_iload 1 1),
  (1, qo_ci 9999 3),
  (4, qo_calls S_X11_isIn 2),
  (7, qo_ifne 13),
  (10, qo_ci (-2) 2),
  (12, qo_ret (some .int) 1),
  (13, qo_aload 0 1),
  (14, qo_getR 11 1),
  (17, qo_aload 0 1),
  (18, qo_getR 11 0),
  (21, qo_callv [(8, S_X8_becomes)] 1),
  (24, qo_ci 0 1),
  (25, qo_istore 2 1),
  (26, qo_iload 2 1),
  (27, qo_ci 99 2),
  (29, qo_icgt 62),
  (32, qo_aload 0 1),
  (33, qo_getR 11 1),
  (36, qo_getR 8 2),
  (39, qo_ci 4 1),
  (40, qo_iaload),
  (41, qo_iload 1 1),
  (42, qo_iclt 47),
  (45, qo_iload 2 1),
  (46, qo_ret (some .int) 1),
  (47, qo_aload 0 1),
  (48, qo_getR 11 1),
  (51, qo_ci 1 1),
  (52, qo_callv [(8, S_X8_minutesGo)] 1),
  (55, qo_pop),
  (56, qo_iinc 2 1),
  (59, qo_goto 26),
  (62, qo_ci (-5) 2),
  (64, qo_ret (some .int) 1)]
noncomputable def S_X11_ready : qSem := qM 3 C_X11_ready
set_option maxRecDepth 20000 in
theorem K_X11_ready {X : qX} {l : Launch} : ∀ q ∈ C_X11_ready, qOk X l 6 cX11_ready 3 RX11 "ready" (some .int) q.1 q.2 := by
  unfold C_X11_ready
  refine qcons (qk_iload_n dX11_ready_0 rfl) ?_
  refine qcons (qk_sipush dX11_ready_1 (by decide) (by decide)) ?_
  refine qcons (qk_calls (qrunS M_X11_isIn (by decide) (by decide) tw_377 tw_378 tw_379 tw_78 ⟨by decide, by decide⟩ (by decide +kernel)) dX11_ready_4) ?_
  refine qcons (qk_ifne dX11_ready_7 (by decide)) ?_
  refine qcons (qk_bipush dX11_ready_10 (by decide) (by decide)) ?_
  refine qcons (qk_ret dX11_ready_12 (Or.inr (Or.inl ⟨rfl, rfl⟩))) ?_
  refine qcons (qk_aload_n dX11_ready_13 rfl) ?_
  refine qcons (qk_getR fd_X11_48 kd_11_1 dX11_ready_14) ?_
  refine qcons (qk_aload_n dX11_ready_17 rfl) ?_
  refine qcons (qk_getR fd_X11_41 kd_11_0 dX11_ready_18) ?_
  refine qcons (qk_callv (ins := fun i => .invokevirtual i) (qconsV (qrunV M_X8_becomes (by decide) (by decide) (by decide) rfl tw_601 tw_602 tw_603 tw_604 tw_87 ⟨by decide, by decide⟩ (by decide +kernel)) qnilV) dX11_ready_21) ?_
  refine qcons (qk_iconst dX11_ready_24 (by decide)) ?_
  refine qcons (qk_istore_n dX11_ready_25 rfl) ?_
  refine qcons (qk_iload_n dX11_ready_26 rfl) ?_
  refine qcons (qk_bipush dX11_ready_27 (by decide) (by decide)) ?_
  refine qcons (qk_icgt dX11_ready_29 (by decide)) ?_
  refine qcons (qk_aload_n dX11_ready_32 rfl) ?_
  refine qcons (qk_getR fd_X11_48 kd_11_1 dX11_ready_33) ?_
  refine qcons (qk_getR fd_X11_161 kd_8_2 dX11_ready_36) ?_
  refine qcons (qk_iconst dX11_ready_39 (by decide)) ?_
  refine qcons (qk_iaload dX11_ready_40) ?_
  refine qcons (qk_iload_n dX11_ready_41 rfl) ?_
  refine qcons (qk_iclt dX11_ready_42 (by decide)) ?_
  refine qcons (qk_iload_n dX11_ready_45 rfl) ?_
  refine qcons (qk_ret dX11_ready_46 (Or.inr (Or.inl ⟨rfl, rfl⟩))) ?_
  refine qcons (qk_aload_n dX11_ready_47 rfl) ?_
  refine qcons (qk_getR fd_X11_48 kd_11_1 dX11_ready_48) ?_
  refine qcons (qk_iconst dX11_ready_51 (by decide)) ?_
  refine qcons (qk_callv (ins := fun i => .invokevirtual i) (qconsV (qrunV M_X8_minutesGo (by decide) (by decide) (by decide) rfl tw_587 tw_588 tw_589 tw_590 tw_87 ⟨by decide, by decide⟩ (by decide +kernel)) qnilV) dX11_ready_52) ?_
  refine qcons (qk_pop dX11_ready_55) ?_
  refine qcons (qk_iinc dX11_ready_56) ?_
  refine qcons (qk_goto dX11_ready_59 (by decide)) ?_
  refine qcons (qk_bipush dX11_ready_62 (by decide) (by decide)) ?_
  refine qcons (qk_ret dX11_ready_64 (Or.inr (Or.inl ⟨rfl, rfl⟩))) ?_
  exact qnil
theorem M_X11_ready {X : qX} {l : Launch} : qMet X l 6 yX11_ready cX11_ready 3 (some .int) S_X11_ready := qmet_of K_X11_ready (by decide) rfl rfl
theorem dX11_yieldAsIs_0 : decode cX11_yieldAsIs 0 = .ok (.aload_n 0, 1) := by decide +kernel
theorem dX11_yieldAsIs_1 : decode cX11_yieldAsIs 1 = .ok (.getfield 48, 3) := by decide +kernel
theorem dX11_yieldAsIs_4 : decode cX11_yieldAsIs 4 = .ok (.aload_n 0, 1) := by decide +kernel
theorem dX11_yieldAsIs_5 : decode cX11_yieldAsIs 5 = .ok (.getfield 41, 3) := by decide +kernel
theorem dX11_yieldAsIs_8 : decode cX11_yieldAsIs 8 = .ok (.invokevirtual 193, 3) := by decide +kernel
theorem dX11_yieldAsIs_11 : decode cX11_yieldAsIs 11 = .ok (.aload_n 0, 1) := by decide +kernel
theorem dX11_yieldAsIs_12 : decode cX11_yieldAsIs 12 = .ok (.getfield 48, 3) := by decide +kernel
theorem dX11_yieldAsIs_15 : decode cX11_yieldAsIs 15 = .ok (.bipush 30, 2) := by decide +kernel
theorem dX11_yieldAsIs_17 : decode cX11_yieldAsIs 17 = .ok (.invokevirtual 190, 3) := by decide +kernel
theorem dX11_yieldAsIs_20 : decode cX11_yieldAsIs 20 = .ok (.ireturn, 1) := by decide +kernel
noncomputable def C_X11_yieldAsIs : List (Nat × qOp) := [(0, qo_aload 0 1),
  (1, qo_getR 11 1),
  (4, qo_aload 0 1),
  (5, qo_getR 11 0),
  (8, qo_callv [(8, S_X8_becomes)] 1),
  (11, qo_aload 0 1),
  (12, qo_getR 11 1),
  (15, qo_ci 30 2),
  (17, qo_callv [(8, S_X8_minutesGo)] 1),
  (20, qo_ret (some .int) 1)]
noncomputable def S_X11_yieldAsIs : qSem := qM 1 C_X11_yieldAsIs
set_option maxRecDepth 20000 in
theorem K_X11_yieldAsIs {X : qX} {l : Launch} : ∀ q ∈ C_X11_yieldAsIs, qOk X l 6 cX11_yieldAsIs 1 RX11 "yieldAsIs" (some .int) q.1 q.2 := by
  unfold C_X11_yieldAsIs
  refine qcons (qk_aload_n dX11_yieldAsIs_0 rfl) ?_
  refine qcons (qk_getR fd_X11_48 kd_11_1 dX11_yieldAsIs_1) ?_
  refine qcons (qk_aload_n dX11_yieldAsIs_4 rfl) ?_
  refine qcons (qk_getR fd_X11_41 kd_11_0 dX11_yieldAsIs_5) ?_
  refine qcons (qk_callv (ins := fun i => .invokevirtual i) (qconsV (qrunV M_X8_becomes (by decide) (by decide) (by decide) rfl tw_601 tw_602 tw_603 tw_604 tw_87 ⟨by decide, by decide⟩ (by decide +kernel)) qnilV) dX11_yieldAsIs_8) ?_
  refine qcons (qk_aload_n dX11_yieldAsIs_11 rfl) ?_
  refine qcons (qk_getR fd_X11_48 kd_11_1 dX11_yieldAsIs_12) ?_
  refine qcons (qk_bipush dX11_yieldAsIs_15 (by decide) (by decide)) ?_
  refine qcons (qk_callv (ins := fun i => .invokevirtual i) (qconsV (qrunV M_X8_minutesGo (by decide) (by decide) (by decide) rfl tw_587 tw_588 tw_589 tw_590 tw_87 ⟨by decide, by decide⟩ (by decide +kernel)) qnilV) dX11_yieldAsIs_17) ?_
  refine qcons (qk_ret dX11_yieldAsIs_20 (Or.inr (Or.inl ⟨rfl, rfl⟩))) ?_
  exact qnil
theorem M_X11_yieldAsIs {X : qX} {l : Launch} : qMet X l 6 yX11_yieldAsIs cX11_yieldAsIs 1 (some .int) S_X11_yieldAsIs := qmet_of K_X11_yieldAsIs (by decide) rfl rfl
theorem dX11_bestMove_0 : decode cX11_bestMove 0 = .ok (.aload_n 0, 1) := by decide +kernel
theorem dX11_bestMove_1 : decode cX11_bestMove 1 = .ok (.invokevirtual 210, 3) := by decide +kernel
theorem dX11_bestMove_4 : decode cX11_bestMove 4 = .ok (.istore_n 1, 1) := by decide +kernel
theorem dX11_bestMove_5 : decode cX11_bestMove 5 = .ok (.bipush (-5), 2) := by decide +kernel
theorem dX11_bestMove_7 : decode cX11_bestMove 7 = .ok (.istore_n 2, 1) := by decide +kernel
theorem dX11_bestMove_8 : decode cX11_bestMove 8 = .ok (.iconst 0, 1) := by decide +kernel
theorem dX11_bestMove_9 : decode cX11_bestMove 9 = .ok (.istore_n 3, 1) := by decide +kernel
theorem dX11_bestMove_10 : decode cX11_bestMove 10 = .ok (.iload_n 3, 1) := by decide +kernel
theorem dX11_bestMove_11 : decode cX11_bestMove 11 = .ok (.aload_n 0, 1) := by decide +kernel
theorem dX11_bestMove_12 : decode cX11_bestMove 12 = .ok (.getfield 41, 3) := by decide +kernel
theorem dX11_bestMove_15 : decode cX11_bestMove 15 = .ok (.getfield 113, 3) := by decide +kernel
theorem dX11_bestMove_18 : decode cX11_bestMove 18 = .ok (.if_icmp .ge 74, 3) := by decide +kernel
theorem dX11_bestMove_21 : decode cX11_bestMove 21 = .ok (.iconst 0, 1) := by decide +kernel
theorem dX11_bestMove_22 : decode cX11_bestMove 22 = .ok (.istore 4, 2) := by decide +kernel
theorem dX11_bestMove_24 : decode cX11_bestMove 24 = .ok (.iload 4, 2) := by decide +kernel
theorem dX11_bestMove_26 : decode cX11_bestMove 26 = .ok (.iconst 4, 1) := by decide +kernel
theorem dX11_bestMove_27 : decode cX11_bestMove 27 = .ok (.if_icmp .ge 59, 3) := by decide +kernel
theorem dX11_bestMove_30 : decode cX11_bestMove 30 = .ok (.aload_n 0, 1) := by decide +kernel
theorem dX11_bestMove_31 : decode cX11_bestMove 31 = .ok (.getfield 48, 3) := by decide +kernel
theorem dX11_bestMove_34 : decode cX11_bestMove 34 = .ok (.aload_n 0, 1) := by decide +kernel
theorem dX11_bestMove_35 : decode cX11_bestMove 35 = .ok (.getfield 41, 3) := by decide +kernel
theorem dX11_bestMove_38 : decode cX11_bestMove 38 = .ok (.invokevirtual 193, 3) := by decide +kernel
theorem dX11_bestMove_41 : decode cX11_bestMove 41 = .ok (.aload_n 0, 1) := by decide +kernel
theorem dX11_bestMove_42 : decode cX11_bestMove 42 = .ok (.getfield 48, 3) := by decide +kernel
theorem dX11_bestMove_45 : decode cX11_bestMove 45 = .ok (.getfield 130, 3) := by decide +kernel
theorem dX11_bestMove_48 : decode cX11_bestMove 48 = .ok (.iload_n 3, 1) := by decide +kernel
theorem dX11_bestMove_49 : decode cX11_bestMove 49 = .ok (.iload 4, 2) := by decide +kernel
theorem dX11_bestMove_51 : decode cX11_bestMove 51 = .ok (.iastore, 1) := by decide +kernel
theorem dX11_bestMove_52 : decode cX11_bestMove 52 = .ok (.aload_n 0, 1) := by decide +kernel
theorem dX11_bestMove_53 : decode cX11_bestMove 53 = .ok (.getfield 48, 3) := by decide +kernel
theorem dX11_bestMove_56 : decode cX11_bestMove 56 = .ok (.bipush 30, 2) := by decide +kernel
theorem dX11_bestMove_58 : decode cX11_bestMove 58 = .ok (.invokevirtual 190, 3) := by decide +kernel
theorem dX11_bestMove_61 : decode cX11_bestMove 61 = .ok (.istore 5, 2) := by decide +kernel
theorem dX11_bestMove_63 : decode cX11_bestMove 63 = .ok (.iload 5, 2) := by decide +kernel
theorem dX11_bestMove_65 : decode cX11_bestMove 65 = .ok (.iload_n 1, 1) := by decide +kernel
theorem dX11_bestMove_66 : decode cX11_bestMove 66 = .ok (.if_icmp .le 14, 3) := by decide +kernel
theorem dX11_bestMove_69 : decode cX11_bestMove 69 = .ok (.iload 5, 2) := by decide +kernel
theorem dX11_bestMove_71 : decode cX11_bestMove 71 = .ok (.istore_n 1, 1) := by decide +kernel
theorem dX11_bestMove_72 : decode cX11_bestMove 72 = .ok (.bipush 10, 2) := by decide +kernel
theorem dX11_bestMove_74 : decode cX11_bestMove 74 = .ok (.iload_n 3, 1) := by decide +kernel
theorem dX11_bestMove_75 : decode cX11_bestMove 75 = .ok (.imul, 1) := by decide +kernel
theorem dX11_bestMove_76 : decode cX11_bestMove 76 = .ok (.iload 4, 2) := by decide +kernel
theorem dX11_bestMove_78 : decode cX11_bestMove 78 = .ok (.iadd, 1) := by decide +kernel
theorem dX11_bestMove_79 : decode cX11_bestMove 79 = .ok (.istore_n 2, 1) := by decide +kernel
theorem dX11_bestMove_80 : decode cX11_bestMove 80 = .ok (.iinc 4 1, 3) := by decide +kernel
theorem dX11_bestMove_83 : decode cX11_bestMove 83 = .ok (.goto (-59), 3) := by decide +kernel
theorem dX11_bestMove_86 : decode cX11_bestMove 86 = .ok (.iinc 3 1, 3) := by decide +kernel
theorem dX11_bestMove_89 : decode cX11_bestMove 89 = .ok (.goto (-79), 3) := by decide +kernel
theorem dX11_bestMove_92 : decode cX11_bestMove 92 = .ok (.iload_n 2, 1) := by decide +kernel
theorem dX11_bestMove_93 : decode cX11_bestMove 93 = .ok (.ireturn, 1) := by decide +kernel
noncomputable def C_X11_bestMove : List (Nat × qOp) := [(0, qo_aload 0 1),
  (1, qo_callv [(11, S_X11_yieldAsIs)] 0),
  (4, qo_istore 1 1),
  (5, qo_ci (-5) 2),
  (7, qo_istore 2 1),
  (8, qo_ci 0 1),
  (9, qo_istore 3 1),
  (10, qo_iload 3 1),
  (11, qo_aload 0 1),
  (12, qo_getR 11 0),
  (15, qo_getI 8 10),
  (18, qo_icge 92),
  (21, qo_ci 0 1),
  (22, qo_istore 4 2),
  (24, qo_iload 4 2),
  (26, qo_ci 4 1),
  (27, qo_icge 86),
  (30, qo_aload 0 1),
  (31, qo_getR 11 1),
  (34, qo_aload 0 1),
  (35, qo_getR 11 0),
  (38, qo_callv [(8, S_X8_becomes)] 1),
  (41, qo_aload 0 1),
  (42, qo_getR 11 1),
  (45, qo_getR 8 5),
  (48, qo_iload 3 1),
  (49, qo_iload 4 2),
  (51, qo_iastore),
  (52, qo_aload 0 1),
  (53, qo_getR 11 1),
  (56, qo_ci 30 2),
  (58, qo_callv [(8, S_X8_minutesGo)] 1),
  (61, qo_istore 5 2),
  (63, qo_iload 5 2),
  (65, qo_iload 1 1),
  (66, qo_icle 80),
  (69, qo_iload 5 2),
  (71, qo_istore 1 1),
  (72, qo_ci 10 2),
  (74, qo_iload 3 1),
  (75, qo_imul),
  (76, qo_iload 4 2),
  (78, qo_iadd),
  (79, qo_istore 2 1),
  (80, qo_iinc 4 1),
  (83, qo_goto 24),
  (86, qo_iinc 3 1),
  (89, qo_goto 10),
  (92, qo_iload 2 1),
  (93, qo_ret (some .int) 1)]
noncomputable def S_X11_bestMove : qSem := qM 6 C_X11_bestMove
set_option maxRecDepth 20000 in
theorem K_X11_bestMove {X : qX} {l : Launch} : ∀ q ∈ C_X11_bestMove, qOk X l 7 cX11_bestMove 6 RX11 "bestMove" (some .int) q.1 q.2 := by
  unfold C_X11_bestMove
  refine qcons (qk_aload_n dX11_bestMove_0 rfl) ?_
  refine qcons (qk_callv (ins := fun i => .invokevirtual i) (qconsV (qrunV M_X11_yieldAsIs (by decide) (by decide) (by decide) rfl tw_618 tw_620 tw_12 tw_621 tw_78 ⟨by decide, by decide⟩ (by decide +kernel)) qnilV) dX11_bestMove_1) ?_
  refine qcons (qk_istore_n dX11_bestMove_4 rfl) ?_
  refine qcons (qk_bipush dX11_bestMove_5 (by decide) (by decide)) ?_
  refine qcons (qk_istore_n dX11_bestMove_7 rfl) ?_
  refine qcons (qk_iconst dX11_bestMove_8 (by decide)) ?_
  refine qcons (qk_istore_n dX11_bestMove_9 rfl) ?_
  refine qcons (qk_iload_n dX11_bestMove_10 rfl) ?_
  refine qcons (qk_aload_n dX11_bestMove_11 rfl) ?_
  refine qcons (qk_getR fd_X11_41 kd_11_0 dX11_bestMove_12) ?_
  refine qcons (qk_getI fd_X11_113 kd_8_10 dX11_bestMove_15) ?_
  refine qcons (qk_icge dX11_bestMove_18 (by decide)) ?_
  refine qcons (qk_iconst dX11_bestMove_21 (by decide)) ?_
  refine qcons (qk_istore dX11_bestMove_22) ?_
  refine qcons (qk_iload dX11_bestMove_24) ?_
  refine qcons (qk_iconst dX11_bestMove_26 (by decide)) ?_
  refine qcons (qk_icge dX11_bestMove_27 (by decide)) ?_
  refine qcons (qk_aload_n dX11_bestMove_30 rfl) ?_
  refine qcons (qk_getR fd_X11_48 kd_11_1 dX11_bestMove_31) ?_
  refine qcons (qk_aload_n dX11_bestMove_34 rfl) ?_
  refine qcons (qk_getR fd_X11_41 kd_11_0 dX11_bestMove_35) ?_
  refine qcons (qk_callv (ins := fun i => .invokevirtual i) (qconsV (qrunV M_X8_becomes (by decide) (by decide) (by decide) rfl tw_601 tw_602 tw_603 tw_604 tw_87 ⟨by decide, by decide⟩ (by decide +kernel)) qnilV) dX11_bestMove_38) ?_
  refine qcons (qk_aload_n dX11_bestMove_41 rfl) ?_
  refine qcons (qk_getR fd_X11_48 kd_11_1 dX11_bestMove_42) ?_
  refine qcons (qk_getR fd_X11_130 kd_8_5 dX11_bestMove_45) ?_
  refine qcons (qk_iload_n dX11_bestMove_48 rfl) ?_
  refine qcons (qk_iload dX11_bestMove_49) ?_
  refine qcons (qk_iastore dX11_bestMove_51) ?_
  refine qcons (qk_aload_n dX11_bestMove_52 rfl) ?_
  refine qcons (qk_getR fd_X11_48 kd_11_1 dX11_bestMove_53) ?_
  refine qcons (qk_bipush dX11_bestMove_56 (by decide) (by decide)) ?_
  refine qcons (qk_callv (ins := fun i => .invokevirtual i) (qconsV (qrunV M_X8_minutesGo (by decide) (by decide) (by decide) rfl tw_587 tw_588 tw_589 tw_590 tw_87 ⟨by decide, by decide⟩ (by decide +kernel)) qnilV) dX11_bestMove_58) ?_
  refine qcons (qk_istore dX11_bestMove_61) ?_
  refine qcons (qk_iload dX11_bestMove_63) ?_
  refine qcons (qk_iload_n dX11_bestMove_65 rfl) ?_
  refine qcons (qk_icle dX11_bestMove_66 (by decide)) ?_
  refine qcons (qk_iload dX11_bestMove_69) ?_
  refine qcons (qk_istore_n dX11_bestMove_71 rfl) ?_
  refine qcons (qk_bipush dX11_bestMove_72 (by decide) (by decide)) ?_
  refine qcons (qk_iload_n dX11_bestMove_74 rfl) ?_
  refine qcons (qk_imul dX11_bestMove_75) ?_
  refine qcons (qk_iload dX11_bestMove_76) ?_
  refine qcons (qk_iadd dX11_bestMove_78) ?_
  refine qcons (qk_istore_n dX11_bestMove_79 rfl) ?_
  refine qcons (qk_iinc dX11_bestMove_80) ?_
  refine qcons (qk_goto dX11_bestMove_83 (by decide)) ?_
  refine qcons (qk_iinc dX11_bestMove_86) ?_
  refine qcons (qk_goto dX11_bestMove_89 (by decide)) ?_
  refine qcons (qk_iload_n dX11_bestMove_92 rfl) ?_
  refine qcons (qk_ret dX11_bestMove_93 (Or.inr (Or.inl ⟨rfl, rfl⟩))) ?_
  exact qnil
theorem M_X11_bestMove {X : qX} {l : Launch} : qMet X l 7 yX11_bestMove cX11_bestMove 6 (some .int) S_X11_bestMove := qmet_of K_X11_bestMove (by decide) rfl rfl
theorem dX11_bestSwap_0 : decode cX11_bestSwap 0 = .ok (.aload_n 0, 1) := by decide +kernel
theorem dX11_bestSwap_1 : decode cX11_bestSwap 1 = .ok (.invokevirtual 210, 3) := by decide +kernel
theorem dX11_bestSwap_4 : decode cX11_bestSwap 4 = .ok (.istore_n 1, 1) := by decide +kernel
theorem dX11_bestSwap_5 : decode cX11_bestSwap 5 = .ok (.bipush (-5), 2) := by decide +kernel
theorem dX11_bestSwap_7 : decode cX11_bestSwap 7 = .ok (.istore_n 2, 1) := by decide +kernel
theorem dX11_bestSwap_8 : decode cX11_bestSwap 8 = .ok (.iconst 0, 1) := by decide +kernel
theorem dX11_bestSwap_9 : decode cX11_bestSwap 9 = .ok (.istore_n 3, 1) := by decide +kernel
theorem dX11_bestSwap_10 : decode cX11_bestSwap 10 = .ok (.iload_n 3, 1) := by decide +kernel
theorem dX11_bestSwap_11 : decode cX11_bestSwap 11 = .ok (.aload_n 0, 1) := by decide +kernel
theorem dX11_bestSwap_12 : decode cX11_bestSwap 12 = .ok (.getfield 41, 3) := by decide +kernel
theorem dX11_bestSwap_15 : decode cX11_bestSwap 15 = .ok (.getfield 113, 3) := by decide +kernel
theorem dX11_bestSwap_18 : decode cX11_bestSwap 18 = .ok (.if_icmp .ge 109, 3) := by decide +kernel
theorem dX11_bestSwap_21 : decode cX11_bestSwap 21 = .ok (.iload_n 3, 1) := by decide +kernel
theorem dX11_bestSwap_22 : decode cX11_bestSwap 22 = .ok (.iconst 1, 1) := by decide +kernel
theorem dX11_bestSwap_23 : decode cX11_bestSwap 23 = .ok (.iadd, 1) := by decide +kernel
theorem dX11_bestSwap_24 : decode cX11_bestSwap 24 = .ok (.istore 4, 2) := by decide +kernel
theorem dX11_bestSwap_26 : decode cX11_bestSwap 26 = .ok (.iload 4, 2) := by decide +kernel
theorem dX11_bestSwap_28 : decode cX11_bestSwap 28 = .ok (.aload_n 0, 1) := by decide +kernel
theorem dX11_bestSwap_29 : decode cX11_bestSwap 29 = .ok (.getfield 41, 3) := by decide +kernel
theorem dX11_bestSwap_32 : decode cX11_bestSwap 32 = .ok (.getfield 113, 3) := by decide +kernel
theorem dX11_bestSwap_35 : decode cX11_bestSwap 35 = .ok (.if_icmp .ge 86, 3) := by decide +kernel
theorem dX11_bestSwap_38 : decode cX11_bestSwap 38 = .ok (.aload_n 0, 1) := by decide +kernel
theorem dX11_bestSwap_39 : decode cX11_bestSwap 39 = .ok (.getfield 48, 3) := by decide +kernel
theorem dX11_bestSwap_42 : decode cX11_bestSwap 42 = .ok (.aload_n 0, 1) := by decide +kernel
theorem dX11_bestSwap_43 : decode cX11_bestSwap 43 = .ok (.getfield 41, 3) := by decide +kernel
theorem dX11_bestSwap_46 : decode cX11_bestSwap 46 = .ok (.invokevirtual 193, 3) := by decide +kernel
theorem dX11_bestSwap_49 : decode cX11_bestSwap 49 = .ok (.aload_n 0, 1) := by decide +kernel
theorem dX11_bestSwap_50 : decode cX11_bestSwap 50 = .ok (.getfield 48, 3) := by decide +kernel
theorem dX11_bestSwap_53 : decode cX11_bestSwap 53 = .ok (.getfield 130, 3) := by decide +kernel
theorem dX11_bestSwap_56 : decode cX11_bestSwap 56 = .ok (.iload_n 3, 1) := by decide +kernel
theorem dX11_bestSwap_57 : decode cX11_bestSwap 57 = .ok (.aload_n 0, 1) := by decide +kernel
theorem dX11_bestSwap_58 : decode cX11_bestSwap 58 = .ok (.getfield 41, 3) := by decide +kernel
theorem dX11_bestSwap_61 : decode cX11_bestSwap 61 = .ok (.getfield 130, 3) := by decide +kernel
theorem dX11_bestSwap_64 : decode cX11_bestSwap 64 = .ok (.iload 4, 2) := by decide +kernel
theorem dX11_bestSwap_66 : decode cX11_bestSwap 66 = .ok (.iaload, 1) := by decide +kernel
theorem dX11_bestSwap_67 : decode cX11_bestSwap 67 = .ok (.iastore, 1) := by decide +kernel
theorem dX11_bestSwap_68 : decode cX11_bestSwap 68 = .ok (.aload_n 0, 1) := by decide +kernel
theorem dX11_bestSwap_69 : decode cX11_bestSwap 69 = .ok (.getfield 48, 3) := by decide +kernel
theorem dX11_bestSwap_72 : decode cX11_bestSwap 72 = .ok (.getfield 130, 3) := by decide +kernel
theorem dX11_bestSwap_75 : decode cX11_bestSwap 75 = .ok (.iload 4, 2) := by decide +kernel
theorem dX11_bestSwap_77 : decode cX11_bestSwap 77 = .ok (.aload_n 0, 1) := by decide +kernel
theorem dX11_bestSwap_78 : decode cX11_bestSwap 78 = .ok (.getfield 41, 3) := by decide +kernel
theorem dX11_bestSwap_81 : decode cX11_bestSwap 81 = .ok (.getfield 130, 3) := by decide +kernel
theorem dX11_bestSwap_84 : decode cX11_bestSwap 84 = .ok (.iload_n 3, 1) := by decide +kernel
theorem dX11_bestSwap_85 : decode cX11_bestSwap 85 = .ok (.iaload, 1) := by decide +kernel
theorem dX11_bestSwap_86 : decode cX11_bestSwap 86 = .ok (.iastore, 1) := by decide +kernel
theorem dX11_bestSwap_87 : decode cX11_bestSwap 87 = .ok (.aload_n 0, 1) := by decide +kernel
theorem dX11_bestSwap_88 : decode cX11_bestSwap 88 = .ok (.getfield 48, 3) := by decide +kernel
theorem dX11_bestSwap_91 : decode cX11_bestSwap 91 = .ok (.bipush 30, 2) := by decide +kernel
theorem dX11_bestSwap_93 : decode cX11_bestSwap 93 = .ok (.invokevirtual 190, 3) := by decide +kernel
theorem dX11_bestSwap_96 : decode cX11_bestSwap 96 = .ok (.istore 5, 2) := by decide +kernel
theorem dX11_bestSwap_98 : decode cX11_bestSwap 98 = .ok (.iload 5, 2) := by decide +kernel
theorem dX11_bestSwap_100 : decode cX11_bestSwap 100 = .ok (.iload_n 1, 1) := by decide +kernel
theorem dX11_bestSwap_101 : decode cX11_bestSwap 101 = .ok (.if_icmp .le 14, 3) := by decide +kernel
theorem dX11_bestSwap_104 : decode cX11_bestSwap 104 = .ok (.iload 5, 2) := by decide +kernel
theorem dX11_bestSwap_106 : decode cX11_bestSwap 106 = .ok (.istore_n 1, 1) := by decide +kernel
theorem dX11_bestSwap_107 : decode cX11_bestSwap 107 = .ok (.bipush 10, 2) := by decide +kernel
theorem dX11_bestSwap_109 : decode cX11_bestSwap 109 = .ok (.iload_n 3, 1) := by decide +kernel
theorem dX11_bestSwap_110 : decode cX11_bestSwap 110 = .ok (.imul, 1) := by decide +kernel
theorem dX11_bestSwap_111 : decode cX11_bestSwap 111 = .ok (.iload 4, 2) := by decide +kernel
theorem dX11_bestSwap_113 : decode cX11_bestSwap 113 = .ok (.iadd, 1) := by decide +kernel
theorem dX11_bestSwap_114 : decode cX11_bestSwap 114 = .ok (.istore_n 2, 1) := by decide +kernel
theorem dX11_bestSwap_115 : decode cX11_bestSwap 115 = .ok (.iinc 4 1, 3) := by decide +kernel
theorem dX11_bestSwap_118 : decode cX11_bestSwap 118 = .ok (.goto (-92), 3) := by decide +kernel
theorem dX11_bestSwap_121 : decode cX11_bestSwap 121 = .ok (.iinc 3 1, 3) := by decide +kernel
theorem dX11_bestSwap_124 : decode cX11_bestSwap 124 = .ok (.goto (-114), 3) := by decide +kernel
theorem dX11_bestSwap_127 : decode cX11_bestSwap 127 = .ok (.iload_n 2, 1) := by decide +kernel
theorem dX11_bestSwap_128 : decode cX11_bestSwap 128 = .ok (.ireturn, 1) := by decide +kernel
noncomputable def C_X11_bestSwap : List (Nat × qOp) := [(0, qo_aload 0 1),
  (1, qo_callv [(11, S_X11_yieldAsIs)] 0),
  (4, qo_istore 1 1),
  (5, qo_ci (-5) 2),
  (7, qo_istore 2 1),
  (8, qo_ci 0 1),
  (9, qo_istore 3 1),
  (10, qo_iload 3 1),
  (11, qo_aload 0 1),
  (12, qo_getR 11 0),
  (15, qo_getI 8 10),
  (18, qo_icge 127),
  (21, qo_iload 3 1),
  (22, qo_ci 1 1),
  (23, qo_iadd),
  (24, qo_istore 4 2),
  (26, qo_iload 4 2),
  (28, qo_aload 0 1),
  (29, qo_getR 11 0),
  (32, qo_getI 8 10),
  (35, qo_icge 121),
  (38, qo_aload 0 1),
  (39, qo_getR 11 1),
  (42, qo_aload 0 1),
  (43, qo_getR 11 0),
  (46, qo_callv [(8, S_X8_becomes)] 1),
  (49, qo_aload 0 1),
  (50, qo_getR 11 1),
  (53, qo_getR 8 5),
  (56, qo_iload 3 1),
  (57, qo_aload 0 1),
  (58, qo_getR 11 0),
  (61, qo_getR 8 5),
  (64, qo_iload 4 2),
  (66, qo_iaload),
  (67, qo_iastore),
  (68, qo_aload 0 1),
  (69, qo_getR 11 1),
  (72, qo_getR 8 5),
  (75, qo_iload 4 2),
  (77, qo_aload 0 1),
  (78, qo_getR 11 0),
  (81, qo_getR 8 5),
  (84, qo_iload 3 1),
  (85, qo_iaload),
  (86, qo_iastore),
  (87, qo_aload 0 1),
  (88, qo_getR 11 1),
  (91, qo_ci 30 2),
  (93, qo_callv [(8, S_X8_minutesGo)] 1),
  (96, qo_istore 5 2),
  (98, qo_iload 5 2),
  (100, qo_iload 1 1),
  (101, qo_icle 115),
  (104, qo_iload 5 2),
  (106, qo_istore 1 1),
  (107, qo_ci 10 2),
  (109, qo_iload 3 1),
  (110, qo_imul),
  (111, qo_iload 4 2),
  (113, qo_iadd),
  (114, qo_istore 2 1),
  (115, qo_iinc 4 1),
  (118, qo_goto 26),
  (121, qo_iinc 3 1),
  (124, qo_goto 10),
  (127, qo_iload 2 1),
  (128, qo_ret (some .int) 1)]
noncomputable def S_X11_bestSwap : qSem := qM 6 C_X11_bestSwap
set_option maxRecDepth 20000 in
theorem K_X11_bestSwap {X : qX} {l : Launch} : ∀ q ∈ C_X11_bestSwap, qOk X l 7 cX11_bestSwap 6 RX11 "bestSwap" (some .int) q.1 q.2 := by
  unfold C_X11_bestSwap
  refine qcons (qk_aload_n dX11_bestSwap_0 rfl) ?_
  refine qcons (qk_callv (ins := fun i => .invokevirtual i) (qconsV (qrunV M_X11_yieldAsIs (by decide) (by decide) (by decide) rfl tw_618 tw_620 tw_12 tw_621 tw_78 ⟨by decide, by decide⟩ (by decide +kernel)) qnilV) dX11_bestSwap_1) ?_
  refine qcons (qk_istore_n dX11_bestSwap_4 rfl) ?_
  refine qcons (qk_bipush dX11_bestSwap_5 (by decide) (by decide)) ?_
  refine qcons (qk_istore_n dX11_bestSwap_7 rfl) ?_
  refine qcons (qk_iconst dX11_bestSwap_8 (by decide)) ?_
  refine qcons (qk_istore_n dX11_bestSwap_9 rfl) ?_
  refine qcons (qk_iload_n dX11_bestSwap_10 rfl) ?_
  refine qcons (qk_aload_n dX11_bestSwap_11 rfl) ?_
  refine qcons (qk_getR fd_X11_41 kd_11_0 dX11_bestSwap_12) ?_
  refine qcons (qk_getI fd_X11_113 kd_8_10 dX11_bestSwap_15) ?_
  refine qcons (qk_icge dX11_bestSwap_18 (by decide)) ?_
  refine qcons (qk_iload_n dX11_bestSwap_21 rfl) ?_
  refine qcons (qk_iconst dX11_bestSwap_22 (by decide)) ?_
  refine qcons (qk_iadd dX11_bestSwap_23) ?_
  refine qcons (qk_istore dX11_bestSwap_24) ?_
  refine qcons (qk_iload dX11_bestSwap_26) ?_
  refine qcons (qk_aload_n dX11_bestSwap_28 rfl) ?_
  refine qcons (qk_getR fd_X11_41 kd_11_0 dX11_bestSwap_29) ?_
  refine qcons (qk_getI fd_X11_113 kd_8_10 dX11_bestSwap_32) ?_
  refine qcons (qk_icge dX11_bestSwap_35 (by decide)) ?_
  refine qcons (qk_aload_n dX11_bestSwap_38 rfl) ?_
  refine qcons (qk_getR fd_X11_48 kd_11_1 dX11_bestSwap_39) ?_
  refine qcons (qk_aload_n dX11_bestSwap_42 rfl) ?_
  refine qcons (qk_getR fd_X11_41 kd_11_0 dX11_bestSwap_43) ?_
  refine qcons (qk_callv (ins := fun i => .invokevirtual i) (qconsV (qrunV M_X8_becomes (by decide) (by decide) (by decide) rfl tw_601 tw_602 tw_603 tw_604 tw_87 ⟨by decide, by decide⟩ (by decide +kernel)) qnilV) dX11_bestSwap_46) ?_
  refine qcons (qk_aload_n dX11_bestSwap_49 rfl) ?_
  refine qcons (qk_getR fd_X11_48 kd_11_1 dX11_bestSwap_50) ?_
  refine qcons (qk_getR fd_X11_130 kd_8_5 dX11_bestSwap_53) ?_
  refine qcons (qk_iload_n dX11_bestSwap_56 rfl) ?_
  refine qcons (qk_aload_n dX11_bestSwap_57 rfl) ?_
  refine qcons (qk_getR fd_X11_41 kd_11_0 dX11_bestSwap_58) ?_
  refine qcons (qk_getR fd_X11_130 kd_8_5 dX11_bestSwap_61) ?_
  refine qcons (qk_iload dX11_bestSwap_64) ?_
  refine qcons (qk_iaload dX11_bestSwap_66) ?_
  refine qcons (qk_iastore dX11_bestSwap_67) ?_
  refine qcons (qk_aload_n dX11_bestSwap_68 rfl) ?_
  refine qcons (qk_getR fd_X11_48 kd_11_1 dX11_bestSwap_69) ?_
  refine qcons (qk_getR fd_X11_130 kd_8_5 dX11_bestSwap_72) ?_
  refine qcons (qk_iload dX11_bestSwap_75) ?_
  refine qcons (qk_aload_n dX11_bestSwap_77 rfl) ?_
  refine qcons (qk_getR fd_X11_41 kd_11_0 dX11_bestSwap_78) ?_
  refine qcons (qk_getR fd_X11_130 kd_8_5 dX11_bestSwap_81) ?_
  refine qcons (qk_iload_n dX11_bestSwap_84 rfl) ?_
  refine qcons (qk_iaload dX11_bestSwap_85) ?_
  refine qcons (qk_iastore dX11_bestSwap_86) ?_
  refine qcons (qk_aload_n dX11_bestSwap_87 rfl) ?_
  refine qcons (qk_getR fd_X11_48 kd_11_1 dX11_bestSwap_88) ?_
  refine qcons (qk_bipush dX11_bestSwap_91 (by decide) (by decide)) ?_
  refine qcons (qk_callv (ins := fun i => .invokevirtual i) (qconsV (qrunV M_X8_minutesGo (by decide) (by decide) (by decide) rfl tw_587 tw_588 tw_589 tw_590 tw_87 ⟨by decide, by decide⟩ (by decide +kernel)) qnilV) dX11_bestSwap_93) ?_
  refine qcons (qk_istore dX11_bestSwap_96) ?_
  refine qcons (qk_iload dX11_bestSwap_98) ?_
  refine qcons (qk_iload_n dX11_bestSwap_100 rfl) ?_
  refine qcons (qk_icle dX11_bestSwap_101 (by decide)) ?_
  refine qcons (qk_iload dX11_bestSwap_104) ?_
  refine qcons (qk_istore_n dX11_bestSwap_106 rfl) ?_
  refine qcons (qk_bipush dX11_bestSwap_107 (by decide) (by decide)) ?_
  refine qcons (qk_iload_n dX11_bestSwap_109 rfl) ?_
  refine qcons (qk_imul dX11_bestSwap_110) ?_
  refine qcons (qk_iload dX11_bestSwap_111) ?_
  refine qcons (qk_iadd dX11_bestSwap_113) ?_
  refine qcons (qk_istore_n dX11_bestSwap_114 rfl) ?_
  refine qcons (qk_iinc dX11_bestSwap_115) ?_
  refine qcons (qk_goto dX11_bestSwap_118 (by decide)) ?_
  refine qcons (qk_iinc dX11_bestSwap_121) ?_
  refine qcons (qk_goto dX11_bestSwap_124 (by decide)) ?_
  refine qcons (qk_iload_n dX11_bestSwap_127 rfl) ?_
  refine qcons (qk_ret dX11_bestSwap_128 (Or.inr (Or.inl ⟨rfl, rfl⟩))) ?_
  exact qnil
theorem M_X11_bestSwap {X : qX} {l : Launch} : qMet X l 7 yX11_bestSwap cX11_bestSwap 6 (some .int) S_X11_bestSwap := qmet_of K_X11_bestSwap (by decide) rfl rfl
theorem dX11_enoughRoom_0 : decode cX11_enoughRoom 0 = .ok (.aload_n 0, 1) := by decide +kernel
theorem dX11_enoughRoom_1 : decode cX11_enoughRoom 1 = .ok (.invokevirtual 210, 3) := by decide +kernel
theorem dX11_enoughRoom_4 : decode cX11_enoughRoom 4 = .ok (.istore_n 1, 1) := by decide +kernel
theorem dX11_enoughRoom_5 : decode cX11_enoughRoom 5 = .ok (.iconst 1, 1) := by decide +kernel
theorem dX11_enoughRoom_6 : decode cX11_enoughRoom 6 = .ok (.istore_n 2, 1) := by decide +kernel
theorem dX11_enoughRoom_7 : decode cX11_enoughRoom 7 = .ok (.iload_n 2, 1) := by decide +kernel
theorem dX11_enoughRoom_8 : decode cX11_enoughRoom 8 = .ok (.bipush 20, 2) := by decide +kernel
theorem dX11_enoughRoom_10 : decode cX11_enoughRoom 10 = .ok (.if_icmp .gt 43, 3) := by decide +kernel
theorem dX11_enoughRoom_13 : decode cX11_enoughRoom 13 = .ok (.aload_n 0, 1) := by decide +kernel
theorem dX11_enoughRoom_14 : decode cX11_enoughRoom 14 = .ok (.getfield 48, 3) := by decide +kernel
theorem dX11_enoughRoom_17 : decode cX11_enoughRoom 17 = .ok (.aload_n 0, 1) := by decide +kernel
theorem dX11_enoughRoom_18 : decode cX11_enoughRoom 18 = .ok (.getfield 41, 3) := by decide +kernel
theorem dX11_enoughRoom_21 : decode cX11_enoughRoom 21 = .ok (.invokevirtual 193, 3) := by decide +kernel
theorem dX11_enoughRoom_24 : decode cX11_enoughRoom 24 = .ok (.aload_n 0, 1) := by decide +kernel
theorem dX11_enoughRoom_25 : decode cX11_enoughRoom 25 = .ok (.getfield 48, 3) := by decide +kernel
theorem dX11_enoughRoom_28 : decode cX11_enoughRoom 28 = .ok (.iload_n 2, 1) := by decide +kernel
theorem dX11_enoughRoom_29 : decode cX11_enoughRoom 29 = .ok (.putfield 184, 3) := by decide +kernel
theorem dX11_enoughRoom_32 : decode cX11_enoughRoom 32 = .ok (.aload_n 0, 1) := by decide +kernel
theorem dX11_enoughRoom_33 : decode cX11_enoughRoom 33 = .ok (.getfield 48, 3) := by decide +kernel
theorem dX11_enoughRoom_36 : decode cX11_enoughRoom 36 = .ok (.bipush 30, 2) := by decide +kernel
theorem dX11_enoughRoom_38 : decode cX11_enoughRoom 38 = .ok (.invokevirtual 190, 3) := by decide +kernel
theorem dX11_enoughRoom_41 : decode cX11_enoughRoom 41 = .ok (.iload_n 1, 1) := by decide +kernel
theorem dX11_enoughRoom_42 : decode cX11_enoughRoom 42 = .ok (.if_icmp .lt 5, 3) := by decide +kernel
theorem dX11_enoughRoom_45 : decode cX11_enoughRoom 45 = .ok (.iload_n 2, 1) := by decide +kernel
theorem dX11_enoughRoom_46 : decode cX11_enoughRoom 46 = .ok (.ireturn, 1) := by decide +kernel
theorem dX11_enoughRoom_47 : decode cX11_enoughRoom 47 = .ok (.iinc 2 1, 3) := by decide +kernel
theorem dX11_enoughRoom_50 : decode cX11_enoughRoom 50 = .ok (.goto (-43), 3) := by decide +kernel
theorem dX11_enoughRoom_53 : decode cX11_enoughRoom 53 = .ok (.bipush (-5), 2) := by decide +kernel
theorem dX11_enoughRoom_55 : decode cX11_enoughRoom 55 = .ok (.ireturn, 1) := by decide +kernel
noncomputable def C_X11_enoughRoom : List (Nat × qOp) := [(0, qo_aload 0 1),
  (1, qo_callv [(11, S_X11_yieldAsIs)] 0),
  (4, qo_istore 1 1),
  (5, qo_ci 1 1),
  (6, qo_istore 2 1),
  (7, qo_iload 2 1),
  (8, qo_ci 20 2),
  (10, qo_icgt 53),
  (13, qo_aload 0 1),
  (14, qo_getR 11 1),
  (17, qo_aload 0 1),
  (18, qo_getR 11 0),
  (21, qo_callv [(8, S_X8_becomes)] 1),
  (24, qo_aload 0 1),
  (25, qo_getR 11 1),
  (28, qo_iload 2 1),
  (29, qo_putI 8 12),
  (32, qo_aload 0 1),
  (33, qo_getR 11 1),
  (36, qo_ci 30 2),
  (38, qo_callv [(8, S_X8_minutesGo)] 1),
  (41, qo_iload 1 1),
  (42, qo_iclt 47),
  (45, qo_iload 2 1),
  (46, qo_ret (some .int) 1),
  (47, qo_iinc 2 1),
  (50, qo_goto 7),
  (53, qo_ci (-5) 2),
  (55, qo_ret (some .int) 1)]
noncomputable def S_X11_enoughRoom : qSem := qM 3 C_X11_enoughRoom
set_option maxRecDepth 20000 in
theorem K_X11_enoughRoom {X : qX} {l : Launch} : ∀ q ∈ C_X11_enoughRoom, qOk X l 7 cX11_enoughRoom 3 RX11 "enoughRoom" (some .int) q.1 q.2 := by
  unfold C_X11_enoughRoom
  refine qcons (qk_aload_n dX11_enoughRoom_0 rfl) ?_
  refine qcons (qk_callv (ins := fun i => .invokevirtual i) (qconsV (qrunV M_X11_yieldAsIs (by decide) (by decide) (by decide) rfl tw_618 tw_620 tw_12 tw_621 tw_78 ⟨by decide, by decide⟩ (by decide +kernel)) qnilV) dX11_enoughRoom_1) ?_
  refine qcons (qk_istore_n dX11_enoughRoom_4 rfl) ?_
  refine qcons (qk_iconst dX11_enoughRoom_5 (by decide)) ?_
  refine qcons (qk_istore_n dX11_enoughRoom_6 rfl) ?_
  refine qcons (qk_iload_n dX11_enoughRoom_7 rfl) ?_
  refine qcons (qk_bipush dX11_enoughRoom_8 (by decide) (by decide)) ?_
  refine qcons (qk_icgt dX11_enoughRoom_10 (by decide)) ?_
  refine qcons (qk_aload_n dX11_enoughRoom_13 rfl) ?_
  refine qcons (qk_getR fd_X11_48 kd_11_1 dX11_enoughRoom_14) ?_
  refine qcons (qk_aload_n dX11_enoughRoom_17 rfl) ?_
  refine qcons (qk_getR fd_X11_41 kd_11_0 dX11_enoughRoom_18) ?_
  refine qcons (qk_callv (ins := fun i => .invokevirtual i) (qconsV (qrunV M_X8_becomes (by decide) (by decide) (by decide) rfl tw_601 tw_602 tw_603 tw_604 tw_87 ⟨by decide, by decide⟩ (by decide +kernel)) qnilV) dX11_enoughRoom_21) ?_
  refine qcons (qk_aload_n dX11_enoughRoom_24 rfl) ?_
  refine qcons (qk_getR fd_X11_48 kd_11_1 dX11_enoughRoom_25) ?_
  refine qcons (qk_iload_n dX11_enoughRoom_28 rfl) ?_
  refine qcons (qk_putI (ty := .int) fd_X11_184 tyX8_ok nmX8 (Or.inl rfl) kd_8_12 (tyX8_ok 12 (by decide)) dX11_enoughRoom_29) ?_
  refine qcons (qk_aload_n dX11_enoughRoom_32 rfl) ?_
  refine qcons (qk_getR fd_X11_48 kd_11_1 dX11_enoughRoom_33) ?_
  refine qcons (qk_bipush dX11_enoughRoom_36 (by decide) (by decide)) ?_
  refine qcons (qk_callv (ins := fun i => .invokevirtual i) (qconsV (qrunV M_X8_minutesGo (by decide) (by decide) (by decide) rfl tw_587 tw_588 tw_589 tw_590 tw_87 ⟨by decide, by decide⟩ (by decide +kernel)) qnilV) dX11_enoughRoom_38) ?_
  refine qcons (qk_iload_n dX11_enoughRoom_41 rfl) ?_
  refine qcons (qk_iclt dX11_enoughRoom_42 (by decide)) ?_
  refine qcons (qk_iload_n dX11_enoughRoom_45 rfl) ?_
  refine qcons (qk_ret dX11_enoughRoom_46 (Or.inr (Or.inl ⟨rfl, rfl⟩))) ?_
  refine qcons (qk_iinc dX11_enoughRoom_47) ?_
  refine qcons (qk_goto dX11_enoughRoom_50 (by decide)) ?_
  refine qcons (qk_bipush dX11_enoughRoom_53 (by decide) (by decide)) ?_
  refine qcons (qk_ret dX11_enoughRoom_55 (Or.inr (Or.inl ⟨rfl, rfl⟩))) ?_
  exact qnil
theorem M_X11_enoughRoom {X : qX} {l : Launch} : qMet X l 7 yX11_enoughRoom cX11_enoughRoom 3 (some .int) S_X11_enoughRoom := qmet_of K_X11_enoughRoom (by decide) rfl rfl
theorem dX11_behindWithout_0 : decode cX11_behindWithout 0 = .ok (.aload_n 0, 1) := by decide +kernel
theorem dX11_behindWithout_1 : decode cX11_behindWithout 1 = .ok (.getfield 48, 3) := by decide +kernel
theorem dX11_behindWithout_4 : decode cX11_behindWithout 4 = .ok (.aload_n 0, 1) := by decide +kernel
theorem dX11_behindWithout_5 : decode cX11_behindWithout 5 = .ok (.getfield 41, 3) := by decide +kernel
theorem dX11_behindWithout_8 : decode cX11_behindWithout 8 = .ok (.invokevirtual 193, 3) := by decide +kernel
theorem dX11_behindWithout_11 : decode cX11_behindWithout 11 = .ok (.aload_n 0, 1) := by decide +kernel
theorem dX11_behindWithout_12 : decode cX11_behindWithout 12 = .ok (.getfield 48, 3) := by decide +kernel
theorem dX11_behindWithout_15 : decode cX11_behindWithout 15 = .ok (.getfield 139, 3) := by decide +kernel
theorem dX11_behindWithout_18 : decode cX11_behindWithout 18 = .ok (.iload_n 1, 1) := by decide +kernel
theorem dX11_behindWithout_19 : decode cX11_behindWithout 19 = .ok (.iconst 1, 1) := by decide +kernel
theorem dX11_behindWithout_20 : decode cX11_behindWithout 20 = .ok (.bastore, 1) := by decide +kernel
theorem dX11_behindWithout_21 : decode cX11_behindWithout 21 = .ok (.aload_n 0, 1) := by decide +kernel
theorem dX11_behindWithout_22 : decode cX11_behindWithout 22 = .ok (.getfield 48, 3) := by decide +kernel
theorem dX11_behindWithout_25 : decode cX11_behindWithout 25 = .ok (.iload_n 2, 1) := by decide +kernel
theorem dX11_behindWithout_26 : decode cX11_behindWithout 26 = .ok (.invokevirtual 190, 3) := by decide +kernel
theorem dX11_behindWithout_29 : decode cX11_behindWithout 29 = .ok (.ireturn, 1) := by decide +kernel
noncomputable def C_X11_behindWithout : List (Nat × qOp) := [(0, qo_aload 0 1),
  (1, qo_getR 11 1),
  (4, qo_aload 0 1),
  (5, qo_getR 11 0),
  (8, qo_callv [(8, S_X8_becomes)] 1),
  (11, qo_aload 0 1),
  (12, qo_getR 11 1),
  (15, qo_getR 8 9),
  (18, qo_iload 1 1),
  (19, qo_ci 1 1),
  (20, qo_zastore),
  (21, qo_aload 0 1),
  (22, qo_getR 11 1),
  (25, qo_iload 2 1),
  (26, qo_callv [(8, S_X8_minutesGo)] 1),
  (29, qo_ret (some .int) 1)]
noncomputable def S_X11_behindWithout : qSem := qM 3 C_X11_behindWithout
set_option maxRecDepth 20000 in
theorem K_X11_behindWithout {X : qX} {l : Launch} : ∀ q ∈ C_X11_behindWithout, qOk X l 6 cX11_behindWithout 3 RX11 "behindWithout" (some .int) q.1 q.2 := by
  unfold C_X11_behindWithout
  refine qcons (qk_aload_n dX11_behindWithout_0 rfl) ?_
  refine qcons (qk_getR fd_X11_48 kd_11_1 dX11_behindWithout_1) ?_
  refine qcons (qk_aload_n dX11_behindWithout_4 rfl) ?_
  refine qcons (qk_getR fd_X11_41 kd_11_0 dX11_behindWithout_5) ?_
  refine qcons (qk_callv (ins := fun i => .invokevirtual i) (qconsV (qrunV M_X8_becomes (by decide) (by decide) (by decide) rfl tw_601 tw_602 tw_603 tw_604 tw_87 ⟨by decide, by decide⟩ (by decide +kernel)) qnilV) dX11_behindWithout_8) ?_
  refine qcons (qk_aload_n dX11_behindWithout_11 rfl) ?_
  refine qcons (qk_getR fd_X11_48 kd_11_1 dX11_behindWithout_12) ?_
  refine qcons (qk_getR fd_X11_139 kd_8_9 dX11_behindWithout_15) ?_
  refine qcons (qk_iload_n dX11_behindWithout_18 rfl) ?_
  refine qcons (qk_iconst dX11_behindWithout_19 (by decide)) ?_
  refine qcons (qk_zastore dX11_behindWithout_20) ?_
  refine qcons (qk_aload_n dX11_behindWithout_21 rfl) ?_
  refine qcons (qk_getR fd_X11_48 kd_11_1 dX11_behindWithout_22) ?_
  refine qcons (qk_iload_n dX11_behindWithout_25 rfl) ?_
  refine qcons (qk_callv (ins := fun i => .invokevirtual i) (qconsV (qrunV M_X8_minutesGo (by decide) (by decide) (by decide) rfl tw_587 tw_588 tw_589 tw_590 tw_87 ⟨by decide, by decide⟩ (by decide +kernel)) qnilV) dX11_behindWithout_26) ?_
  refine qcons (qk_ret dX11_behindWithout_29 (Or.inr (Or.inl ⟨rfl, rfl⟩))) ?_
  exact qnil
theorem M_X11_behindWithout {X : qX} {l : Launch} : qMet X l 6 yX11_behindWithout cX11_behindWithout 3 (some .int) S_X11_behindWithout := qmet_of K_X11_behindWithout (by decide) rfl rfl
theorem dX11_mostMissed_0 : decode cX11_mostMissed 0 = .ok (.ldc 47, 2) := by decide +kernel
theorem dX11_mostMissed_2 : decode cX11_mostMissed 2 = .ok (.istore_n 1, 1) := by decide +kernel
theorem dX11_mostMissed_3 : decode cX11_mostMissed 3 = .ok (.bipush (-5), 2) := by decide +kernel
theorem dX11_mostMissed_5 : decode cX11_mostMissed 5 = .ok (.istore_n 2, 1) := by decide +kernel
theorem dX11_mostMissed_6 : decode cX11_mostMissed 6 = .ok (.iconst 0, 1) := by decide +kernel
theorem dX11_mostMissed_7 : decode cX11_mostMissed 7 = .ok (.istore_n 3, 1) := by decide +kernel
theorem dX11_mostMissed_8 : decode cX11_mostMissed 8 = .ok (.iload_n 3, 1) := by decide +kernel
theorem dX11_mostMissed_9 : decode cX11_mostMissed 9 = .ok (.aload_n 0, 1) := by decide +kernel
theorem dX11_mostMissed_10 : decode cX11_mostMissed 10 = .ok (.getfield 41, 3) := by decide +kernel
theorem dX11_mostMissed_13 : decode cX11_mostMissed 13 = .ok (.getfield 113, 3) := by decide +kernel
theorem dX11_mostMissed_16 : decode cX11_mostMissed 16 = .ok (.if_icmp .ge 41, 3) := by decide +kernel
theorem dX11_mostMissed_19 : decode cX11_mostMissed 19 = .ok (.aload_n 0, 1) := by decide +kernel
theorem dX11_mostMissed_20 : decode cX11_mostMissed 20 = .ok (.getfield 41, 3) := by decide +kernel
theorem dX11_mostMissed_23 : decode cX11_mostMissed 23 = .ok (.getfield 139, 3) := by decide +kernel
theorem dX11_mostMissed_26 : decode cX11_mostMissed 26 = .ok (.iload_n 3, 1) := by decide +kernel
theorem dX11_mostMissed_27 : decode cX11_mostMissed 27 = .ok (.baload, 1) := by decide +kernel
theorem dX11_mostMissed_28 : decode cX11_mostMissed 28 = .ok (.ifCond .ne 23, 3) := by decide +kernel
theorem dX11_mostMissed_31 : decode cX11_mostMissed 31 = .ok (.aload_n 0, 1) := by decide +kernel
theorem dX11_mostMissed_32 : decode cX11_mostMissed 32 = .ok (.iload_n 3, 1) := by decide +kernel
theorem dX11_mostMissed_33 : decode cX11_mostMissed 33 = .ok (.bipush 30, 2) := by decide +kernel
theorem dX11_mostMissed_35 : decode cX11_mostMissed 35 = .ok (.invokevirtual 213, 3) := by decide +kernel
theorem dX11_mostMissed_38 : decode cX11_mostMissed 38 = .ok (.istore 4, 2) := by decide +kernel
theorem dX11_mostMissed_40 : decode cX11_mostMissed 40 = .ok (.iload 4, 2) := by decide +kernel
theorem dX11_mostMissed_42 : decode cX11_mostMissed 42 = .ok (.iload_n 1, 1) := by decide +kernel
theorem dX11_mostMissed_43 : decode cX11_mostMissed 43 = .ok (.if_icmp .ge 8, 3) := by decide +kernel
theorem dX11_mostMissed_46 : decode cX11_mostMissed 46 = .ok (.iload 4, 2) := by decide +kernel
theorem dX11_mostMissed_48 : decode cX11_mostMissed 48 = .ok (.istore_n 1, 1) := by decide +kernel
theorem dX11_mostMissed_49 : decode cX11_mostMissed 49 = .ok (.iload_n 3, 1) := by decide +kernel
theorem dX11_mostMissed_50 : decode cX11_mostMissed 50 = .ok (.istore_n 2, 1) := by decide +kernel
theorem dX11_mostMissed_51 : decode cX11_mostMissed 51 = .ok (.iinc 3 1, 3) := by decide +kernel
theorem dX11_mostMissed_54 : decode cX11_mostMissed 54 = .ok (.goto (-46), 3) := by decide +kernel
theorem dX11_mostMissed_57 : decode cX11_mostMissed 57 = .ok (.iload_n 2, 1) := by decide +kernel
theorem dX11_mostMissed_58 : decode cX11_mostMissed 58 = .ok (.ireturn, 1) := by decide +kernel
noncomputable def C_X11_mostMissed : List (Nat × qOp) := [(0, qo_ci 2147483647 2),
  (2, qo_istore 1 1),
  (3, qo_ci (-5) 2),
  (5, qo_istore 2 1),
  (6, qo_ci 0 1),
  (7, qo_istore 3 1),
  (8, qo_iload 3 1),
  (9, qo_aload 0 1),
  (10, qo_getR 11 0),
  (13, qo_getI 8 10),
  (16, qo_icge 57),
  (19, qo_aload 0 1),
  (20, qo_getR 11 0),
  (23, qo_getR 8 9),
  (26, qo_iload 3 1),
  (27, qo_zaload),
  (28, qo_ifne 51),
  (31, qo_aload 0 1),
  (32, qo_iload 3 1),
  (33, qo_ci 30 2),
  (35, qo_callv [(11, S_X11_behindWithout)] 2),
  (38, qo_istore 4 2),
  (40, qo_iload 4 2),
  (42, qo_iload 1 1),
  (43, qo_icge 51),
  (46, qo_iload 4 2),
  (48, qo_istore 1 1),
  (49, qo_iload 3 1),
  (50, qo_istore 2 1),
  (51, qo_iinc 3 1),
  (54, qo_goto 8),
  (57, qo_iload 2 1),
  (58, qo_ret (some .int) 1)]
noncomputable def S_X11_mostMissed : qSem := qM 5 C_X11_mostMissed
set_option maxRecDepth 20000 in
theorem K_X11_mostMissed {X : qX} {l : Launch} : ∀ q ∈ C_X11_mostMissed, qOk X l 7 cX11_mostMissed 5 RX11 "mostMissed" (some .int) q.1 q.2 := by
  unfold C_X11_mostMissed
  refine qcons (qk_ldc dX11_mostMissed_0 tw_268 (by decide)) ?_
  refine qcons (qk_istore_n dX11_mostMissed_2 rfl) ?_
  refine qcons (qk_bipush dX11_mostMissed_3 (by decide) (by decide)) ?_
  refine qcons (qk_istore_n dX11_mostMissed_5 rfl) ?_
  refine qcons (qk_iconst dX11_mostMissed_6 (by decide)) ?_
  refine qcons (qk_istore_n dX11_mostMissed_7 rfl) ?_
  refine qcons (qk_iload_n dX11_mostMissed_8 rfl) ?_
  refine qcons (qk_aload_n dX11_mostMissed_9 rfl) ?_
  refine qcons (qk_getR fd_X11_41 kd_11_0 dX11_mostMissed_10) ?_
  refine qcons (qk_getI fd_X11_113 kd_8_10 dX11_mostMissed_13) ?_
  refine qcons (qk_icge dX11_mostMissed_16 (by decide)) ?_
  refine qcons (qk_aload_n dX11_mostMissed_19 rfl) ?_
  refine qcons (qk_getR fd_X11_41 kd_11_0 dX11_mostMissed_20) ?_
  refine qcons (qk_getR fd_X11_139 kd_8_9 dX11_mostMissed_23) ?_
  refine qcons (qk_iload_n dX11_mostMissed_26 rfl) ?_
  refine qcons (qk_zaload dX11_mostMissed_27) ?_
  refine qcons (qk_ifne dX11_mostMissed_28 (by decide)) ?_
  refine qcons (qk_aload_n dX11_mostMissed_31 rfl) ?_
  refine qcons (qk_iload_n dX11_mostMissed_32 rfl) ?_
  refine qcons (qk_bipush dX11_mostMissed_33 (by decide) (by decide)) ?_
  refine qcons (qk_callv (ins := fun i => .invokevirtual i) (qconsV (qrunV M_X11_behindWithout (by decide) (by decide) (by decide) rfl tw_634 tw_636 tw_16 tw_637 tw_78 ⟨by decide, by decide⟩ (by decide +kernel)) qnilV) dX11_mostMissed_35) ?_
  refine qcons (qk_istore dX11_mostMissed_38) ?_
  refine qcons (qk_iload dX11_mostMissed_40) ?_
  refine qcons (qk_iload_n dX11_mostMissed_42 rfl) ?_
  refine qcons (qk_icge dX11_mostMissed_43 (by decide)) ?_
  refine qcons (qk_iload dX11_mostMissed_46) ?_
  refine qcons (qk_istore_n dX11_mostMissed_48 rfl) ?_
  refine qcons (qk_iload_n dX11_mostMissed_49 rfl) ?_
  refine qcons (qk_istore_n dX11_mostMissed_50 rfl) ?_
  refine qcons (qk_iinc dX11_mostMissed_51) ?_
  refine qcons (qk_goto dX11_mostMissed_54 (by decide)) ?_
  refine qcons (qk_iload_n dX11_mostMissed_57 rfl) ?_
  refine qcons (qk_ret dX11_mostMissed_58 (Or.inr (Or.inl ⟨rfl, rfl⟩))) ?_
  exact qnil
theorem M_X11_mostMissed {X : qX} {l : Launch} : qMet X l 7 yX11_mostMissed cX11_mostMissed 5 (some .int) S_X11_mostMissed := qmet_of K_X11_mostMissed (by decide) rfl rfl
theorem dX11_best_0 : decode cX11_best 0 = .ok (.iload_n 1, 1) := by decide +kernel
theorem dX11_best_1 : decode cX11_best 1 = .ok (.tableswitch 60 0 4 #[35, 40, 45, 50, 55], 35) := by decide +kernel
theorem dX11_best_36 : decode cX11_best 36 = .ok (.aload_n 0, 1) := by decide +kernel
theorem dX11_best_37 : decode cX11_best 37 = .ok (.invokevirtual 197, 3) := by decide +kernel
theorem dX11_best_40 : decode cX11_best 40 = .ok (.ireturn, 1) := by decide +kernel
theorem dX11_best_41 : decode cX11_best 41 = .ok (.aload_n 0, 1) := by decide +kernel
theorem dX11_best_42 : decode cX11_best 42 = .ok (.invokevirtual 201, 3) := by decide +kernel
theorem dX11_best_45 : decode cX11_best 45 = .ok (.ireturn, 1) := by decide +kernel
theorem dX11_best_46 : decode cX11_best 46 = .ok (.aload_n 0, 1) := by decide +kernel
theorem dX11_best_47 : decode cX11_best 47 = .ok (.invokevirtual 204, 3) := by decide +kernel
theorem dX11_best_50 : decode cX11_best 50 = .ok (.ireturn, 1) := by decide +kernel
theorem dX11_best_51 : decode cX11_best 51 = .ok (.aload_n 0, 1) := by decide +kernel
theorem dX11_best_52 : decode cX11_best 52 = .ok (.invokevirtual 207, 3) := by decide +kernel
theorem dX11_best_55 : decode cX11_best 55 = .ok (.ireturn, 1) := by decide +kernel
theorem dX11_best_56 : decode cX11_best 56 = .ok (.aload_n 0, 1) := by decide +kernel
theorem dX11_best_57 : decode cX11_best 57 = .ok (.invokevirtual 210, 3) := by decide +kernel
theorem dX11_best_60 : decode cX11_best 60 = .ok (.ireturn, 1) := by decide +kernel
theorem dX11_best_61 : decode cX11_best 61 = .ok (.iconst (-1), 1) := by decide +kernel
theorem dX11_best_62 : decode cX11_best 62 = .ok (.ireturn, 1) := by decide +kernel
noncomputable def C_X11_best : List (Nat × qOp) := [(0, qo_iload 1 1),
  (1, qo_tsw 0 [36, 41, 46, 51, 56] 61),
  (36, qo_aload 0 1),
  (37, qo_callv [(11, S_X11_bestMove)] 0),
  (40, qo_ret (some .int) 1),
  (41, qo_aload 0 1),
  (42, qo_callv [(11, S_X11_bestSwap)] 0),
  (45, qo_ret (some .int) 1),
  (46, qo_aload 0 1),
  (47, qo_callv [(11, S_X11_enoughRoom)] 0),
  (50, qo_ret (some .int) 1),
  (51, qo_aload 0 1),
  (52, qo_callv [(11, S_X11_mostMissed)] 0),
  (55, qo_ret (some .int) 1),
  (56, qo_aload 0 1),
  (57, qo_callv [(11, S_X11_yieldAsIs)] 0),
  (60, qo_ret (some .int) 1),
  (61, qo_ci (-1) 1),
  (62, qo_ret (some .int) 1)]
noncomputable def S_X11_best : qSem := qM 2 C_X11_best
set_option maxRecDepth 20000 in
theorem K_X11_best {X : qX} {l : Launch} : ∀ q ∈ C_X11_best, qOk X l 8 cX11_best 2 RX11 "best" (some .int) q.1 q.2 := by
  unfold C_X11_best
  refine qcons (qk_iload_n dX11_best_0 rfl) ?_
  refine qcons (qk_tsw dX11_best_1 (by decide) (by decide) (by decide)) ?_
  refine qcons (qk_aload_n dX11_best_36 rfl) ?_
  refine qcons (qk_callv (ins := fun i => .invokevirtual i) (qconsV (qrunV M_X11_bestMove (by decide) (by decide) (by decide) rfl tw_614 tw_616 tw_11 tw_617 tw_78 ⟨by decide, by decide⟩ (by decide +kernel)) qnilV) dX11_best_37) ?_
  refine qcons (qk_ret dX11_best_40 (Or.inr (Or.inl ⟨rfl, rfl⟩))) ?_
  refine qcons (qk_aload_n dX11_best_41 rfl) ?_
  refine qcons (qk_callv (ins := fun i => .invokevirtual i) (qconsV (qrunV M_X11_bestSwap (by decide) (by decide) (by decide) rfl tw_622 tw_624 tw_13 tw_625 tw_78 ⟨by decide, by decide⟩ (by decide +kernel)) qnilV) dX11_best_42) ?_
  refine qcons (qk_ret dX11_best_45 (Or.inr (Or.inl ⟨rfl, rfl⟩))) ?_
  refine qcons (qk_aload_n dX11_best_46 rfl) ?_
  refine qcons (qk_callv (ins := fun i => .invokevirtual i) (qconsV (qrunV M_X11_enoughRoom (by decide) (by decide) (by decide) rfl tw_626 tw_628 tw_14 tw_629 tw_78 ⟨by decide, by decide⟩ (by decide +kernel)) qnilV) dX11_best_47) ?_
  refine qcons (qk_ret dX11_best_50 (Or.inr (Or.inl ⟨rfl, rfl⟩))) ?_
  refine qcons (qk_aload_n dX11_best_51 rfl) ?_
  refine qcons (qk_callv (ins := fun i => .invokevirtual i) (qconsV (qrunV M_X11_mostMissed (by decide) (by decide) (by decide) rfl tw_630 tw_632 tw_15 tw_633 tw_78 ⟨by decide, by decide⟩ (by decide +kernel)) qnilV) dX11_best_52) ?_
  refine qcons (qk_ret dX11_best_55 (Or.inr (Or.inl ⟨rfl, rfl⟩))) ?_
  refine qcons (qk_aload_n dX11_best_56 rfl) ?_
  refine qcons (qk_callv (ins := fun i => .invokevirtual i) (qconsV (qrunV M_X11_yieldAsIs (by decide) (by decide) (by decide) rfl tw_618 tw_620 tw_12 tw_621 tw_78 ⟨by decide, by decide⟩ (by decide +kernel)) qnilV) dX11_best_57) ?_
  refine qcons (qk_ret dX11_best_60 (Or.inr (Or.inl ⟨rfl, rfl⟩))) ?_
  refine qcons (qk_iconst dX11_best_61 (by decide)) ?_
  refine qcons (qk_ret dX11_best_62 (Or.inr (Or.inl ⟨rfl, rfl⟩))) ?_
  exact qnil
theorem M_X11_best {X : qX} {l : Launch} : qMet X l 8 yX11_best cX11_best 2 (some .int) S_X11_best := qmet_of K_X11_best (by decide) rfl rfl
theorem dX11_when_0 : decode cX11_when 0 = .ok (.aload_n 0, 1) := by decide +kernel
theorem dX11_when_1 : decode cX11_when 1 = .ok (.iload_n 1, 1) := by decide +kernel
theorem dX11_when_2 : decode cX11_when 2 = .ok (.invokevirtual 121, 3) := by decide +kernel
theorem dX11_when_5 : decode cX11_when 5 = .ok (.ifCond .eq 10, 3) := by decide +kernel
theorem dX11_when_8 : decode cX11_when 8 = .ok (.iload_n 2, 1) := by decide +kernel
theorem dX11_when_9 : decode cX11_when 9 = .ok (.invokestatic 109, 3) := by decide +kernel
theorem dX11_when_12 : decode cX11_when 12 = .ok (.ifCond .ne 5, 3) := by decide +kernel
theorem dX11_when_15 : decode cX11_when 15 = .ok (.iconst (-1), 1) := by decide +kernel
theorem dX11_when_16 : decode cX11_when 16 = .ok (.ireturn, 1) := by decide +kernel
theorem dX11_when_17 : decode cX11_when 17 = .ok (.iconst (-1), 1) := by decide +kernel
theorem dX11_when_18 : decode cX11_when 18 = .ok (.istore_n 3, 1) := by decide +kernel
theorem dX11_when_19 : decode cX11_when 19 = .ok (.iconst 0, 1) := by decide +kernel
theorem dX11_when_20 : decode cX11_when 20 = .ok (.istore 4, 2) := by decide +kernel
theorem dX11_when_22 : decode cX11_when 22 = .ok (.iconst 0, 1) := by decide +kernel
theorem dX11_when_23 : decode cX11_when 23 = .ok (.istore 5, 2) := by decide +kernel
theorem dX11_when_25 : decode cX11_when 25 = .ok (.iload 5, 2) := by decide +kernel
theorem dX11_when_27 : decode cX11_when 27 = .ok (.bipush 20, 2) := by decide +kernel
theorem dX11_when_29 : decode cX11_when 29 = .ok (.if_icmp .gt 67, 3) := by decide +kernel
theorem dX11_when_32 : decode cX11_when 32 = .ok (.aload_n 0, 1) := by decide +kernel
theorem dX11_when_33 : decode cX11_when 33 = .ok (.getfield 48, 3) := by decide +kernel
theorem dX11_when_36 : decode cX11_when 36 = .ok (.aload_n 0, 1) := by decide +kernel
theorem dX11_when_37 : decode cX11_when 37 = .ok (.getfield 41, 3) := by decide +kernel
theorem dX11_when_40 : decode cX11_when 40 = .ok (.invokevirtual 193, 3) := by decide +kernel
theorem dX11_when_43 : decode cX11_when 43 = .ok (.aload_n 0, 1) := by decide +kernel
theorem dX11_when_44 : decode cX11_when 44 = .ok (.getfield 48, 3) := by decide +kernel
theorem dX11_when_47 : decode cX11_when 47 = .ok (.iload 5, 2) := by decide +kernel
theorem dX11_when_49 : decode cX11_when 49 = .ok (.invokevirtual 190, 3) := by decide +kernel
theorem dX11_when_52 : decode cX11_when 52 = .ok (.pop, 1) := by decide +kernel
theorem dX11_when_53 : decode cX11_when 53 = .ok (.aload_n 0, 1) := by decide +kernel
theorem dX11_when_54 : decode cX11_when 54 = .ok (.getfield 48, 3) := by decide +kernel
theorem dX11_when_57 : decode cX11_when 57 = .ok (.getfield 130, 3) := by decide +kernel
theorem dX11_when_60 : decode cX11_when 60 = .ok (.iload_n 1, 1) := by decide +kernel
theorem dX11_when_61 : decode cX11_when 61 = .ok (.iload_n 2, 1) := by decide +kernel
theorem dX11_when_62 : decode cX11_when 62 = .ok (.iastore, 1) := by decide +kernel
theorem dX11_when_63 : decode cX11_when 63 = .ok (.aload_n 0, 1) := by decide +kernel
theorem dX11_when_64 : decode cX11_when 64 = .ok (.getfield 48, 3) := by decide +kernel
theorem dX11_when_67 : decode cX11_when 67 = .ok (.bipush 30, 2) := by decide +kernel
theorem dX11_when_69 : decode cX11_when 69 = .ok (.iload 5, 2) := by decide +kernel
theorem dX11_when_71 : decode cX11_when 71 = .ok (.isub, 1) := by decide +kernel
theorem dX11_when_72 : decode cX11_when 72 = .ok (.invokevirtual 190, 3) := by decide +kernel
theorem dX11_when_75 : decode cX11_when 75 = .ok (.istore 6, 2) := by decide +kernel
theorem dX11_when_77 : decode cX11_when 77 = .ok (.iload 6, 2) := by decide +kernel
theorem dX11_when_79 : decode cX11_when 79 = .ok (.iload_n 3, 1) := by decide +kernel
theorem dX11_when_80 : decode cX11_when 80 = .ok (.if_icmp .le 10, 3) := by decide +kernel
theorem dX11_when_83 : decode cX11_when 83 = .ok (.iload 6, 2) := by decide +kernel
theorem dX11_when_85 : decode cX11_when 85 = .ok (.istore_n 3, 1) := by decide +kernel
theorem dX11_when_86 : decode cX11_when 86 = .ok (.iload 5, 2) := by decide +kernel
theorem dX11_when_88 : decode cX11_when 88 = .ok (.istore 4, 2) := by decide +kernel
theorem dX11_when_90 : decode cX11_when 90 = .ok (.iinc 5 1, 3) := by decide +kernel
theorem dX11_when_93 : decode cX11_when 93 = .ok (.goto (-68), 3) := by decide +kernel
theorem dX11_when_96 : decode cX11_when 96 = .ok (.iload 4, 2) := by decide +kernel
theorem dX11_when_98 : decode cX11_when 98 = .ok (.ireturn, 1) := by decide +kernel
noncomputable def C_X11_when : List (Nat × qOp) := [(0, qo_aload 0 1),
  (1, qo_iload 1 1),
  (2, qo_callv [(11, S_X11_isPerson)] 1),
  (5, qo_ifeq 15),
  (8, qo_iload 2 1),
  (9, qo_calls S_X11_isWork 1),
  (12, qo_ifne 17),
  (15, qo_ci (-1) 1),
  (16, qo_ret (some .int) 1),
  (17, qo_ci (-1) 1),
  (18, qo_istore 3 1),
  (19, qo_ci 0 1),
  (20, qo_istore 4 2),
  (22, qo_ci 0 1),
  (23, qo_istore 5 2),
  (25, qo_iload 5 2),
  (27, qo_ci 20 2),
  (29, qo_icgt 96),
  (32, qo_aload 0 1),
  (33, qo_getR 11 1),
  (36, qo_aload 0 1),
  (37, qo_getR 11 0),
  (40, qo_callv [(8, S_X8_becomes)] 1),
  (43, qo_aload 0 1),
  (44, qo_getR 11 1),
  (47, qo_iload 5 2),
  (49, qo_callv [(8, S_X8_minutesGo)] 1),
  (52, qo_pop),
  (53, qo_aload 0 1),
  (54, qo_getR 11 1),
  (57, qo_getR 8 5),
  (60, qo_iload 1 1),
  (61, qo_iload 2 1),
  (62, qo_iastore),
  (63, qo_aload 0 1),
  (64, qo_getR 11 1),
  (67, qo_ci 30 2),
  (69, qo_iload 5 2),
  (71, qo_isub),
  (72, qo_callv [(8, S_X8_minutesGo)] 1),
  (75, qo_istore 6 2),
  (77, qo_iload 6 2),
  (79, qo_iload 3 1),
  (80, qo_icle 90),
  (83, qo_iload 6 2),
  (85, qo_istore 3 1),
  (86, qo_iload 5 2),
  (88, qo_istore 4 2),
  (90, qo_iinc 5 1),
  (93, qo_goto 25),
  (96, qo_iload 4 2),
  (98, qo_ret (some .int) 1)]
noncomputable def S_X11_when : qSem := qM 7 C_X11_when
set_option maxRecDepth 20000 in
theorem K_X11_when {X : qX} {l : Launch} : ∀ q ∈ C_X11_when, qOk X l 6 cX11_when 7 RX11 "when" (some .int) q.1 q.2 := by
  unfold C_X11_when
  refine qcons (qk_aload_n dX11_when_0 rfl) ?_
  refine qcons (qk_iload_n dX11_when_1 rfl) ?_
  refine qcons (qk_callv (ins := fun i => .invokevirtual i) (qconsV (qrunV M_X11_isPerson (by decide) (by decide) (by decide) rfl tw_391 tw_393 tw_0 tw_394 tw_78 ⟨by decide, by decide⟩ (by decide +kernel)) qnilV) dX11_when_2) ?_
  refine qcons (qk_ifeq dX11_when_5 (by decide)) ?_
  refine qcons (qk_iload_n dX11_when_8 rfl) ?_
  refine qcons (qk_calls (qrunS M_X11_isWork (by decide) (by decide) tw_380 tw_381 tw_382 tw_78 ⟨by decide, by decide⟩ (by decide +kernel)) dX11_when_9) ?_
  refine qcons (qk_ifne dX11_when_12 (by decide)) ?_
  refine qcons (qk_iconst dX11_when_15 (by decide)) ?_
  refine qcons (qk_ret dX11_when_16 (Or.inr (Or.inl ⟨rfl, rfl⟩))) ?_
  refine qcons (qk_iconst dX11_when_17 (by decide)) ?_
  refine qcons (qk_istore_n dX11_when_18 rfl) ?_
  refine qcons (qk_iconst dX11_when_19 (by decide)) ?_
  refine qcons (qk_istore dX11_when_20) ?_
  refine qcons (qk_iconst dX11_when_22 (by decide)) ?_
  refine qcons (qk_istore dX11_when_23) ?_
  refine qcons (qk_iload dX11_when_25) ?_
  refine qcons (qk_bipush dX11_when_27 (by decide) (by decide)) ?_
  refine qcons (qk_icgt dX11_when_29 (by decide)) ?_
  refine qcons (qk_aload_n dX11_when_32 rfl) ?_
  refine qcons (qk_getR fd_X11_48 kd_11_1 dX11_when_33) ?_
  refine qcons (qk_aload_n dX11_when_36 rfl) ?_
  refine qcons (qk_getR fd_X11_41 kd_11_0 dX11_when_37) ?_
  refine qcons (qk_callv (ins := fun i => .invokevirtual i) (qconsV (qrunV M_X8_becomes (by decide) (by decide) (by decide) rfl tw_601 tw_602 tw_603 tw_604 tw_87 ⟨by decide, by decide⟩ (by decide +kernel)) qnilV) dX11_when_40) ?_
  refine qcons (qk_aload_n dX11_when_43 rfl) ?_
  refine qcons (qk_getR fd_X11_48 kd_11_1 dX11_when_44) ?_
  refine qcons (qk_iload dX11_when_47) ?_
  refine qcons (qk_callv (ins := fun i => .invokevirtual i) (qconsV (qrunV M_X8_minutesGo (by decide) (by decide) (by decide) rfl tw_587 tw_588 tw_589 tw_590 tw_87 ⟨by decide, by decide⟩ (by decide +kernel)) qnilV) dX11_when_49) ?_
  refine qcons (qk_pop dX11_when_52) ?_
  refine qcons (qk_aload_n dX11_when_53 rfl) ?_
  refine qcons (qk_getR fd_X11_48 kd_11_1 dX11_when_54) ?_
  refine qcons (qk_getR fd_X11_130 kd_8_5 dX11_when_57) ?_
  refine qcons (qk_iload_n dX11_when_60 rfl) ?_
  refine qcons (qk_iload_n dX11_when_61 rfl) ?_
  refine qcons (qk_iastore dX11_when_62) ?_
  refine qcons (qk_aload_n dX11_when_63 rfl) ?_
  refine qcons (qk_getR fd_X11_48 kd_11_1 dX11_when_64) ?_
  refine qcons (qk_bipush dX11_when_67 (by decide) (by decide)) ?_
  refine qcons (qk_iload dX11_when_69) ?_
  refine qcons (qk_isub dX11_when_71) ?_
  refine qcons (qk_callv (ins := fun i => .invokevirtual i) (qconsV (qrunV M_X8_minutesGo (by decide) (by decide) (by decide) rfl tw_587 tw_588 tw_589 tw_590 tw_87 ⟨by decide, by decide⟩ (by decide +kernel)) qnilV) dX11_when_72) ?_
  refine qcons (qk_istore dX11_when_75) ?_
  refine qcons (qk_iload dX11_when_77) ?_
  refine qcons (qk_iload_n dX11_when_79 rfl) ?_
  refine qcons (qk_icle dX11_when_80 (by decide)) ?_
  refine qcons (qk_iload dX11_when_83) ?_
  refine qcons (qk_istore_n dX11_when_85 rfl) ?_
  refine qcons (qk_iload dX11_when_86) ?_
  refine qcons (qk_istore dX11_when_88) ?_
  refine qcons (qk_iinc dX11_when_90) ?_
  refine qcons (qk_goto dX11_when_93 (by decide)) ?_
  refine qcons (qk_iload dX11_when_96) ?_
  refine qcons (qk_ret dX11_when_98 (Or.inr (Or.inl ⟨rfl, rfl⟩))) ?_
  exact qnil
theorem M_X11_when {X : qX} {l : Launch} : qMet X l 6 yX11_when cX11_when 7 (some .int) S_X11_when := qmet_of K_X11_when (by decide) rfl rfl
theorem dX11_without_0 : decode cX11_without 0 = .ok (.aload_n 0, 1) := by decide +kernel
theorem dX11_without_1 : decode cX11_without 1 = .ok (.iload_n 1, 1) := by decide +kernel
theorem dX11_without_2 : decode cX11_without 2 = .ok (.invokevirtual 121, 3) := by decide +kernel
theorem dX11_without_5 : decode cX11_without 5 = .ok (.ifCond .eq 13, 3) := by decide +kernel
theorem dX11_without_8 : decode cX11_without 8 = .ok (.aload_n 0, 1) := by decide +kernel
theorem dX11_without_9 : decode cX11_without 9 = .ok (.iload_n 1, 1) := by decide +kernel
theorem dX11_without_10 : decode cX11_without 10 = .ok (.bipush 30, 2) := by decide +kernel
theorem dX11_without_12 : decode cX11_without 12 = .ok (.invokevirtual 213, 3) := by decide +kernel
theorem dX11_without_15 : decode cX11_without 15 = .ok (.goto 4, 3) := by decide +kernel
theorem dX11_without_18 : decode cX11_without 18 = .ok (.iconst (-1), 1) := by decide +kernel
theorem dX11_without_19 : decode cX11_without 19 = .ok (.ireturn, 1) := by decide +kernel
noncomputable def C_X11_without : List (Nat × qOp) := [(0, qo_aload 0 1),
  (1, qo_iload 1 1),
  (2, qo_callv [(11, S_X11_isPerson)] 1),
  (5, qo_ifeq 18),
  (8, qo_aload 0 1),
  (9, qo_iload 1 1),
  (10, qo_ci 30 2),
  (12, qo_callv [(11, S_X11_behindWithout)] 2),
  (15, qo_goto 19),
  (18, qo_ci (-1) 1),
  (19, qo_ret (some .int) 1)]
noncomputable def S_X11_without : qSem := qM 2 C_X11_without
set_option maxRecDepth 20000 in
theorem K_X11_without {X : qX} {l : Launch} : ∀ q ∈ C_X11_without, qOk X l 7 cX11_without 2 RX11 "without" (some .int) q.1 q.2 := by
  unfold C_X11_without
  refine qcons (qk_aload_n dX11_without_0 rfl) ?_
  refine qcons (qk_iload_n dX11_without_1 rfl) ?_
  refine qcons (qk_callv (ins := fun i => .invokevirtual i) (qconsV (qrunV M_X11_isPerson (by decide) (by decide) (by decide) rfl tw_391 tw_393 tw_0 tw_394 tw_78 ⟨by decide, by decide⟩ (by decide +kernel)) qnilV) dX11_without_2) ?_
  refine qcons (qk_ifeq dX11_without_5 (by decide)) ?_
  refine qcons (qk_aload_n dX11_without_8 rfl) ?_
  refine qcons (qk_iload_n dX11_without_9 rfl) ?_
  refine qcons (qk_bipush dX11_without_10 (by decide) (by decide)) ?_
  refine qcons (qk_callv (ins := fun i => .invokevirtual i) (qconsV (qrunV M_X11_behindWithout (by decide) (by decide) (by decide) rfl tw_634 tw_636 tw_16 tw_637 tw_78 ⟨by decide, by decide⟩ (by decide +kernel)) qnilV) dX11_without_12) ?_
  refine qcons (qk_goto dX11_without_15 (by decide)) ?_
  refine qcons (qk_iconst dX11_without_18 (by decide)) ?_
  refine qcons (qk_ret dX11_without_19 (Or.inr (Or.inl ⟨rfl, rfl⟩))) ?_
  exact qnil
theorem M_X11_without {X : qX} {l : Launch} : qMet X l 7 yX11_without cX11_without 2 (some .int) S_X11_without := qmet_of K_X11_without (by decide) rfl rfl
theorem dX11_see_0 : decode cX11_see 0 = .ok (.iload_n 1, 1) := by decide +kernel
theorem dX11_see_1 : decode cX11_see 1 = .ok (.iconst (-1), 1) := by decide +kernel
theorem dX11_see_2 : decode cX11_see 2 = .ok (.if_icmp .ne 13, 3) := by decide +kernel
theorem dX11_see_5 : decode cX11_see 5 = .ok (.aload_n 0, 1) := by decide +kernel
theorem dX11_see_6 : decode cX11_see 6 = .ok (.getfield 59, 3) := by decide +kernel
theorem dX11_see_9 : decode cX11_see 9 = .ok (.iconst 0, 1) := by decide +kernel
theorem dX11_see_10 : decode cX11_see 10 = .ok (.putfield 217, 3) := by decide +kernel
theorem dX11_see_13 : decode cX11_see 13 = .ok (.iconst 0, 1) := by decide +kernel
theorem dX11_see_14 : decode cX11_see 14 = .ok (.ireturn, 1) := by decide +kernel
theorem dX11_see_15 : decode cX11_see 15 = .ok (.iload_n 1, 1) := by decide +kernel
theorem dX11_see_16 : decode cX11_see 16 = .ok (.invokestatic 158, 3) := by decide +kernel
theorem dX11_see_19 : decode cX11_see 19 = .ok (.ifCond .ne 5, 3) := by decide +kernel
theorem dX11_see_22 : decode cX11_see 22 = .ok (.iconst (-1), 1) := by decide +kernel
theorem dX11_see_23 : decode cX11_see 23 = .ok (.ireturn, 1) := by decide +kernel
theorem dX11_see_24 : decode cX11_see 24 = .ok (.iload_n 2, 1) := by decide +kernel
theorem dX11_see_25 : decode cX11_see 25 = .ok (.sipush 9999, 3) := by decide +kernel
theorem dX11_see_28 : decode cX11_see 28 = .ok (.invokestatic 105, 3) := by decide +kernel
theorem dX11_see_31 : decode cX11_see 31 = .ok (.ifCond .eq 12, 3) := by decide +kernel
theorem dX11_see_34 : decode cX11_see 34 = .ok (.iload_n 3, 1) := by decide +kernel
theorem dX11_see_35 : decode cX11_see 35 = .ok (.bipush 20, 2) := by decide +kernel
theorem dX11_see_37 : decode cX11_see 37 = .ok (.invokestatic 105, 3) := by decide +kernel
theorem dX11_see_40 : decode cX11_see 40 = .ok (.ifCond .ne 6, 3) := by decide +kernel
theorem dX11_see_43 : decode cX11_see 43 = .ok (.bipush (-2), 2) := by decide +kernel
theorem dX11_see_45 : decode cX11_see 45 = .ok (.ireturn, 1) := by decide +kernel
theorem dX11_see_46 : decode cX11_see 46 = .ok (.aload_n 0, 1) := by decide +kernel
theorem dX11_see_47 : decode cX11_see 47 = .ok (.getfield 59, 3) := by decide +kernel
theorem dX11_see_50 : decode cX11_see 50 = .ok (.iload_n 1, 1) := by decide +kernel
theorem dX11_see_51 : decode cX11_see 51 = .ok (.iload_n 2, 1) := by decide +kernel
theorem dX11_see_52 : decode cX11_see 52 = .ok (.iload_n 3, 1) := by decide +kernel
theorem dX11_see_53 : decode cX11_see 53 = .ok (.invokevirtual 220, 3) := by decide +kernel
theorem dX11_see_56 : decode cX11_see 56 = .ok (.ireturn, 1) := by decide +kernel
noncomputable def C_X11_see : List (Nat × qOp) := [(0, qo_iload 1 1),
  (1, qo_ci (-1) 1),
  (2, qo_icne 15),
  (5, qo_aload 0 1),
  (6, qo_getR 11 3),
  (9, qo_ci 0 1),
  (10, qo_putI 6 3),
  (13, qo_ci 0 1),
  (14, qo_ret (some .int) 1),
  (15, qo_iload 1 1),
  (16, qo_calls S_X11_isHeap 1),
  (19, qo_ifne 24),
  (22, qo_ci (-1) 1),
  (23, qo_ret (some .int) 1),
  (24, qo_iload 2 1),
  (25, qo_ci 9999 3),
  (28, qo_calls S_X11_isIn 2),
  (31, qo_ifeq 43),
  (34, qo_iload 3 1),
  (35, qo_ci 20 2),
  (37, qo_calls S_X11_isIn 2),
  (40, qo_ifne 46),
  (43, qo_ci (-2) 2),
  (45, qo_ret (some .int) 1),
  (46, qo_aload 0 1),
  (47, qo_getR 11 3),
  (50, qo_iload 1 1),
  (51, qo_iload 2 1),
  (52, qo_iload 3 1),
  (53, qo_callv [(6, S_X6_add)] 3),
  (56, qo_ret (some .int) 1)]
noncomputable def S_X11_see : qSem := qM 4 C_X11_see
set_option maxRecDepth 20000 in
theorem K_X11_see {X : qX} {l : Launch} : ∀ q ∈ C_X11_see, qOk X l 2 cX11_see 4 RX11 "see" (some .int) q.1 q.2 := by
  unfold C_X11_see
  refine qcons (qk_iload_n dX11_see_0 rfl) ?_
  refine qcons (qk_iconst dX11_see_1 (by decide)) ?_
  refine qcons (qk_icne dX11_see_2 (by decide)) ?_
  refine qcons (qk_aload_n dX11_see_5 rfl) ?_
  refine qcons (qk_getR fd_X11_59 kd_11_3 dX11_see_6) ?_
  refine qcons (qk_iconst dX11_see_9 (by decide)) ?_
  refine qcons (qk_putI (ty := .int) fd_X11_217 tyX6_ok nmX6 (Or.inl rfl) kd_6_3 (tyX6_ok 3 (by decide)) dX11_see_10) ?_
  refine qcons (qk_iconst dX11_see_13 (by decide)) ?_
  refine qcons (qk_ret dX11_see_14 (Or.inr (Or.inl ⟨rfl, rfl⟩))) ?_
  refine qcons (qk_iload_n dX11_see_15 rfl) ?_
  refine qcons (qk_calls (qrunS M_X11_isHeap (by decide) (by decide) tw_456 tw_457 tw_458 tw_78 ⟨by decide, by decide⟩ (by decide +kernel)) dX11_see_16) ?_
  refine qcons (qk_ifne dX11_see_19 (by decide)) ?_
  refine qcons (qk_iconst dX11_see_22 (by decide)) ?_
  refine qcons (qk_ret dX11_see_23 (Or.inr (Or.inl ⟨rfl, rfl⟩))) ?_
  refine qcons (qk_iload_n dX11_see_24 rfl) ?_
  refine qcons (qk_sipush dX11_see_25 (by decide) (by decide)) ?_
  refine qcons (qk_calls (qrunS M_X11_isIn (by decide) (by decide) tw_377 tw_378 tw_379 tw_78 ⟨by decide, by decide⟩ (by decide +kernel)) dX11_see_28) ?_
  refine qcons (qk_ifeq dX11_see_31 (by decide)) ?_
  refine qcons (qk_iload_n dX11_see_34 rfl) ?_
  refine qcons (qk_bipush dX11_see_35 (by decide) (by decide)) ?_
  refine qcons (qk_calls (qrunS M_X11_isIn (by decide) (by decide) tw_377 tw_378 tw_379 tw_78 ⟨by decide, by decide⟩ (by decide +kernel)) dX11_see_37) ?_
  refine qcons (qk_ifne dX11_see_40 (by decide)) ?_
  refine qcons (qk_bipush dX11_see_43 (by decide) (by decide)) ?_
  refine qcons (qk_ret dX11_see_45 (Or.inr (Or.inl ⟨rfl, rfl⟩))) ?_
  refine qcons (qk_aload_n dX11_see_46 rfl) ?_
  refine qcons (qk_getR fd_X11_59 kd_11_3 dX11_see_47) ?_
  refine qcons (qk_iload_n dX11_see_50 rfl) ?_
  refine qcons (qk_iload_n dX11_see_51 rfl) ?_
  refine qcons (qk_iload_n dX11_see_52 rfl) ?_
  refine qcons (qk_callv (ins := fun i => .invokevirtual i) (qconsV (qrunV M_X6_add (by decide) (by decide) (by decide) rfl tw_650 tw_651 tw_652 tw_653 tw_88 ⟨by decide, by decide⟩ (by decide +kernel)) qnilV) dX11_see_53) ?_
  refine qcons (qk_ret dX11_see_56 (Or.inr (Or.inl ⟨rfl, rfl⟩))) ?_
  exact qnil
theorem M_X11_see {X : qX} {l : Launch} : qMet X l 2 yX11_see cX11_see 4 (some .int) S_X11_see := qmet_of K_X11_see (by decide) rfl rfl
