theorem dX12_init_0 : decode cX12_init 0 = .ok (.aload_n 0, 1) := by decide +kernel
theorem dX12_init_1 : decode cX12_init 1 = .ok (.invokespecial 1, 3) := by decide +kernel
theorem dX12_init_4 : decode cX12_init 4 = .ok (.aload_n 0, 1) := by decide +kernel
theorem dX12_init_5 : decode cX12_init 5 = .ok (.iconst 0, 1) := by decide +kernel
theorem dX12_init_6 : decode cX12_init 6 = .ok (.putfield 7, 3) := by decide +kernel
theorem dX12_init_9 : decode cX12_init 9 = .ok (.aload_n 0, 1) := by decide +kernel
theorem dX12_init_10 : decode cX12_init 10 = .ok (.iconst 0, 1) := by decide +kernel
theorem dX12_init_11 : decode cX12_init 11 = .ok (.putfield 13, 3) := by decide +kernel
theorem dX12_init_14 : decode cX12_init 14 = .ok (.aload_n 0, 1) := by decide +kernel
theorem dX12_init_15 : decode cX12_init 15 = .ok (.iconst 0, 1) := by decide +kernel
theorem dX12_init_16 : decode cX12_init 16 = .ok (.putfield 16, 3) := by decide +kernel
theorem dX12_init_19 : decode cX12_init 19 = .ok (.aload_n 0, 1) := by decide +kernel
theorem dX12_init_20 : decode cX12_init 20 = .ok (.iconst 5, 1) := by decide +kernel
theorem dX12_init_21 : decode cX12_init 21 = .ok (.newarray .int, 2) := by decide +kernel
theorem dX12_init_23 : decode cX12_init 23 = .ok (.putfield 19, 3) := by decide +kernel
theorem dX12_init_26 : decode cX12_init 26 = .ok (.aload_n 0, 1) := by decide +kernel
theorem dX12_init_27 : decode cX12_init 27 = .ok (.bipush 6, 2) := by decide +kernel
theorem dX12_init_29 : decode cX12_init 29 = .ok (.newarray .int, 2) := by decide +kernel
theorem dX12_init_31 : decode cX12_init 31 = .ok (.putfield 23, 3) := by decide +kernel
theorem dX12_init_34 : decode cX12_init 34 = .ok (.aload_n 0, 1) := by decide +kernel
theorem dX12_init_35 : decode cX12_init 35 = .ok (.bipush 6, 2) := by decide +kernel
theorem dX12_init_37 : decode cX12_init 37 = .ok (.newarray .int, 2) := by decide +kernel
theorem dX12_init_39 : decode cX12_init 39 = .ok (.putfield 26, 3) := by decide +kernel
theorem dX12_init_42 : decode cX12_init 42 = .ok (.aload_n 0, 1) := by decide +kernel
theorem dX12_init_43 : decode cX12_init 43 = .ok (.bipush 6, 2) := by decide +kernel
theorem dX12_init_45 : decode cX12_init 45 = .ok (.newarray .int, 2) := by decide +kernel
theorem dX12_init_47 : decode cX12_init 47 = .ok (.putfield 29, 3) := by decide +kernel
theorem dX12_init_50 : decode cX12_init 50 = .ok (.aload_n 0, 1) := by decide +kernel
theorem dX12_init_51 : decode cX12_init 51 = .ok (.bipush 6, 2) := by decide +kernel
theorem dX12_init_53 : decode cX12_init 53 = .ok (.newarray .int, 2) := by decide +kernel
theorem dX12_init_55 : decode cX12_init 55 = .ok (.putfield 32, 3) := by decide +kernel
theorem dX12_init_58 : decode cX12_init 58 = .ok (.aload_n 0, 1) := by decide +kernel
theorem dX12_init_59 : decode cX12_init 59 = .ok (.bipush 6, 2) := by decide +kernel
theorem dX12_init_61 : decode cX12_init 61 = .ok (.newarray .int, 2) := by decide +kernel
theorem dX12_init_63 : decode cX12_init 63 = .ok (.putfield 35, 3) := by decide +kernel
theorem dX12_init_66 : decode cX12_init 66 = .ok (.aload_n 0, 1) := by decide +kernel
theorem dX12_init_67 : decode cX12_init 67 = .ok (.bipush 24, 2) := by decide +kernel
theorem dX12_init_69 : decode cX12_init 69 = .ok (.newarray .int, 2) := by decide +kernel
theorem dX12_init_71 : decode cX12_init 71 = .ok (.putfield 38, 3) := by decide +kernel
theorem dX12_init_74 : decode cX12_init 74 = .ok (.aload_n 0, 1) := by decide +kernel
theorem dX12_init_75 : decode cX12_init 75 = .ok (.iconst 0, 1) := by decide +kernel
theorem dX12_init_76 : decode cX12_init 76 = .ok (.putfield 41, 3) := by decide +kernel
theorem dX12_init_79 : decode cX12_init 79 = .ok (.aload_n 0, 1) := by decide +kernel
theorem dX12_init_80 : decode cX12_init 80 = .ok (.iconst (-1), 1) := by decide +kernel
theorem dX12_init_81 : decode cX12_init 81 = .ok (.putfield 44, 3) := by decide +kernel
theorem dX12_init_84 : decode cX12_init 84 = .ok (.aload_n 0, 1) := by decide +kernel
theorem dX12_init_85 : decode cX12_init 85 = .ok (.iconst 0, 1) := by decide +kernel
theorem dX12_init_86 : decode cX12_init 86 = .ok (.putfield 47, 3) := by decide +kernel
theorem dX12_init_89 : decode cX12_init 89 = .ok (.aload_n 0, 1) := by decide +kernel
theorem dX12_init_90 : decode cX12_init 90 = .ok (.iconst 0, 1) := by decide +kernel
theorem dX12_init_91 : decode cX12_init 91 = .ok (.putfield 50, 3) := by decide +kernel
theorem dX12_init_94 : decode cX12_init 94 = .ok (.aload_n 0, 1) := by decide +kernel
theorem dX12_init_95 : decode cX12_init 95 = .ok (.iconst 0, 1) := by decide +kernel
theorem dX12_init_96 : decode cX12_init 96 = .ok (.putfield 53, 3) := by decide +kernel
theorem dX12_init_99 : decode cX12_init 99 = .ok (.aload_n 0, 1) := by decide +kernel
theorem dX12_init_100 : decode cX12_init 100 = .ok (.bipush 100, 2) := by decide +kernel
theorem dX12_init_102 : decode cX12_init 102 = .ok (.newarray .int, 2) := by decide +kernel
theorem dX12_init_104 : decode cX12_init 104 = .ok (.putfield 56, 3) := by decide +kernel
theorem dX12_init_107 : decode cX12_init 107 = .ok (.aload_n 0, 1) := by decide +kernel
theorem dX12_init_108 : decode cX12_init 108 = .ok (.bipush 6, 2) := by decide +kernel
theorem dX12_init_110 : decode cX12_init 110 = .ok (.newarray .int, 2) := by decide +kernel
theorem dX12_init_112 : decode cX12_init 112 = .ok (.putfield 59, 3) := by decide +kernel
theorem dX12_init_115 : decode cX12_init 115 = .ok (.aload_n 0, 1) := by decide +kernel
theorem dX12_init_116 : decode cX12_init 116 = .ok (.bipush 60, 2) := by decide +kernel
theorem dX12_init_118 : decode cX12_init 118 = .ok (.newarray .int, 2) := by decide +kernel
theorem dX12_init_120 : decode cX12_init 120 = .ok (.putfield 62, 3) := by decide +kernel
theorem dX12_init_123 : decode cX12_init 123 = .ok (.aload_n 0, 1) := by decide +kernel
theorem dX12_init_124 : decode cX12_init 124 = .ok (.bipush 60, 2) := by decide +kernel
theorem dX12_init_126 : decode cX12_init 126 = .ok (.newarray .int, 2) := by decide +kernel
theorem dX12_init_128 : decode cX12_init 128 = .ok (.putfield 65, 3) := by decide +kernel
theorem dX12_init_131 : decode cX12_init 131 = .ok (.aload_n 0, 1) := by decide +kernel
theorem dX12_init_132 : decode cX12_init 132 = .ok (.bipush 60, 2) := by decide +kernel
theorem dX12_init_134 : decode cX12_init 134 = .ok (.newarray .int, 2) := by decide +kernel
theorem dX12_init_136 : decode cX12_init 136 = .ok (.putfield 68, 3) := by decide +kernel
theorem dX12_init_139 : decode cX12_init 139 = .ok (.aload_n 0, 1) := by decide +kernel
theorem dX12_init_140 : decode cX12_init 140 = .ok (.bipush 60, 2) := by decide +kernel
theorem dX12_init_142 : decode cX12_init 142 = .ok (.newarray .int, 2) := by decide +kernel
theorem dX12_init_144 : decode cX12_init 144 = .ok (.putfield 71, 3) := by decide +kernel
theorem dX12_init_147 : decode cX12_init 147 = .ok (.aload_n 0, 1) := by decide +kernel
theorem dX12_init_148 : decode cX12_init 148 = .ok (.sipush 600, 3) := by decide +kernel
theorem dX12_init_151 : decode cX12_init 151 = .ok (.newarray .int, 2) := by decide +kernel
theorem dX12_init_153 : decode cX12_init 153 = .ok (.putfield 74, 3) := by decide +kernel
theorem dX12_init_156 : decode cX12_init 156 = .ok (.aload_n 0, 1) := by decide +kernel
theorem dX12_init_157 : decode cX12_init 157 = .ok (.bipush 101, 2) := by decide +kernel
theorem dX12_init_159 : decode cX12_init 159 = .ok (.newarray .int, 2) := by decide +kernel
theorem dX12_init_161 : decode cX12_init 161 = .ok (.putfield 77, 3) := by decide +kernel
theorem dX12_init_164 : decode cX12_init 164 = .ok (.aload_n 0, 1) := by decide +kernel
theorem dX12_init_165 : decode cX12_init 165 = .ok (.iconst 0, 1) := by decide +kernel
theorem dX12_init_166 : decode cX12_init 166 = .ok (.putfield 80, 3) := by decide +kernel
theorem dX12_init_169 : decode cX12_init 169 = .ok (.aload_n 0, 1) := by decide +kernel
theorem dX12_init_170 : decode cX12_init 170 = .ok (.iconst 0, 1) := by decide +kernel
theorem dX12_init_171 : decode cX12_init 171 = .ok (.putfield 83, 3) := by decide +kernel
theorem dX12_init_174 : decode cX12_init 174 = .ok (.aload_n 0, 1) := by decide +kernel
theorem dX12_init_175 : decode cX12_init 175 = .ok (.iconst 0, 1) := by decide +kernel
theorem dX12_init_176 : decode cX12_init 176 = .ok (.putfield 86, 3) := by decide +kernel
theorem dX12_init_179 : decode cX12_init 179 = .ok (.aload_n 0, 1) := by decide +kernel
theorem dX12_init_180 : decode cX12_init 180 = .ok (.bipush 18, 2) := by decide +kernel
theorem dX12_init_182 : decode cX12_init 182 = .ok (.newarray .int, 2) := by decide +kernel
theorem dX12_init_184 : decode cX12_init 184 = .ok (.dup, 1) := by decide +kernel
theorem dX12_init_185 : decode cX12_init 185 = .ok (.iconst 0, 1) := by decide +kernel
theorem dX12_init_186 : decode cX12_init 186 = .ok (.bipush 98, 2) := by decide +kernel
theorem dX12_init_188 : decode cX12_init 188 = .ok (.iastore, 1) := by decide +kernel
theorem dX12_init_189 : decode cX12_init 189 = .ok (.dup, 1) := by decide +kernel
theorem dX12_init_190 : decode cX12_init 190 = .ok (.iconst 1, 1) := by decide +kernel
theorem dX12_init_191 : decode cX12_init 191 = .ok (.bipush 114, 2) := by decide +kernel
theorem dX12_init_193 : decode cX12_init 193 = .ok (.iastore, 1) := by decide +kernel
theorem dX12_init_194 : decode cX12_init 194 = .ok (.dup, 1) := by decide +kernel
theorem dX12_init_195 : decode cX12_init 195 = .ok (.iconst 2, 1) := by decide +kernel
theorem dX12_init_196 : decode cX12_init 196 = .ok (.bipush 105, 2) := by decide +kernel
theorem dX12_init_198 : decode cX12_init 198 = .ok (.iastore, 1) := by decide +kernel
theorem dX12_init_199 : decode cX12_init 199 = .ok (.dup, 1) := by decide +kernel
theorem dX12_init_200 : decode cX12_init 200 = .ok (.iconst 3, 1) := by decide +kernel
theorem dX12_init_201 : decode cX12_init 201 = .ok (.bipush 115, 2) := by decide +kernel
theorem dX12_init_203 : decode cX12_init 203 = .ok (.iastore, 1) := by decide +kernel
theorem dX12_init_204 : decode cX12_init 204 = .ok (.dup, 1) := by decide +kernel
theorem dX12_init_205 : decode cX12_init 205 = .ok (.iconst 4, 1) := by decide +kernel
theorem dX12_init_206 : decode cX12_init 206 = .ok (.bipush 107, 2) := by decide +kernel
theorem dX12_init_208 : decode cX12_init 208 = .ok (.iastore, 1) := by decide +kernel
theorem dX12_init_209 : decode cX12_init 209 = .ok (.dup, 1) := by decide +kernel
theorem dX12_init_210 : decode cX12_init 210 = .ok (.iconst 5, 1) := by decide +kernel
theorem dX12_init_211 : decode cX12_init 211 = .ok (.bipush 115, 2) := by decide +kernel
theorem dX12_init_213 : decode cX12_init 213 = .ok (.iastore, 1) := by decide +kernel
theorem dX12_init_214 : decode cX12_init 214 = .ok (.dup, 1) := by decide +kernel
theorem dX12_init_215 : decode cX12_init 215 = .ok (.bipush 6, 2) := by decide +kernel
theorem dX12_init_217 : decode cX12_init 217 = .ok (.bipush 108, 2) := by decide +kernel
theorem dX12_init_219 : decode cX12_init 219 = .ok (.iastore, 1) := by decide +kernel
theorem dX12_init_220 : decode cX12_init 220 = .ok (.dup, 1) := by decide +kernel
theorem dX12_init_221 : decode cX12_init 221 = .ok (.bipush 7, 2) := by decide +kernel
theorem dX12_init_223 : decode cX12_init 223 = .ok (.bipush 97, 2) := by decide +kernel
theorem dX12_init_225 : decode cX12_init 225 = .ok (.iastore, 1) := by decide +kernel
theorem dX12_init_226 : decode cX12_init 226 = .ok (.dup, 1) := by decide +kernel
theorem dX12_init_227 : decode cX12_init 227 = .ok (.bipush 8, 2) := by decide +kernel
theorem dX12_init_229 : decode cX12_init 229 = .ok (.bipush 99, 2) := by decide +kernel
theorem dX12_init_231 : decode cX12_init 231 = .ok (.iastore, 1) := by decide +kernel
theorem dX12_init_232 : decode cX12_init 232 = .ok (.dup, 1) := by decide +kernel
theorem dX12_init_233 : decode cX12_init 233 = .ok (.bipush 9, 2) := by decide +kernel
theorem dX12_init_235 : decode cX12_init 235 = .ok (.bipush 107, 2) := by decide +kernel
theorem dX12_init_237 : decode cX12_init 237 = .ok (.iastore, 1) := by decide +kernel
theorem dX12_init_238 : decode cX12_init 238 = .ok (.dup, 1) := by decide +kernel
theorem dX12_init_239 : decode cX12_init 239 = .ok (.bipush 10, 2) := by decide +kernel
theorem dX12_init_241 : decode cX12_init 241 = .ok (.bipush 104, 2) := by decide +kernel
theorem dX12_init_243 : decode cX12_init 243 = .ok (.iastore, 1) := by decide +kernel
theorem dX12_init_244 : decode cX12_init 244 = .ok (.dup, 1) := by decide +kernel
theorem dX12_init_245 : decode cX12_init 245 = .ok (.bipush 11, 2) := by decide +kernel
theorem dX12_init_247 : decode cX12_init 247 = .ok (.bipush 101, 2) := by decide +kernel
theorem dX12_init_249 : decode cX12_init 249 = .ok (.iastore, 1) := by decide +kernel
theorem dX12_init_250 : decode cX12_init 250 = .ok (.dup, 1) := by decide +kernel
theorem dX12_init_251 : decode cX12_init 251 = .ok (.bipush 12, 2) := by decide +kernel
theorem dX12_init_253 : decode cX12_init 253 = .ok (.bipush 97, 2) := by decide +kernel
theorem dX12_init_255 : decode cX12_init 255 = .ok (.iastore, 1) := by decide +kernel
theorem dX12_init_256 : decode cX12_init 256 = .ok (.dup, 1) := by decide +kernel
theorem dX12_init_257 : decode cX12_init 257 = .ok (.bipush 13, 2) := by decide +kernel
theorem dX12_init_259 : decode cX12_init 259 = .ok (.bipush 112, 2) := by decide +kernel
theorem dX12_init_261 : decode cX12_init 261 = .ok (.iastore, 1) := by decide +kernel
theorem dX12_init_262 : decode cX12_init 262 = .ok (.dup, 1) := by decide +kernel
theorem dX12_init_263 : decode cX12_init 263 = .ok (.bipush 14, 2) := by decide +kernel
theorem dX12_init_265 : decode cX12_init 265 = .ok (.bipush 112, 2) := by decide +kernel
theorem dX12_init_267 : decode cX12_init 267 = .ok (.iastore, 1) := by decide +kernel
theorem dX12_init_268 : decode cX12_init 268 = .ok (.dup, 1) := by decide +kernel
theorem dX12_init_269 : decode cX12_init 269 = .ok (.bipush 15, 2) := by decide +kernel
theorem dX12_init_271 : decode cX12_init 271 = .ok (.bipush 111, 2) := by decide +kernel
theorem dX12_init_273 : decode cX12_init 273 = .ok (.iastore, 1) := by decide +kernel
theorem dX12_init_274 : decode cX12_init 274 = .ok (.dup, 1) := by decide +kernel
theorem dX12_init_275 : decode cX12_init 275 = .ok (.bipush 16, 2) := by decide +kernel
theorem dX12_init_277 : decode cX12_init 277 = .ok (.bipush 115, 2) := by decide +kernel
theorem dX12_init_279 : decode cX12_init 279 = .ok (.iastore, 1) := by decide +kernel
theorem dX12_init_280 : decode cX12_init 280 = .ok (.dup, 1) := by decide +kernel
theorem dX12_init_281 : decode cX12_init 281 = .ok (.bipush 17, 2) := by decide +kernel
theorem dX12_init_283 : decode cX12_init 283 = .ok (.bipush 116, 2) := by decide +kernel
theorem dX12_init_285 : decode cX12_init 285 = .ok (.iastore, 1) := by decide +kernel
theorem dX12_init_286 : decode cX12_init 286 = .ok (.putfield 89, 3) := by decide +kernel
theorem dX12_init_289 : decode cX12_init 289 = .ok (.aload_n 0, 1) := by decide +kernel
theorem dX12_init_290 : decode cX12_init 290 = .ok (.iconst (-1), 1) := by decide +kernel
theorem dX12_init_291 : decode cX12_init 291 = .ok (.putfield 92, 3) := by decide +kernel
theorem dX12_init_294 : decode cX12_init 294 = .ok (.aload_n 0, 1) := by decide +kernel
theorem dX12_init_295 : decode cX12_init 295 = .ok (.bipush 100, 2) := by decide +kernel
theorem dX12_init_297 : decode cX12_init 297 = .ok (.newarray .boolean, 2) := by decide +kernel
theorem dX12_init_299 : decode cX12_init 299 = .ok (.putfield 95, 3) := by decide +kernel
theorem dX12_init_302 : decode cX12_init 302 = .ok (.aload_n 0, 1) := by decide +kernel
theorem dX12_init_303 : decode cX12_init 303 = .ok (.ldc 99, 2) := by decide +kernel
theorem dX12_init_305 : decode cX12_init 305 = .ok (.putfield 100, 3) := by decide +kernel
theorem dX12_init_308 : decode cX12_init 308 = .ok (.aload_n 0, 1) := by decide +kernel
theorem dX12_init_309 : decode cX12_init 309 = .ok (.sipush 9999, 3) := by decide +kernel
theorem dX12_init_312 : decode cX12_init 312 = .ok (.putfield 103, 3) := by decide +kernel
theorem dX12_init_315 : decode cX12_init 315 = .ok (.aload_n 0, 1) := by decide +kernel
theorem dX12_init_316 : decode cX12_init 316 = .ok (.iconst 0, 1) := by decide +kernel
theorem dX12_init_317 : decode cX12_init 317 = .ok (.putfield 106, 3) := by decide +kernel
theorem dX12_init_320 : decode cX12_init 320 = .ok (.aload_n 0, 1) := by decide +kernel
theorem dX12_init_321 : decode cX12_init 321 = .ok (.iconst 0, 1) := by decide +kernel
theorem dX12_init_322 : decode cX12_init 322 = .ok (.putfield 109, 3) := by decide +kernel
theorem dX12_init_325 : decode cX12_init 325 = .ok (.aload_n 0, 1) := by decide +kernel
theorem dX12_init_326 : decode cX12_init 326 = .ok (.iconst 5, 1) := by decide +kernel
theorem dX12_init_327 : decode cX12_init 327 = .ok (.newarray .int, 2) := by decide +kernel
theorem dX12_init_329 : decode cX12_init 329 = .ok (.putfield 112, 3) := by decide +kernel
theorem dX12_init_332 : decode cX12_init 332 = .ok (.aload_n 0, 1) := by decide +kernel
theorem dX12_init_333 : decode cX12_init 333 = .ok (.bipush 6, 2) := by decide +kernel
theorem dX12_init_335 : decode cX12_init 335 = .ok (.newarray .int, 2) := by decide +kernel
theorem dX12_init_337 : decode cX12_init 337 = .ok (.putfield 115, 3) := by decide +kernel
theorem dX12_init_340 : decode cX12_init 340 = .ok (.aload_n 0, 1) := by decide +kernel
theorem dX12_init_341 : decode cX12_init 341 = .ok (.bipush 6, 2) := by decide +kernel
theorem dX12_init_343 : decode cX12_init 343 = .ok (.newarray .int, 2) := by decide +kernel
theorem dX12_init_345 : decode cX12_init 345 = .ok (.putfield 118, 3) := by decide +kernel
theorem dX12_init_348 : decode cX12_init 348 = .ok (.aload_n 0, 1) := by decide +kernel
theorem dX12_init_349 : decode cX12_init 349 = .ok (.bipush 6, 2) := by decide +kernel
theorem dX12_init_351 : decode cX12_init 351 = .ok (.newarray .int, 2) := by decide +kernel
theorem dX12_init_353 : decode cX12_init 353 = .ok (.putfield 121, 3) := by decide +kernel
theorem dX12_init_356 : decode cX12_init 356 = .ok (.aload_n 0, 1) := by decide +kernel
theorem dX12_init_357 : decode cX12_init 357 = .ok (.iconst 0, 1) := by decide +kernel
theorem dX12_init_358 : decode cX12_init 358 = .ok (.putfield 124, 3) := by decide +kernel
theorem dX12_init_361 : decode cX12_init 361 = .ok (.aload_n 0, 1) := by decide +kernel
theorem dX12_init_362 : decode cX12_init 362 = .ok (.iconst 5, 1) := by decide +kernel
theorem dX12_init_363 : decode cX12_init 363 = .ok (.newarray .int, 2) := by decide +kernel
theorem dX12_init_365 : decode cX12_init 365 = .ok (.putfield 127, 3) := by decide +kernel
theorem dX12_init_368 : decode cX12_init 368 = .ok (.aload_n 0, 1) := by decide +kernel
theorem dX12_init_369 : decode cX12_init 369 = .ok (.iconst 5, 1) := by decide +kernel
theorem dX12_init_370 : decode cX12_init 370 = .ok (.newarray .int, 2) := by decide +kernel
theorem dX12_init_372 : decode cX12_init 372 = .ok (.putfield 130, 3) := by decide +kernel
theorem dX12_init_375 : decode cX12_init 375 = .ok (.aload_n 0, 1) := by decide +kernel
theorem dX12_init_376 : decode cX12_init 376 = .ok (.iconst 5, 1) := by decide +kernel
theorem dX12_init_377 : decode cX12_init 377 = .ok (.newarray .int, 2) := by decide +kernel
theorem dX12_init_379 : decode cX12_init 379 = .ok (.putfield 133, 3) := by decide +kernel
theorem dX12_init_382 : decode cX12_init 382 = .ok (.aload_n 0, 1) := by decide +kernel
theorem dX12_init_383 : decode cX12_init 383 = .ok (.iconst 0, 1) := by decide +kernel
theorem dX12_init_384 : decode cX12_init 384 = .ok (.putfield 136, 3) := by decide +kernel
theorem dX12_init_387 : decode cX12_init 387 = .ok (.aload_n 0, 1) := by decide +kernel
theorem dX12_init_388 : decode cX12_init 388 = .ok (.iconst 0, 1) := by decide +kernel
theorem dX12_init_389 : decode cX12_init 389 = .ok (.putfield 139, 3) := by decide +kernel
theorem dX12_init_392 : decode cX12_init 392 = .ok (.aload_n 0, 1) := by decide +kernel
theorem dX12_init_393 : decode cX12_init 393 = .ok (.bipush 10, 2) := by decide +kernel
theorem dX12_init_395 : decode cX12_init 395 = .ok (.newarray .int, 2) := by decide +kernel
theorem dX12_init_397 : decode cX12_init 397 = .ok (.putfield 142, 3) := by decide +kernel
theorem dX12_init_400 : decode cX12_init 400 = .ok (.aload_n 0, 1) := by decide +kernel
theorem dX12_init_401 : decode cX12_init 401 = .ok (.bipush 10, 2) := by decide +kernel
theorem dX12_init_403 : decode cX12_init 403 = .ok (.newarray .int, 2) := by decide +kernel
theorem dX12_init_405 : decode cX12_init 405 = .ok (.putfield 145, 3) := by decide +kernel
theorem dX12_init_408 : decode cX12_init 408 = .ok (.aload_n 0, 1) := by decide +kernel
theorem dX12_init_409 : decode cX12_init 409 = .ok (.bipush 8, 2) := by decide +kernel
theorem dX12_init_411 : decode cX12_init 411 = .ok (.newarray .int, 2) := by decide +kernel
theorem dX12_init_413 : decode cX12_init 413 = .ok (.putfield 148, 3) := by decide +kernel
theorem dX12_init_416 : decode cX12_init 416 = .ok (.aload_n 0, 1) := by decide +kernel
theorem dX12_init_417 : decode cX12_init 417 = .ok (.bipush 8, 2) := by decide +kernel
theorem dX12_init_419 : decode cX12_init 419 = .ok (.newarray .int, 2) := by decide +kernel
theorem dX12_init_421 : decode cX12_init 421 = .ok (.putfield 151, 3) := by decide +kernel
theorem dX12_init_424 : decode cX12_init 424 = .ok (.aload_n 0, 1) := by decide +kernel
theorem dX12_init_425 : decode cX12_init 425 = .ok (.iconst 0, 1) := by decide +kernel
theorem dX12_init_426 : decode cX12_init 426 = .ok (.putfield 154, 3) := by decide +kernel
theorem dX12_init_429 : decode cX12_init 429 = .ok (.aload_n 0, 1) := by decide +kernel
theorem dX12_init_430 : decode cX12_init 430 = .ok (.iconst (-1), 1) := by decide +kernel
theorem dX12_init_431 : decode cX12_init 431 = .ok (.putfield 158, 3) := by decide +kernel
theorem dX12_init_434 : decode cX12_init 434 = .ok (.aload_n 0, 1) := by decide +kernel
theorem dX12_init_435 : decode cX12_init 435 = .ok (.iconst 0, 1) := by decide +kernel
theorem dX12_init_436 : decode cX12_init 436 = .ok (.putfield 161, 3) := by decide +kernel
theorem dX12_init_439 : decode cX12_init 439 = .ok (.aload_n 0, 1) := by decide +kernel
theorem dX12_init_440 : decode cX12_init 440 = .ok (.iconst 0, 1) := by decide +kernel
theorem dX12_init_441 : decode cX12_init 441 = .ok (.putfield 164, 3) := by decide +kernel
theorem dX12_init_444 : decode cX12_init 444 = .ok (.aload_n 0, 1) := by decide +kernel
theorem dX12_init_445 : decode cX12_init 445 = .ok (.iconst 0, 1) := by decide +kernel
theorem dX12_init_446 : decode cX12_init 446 = .ok (.putfield 167, 3) := by decide +kernel
theorem dX12_init_449 : decode cX12_init 449 = .ok (.aload_n 0, 1) := by decide +kernel
theorem dX12_init_450 : decode cX12_init 450 = .ok (.iconst 0, 1) := by decide +kernel
theorem dX12_init_451 : decode cX12_init 451 = .ok (.putfield 170, 3) := by decide +kernel
theorem dX12_init_454 : decode cX12_init 454 = .ok (.aload_n 0, 1) := by decide +kernel
theorem dX12_init_455 : decode cX12_init 455 = .ok (.iconst 0, 1) := by decide +kernel
theorem dX12_init_456 : decode cX12_init 456 = .ok (.putfield 173, 3) := by decide +kernel
theorem dX12_init_459 : decode cX12_init 459 = .ok (.aload_n 0, 1) := by decide +kernel
theorem dX12_init_460 : decode cX12_init 460 = .ok (.iconst 0, 1) := by decide +kernel
theorem dX12_init_461 : decode cX12_init 461 = .ok (.putfield 176, 3) := by decide +kernel
theorem dX12_init_464 : decode cX12_init 464 = .ok (.aload_n 0, 1) := by decide +kernel
theorem dX12_init_465 : decode cX12_init 465 = .ok (.iconst 5, 1) := by decide +kernel
theorem dX12_init_466 : decode cX12_init 466 = .ok (.newarray .int, 2) := by decide +kernel
theorem dX12_init_468 : decode cX12_init 468 = .ok (.putfield 179, 3) := by decide +kernel
theorem dX12_init_471 : decode cX12_init 471 = .ok (.aload_n 0, 1) := by decide +kernel
theorem dX12_init_472 : decode cX12_init 472 = .ok (.bipush 6, 2) := by decide +kernel
theorem dX12_init_474 : decode cX12_init 474 = .ok (.newarray .int, 2) := by decide +kernel
theorem dX12_init_476 : decode cX12_init 476 = .ok (.putfield 182, 3) := by decide +kernel
theorem dX12_init_479 : decode cX12_init 479 = .ok (.aload_n 0, 1) := by decide +kernel
theorem dX12_init_480 : decode cX12_init 480 = .ok (.bipush 6, 2) := by decide +kernel
theorem dX12_init_482 : decode cX12_init 482 = .ok (.newarray .int, 2) := by decide +kernel
theorem dX12_init_484 : decode cX12_init 484 = .ok (.putfield 185, 3) := by decide +kernel
theorem dX12_init_487 : decode cX12_init 487 = .ok (.aload_n 0, 1) := by decide +kernel
theorem dX12_init_488 : decode cX12_init 488 = .ok (.bipush 6, 2) := by decide +kernel
theorem dX12_init_490 : decode cX12_init 490 = .ok (.newarray .int, 2) := by decide +kernel
theorem dX12_init_492 : decode cX12_init 492 = .ok (.putfield 188, 3) := by decide +kernel
theorem dX12_init_495 : decode cX12_init 495 = .ok (.aload_n 0, 1) := by decide +kernel
theorem dX12_init_496 : decode cX12_init 496 = .ok (.bipush 6, 2) := by decide +kernel
theorem dX12_init_498 : decode cX12_init 498 = .ok (.newarray .int, 2) := by decide +kernel
theorem dX12_init_500 : decode cX12_init 500 = .ok (.putfield 191, 3) := by decide +kernel
theorem dX12_init_503 : decode cX12_init 503 = .ok (.aload_n 0, 1) := by decide +kernel
theorem dX12_init_504 : decode cX12_init 504 = .ok (.bipush 6, 2) := by decide +kernel
theorem dX12_init_506 : decode cX12_init 506 = .ok (.newarray .int, 2) := by decide +kernel
theorem dX12_init_508 : decode cX12_init 508 = .ok (.putfield 194, 3) := by decide +kernel
theorem dX12_init_511 : decode cX12_init 511 = .ok (.aload_n 0, 1) := by decide +kernel
theorem dX12_init_512 : decode cX12_init 512 = .ok (.bipush 24, 2) := by decide +kernel
theorem dX12_init_514 : decode cX12_init 514 = .ok (.newarray .int, 2) := by decide +kernel
theorem dX12_init_516 : decode cX12_init 516 = .ok (.putfield 197, 3) := by decide +kernel
theorem dX12_init_519 : decode cX12_init 519 = .ok (.aload_n 0, 1) := by decide +kernel
theorem dX12_init_520 : decode cX12_init 520 = .ok (.iconst 5, 1) := by decide +kernel
theorem dX12_init_521 : decode cX12_init 521 = .ok (.newarray .int, 2) := by decide +kernel
theorem dX12_init_523 : decode cX12_init 523 = .ok (.putfield 200, 3) := by decide +kernel
theorem dX12_init_526 : decode cX12_init 526 = .ok (.aload_n 0, 1) := by decide +kernel
theorem dX12_init_527 : decode cX12_init 527 = .ok (.iconst 5, 1) := by decide +kernel
theorem dX12_init_528 : decode cX12_init 528 = .ok (.newarray .int, 2) := by decide +kernel
theorem dX12_init_530 : decode cX12_init 530 = .ok (.putfield 203, 3) := by decide +kernel
theorem dX12_init_533 : decode cX12_init 533 = .ok (.aload_n 0, 1) := by decide +kernel
theorem dX12_init_534 : decode cX12_init 534 = .ok (.iconst 5, 1) := by decide +kernel
theorem dX12_init_535 : decode cX12_init 535 = .ok (.newarray .int, 2) := by decide +kernel
theorem dX12_init_537 : decode cX12_init 537 = .ok (.putfield 206, 3) := by decide +kernel
theorem dX12_init_540 : decode cX12_init 540 = .ok (.aload_n 0, 1) := by decide +kernel
theorem dX12_init_541 : decode cX12_init 541 = .ok (.bipush 10, 2) := by decide +kernel
theorem dX12_init_543 : decode cX12_init 543 = .ok (.newarray .int, 2) := by decide +kernel
theorem dX12_init_545 : decode cX12_init 545 = .ok (.putfield 209, 3) := by decide +kernel
theorem dX12_init_548 : decode cX12_init 548 = .ok (.aload_n 0, 1) := by decide +kernel
theorem dX12_init_549 : decode cX12_init 549 = .ok (.bipush 10, 2) := by decide +kernel
theorem dX12_init_551 : decode cX12_init 551 = .ok (.newarray .int, 2) := by decide +kernel
theorem dX12_init_553 : decode cX12_init 553 = .ok (.putfield 212, 3) := by decide +kernel
theorem dX12_init_556 : decode cX12_init 556 = .ok (.aload_n 0, 1) := by decide +kernel
theorem dX12_init_557 : decode cX12_init 557 = .ok (.bipush 8, 2) := by decide +kernel
theorem dX12_init_559 : decode cX12_init 559 = .ok (.newarray .int, 2) := by decide +kernel
theorem dX12_init_561 : decode cX12_init 561 = .ok (.putfield 215, 3) := by decide +kernel
theorem dX12_init_564 : decode cX12_init 564 = .ok (.aload_n 0, 1) := by decide +kernel
theorem dX12_init_565 : decode cX12_init 565 = .ok (.bipush 8, 2) := by decide +kernel
theorem dX12_init_567 : decode cX12_init 567 = .ok (.newarray .int, 2) := by decide +kernel
theorem dX12_init_569 : decode cX12_init 569 = .ok (.putfield 218, 3) := by decide +kernel
theorem dX12_init_572 : decode cX12_init 572 = .ok (.aload_n 0, 1) := by decide +kernel
theorem dX12_init_573 : decode cX12_init 573 = .ok (.iconst 0, 1) := by decide +kernel
theorem dX12_init_574 : decode cX12_init 574 = .ok (.putfield 221, 3) := by decide +kernel
theorem dX12_init_577 : decode cX12_init 577 = .ok (.aload_n 0, 1) := by decide +kernel
theorem dX12_init_578 : decode cX12_init 578 = .ok (.bipush 20, 2) := by decide +kernel
theorem dX12_init_580 : decode cX12_init 580 = .ok (.newarray .int, 2) := by decide +kernel
theorem dX12_init_582 : decode cX12_init 582 = .ok (.putfield 224, 3) := by decide +kernel
theorem dX12_init_585 : decode cX12_init 585 = .ok (.aload_n 0, 1) := by decide +kernel
theorem dX12_init_586 : decode cX12_init 586 = .ok (.bipush 6, 2) := by decide +kernel
theorem dX12_init_588 : decode cX12_init 588 = .ok (.newarray .int, 2) := by decide +kernel
theorem dX12_init_590 : decode cX12_init 590 = .ok (.dup, 1) := by decide +kernel
theorem dX12_init_591 : decode cX12_init 591 = .ok (.iconst 0, 1) := by decide +kernel
theorem dX12_init_592 : decode cX12_init 592 = .ok (.iconst (-1), 1) := by decide +kernel
theorem dX12_init_593 : decode cX12_init 593 = .ok (.iastore, 1) := by decide +kernel
theorem dX12_init_594 : decode cX12_init 594 = .ok (.dup, 1) := by decide +kernel
theorem dX12_init_595 : decode cX12_init 595 = .ok (.iconst 1, 1) := by decide +kernel
theorem dX12_init_596 : decode cX12_init 596 = .ok (.iconst (-1), 1) := by decide +kernel
theorem dX12_init_597 : decode cX12_init 597 = .ok (.iastore, 1) := by decide +kernel
theorem dX12_init_598 : decode cX12_init 598 = .ok (.dup, 1) := by decide +kernel
theorem dX12_init_599 : decode cX12_init 599 = .ok (.iconst 2, 1) := by decide +kernel
theorem dX12_init_600 : decode cX12_init 600 = .ok (.iconst (-1), 1) := by decide +kernel
theorem dX12_init_601 : decode cX12_init 601 = .ok (.iastore, 1) := by decide +kernel
theorem dX12_init_602 : decode cX12_init 602 = .ok (.dup, 1) := by decide +kernel
theorem dX12_init_603 : decode cX12_init 603 = .ok (.iconst 3, 1) := by decide +kernel
theorem dX12_init_604 : decode cX12_init 604 = .ok (.iconst (-1), 1) := by decide +kernel
theorem dX12_init_605 : decode cX12_init 605 = .ok (.iastore, 1) := by decide +kernel
theorem dX12_init_606 : decode cX12_init 606 = .ok (.dup, 1) := by decide +kernel
theorem dX12_init_607 : decode cX12_init 607 = .ok (.iconst 4, 1) := by decide +kernel
theorem dX12_init_608 : decode cX12_init 608 = .ok (.iconst (-1), 1) := by decide +kernel
theorem dX12_init_609 : decode cX12_init 609 = .ok (.iastore, 1) := by decide +kernel
theorem dX12_init_610 : decode cX12_init 610 = .ok (.dup, 1) := by decide +kernel
theorem dX12_init_611 : decode cX12_init 611 = .ok (.iconst 5, 1) := by decide +kernel
theorem dX12_init_612 : decode cX12_init 612 = .ok (.iconst (-1), 1) := by decide +kernel
theorem dX12_init_613 : decode cX12_init 613 = .ok (.iastore, 1) := by decide +kernel
theorem dX12_init_614 : decode cX12_init 614 = .ok (.putfield 227, 3) := by decide +kernel
theorem dX12_init_617 : decode cX12_init 617 = .ok (.aload_n 0, 1) := by decide +kernel
theorem dX12_init_618 : decode cX12_init 618 = .ok (.bipush 6, 2) := by decide +kernel
theorem dX12_init_620 : decode cX12_init 620 = .ok (.newarray .int, 2) := by decide +kernel
theorem dX12_init_622 : decode cX12_init 622 = .ok (.putfield 230, 3) := by decide +kernel
theorem dX12_init_625 : decode cX12_init 625 = .ok (.aload_n 0, 1) := by decide +kernel
theorem dX12_init_626 : decode cX12_init 626 = .ok (.sipush 360, 3) := by decide +kernel
theorem dX12_init_629 : decode cX12_init 629 = .ok (.newarray .long, 2) := by decide +kernel
theorem dX12_init_631 : decode cX12_init 631 = .ok (.putfield 233, 3) := by decide +kernel
theorem dX12_init_634 : decode cX12_init 634 = .ok (.aload_n 0, 1) := by decide +kernel
theorem dX12_init_635 : decode cX12_init 635 = .ok (.bipush 60, 2) := by decide +kernel
theorem dX12_init_637 : decode cX12_init 637 = .ok (.newarray .long, 2) := by decide +kernel
theorem dX12_init_639 : decode cX12_init 639 = .ok (.putfield 237, 3) := by decide +kernel
theorem dX12_init_642 : decode cX12_init 642 = .ok (.return_, 1) := by decide +kernel
noncomputable def C_X12_init : List (Nat × qOp) := [(0, qo_aload 0 1),
  (1, qo_oinit),
  (4, qo_aload 0 1),
  (5, qo_ci 0 1),
  (6, qo_putI 12 0),
  (9, qo_aload 0 1),
  (10, qo_ci 0 1),
  (11, qo_putI 12 1),
  (14, qo_aload 0 1),
  (15, qo_ci 0 1),
  (16, qo_putI 12 2),
  (19, qo_aload 0 1),
  (20, qo_ci 5 1),
  (21, qo_newa 100),
  (23, qo_putR 12 3),
  (26, qo_aload 0 1),
  (27, qo_ci 6 2),
  (29, qo_newa 100),
  (31, qo_putR 12 4),
  (34, qo_aload 0 1),
  (35, qo_ci 6 2),
  (37, qo_newa 100),
  (39, qo_putR 12 5),
  (42, qo_aload 0 1),
  (43, qo_ci 6 2),
  (45, qo_newa 100),
  (47, qo_putR 12 6),
  (50, qo_aload 0 1),
  (51, qo_ci 6 2),
  (53, qo_newa 100),
  (55, qo_putR 12 7),
  (58, qo_aload 0 1),
  (59, qo_ci 6 2),
  (61, qo_newa 100),
  (63, qo_putR 12 8),
  (66, qo_aload 0 1),
  (67, qo_ci 24 2),
  (69, qo_newa 100),
  (71, qo_putR 12 9),
  (74, qo_aload 0 1),
  (75, qo_ci 0 1),
  (76, qo_putI 12 10),
  (79, qo_aload 0 1),
  (80, qo_ci (-1) 1),
  (81, qo_putI 12 11),
  (84, qo_aload 0 1),
  (85, qo_ci 0 1),
  (86, qo_putI 12 12),
  (89, qo_aload 0 1),
  (90, qo_ci 0 1),
  (91, qo_putI 12 13),
  (94, qo_aload 0 1),
  (95, qo_ci 0 1),
  (96, qo_putI 12 14),
  (99, qo_aload 0 1),
  (100, qo_ci 100 2),
  (102, qo_newa 100),
  (104, qo_putR 12 15),
  (107, qo_aload 0 1),
  (108, qo_ci 6 2),
  (110, qo_newa 100),
  (112, qo_putR 12 16),
  (115, qo_aload 0 1),
  (116, qo_ci 60 2),
  (118, qo_newa 100),
  (120, qo_putR 12 17),
  (123, qo_aload 0 1),
  (124, qo_ci 60 2),
  (126, qo_newa 100),
  (128, qo_putR 12 18),
  (131, qo_aload 0 1),
  (132, qo_ci 60 2),
  (134, qo_newa 100),
  (136, qo_putR 12 19),
  (139, qo_aload 0 1),
  (140, qo_ci 60 2),
  (142, qo_newa 100),
  (144, qo_putR 12 20),
  (147, qo_aload 0 1),
  (148, qo_ci 600 3),
  (151, qo_newa 100),
  (153, qo_putR 12 21),
  (156, qo_aload 0 1),
  (157, qo_ci 101 2),
  (159, qo_newa 100),
  (161, qo_putR 12 22),
  (164, qo_aload 0 1),
  (165, qo_ci 0 1),
  (166, qo_putI 12 23),
  (169, qo_aload 0 1),
  (170, qo_ci 0 1),
  (171, qo_putI 12 24),
  (174, qo_aload 0 1),
  (175, qo_ci 0 1),
  (176, qo_putI 12 25),
  (179, qo_aload 0 1),
  (180, qo_ci 18 2),
  (182, qo_newa 100),
  (184, qo_dup),
  (185, qo_ci 0 1),
  (186, qo_ci 98 2),
  (188, qo_iastore),
  (189, qo_dup),
  (190, qo_ci 1 1),
  (191, qo_ci 114 2),
  (193, qo_iastore),
  (194, qo_dup),
  (195, qo_ci 2 1),
  (196, qo_ci 105 2),
  (198, qo_iastore),
  (199, qo_dup),
  (200, qo_ci 3 1),
  (201, qo_ci 115 2),
  (203, qo_iastore),
  (204, qo_dup),
  (205, qo_ci 4 1),
  (206, qo_ci 107 2),
  (208, qo_iastore),
  (209, qo_dup),
  (210, qo_ci 5 1),
  (211, qo_ci 115 2),
  (213, qo_iastore),
  (214, qo_dup),
  (215, qo_ci 6 2),
  (217, qo_ci 108 2),
  (219, qo_iastore),
  (220, qo_dup),
  (221, qo_ci 7 2),
  (223, qo_ci 97 2),
  (225, qo_iastore),
  (226, qo_dup),
  (227, qo_ci 8 2),
  (229, qo_ci 99 2),
  (231, qo_iastore),
  (232, qo_dup),
  (233, qo_ci 9 2),
  (235, qo_ci 107 2),
  (237, qo_iastore),
  (238, qo_dup),
  (239, qo_ci 10 2),
  (241, qo_ci 104 2),
  (243, qo_iastore),
  (244, qo_dup),
  (245, qo_ci 11 2),
  (247, qo_ci 101 2),
  (249, qo_iastore),
  (250, qo_dup),
  (251, qo_ci 12 2),
  (253, qo_ci 97 2),
  (255, qo_iastore),
  (256, qo_dup),
  (257, qo_ci 13 2),
  (259, qo_ci 112 2),
  (261, qo_iastore),
  (262, qo_dup),
  (263, qo_ci 14 2),
  (265, qo_ci 112 2),
  (267, qo_iastore),
  (268, qo_dup),
  (269, qo_ci 15 2),
  (271, qo_ci 111 2),
  (273, qo_iastore),
  (274, qo_dup),
  (275, qo_ci 16 2),
  (277, qo_ci 115 2),
  (279, qo_iastore),
  (280, qo_dup),
  (281, qo_ci 17 2),
  (283, qo_ci 116 2),
  (285, qo_iastore),
  (286, qo_putR 12 26),
  (289, qo_aload 0 1),
  (290, qo_ci (-1) 1),
  (291, qo_putI 12 27),
  (294, qo_aload 0 1),
  (295, qo_ci 100 2),
  (297, qo_newa 102),
  (299, qo_putR 12 28),
  (302, qo_aload 0 1),
  (303, qo_ci 99999 2),
  (305, qo_putI 12 29),
  (308, qo_aload 0 1),
  (309, qo_ci 9999 3),
  (312, qo_putI 12 30),
  (315, qo_aload 0 1),
  (316, qo_ci 0 1),
  (317, qo_putI 12 31),
  (320, qo_aload 0 1),
  (321, qo_ci 0 1),
  (322, qo_putI 12 32),
  (325, qo_aload 0 1),
  (326, qo_ci 5 1),
  (327, qo_newa 100),
  (329, qo_putR 12 33),
  (332, qo_aload 0 1),
  (333, qo_ci 6 2),
  (335, qo_newa 100),
  (337, qo_putR 12 34),
  (340, qo_aload 0 1),
  (341, qo_ci 6 2),
  (343, qo_newa 100),
  (345, qo_putR 12 35),
  (348, qo_aload 0 1),
  (349, qo_ci 6 2),
  (351, qo_newa 100),
  (353, qo_putR 12 36),
  (356, qo_aload 0 1),
  (357, qo_ci 0 1),
  (358, qo_putI 12 37),
  (361, qo_aload 0 1),
  (362, qo_ci 5 1),
  (363, qo_newa 100),
  (365, qo_putR 12 38),
  (368, qo_aload 0 1),
  (369, qo_ci 5 1),
  (370, qo_newa 100),
  (372, qo_putR 12 39),
  (375, qo_aload 0 1),
  (376, qo_ci 5 1),
  (377, qo_newa 100),
  (379, qo_putR 12 40),
  (382, qo_aload 0 1),
  (383, qo_ci 0 1),
  (384, qo_putI 12 41),
  (387, qo_aload 0 1),
  (388, qo_ci 0 1),
  (389, qo_putI 12 42),
  (392, qo_aload 0 1),
  (393, qo_ci 10 2),
  (395, qo_newa 100),
  (397, qo_putR 12 43),
  (400, qo_aload 0 1),
  (401, qo_ci 10 2),
  (403, qo_newa 100),
  (405, qo_putR 12 44),
  (408, qo_aload 0 1),
  (409, qo_ci 8 2),
  (411, qo_newa 100),
  (413, qo_putR 12 45),
  (416, qo_aload 0 1),
  (417, qo_ci 8 2),
  (419, qo_newa 100),
  (421, qo_putR 12 46),
  (424, qo_aload 0 1),
  (425, qo_ci 0 1),
  (426, qo_putZ 12 47),
  (429, qo_aload 0 1),
  (430, qo_ci (-1) 1),
  (431, qo_putI 12 48),
  (434, qo_aload 0 1),
  (435, qo_ci 0 1),
  (436, qo_putI 12 49),
  (439, qo_aload 0 1),
  (440, qo_ci 0 1),
  (441, qo_putI 12 50),
  (444, qo_aload 0 1),
  (445, qo_ci 0 1),
  (446, qo_putI 12 51),
  (449, qo_aload 0 1),
  (450, qo_ci 0 1),
  (451, qo_putI 12 52),
  (454, qo_aload 0 1),
  (455, qo_ci 0 1),
  (456, qo_putI 12 53),
  (459, qo_aload 0 1),
  (460, qo_ci 0 1),
  (461, qo_putI 12 54),
  (464, qo_aload 0 1),
  (465, qo_ci 5 1),
  (466, qo_newa 100),
  (468, qo_putR 12 55),
  (471, qo_aload 0 1),
  (472, qo_ci 6 2),
  (474, qo_newa 100),
  (476, qo_putR 12 56),
  (479, qo_aload 0 1),
  (480, qo_ci 6 2),
  (482, qo_newa 100),
  (484, qo_putR 12 57),
  (487, qo_aload 0 1),
  (488, qo_ci 6 2),
  (490, qo_newa 100),
  (492, qo_putR 12 58),
  (495, qo_aload 0 1),
  (496, qo_ci 6 2),
  (498, qo_newa 100),
  (500, qo_putR 12 59),
  (503, qo_aload 0 1),
  (504, qo_ci 6 2),
  (506, qo_newa 100),
  (508, qo_putR 12 60),
  (511, qo_aload 0 1),
  (512, qo_ci 24 2),
  (514, qo_newa 100),
  (516, qo_putR 12 61),
  (519, qo_aload 0 1),
  (520, qo_ci 5 1),
  (521, qo_newa 100),
  (523, qo_putR 12 62),
  (526, qo_aload 0 1),
  (527, qo_ci 5 1),
  (528, qo_newa 100),
  (530, qo_putR 12 63),
  (533, qo_aload 0 1),
  (534, qo_ci 5 1),
  (535, qo_newa 100),
  (537, qo_putR 12 64),
  (540, qo_aload 0 1),
  (541, qo_ci 10 2),
  (543, qo_newa 100),
  (545, qo_putR 12 65),
  (548, qo_aload 0 1),
  (549, qo_ci 10 2),
  (551, qo_newa 100),
  (553, qo_putR 12 66),
  (556, qo_aload 0 1),
  (557, qo_ci 8 2),
  (559, qo_newa 100),
  (561, qo_putR 12 67),
  (564, qo_aload 0 1),
  (565, qo_ci 8 2),
  (567, qo_newa 100),
  (569, qo_putR 12 68),
  (572, qo_aload 0 1),
  (573, qo_ci 0 1),
  (574, qo_putI 12 69),
  (577, qo_aload 0 1),
  (578, qo_ci 20 2),
  (580, qo_newa 100),
  (582, qo_putR 12 70),
  (585, qo_aload 0 1),
  (586, qo_ci 6 2),
  (588, qo_newa 100),
  (590, qo_dup),
  (591, qo_ci 0 1),
  (592, qo_ci (-1) 1),
  (593, qo_iastore),
  (594, qo_dup),
  (595, qo_ci 1 1),
  (596, qo_ci (-1) 1),
  (597, qo_iastore),
  (598, qo_dup),
  (599, qo_ci 2 1),
  (600, qo_ci (-1) 1),
  (601, qo_iastore),
  (602, qo_dup),
  (603, qo_ci 3 1),
  (604, qo_ci (-1) 1),
  (605, qo_iastore),
  (606, qo_dup),
  (607, qo_ci 4 1),
  (608, qo_ci (-1) 1),
  (609, qo_iastore),
  (610, qo_dup),
  (611, qo_ci 5 1),
  (612, qo_ci (-1) 1),
  (613, qo_iastore),
  (614, qo_putR 12 71),
  (617, qo_aload 0 1),
  (618, qo_ci 6 2),
  (620, qo_newa 100),
  (622, qo_putR 12 72),
  (625, qo_aload 0 1),
  (626, qo_ci 360 3),
  (629, qo_newa 103),
  (631, qo_putR 12 73),
  (634, qo_aload 0 1),
  (635, qo_ci 60 2),
  (637, qo_newa 103),
  (639, qo_putR 12 74),
  (642, qo_ret none 0)]
noncomputable def S_X12_init : qSem := qM 1 C_X12_init
set_option maxRecDepth 20000 in
theorem K_X12_init {X : qX} {l : Launch} : ∀ q ∈ C_X12_init, qOk X l 1 cX12_init 1 RX12 "<init>" none q.1 q.2 := by
  unfold C_X12_init
  refine qcons (qk_aload_n dX12_init_0 rfl) ?_
  refine qcons (qk_oinit (by decide) tw_850 tw_103 tw_104 dX12_init_1) ?_
  refine qcons (qk_aload_n dX12_init_4 rfl) ?_
  refine qcons (qk_iconst dX12_init_5 (by decide)) ?_
  refine qcons (qk_putI (ty := .int) fd_X12_7 tyX12_ok nmX12 (Or.inl rfl) kd_12_0 (tyX12_ok 0 (by decide)) dX12_init_6) ?_
  refine qcons (qk_aload_n dX12_init_9 rfl) ?_
  refine qcons (qk_iconst dX12_init_10 (by decide)) ?_
  refine qcons (qk_putI (ty := .int) fd_X12_13 tyX12_ok nmX12 (Or.inl rfl) kd_12_1 (tyX12_ok 1 (by decide)) dX12_init_11) ?_
  refine qcons (qk_aload_n dX12_init_14 rfl) ?_
  refine qcons (qk_iconst dX12_init_15 (by decide)) ?_
  refine qcons (qk_putI (ty := .int) fd_X12_16 tyX12_ok nmX12 (Or.inl rfl) kd_12_2 (tyX12_ok 2 (by decide)) dX12_init_16) ?_
  refine qcons (qk_aload_n dX12_init_19 rfl) ?_
  refine qcons (qk_iconst dX12_init_20 (by decide)) ?_
  refine qcons (qk_newa (atype := .int) (ty := .int) rfl (Or.inl ⟨rfl, rfl⟩) tw_188 dX12_init_21) ?_
  refine qcons (qk_putR fd_X12_19 tyX12_ok nmX12 (Or.inr ⟨rfl, rfl, rfl⟩) kd_12_3 (tyX12_ok 3 (by decide)) (Or.inr ⟨_, rfl⟩) dX12_init_23) ?_
  refine qcons (qk_aload_n dX12_init_26 rfl) ?_
  refine qcons (qk_bipush dX12_init_27 (by decide) (by decide)) ?_
  refine qcons (qk_newa (atype := .int) (ty := .int) rfl (Or.inl ⟨rfl, rfl⟩) tw_188 dX12_init_29) ?_
  refine qcons (qk_putR fd_X12_23 tyX12_ok nmX12 (Or.inr ⟨rfl, rfl, rfl⟩) kd_12_4 (tyX12_ok 4 (by decide)) (Or.inr ⟨_, rfl⟩) dX12_init_31) ?_
  refine qcons (qk_aload_n dX12_init_34 rfl) ?_
  refine qcons (qk_bipush dX12_init_35 (by decide) (by decide)) ?_
  refine qcons (qk_newa (atype := .int) (ty := .int) rfl (Or.inl ⟨rfl, rfl⟩) tw_188 dX12_init_37) ?_
  refine qcons (qk_putR fd_X12_26 tyX12_ok nmX12 (Or.inr ⟨rfl, rfl, rfl⟩) kd_12_5 (tyX12_ok 5 (by decide)) (Or.inr ⟨_, rfl⟩) dX12_init_39) ?_
  refine qcons (qk_aload_n dX12_init_42 rfl) ?_
  refine qcons (qk_bipush dX12_init_43 (by decide) (by decide)) ?_
  refine qcons (qk_newa (atype := .int) (ty := .int) rfl (Or.inl ⟨rfl, rfl⟩) tw_188 dX12_init_45) ?_
  refine qcons (qk_putR fd_X12_29 tyX12_ok nmX12 (Or.inr ⟨rfl, rfl, rfl⟩) kd_12_6 (tyX12_ok 6 (by decide)) (Or.inr ⟨_, rfl⟩) dX12_init_47) ?_
  refine qcons (qk_aload_n dX12_init_50 rfl) ?_
  refine qcons (qk_bipush dX12_init_51 (by decide) (by decide)) ?_
  refine qcons (qk_newa (atype := .int) (ty := .int) rfl (Or.inl ⟨rfl, rfl⟩) tw_188 dX12_init_53) ?_
  refine qcons (qk_putR fd_X12_32 tyX12_ok nmX12 (Or.inr ⟨rfl, rfl, rfl⟩) kd_12_7 (tyX12_ok 7 (by decide)) (Or.inr ⟨_, rfl⟩) dX12_init_55) ?_
  refine qcons (qk_aload_n dX12_init_58 rfl) ?_
  refine qcons (qk_bipush dX12_init_59 (by decide) (by decide)) ?_
  refine qcons (qk_newa (atype := .int) (ty := .int) rfl (Or.inl ⟨rfl, rfl⟩) tw_188 dX12_init_61) ?_
  refine qcons (qk_putR fd_X12_35 tyX12_ok nmX12 (Or.inr ⟨rfl, rfl, rfl⟩) kd_12_8 (tyX12_ok 8 (by decide)) (Or.inr ⟨_, rfl⟩) dX12_init_63) ?_
  refine qcons (qk_aload_n dX12_init_66 rfl) ?_
  refine qcons (qk_bipush dX12_init_67 (by decide) (by decide)) ?_
  refine qcons (qk_newa (atype := .int) (ty := .int) rfl (Or.inl ⟨rfl, rfl⟩) tw_188 dX12_init_69) ?_
  refine qcons (qk_putR fd_X12_38 tyX12_ok nmX12 (Or.inr ⟨rfl, rfl, rfl⟩) kd_12_9 (tyX12_ok 9 (by decide)) (Or.inr ⟨_, rfl⟩) dX12_init_71) ?_
  refine qcons (qk_aload_n dX12_init_74 rfl) ?_
  refine qcons (qk_iconst dX12_init_75 (by decide)) ?_
  refine qcons (qk_putI (ty := .int) fd_X12_41 tyX12_ok nmX12 (Or.inl rfl) kd_12_10 (tyX12_ok 10 (by decide)) dX12_init_76) ?_
  refine qcons (qk_aload_n dX12_init_79 rfl) ?_
  refine qcons (qk_iconst dX12_init_80 (by decide)) ?_
  refine qcons (qk_putI (ty := .int) fd_X12_44 tyX12_ok nmX12 (Or.inl rfl) kd_12_11 (tyX12_ok 11 (by decide)) dX12_init_81) ?_
  refine qcons (qk_aload_n dX12_init_84 rfl) ?_
  refine qcons (qk_iconst dX12_init_85 (by decide)) ?_
  refine qcons (qk_putI (ty := .int) fd_X12_47 tyX12_ok nmX12 (Or.inl rfl) kd_12_12 (tyX12_ok 12 (by decide)) dX12_init_86) ?_
  refine qcons (qk_aload_n dX12_init_89 rfl) ?_
  refine qcons (qk_iconst dX12_init_90 (by decide)) ?_
  refine qcons (qk_putI (ty := .int) fd_X12_50 tyX12_ok nmX12 (Or.inl rfl) kd_12_13 (tyX12_ok 13 (by decide)) dX12_init_91) ?_
  refine qcons (qk_aload_n dX12_init_94 rfl) ?_
  refine qcons (qk_iconst dX12_init_95 (by decide)) ?_
  refine qcons (qk_putI (ty := .int) fd_X12_53 tyX12_ok nmX12 (Or.inl rfl) kd_12_14 (tyX12_ok 14 (by decide)) dX12_init_96) ?_
  refine qcons (qk_aload_n dX12_init_99 rfl) ?_
  refine qcons (qk_bipush dX12_init_100 (by decide) (by decide)) ?_
  refine qcons (qk_newa (atype := .int) (ty := .int) rfl (Or.inl ⟨rfl, rfl⟩) tw_188 dX12_init_102) ?_
  refine qcons (qk_putR fd_X12_56 tyX12_ok nmX12 (Or.inr ⟨rfl, rfl, rfl⟩) kd_12_15 (tyX12_ok 15 (by decide)) (Or.inr ⟨_, rfl⟩) dX12_init_104) ?_
  refine qcons (qk_aload_n dX12_init_107 rfl) ?_
  refine qcons (qk_bipush dX12_init_108 (by decide) (by decide)) ?_
  refine qcons (qk_newa (atype := .int) (ty := .int) rfl (Or.inl ⟨rfl, rfl⟩) tw_188 dX12_init_110) ?_
  refine qcons (qk_putR fd_X12_59 tyX12_ok nmX12 (Or.inr ⟨rfl, rfl, rfl⟩) kd_12_16 (tyX12_ok 16 (by decide)) (Or.inr ⟨_, rfl⟩) dX12_init_112) ?_
  refine qcons (qk_aload_n dX12_init_115 rfl) ?_
  refine qcons (qk_bipush dX12_init_116 (by decide) (by decide)) ?_
  refine qcons (qk_newa (atype := .int) (ty := .int) rfl (Or.inl ⟨rfl, rfl⟩) tw_188 dX12_init_118) ?_
  refine qcons (qk_putR fd_X12_62 tyX12_ok nmX12 (Or.inr ⟨rfl, rfl, rfl⟩) kd_12_17 (tyX12_ok 17 (by decide)) (Or.inr ⟨_, rfl⟩) dX12_init_120) ?_
  refine qcons (qk_aload_n dX12_init_123 rfl) ?_
  refine qcons (qk_bipush dX12_init_124 (by decide) (by decide)) ?_
  refine qcons (qk_newa (atype := .int) (ty := .int) rfl (Or.inl ⟨rfl, rfl⟩) tw_188 dX12_init_126) ?_
  refine qcons (qk_putR fd_X12_65 tyX12_ok nmX12 (Or.inr ⟨rfl, rfl, rfl⟩) kd_12_18 (tyX12_ok 18 (by decide)) (Or.inr ⟨_, rfl⟩) dX12_init_128) ?_
  refine qcons (qk_aload_n dX12_init_131 rfl) ?_
  refine qcons (qk_bipush dX12_init_132 (by decide) (by decide)) ?_
  refine qcons (qk_newa (atype := .int) (ty := .int) rfl (Or.inl ⟨rfl, rfl⟩) tw_188 dX12_init_134) ?_
  refine qcons (qk_putR fd_X12_68 tyX12_ok nmX12 (Or.inr ⟨rfl, rfl, rfl⟩) kd_12_19 (tyX12_ok 19 (by decide)) (Or.inr ⟨_, rfl⟩) dX12_init_136) ?_
  refine qcons (qk_aload_n dX12_init_139 rfl) ?_
  refine qcons (qk_bipush dX12_init_140 (by decide) (by decide)) ?_
  refine qcons (qk_newa (atype := .int) (ty := .int) rfl (Or.inl ⟨rfl, rfl⟩) tw_188 dX12_init_142) ?_
  refine qcons (qk_putR fd_X12_71 tyX12_ok nmX12 (Or.inr ⟨rfl, rfl, rfl⟩) kd_12_20 (tyX12_ok 20 (by decide)) (Or.inr ⟨_, rfl⟩) dX12_init_144) ?_
  refine qcons (qk_aload_n dX12_init_147 rfl) ?_
  refine qcons (qk_sipush dX12_init_148 (by decide) (by decide)) ?_
  refine qcons (qk_newa (atype := .int) (ty := .int) rfl (Or.inl ⟨rfl, rfl⟩) tw_188 dX12_init_151) ?_
  refine qcons (qk_putR fd_X12_74 tyX12_ok nmX12 (Or.inr ⟨rfl, rfl, rfl⟩) kd_12_21 (tyX12_ok 21 (by decide)) (Or.inr ⟨_, rfl⟩) dX12_init_153) ?_
  refine qcons (qk_aload_n dX12_init_156 rfl) ?_
  refine qcons (qk_bipush dX12_init_157 (by decide) (by decide)) ?_
  refine qcons (qk_newa (atype := .int) (ty := .int) rfl (Or.inl ⟨rfl, rfl⟩) tw_188 dX12_init_159) ?_
  refine qcons (qk_putR fd_X12_77 tyX12_ok nmX12 (Or.inr ⟨rfl, rfl, rfl⟩) kd_12_22 (tyX12_ok 22 (by decide)) (Or.inr ⟨_, rfl⟩) dX12_init_161) ?_
  refine qcons (qk_aload_n dX12_init_164 rfl) ?_
  refine qcons (qk_iconst dX12_init_165 (by decide)) ?_
  refine qcons (qk_putI (ty := .int) fd_X12_80 tyX12_ok nmX12 (Or.inl rfl) kd_12_23 (tyX12_ok 23 (by decide)) dX12_init_166) ?_
  refine qcons (qk_aload_n dX12_init_169 rfl) ?_
  refine qcons (qk_iconst dX12_init_170 (by decide)) ?_
  refine qcons (qk_putI (ty := .int) fd_X12_83 tyX12_ok nmX12 (Or.inl rfl) kd_12_24 (tyX12_ok 24 (by decide)) dX12_init_171) ?_
  refine qcons (qk_aload_n dX12_init_174 rfl) ?_
  refine qcons (qk_iconst dX12_init_175 (by decide)) ?_
  refine qcons (qk_putI (ty := .int) fd_X12_86 tyX12_ok nmX12 (Or.inl rfl) kd_12_25 (tyX12_ok 25 (by decide)) dX12_init_176) ?_
  refine qcons (qk_aload_n dX12_init_179 rfl) ?_
  refine qcons (qk_bipush dX12_init_180 (by decide) (by decide)) ?_
  refine qcons (qk_newa (atype := .int) (ty := .int) rfl (Or.inl ⟨rfl, rfl⟩) tw_188 dX12_init_182) ?_
  refine qcons (qk_dup dX12_init_184) ?_
  refine qcons (qk_iconst dX12_init_185 (by decide)) ?_
  refine qcons (qk_bipush dX12_init_186 (by decide) (by decide)) ?_
  refine qcons (qk_iastore dX12_init_188) ?_
  refine qcons (qk_dup dX12_init_189) ?_
  refine qcons (qk_iconst dX12_init_190 (by decide)) ?_
  refine qcons (qk_bipush dX12_init_191 (by decide) (by decide)) ?_
  refine qcons (qk_iastore dX12_init_193) ?_
  refine qcons (qk_dup dX12_init_194) ?_
  refine qcons (qk_iconst dX12_init_195 (by decide)) ?_
  refine qcons (qk_bipush dX12_init_196 (by decide) (by decide)) ?_
  refine qcons (qk_iastore dX12_init_198) ?_
  refine qcons (qk_dup dX12_init_199) ?_
  refine qcons (qk_iconst dX12_init_200 (by decide)) ?_
  refine qcons (qk_bipush dX12_init_201 (by decide) (by decide)) ?_
  refine qcons (qk_iastore dX12_init_203) ?_
  refine qcons (qk_dup dX12_init_204) ?_
  refine qcons (qk_iconst dX12_init_205 (by decide)) ?_
  refine qcons (qk_bipush dX12_init_206 (by decide) (by decide)) ?_
  refine qcons (qk_iastore dX12_init_208) ?_
  refine qcons (qk_dup dX12_init_209) ?_
  refine qcons (qk_iconst dX12_init_210 (by decide)) ?_
  refine qcons (qk_bipush dX12_init_211 (by decide) (by decide)) ?_
  refine qcons (qk_iastore dX12_init_213) ?_
  refine qcons (qk_dup dX12_init_214) ?_
  refine qcons (qk_bipush dX12_init_215 (by decide) (by decide)) ?_
  refine qcons (qk_bipush dX12_init_217 (by decide) (by decide)) ?_
  refine qcons (qk_iastore dX12_init_219) ?_
  refine qcons (qk_dup dX12_init_220) ?_
  refine qcons (qk_bipush dX12_init_221 (by decide) (by decide)) ?_
  refine qcons (qk_bipush dX12_init_223 (by decide) (by decide)) ?_
  refine qcons (qk_iastore dX12_init_225) ?_
  refine qcons (qk_dup dX12_init_226) ?_
  refine qcons (qk_bipush dX12_init_227 (by decide) (by decide)) ?_
  refine qcons (qk_bipush dX12_init_229 (by decide) (by decide)) ?_
  refine qcons (qk_iastore dX12_init_231) ?_
  refine qcons (qk_dup dX12_init_232) ?_
  refine qcons (qk_bipush dX12_init_233 (by decide) (by decide)) ?_
  refine qcons (qk_bipush dX12_init_235 (by decide) (by decide)) ?_
  refine qcons (qk_iastore dX12_init_237) ?_
  refine qcons (qk_dup dX12_init_238) ?_
  refine qcons (qk_bipush dX12_init_239 (by decide) (by decide)) ?_
  refine qcons (qk_bipush dX12_init_241 (by decide) (by decide)) ?_
  refine qcons (qk_iastore dX12_init_243) ?_
  refine qcons (qk_dup dX12_init_244) ?_
  refine qcons (qk_bipush dX12_init_245 (by decide) (by decide)) ?_
  refine qcons (qk_bipush dX12_init_247 (by decide) (by decide)) ?_
  refine qcons (qk_iastore dX12_init_249) ?_
  refine qcons (qk_dup dX12_init_250) ?_
  refine qcons (qk_bipush dX12_init_251 (by decide) (by decide)) ?_
  refine qcons (qk_bipush dX12_init_253 (by decide) (by decide)) ?_
  refine qcons (qk_iastore dX12_init_255) ?_
  refine qcons (qk_dup dX12_init_256) ?_
  refine qcons (qk_bipush dX12_init_257 (by decide) (by decide)) ?_
  refine qcons (qk_bipush dX12_init_259 (by decide) (by decide)) ?_
  refine qcons (qk_iastore dX12_init_261) ?_
  refine qcons (qk_dup dX12_init_262) ?_
  refine qcons (qk_bipush dX12_init_263 (by decide) (by decide)) ?_
  refine qcons (qk_bipush dX12_init_265 (by decide) (by decide)) ?_
  refine qcons (qk_iastore dX12_init_267) ?_
  refine qcons (qk_dup dX12_init_268) ?_
  refine qcons (qk_bipush dX12_init_269 (by decide) (by decide)) ?_
  refine qcons (qk_bipush dX12_init_271 (by decide) (by decide)) ?_
  refine qcons (qk_iastore dX12_init_273) ?_
  refine qcons (qk_dup dX12_init_274) ?_
  refine qcons (qk_bipush dX12_init_275 (by decide) (by decide)) ?_
  refine qcons (qk_bipush dX12_init_277 (by decide) (by decide)) ?_
  refine qcons (qk_iastore dX12_init_279) ?_
  refine qcons (qk_dup dX12_init_280) ?_
  refine qcons (qk_bipush dX12_init_281 (by decide) (by decide)) ?_
  refine qcons (qk_bipush dX12_init_283 (by decide) (by decide)) ?_
  refine qcons (qk_iastore dX12_init_285) ?_
  refine qcons (qk_putR fd_X12_89 tyX12_ok nmX12 (Or.inr ⟨rfl, rfl, rfl⟩) kd_12_26 (tyX12_ok 26 (by decide)) (Or.inr ⟨_, rfl⟩) dX12_init_286) ?_
  refine qcons (qk_aload_n dX12_init_289 rfl) ?_
  refine qcons (qk_iconst dX12_init_290 (by decide)) ?_
  refine qcons (qk_putI (ty := .int) fd_X12_92 tyX12_ok nmX12 (Or.inl rfl) kd_12_27 (tyX12_ok 27 (by decide)) dX12_init_291) ?_
  refine qcons (qk_aload_n dX12_init_294 rfl) ?_
  refine qcons (qk_bipush dX12_init_295 (by decide) (by decide)) ?_
  refine qcons (qk_newa (atype := .boolean) (ty := .boolean) rfl (Or.inr (Or.inr (Or.inl ⟨rfl, rfl⟩))) tw_267 dX12_init_297) ?_
  refine qcons (qk_putR fd_X12_95 tyX12_ok nmX12 (Or.inr ⟨rfl, rfl, rfl⟩) kd_12_28 (tyX12_ok 28 (by decide)) (Or.inr ⟨_, rfl⟩) dX12_init_299) ?_
  refine qcons (qk_aload_n dX12_init_302 rfl) ?_
  refine qcons (qk_ldc dX12_init_303 tw_851 (by decide)) ?_
  refine qcons (qk_putI (ty := .int) fd_X12_100 tyX12_ok nmX12 (Or.inl rfl) kd_12_29 (tyX12_ok 29 (by decide)) dX12_init_305) ?_
  refine qcons (qk_aload_n dX12_init_308 rfl) ?_
  refine qcons (qk_sipush dX12_init_309 (by decide) (by decide)) ?_
  refine qcons (qk_putI (ty := .int) fd_X12_103 tyX12_ok nmX12 (Or.inl rfl) kd_12_30 (tyX12_ok 30 (by decide)) dX12_init_312) ?_
  refine qcons (qk_aload_n dX12_init_315 rfl) ?_
  refine qcons (qk_iconst dX12_init_316 (by decide)) ?_
  refine qcons (qk_putI (ty := .int) fd_X12_106 tyX12_ok nmX12 (Or.inl rfl) kd_12_31 (tyX12_ok 31 (by decide)) dX12_init_317) ?_
  refine qcons (qk_aload_n dX12_init_320 rfl) ?_
  refine qcons (qk_iconst dX12_init_321 (by decide)) ?_
  refine qcons (qk_putI (ty := .int) fd_X12_109 tyX12_ok nmX12 (Or.inl rfl) kd_12_32 (tyX12_ok 32 (by decide)) dX12_init_322) ?_
  refine qcons (qk_aload_n dX12_init_325 rfl) ?_
  refine qcons (qk_iconst dX12_init_326 (by decide)) ?_
  refine qcons (qk_newa (atype := .int) (ty := .int) rfl (Or.inl ⟨rfl, rfl⟩) tw_188 dX12_init_327) ?_
  refine qcons (qk_putR fd_X12_112 tyX12_ok nmX12 (Or.inr ⟨rfl, rfl, rfl⟩) kd_12_33 (tyX12_ok 33 (by decide)) (Or.inr ⟨_, rfl⟩) dX12_init_329) ?_
  refine qcons (qk_aload_n dX12_init_332 rfl) ?_
  refine qcons (qk_bipush dX12_init_333 (by decide) (by decide)) ?_
  refine qcons (qk_newa (atype := .int) (ty := .int) rfl (Or.inl ⟨rfl, rfl⟩) tw_188 dX12_init_335) ?_
  refine qcons (qk_putR fd_X12_115 tyX12_ok nmX12 (Or.inr ⟨rfl, rfl, rfl⟩) kd_12_34 (tyX12_ok 34 (by decide)) (Or.inr ⟨_, rfl⟩) dX12_init_337) ?_
  refine qcons (qk_aload_n dX12_init_340 rfl) ?_
  refine qcons (qk_bipush dX12_init_341 (by decide) (by decide)) ?_
  refine qcons (qk_newa (atype := .int) (ty := .int) rfl (Or.inl ⟨rfl, rfl⟩) tw_188 dX12_init_343) ?_
  refine qcons (qk_putR fd_X12_118 tyX12_ok nmX12 (Or.inr ⟨rfl, rfl, rfl⟩) kd_12_35 (tyX12_ok 35 (by decide)) (Or.inr ⟨_, rfl⟩) dX12_init_345) ?_
  refine qcons (qk_aload_n dX12_init_348 rfl) ?_
  refine qcons (qk_bipush dX12_init_349 (by decide) (by decide)) ?_
  refine qcons (qk_newa (atype := .int) (ty := .int) rfl (Or.inl ⟨rfl, rfl⟩) tw_188 dX12_init_351) ?_
  refine qcons (qk_putR fd_X12_121 tyX12_ok nmX12 (Or.inr ⟨rfl, rfl, rfl⟩) kd_12_36 (tyX12_ok 36 (by decide)) (Or.inr ⟨_, rfl⟩) dX12_init_353) ?_
  refine qcons (qk_aload_n dX12_init_356 rfl) ?_
  refine qcons (qk_iconst dX12_init_357 (by decide)) ?_
  refine qcons (qk_putI (ty := .int) fd_X12_124 tyX12_ok nmX12 (Or.inl rfl) kd_12_37 (tyX12_ok 37 (by decide)) dX12_init_358) ?_
  refine qcons (qk_aload_n dX12_init_361 rfl) ?_
  refine qcons (qk_iconst dX12_init_362 (by decide)) ?_
  refine qcons (qk_newa (atype := .int) (ty := .int) rfl (Or.inl ⟨rfl, rfl⟩) tw_188 dX12_init_363) ?_
  refine qcons (qk_putR fd_X12_127 tyX12_ok nmX12 (Or.inr ⟨rfl, rfl, rfl⟩) kd_12_38 (tyX12_ok 38 (by decide)) (Or.inr ⟨_, rfl⟩) dX12_init_365) ?_
  refine qcons (qk_aload_n dX12_init_368 rfl) ?_
  refine qcons (qk_iconst dX12_init_369 (by decide)) ?_
  refine qcons (qk_newa (atype := .int) (ty := .int) rfl (Or.inl ⟨rfl, rfl⟩) tw_188 dX12_init_370) ?_
  refine qcons (qk_putR fd_X12_130 tyX12_ok nmX12 (Or.inr ⟨rfl, rfl, rfl⟩) kd_12_39 (tyX12_ok 39 (by decide)) (Or.inr ⟨_, rfl⟩) dX12_init_372) ?_
  refine qcons (qk_aload_n dX12_init_375 rfl) ?_
  refine qcons (qk_iconst dX12_init_376 (by decide)) ?_
  refine qcons (qk_newa (atype := .int) (ty := .int) rfl (Or.inl ⟨rfl, rfl⟩) tw_188 dX12_init_377) ?_
  refine qcons (qk_putR fd_X12_133 tyX12_ok nmX12 (Or.inr ⟨rfl, rfl, rfl⟩) kd_12_40 (tyX12_ok 40 (by decide)) (Or.inr ⟨_, rfl⟩) dX12_init_379) ?_
  refine qcons (qk_aload_n dX12_init_382 rfl) ?_
  refine qcons (qk_iconst dX12_init_383 (by decide)) ?_
  refine qcons (qk_putI (ty := .int) fd_X12_136 tyX12_ok nmX12 (Or.inl rfl) kd_12_41 (tyX12_ok 41 (by decide)) dX12_init_384) ?_
  refine qcons (qk_aload_n dX12_init_387 rfl) ?_
  refine qcons (qk_iconst dX12_init_388 (by decide)) ?_
  refine qcons (qk_putI (ty := .int) fd_X12_139 tyX12_ok nmX12 (Or.inl rfl) kd_12_42 (tyX12_ok 42 (by decide)) dX12_init_389) ?_
  refine qcons (qk_aload_n dX12_init_392 rfl) ?_
  refine qcons (qk_bipush dX12_init_393 (by decide) (by decide)) ?_
  refine qcons (qk_newa (atype := .int) (ty := .int) rfl (Or.inl ⟨rfl, rfl⟩) tw_188 dX12_init_395) ?_
  refine qcons (qk_putR fd_X12_142 tyX12_ok nmX12 (Or.inr ⟨rfl, rfl, rfl⟩) kd_12_43 (tyX12_ok 43 (by decide)) (Or.inr ⟨_, rfl⟩) dX12_init_397) ?_
  refine qcons (qk_aload_n dX12_init_400 rfl) ?_
  refine qcons (qk_bipush dX12_init_401 (by decide) (by decide)) ?_
  refine qcons (qk_newa (atype := .int) (ty := .int) rfl (Or.inl ⟨rfl, rfl⟩) tw_188 dX12_init_403) ?_
  refine qcons (qk_putR fd_X12_145 tyX12_ok nmX12 (Or.inr ⟨rfl, rfl, rfl⟩) kd_12_44 (tyX12_ok 44 (by decide)) (Or.inr ⟨_, rfl⟩) dX12_init_405) ?_
  refine qcons (qk_aload_n dX12_init_408 rfl) ?_
  refine qcons (qk_bipush dX12_init_409 (by decide) (by decide)) ?_
  refine qcons (qk_newa (atype := .int) (ty := .int) rfl (Or.inl ⟨rfl, rfl⟩) tw_188 dX12_init_411) ?_
  refine qcons (qk_putR fd_X12_148 tyX12_ok nmX12 (Or.inr ⟨rfl, rfl, rfl⟩) kd_12_45 (tyX12_ok 45 (by decide)) (Or.inr ⟨_, rfl⟩) dX12_init_413) ?_
  refine qcons (qk_aload_n dX12_init_416 rfl) ?_
  refine qcons (qk_bipush dX12_init_417 (by decide) (by decide)) ?_
  refine qcons (qk_newa (atype := .int) (ty := .int) rfl (Or.inl ⟨rfl, rfl⟩) tw_188 dX12_init_419) ?_
  refine qcons (qk_putR fd_X12_151 tyX12_ok nmX12 (Or.inr ⟨rfl, rfl, rfl⟩) kd_12_46 (tyX12_ok 46 (by decide)) (Or.inr ⟨_, rfl⟩) dX12_init_421) ?_
  refine qcons (qk_aload_n dX12_init_424 rfl) ?_
  refine qcons (qk_iconst dX12_init_425 (by decide)) ?_
  refine qcons (qk_putZ (ty := .int) fd_X12_154 tyX12_ok nmX12 (Or.inl rfl) kd_12_47 (tyX12_ok 47 (by decide)) dX12_init_426) ?_
  refine qcons (qk_aload_n dX12_init_429 rfl) ?_
  refine qcons (qk_iconst dX12_init_430 (by decide)) ?_
  refine qcons (qk_putI (ty := .int) fd_X12_158 tyX12_ok nmX12 (Or.inl rfl) kd_12_48 (tyX12_ok 48 (by decide)) dX12_init_431) ?_
  refine qcons (qk_aload_n dX12_init_434 rfl) ?_
  refine qcons (qk_iconst dX12_init_435 (by decide)) ?_
  refine qcons (qk_putI (ty := .int) fd_X12_161 tyX12_ok nmX12 (Or.inl rfl) kd_12_49 (tyX12_ok 49 (by decide)) dX12_init_436) ?_
  refine qcons (qk_aload_n dX12_init_439 rfl) ?_
  refine qcons (qk_iconst dX12_init_440 (by decide)) ?_
  refine qcons (qk_putI (ty := .int) fd_X12_164 tyX12_ok nmX12 (Or.inl rfl) kd_12_50 (tyX12_ok 50 (by decide)) dX12_init_441) ?_
  refine qcons (qk_aload_n dX12_init_444 rfl) ?_
  refine qcons (qk_iconst dX12_init_445 (by decide)) ?_
  refine qcons (qk_putI (ty := .int) fd_X12_167 tyX12_ok nmX12 (Or.inl rfl) kd_12_51 (tyX12_ok 51 (by decide)) dX12_init_446) ?_
  refine qcons (qk_aload_n dX12_init_449 rfl) ?_
  refine qcons (qk_iconst dX12_init_450 (by decide)) ?_
  refine qcons (qk_putI (ty := .int) fd_X12_170 tyX12_ok nmX12 (Or.inl rfl) kd_12_52 (tyX12_ok 52 (by decide)) dX12_init_451) ?_
  refine qcons (qk_aload_n dX12_init_454 rfl) ?_
  refine qcons (qk_iconst dX12_init_455 (by decide)) ?_
  refine qcons (qk_putI (ty := .int) fd_X12_173 tyX12_ok nmX12 (Or.inl rfl) kd_12_53 (tyX12_ok 53 (by decide)) dX12_init_456) ?_
  refine qcons (qk_aload_n dX12_init_459 rfl) ?_
  refine qcons (qk_iconst dX12_init_460 (by decide)) ?_
  refine qcons (qk_putI (ty := .int) fd_X12_176 tyX12_ok nmX12 (Or.inl rfl) kd_12_54 (tyX12_ok 54 (by decide)) dX12_init_461) ?_
  refine qcons (qk_aload_n dX12_init_464 rfl) ?_
  refine qcons (qk_iconst dX12_init_465 (by decide)) ?_
  refine qcons (qk_newa (atype := .int) (ty := .int) rfl (Or.inl ⟨rfl, rfl⟩) tw_188 dX12_init_466) ?_
  refine qcons (qk_putR fd_X12_179 tyX12_ok nmX12 (Or.inr ⟨rfl, rfl, rfl⟩) kd_12_55 (tyX12_ok 55 (by decide)) (Or.inr ⟨_, rfl⟩) dX12_init_468) ?_
  refine qcons (qk_aload_n dX12_init_471 rfl) ?_
  refine qcons (qk_bipush dX12_init_472 (by decide) (by decide)) ?_
  refine qcons (qk_newa (atype := .int) (ty := .int) rfl (Or.inl ⟨rfl, rfl⟩) tw_188 dX12_init_474) ?_
  refine qcons (qk_putR fd_X12_182 tyX12_ok nmX12 (Or.inr ⟨rfl, rfl, rfl⟩) kd_12_56 (tyX12_ok 56 (by decide)) (Or.inr ⟨_, rfl⟩) dX12_init_476) ?_
  refine qcons (qk_aload_n dX12_init_479 rfl) ?_
  refine qcons (qk_bipush dX12_init_480 (by decide) (by decide)) ?_
  refine qcons (qk_newa (atype := .int) (ty := .int) rfl (Or.inl ⟨rfl, rfl⟩) tw_188 dX12_init_482) ?_
  refine qcons (qk_putR fd_X12_185 tyX12_ok nmX12 (Or.inr ⟨rfl, rfl, rfl⟩) kd_12_57 (tyX12_ok 57 (by decide)) (Or.inr ⟨_, rfl⟩) dX12_init_484) ?_
  refine qcons (qk_aload_n dX12_init_487 rfl) ?_
  refine qcons (qk_bipush dX12_init_488 (by decide) (by decide)) ?_
  refine qcons (qk_newa (atype := .int) (ty := .int) rfl (Or.inl ⟨rfl, rfl⟩) tw_188 dX12_init_490) ?_
  refine qcons (qk_putR fd_X12_188 tyX12_ok nmX12 (Or.inr ⟨rfl, rfl, rfl⟩) kd_12_58 (tyX12_ok 58 (by decide)) (Or.inr ⟨_, rfl⟩) dX12_init_492) ?_
  refine qcons (qk_aload_n dX12_init_495 rfl) ?_
  refine qcons (qk_bipush dX12_init_496 (by decide) (by decide)) ?_
  refine qcons (qk_newa (atype := .int) (ty := .int) rfl (Or.inl ⟨rfl, rfl⟩) tw_188 dX12_init_498) ?_
  refine qcons (qk_putR fd_X12_191 tyX12_ok nmX12 (Or.inr ⟨rfl, rfl, rfl⟩) kd_12_59 (tyX12_ok 59 (by decide)) (Or.inr ⟨_, rfl⟩) dX12_init_500) ?_
  refine qcons (qk_aload_n dX12_init_503 rfl) ?_
  refine qcons (qk_bipush dX12_init_504 (by decide) (by decide)) ?_
  refine qcons (qk_newa (atype := .int) (ty := .int) rfl (Or.inl ⟨rfl, rfl⟩) tw_188 dX12_init_506) ?_
  refine qcons (qk_putR fd_X12_194 tyX12_ok nmX12 (Or.inr ⟨rfl, rfl, rfl⟩) kd_12_60 (tyX12_ok 60 (by decide)) (Or.inr ⟨_, rfl⟩) dX12_init_508) ?_
  refine qcons (qk_aload_n dX12_init_511 rfl) ?_
  refine qcons (qk_bipush dX12_init_512 (by decide) (by decide)) ?_
  refine qcons (qk_newa (atype := .int) (ty := .int) rfl (Or.inl ⟨rfl, rfl⟩) tw_188 dX12_init_514) ?_
  refine qcons (qk_putR fd_X12_197 tyX12_ok nmX12 (Or.inr ⟨rfl, rfl, rfl⟩) kd_12_61 (tyX12_ok 61 (by decide)) (Or.inr ⟨_, rfl⟩) dX12_init_516) ?_
  refine qcons (qk_aload_n dX12_init_519 rfl) ?_
  refine qcons (qk_iconst dX12_init_520 (by decide)) ?_
  refine qcons (qk_newa (atype := .int) (ty := .int) rfl (Or.inl ⟨rfl, rfl⟩) tw_188 dX12_init_521) ?_
  refine qcons (qk_putR fd_X12_200 tyX12_ok nmX12 (Or.inr ⟨rfl, rfl, rfl⟩) kd_12_62 (tyX12_ok 62 (by decide)) (Or.inr ⟨_, rfl⟩) dX12_init_523) ?_
  refine qcons (qk_aload_n dX12_init_526 rfl) ?_
  refine qcons (qk_iconst dX12_init_527 (by decide)) ?_
  refine qcons (qk_newa (atype := .int) (ty := .int) rfl (Or.inl ⟨rfl, rfl⟩) tw_188 dX12_init_528) ?_
  refine qcons (qk_putR fd_X12_203 tyX12_ok nmX12 (Or.inr ⟨rfl, rfl, rfl⟩) kd_12_63 (tyX12_ok 63 (by decide)) (Or.inr ⟨_, rfl⟩) dX12_init_530) ?_
  refine qcons (qk_aload_n dX12_init_533 rfl) ?_
  refine qcons (qk_iconst dX12_init_534 (by decide)) ?_
  refine qcons (qk_newa (atype := .int) (ty := .int) rfl (Or.inl ⟨rfl, rfl⟩) tw_188 dX12_init_535) ?_
  refine qcons (qk_putR fd_X12_206 tyX12_ok nmX12 (Or.inr ⟨rfl, rfl, rfl⟩) kd_12_64 (tyX12_ok 64 (by decide)) (Or.inr ⟨_, rfl⟩) dX12_init_537) ?_
  refine qcons (qk_aload_n dX12_init_540 rfl) ?_
  refine qcons (qk_bipush dX12_init_541 (by decide) (by decide)) ?_
  refine qcons (qk_newa (atype := .int) (ty := .int) rfl (Or.inl ⟨rfl, rfl⟩) tw_188 dX12_init_543) ?_
  refine qcons (qk_putR fd_X12_209 tyX12_ok nmX12 (Or.inr ⟨rfl, rfl, rfl⟩) kd_12_65 (tyX12_ok 65 (by decide)) (Or.inr ⟨_, rfl⟩) dX12_init_545) ?_
  refine qcons (qk_aload_n dX12_init_548 rfl) ?_
  refine qcons (qk_bipush dX12_init_549 (by decide) (by decide)) ?_
  refine qcons (qk_newa (atype := .int) (ty := .int) rfl (Or.inl ⟨rfl, rfl⟩) tw_188 dX12_init_551) ?_
  refine qcons (qk_putR fd_X12_212 tyX12_ok nmX12 (Or.inr ⟨rfl, rfl, rfl⟩) kd_12_66 (tyX12_ok 66 (by decide)) (Or.inr ⟨_, rfl⟩) dX12_init_553) ?_
  refine qcons (qk_aload_n dX12_init_556 rfl) ?_
  refine qcons (qk_bipush dX12_init_557 (by decide) (by decide)) ?_
  refine qcons (qk_newa (atype := .int) (ty := .int) rfl (Or.inl ⟨rfl, rfl⟩) tw_188 dX12_init_559) ?_
  refine qcons (qk_putR fd_X12_215 tyX12_ok nmX12 (Or.inr ⟨rfl, rfl, rfl⟩) kd_12_67 (tyX12_ok 67 (by decide)) (Or.inr ⟨_, rfl⟩) dX12_init_561) ?_
  refine qcons (qk_aload_n dX12_init_564 rfl) ?_
  refine qcons (qk_bipush dX12_init_565 (by decide) (by decide)) ?_
  refine qcons (qk_newa (atype := .int) (ty := .int) rfl (Or.inl ⟨rfl, rfl⟩) tw_188 dX12_init_567) ?_
  refine qcons (qk_putR fd_X12_218 tyX12_ok nmX12 (Or.inr ⟨rfl, rfl, rfl⟩) kd_12_68 (tyX12_ok 68 (by decide)) (Or.inr ⟨_, rfl⟩) dX12_init_569) ?_
  refine qcons (qk_aload_n dX12_init_572 rfl) ?_
  refine qcons (qk_iconst dX12_init_573 (by decide)) ?_
  refine qcons (qk_putI (ty := .int) fd_X12_221 tyX12_ok nmX12 (Or.inl rfl) kd_12_69 (tyX12_ok 69 (by decide)) dX12_init_574) ?_
  refine qcons (qk_aload_n dX12_init_577 rfl) ?_
  refine qcons (qk_bipush dX12_init_578 (by decide) (by decide)) ?_
  refine qcons (qk_newa (atype := .int) (ty := .int) rfl (Or.inl ⟨rfl, rfl⟩) tw_188 dX12_init_580) ?_
  refine qcons (qk_putR fd_X12_224 tyX12_ok nmX12 (Or.inr ⟨rfl, rfl, rfl⟩) kd_12_70 (tyX12_ok 70 (by decide)) (Or.inr ⟨_, rfl⟩) dX12_init_582) ?_
  refine qcons (qk_aload_n dX12_init_585 rfl) ?_
  refine qcons (qk_bipush dX12_init_586 (by decide) (by decide)) ?_
  refine qcons (qk_newa (atype := .int) (ty := .int) rfl (Or.inl ⟨rfl, rfl⟩) tw_188 dX12_init_588) ?_
  refine qcons (qk_dup dX12_init_590) ?_
  refine qcons (qk_iconst dX12_init_591 (by decide)) ?_
  refine qcons (qk_iconst dX12_init_592 (by decide)) ?_
  refine qcons (qk_iastore dX12_init_593) ?_
  refine qcons (qk_dup dX12_init_594) ?_
  refine qcons (qk_iconst dX12_init_595 (by decide)) ?_
  refine qcons (qk_iconst dX12_init_596 (by decide)) ?_
  refine qcons (qk_iastore dX12_init_597) ?_
  refine qcons (qk_dup dX12_init_598) ?_
  refine qcons (qk_iconst dX12_init_599 (by decide)) ?_
  refine qcons (qk_iconst dX12_init_600 (by decide)) ?_
  refine qcons (qk_iastore dX12_init_601) ?_
  refine qcons (qk_dup dX12_init_602) ?_
  refine qcons (qk_iconst dX12_init_603 (by decide)) ?_
  refine qcons (qk_iconst dX12_init_604 (by decide)) ?_
  refine qcons (qk_iastore dX12_init_605) ?_
  refine qcons (qk_dup dX12_init_606) ?_
  refine qcons (qk_iconst dX12_init_607 (by decide)) ?_
  refine qcons (qk_iconst dX12_init_608 (by decide)) ?_
  refine qcons (qk_iastore dX12_init_609) ?_
  refine qcons (qk_dup dX12_init_610) ?_
  refine qcons (qk_iconst dX12_init_611 (by decide)) ?_
  refine qcons (qk_iconst dX12_init_612 (by decide)) ?_
  refine qcons (qk_iastore dX12_init_613) ?_
  refine qcons (qk_putR fd_X12_227 tyX12_ok nmX12 (Or.inr ⟨rfl, rfl, rfl⟩) kd_12_71 (tyX12_ok 71 (by decide)) (Or.inr ⟨_, rfl⟩) dX12_init_614) ?_
  refine qcons (qk_aload_n dX12_init_617 rfl) ?_
  refine qcons (qk_bipush dX12_init_618 (by decide) (by decide)) ?_
  refine qcons (qk_newa (atype := .int) (ty := .int) rfl (Or.inl ⟨rfl, rfl⟩) tw_188 dX12_init_620) ?_
  refine qcons (qk_putR fd_X12_230 tyX12_ok nmX12 (Or.inr ⟨rfl, rfl, rfl⟩) kd_12_72 (tyX12_ok 72 (by decide)) (Or.inr ⟨_, rfl⟩) dX12_init_622) ?_
  refine qcons (qk_aload_n dX12_init_625 rfl) ?_
  refine qcons (qk_sipush dX12_init_626 (by decide) (by decide)) ?_
  refine qcons (qk_newa (atype := .long) (ty := .long) rfl (Or.inr (Or.inr (Or.inr ⟨rfl, rfl⟩))) tw_372 dX12_init_629) ?_
  refine qcons (qk_putR fd_X12_233 tyX12_ok nmX12 (Or.inr ⟨rfl, rfl, rfl⟩) kd_12_73 (tyX12_ok 73 (by decide)) (Or.inr ⟨_, rfl⟩) dX12_init_631) ?_
  refine qcons (qk_aload_n dX12_init_634 rfl) ?_
  refine qcons (qk_bipush dX12_init_635 (by decide) (by decide)) ?_
  refine qcons (qk_newa (atype := .long) (ty := .long) rfl (Or.inr (Or.inr (Or.inr ⟨rfl, rfl⟩))) tw_372 dX12_init_637) ?_
  refine qcons (qk_putR fd_X12_237 tyX12_ok nmX12 (Or.inr ⟨rfl, rfl, rfl⟩) kd_12_74 (tyX12_ok 74 (by decide)) (Or.inr ⟨_, rfl⟩) dX12_init_639) ?_
  refine qcons (qk_ret dX12_init_642 (Or.inl ⟨rfl, rfl⟩)) ?_
  exact qnil
theorem M_X12_init {X : qX} {l : Launch} : qMet X l 1 yX12_init cX12_init 1 none S_X12_init := qmet_of K_X12_init (by decide) rfl rfl
theorem dX12_in_0 : decode cX12_in 0 = .ok (.iload_n 1, 1) := by decide +kernel
theorem dX12_in_1 : decode cX12_in 1 = .ok (.iload_n 2, 1) := by decide +kernel
theorem dX12_in_2 : decode cX12_in 2 = .ok (.if_icmp .lt 12, 3) := by decide +kernel
theorem dX12_in_5 : decode cX12_in 5 = .ok (.iload_n 1, 1) := by decide +kernel
theorem dX12_in_6 : decode cX12_in 6 = .ok (.iload_n 3, 1) := by decide +kernel
theorem dX12_in_7 : decode cX12_in 7 = .ok (.if_icmp .gt 7, 3) := by decide +kernel
theorem dX12_in_10 : decode cX12_in 10 = .ok (.iconst 1, 1) := by decide +kernel
theorem dX12_in_11 : decode cX12_in 11 = .ok (.goto 4, 3) := by decide +kernel
theorem dX12_in_14 : decode cX12_in 14 = .ok (.iconst 0, 1) := by decide +kernel
theorem dX12_in_15 : decode cX12_in 15 = .ok (.ireturn, 1) := by decide +kernel
noncomputable def C_X12_in : List (Nat × qOp) := [(0, qo_iload 1 1),
  (1, qo_iload 2 1),
  (2, qo_iclt 14),
  (5, qo_iload 1 1),
  (6, qo_iload 3 1),
  (7, qo_icgt 14),
  (10, qo_ci 1 1),
  (11, qo_goto 15),
  (14, qo_ci 0 1),
  (15, qo_ret (some .boolean) 1)]
noncomputable def S_X12_in : qSem := qM 4 C_X12_in
set_option maxRecDepth 20000 in
theorem K_X12_in {X : qX} {l : Launch} : ∀ q ∈ C_X12_in, qOk X l 1 cX12_in 4 RX12 "in" (some .boolean) q.1 q.2 := by
  unfold C_X12_in
  refine qcons (qk_iload_n dX12_in_0 rfl) ?_
  refine qcons (qk_iload_n dX12_in_1 rfl) ?_
  refine qcons (qk_iclt dX12_in_2 (by decide)) ?_
  refine qcons (qk_iload_n dX12_in_5 rfl) ?_
  refine qcons (qk_iload_n dX12_in_6 rfl) ?_
  refine qcons (qk_icgt dX12_in_7 (by decide)) ?_
  refine qcons (qk_iconst dX12_in_10 (by decide)) ?_
  refine qcons (qk_goto dX12_in_11 (by decide)) ?_
  refine qcons (qk_iconst dX12_in_14 (by decide)) ?_
  refine qcons (qk_ret dX12_in_15 (Or.inr (Or.inl ⟨rfl, rfl⟩))) ?_
  exact qnil
theorem M_X12_in {X : qX} {l : Launch} : qMet X l 1 yX12_in cX12_in 4 (some .boolean) S_X12_in := qmet_of K_X12_in (by decide) rfl rfl
theorem dX12_has_0 : decode cX12_has 0 = .ok (.iload_n 1, 1) := by decide +kernel
theorem dX12_has_1 : decode cX12_has 1 = .ok (.iload_n 2, 1) := by decide +kernel
theorem dX12_has_2 : decode cX12_has 2 = .ok (.ishr, 1) := by decide +kernel
theorem dX12_has_3 : decode cX12_has 3 = .ok (.iconst 1, 1) := by decide +kernel
theorem dX12_has_4 : decode cX12_has 4 = .ok (.iand, 1) := by decide +kernel
theorem dX12_has_5 : decode cX12_has 5 = .ok (.iconst 1, 1) := by decide +kernel
theorem dX12_has_6 : decode cX12_has 6 = .ok (.if_icmp .ne 7, 3) := by decide +kernel
theorem dX12_has_9 : decode cX12_has 9 = .ok (.iconst 1, 1) := by decide +kernel
theorem dX12_has_10 : decode cX12_has 10 = .ok (.goto 4, 3) := by decide +kernel
theorem dX12_has_13 : decode cX12_has 13 = .ok (.iconst 0, 1) := by decide +kernel
theorem dX12_has_14 : decode cX12_has 14 = .ok (.ireturn, 1) := by decide +kernel
noncomputable def C_X12_has : List (Nat × qOp) := [(0, qo_iload 1 1),
  (1, qo_iload 2 1),
  (2, qo_ishr),
  (3, qo_ci 1 1),
  (4, qo_iand),
  (5, qo_ci 1 1),
  (6, qo_icne 13),
  (9, qo_ci 1 1),
  (10, qo_goto 14),
  (13, qo_ci 0 1),
  (14, qo_ret (some .boolean) 1)]
noncomputable def S_X12_has : qSem := qM 3 C_X12_has
set_option maxRecDepth 20000 in
theorem K_X12_has {X : qX} {l : Launch} : ∀ q ∈ C_X12_has, qOk X l 1 cX12_has 3 RX12 "has" (some .boolean) q.1 q.2 := by
  unfold C_X12_has
  refine qcons (qk_iload_n dX12_has_0 rfl) ?_
  refine qcons (qk_iload_n dX12_has_1 rfl) ?_
  refine qcons (qk_ishr dX12_has_2) ?_
  refine qcons (qk_iconst dX12_has_3 (by decide)) ?_
  refine qcons (qk_iand dX12_has_4) ?_
  refine qcons (qk_iconst dX12_has_5 (by decide)) ?_
  refine qcons (qk_icne dX12_has_6 (by decide)) ?_
  refine qcons (qk_iconst dX12_has_9 (by decide)) ?_
  refine qcons (qk_goto dX12_has_10 (by decide)) ?_
  refine qcons (qk_iconst dX12_has_13 (by decide)) ?_
  refine qcons (qk_ret dX12_has_14 (Or.inr (Or.inl ⟨rfl, rfl⟩))) ?_
  exact qnil
theorem M_X12_has {X : qX} {l : Launch} : qMet X l 1 yX12_has cX12_has 3 (some .boolean) S_X12_has := qmet_of K_X12_has (by decide) rfl rfl
theorem dX12_least_0 : decode cX12_least 0 = .ok (.iload_n 1, 1) := by decide +kernel
theorem dX12_least_1 : decode cX12_least 1 = .ok (.iload_n 2, 1) := by decide +kernel
theorem dX12_least_2 : decode cX12_least 2 = .ok (.if_icmp .ge 7, 3) := by decide +kernel
theorem dX12_least_5 : decode cX12_least 5 = .ok (.iload_n 1, 1) := by decide +kernel
theorem dX12_least_6 : decode cX12_least 6 = .ok (.goto 4, 3) := by decide +kernel
theorem dX12_least_9 : decode cX12_least 9 = .ok (.iload_n 2, 1) := by decide +kernel
theorem dX12_least_10 : decode cX12_least 10 = .ok (.ireturn, 1) := by decide +kernel
noncomputable def C_X12_least : List (Nat × qOp) := [(0, qo_iload 1 1),
  (1, qo_iload 2 1),
  (2, qo_icge 9),
  (5, qo_iload 1 1),
  (6, qo_goto 10),
  (9, qo_iload 2 1),
  (10, qo_ret (some .int) 1)]
noncomputable def S_X12_least : qSem := qM 3 C_X12_least
set_option maxRecDepth 20000 in
theorem K_X12_least {X : qX} {l : Launch} : ∀ q ∈ C_X12_least, qOk X l 1 cX12_least 3 RX12 "least" (some .int) q.1 q.2 := by
  unfold C_X12_least
  refine qcons (qk_iload_n dX12_least_0 rfl) ?_
  refine qcons (qk_iload_n dX12_least_1 rfl) ?_
  refine qcons (qk_icge dX12_least_2 (by decide)) ?_
  refine qcons (qk_iload_n dX12_least_5 rfl) ?_
  refine qcons (qk_goto dX12_least_6 (by decide)) ?_
  refine qcons (qk_iload_n dX12_least_9 rfl) ?_
  refine qcons (qk_ret dX12_least_10 (Or.inr (Or.inl ⟨rfl, rfl⟩))) ?_
  exact qnil
theorem M_X12_least {X : qX} {l : Launch} : qMet X l 1 yX12_least cX12_least 3 (some .int) S_X12_least := qmet_of K_X12_least (by decide) rfl rfl
theorem dX12_isPerson_0 : decode cX12_isPerson 0 = .ok (.aload_n 0, 1) := by decide +kernel
theorem dX12_isPerson_1 : decode cX12_isPerson 1 = .ok (.iload_n 1, 1) := by decide +kernel
theorem dX12_isPerson_2 : decode cX12_isPerson 2 = .ok (.iconst 0, 1) := by decide +kernel
theorem dX12_isPerson_3 : decode cX12_isPerson 3 = .ok (.aload_n 0, 1) := by decide +kernel
theorem dX12_isPerson_4 : decode cX12_isPerson 4 = .ok (.getfield 7, 3) := by decide +kernel
theorem dX12_isPerson_7 : decode cX12_isPerson 7 = .ok (.iconst 1, 1) := by decide +kernel
theorem dX12_isPerson_8 : decode cX12_isPerson 8 = .ok (.isub, 1) := by decide +kernel
theorem dX12_isPerson_9 : decode cX12_isPerson 9 = .ok (.invokevirtual 240, 3) := by decide +kernel
theorem dX12_isPerson_12 : decode cX12_isPerson 12 = .ok (.ireturn, 1) := by decide +kernel
noncomputable def C_X12_isPerson : List (Nat × qOp) := [(0, qo_aload 0 1),
  (1, qo_iload 1 1),
  (2, qo_ci 0 1),
  (3, qo_aload 0 1),
  (4, qo_getI 12 0),
  (7, qo_ci 1 1),
  (8, qo_isub),
  (9, qo_callv [(12, S_X12_in)] 3),
  (12, qo_ret (some .boolean) 1)]
noncomputable def S_X12_isPerson : qSem := qM 2 C_X12_isPerson
set_option maxRecDepth 20000 in
theorem K_X12_isPerson {X : qX} {l : Launch} : ∀ q ∈ C_X12_isPerson, qOk X l 2 cX12_isPerson 2 RX12 "isPerson" (some .boolean) q.1 q.2 := by
  unfold C_X12_isPerson
  refine qcons (qk_aload_n dX12_isPerson_0 rfl) ?_
  refine qcons (qk_iload_n dX12_isPerson_1 rfl) ?_
  refine qcons (qk_iconst dX12_isPerson_2 (by decide)) ?_
  refine qcons (qk_aload_n dX12_isPerson_3 rfl) ?_
  refine qcons (qk_getI fd_X12_7 kd_12_0 dX12_isPerson_4) ?_
  refine qcons (qk_iconst dX12_isPerson_7 (by decide)) ?_
  refine qcons (qk_isub dX12_isPerson_8) ?_
  refine qcons (qk_callv (ins := fun i => .invokevirtual i) (qconsV (qrunV M_X12_in (by decide) (by decide) (by decide) rfl tw_1082 tw_1084 tw_20 tw_1085 tw_90 ⟨by decide, by decide⟩ (by decide +kernel)) qnilV) dX12_isPerson_9) ?_
  refine qcons (qk_ret dX12_isPerson_12 (Or.inr (Or.inl ⟨rfl, rfl⟩))) ?_
  exact qnil
theorem M_X12_isPerson {X : qX} {l : Launch} : qMet X l 2 yX12_isPerson cX12_isPerson 2 (some .boolean) S_X12_isPerson := qmet_of K_X12_isPerson (by decide) rfl rfl
theorem dX12_isWork_0 : decode cX12_isWork 0 = .ok (.aload_n 0, 1) := by decide +kernel
theorem dX12_isWork_1 : decode cX12_isWork 1 = .ok (.iload_n 1, 1) := by decide +kernel
theorem dX12_isWork_2 : decode cX12_isWork 2 = .ok (.iconst 0, 1) := by decide +kernel
theorem dX12_isWork_3 : decode cX12_isWork 3 = .ok (.iconst 3, 1) := by decide +kernel
theorem dX12_isWork_4 : decode cX12_isWork 4 = .ok (.invokevirtual 240, 3) := by decide +kernel
theorem dX12_isWork_7 : decode cX12_isWork 7 = .ok (.ireturn, 1) := by decide +kernel
noncomputable def C_X12_isWork : List (Nat × qOp) := [(0, qo_aload 0 1),
  (1, qo_iload 1 1),
  (2, qo_ci 0 1),
  (3, qo_ci 3 1),
  (4, qo_callv [(12, S_X12_in)] 3),
  (7, qo_ret (some .boolean) 1)]
noncomputable def S_X12_isWork : qSem := qM 2 C_X12_isWork
set_option maxRecDepth 20000 in
theorem K_X12_isWork {X : qX} {l : Launch} : ∀ q ∈ C_X12_isWork, qOk X l 2 cX12_isWork 2 RX12 "isWork" (some .boolean) q.1 q.2 := by
  unfold C_X12_isWork
  refine qcons (qk_aload_n dX12_isWork_0 rfl) ?_
  refine qcons (qk_iload_n dX12_isWork_1 rfl) ?_
  refine qcons (qk_iconst dX12_isWork_2 (by decide)) ?_
  refine qcons (qk_iconst dX12_isWork_3 (by decide)) ?_
  refine qcons (qk_callv (ins := fun i => .invokevirtual i) (qconsV (qrunV M_X12_in (by decide) (by decide) (by decide) rfl tw_1082 tw_1084 tw_20 tw_1085 tw_90 ⟨by decide, by decide⟩ (by decide +kernel)) qnilV) dX12_isWork_4) ?_
  refine qcons (qk_ret dX12_isWork_7 (Or.inr (Or.inl ⟨rfl, rfl⟩))) ?_
  exact qnil
theorem M_X12_isWork {X : qX} {l : Launch} : qMet X l 2 yX12_isWork cX12_isWork 2 (some .boolean) S_X12_isWork := qmet_of K_X12_isWork (by decide) rfl rfl
theorem dX12_isHeap_0 : decode cX12_isHeap 0 = .ok (.aload_n 0, 1) := by decide +kernel
theorem dX12_isHeap_1 : decode cX12_isHeap 1 = .ok (.iload_n 1, 1) := by decide +kernel
theorem dX12_isHeap_2 : decode cX12_isHeap 2 = .ok (.iconst 0, 1) := by decide +kernel
theorem dX12_isHeap_3 : decode cX12_isHeap 3 = .ok (.iconst 4, 1) := by decide +kernel
theorem dX12_isHeap_4 : decode cX12_isHeap 4 = .ok (.invokevirtual 240, 3) := by decide +kernel
theorem dX12_isHeap_7 : decode cX12_isHeap 7 = .ok (.ireturn, 1) := by decide +kernel
noncomputable def C_X12_isHeap : List (Nat × qOp) := [(0, qo_aload 0 1),
  (1, qo_iload 1 1),
  (2, qo_ci 0 1),
  (3, qo_ci 4 1),
  (4, qo_callv [(12, S_X12_in)] 3),
  (7, qo_ret (some .boolean) 1)]
noncomputable def S_X12_isHeap : qSem := qM 2 C_X12_isHeap
set_option maxRecDepth 20000 in
theorem K_X12_isHeap {X : qX} {l : Launch} : ∀ q ∈ C_X12_isHeap, qOk X l 2 cX12_isHeap 2 RX12 "isHeap" (some .boolean) q.1 q.2 := by
  unfold C_X12_isHeap
  refine qcons (qk_aload_n dX12_isHeap_0 rfl) ?_
  refine qcons (qk_iload_n dX12_isHeap_1 rfl) ?_
  refine qcons (qk_iconst dX12_isHeap_2 (by decide)) ?_
  refine qcons (qk_iconst dX12_isHeap_3 (by decide)) ?_
  refine qcons (qk_callv (ins := fun i => .invokevirtual i) (qconsV (qrunV M_X12_in (by decide) (by decide) (by decide) rfl tw_1082 tw_1084 tw_20 tw_1085 tw_90 ⟨by decide, by decide⟩ (by decide +kernel)) qnilV) dX12_isHeap_4) ?_
  refine qcons (qk_ret dX12_isHeap_7 (Or.inr (Or.inl ⟨rfl, rfl⟩))) ?_
  exact qnil
theorem M_X12_isHeap {X : qX} {l : Launch} : qMet X l 2 yX12_isHeap cX12_isHeap 2 (some .boolean) S_X12_isHeap := qmet_of K_X12_isHeap (by decide) rfl rfl
theorem dX12_isLetters_0 : decode cX12_isLetters 0 = .ok (.aload_n 0, 1) := by decide +kernel
theorem dX12_isLetters_1 : decode cX12_isLetters 1 = .ok (.iload_n 1, 1) := by decide +kernel
theorem dX12_isLetters_2 : decode cX12_isLetters 2 = .ok (.iconst 0, 1) := by decide +kernel
theorem dX12_isLetters_3 : decode cX12_isLetters 3 = .ok (.sipush 9999, 3) := by decide +kernel
theorem dX12_isLetters_6 : decode cX12_isLetters 6 = .ok (.invokevirtual 240, 3) := by decide +kernel
theorem dX12_isLetters_9 : decode cX12_isLetters 9 = .ok (.ireturn, 1) := by decide +kernel
noncomputable def C_X12_isLetters : List (Nat × qOp) := [(0, qo_aload 0 1),
  (1, qo_iload 1 1),
  (2, qo_ci 0 1),
  (3, qo_ci 9999 3),
  (6, qo_callv [(12, S_X12_in)] 3),
  (9, qo_ret (some .boolean) 1)]
noncomputable def S_X12_isLetters : qSem := qM 2 C_X12_isLetters
set_option maxRecDepth 20000 in
theorem K_X12_isLetters {X : qX} {l : Launch} : ∀ q ∈ C_X12_isLetters, qOk X l 2 cX12_isLetters 2 RX12 "isLetters" (some .boolean) q.1 q.2 := by
  unfold C_X12_isLetters
  refine qcons (qk_aload_n dX12_isLetters_0 rfl) ?_
  refine qcons (qk_iload_n dX12_isLetters_1 rfl) ?_
  refine qcons (qk_iconst dX12_isLetters_2 (by decide)) ?_
  refine qcons (qk_sipush dX12_isLetters_3 (by decide) (by decide)) ?_
  refine qcons (qk_callv (ins := fun i => .invokevirtual i) (qconsV (qrunV M_X12_in (by decide) (by decide) (by decide) rfl tw_1082 tw_1084 tw_20 tw_1085 tw_90 ⟨by decide, by decide⟩ (by decide +kernel)) qnilV) dX12_isLetters_6) ?_
  refine qcons (qk_ret dX12_isLetters_9 (Or.inr (Or.inl ⟨rfl, rfl⟩))) ?_
  exact qnil
theorem M_X12_isLetters {X : qX} {l : Launch} : qMet X l 2 yX12_isLetters cX12_isLetters 2 (some .boolean) S_X12_isLetters := qmet_of K_X12_isLetters (by decide) rfl rfl
theorem dX12_isMinutes_0 : decode cX12_isMinutes 0 = .ok (.aload_n 0, 1) := by decide +kernel
theorem dX12_isMinutes_1 : decode cX12_isMinutes 1 = .ok (.iload_n 1, 1) := by decide +kernel
theorem dX12_isMinutes_2 : decode cX12_isMinutes 2 = .ok (.iconst 0, 1) := by decide +kernel
theorem dX12_isMinutes_3 : decode cX12_isMinutes 3 = .ok (.bipush 60, 2) := by decide +kernel
theorem dX12_isMinutes_5 : decode cX12_isMinutes 5 = .ok (.invokevirtual 240, 3) := by decide +kernel
theorem dX12_isMinutes_8 : decode cX12_isMinutes 8 = .ok (.ireturn, 1) := by decide +kernel
noncomputable def C_X12_isMinutes : List (Nat × qOp) := [(0, qo_aload 0 1),
  (1, qo_iload 1 1),
  (2, qo_ci 0 1),
  (3, qo_ci 60 2),
  (5, qo_callv [(12, S_X12_in)] 3),
  (8, qo_ret (some .boolean) 1)]
noncomputable def S_X12_isMinutes : qSem := qM 2 C_X12_isMinutes
set_option maxRecDepth 20000 in
theorem K_X12_isMinutes {X : qX} {l : Launch} : ∀ q ∈ C_X12_isMinutes, qOk X l 2 cX12_isMinutes 2 RX12 "isMinutes" (some .boolean) q.1 q.2 := by
  unfold C_X12_isMinutes
  refine qcons (qk_aload_n dX12_isMinutes_0 rfl) ?_
  refine qcons (qk_iload_n dX12_isMinutes_1 rfl) ?_
  refine qcons (qk_iconst dX12_isMinutes_2 (by decide)) ?_
  refine qcons (qk_bipush dX12_isMinutes_3 (by decide) (by decide)) ?_
  refine qcons (qk_callv (ins := fun i => .invokevirtual i) (qconsV (qrunV M_X12_in (by decide) (by decide) (by decide) rfl tw_1082 tw_1084 tw_20 tw_1085 tw_90 ⟨by decide, by decide⟩ (by decide +kernel)) qnilV) dX12_isMinutes_5) ?_
  refine qcons (qk_ret dX12_isMinutes_8 (Or.inr (Or.inl ⟨rfl, rfl⟩))) ?_
  exact qnil
theorem M_X12_isMinutes {X : qX} {l : Launch} : qMet X l 2 yX12_isMinutes cX12_isMinutes 2 (some .boolean) S_X12_isMinutes := qmet_of K_X12_isMinutes (by decide) rfl rfl
theorem dX12_person_0 : decode cX12_person 0 = .ok (.aload_n 0, 1) := by decide +kernel
theorem dX12_person_1 : decode cX12_person 1 = .ok (.iload_n 1, 1) := by decide +kernel
theorem dX12_person_2 : decode cX12_person 2 = .ok (.iconst 0, 1) := by decide +kernel
theorem dX12_person_3 : decode cX12_person 3 = .ok (.bipush 6, 2) := by decide +kernel
theorem dX12_person_5 : decode cX12_person 5 = .ok (.invokevirtual 240, 3) := by decide +kernel
theorem dX12_person_8 : decode cX12_person 8 = .ok (.ifCond .eq 11, 3) := by decide +kernel
theorem dX12_person_11 : decode cX12_person 11 = .ok (.aload_n 0, 1) := by decide +kernel
theorem dX12_person_12 : decode cX12_person 12 = .ok (.iload_n 3, 1) := by decide +kernel
theorem dX12_person_13 : decode cX12_person 13 = .ok (.invokevirtual 244, 3) := by decide +kernel
theorem dX12_person_16 : decode cX12_person 16 = .ok (.ifCond .ne 5, 3) := by decide +kernel
theorem dX12_person_19 : decode cX12_person 19 = .ok (.iconst (-1), 1) := by decide +kernel
theorem dX12_person_20 : decode cX12_person 20 = .ok (.ireturn, 1) := by decide +kernel
theorem dX12_person_21 : decode cX12_person 21 = .ok (.aload_n 0, 1) := by decide +kernel
theorem dX12_person_22 : decode cX12_person 22 = .ok (.iload_n 2, 1) := by decide +kernel
theorem dX12_person_23 : decode cX12_person 23 = .ok (.iconst 0, 1) := by decide +kernel
theorem dX12_person_24 : decode cX12_person 24 = .ok (.bipush 9, 2) := by decide +kernel
theorem dX12_person_26 : decode cX12_person 26 = .ok (.invokevirtual 240, 3) := by decide +kernel
theorem dX12_person_29 : decode cX12_person 29 = .ok (.ifCond .ne 6, 3) := by decide +kernel
theorem dX12_person_32 : decode cX12_person 32 = .ok (.bipush (-2), 2) := by decide +kernel
theorem dX12_person_34 : decode cX12_person 34 = .ok (.ireturn, 1) := by decide +kernel
theorem dX12_person_35 : decode cX12_person 35 = .ok (.aload_n 0, 1) := by decide +kernel
theorem dX12_person_36 : decode cX12_person 36 = .ok (.getfield 7, 3) := by decide +kernel
theorem dX12_person_39 : decode cX12_person 39 = .ok (.bipush 6, 2) := by decide +kernel
theorem dX12_person_41 : decode cX12_person 41 = .ok (.if_icmp .ne 6, 3) := by decide +kernel
theorem dX12_person_44 : decode cX12_person 44 = .ok (.bipush (-4), 2) := by decide +kernel
theorem dX12_person_46 : decode cX12_person 46 = .ok (.ireturn, 1) := by decide +kernel
theorem dX12_person_47 : decode cX12_person 47 = .ok (.aload_n 0, 1) := by decide +kernel
theorem dX12_person_48 : decode cX12_person 48 = .ok (.getfield 23, 3) := by decide +kernel
theorem dX12_person_51 : decode cX12_person 51 = .ok (.aload_n 0, 1) := by decide +kernel
theorem dX12_person_52 : decode cX12_person 52 = .ok (.getfield 7, 3) := by decide +kernel
theorem dX12_person_55 : decode cX12_person 55 = .ok (.iload_n 1, 1) := by decide +kernel
theorem dX12_person_56 : decode cX12_person 56 = .ok (.iastore, 1) := by decide +kernel
theorem dX12_person_57 : decode cX12_person 57 = .ok (.aload_n 0, 1) := by decide +kernel
theorem dX12_person_58 : decode cX12_person 58 = .ok (.getfield 26, 3) := by decide +kernel
theorem dX12_person_61 : decode cX12_person 61 = .ok (.aload_n 0, 1) := by decide +kernel
theorem dX12_person_62 : decode cX12_person 62 = .ok (.getfield 7, 3) := by decide +kernel
theorem dX12_person_65 : decode cX12_person 65 = .ok (.iload_n 2, 1) := by decide +kernel
theorem dX12_person_66 : decode cX12_person 66 = .ok (.iastore, 1) := by decide +kernel
theorem dX12_person_67 : decode cX12_person 67 = .ok (.aload_n 0, 1) := by decide +kernel
theorem dX12_person_68 : decode cX12_person 68 = .ok (.getfield 29, 3) := by decide +kernel
theorem dX12_person_71 : decode cX12_person 71 = .ok (.aload_n 0, 1) := by decide +kernel
theorem dX12_person_72 : decode cX12_person 72 = .ok (.getfield 7, 3) := by decide +kernel
theorem dX12_person_75 : decode cX12_person 75 = .ok (.iload_n 3, 1) := by decide +kernel
theorem dX12_person_76 : decode cX12_person 76 = .ok (.iastore, 1) := by decide +kernel
theorem dX12_person_77 : decode cX12_person 77 = .ok (.aload_n 0, 1) := by decide +kernel
theorem dX12_person_78 : decode cX12_person 78 = .ok (.getfield 32, 3) := by decide +kernel
theorem dX12_person_81 : decode cX12_person 81 = .ok (.aload_n 0, 1) := by decide +kernel
theorem dX12_person_82 : decode cX12_person 82 = .ok (.getfield 7, 3) := by decide +kernel
theorem dX12_person_85 : decode cX12_person 85 = .ok (.iconst 0, 1) := by decide +kernel
theorem dX12_person_86 : decode cX12_person 86 = .ok (.iastore, 1) := by decide +kernel
theorem dX12_person_87 : decode cX12_person 87 = .ok (.aload_n 0, 1) := by decide +kernel
theorem dX12_person_88 : decode cX12_person 88 = .ok (.getfield 35, 3) := by decide +kernel
theorem dX12_person_91 : decode cX12_person 91 = .ok (.aload_n 0, 1) := by decide +kernel
theorem dX12_person_92 : decode cX12_person 92 = .ok (.getfield 7, 3) := by decide +kernel
theorem dX12_person_95 : decode cX12_person 95 = .ok (.iconst 0, 1) := by decide +kernel
theorem dX12_person_96 : decode cX12_person 96 = .ok (.iastore, 1) := by decide +kernel
theorem dX12_person_97 : decode cX12_person 97 = .ok (.aload_n 0, 1) := by decide +kernel
theorem dX12_person_98 : decode cX12_person 98 = .ok (.dup, 1) := by decide +kernel
theorem dX12_person_99 : decode cX12_person 99 = .ok (.getfield 16, 3) := by decide +kernel
theorem dX12_person_102 : decode cX12_person 102 = .ok (.iconst 1, 1) := by decide +kernel
theorem dX12_person_103 : decode cX12_person 103 = .ok (.aload_n 0, 1) := by decide +kernel
theorem dX12_person_104 : decode cX12_person 104 = .ok (.getfield 7, 3) := by decide +kernel
theorem dX12_person_107 : decode cX12_person 107 = .ok (.ishl, 1) := by decide +kernel
theorem dX12_person_108 : decode cX12_person 108 = .ok (.iconst (-1), 1) := by decide +kernel
theorem dX12_person_109 : decode cX12_person 109 = .ok (.ixor, 1) := by decide +kernel
theorem dX12_person_110 : decode cX12_person 110 = .ok (.iand, 1) := by decide +kernel
theorem dX12_person_111 : decode cX12_person 111 = .ok (.putfield 16, 3) := by decide +kernel
theorem dX12_person_114 : decode cX12_person 114 = .ok (.iconst 0, 1) := by decide +kernel
theorem dX12_person_115 : decode cX12_person 115 = .ok (.istore 4, 2) := by decide +kernel
theorem dX12_person_117 : decode cX12_person 117 = .ok (.iload 4, 2) := by decide +kernel
theorem dX12_person_119 : decode cX12_person 119 = .ok (.iconst 4, 1) := by decide +kernel
theorem dX12_person_120 : decode cX12_person 120 = .ok (.if_icmp .ge 24, 3) := by decide +kernel
theorem dX12_person_123 : decode cX12_person 123 = .ok (.aload_n 0, 1) := by decide +kernel
theorem dX12_person_124 : decode cX12_person 124 = .ok (.getfield 38, 3) := by decide +kernel
theorem dX12_person_127 : decode cX12_person 127 = .ok (.iconst 4, 1) := by decide +kernel
theorem dX12_person_128 : decode cX12_person 128 = .ok (.aload_n 0, 1) := by decide +kernel
theorem dX12_person_129 : decode cX12_person 129 = .ok (.getfield 7, 3) := by decide +kernel
theorem dX12_person_132 : decode cX12_person 132 = .ok (.imul, 1) := by decide +kernel
theorem dX12_person_133 : decode cX12_person 133 = .ok (.iload 4, 2) := by decide +kernel
theorem dX12_person_135 : decode cX12_person 135 = .ok (.iadd, 1) := by decide +kernel
theorem dX12_person_136 : decode cX12_person 136 = .ok (.iconst 0, 1) := by decide +kernel
theorem dX12_person_137 : decode cX12_person 137 = .ok (.iastore, 1) := by decide +kernel
theorem dX12_person_138 : decode cX12_person 138 = .ok (.iinc 4 1, 3) := by decide +kernel
theorem dX12_person_141 : decode cX12_person 141 = .ok (.goto (-24), 3) := by decide +kernel
theorem dX12_person_144 : decode cX12_person 144 = .ok (.aload_n 0, 1) := by decide +kernel
theorem dX12_person_145 : decode cX12_person 145 = .ok (.dup, 1) := by decide +kernel
theorem dX12_person_146 : decode cX12_person 146 = .ok (.getfield 7, 3) := by decide +kernel
theorem dX12_person_149 : decode cX12_person 149 = .ok (.iconst 1, 1) := by decide +kernel
theorem dX12_person_150 : decode cX12_person 150 = .ok (.iadd, 1) := by decide +kernel
theorem dX12_person_151 : decode cX12_person 151 = .ok (.putfield 7, 3) := by decide +kernel
theorem dX12_person_154 : decode cX12_person 154 = .ok (.aload_n 0, 1) := by decide +kernel
theorem dX12_person_155 : decode cX12_person 155 = .ok (.getfield 7, 3) := by decide +kernel
theorem dX12_person_158 : decode cX12_person 158 = .ok (.iconst 1, 1) := by decide +kernel
theorem dX12_person_159 : decode cX12_person 159 = .ok (.isub, 1) := by decide +kernel
theorem dX12_person_160 : decode cX12_person 160 = .ok (.ireturn, 1) := by decide +kernel
noncomputable def C_X12_person : List (Nat × qOp) := [(0, qo_aload 0 1),
  (1, qo_iload 1 1),
  (2, qo_ci 0 1),
  (3, qo_ci 6 2),
  (5, qo_callv [(12, S_X12_in)] 3),
  (8, qo_ifeq 19),
  (11, qo_aload 0 1),
  (12, qo_iload 3 1),
  (13, qo_callv [(12, S_X12_isWork)] 1),
  (16, qo_ifne 21),
  (19, qo_ci (-1) 1),
  (20, qo_ret (some .int) 1),
  (21, qo_aload 0 1),
  (22, qo_iload 2 1),
  (23, qo_ci 0 1),
  (24, qo_ci 9 2),
  (26, qo_callv [(12, S_X12_in)] 3),
  (29, qo_ifne 35),
  (32, qo_ci (-2) 2),
  (34, qo_ret (some .int) 1),
  (35, qo_aload 0 1),
  (36, qo_getI 12 0),
  (39, qo_ci 6 2),
  (41, qo_icne 47),
  (44, qo_ci (-4) 2),
  (46, qo_ret (some .int) 1),
  (47, qo_aload 0 1),
  (48, qo_getR 12 4),
  (51, qo_aload 0 1),
  (52, qo_getI 12 0),
  (55, qo_iload 1 1),
  (56, qo_iastore),
  (57, qo_aload 0 1),
  (58, qo_getR 12 5),
  (61, qo_aload 0 1),
  (62, qo_getI 12 0),
  (65, qo_iload 2 1),
  (66, qo_iastore),
  (67, qo_aload 0 1),
  (68, qo_getR 12 6),
  (71, qo_aload 0 1),
  (72, qo_getI 12 0),
  (75, qo_iload 3 1),
  (76, qo_iastore),
  (77, qo_aload 0 1),
  (78, qo_getR 12 7),
  (81, qo_aload 0 1),
  (82, qo_getI 12 0),
  (85, qo_ci 0 1),
  (86, qo_iastore),
  (87, qo_aload 0 1),
  (88, qo_getR 12 8),
  (91, qo_aload 0 1),
  (92, qo_getI 12 0),
  (95, qo_ci 0 1),
  (96, qo_iastore),
  (97, qo_aload 0 1),
  (98, qo_dup),
  (99, qo_getI 12 2),
  (102, qo_ci 1 1),
  (103, qo_aload 0 1),
  (104, qo_getI 12 0),
  (107, qo_ishl),
  (108, qo_ci (-1) 1),
  (109, qo_ixor),
  (110, qo_iand),
  (111, qo_putI 12 2),
  (114, qo_ci 0 1),
  (115, qo_istore 4 2),
  (117, qo_iload 4 2),
  (119, qo_ci 4 1),
  (120, qo_icge 144),
  (123, qo_aload 0 1),
  (124, qo_getR 12 9),
  (127, qo_ci 4 1),
  (128, qo_aload 0 1),
  (129, qo_getI 12 0),
  (132, qo_imul),
  (133, qo_iload 4 2),
  (135, qo_iadd),
  (136, qo_ci 0 1),
  (137, qo_iastore),
  (138, qo_iinc 4 1),
  (141, qo_goto 117),
  (144, qo_aload 0 1),
  (145, qo_dup),
  (146, qo_getI 12 0),
  (149, qo_ci 1 1),
  (150, qo_iadd),
  (151, qo_putI 12 0),
  (154, qo_aload 0 1),
  (155, qo_getI 12 0),
  (158, qo_ci 1 1),
  (159, qo_isub),
  (160, qo_ret (some .int) 1)]
noncomputable def S_X12_person : qSem := qM 5 C_X12_person
set_option maxRecDepth 20000 in
theorem K_X12_person {X : qX} {l : Launch} : ∀ q ∈ C_X12_person, qOk X l 3 cX12_person 5 RX12 "person" (some .int) q.1 q.2 := by
  unfold C_X12_person
  refine qcons (qk_aload_n dX12_person_0 rfl) ?_
  refine qcons (qk_iload_n dX12_person_1 rfl) ?_
  refine qcons (qk_iconst dX12_person_2 (by decide)) ?_
  refine qcons (qk_bipush dX12_person_3 (by decide) (by decide)) ?_
  refine qcons (qk_callv (ins := fun i => .invokevirtual i) (qconsV (qrunV M_X12_in (by decide) (by decide) (by decide) rfl tw_1082 tw_1084 tw_20 tw_1085 tw_90 ⟨by decide, by decide⟩ (by decide +kernel)) qnilV) dX12_person_5) ?_
  refine qcons (qk_ifeq dX12_person_8 (by decide)) ?_
  refine qcons (qk_aload_n dX12_person_11 rfl) ?_
  refine qcons (qk_iload_n dX12_person_12 rfl) ?_
  refine qcons (qk_callv (ins := fun i => .invokevirtual i) (qconsV (qrunV M_X12_isWork (by decide) (by decide) (by decide) rfl tw_1086 tw_1088 tw_21 tw_1089 tw_90 ⟨by decide, by decide⟩ (by decide +kernel)) qnilV) dX12_person_13) ?_
  refine qcons (qk_ifne dX12_person_16 (by decide)) ?_
  refine qcons (qk_iconst dX12_person_19 (by decide)) ?_
  refine qcons (qk_ret dX12_person_20 (Or.inr (Or.inl ⟨rfl, rfl⟩))) ?_
  refine qcons (qk_aload_n dX12_person_21 rfl) ?_
  refine qcons (qk_iload_n dX12_person_22 rfl) ?_
  refine qcons (qk_iconst dX12_person_23 (by decide)) ?_
  refine qcons (qk_bipush dX12_person_24 (by decide) (by decide)) ?_
  refine qcons (qk_callv (ins := fun i => .invokevirtual i) (qconsV (qrunV M_X12_in (by decide) (by decide) (by decide) rfl tw_1082 tw_1084 tw_20 tw_1085 tw_90 ⟨by decide, by decide⟩ (by decide +kernel)) qnilV) dX12_person_26) ?_
  refine qcons (qk_ifne dX12_person_29 (by decide)) ?_
  refine qcons (qk_bipush dX12_person_32 (by decide) (by decide)) ?_
  refine qcons (qk_ret dX12_person_34 (Or.inr (Or.inl ⟨rfl, rfl⟩))) ?_
  refine qcons (qk_aload_n dX12_person_35 rfl) ?_
  refine qcons (qk_getI fd_X12_7 kd_12_0 dX12_person_36) ?_
  refine qcons (qk_bipush dX12_person_39 (by decide) (by decide)) ?_
  refine qcons (qk_icne dX12_person_41 (by decide)) ?_
  refine qcons (qk_bipush dX12_person_44 (by decide) (by decide)) ?_
  refine qcons (qk_ret dX12_person_46 (Or.inr (Or.inl ⟨rfl, rfl⟩))) ?_
  refine qcons (qk_aload_n dX12_person_47 rfl) ?_
  refine qcons (qk_getR fd_X12_23 kd_12_4 dX12_person_48) ?_
  refine qcons (qk_aload_n dX12_person_51 rfl) ?_
  refine qcons (qk_getI fd_X12_7 kd_12_0 dX12_person_52) ?_
  refine qcons (qk_iload_n dX12_person_55 rfl) ?_
  refine qcons (qk_iastore dX12_person_56) ?_
  refine qcons (qk_aload_n dX12_person_57 rfl) ?_
  refine qcons (qk_getR fd_X12_26 kd_12_5 dX12_person_58) ?_
  refine qcons (qk_aload_n dX12_person_61 rfl) ?_
  refine qcons (qk_getI fd_X12_7 kd_12_0 dX12_person_62) ?_
  refine qcons (qk_iload_n dX12_person_65 rfl) ?_
  refine qcons (qk_iastore dX12_person_66) ?_
  refine qcons (qk_aload_n dX12_person_67 rfl) ?_
  refine qcons (qk_getR fd_X12_29 kd_12_6 dX12_person_68) ?_
  refine qcons (qk_aload_n dX12_person_71 rfl) ?_
  refine qcons (qk_getI fd_X12_7 kd_12_0 dX12_person_72) ?_
  refine qcons (qk_iload_n dX12_person_75 rfl) ?_
  refine qcons (qk_iastore dX12_person_76) ?_
  refine qcons (qk_aload_n dX12_person_77 rfl) ?_
  refine qcons (qk_getR fd_X12_32 kd_12_7 dX12_person_78) ?_
  refine qcons (qk_aload_n dX12_person_81 rfl) ?_
  refine qcons (qk_getI fd_X12_7 kd_12_0 dX12_person_82) ?_
  refine qcons (qk_iconst dX12_person_85 (by decide)) ?_
  refine qcons (qk_iastore dX12_person_86) ?_
  refine qcons (qk_aload_n dX12_person_87 rfl) ?_
  refine qcons (qk_getR fd_X12_35 kd_12_8 dX12_person_88) ?_
  refine qcons (qk_aload_n dX12_person_91 rfl) ?_
  refine qcons (qk_getI fd_X12_7 kd_12_0 dX12_person_92) ?_
  refine qcons (qk_iconst dX12_person_95 (by decide)) ?_
  refine qcons (qk_iastore dX12_person_96) ?_
  refine qcons (qk_aload_n dX12_person_97 rfl) ?_
  refine qcons (qk_dup dX12_person_98) ?_
  refine qcons (qk_getI fd_X12_16 kd_12_2 dX12_person_99) ?_
  refine qcons (qk_iconst dX12_person_102 (by decide)) ?_
  refine qcons (qk_aload_n dX12_person_103 rfl) ?_
  refine qcons (qk_getI fd_X12_7 kd_12_0 dX12_person_104) ?_
  refine qcons (qk_ishl dX12_person_107) ?_
  refine qcons (qk_iconst dX12_person_108 (by decide)) ?_
  refine qcons (qk_ixor dX12_person_109) ?_
  refine qcons (qk_iand dX12_person_110) ?_
  refine qcons (qk_putI (ty := .int) fd_X12_16 tyX12_ok nmX12 (Or.inl rfl) kd_12_2 (tyX12_ok 2 (by decide)) dX12_person_111) ?_
  refine qcons (qk_iconst dX12_person_114 (by decide)) ?_
  refine qcons (qk_istore dX12_person_115) ?_
  refine qcons (qk_iload dX12_person_117) ?_
  refine qcons (qk_iconst dX12_person_119 (by decide)) ?_
  refine qcons (qk_icge dX12_person_120 (by decide)) ?_
  refine qcons (qk_aload_n dX12_person_123 rfl) ?_
  refine qcons (qk_getR fd_X12_38 kd_12_9 dX12_person_124) ?_
  refine qcons (qk_iconst dX12_person_127 (by decide)) ?_
  refine qcons (qk_aload_n dX12_person_128 rfl) ?_
  refine qcons (qk_getI fd_X12_7 kd_12_0 dX12_person_129) ?_
  refine qcons (qk_imul dX12_person_132) ?_
  refine qcons (qk_iload dX12_person_133) ?_
  refine qcons (qk_iadd dX12_person_135) ?_
  refine qcons (qk_iconst dX12_person_136 (by decide)) ?_
  refine qcons (qk_iastore dX12_person_137) ?_
  refine qcons (qk_iinc dX12_person_138) ?_
  refine qcons (qk_goto dX12_person_141 (by decide)) ?_
  refine qcons (qk_aload_n dX12_person_144 rfl) ?_
  refine qcons (qk_dup dX12_person_145) ?_
  refine qcons (qk_getI fd_X12_7 kd_12_0 dX12_person_146) ?_
  refine qcons (qk_iconst dX12_person_149 (by decide)) ?_
  refine qcons (qk_iadd dX12_person_150) ?_
  refine qcons (qk_putI (ty := .int) fd_X12_7 tyX12_ok nmX12 (Or.inl rfl) kd_12_0 (tyX12_ok 0 (by decide)) dX12_person_151) ?_
  refine qcons (qk_aload_n dX12_person_154 rfl) ?_
  refine qcons (qk_getI fd_X12_7 kd_12_0 dX12_person_155) ?_
  refine qcons (qk_iconst dX12_person_158 (by decide)) ?_
  refine qcons (qk_isub dX12_person_159) ?_
  refine qcons (qk_ret dX12_person_160 (Or.inr (Or.inl ⟨rfl, rfl⟩))) ?_
  exact qnil
theorem M_X12_person {X : qX} {l : Launch} : qMet X l 3 yX12_person cX12_person 5 (some .int) S_X12_person := qmet_of K_X12_person (by decide) rfl rfl
theorem dX12_work_0 : decode cX12_work 0 = .ok (.aload_n 0, 1) := by decide +kernel
theorem dX12_work_1 : decode cX12_work 1 = .ok (.iload_n 1, 1) := by decide +kernel
theorem dX12_work_2 : decode cX12_work 2 = .ok (.invokevirtual 248, 3) := by decide +kernel
theorem dX12_work_5 : decode cX12_work 5 = .ok (.ifCond .eq 11, 3) := by decide +kernel
theorem dX12_work_8 : decode cX12_work 8 = .ok (.aload_n 0, 1) := by decide +kernel
theorem dX12_work_9 : decode cX12_work 9 = .ok (.iload_n 2, 1) := by decide +kernel
theorem dX12_work_10 : decode cX12_work 10 = .ok (.invokevirtual 244, 3) := by decide +kernel
theorem dX12_work_13 : decode cX12_work 13 = .ok (.ifCond .ne 5, 3) := by decide +kernel
theorem dX12_work_16 : decode cX12_work 16 = .ok (.iconst (-1), 1) := by decide +kernel
theorem dX12_work_17 : decode cX12_work 17 = .ok (.ireturn, 1) := by decide +kernel
theorem dX12_work_18 : decode cX12_work 18 = .ok (.aload_n 0, 1) := by decide +kernel
theorem dX12_work_19 : decode cX12_work 19 = .ok (.getfield 29, 3) := by decide +kernel
theorem dX12_work_22 : decode cX12_work 22 = .ok (.iload_n 1, 1) := by decide +kernel
theorem dX12_work_23 : decode cX12_work 23 = .ok (.iaload, 1) := by decide +kernel
theorem dX12_work_24 : decode cX12_work 24 = .ok (.istore_n 3, 1) := by decide +kernel
theorem dX12_work_25 : decode cX12_work 25 = .ok (.aload_n 0, 1) := by decide +kernel
theorem dX12_work_26 : decode cX12_work 26 = .ok (.getfield 29, 3) := by decide +kernel
theorem dX12_work_29 : decode cX12_work 29 = .ok (.iload_n 1, 1) := by decide +kernel
theorem dX12_work_30 : decode cX12_work 30 = .ok (.iload_n 2, 1) := by decide +kernel
theorem dX12_work_31 : decode cX12_work 31 = .ok (.iastore, 1) := by decide +kernel
theorem dX12_work_32 : decode cX12_work 32 = .ok (.iload_n 3, 1) := by decide +kernel
theorem dX12_work_33 : decode cX12_work 33 = .ok (.ireturn, 1) := by decide +kernel
noncomputable def C_X12_work : List (Nat × qOp) := [(0, qo_aload 0 1),
  (1, qo_iload 1 1),
  (2, qo_callv [(12, S_X12_isPerson)] 1),
  (5, qo_ifeq 16),
  (8, qo_aload 0 1),
  (9, qo_iload 2 1),
  (10, qo_callv [(12, S_X12_isWork)] 1),
  (13, qo_ifne 18),
  (16, qo_ci (-1) 1),
  (17, qo_ret (some .int) 1),
  (18, qo_aload 0 1),
  (19, qo_getR 12 6),
  (22, qo_iload 1 1),
  (23, qo_iaload),
  (24, qo_istore 3 1),
  (25, qo_aload 0 1),
  (26, qo_getR 12 6),
  (29, qo_iload 1 1),
  (30, qo_iload 2 1),
  (31, qo_iastore),
  (32, qo_iload 3 1),
  (33, qo_ret (some .int) 1)]
noncomputable def S_X12_work : qSem := qM 4 C_X12_work
set_option maxRecDepth 20000 in
theorem K_X12_work {X : qX} {l : Launch} : ∀ q ∈ C_X12_work, qOk X l 3 cX12_work 4 RX12 "work" (some .int) q.1 q.2 := by
  unfold C_X12_work
  refine qcons (qk_aload_n dX12_work_0 rfl) ?_
  refine qcons (qk_iload_n dX12_work_1 rfl) ?_
  refine qcons (qk_callv (ins := fun i => .invokevirtual i) (qconsV (qrunV M_X12_isPerson (by decide) (by decide) (by decide) rfl tw_1094 tw_1096 tw_22 tw_1097 tw_90 ⟨by decide, by decide⟩ (by decide +kernel)) qnilV) dX12_work_2) ?_
  refine qcons (qk_ifeq dX12_work_5 (by decide)) ?_
  refine qcons (qk_aload_n dX12_work_8 rfl) ?_
  refine qcons (qk_iload_n dX12_work_9 rfl) ?_
  refine qcons (qk_callv (ins := fun i => .invokevirtual i) (qconsV (qrunV M_X12_isWork (by decide) (by decide) (by decide) rfl tw_1086 tw_1088 tw_21 tw_1089 tw_90 ⟨by decide, by decide⟩ (by decide +kernel)) qnilV) dX12_work_10) ?_
  refine qcons (qk_ifne dX12_work_13 (by decide)) ?_
  refine qcons (qk_iconst dX12_work_16 (by decide)) ?_
  refine qcons (qk_ret dX12_work_17 (Or.inr (Or.inl ⟨rfl, rfl⟩))) ?_
  refine qcons (qk_aload_n dX12_work_18 rfl) ?_
  refine qcons (qk_getR fd_X12_29 kd_12_6 dX12_work_19) ?_
  refine qcons (qk_iload_n dX12_work_22 rfl) ?_
  refine qcons (qk_iaload dX12_work_23) ?_
  refine qcons (qk_istore_n dX12_work_24 rfl) ?_
  refine qcons (qk_aload_n dX12_work_25 rfl) ?_
  refine qcons (qk_getR fd_X12_29 kd_12_6 dX12_work_26) ?_
  refine qcons (qk_iload_n dX12_work_29 rfl) ?_
  refine qcons (qk_iload_n dX12_work_30 rfl) ?_
  refine qcons (qk_iastore dX12_work_31) ?_
  refine qcons (qk_iload_n dX12_work_32 rfl) ?_
  refine qcons (qk_ret dX12_work_33 (Or.inr (Or.inl ⟨rfl, rfl⟩))) ?_
  exact qnil
theorem M_X12_work {X : qX} {l : Launch} : qMet X l 3 yX12_work cX12_work 4 (some .int) S_X12_work := qmet_of K_X12_work (by decide) rfl rfl
theorem dX12_goes_0 : decode cX12_goes 0 = .ok (.aload_n 0, 1) := by decide +kernel
theorem dX12_goes_1 : decode cX12_goes 1 = .ok (.iload_n 2, 1) := by decide +kernel
theorem dX12_goes_2 : decode cX12_goes 2 = .ok (.ifCond .eq 14, 3) := by decide +kernel
theorem dX12_goes_5 : decode cX12_goes 5 = .ok (.aload_n 0, 1) := by decide +kernel
theorem dX12_goes_6 : decode cX12_goes 6 = .ok (.getfield 16, 3) := by decide +kernel
theorem dX12_goes_9 : decode cX12_goes 9 = .ok (.iconst 1, 1) := by decide +kernel
theorem dX12_goes_10 : decode cX12_goes 10 = .ok (.iload_n 1, 1) := by decide +kernel
theorem dX12_goes_11 : decode cX12_goes 11 = .ok (.ishl, 1) := by decide +kernel
theorem dX12_goes_12 : decode cX12_goes 12 = .ok (.ior, 1) := by decide +kernel
theorem dX12_goes_13 : decode cX12_goes 13 = .ok (.goto 13, 3) := by decide +kernel
theorem dX12_goes_16 : decode cX12_goes 16 = .ok (.aload_n 0, 1) := by decide +kernel
theorem dX12_goes_17 : decode cX12_goes 17 = .ok (.getfield 16, 3) := by decide +kernel
theorem dX12_goes_20 : decode cX12_goes 20 = .ok (.iconst 1, 1) := by decide +kernel
theorem dX12_goes_21 : decode cX12_goes 21 = .ok (.iload_n 1, 1) := by decide +kernel
theorem dX12_goes_22 : decode cX12_goes 22 = .ok (.ishl, 1) := by decide +kernel
theorem dX12_goes_23 : decode cX12_goes 23 = .ok (.iconst (-1), 1) := by decide +kernel
theorem dX12_goes_24 : decode cX12_goes 24 = .ok (.ixor, 1) := by decide +kernel
theorem dX12_goes_25 : decode cX12_goes 25 = .ok (.iand, 1) := by decide +kernel
theorem dX12_goes_26 : decode cX12_goes 26 = .ok (.putfield 16, 3) := by decide +kernel
theorem dX12_goes_29 : decode cX12_goes 29 = .ok (.return_, 1) := by decide +kernel
noncomputable def C_X12_goes : List (Nat × qOp) := [(0, qo_aload 0 1),
  (1, qo_iload 2 1),
  (2, qo_ifeq 16),
  (5, qo_aload 0 1),
  (6, qo_getI 12 2),
  (9, qo_ci 1 1),
  (10, qo_iload 1 1),
  (11, qo_ishl),
  (12, qo_ior),
  (13, qo_goto 26),
  (16, qo_aload 0 1),
  (17, qo_getI 12 2),
  (20, qo_ci 1 1),
  (21, qo_iload 1 1),
  (22, qo_ishl),
  (23, qo_ci (-1) 1),
  (24, qo_ixor),
  (25, qo_iand),
  (26, qo_putI 12 2),
  (29, qo_ret none 0)]
noncomputable def S_X12_goes : qSem := qM 3 C_X12_goes
set_option maxRecDepth 20000 in
theorem K_X12_goes {X : qX} {l : Launch} : ∀ q ∈ C_X12_goes, qOk X l 1 cX12_goes 3 RX12 "goes" none q.1 q.2 := by
  unfold C_X12_goes
  refine qcons (qk_aload_n dX12_goes_0 rfl) ?_
  refine qcons (qk_iload_n dX12_goes_1 rfl) ?_
  refine qcons (qk_ifeq dX12_goes_2 (by decide)) ?_
  refine qcons (qk_aload_n dX12_goes_5 rfl) ?_
  refine qcons (qk_getI fd_X12_16 kd_12_2 dX12_goes_6) ?_
  refine qcons (qk_iconst dX12_goes_9 (by decide)) ?_
  refine qcons (qk_iload_n dX12_goes_10 rfl) ?_
  refine qcons (qk_ishl dX12_goes_11) ?_
  refine qcons (qk_ior dX12_goes_12) ?_
  refine qcons (qk_goto dX12_goes_13 (by decide)) ?_
  refine qcons (qk_aload_n dX12_goes_16 rfl) ?_
  refine qcons (qk_getI fd_X12_16 kd_12_2 dX12_goes_17) ?_
  refine qcons (qk_iconst dX12_goes_20 (by decide)) ?_
  refine qcons (qk_iload_n dX12_goes_21 rfl) ?_
  refine qcons (qk_ishl dX12_goes_22) ?_
  refine qcons (qk_iconst dX12_goes_23 (by decide)) ?_
  refine qcons (qk_ixor dX12_goes_24) ?_
  refine qcons (qk_iand dX12_goes_25) ?_
  refine qcons (qk_putI (ty := .int) fd_X12_16 tyX12_ok nmX12 (Or.inl rfl) kd_12_2 (tyX12_ok 2 (by decide)) dX12_goes_26) ?_
  refine qcons (qk_ret dX12_goes_29 (Or.inl ⟨rfl, rfl⟩)) ?_
  exact qnil
theorem M_X12_goes {X : qX} {l : Launch} : qMet X l 1 yX12_goes cX12_goes 3 none S_X12_goes := qmet_of K_X12_goes (by decide) rfl rfl
theorem dX12_home_0 : decode cX12_home 0 = .ok (.aload_n 0, 1) := by decide +kernel
theorem dX12_home_1 : decode cX12_home 1 = .ok (.iload_n 1, 1) := by decide +kernel
theorem dX12_home_2 : decode cX12_home 2 = .ok (.invokevirtual 248, 3) := by decide +kernel
theorem dX12_home_5 : decode cX12_home 5 = .ok (.ifCond .ne 5, 3) := by decide +kernel
theorem dX12_home_8 : decode cX12_home 8 = .ok (.iconst (-1), 1) := by decide +kernel
theorem dX12_home_9 : decode cX12_home 9 = .ok (.ireturn, 1) := by decide +kernel
theorem dX12_home_10 : decode cX12_home 10 = .ok (.aload_n 0, 1) := by decide +kernel
theorem dX12_home_11 : decode cX12_home 11 = .ok (.aload_n 0, 1) := by decide +kernel
theorem dX12_home_12 : decode cX12_home 12 = .ok (.getfield 16, 3) := by decide +kernel
theorem dX12_home_15 : decode cX12_home 15 = .ok (.iload_n 1, 1) := by decide +kernel
theorem dX12_home_16 : decode cX12_home 16 = .ok (.invokevirtual 251, 3) := by decide +kernel
theorem dX12_home_19 : decode cX12_home 19 = .ok (.ifCond .eq 7, 3) := by decide +kernel
theorem dX12_home_22 : decode cX12_home 22 = .ok (.iconst 1, 1) := by decide +kernel
theorem dX12_home_23 : decode cX12_home 23 = .ok (.goto 4, 3) := by decide +kernel
theorem dX12_home_26 : decode cX12_home 26 = .ok (.iconst 0, 1) := by decide +kernel
theorem dX12_home_27 : decode cX12_home 27 = .ok (.istore_n 3, 1) := by decide +kernel
theorem dX12_home_28 : decode cX12_home 28 = .ok (.aload_n 0, 1) := by decide +kernel
theorem dX12_home_29 : decode cX12_home 29 = .ok (.iload_n 1, 1) := by decide +kernel
theorem dX12_home_30 : decode cX12_home 30 = .ok (.iload_n 2, 1) := by decide +kernel
theorem dX12_home_31 : decode cX12_home 31 = .ok (.invokevirtual 255, 3) := by decide +kernel
theorem dX12_home_34 : decode cX12_home 34 = .ok (.iload_n 3, 1) := by decide +kernel
theorem dX12_home_35 : decode cX12_home 35 = .ok (.ireturn, 1) := by decide +kernel
noncomputable def C_X12_home : List (Nat × qOp) := [(0, qo_aload 0 1),
  (1, qo_iload 1 1),
  (2, qo_callv [(12, S_X12_isPerson)] 1),
  (5, qo_ifne 10),
  (8, qo_ci (-1) 1),
  (9, qo_ret (some .int) 1),
  (10, qo_aload 0 1),
  (11, qo_aload 0 1),
  (12, qo_getI 12 2),
  (15, qo_iload 1 1),
  (16, qo_callv [(12, S_X12_has)] 2),
  (19, qo_ifeq 26),
  (22, qo_ci 1 1),
  (23, qo_goto 27),
  (26, qo_ci 0 1),
  (27, qo_istore 3 1),
  (28, qo_aload 0 1),
  (29, qo_iload 1 1),
  (30, qo_iload 2 1),
  (31, qo_callv [(12, S_X12_goes)] 2),
  (34, qo_iload 3 1),
  (35, qo_ret (some .int) 1)]
noncomputable def S_X12_home : qSem := qM 4 C_X12_home
set_option maxRecDepth 20000 in
theorem K_X12_home {X : qX} {l : Launch} : ∀ q ∈ C_X12_home, qOk X l 3 cX12_home 4 RX12 "home" (some .int) q.1 q.2 := by
  unfold C_X12_home
  refine qcons (qk_aload_n dX12_home_0 rfl) ?_
  refine qcons (qk_iload_n dX12_home_1 rfl) ?_
  refine qcons (qk_callv (ins := fun i => .invokevirtual i) (qconsV (qrunV M_X12_isPerson (by decide) (by decide) (by decide) rfl tw_1094 tw_1096 tw_22 tw_1097 tw_90 ⟨by decide, by decide⟩ (by decide +kernel)) qnilV) dX12_home_2) ?_
  refine qcons (qk_ifne dX12_home_5 (by decide)) ?_
  refine qcons (qk_iconst dX12_home_8 (by decide)) ?_
  refine qcons (qk_ret dX12_home_9 (Or.inr (Or.inl ⟨rfl, rfl⟩))) ?_
  refine qcons (qk_aload_n dX12_home_10 rfl) ?_
  refine qcons (qk_aload_n dX12_home_11 rfl) ?_
  refine qcons (qk_getI fd_X12_16 kd_12_2 dX12_home_12) ?_
  refine qcons (qk_iload_n dX12_home_15 rfl) ?_
  refine qcons (qk_callv (ins := fun i => .invokevirtual i) (qconsV (qrunV M_X12_has (by decide) (by decide) (by decide) rfl tw_1102 tw_1104 tw_23 tw_1105 tw_90 ⟨by decide, by decide⟩ (by decide +kernel)) qnilV) dX12_home_16) ?_
  refine qcons (qk_ifeq dX12_home_19 (by decide)) ?_
  refine qcons (qk_iconst dX12_home_22 (by decide)) ?_
  refine qcons (qk_goto dX12_home_23 (by decide)) ?_
  refine qcons (qk_iconst dX12_home_26 (by decide)) ?_
  refine qcons (qk_istore_n dX12_home_27 rfl) ?_
  refine qcons (qk_aload_n dX12_home_28 rfl) ?_
  refine qcons (qk_iload_n dX12_home_29 rfl) ?_
  refine qcons (qk_iload_n dX12_home_30 rfl) ?_
  refine qcons (qk_callv (ins := fun i => .invokevirtual i) (qconsV (qrunV M_X12_goes (by decide) (by decide) (by decide) rfl tw_1106 tw_1108 tw_24 tw_1109 tw_90 ⟨by decide, by decide⟩ (by decide +kernel)) qnilV) dX12_home_31) ?_
  refine qcons (qk_iload_n dX12_home_34 rfl) ?_
  refine qcons (qk_ret dX12_home_35 (Or.inr (Or.inl ⟨rfl, rfl⟩))) ?_
  exact qnil
theorem M_X12_home {X : qX} {l : Launch} : qMet X l 3 yX12_home cX12_home 4 (some .int) S_X12_home := qmet_of K_X12_home (by decide) rfl rfl
theorem dX12_row_0 : decode cX12_row 0 = .ok (.aload_n 0, 1) := by decide +kernel
theorem dX12_row_1 : decode cX12_row 1 = .ok (.iload_n 1, 1) := by decide +kernel
theorem dX12_row_2 : decode cX12_row 2 = .ok (.invokevirtual 248, 3) := by decide +kernel
theorem dX12_row_5 : decode cX12_row 5 = .ok (.ifCond .eq 13, 3) := by decide +kernel
theorem dX12_row_8 : decode cX12_row 8 = .ok (.aload_n 0, 1) := by decide +kernel
theorem dX12_row_9 : decode cX12_row 9 = .ok (.iload_n 2, 1) := by decide +kernel
theorem dX12_row_10 : decode cX12_row 10 = .ok (.iconst 0, 1) := by decide +kernel
theorem dX12_row_11 : decode cX12_row 11 = .ok (.iconst 3, 1) := by decide +kernel
theorem dX12_row_12 : decode cX12_row 12 = .ok (.invokevirtual 240, 3) := by decide +kernel
theorem dX12_row_15 : decode cX12_row 15 = .ok (.ifCond .ne 5, 3) := by decide +kernel
theorem dX12_row_18 : decode cX12_row 18 = .ok (.iconst (-1), 1) := by decide +kernel
theorem dX12_row_19 : decode cX12_row 19 = .ok (.ireturn, 1) := by decide +kernel
theorem dX12_row_20 : decode cX12_row 20 = .ok (.aload_n 0, 1) := by decide +kernel
theorem dX12_row_21 : decode cX12_row 21 = .ok (.iload_n 3, 1) := by decide +kernel
theorem dX12_row_22 : decode cX12_row 22 = .ok (.iconst 0, 1) := by decide +kernel
theorem dX12_row_23 : decode cX12_row 23 = .ok (.bipush 9, 2) := by decide +kernel
theorem dX12_row_25 : decode cX12_row 25 = .ok (.invokevirtual 240, 3) := by decide +kernel
theorem dX12_row_28 : decode cX12_row 28 = .ok (.ifCond .ne 6, 3) := by decide +kernel
theorem dX12_row_31 : decode cX12_row 31 = .ok (.bipush (-2), 2) := by decide +kernel
theorem dX12_row_33 : decode cX12_row 33 = .ok (.ireturn, 1) := by decide +kernel
theorem dX12_row_34 : decode cX12_row 34 = .ok (.aload_n 0, 1) := by decide +kernel
theorem dX12_row_35 : decode cX12_row 35 = .ok (.getfield 23, 3) := by decide +kernel
theorem dX12_row_38 : decode cX12_row 38 = .ok (.iload_n 1, 1) := by decide +kernel
theorem dX12_row_39 : decode cX12_row 39 = .ok (.iaload, 1) := by decide +kernel
theorem dX12_row_40 : decode cX12_row 40 = .ok (.bipush 6, 2) := by decide +kernel
theorem dX12_row_42 : decode cX12_row 42 = .ok (.if_icmp .eq 6, 3) := by decide +kernel
theorem dX12_row_45 : decode cX12_row 45 = .ok (.bipush (-3), 2) := by decide +kernel
theorem dX12_row_47 : decode cX12_row 47 = .ok (.ireturn, 1) := by decide +kernel
theorem dX12_row_48 : decode cX12_row 48 = .ok (.aload_n 0, 1) := by decide +kernel
theorem dX12_row_49 : decode cX12_row 49 = .ok (.getfield 38, 3) := by decide +kernel
theorem dX12_row_52 : decode cX12_row 52 = .ok (.iconst 4, 1) := by decide +kernel
theorem dX12_row_53 : decode cX12_row 53 = .ok (.iload_n 1, 1) := by decide +kernel
theorem dX12_row_54 : decode cX12_row 54 = .ok (.imul, 1) := by decide +kernel
theorem dX12_row_55 : decode cX12_row 55 = .ok (.iload_n 2, 1) := by decide +kernel
theorem dX12_row_56 : decode cX12_row 56 = .ok (.iadd, 1) := by decide +kernel
theorem dX12_row_57 : decode cX12_row 57 = .ok (.iaload, 1) := by decide +kernel
theorem dX12_row_58 : decode cX12_row 58 = .ok (.istore 4, 2) := by decide +kernel
theorem dX12_row_60 : decode cX12_row 60 = .ok (.aload_n 0, 1) := by decide +kernel
theorem dX12_row_61 : decode cX12_row 61 = .ok (.getfield 38, 3) := by decide +kernel
theorem dX12_row_64 : decode cX12_row 64 = .ok (.iconst 4, 1) := by decide +kernel
theorem dX12_row_65 : decode cX12_row 65 = .ok (.iload_n 1, 1) := by decide +kernel
theorem dX12_row_66 : decode cX12_row 66 = .ok (.imul, 1) := by decide +kernel
theorem dX12_row_67 : decode cX12_row 67 = .ok (.iload_n 2, 1) := by decide +kernel
theorem dX12_row_68 : decode cX12_row 68 = .ok (.iadd, 1) := by decide +kernel
theorem dX12_row_69 : decode cX12_row 69 = .ok (.iload_n 3, 1) := by decide +kernel
theorem dX12_row_70 : decode cX12_row 70 = .ok (.iastore, 1) := by decide +kernel
theorem dX12_row_71 : decode cX12_row 71 = .ok (.iload 4, 2) := by decide +kernel
theorem dX12_row_73 : decode cX12_row 73 = .ok (.ireturn, 1) := by decide +kernel
noncomputable def C_X12_row : List (Nat × qOp) := [(0, qo_aload 0 1),
  (1, qo_iload 1 1),
  (2, qo_callv [(12, S_X12_isPerson)] 1),
  (5, qo_ifeq 18),
  (8, qo_aload 0 1),
  (9, qo_iload 2 1),
  (10, qo_ci 0 1),
  (11, qo_ci 3 1),
  (12, qo_callv [(12, S_X12_in)] 3),
  (15, qo_ifne 20),
  (18, qo_ci (-1) 1),
  (19, qo_ret (some .int) 1),
  (20, qo_aload 0 1),
  (21, qo_iload 3 1),
  (22, qo_ci 0 1),
  (23, qo_ci 9 2),
  (25, qo_callv [(12, S_X12_in)] 3),
  (28, qo_ifne 34),
  (31, qo_ci (-2) 2),
  (33, qo_ret (some .int) 1),
  (34, qo_aload 0 1),
  (35, qo_getR 12 4),
  (38, qo_iload 1 1),
  (39, qo_iaload),
  (40, qo_ci 6 2),
  (42, qo_iceq 48),
  (45, qo_ci (-3) 2),
  (47, qo_ret (some .int) 1),
  (48, qo_aload 0 1),
  (49, qo_getR 12 9),
  (52, qo_ci 4 1),
  (53, qo_iload 1 1),
  (54, qo_imul),
  (55, qo_iload 2 1),
  (56, qo_iadd),
  (57, qo_iaload),
  (58, qo_istore 4 2),
  (60, qo_aload 0 1),
  (61, qo_getR 12 9),
  (64, qo_ci 4 1),
  (65, qo_iload 1 1),
  (66, qo_imul),
  (67, qo_iload 2 1),
  (68, qo_iadd),
  (69, qo_iload 3 1),
  (70, qo_iastore),
  (71, qo_iload 4 2),
  (73, qo_ret (some .int) 1)]
noncomputable def S_X12_row : qSem := qM 5 C_X12_row
set_option maxRecDepth 20000 in
theorem K_X12_row {X : qX} {l : Launch} : ∀ q ∈ C_X12_row, qOk X l 3 cX12_row 5 RX12 "row" (some .int) q.1 q.2 := by
  unfold C_X12_row
  refine qcons (qk_aload_n dX12_row_0 rfl) ?_
  refine qcons (qk_iload_n dX12_row_1 rfl) ?_
  refine qcons (qk_callv (ins := fun i => .invokevirtual i) (qconsV (qrunV M_X12_isPerson (by decide) (by decide) (by decide) rfl tw_1094 tw_1096 tw_22 tw_1097 tw_90 ⟨by decide, by decide⟩ (by decide +kernel)) qnilV) dX12_row_2) ?_
  refine qcons (qk_ifeq dX12_row_5 (by decide)) ?_
  refine qcons (qk_aload_n dX12_row_8 rfl) ?_
  refine qcons (qk_iload_n dX12_row_9 rfl) ?_
  refine qcons (qk_iconst dX12_row_10 (by decide)) ?_
  refine qcons (qk_iconst dX12_row_11 (by decide)) ?_
  refine qcons (qk_callv (ins := fun i => .invokevirtual i) (qconsV (qrunV M_X12_in (by decide) (by decide) (by decide) rfl tw_1082 tw_1084 tw_20 tw_1085 tw_90 ⟨by decide, by decide⟩ (by decide +kernel)) qnilV) dX12_row_12) ?_
  refine qcons (qk_ifne dX12_row_15 (by decide)) ?_
  refine qcons (qk_iconst dX12_row_18 (by decide)) ?_
  refine qcons (qk_ret dX12_row_19 (Or.inr (Or.inl ⟨rfl, rfl⟩))) ?_
  refine qcons (qk_aload_n dX12_row_20 rfl) ?_
  refine qcons (qk_iload_n dX12_row_21 rfl) ?_
  refine qcons (qk_iconst dX12_row_22 (by decide)) ?_
  refine qcons (qk_bipush dX12_row_23 (by decide) (by decide)) ?_
  refine qcons (qk_callv (ins := fun i => .invokevirtual i) (qconsV (qrunV M_X12_in (by decide) (by decide) (by decide) rfl tw_1082 tw_1084 tw_20 tw_1085 tw_90 ⟨by decide, by decide⟩ (by decide +kernel)) qnilV) dX12_row_25) ?_
  refine qcons (qk_ifne dX12_row_28 (by decide)) ?_
  refine qcons (qk_bipush dX12_row_31 (by decide) (by decide)) ?_
  refine qcons (qk_ret dX12_row_33 (Or.inr (Or.inl ⟨rfl, rfl⟩))) ?_
  refine qcons (qk_aload_n dX12_row_34 rfl) ?_
  refine qcons (qk_getR fd_X12_23 kd_12_4 dX12_row_35) ?_
  refine qcons (qk_iload_n dX12_row_38 rfl) ?_
  refine qcons (qk_iaload dX12_row_39) ?_
  refine qcons (qk_bipush dX12_row_40 (by decide) (by decide)) ?_
  refine qcons (qk_iceq dX12_row_42 (by decide)) ?_
  refine qcons (qk_bipush dX12_row_45 (by decide) (by decide)) ?_
  refine qcons (qk_ret dX12_row_47 (Or.inr (Or.inl ⟨rfl, rfl⟩))) ?_
  refine qcons (qk_aload_n dX12_row_48 rfl) ?_
  refine qcons (qk_getR fd_X12_38 kd_12_9 dX12_row_49) ?_
  refine qcons (qk_iconst dX12_row_52 (by decide)) ?_
  refine qcons (qk_iload_n dX12_row_53 rfl) ?_
  refine qcons (qk_imul dX12_row_54) ?_
  refine qcons (qk_iload_n dX12_row_55 rfl) ?_
  refine qcons (qk_iadd dX12_row_56) ?_
  refine qcons (qk_iaload dX12_row_57) ?_
  refine qcons (qk_istore dX12_row_58) ?_
  refine qcons (qk_aload_n dX12_row_60 rfl) ?_
  refine qcons (qk_getR fd_X12_38 kd_12_9 dX12_row_61) ?_
  refine qcons (qk_iconst dX12_row_64 (by decide)) ?_
  refine qcons (qk_iload_n dX12_row_65 rfl) ?_
  refine qcons (qk_imul dX12_row_66) ?_
  refine qcons (qk_iload_n dX12_row_67 rfl) ?_
  refine qcons (qk_iadd dX12_row_68) ?_
  refine qcons (qk_iload_n dX12_row_69 rfl) ?_
  refine qcons (qk_iastore dX12_row_70) ?_
  refine qcons (qk_iload dX12_row_71) ?_
  refine qcons (qk_ret dX12_row_73 (Or.inr (Or.inl ⟨rfl, rfl⟩))) ?_
  exact qnil
theorem M_X12_row {X : qX} {l : Launch} : qMet X l 3 yX12_row cX12_row 5 (some .int) S_X12_row := qmet_of K_X12_row (by decide) rfl rfl
theorem dX12_heap_0 : decode cX12_heap 0 = .ok (.aload_n 0, 1) := by decide +kernel
theorem dX12_heap_1 : decode cX12_heap 1 = .ok (.iload_n 1, 1) := by decide +kernel
theorem dX12_heap_2 : decode cX12_heap 2 = .ok (.invokevirtual 259, 3) := by decide +kernel
theorem dX12_heap_5 : decode cX12_heap 5 = .ok (.ifCond .ne 5, 3) := by decide +kernel
theorem dX12_heap_8 : decode cX12_heap 8 = .ok (.iconst (-1), 1) := by decide +kernel
theorem dX12_heap_9 : decode cX12_heap 9 = .ok (.ireturn, 1) := by decide +kernel
theorem dX12_heap_10 : decode cX12_heap 10 = .ok (.aload_n 0, 1) := by decide +kernel
theorem dX12_heap_11 : decode cX12_heap 11 = .ok (.iload_n 2, 1) := by decide +kernel
theorem dX12_heap_12 : decode cX12_heap 12 = .ok (.invokevirtual 262, 3) := by decide +kernel
theorem dX12_heap_15 : decode cX12_heap 15 = .ok (.ifCond .ne 6, 3) := by decide +kernel
theorem dX12_heap_18 : decode cX12_heap 18 = .ok (.bipush (-2), 2) := by decide +kernel
theorem dX12_heap_20 : decode cX12_heap 20 = .ok (.ireturn, 1) := by decide +kernel
theorem dX12_heap_21 : decode cX12_heap 21 = .ok (.aload_n 0, 1) := by decide +kernel
theorem dX12_heap_22 : decode cX12_heap 22 = .ok (.getfield 19, 3) := by decide +kernel
theorem dX12_heap_25 : decode cX12_heap 25 = .ok (.iload_n 1, 1) := by decide +kernel
theorem dX12_heap_26 : decode cX12_heap 26 = .ok (.iaload, 1) := by decide +kernel
theorem dX12_heap_27 : decode cX12_heap 27 = .ok (.istore_n 3, 1) := by decide +kernel
theorem dX12_heap_28 : decode cX12_heap 28 = .ok (.aload_n 0, 1) := by decide +kernel
theorem dX12_heap_29 : decode cX12_heap 29 = .ok (.getfield 19, 3) := by decide +kernel
theorem dX12_heap_32 : decode cX12_heap 32 = .ok (.iload_n 1, 1) := by decide +kernel
theorem dX12_heap_33 : decode cX12_heap 33 = .ok (.iload_n 2, 1) := by decide +kernel
theorem dX12_heap_34 : decode cX12_heap 34 = .ok (.iastore, 1) := by decide +kernel
theorem dX12_heap_35 : decode cX12_heap 35 = .ok (.iload_n 3, 1) := by decide +kernel
theorem dX12_heap_36 : decode cX12_heap 36 = .ok (.ireturn, 1) := by decide +kernel
noncomputable def C_X12_heap : List (Nat × qOp) := [(0, qo_aload 0 1),
  (1, qo_iload 1 1),
  (2, qo_callv [(12, S_X12_isHeap)] 1),
  (5, qo_ifne 10),
  (8, qo_ci (-1) 1),
  (9, qo_ret (some .int) 1),
  (10, qo_aload 0 1),
  (11, qo_iload 2 1),
  (12, qo_callv [(12, S_X12_isLetters)] 1),
  (15, qo_ifne 21),
  (18, qo_ci (-2) 2),
  (20, qo_ret (some .int) 1),
  (21, qo_aload 0 1),
  (22, qo_getR 12 3),
  (25, qo_iload 1 1),
  (26, qo_iaload),
  (27, qo_istore 3 1),
  (28, qo_aload 0 1),
  (29, qo_getR 12 3),
  (32, qo_iload 1 1),
  (33, qo_iload 2 1),
  (34, qo_iastore),
  (35, qo_iload 3 1),
  (36, qo_ret (some .int) 1)]
noncomputable def S_X12_heap : qSem := qM 4 C_X12_heap
set_option maxRecDepth 20000 in
theorem K_X12_heap {X : qX} {l : Launch} : ∀ q ∈ C_X12_heap, qOk X l 3 cX12_heap 4 RX12 "heap" (some .int) q.1 q.2 := by
  unfold C_X12_heap
  refine qcons (qk_aload_n dX12_heap_0 rfl) ?_
  refine qcons (qk_iload_n dX12_heap_1 rfl) ?_
  refine qcons (qk_callv (ins := fun i => .invokevirtual i) (qconsV (qrunV M_X12_isHeap (by decide) (by decide) (by decide) rfl tw_1118 tw_1120 tw_25 tw_1121 tw_90 ⟨by decide, by decide⟩ (by decide +kernel)) qnilV) dX12_heap_2) ?_
  refine qcons (qk_ifne dX12_heap_5 (by decide)) ?_
  refine qcons (qk_iconst dX12_heap_8 (by decide)) ?_
  refine qcons (qk_ret dX12_heap_9 (Or.inr (Or.inl ⟨rfl, rfl⟩))) ?_
  refine qcons (qk_aload_n dX12_heap_10 rfl) ?_
  refine qcons (qk_iload_n dX12_heap_11 rfl) ?_
  refine qcons (qk_callv (ins := fun i => .invokevirtual i) (qconsV (qrunV M_X12_isLetters (by decide) (by decide) (by decide) rfl tw_1122 tw_1124 tw_26 tw_1125 tw_90 ⟨by decide, by decide⟩ (by decide +kernel)) qnilV) dX12_heap_12) ?_
  refine qcons (qk_ifne dX12_heap_15 (by decide)) ?_
  refine qcons (qk_bipush dX12_heap_18 (by decide) (by decide)) ?_
  refine qcons (qk_ret dX12_heap_20 (Or.inr (Or.inl ⟨rfl, rfl⟩))) ?_
  refine qcons (qk_aload_n dX12_heap_21 rfl) ?_
  refine qcons (qk_getR fd_X12_19 kd_12_3 dX12_heap_22) ?_
  refine qcons (qk_iload_n dX12_heap_25 rfl) ?_
  refine qcons (qk_iaload dX12_heap_26) ?_
  refine qcons (qk_istore_n dX12_heap_27 rfl) ?_
  refine qcons (qk_aload_n dX12_heap_28 rfl) ?_
  refine qcons (qk_getR fd_X12_19 kd_12_3 dX12_heap_29) ?_
  refine qcons (qk_iload_n dX12_heap_32 rfl) ?_
  refine qcons (qk_iload_n dX12_heap_33 rfl) ?_
  refine qcons (qk_iastore dX12_heap_34) ?_
  refine qcons (qk_iload_n dX12_heap_35 rfl) ?_
  refine qcons (qk_ret dX12_heap_36 (Or.inr (Or.inl ⟨rfl, rfl⟩))) ?_
  exact qnil
theorem M_X12_heap {X : qX} {l : Launch} : qMet X l 3 yX12_heap cX12_heap 4 (some .int) S_X12_heap := qmet_of K_X12_heap (by decide) rfl rfl
theorem dX12_feed_0 : decode cX12_feed 0 = .ok (.aload_n 0, 1) := by decide +kernel
theorem dX12_feed_1 : decode cX12_feed 1 = .ok (.iload_n 1, 1) := by decide +kernel
theorem dX12_feed_2 : decode cX12_feed 2 = .ok (.iconst 0, 1) := by decide +kernel
theorem dX12_feed_3 : decode cX12_feed 3 = .ok (.bipush 127, 2) := by decide +kernel
theorem dX12_feed_5 : decode cX12_feed 5 = .ok (.invokevirtual 240, 3) := by decide +kernel
theorem dX12_feed_8 : decode cX12_feed 8 = .ok (.ifCond .ne 6, 3) := by decide +kernel
theorem dX12_feed_11 : decode cX12_feed 11 = .ok (.bipush (-2), 2) := by decide +kernel
theorem dX12_feed_13 : decode cX12_feed 13 = .ok (.ireturn, 1) := by decide +kernel
theorem dX12_feed_14 : decode cX12_feed 14 = .ok (.aload_n 0, 1) := by decide +kernel
theorem dX12_feed_15 : decode cX12_feed 15 = .ok (.getfield 47, 3) := by decide +kernel
theorem dX12_feed_18 : decode cX12_feed 18 = .ok (.bipush 100, 2) := by decide +kernel
theorem dX12_feed_20 : decode cX12_feed 20 = .ok (.if_icmp .ne 6, 3) := by decide +kernel
theorem dX12_feed_23 : decode cX12_feed 23 = .ok (.bipush (-4), 2) := by decide +kernel
theorem dX12_feed_25 : decode cX12_feed 25 = .ok (.ireturn, 1) := by decide +kernel
theorem dX12_feed_26 : decode cX12_feed 26 = .ok (.aload_n 0, 1) := by decide +kernel
theorem dX12_feed_27 : decode cX12_feed 27 = .ok (.getfield 56, 3) := by decide +kernel
theorem dX12_feed_30 : decode cX12_feed 30 = .ok (.aload_n 0, 1) := by decide +kernel
theorem dX12_feed_31 : decode cX12_feed 31 = .ok (.getfield 47, 3) := by decide +kernel
theorem dX12_feed_34 : decode cX12_feed 34 = .ok (.iload_n 1, 1) := by decide +kernel
theorem dX12_feed_35 : decode cX12_feed 35 = .ok (.iastore, 1) := by decide +kernel
theorem dX12_feed_36 : decode cX12_feed 36 = .ok (.aload_n 0, 1) := by decide +kernel
theorem dX12_feed_37 : decode cX12_feed 37 = .ok (.dup, 1) := by decide +kernel
theorem dX12_feed_38 : decode cX12_feed 38 = .ok (.getfield 47, 3) := by decide +kernel
theorem dX12_feed_41 : decode cX12_feed 41 = .ok (.iconst 1, 1) := by decide +kernel
theorem dX12_feed_42 : decode cX12_feed 42 = .ok (.iadd, 1) := by decide +kernel
theorem dX12_feed_43 : decode cX12_feed 43 = .ok (.putfield 47, 3) := by decide +kernel
theorem dX12_feed_46 : decode cX12_feed 46 = .ok (.aload_n 0, 1) := by decide +kernel
theorem dX12_feed_47 : decode cX12_feed 47 = .ok (.getfield 47, 3) := by decide +kernel
theorem dX12_feed_50 : decode cX12_feed 50 = .ok (.ireturn, 1) := by decide +kernel
noncomputable def C_X12_feed : List (Nat × qOp) := [(0, qo_aload 0 1),
  (1, qo_iload 1 1),
  (2, qo_ci 0 1),
  (3, qo_ci 127 2),
  (5, qo_callv [(12, S_X12_in)] 3),
  (8, qo_ifne 14),
  (11, qo_ci (-2) 2),
  (13, qo_ret (some .int) 1),
  (14, qo_aload 0 1),
  (15, qo_getI 12 12),
  (18, qo_ci 100 2),
  (20, qo_icne 26),
  (23, qo_ci (-4) 2),
  (25, qo_ret (some .int) 1),
  (26, qo_aload 0 1),
  (27, qo_getR 12 15),
  (30, qo_aload 0 1),
  (31, qo_getI 12 12),
  (34, qo_iload 1 1),
  (35, qo_iastore),
  (36, qo_aload 0 1),
  (37, qo_dup),
  (38, qo_getI 12 12),
  (41, qo_ci 1 1),
  (42, qo_iadd),
  (43, qo_putI 12 12),
  (46, qo_aload 0 1),
  (47, qo_getI 12 12),
  (50, qo_ret (some .int) 1)]
noncomputable def S_X12_feed : qSem := qM 2 C_X12_feed
set_option maxRecDepth 20000 in
theorem K_X12_feed {X : qX} {l : Launch} : ∀ q ∈ C_X12_feed, qOk X l 2 cX12_feed 2 RX12 "feed" (some .int) q.1 q.2 := by
  unfold C_X12_feed
  refine qcons (qk_aload_n dX12_feed_0 rfl) ?_
  refine qcons (qk_iload_n dX12_feed_1 rfl) ?_
  refine qcons (qk_iconst dX12_feed_2 (by decide)) ?_
  refine qcons (qk_bipush dX12_feed_3 (by decide) (by decide)) ?_
  refine qcons (qk_callv (ins := fun i => .invokevirtual i) (qconsV (qrunV M_X12_in (by decide) (by decide) (by decide) rfl tw_1082 tw_1084 tw_20 tw_1085 tw_90 ⟨by decide, by decide⟩ (by decide +kernel)) qnilV) dX12_feed_5) ?_
  refine qcons (qk_ifne dX12_feed_8 (by decide)) ?_
  refine qcons (qk_bipush dX12_feed_11 (by decide) (by decide)) ?_
  refine qcons (qk_ret dX12_feed_13 (Or.inr (Or.inl ⟨rfl, rfl⟩))) ?_
  refine qcons (qk_aload_n dX12_feed_14 rfl) ?_
  refine qcons (qk_getI fd_X12_47 kd_12_12 dX12_feed_15) ?_
  refine qcons (qk_bipush dX12_feed_18 (by decide) (by decide)) ?_
  refine qcons (qk_icne dX12_feed_20 (by decide)) ?_
  refine qcons (qk_bipush dX12_feed_23 (by decide) (by decide)) ?_
  refine qcons (qk_ret dX12_feed_25 (Or.inr (Or.inl ⟨rfl, rfl⟩))) ?_
  refine qcons (qk_aload_n dX12_feed_26 rfl) ?_
  refine qcons (qk_getR fd_X12_56 kd_12_15 dX12_feed_27) ?_
  refine qcons (qk_aload_n dX12_feed_30 rfl) ?_
  refine qcons (qk_getI fd_X12_47 kd_12_12 dX12_feed_31) ?_
  refine qcons (qk_iload_n dX12_feed_34 rfl) ?_
  refine qcons (qk_iastore dX12_feed_35) ?_
  refine qcons (qk_aload_n dX12_feed_36 rfl) ?_
  refine qcons (qk_dup dX12_feed_37) ?_
  refine qcons (qk_getI fd_X12_47 kd_12_12 dX12_feed_38) ?_
  refine qcons (qk_iconst dX12_feed_41 (by decide)) ?_
  refine qcons (qk_iadd dX12_feed_42) ?_
  refine qcons (qk_putI (ty := .int) fd_X12_47 tyX12_ok nmX12 (Or.inl rfl) kd_12_12 (tyX12_ok 12 (by decide)) dX12_feed_43) ?_
  refine qcons (qk_aload_n dX12_feed_46 rfl) ?_
  refine qcons (qk_getI fd_X12_47 kd_12_12 dX12_feed_47) ?_
  refine qcons (qk_ret dX12_feed_50 (Or.inr (Or.inl ⟨rfl, rfl⟩))) ?_
  exact qnil
theorem M_X12_feed {X : qX} {l : Launch} : qMet X l 2 yX12_feed cX12_feed 2 (some .int) S_X12_feed := qmet_of K_X12_feed (by decide) rfl rfl
theorem dX12_next_0 : decode cX12_next 0 = .ok (.aload_n 0, 1) := by decide +kernel
theorem dX12_next_1 : decode cX12_next 1 = .ok (.getfield 50, 3) := by decide +kernel
theorem dX12_next_4 : decode cX12_next 4 = .ok (.aload_n 0, 1) := by decide +kernel
theorem dX12_next_5 : decode cX12_next 5 = .ok (.getfield 47, 3) := by decide +kernel
theorem dX12_next_8 : decode cX12_next 8 = .ok (.if_icmp .ge 15, 3) := by decide +kernel
theorem dX12_next_11 : decode cX12_next 11 = .ok (.aload_n 0, 1) := by decide +kernel
theorem dX12_next_12 : decode cX12_next 12 = .ok (.getfield 56, 3) := by decide +kernel
theorem dX12_next_15 : decode cX12_next 15 = .ok (.aload_n 0, 1) := by decide +kernel
theorem dX12_next_16 : decode cX12_next 16 = .ok (.getfield 50, 3) := by decide +kernel
theorem dX12_next_19 : decode cX12_next 19 = .ok (.iaload, 1) := by decide +kernel
theorem dX12_next_20 : decode cX12_next 20 = .ok (.goto 4, 3) := by decide +kernel
theorem dX12_next_23 : decode cX12_next 23 = .ok (.iconst (-1), 1) := by decide +kernel
theorem dX12_next_24 : decode cX12_next 24 = .ok (.ireturn, 1) := by decide +kernel
noncomputable def C_X12_next : List (Nat × qOp) := [(0, qo_aload 0 1),
  (1, qo_getI 12 13),
  (4, qo_aload 0 1),
  (5, qo_getI 12 12),
  (8, qo_icge 23),
  (11, qo_aload 0 1),
  (12, qo_getR 12 15),
  (15, qo_aload 0 1),
  (16, qo_getI 12 13),
  (19, qo_iaload),
  (20, qo_goto 24),
  (23, qo_ci (-1) 1),
  (24, qo_ret (some .int) 1)]
noncomputable def S_X12_next : qSem := qM 1 C_X12_next
set_option maxRecDepth 20000 in
theorem K_X12_next {X : qX} {l : Launch} : ∀ q ∈ C_X12_next, qOk X l 1 cX12_next 1 RX12 "next" (some .int) q.1 q.2 := by
  unfold C_X12_next
  refine qcons (qk_aload_n dX12_next_0 rfl) ?_
  refine qcons (qk_getI fd_X12_50 kd_12_13 dX12_next_1) ?_
  refine qcons (qk_aload_n dX12_next_4 rfl) ?_
  refine qcons (qk_getI fd_X12_47 kd_12_12 dX12_next_5) ?_
  refine qcons (qk_icge dX12_next_8 (by decide)) ?_
  refine qcons (qk_aload_n dX12_next_11 rfl) ?_
  refine qcons (qk_getR fd_X12_56 kd_12_15 dX12_next_12) ?_
  refine qcons (qk_aload_n dX12_next_15 rfl) ?_
  refine qcons (qk_getI fd_X12_50 kd_12_13 dX12_next_16) ?_
  refine qcons (qk_iaload dX12_next_19) ?_
  refine qcons (qk_goto dX12_next_20 (by decide)) ?_
  refine qcons (qk_iconst dX12_next_23 (by decide)) ?_
  refine qcons (qk_ret dX12_next_24 (Or.inr (Or.inl ⟨rfl, rfl⟩))) ?_
  exact qnil
theorem M_X12_next {X : qX} {l : Launch} : qMet X l 1 yX12_next cX12_next 1 (some .int) S_X12_next := qmet_of K_X12_next (by decide) rfl rfl
theorem dX12_takes_0 : decode cX12_takes 0 = .ok (.aload_n 0, 1) := by decide +kernel
theorem dX12_takes_1 : decode cX12_takes 1 = .ok (.invokevirtual 265, 3) := by decide +kernel
theorem dX12_takes_4 : decode cX12_takes 4 = .ok (.iload_n 1, 1) := by decide +kernel
theorem dX12_takes_5 : decode cX12_takes 5 = .ok (.if_icmp .eq 5, 3) := by decide +kernel
theorem dX12_takes_8 : decode cX12_takes 8 = .ok (.iconst 0, 1) := by decide +kernel
theorem dX12_takes_9 : decode cX12_takes 9 = .ok (.ireturn, 1) := by decide +kernel
theorem dX12_takes_10 : decode cX12_takes 10 = .ok (.aload_n 0, 1) := by decide +kernel
theorem dX12_takes_11 : decode cX12_takes 11 = .ok (.dup, 1) := by decide +kernel
theorem dX12_takes_12 : decode cX12_takes 12 = .ok (.getfield 50, 3) := by decide +kernel
theorem dX12_takes_15 : decode cX12_takes 15 = .ok (.iconst 1, 1) := by decide +kernel
theorem dX12_takes_16 : decode cX12_takes 16 = .ok (.iadd, 1) := by decide +kernel
theorem dX12_takes_17 : decode cX12_takes 17 = .ok (.putfield 50, 3) := by decide +kernel
theorem dX12_takes_20 : decode cX12_takes 20 = .ok (.iconst 1, 1) := by decide +kernel
theorem dX12_takes_21 : decode cX12_takes 21 = .ok (.ireturn, 1) := by decide +kernel
noncomputable def C_X12_takes : List (Nat × qOp) := [(0, qo_aload 0 1),
  (1, qo_callv [(12, S_X12_next)] 0),
  (4, qo_iload 1 1),
  (5, qo_iceq 10),
  (8, qo_ci 0 1),
  (9, qo_ret (some .boolean) 1),
  (10, qo_aload 0 1),
  (11, qo_dup),
  (12, qo_getI 12 13),
  (15, qo_ci 1 1),
  (16, qo_iadd),
  (17, qo_putI 12 13),
  (20, qo_ci 1 1),
  (21, qo_ret (some .boolean) 1)]
noncomputable def S_X12_takes : qSem := qM 2 C_X12_takes
set_option maxRecDepth 20000 in
theorem K_X12_takes {X : qX} {l : Launch} : ∀ q ∈ C_X12_takes, qOk X l 2 cX12_takes 2 RX12 "takes" (some .boolean) q.1 q.2 := by
  unfold C_X12_takes
  refine qcons (qk_aload_n dX12_takes_0 rfl) ?_
  refine qcons (qk_callv (ins := fun i => .invokevirtual i) (qconsV (qrunV M_X12_next (by decide) (by decide) (by decide) rfl tw_1146 tw_1148 tw_30 tw_1149 tw_90 ⟨by decide, by decide⟩ (by decide +kernel)) qnilV) dX12_takes_1) ?_
  refine qcons (qk_iload_n dX12_takes_4 rfl) ?_
  refine qcons (qk_iceq dX12_takes_5 (by decide)) ?_
  refine qcons (qk_iconst dX12_takes_8 (by decide)) ?_
  refine qcons (qk_ret dX12_takes_9 (Or.inr (Or.inl ⟨rfl, rfl⟩))) ?_
  refine qcons (qk_aload_n dX12_takes_10 rfl) ?_
  refine qcons (qk_dup dX12_takes_11) ?_
  refine qcons (qk_getI fd_X12_50 kd_12_13 dX12_takes_12) ?_
  refine qcons (qk_iconst dX12_takes_15 (by decide)) ?_
  refine qcons (qk_iadd dX12_takes_16) ?_
  refine qcons (qk_putI (ty := .int) fd_X12_50 tyX12_ok nmX12 (Or.inl rfl) kd_12_13 (tyX12_ok 13 (by decide)) dX12_takes_17) ?_
  refine qcons (qk_iconst dX12_takes_20 (by decide)) ?_
  refine qcons (qk_ret dX12_takes_21 (Or.inr (Or.inl ⟨rfl, rfl⟩))) ?_
  exact qnil
theorem M_X12_takes {X : qX} {l : Launch} : qMet X l 2 yX12_takes cX12_takes 2 (some .boolean) S_X12_takes := qmet_of K_X12_takes (by decide) rfl rfl
theorem dX12_takesWord_0 : decode cX12_takesWord 0 = .ok (.iconst 0, 1) := by decide +kernel
theorem dX12_takesWord_1 : decode cX12_takesWord 1 = .ok (.istore_n 3, 1) := by decide +kernel
theorem dX12_takesWord_2 : decode cX12_takesWord 2 = .ok (.iload_n 3, 1) := by decide +kernel
theorem dX12_takesWord_3 : decode cX12_takesWord 3 = .ok (.iload_n 2, 1) := by decide +kernel
theorem dX12_takesWord_4 : decode cX12_takesWord 4 = .ok (.if_icmp .ge 26, 3) := by decide +kernel
theorem dX12_takesWord_7 : decode cX12_takesWord 7 = .ok (.aload_n 0, 1) := by decide +kernel
theorem dX12_takesWord_8 : decode cX12_takesWord 8 = .ok (.aload_n 0, 1) := by decide +kernel
theorem dX12_takesWord_9 : decode cX12_takesWord 9 = .ok (.getfield 89, 3) := by decide +kernel
theorem dX12_takesWord_12 : decode cX12_takesWord 12 = .ok (.iload_n 1, 1) := by decide +kernel
theorem dX12_takesWord_13 : decode cX12_takesWord 13 = .ok (.iload_n 3, 1) := by decide +kernel
theorem dX12_takesWord_14 : decode cX12_takesWord 14 = .ok (.iadd, 1) := by decide +kernel
theorem dX12_takesWord_15 : decode cX12_takesWord 15 = .ok (.iaload, 1) := by decide +kernel
theorem dX12_takesWord_16 : decode cX12_takesWord 16 = .ok (.invokevirtual 269, 3) := by decide +kernel
theorem dX12_takesWord_19 : decode cX12_takesWord 19 = .ok (.ifCond .ne 5, 3) := by decide +kernel
theorem dX12_takesWord_22 : decode cX12_takesWord 22 = .ok (.iconst 0, 1) := by decide +kernel
theorem dX12_takesWord_23 : decode cX12_takesWord 23 = .ok (.ireturn, 1) := by decide +kernel
theorem dX12_takesWord_24 : decode cX12_takesWord 24 = .ok (.iinc 3 1, 3) := by decide +kernel
theorem dX12_takesWord_27 : decode cX12_takesWord 27 = .ok (.goto (-25), 3) := by decide +kernel
theorem dX12_takesWord_30 : decode cX12_takesWord 30 = .ok (.aload_n 0, 1) := by decide +kernel
theorem dX12_takesWord_31 : decode cX12_takesWord 31 = .ok (.bipush 32, 2) := by decide +kernel
theorem dX12_takesWord_33 : decode cX12_takesWord 33 = .ok (.invokevirtual 269, 3) := by decide +kernel
theorem dX12_takesWord_36 : decode cX12_takesWord 36 = .ok (.ireturn, 1) := by decide +kernel
noncomputable def C_X12_takesWord : List (Nat × qOp) := [(0, qo_ci 0 1),
  (1, qo_istore 3 1),
  (2, qo_iload 3 1),
  (3, qo_iload 2 1),
  (4, qo_icge 30),
  (7, qo_aload 0 1),
  (8, qo_aload 0 1),
  (9, qo_getR 12 26),
  (12, qo_iload 1 1),
  (13, qo_iload 3 1),
  (14, qo_iadd),
  (15, qo_iaload),
  (16, qo_callv [(12, S_X12_takes)] 1),
  (19, qo_ifne 24),
  (22, qo_ci 0 1),
  (23, qo_ret (some .boolean) 1),
  (24, qo_iinc 3 1),
  (27, qo_goto 2),
  (30, qo_aload 0 1),
  (31, qo_ci 32 2),
  (33, qo_callv [(12, S_X12_takes)] 1),
  (36, qo_ret (some .boolean) 1)]
noncomputable def S_X12_takesWord : qSem := qM 4 C_X12_takesWord
set_option maxRecDepth 20000 in
theorem K_X12_takesWord {X : qX} {l : Launch} : ∀ q ∈ C_X12_takesWord, qOk X l 3 cX12_takesWord 4 RX12 "takesWord" (some .boolean) q.1 q.2 := by
  unfold C_X12_takesWord
  refine qcons (qk_iconst dX12_takesWord_0 (by decide)) ?_
  refine qcons (qk_istore_n dX12_takesWord_1 rfl) ?_
  refine qcons (qk_iload_n dX12_takesWord_2 rfl) ?_
  refine qcons (qk_iload_n dX12_takesWord_3 rfl) ?_
  refine qcons (qk_icge dX12_takesWord_4 (by decide)) ?_
  refine qcons (qk_aload_n dX12_takesWord_7 rfl) ?_
  refine qcons (qk_aload_n dX12_takesWord_8 rfl) ?_
  refine qcons (qk_getR fd_X12_89 kd_12_26 dX12_takesWord_9) ?_
  refine qcons (qk_iload_n dX12_takesWord_12 rfl) ?_
  refine qcons (qk_iload_n dX12_takesWord_13 rfl) ?_
  refine qcons (qk_iadd dX12_takesWord_14) ?_
  refine qcons (qk_iaload dX12_takesWord_15) ?_
  refine qcons (qk_callv (ins := fun i => .invokevirtual i) (qconsV (qrunV M_X12_takes (by decide) (by decide) (by decide) rfl tw_1154 tw_1156 tw_32 tw_1157 tw_90 ⟨by decide, by decide⟩ (by decide +kernel)) qnilV) dX12_takesWord_16) ?_
  refine qcons (qk_ifne dX12_takesWord_19 (by decide)) ?_
  refine qcons (qk_iconst dX12_takesWord_22 (by decide)) ?_
  refine qcons (qk_ret dX12_takesWord_23 (Or.inr (Or.inl ⟨rfl, rfl⟩))) ?_
  refine qcons (qk_iinc dX12_takesWord_24) ?_
  refine qcons (qk_goto dX12_takesWord_27 (by decide)) ?_
  refine qcons (qk_aload_n dX12_takesWord_30 rfl) ?_
  refine qcons (qk_bipush dX12_takesWord_31 (by decide) (by decide)) ?_
  refine qcons (qk_callv (ins := fun i => .invokevirtual i) (qconsV (qrunV M_X12_takes (by decide) (by decide) (by decide) rfl tw_1154 tw_1156 tw_32 tw_1157 tw_90 ⟨by decide, by decide⟩ (by decide +kernel)) qnilV) dX12_takesWord_33) ?_
  refine qcons (qk_ret dX12_takesWord_36 (Or.inr (Or.inl ⟨rfl, rfl⟩))) ?_
  exact qnil
theorem M_X12_takesWord {X : qX} {l : Launch} : qMet X l 3 yX12_takesWord cX12_takesWord 4 (some .boolean) S_X12_takesWord := qmet_of K_X12_takesWord (by decide) rfl rfl
theorem dX12_isDigit_0 : decode cX12_isDigit 0 = .ok (.aload_n 0, 1) := by decide +kernel
theorem dX12_isDigit_1 : decode cX12_isDigit 1 = .ok (.aload_n 0, 1) := by decide +kernel
theorem dX12_isDigit_2 : decode cX12_isDigit 2 = .ok (.invokevirtual 265, 3) := by decide +kernel
theorem dX12_isDigit_5 : decode cX12_isDigit 5 = .ok (.bipush 48, 2) := by decide +kernel
theorem dX12_isDigit_7 : decode cX12_isDigit 7 = .ok (.bipush 57, 2) := by decide +kernel
theorem dX12_isDigit_9 : decode cX12_isDigit 9 = .ok (.invokevirtual 240, 3) := by decide +kernel
theorem dX12_isDigit_12 : decode cX12_isDigit 12 = .ok (.ireturn, 1) := by decide +kernel
noncomputable def C_X12_isDigit : List (Nat × qOp) := [(0, qo_aload 0 1),
  (1, qo_aload 0 1),
  (2, qo_callv [(12, S_X12_next)] 0),
  (5, qo_ci 48 2),
  (7, qo_ci 57 2),
  (9, qo_callv [(12, S_X12_in)] 3),
  (12, qo_ret (some .boolean) 1)]
noncomputable def S_X12_isDigit : qSem := qM 1 C_X12_isDigit
set_option maxRecDepth 20000 in
theorem K_X12_isDigit {X : qX} {l : Launch} : ∀ q ∈ C_X12_isDigit, qOk X l 2 cX12_isDigit 1 RX12 "isDigit" (some .boolean) q.1 q.2 := by
  unfold C_X12_isDigit
  refine qcons (qk_aload_n dX12_isDigit_0 rfl) ?_
  refine qcons (qk_aload_n dX12_isDigit_1 rfl) ?_
  refine qcons (qk_callv (ins := fun i => .invokevirtual i) (qconsV (qrunV M_X12_next (by decide) (by decide) (by decide) rfl tw_1146 tw_1148 tw_30 tw_1149 tw_90 ⟨by decide, by decide⟩ (by decide +kernel)) qnilV) dX12_isDigit_2) ?_
  refine qcons (qk_bipush dX12_isDigit_5 (by decide) (by decide)) ?_
  refine qcons (qk_bipush dX12_isDigit_7 (by decide) (by decide)) ?_
  refine qcons (qk_callv (ins := fun i => .invokevirtual i) (qconsV (qrunV M_X12_in (by decide) (by decide) (by decide) rfl tw_1082 tw_1084 tw_20 tw_1085 tw_90 ⟨by decide, by decide⟩ (by decide +kernel)) qnilV) dX12_isDigit_9) ?_
  refine qcons (qk_ret dX12_isDigit_12 (Or.inr (Or.inl ⟨rfl, rfl⟩))) ?_
  exact qnil
theorem M_X12_isDigit {X : qX} {l : Launch} : qMet X l 2 yX12_isDigit cX12_isDigit 1 (some .boolean) S_X12_isDigit := qmet_of K_X12_isDigit (by decide) rfl rfl
theorem dX12_takesNumber_0 : decode cX12_takesNumber 0 = .ok (.aload_n 0, 1) := by decide +kernel
theorem dX12_takesNumber_1 : decode cX12_takesNumber 1 = .ok (.invokevirtual 272, 3) := by decide +kernel
theorem dX12_takesNumber_4 : decode cX12_takesNumber 4 = .ok (.ifCond .ne 5, 3) := by decide +kernel
theorem dX12_takesNumber_7 : decode cX12_takesNumber 7 = .ok (.iconst 0, 1) := by decide +kernel
theorem dX12_takesNumber_8 : decode cX12_takesNumber 8 = .ok (.ireturn, 1) := by decide +kernel
theorem dX12_takesNumber_9 : decode cX12_takesNumber 9 = .ok (.aload_n 0, 1) := by decide +kernel
theorem dX12_takesNumber_10 : decode cX12_takesNumber 10 = .ok (.iconst 0, 1) := by decide +kernel
theorem dX12_takesNumber_11 : decode cX12_takesNumber 11 = .ok (.putfield 53, 3) := by decide +kernel
theorem dX12_takesNumber_14 : decode cX12_takesNumber 14 = .ok (.iconst 0, 1) := by decide +kernel
theorem dX12_takesNumber_15 : decode cX12_takesNumber 15 = .ok (.istore_n 1, 1) := by decide +kernel
theorem dX12_takesNumber_16 : decode cX12_takesNumber 16 = .ok (.iload_n 1, 1) := by decide +kernel
theorem dX12_takesNumber_17 : decode cX12_takesNumber 17 = .ok (.iconst 2, 1) := by decide +kernel
theorem dX12_takesNumber_18 : decode cX12_takesNumber 18 = .ok (.if_icmp .ge 45, 3) := by decide +kernel
theorem dX12_takesNumber_21 : decode cX12_takesNumber 21 = .ok (.aload_n 0, 1) := by decide +kernel
theorem dX12_takesNumber_22 : decode cX12_takesNumber 22 = .ok (.invokevirtual 272, 3) := by decide +kernel
theorem dX12_takesNumber_25 : decode cX12_takesNumber 25 = .ok (.ifCond .eq 38, 3) := by decide +kernel
theorem dX12_takesNumber_28 : decode cX12_takesNumber 28 = .ok (.aload_n 0, 1) := by decide +kernel
theorem dX12_takesNumber_29 : decode cX12_takesNumber 29 = .ok (.bipush 10, 2) := by decide +kernel
theorem dX12_takesNumber_31 : decode cX12_takesNumber 31 = .ok (.aload_n 0, 1) := by decide +kernel
theorem dX12_takesNumber_32 : decode cX12_takesNumber 32 = .ok (.getfield 53, 3) := by decide +kernel
theorem dX12_takesNumber_35 : decode cX12_takesNumber 35 = .ok (.imul, 1) := by decide +kernel
theorem dX12_takesNumber_36 : decode cX12_takesNumber 36 = .ok (.aload_n 0, 1) := by decide +kernel
theorem dX12_takesNumber_37 : decode cX12_takesNumber 37 = .ok (.invokevirtual 265, 3) := by decide +kernel
theorem dX12_takesNumber_40 : decode cX12_takesNumber 40 = .ok (.iadd, 1) := by decide +kernel
theorem dX12_takesNumber_41 : decode cX12_takesNumber 41 = .ok (.bipush 48, 2) := by decide +kernel
theorem dX12_takesNumber_43 : decode cX12_takesNumber 43 = .ok (.isub, 1) := by decide +kernel
theorem dX12_takesNumber_44 : decode cX12_takesNumber 44 = .ok (.putfield 53, 3) := by decide +kernel
theorem dX12_takesNumber_47 : decode cX12_takesNumber 47 = .ok (.aload_n 0, 1) := by decide +kernel
theorem dX12_takesNumber_48 : decode cX12_takesNumber 48 = .ok (.dup, 1) := by decide +kernel
theorem dX12_takesNumber_49 : decode cX12_takesNumber 49 = .ok (.getfield 50, 3) := by decide +kernel
theorem dX12_takesNumber_52 : decode cX12_takesNumber 52 = .ok (.iconst 1, 1) := by decide +kernel
theorem dX12_takesNumber_53 : decode cX12_takesNumber 53 = .ok (.iadd, 1) := by decide +kernel
theorem dX12_takesNumber_54 : decode cX12_takesNumber 54 = .ok (.putfield 50, 3) := by decide +kernel
theorem dX12_takesNumber_57 : decode cX12_takesNumber 57 = .ok (.iinc 1 1, 3) := by decide +kernel
theorem dX12_takesNumber_60 : decode cX12_takesNumber 60 = .ok (.goto (-44), 3) := by decide +kernel
theorem dX12_takesNumber_63 : decode cX12_takesNumber 63 = .ok (.iconst 1, 1) := by decide +kernel
theorem dX12_takesNumber_64 : decode cX12_takesNumber 64 = .ok (.ireturn, 1) := by decide +kernel
noncomputable def C_X12_takesNumber : List (Nat × qOp) := [(0, qo_aload 0 1),
  (1, qo_callv [(12, S_X12_isDigit)] 0),
  (4, qo_ifne 9),
  (7, qo_ci 0 1),
  (8, qo_ret (some .boolean) 1),
  (9, qo_aload 0 1),
  (10, qo_ci 0 1),
  (11, qo_putI 12 14),
  (14, qo_ci 0 1),
  (15, qo_istore 1 1),
  (16, qo_iload 1 1),
  (17, qo_ci 2 1),
  (18, qo_icge 63),
  (21, qo_aload 0 1),
  (22, qo_callv [(12, S_X12_isDigit)] 0),
  (25, qo_ifeq 63),
  (28, qo_aload 0 1),
  (29, qo_ci 10 2),
  (31, qo_aload 0 1),
  (32, qo_getI 12 14),
  (35, qo_imul),
  (36, qo_aload 0 1),
  (37, qo_callv [(12, S_X12_next)] 0),
  (40, qo_iadd),
  (41, qo_ci 48 2),
  (43, qo_isub),
  (44, qo_putI 12 14),
  (47, qo_aload 0 1),
  (48, qo_dup),
  (49, qo_getI 12 13),
  (52, qo_ci 1 1),
  (53, qo_iadd),
  (54, qo_putI 12 13),
  (57, qo_iinc 1 1),
  (60, qo_goto 16),
  (63, qo_ci 1 1),
  (64, qo_ret (some .boolean) 1)]
noncomputable def S_X12_takesNumber : qSem := qM 2 C_X12_takesNumber
set_option maxRecDepth 20000 in
theorem K_X12_takesNumber {X : qX} {l : Launch} : ∀ q ∈ C_X12_takesNumber, qOk X l 3 cX12_takesNumber 2 RX12 "takesNumber" (some .boolean) q.1 q.2 := by
  unfold C_X12_takesNumber
  refine qcons (qk_aload_n dX12_takesNumber_0 rfl) ?_
  refine qcons (qk_callv (ins := fun i => .invokevirtual i) (qconsV (qrunV M_X12_isDigit (by decide) (by decide) (by decide) rfl tw_1162 tw_1164 tw_34 tw_1165 tw_90 ⟨by decide, by decide⟩ (by decide +kernel)) qnilV) dX12_takesNumber_1) ?_
  refine qcons (qk_ifne dX12_takesNumber_4 (by decide)) ?_
  refine qcons (qk_iconst dX12_takesNumber_7 (by decide)) ?_
  refine qcons (qk_ret dX12_takesNumber_8 (Or.inr (Or.inl ⟨rfl, rfl⟩))) ?_
  refine qcons (qk_aload_n dX12_takesNumber_9 rfl) ?_
  refine qcons (qk_iconst dX12_takesNumber_10 (by decide)) ?_
  refine qcons (qk_putI (ty := .int) fd_X12_53 tyX12_ok nmX12 (Or.inl rfl) kd_12_14 (tyX12_ok 14 (by decide)) dX12_takesNumber_11) ?_
  refine qcons (qk_iconst dX12_takesNumber_14 (by decide)) ?_
  refine qcons (qk_istore_n dX12_takesNumber_15 rfl) ?_
  refine qcons (qk_iload_n dX12_takesNumber_16 rfl) ?_
  refine qcons (qk_iconst dX12_takesNumber_17 (by decide)) ?_
  refine qcons (qk_icge dX12_takesNumber_18 (by decide)) ?_
  refine qcons (qk_aload_n dX12_takesNumber_21 rfl) ?_
  refine qcons (qk_callv (ins := fun i => .invokevirtual i) (qconsV (qrunV M_X12_isDigit (by decide) (by decide) (by decide) rfl tw_1162 tw_1164 tw_34 tw_1165 tw_90 ⟨by decide, by decide⟩ (by decide +kernel)) qnilV) dX12_takesNumber_22) ?_
  refine qcons (qk_ifeq dX12_takesNumber_25 (by decide)) ?_
  refine qcons (qk_aload_n dX12_takesNumber_28 rfl) ?_
  refine qcons (qk_bipush dX12_takesNumber_29 (by decide) (by decide)) ?_
  refine qcons (qk_aload_n dX12_takesNumber_31 rfl) ?_
  refine qcons (qk_getI fd_X12_53 kd_12_14 dX12_takesNumber_32) ?_
  refine qcons (qk_imul dX12_takesNumber_35) ?_
  refine qcons (qk_aload_n dX12_takesNumber_36 rfl) ?_
  refine qcons (qk_callv (ins := fun i => .invokevirtual i) (qconsV (qrunV M_X12_next (by decide) (by decide) (by decide) rfl tw_1146 tw_1148 tw_30 tw_1149 tw_90 ⟨by decide, by decide⟩ (by decide +kernel)) qnilV) dX12_takesNumber_37) ?_
  refine qcons (qk_iadd dX12_takesNumber_40) ?_
  refine qcons (qk_bipush dX12_takesNumber_41 (by decide) (by decide)) ?_
  refine qcons (qk_isub dX12_takesNumber_43) ?_
  refine qcons (qk_putI (ty := .int) fd_X12_53 tyX12_ok nmX12 (Or.inl rfl) kd_12_14 (tyX12_ok 14 (by decide)) dX12_takesNumber_44) ?_
  refine qcons (qk_aload_n dX12_takesNumber_47 rfl) ?_
  refine qcons (qk_dup dX12_takesNumber_48) ?_
  refine qcons (qk_getI fd_X12_50 kd_12_13 dX12_takesNumber_49) ?_
  refine qcons (qk_iconst dX12_takesNumber_52 (by decide)) ?_
  refine qcons (qk_iadd dX12_takesNumber_53) ?_
  refine qcons (qk_putI (ty := .int) fd_X12_50 tyX12_ok nmX12 (Or.inl rfl) kd_12_13 (tyX12_ok 13 (by decide)) dX12_takesNumber_54) ?_
  refine qcons (qk_iinc dX12_takesNumber_57) ?_
  refine qcons (qk_goto dX12_takesNumber_60 (by decide)) ?_
  refine qcons (qk_iconst dX12_takesNumber_63 (by decide)) ?_
  refine qcons (qk_ret dX12_takesNumber_64 (Or.inr (Or.inl ⟨rfl, rfl⟩))) ?_
  exact qnil
theorem M_X12_takesNumber {X : qX} {l : Launch} : qMet X l 3 yX12_takesNumber cX12_takesNumber 2 (some .boolean) S_X12_takesNumber := qmet_of K_X12_takesNumber (by decide) rfl rfl
theorem dX12_emits_0 : decode cX12_emits 0 = .ok (.aload_n 0, 1) := by decide +kernel
theorem dX12_emits_1 : decode cX12_emits 1 = .ok (.getfield 74, 3) := by decide +kernel
theorem dX12_emits_4 : decode cX12_emits 4 = .ok (.aload_n 0, 1) := by decide +kernel
theorem dX12_emits_5 : decode cX12_emits 5 = .ok (.getfield 80, 3) := by decide +kernel
theorem dX12_emits_8 : decode cX12_emits 8 = .ok (.iload_n 1, 1) := by decide +kernel
theorem dX12_emits_9 : decode cX12_emits 9 = .ok (.iastore, 1) := by decide +kernel
theorem dX12_emits_10 : decode cX12_emits 10 = .ok (.aload_n 0, 1) := by decide +kernel
theorem dX12_emits_11 : decode cX12_emits 11 = .ok (.dup, 1) := by decide +kernel
theorem dX12_emits_12 : decode cX12_emits 12 = .ok (.getfield 80, 3) := by decide +kernel
theorem dX12_emits_15 : decode cX12_emits 15 = .ok (.iconst 1, 1) := by decide +kernel
theorem dX12_emits_16 : decode cX12_emits 16 = .ok (.iadd, 1) := by decide +kernel
theorem dX12_emits_17 : decode cX12_emits 17 = .ok (.putfield 80, 3) := by decide +kernel
theorem dX12_emits_20 : decode cX12_emits 20 = .ok (.return_, 1) := by decide +kernel
noncomputable def C_X12_emits : List (Nat × qOp) := [(0, qo_aload 0 1),
  (1, qo_getR 12 21),
  (4, qo_aload 0 1),
  (5, qo_getI 12 23),
  (8, qo_iload 1 1),
  (9, qo_iastore),
  (10, qo_aload 0 1),
  (11, qo_dup),
  (12, qo_getI 12 23),
  (15, qo_ci 1 1),
  (16, qo_iadd),
  (17, qo_putI 12 23),
  (20, qo_ret none 0)]
noncomputable def S_X12_emits : qSem := qM 2 C_X12_emits
set_option maxRecDepth 20000 in
theorem K_X12_emits {X : qX} {l : Launch} : ∀ q ∈ C_X12_emits, qOk X l 1 cX12_emits 2 RX12 "emits" none q.1 q.2 := by
  unfold C_X12_emits
  refine qcons (qk_aload_n dX12_emits_0 rfl) ?_
  refine qcons (qk_getR fd_X12_74 kd_12_21 dX12_emits_1) ?_
  refine qcons (qk_aload_n dX12_emits_4 rfl) ?_
  refine qcons (qk_getI fd_X12_80 kd_12_23 dX12_emits_5) ?_
  refine qcons (qk_iload_n dX12_emits_8 rfl) ?_
  refine qcons (qk_iastore dX12_emits_9) ?_
  refine qcons (qk_aload_n dX12_emits_10 rfl) ?_
  refine qcons (qk_dup dX12_emits_11) ?_
  refine qcons (qk_getI fd_X12_80 kd_12_23 dX12_emits_12) ?_
  refine qcons (qk_iconst dX12_emits_15 (by decide)) ?_
  refine qcons (qk_iadd dX12_emits_16) ?_
  refine qcons (qk_putI (ty := .int) fd_X12_80 tyX12_ok nmX12 (Or.inl rfl) kd_12_23 (tyX12_ok 23 (by decide)) dX12_emits_17) ?_
  refine qcons (qk_ret dX12_emits_20 (Or.inl ⟨rfl, rfl⟩)) ?_
  exact qnil
theorem M_X12_emits {X : qX} {l : Launch} : qMet X l 1 yX12_emits cX12_emits 2 none S_X12_emits := qmet_of K_X12_emits (by decide) rfl rfl
theorem dX12_whole_0 : decode cX12_whole 0 = .ok (.aload_n 0, 1) := by decide +kernel
theorem dX12_whole_1 : decode cX12_whole 1 = .ok (.getfield 83, 3) := by decide +kernel
theorem dX12_whole_4 : decode cX12_whole 4 = .ok (.ifCond .le 48, 3) := by decide +kernel
theorem dX12_whole_7 : decode cX12_whole 7 = .ok (.aload_n 0, 1) := by decide +kernel
theorem dX12_whole_8 : decode cX12_whole 8 = .ok (.getfield 77, 3) := by decide +kernel
theorem dX12_whole_11 : decode cX12_whole 11 = .ok (.aload_n 0, 1) := by decide +kernel
theorem dX12_whole_12 : decode cX12_whole 12 = .ok (.getfield 83, 3) := by decide +kernel
theorem dX12_whole_15 : decode cX12_whole 15 = .ok (.iconst 1, 1) := by decide +kernel
theorem dX12_whole_16 : decode cX12_whole 16 = .ok (.isub, 1) := by decide +kernel
theorem dX12_whole_17 : decode cX12_whole 17 = .ok (.iaload, 1) := by decide +kernel
theorem dX12_whole_18 : decode cX12_whole 18 = .ok (.bipush 33, 2) := by decide +kernel
theorem dX12_whole_20 : decode cX12_whole 20 = .ok (.if_icmp .ne 32, 3) := by decide +kernel
theorem dX12_whole_23 : decode cX12_whole 23 = .ok (.aload_n 0, 1) := by decide +kernel
theorem dX12_whole_24 : decode cX12_whole 24 = .ok (.bipush (-33), 2) := by decide +kernel
theorem dX12_whole_26 : decode cX12_whole 26 = .ok (.invokevirtual 276, 3) := by decide +kernel
theorem dX12_whole_29 : decode cX12_whole 29 = .ok (.aload_n 0, 1) := by decide +kernel
theorem dX12_whole_30 : decode cX12_whole 30 = .ok (.dup, 1) := by decide +kernel
theorem dX12_whole_31 : decode cX12_whole 31 = .ok (.getfield 83, 3) := by decide +kernel
theorem dX12_whole_34 : decode cX12_whole 34 = .ok (.iconst 1, 1) := by decide +kernel
theorem dX12_whole_35 : decode cX12_whole 35 = .ok (.isub, 1) := by decide +kernel
theorem dX12_whole_36 : decode cX12_whole 36 = .ok (.putfield 83, 3) := by decide +kernel
theorem dX12_whole_39 : decode cX12_whole 39 = .ok (.aload_n 0, 1) := by decide +kernel
theorem dX12_whole_40 : decode cX12_whole 40 = .ok (.dup, 1) := by decide +kernel
theorem dX12_whole_41 : decode cX12_whole 41 = .ok (.getfield 86, 3) := by decide +kernel
theorem dX12_whole_44 : decode cX12_whole 44 = .ok (.iconst 1, 1) := by decide +kernel
theorem dX12_whole_45 : decode cX12_whole 45 = .ok (.isub, 1) := by decide +kernel
theorem dX12_whole_46 : decode cX12_whole 46 = .ok (.putfield 86, 3) := by decide +kernel
theorem dX12_whole_49 : decode cX12_whole 49 = .ok (.goto (-49), 3) := by decide +kernel
theorem dX12_whole_52 : decode cX12_whole 52 = .ok (.return_, 1) := by decide +kernel
noncomputable def C_X12_whole : List (Nat × qOp) := [(0, qo_aload 0 1),
  (1, qo_getI 12 24),
  (4, qo_ifle 52),
  (7, qo_aload 0 1),
  (8, qo_getR 12 22),
  (11, qo_aload 0 1),
  (12, qo_getI 12 24),
  (15, qo_ci 1 1),
  (16, qo_isub),
  (17, qo_iaload),
  (18, qo_ci 33 2),
  (20, qo_icne 52),
  (23, qo_aload 0 1),
  (24, qo_ci (-33) 2),
  (26, qo_callv [(12, S_X12_emits)] 1),
  (29, qo_aload 0 1),
  (30, qo_dup),
  (31, qo_getI 12 24),
  (34, qo_ci 1 1),
  (35, qo_isub),
  (36, qo_putI 12 24),
  (39, qo_aload 0 1),
  (40, qo_dup),
  (41, qo_getI 12 25),
  (44, qo_ci 1 1),
  (45, qo_isub),
  (46, qo_putI 12 25),
  (49, qo_goto 0),
  (52, qo_ret none 0)]
noncomputable def S_X12_whole : qSem := qM 1 C_X12_whole
set_option maxRecDepth 20000 in
theorem K_X12_whole {X : qX} {l : Launch} : ∀ q ∈ C_X12_whole, qOk X l 2 cX12_whole 1 RX12 "whole" none q.1 q.2 := by
  unfold C_X12_whole
  refine qcons (qk_aload_n dX12_whole_0 rfl) ?_
  refine qcons (qk_getI fd_X12_83 kd_12_24 dX12_whole_1) ?_
  refine qcons (qk_ifle dX12_whole_4 (by decide)) ?_
  refine qcons (qk_aload_n dX12_whole_7 rfl) ?_
  refine qcons (qk_getR fd_X12_77 kd_12_22 dX12_whole_8) ?_
  refine qcons (qk_aload_n dX12_whole_11 rfl) ?_
  refine qcons (qk_getI fd_X12_83 kd_12_24 dX12_whole_12) ?_
  refine qcons (qk_iconst dX12_whole_15 (by decide)) ?_
  refine qcons (qk_isub dX12_whole_16) ?_
  refine qcons (qk_iaload dX12_whole_17) ?_
  refine qcons (qk_bipush dX12_whole_18 (by decide) (by decide)) ?_
  refine qcons (qk_icne dX12_whole_20 (by decide)) ?_
  refine qcons (qk_aload_n dX12_whole_23 rfl) ?_
  refine qcons (qk_bipush dX12_whole_24 (by decide) (by decide)) ?_
  refine qcons (qk_callv (ins := fun i => .invokevirtual i) (qconsV (qrunV M_X12_emits (by decide) (by decide) (by decide) rfl tw_1178 tw_1180 tw_38 tw_1181 tw_90 ⟨by decide, by decide⟩ (by decide +kernel)) qnilV) dX12_whole_26) ?_
  refine qcons (qk_aload_n dX12_whole_29 rfl) ?_
  refine qcons (qk_dup dX12_whole_30) ?_
  refine qcons (qk_getI fd_X12_83 kd_12_24 dX12_whole_31) ?_
  refine qcons (qk_iconst dX12_whole_34 (by decide)) ?_
  refine qcons (qk_isub dX12_whole_35) ?_
  refine qcons (qk_putI (ty := .int) fd_X12_83 tyX12_ok nmX12 (Or.inl rfl) kd_12_24 (tyX12_ok 24 (by decide)) dX12_whole_36) ?_
  refine qcons (qk_aload_n dX12_whole_39 rfl) ?_
  refine qcons (qk_dup dX12_whole_40) ?_
  refine qcons (qk_getI fd_X12_86 kd_12_25 dX12_whole_41) ?_
  refine qcons (qk_iconst dX12_whole_44 (by decide)) ?_
  refine qcons (qk_isub dX12_whole_45) ?_
  refine qcons (qk_putI (ty := .int) fd_X12_86 tyX12_ok nmX12 (Or.inl rfl) kd_12_25 (tyX12_ok 25 (by decide)) dX12_whole_46) ?_
  refine qcons (qk_goto dX12_whole_49 (by decide)) ?_
  refine qcons (qk_ret dX12_whole_52 (Or.inl ⟨rfl, rfl⟩)) ?_
  exact qnil
theorem M_X12_whole {X : qX} {l : Launch} : qMet X l 2 yX12_whole cX12_whole 1 none S_X12_whole := qmet_of K_X12_whole (by decide) rfl rfl
theorem dX12_settle_0 : decode cX12_settle 0 = .ok (.aload_n 0, 1) := by decide +kernel
theorem dX12_settle_1 : decode cX12_settle 1 = .ok (.getfield 83, 3) := by decide +kernel
theorem dX12_settle_4 : decode cX12_settle 4 = .ok (.ifCond .le 68, 3) := by decide +kernel
theorem dX12_settle_7 : decode cX12_settle 7 = .ok (.aload_n 0, 1) := by decide +kernel
theorem dX12_settle_8 : decode cX12_settle 8 = .ok (.getfield 77, 3) := by decide +kernel
theorem dX12_settle_11 : decode cX12_settle 11 = .ok (.aload_n 0, 1) := by decide +kernel
theorem dX12_settle_12 : decode cX12_settle 12 = .ok (.getfield 83, 3) := by decide +kernel
theorem dX12_settle_15 : decode cX12_settle 15 = .ok (.iconst 1, 1) := by decide +kernel
theorem dX12_settle_16 : decode cX12_settle 16 = .ok (.isub, 1) := by decide +kernel
theorem dX12_settle_17 : decode cX12_settle 17 = .ok (.iaload, 1) := by decide +kernel
theorem dX12_settle_18 : decode cX12_settle 18 = .ok (.bipush 38, 2) := by decide +kernel
theorem dX12_settle_20 : decode cX12_settle 20 = .ok (.if_icmp .eq 25, 3) := by decide +kernel
theorem dX12_settle_23 : decode cX12_settle 23 = .ok (.aload_n 0, 1) := by decide +kernel
theorem dX12_settle_24 : decode cX12_settle 24 = .ok (.getfield 77, 3) := by decide +kernel
theorem dX12_settle_27 : decode cX12_settle 27 = .ok (.aload_n 0, 1) := by decide +kernel
theorem dX12_settle_28 : decode cX12_settle 28 = .ok (.getfield 83, 3) := by decide +kernel
theorem dX12_settle_31 : decode cX12_settle 31 = .ok (.iconst 1, 1) := by decide +kernel
theorem dX12_settle_32 : decode cX12_settle 32 = .ok (.isub, 1) := by decide +kernel
theorem dX12_settle_33 : decode cX12_settle 33 = .ok (.iaload, 1) := by decide +kernel
theorem dX12_settle_34 : decode cX12_settle 34 = .ok (.bipush 124, 2) := by decide +kernel
theorem dX12_settle_36 : decode cX12_settle 36 = .ok (.if_icmp .ne 36, 3) := by decide +kernel
theorem dX12_settle_39 : decode cX12_settle 39 = .ok (.iload_n 1, 1) := by decide +kernel
theorem dX12_settle_40 : decode cX12_settle 40 = .ok (.bipush 38, 2) := by decide +kernel
theorem dX12_settle_42 : decode cX12_settle 42 = .ok (.if_icmp .eq 30, 3) := by decide +kernel
theorem dX12_settle_45 : decode cX12_settle 45 = .ok (.aload_n 0, 1) := by decide +kernel
theorem dX12_settle_46 : decode cX12_settle 46 = .ok (.dup, 1) := by decide +kernel
theorem dX12_settle_47 : decode cX12_settle 47 = .ok (.getfield 83, 3) := by decide +kernel
theorem dX12_settle_50 : decode cX12_settle 50 = .ok (.iconst 1, 1) := by decide +kernel
theorem dX12_settle_51 : decode cX12_settle 51 = .ok (.isub, 1) := by decide +kernel
theorem dX12_settle_52 : decode cX12_settle 52 = .ok (.putfield 83, 3) := by decide +kernel
theorem dX12_settle_55 : decode cX12_settle 55 = .ok (.aload_n 0, 1) := by decide +kernel
theorem dX12_settle_56 : decode cX12_settle 56 = .ok (.aload_n 0, 1) := by decide +kernel
theorem dX12_settle_57 : decode cX12_settle 57 = .ok (.getfield 77, 3) := by decide +kernel
theorem dX12_settle_60 : decode cX12_settle 60 = .ok (.aload_n 0, 1) := by decide +kernel
theorem dX12_settle_61 : decode cX12_settle 61 = .ok (.getfield 83, 3) := by decide +kernel
theorem dX12_settle_64 : decode cX12_settle 64 = .ok (.iaload, 1) := by decide +kernel
theorem dX12_settle_65 : decode cX12_settle 65 = .ok (.ineg, 1) := by decide +kernel
theorem dX12_settle_66 : decode cX12_settle 66 = .ok (.invokevirtual 276, 3) := by decide +kernel
theorem dX12_settle_69 : decode cX12_settle 69 = .ok (.goto (-69), 3) := by decide +kernel
theorem dX12_settle_72 : decode cX12_settle 72 = .ok (.return_, 1) := by decide +kernel
noncomputable def C_X12_settle : List (Nat × qOp) := [(0, qo_aload 0 1),
  (1, qo_getI 12 24),
  (4, qo_ifle 72),
  (7, qo_aload 0 1),
  (8, qo_getR 12 22),
  (11, qo_aload 0 1),
  (12, qo_getI 12 24),
  (15, qo_ci 1 1),
  (16, qo_isub),
  (17, qo_iaload),
  (18, qo_ci 38 2),
  (20, qo_iceq 45),
  (23, qo_aload 0 1),
  (24, qo_getR 12 22),
  (27, qo_aload 0 1),
  (28, qo_getI 12 24),
  (31, qo_ci 1 1),
  (32, qo_isub),
  (33, qo_iaload),
  (34, qo_ci 124 2),
  (36, qo_icne 72),
  (39, qo_iload 1 1),
  (40, qo_ci 38 2),
  (42, qo_iceq 72),
  (45, qo_aload 0 1),
  (46, qo_dup),
  (47, qo_getI 12 24),
  (50, qo_ci 1 1),
  (51, qo_isub),
  (52, qo_putI 12 24),
  (55, qo_aload 0 1),
  (56, qo_aload 0 1),
  (57, qo_getR 12 22),
  (60, qo_aload 0 1),
  (61, qo_getI 12 24),
  (64, qo_iaload),
  (65, qo_ineg),
  (66, qo_callv [(12, S_X12_emits)] 1),
  (69, qo_goto 0),
  (72, qo_ret none 0)]
noncomputable def S_X12_settle : qSem := qM 2 C_X12_settle
set_option maxRecDepth 20000 in
theorem K_X12_settle {X : qX} {l : Launch} : ∀ q ∈ C_X12_settle, qOk X l 2 cX12_settle 2 RX12 "settle" none q.1 q.2 := by
  unfold C_X12_settle
  refine qcons (qk_aload_n dX12_settle_0 rfl) ?_
  refine qcons (qk_getI fd_X12_83 kd_12_24 dX12_settle_1) ?_
  refine qcons (qk_ifle dX12_settle_4 (by decide)) ?_
  refine qcons (qk_aload_n dX12_settle_7 rfl) ?_
  refine qcons (qk_getR fd_X12_77 kd_12_22 dX12_settle_8) ?_
  refine qcons (qk_aload_n dX12_settle_11 rfl) ?_
  refine qcons (qk_getI fd_X12_83 kd_12_24 dX12_settle_12) ?_
  refine qcons (qk_iconst dX12_settle_15 (by decide)) ?_
  refine qcons (qk_isub dX12_settle_16) ?_
  refine qcons (qk_iaload dX12_settle_17) ?_
  refine qcons (qk_bipush dX12_settle_18 (by decide) (by decide)) ?_
  refine qcons (qk_iceq dX12_settle_20 (by decide)) ?_
  refine qcons (qk_aload_n dX12_settle_23 rfl) ?_
  refine qcons (qk_getR fd_X12_77 kd_12_22 dX12_settle_24) ?_
  refine qcons (qk_aload_n dX12_settle_27 rfl) ?_
  refine qcons (qk_getI fd_X12_83 kd_12_24 dX12_settle_28) ?_
  refine qcons (qk_iconst dX12_settle_31 (by decide)) ?_
  refine qcons (qk_isub dX12_settle_32) ?_
  refine qcons (qk_iaload dX12_settle_33) ?_
  refine qcons (qk_bipush dX12_settle_34 (by decide) (by decide)) ?_
  refine qcons (qk_icne dX12_settle_36 (by decide)) ?_
  refine qcons (qk_iload_n dX12_settle_39 rfl) ?_
  refine qcons (qk_bipush dX12_settle_40 (by decide) (by decide)) ?_
  refine qcons (qk_iceq dX12_settle_42 (by decide)) ?_
  refine qcons (qk_aload_n dX12_settle_45 rfl) ?_
  refine qcons (qk_dup dX12_settle_46) ?_
  refine qcons (qk_getI fd_X12_83 kd_12_24 dX12_settle_47) ?_
  refine qcons (qk_iconst dX12_settle_50 (by decide)) ?_
  refine qcons (qk_isub dX12_settle_51) ?_
  refine qcons (qk_putI (ty := .int) fd_X12_83 tyX12_ok nmX12 (Or.inl rfl) kd_12_24 (tyX12_ok 24 (by decide)) dX12_settle_52) ?_
  refine qcons (qk_aload_n dX12_settle_55 rfl) ?_
  refine qcons (qk_aload_n dX12_settle_56 rfl) ?_
  refine qcons (qk_getR fd_X12_77 kd_12_22 dX12_settle_57) ?_
  refine qcons (qk_aload_n dX12_settle_60 rfl) ?_
  refine qcons (qk_getI fd_X12_83 kd_12_24 dX12_settle_61) ?_
  refine qcons (qk_iaload dX12_settle_64) ?_
  refine qcons (qk_ineg dX12_settle_65) ?_
  refine qcons (qk_callv (ins := fun i => .invokevirtual i) (qconsV (qrunV M_X12_emits (by decide) (by decide) (by decide) rfl tw_1178 tw_1180 tw_38 tw_1181 tw_90 ⟨by decide, by decide⟩ (by decide +kernel)) qnilV) dX12_settle_66) ?_
  refine qcons (qk_goto dX12_settle_69 (by decide)) ?_
  refine qcons (qk_ret dX12_settle_72 (Or.inl ⟨rfl, rfl⟩)) ?_
  exact qnil
theorem M_X12_settle {X : qX} {l : Launch} : qMet X l 2 yX12_settle cX12_settle 2 none S_X12_settle := qmet_of K_X12_settle (by decide) rfl rfl
