theorem dL_law_1224 : decode cL_law 1224 = .ok (.ireturn, 1) := by decide +kernel
theorem dL_law_1225 : decode cL_law 1225 = .ok (.aload_n 1, 1) := by decide +kernel
theorem dL_law_1226 : decode cL_law 1226 = .ok (.aload_n 0, 1) := by decide +kernel
theorem dL_law_1227 : decode cL_law 1227 = .ok (.iload_n 3, 1) := by decide +kernel
theorem dL_law_1228 : decode cL_law 1228 = .ok (.iconst 1, 1) := by decide +kernel
theorem dL_law_1229 : decode cL_law 1229 = .ok (.iadd, 1) := by decide +kernel
theorem dL_law_1230 : decode cL_law 1230 = .ok (.iaload, 1) := by decide +kernel
theorem dL_law_1231 : decode cL_law 1231 = .ok (.aload_n 0, 1) := by decide +kernel
theorem dL_law_1232 : decode cL_law 1232 = .ok (.iload_n 3, 1) := by decide +kernel
theorem dL_law_1233 : decode cL_law 1233 = .ok (.iconst 2, 1) := by decide +kernel
theorem dL_law_1234 : decode cL_law 1234 = .ok (.iadd, 1) := by decide +kernel
theorem dL_law_1235 : decode cL_law 1235 = .ok (.iaload, 1) := by decide +kernel
theorem dL_law_1236 : decode cL_law 1236 = .ok (.invokevirtual 155, 3) := by decide +kernel
theorem dL_law_1239 : decode cL_law 1239 = .ok (.aload_n 2, 1) := by decide +kernel
theorem dL_law_1240 : decode cL_law 1240 = .ok (.aload_n 0, 1) := by decide +kernel
theorem dL_law_1241 : decode cL_law 1241 = .ok (.iload_n 3, 1) := by decide +kernel
theorem dL_law_1242 : decode cL_law 1242 = .ok (.iconst 1, 1) := by decide +kernel
theorem dL_law_1243 : decode cL_law 1243 = .ok (.iadd, 1) := by decide +kernel
theorem dL_law_1244 : decode cL_law 1244 = .ok (.iaload, 1) := by decide +kernel
theorem dL_law_1245 : decode cL_law 1245 = .ok (.aload_n 0, 1) := by decide +kernel
theorem dL_law_1246 : decode cL_law 1246 = .ok (.iload_n 3, 1) := by decide +kernel
theorem dL_law_1247 : decode cL_law 1247 = .ok (.iconst 2, 1) := by decide +kernel
theorem dL_law_1248 : decode cL_law 1248 = .ok (.iadd, 1) := by decide +kernel
theorem dL_law_1249 : decode cL_law 1249 = .ok (.iaload, 1) := by decide +kernel
theorem dL_law_1250 : decode cL_law 1250 = .ok (.invokevirtual 158, 3) := by decide +kernel
theorem dL_law_1253 : decode cL_law 1253 = .ok (.lcmp, 1) := by decide +kernel
theorem dL_law_1254 : decode cL_law 1254 = .ok (.ifCond .eq 68, 3) := by decide +kernel
theorem dL_law_1257 : decode cL_law 1257 = .ok (.iconst 0, 1) := by decide +kernel
theorem dL_law_1258 : decode cL_law 1258 = .ok (.ireturn, 1) := by decide +kernel
theorem dL_law_1259 : decode cL_law 1259 = .ok (.aload_n 1, 1) := by decide +kernel
theorem dL_law_1260 : decode cL_law 1260 = .ok (.aload_n 0, 1) := by decide +kernel
theorem dL_law_1261 : decode cL_law 1261 = .ok (.iload_n 3, 1) := by decide +kernel
theorem dL_law_1262 : decode cL_law 1262 = .ok (.iconst 1, 1) := by decide +kernel
theorem dL_law_1263 : decode cL_law 1263 = .ok (.iadd, 1) := by decide +kernel
theorem dL_law_1264 : decode cL_law 1264 = .ok (.iaload, 1) := by decide +kernel
theorem dL_law_1265 : decode cL_law 1265 = .ok (.aload_n 0, 1) := by decide +kernel
theorem dL_law_1266 : decode cL_law 1266 = .ok (.iload_n 3, 1) := by decide +kernel
theorem dL_law_1267 : decode cL_law 1267 = .ok (.iconst 2, 1) := by decide +kernel
theorem dL_law_1268 : decode cL_law 1268 = .ok (.iadd, 1) := by decide +kernel
theorem dL_law_1269 : decode cL_law 1269 = .ok (.iaload, 1) := by decide +kernel
theorem dL_law_1270 : decode cL_law 1270 = .ok (.aload_n 0, 1) := by decide +kernel
theorem dL_law_1271 : decode cL_law 1271 = .ok (.iload_n 3, 1) := by decide +kernel
theorem dL_law_1272 : decode cL_law 1272 = .ok (.iconst 3, 1) := by decide +kernel
theorem dL_law_1273 : decode cL_law 1273 = .ok (.iadd, 1) := by decide +kernel
theorem dL_law_1274 : decode cL_law 1274 = .ok (.iaload, 1) := by decide +kernel
theorem dL_law_1275 : decode cL_law 1275 = .ok (.aload_n 0, 1) := by decide +kernel
theorem dL_law_1276 : decode cL_law 1276 = .ok (.iload_n 3, 1) := by decide +kernel
theorem dL_law_1277 : decode cL_law 1277 = .ok (.iconst 4, 1) := by decide +kernel
theorem dL_law_1278 : decode cL_law 1278 = .ok (.iadd, 1) := by decide +kernel
theorem dL_law_1279 : decode cL_law 1279 = .ok (.iaload, 1) := by decide +kernel
theorem dL_law_1280 : decode cL_law 1280 = .ok (.aload_n 0, 1) := by decide +kernel
theorem dL_law_1281 : decode cL_law 1281 = .ok (.iload_n 3, 1) := by decide +kernel
theorem dL_law_1282 : decode cL_law 1282 = .ok (.iconst 5, 1) := by decide +kernel
theorem dL_law_1283 : decode cL_law 1283 = .ok (.iadd, 1) := by decide +kernel
theorem dL_law_1284 : decode cL_law 1284 = .ok (.iaload, 1) := by decide +kernel
theorem dL_law_1285 : decode cL_law 1285 = .ok (.invokevirtual 159, 3) := by decide +kernel
theorem dL_law_1288 : decode cL_law 1288 = .ok (.aload_n 2, 1) := by decide +kernel
theorem dL_law_1289 : decode cL_law 1289 = .ok (.aload_n 0, 1) := by decide +kernel
theorem dL_law_1290 : decode cL_law 1290 = .ok (.iload_n 3, 1) := by decide +kernel
theorem dL_law_1291 : decode cL_law 1291 = .ok (.iconst 1, 1) := by decide +kernel
theorem dL_law_1292 : decode cL_law 1292 = .ok (.iadd, 1) := by decide +kernel
theorem dL_law_1293 : decode cL_law 1293 = .ok (.iaload, 1) := by decide +kernel
theorem dL_law_1294 : decode cL_law 1294 = .ok (.aload_n 0, 1) := by decide +kernel
theorem dL_law_1295 : decode cL_law 1295 = .ok (.iload_n 3, 1) := by decide +kernel
theorem dL_law_1296 : decode cL_law 1296 = .ok (.iconst 2, 1) := by decide +kernel
theorem dL_law_1297 : decode cL_law 1297 = .ok (.iadd, 1) := by decide +kernel
theorem dL_law_1298 : decode cL_law 1298 = .ok (.iaload, 1) := by decide +kernel
theorem dL_law_1299 : decode cL_law 1299 = .ok (.aload_n 0, 1) := by decide +kernel
theorem dL_law_1300 : decode cL_law 1300 = .ok (.iload_n 3, 1) := by decide +kernel
theorem dL_law_1301 : decode cL_law 1301 = .ok (.iconst 3, 1) := by decide +kernel
theorem dL_law_1302 : decode cL_law 1302 = .ok (.iadd, 1) := by decide +kernel
theorem dL_law_1303 : decode cL_law 1303 = .ok (.iaload, 1) := by decide +kernel
theorem dL_law_1304 : decode cL_law 1304 = .ok (.aload_n 0, 1) := by decide +kernel
theorem dL_law_1305 : decode cL_law 1305 = .ok (.iload_n 3, 1) := by decide +kernel
theorem dL_law_1306 : decode cL_law 1306 = .ok (.iconst 4, 1) := by decide +kernel
theorem dL_law_1307 : decode cL_law 1307 = .ok (.iadd, 1) := by decide +kernel
theorem dL_law_1308 : decode cL_law 1308 = .ok (.iaload, 1) := by decide +kernel
theorem dL_law_1309 : decode cL_law 1309 = .ok (.aload_n 0, 1) := by decide +kernel
theorem dL_law_1310 : decode cL_law 1310 = .ok (.iload_n 3, 1) := by decide +kernel
theorem dL_law_1311 : decode cL_law 1311 = .ok (.iconst 5, 1) := by decide +kernel
theorem dL_law_1312 : decode cL_law 1312 = .ok (.iadd, 1) := by decide +kernel
theorem dL_law_1313 : decode cL_law 1313 = .ok (.iaload, 1) := by decide +kernel
theorem dL_law_1314 : decode cL_law 1314 = .ok (.invokevirtual 163, 3) := by decide +kernel
theorem dL_law_1317 : decode cL_law 1317 = .ok (.if_icmp .eq 5, 3) := by decide +kernel
theorem dL_law_1320 : decode cL_law 1320 = .ok (.iconst 0, 1) := by decide +kernel
theorem dL_law_1321 : decode cL_law 1321 = .ok (.ireturn, 1) := by decide +kernel
theorem dL_law_1322 : decode cL_law 1322 = .ok (.iinc 3 6, 3) := by decide +kernel
theorem dL_law_1325 : decode cL_law 1325 = .ok (.goto (-1307), 3) := by decide +kernel
theorem dL_law_1328 : decode cL_law 1328 = .ok (.iconst 1, 1) := by decide +kernel
theorem dL_law_1329 : decode cL_law 1329 = .ok (.ireturn, 1) := by decide +kernel
noncomputable def CL_9 (L : Nat) (xs : Nat → Int32) : List (Nat × qOp) := [(1224, qo_ret (some .boolean) 1),
  (1225, qo_aload 1 1),
  (1226, qo_aload 0 1),
  (1227, qo_iload 3 1),
  (1228, qo_ci 1 1),
  (1229, qo_iadd),
  (1230, qo_sld L xs),
  (1231, qo_aload 0 1),
  (1232, qo_iload 3 1),
  (1233, qo_ci 2 1),
  (1234, qo_iadd),
  (1235, qo_sld L xs),
  (1236, qo_callv [(11, S_X11_read)] 2),
  (1239, qo_aload 2 1),
  (1240, qo_aload 0 1),
  (1241, qo_iload 3 1),
  (1242, qo_ci 1 1),
  (1243, qo_iadd),
  (1244, qo_sld L xs),
  (1245, qo_aload 0 1),
  (1246, qo_iload 3 1),
  (1247, qo_ci 2 1),
  (1248, qo_iadd),
  (1249, qo_sld L xs),
  (1250, qo_callv [(12, S_X12_read)] 2),
  (1253, qo_lcmp),
  (1254, qo_ifeq 1322),
  (1257, qo_ci 0 1),
  (1258, qo_ret (some .boolean) 1),
  (1259, qo_aload 1 1),
  (1260, qo_aload 0 1),
  (1261, qo_iload 3 1),
  (1262, qo_ci 1 1),
  (1263, qo_iadd),
  (1264, qo_sld L xs),
  (1265, qo_aload 0 1),
  (1266, qo_iload 3 1),
  (1267, qo_ci 2 1),
  (1268, qo_iadd),
  (1269, qo_sld L xs),
  (1270, qo_aload 0 1),
  (1271, qo_iload 3 1),
  (1272, qo_ci 3 1),
  (1273, qo_iadd),
  (1274, qo_sld L xs),
  (1275, qo_aload 0 1),
  (1276, qo_iload 3 1),
  (1277, qo_ci 4 1),
  (1278, qo_iadd),
  (1279, qo_sld L xs),
  (1280, qo_aload 0 1),
  (1281, qo_iload 3 1),
  (1282, qo_ci 5 1),
  (1283, qo_iadd),
  (1284, qo_sld L xs),
  (1285, qo_callv [(11, S_X11_shift)] 5),
  (1288, qo_aload 2 1),
  (1289, qo_aload 0 1),
  (1290, qo_iload 3 1),
  (1291, qo_ci 1 1),
  (1292, qo_iadd),
  (1293, qo_sld L xs),
  (1294, qo_aload 0 1),
  (1295, qo_iload 3 1),
  (1296, qo_ci 2 1),
  (1297, qo_iadd),
  (1298, qo_sld L xs),
  (1299, qo_aload 0 1),
  (1300, qo_iload 3 1),
  (1301, qo_ci 3 1),
  (1302, qo_iadd),
  (1303, qo_sld L xs),
  (1304, qo_aload 0 1),
  (1305, qo_iload 3 1),
  (1306, qo_ci 4 1),
  (1307, qo_iadd),
  (1308, qo_sld L xs),
  (1309, qo_aload 0 1),
  (1310, qo_iload 3 1),
  (1311, qo_ci 5 1),
  (1312, qo_iadd),
  (1313, qo_sld L xs),
  (1314, qo_callv [(12, S_X12_shift)] 5),
  (1317, qo_iceq 1322),
  (1320, qo_ci 0 1),
  (1321, qo_ret (some .boolean) 1),
  (1322, qo_iinc 3 6),
  (1325, qo_goto 18),
  (1328, qo_ci 1 1),
  (1329, qo_ret (some .boolean) 1)]
set_option maxRecDepth 20000 in
theorem KL_9 {X : qX} {l : Launch} {b L : Nat} {xs : Nat → Int32} {nm : String} (hL : L ≤ 3072) : ∀ q ∈ CL_9 L xs, qOkS X l b L xs 31 cL_law 4 RL nm (some .boolean) q.1 q.2 := by
  unfold CL_9
  refine qconsS (qOkS_of (qk_ret dL_law_1224 (Or.inr (Or.inl ⟨rfl, rfl⟩)))) ?_
  refine qconsS (qOkS_of (qk_aload_n dL_law_1225 rfl)) ?_
  refine qconsS (qOkS_of (qk_aload_n dL_law_1226 rfl)) ?_
  refine qconsS (qOkS_of (qk_iload_n dL_law_1227 rfl)) ?_
  refine qconsS (qOkS_of (qk_iconst dL_law_1228 (by decide))) ?_
  refine qconsS (qOkS_of (qk_iadd dL_law_1229)) ?_
  refine qconsS (qk_sld hL dL_law_1230) ?_
  refine qconsS (qOkS_of (qk_aload_n dL_law_1231 rfl)) ?_
  refine qconsS (qOkS_of (qk_iload_n dL_law_1232 rfl)) ?_
  refine qconsS (qOkS_of (qk_iconst dL_law_1233 (by decide))) ?_
  refine qconsS (qOkS_of (qk_iadd dL_law_1234)) ?_
  refine qconsS (qk_sld hL dL_law_1235) ?_
  refine qconsS (qOkS_of (qk_callv (ins := fun i => .invokevirtual i) (qconsV (qrunV M_X11_read (by decide) (by decide) (by decide) rfl tw_836 tw_837 tw_838 tw_839 tw_78 ⟨by decide, by decide⟩ (by decide +kernel)) qnilV) dL_law_1236)) ?_
  refine qconsS (qOkS_of (qk_aload_n dL_law_1239 rfl)) ?_
  refine qconsS (qOkS_of (qk_aload_n dL_law_1240 rfl)) ?_
  refine qconsS (qOkS_of (qk_iload_n dL_law_1241 rfl)) ?_
  refine qconsS (qOkS_of (qk_iconst dL_law_1242 (by decide))) ?_
  refine qconsS (qOkS_of (qk_iadd dL_law_1243)) ?_
  refine qconsS (qk_sld hL dL_law_1244) ?_
  refine qconsS (qOkS_of (qk_aload_n dL_law_1245 rfl)) ?_
  refine qconsS (qOkS_of (qk_iload_n dL_law_1246 rfl)) ?_
  refine qconsS (qOkS_of (qk_iconst dL_law_1247 (by decide))) ?_
  refine qconsS (qOkS_of (qk_iadd dL_law_1248)) ?_
  refine qconsS (qk_sld hL dL_law_1249) ?_
  refine qconsS (qOkS_of (qk_callv (ins := fun i => .invokevirtual i) (qconsV (qrunV M_X12_read (by decide) (by decide) (by decide) rfl tw_1441 tw_1442 tw_1443 tw_1444 tw_90 ⟨by decide, by decide⟩ (by decide +kernel)) qnilV) dL_law_1250)) ?_
  refine qconsS (qOkS_of (qk_lcmp dL_law_1253)) ?_
  refine qconsS (qOkS_of (qk_ifeq dL_law_1254 (by decide))) ?_
  refine qconsS (qOkS_of (qk_iconst dL_law_1257 (by decide))) ?_
  refine qconsS (qOkS_of (qk_ret dL_law_1258 (Or.inr (Or.inl ⟨rfl, rfl⟩)))) ?_
  refine qconsS (qOkS_of (qk_aload_n dL_law_1259 rfl)) ?_
  refine qconsS (qOkS_of (qk_aload_n dL_law_1260 rfl)) ?_
  refine qconsS (qOkS_of (qk_iload_n dL_law_1261 rfl)) ?_
  refine qconsS (qOkS_of (qk_iconst dL_law_1262 (by decide))) ?_
  refine qconsS (qOkS_of (qk_iadd dL_law_1263)) ?_
  refine qconsS (qk_sld hL dL_law_1264) ?_
  refine qconsS (qOkS_of (qk_aload_n dL_law_1265 rfl)) ?_
  refine qconsS (qOkS_of (qk_iload_n dL_law_1266 rfl)) ?_
  refine qconsS (qOkS_of (qk_iconst dL_law_1267 (by decide))) ?_
  refine qconsS (qOkS_of (qk_iadd dL_law_1268)) ?_
  refine qconsS (qk_sld hL dL_law_1269) ?_
  refine qconsS (qOkS_of (qk_aload_n dL_law_1270 rfl)) ?_
  refine qconsS (qOkS_of (qk_iload_n dL_law_1271 rfl)) ?_
  refine qconsS (qOkS_of (qk_iconst dL_law_1272 (by decide))) ?_
  refine qconsS (qOkS_of (qk_iadd dL_law_1273)) ?_
  refine qconsS (qk_sld hL dL_law_1274) ?_
  refine qconsS (qOkS_of (qk_aload_n dL_law_1275 rfl)) ?_
  refine qconsS (qOkS_of (qk_iload_n dL_law_1276 rfl)) ?_
  refine qconsS (qOkS_of (qk_iconst dL_law_1277 (by decide))) ?_
  refine qconsS (qOkS_of (qk_iadd dL_law_1278)) ?_
  refine qconsS (qk_sld hL dL_law_1279) ?_
  refine qconsS (qOkS_of (qk_aload_n dL_law_1280 rfl)) ?_
  refine qconsS (qOkS_of (qk_iload_n dL_law_1281 rfl)) ?_
  refine qconsS (qOkS_of (qk_iconst dL_law_1282 (by decide))) ?_
  refine qconsS (qOkS_of (qk_iadd dL_law_1283)) ?_
  refine qconsS (qk_sld hL dL_law_1284) ?_
  refine qconsS (qOkS_of (qk_callv (ins := fun i => .invokevirtual i) (qconsV (qrunV M_X11_shift (by decide) (by decide) (by decide) rfl tw_840 tw_841 tw_842 tw_843 tw_78 ⟨by decide, by decide⟩ (by decide +kernel)) qnilV) dL_law_1285)) ?_
  refine qconsS (qOkS_of (qk_aload_n dL_law_1288 rfl)) ?_
  refine qconsS (qOkS_of (qk_aload_n dL_law_1289 rfl)) ?_
  refine qconsS (qOkS_of (qk_iload_n dL_law_1290 rfl)) ?_
  refine qconsS (qOkS_of (qk_iconst dL_law_1291 (by decide))) ?_
  refine qconsS (qOkS_of (qk_iadd dL_law_1292)) ?_
  refine qconsS (qk_sld hL dL_law_1293) ?_
  refine qconsS (qOkS_of (qk_aload_n dL_law_1294 rfl)) ?_
  refine qconsS (qOkS_of (qk_iload_n dL_law_1295 rfl)) ?_
  refine qconsS (qOkS_of (qk_iconst dL_law_1296 (by decide))) ?_
  refine qconsS (qOkS_of (qk_iadd dL_law_1297)) ?_
  refine qconsS (qk_sld hL dL_law_1298) ?_
  refine qconsS (qOkS_of (qk_aload_n dL_law_1299 rfl)) ?_
  refine qconsS (qOkS_of (qk_iload_n dL_law_1300 rfl)) ?_
  refine qconsS (qOkS_of (qk_iconst dL_law_1301 (by decide))) ?_
  refine qconsS (qOkS_of (qk_iadd dL_law_1302)) ?_
  refine qconsS (qk_sld hL dL_law_1303) ?_
  refine qconsS (qOkS_of (qk_aload_n dL_law_1304 rfl)) ?_
  refine qconsS (qOkS_of (qk_iload_n dL_law_1305 rfl)) ?_
  refine qconsS (qOkS_of (qk_iconst dL_law_1306 (by decide))) ?_
  refine qconsS (qOkS_of (qk_iadd dL_law_1307)) ?_
  refine qconsS (qk_sld hL dL_law_1308) ?_
  refine qconsS (qOkS_of (qk_aload_n dL_law_1309 rfl)) ?_
  refine qconsS (qOkS_of (qk_iload_n dL_law_1310 rfl)) ?_
  refine qconsS (qOkS_of (qk_iconst dL_law_1311 (by decide))) ?_
  refine qconsS (qOkS_of (qk_iadd dL_law_1312)) ?_
  refine qconsS (qk_sld hL dL_law_1313) ?_
  refine qconsS (qOkS_of (qk_callv (ins := fun i => .invokevirtual i) (qconsV (qrunV M_X12_shift (by decide) (by decide) (by decide) rfl tw_1445 tw_1446 tw_1447 tw_1448 tw_90 ⟨by decide, by decide⟩ (by decide +kernel)) qnilV) dL_law_1314)) ?_
  refine qconsS (qOkS_of (qk_iceq dL_law_1317 (by decide))) ?_
  refine qconsS (qOkS_of (qk_iconst dL_law_1320 (by decide))) ?_
  refine qconsS (qOkS_of (qk_ret dL_law_1321 (Or.inr (Or.inl ⟨rfl, rfl⟩)))) ?_
  refine qconsS (qOkS_of (qk_iinc dL_law_1322)) ?_
  refine qconsS (qOkS_of (qk_goto dL_law_1325 (by decide))) ?_
  refine qconsS (qOkS_of (qk_iconst dL_law_1328 (by decide))) ?_
  refine qconsS (qOkS_of (qk_ret dL_law_1329 (Or.inr (Or.inl ⟨rfl, rfl⟩)))) ?_
  exact qnilS
