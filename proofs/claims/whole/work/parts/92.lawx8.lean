theorem dL_law_1112 : decode cL_law 1112 = .ok (.iconst 1, 1) := by decide +kernel
theorem dL_law_1113 : decode cL_law 1113 = .ok (.iadd, 1) := by decide +kernel
theorem dL_law_1114 : decode cL_law 1114 = .ok (.iaload, 1) := by decide +kernel
theorem dL_law_1115 : decode cL_law 1115 = .ok (.aload_n 0, 1) := by decide +kernel
theorem dL_law_1116 : decode cL_law 1116 = .ok (.iload_n 3, 1) := by decide +kernel
theorem dL_law_1117 : decode cL_law 1117 = .ok (.iconst 2, 1) := by decide +kernel
theorem dL_law_1118 : decode cL_law 1118 = .ok (.iadd, 1) := by decide +kernel
theorem dL_law_1119 : decode cL_law 1119 = .ok (.iaload, 1) := by decide +kernel
theorem dL_law_1120 : decode cL_law 1120 = .ok (.aload_n 0, 1) := by decide +kernel
theorem dL_law_1121 : decode cL_law 1121 = .ok (.iload_n 3, 1) := by decide +kernel
theorem dL_law_1122 : decode cL_law 1122 = .ok (.iconst 3, 1) := by decide +kernel
theorem dL_law_1123 : decode cL_law 1123 = .ok (.iadd, 1) := by decide +kernel
theorem dL_law_1124 : decode cL_law 1124 = .ok (.iaload, 1) := by decide +kernel
theorem dL_law_1125 : decode cL_law 1125 = .ok (.invokevirtual 144, 3) := by decide +kernel
theorem dL_law_1128 : decode cL_law 1128 = .ok (.aload_n 2, 1) := by decide +kernel
theorem dL_law_1129 : decode cL_law 1129 = .ok (.aload_n 0, 1) := by decide +kernel
theorem dL_law_1130 : decode cL_law 1130 = .ok (.iload_n 3, 1) := by decide +kernel
theorem dL_law_1131 : decode cL_law 1131 = .ok (.iconst 1, 1) := by decide +kernel
theorem dL_law_1132 : decode cL_law 1132 = .ok (.iadd, 1) := by decide +kernel
theorem dL_law_1133 : decode cL_law 1133 = .ok (.iaload, 1) := by decide +kernel
theorem dL_law_1134 : decode cL_law 1134 = .ok (.aload_n 0, 1) := by decide +kernel
theorem dL_law_1135 : decode cL_law 1135 = .ok (.iload_n 3, 1) := by decide +kernel
theorem dL_law_1136 : decode cL_law 1136 = .ok (.iconst 2, 1) := by decide +kernel
theorem dL_law_1137 : decode cL_law 1137 = .ok (.iadd, 1) := by decide +kernel
theorem dL_law_1138 : decode cL_law 1138 = .ok (.iaload, 1) := by decide +kernel
theorem dL_law_1139 : decode cL_law 1139 = .ok (.aload_n 0, 1) := by decide +kernel
theorem dL_law_1140 : decode cL_law 1140 = .ok (.iload_n 3, 1) := by decide +kernel
theorem dL_law_1141 : decode cL_law 1141 = .ok (.iconst 3, 1) := by decide +kernel
theorem dL_law_1142 : decode cL_law 1142 = .ok (.iadd, 1) := by decide +kernel
theorem dL_law_1143 : decode cL_law 1143 = .ok (.iaload, 1) := by decide +kernel
theorem dL_law_1144 : decode cL_law 1144 = .ok (.invokevirtual 147, 3) := by decide +kernel
theorem dL_law_1147 : decode cL_law 1147 = .ok (.if_icmp .eq 175, 3) := by decide +kernel
theorem dL_law_1150 : decode cL_law 1150 = .ok (.iconst 0, 1) := by decide +kernel
theorem dL_law_1151 : decode cL_law 1151 = .ok (.ireturn, 1) := by decide +kernel
theorem dL_law_1152 : decode cL_law 1152 = .ok (.aload_n 1, 1) := by decide +kernel
theorem dL_law_1153 : decode cL_law 1153 = .ok (.aload_n 0, 1) := by decide +kernel
theorem dL_law_1154 : decode cL_law 1154 = .ok (.iload_n 3, 1) := by decide +kernel
theorem dL_law_1155 : decode cL_law 1155 = .ok (.iconst 1, 1) := by decide +kernel
theorem dL_law_1156 : decode cL_law 1156 = .ok (.iadd, 1) := by decide +kernel
theorem dL_law_1157 : decode cL_law 1157 = .ok (.iaload, 1) := by decide +kernel
theorem dL_law_1158 : decode cL_law 1158 = .ok (.aload_n 0, 1) := by decide +kernel
theorem dL_law_1159 : decode cL_law 1159 = .ok (.iload_n 3, 1) := by decide +kernel
theorem dL_law_1160 : decode cL_law 1160 = .ok (.iconst 2, 1) := by decide +kernel
theorem dL_law_1161 : decode cL_law 1161 = .ok (.iadd, 1) := by decide +kernel
theorem dL_law_1162 : decode cL_law 1162 = .ok (.iaload, 1) := by decide +kernel
theorem dL_law_1163 : decode cL_law 1163 = .ok (.aload_n 0, 1) := by decide +kernel
theorem dL_law_1164 : decode cL_law 1164 = .ok (.iload_n 3, 1) := by decide +kernel
theorem dL_law_1165 : decode cL_law 1165 = .ok (.iconst 3, 1) := by decide +kernel
theorem dL_law_1166 : decode cL_law 1166 = .ok (.iadd, 1) := by decide +kernel
theorem dL_law_1167 : decode cL_law 1167 = .ok (.iaload, 1) := by decide +kernel
theorem dL_law_1168 : decode cL_law 1168 = .ok (.i2l, 1) := by decide +kernel
theorem dL_law_1169 : decode cL_law 1169 = .ok (.bipush 32, 2) := by decide +kernel
theorem dL_law_1171 : decode cL_law 1171 = .ok (.lshl, 1) := by decide +kernel
theorem dL_law_1172 : decode cL_law 1172 = .ok (.aload_n 0, 1) := by decide +kernel
theorem dL_law_1173 : decode cL_law 1173 = .ok (.iload_n 3, 1) := by decide +kernel
theorem dL_law_1174 : decode cL_law 1174 = .ok (.iconst 4, 1) := by decide +kernel
theorem dL_law_1175 : decode cL_law 1175 = .ok (.iadd, 1) := by decide +kernel
theorem dL_law_1176 : decode cL_law 1176 = .ok (.iaload, 1) := by decide +kernel
theorem dL_law_1177 : decode cL_law 1177 = .ok (.i2l, 1) := by decide +kernel
theorem dL_law_1178 : decode cL_law 1178 = .ok (.ldc2_w 148, 3) := by decide +kernel
theorem dL_law_1181 : decode cL_law 1181 = .ok (.land, 1) := by decide +kernel
theorem dL_law_1182 : decode cL_law 1182 = .ok (.lor, 1) := by decide +kernel
theorem dL_law_1183 : decode cL_law 1183 = .ok (.invokevirtual 150, 3) := by decide +kernel
theorem dL_law_1186 : decode cL_law 1186 = .ok (.aload_n 2, 1) := by decide +kernel
theorem dL_law_1187 : decode cL_law 1187 = .ok (.aload_n 0, 1) := by decide +kernel
theorem dL_law_1188 : decode cL_law 1188 = .ok (.iload_n 3, 1) := by decide +kernel
theorem dL_law_1189 : decode cL_law 1189 = .ok (.iconst 1, 1) := by decide +kernel
theorem dL_law_1190 : decode cL_law 1190 = .ok (.iadd, 1) := by decide +kernel
theorem dL_law_1191 : decode cL_law 1191 = .ok (.iaload, 1) := by decide +kernel
theorem dL_law_1192 : decode cL_law 1192 = .ok (.aload_n 0, 1) := by decide +kernel
theorem dL_law_1193 : decode cL_law 1193 = .ok (.iload_n 3, 1) := by decide +kernel
theorem dL_law_1194 : decode cL_law 1194 = .ok (.iconst 2, 1) := by decide +kernel
theorem dL_law_1195 : decode cL_law 1195 = .ok (.iadd, 1) := by decide +kernel
theorem dL_law_1196 : decode cL_law 1196 = .ok (.iaload, 1) := by decide +kernel
theorem dL_law_1197 : decode cL_law 1197 = .ok (.aload_n 0, 1) := by decide +kernel
theorem dL_law_1198 : decode cL_law 1198 = .ok (.iload_n 3, 1) := by decide +kernel
theorem dL_law_1199 : decode cL_law 1199 = .ok (.iconst 3, 1) := by decide +kernel
theorem dL_law_1200 : decode cL_law 1200 = .ok (.iadd, 1) := by decide +kernel
theorem dL_law_1201 : decode cL_law 1201 = .ok (.iaload, 1) := by decide +kernel
theorem dL_law_1202 : decode cL_law 1202 = .ok (.i2l, 1) := by decide +kernel
theorem dL_law_1203 : decode cL_law 1203 = .ok (.bipush 32, 2) := by decide +kernel
theorem dL_law_1205 : decode cL_law 1205 = .ok (.lshl, 1) := by decide +kernel
theorem dL_law_1206 : decode cL_law 1206 = .ok (.aload_n 0, 1) := by decide +kernel
theorem dL_law_1207 : decode cL_law 1207 = .ok (.iload_n 3, 1) := by decide +kernel
theorem dL_law_1208 : decode cL_law 1208 = .ok (.iconst 4, 1) := by decide +kernel
theorem dL_law_1209 : decode cL_law 1209 = .ok (.iadd, 1) := by decide +kernel
theorem dL_law_1210 : decode cL_law 1210 = .ok (.iaload, 1) := by decide +kernel
theorem dL_law_1211 : decode cL_law 1211 = .ok (.i2l, 1) := by decide +kernel
theorem dL_law_1212 : decode cL_law 1212 = .ok (.ldc2_w 148, 3) := by decide +kernel
theorem dL_law_1215 : decode cL_law 1215 = .ok (.land, 1) := by decide +kernel
theorem dL_law_1216 : decode cL_law 1216 = .ok (.lor, 1) := by decide +kernel
theorem dL_law_1217 : decode cL_law 1217 = .ok (.invokevirtual 154, 3) := by decide +kernel
theorem dL_law_1220 : decode cL_law 1220 = .ok (.if_icmp .eq 102, 3) := by decide +kernel
theorem dL_law_1223 : decode cL_law 1223 = .ok (.iconst 0, 1) := by decide +kernel
noncomputable def CL_8 (L : Nat) (xs : Nat → Int32) : List (Nat × qOp) := [(1112, qo_ci 1 1),
  (1113, qo_iadd),
  (1114, qo_sld L xs),
  (1115, qo_aload 0 1),
  (1116, qo_iload 3 1),
  (1117, qo_ci 2 1),
  (1118, qo_iadd),
  (1119, qo_sld L xs),
  (1120, qo_aload 0 1),
  (1121, qo_iload 3 1),
  (1122, qo_ci 3 1),
  (1123, qo_iadd),
  (1124, qo_sld L xs),
  (1125, qo_callv [(11, S_X11_tape)] 3),
  (1128, qo_aload 2 1),
  (1129, qo_aload 0 1),
  (1130, qo_iload 3 1),
  (1131, qo_ci 1 1),
  (1132, qo_iadd),
  (1133, qo_sld L xs),
  (1134, qo_aload 0 1),
  (1135, qo_iload 3 1),
  (1136, qo_ci 2 1),
  (1137, qo_iadd),
  (1138, qo_sld L xs),
  (1139, qo_aload 0 1),
  (1140, qo_iload 3 1),
  (1141, qo_ci 3 1),
  (1142, qo_iadd),
  (1143, qo_sld L xs),
  (1144, qo_callv [(12, S_X12_tape)] 3),
  (1147, qo_iceq 1322),
  (1150, qo_ci 0 1),
  (1151, qo_ret (some .boolean) 1),
  (1152, qo_aload 1 1),
  (1153, qo_aload 0 1),
  (1154, qo_iload 3 1),
  (1155, qo_ci 1 1),
  (1156, qo_iadd),
  (1157, qo_sld L xs),
  (1158, qo_aload 0 1),
  (1159, qo_iload 3 1),
  (1160, qo_ci 2 1),
  (1161, qo_iadd),
  (1162, qo_sld L xs),
  (1163, qo_aload 0 1),
  (1164, qo_iload 3 1),
  (1165, qo_ci 3 1),
  (1166, qo_iadd),
  (1167, qo_sld L xs),
  (1168, qo_i2l),
  (1169, qo_ci 32 2),
  (1171, qo_lshl),
  (1172, qo_aload 0 1),
  (1173, qo_iload 3 1),
  (1174, qo_ci 4 1),
  (1175, qo_iadd),
  (1176, qo_sld L xs),
  (1177, qo_i2l),
  (1178, qo_cl 4294967295 3),
  (1181, qo_land),
  (1182, qo_lor),
  (1183, qo_callv [(11, S_X11_item)] 3),
  (1186, qo_aload 2 1),
  (1187, qo_aload 0 1),
  (1188, qo_iload 3 1),
  (1189, qo_ci 1 1),
  (1190, qo_iadd),
  (1191, qo_sld L xs),
  (1192, qo_aload 0 1),
  (1193, qo_iload 3 1),
  (1194, qo_ci 2 1),
  (1195, qo_iadd),
  (1196, qo_sld L xs),
  (1197, qo_aload 0 1),
  (1198, qo_iload 3 1),
  (1199, qo_ci 3 1),
  (1200, qo_iadd),
  (1201, qo_sld L xs),
  (1202, qo_i2l),
  (1203, qo_ci 32 2),
  (1205, qo_lshl),
  (1206, qo_aload 0 1),
  (1207, qo_iload 3 1),
  (1208, qo_ci 4 1),
  (1209, qo_iadd),
  (1210, qo_sld L xs),
  (1211, qo_i2l),
  (1212, qo_cl 4294967295 3),
  (1215, qo_land),
  (1216, qo_lor),
  (1217, qo_callv [(12, S_X12_item)] 3),
  (1220, qo_iceq 1322),
  (1223, qo_ci 0 1)]
set_option maxRecDepth 20000 in
theorem KL_8 {X : qX} {l : Launch} {b L : Nat} {xs : Nat → Int32} {nm : String} (hL : L ≤ 3072) : ∀ q ∈ CL_8 L xs, qOkS X l b L xs 31 cL_law 4 RL nm (some .boolean) q.1 q.2 := by
  unfold CL_8
  refine qconsS (qOkS_of (qk_iconst dL_law_1112 (by decide))) ?_
  refine qconsS (qOkS_of (qk_iadd dL_law_1113)) ?_
  refine qconsS (qk_sld hL dL_law_1114) ?_
  refine qconsS (qOkS_of (qk_aload_n dL_law_1115 rfl)) ?_
  refine qconsS (qOkS_of (qk_iload_n dL_law_1116 rfl)) ?_
  refine qconsS (qOkS_of (qk_iconst dL_law_1117 (by decide))) ?_
  refine qconsS (qOkS_of (qk_iadd dL_law_1118)) ?_
  refine qconsS (qk_sld hL dL_law_1119) ?_
  refine qconsS (qOkS_of (qk_aload_n dL_law_1120 rfl)) ?_
  refine qconsS (qOkS_of (qk_iload_n dL_law_1121 rfl)) ?_
  refine qconsS (qOkS_of (qk_iconst dL_law_1122 (by decide))) ?_
  refine qconsS (qOkS_of (qk_iadd dL_law_1123)) ?_
  refine qconsS (qk_sld hL dL_law_1124) ?_
  refine qconsS (qOkS_of (qk_callv (ins := fun i => .invokevirtual i) (qconsV (qrunV M_X11_tape (by decide) (by decide) (by decide) rfl tw_825 tw_826 tw_827 tw_828 tw_78 ⟨by decide, by decide⟩ (by decide +kernel)) qnilV) dL_law_1125)) ?_
  refine qconsS (qOkS_of (qk_aload_n dL_law_1128 rfl)) ?_
  refine qconsS (qOkS_of (qk_aload_n dL_law_1129 rfl)) ?_
  refine qconsS (qOkS_of (qk_iload_n dL_law_1130 rfl)) ?_
  refine qconsS (qOkS_of (qk_iconst dL_law_1131 (by decide))) ?_
  refine qconsS (qOkS_of (qk_iadd dL_law_1132)) ?_
  refine qconsS (qk_sld hL dL_law_1133) ?_
  refine qconsS (qOkS_of (qk_aload_n dL_law_1134 rfl)) ?_
  refine qconsS (qOkS_of (qk_iload_n dL_law_1135 rfl)) ?_
  refine qconsS (qOkS_of (qk_iconst dL_law_1136 (by decide))) ?_
  refine qconsS (qOkS_of (qk_iadd dL_law_1137)) ?_
  refine qconsS (qk_sld hL dL_law_1138) ?_
  refine qconsS (qOkS_of (qk_aload_n dL_law_1139 rfl)) ?_
  refine qconsS (qOkS_of (qk_iload_n dL_law_1140 rfl)) ?_
  refine qconsS (qOkS_of (qk_iconst dL_law_1141 (by decide))) ?_
  refine qconsS (qOkS_of (qk_iadd dL_law_1142)) ?_
  refine qconsS (qk_sld hL dL_law_1143) ?_
  refine qconsS (qOkS_of (qk_callv (ins := fun i => .invokevirtual i) (qconsV (qrunV M_X12_tape (by decide) (by decide) (by decide) rfl tw_1429 tw_1430 tw_1431 tw_1432 tw_90 ⟨by decide, by decide⟩ (by decide +kernel)) qnilV) dL_law_1144)) ?_
  refine qconsS (qOkS_of (qk_iceq dL_law_1147 (by decide))) ?_
  refine qconsS (qOkS_of (qk_iconst dL_law_1150 (by decide))) ?_
  refine qconsS (qOkS_of (qk_ret dL_law_1151 (Or.inr (Or.inl ⟨rfl, rfl⟩)))) ?_
  refine qconsS (qOkS_of (qk_aload_n dL_law_1152 rfl)) ?_
  refine qconsS (qOkS_of (qk_aload_n dL_law_1153 rfl)) ?_
  refine qconsS (qOkS_of (qk_iload_n dL_law_1154 rfl)) ?_
  refine qconsS (qOkS_of (qk_iconst dL_law_1155 (by decide))) ?_
  refine qconsS (qOkS_of (qk_iadd dL_law_1156)) ?_
  refine qconsS (qk_sld hL dL_law_1157) ?_
  refine qconsS (qOkS_of (qk_aload_n dL_law_1158 rfl)) ?_
  refine qconsS (qOkS_of (qk_iload_n dL_law_1159 rfl)) ?_
  refine qconsS (qOkS_of (qk_iconst dL_law_1160 (by decide))) ?_
  refine qconsS (qOkS_of (qk_iadd dL_law_1161)) ?_
  refine qconsS (qk_sld hL dL_law_1162) ?_
  refine qconsS (qOkS_of (qk_aload_n dL_law_1163 rfl)) ?_
  refine qconsS (qOkS_of (qk_iload_n dL_law_1164 rfl)) ?_
  refine qconsS (qOkS_of (qk_iconst dL_law_1165 (by decide))) ?_
  refine qconsS (qOkS_of (qk_iadd dL_law_1166)) ?_
  refine qconsS (qk_sld hL dL_law_1167) ?_
  refine qconsS (qOkS_of (qk_i2l dL_law_1168)) ?_
  refine qconsS (qOkS_of (qk_bipush dL_law_1169 (by decide) (by decide))) ?_
  refine qconsS (qOkS_of (qk_lshl dL_law_1171)) ?_
  refine qconsS (qOkS_of (qk_aload_n dL_law_1172 rfl)) ?_
  refine qconsS (qOkS_of (qk_iload_n dL_law_1173 rfl)) ?_
  refine qconsS (qOkS_of (qk_iconst dL_law_1174 (by decide))) ?_
  refine qconsS (qOkS_of (qk_iadd dL_law_1175)) ?_
  refine qconsS (qk_sld hL dL_law_1176) ?_
  refine qconsS (qOkS_of (qk_i2l dL_law_1177)) ?_
  refine qconsS (qOkS_of (qk_ldc2 dL_law_1178 tw_1449 (by decide))) ?_
  refine qconsS (qOkS_of (qk_land dL_law_1181)) ?_
  refine qconsS (qOkS_of (qk_lor dL_law_1182)) ?_
  refine qconsS (qOkS_of (qk_callv (ins := fun i => .invokevirtual i) (qconsV (qrunV M_X11_item (by decide) (by decide) (by decide) rfl tw_829 tw_830 tw_831 tw_832 tw_78 ⟨by decide, by decide⟩ (by decide +kernel)) qnilV) dL_law_1183)) ?_
  refine qconsS (qOkS_of (qk_aload_n dL_law_1186 rfl)) ?_
  refine qconsS (qOkS_of (qk_aload_n dL_law_1187 rfl)) ?_
  refine qconsS (qOkS_of (qk_iload_n dL_law_1188 rfl)) ?_
  refine qconsS (qOkS_of (qk_iconst dL_law_1189 (by decide))) ?_
  refine qconsS (qOkS_of (qk_iadd dL_law_1190)) ?_
  refine qconsS (qk_sld hL dL_law_1191) ?_
  refine qconsS (qOkS_of (qk_aload_n dL_law_1192 rfl)) ?_
  refine qconsS (qOkS_of (qk_iload_n dL_law_1193 rfl)) ?_
  refine qconsS (qOkS_of (qk_iconst dL_law_1194 (by decide))) ?_
  refine qconsS (qOkS_of (qk_iadd dL_law_1195)) ?_
  refine qconsS (qk_sld hL dL_law_1196) ?_
  refine qconsS (qOkS_of (qk_aload_n dL_law_1197 rfl)) ?_
  refine qconsS (qOkS_of (qk_iload_n dL_law_1198 rfl)) ?_
  refine qconsS (qOkS_of (qk_iconst dL_law_1199 (by decide))) ?_
  refine qconsS (qOkS_of (qk_iadd dL_law_1200)) ?_
  refine qconsS (qk_sld hL dL_law_1201) ?_
  refine qconsS (qOkS_of (qk_i2l dL_law_1202)) ?_
  refine qconsS (qOkS_of (qk_bipush dL_law_1203 (by decide) (by decide))) ?_
  refine qconsS (qOkS_of (qk_lshl dL_law_1205)) ?_
  refine qconsS (qOkS_of (qk_aload_n dL_law_1206 rfl)) ?_
  refine qconsS (qOkS_of (qk_iload_n dL_law_1207 rfl)) ?_
  refine qconsS (qOkS_of (qk_iconst dL_law_1208 (by decide))) ?_
  refine qconsS (qOkS_of (qk_iadd dL_law_1209)) ?_
  refine qconsS (qk_sld hL dL_law_1210) ?_
  refine qconsS (qOkS_of (qk_i2l dL_law_1211)) ?_
  refine qconsS (qOkS_of (qk_ldc2 dL_law_1212 tw_1449 (by decide))) ?_
  refine qconsS (qOkS_of (qk_land dL_law_1215)) ?_
  refine qconsS (qOkS_of (qk_lor dL_law_1216)) ?_
  refine qconsS (qOkS_of (qk_callv (ins := fun i => .invokevirtual i) (qconsV (qrunV M_X12_item (by decide) (by decide) (by decide) rfl tw_1433 tw_1434 tw_1435 tw_1436 tw_90 ⟨by decide, by decide⟩ (by decide +kernel)) qnilV) dL_law_1217)) ?_
  refine qconsS (qOkS_of (qk_iceq dL_law_1220 (by decide))) ?_
  refine qconsS (qOkS_of (qk_iconst dL_law_1223 (by decide))) ?_
  exact qnilS
