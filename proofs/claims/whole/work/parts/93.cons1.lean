set_option maxRecDepth 20000 in
theorem cs_1 : S_X4_init [qA 2] hk_3 = some (none, hk_3) := by
  refine (qM_at (ls := [some (qA 2)]) (Nat.le_of_ble_eq_true rfl) rfl).trans ?_
  refine (qlim_n (n := 2) (c' := (4, [some (qA 2)], [], hk_3)) rfl).trans ?_
  exact qlim_r rfl
set_option maxRecDepth 20000 in
theorem cs_2 : S_X4_init [qA 3] hk_5 = some (none, hk_5) := by
  refine (qM_at (ls := [some (qA 3)]) (Nat.le_of_ble_eq_true rfl) rfl).trans ?_
  refine (qlim_n (n := 2) (c' := (4, [some (qA 3)], [], hk_5)) rfl).trans ?_
  exact qlim_r rfl
set_option maxRecDepth 20000 in
theorem cs_3 : S_X5_init [qA 3] hk_5 = some (none, hk_5) := by
  refine (qM_at (ls := [some (qA 3)]) (Nat.le_of_ble_eq_true rfl) rfl).trans ?_
  refine (qlim_n (n := 1) (c' := (1, [some (qA 3)], [qA 3], hk_5)) rfl).trans ?_
  refine Eq.trans (b := qlim C_X5_init (4, [some (qA 3)], [], hk_5)) (qlim_callc (ci := 5) (nn := 0) rfl rfl rfl (by decide) (by decide) (by decide +kernel) rfl cs_2) ?_
  exact qlim_r rfl
set_option maxRecDepth 20000 in
theorem cs_4 : S_X4_init [qA 4] hk_7 = some (none, hk_7) := by
  refine (qM_at (ls := [some (qA 4)]) (Nat.le_of_ble_eq_true rfl) rfl).trans ?_
  refine (qlim_n (n := 2) (c' := (4, [some (qA 4)], [], hk_7)) rfl).trans ?_
  exact qlim_r rfl
set_option maxRecDepth 20000 in
theorem cs_5 : S_X2_init [qA 4] hk_7 = some (none, hk_7) := by
  refine (qM_at (ls := [some (qA 4)]) (Nat.le_of_ble_eq_true rfl) rfl).trans ?_
  refine (qlim_n (n := 1) (c' := (1, [some (qA 4)], [qA 4], hk_7)) rfl).trans ?_
  refine Eq.trans (b := qlim C_X2_init (4, [some (qA 4)], [], hk_7)) (qlim_callc (ci := 2) (nn := 0) rfl rfl rfl (by decide) (by decide) (by decide +kernel) rfl cs_4) ?_
  exact qlim_r rfl
set_option maxRecDepth 20000 in
theorem cs_6 : S_X4_init [qA 5] hk_9 = some (none, hk_9) := by
  refine (qM_at (ls := [some (qA 5)]) (Nat.le_of_ble_eq_true rfl) rfl).trans ?_
  refine (qlim_n (n := 2) (c' := (4, [some (qA 5)], [], hk_9)) rfl).trans ?_
  exact qlim_r rfl
set_option maxRecDepth 20000 in
theorem cs_7 : S_X9_init [qA 5] hk_9 = some (none, hk_9) := by
  refine (qM_at (ls := [some (qA 5)]) (Nat.le_of_ble_eq_true rfl) rfl).trans ?_
  refine (qlim_n (n := 1) (c' := (1, [some (qA 5)], [qA 5], hk_9)) rfl).trans ?_
  refine Eq.trans (b := qlim C_X9_init (4, [some (qA 5)], [], hk_9)) (qlim_callc (ci := 9) (nn := 0) rfl rfl rfl (by decide) (by decide) (by decide +kernel) rfl cs_6) ?_
  exact qlim_r rfl
set_option maxRecDepth 20000 in
theorem cs_8 : S_X4_init [qA 6] hk_11 = some (none, hk_11) := by
  refine (qM_at (ls := [some (qA 6)]) (Nat.le_of_ble_eq_true rfl) rfl).trans ?_
  refine (qlim_n (n := 2) (c' := (4, [some (qA 6)], [], hk_11)) rfl).trans ?_
  exact qlim_r rfl
set_option maxRecDepth 20000 in
theorem cs_9 : S_X5_init [qA 6] hk_11 = some (none, hk_11) := by
  refine (qM_at (ls := [some (qA 6)]) (Nat.le_of_ble_eq_true rfl) rfl).trans ?_
  refine (qlim_n (n := 1) (c' := (1, [some (qA 6)], [qA 6], hk_11)) rfl).trans ?_
  refine Eq.trans (b := qlim C_X5_init (4, [some (qA 6)], [], hk_11)) (qlim_callc (ci := 7) (nn := 0) rfl rfl rfl (by decide) (by decide) (by decide +kernel) rfl cs_8) ?_
  exact qlim_r rfl
set_option maxRecDepth 20000 in
theorem cs_10 : S_X7_init [qA 6] hk_11 = some (none, hk_11) := by
  refine (qM_at (ls := [some (qA 6)]) (Nat.le_of_ble_eq_true rfl) rfl).trans ?_
  refine (qlim_n (n := 1) (c' := (1, [some (qA 6)], [qA 6], hk_11)) rfl).trans ?_
  refine Eq.trans (b := qlim C_X7_init (4, [some (qA 6)], [], hk_11)) (qlim_callc (ci := 7) (nn := 0) rfl rfl rfl (by decide) (by decide) (by decide +kernel) rfl cs_9) ?_
  exact qlim_r rfl
set_option maxRecDepth 20000 in
theorem cs_11 : S_X4_init [qA 7] hk_13 = some (none, hk_13) := by
  refine (qM_at (ls := [some (qA 7)]) (Nat.le_of_ble_eq_true rfl) rfl).trans ?_
  refine (qlim_n (n := 2) (c' := (4, [some (qA 7)], [], hk_13)) rfl).trans ?_
  exact qlim_r rfl
set_option maxRecDepth 20000 in
theorem cs_12 : S_X2_init [qA 7] hk_13 = some (none, hk_13) := by
  refine (qM_at (ls := [some (qA 7)]) (Nat.le_of_ble_eq_true rfl) rfl).trans ?_
  refine (qlim_n (n := 1) (c' := (1, [some (qA 7)], [qA 7], hk_13)) rfl).trans ?_
  refine Eq.trans (b := qlim C_X2_init (4, [some (qA 7)], [], hk_13)) (qlim_callc (ci := 1) (nn := 0) rfl rfl rfl (by decide) (by decide) (by decide +kernel) rfl cs_11) ?_
  exact qlim_r rfl
set_option maxRecDepth 20000 in
theorem cs_13 : S_X1_init [qA 7] hk_13 = some (none, hk_13) := by
  refine (qM_at (ls := [some (qA 7)]) (Nat.le_of_ble_eq_true rfl) rfl).trans ?_
  refine (qlim_n (n := 1) (c' := (1, [some (qA 7)], [qA 7], hk_13)) rfl).trans ?_
  refine Eq.trans (b := qlim C_X1_init (4, [some (qA 7)], [], hk_13)) (qlim_callc (ci := 1) (nn := 0) rfl rfl rfl (by decide) (by decide) (by decide +kernel) rfl cs_12) ?_
  exact qlim_r rfl
set_option maxRecDepth 20000 in
theorem cs_14 : S_X4_init [qA 8] hk_15 = some (none, hk_15) := by
  refine (qM_at (ls := [some (qA 8)]) (Nat.le_of_ble_eq_true rfl) rfl).trans ?_
  refine (qlim_n (n := 2) (c' := (4, [some (qA 8)], [], hk_15)) rfl).trans ?_
  exact qlim_r rfl
set_option maxRecDepth 20000 in
theorem cs_15 : S_X9_init [qA 8] hk_15 = some (none, hk_15) := by
  refine (qM_at (ls := [some (qA 8)]) (Nat.le_of_ble_eq_true rfl) rfl).trans ?_
  refine (qlim_n (n := 1) (c' := (1, [some (qA 8)], [qA 8], hk_15)) rfl).trans ?_
  refine Eq.trans (b := qlim C_X9_init (4, [some (qA 8)], [], hk_15)) (qlim_callc (ci := 10) (nn := 0) rfl rfl rfl (by decide) (by decide) (by decide +kernel) rfl cs_14) ?_
  exact qlim_r rfl
set_option maxRecDepth 20000 in
theorem cs_16 : S_X10_init [qA 8] hk_15 = some (none, hk_15) := by
  refine (qM_at (ls := [some (qA 8)]) (Nat.le_of_ble_eq_true rfl) rfl).trans ?_
  refine (qlim_n (n := 1) (c' := (1, [some (qA 8)], [qA 8], hk_15)) rfl).trans ?_
  refine Eq.trans (b := qlim C_X10_init (4, [some (qA 8)], [], hk_15)) (qlim_callc (ci := 10) (nn := 0) rfl rfl rfl (by decide) (by decide) (by decide +kernel) rfl cs_15) ?_
  exact qlim_r rfl
set_option maxRecDepth 20000 in
theorem cs_17 : S_X3_init [qA 9] hk_17 = some (none, hk_22) := by
  refine (qM_at (ls := [some (qA 9)]) (Nat.le_of_ble_eq_true rfl) rfl).trans ?_
  refine (qlim_n (n := 4) (c' := (7, [some (qA 9)], [qI 100, qA 9], hk_17)) rfl).trans ?_
  refine Eq.trans (b := qlim C_X3_init (9, [some (qA 9)], [qA 10, qA 9], hk_18)) (qs_newa rfl (by decide +kernel) (by decide +kernel) rfl) ?_
  refine Eq.trans (b := qlim C_X3_init (12, [some (qA 9)], [], hk_19)) (qs_putR (n := 7) rfl (by decide +kernel) (by decide) (by decide)) ?_
  refine (qlim_n (n := 2) (c' := (15, [some (qA 9)], [qI 100, qA 9], hk_19)) rfl).trans ?_
  refine Eq.trans (b := qlim C_X3_init (17, [some (qA 9)], [qA 11, qA 9], hk_20)) (qs_newa rfl (by decide +kernel) (by decide +kernel) rfl) ?_
  refine Eq.trans (b := qlim C_X3_init (20, [some (qA 9)], [], hk_21)) (qs_putR (n := 7) rfl (by decide +kernel) (by decide) (by decide)) ?_
  refine (qlim_n (n := 2) (c' := (23, [some (qA 9)], [qI 50, qA 9], hk_21)) rfl).trans ?_
  refine Eq.trans (b := qlim C_X3_init (26, [some (qA 9)], [], hk_22)) (qs_putI (n := 7) rfl (by decide +kernel) (by decide)) ?_
  exact qlim_r rfl
set_option maxRecDepth 20000 in
theorem cs_18 : S_X8_init [qA 12, qA 1, qA 9, qI 99999] hk_23 = some (none, hk_43) := by
  refine (qM_at (ls := [some (qA 12), some (qA 1), some (qA 9), some (qI 99999)]) (Nat.le_of_ble_eq_true rfl) rfl).trans ?_
  refine (qlim_n (n := 4) (c' := (6, [some (qA 12), some (qA 1), some (qA 9), some (qI 99999)], [qA 1, qA 12], hk_23)) rfl).trans ?_
  refine Eq.trans (b := qlim C_X8_init (9, [some (qA 12), some (qA 1), some (qA 9), some (qI 99999)], [], hk_24)) (qs_putR (n := 14) rfl (by decide +kernel) (by decide) (by decide)) ?_
  refine (qlim_n (n := 2) (c' := (11, [some (qA 12), some (qA 1), some (qA 9), some (qI 99999)], [qI 99999, qA 12], hk_24)) rfl).trans ?_
  refine Eq.trans (b := qlim C_X8_init (14, [some (qA 12), some (qA 1), some (qA 9), some (qI 99999)], [], hk_25)) (qs_putI (n := 14) rfl (by decide +kernel) (by decide)) ?_
  refine (qlim_n (n := 2) (c' := (16, [some (qA 12), some (qA 1), some (qA 9), some (qI 99999)], [qA 9, qA 12], hk_25)) rfl).trans ?_
  refine Eq.trans (b := qlim C_X8_init (19, [some (qA 12), some (qA 1), some (qA 9), some (qI 99999)], [], hk_26)) (qs_putD (n := 14) rfl (by decide +kernel) (by decide) (by decide)) ?_
  refine (qlim_n (n := 2) (c' := (21, [some (qA 12), some (qA 1), some (qA 9), some (qI 99999)], [qA 9, qA 12], hk_26)) rfl).trans ?_
  refine Eq.trans (b := qlim C_X8_init (24, [some (qA 12), some (qA 1), some (qA 9), some (qI 99999)], [qI 50, qA 12], hk_26)) (qs_getIz (n := 7) rfl (by decide +kernel) (by decide) (by decide +kernel)) ?_
  refine Eq.trans (b := qlim C_X8_init (27, [some (qA 12), some (qA 1), some (qA 9), some (qI 99999)], [], hk_27)) (qs_putI (n := 14) rfl (by decide +kernel) (by decide)) ?_
  refine (qlim_n (n := 2) (c' := (29, [some (qA 12), some (qA 1), some (qA 9), some (qI 99999)], [qI 5, qA 12], hk_27)) rfl).trans ?_
  refine Eq.trans (b := qlim C_X8_init (31, [some (qA 12), some (qA 1), some (qA 9), some (qI 99999)], [qA 13, qA 12], hk_28)) (qs_newa rfl (by decide +kernel) (by decide +kernel) rfl) ?_
  refine Eq.trans (b := qlim C_X8_init (34, [some (qA 12), some (qA 1), some (qA 9), some (qI 99999)], [], hk_29)) (qs_putR (n := 14) rfl (by decide +kernel) (by decide) (by decide)) ?_
  refine (qlim_n (n := 2) (c' := (37, [some (qA 12), some (qA 1), some (qA 9), some (qI 99999)], [qI 6, qA 12], hk_29)) rfl).trans ?_
  refine Eq.trans (b := qlim C_X8_init (39, [some (qA 12), some (qA 1), some (qA 9), some (qI 99999)], [qA 14, qA 12], hk_30)) (qs_newa rfl (by decide +kernel) (by decide +kernel) rfl) ?_
  refine Eq.trans (b := qlim C_X8_init (42, [some (qA 12), some (qA 1), some (qA 9), some (qI 99999)], [], hk_31)) (qs_putR (n := 14) rfl (by decide +kernel) (by decide) (by decide)) ?_
  refine (qlim_n (n := 2) (c' := (45, [some (qA 12), some (qA 1), some (qA 9), some (qI 99999)], [qI 6, qA 12], hk_31)) rfl).trans ?_
  refine Eq.trans (b := qlim C_X8_init (47, [some (qA 12), some (qA 1), some (qA 9), some (qI 99999)], [qA 15, qA 12], hk_32)) (qs_newa rfl (by decide +kernel) (by decide +kernel) rfl) ?_
  refine Eq.trans (b := qlim C_X8_init (50, [some (qA 12), some (qA 1), some (qA 9), some (qI 99999)], [], hk_33)) (qs_putR (n := 14) rfl (by decide +kernel) (by decide) (by decide)) ?_
  refine (qlim_n (n := 2) (c' := (53, [some (qA 12), some (qA 1), some (qA 9), some (qI 99999)], [qI 6, qA 12], hk_33)) rfl).trans ?_
  refine Eq.trans (b := qlim C_X8_init (55, [some (qA 12), some (qA 1), some (qA 9), some (qI 99999)], [qA 16, qA 12], hk_34)) (qs_newa rfl (by decide +kernel) (by decide +kernel) rfl) ?_
  refine Eq.trans (b := qlim C_X8_init (58, [some (qA 12), some (qA 1), some (qA 9), some (qI 99999)], [], hk_35)) (qs_putR (n := 14) rfl (by decide +kernel) (by decide) (by decide)) ?_
  refine (qlim_n (n := 2) (c' := (61, [some (qA 12), some (qA 1), some (qA 9), some (qI 99999)], [qI 6, qA 12], hk_35)) rfl).trans ?_
  refine Eq.trans (b := qlim C_X8_init (63, [some (qA 12), some (qA 1), some (qA 9), some (qI 99999)], [qA 17, qA 12], hk_36)) (qs_newa rfl (by decide +kernel) (by decide +kernel) rfl) ?_
  refine Eq.trans (b := qlim C_X8_init (66, [some (qA 12), some (qA 1), some (qA 9), some (qI 99999)], [], hk_37)) (qs_putR (n := 14) rfl (by decide +kernel) (by decide) (by decide)) ?_
  refine (qlim_n (n := 2) (c' := (69, [some (qA 12), some (qA 1), some (qA 9), some (qI 99999)], [qI 6, qA 12], hk_37)) rfl).trans ?_
  refine Eq.trans (b := qlim C_X8_init (71, [some (qA 12), some (qA 1), some (qA 9), some (qI 99999)], [qA 18, qA 12], hk_38)) (qs_newa rfl (by decide +kernel) (by decide +kernel) rfl) ?_
  refine Eq.trans (b := qlim C_X8_init (74, [some (qA 12), some (qA 1), some (qA 9), some (qI 99999)], [], hk_39)) (qs_putR (n := 14) rfl (by decide +kernel) (by decide) (by decide)) ?_
  refine (qlim_n (n := 2) (c' := (77, [some (qA 12), some (qA 1), some (qA 9), some (qI 99999)], [qI 24, qA 12], hk_39)) rfl).trans ?_
  refine Eq.trans (b := qlim C_X8_init (79, [some (qA 12), some (qA 1), some (qA 9), some (qI 99999)], [qA 19, qA 12], hk_40)) (qs_newa rfl (by decide +kernel) (by decide +kernel) rfl) ?_
  refine Eq.trans (b := qlim C_X8_init (82, [some (qA 12), some (qA 1), some (qA 9), some (qI 99999)], [], hk_41)) (qs_putR (n := 14) rfl (by decide +kernel) (by decide) (by decide)) ?_
  refine (qlim_n (n := 2) (c' := (85, [some (qA 12), some (qA 1), some (qA 9), some (qI 99999)], [qI 6, qA 12], hk_41)) rfl).trans ?_
  refine Eq.trans (b := qlim C_X8_init (87, [some (qA 12), some (qA 1), some (qA 9), some (qI 99999)], [qA 20, qA 12], hk_42)) (qs_newa rfl (by decide +kernel) (by decide +kernel) rfl) ?_
  refine Eq.trans (b := qlim C_X8_init (90, [some (qA 12), some (qA 1), some (qA 9), some (qI 99999)], [], hk_43)) (qs_putR (n := 14) rfl (by decide +kernel) (by decide) (by decide)) ?_
  exact qlim_r rfl
set_option maxRecDepth 20000 in
theorem cs_19 : S_X8_init [qA 21, qA 1, qA 9, qI 2147483647] hk_45 = some (none, hk_65) := by
  refine (qM_at (ls := [some (qA 21), some (qA 1), some (qA 9), some (qI 2147483647)]) (Nat.le_of_ble_eq_true rfl) rfl).trans ?_
  refine (qlim_n (n := 4) (c' := (6, [some (qA 21), some (qA 1), some (qA 9), some (qI 2147483647)], [qA 1, qA 21], hk_45)) rfl).trans ?_
  refine Eq.trans (b := qlim C_X8_init (9, [some (qA 21), some (qA 1), some (qA 9), some (qI 2147483647)], [], hk_46)) (qs_putR (n := 14) rfl (by decide +kernel) (by decide) (by decide)) ?_
  refine (qlim_n (n := 2) (c' := (11, [some (qA 21), some (qA 1), some (qA 9), some (qI 2147483647)], [qI 2147483647, qA 21], hk_46)) rfl).trans ?_
  refine Eq.trans (b := qlim C_X8_init (14, [some (qA 21), some (qA 1), some (qA 9), some (qI 2147483647)], [], hk_47)) (qs_putI (n := 14) rfl (by decide +kernel) (by decide)) ?_
  refine (qlim_n (n := 2) (c' := (16, [some (qA 21), some (qA 1), some (qA 9), some (qI 2147483647)], [qA 9, qA 21], hk_47)) rfl).trans ?_
  refine Eq.trans (b := qlim C_X8_init (19, [some (qA 21), some (qA 1), some (qA 9), some (qI 2147483647)], [], hk_48)) (qs_putD (n := 14) rfl (by decide +kernel) (by decide) (by decide)) ?_
  refine (qlim_n (n := 2) (c' := (21, [some (qA 21), some (qA 1), some (qA 9), some (qI 2147483647)], [qA 9, qA 21], hk_48)) rfl).trans ?_
  refine Eq.trans (b := qlim C_X8_init (24, [some (qA 21), some (qA 1), some (qA 9), some (qI 2147483647)], [qI 50, qA 21], hk_48)) (qs_getIz (n := 7) rfl (by decide +kernel) (by decide) (by decide +kernel)) ?_
  refine Eq.trans (b := qlim C_X8_init (27, [some (qA 21), some (qA 1), some (qA 9), some (qI 2147483647)], [], hk_49)) (qs_putI (n := 14) rfl (by decide +kernel) (by decide)) ?_
  refine (qlim_n (n := 2) (c' := (29, [some (qA 21), some (qA 1), some (qA 9), some (qI 2147483647)], [qI 5, qA 21], hk_49)) rfl).trans ?_
  refine Eq.trans (b := qlim C_X8_init (31, [some (qA 21), some (qA 1), some (qA 9), some (qI 2147483647)], [qA 22, qA 21], hk_50)) (qs_newa rfl (by decide +kernel) (by decide +kernel) rfl) ?_
  refine Eq.trans (b := qlim C_X8_init (34, [some (qA 21), some (qA 1), some (qA 9), some (qI 2147483647)], [], hk_51)) (qs_putR (n := 14) rfl (by decide +kernel) (by decide) (by decide)) ?_
  refine (qlim_n (n := 2) (c' := (37, [some (qA 21), some (qA 1), some (qA 9), some (qI 2147483647)], [qI 6, qA 21], hk_51)) rfl).trans ?_
  refine Eq.trans (b := qlim C_X8_init (39, [some (qA 21), some (qA 1), some (qA 9), some (qI 2147483647)], [qA 23, qA 21], hk_52)) (qs_newa rfl (by decide +kernel) (by decide +kernel) rfl) ?_
  refine Eq.trans (b := qlim C_X8_init (42, [some (qA 21), some (qA 1), some (qA 9), some (qI 2147483647)], [], hk_53)) (qs_putR (n := 14) rfl (by decide +kernel) (by decide) (by decide)) ?_
  refine (qlim_n (n := 2) (c' := (45, [some (qA 21), some (qA 1), some (qA 9), some (qI 2147483647)], [qI 6, qA 21], hk_53)) rfl).trans ?_
  refine Eq.trans (b := qlim C_X8_init (47, [some (qA 21), some (qA 1), some (qA 9), some (qI 2147483647)], [qA 24, qA 21], hk_54)) (qs_newa rfl (by decide +kernel) (by decide +kernel) rfl) ?_
  refine Eq.trans (b := qlim C_X8_init (50, [some (qA 21), some (qA 1), some (qA 9), some (qI 2147483647)], [], hk_55)) (qs_putR (n := 14) rfl (by decide +kernel) (by decide) (by decide)) ?_
  refine (qlim_n (n := 2) (c' := (53, [some (qA 21), some (qA 1), some (qA 9), some (qI 2147483647)], [qI 6, qA 21], hk_55)) rfl).trans ?_
  refine Eq.trans (b := qlim C_X8_init (55, [some (qA 21), some (qA 1), some (qA 9), some (qI 2147483647)], [qA 25, qA 21], hk_56)) (qs_newa rfl (by decide +kernel) (by decide +kernel) rfl) ?_
  refine Eq.trans (b := qlim C_X8_init (58, [some (qA 21), some (qA 1), some (qA 9), some (qI 2147483647)], [], hk_57)) (qs_putR (n := 14) rfl (by decide +kernel) (by decide) (by decide)) ?_
  refine (qlim_n (n := 2) (c' := (61, [some (qA 21), some (qA 1), some (qA 9), some (qI 2147483647)], [qI 6, qA 21], hk_57)) rfl).trans ?_
  refine Eq.trans (b := qlim C_X8_init (63, [some (qA 21), some (qA 1), some (qA 9), some (qI 2147483647)], [qA 26, qA 21], hk_58)) (qs_newa rfl (by decide +kernel) (by decide +kernel) rfl) ?_
  refine Eq.trans (b := qlim C_X8_init (66, [some (qA 21), some (qA 1), some (qA 9), some (qI 2147483647)], [], hk_59)) (qs_putR (n := 14) rfl (by decide +kernel) (by decide) (by decide)) ?_
  refine (qlim_n (n := 2) (c' := (69, [some (qA 21), some (qA 1), some (qA 9), some (qI 2147483647)], [qI 6, qA 21], hk_59)) rfl).trans ?_
  refine Eq.trans (b := qlim C_X8_init (71, [some (qA 21), some (qA 1), some (qA 9), some (qI 2147483647)], [qA 27, qA 21], hk_60)) (qs_newa rfl (by decide +kernel) (by decide +kernel) rfl) ?_
  refine Eq.trans (b := qlim C_X8_init (74, [some (qA 21), some (qA 1), some (qA 9), some (qI 2147483647)], [], hk_61)) (qs_putR (n := 14) rfl (by decide +kernel) (by decide) (by decide)) ?_
  refine (qlim_n (n := 2) (c' := (77, [some (qA 21), some (qA 1), some (qA 9), some (qI 2147483647)], [qI 24, qA 21], hk_61)) rfl).trans ?_
  refine Eq.trans (b := qlim C_X8_init (79, [some (qA 21), some (qA 1), some (qA 9), some (qI 2147483647)], [qA 28, qA 21], hk_62)) (qs_newa rfl (by decide +kernel) (by decide +kernel) rfl) ?_
  refine Eq.trans (b := qlim C_X8_init (82, [some (qA 21), some (qA 1), some (qA 9), some (qI 2147483647)], [], hk_63)) (qs_putR (n := 14) rfl (by decide +kernel) (by decide) (by decide)) ?_
  refine (qlim_n (n := 2) (c' := (85, [some (qA 21), some (qA 1), some (qA 9), some (qI 2147483647)], [qI 6, qA 21], hk_63)) rfl).trans ?_
  refine Eq.trans (b := qlim C_X8_init (87, [some (qA 21), some (qA 1), some (qA 9), some (qI 2147483647)], [qA 29, qA 21], hk_64)) (qs_newa rfl (by decide +kernel) (by decide +kernel) rfl) ?_
  refine Eq.trans (b := qlim C_X8_init (90, [some (qA 21), some (qA 1), some (qA 9), some (qI 2147483647)], [], hk_65)) (qs_putR (n := 14) rfl (by decide +kernel) (by decide) (by decide)) ?_
  exact qlim_r rfl
set_option maxRecDepth 20000 in
theorem cs_20 : S_X8_init [qA 30, qA 1, qA 9, qI 99999] hk_67 = some (none, hk_87) := by
  refine (qM_at (ls := [some (qA 30), some (qA 1), some (qA 9), some (qI 99999)]) (Nat.le_of_ble_eq_true rfl) rfl).trans ?_
  refine (qlim_n (n := 4) (c' := (6, [some (qA 30), some (qA 1), some (qA 9), some (qI 99999)], [qA 1, qA 30], hk_67)) rfl).trans ?_
  refine Eq.trans (b := qlim C_X8_init (9, [some (qA 30), some (qA 1), some (qA 9), some (qI 99999)], [], hk_68)) (qs_putR (n := 14) rfl (by decide +kernel) (by decide) (by decide)) ?_
  refine (qlim_n (n := 2) (c' := (11, [some (qA 30), some (qA 1), some (qA 9), some (qI 99999)], [qI 99999, qA 30], hk_68)) rfl).trans ?_
  refine Eq.trans (b := qlim C_X8_init (14, [some (qA 30), some (qA 1), some (qA 9), some (qI 99999)], [], hk_69)) (qs_putI (n := 14) rfl (by decide +kernel) (by decide)) ?_
  refine (qlim_n (n := 2) (c' := (16, [some (qA 30), some (qA 1), some (qA 9), some (qI 99999)], [qA 9, qA 30], hk_69)) rfl).trans ?_
  refine Eq.trans (b := qlim C_X8_init (19, [some (qA 30), some (qA 1), some (qA 9), some (qI 99999)], [], hk_70)) (qs_putD (n := 14) rfl (by decide +kernel) (by decide) (by decide)) ?_
  refine (qlim_n (n := 2) (c' := (21, [some (qA 30), some (qA 1), some (qA 9), some (qI 99999)], [qA 9, qA 30], hk_70)) rfl).trans ?_
  refine Eq.trans (b := qlim C_X8_init (24, [some (qA 30), some (qA 1), some (qA 9), some (qI 99999)], [qI 50, qA 30], hk_70)) (qs_getIz (n := 7) rfl (by decide +kernel) (by decide) (by decide +kernel)) ?_
  refine Eq.trans (b := qlim C_X8_init (27, [some (qA 30), some (qA 1), some (qA 9), some (qI 99999)], [], hk_71)) (qs_putI (n := 14) rfl (by decide +kernel) (by decide)) ?_
  refine (qlim_n (n := 2) (c' := (29, [some (qA 30), some (qA 1), some (qA 9), some (qI 99999)], [qI 5, qA 30], hk_71)) rfl).trans ?_
  refine Eq.trans (b := qlim C_X8_init (31, [some (qA 30), some (qA 1), some (qA 9), some (qI 99999)], [qA 31, qA 30], hk_72)) (qs_newa rfl (by decide +kernel) (by decide +kernel) rfl) ?_
  refine Eq.trans (b := qlim C_X8_init (34, [some (qA 30), some (qA 1), some (qA 9), some (qI 99999)], [], hk_73)) (qs_putR (n := 14) rfl (by decide +kernel) (by decide) (by decide)) ?_
  refine (qlim_n (n := 2) (c' := (37, [some (qA 30), some (qA 1), some (qA 9), some (qI 99999)], [qI 6, qA 30], hk_73)) rfl).trans ?_
  refine Eq.trans (b := qlim C_X8_init (39, [some (qA 30), some (qA 1), some (qA 9), some (qI 99999)], [qA 32, qA 30], hk_74)) (qs_newa rfl (by decide +kernel) (by decide +kernel) rfl) ?_
  refine Eq.trans (b := qlim C_X8_init (42, [some (qA 30), some (qA 1), some (qA 9), some (qI 99999)], [], hk_75)) (qs_putR (n := 14) rfl (by decide +kernel) (by decide) (by decide)) ?_
  refine (qlim_n (n := 2) (c' := (45, [some (qA 30), some (qA 1), some (qA 9), some (qI 99999)], [qI 6, qA 30], hk_75)) rfl).trans ?_
  refine Eq.trans (b := qlim C_X8_init (47, [some (qA 30), some (qA 1), some (qA 9), some (qI 99999)], [qA 33, qA 30], hk_76)) (qs_newa rfl (by decide +kernel) (by decide +kernel) rfl) ?_
  refine Eq.trans (b := qlim C_X8_init (50, [some (qA 30), some (qA 1), some (qA 9), some (qI 99999)], [], hk_77)) (qs_putR (n := 14) rfl (by decide +kernel) (by decide) (by decide)) ?_
  refine (qlim_n (n := 2) (c' := (53, [some (qA 30), some (qA 1), some (qA 9), some (qI 99999)], [qI 6, qA 30], hk_77)) rfl).trans ?_
  refine Eq.trans (b := qlim C_X8_init (55, [some (qA 30), some (qA 1), some (qA 9), some (qI 99999)], [qA 34, qA 30], hk_78)) (qs_newa rfl (by decide +kernel) (by decide +kernel) rfl) ?_
  refine Eq.trans (b := qlim C_X8_init (58, [some (qA 30), some (qA 1), some (qA 9), some (qI 99999)], [], hk_79)) (qs_putR (n := 14) rfl (by decide +kernel) (by decide) (by decide)) ?_
  refine (qlim_n (n := 2) (c' := (61, [some (qA 30), some (qA 1), some (qA 9), some (qI 99999)], [qI 6, qA 30], hk_79)) rfl).trans ?_
  refine Eq.trans (b := qlim C_X8_init (63, [some (qA 30), some (qA 1), some (qA 9), some (qI 99999)], [qA 35, qA 30], hk_80)) (qs_newa rfl (by decide +kernel) (by decide +kernel) rfl) ?_
  refine Eq.trans (b := qlim C_X8_init (66, [some (qA 30), some (qA 1), some (qA 9), some (qI 99999)], [], hk_81)) (qs_putR (n := 14) rfl (by decide +kernel) (by decide) (by decide)) ?_
  refine (qlim_n (n := 2) (c' := (69, [some (qA 30), some (qA 1), some (qA 9), some (qI 99999)], [qI 6, qA 30], hk_81)) rfl).trans ?_
  refine Eq.trans (b := qlim C_X8_init (71, [some (qA 30), some (qA 1), some (qA 9), some (qI 99999)], [qA 36, qA 30], hk_82)) (qs_newa rfl (by decide +kernel) (by decide +kernel) rfl) ?_
  refine Eq.trans (b := qlim C_X8_init (74, [some (qA 30), some (qA 1), some (qA 9), some (qI 99999)], [], hk_83)) (qs_putR (n := 14) rfl (by decide +kernel) (by decide) (by decide)) ?_
  refine (qlim_n (n := 2) (c' := (77, [some (qA 30), some (qA 1), some (qA 9), some (qI 99999)], [qI 24, qA 30], hk_83)) rfl).trans ?_
  refine Eq.trans (b := qlim C_X8_init (79, [some (qA 30), some (qA 1), some (qA 9), some (qI 99999)], [qA 37, qA 30], hk_84)) (qs_newa rfl (by decide +kernel) (by decide +kernel) rfl) ?_
  refine Eq.trans (b := qlim C_X8_init (82, [some (qA 30), some (qA 1), some (qA 9), some (qI 99999)], [], hk_85)) (qs_putR (n := 14) rfl (by decide +kernel) (by decide) (by decide)) ?_
  refine (qlim_n (n := 2) (c' := (85, [some (qA 30), some (qA 1), some (qA 9), some (qI 99999)], [qI 6, qA 30], hk_85)) rfl).trans ?_
  refine Eq.trans (b := qlim C_X8_init (87, [some (qA 30), some (qA 1), some (qA 9), some (qI 99999)], [qA 38, qA 30], hk_86)) (qs_newa rfl (by decide +kernel) (by decide +kernel) rfl) ?_
  refine Eq.trans (b := qlim C_X8_init (90, [some (qA 30), some (qA 1), some (qA 9), some (qI 99999)], [], hk_87)) (qs_putR (n := 14) rfl (by decide +kernel) (by decide) (by decide)) ?_
  exact qlim_r rfl
set_option maxRecDepth 20000 in
theorem cs_21 : S_X6_init [qA 39, qI 5, qI 3] hk_89 = some (none, hk_93) := by
  refine (qM_at (ls := [some (qA 39), some (qI 5), some (qI 3)]) (Nat.le_of_ble_eq_true rfl) rfl).trans ?_
  refine (qlim_n (n := 4) (c' := (6, [some (qA 39), some (qI 5), some (qI 3)], [qI 5, qA 39], hk_89)) rfl).trans ?_
  refine Eq.trans (b := qlim C_X6_init (9, [some (qA 39), some (qI 5), some (qI 3)], [], hk_90)) (qs_putI (n := 4) rfl (by decide +kernel) (by decide)) ?_
  refine (qlim_n (n := 2) (c' := (11, [some (qA 39), some (qI 5), some (qI 3)], [qI 3, qA 39], hk_90)) rfl).trans ?_
  refine Eq.trans (b := qlim C_X6_init (14, [some (qA 39), some (qI 5), some (qI 3)], [], hk_91)) (qs_putI (n := 4) rfl (by decide +kernel) (by decide)) ?_
  refine (qlim_n (n := 4) (c' := (18, [some (qA 39), some (qI 5), some (qI 3)], [qI 15, qA 39], hk_91)) rfl).trans ?_
  refine Eq.trans (b := qlim C_X6_init (20, [some (qA 39), some (qI 5), some (qI 3)], [qA 40, qA 39], hk_92)) (qs_newa rfl (by decide +kernel) (by decide +kernel) rfl) ?_
  refine Eq.trans (b := qlim C_X6_init (23, [some (qA 39), some (qI 5), some (qI 3)], [], hk_93)) (qs_putR (n := 4) rfl (by decide +kernel) (by decide) (by decide)) ?_
  exact qlim_r rfl
set_option maxRecDepth 20000 in
theorem cs_22 : S_X6_init [qA 41, qI 10, qI 2] hk_95 = some (none, hk_99) := by
  refine (qM_at (ls := [some (qA 41), some (qI 10), some (qI 2)]) (Nat.le_of_ble_eq_true rfl) rfl).trans ?_
  refine (qlim_n (n := 4) (c' := (6, [some (qA 41), some (qI 10), some (qI 2)], [qI 10, qA 41], hk_95)) rfl).trans ?_
  refine Eq.trans (b := qlim C_X6_init (9, [some (qA 41), some (qI 10), some (qI 2)], [], hk_96)) (qs_putI (n := 4) rfl (by decide +kernel) (by decide)) ?_
  refine (qlim_n (n := 2) (c' := (11, [some (qA 41), some (qI 10), some (qI 2)], [qI 2, qA 41], hk_96)) rfl).trans ?_
  refine Eq.trans (b := qlim C_X6_init (14, [some (qA 41), some (qI 10), some (qI 2)], [], hk_97)) (qs_putI (n := 4) rfl (by decide +kernel) (by decide)) ?_
  refine (qlim_n (n := 4) (c' := (18, [some (qA 41), some (qI 10), some (qI 2)], [qI 20, qA 41], hk_97)) rfl).trans ?_
  refine Eq.trans (b := qlim C_X6_init (20, [some (qA 41), some (qI 10), some (qI 2)], [qA 42, qA 41], hk_98)) (qs_newa rfl (by decide +kernel) (by decide +kernel) rfl) ?_
  refine Eq.trans (b := qlim C_X6_init (23, [some (qA 41), some (qI 10), some (qI 2)], [], hk_99)) (qs_putR (n := 4) rfl (by decide +kernel) (by decide) (by decide)) ?_
  exact qlim_r rfl
set_option maxRecDepth 20000 in
theorem cs_23 : S_X6_init [qA 43, qI 8, qI 2] hk_101 = some (none, hk_105) := by
  refine (qM_at (ls := [some (qA 43), some (qI 8), some (qI 2)]) (Nat.le_of_ble_eq_true rfl) rfl).trans ?_
  refine (qlim_n (n := 4) (c' := (6, [some (qA 43), some (qI 8), some (qI 2)], [qI 8, qA 43], hk_101)) rfl).trans ?_
  refine Eq.trans (b := qlim C_X6_init (9, [some (qA 43), some (qI 8), some (qI 2)], [], hk_102)) (qs_putI (n := 4) rfl (by decide +kernel) (by decide)) ?_
  refine (qlim_n (n := 2) (c' := (11, [some (qA 43), some (qI 8), some (qI 2)], [qI 2, qA 43], hk_102)) rfl).trans ?_
  refine Eq.trans (b := qlim C_X6_init (14, [some (qA 43), some (qI 8), some (qI 2)], [], hk_103)) (qs_putI (n := 4) rfl (by decide +kernel) (by decide)) ?_
  refine (qlim_n (n := 4) (c' := (18, [some (qA 43), some (qI 8), some (qI 2)], [qI 16, qA 43], hk_103)) rfl).trans ?_
  refine Eq.trans (b := qlim C_X6_init (20, [some (qA 43), some (qI 8), some (qI 2)], [qA 44, qA 43], hk_104)) (qs_newa rfl (by decide +kernel) (by decide +kernel) rfl) ?_
  refine Eq.trans (b := qlim C_X6_init (23, [some (qA 43), some (qI 8), some (qI 2)], [], hk_105)) (qs_putR (n := 4) rfl (by decide +kernel) (by decide) (by decide)) ?_
  exact qlim_r rfl
set_option maxRecDepth 20000 in
theorem cs_24 : S_X6_init [qA 45, qI 5, qI 3] hk_107 = some (none, hk_111) := by
  refine (qM_at (ls := [some (qA 45), some (qI 5), some (qI 3)]) (Nat.le_of_ble_eq_true rfl) rfl).trans ?_
  refine (qlim_n (n := 4) (c' := (6, [some (qA 45), some (qI 5), some (qI 3)], [qI 5, qA 45], hk_107)) rfl).trans ?_
  refine Eq.trans (b := qlim C_X6_init (9, [some (qA 45), some (qI 5), some (qI 3)], [], hk_108)) (qs_putI (n := 4) rfl (by decide +kernel) (by decide)) ?_
  refine (qlim_n (n := 2) (c' := (11, [some (qA 45), some (qI 5), some (qI 3)], [qI 3, qA 45], hk_108)) rfl).trans ?_
  refine Eq.trans (b := qlim C_X6_init (14, [some (qA 45), some (qI 5), some (qI 3)], [], hk_109)) (qs_putI (n := 4) rfl (by decide +kernel) (by decide)) ?_
  refine (qlim_n (n := 4) (c' := (18, [some (qA 45), some (qI 5), some (qI 3)], [qI 15, qA 45], hk_109)) rfl).trans ?_
  refine Eq.trans (b := qlim C_X6_init (20, [some (qA 45), some (qI 5), some (qI 3)], [qA 46, qA 45], hk_110)) (qs_newa rfl (by decide +kernel) (by decide +kernel) rfl) ?_
  refine Eq.trans (b := qlim C_X6_init (23, [some (qA 45), some (qI 5), some (qI 3)], [], hk_111)) (qs_putR (n := 4) rfl (by decide +kernel) (by decide) (by decide)) ?_
  exact qlim_r rfl
set_option maxRecDepth 20000 in
theorem cs_25 : S_X6_init [qA 47, qI 10, qI 2] hk_113 = some (none, hk_117) := by
  refine (qM_at (ls := [some (qA 47), some (qI 10), some (qI 2)]) (Nat.le_of_ble_eq_true rfl) rfl).trans ?_
  refine (qlim_n (n := 4) (c' := (6, [some (qA 47), some (qI 10), some (qI 2)], [qI 10, qA 47], hk_113)) rfl).trans ?_
  refine Eq.trans (b := qlim C_X6_init (9, [some (qA 47), some (qI 10), some (qI 2)], [], hk_114)) (qs_putI (n := 4) rfl (by decide +kernel) (by decide)) ?_
  refine (qlim_n (n := 2) (c' := (11, [some (qA 47), some (qI 10), some (qI 2)], [qI 2, qA 47], hk_114)) rfl).trans ?_
  refine Eq.trans (b := qlim C_X6_init (14, [some (qA 47), some (qI 10), some (qI 2)], [], hk_115)) (qs_putI (n := 4) rfl (by decide +kernel) (by decide)) ?_
  refine (qlim_n (n := 4) (c' := (18, [some (qA 47), some (qI 10), some (qI 2)], [qI 20, qA 47], hk_115)) rfl).trans ?_
  refine Eq.trans (b := qlim C_X6_init (20, [some (qA 47), some (qI 10), some (qI 2)], [qA 48, qA 47], hk_116)) (qs_newa rfl (by decide +kernel) (by decide +kernel) rfl) ?_
  refine Eq.trans (b := qlim C_X6_init (23, [some (qA 47), some (qI 10), some (qI 2)], [], hk_117)) (qs_putR (n := 4) rfl (by decide +kernel) (by decide) (by decide)) ?_
  exact qlim_r rfl
set_option maxRecDepth 20000 in
theorem cs_26 : S_X6_init [qA 49, qI 8, qI 2] hk_119 = some (none, hk_123) := by
  refine (qM_at (ls := [some (qA 49), some (qI 8), some (qI 2)]) (Nat.le_of_ble_eq_true rfl) rfl).trans ?_
  refine (qlim_n (n := 4) (c' := (6, [some (qA 49), some (qI 8), some (qI 2)], [qI 8, qA 49], hk_119)) rfl).trans ?_
  refine Eq.trans (b := qlim C_X6_init (9, [some (qA 49), some (qI 8), some (qI 2)], [], hk_120)) (qs_putI (n := 4) rfl (by decide +kernel) (by decide)) ?_
  refine (qlim_n (n := 2) (c' := (11, [some (qA 49), some (qI 8), some (qI 2)], [qI 2, qA 49], hk_120)) rfl).trans ?_
  refine Eq.trans (b := qlim C_X6_init (14, [some (qA 49), some (qI 8), some (qI 2)], [], hk_121)) (qs_putI (n := 4) rfl (by decide +kernel) (by decide)) ?_
  refine (qlim_n (n := 4) (c' := (18, [some (qA 49), some (qI 8), some (qI 2)], [qI 16, qA 49], hk_121)) rfl).trans ?_
  refine Eq.trans (b := qlim C_X6_init (20, [some (qA 49), some (qI 8), some (qI 2)], [qA 50, qA 49], hk_122)) (qs_newa rfl (by decide +kernel) (by decide +kernel) rfl) ?_
  refine Eq.trans (b := qlim C_X6_init (23, [some (qA 49), some (qI 8), some (qI 2)], [], hk_123)) (qs_putR (n := 4) rfl (by decide +kernel) (by decide) (by decide)) ?_
  exact qlim_r rfl
set_option maxRecDepth 20000 in
theorem cs_27 : S_X3_init [qA 53] hk_129 = some (none, hk_134) := by
  refine (qM_at (ls := [some (qA 53)]) (Nat.le_of_ble_eq_true rfl) rfl).trans ?_
  refine (qlim_n (n := 4) (c' := (7, [some (qA 53)], [qI 100, qA 53], hk_129)) rfl).trans ?_
  refine Eq.trans (b := qlim C_X3_init (9, [some (qA 53)], [qA 54, qA 53], hk_130)) (qs_newa rfl (by decide +kernel) (by decide +kernel) rfl) ?_
  refine Eq.trans (b := qlim C_X3_init (12, [some (qA 53)], [], hk_131)) (qs_putR (n := 7) rfl (by decide +kernel) (by decide) (by decide)) ?_
  refine (qlim_n (n := 2) (c' := (15, [some (qA 53)], [qI 100, qA 53], hk_131)) rfl).trans ?_
  refine Eq.trans (b := qlim C_X3_init (17, [some (qA 53)], [qA 55, qA 53], hk_132)) (qs_newa rfl (by decide +kernel) (by decide +kernel) rfl) ?_
  refine Eq.trans (b := qlim C_X3_init (20, [some (qA 53)], [], hk_133)) (qs_putR (n := 7) rfl (by decide +kernel) (by decide) (by decide)) ?_
  refine (qlim_n (n := 2) (c' := (23, [some (qA 53)], [qI 50, qA 53], hk_133)) rfl).trans ?_
  refine Eq.trans (b := qlim C_X3_init (26, [some (qA 53)], [], hk_134)) (qs_putI (n := 7) rfl (by decide +kernel) (by decide)) ?_
  exact qlim_r rfl
set_option maxRecDepth 20000 in
theorem cs_28 : S_X3_init [qA 56] hk_136 = some (none, hk_141) := by
  refine (qM_at (ls := [some (qA 56)]) (Nat.le_of_ble_eq_true rfl) rfl).trans ?_
  refine (qlim_n (n := 4) (c' := (7, [some (qA 56)], [qI 100, qA 56], hk_136)) rfl).trans ?_
  refine Eq.trans (b := qlim C_X3_init (9, [some (qA 56)], [qA 57, qA 56], hk_137)) (qs_newa rfl (by decide +kernel) (by decide +kernel) rfl) ?_
  refine Eq.trans (b := qlim C_X3_init (12, [some (qA 56)], [], hk_138)) (qs_putR (n := 7) rfl (by decide +kernel) (by decide) (by decide)) ?_
  refine (qlim_n (n := 2) (c' := (15, [some (qA 56)], [qI 100, qA 56], hk_138)) rfl).trans ?_
  refine Eq.trans (b := qlim C_X3_init (17, [some (qA 56)], [qA 58, qA 56], hk_139)) (qs_newa rfl (by decide +kernel) (by decide +kernel) rfl) ?_
  refine Eq.trans (b := qlim C_X3_init (20, [some (qA 56)], [], hk_140)) (qs_putR (n := 7) rfl (by decide +kernel) (by decide) (by decide)) ?_
  refine (qlim_n (n := 2) (c' := (23, [some (qA 56)], [qI 50, qA 56], hk_140)) rfl).trans ?_
  refine Eq.trans (b := qlim C_X3_init (26, [some (qA 56)], [], hk_141)) (qs_putI (n := 7) rfl (by decide +kernel) (by decide)) ?_
  exact qlim_r rfl
set_option maxRecDepth 20000 in
theorem cs_29 : S_X3_init [qA 59] hk_143 = some (none, hk_148) := by
  refine (qM_at (ls := [some (qA 59)]) (Nat.le_of_ble_eq_true rfl) rfl).trans ?_
  refine (qlim_n (n := 4) (c' := (7, [some (qA 59)], [qI 100, qA 59], hk_143)) rfl).trans ?_
  refine Eq.trans (b := qlim C_X3_init (9, [some (qA 59)], [qA 60, qA 59], hk_144)) (qs_newa rfl (by decide +kernel) (by decide +kernel) rfl) ?_
  refine Eq.trans (b := qlim C_X3_init (12, [some (qA 59)], [], hk_145)) (qs_putR (n := 7) rfl (by decide +kernel) (by decide) (by decide)) ?_
  refine (qlim_n (n := 2) (c' := (15, [some (qA 59)], [qI 100, qA 59], hk_145)) rfl).trans ?_
  refine Eq.trans (b := qlim C_X3_init (17, [some (qA 59)], [qA 61, qA 59], hk_146)) (qs_newa rfl (by decide +kernel) (by decide +kernel) rfl) ?_
  refine Eq.trans (b := qlim C_X3_init (20, [some (qA 59)], [], hk_147)) (qs_putR (n := 7) rfl (by decide +kernel) (by decide) (by decide)) ?_
  refine (qlim_n (n := 2) (c' := (23, [some (qA 59)], [qI 50, qA 59], hk_147)) rfl).trans ?_
  refine Eq.trans (b := qlim C_X3_init (26, [some (qA 59)], [], hk_148)) (qs_putI (n := 7) rfl (by decide +kernel) (by decide)) ?_
  exact qlim_r rfl
set_option maxRecDepth 20000 in
theorem cs_30 : S_X3_init [qA 62] hk_150 = some (none, hk_155) := by
  refine (qM_at (ls := [some (qA 62)]) (Nat.le_of_ble_eq_true rfl) rfl).trans ?_
  refine (qlim_n (n := 4) (c' := (7, [some (qA 62)], [qI 100, qA 62], hk_150)) rfl).trans ?_
  refine Eq.trans (b := qlim C_X3_init (9, [some (qA 62)], [qA 63, qA 62], hk_151)) (qs_newa rfl (by decide +kernel) (by decide +kernel) rfl) ?_
  refine Eq.trans (b := qlim C_X3_init (12, [some (qA 62)], [], hk_152)) (qs_putR (n := 7) rfl (by decide +kernel) (by decide) (by decide)) ?_
  refine (qlim_n (n := 2) (c' := (15, [some (qA 62)], [qI 100, qA 62], hk_152)) rfl).trans ?_
  refine Eq.trans (b := qlim C_X3_init (17, [some (qA 62)], [qA 64, qA 62], hk_153)) (qs_newa rfl (by decide +kernel) (by decide +kernel) rfl) ?_
  refine Eq.trans (b := qlim C_X3_init (20, [some (qA 62)], [], hk_154)) (qs_putR (n := 7) rfl (by decide +kernel) (by decide) (by decide)) ?_
  refine (qlim_n (n := 2) (c' := (23, [some (qA 62)], [qI 50, qA 62], hk_154)) rfl).trans ?_
  refine Eq.trans (b := qlim C_X3_init (26, [some (qA 62)], [], hk_155)) (qs_putI (n := 7) rfl (by decide +kernel) (by decide)) ?_
  exact qlim_r rfl
set_option maxRecDepth 20000 in
theorem cs_31 : S_X3_init [qA 65] hk_157 = some (none, hk_162) := by
  refine (qM_at (ls := [some (qA 65)]) (Nat.le_of_ble_eq_true rfl) rfl).trans ?_
  refine (qlim_n (n := 4) (c' := (7, [some (qA 65)], [qI 100, qA 65], hk_157)) rfl).trans ?_
  refine Eq.trans (b := qlim C_X3_init (9, [some (qA 65)], [qA 66, qA 65], hk_158)) (qs_newa rfl (by decide +kernel) (by decide +kernel) rfl) ?_
  refine Eq.trans (b := qlim C_X3_init (12, [some (qA 65)], [], hk_159)) (qs_putR (n := 7) rfl (by decide +kernel) (by decide) (by decide)) ?_
  refine (qlim_n (n := 2) (c' := (15, [some (qA 65)], [qI 100, qA 65], hk_159)) rfl).trans ?_
  refine Eq.trans (b := qlim C_X3_init (17, [some (qA 65)], [qA 67, qA 65], hk_160)) (qs_newa rfl (by decide +kernel) (by decide +kernel) rfl) ?_
  refine Eq.trans (b := qlim C_X3_init (20, [some (qA 65)], [], hk_161)) (qs_putR (n := 7) rfl (by decide +kernel) (by decide) (by decide)) ?_
  refine (qlim_n (n := 2) (c' := (23, [some (qA 65)], [qI 50, qA 65], hk_161)) rfl).trans ?_
  refine Eq.trans (b := qlim C_X3_init (26, [some (qA 65)], [], hk_162)) (qs_putI (n := 7) rfl (by decide +kernel) (by decide)) ?_
  exact qlim_r rfl
set_option maxRecDepth 20000 in
theorem cs_32 : S_X3_init [qA 68] hk_164 = some (none, hk_169) := by
  refine (qM_at (ls := [some (qA 68)]) (Nat.le_of_ble_eq_true rfl) rfl).trans ?_
  refine (qlim_n (n := 4) (c' := (7, [some (qA 68)], [qI 100, qA 68], hk_164)) rfl).trans ?_
  refine Eq.trans (b := qlim C_X3_init (9, [some (qA 68)], [qA 69, qA 68], hk_165)) (qs_newa rfl (by decide +kernel) (by decide +kernel) rfl) ?_
  refine Eq.trans (b := qlim C_X3_init (12, [some (qA 68)], [], hk_166)) (qs_putR (n := 7) rfl (by decide +kernel) (by decide) (by decide)) ?_
  refine (qlim_n (n := 2) (c' := (15, [some (qA 68)], [qI 100, qA 68], hk_166)) rfl).trans ?_
  refine Eq.trans (b := qlim C_X3_init (17, [some (qA 68)], [qA 70, qA 68], hk_167)) (qs_newa rfl (by decide +kernel) (by decide +kernel) rfl) ?_
  refine Eq.trans (b := qlim C_X3_init (20, [some (qA 68)], [], hk_168)) (qs_putR (n := 7) rfl (by decide +kernel) (by decide) (by decide)) ?_
  refine (qlim_n (n := 2) (c' := (23, [some (qA 68)], [qI 50, qA 68], hk_168)) rfl).trans ?_
  refine Eq.trans (b := qlim C_X3_init (26, [some (qA 68)], [], hk_169)) (qs_putI (n := 7) rfl (by decide +kernel) (by decide)) ?_
  exact qlim_r rfl
set_option maxRecDepth 20000 in
theorem cs_33 : S_X0_init [qA 71] hk_171 = some (none, hk_173) := by
  refine (qM_at (ls := [some (qA 71)]) (Nat.le_of_ble_eq_true rfl) rfl).trans ?_
  refine (qlim_n (n := 4) (c' := (7, [some (qA 71)], [qI 20, qA 71], hk_171)) rfl).trans ?_
  refine Eq.trans (b := qlim C_X0_init (9, [some (qA 71)], [qA 72, qA 71], hk_172)) (qs_newa rfl (by decide +kernel) (by decide +kernel) rfl) ?_
  refine Eq.trans (b := qlim C_X0_init (12, [some (qA 71)], [], hk_173)) (qs_putR (n := 4) rfl (by decide +kernel) (by decide) (by decide)) ?_
  exact qlim_r rfl
