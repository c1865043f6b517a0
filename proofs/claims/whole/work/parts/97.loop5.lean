set_option maxRecDepth 20000 in
theorem lw_c28 {L : Nat} {xs : Nat → Int32} {i : Nat} {M : qMem} (hL : L ≤ 3072) (hi : i + 6 ≤ L) (h : qInv M) : ∃ M2 : qMem, qInv M2 ∧ qlim (C_law L xs) (1030, qLl i, [], qH0 M) = qlim (C_law L xs) (18, qLl (i + 6), [], qH0 M2) := by
  have hs : qStep S_X11_trace S_X12_trace [qI (qx xs (i + 1))] M := step_trace h
  obtain ⟨v, M1, M2, e1, e2, hI⟩ := hs
  obtain ⟨z, rfl⟩ := V_trace e1
  refine ⟨M2, hI, ?_⟩
  refine (qlim_n (n := 1) (c' := (1031, qLl i, [qA 0], qH0 M)) rfl).trans ?_
  refine Eq.trans (b := qlim (C_law L xs) (1036, qLl i, [qI (qx xs (i + 1)), qA 0], qH0 M)) (ql_arg (j := 1) rfl rfl rfl rfl rfl rfl hi (by decide) hL) ?_
  refine (qlim_callv (n := 1) (As := [qI (qx xs (i + 1))]) (rest := []) (o := 0) rfl rfl rfl (Nat.le_of_ble_eq_true rfl) (Nat.le_of_ble_eq_true rfl) rfl).trans ?_
  rw [e1, qbd_some]
  refine (qlim_n (n := 1) (c' := (1040, qLl i, [qA 82, qI z], qH0 M1)) rfl).trans ?_
  refine Eq.trans (b := qlim (C_law L xs) (1045, qLl i, [qI (qx xs (i + 1)), qA 82, qI z], qH0 M1)) (ql_arg (j := 1) rfl rfl rfl rfl rfl rfl hi (by decide) hL) ?_
  refine (qlim_callv (n := 1) (As := [qI (qx xs (i + 1))]) (rest := [qI z]) (o := 82) rfl rfl rfl (Nat.le_of_ble_eq_true rfl) (Nat.le_of_ble_eq_true rfl) rfl).trans ?_
  rw [e2, qbd_some]
  refine Eq.trans (b := qlim (C_law L xs) (1322, qLl i, [], qH0 M2)) (qs_iceq_t rfl) ?_
  exact ql_end hi hL
set_option maxRecDepth 20000 in
theorem lw_c29 {L : Nat} {xs : Nat → Int32} {i : Nat} {M : qMem} (hL : L ≤ 3072) (hi : i + 6 ≤ L) (h : qInv M) : ∃ M2 : qMem, qInv M2 ∧ qlim (C_law L xs) (1053, qLl i, [], qH0 M) = qlim (C_law L xs) (18, qLl (i + 6), [], qH0 M2) := by
  have hs : qStep S_X11_taken S_X12_taken [qI (qx xs (i + 1)), qI (qx xs (i + 2))] M := step_taken h
  obtain ⟨v, M1, M2, e1, e2, hI⟩ := hs
  obtain ⟨z, rfl⟩ := V_taken e1
  refine ⟨M2, hI, ?_⟩
  refine (qlim_n (n := 1) (c' := (1054, qLl i, [qA 0], qH0 M)) rfl).trans ?_
  refine Eq.trans (b := qlim (C_law L xs) (1059, qLl i, [qI (qx xs (i + 1)), qA 0], qH0 M)) (ql_arg (j := 1) rfl rfl rfl rfl rfl rfl hi (by decide) hL) ?_
  refine Eq.trans (b := qlim (C_law L xs) (1064, qLl i, [qI (qx xs (i + 2)), qI (qx xs (i + 1)), qA 0], qH0 M)) (ql_arg (j := 2) rfl rfl rfl rfl rfl rfl hi (by decide) hL) ?_
  refine (qlim_callv (n := 2) (As := [qI (qx xs (i + 1)), qI (qx xs (i + 2))]) (rest := []) (o := 0) rfl rfl rfl (Nat.le_of_ble_eq_true rfl) (Nat.le_of_ble_eq_true rfl) rfl).trans ?_
  rw [e1, qbd_some]
  refine (qlim_n (n := 1) (c' := (1068, qLl i, [qA 82, qI z], qH0 M1)) rfl).trans ?_
  refine Eq.trans (b := qlim (C_law L xs) (1073, qLl i, [qI (qx xs (i + 1)), qA 82, qI z], qH0 M1)) (ql_arg (j := 1) rfl rfl rfl rfl rfl rfl hi (by decide) hL) ?_
  refine Eq.trans (b := qlim (C_law L xs) (1078, qLl i, [qI (qx xs (i + 2)), qI (qx xs (i + 1)), qA 82, qI z], qH0 M1)) (ql_arg (j := 2) rfl rfl rfl rfl rfl rfl hi (by decide) hL) ?_
  refine (qlim_callv (n := 2) (As := [qI (qx xs (i + 1)), qI (qx xs (i + 2))]) (rest := [qI z]) (o := 82) rfl rfl rfl (Nat.le_of_ble_eq_true rfl) (Nat.le_of_ble_eq_true rfl) rfl).trans ?_
  rw [e2, qbd_some]
  refine Eq.trans (b := qlim (C_law L xs) (1322, qLl i, [], qH0 M2)) (qs_iceq_t rfl) ?_
  exact ql_end hi hL
set_option maxRecDepth 20000 in
theorem lw_c30 {L : Nat} {xs : Nat → Int32} {i : Nat} {M : qMem} (hL : L ≤ 3072) (hi : i + 6 ≤ L) (h : qInv M) : ∃ M2 : qMem, qInv M2 ∧ qlim (C_law L xs) (1086, qLl i, [], qH0 M) = qlim (C_law L xs) (18, qLl (i + 6), [], qH0 M2) := by
  have hs : qStep S_X11_count S_X12_count [qI (qx xs (i + 1))] M := step_count h
  obtain ⟨v, M1, M2, e1, e2, hI⟩ := hs
  obtain ⟨z, rfl⟩ := V_count e1
  refine ⟨M2, hI, ?_⟩
  refine (qlim_n (n := 1) (c' := (1087, qLl i, [qA 0], qH0 M)) rfl).trans ?_
  refine Eq.trans (b := qlim (C_law L xs) (1092, qLl i, [qI (qx xs (i + 1)), qA 0], qH0 M)) (ql_arg (j := 1) rfl rfl rfl rfl rfl rfl hi (by decide) hL) ?_
  refine (qlim_callv (n := 1) (As := [qI (qx xs (i + 1))]) (rest := []) (o := 0) rfl rfl rfl (Nat.le_of_ble_eq_true rfl) (Nat.le_of_ble_eq_true rfl) rfl).trans ?_
  rw [e1, qbd_some]
  refine (qlim_n (n := 1) (c' := (1096, qLl i, [qA 82, qI z], qH0 M1)) rfl).trans ?_
  refine Eq.trans (b := qlim (C_law L xs) (1101, qLl i, [qI (qx xs (i + 1)), qA 82, qI z], qH0 M1)) (ql_arg (j := 1) rfl rfl rfl rfl rfl rfl hi (by decide) hL) ?_
  refine (qlim_callv (n := 1) (As := [qI (qx xs (i + 1))]) (rest := [qI z]) (o := 82) rfl rfl rfl (Nat.le_of_ble_eq_true rfl) (Nat.le_of_ble_eq_true rfl) rfl).trans ?_
  rw [e2, qbd_some]
  refine Eq.trans (b := qlim (C_law L xs) (1322, qLl i, [], qH0 M2)) (qs_iceq_t rfl) ?_
  exact ql_end hi hL
set_option maxRecDepth 20000 in
theorem lw_c31 {L : Nat} {xs : Nat → Int32} {i : Nat} {M : qMem} (hL : L ≤ 3072) (hi : i + 6 ≤ L) (h : qInv M) : ∃ M2 : qMem, qInv M2 ∧ qlim (C_law L xs) (1109, qLl i, [], qH0 M) = qlim (C_law L xs) (18, qLl (i + 6), [], qH0 M2) := by
  have hs : qStep S_X11_tape S_X12_tape [qI (qx xs (i + 1)), qI (qx xs (i + 2)), qI (qx xs (i + 3))] M := step_tape h
  obtain ⟨v, M1, M2, e1, e2, hI⟩ := hs
  obtain ⟨z, rfl⟩ := V_tape e1
  refine ⟨M2, hI, ?_⟩
  refine (qlim_n (n := 1) (c' := (1110, qLl i, [qA 0], qH0 M)) rfl).trans ?_
  refine Eq.trans (b := qlim (C_law L xs) (1115, qLl i, [qI (qx xs (i + 1)), qA 0], qH0 M)) (ql_arg (j := 1) rfl rfl rfl rfl rfl rfl hi (by decide) hL) ?_
  refine Eq.trans (b := qlim (C_law L xs) (1120, qLl i, [qI (qx xs (i + 2)), qI (qx xs (i + 1)), qA 0], qH0 M)) (ql_arg (j := 2) rfl rfl rfl rfl rfl rfl hi (by decide) hL) ?_
  refine Eq.trans (b := qlim (C_law L xs) (1125, qLl i, [qI (qx xs (i + 3)), qI (qx xs (i + 2)), qI (qx xs (i + 1)), qA 0], qH0 M)) (ql_arg (j := 3) rfl rfl rfl rfl rfl rfl hi (by decide) hL) ?_
  refine (qlim_callv (n := 3) (As := [qI (qx xs (i + 1)), qI (qx xs (i + 2)), qI (qx xs (i + 3))]) (rest := []) (o := 0) rfl rfl rfl (Nat.le_of_ble_eq_true rfl) (Nat.le_of_ble_eq_true rfl) rfl).trans ?_
  rw [e1, qbd_some]
  refine (qlim_n (n := 1) (c' := (1129, qLl i, [qA 82, qI z], qH0 M1)) rfl).trans ?_
  refine Eq.trans (b := qlim (C_law L xs) (1134, qLl i, [qI (qx xs (i + 1)), qA 82, qI z], qH0 M1)) (ql_arg (j := 1) rfl rfl rfl rfl rfl rfl hi (by decide) hL) ?_
  refine Eq.trans (b := qlim (C_law L xs) (1139, qLl i, [qI (qx xs (i + 2)), qI (qx xs (i + 1)), qA 82, qI z], qH0 M1)) (ql_arg (j := 2) rfl rfl rfl rfl rfl rfl hi (by decide) hL) ?_
  refine Eq.trans (b := qlim (C_law L xs) (1144, qLl i, [qI (qx xs (i + 3)), qI (qx xs (i + 2)), qI (qx xs (i + 1)), qA 82, qI z], qH0 M1)) (ql_arg (j := 3) rfl rfl rfl rfl rfl rfl hi (by decide) hL) ?_
  refine (qlim_callv (n := 3) (As := [qI (qx xs (i + 1)), qI (qx xs (i + 2)), qI (qx xs (i + 3))]) (rest := [qI z]) (o := 82) rfl rfl rfl (Nat.le_of_ble_eq_true rfl) (Nat.le_of_ble_eq_true rfl) rfl).trans ?_
  rw [e2, qbd_some]
  refine Eq.trans (b := qlim (C_law L xs) (1322, qLl i, [], qH0 M2)) (qs_iceq_t rfl) ?_
  exact ql_end hi hL
set_option maxRecDepth 20000 in
theorem lw_c32 {L : Nat} {xs : Nat → Int32} {i : Nat} {M : qMem} (hL : L ≤ 3072) (hi : i + 6 ≤ L) (h : qInv M) : ∃ M2 : qMem, qInv M2 ∧ qlim (C_law L xs) (1152, qLl i, [], qH0 M) = qlim (C_law L xs) (18, qLl (i + 6), [], qH0 M2) := by
  have hs : qStep S_X11_item S_X12_item [qI (qx xs (i + 1)), qI (qx xs (i + 2)), qJ (jor (jshl (ki2l (qx xs (i + 3))) 32) (jand (ki2l (qx xs (i + 4))) (4294967295)))] M := step_item h
  obtain ⟨v, M1, M2, e1, e2, hI⟩ := hs
  obtain ⟨z, rfl⟩ := V_item e1
  refine ⟨M2, hI, ?_⟩
  refine (qlim_n (n := 1) (c' := (1153, qLl i, [qA 0], qH0 M)) rfl).trans ?_
  refine Eq.trans (b := qlim (C_law L xs) (1158, qLl i, [qI (qx xs (i + 1)), qA 0], qH0 M)) (ql_arg (j := 1) rfl rfl rfl rfl rfl rfl hi (by decide) hL) ?_
  refine Eq.trans (b := qlim (C_law L xs) (1163, qLl i, [qI (qx xs (i + 2)), qI (qx xs (i + 1)), qA 0], qH0 M)) (ql_arg (j := 2) rfl rfl rfl rfl rfl rfl hi (by decide) hL) ?_
  refine Eq.trans (b := qlim (C_law L xs) (1168, qLl i, [qI (qx xs (i + 3)), qI (qx xs (i + 2)), qI (qx xs (i + 1)), qA 0], qH0 M)) (ql_arg (j := 3) rfl rfl rfl rfl rfl rfl hi (by decide) hL) ?_
  refine (qlim_n (n := 1) (c' := (1169, qLl i, [qJ (ki2l (qx xs (i + 3))), qI (qx xs (i + 2)), qI (qx xs (i + 1)), qA 0], qH0 M)) rfl).trans ?_
  refine (qlim_n (n := 1) (c' := (1171, qLl i, [qI 32, qJ (ki2l (qx xs (i + 3))), qI (qx xs (i + 2)), qI (qx xs (i + 1)), qA 0], qH0 M)) rfl).trans ?_
  refine (qlim_n (n := 1) (c' := (1172, qLl i, [qJ (jshl (ki2l (qx xs (i + 3))) 32), qI (qx xs (i + 2)), qI (qx xs (i + 1)), qA 0], qH0 M)) rfl).trans ?_
  refine Eq.trans (b := qlim (C_law L xs) (1177, qLl i, [qI (qx xs (i + 4)), qJ (jshl (ki2l (qx xs (i + 3))) 32), qI (qx xs (i + 2)), qI (qx xs (i + 1)), qA 0], qH0 M)) (ql_arg (j := 4) rfl rfl rfl rfl rfl rfl hi (by decide) hL) ?_
  refine (qlim_n (n := 1) (c' := (1178, qLl i, [qJ (ki2l (qx xs (i + 4))), qJ (jshl (ki2l (qx xs (i + 3))) 32), qI (qx xs (i + 2)), qI (qx xs (i + 1)), qA 0], qH0 M)) rfl).trans ?_
  refine (qlim_n (n := 1) (c' := (1181, qLl i, [qJ (4294967295), qJ (ki2l (qx xs (i + 4))), qJ (jshl (ki2l (qx xs (i + 3))) 32), qI (qx xs (i + 2)), qI (qx xs (i + 1)), qA 0], qH0 M)) rfl).trans ?_
  refine (qlim_n (n := 1) (c' := (1182, qLl i, [qJ (jand (ki2l (qx xs (i + 4))) (4294967295)), qJ (jshl (ki2l (qx xs (i + 3))) 32), qI (qx xs (i + 2)), qI (qx xs (i + 1)), qA 0], qH0 M)) rfl).trans ?_
  refine (qlim_n (n := 1) (c' := (1183, qLl i, [qJ (jor (jshl (ki2l (qx xs (i + 3))) 32) (jand (ki2l (qx xs (i + 4))) (4294967295))), qI (qx xs (i + 2)), qI (qx xs (i + 1)), qA 0], qH0 M)) rfl).trans ?_
  refine (qlim_callv (n := 3) (As := [qI (qx xs (i + 1)), qI (qx xs (i + 2)), qJ (jor (jshl (ki2l (qx xs (i + 3))) 32) (jand (ki2l (qx xs (i + 4))) (4294967295)))]) (rest := []) (o := 0) rfl rfl rfl (Nat.le_of_ble_eq_true rfl) (Nat.le_of_ble_eq_true rfl) rfl).trans ?_
  rw [e1, qbd_some]
  refine (qlim_n (n := 1) (c' := (1187, qLl i, [qA 82, qI z], qH0 M1)) rfl).trans ?_
  refine Eq.trans (b := qlim (C_law L xs) (1192, qLl i, [qI (qx xs (i + 1)), qA 82, qI z], qH0 M1)) (ql_arg (j := 1) rfl rfl rfl rfl rfl rfl hi (by decide) hL) ?_
  refine Eq.trans (b := qlim (C_law L xs) (1197, qLl i, [qI (qx xs (i + 2)), qI (qx xs (i + 1)), qA 82, qI z], qH0 M1)) (ql_arg (j := 2) rfl rfl rfl rfl rfl rfl hi (by decide) hL) ?_
  refine Eq.trans (b := qlim (C_law L xs) (1202, qLl i, [qI (qx xs (i + 3)), qI (qx xs (i + 2)), qI (qx xs (i + 1)), qA 82, qI z], qH0 M1)) (ql_arg (j := 3) rfl rfl rfl rfl rfl rfl hi (by decide) hL) ?_
  refine (qlim_n (n := 1) (c' := (1203, qLl i, [qJ (ki2l (qx xs (i + 3))), qI (qx xs (i + 2)), qI (qx xs (i + 1)), qA 82, qI z], qH0 M1)) rfl).trans ?_
  refine (qlim_n (n := 1) (c' := (1205, qLl i, [qI 32, qJ (ki2l (qx xs (i + 3))), qI (qx xs (i + 2)), qI (qx xs (i + 1)), qA 82, qI z], qH0 M1)) rfl).trans ?_
  refine (qlim_n (n := 1) (c' := (1206, qLl i, [qJ (jshl (ki2l (qx xs (i + 3))) 32), qI (qx xs (i + 2)), qI (qx xs (i + 1)), qA 82, qI z], qH0 M1)) rfl).trans ?_
  refine Eq.trans (b := qlim (C_law L xs) (1211, qLl i, [qI (qx xs (i + 4)), qJ (jshl (ki2l (qx xs (i + 3))) 32), qI (qx xs (i + 2)), qI (qx xs (i + 1)), qA 82, qI z], qH0 M1)) (ql_arg (j := 4) rfl rfl rfl rfl rfl rfl hi (by decide) hL) ?_
  refine (qlim_n (n := 1) (c' := (1212, qLl i, [qJ (ki2l (qx xs (i + 4))), qJ (jshl (ki2l (qx xs (i + 3))) 32), qI (qx xs (i + 2)), qI (qx xs (i + 1)), qA 82, qI z], qH0 M1)) rfl).trans ?_
  refine (qlim_n (n := 1) (c' := (1215, qLl i, [qJ (4294967295), qJ (ki2l (qx xs (i + 4))), qJ (jshl (ki2l (qx xs (i + 3))) 32), qI (qx xs (i + 2)), qI (qx xs (i + 1)), qA 82, qI z], qH0 M1)) rfl).trans ?_
  refine (qlim_n (n := 1) (c' := (1216, qLl i, [qJ (jand (ki2l (qx xs (i + 4))) (4294967295)), qJ (jshl (ki2l (qx xs (i + 3))) 32), qI (qx xs (i + 2)), qI (qx xs (i + 1)), qA 82, qI z], qH0 M1)) rfl).trans ?_
  refine (qlim_n (n := 1) (c' := (1217, qLl i, [qJ (jor (jshl (ki2l (qx xs (i + 3))) 32) (jand (ki2l (qx xs (i + 4))) (4294967295))), qI (qx xs (i + 2)), qI (qx xs (i + 1)), qA 82, qI z], qH0 M1)) rfl).trans ?_
  refine (qlim_callv (n := 3) (As := [qI (qx xs (i + 1)), qI (qx xs (i + 2)), qJ (jor (jshl (ki2l (qx xs (i + 3))) 32) (jand (ki2l (qx xs (i + 4))) (4294967295)))]) (rest := [qI z]) (o := 82) rfl rfl rfl (Nat.le_of_ble_eq_true rfl) (Nat.le_of_ble_eq_true rfl) rfl).trans ?_
  rw [e2, qbd_some]
  refine Eq.trans (b := qlim (C_law L xs) (1322, qLl i, [], qH0 M2)) (qs_iceq_t rfl) ?_
  exact ql_end hi hL
set_option maxRecDepth 20000 in
theorem lw_c33 {L : Nat} {xs : Nat → Int32} {i : Nat} {M : qMem} (hL : L ≤ 3072) (hi : i + 6 ≤ L) (h : qInv M) : ∃ M2 : qMem, qInv M2 ∧ qlim (C_law L xs) (1225, qLl i, [], qH0 M) = qlim (C_law L xs) (18, qLl (i + 6), [], qH0 M2) := by
  have hs : qStep S_X11_read S_X12_read [qI (qx xs (i + 1)), qI (qx xs (i + 2))] M := step_read h
  obtain ⟨v, M1, M2, e1, e2, hI⟩ := hs
  obtain ⟨z, rfl⟩ := V_read e1
  refine ⟨M2, hI, ?_⟩
  refine (qlim_n (n := 1) (c' := (1226, qLl i, [qA 0], qH0 M)) rfl).trans ?_
  refine Eq.trans (b := qlim (C_law L xs) (1231, qLl i, [qI (qx xs (i + 1)), qA 0], qH0 M)) (ql_arg (j := 1) rfl rfl rfl rfl rfl rfl hi (by decide) hL) ?_
  refine Eq.trans (b := qlim (C_law L xs) (1236, qLl i, [qI (qx xs (i + 2)), qI (qx xs (i + 1)), qA 0], qH0 M)) (ql_arg (j := 2) rfl rfl rfl rfl rfl rfl hi (by decide) hL) ?_
  refine (qlim_callv (n := 2) (As := [qI (qx xs (i + 1)), qI (qx xs (i + 2))]) (rest := []) (o := 0) rfl rfl rfl (Nat.le_of_ble_eq_true rfl) (Nat.le_of_ble_eq_true rfl) rfl).trans ?_
  rw [e1, qbd_some]
  refine (qlim_n (n := 1) (c' := (1240, qLl i, [qA 82, qJ z], qH0 M1)) rfl).trans ?_
  refine Eq.trans (b := qlim (C_law L xs) (1245, qLl i, [qI (qx xs (i + 1)), qA 82, qJ z], qH0 M1)) (ql_arg (j := 1) rfl rfl rfl rfl rfl rfl hi (by decide) hL) ?_
  refine Eq.trans (b := qlim (C_law L xs) (1250, qLl i, [qI (qx xs (i + 2)), qI (qx xs (i + 1)), qA 82, qJ z], qH0 M1)) (ql_arg (j := 2) rfl rfl rfl rfl rfl rfl hi (by decide) hL) ?_
  refine (qlim_callv (n := 2) (As := [qI (qx xs (i + 1)), qI (qx xs (i + 2))]) (rest := [qJ z]) (o := 82) rfl rfl rfl (Nat.le_of_ble_eq_true rfl) (Nat.le_of_ble_eq_true rfl) rfl).trans ?_
  rw [e2, qbd_some]
  refine Eq.trans (b := qlim (C_law L xs) (1254, qLl i, [qI 0], qH0 M2)) (qs_lcmp_t rfl) ?_
  refine Eq.trans (b := qlim (C_law L xs) (1322, qLl i, [], qH0 M2)) (qs_ifeq_t rfl) ?_
  exact ql_end hi hL
set_option maxRecDepth 20000 in
theorem lw_c34 {L : Nat} {xs : Nat → Int32} {i : Nat} {M : qMem} (hL : L ≤ 3072) (hi : i + 6 ≤ L) (h : qInv M) : ∃ M2 : qMem, qInv M2 ∧ qlim (C_law L xs) (1259, qLl i, [], qH0 M) = qlim (C_law L xs) (18, qLl (i + 6), [], qH0 M2) := by
  have hs : qStep S_X11_shift S_X12_shift [qI (qx xs (i + 1)), qI (qx xs (i + 2)), qI (qx xs (i + 3)), qI (qx xs (i + 4)), qI (qx xs (i + 5))] M := step_shift h (qint_rg _).2 (qint_rg _).2 (qint_rg _).2
  obtain ⟨v, M1, M2, e1, e2, hI⟩ := hs
  obtain ⟨z, rfl⟩ := V_shift e1
  refine ⟨M2, hI, ?_⟩
  refine (qlim_n (n := 1) (c' := (1260, qLl i, [qA 0], qH0 M)) rfl).trans ?_
  refine Eq.trans (b := qlim (C_law L xs) (1265, qLl i, [qI (qx xs (i + 1)), qA 0], qH0 M)) (ql_arg (j := 1) rfl rfl rfl rfl rfl rfl hi (by decide) hL) ?_
  refine Eq.trans (b := qlim (C_law L xs) (1270, qLl i, [qI (qx xs (i + 2)), qI (qx xs (i + 1)), qA 0], qH0 M)) (ql_arg (j := 2) rfl rfl rfl rfl rfl rfl hi (by decide) hL) ?_
  refine Eq.trans (b := qlim (C_law L xs) (1275, qLl i, [qI (qx xs (i + 3)), qI (qx xs (i + 2)), qI (qx xs (i + 1)), qA 0], qH0 M)) (ql_arg (j := 3) rfl rfl rfl rfl rfl rfl hi (by decide) hL) ?_
  refine Eq.trans (b := qlim (C_law L xs) (1280, qLl i, [qI (qx xs (i + 4)), qI (qx xs (i + 3)), qI (qx xs (i + 2)), qI (qx xs (i + 1)), qA 0], qH0 M)) (ql_arg (j := 4) rfl rfl rfl rfl rfl rfl hi (by decide) hL) ?_
  refine Eq.trans (b := qlim (C_law L xs) (1285, qLl i, [qI (qx xs (i + 5)), qI (qx xs (i + 4)), qI (qx xs (i + 3)), qI (qx xs (i + 2)), qI (qx xs (i + 1)), qA 0], qH0 M)) (ql_arg (j := 5) rfl rfl rfl rfl rfl rfl hi (by decide) hL) ?_
  refine (qlim_callv (n := 5) (As := [qI (qx xs (i + 1)), qI (qx xs (i + 2)), qI (qx xs (i + 3)), qI (qx xs (i + 4)), qI (qx xs (i + 5))]) (rest := []) (o := 0) rfl rfl rfl (Nat.le_of_ble_eq_true rfl) (Nat.le_of_ble_eq_true rfl) rfl).trans ?_
  rw [e1, qbd_some]
  refine (qlim_n (n := 1) (c' := (1289, qLl i, [qA 82, qI z], qH0 M1)) rfl).trans ?_
  refine Eq.trans (b := qlim (C_law L xs) (1294, qLl i, [qI (qx xs (i + 1)), qA 82, qI z], qH0 M1)) (ql_arg (j := 1) rfl rfl rfl rfl rfl rfl hi (by decide) hL) ?_
  refine Eq.trans (b := qlim (C_law L xs) (1299, qLl i, [qI (qx xs (i + 2)), qI (qx xs (i + 1)), qA 82, qI z], qH0 M1)) (ql_arg (j := 2) rfl rfl rfl rfl rfl rfl hi (by decide) hL) ?_
  refine Eq.trans (b := qlim (C_law L xs) (1304, qLl i, [qI (qx xs (i + 3)), qI (qx xs (i + 2)), qI (qx xs (i + 1)), qA 82, qI z], qH0 M1)) (ql_arg (j := 3) rfl rfl rfl rfl rfl rfl hi (by decide) hL) ?_
  refine Eq.trans (b := qlim (C_law L xs) (1309, qLl i, [qI (qx xs (i + 4)), qI (qx xs (i + 3)), qI (qx xs (i + 2)), qI (qx xs (i + 1)), qA 82, qI z], qH0 M1)) (ql_arg (j := 4) rfl rfl rfl rfl rfl rfl hi (by decide) hL) ?_
  refine Eq.trans (b := qlim (C_law L xs) (1314, qLl i, [qI (qx xs (i + 5)), qI (qx xs (i + 4)), qI (qx xs (i + 3)), qI (qx xs (i + 2)), qI (qx xs (i + 1)), qA 82, qI z], qH0 M1)) (ql_arg (j := 5) rfl rfl rfl rfl rfl rfl hi (by decide) hL) ?_
  refine (qlim_callv (n := 5) (As := [qI (qx xs (i + 1)), qI (qx xs (i + 2)), qI (qx xs (i + 3)), qI (qx xs (i + 4)), qI (qx xs (i + 5))]) (rest := [qI z]) (o := 82) rfl rfl rfl (Nat.le_of_ble_eq_true rfl) (Nat.le_of_ble_eq_true rfl) rfl).trans ?_
  rw [e2, qbd_some]
  refine Eq.trans (b := qlim (C_law L xs) (1322, qLl i, [], qH0 M2)) (qs_iceq_t rfl) ?_
  exact ql_end hi hL
