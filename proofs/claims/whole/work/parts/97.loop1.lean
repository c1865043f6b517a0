set_option maxRecDepth 20000 in
theorem lw_c0 {L : Nat} {xs : Nat → Int32} {i : Nat} {M : qMem} (hL : L ≤ 3072) (hi : i + 6 ≤ L) (h : qInv M) : ∃ M2 : qMem, qInv M2 ∧ qlim (C_law L xs) (188, qLl i, [], qH0 M) = qlim (C_law L xs) (18, qLl (i + 6), [], qH0 M2) := by
  have hs : qStep S_X11_person S_X12_person [qI (qx xs (i + 1)), qI (qx xs (i + 2)), qI (qx xs (i + 3))] M := step_person h
  obtain ⟨v, M1, M2, e1, e2, hI⟩ := hs
  obtain ⟨z, rfl⟩ := V_person e1
  refine ⟨M2, hI, ?_⟩
  refine (qlim_n (n := 1) (c' := (189, qLl i, [qA 0], qH0 M)) rfl).trans ?_
  refine Eq.trans (b := qlim (C_law L xs) (194, qLl i, [qI (qx xs (i + 1)), qA 0], qH0 M)) (ql_arg (j := 1) rfl rfl rfl rfl rfl rfl hi (by decide) hL) ?_
  refine Eq.trans (b := qlim (C_law L xs) (199, qLl i, [qI (qx xs (i + 2)), qI (qx xs (i + 1)), qA 0], qH0 M)) (ql_arg (j := 2) rfl rfl rfl rfl rfl rfl hi (by decide) hL) ?_
  refine Eq.trans (b := qlim (C_law L xs) (204, qLl i, [qI (qx xs (i + 3)), qI (qx xs (i + 2)), qI (qx xs (i + 1)), qA 0], qH0 M)) (ql_arg (j := 3) rfl rfl rfl rfl rfl rfl hi (by decide) hL) ?_
  refine (qlim_callv (n := 3) (As := [qI (qx xs (i + 1)), qI (qx xs (i + 2)), qI (qx xs (i + 3))]) (rest := []) (o := 0) rfl rfl rfl (Nat.le_of_ble_eq_true rfl) (Nat.le_of_ble_eq_true rfl) rfl).trans ?_
  rw [e1, qbd_some]
  refine (qlim_n (n := 1) (c' := (208, qLl i, [qA 82, qI z], qH0 M1)) rfl).trans ?_
  refine Eq.trans (b := qlim (C_law L xs) (213, qLl i, [qI (qx xs (i + 1)), qA 82, qI z], qH0 M1)) (ql_arg (j := 1) rfl rfl rfl rfl rfl rfl hi (by decide) hL) ?_
  refine Eq.trans (b := qlim (C_law L xs) (218, qLl i, [qI (qx xs (i + 2)), qI (qx xs (i + 1)), qA 82, qI z], qH0 M1)) (ql_arg (j := 2) rfl rfl rfl rfl rfl rfl hi (by decide) hL) ?_
  refine Eq.trans (b := qlim (C_law L xs) (223, qLl i, [qI (qx xs (i + 3)), qI (qx xs (i + 2)), qI (qx xs (i + 1)), qA 82, qI z], qH0 M1)) (ql_arg (j := 3) rfl rfl rfl rfl rfl rfl hi (by decide) hL) ?_
  refine (qlim_callv (n := 3) (As := [qI (qx xs (i + 1)), qI (qx xs (i + 2)), qI (qx xs (i + 3))]) (rest := [qI z]) (o := 82) rfl rfl rfl (Nat.le_of_ble_eq_true rfl) (Nat.le_of_ble_eq_true rfl) rfl).trans ?_
  rw [e2, qbd_some]
  refine Eq.trans (b := qlim (C_law L xs) (1322, qLl i, [], qH0 M2)) (qs_iceq_t rfl) ?_
  exact ql_end hi hL
set_option maxRecDepth 20000 in
theorem lw_c1 {L : Nat} {xs : Nat → Int32} {i : Nat} {M : qMem} (hL : L ≤ 3072) (hi : i + 6 ≤ L) (h : qInv M) : ∃ M2 : qMem, qInv M2 ∧ qlim (C_law L xs) (231, qLl i, [], qH0 M) = qlim (C_law L xs) (18, qLl (i + 6), [], qH0 M2) := by
  have hs : qStep S_X11_of S_X12_of [qI (qx xs (i + 1)), qI (qx xs (i + 2))] M := step_of h
  obtain ⟨v, M1, M2, e1, e2, hI⟩ := hs
  obtain ⟨z, rfl⟩ := V_of e1
  refine ⟨M2, hI, ?_⟩
  refine (qlim_n (n := 1) (c' := (232, qLl i, [qA 0], qH0 M)) rfl).trans ?_
  refine Eq.trans (b := qlim (C_law L xs) (237, qLl i, [qI (qx xs (i + 1)), qA 0], qH0 M)) (ql_arg (j := 1) rfl rfl rfl rfl rfl rfl hi (by decide) hL) ?_
  refine Eq.trans (b := qlim (C_law L xs) (242, qLl i, [qI (qx xs (i + 2)), qI (qx xs (i + 1)), qA 0], qH0 M)) (ql_arg (j := 2) rfl rfl rfl rfl rfl rfl hi (by decide) hL) ?_
  refine (qlim_callv (n := 2) (As := [qI (qx xs (i + 1)), qI (qx xs (i + 2))]) (rest := []) (o := 0) rfl rfl rfl (Nat.le_of_ble_eq_true rfl) (Nat.le_of_ble_eq_true rfl) rfl).trans ?_
  rw [e1, qbd_some]
  refine (qlim_n (n := 1) (c' := (246, qLl i, [qA 82, qI z], qH0 M1)) rfl).trans ?_
  refine Eq.trans (b := qlim (C_law L xs) (251, qLl i, [qI (qx xs (i + 1)), qA 82, qI z], qH0 M1)) (ql_arg (j := 1) rfl rfl rfl rfl rfl rfl hi (by decide) hL) ?_
  refine Eq.trans (b := qlim (C_law L xs) (256, qLl i, [qI (qx xs (i + 2)), qI (qx xs (i + 1)), qA 82, qI z], qH0 M1)) (ql_arg (j := 2) rfl rfl rfl rfl rfl rfl hi (by decide) hL) ?_
  refine (qlim_callv (n := 2) (As := [qI (qx xs (i + 1)), qI (qx xs (i + 2))]) (rest := [qI z]) (o := 82) rfl rfl rfl (Nat.le_of_ble_eq_true rfl) (Nat.le_of_ble_eq_true rfl) rfl).trans ?_
  rw [e2, qbd_some]
  refine Eq.trans (b := qlim (C_law L xs) (1322, qLl i, [], qH0 M2)) (qs_iceq_t rfl) ?_
  exact ql_end hi hL
set_option maxRecDepth 20000 in
theorem lw_c2 {L : Nat} {xs : Nat → Int32} {i : Nat} {M : qMem} (hL : L ≤ 3072) (hi : i + 6 ≤ L) (h : qInv M) : ∃ M2 : qMem, qInv M2 ∧ qlim (C_law L xs) (264, qLl i, [], qH0 M) = qlim (C_law L xs) (18, qLl (i + 6), [], qH0 M2) := by
  have hs : qStep S_X11_work S_X12_work [qI (qx xs (i + 1)), qI (qx xs (i + 2))] M := step_work h
  obtain ⟨v, M1, M2, e1, e2, hI⟩ := hs
  obtain ⟨z, rfl⟩ := V_work e1
  refine ⟨M2, hI, ?_⟩
  refine (qlim_n (n := 1) (c' := (265, qLl i, [qA 0], qH0 M)) rfl).trans ?_
  refine Eq.trans (b := qlim (C_law L xs) (270, qLl i, [qI (qx xs (i + 1)), qA 0], qH0 M)) (ql_arg (j := 1) rfl rfl rfl rfl rfl rfl hi (by decide) hL) ?_
  refine Eq.trans (b := qlim (C_law L xs) (275, qLl i, [qI (qx xs (i + 2)), qI (qx xs (i + 1)), qA 0], qH0 M)) (ql_arg (j := 2) rfl rfl rfl rfl rfl rfl hi (by decide) hL) ?_
  refine (qlim_callv (n := 2) (As := [qI (qx xs (i + 1)), qI (qx xs (i + 2))]) (rest := []) (o := 0) rfl rfl rfl (Nat.le_of_ble_eq_true rfl) (Nat.le_of_ble_eq_true rfl) rfl).trans ?_
  rw [e1, qbd_some]
  refine (qlim_n (n := 1) (c' := (279, qLl i, [qA 82, qI z], qH0 M1)) rfl).trans ?_
  refine Eq.trans (b := qlim (C_law L xs) (284, qLl i, [qI (qx xs (i + 1)), qA 82, qI z], qH0 M1)) (ql_arg (j := 1) rfl rfl rfl rfl rfl rfl hi (by decide) hL) ?_
  refine Eq.trans (b := qlim (C_law L xs) (289, qLl i, [qI (qx xs (i + 2)), qI (qx xs (i + 1)), qA 82, qI z], qH0 M1)) (ql_arg (j := 2) rfl rfl rfl rfl rfl rfl hi (by decide) hL) ?_
  refine (qlim_callv (n := 2) (As := [qI (qx xs (i + 1)), qI (qx xs (i + 2))]) (rest := [qI z]) (o := 82) rfl rfl rfl (Nat.le_of_ble_eq_true rfl) (Nat.le_of_ble_eq_true rfl) rfl).trans ?_
  rw [e2, qbd_some]
  refine Eq.trans (b := qlim (C_law L xs) (1322, qLl i, [], qH0 M2)) (qs_iceq_t rfl) ?_
  exact ql_end hi hL
set_option maxRecDepth 20000 in
theorem lw_c3 {L : Nat} {xs : Nat → Int32} {i : Nat} {M : qMem} (hL : L ≤ 3072) (hi : i + 6 ≤ L) (h : qInv M) : ∃ M2 : qMem, qInv M2 ∧ qlim (C_law L xs) (297, qLl i, [], qH0 M) = qlim (C_law L xs) (18, qLl (i + 6), [], qH0 M2) := by
  have hs : qStep S_X11_home S_X12_home [qI (qx xs (i + 1)), qI (if qx xs (i + 2) = 0 then 0 else 1)] M := step_home h (ql_01 _)
  obtain ⟨v, M1, M2, e1, e2, hI⟩ := hs
  obtain ⟨z, rfl⟩ := V_home e1
  refine ⟨M2, hI, ?_⟩
  refine (qlim_n (n := 1) (c' := (298, qLl i, [qA 0], qH0 M)) rfl).trans ?_
  refine Eq.trans (b := qlim (C_law L xs) (303, qLl i, [qI (qx xs (i + 1)), qA 0], qH0 M)) (ql_arg (j := 1) rfl rfl rfl rfl rfl rfl hi (by decide) hL) ?_
  refine Eq.trans (b := qlim (C_law L xs) (308, qLl i, [qI (qx xs (i + 2)), qI (qx xs (i + 1)), qA 0], qH0 M)) (ql_arg (j := 2) rfl rfl rfl rfl rfl rfl hi (by decide) hL) ?_
  refine Eq.trans (b := qlim (C_law L xs) (316, qLl i, [qI (if qx xs (i + 2) = 0 then 0 else 1), qI (qx xs (i + 1)), qA 0], qH0 M)) (ql_bool rfl rfl rfl rfl) ?_
  refine (qlim_callv (n := 2) (As := [qI (qx xs (i + 1)), qI (if qx xs (i + 2) = 0 then 0 else 1)]) (rest := []) (o := 0) rfl rfl rfl (Nat.le_of_ble_eq_true rfl) (Nat.le_of_ble_eq_true rfl) rfl).trans ?_
  rw [e1, qbd_some]
  refine (qlim_n (n := 1) (c' := (320, qLl i, [qA 82, qI z], qH0 M1)) rfl).trans ?_
  refine Eq.trans (b := qlim (C_law L xs) (325, qLl i, [qI (qx xs (i + 1)), qA 82, qI z], qH0 M1)) (ql_arg (j := 1) rfl rfl rfl rfl rfl rfl hi (by decide) hL) ?_
  refine Eq.trans (b := qlim (C_law L xs) (330, qLl i, [qI (qx xs (i + 2)), qI (qx xs (i + 1)), qA 82, qI z], qH0 M1)) (ql_arg (j := 2) rfl rfl rfl rfl rfl rfl hi (by decide) hL) ?_
  refine Eq.trans (b := qlim (C_law L xs) (338, qLl i, [qI (if qx xs (i + 2) = 0 then 0 else 1), qI (qx xs (i + 1)), qA 82, qI z], qH0 M1)) (ql_bool rfl rfl rfl rfl) ?_
  refine (qlim_callv (n := 2) (As := [qI (qx xs (i + 1)), qI (if qx xs (i + 2) = 0 then 0 else 1)]) (rest := [qI z]) (o := 82) rfl rfl rfl (Nat.le_of_ble_eq_true rfl) (Nat.le_of_ble_eq_true rfl) rfl).trans ?_
  rw [e2, qbd_some]
  refine Eq.trans (b := qlim (C_law L xs) (1322, qLl i, [], qH0 M2)) (qs_iceq_t rfl) ?_
  exact ql_end hi hL
set_option maxRecDepth 20000 in
theorem lw_c4 {L : Nat} {xs : Nat → Int32} {i : Nat} {M : qMem} (hL : L ≤ 3072) (hi : i + 6 ≤ L) (h : qInv M) : ∃ M2 : qMem, qInv M2 ∧ qlim (C_law L xs) (346, qLl i, [], qH0 M) = qlim (C_law L xs) (18, qLl (i + 6), [], qH0 M2) := by
  have hs : qStep S_X11_row S_X12_row [qI (qx xs (i + 1)), qI (qx xs (i + 2)), qI (qx xs (i + 3))] M := step_row h
  obtain ⟨v, M1, M2, e1, e2, hI⟩ := hs
  obtain ⟨z, rfl⟩ := V_row e1
  refine ⟨M2, hI, ?_⟩
  refine (qlim_n (n := 1) (c' := (347, qLl i, [qA 0], qH0 M)) rfl).trans ?_
  refine Eq.trans (b := qlim (C_law L xs) (352, qLl i, [qI (qx xs (i + 1)), qA 0], qH0 M)) (ql_arg (j := 1) rfl rfl rfl rfl rfl rfl hi (by decide) hL) ?_
  refine Eq.trans (b := qlim (C_law L xs) (357, qLl i, [qI (qx xs (i + 2)), qI (qx xs (i + 1)), qA 0], qH0 M)) (ql_arg (j := 2) rfl rfl rfl rfl rfl rfl hi (by decide) hL) ?_
  refine Eq.trans (b := qlim (C_law L xs) (362, qLl i, [qI (qx xs (i + 3)), qI (qx xs (i + 2)), qI (qx xs (i + 1)), qA 0], qH0 M)) (ql_arg (j := 3) rfl rfl rfl rfl rfl rfl hi (by decide) hL) ?_
  refine (qlim_callv (n := 3) (As := [qI (qx xs (i + 1)), qI (qx xs (i + 2)), qI (qx xs (i + 3))]) (rest := []) (o := 0) rfl rfl rfl (Nat.le_of_ble_eq_true rfl) (Nat.le_of_ble_eq_true rfl) rfl).trans ?_
  rw [e1, qbd_some]
  refine (qlim_n (n := 1) (c' := (366, qLl i, [qA 82, qI z], qH0 M1)) rfl).trans ?_
  refine Eq.trans (b := qlim (C_law L xs) (371, qLl i, [qI (qx xs (i + 1)), qA 82, qI z], qH0 M1)) (ql_arg (j := 1) rfl rfl rfl rfl rfl rfl hi (by decide) hL) ?_
  refine Eq.trans (b := qlim (C_law L xs) (376, qLl i, [qI (qx xs (i + 2)), qI (qx xs (i + 1)), qA 82, qI z], qH0 M1)) (ql_arg (j := 2) rfl rfl rfl rfl rfl rfl hi (by decide) hL) ?_
  refine Eq.trans (b := qlim (C_law L xs) (381, qLl i, [qI (qx xs (i + 3)), qI (qx xs (i + 2)), qI (qx xs (i + 1)), qA 82, qI z], qH0 M1)) (ql_arg (j := 3) rfl rfl rfl rfl rfl rfl hi (by decide) hL) ?_
  refine (qlim_callv (n := 3) (As := [qI (qx xs (i + 1)), qI (qx xs (i + 2)), qI (qx xs (i + 3))]) (rest := [qI z]) (o := 82) rfl rfl rfl (Nat.le_of_ble_eq_true rfl) (Nat.le_of_ble_eq_true rfl) rfl).trans ?_
  rw [e2, qbd_some]
  refine Eq.trans (b := qlim (C_law L xs) (1322, qLl i, [], qH0 M2)) (qs_iceq_t rfl) ?_
  exact ql_end hi hL
set_option maxRecDepth 20000 in
theorem lw_c5 {L : Nat} {xs : Nat → Int32} {i : Nat} {M : qMem} (hL : L ≤ 3072) (hi : i + 6 ≤ L) (h : qInv M) : ∃ M2 : qMem, qInv M2 ∧ qlim (C_law L xs) (389, qLl i, [], qH0 M) = qlim (C_law L xs) (18, qLl (i + 6), [], qH0 M2) := by
  have hs : qStep S_X11_heap S_X12_heap [qI (qx xs (i + 1)), qI (qx xs (i + 2))] M := step_heap h
  obtain ⟨v, M1, M2, e1, e2, hI⟩ := hs
  obtain ⟨z, rfl⟩ := V_heap e1
  refine ⟨M2, hI, ?_⟩
  refine (qlim_n (n := 1) (c' := (390, qLl i, [qA 0], qH0 M)) rfl).trans ?_
  refine Eq.trans (b := qlim (C_law L xs) (395, qLl i, [qI (qx xs (i + 1)), qA 0], qH0 M)) (ql_arg (j := 1) rfl rfl rfl rfl rfl rfl hi (by decide) hL) ?_
  refine Eq.trans (b := qlim (C_law L xs) (400, qLl i, [qI (qx xs (i + 2)), qI (qx xs (i + 1)), qA 0], qH0 M)) (ql_arg (j := 2) rfl rfl rfl rfl rfl rfl hi (by decide) hL) ?_
  refine (qlim_callv (n := 2) (As := [qI (qx xs (i + 1)), qI (qx xs (i + 2))]) (rest := []) (o := 0) rfl rfl rfl (Nat.le_of_ble_eq_true rfl) (Nat.le_of_ble_eq_true rfl) rfl).trans ?_
  rw [e1, qbd_some]
  refine (qlim_n (n := 1) (c' := (404, qLl i, [qA 82, qI z], qH0 M1)) rfl).trans ?_
  refine Eq.trans (b := qlim (C_law L xs) (409, qLl i, [qI (qx xs (i + 1)), qA 82, qI z], qH0 M1)) (ql_arg (j := 1) rfl rfl rfl rfl rfl rfl hi (by decide) hL) ?_
  refine Eq.trans (b := qlim (C_law L xs) (414, qLl i, [qI (qx xs (i + 2)), qI (qx xs (i + 1)), qA 82, qI z], qH0 M1)) (ql_arg (j := 2) rfl rfl rfl rfl rfl rfl hi (by decide) hL) ?_
  refine (qlim_callv (n := 2) (As := [qI (qx xs (i + 1)), qI (qx xs (i + 2))]) (rest := [qI z]) (o := 82) rfl rfl rfl (Nat.le_of_ble_eq_true rfl) (Nat.le_of_ble_eq_true rfl) rfl).trans ?_
  rw [e2, qbd_some]
  refine Eq.trans (b := qlim (C_law L xs) (1322, qLl i, [], qH0 M2)) (qs_iceq_t rfl) ?_
  exact ql_end hi hL
set_option maxRecDepth 20000 in
theorem lw_c6 {L : Nat} {xs : Nat → Int32} {i : Nat} {M : qMem} (hL : L ≤ 3072) (hi : i + 6 ≤ L) (h : qInv M) : ∃ M2 : qMem, qInv M2 ∧ qlim (C_law L xs) (422, qLl i, [], qH0 M) = qlim (C_law L xs) (18, qLl (i + 6), [], qH0 M2) := by
  have hs : qStep S_X11_feed S_X12_feed [qI (qx xs (i + 1))] M := step_feed h
  obtain ⟨v, M1, M2, e1, e2, hI⟩ := hs
  obtain ⟨z, rfl⟩ := V_feed e1
  refine ⟨M2, hI, ?_⟩
  refine (qlim_n (n := 1) (c' := (423, qLl i, [qA 0], qH0 M)) rfl).trans ?_
  refine Eq.trans (b := qlim (C_law L xs) (428, qLl i, [qI (qx xs (i + 1)), qA 0], qH0 M)) (ql_arg (j := 1) rfl rfl rfl rfl rfl rfl hi (by decide) hL) ?_
  refine (qlim_callv (n := 1) (As := [qI (qx xs (i + 1))]) (rest := []) (o := 0) rfl rfl rfl (Nat.le_of_ble_eq_true rfl) (Nat.le_of_ble_eq_true rfl) rfl).trans ?_
  rw [e1, qbd_some]
  refine (qlim_n (n := 1) (c' := (432, qLl i, [qA 82, qI z], qH0 M1)) rfl).trans ?_
  refine Eq.trans (b := qlim (C_law L xs) (437, qLl i, [qI (qx xs (i + 1)), qA 82, qI z], qH0 M1)) (ql_arg (j := 1) rfl rfl rfl rfl rfl rfl hi (by decide) hL) ?_
  refine (qlim_callv (n := 1) (As := [qI (qx xs (i + 1))]) (rest := [qI z]) (o := 82) rfl rfl rfl (Nat.le_of_ble_eq_true rfl) (Nat.le_of_ble_eq_true rfl) rfl).trans ?_
  rw [e2, qbd_some]
  refine Eq.trans (b := qlim (C_law L xs) (1322, qLl i, [], qH0 M2)) (qs_iceq_t rfl) ?_
  exact ql_end hi hL
