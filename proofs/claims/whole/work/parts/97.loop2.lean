set_option maxRecDepth 20000 in
theorem lw_c7 {L : Nat} {xs : Nat → Int32} {i : Nat} {M : qMem} (hL : L ≤ 3072) (hi : i + 6 ≤ L) (h : qInv M) : ∃ M2 : qMem, qInv M2 ∧ qlim (C_law L xs) (445, qLl i, [], qH0 M) = qlim (C_law L xs) (18, qLl (i + 6), [], qH0 M2) := by
  have hs : qStep S_X11_hall S_X12_hall [] M := step_hall h
  obtain ⟨v, M1, M2, e1, e2, hI⟩ := hs
  obtain ⟨z, rfl⟩ := V_hall e1
  refine ⟨M2, hI, ?_⟩
  refine (qlim_n (n := 1) (c' := (446, qLl i, [qA 0], qH0 M)) rfl).trans ?_
  refine (qlim_callv (n := 0) (As := []) (rest := []) (o := 0) rfl rfl rfl (Nat.le_of_ble_eq_true rfl) (Nat.le_of_ble_eq_true rfl) rfl).trans ?_
  rw [e1, qbd_some]
  refine (qlim_n (n := 1) (c' := (450, qLl i, [qA 82, qI z], qH0 M1)) rfl).trans ?_
  refine (qlim_callv (n := 0) (As := []) (rest := [qI z]) (o := 82) rfl rfl rfl (Nat.le_of_ble_eq_true rfl) (Nat.le_of_ble_eq_true rfl) rfl).trans ?_
  rw [e2, qbd_some]
  refine Eq.trans (b := qlim (C_law L xs) (1322, qLl i, [], qH0 M2)) (qs_iceq_t rfl) ?_
  exact ql_end hi hL
set_option maxRecDepth 20000 in
theorem lw_c8 {L : Nat} {xs : Nat → Int32} {i : Nat} {M : qMem} (hL : L ≤ 3072) (hi : i + 6 ≤ L) (h : qInv M) : ∃ M2 : qMem, qInv M2 ∧ qlim (C_law L xs) (458, qLl i, [], qH0 M) = qlim (C_law L xs) (18, qLl (i + 6), [], qH0 M2) := by
  have hs : qStep S_X11_told S_X12_told [qI (qx xs (i + 1))] M := step_told h
  obtain ⟨v, M1, M2, e1, e2, hI⟩ := hs
  obtain ⟨z, rfl⟩ := V_told e1
  refine ⟨M2, hI, ?_⟩
  refine (qlim_n (n := 1) (c' := (459, qLl i, [qA 0], qH0 M)) rfl).trans ?_
  refine Eq.trans (b := qlim (C_law L xs) (464, qLl i, [qI (qx xs (i + 1)), qA 0], qH0 M)) (ql_arg (j := 1) rfl rfl rfl rfl rfl rfl hi (by decide) hL) ?_
  refine (qlim_callv (n := 1) (As := [qI (qx xs (i + 1))]) (rest := []) (o := 0) rfl rfl rfl (Nat.le_of_ble_eq_true rfl) (Nat.le_of_ble_eq_true rfl) rfl).trans ?_
  rw [e1, qbd_some]
  refine (qlim_n (n := 1) (c' := (468, qLl i, [qA 82, qI z], qH0 M1)) rfl).trans ?_
  refine Eq.trans (b := qlim (C_law L xs) (473, qLl i, [qI (qx xs (i + 1)), qA 82, qI z], qH0 M1)) (ql_arg (j := 1) rfl rfl rfl rfl rfl rfl hi (by decide) hL) ?_
  refine (qlim_callv (n := 1) (As := [qI (qx xs (i + 1))]) (rest := [qI z]) (o := 82) rfl rfl rfl (Nat.le_of_ble_eq_true rfl) (Nat.le_of_ble_eq_true rfl) rfl).trans ?_
  rw [e2, qbd_some]
  refine Eq.trans (b := qlim (C_law L xs) (1322, qLl i, [], qH0 M2)) (qs_iceq_t rfl) ?_
  exact ql_end hi hL
set_option maxRecDepth 20000 in
theorem lw_c9 {L : Nat} {xs : Nat → Int32} {i : Nat} {M : qMem} (hL : L ≤ 3072) (hi : i + 6 ≤ L) (h : qInv M) : ∃ M2 : qMem, qInv M2 ∧ qlim (C_law L xs) (481, qLl i, [], qH0 M) = qlim (C_law L xs) (18, qLl (i + 6), [], qH0 M2) := by
  have hs : qStep S_X11_pass S_X12_pass [qI (qx xs (i + 1))] M := step_pass h
  obtain ⟨v, M1, M2, e1, e2, hI⟩ := hs
  obtain ⟨z, rfl⟩ := V_pass e1
  refine ⟨M2, hI, ?_⟩
  refine (qlim_n (n := 1) (c' := (482, qLl i, [qA 0], qH0 M)) rfl).trans ?_
  refine Eq.trans (b := qlim (C_law L xs) (487, qLl i, [qI (qx xs (i + 1)), qA 0], qH0 M)) (ql_arg (j := 1) rfl rfl rfl rfl rfl rfl hi (by decide) hL) ?_
  refine (qlim_callv (n := 1) (As := [qI (qx xs (i + 1))]) (rest := []) (o := 0) rfl rfl rfl (Nat.le_of_ble_eq_true rfl) (Nat.le_of_ble_eq_true rfl) rfl).trans ?_
  rw [e1, qbd_some]
  refine (qlim_n (n := 1) (c' := (491, qLl i, [qA 82, qI z], qH0 M1)) rfl).trans ?_
  refine Eq.trans (b := qlim (C_law L xs) (496, qLl i, [qI (qx xs (i + 1)), qA 82, qI z], qH0 M1)) (ql_arg (j := 1) rfl rfl rfl rfl rfl rfl hi (by decide) hL) ?_
  refine (qlim_callv (n := 1) (As := [qI (qx xs (i + 1))]) (rest := [qI z]) (o := 82) rfl rfl rfl (Nat.le_of_ble_eq_true rfl) (Nat.le_of_ble_eq_true rfl) rfl).trans ?_
  rw [e2, qbd_some]
  refine Eq.trans (b := qlim (C_law L xs) (1322, qLl i, [], qH0 M2)) (qs_iceq_t rfl) ?_
  exact ql_end hi hL
set_option maxRecDepth 20000 in
theorem lw_c10 {L : Nat} {xs : Nat → Int32} {i : Nat} {M : qMem} (hL : L ≤ 3072) (hi : i + 6 ≤ L) (h : qInv M) : ∃ M2 : qMem, qInv M2 ∧ qlim (C_law L xs) (504, qLl i, [], qH0 M) = qlim (C_law L xs) (18, qLl (i + 6), [], qH0 M2) := by
  have hs : qStep S_X11_on S_X12_on [qI (qx xs (i + 1)), qI (qx xs (i + 2))] M := step_on h (qint_rg _).2
  obtain ⟨v, M1, M2, e1, e2, hI⟩ := hs
  obtain ⟨z, rfl⟩ := V_on e1
  refine ⟨M2, hI, ?_⟩
  refine (qlim_n (n := 1) (c' := (505, qLl i, [qA 0], qH0 M)) rfl).trans ?_
  refine Eq.trans (b := qlim (C_law L xs) (510, qLl i, [qI (qx xs (i + 1)), qA 0], qH0 M)) (ql_arg (j := 1) rfl rfl rfl rfl rfl rfl hi (by decide) hL) ?_
  refine Eq.trans (b := qlim (C_law L xs) (515, qLl i, [qI (qx xs (i + 2)), qI (qx xs (i + 1)), qA 0], qH0 M)) (ql_arg (j := 2) rfl rfl rfl rfl rfl rfl hi (by decide) hL) ?_
  refine (qlim_callv (n := 2) (As := [qI (qx xs (i + 1)), qI (qx xs (i + 2))]) (rest := []) (o := 0) rfl rfl rfl (Nat.le_of_ble_eq_true rfl) (Nat.le_of_ble_eq_true rfl) rfl).trans ?_
  rw [e1, qbd_some]
  refine (qlim_n (n := 1) (c' := (519, qLl i, [qA 82, qI z], qH0 M1)) rfl).trans ?_
  refine Eq.trans (b := qlim (C_law L xs) (524, qLl i, [qI (qx xs (i + 1)), qA 82, qI z], qH0 M1)) (ql_arg (j := 1) rfl rfl rfl rfl rfl rfl hi (by decide) hL) ?_
  refine Eq.trans (b := qlim (C_law L xs) (529, qLl i, [qI (qx xs (i + 2)), qI (qx xs (i + 1)), qA 82, qI z], qH0 M1)) (ql_arg (j := 2) rfl rfl rfl rfl rfl rfl hi (by decide) hL) ?_
  refine (qlim_callv (n := 2) (As := [qI (qx xs (i + 1)), qI (qx xs (i + 2))]) (rest := [qI z]) (o := 82) rfl rfl rfl (Nat.le_of_ble_eq_true rfl) (Nat.le_of_ble_eq_true rfl) rfl).trans ?_
  rw [e2, qbd_some]
  refine Eq.trans (b := qlim (C_law L xs) (1322, qLl i, [], qH0 M2)) (qs_iceq_t rfl) ?_
  exact ql_end hi hL
set_option maxRecDepth 20000 in
theorem lw_c11 {L : Nat} {xs : Nat → Int32} {i : Nat} {M : qMem} (hL : L ≤ 3072) (hi : i + 6 ≤ L) (h : qInv M) : ∃ M2 : qMem, qInv M2 ∧ qlim (C_law L xs) (537, qLl i, [], qH0 M) = qlim (C_law L xs) (18, qLl (i + 6), [], qH0 M2) := by
  have hs : qStep S_X11_ready S_X12_ready [qI (qx xs (i + 1))] M := step_ready h
  obtain ⟨v, M1, M2, e1, e2, hI⟩ := hs
  obtain ⟨z, rfl⟩ := V_ready e1
  refine ⟨M2, hI, ?_⟩
  refine (qlim_n (n := 1) (c' := (538, qLl i, [qA 0], qH0 M)) rfl).trans ?_
  refine Eq.trans (b := qlim (C_law L xs) (543, qLl i, [qI (qx xs (i + 1)), qA 0], qH0 M)) (ql_arg (j := 1) rfl rfl rfl rfl rfl rfl hi (by decide) hL) ?_
  refine (qlim_callv (n := 1) (As := [qI (qx xs (i + 1))]) (rest := []) (o := 0) rfl rfl rfl (Nat.le_of_ble_eq_true rfl) (Nat.le_of_ble_eq_true rfl) rfl).trans ?_
  rw [e1, qbd_some]
  refine (qlim_n (n := 1) (c' := (547, qLl i, [qA 82, qI z], qH0 M1)) rfl).trans ?_
  refine Eq.trans (b := qlim (C_law L xs) (552, qLl i, [qI (qx xs (i + 1)), qA 82, qI z], qH0 M1)) (ql_arg (j := 1) rfl rfl rfl rfl rfl rfl hi (by decide) hL) ?_
  refine (qlim_callv (n := 1) (As := [qI (qx xs (i + 1))]) (rest := [qI z]) (o := 82) rfl rfl rfl (Nat.le_of_ble_eq_true rfl) (Nat.le_of_ble_eq_true rfl) rfl).trans ?_
  rw [e2, qbd_some]
  refine Eq.trans (b := qlim (C_law L xs) (1322, qLl i, [], qH0 M2)) (qs_iceq_t rfl) ?_
  exact ql_end hi hL
set_option maxRecDepth 20000 in
theorem lw_c12 {L : Nat} {xs : Nat → Int32} {i : Nat} {M : qMem} (hL : L ≤ 3072) (hi : i + 6 ≤ L) (h : qInv M) : ∃ M2 : qMem, qInv M2 ∧ qlim (C_law L xs) (560, qLl i, [], qH0 M) = qlim (C_law L xs) (18, qLl (i + 6), [], qH0 M2) := by
  have hs : qStep S_X11_best S_X12_best [qI (qx xs (i + 1))] M := step_best h
  obtain ⟨v, M1, M2, e1, e2, hI⟩ := hs
  obtain ⟨z, rfl⟩ := V_best e1
  refine ⟨M2, hI, ?_⟩
  refine (qlim_n (n := 1) (c' := (561, qLl i, [qA 0], qH0 M)) rfl).trans ?_
  refine Eq.trans (b := qlim (C_law L xs) (566, qLl i, [qI (qx xs (i + 1)), qA 0], qH0 M)) (ql_arg (j := 1) rfl rfl rfl rfl rfl rfl hi (by decide) hL) ?_
  refine (qlim_callv (n := 1) (As := [qI (qx xs (i + 1))]) (rest := []) (o := 0) rfl rfl rfl (Nat.le_of_ble_eq_true rfl) (Nat.le_of_ble_eq_true rfl) rfl).trans ?_
  rw [e1, qbd_some]
  refine (qlim_n (n := 1) (c' := (570, qLl i, [qA 82, qI z], qH0 M1)) rfl).trans ?_
  refine Eq.trans (b := qlim (C_law L xs) (575, qLl i, [qI (qx xs (i + 1)), qA 82, qI z], qH0 M1)) (ql_arg (j := 1) rfl rfl rfl rfl rfl rfl hi (by decide) hL) ?_
  refine (qlim_callv (n := 1) (As := [qI (qx xs (i + 1))]) (rest := [qI z]) (o := 82) rfl rfl rfl (Nat.le_of_ble_eq_true rfl) (Nat.le_of_ble_eq_true rfl) rfl).trans ?_
  rw [e2, qbd_some]
  refine Eq.trans (b := qlim (C_law L xs) (1322, qLl i, [], qH0 M2)) (qs_iceq_t rfl) ?_
  exact ql_end hi hL
set_option maxRecDepth 20000 in
theorem lw_c13 {L : Nat} {xs : Nat → Int32} {i : Nat} {M : qMem} (hL : L ≤ 3072) (hi : i + 6 ≤ L) (h : qInv M) : ∃ M2 : qMem, qInv M2 ∧ qlim (C_law L xs) (583, qLl i, [], qH0 M) = qlim (C_law L xs) (18, qLl (i + 6), [], qH0 M2) := by
  have hs : qStep S_X11_when S_X12_when [qI (qx xs (i + 1)), qI (qx xs (i + 2))] M := step_when h
  obtain ⟨v, M1, M2, e1, e2, hI⟩ := hs
  obtain ⟨z, rfl⟩ := V_when e1
  refine ⟨M2, hI, ?_⟩
  refine (qlim_n (n := 1) (c' := (584, qLl i, [qA 0], qH0 M)) rfl).trans ?_
  refine Eq.trans (b := qlim (C_law L xs) (589, qLl i, [qI (qx xs (i + 1)), qA 0], qH0 M)) (ql_arg (j := 1) rfl rfl rfl rfl rfl rfl hi (by decide) hL) ?_
  refine Eq.trans (b := qlim (C_law L xs) (594, qLl i, [qI (qx xs (i + 2)), qI (qx xs (i + 1)), qA 0], qH0 M)) (ql_arg (j := 2) rfl rfl rfl rfl rfl rfl hi (by decide) hL) ?_
  refine (qlim_callv (n := 2) (As := [qI (qx xs (i + 1)), qI (qx xs (i + 2))]) (rest := []) (o := 0) rfl rfl rfl (Nat.le_of_ble_eq_true rfl) (Nat.le_of_ble_eq_true rfl) rfl).trans ?_
  rw [e1, qbd_some]
  refine (qlim_n (n := 1) (c' := (598, qLl i, [qA 82, qI z], qH0 M1)) rfl).trans ?_
  refine Eq.trans (b := qlim (C_law L xs) (603, qLl i, [qI (qx xs (i + 1)), qA 82, qI z], qH0 M1)) (ql_arg (j := 1) rfl rfl rfl rfl rfl rfl hi (by decide) hL) ?_
  refine Eq.trans (b := qlim (C_law L xs) (608, qLl i, [qI (qx xs (i + 2)), qI (qx xs (i + 1)), qA 82, qI z], qH0 M1)) (ql_arg (j := 2) rfl rfl rfl rfl rfl rfl hi (by decide) hL) ?_
  refine (qlim_callv (n := 2) (As := [qI (qx xs (i + 1)), qI (qx xs (i + 2))]) (rest := [qI z]) (o := 82) rfl rfl rfl (Nat.le_of_ble_eq_true rfl) (Nat.le_of_ble_eq_true rfl) rfl).trans ?_
  rw [e2, qbd_some]
  refine Eq.trans (b := qlim (C_law L xs) (1322, qLl i, [], qH0 M2)) (qs_iceq_t rfl) ?_
  exact ql_end hi hL
