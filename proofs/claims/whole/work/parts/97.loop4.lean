set_option maxRecDepth 20000 in
theorem lw_c21 {L : Nat} {xs : Nat → Int32} {i : Nat} {M : qMem} (hL : L ≤ 3072) (hi : i + 6 ≤ L) (h : qInv M) : ∃ M2 : qMem, qInv M2 ∧ qlim (C_law L xs) (859, qLl i, [], qH0 M) = qlim (C_law L xs) (18, qLl (i + 6), [], qH0 M2) := by
  have hs : qStep S_X11_ends S_X12_ends [qI (qx xs (i + 1))] M := step_ends h
  obtain ⟨v, M1, M2, e1, e2, hI⟩ := hs
  obtain ⟨z, rfl⟩ := V_ends e1
  refine ⟨M2, hI, ?_⟩
  refine (qlim_n (n := 1) (c' := (860, qLl i, [qA 0], qH0 M)) rfl).trans ?_
  refine Eq.trans (b := qlim (C_law L xs) (865, qLl i, [qI (qx xs (i + 1)), qA 0], qH0 M)) (ql_arg (j := 1) rfl rfl rfl rfl rfl rfl hi (by decide) hL) ?_
  refine (qlim_callv (n := 1) (As := [qI (qx xs (i + 1))]) (rest := []) (o := 0) rfl rfl rfl (Nat.le_of_ble_eq_true rfl) (Nat.le_of_ble_eq_true rfl) rfl).trans ?_
  rw [e1, qbd_some]
  refine (qlim_n (n := 1) (c' := (869, qLl i, [qA 82, qI z], qH0 M1)) rfl).trans ?_
  refine Eq.trans (b := qlim (C_law L xs) (874, qLl i, [qI (qx xs (i + 1)), qA 82, qI z], qH0 M1)) (ql_arg (j := 1) rfl rfl rfl rfl rfl rfl hi (by decide) hL) ?_
  refine (qlim_callv (n := 1) (As := [qI (qx xs (i + 1))]) (rest := [qI z]) (o := 82) rfl rfl rfl (Nat.le_of_ble_eq_true rfl) (Nat.le_of_ble_eq_true rfl) rfl).trans ?_
  rw [e2, qbd_some]
  refine Eq.trans (b := qlim (C_law L xs) (1322, qLl i, [], qH0 M2)) (qs_iceq_t rfl) ?_
  exact ql_end hi hL
set_option maxRecDepth 20000 in
theorem lw_c22 {L : Nat} {xs : Nat → Int32} {i : Nat} {M : qMem} (hL : L ≤ 3072) (hi : i + 6 ≤ L) (h : qInv M) : ∃ M2 : qMem, qInv M2 ∧ qlim (C_law L xs) (882, qLl i, [], qH0 M) = qlim (C_law L xs) (18, qLl (i + 6), [], qH0 M2) := by
  have hs : qStep S_X11_book S_X12_book [qI (qx xs (i + 1)), qI (qx xs (i + 2))] M := step_book h
  obtain ⟨v, M1, M2, e1, e2, hI⟩ := hs
  obtain ⟨z, rfl⟩ := V_book e1
  refine ⟨M2, hI, ?_⟩
  refine (qlim_n (n := 1) (c' := (883, qLl i, [qA 0], qH0 M)) rfl).trans ?_
  refine Eq.trans (b := qlim (C_law L xs) (888, qLl i, [qI (qx xs (i + 1)), qA 0], qH0 M)) (ql_arg (j := 1) rfl rfl rfl rfl rfl rfl hi (by decide) hL) ?_
  refine Eq.trans (b := qlim (C_law L xs) (893, qLl i, [qI (qx xs (i + 2)), qI (qx xs (i + 1)), qA 0], qH0 M)) (ql_arg (j := 2) rfl rfl rfl rfl rfl rfl hi (by decide) hL) ?_
  refine (qlim_callv (n := 2) (As := [qI (qx xs (i + 1)), qI (qx xs (i + 2))]) (rest := []) (o := 0) rfl rfl rfl (Nat.le_of_ble_eq_true rfl) (Nat.le_of_ble_eq_true rfl) rfl).trans ?_
  rw [e1, qbd_some]
  refine (qlim_n (n := 1) (c' := (897, qLl i, [qA 82, qI z], qH0 M1)) rfl).trans ?_
  refine Eq.trans (b := qlim (C_law L xs) (902, qLl i, [qI (qx xs (i + 1)), qA 82, qI z], qH0 M1)) (ql_arg (j := 1) rfl rfl rfl rfl rfl rfl hi (by decide) hL) ?_
  refine Eq.trans (b := qlim (C_law L xs) (907, qLl i, [qI (qx xs (i + 2)), qI (qx xs (i + 1)), qA 82, qI z], qH0 M1)) (ql_arg (j := 2) rfl rfl rfl rfl rfl rfl hi (by decide) hL) ?_
  refine (qlim_callv (n := 2) (As := [qI (qx xs (i + 1)), qI (qx xs (i + 2))]) (rest := [qI z]) (o := 82) rfl rfl rfl (Nat.le_of_ble_eq_true rfl) (Nat.le_of_ble_eq_true rfl) rfl).trans ?_
  rw [e2, qbd_some]
  refine Eq.trans (b := qlim (C_law L xs) (1322, qLl i, [], qH0 M2)) (qs_iceq_t rfl) ?_
  exact ql_end hi hL
set_option maxRecDepth 20000 in
theorem lw_c23 {L : Nat} {xs : Nat → Int32} {i : Nat} {M : qMem} (hL : L ≤ 3072) (hi : i + 6 ≤ L) (h : qInv M) : ∃ M2 : qMem, qInv M2 ∧ qlim (C_law L xs) (915, qLl i, [], qH0 M) = qlim (C_law L xs) (18, qLl (i + 6), [], qH0 M2) := by
  have hs : qStep S_X11_looked S_X12_looked [] M := step_looked h
  obtain ⟨v, M1, M2, e1, e2, hI⟩ := hs
  obtain ⟨z, rfl⟩ := V_looked e1
  refine ⟨M2, hI, ?_⟩
  refine (qlim_n (n := 1) (c' := (916, qLl i, [qA 0], qH0 M)) rfl).trans ?_
  refine (qlim_callv (n := 0) (As := []) (rest := []) (o := 0) rfl rfl rfl (Nat.le_of_ble_eq_true rfl) (Nat.le_of_ble_eq_true rfl) rfl).trans ?_
  rw [e1, qbd_some]
  refine (qlim_n (n := 1) (c' := (920, qLl i, [qA 82, qI z], qH0 M1)) rfl).trans ?_
  refine (qlim_callv (n := 0) (As := []) (rest := [qI z]) (o := 82) rfl rfl rfl (Nat.le_of_ble_eq_true rfl) (Nat.le_of_ble_eq_true rfl) rfl).trans ?_
  rw [e2, qbd_some]
  refine Eq.trans (b := qlim (C_law L xs) (1322, qLl i, [], qH0 M2)) (qs_iceq_t rfl) ?_
  exact ql_end hi hL
set_option maxRecDepth 20000 in
theorem lw_c24 {L : Nat} {xs : Nat → Int32} {i : Nat} {M : qMem} (hL : L ≤ 3072) (hi : i + 6 ≤ L) (h : qInv M) : ∃ M2 : qMem, qInv M2 ∧ qlim (C_law L xs) (928, qLl i, [], qH0 M) = qlim (C_law L xs) (18, qLl (i + 6), [], qH0 M2) := by
  have hs : qStep S_X11_judge S_X12_judge [qI (qx xs (i + 1)), qI (qx xs (i + 2))] M := step_judge h (qint_rg _).2
  obtain ⟨v, M1, M2, e1, e2, hI⟩ := hs
  obtain ⟨z, rfl⟩ := V_judge e1
  refine ⟨M2, hI, ?_⟩
  refine (qlim_n (n := 1) (c' := (929, qLl i, [qA 0], qH0 M)) rfl).trans ?_
  refine Eq.trans (b := qlim (C_law L xs) (934, qLl i, [qI (qx xs (i + 1)), qA 0], qH0 M)) (ql_arg (j := 1) rfl rfl rfl rfl rfl rfl hi (by decide) hL) ?_
  refine Eq.trans (b := qlim (C_law L xs) (939, qLl i, [qI (qx xs (i + 2)), qI (qx xs (i + 1)), qA 0], qH0 M)) (ql_arg (j := 2) rfl rfl rfl rfl rfl rfl hi (by decide) hL) ?_
  refine (qlim_callv (n := 2) (As := [qI (qx xs (i + 1)), qI (qx xs (i + 2))]) (rest := []) (o := 0) rfl rfl rfl (Nat.le_of_ble_eq_true rfl) (Nat.le_of_ble_eq_true rfl) rfl).trans ?_
  rw [e1, qbd_some]
  refine (qlim_n (n := 1) (c' := (943, qLl i, [qA 82, qI z], qH0 M1)) rfl).trans ?_
  refine Eq.trans (b := qlim (C_law L xs) (948, qLl i, [qI (qx xs (i + 1)), qA 82, qI z], qH0 M1)) (ql_arg (j := 1) rfl rfl rfl rfl rfl rfl hi (by decide) hL) ?_
  refine Eq.trans (b := qlim (C_law L xs) (953, qLl i, [qI (qx xs (i + 2)), qI (qx xs (i + 1)), qA 82, qI z], qH0 M1)) (ql_arg (j := 2) rfl rfl rfl rfl rfl rfl hi (by decide) hL) ?_
  refine (qlim_callv (n := 2) (As := [qI (qx xs (i + 1)), qI (qx xs (i + 2))]) (rest := [qI z]) (o := 82) rfl rfl rfl (Nat.le_of_ble_eq_true rfl) (Nat.le_of_ble_eq_true rfl) rfl).trans ?_
  rw [e2, qbd_some]
  refine Eq.trans (b := qlim (C_law L xs) (1322, qLl i, [], qH0 M2)) (qs_iceq_t rfl) ?_
  exact ql_end hi hL
set_option maxRecDepth 20000 in
theorem lw_c25 {L : Nat} {xs : Nat → Int32} {i : Nat} {M : qMem} (hL : L ≤ 3072) (hi : i + 6 ≤ L) (h : qInv M) : ∃ M2 : qMem, qInv M2 ∧ qlim (C_law L xs) (961, qLl i, [], qH0 M) = qlim (C_law L xs) (18, qLl (i + 6), [], qH0 M2) := by
  have hs : qStep S_X11_image S_X12_image [] M := step_image h
  obtain ⟨v, M1, M2, e1, e2, hI⟩ := hs
  obtain ⟨z, rfl⟩ := V_image e1
  refine ⟨M2, hI, ?_⟩
  refine (qlim_n (n := 1) (c' := (962, qLl i, [qA 0], qH0 M)) rfl).trans ?_
  refine (qlim_callv (n := 0) (As := []) (rest := []) (o := 0) rfl rfl rfl (Nat.le_of_ble_eq_true rfl) (Nat.le_of_ble_eq_true rfl) rfl).trans ?_
  rw [e1, qbd_some]
  refine (qlim_n (n := 1) (c' := (966, qLl i, [qA 82, qI z], qH0 M1)) rfl).trans ?_
  refine (qlim_callv (n := 0) (As := []) (rest := [qI z]) (o := 82) rfl rfl rfl (Nat.le_of_ble_eq_true rfl) (Nat.le_of_ble_eq_true rfl) rfl).trans ?_
  rw [e2, qbd_some]
  refine Eq.trans (b := qlim (C_law L xs) (1322, qLl i, [], qH0 M2)) (qs_iceq_t rfl) ?_
  exact ql_end hi hL
set_option maxRecDepth 20000 in
theorem lw_c26 {L : Nat} {xs : Nat → Int32} {i : Nat} {M : qMem} (hL : L ≤ 3072) (hi : i + 6 ≤ L) (h : qInv M) : ∃ M2 : qMem, qInv M2 ∧ qlim (C_law L xs) (974, qLl i, [], qH0 M) = qlim (C_law L xs) (18, qLl (i + 6), [], qH0 M2) := by
  have hs : qStep S_X11_undo S_X12_undo [] M := step_undo h
  obtain ⟨v, M1, M2, e1, e2, hI⟩ := hs
  obtain ⟨z, rfl⟩ := V_undo e1
  refine ⟨M2, hI, ?_⟩
  refine (qlim_n (n := 1) (c' := (975, qLl i, [qA 0], qH0 M)) rfl).trans ?_
  refine (qlim_callv (n := 0) (As := []) (rest := []) (o := 0) rfl rfl rfl (Nat.le_of_ble_eq_true rfl) (Nat.le_of_ble_eq_true rfl) rfl).trans ?_
  rw [e1, qbd_some]
  refine (qlim_n (n := 1) (c' := (979, qLl i, [qA 82, qI z], qH0 M1)) rfl).trans ?_
  refine (qlim_callv (n := 0) (As := []) (rest := [qI z]) (o := 82) rfl rfl rfl (Nat.le_of_ble_eq_true rfl) (Nat.le_of_ble_eq_true rfl) rfl).trans ?_
  rw [e2, qbd_some]
  refine Eq.trans (b := qlim (C_law L xs) (1322, qLl i, [], qH0 M2)) (qs_iceq_t rfl) ?_
  exact ql_end hi hL
set_option maxRecDepth 20000 in
theorem lw_c27 {L : Nat} {xs : Nat → Int32} {i : Nat} {M : qMem} (hL : L ≤ 3072) (hi : i + 6 ≤ L) (h : qInv M) : ∃ M2 : qMem, qInv M2 ∧ qlim (C_law L xs) (987, qLl i, [], qH0 M) = qlim (C_law L xs) (18, qLl (i + 6), [], qH0 M2) := by
  have hs : qStep S_X11_act S_X12_act [qI (qx xs (i + 1)), qI (qx xs (i + 2)), qI (qx xs (i + 3))] M := step_act h
  obtain ⟨v, M1, M2, e1, e2, hI⟩ := hs
  obtain ⟨z, rfl⟩ := V_act e1
  refine ⟨M2, hI, ?_⟩
  refine (qlim_n (n := 1) (c' := (988, qLl i, [qA 0], qH0 M)) rfl).trans ?_
  refine Eq.trans (b := qlim (C_law L xs) (993, qLl i, [qI (qx xs (i + 1)), qA 0], qH0 M)) (ql_arg (j := 1) rfl rfl rfl rfl rfl rfl hi (by decide) hL) ?_
  refine Eq.trans (b := qlim (C_law L xs) (998, qLl i, [qI (qx xs (i + 2)), qI (qx xs (i + 1)), qA 0], qH0 M)) (ql_arg (j := 2) rfl rfl rfl rfl rfl rfl hi (by decide) hL) ?_
  refine Eq.trans (b := qlim (C_law L xs) (1003, qLl i, [qI (qx xs (i + 3)), qI (qx xs (i + 2)), qI (qx xs (i + 1)), qA 0], qH0 M)) (ql_arg (j := 3) rfl rfl rfl rfl rfl rfl hi (by decide) hL) ?_
  refine (qlim_callv (n := 3) (As := [qI (qx xs (i + 1)), qI (qx xs (i + 2)), qI (qx xs (i + 3))]) (rest := []) (o := 0) rfl rfl rfl (Nat.le_of_ble_eq_true rfl) (Nat.le_of_ble_eq_true rfl) rfl).trans ?_
  rw [e1, qbd_some]
  refine (qlim_n (n := 1) (c' := (1007, qLl i, [qA 82, qI z], qH0 M1)) rfl).trans ?_
  refine Eq.trans (b := qlim (C_law L xs) (1012, qLl i, [qI (qx xs (i + 1)), qA 82, qI z], qH0 M1)) (ql_arg (j := 1) rfl rfl rfl rfl rfl rfl hi (by decide) hL) ?_
  refine Eq.trans (b := qlim (C_law L xs) (1017, qLl i, [qI (qx xs (i + 2)), qI (qx xs (i + 1)), qA 82, qI z], qH0 M1)) (ql_arg (j := 2) rfl rfl rfl rfl rfl rfl hi (by decide) hL) ?_
  refine Eq.trans (b := qlim (C_law L xs) (1022, qLl i, [qI (qx xs (i + 3)), qI (qx xs (i + 2)), qI (qx xs (i + 1)), qA 82, qI z], qH0 M1)) (ql_arg (j := 3) rfl rfl rfl rfl rfl rfl hi (by decide) hL) ?_
  refine (qlim_callv (n := 3) (As := [qI (qx xs (i + 1)), qI (qx xs (i + 2)), qI (qx xs (i + 3))]) (rest := [qI z]) (o := 82) rfl rfl rfl (Nat.le_of_ble_eq_true rfl) (Nat.le_of_ble_eq_true rfl) rfl).trans ?_
  rw [e2, qbd_some]
  refine Eq.trans (b := qlim (C_law L xs) (1322, qLl i, [], qH0 M2)) (qs_iceq_t rfl) ?_
  exact ql_end hi hL
