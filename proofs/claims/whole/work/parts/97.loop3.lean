set_option maxRecDepth 20000 in
theorem lw_c14 {L : Nat} {xs : Nat → Int32} {i : Nat} {M : qMem} (hL : L ≤ 3072) (hi : i + 6 ≤ L) (h : qInv M) : ∃ M2 : qMem, qInv M2 ∧ qlim (C_law L xs) (616, qLl i, [], qH0 M) = qlim (C_law L xs) (18, qLl (i + 6), [], qH0 M2) := by
  have hs : qStep S_X11_without S_X12_without [qI (qx xs (i + 1))] M := step_without h
  obtain ⟨v, M1, M2, e1, e2, hI⟩ := hs
  obtain ⟨z, rfl⟩ := V_without e1
  refine ⟨M2, hI, ?_⟩
  refine (qlim_n (n := 1) (c' := (617, qLl i, [qA 0], qH0 M)) rfl).trans ?_
  refine Eq.trans (b := qlim (C_law L xs) (622, qLl i, [qI (qx xs (i + 1)), qA 0], qH0 M)) (ql_arg (j := 1) rfl rfl rfl rfl rfl rfl hi (by decide) hL) ?_
  refine (qlim_callv (n := 1) (As := [qI (qx xs (i + 1))]) (rest := []) (o := 0) rfl rfl rfl (Nat.le_of_ble_eq_true rfl) (Nat.le_of_ble_eq_true rfl) rfl).trans ?_
  rw [e1, qbd_some]
  refine (qlim_n (n := 1) (c' := (626, qLl i, [qA 82, qI z], qH0 M1)) rfl).trans ?_
  refine Eq.trans (b := qlim (C_law L xs) (631, qLl i, [qI (qx xs (i + 1)), qA 82, qI z], qH0 M1)) (ql_arg (j := 1) rfl rfl rfl rfl rfl rfl hi (by decide) hL) ?_
  refine (qlim_callv (n := 1) (As := [qI (qx xs (i + 1))]) (rest := [qI z]) (o := 82) rfl rfl rfl (Nat.le_of_ble_eq_true rfl) (Nat.le_of_ble_eq_true rfl) rfl).trans ?_
  rw [e2, qbd_some]
  refine Eq.trans (b := qlim (C_law L xs) (1322, qLl i, [], qH0 M2)) (qs_iceq_t rfl) ?_
  exact ql_end hi hL
set_option maxRecDepth 20000 in
theorem lw_c15 {L : Nat} {xs : Nat → Int32} {i : Nat} {M : qMem} (hL : L ≤ 3072) (hi : i + 6 ≤ L) (h : qInv M) : ∃ M2 : qMem, qInv M2 ∧ qlim (C_law L xs) (639, qLl i, [], qH0 M) = qlim (C_law L xs) (18, qLl (i + 6), [], qH0 M2) := by
  have hs : qStep S_X11_see S_X12_see [qI (qx xs (i + 1)), qI (qx xs (i + 2)), qI (qx xs (i + 3))] M := step_see h
  obtain ⟨v, M1, M2, e1, e2, hI⟩ := hs
  obtain ⟨z, rfl⟩ := V_see e1
  refine ⟨M2, hI, ?_⟩
  refine (qlim_n (n := 1) (c' := (640, qLl i, [qA 0], qH0 M)) rfl).trans ?_
  refine Eq.trans (b := qlim (C_law L xs) (645, qLl i, [qI (qx xs (i + 1)), qA 0], qH0 M)) (ql_arg (j := 1) rfl rfl rfl rfl rfl rfl hi (by decide) hL) ?_
  refine Eq.trans (b := qlim (C_law L xs) (650, qLl i, [qI (qx xs (i + 2)), qI (qx xs (i + 1)), qA 0], qH0 M)) (ql_arg (j := 2) rfl rfl rfl rfl rfl rfl hi (by decide) hL) ?_
  refine Eq.trans (b := qlim (C_law L xs) (655, qLl i, [qI (qx xs (i + 3)), qI (qx xs (i + 2)), qI (qx xs (i + 1)), qA 0], qH0 M)) (ql_arg (j := 3) rfl rfl rfl rfl rfl rfl hi (by decide) hL) ?_
  refine (qlim_callv (n := 3) (As := [qI (qx xs (i + 1)), qI (qx xs (i + 2)), qI (qx xs (i + 3))]) (rest := []) (o := 0) rfl rfl rfl (Nat.le_of_ble_eq_true rfl) (Nat.le_of_ble_eq_true rfl) rfl).trans ?_
  rw [e1, qbd_some]
  refine (qlim_n (n := 1) (c' := (659, qLl i, [qA 82, qI z], qH0 M1)) rfl).trans ?_
  refine Eq.trans (b := qlim (C_law L xs) (664, qLl i, [qI (qx xs (i + 1)), qA 82, qI z], qH0 M1)) (ql_arg (j := 1) rfl rfl rfl rfl rfl rfl hi (by decide) hL) ?_
  refine Eq.trans (b := qlim (C_law L xs) (669, qLl i, [qI (qx xs (i + 2)), qI (qx xs (i + 1)), qA 82, qI z], qH0 M1)) (ql_arg (j := 2) rfl rfl rfl rfl rfl rfl hi (by decide) hL) ?_
  refine Eq.trans (b := qlim (C_law L xs) (674, qLl i, [qI (qx xs (i + 3)), qI (qx xs (i + 2)), qI (qx xs (i + 1)), qA 82, qI z], qH0 M1)) (ql_arg (j := 3) rfl rfl rfl rfl rfl rfl hi (by decide) hL) ?_
  refine (qlim_callv (n := 3) (As := [qI (qx xs (i + 1)), qI (qx xs (i + 2)), qI (qx xs (i + 3))]) (rest := [qI z]) (o := 82) rfl rfl rfl (Nat.le_of_ble_eq_true rfl) (Nat.le_of_ble_eq_true rfl) rfl).trans ?_
  rw [e2, qbd_some]
  refine Eq.trans (b := qlim (C_law L xs) (1322, qLl i, [], qH0 M2)) (qs_iceq_t rfl) ?_
  exact ql_end hi hL
set_option maxRecDepth 20000 in
theorem lw_c16 {L : Nat} {xs : Nat → Int32} {i : Nat} {M : qMem} (hL : L ≤ 3072) (hi : i + 6 ≤ L) (h : qInv M) : ∃ M2 : qMem, qInv M2 ∧ qlim (C_law L xs) (682, qLl i, [], qH0 M) = qlim (C_law L xs) (18, qLl (i + 6), [], qH0 M2) := by
  have hs : qStep S_X11_were S_X12_were [qI (qx xs (i + 1)), qI (qx xs (i + 2))] M := step_were h
  obtain ⟨v, M1, M2, e1, e2, hI⟩ := hs
  obtain ⟨z, rfl⟩ := V_were e1
  refine ⟨M2, hI, ?_⟩
  refine (qlim_n (n := 1) (c' := (683, qLl i, [qA 0], qH0 M)) rfl).trans ?_
  refine Eq.trans (b := qlim (C_law L xs) (688, qLl i, [qI (qx xs (i + 1)), qA 0], qH0 M)) (ql_arg (j := 1) rfl rfl rfl rfl rfl rfl hi (by decide) hL) ?_
  refine Eq.trans (b := qlim (C_law L xs) (693, qLl i, [qI (qx xs (i + 2)), qI (qx xs (i + 1)), qA 0], qH0 M)) (ql_arg (j := 2) rfl rfl rfl rfl rfl rfl hi (by decide) hL) ?_
  refine (qlim_callv (n := 2) (As := [qI (qx xs (i + 1)), qI (qx xs (i + 2))]) (rest := []) (o := 0) rfl rfl rfl (Nat.le_of_ble_eq_true rfl) (Nat.le_of_ble_eq_true rfl) rfl).trans ?_
  rw [e1, qbd_some]
  refine (qlim_n (n := 1) (c' := (697, qLl i, [qA 82, qI z], qH0 M1)) rfl).trans ?_
  refine Eq.trans (b := qlim (C_law L xs) (702, qLl i, [qI (qx xs (i + 1)), qA 82, qI z], qH0 M1)) (ql_arg (j := 1) rfl rfl rfl rfl rfl rfl hi (by decide) hL) ?_
  refine Eq.trans (b := qlim (C_law L xs) (707, qLl i, [qI (qx xs (i + 2)), qI (qx xs (i + 1)), qA 82, qI z], qH0 M1)) (ql_arg (j := 2) rfl rfl rfl rfl rfl rfl hi (by decide) hL) ?_
  refine (qlim_callv (n := 2) (As := [qI (qx xs (i + 1)), qI (qx xs (i + 2))]) (rest := [qI z]) (o := 82) rfl rfl rfl (Nat.le_of_ble_eq_true rfl) (Nat.le_of_ble_eq_true rfl) rfl).trans ?_
  rw [e2, qbd_some]
  refine Eq.trans (b := qlim (C_law L xs) (1322, qLl i, [], qH0 M2)) (qs_iceq_t rfl) ?_
  exact ql_end hi hL
set_option maxRecDepth 20000 in
theorem lw_c17 {L : Nat} {xs : Nat → Int32} {i : Nat} {M : qMem} (hL : L ≤ 3072) (hi : i + 6 ≤ L) (h : qInv M) : ∃ M2 : qMem, qInv M2 ∧ qlim (C_law L xs) (715, qLl i, [], qH0 M) = qlim (C_law L xs) (18, qLl (i + 6), [], qH0 M2) := by
  have hs : qStep S_X11_can S_X12_can [qI (qx xs (i + 1)), qI (qx xs (i + 2))] M := step_can h
  obtain ⟨v, M1, M2, e1, e2, hI⟩ := hs
  obtain ⟨z, rfl⟩ := V_can e1
  refine ⟨M2, hI, ?_⟩
  refine (qlim_n (n := 1) (c' := (716, qLl i, [qA 0], qH0 M)) rfl).trans ?_
  refine Eq.trans (b := qlim (C_law L xs) (721, qLl i, [qI (qx xs (i + 1)), qA 0], qH0 M)) (ql_arg (j := 1) rfl rfl rfl rfl rfl rfl hi (by decide) hL) ?_
  refine Eq.trans (b := qlim (C_law L xs) (726, qLl i, [qI (qx xs (i + 2)), qI (qx xs (i + 1)), qA 0], qH0 M)) (ql_arg (j := 2) rfl rfl rfl rfl rfl rfl hi (by decide) hL) ?_
  refine (qlim_callv (n := 2) (As := [qI (qx xs (i + 1)), qI (qx xs (i + 2))]) (rest := []) (o := 0) rfl rfl rfl (Nat.le_of_ble_eq_true rfl) (Nat.le_of_ble_eq_true rfl) rfl).trans ?_
  rw [e1, qbd_some]
  refine (qlim_n (n := 1) (c' := (730, qLl i, [qA 82, qI z], qH0 M1)) rfl).trans ?_
  refine Eq.trans (b := qlim (C_law L xs) (735, qLl i, [qI (qx xs (i + 1)), qA 82, qI z], qH0 M1)) (ql_arg (j := 1) rfl rfl rfl rfl rfl rfl hi (by decide) hL) ?_
  refine Eq.trans (b := qlim (C_law L xs) (740, qLl i, [qI (qx xs (i + 2)), qI (qx xs (i + 1)), qA 82, qI z], qH0 M1)) (ql_arg (j := 2) rfl rfl rfl rfl rfl rfl hi (by decide) hL) ?_
  refine (qlim_callv (n := 2) (As := [qI (qx xs (i + 1)), qI (qx xs (i + 2))]) (rest := [qI z]) (o := 82) rfl rfl rfl (Nat.le_of_ble_eq_true rfl) (Nat.le_of_ble_eq_true rfl) rfl).trans ?_
  rw [e2, qbd_some]
  refine Eq.trans (b := qlim (C_law L xs) (1322, qLl i, [], qH0 M2)) (qs_iceq_t rfl) ?_
  exact ql_end hi hL
set_option maxRecDepth 20000 in
theorem lw_c18 {L : Nat} {xs : Nat → Int32} {i : Nat} {M : qMem} (hL : L ≤ 3072) (hi : i + 6 ≤ L) (h : qInv M) : ∃ M2 : qMem, qInv M2 ∧ qlim (C_law L xs) (748, qLl i, [], qH0 M) = qlim (C_law L xs) (18, qLl (i + 6), [], qH0 M2) := by
  have hs : qStep S_X11_odds S_X12_odds [qI (qx xs (i + 1)), qI (qx xs (i + 2)), qI (qx xs (i + 3))] M := step_odds h
  obtain ⟨v, M1, M2, e1, e2, hI⟩ := hs
  obtain ⟨z, rfl⟩ := V_odds e1
  refine ⟨M2, hI, ?_⟩
  refine (qlim_n (n := 1) (c' := (749, qLl i, [qA 0], qH0 M)) rfl).trans ?_
  refine Eq.trans (b := qlim (C_law L xs) (754, qLl i, [qI (qx xs (i + 1)), qA 0], qH0 M)) (ql_arg (j := 1) rfl rfl rfl rfl rfl rfl hi (by decide) hL) ?_
  refine Eq.trans (b := qlim (C_law L xs) (759, qLl i, [qI (qx xs (i + 2)), qI (qx xs (i + 1)), qA 0], qH0 M)) (ql_arg (j := 2) rfl rfl rfl rfl rfl rfl hi (by decide) hL) ?_
  refine Eq.trans (b := qlim (C_law L xs) (764, qLl i, [qI (qx xs (i + 3)), qI (qx xs (i + 2)), qI (qx xs (i + 1)), qA 0], qH0 M)) (ql_arg (j := 3) rfl rfl rfl rfl rfl rfl hi (by decide) hL) ?_
  refine (qlim_callv (n := 3) (As := [qI (qx xs (i + 1)), qI (qx xs (i + 2)), qI (qx xs (i + 3))]) (rest := []) (o := 0) rfl rfl rfl (Nat.le_of_ble_eq_true rfl) (Nat.le_of_ble_eq_true rfl) rfl).trans ?_
  rw [e1, qbd_some]
  refine (qlim_n (n := 1) (c' := (768, qLl i, [qA 82, qJ z], qH0 M1)) rfl).trans ?_
  refine Eq.trans (b := qlim (C_law L xs) (773, qLl i, [qI (qx xs (i + 1)), qA 82, qJ z], qH0 M1)) (ql_arg (j := 1) rfl rfl rfl rfl rfl rfl hi (by decide) hL) ?_
  refine Eq.trans (b := qlim (C_law L xs) (778, qLl i, [qI (qx xs (i + 2)), qI (qx xs (i + 1)), qA 82, qJ z], qH0 M1)) (ql_arg (j := 2) rfl rfl rfl rfl rfl rfl hi (by decide) hL) ?_
  refine Eq.trans (b := qlim (C_law L xs) (783, qLl i, [qI (qx xs (i + 3)), qI (qx xs (i + 2)), qI (qx xs (i + 1)), qA 82, qJ z], qH0 M1)) (ql_arg (j := 3) rfl rfl rfl rfl rfl rfl hi (by decide) hL) ?_
  refine (qlim_callv (n := 3) (As := [qI (qx xs (i + 1)), qI (qx xs (i + 2)), qI (qx xs (i + 3))]) (rest := [qJ z]) (o := 82) rfl rfl rfl (Nat.le_of_ble_eq_true rfl) (Nat.le_of_ble_eq_true rfl) rfl).trans ?_
  rw [e2, qbd_some]
  refine Eq.trans (b := qlim (C_law L xs) (787, qLl i, [qI 0], qH0 M2)) (qs_lcmp_t rfl) ?_
  refine Eq.trans (b := qlim (C_law L xs) (1322, qLl i, [], qH0 M2)) (qs_ifeq_t rfl) ?_
  exact ql_end hi hL
set_option maxRecDepth 20000 in
theorem lw_c19 {L : Nat} {xs : Nat → Int32} {i : Nat} {M : qMem} (hL : L ≤ 3072) (hi : i + 6 ≤ L) (h : qInv M) : ∃ M2 : qMem, qInv M2 ∧ qlim (C_law L xs) (792, qLl i, [], qH0 M) = qlim (C_law L xs) (18, qLl (i + 6), [], qH0 M2) := by
  have hs : qStep S_X11_mean S_X12_mean [qI (qx xs (i + 1)), qI (qx xs (i + 2))] M := step_mean h
  obtain ⟨v, M1, M2, e1, e2, hI⟩ := hs
  obtain ⟨z, rfl⟩ := V_mean e1
  refine ⟨M2, hI, ?_⟩
  refine (qlim_n (n := 1) (c' := (793, qLl i, [qA 0], qH0 M)) rfl).trans ?_
  refine Eq.trans (b := qlim (C_law L xs) (798, qLl i, [qI (qx xs (i + 1)), qA 0], qH0 M)) (ql_arg (j := 1) rfl rfl rfl rfl rfl rfl hi (by decide) hL) ?_
  refine Eq.trans (b := qlim (C_law L xs) (803, qLl i, [qI (qx xs (i + 2)), qI (qx xs (i + 1)), qA 0], qH0 M)) (ql_arg (j := 2) rfl rfl rfl rfl rfl rfl hi (by decide) hL) ?_
  refine (qlim_callv (n := 2) (As := [qI (qx xs (i + 1)), qI (qx xs (i + 2))]) (rest := []) (o := 0) rfl rfl rfl (Nat.le_of_ble_eq_true rfl) (Nat.le_of_ble_eq_true rfl) rfl).trans ?_
  rw [e1, qbd_some]
  refine (qlim_n (n := 1) (c' := (807, qLl i, [qA 82, qJ z], qH0 M1)) rfl).trans ?_
  refine Eq.trans (b := qlim (C_law L xs) (812, qLl i, [qI (qx xs (i + 1)), qA 82, qJ z], qH0 M1)) (ql_arg (j := 1) rfl rfl rfl rfl rfl rfl hi (by decide) hL) ?_
  refine Eq.trans (b := qlim (C_law L xs) (817, qLl i, [qI (qx xs (i + 2)), qI (qx xs (i + 1)), qA 82, qJ z], qH0 M1)) (ql_arg (j := 2) rfl rfl rfl rfl rfl rfl hi (by decide) hL) ?_
  refine (qlim_callv (n := 2) (As := [qI (qx xs (i + 1)), qI (qx xs (i + 2))]) (rest := [qJ z]) (o := 82) rfl rfl rfl (Nat.le_of_ble_eq_true rfl) (Nat.le_of_ble_eq_true rfl) rfl).trans ?_
  rw [e2, qbd_some]
  refine Eq.trans (b := qlim (C_law L xs) (821, qLl i, [qI 0], qH0 M2)) (qs_lcmp_t rfl) ?_
  refine Eq.trans (b := qlim (C_law L xs) (1322, qLl i, [], qH0 M2)) (qs_ifeq_t rfl) ?_
  exact ql_end hi hL
set_option maxRecDepth 20000 in
theorem lw_c20 {L : Nat} {xs : Nat → Int32} {i : Nat} {M : qMem} (hL : L ≤ 3072) (hi : i + 6 ≤ L) (h : qInv M) : ∃ M2 : qMem, qInv M2 ∧ qlim (C_law L xs) (826, qLl i, [], qH0 M) = qlim (C_law L xs) (18, qLl (i + 6), [], qH0 M2) := by
  have hs : qStep S_X11_evening S_X12_evening [qI (qx xs (i + 1)), qI (qx xs (i + 2))] M := step_evening h
  obtain ⟨v, M1, M2, e1, e2, hI⟩ := hs
  obtain ⟨z, rfl⟩ := V_evening e1
  refine ⟨M2, hI, ?_⟩
  refine (qlim_n (n := 1) (c' := (827, qLl i, [qA 0], qH0 M)) rfl).trans ?_
  refine Eq.trans (b := qlim (C_law L xs) (832, qLl i, [qI (qx xs (i + 1)), qA 0], qH0 M)) (ql_arg (j := 1) rfl rfl rfl rfl rfl rfl hi (by decide) hL) ?_
  refine Eq.trans (b := qlim (C_law L xs) (837, qLl i, [qI (qx xs (i + 2)), qI (qx xs (i + 1)), qA 0], qH0 M)) (ql_arg (j := 2) rfl rfl rfl rfl rfl rfl hi (by decide) hL) ?_
  refine (qlim_callv (n := 2) (As := [qI (qx xs (i + 1)), qI (qx xs (i + 2))]) (rest := []) (o := 0) rfl rfl rfl (Nat.le_of_ble_eq_true rfl) (Nat.le_of_ble_eq_true rfl) rfl).trans ?_
  rw [e1, qbd_some]
  refine (qlim_n (n := 1) (c' := (841, qLl i, [qA 82, qI z], qH0 M1)) rfl).trans ?_
  refine Eq.trans (b := qlim (C_law L xs) (846, qLl i, [qI (qx xs (i + 1)), qA 82, qI z], qH0 M1)) (ql_arg (j := 1) rfl rfl rfl rfl rfl rfl hi (by decide) hL) ?_
  refine Eq.trans (b := qlim (C_law L xs) (851, qLl i, [qI (qx xs (i + 2)), qI (qx xs (i + 1)), qA 82, qI z], qH0 M1)) (ql_arg (j := 2) rfl rfl rfl rfl rfl rfl hi (by decide) hL) ?_
  refine (qlim_callv (n := 2) (As := [qI (qx xs (i + 1)), qI (qx xs (i + 2))]) (rest := [qI z]) (o := 82) rfl rfl rfl (Nat.le_of_ble_eq_true rfl) (Nat.le_of_ble_eq_true rfl) rfl).trans ?_
  rw [e2, qbd_some]
  refine Eq.trans (b := qlim (C_law L xs) (1322, qLl i, [], qH0 M2)) (qs_iceq_t rfl) ?_
  exact ql_end hi hL
