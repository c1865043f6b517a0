set_option maxRecDepth 20000 in
theorem B_X0_begins_0 {M : qMem} {x1 : Int} : qlim C_X0_begins (0, [some (qA 71), some (qI x1)], [], qH0 M) = qlim C_X0_begins ((if 20 ≤ M 71 3 then 22 else 12), [some (qA 71), some (qI x1)], [], qH0 M) := (qlim_n (n := 6) (c' := ((if 20 ≤ M 71 3 then 22 else 12), [some (qA 71), some (qI x1)], [], qH0 M)) rfl)
set_option maxRecDepth 20000 in
theorem B_X0_begins_12 {M : qMem} {x1 : Int} (h1 : 0 ≤ M 71 3) (h2 : M 71 3 < 20) : qlim C_X0_begins (12, [some (qA 71), some (qI x1)], [], qH0 M) = qlim C_X0_begins (22, [some (qA 71), some (qI x1)], [], qH0 (qup M 72 (M 71 3) x1)) := by
  refine Eq.trans (qlim_n (n := 5) (c' := (21, [some (qA 71), some (qI x1)], [qI x1, qI (M 71 3), qA 72], qH0 M)) rfl) ?_
  exact (qs_iastore rfl rfl h1 h2)
set_option maxRecDepth 20000 in
theorem B_X0_begins_22 {M : qMem} {x1 : Int} : qlim C_X0_begins (22, [some (qA 71), some (qI x1)], [], qH0 M) = some (none, qH0 (qup M 71 3 (kadd (M 71 3) 1))) := by
  refine Eq.trans (qlim_n (n := 6) (c' := (32, [some (qA 71), some (qI x1)], [], qH0 (qup M 71 3 (kadd (M 71 3) 1)))) rfl) ?_
  exact (qlim_ret rfl)
theorem E_X0_begins {h : qH} {x1 : Int} : S_X0_begins [qA 71, qI x1] h = qlim C_X0_begins (0, [some (qA 71), some (qI x1)], [], h) := qM_at (Nat.le_of_ble_eq_true rfl) rfl
set_option maxRecDepth 20000 in
theorem B_X1_pace_0 {M : qMem} {t o x2 x3 : Int} (h_o : qSt o) (h1 : qty (qH0 M) t = (1, 0)) : qlim C_X1_pace (0, [some (qA t), some (qA o), some (qI x2), some (qI x3)], [], qH0 M) = qbd (S_X2_pace [qA t, qA o, qI x2, qI x3] (qH0 M)) (fun r h' => qlim C_X1_pace (7, [some (qA t), some (qA o), some (qI x2), some (qI x3)], r.toList ++ [], h')) := by
  refine Eq.trans (qlim_n (n := 4) (c' := (4, [some (qA t), some (qA o), some (qI x2), some (qI x3)], [qI x3, qI x2, qA o, qA t], qH0 M)) rfl) ?_
  exact (qlim_callv (n := 3) rfl rfl rfl (Nat.le_of_ble_eq_true rfl) (Nat.le_of_ble_eq_true rfl) (by rw [h1]; rfl))
set_option maxRecDepth 20000 in
theorem B_X1_pace_7 {M : qMem} {t o x2 x3 s0 : Int} (h_o : qSt o) (h1 : 0 ≤ x2) (h2 : x2 < 6) : qlim C_X1_pace (7, [some (qA t), some (qA o), some (qI x2), some (qI x3)], [qI s0], qH0 M) = some (some (qI (min s0 (kadd (M (o + 3) x2) 1))), qH0 M) := by
  refine Eq.trans (qlim_n (n := 1) (c' := (8, [some (qA t), some (qA o), some (qI x2), some (qI x3)], [qA o, qI s0], qH0 M)) rfl) ?_
  refine Eq.trans (qs_getR (z := o + 3) rfl (qSt_ty h_o) (by decide) (qSt_g4 h_o)) ?_
  refine Eq.trans (qlim_n (n := 1) (c' := (12, [some (qA t), some (qA o), some (qI x2), some (qI x3)], [qI x2, qA (o + 3), qI s0], qH0 M)) rfl) ?_
  refine Eq.trans (qs_iaload rfl (qSt_t3 h_o) h1 h2) ?_
  refine Eq.trans (qlim_n (n := 3) (c' := (18, [some (qA t), some (qA o), some (qI x2), some (qI x3)], [qI (min s0 (kadd (M (o + 3) x2) 1))], qH0 M)) rfl) ?_
  exact (qlim_ret rfl)
theorem E_X1_pace {h : qH} {t o x2 x3 : Int} : S_X1_pace [qA t, qA o, qI x2, qI x3] h = qlim C_X1_pace (0, [some (qA t), some (qA o), some (qI x2), some (qI x3)], [], h) := qM_at (Nat.le_of_ble_eq_true rfl) rfl
set_option maxRecDepth 20000 in
theorem B_X1_tells_0 {M : qMem} {t x2 : Int} : qlim C_X1_tells (0, [some (qA t), some (qA 71), some (qI x2)], [], qH0 M) = qbd (S_X0_begins [qA 71, qI 60] (qH0 M)) (fun r h' => qlim C_X1_tells (6, [some (qA t), some (qA 71), some (qI x2)], r.toList ++ [], h')) := by
  refine Eq.trans (qlim_n (n := 2) (c' := (3, [some (qA t), some (qA 71), some (qI x2)], [qI 60, qA 71], qH0 M)) rfl) ?_
  exact (qlim_callv (n := 1) rfl rfl rfl (Nat.le_of_ble_eq_true rfl) (Nat.le_of_ble_eq_true rfl) rfl)
set_option maxRecDepth 20000 in
theorem B_X1_tells_6 {M : qMem} {t x2 : Int} (h1 : qty (qH0 M) t = (1, 0)) : qlim C_X1_tells (6, [some (qA t), some (qA 71), some (qI x2)], [], qH0 M) = qbd (S_X4_tells [qA t, qA 71, qI (ksub x2 (M 71 1))] (qH0 M)) (fun r h' => qlim C_X1_tells (17, [some (qA t), some (qA 71), some (qI x2)], r.toList ++ [], h')) := by
  refine Eq.trans (qlim_n (n := 6) (c' := (14, [some (qA t), some (qA 71), some (qI x2)], [qI (ksub x2 (M 71 1)), qA 71, qA t], qH0 M)) rfl) ?_
  exact (qlim_callv (n := 2) rfl rfl rfl (Nat.le_of_ble_eq_true rfl) (Nat.le_of_ble_eq_true rfl) (by rw [h1]; rfl))
set_option maxRecDepth 20000 in
theorem B_X1_tells_17 {M : qMem} {t x2 s0 : Int} : qlim C_X1_tells (17, [some (qA t), some (qA 71), some (qI x2)], [qI s0], qH0 M) = some (some (qI s0), qH0 M) := (qlim_ret rfl)
theorem E_X1_tells {h : qH} {t x2 : Int} : S_X1_tells [qA t, qA 71, qI x2] h = qlim C_X1_tells (0, [some (qA t), some (qA 71), some (qI x2)], [], h) := qM_at (Nat.le_of_ble_eq_true rfl) rfl
set_option maxRecDepth 20000 in
theorem B_X2_pace_0 {M : qMem} {t o x2 x3 : Int} (h_o : qSt o) (h1 : 0 ≤ x2) (h2 : x2 < 6) : qlim C_X2_pace (0, [some (qA t), some (qA o), some (qI x2), some (qI x3)], [], qH0 M) = qlim C_X2_pace ((if ¬ M (o + 4) x2 = 2 then 24 else 10), [some (qA t), some (qA o), some (qI x2), some (qI x3)], [], qH0 M) := by
  refine Eq.trans (qlim_n (n := 1) (c' := (1, [some (qA t), some (qA o), some (qI x2), some (qI x3)], [qA o], qH0 M)) rfl) ?_
  refine Eq.trans (qs_getR (z := o + 4) rfl (qSt_ty h_o) (by decide) (qSt_g5 h_o)) ?_
  refine Eq.trans (qlim_n (n := 1) (c' := (5, [some (qA t), some (qA o), some (qI x2), some (qI x3)], [qI x2, qA (o + 4)], qH0 M)) rfl) ?_
  refine Eq.trans (qs_iaload rfl (qSt_t4 h_o) h1 h2) ?_
  exact (qlim_n (n := 2) (c' := ((if ¬ M (o + 4) x2 = 2 then 24 else 10), [some (qA t), some (qA o), some (qI x2), some (qI x3)], [], qH0 M)) rfl)
set_option maxRecDepth 20000 in
theorem B_X2_pace_10 {M : qMem} {t o x2 x3 : Int} (h_o : qSt o) (h1 : 0 ≤ x2) (h2 : x2 < 6) : qlim C_X2_pace (10, [some (qA t), some (qA o), some (qI x2), some (qI x3)], [], qH0 M) = qlim C_X2_pace (25, [some (qA t), some (qA o), some (qI x2), some (qI x3)], [qI (ksub x3 (kdiv (M (o + 5) x2) 20))], qH0 M) := by
  refine Eq.trans (qlim_n (n := 2) (c' := (12, [some (qA t), some (qA o), some (qI x2), some (qI x3)], [qA o, qI x3], qH0 M)) rfl) ?_
  refine Eq.trans (qs_getR (z := o + 5) rfl (qSt_ty h_o) (by decide) (qSt_g6 h_o)) ?_
  refine Eq.trans (qlim_n (n := 1) (c' := (16, [some (qA t), some (qA o), some (qI x2), some (qI x3)], [qI x2, qA (o + 5), qI x3], qH0 M)) rfl) ?_
  refine Eq.trans (qs_iaload rfl (qSt_t5 h_o) h1 h2) ?_
  refine Eq.trans (qlim_n (n := 1) (c' := (19, [some (qA t), some (qA o), some (qI x2), some (qI x3)], [qI 20, qI (M (o + 5) x2), qI x3], qH0 M)) rfl) ?_
  refine Eq.trans (qs_idiv rfl (by decide)) ?_
  exact (qlim_n (n := 2) (c' := (25, [some (qA t), some (qA o), some (qI x2), some (qI x3)], [qI (ksub x3 (kdiv (M (o + 5) x2) 20))], qH0 M)) rfl)
set_option maxRecDepth 20000 in
theorem B_X2_pace_24 {M : qMem} {t o x2 x3 : Int} (h_o : qSt o) : qlim C_X2_pace (24, [some (qA t), some (qA o), some (qI x2), some (qI x3)], [], qH0 M) = qlim C_X2_pace (25, [some (qA t), some (qA o), some (qI x2), some (qI x3)], [qI x3], qH0 M) := (qlim_n (n := 1) (c' := (25, [some (qA t), some (qA o), some (qI x2), some (qI x3)], [qI x3], qH0 M)) rfl)
set_option maxRecDepth 20000 in
theorem B_X2_pace_25 {M : qMem} {t o x2 x3 s0 : Int} (h_o : qSt o) : qlim C_X2_pace (25, [some (qA t), some (qA o), some (qI x2), some (qI x3)], [qI s0], qH0 M) = some (some (qI s0), qH0 M) := (qlim_ret rfl)
theorem E_X2_pace {h : qH} {t o x2 x3 : Int} : S_X2_pace [qA t, qA o, qI x2, qI x3] h = qlim C_X2_pace (0, [some (qA t), some (qA o), some (qI x2), some (qI x3)], [], h) := qM_at (Nat.le_of_ble_eq_true rfl) rfl
set_option maxRecDepth 20000 in
theorem B_X2_folds_0 {M : qMem} {t x2 : Int} : qlim C_X2_folds (0, [some (qA t), some (qA 71), some (qI x2)], [], qH0 M) = qbd (S_X0_begins [qA 71, qI 30] (qH0 M)) (fun r h' => qlim C_X2_folds (6, [some (qA t), some (qA 71), some (qI x2)], r.toList ++ [], h')) := by
  refine Eq.trans (qlim_n (n := 2) (c' := (3, [some (qA t), some (qA 71), some (qI x2)], [qI 30, qA 71], qH0 M)) rfl) ?_
  exact (qlim_callv (n := 1) rfl rfl rfl (Nat.le_of_ble_eq_true rfl) (Nat.le_of_ble_eq_true rfl) rfl)
set_option maxRecDepth 20000 in
theorem B_X2_folds_6 {M : qMem} {t x2 : Int} {f : qSem} (h1 : qsel [(2, S_X4_folds), (1, S_X4_folds)] (qty (qH0 M) t).1 = some f) : qlim C_X2_folds (6, [some (qA t), some (qA 71), some (qI x2)], [], qH0 M) = qbd (f [qA t, qA 71, qI (kmul x2 3)] (qH0 M)) (fun r h' => qlim C_X2_folds (14, [some (qA t), some (qA 71), some (qI x2)], r.toList ++ [], h')) := by
  refine Eq.trans (qlim_n (n := 5) (c' := (11, [some (qA t), some (qA 71), some (qI x2)], [qI (kmul x2 3), qA 71, qA t], qH0 M)) rfl) ?_
  exact (qlim_callv (n := 2) rfl rfl rfl (Nat.le_of_ble_eq_true rfl) (Nat.le_of_ble_eq_true rfl) h1)
set_option maxRecDepth 20000 in
theorem B_X2_folds_14 {M : qMem} {t x2 s0 : Int} : qlim C_X2_folds (14, [some (qA t), some (qA 71), some (qI x2)], [qI s0], qH0 M) = some (some (qI s0), qH0 M) := (qlim_ret rfl)
theorem E_X2_folds {h : qH} {t x2 : Int} : S_X2_folds [qA t, qA 71, qI x2] h = qlim C_X2_folds (0, [some (qA t), some (qA 71), some (qI x2)], [], h) := qM_at (Nat.le_of_ble_eq_true rfl) rfl
set_option maxRecDepth 20000 in
theorem B_X4_pace_0 {M : qMem} {t o x2 x3 : Int} (h_o : qSt o) : qlim C_X4_pace (0, [some (qA t), some (qA o), some (qI x2), some (qI x3)], [], qH0 M) = some (some (qI x3), qH0 M) := by
  refine Eq.trans (qlim_n (n := 1) (c' := (1, [some (qA t), some (qA o), some (qI x2), some (qI x3)], [qI x3], qH0 M)) rfl) ?_
  exact (qlim_ret rfl)
theorem E_X4_pace {h : qH} {t o x2 x3 : Int} : S_X4_pace [qA t, qA o, qI x2, qI x3] h = qlim C_X4_pace (0, [some (qA t), some (qA o), some (qI x2), some (qI x3)], [], h) := qM_at (Nat.le_of_ble_eq_true rfl) rfl
set_option maxRecDepth 20000 in
theorem B_X4_folds_0 {M : qMem} {t x2 : Int} : qlim C_X4_folds (0, [some (qA t), some (qA 71), some (qI x2)], [], qH0 M) = qbd (S_X0_begins [qA 71, qI 10] (qH0 M)) (fun r h' => qlim C_X4_folds (6, [some (qA t), some (qA 71), some (qI x2)], r.toList ++ [], h')) := by
  refine Eq.trans (qlim_n (n := 2) (c' := (3, [some (qA t), some (qA 71), some (qI x2)], [qI 10, qA 71], qH0 M)) rfl) ?_
  exact (qlim_callv (n := 1) rfl rfl rfl (Nat.le_of_ble_eq_true rfl) (Nat.le_of_ble_eq_true rfl) rfl)
set_option maxRecDepth 20000 in
theorem B_X4_folds_6 {M : qMem} {t x2 : Int} : qlim C_X4_folds (6, [some (qA t), some (qA 71), some (qI x2)], [], qH0 M) = some (some (qI (kadd x2 (M 71 1))), qH0 M) := by
  refine Eq.trans (qlim_n (n := 4) (c' := (12, [some (qA t), some (qA 71), some (qI x2)], [qI (kadd x2 (M 71 1))], qH0 M)) rfl) ?_
  exact (qlim_ret rfl)
theorem E_X4_folds {h : qH} {t x2 : Int} : S_X4_folds [qA t, qA 71, qI x2] h = qlim C_X4_folds (0, [some (qA t), some (qA 71), some (qI x2)], [], h) := qM_at (Nat.le_of_ble_eq_true rfl) rfl
set_option maxRecDepth 20000 in
theorem B_X4_licks_0 {M : qMem} {t x2 : Int} : qlim C_X4_licks (0, [some (qA t), some (qA 71), some (qI x2)], [], qH0 M) = qbd (S_X0_begins [qA 71, qI 11] (qH0 M)) (fun r h' => qlim C_X4_licks (6, [some (qA t), some (qA 71), some (qI x2)], r.toList ++ [], h')) := by
  refine Eq.trans (qlim_n (n := 2) (c' := (3, [some (qA t), some (qA 71), some (qI x2)], [qI 11, qA 71], qH0 M)) rfl) ?_
  exact (qlim_callv (n := 1) rfl rfl rfl (Nat.le_of_ble_eq_true rfl) (Nat.le_of_ble_eq_true rfl) rfl)
set_option maxRecDepth 20000 in
theorem B_X4_licks_6 {M : qMem} {t x2 : Int} {f : qSem} (h1 : qsel [(4, S_X4_folds), (5, S_X4_folds), (2, S_X2_folds), (9, S_X4_folds), (7, S_X7_folds), (1, S_X2_folds), (10, S_X10_folds)] (qty (qH0 M) t).1 = some f) : qlim C_X4_licks (6, [some (qA t), some (qA 71), some (qI x2)], [], qH0 M) = qbd (f [qA t, qA 71, qI x2] (qH0 M)) (fun r h' => qlim C_X4_licks (12, [some (qA t), some (qA 71), some (qI x2)], r.toList ++ [], h')) := by
  refine Eq.trans (qlim_n (n := 3) (c' := (9, [some (qA t), some (qA 71), some (qI x2)], [qI x2, qA 71, qA t], qH0 M)) rfl) ?_
  exact (qlim_callv (n := 2) rfl rfl rfl (Nat.le_of_ble_eq_true rfl) (Nat.le_of_ble_eq_true rfl) h1)
set_option maxRecDepth 20000 in
theorem B_X4_licks_12 {M : qMem} {t x2 s0 : Int} : qlim C_X4_licks (12, [some (qA t), some (qA 71), some (qI x2)], [qI s0], qH0 M) = some (some (qI (ksub s0 (M 71 2))), qH0 M) := by
  refine Eq.trans (qlim_n (n := 3) (c' := (17, [some (qA t), some (qA 71), some (qI x2)], [qI (ksub s0 (M 71 2))], qH0 M)) rfl) ?_
  exact (qlim_ret rfl)
theorem E_X4_licks {h : qH} {t x2 : Int} : S_X4_licks [qA t, qA 71, qI x2] h = qlim C_X4_licks (0, [some (qA t), some (qA 71), some (qI x2)], [], h) := qM_at (Nat.le_of_ble_eq_true rfl) rfl
set_option maxRecDepth 20000 in
theorem B_X4_tells_0 {M : qMem} {t x2 : Int} : qlim C_X4_tells (0, [some (qA t), some (qA 71), some (qI x2)], [], qH0 M) = qbd (S_X0_begins [qA 71, qI 12] (qH0 M)) (fun r h' => qlim C_X4_tells (6, [some (qA t), some (qA 71), some (qI x2)], r.toList ++ [], h')) := by
  refine Eq.trans (qlim_n (n := 2) (c' := (3, [some (qA t), some (qA 71), some (qI x2)], [qI 12, qA 71], qH0 M)) rfl) ?_
  exact (qlim_callv (n := 1) rfl rfl rfl (Nat.le_of_ble_eq_true rfl) (Nat.le_of_ble_eq_true rfl) rfl)
set_option maxRecDepth 20000 in
theorem B_X4_tells_6 {M : qMem} {t x2 : Int} {f : qSem} (h1 : qsel [(4, S_X4_licks), (5, S_X5_licks), (2, S_X4_licks), (9, S_X4_licks), (7, S_X7_licks), (1, S_X4_licks), (10, S_X10_licks)] (qty (qH0 M) t).1 = some f) : qlim C_X4_tells (6, [some (qA t), some (qA 71), some (qI x2)], [], qH0 M) = qbd (f [qA t, qA 71, qI x2] (qH0 M)) (fun r h' => qlim C_X4_tells (12, [some (qA t), some (qA 71), some (qI x2)], r.toList ++ [], h')) := by
  refine Eq.trans (qlim_n (n := 3) (c' := (9, [some (qA t), some (qA 71), some (qI x2)], [qI x2, qA 71, qA t], qH0 M)) rfl) ?_
  exact (qlim_callv (n := 2) rfl rfl rfl (Nat.le_of_ble_eq_true rfl) (Nat.le_of_ble_eq_true rfl) h1)
set_option maxRecDepth 20000 in
theorem B_X4_tells_12 {M : qMem} {t x2 s0 : Int} : qlim C_X4_tells (12, [some (qA t), some (qA 71), some (qI x2)], [qI s0], qH0 M) = some (some (qI (kmul s0 2)), qH0 M) := by
  refine Eq.trans (qlim_n (n := 2) (c' := (14, [some (qA t), some (qA 71), some (qI x2)], [qI (kmul s0 2)], qH0 M)) rfl) ?_
  exact (qlim_ret rfl)
theorem E_X4_tells {h : qH} {t x2 : Int} : S_X4_tells [qA t, qA 71, qI x2] h = qlim C_X4_tells (0, [some (qA t), some (qA 71), some (qI x2)], [], h) := qM_at (Nat.le_of_ble_eq_true rfl) rfl
set_option maxRecDepth 20000 in
theorem B_X5_pace_0 {M : qMem} {t o x2 x3 : Int} (h_o : qSt o) (h1 : 0 ≤ x2) (h2 : x2 < 6) : qlim C_X5_pace (0, [some (qA t), some (qA o), some (qI x2), some (qI x3)], [], qH0 M) = some (some (qI (kadd x3 (kdiv (M (o + 3) x2) 2))), qH0 M) := by
  refine Eq.trans (qlim_n (n := 2) (c' := (2, [some (qA t), some (qA o), some (qI x2), some (qI x3)], [qA o, qI x3], qH0 M)) rfl) ?_
  refine Eq.trans (qs_getR (z := o + 3) rfl (qSt_ty h_o) (by decide) (qSt_g4 h_o)) ?_
  refine Eq.trans (qlim_n (n := 1) (c' := (6, [some (qA t), some (qA o), some (qI x2), some (qI x3)], [qI x2, qA (o + 3), qI x3], qH0 M)) rfl) ?_
  refine Eq.trans (qs_iaload rfl (qSt_t3 h_o) h1 h2) ?_
  refine Eq.trans (qlim_n (n := 1) (c' := (8, [some (qA t), some (qA o), some (qI x2), some (qI x3)], [qI 2, qI (M (o + 3) x2), qI x3], qH0 M)) rfl) ?_
  refine Eq.trans (qs_idiv rfl (by decide)) ?_
  refine Eq.trans (qlim_n (n := 1) (c' := (10, [some (qA t), some (qA o), some (qI x2), some (qI x3)], [qI (kadd x3 (kdiv (M (o + 3) x2) 2))], qH0 M)) rfl) ?_
  exact (qlim_ret rfl)
theorem E_X5_pace {h : qH} {t o x2 x3 : Int} : S_X5_pace [qA t, qA o, qI x2, qI x3] h = qlim C_X5_pace (0, [some (qA t), some (qA o), some (qI x2), some (qI x3)], [], h) := qM_at (Nat.le_of_ble_eq_true rfl) rfl
set_option maxRecDepth 20000 in
theorem B_X5_licks_0 {M : qMem} {t x2 : Int} : qlim C_X5_licks (0, [some (qA t), some (qA 71), some (qI x2)], [], qH0 M) = qbd (S_X0_begins [qA 71, qI 20] (qH0 M)) (fun r h' => qlim C_X5_licks (6, [some (qA t), some (qA 71), some (qI x2)], r.toList ++ [], h')) := by
  refine Eq.trans (qlim_n (n := 2) (c' := (3, [some (qA t), some (qA 71), some (qI x2)], [qI 20, qA 71], qH0 M)) rfl) ?_
  exact (qlim_callv (n := 1) rfl rfl rfl (Nat.le_of_ble_eq_true rfl) (Nat.le_of_ble_eq_true rfl) rfl)
set_option maxRecDepth 20000 in
theorem B_X5_licks_6 {M : qMem} {t x2 : Int} {f : qSem} (h1 : qsel [(5, S_X4_licks), (7, S_X4_licks)] (qty (qH0 M) t).1 = some f) : qlim C_X5_licks (6, [some (qA t), some (qA 71), some (qI x2)], [], qH0 M) = qbd (f [qA t, qA 71, qI x2] (qH0 M)) (fun r h' => qlim C_X5_licks (12, [some (qA t), some (qA 71), some (qI x2)], r.toList ++ [], h')) := by
  refine Eq.trans (qlim_n (n := 3) (c' := (9, [some (qA t), some (qA 71), some (qI x2)], [qI x2, qA 71, qA t], qH0 M)) rfl) ?_
  exact (qlim_callv (n := 2) rfl rfl rfl (Nat.le_of_ble_eq_true rfl) (Nat.le_of_ble_eq_true rfl) h1)
set_option maxRecDepth 20000 in
theorem B_X5_licks_12 {M : qMem} {t x2 s0 : Int} : qlim C_X5_licks (12, [some (qA t), some (qA 71), some (qI x2)], [qI s0], qH0 M) = some (some (qI (kxor s0 6)), qH0 M) := by
  refine Eq.trans (qlim_n (n := 2) (c' := (15, [some (qA t), some (qA 71), some (qI x2)], [qI (kxor s0 6)], qH0 M)) rfl) ?_
  exact (qlim_ret rfl)
theorem E_X5_licks {h : qH} {t x2 : Int} : S_X5_licks [qA t, qA 71, qI x2] h = qlim C_X5_licks (0, [some (qA t), some (qA 71), some (qI x2)], [], h) := qM_at (Nat.le_of_ble_eq_true rfl) rfl
set_option maxRecDepth 20000 in
theorem B_X7_pace_0 {M : qMem} {t o x2 x3 : Int} (h_o : qSt o) (h1 : qty (qH0 M) t = (7, 0)) : qlim C_X7_pace (0, [some (qA t), some (qA o), some (qI x2), some (qI x3), none], [], qH0 M) = qbd (S_X5_pace [qA t, qA o, qI x2, qI x3] (qH0 M)) (fun r h' => qlim C_X7_pace (7, [some (qA t), some (qA o), some (qI x2), some (qI x3), none], r.toList ++ [], h')) := by
  refine Eq.trans (qlim_n (n := 4) (c' := (4, [some (qA t), some (qA o), some (qI x2), some (qI x3), none], [qI x3, qI x2, qA o, qA t], qH0 M)) rfl) ?_
  exact (qlim_callv (n := 3) rfl rfl rfl (Nat.le_of_ble_eq_true rfl) (Nat.le_of_ble_eq_true rfl) (by rw [h1]; rfl))
set_option maxRecDepth 20000 in
theorem B_X7_pace_7 {M : qMem} {t o x2 x3 s0 : Int} (h_o : qSt o) (h1 : 0 ≤ x2) (h2 : x2 < 6) : qlim C_X7_pace (7, [some (qA t), some (qA o), some (qI x2), some (qI x3), none], [qI s0], qH0 M) = qlim C_X7_pace ((if ¬ M (o + 4) x2 = 2 then 26 else 19), [some (qA t), some (qA o), some (qI x2), some (qI x3), some (qI s0)], [], qH0 M) := by
  refine Eq.trans (qlim_n (n := 2) (c' := (10, [some (qA t), some (qA o), some (qI x2), some (qI x3), some (qI s0)], [qA o], qH0 M)) rfl) ?_
  refine Eq.trans (qs_getR (z := o + 4) rfl (qSt_ty h_o) (by decide) (qSt_g5 h_o)) ?_
  refine Eq.trans (qlim_n (n := 1) (c' := (14, [some (qA t), some (qA o), some (qI x2), some (qI x3), some (qI s0)], [qI x2, qA (o + 4)], qH0 M)) rfl) ?_
  refine Eq.trans (qs_iaload rfl (qSt_t4 h_o) h1 h2) ?_
  exact (qlim_n (n := 2) (c' := ((if ¬ M (o + 4) x2 = 2 then 26 else 19), [some (qA t), some (qA o), some (qI x2), some (qI x3), some (qI s0)], [], qH0 M)) rfl)
set_option maxRecDepth 20000 in
theorem B_X7_pace_19 {M : qMem} {t o x2 x3 x4 : Int} (h_o : qSt o) : qlim C_X7_pace (19, [some (qA t), some (qA o), some (qI x2), some (qI x3), some (qI x4)], [], qH0 M) = qlim C_X7_pace (28, [some (qA t), some (qA o), some (qI x2), some (qI x3), some (qI x4)], [qI (kadd x4 2)], qH0 M) := (qlim_n (n := 4) (c' := (28, [some (qA t), some (qA o), some (qI x2), some (qI x3), some (qI x4)], [qI (kadd x4 2)], qH0 M)) rfl)
set_option maxRecDepth 20000 in
theorem B_X7_pace_26 {M : qMem} {t o x2 x3 x4 : Int} (h_o : qSt o) : qlim C_X7_pace (26, [some (qA t), some (qA o), some (qI x2), some (qI x3), some (qI x4)], [], qH0 M) = qlim C_X7_pace (28, [some (qA t), some (qA o), some (qI x2), some (qI x3), some (qI x4)], [qI x4], qH0 M) := (qlim_n (n := 1) (c' := (28, [some (qA t), some (qA o), some (qI x2), some (qI x3), some (qI x4)], [qI x4], qH0 M)) rfl)
set_option maxRecDepth 20000 in
theorem B_X7_pace_28 {M : qMem} {t o x2 x3 x4 s0 : Int} (h_o : qSt o) : qlim C_X7_pace (28, [some (qA t), some (qA o), some (qI x2), some (qI x3), some (qI x4)], [qI s0], qH0 M) = some (some (qI s0), qH0 M) := (qlim_ret rfl)
theorem E_X7_pace {h : qH} {t o x2 x3 : Int} : S_X7_pace [qA t, qA o, qI x2, qI x3] h = qlim C_X7_pace (0, [some (qA t), some (qA o), some (qI x2), some (qI x3), none], [], h) := qM_at (Nat.le_of_ble_eq_true rfl) rfl
set_option maxRecDepth 20000 in
theorem B_X7_folds_0 {M : qMem} {t x2 : Int} : qlim C_X7_folds (0, [some (qA t), some (qA 71), some (qI x2)], [], qH0 M) = qbd (S_X0_begins [qA 71, qI 50] (qH0 M)) (fun r h' => qlim C_X7_folds (6, [some (qA t), some (qA 71), some (qI x2)], r.toList ++ [], h')) := by
  refine Eq.trans (qlim_n (n := 2) (c' := (3, [some (qA t), some (qA 71), some (qI x2)], [qI 50, qA 71], qH0 M)) rfl) ?_
  exact (qlim_callv (n := 1) rfl rfl rfl (Nat.le_of_ble_eq_true rfl) (Nat.le_of_ble_eq_true rfl) rfl)
set_option maxRecDepth 20000 in
theorem B_X7_folds_6 {M : qMem} {t x2 : Int} (h1 : qty (qH0 M) t = (7, 0)) : qlim C_X7_folds (6, [some (qA t), some (qA 71), some (qI x2)], [], qH0 M) = qbd (S_X4_folds [qA t, qA 71, qI x2] (qH0 M)) (fun r h' => qlim C_X7_folds (12, [some (qA t), some (qA 71), some (qI x2)], r.toList ++ [], h')) := by
  refine Eq.trans (qlim_n (n := 3) (c' := (9, [some (qA t), some (qA 71), some (qI x2)], [qI x2, qA 71, qA t], qH0 M)) rfl) ?_
  exact (qlim_callv (n := 2) rfl rfl rfl (Nat.le_of_ble_eq_true rfl) (Nat.le_of_ble_eq_true rfl) (by rw [h1]; rfl))
set_option maxRecDepth 20000 in
theorem B_X7_folds_12 {M : qMem} {t x2 s0 : Int} : qlim C_X7_folds (12, [some (qA t), some (qA 71), some (qI x2)], [qI s0], qH0 M) = some (some (qI (kneg s0)), qH0 M) := by
  refine Eq.trans (qlim_n (n := 1) (c' := (13, [some (qA t), some (qA 71), some (qI x2)], [qI (kneg s0)], qH0 M)) rfl) ?_
  exact (qlim_ret rfl)
theorem E_X7_folds {h : qH} {t x2 : Int} : S_X7_folds [qA t, qA 71, qI x2] h = qlim C_X7_folds (0, [some (qA t), some (qA 71), some (qI x2)], [], h) := qM_at (Nat.le_of_ble_eq_true rfl) rfl
set_option maxRecDepth 20000 in
theorem B_X7_licks_0 {M : qMem} {t x2 : Int} : qlim C_X7_licks (0, [some (qA t), some (qA 71), some (qI x2)], [], qH0 M) = qbd (S_X0_begins [qA 71, qI 51] (qH0 M)) (fun r h' => qlim C_X7_licks (6, [some (qA t), some (qA 71), some (qI x2)], r.toList ++ [], h')) := by
  refine Eq.trans (qlim_n (n := 2) (c' := (3, [some (qA t), some (qA 71), some (qI x2)], [qI 51, qA 71], qH0 M)) rfl) ?_
  exact (qlim_callv (n := 1) rfl rfl rfl (Nat.le_of_ble_eq_true rfl) (Nat.le_of_ble_eq_true rfl) rfl)
set_option maxRecDepth 20000 in
theorem B_X7_licks_6 {M : qMem} {t x2 : Int} (h1 : qty (qH0 M) t = (7, 0)) : qlim C_X7_licks (6, [some (qA t), some (qA 71), some (qI x2)], [], qH0 M) = qbd (S_X5_licks [qA t, qA 71, qI (kadd x2 1)] (qH0 M)) (fun r h' => qlim C_X7_licks (14, [some (qA t), some (qA 71), some (qI x2)], r.toList ++ [], h')) := by
  refine Eq.trans (qlim_n (n := 5) (c' := (11, [some (qA t), some (qA 71), some (qI x2)], [qI (kadd x2 1), qA 71, qA t], qH0 M)) rfl) ?_
  exact (qlim_callv (n := 2) rfl rfl rfl (Nat.le_of_ble_eq_true rfl) (Nat.le_of_ble_eq_true rfl) (by rw [h1]; rfl))
set_option maxRecDepth 20000 in
theorem B_X7_licks_14 {M : qMem} {t x2 s0 : Int} : qlim C_X7_licks (14, [some (qA t), some (qA 71), some (qI x2)], [qI s0], qH0 M) = some (some (qI s0), qH0 M) := (qlim_ret rfl)
theorem E_X7_licks {h : qH} {t x2 : Int} : S_X7_licks [qA t, qA 71, qI x2] h = qlim C_X7_licks (0, [some (qA t), some (qA 71), some (qI x2)], [], h) := qM_at (Nat.le_of_ble_eq_true rfl) rfl
set_option maxRecDepth 20000 in
theorem B_X9_pace_0 {M : qMem} {t o x2 x3 : Int} (h_o : qSt o) : qlim C_X9_pace (0, [some (qA t), some (qA o), some (qI x2), some (qI x3), none, none], [], qH0 M) = qlim C_X9_pace (6, [some (qA t), some (qA o), some (qI x2), some (qI x3), some (qI x3), some (qI 0)], [], qH0 M) := (qlim_n (n := 4) (c' := (6, [some (qA t), some (qA o), some (qI x2), some (qI x3), some (qI x3), some (qI 0)], [], qH0 M)) rfl)
set_option maxRecDepth 20000 in
theorem B_X9_pace_6 {M : qMem} {t o x2 x3 x4 x5 : Int} (h_o : qSt o) : qlim C_X9_pace (6, [some (qA t), some (qA o), some (qI x2), some (qI x3), some (qI x4), some (qI x5)], [], qH0 M) = qlim C_X9_pace ((if M o 10 ≤ x5 then 56 else 15), [some (qA t), some (qA o), some (qI x2), some (qI x3), some (qI x4), some (qI x5)], [], qH0 M) := by
  refine Eq.trans (qlim_n (n := 2) (c' := (9, [some (qA t), some (qA o), some (qI x2), some (qI x3), some (qI x4), some (qI x5)], [qA o, qI x5], qH0 M)) rfl) ?_
  refine Eq.trans (qs_getI rfl (qSt_ty h_o) (by decide)) ?_
  exact (qlim_n (n := 1) (c' := ((if M o 10 ≤ x5 then 56 else 15), [some (qA t), some (qA o), some (qI x2), some (qI x3), some (qI x4), some (qI x5)], [], qH0 M)) rfl)
set_option maxRecDepth 20000 in
theorem B_X9_pace_15 {M : qMem} {t o x2 x3 x4 x5 : Int} (h_o : qSt o) : qlim C_X9_pace (15, [some (qA t), some (qA o), some (qI x2), some (qI x3), some (qI x4), some (qI x5)], [], qH0 M) = qlim C_X9_pace ((if x5 = x2 then 50 else 21), [some (qA t), some (qA o), some (qI x2), some (qI x3), some (qI x4), some (qI x5)], [], qH0 M) := (qlim_n (n := 3) (c' := ((if x5 = x2 then 50 else 21), [some (qA t), some (qA o), some (qI x2), some (qI x3), some (qI x4), some (qI x5)], [], qH0 M)) rfl)
set_option maxRecDepth 20000 in
theorem B_X9_pace_21 {M : qMem} {t o x2 x3 x4 x5 : Int} (h_o : qSt o) (h1 : 0 ≤ x5) (h2 : x5 < 6) : qlim C_X9_pace (21, [some (qA t), some (qA o), some (qI x2), some (qI x3), some (qI x4), some (qI x5)], [], qH0 M) = qlim C_X9_pace ((if ¬ M (o + 8) x5 = 0 then 50 else 31), [some (qA t), some (qA o), some (qI x2), some (qI x3), some (qI x4), some (qI x5)], [], qH0 M) := by
  refine Eq.trans (qlim_n (n := 1) (c' := (22, [some (qA t), some (qA o), some (qI x2), some (qI x3), some (qI x4), some (qI x5)], [qA o], qH0 M)) rfl) ?_
  refine Eq.trans (qs_getR (z := o + 8) rfl (qSt_ty h_o) (by decide) (qSt_g9 h_o)) ?_
  refine Eq.trans (qlim_n (n := 1) (c' := (27, [some (qA t), some (qA o), some (qI x2), some (qI x3), some (qI x4), some (qI x5)], [qI x5, qA (o + 8)], qH0 M)) rfl) ?_
  refine Eq.trans (qs_zaload rfl (qSt_t8 h_o) h1 h2) ?_
  exact (qlim_n (n := 1) (c' := ((if ¬ M (o + 8) x5 = 0 then 50 else 31), [some (qA t), some (qA o), some (qI x2), some (qI x3), some (qI x4), some (qI x5)], [], qH0 M)) rfl)
set_option maxRecDepth 20000 in
theorem B_X9_pace_31 {M : qMem} {t o x2 x3 x4 x5 : Int} (h_o : qSt o) (h1 : 0 ≤ x5) (h2 : x5 < 6) (h3 : 0 ≤ x2) (h4 : x2 < 6) : qlim C_X9_pace (31, [some (qA t), some (qA o), some (qI x2), some (qI x3), some (qI x4), some (qI x5)], [], qH0 M) = qlim C_X9_pace ((if ¬ M (o + 4) x5 = M (o + 4) x2 then 50 else 47), [some (qA t), some (qA o), some (qI x2), some (qI x3), some (qI x4), some (qI x5)], [], qH0 M) := by
  refine Eq.trans (qlim_n (n := 1) (c' := (32, [some (qA t), some (qA o), some (qI x2), some (qI x3), some (qI x4), some (qI x5)], [qA o], qH0 M)) rfl) ?_
  refine Eq.trans (qs_getR (z := o + 4) rfl (qSt_ty h_o) (by decide) (qSt_g5 h_o)) ?_
  refine Eq.trans (qlim_n (n := 1) (c' := (37, [some (qA t), some (qA o), some (qI x2), some (qI x3), some (qI x4), some (qI x5)], [qI x5, qA (o + 4)], qH0 M)) rfl) ?_
  refine Eq.trans (qs_iaload rfl (qSt_t4 h_o) h1 h2) ?_
  refine Eq.trans (qlim_n (n := 1) (c' := (39, [some (qA t), some (qA o), some (qI x2), some (qI x3), some (qI x4), some (qI x5)], [qA o, qI (M (o + 4) x5)], qH0 M)) rfl) ?_
  refine Eq.trans (qs_getR (z := o + 4) rfl (qSt_ty h_o) (by decide) (qSt_g5 h_o)) ?_
  refine Eq.trans (qlim_n (n := 1) (c' := (43, [some (qA t), some (qA o), some (qI x2), some (qI x3), some (qI x4), some (qI x5)], [qI x2, qA (o + 4), qI (M (o + 4) x5)], qH0 M)) rfl) ?_
  refine Eq.trans (qs_iaload rfl (qSt_t4 h_o) h3 h4) ?_
  exact (qlim_n (n := 1) (c' := ((if ¬ M (o + 4) x5 = M (o + 4) x2 then 50 else 47), [some (qA t), some (qA o), some (qI x2), some (qI x3), some (qI x4), some (qI x5)], [], qH0 M)) rfl)
set_option maxRecDepth 20000 in
theorem B_X9_pace_47 {M : qMem} {t o x2 x3 x4 x5 : Int} (h_o : qSt o) : qlim C_X9_pace (47, [some (qA t), some (qA o), some (qI x2), some (qI x3), some (qI x4), some (qI x5)], [], qH0 M) = qlim C_X9_pace (50, [some (qA t), some (qA o), some (qI x2), some (qI x3), some (qI (kadd x4 (-1))), some (qI x5)], [], qH0 M) := (qlim_n (n := 1) (c' := (50, [some (qA t), some (qA o), some (qI x2), some (qI x3), some (qI (kadd x4 (-1))), some (qI x5)], [], qH0 M)) rfl)
set_option maxRecDepth 20000 in
theorem B_X9_pace_50 {M : qMem} {t o x2 x3 x4 x5 : Int} (h_o : qSt o) : qlim C_X9_pace (50, [some (qA t), some (qA o), some (qI x2), some (qI x3), some (qI x4), some (qI x5)], [], qH0 M) = qlim C_X9_pace (6, [some (qA t), some (qA o), some (qI x2), some (qI x3), some (qI x4), some (qI (kadd x5 1))], [], qH0 M) := (qlim_n (n := 2) (c' := (6, [some (qA t), some (qA o), some (qI x2), some (qI x3), some (qI x4), some (qI (kadd x5 1))], [], qH0 M)) rfl)
set_option maxRecDepth 20000 in
theorem B_X9_pace_56 {M : qMem} {t o x2 x3 x4 x5 : Int} (h_o : qSt o) : qlim C_X9_pace (56, [some (qA t), some (qA o), some (qI x2), some (qI x3), some (qI x4), some (qI x5)], [], qH0 M) = some (some (qI x4), qH0 M) := by
  refine Eq.trans (qlim_n (n := 1) (c' := (58, [some (qA t), some (qA o), some (qI x2), some (qI x3), some (qI x4), some (qI x5)], [qI x4], qH0 M)) rfl) ?_
  exact (qlim_ret rfl)
theorem E_X9_pace {h : qH} {t o x2 x3 : Int} : S_X9_pace [qA t, qA o, qI x2, qI x3] h = qlim C_X9_pace (0, [some (qA t), some (qA o), some (qI x2), some (qI x3), none, none], [], h) := qM_at (Nat.le_of_ble_eq_true rfl) rfl
set_option maxRecDepth 20000 in
theorem B_X9_tells_0 {M : qMem} {t x2 : Int} : qlim C_X9_tells (0, [some (qA t), some (qA 71), some (qI x2), none], [], qH0 M) = qbd (S_X0_begins [qA 71, qI 40] (qH0 M)) (fun r h' => qlim C_X9_tells (6, [some (qA t), some (qA 71), some (qI x2), none], r.toList ++ [], h')) := by
  refine Eq.trans (qlim_n (n := 2) (c' := (3, [some (qA t), some (qA 71), some (qI x2), none], [qI 40, qA 71], qH0 M)) rfl) ?_
  exact (qlim_callv (n := 1) rfl rfl rfl (Nat.le_of_ble_eq_true rfl) (Nat.le_of_ble_eq_true rfl) rfl)
set_option maxRecDepth 20000 in
theorem B_X9_tells_6 {M : qMem} {t x2 : Int} {f : qSem} (h1 : qsel [(9, S_X4_tells), (10, S_X4_tells)] (qty (qH0 M) t).1 = some f) : qlim C_X9_tells (6, [some (qA t), some (qA 71), some (qI x2), none], [], qH0 M) = qbd (f [qA t, qA 71, qI x2] (qH0 M)) (fun r h' => qlim C_X9_tells (12, [some (qA t), some (qA 71), some (qI x2), none], r.toList ++ [], h')) := by
  refine Eq.trans (qlim_n (n := 3) (c' := (9, [some (qA t), some (qA 71), some (qI x2), none], [qI x2, qA 71, qA t], qH0 M)) rfl) ?_
  exact (qlim_callv (n := 2) rfl rfl rfl (Nat.le_of_ble_eq_true rfl) (Nat.le_of_ble_eq_true rfl) h1)
set_option maxRecDepth 20000 in
theorem B_X9_tells_12 {M : qMem} {t x2 s0 : Int} {f : qSem} (h1 : qsel [(9, S_X4_licks), (10, S_X10_licks)] (qty (qH0 M) t).1 = some f) : qlim C_X9_tells (12, [some (qA t), some (qA 71), some (qI x2), none], [qI s0], qH0 M) = qbd (f [qA t, qA 71, qI 1] (qH0 M)) (fun r h' => qlim C_X9_tells (20, [some (qA t), some (qA 71), some (qI x2), some (qI s0)], r.toList ++ [qI s0], h')) := by
  refine Eq.trans (qlim_n (n := 5) (c' := (17, [some (qA t), some (qA 71), some (qI x2), some (qI s0)], [qI 1, qA 71, qA t, qI s0], qH0 M)) rfl) ?_
  exact (qlim_callv (n := 2) rfl rfl rfl (Nat.le_of_ble_eq_true rfl) (Nat.le_of_ble_eq_true rfl) h1)
set_option maxRecDepth 20000 in
theorem B_X9_tells_20 {M : qMem} {t x2 x3 s0 s1 : Int} : qlim C_X9_tells (20, [some (qA t), some (qA 71), some (qI x2), some (qI x3)], [qI s1, qI s0], qH0 M) = some (some (qI (kadd s0 s1)), qH0 M) := by
  refine Eq.trans (qlim_n (n := 1) (c' := (21, [some (qA t), some (qA 71), some (qI x2), some (qI x3)], [qI (kadd s0 s1)], qH0 M)) rfl) ?_
  exact (qlim_ret rfl)
theorem E_X9_tells {h : qH} {t x2 : Int} : S_X9_tells [qA t, qA 71, qI x2] h = qlim C_X9_tells (0, [some (qA t), some (qA 71), some (qI x2), none], [], h) := qM_at (Nat.le_of_ble_eq_true rfl) rfl
set_option maxRecDepth 20000 in
theorem B_X10_pace_0 {M : qMem} {t o x2 x3 : Int} (h_o : qSt o) (h1 : qty (qH0 M) t = (10, 0)) : qlim C_X10_pace (0, [some (qA t), some (qA o), some (qI x2), some (qI x3)], [], qH0 M) = qbd (S_X9_pace [qA t, qA o, qI x2, qI x3] (qH0 M)) (fun r h' => qlim C_X10_pace (7, [some (qA t), some (qA o), some (qI x2), some (qI x3)], r.toList ++ [], h')) := by
  refine Eq.trans (qlim_n (n := 4) (c' := (4, [some (qA t), some (qA o), some (qI x2), some (qI x3)], [qI x3, qI x2, qA o, qA t], qH0 M)) rfl) ?_
  exact (qlim_callv (n := 3) rfl rfl rfl (Nat.le_of_ble_eq_true rfl) (Nat.le_of_ble_eq_true rfl) (by rw [h1]; rfl))
set_option maxRecDepth 20000 in
theorem B_X10_pace_7 {M : qMem} {t o x2 x3 s0 : Int} (h_o : qSt o) (h1 : 0 ≤ kadd (kmul x2 4) (krem (M o 11) 4)) (h2 : kadd (kmul x2 4) (krem (M o 11) 4) < 24) : qlim C_X10_pace (7, [some (qA t), some (qA o), some (qI x2), some (qI x3)], [qI s0], qH0 M) = some (some (qI (kadd s0 (M (o + 7) (kadd (kmul x2 4) (krem (M o 11) 4))))), qH0 M) := by
  refine Eq.trans (qlim_n (n := 1) (c' := (8, [some (qA t), some (qA o), some (qI x2), some (qI x3)], [qA o, qI s0], qH0 M)) rfl) ?_
  refine Eq.trans (qs_getR (z := o + 7) rfl (qSt_ty h_o) (by decide) (qSt_g8 h_o)) ?_
  refine Eq.trans (qlim_n (n := 4) (c' := (15, [some (qA t), some (qA o), some (qI x2), some (qI x3)], [qA o, qI (kmul x2 4), qA (o + 7), qI s0], qH0 M)) rfl) ?_
  refine Eq.trans (qs_getI rfl (qSt_ty h_o) (by decide)) ?_
  refine Eq.trans (qlim_n (n := 1) (c' := (19, [some (qA t), some (qA o), some (qI x2), some (qI x3)], [qI 4, qI (M o 11), qI (kmul x2 4), qA (o + 7), qI s0], qH0 M)) rfl) ?_
  refine Eq.trans (qs_irem rfl (by decide)) ?_
  refine Eq.trans (qlim_n (n := 1) (c' := (21, [some (qA t), some (qA o), some (qI x2), some (qI x3)], [qI (kadd (kmul x2 4) (krem (M o 11) 4)), qA (o + 7), qI s0], qH0 M)) rfl) ?_
  refine Eq.trans (qs_iaload rfl (qSt_t7 h_o) h1 h2) ?_
  refine Eq.trans (qlim_n (n := 1) (c' := (23, [some (qA t), some (qA o), some (qI x2), some (qI x3)], [qI (kadd s0 (M (o + 7) (kadd (kmul x2 4) (krem (M o 11) 4))))], qH0 M)) rfl) ?_
  exact (qlim_ret rfl)
theorem E_X10_pace {h : qH} {t o x2 x3 : Int} : S_X10_pace [qA t, qA o, qI x2, qI x3] h = qlim C_X10_pace (0, [some (qA t), some (qA o), some (qI x2), some (qI x3)], [], h) := qM_at (Nat.le_of_ble_eq_true rfl) rfl
set_option maxRecDepth 20000 in
theorem B_X10_licks_0 {M : qMem} {t x2 : Int} : qlim C_X10_licks (0, [some (qA t), some (qA 71), some (qI x2), none], [], qH0 M) = qbd (S_X0_begins [qA 71, qI 70] (qH0 M)) (fun r h' => qlim C_X10_licks (6, [some (qA t), some (qA 71), some (qI x2), none], r.toList ++ [], h')) := by
  refine Eq.trans (qlim_n (n := 2) (c' := (3, [some (qA t), some (qA 71), some (qI x2), none], [qI 70, qA 71], qH0 M)) rfl) ?_
  exact (qlim_callv (n := 1) rfl rfl rfl (Nat.le_of_ble_eq_true rfl) (Nat.le_of_ble_eq_true rfl) rfl)
set_option maxRecDepth 20000 in
theorem B_X10_licks_6 {M : qMem} {t x2 : Int} (h1 : qty (qH0 M) t = (10, 0)) : qlim C_X10_licks (6, [some (qA t), some (qA 71), some (qI x2), none], [], qH0 M) = qbd (S_X4_licks [qA t, qA 71, qI x2] (qH0 M)) (fun r h' => qlim C_X10_licks (12, [some (qA t), some (qA 71), some (qI x2), none], r.toList ++ [], h')) := by
  refine Eq.trans (qlim_n (n := 3) (c' := (9, [some (qA t), some (qA 71), some (qI x2), none], [qI x2, qA 71, qA t], qH0 M)) rfl) ?_
  exact (qlim_callv (n := 2) rfl rfl rfl (Nat.le_of_ble_eq_true rfl) (Nat.le_of_ble_eq_true rfl) (by rw [h1]; rfl))
set_option maxRecDepth 20000 in
theorem B_X10_licks_12 {M : qMem} {t x2 s0 : Int} (h1 : qty (qH0 M) t = (10, 0)) : qlim C_X10_licks (12, [some (qA t), some (qA 71), some (qI x2), none], [qI s0], qH0 M) = qbd (S_X4_folds [qA t, qA 71, qI 2] (qH0 M)) (fun r h' => qlim C_X10_licks (20, [some (qA t), some (qA 71), some (qI x2), some (qI s0)], r.toList ++ [qI s0], h')) := by
  refine Eq.trans (qlim_n (n := 5) (c' := (17, [some (qA t), some (qA 71), some (qI x2), some (qI s0)], [qI 2, qA 71, qA t, qI s0], qH0 M)) rfl) ?_
  exact (qlim_callv (n := 2) rfl rfl rfl (Nat.le_of_ble_eq_true rfl) (Nat.le_of_ble_eq_true rfl) (by rw [h1]; rfl))
set_option maxRecDepth 20000 in
theorem B_X10_licks_20 {M : qMem} {t x2 x3 s0 s1 : Int} : qlim C_X10_licks (20, [some (qA t), some (qA 71), some (qI x2), some (qI x3)], [qI s1, qI s0], qH0 M) = some (some (qI (kadd s0 s1)), qH0 M) := by
  refine Eq.trans (qlim_n (n := 1) (c' := (21, [some (qA t), some (qA 71), some (qI x2), some (qI x3)], [qI (kadd s0 s1)], qH0 M)) rfl) ?_
  exact (qlim_ret rfl)
theorem E_X10_licks {h : qH} {t x2 : Int} : S_X10_licks [qA t, qA 71, qI x2] h = qlim C_X10_licks (0, [some (qA t), some (qA 71), some (qI x2), none], [], h) := qM_at (Nat.le_of_ble_eq_true rfl) rfl
set_option maxRecDepth 20000 in
theorem B_X10_folds_0 {M : qMem} {t x2 : Int} : qlim C_X10_folds (0, [some (qA t), some (qA 71), some (qI x2)], [], qH0 M) = qbd (S_X0_begins [qA 71, qI 71] (qH0 M)) (fun r h' => qlim C_X10_folds (6, [some (qA t), some (qA 71), some (qI x2)], r.toList ++ [], h')) := by
  refine Eq.trans (qlim_n (n := 2) (c' := (3, [some (qA t), some (qA 71), some (qI x2)], [qI 71, qA 71], qH0 M)) rfl) ?_
  exact (qlim_callv (n := 1) rfl rfl rfl (Nat.le_of_ble_eq_true rfl) (Nat.le_of_ble_eq_true rfl) rfl)
set_option maxRecDepth 20000 in
theorem B_X10_folds_6 {M : qMem} {t x2 : Int} (h1 : qty (qH0 M) t = (10, 0)) : qlim C_X10_folds (6, [some (qA t), some (qA 71), some (qI x2)], [], qH0 M) = qbd (S_X4_folds [qA t, qA 71, qI x2] (qH0 M)) (fun r h' => qlim C_X10_folds (12, [some (qA t), some (qA 71), some (qI x2)], r.toList ++ [], h')) := by
  refine Eq.trans (qlim_n (n := 3) (c' := (9, [some (qA t), some (qA 71), some (qI x2)], [qI x2, qA 71, qA t], qH0 M)) rfl) ?_
  exact (qlim_callv (n := 2) rfl rfl rfl (Nat.le_of_ble_eq_true rfl) (Nat.le_of_ble_eq_true rfl) (by rw [h1]; rfl))
set_option maxRecDepth 20000 in
theorem B_X10_folds_12 {M : qMem} {t x2 s0 : Int} : qlim C_X10_folds (12, [some (qA t), some (qA 71), some (qI x2)], [qI s0], qH0 M) = some (some (qI (kxor s0 (M 71 2))), qH0 M) := by
  refine Eq.trans (qlim_n (n := 3) (c' := (17, [some (qA t), some (qA 71), some (qI x2)], [qI (kxor s0 (M 71 2))], qH0 M)) rfl) ?_
  exact (qlim_ret rfl)
theorem E_X10_folds {h : qH} {t x2 : Int} : S_X10_folds [qA t, qA 71, qI x2] h = qlim C_X10_folds (0, [some (qA t), some (qA 71), some (qI x2)], [], h) := qM_at (Nat.le_of_ble_eq_true rfl) rfl
