set_option maxRecDepth 20000 in
theorem B_X11_person_0 {M : qMem} {x1 x2 x3 : Int} : qlim C_X11_person (0, [some (qA 0), some (qI x1), some (qI x2), some (qI x3)], [], qH0 M) = qbd (S_X11_isIn [qI x1, qI 6] (qH0 M)) (fun r h' => qlim C_X11_person (6, [some (qA 0), some (qI x1), some (qI x2), some (qI x3)], r.toList ++ [], h')) := by
  refine Eq.trans (qlim_n (n := 2) (c' := (3, [some (qA 0), some (qI x1), some (qI x2), some (qI x3)], [qI 6, qI x1], qH0 M)) rfl) ?_
  exact (qlim_calls (n := 2) rfl rfl rfl (Nat.le_of_ble_eq_true rfl) (Nat.le_of_ble_eq_true rfl))
set_option maxRecDepth 20000 in
theorem B_X11_person_6 {M : qMem} {x1 x2 x3 s0 : Int} : qlim C_X11_person (6, [some (qA 0), some (qI x1), some (qI x2), some (qI x3)], [qI s0], qH0 M) = qlim C_X11_person ((if s0 = 0 then 16 else 9), [some (qA 0), some (qI x1), some (qI x2), some (qI x3)], [], qH0 M) := (qlim_n (n := 1) (c' := ((if s0 = 0 then 16 else 9), [some (qA 0), some (qI x1), some (qI x2), some (qI x3)], [], qH0 M)) rfl)
set_option maxRecDepth 20000 in
theorem B_X11_person_9 {M : qMem} {x1 x2 x3 : Int} : qlim C_X11_person (9, [some (qA 0), some (qI x1), some (qI x2), some (qI x3)], [], qH0 M) = qbd (S_X11_isWork [qI x3] (qH0 M)) (fun r h' => qlim C_X11_person (13, [some (qA 0), some (qI x1), some (qI x2), some (qI x3)], r.toList ++ [], h')) := by
  refine Eq.trans (qlim_n (n := 1) (c' := (10, [some (qA 0), some (qI x1), some (qI x2), some (qI x3)], [qI x3], qH0 M)) rfl) ?_
  exact (qlim_calls (n := 1) rfl rfl rfl (Nat.le_of_ble_eq_true rfl) (Nat.le_of_ble_eq_true rfl))
set_option maxRecDepth 20000 in
theorem B_X11_person_13 {M : qMem} {x1 x2 x3 s0 : Int} : qlim C_X11_person (13, [some (qA 0), some (qI x1), some (qI x2), some (qI x3)], [qI s0], qH0 M) = qlim C_X11_person ((if ¬ s0 = 0 then 18 else 16), [some (qA 0), some (qI x1), some (qI x2), some (qI x3)], [], qH0 M) := (qlim_n (n := 1) (c' := ((if ¬ s0 = 0 then 18 else 16), [some (qA 0), some (qI x1), some (qI x2), some (qI x3)], [], qH0 M)) rfl)
set_option maxRecDepth 20000 in
theorem B_X11_person_16 {M : qMem} {x1 x2 x3 : Int} : qlim C_X11_person (16, [some (qA 0), some (qI x1), some (qI x2), some (qI x3)], [], qH0 M) = some (some (qI (-1)), qH0 M) := by
  refine Eq.trans (qlim_n (n := 1) (c' := (17, [some (qA 0), some (qI x1), some (qI x2), some (qI x3)], [qI (-1)], qH0 M)) rfl) ?_
  exact (qlim_ret rfl)
set_option maxRecDepth 20000 in
theorem B_X11_person_18 {M : qMem} {x1 x2 x3 : Int} : qlim C_X11_person (18, [some (qA 0), some (qI x1), some (qI x2), some (qI x3)], [], qH0 M) = qbd (S_X11_isIn [qI x2, qI 9] (qH0 M)) (fun r h' => qlim C_X11_person (24, [some (qA 0), some (qI x1), some (qI x2), some (qI x3)], r.toList ++ [], h')) := by
  refine Eq.trans (qlim_n (n := 2) (c' := (21, [some (qA 0), some (qI x1), some (qI x2), some (qI x3)], [qI 9, qI x2], qH0 M)) rfl) ?_
  exact (qlim_calls (n := 2) rfl rfl rfl (Nat.le_of_ble_eq_true rfl) (Nat.le_of_ble_eq_true rfl))
set_option maxRecDepth 20000 in
theorem B_X11_person_24 {M : qMem} {x1 x2 x3 s0 : Int} : qlim C_X11_person (24, [some (qA 0), some (qI x1), some (qI x2), some (qI x3)], [qI s0], qH0 M) = qlim C_X11_person ((if ¬ s0 = 0 then 30 else 27), [some (qA 0), some (qI x1), some (qI x2), some (qI x3)], [], qH0 M) := (qlim_n (n := 1) (c' := ((if ¬ s0 = 0 then 30 else 27), [some (qA 0), some (qI x1), some (qI x2), some (qI x3)], [], qH0 M)) rfl)
set_option maxRecDepth 20000 in
theorem B_X11_person_27 {M : qMem} {x1 x2 x3 : Int} : qlim C_X11_person (27, [some (qA 0), some (qI x1), some (qI x2), some (qI x3)], [], qH0 M) = some (some (qI (-2)), qH0 M) := by
  refine Eq.trans (qlim_n (n := 1) (c' := (29, [some (qA 0), some (qI x1), some (qI x2), some (qI x3)], [qI (-2)], qH0 M)) rfl) ?_
  exact (qlim_ret rfl)
set_option maxRecDepth 20000 in
theorem B_X11_person_30 {M : qMem} {x1 x2 x3 : Int} : qlim C_X11_person (30, [some (qA 0), some (qI x1), some (qI x2), some (qI x3)], [], qH0 M) = qlim C_X11_person ((if M 12 10 < 6 then 45 else 42), [some (qA 0), some (qI x1), some (qI x2), some (qI x3)], [], qH0 M) := (qlim_n (n := 5) (c' := ((if M 12 10 < 6 then 45 else 42), [some (qA 0), some (qI x1), some (qI x2), some (qI x3)], [], qH0 M)) rfl)
set_option maxRecDepth 20000 in
theorem B_X11_person_42 {M : qMem} {x1 x2 x3 : Int} : qlim C_X11_person (42, [some (qA 0), some (qI x1), some (qI x2), some (qI x3)], [], qH0 M) = some (some (qI (-4)), qH0 M) := by
  refine Eq.trans (qlim_n (n := 1) (c' := (44, [some (qA 0), some (qI x1), some (qI x2), some (qI x3)], [qI (-4)], qH0 M)) rfl) ?_
  exact (qlim_ret rfl)
set_option maxRecDepth 20000 in
theorem B_X11_person_45 {M : qMem} {x1 x2 x3 : Int} : qlim C_X11_person (45, [some (qA 0), some (qI x1), some (qI x2), some (qI x3)], [], qH0 M) = qbd (S_X8_comes [qA 12, qI x1, qI x2, qI x3] (qH0 M)) (fun r h' => qlim C_X11_person (55, [some (qA 0), some (qI x1), some (qI x2), some (qI x3)], r.toList ++ [], h')) := by
  refine Eq.trans (qlim_n (n := 5) (c' := (52, [some (qA 0), some (qI x1), some (qI x2), some (qI x3)], [qI x3, qI x2, qI x1, qA 12], qH0 M)) rfl) ?_
  exact (qlim_callv (n := 3) rfl rfl rfl (Nat.le_of_ble_eq_true rfl) (Nat.le_of_ble_eq_true rfl) rfl)
set_option maxRecDepth 20000 in
theorem B_X11_person_55 {M : qMem} {x1 x2 x3 s0 : Int} : qlim C_X11_person (55, [some (qA 0), some (qI x1), some (qI x2), some (qI x3)], [qI s0], qH0 M) = some (some (qI s0), qH0 M) := (qlim_ret rfl)
theorem E_X11_person {h : qH} {x1 x2 x3 : Int} : S_X11_person [qA 0, qI x1, qI x2, qI x3] h = qlim C_X11_person (0, [some (qA 0), some (qI x1), some (qI x2), some (qI x3)], [], h) := qM_at (Nat.le_of_ble_eq_true rfl) rfl
set_option maxRecDepth 20000 in
theorem B_X11_of_0 {M : qMem} {x1 x2 : Int} : qlim C_X11_of (0, [some (qA 0), some (qI x1), some (qI x2)], [], qH0 M) = qbd (S_X11_isPerson [qA 0, qI x1] (qH0 M)) (fun r h' => qlim C_X11_of (5, [some (qA 0), some (qI x1), some (qI x2)], r.toList ++ [], h')) := by
  refine Eq.trans (qlim_n (n := 2) (c' := (2, [some (qA 0), some (qI x1), some (qI x2)], [qI x1, qA 0], qH0 M)) rfl) ?_
  exact (qlim_callv (n := 1) rfl rfl rfl (Nat.le_of_ble_eq_true rfl) (Nat.le_of_ble_eq_true rfl) rfl)
set_option maxRecDepth 20000 in
theorem B_X11_of_5 {M : qMem} {x1 x2 s0 : Int} : qlim C_X11_of (5, [some (qA 0), some (qI x1), some (qI x2)], [qI s0], qH0 M) = qlim C_X11_of ((if ¬ s0 = 0 then 12 else 8), [some (qA 0), some (qI x1), some (qI x2)], [], qH0 M) := (qlim_n (n := 1) (c' := ((if ¬ s0 = 0 then 12 else 8), [some (qA 0), some (qI x1), some (qI x2)], [], qH0 M)) rfl)
set_option maxRecDepth 20000 in
theorem B_X11_of_8 {M : qMem} {x1 x2 : Int} : qlim C_X11_of (8, [some (qA 0), some (qI x1), some (qI x2)], [], qH0 M) = some (some (qI (-1001)), qH0 M) := by
  refine Eq.trans (qlim_n (n := 1) (c' := (11, [some (qA 0), some (qI x1), some (qI x2)], [qI (-1001)], qH0 M)) rfl) ?_
  exact (qlim_ret rfl)
set_option maxRecDepth 20000 in
theorem B_X11_of_12 {M : qMem} {x1 x2 : Int} : qlim C_X11_of (12, [some (qA 0), some (qI x1), some (qI x2)], [], qH0 M) = qlim C_X11_of (qtk [60, 70, 80, 90, 100, 110, 128, 144] 153 0 x2, [some (qA 0), some (qI x1), some (qI x2)], [], qH0 M) := (qlim_n (n := 2) (c' := (qtk [60, 70, 80, 90, 100, 110, 128, 144] 153 0 x2, [some (qA 0), some (qI x1), some (qI x2)], [], qH0 M)) rfl)
set_option maxRecDepth 20000 in
theorem B_X11_of_60 {M : qMem} {x1 x2 : Int} (h1 : 0 ≤ x1) (h2 : x1 < 6) : qlim C_X11_of (60, [some (qA 0), some (qI x1), some (qI x2)], [], qH0 M) = some (some (qI (M 14 x1)), qH0 M) := by
  refine Eq.trans (qlim_n (n := 4) (c' := (68, [some (qA 0), some (qI x1), some (qI x2)], [qI x1, qA 14], qH0 M)) rfl) ?_
  refine Eq.trans (qs_iaload rfl rfl h1 h2) ?_
  exact (qlim_ret rfl)
set_option maxRecDepth 20000 in
theorem B_X11_of_70 {M : qMem} {x1 x2 : Int} (h1 : 0 ≤ x1) (h2 : x1 < 6) : qlim C_X11_of (70, [some (qA 0), some (qI x1), some (qI x2)], [], qH0 M) = some (some (qI (M 15 x1)), qH0 M) := by
  refine Eq.trans (qlim_n (n := 4) (c' := (78, [some (qA 0), some (qI x1), some (qI x2)], [qI x1, qA 15], qH0 M)) rfl) ?_
  refine Eq.trans (qs_iaload rfl rfl h1 h2) ?_
  exact (qlim_ret rfl)
set_option maxRecDepth 20000 in
theorem B_X11_of_80 {M : qMem} {x1 x2 : Int} (h1 : 0 ≤ x1) (h2 : x1 < 6) : qlim C_X11_of (80, [some (qA 0), some (qI x1), some (qI x2)], [], qH0 M) = some (some (qI (M 16 x1)), qH0 M) := by
  refine Eq.trans (qlim_n (n := 4) (c' := (88, [some (qA 0), some (qI x1), some (qI x2)], [qI x1, qA 16], qH0 M)) rfl) ?_
  refine Eq.trans (qs_iaload rfl rfl h1 h2) ?_
  exact (qlim_ret rfl)
set_option maxRecDepth 20000 in
theorem B_X11_of_90 {M : qMem} {x1 x2 : Int} (h1 : 0 ≤ x1) (h2 : x1 < 6) : qlim C_X11_of (90, [some (qA 0), some (qI x1), some (qI x2)], [], qH0 M) = some (some (qI (M 17 x1)), qH0 M) := by
  refine Eq.trans (qlim_n (n := 4) (c' := (98, [some (qA 0), some (qI x1), some (qI x2)], [qI x1, qA 17], qH0 M)) rfl) ?_
  refine Eq.trans (qs_iaload rfl rfl h1 h2) ?_
  exact (qlim_ret rfl)
set_option maxRecDepth 20000 in
theorem B_X11_of_100 {M : qMem} {x1 x2 : Int} (h1 : 0 ≤ x1) (h2 : x1 < 6) : qlim C_X11_of (100, [some (qA 0), some (qI x1), some (qI x2)], [], qH0 M) = some (some (qI (M 18 x1)), qH0 M) := by
  refine Eq.trans (qlim_n (n := 4) (c' := (108, [some (qA 0), some (qI x1), some (qI x2)], [qI x1, qA 18], qH0 M)) rfl) ?_
  refine Eq.trans (qs_iaload rfl rfl h1 h2) ?_
  exact (qlim_ret rfl)
set_option maxRecDepth 20000 in
theorem B_X11_of_110 {M : qMem} {x1 x2 : Int} (h1 : 0 ≤ x1) (h2 : x1 < 6) : qlim C_X11_of (110, [some (qA 0), some (qI x1), some (qI x2)], [], qH0 M) = qlim C_X11_of ((if M 20 x1 = 0 then 126 else 122), [some (qA 0), some (qI x1), some (qI x2)], [], qH0 M) := by
  refine Eq.trans (qlim_n (n := 4) (c' := (118, [some (qA 0), some (qI x1), some (qI x2)], [qI x1, qA 20], qH0 M)) rfl) ?_
  refine Eq.trans (qs_zaload rfl rfl h1 h2) ?_
  exact (qlim_n (n := 1) (c' := ((if M 20 x1 = 0 then 126 else 122), [some (qA 0), some (qI x1), some (qI x2)], [], qH0 M)) rfl)
set_option maxRecDepth 20000 in
theorem B_X11_of_122 {M : qMem} {x1 x2 : Int} : qlim C_X11_of (122, [some (qA 0), some (qI x1), some (qI x2)], [], qH0 M) = qlim C_X11_of (127, [some (qA 0), some (qI x1), some (qI x2)], [qI 1], qH0 M) := (qlim_n (n := 2) (c' := (127, [some (qA 0), some (qI x1), some (qI x2)], [qI 1], qH0 M)) rfl)
set_option maxRecDepth 20000 in
theorem B_X11_of_126 {M : qMem} {x1 x2 : Int} : qlim C_X11_of (126, [some (qA 0), some (qI x1), some (qI x2)], [], qH0 M) = qlim C_X11_of (127, [some (qA 0), some (qI x1), some (qI x2)], [qI 0], qH0 M) := (qlim_n (n := 1) (c' := (127, [some (qA 0), some (qI x1), some (qI x2)], [qI 0], qH0 M)) rfl)
set_option maxRecDepth 20000 in
theorem B_X11_of_127 {M : qMem} {x1 x2 s0 : Int} : qlim C_X11_of (127, [some (qA 0), some (qI x1), some (qI x2)], [qI s0], qH0 M) = some (some (qI s0), qH0 M) := (qlim_ret rfl)
set_option maxRecDepth 20000 in
theorem B_X11_of_128 {M : qMem} {x1 x2 : Int} (h1 : qty (qH0 M) (M 12 13) = (3, 7)) : qlim C_X11_of (128, [some (qA 0), some (qI x1), some (qI x2)], [], qH0 M) = qbd (S_X3_zealOf [qA (M 12 13), qA 12, qI x1] (qH0 M)) (fun r h' => qlim C_X11_of (143, [some (qA 0), some (qI x1), some (qI x2)], r.toList ++ [], h')) := by
  refine Eq.trans (qlim_n (n := 6) (c' := (140, [some (qA 0), some (qI x1), some (qI x2)], [qI x1, qA 12, qA (M 12 13)], qH0 M)) rfl) ?_
  exact (qlim_callv (n := 2) rfl rfl rfl (Nat.le_of_ble_eq_true rfl) (Nat.le_of_ble_eq_true rfl) (by rw [h1]; rfl))
set_option maxRecDepth 20000 in
theorem B_X11_of_143 {M : qMem} {x1 x2 s0 : Int} : qlim C_X11_of (143, [some (qA 0), some (qI x1), some (qI x2)], [qI s0], qH0 M) = some (some (qI s0), qH0 M) := (qlim_ret rfl)
set_option maxRecDepth 20000 in
theorem B_X11_of_144 {M : qMem} {x1 x2 : Int} : qlim C_X11_of (144, [some (qA 0), some (qI x1), some (qI x2)], [], qH0 M) = qbd (S_X8_paceOf [qA 12, qI x1] (qH0 M)) (fun r h' => qlim C_X11_of (152, [some (qA 0), some (qI x1), some (qI x2)], r.toList ++ [], h')) := by
  refine Eq.trans (qlim_n (n := 3) (c' := (149, [some (qA 0), some (qI x1), some (qI x2)], [qI x1, qA 12], qH0 M)) rfl) ?_
  exact (qlim_callv (n := 1) rfl rfl rfl (Nat.le_of_ble_eq_true rfl) (Nat.le_of_ble_eq_true rfl) rfl)
set_option maxRecDepth 20000 in
theorem B_X11_of_152 {M : qMem} {x1 x2 s0 : Int} : qlim C_X11_of (152, [some (qA 0), some (qI x1), some (qI x2)], [qI s0], qH0 M) = some (some (qI s0), qH0 M) := (qlim_ret rfl)
set_option maxRecDepth 20000 in
theorem B_X11_of_153 {M : qMem} {x1 x2 : Int} : qlim C_X11_of (153, [some (qA 0), some (qI x1), some (qI x2)], [], qH0 M) = some (some (qI (-1001)), qH0 M) := by
  refine Eq.trans (qlim_n (n := 1) (c' := (156, [some (qA 0), some (qI x1), some (qI x2)], [qI (-1001)], qH0 M)) rfl) ?_
  exact (qlim_ret rfl)
theorem E_X11_of {h : qH} {x1 x2 : Int} : S_X11_of [qA 0, qI x1, qI x2] h = qlim C_X11_of (0, [some (qA 0), some (qI x1), some (qI x2)], [], h) := qM_at (Nat.le_of_ble_eq_true rfl) rfl
set_option maxRecDepth 20000 in
theorem B_X11_work_0 {M : qMem} {x1 x2 : Int} : qlim C_X11_work (0, [some (qA 0), some (qI x1), some (qI x2), none], [], qH0 M) = qbd (S_X11_isPerson [qA 0, qI x1] (qH0 M)) (fun r h' => qlim C_X11_work (5, [some (qA 0), some (qI x1), some (qI x2), none], r.toList ++ [], h')) := by
  refine Eq.trans (qlim_n (n := 2) (c' := (2, [some (qA 0), some (qI x1), some (qI x2), none], [qI x1, qA 0], qH0 M)) rfl) ?_
  exact (qlim_callv (n := 1) rfl rfl rfl (Nat.le_of_ble_eq_true rfl) (Nat.le_of_ble_eq_true rfl) rfl)
set_option maxRecDepth 20000 in
theorem B_X11_work_5 {M : qMem} {x1 x2 s0 : Int} : qlim C_X11_work (5, [some (qA 0), some (qI x1), some (qI x2), none], [qI s0], qH0 M) = qlim C_X11_work ((if s0 = 0 then 15 else 8), [some (qA 0), some (qI x1), some (qI x2), none], [], qH0 M) := (qlim_n (n := 1) (c' := ((if s0 = 0 then 15 else 8), [some (qA 0), some (qI x1), some (qI x2), none], [], qH0 M)) rfl)
set_option maxRecDepth 20000 in
theorem B_X11_work_8 {M : qMem} {x1 x2 : Int} : qlim C_X11_work (8, [some (qA 0), some (qI x1), some (qI x2), none], [], qH0 M) = qbd (S_X11_isWork [qI x2] (qH0 M)) (fun r h' => qlim C_X11_work (12, [some (qA 0), some (qI x1), some (qI x2), none], r.toList ++ [], h')) := by
  refine Eq.trans (qlim_n (n := 1) (c' := (9, [some (qA 0), some (qI x1), some (qI x2), none], [qI x2], qH0 M)) rfl) ?_
  exact (qlim_calls (n := 1) rfl rfl rfl (Nat.le_of_ble_eq_true rfl) (Nat.le_of_ble_eq_true rfl))
set_option maxRecDepth 20000 in
theorem B_X11_work_12 {M : qMem} {x1 x2 s0 : Int} : qlim C_X11_work (12, [some (qA 0), some (qI x1), some (qI x2), none], [qI s0], qH0 M) = qlim C_X11_work ((if ¬ s0 = 0 then 17 else 15), [some (qA 0), some (qI x1), some (qI x2), none], [], qH0 M) := (qlim_n (n := 1) (c' := ((if ¬ s0 = 0 then 17 else 15), [some (qA 0), some (qI x1), some (qI x2), none], [], qH0 M)) rfl)
set_option maxRecDepth 20000 in
theorem B_X11_work_15 {M : qMem} {x1 x2 : Int} : qlim C_X11_work (15, [some (qA 0), some (qI x1), some (qI x2), none], [], qH0 M) = some (some (qI (-1)), qH0 M) := by
  refine Eq.trans (qlim_n (n := 1) (c' := (16, [some (qA 0), some (qI x1), some (qI x2), none], [qI (-1)], qH0 M)) rfl) ?_
  exact (qlim_ret rfl)
set_option maxRecDepth 20000 in
theorem B_X11_work_17 {M : qMem} {x1 x2 : Int} (h1 : 0 ≤ x1) (h2 : x1 < 6) : qlim C_X11_work (17, [some (qA 0), some (qI x1), some (qI x2), none], [], qH0 M) = some (some (qI (M 16 x1)), qH0 (qup M 16 x1 x2)) := by
  refine Eq.trans (qlim_n (n := 4) (c' := (25, [some (qA 0), some (qI x1), some (qI x2), none], [qI x1, qA 16], qH0 M)) rfl) ?_
  refine Eq.trans (qs_iaload rfl rfl h1 h2) ?_
  refine Eq.trans (qlim_n (n := 6) (c' := (36, [some (qA 0), some (qI x1), some (qI x2), some (qI (M 16 x1))], [qI x2, qI x1, qA 16], qH0 M)) rfl) ?_
  refine Eq.trans (qs_iastore rfl rfl h1 h2) ?_
  refine Eq.trans (qlim_n (n := 1) (c' := (38, [some (qA 0), some (qI x1), some (qI x2), some (qI (M 16 x1))], [qI (M 16 x1)], qH0 (qup M 16 x1 x2))) rfl) ?_
  exact (qlim_ret rfl)
theorem E_X11_work {h : qH} {x1 x2 : Int} : S_X11_work [qA 0, qI x1, qI x2] h = qlim C_X11_work (0, [some (qA 0), some (qI x1), some (qI x2), none], [], h) := qM_at (Nat.le_of_ble_eq_true rfl) rfl
set_option maxRecDepth 20000 in
theorem B_X11_home_0 {M : qMem} {x1 x2 : Int} : qlim C_X11_home (0, [some (qA 0), some (qI x1), some (qI x2), none], [], qH0 M) = qbd (S_X11_isPerson [qA 0, qI x1] (qH0 M)) (fun r h' => qlim C_X11_home (5, [some (qA 0), some (qI x1), some (qI x2), none], r.toList ++ [], h')) := by
  refine Eq.trans (qlim_n (n := 2) (c' := (2, [some (qA 0), some (qI x1), some (qI x2), none], [qI x1, qA 0], qH0 M)) rfl) ?_
  exact (qlim_callv (n := 1) rfl rfl rfl (Nat.le_of_ble_eq_true rfl) (Nat.le_of_ble_eq_true rfl) rfl)
set_option maxRecDepth 20000 in
theorem B_X11_home_5 {M : qMem} {x1 x2 s0 : Int} : qlim C_X11_home (5, [some (qA 0), some (qI x1), some (qI x2), none], [qI s0], qH0 M) = qlim C_X11_home ((if ¬ s0 = 0 then 10 else 8), [some (qA 0), some (qI x1), some (qI x2), none], [], qH0 M) := (qlim_n (n := 1) (c' := ((if ¬ s0 = 0 then 10 else 8), [some (qA 0), some (qI x1), some (qI x2), none], [], qH0 M)) rfl)
set_option maxRecDepth 20000 in
theorem B_X11_home_8 {M : qMem} {x1 x2 : Int} : qlim C_X11_home (8, [some (qA 0), some (qI x1), some (qI x2), none], [], qH0 M) = some (some (qI (-1)), qH0 M) := by
  refine Eq.trans (qlim_n (n := 1) (c' := (9, [some (qA 0), some (qI x1), some (qI x2), none], [qI (-1)], qH0 M)) rfl) ?_
  exact (qlim_ret rfl)
set_option maxRecDepth 20000 in
theorem B_X11_home_10 {M : qMem} {x1 x2 : Int} (h1 : 0 ≤ x1) (h2 : x1 < 6) : qlim C_X11_home (10, [some (qA 0), some (qI x1), some (qI x2), none], [], qH0 M) = qlim C_X11_home ((if M 20 x1 = 0 then 26 else 22), [some (qA 0), some (qI x1), some (qI x2), none], [], qH0 M) := by
  refine Eq.trans (qlim_n (n := 4) (c' := (18, [some (qA 0), some (qI x1), some (qI x2), none], [qI x1, qA 20], qH0 M)) rfl) ?_
  refine Eq.trans (qs_zaload rfl rfl h1 h2) ?_
  exact (qlim_n (n := 1) (c' := ((if M 20 x1 = 0 then 26 else 22), [some (qA 0), some (qI x1), some (qI x2), none], [], qH0 M)) rfl)
set_option maxRecDepth 20000 in
theorem B_X11_home_22 {M : qMem} {x1 x2 : Int} : qlim C_X11_home (22, [some (qA 0), some (qI x1), some (qI x2), none], [], qH0 M) = qlim C_X11_home (27, [some (qA 0), some (qI x1), some (qI x2), none], [qI 1], qH0 M) := (qlim_n (n := 2) (c' := (27, [some (qA 0), some (qI x1), some (qI x2), none], [qI 1], qH0 M)) rfl)
set_option maxRecDepth 20000 in
theorem B_X11_home_26 {M : qMem} {x1 x2 : Int} : qlim C_X11_home (26, [some (qA 0), some (qI x1), some (qI x2), none], [], qH0 M) = qlim C_X11_home (27, [some (qA 0), some (qI x1), some (qI x2), none], [qI 0], qH0 M) := (qlim_n (n := 1) (c' := (27, [some (qA 0), some (qI x1), some (qI x2), none], [qI 0], qH0 M)) rfl)
set_option maxRecDepth 20000 in
theorem B_X11_home_27 {M : qMem} {x1 x2 s0 : Int} (h1 : 0 ≤ x1) (h2 : x1 < 6) (h3 : x2 = 0 ∨ x2 = 1) : qlim C_X11_home (27, [some (qA 0), some (qI x1), some (qI x2), none], [qI s0], qH0 M) = some (some (qI s0), qH0 (qup M 20 x1 x2)) := by
  refine Eq.trans (qlim_n (n := 6) (c' := (37, [some (qA 0), some (qI x1), some (qI x2), some (qI s0)], [qI x2, qI x1, qA 20], qH0 M)) rfl) ?_
  refine Eq.trans (qs_zastore rfl rfl h1 h2 h3) ?_
  refine Eq.trans (qlim_n (n := 1) (c' := (39, [some (qA 0), some (qI x1), some (qI x2), some (qI s0)], [qI s0], qH0 (qup M 20 x1 x2))) rfl) ?_
  exact (qlim_ret rfl)
theorem E_X11_home {h : qH} {x1 x2 : Int} : S_X11_home [qA 0, qI x1, qI x2] h = qlim C_X11_home (0, [some (qA 0), some (qI x1), some (qI x2), none], [], h) := qM_at (Nat.le_of_ble_eq_true rfl) rfl
set_option maxRecDepth 20000 in
theorem B_X11_row_0 {M : qMem} {x1 x2 x3 : Int} : qlim C_X11_row (0, [some (qA 0), some (qI x1), some (qI x2), some (qI x3), none, none], [], qH0 M) = qbd (S_X11_isPerson [qA 0, qI x1] (qH0 M)) (fun r h' => qlim C_X11_row (5, [some (qA 0), some (qI x1), some (qI x2), some (qI x3), none, none], r.toList ++ [], h')) := by
  refine Eq.trans (qlim_n (n := 2) (c' := (2, [some (qA 0), some (qI x1), some (qI x2), some (qI x3), none, none], [qI x1, qA 0], qH0 M)) rfl) ?_
  exact (qlim_callv (n := 1) rfl rfl rfl (Nat.le_of_ble_eq_true rfl) (Nat.le_of_ble_eq_true rfl) rfl)
set_option maxRecDepth 20000 in
theorem B_X11_row_5 {M : qMem} {x1 x2 x3 s0 : Int} : qlim C_X11_row (5, [some (qA 0), some (qI x1), some (qI x2), some (qI x3), none, none], [qI s0], qH0 M) = qlim C_X11_row ((if s0 = 0 then 16 else 8), [some (qA 0), some (qI x1), some (qI x2), some (qI x3), none, none], [], qH0 M) := (qlim_n (n := 1) (c' := ((if s0 = 0 then 16 else 8), [some (qA 0), some (qI x1), some (qI x2), some (qI x3), none, none], [], qH0 M)) rfl)
set_option maxRecDepth 20000 in
theorem B_X11_row_8 {M : qMem} {x1 x2 x3 : Int} : qlim C_X11_row (8, [some (qA 0), some (qI x1), some (qI x2), some (qI x3), none, none], [], qH0 M) = qbd (S_X11_isIn [qI x2, qI 3] (qH0 M)) (fun r h' => qlim C_X11_row (13, [some (qA 0), some (qI x1), some (qI x2), some (qI x3), none, none], r.toList ++ [], h')) := by
  refine Eq.trans (qlim_n (n := 2) (c' := (10, [some (qA 0), some (qI x1), some (qI x2), some (qI x3), none, none], [qI 3, qI x2], qH0 M)) rfl) ?_
  exact (qlim_calls (n := 2) rfl rfl rfl (Nat.le_of_ble_eq_true rfl) (Nat.le_of_ble_eq_true rfl))
set_option maxRecDepth 20000 in
theorem B_X11_row_13 {M : qMem} {x1 x2 x3 s0 : Int} : qlim C_X11_row (13, [some (qA 0), some (qI x1), some (qI x2), some (qI x3), none, none], [qI s0], qH0 M) = qlim C_X11_row ((if ¬ s0 = 0 then 18 else 16), [some (qA 0), some (qI x1), some (qI x2), some (qI x3), none, none], [], qH0 M) := (qlim_n (n := 1) (c' := ((if ¬ s0 = 0 then 18 else 16), [some (qA 0), some (qI x1), some (qI x2), some (qI x3), none, none], [], qH0 M)) rfl)
set_option maxRecDepth 20000 in
theorem B_X11_row_16 {M : qMem} {x1 x2 x3 : Int} : qlim C_X11_row (16, [some (qA 0), some (qI x1), some (qI x2), some (qI x3), none, none], [], qH0 M) = some (some (qI (-1)), qH0 M) := by
  refine Eq.trans (qlim_n (n := 1) (c' := (17, [some (qA 0), some (qI x1), some (qI x2), some (qI x3), none, none], [qI (-1)], qH0 M)) rfl) ?_
  exact (qlim_ret rfl)
set_option maxRecDepth 20000 in
theorem B_X11_row_18 {M : qMem} {x1 x2 x3 : Int} : qlim C_X11_row (18, [some (qA 0), some (qI x1), some (qI x2), some (qI x3), none, none], [], qH0 M) = qbd (S_X11_isIn [qI x3, qI 9] (qH0 M)) (fun r h' => qlim C_X11_row (24, [some (qA 0), some (qI x1), some (qI x2), some (qI x3), none, none], r.toList ++ [], h')) := by
  refine Eq.trans (qlim_n (n := 2) (c' := (21, [some (qA 0), some (qI x1), some (qI x2), some (qI x3), none, none], [qI 9, qI x3], qH0 M)) rfl) ?_
  exact (qlim_calls (n := 2) rfl rfl rfl (Nat.le_of_ble_eq_true rfl) (Nat.le_of_ble_eq_true rfl))
set_option maxRecDepth 20000 in
theorem B_X11_row_24 {M : qMem} {x1 x2 x3 s0 : Int} : qlim C_X11_row (24, [some (qA 0), some (qI x1), some (qI x2), some (qI x3), none, none], [qI s0], qH0 M) = qlim C_X11_row ((if ¬ s0 = 0 then 30 else 27), [some (qA 0), some (qI x1), some (qI x2), some (qI x3), none, none], [], qH0 M) := (qlim_n (n := 1) (c' := ((if ¬ s0 = 0 then 30 else 27), [some (qA 0), some (qI x1), some (qI x2), some (qI x3), none, none], [], qH0 M)) rfl)
set_option maxRecDepth 20000 in
theorem B_X11_row_27 {M : qMem} {x1 x2 x3 : Int} : qlim C_X11_row (27, [some (qA 0), some (qI x1), some (qI x2), some (qI x3), none, none], [], qH0 M) = some (some (qI (-2)), qH0 M) := by
  refine Eq.trans (qlim_n (n := 1) (c' := (29, [some (qA 0), some (qI x1), some (qI x2), some (qI x3), none, none], [qI (-2)], qH0 M)) rfl) ?_
  exact (qlim_ret rfl)
set_option maxRecDepth 20000 in
theorem B_X11_row_30 {M : qMem} {x1 x2 x3 : Int} (h1 : 0 ≤ x1) (h2 : x1 < 6) : qlim C_X11_row (30, [some (qA 0), some (qI x1), some (qI x2), some (qI x3), none, none], [], qH0 M) = qlim C_X11_row ((if M 14 x1 = 6 then 47 else 44), [some (qA 0), some (qI x1), some (qI x2), some (qI x3), none, none], [], qH0 M) := by
  refine Eq.trans (qlim_n (n := 4) (c' := (38, [some (qA 0), some (qI x1), some (qI x2), some (qI x3), none, none], [qI x1, qA 14], qH0 M)) rfl) ?_
  refine Eq.trans (qs_iaload rfl rfl h1 h2) ?_
  exact (qlim_n (n := 2) (c' := ((if M 14 x1 = 6 then 47 else 44), [some (qA 0), some (qI x1), some (qI x2), some (qI x3), none, none], [], qH0 M)) rfl)
set_option maxRecDepth 20000 in
theorem B_X11_row_44 {M : qMem} {x1 x2 x3 : Int} : qlim C_X11_row (44, [some (qA 0), some (qI x1), some (qI x2), some (qI x3), none, none], [], qH0 M) = some (some (qI (-3)), qH0 M) := by
  refine Eq.trans (qlim_n (n := 1) (c' := (46, [some (qA 0), some (qI x1), some (qI x2), some (qI x3), none, none], [qI (-3)], qH0 M)) rfl) ?_
  exact (qlim_ret rfl)
set_option maxRecDepth 20000 in
theorem B_X11_row_47 {M : qMem} {x1 x2 x3 : Int} (h1 : 0 ≤ kadd (kmul x1 4) x2) (h2 : kadd (kmul x1 4) x2 < 24) : qlim C_X11_row (47, [some (qA 0), some (qI x1), some (qI x2), some (qI x3), none, none], [], qH0 M) = some (some (qI (M 19 (kadd (kmul x1 4) x2))), qH0 (qup M 19 (kadd (kmul x1 4) x2) x3)) := by
  refine Eq.trans (qlim_n (n := 10) (c' := (63, [some (qA 0), some (qI x1), some (qI x2), some (qI x3), some (qI (kadd (kmul x1 4) x2)), none], [qI (kadd (kmul x1 4) x2), qA 19], qH0 M)) rfl) ?_
  refine Eq.trans (qs_iaload rfl rfl h1 h2) ?_
  refine Eq.trans (qlim_n (n := 6) (c' := (76, [some (qA 0), some (qI x1), some (qI x2), some (qI x3), some (qI (kadd (kmul x1 4) x2)), some (qI (M 19 (kadd (kmul x1 4) x2)))], [qI x3, qI (kadd (kmul x1 4) x2), qA 19], qH0 M)) rfl) ?_
  refine Eq.trans (qs_iastore rfl rfl h1 h2) ?_
  refine Eq.trans (qlim_n (n := 1) (c' := (79, [some (qA 0), some (qI x1), some (qI x2), some (qI x3), some (qI (kadd (kmul x1 4) x2)), some (qI (M 19 (kadd (kmul x1 4) x2)))], [qI (M 19 (kadd (kmul x1 4) x2))], qH0 (qup M 19 (kadd (kmul x1 4) x2) x3))) rfl) ?_
  exact (qlim_ret rfl)
theorem E_X11_row {h : qH} {x1 x2 x3 : Int} : S_X11_row [qA 0, qI x1, qI x2, qI x3] h = qlim C_X11_row (0, [some (qA 0), some (qI x1), some (qI x2), some (qI x3), none, none], [], h) := qM_at (Nat.le_of_ble_eq_true rfl) rfl
set_option maxRecDepth 20000 in
theorem B_X11_heap_0 {M : qMem} {x1 x2 : Int} : qlim C_X11_heap (0, [some (qA 0), some (qI x1), some (qI x2), none], [], qH0 M) = qbd (S_X11_isHeap [qI x1] (qH0 M)) (fun r h' => qlim C_X11_heap (4, [some (qA 0), some (qI x1), some (qI x2), none], r.toList ++ [], h')) := by
  refine Eq.trans (qlim_n (n := 1) (c' := (1, [some (qA 0), some (qI x1), some (qI x2), none], [qI x1], qH0 M)) rfl) ?_
  exact (qlim_calls (n := 1) rfl rfl rfl (Nat.le_of_ble_eq_true rfl) (Nat.le_of_ble_eq_true rfl))
set_option maxRecDepth 20000 in
theorem B_X11_heap_4 {M : qMem} {x1 x2 s0 : Int} : qlim C_X11_heap (4, [some (qA 0), some (qI x1), some (qI x2), none], [qI s0], qH0 M) = qlim C_X11_heap ((if ¬ s0 = 0 then 9 else 7), [some (qA 0), some (qI x1), some (qI x2), none], [], qH0 M) := (qlim_n (n := 1) (c' := ((if ¬ s0 = 0 then 9 else 7), [some (qA 0), some (qI x1), some (qI x2), none], [], qH0 M)) rfl)
set_option maxRecDepth 20000 in
theorem B_X11_heap_7 {M : qMem} {x1 x2 : Int} : qlim C_X11_heap (7, [some (qA 0), some (qI x1), some (qI x2), none], [], qH0 M) = some (some (qI (-1)), qH0 M) := by
  refine Eq.trans (qlim_n (n := 1) (c' := (8, [some (qA 0), some (qI x1), some (qI x2), none], [qI (-1)], qH0 M)) rfl) ?_
  exact (qlim_ret rfl)
set_option maxRecDepth 20000 in
theorem B_X11_heap_9 {M : qMem} {x1 x2 : Int} : qlim C_X11_heap (9, [some (qA 0), some (qI x1), some (qI x2), none], [], qH0 M) = qbd (S_X11_isIn [qI x2, qI 9999] (qH0 M)) (fun r h' => qlim C_X11_heap (16, [some (qA 0), some (qI x1), some (qI x2), none], r.toList ++ [], h')) := by
  refine Eq.trans (qlim_n (n := 2) (c' := (13, [some (qA 0), some (qI x1), some (qI x2), none], [qI 9999, qI x2], qH0 M)) rfl) ?_
  exact (qlim_calls (n := 2) rfl rfl rfl (Nat.le_of_ble_eq_true rfl) (Nat.le_of_ble_eq_true rfl))
set_option maxRecDepth 20000 in
theorem B_X11_heap_16 {M : qMem} {x1 x2 s0 : Int} : qlim C_X11_heap (16, [some (qA 0), some (qI x1), some (qI x2), none], [qI s0], qH0 M) = qlim C_X11_heap ((if ¬ s0 = 0 then 22 else 19), [some (qA 0), some (qI x1), some (qI x2), none], [], qH0 M) := (qlim_n (n := 1) (c' := ((if ¬ s0 = 0 then 22 else 19), [some (qA 0), some (qI x1), some (qI x2), none], [], qH0 M)) rfl)
set_option maxRecDepth 20000 in
theorem B_X11_heap_19 {M : qMem} {x1 x2 : Int} : qlim C_X11_heap (19, [some (qA 0), some (qI x1), some (qI x2), none], [], qH0 M) = some (some (qI (-2)), qH0 M) := by
  refine Eq.trans (qlim_n (n := 1) (c' := (21, [some (qA 0), some (qI x1), some (qI x2), none], [qI (-2)], qH0 M)) rfl) ?_
  exact (qlim_ret rfl)
set_option maxRecDepth 20000 in
theorem B_X11_heap_22 {M : qMem} {x1 x2 : Int} (h1 : 0 ≤ x1) (h2 : x1 < 5) : qlim C_X11_heap (22, [some (qA 0), some (qI x1), some (qI x2), none], [], qH0 M) = some (some (qI (M 13 x1)), qH0 (qup M 13 x1 x2)) := by
  refine Eq.trans (qlim_n (n := 4) (c' := (30, [some (qA 0), some (qI x1), some (qI x2), none], [qI x1, qA 13], qH0 M)) rfl) ?_
  refine Eq.trans (qs_iaload rfl rfl h1 h2) ?_
  refine Eq.trans (qlim_n (n := 6) (c' := (41, [some (qA 0), some (qI x1), some (qI x2), some (qI (M 13 x1))], [qI x2, qI x1, qA 13], qH0 M)) rfl) ?_
  refine Eq.trans (qs_iastore rfl rfl h1 h2) ?_
  refine Eq.trans (qlim_n (n := 1) (c' := (43, [some (qA 0), some (qI x1), some (qI x2), some (qI (M 13 x1))], [qI (M 13 x1)], qH0 (qup M 13 x1 x2))) rfl) ?_
  exact (qlim_ret rfl)
theorem E_X11_heap {h : qH} {x1 x2 : Int} : S_X11_heap [qA 0, qI x1, qI x2] h = qlim C_X11_heap (0, [some (qA 0), some (qI x1), some (qI x2), none], [], h) := qM_at (Nat.le_of_ble_eq_true rfl) rfl
set_option maxRecDepth 20000 in
theorem B_X11_feed_0 {M : qMem} {x1 : Int} : qlim C_X11_feed (0, [some (qA 0), some (qI x1)], [], qH0 M) = qbd (S_X11_isIn [qI x1, qI 127] (qH0 M)) (fun r h' => qlim C_X11_feed (6, [some (qA 0), some (qI x1)], r.toList ++ [], h')) := by
  refine Eq.trans (qlim_n (n := 2) (c' := (3, [some (qA 0), some (qI x1)], [qI 127, qI x1], qH0 M)) rfl) ?_
  exact (qlim_calls (n := 2) rfl rfl rfl (Nat.le_of_ble_eq_true rfl) (Nat.le_of_ble_eq_true rfl))
set_option maxRecDepth 20000 in
theorem B_X11_feed_6 {M : qMem} {x1 s0 : Int} : qlim C_X11_feed (6, [some (qA 0), some (qI x1)], [qI s0], qH0 M) = qlim C_X11_feed ((if ¬ s0 = 0 then 12 else 9), [some (qA 0), some (qI x1)], [], qH0 M) := (qlim_n (n := 1) (c' := ((if ¬ s0 = 0 then 12 else 9), [some (qA 0), some (qI x1)], [], qH0 M)) rfl)
set_option maxRecDepth 20000 in
theorem B_X11_feed_9 {M : qMem} {x1 : Int} : qlim C_X11_feed (9, [some (qA 0), some (qI x1)], [], qH0 M) = some (some (qI (-2)), qH0 M) := by
  refine Eq.trans (qlim_n (n := 1) (c' := (11, [some (qA 0), some (qI x1)], [qI (-2)], qH0 M)) rfl) ?_
  exact (qlim_ret rfl)
set_option maxRecDepth 20000 in
theorem B_X11_feed_12 {M : qMem} {x1 : Int} : qlim C_X11_feed (12, [some (qA 0), some (qI x1)], [], qH0 M) = qlim C_X11_feed ((if M 0 11 < 100 then 24 else 21), [some (qA 0), some (qI x1)], [], qH0 M) := (qlim_n (n := 4) (c' := ((if M 0 11 < 100 then 24 else 21), [some (qA 0), some (qI x1)], [], qH0 M)) rfl)
set_option maxRecDepth 20000 in
theorem B_X11_feed_21 {M : qMem} {x1 : Int} : qlim C_X11_feed (21, [some (qA 0), some (qI x1)], [], qH0 M) = some (some (qI (-4)), qH0 M) := by
  refine Eq.trans (qlim_n (n := 1) (c' := (23, [some (qA 0), some (qI x1)], [qI (-4)], qH0 M)) rfl) ?_
  exact (qlim_ret rfl)
set_option maxRecDepth 20000 in
theorem B_X11_feed_24 {M : qMem} {x1 : Int} (h1 : 0 ≤ M 0 11) (h2 : M 0 11 < 100) (h3 : -128 ≤ ki2b x1) (h4 : ki2b x1 ≤ 127) : qlim C_X11_feed (24, [some (qA 0), some (qI x1)], [], qH0 M) = some (some (qI ((qup (qup M 51 (M 0 11) (ki2b x1)) 0 11 (kadd ((qup M 51 (M 0 11) (ki2b x1)) 0 11) 1)) 0 11)), qH0 (qup (qup M 51 (M 0 11) (ki2b x1)) 0 11 (kadd ((qup M 51 (M 0 11) (ki2b x1)) 0 11) 1))) := by
  refine Eq.trans (qlim_n (n := 6) (c' := (34, [some (qA 0), some (qI x1)], [qI (ki2b x1), qI (M 0 11), qA 51], qH0 M)) rfl) ?_
  refine Eq.trans (qs_bastore rfl rfl h1 h2 h3 h4) ?_
  refine Eq.trans (qlim_n (n := 8) (c' := (49, [some (qA 0), some (qI x1)], [qI ((qup (qup M 51 (M 0 11) (ki2b x1)) 0 11 (kadd ((qup M 51 (M 0 11) (ki2b x1)) 0 11) 1)) 0 11)], qH0 (qup (qup M 51 (M 0 11) (ki2b x1)) 0 11 (kadd ((qup M 51 (M 0 11) (ki2b x1)) 0 11) 1)))) rfl) ?_
  exact (qlim_ret rfl)
theorem E_X11_feed {h : qH} {x1 : Int} : S_X11_feed [qA 0, qI x1] h = qlim C_X11_feed (0, [some (qA 0), some (qI x1)], [], h) := qM_at (Nat.le_of_ble_eq_true rfl) rfl
set_option maxRecDepth 20000 in
theorem B_X11_hall_0 {M : qMem} : qlim C_X11_hall (0, [some (qA 0), none, none], [], qH0 M) = qlim C_X11_hall ((if M 0 13 < 6 then 12 else 9), [some (qA 0), none, none], [], qH0 M) := (qlim_n (n := 4) (c' := ((if M 0 13 < 6 then 12 else 9), [some (qA 0), none, none], [], qH0 M)) rfl)
set_option maxRecDepth 20000 in
theorem B_X11_hall_9 {M : qMem} : qlim C_X11_hall (9, [some (qA 0), none, none], [], qH0 M) = some (some (qI (-4)), qH0 M) := by
  refine Eq.trans (qlim_n (n := 1) (c' := (11, [some (qA 0), none, none], [qI (-4)], qH0 M)) rfl) ?_
  exact (qlim_ret rfl)
set_option maxRecDepth 20000 in
theorem B_X11_hall_12 {M : qMem} (h1 : 0 ≤ M 0 13) (h2 : M 0 13 < 6) (h3 : qty (qH0 M) (qG0 52 (M 0 13)) = (3, 7)) : qlim C_X11_hall (12, [some (qA 0), none, none], [], qH0 M) = qbd (S_X3_takesText [qA (qG0 52 (M 0 13)), qA 51, qI (M 0 11)] (qH0 M)) (fun r h' => qlim C_X11_hall (34, [some (qA 0), some (qA (qG0 52 (M 0 13))), none], r.toList ++ [], h')) := by
  refine Eq.trans (qlim_n (n := 4) (c' := (20, [some (qA 0), none, none], [qI (M 0 13), qA 52], qH0 M)) rfl) ?_
  refine Eq.trans (qs_aaload rfl rfl (by decide) h1 h2) ?_
  refine Eq.trans (qlim_n (n := 6) (c' := (31, [some (qA 0), some (qA (qG0 52 (M 0 13))), none], [qI (M 0 11), qA 51, qA (qG0 52 (M 0 13))], qH0 M)) rfl) ?_
  exact (qlim_callv (n := 2) rfl rfl rfl (Nat.le_of_ble_eq_true rfl) (Nat.le_of_ble_eq_true rfl) (by rw [h3]; rfl))
set_option maxRecDepth 20000 in
theorem B_X11_hall_34 {M : qMem} {x1 s0 : Int} (h_x1 : qHl x1) : qlim C_X11_hall (34, [some (qA 0), some (qA x1), none], [qI s0], qH0 M) = qlim C_X11_hall ((if ¬ s0 = 0 then 52 else 44), [some (qA 0), some (qA x1), some (qI s0)], [], qH0 (qup M 0 11 0)) := (qlim_n (n := 6) (c' := ((if ¬ s0 = 0 then 52 else 44), [some (qA 0), some (qA x1), some (qI s0)], [], qH0 (qup M 0 11 0))) rfl)
set_option maxRecDepth 20000 in
theorem B_X11_hall_44 {M : qMem} {x1 x2 : Int} (h_x1 : qHl x1) : qlim C_X11_hall (44, [some (qA 0), some (qA x1), some (qI x2)], [], qH0 M) = some (some (qI (ksub (-10) (M x1 6))), qH0 M) := by
  refine Eq.trans (qlim_n (n := 2) (c' := (47, [some (qA 0), some (qA x1), some (qI x2)], [qA x1, qI (-10)], qH0 M)) rfl) ?_
  refine Eq.trans (qs_getI rfl (qHl_ty h_x1) (by decide)) ?_
  refine Eq.trans (qlim_n (n := 1) (c' := (51, [some (qA 0), some (qA x1), some (qI x2)], [qI (ksub (-10) (M x1 6))], qH0 M)) rfl) ?_
  exact (qlim_ret rfl)
set_option maxRecDepth 20000 in
theorem B_X11_hall_52 {M : qMem} {x1 x2 : Int} (h_x1 : qHl x1) : qlim C_X11_hall (52, [some (qA 0), some (qA x1), some (qI x2)], [], qH0 M) = qbd (S_X8_holds [qA 12, qA x1] (qH0 M)) (fun r h' => qlim C_X11_hall (60, [some (qA 0), some (qA x1), some (qI x2)], r.toList ++ [], h')) := by
  refine Eq.trans (qlim_n (n := 3) (c' := (57, [some (qA 0), some (qA x1), some (qI x2)], [qA x1, qA 12], qH0 M)) rfl) ?_
  exact (qlim_callv (n := 1) rfl rfl rfl (Nat.le_of_ble_eq_true rfl) (Nat.le_of_ble_eq_true rfl) rfl)
set_option maxRecDepth 20000 in
theorem B_X11_hall_60 {M : qMem} {x1 x2 : Int} (h_x1 : qHl x1) : qlim C_X11_hall (60, [some (qA 0), some (qA x1), some (qI x2)], [], qH0 M) = some (some (qI (ksub ((qup M 0 13 (kadd (M 0 13) 1)) 0 13) 1)), qH0 (qup M 0 13 (kadd (M 0 13) 1))) := by
  refine Eq.trans (qlim_n (n := 10) (c' := (76, [some (qA 0), some (qA x1), some (qI x2)], [qI (ksub ((qup M 0 13 (kadd (M 0 13) 1)) 0 13) 1)], qH0 (qup M 0 13 (kadd (M 0 13) 1)))) rfl) ?_
  exact (qlim_ret rfl)
theorem E_X11_hall {h : qH} : S_X11_hall [qA 0] h = qlim C_X11_hall (0, [some (qA 0), none, none], [], h) := qM_at (Nat.le_of_ble_eq_true rfl) rfl
set_option maxRecDepth 20000 in
theorem B_X11_told_0 {M : qMem} {x1 : Int} : qlim C_X11_told (0, [some (qA 0), some (qI x1)], [], qH0 M) = qlim C_X11_told (qtk [28, 36, 44] 55 0 x1, [some (qA 0), some (qI x1)], [], qH0 M) := (qlim_n (n := 2) (c' := (qtk [28, 36, 44] 55 0 x1, [some (qA 0), some (qI x1)], [], qH0 M)) rfl)
set_option maxRecDepth 20000 in
theorem B_X11_told_28 {M : qMem} {x1 : Int} : qlim C_X11_told (28, [some (qA 0), some (qI x1)], [], qH0 M) = some (some (qI (M 12 11)), qH0 M) := by
  refine Eq.trans (qlim_n (n := 3) (c' := (35, [some (qA 0), some (qI x1)], [qI (M 12 11)], qH0 M)) rfl) ?_
  exact (qlim_ret rfl)
set_option maxRecDepth 20000 in
theorem B_X11_told_36 {M : qMem} {x1 : Int} : qlim C_X11_told (36, [some (qA 0), some (qI x1)], [], qH0 M) = some (some (qI (M 12 12)), qH0 M) := by
  refine Eq.trans (qlim_n (n := 3) (c' := (43, [some (qA 0), some (qI x1)], [qI (M 12 12)], qH0 M)) rfl) ?_
  exact (qlim_ret rfl)
set_option maxRecDepth 20000 in
theorem B_X11_told_44 {M : qMem} {x1 : Int} (h1 : qty (qH0 M) (M 12 13) = (3, 7)) : qlim C_X11_told (44, [some (qA 0), some (qI x1)], [], qH0 M) = some (some (qI (M (M 12 13) 5)), qH0 M) := by
  refine Eq.trans (qlim_n (n := 3) (c' := (51, [some (qA 0), some (qI x1)], [qA (M 12 13)], qH0 M)) rfl) ?_
  refine Eq.trans (qs_getI rfl h1 (by decide)) ?_
  exact (qlim_ret rfl)
set_option maxRecDepth 20000 in
theorem B_X11_told_55 {M : qMem} {x1 : Int} : qlim C_X11_told (55, [some (qA 0), some (qI x1)], [], qH0 M) = qlim C_X11_told ((if x1 < 10 then 82 else 61), [some (qA 0), some (qI x1)], [], qH0 M) := (qlim_n (n := 3) (c' := ((if x1 < 10 then 82 else 61), [some (qA 0), some (qI x1)], [], qH0 M)) rfl)
set_option maxRecDepth 20000 in
theorem B_X11_told_61 {M : qMem} {x1 : Int} : qlim C_X11_told (61, [some (qA 0), some (qI x1)], [], qH0 M) = qlim C_X11_told ((if 15 ≤ x1 then 82 else 67), [some (qA 0), some (qI x1)], [], qH0 M) := (qlim_n (n := 3) (c' := ((if 15 ≤ x1 then 82 else 67), [some (qA 0), some (qI x1)], [], qH0 M)) rfl)
set_option maxRecDepth 20000 in
theorem B_X11_told_67 {M : qMem} {x1 : Int} (h1 : 0 ≤ ksub x1 10) (h2 : ksub x1 10 < 5) : qlim C_X11_told (67, [some (qA 0), some (qI x1)], [], qH0 M) = qlim C_X11_told (83, [some (qA 0), some (qI x1)], [qI (M 13 (ksub x1 10))], qH0 M) := by
  refine Eq.trans (qlim_n (n := 6) (c' := (78, [some (qA 0), some (qI x1)], [qI (ksub x1 10), qA 13], qH0 M)) rfl) ?_
  refine Eq.trans (qs_iaload rfl rfl h1 h2) ?_
  exact (qlim_n (n := 1) (c' := (83, [some (qA 0), some (qI x1)], [qI (M 13 (ksub x1 10))], qH0 M)) rfl)
set_option maxRecDepth 20000 in
theorem B_X11_told_82 {M : qMem} {x1 : Int} : qlim C_X11_told (82, [some (qA 0), some (qI x1)], [], qH0 M) = qlim C_X11_told (83, [some (qA 0), some (qI x1)], [qI (-1)], qH0 M) := (qlim_n (n := 1) (c' := (83, [some (qA 0), some (qI x1)], [qI (-1)], qH0 M)) rfl)
set_option maxRecDepth 20000 in
theorem B_X11_told_83 {M : qMem} {x1 s0 : Int} : qlim C_X11_told (83, [some (qA 0), some (qI x1)], [qI s0], qH0 M) = some (some (qI s0), qH0 M) := (qlim_ret rfl)
theorem E_X11_told {h : qH} {x1 : Int} : S_X11_told [qA 0, qI x1] h = qlim C_X11_told (0, [some (qA 0), some (qI x1)], [], h) := qM_at (Nat.le_of_ble_eq_true rfl) rfl
set_option maxRecDepth 20000 in
theorem B_X11_pass_0 {M : qMem} {x1 : Int} : qlim C_X11_pass (0, [some (qA 0), some (qI x1)], [], qH0 M) = qbd (S_X11_isIn [qI x1, qI 60] (qH0 M)) (fun r h' => qlim C_X11_pass (6, [some (qA 0), some (qI x1)], r.toList ++ [], h')) := by
  refine Eq.trans (qlim_n (n := 2) (c' := (3, [some (qA 0), some (qI x1)], [qI 60, qI x1], qH0 M)) rfl) ?_
  exact (qlim_calls (n := 2) rfl rfl rfl (Nat.le_of_ble_eq_true rfl) (Nat.le_of_ble_eq_true rfl))
set_option maxRecDepth 20000 in
theorem B_X11_pass_6 {M : qMem} {x1 s0 : Int} : qlim C_X11_pass (6, [some (qA 0), some (qI x1)], [qI s0], qH0 M) = qlim C_X11_pass ((if ¬ s0 = 0 then 12 else 9), [some (qA 0), some (qI x1)], [], qH0 M) := (qlim_n (n := 1) (c' := ((if ¬ s0 = 0 then 12 else 9), [some (qA 0), some (qI x1)], [], qH0 M)) rfl)
set_option maxRecDepth 20000 in
theorem B_X11_pass_9 {M : qMem} {x1 : Int} : qlim C_X11_pass (9, [some (qA 0), some (qI x1)], [], qH0 M) = some (some (qI (-2)), qH0 M) := by
  refine Eq.trans (qlim_n (n := 1) (c' := (11, [some (qA 0), some (qI x1)], [qI (-2)], qH0 M)) rfl) ?_
  exact (qlim_ret rfl)
set_option maxRecDepth 20000 in
theorem B_X11_pass_12 {M : qMem} {x1 : Int} : qlim C_X11_pass (12, [some (qA 0), some (qI x1)], [], qH0 M) = qlim C_X11_pass ((if kadd (M 12 11) x1 ≤ 9999 then 30 else 27), [some (qA 0), some (qI x1)], [], qH0 M) := (qlim_n (n := 7) (c' := ((if kadd (M 12 11) x1 ≤ 9999 then 30 else 27), [some (qA 0), some (qI x1)], [], qH0 M)) rfl)
set_option maxRecDepth 20000 in
theorem B_X11_pass_27 {M : qMem} {x1 : Int} : qlim C_X11_pass (27, [some (qA 0), some (qI x1)], [], qH0 M) = some (some (qI (-3)), qH0 M) := by
  refine Eq.trans (qlim_n (n := 1) (c' := (29, [some (qA 0), some (qI x1)], [qI (-3)], qH0 M)) rfl) ?_
  exact (qlim_ret rfl)
set_option maxRecDepth 20000 in
theorem B_X11_pass_30 {M : qMem} {x1 : Int} : qlim C_X11_pass (30, [some (qA 0), some (qI x1)], [], qH0 M) = qbd (S_X8_minutesGo [qA 12, qI x1] (qH0 M)) (fun r h' => qlim C_X11_pass (38, [some (qA 0), some (qI x1)], r.toList ++ [], h')) := by
  refine Eq.trans (qlim_n (n := 3) (c' := (35, [some (qA 0), some (qI x1)], [qI x1, qA 12], qH0 M)) rfl) ?_
  exact (qlim_callv (n := 1) rfl rfl rfl (Nat.le_of_ble_eq_true rfl) (Nat.le_of_ble_eq_true rfl) rfl)
set_option maxRecDepth 20000 in
theorem B_X11_pass_38 {M : qMem} {x1 s0 : Int} : qlim C_X11_pass (38, [some (qA 0), some (qI x1)], [qI s0], qH0 M) = some (some (qI s0), qH0 M) := (qlim_ret rfl)
theorem E_X11_pass {h : qH} {x1 : Int} : S_X11_pass [qA 0, qI x1] h = qlim C_X11_pass (0, [some (qA 0), some (qI x1)], [], h) := qM_at (Nat.le_of_ble_eq_true rfl) rfl
set_option maxRecDepth 20000 in
theorem B_X11_on_0 {M : qMem} {x1 x2 : Int} : qlim C_X11_on (0, [some (qA 0), some (qI x1), some (qI x2), none, none], [], qH0 M) = qlim C_X11_on ((if x2 < 10 then 20 else 6), [some (qA 0), some (qI x1), some (qI x2), none, none], [], qH0 M) := (qlim_n (n := 3) (c' := ((if x2 < 10 then 20 else 6), [some (qA 0), some (qI x1), some (qI x2), none, none], [], qH0 M)) rfl)
set_option maxRecDepth 20000 in
theorem B_X11_on_6 {M : qMem} {x1 x2 : Int} : qlim C_X11_on (6, [some (qA 0), some (qI x1), some (qI x2), none, none], [], qH0 M) = qbd (S_X11_isHeap [qI (ksub x2 10)] (qH0 M)) (fun r h' => qlim C_X11_on (13, [some (qA 0), some (qI x1), some (qI x2), none, none], r.toList ++ [], h')) := by
  refine Eq.trans (qlim_n (n := 3) (c' := (10, [some (qA 0), some (qI x1), some (qI x2), none, none], [qI (ksub x2 10)], qH0 M)) rfl) ?_
  exact (qlim_calls (n := 1) rfl rfl rfl (Nat.le_of_ble_eq_true rfl) (Nat.le_of_ble_eq_true rfl))
set_option maxRecDepth 20000 in
theorem B_X11_on_13 {M : qMem} {x1 x2 s0 : Int} : qlim C_X11_on (13, [some (qA 0), some (qI x1), some (qI x2), none, none], [qI s0], qH0 M) = qlim C_X11_on ((if s0 = 0 then 20 else 16), [some (qA 0), some (qI x1), some (qI x2), none, none], [], qH0 M) := (qlim_n (n := 1) (c' := ((if s0 = 0 then 20 else 16), [some (qA 0), some (qI x1), some (qI x2), none, none], [], qH0 M)) rfl)
set_option maxRecDepth 20000 in
theorem B_X11_on_16 {M : qMem} {x1 x2 : Int} : qlim C_X11_on (16, [some (qA 0), some (qI x1), some (qI x2), none, none], [], qH0 M) = qlim C_X11_on (21, [some (qA 0), some (qI x1), some (qI x2), none, none], [qI 1], qH0 M) := (qlim_n (n := 2) (c' := (21, [some (qA 0), some (qI x1), some (qI x2), none, none], [qI 1], qH0 M)) rfl)
set_option maxRecDepth 20000 in
theorem B_X11_on_20 {M : qMem} {x1 x2 : Int} : qlim C_X11_on (20, [some (qA 0), some (qI x1), some (qI x2), none, none], [], qH0 M) = qlim C_X11_on (21, [some (qA 0), some (qI x1), some (qI x2), none, none], [qI 0], qH0 M) := (qlim_n (n := 1) (c' := (21, [some (qA 0), some (qI x1), some (qI x2), none, none], [qI 0], qH0 M)) rfl)
set_option maxRecDepth 20000 in
theorem B_X11_on_21 {M : qMem} {x1 x2 s0 : Int} : qlim C_X11_on (21, [some (qA 0), some (qI x1), some (qI x2), none, none], [qI s0], qH0 M) = qlim C_X11_on ((if x2 < 20 then 49 else 28), [some (qA 0), some (qI x1), some (qI x2), some (qI s0), none], [], qH0 M) := (qlim_n (n := 4) (c' := ((if x2 < 20 then 49 else 28), [some (qA 0), some (qI x1), some (qI x2), some (qI s0), none], [], qH0 M)) rfl)
set_option maxRecDepth 20000 in
theorem B_X11_on_28 {M : qMem} {x1 x2 x3 : Int} : qlim C_X11_on (28, [some (qA 0), some (qI x1), some (qI x2), some (qI x3), none], [], qH0 M) = qlim C_X11_on ((if 40 ≤ x2 then 49 else 34), [some (qA 0), some (qI x1), some (qI x2), some (qI x3), none], [], qH0 M) := (qlim_n (n := 3) (c' := ((if 40 ≤ x2 then 49 else 34), [some (qA 0), some (qI x1), some (qI x2), some (qI x3), none], [], qH0 M)) rfl)
set_option maxRecDepth 20000 in
theorem B_X11_on_34 {M : qMem} {x1 x2 x3 : Int} : qlim C_X11_on (34, [some (qA 0), some (qI x1), some (qI x2), some (qI x3), none], [], qH0 M) = qbd (S_X11_isPerson [qA 0, qI (krem x2 10)] (qH0 M)) (fun r h' => qlim C_X11_on (42, [some (qA 0), some (qI x1), some (qI x2), some (qI x3), none], r.toList ++ [], h')) := by
  refine Eq.trans (qlim_n (n := 3) (c' := (38, [some (qA 0), some (qI x1), some (qI x2), some (qI x3), none], [qI 10, qI x2, qA 0], qH0 M)) rfl) ?_
  refine Eq.trans (qs_irem rfl (by decide)) ?_
  exact (qlim_callv (n := 1) rfl rfl rfl (Nat.le_of_ble_eq_true rfl) (Nat.le_of_ble_eq_true rfl) rfl)
set_option maxRecDepth 20000 in
theorem B_X11_on_42 {M : qMem} {x1 x2 x3 s0 : Int} : qlim C_X11_on (42, [some (qA 0), some (qI x1), some (qI x2), some (qI x3), none], [qI s0], qH0 M) = qlim C_X11_on ((if s0 = 0 then 49 else 45), [some (qA 0), some (qI x1), some (qI x2), some (qI x3), none], [], qH0 M) := (qlim_n (n := 1) (c' := ((if s0 = 0 then 49 else 45), [some (qA 0), some (qI x1), some (qI x2), some (qI x3), none], [], qH0 M)) rfl)
set_option maxRecDepth 20000 in
theorem B_X11_on_45 {M : qMem} {x1 x2 x3 : Int} : qlim C_X11_on (45, [some (qA 0), some (qI x1), some (qI x2), some (qI x3), none], [], qH0 M) = qlim C_X11_on (50, [some (qA 0), some (qI x1), some (qI x2), some (qI x3), none], [qI 1], qH0 M) := (qlim_n (n := 2) (c' := (50, [some (qA 0), some (qI x1), some (qI x2), some (qI x3), none], [qI 1], qH0 M)) rfl)
set_option maxRecDepth 20000 in
theorem B_X11_on_49 {M : qMem} {x1 x2 x3 : Int} : qlim C_X11_on (49, [some (qA 0), some (qI x1), some (qI x2), some (qI x3), none], [], qH0 M) = qlim C_X11_on (50, [some (qA 0), some (qI x1), some (qI x2), some (qI x3), none], [qI 0], qH0 M) := (qlim_n (n := 1) (c' := (50, [some (qA 0), some (qI x1), some (qI x2), some (qI x3), none], [qI 0], qH0 M)) rfl)
set_option maxRecDepth 20000 in
theorem B_X11_on_50 {M : qMem} {x1 x2 x3 s0 : Int} : qlim C_X11_on (50, [some (qA 0), some (qI x1), some (qI x2), some (qI x3), none], [qI s0], qH0 M) = qlim C_X11_on ((if ¬ x3 = 0 then 63 else 56), [some (qA 0), some (qI x1), some (qI x2), some (qI x3), some (qI s0)], [], qH0 M) := (qlim_n (n := 3) (c' := ((if ¬ x3 = 0 then 63 else 56), [some (qA 0), some (qI x1), some (qI x2), some (qI x3), some (qI s0)], [], qH0 M)) rfl)
set_option maxRecDepth 20000 in
theorem B_X11_on_56 {M : qMem} {x1 x2 x3 x4 : Int} : qlim C_X11_on (56, [some (qA 0), some (qI x1), some (qI x2), some (qI x3), some (qI x4)], [], qH0 M) = qlim C_X11_on ((if ¬ x4 = 0 then 63 else 61), [some (qA 0), some (qI x1), some (qI x2), some (qI x3), some (qI x4)], [], qH0 M) := (qlim_n (n := 2) (c' := ((if ¬ x4 = 0 then 63 else 61), [some (qA 0), some (qI x1), some (qI x2), some (qI x3), some (qI x4)], [], qH0 M)) rfl)
set_option maxRecDepth 20000 in
theorem B_X11_on_61 {M : qMem} {x1 x2 x3 x4 : Int} : qlim C_X11_on (61, [some (qA 0), some (qI x1), some (qI x2), some (qI x3), some (qI x4)], [], qH0 M) = some (some (qI (-1)), qH0 M) := by
  refine Eq.trans (qlim_n (n := 1) (c' := (62, [some (qA 0), some (qI x1), some (qI x2), some (qI x3), some (qI x4)], [qI (-1)], qH0 M)) rfl) ?_
  exact (qlim_ret rfl)
set_option maxRecDepth 20000 in
theorem B_X11_on_63 {M : qMem} {x1 x2 x3 x4 : Int} : qlim C_X11_on (63, [some (qA 0), some (qI x1), some (qI x2), some (qI x3), some (qI x4)], [], qH0 M) = qbd (S_X11_isIn [qI x1, qI 60] (qH0 M)) (fun r h' => qlim C_X11_on (69, [some (qA 0), some (qI x1), some (qI x2), some (qI x3), some (qI x4)], r.toList ++ [], h')) := by
  refine Eq.trans (qlim_n (n := 2) (c' := (66, [some (qA 0), some (qI x1), some (qI x2), some (qI x3), some (qI x4)], [qI 60, qI x1], qH0 M)) rfl) ?_
  exact (qlim_calls (n := 2) rfl rfl rfl (Nat.le_of_ble_eq_true rfl) (Nat.le_of_ble_eq_true rfl))
set_option maxRecDepth 20000 in
theorem B_X11_on_69 {M : qMem} {x1 x2 x3 x4 s0 : Int} : qlim C_X11_on (69, [some (qA 0), some (qI x1), some (qI x2), some (qI x3), some (qI x4)], [qI s0], qH0 M) = qlim C_X11_on ((if ¬ s0 = 0 then 75 else 72), [some (qA 0), some (qI x1), some (qI x2), some (qI x3), some (qI x4)], [], qH0 M) := (qlim_n (n := 1) (c' := ((if ¬ s0 = 0 then 75 else 72), [some (qA 0), some (qI x1), some (qI x2), some (qI x3), some (qI x4)], [], qH0 M)) rfl)
set_option maxRecDepth 20000 in
theorem B_X11_on_72 {M : qMem} {x1 x2 x3 x4 : Int} : qlim C_X11_on (72, [some (qA 0), some (qI x1), some (qI x2), some (qI x3), some (qI x4)], [], qH0 M) = some (some (qI (-2)), qH0 M) := by
  refine Eq.trans (qlim_n (n := 1) (c' := (74, [some (qA 0), some (qI x1), some (qI x2), some (qI x3), some (qI x4)], [qI (-2)], qH0 M)) rfl) ?_
  exact (qlim_ret rfl)
set_option maxRecDepth 20000 in
theorem B_X11_on_75 {M : qMem} {x1 x2 x3 x4 : Int} : qlim C_X11_on (75, [some (qA 0), some (qI x1), some (qI x2), some (qI x3), some (qI x4)], [], qH0 M) = qbd (S_X8_becomes [qA 21, qA 12] (qH0 M)) (fun r h' => qlim C_X11_on (86, [some (qA 0), some (qI x1), some (qI x2), some (qI x3), some (qI x4)], r.toList ++ [], h')) := by
  refine Eq.trans (qlim_n (n := 4) (c' := (83, [some (qA 0), some (qI x1), some (qI x2), some (qI x3), some (qI x4)], [qA 12, qA 21], qH0 M)) rfl) ?_
  exact (qlim_callv (n := 1) rfl rfl rfl (Nat.le_of_ble_eq_true rfl) (Nat.le_of_ble_eq_true rfl) rfl)
set_option maxRecDepth 20000 in
theorem B_X11_on_86 {M : qMem} {x1 x2 x3 x4 : Int} : qlim C_X11_on (86, [some (qA 0), some (qI x1), some (qI x2), some (qI x3), some (qI x4)], [], qH0 M) = qbd (S_X8_minutesGo [qA 21, qI x1] (qH0 M)) (fun r h' => qlim C_X11_on (94, [some (qA 0), some (qI x1), some (qI x2), some (qI x3), some (qI x4)], r.toList ++ [], h')) := by
  refine Eq.trans (qlim_n (n := 3) (c' := (91, [some (qA 0), some (qI x1), some (qI x2), some (qI x3), some (qI x4)], [qI x1, qA 21], qH0 M)) rfl) ?_
  exact (qlim_callv (n := 1) rfl rfl rfl (Nat.le_of_ble_eq_true rfl) (Nat.le_of_ble_eq_true rfl) rfl)
set_option maxRecDepth 20000 in
theorem B_X11_on_94 {M : qMem} {x1 x2 x3 x4 s0 : Int} : qlim C_X11_on (94, [some (qA 0), some (qI x1), some (qI x2), some (qI x3), some (qI x4)], [qI s0], qH0 M) = qlim C_X11_on ((if x3 = 0 then 112 else 99), [some (qA 0), some (qI x1), some (qI x2), some (qI x3), some (qI x4)], [], qH0 M) := (qlim_n (n := 3) (c' := ((if x3 = 0 then 112 else 99), [some (qA 0), some (qI x1), some (qI x2), some (qI x3), some (qI x4)], [], qH0 M)) rfl)
set_option maxRecDepth 20000 in
theorem B_X11_on_99 {M : qMem} {x1 x2 x3 x4 : Int} (h1 : 0 ≤ ksub x2 10) (h2 : ksub x2 10 < 5) : qlim C_X11_on (99, [some (qA 0), some (qI x1), some (qI x2), some (qI x3), some (qI x4)], [], qH0 M) = some (some (qI (M 22 (ksub x2 10))), qH0 M) := by
  refine Eq.trans (qlim_n (n := 6) (c' := (110, [some (qA 0), some (qI x1), some (qI x2), some (qI x3), some (qI x4)], [qI (ksub x2 10), qA 22], qH0 M)) rfl) ?_
  refine Eq.trans (qs_iaload rfl rfl h1 h2) ?_
  exact (qlim_ret rfl)
set_option maxRecDepth 20000 in
theorem B_X11_on_112 {M : qMem} {x1 x2 x3 x4 : Int} : qlim C_X11_on (112, [some (qA 0), some (qI x1), some (qI x2), some (qI x3), some (qI x4)], [], qH0 M) = qlim C_X11_on ((if 30 ≤ x2 then 133 else 118), [some (qA 0), some (qI x1), some (qI x2), some (qI x3), some (qI x4)], [], qH0 M) := (qlim_n (n := 3) (c' := ((if 30 ≤ x2 then 133 else 118), [some (qA 0), some (qI x1), some (qI x2), some (qI x3), some (qI x4)], [], qH0 M)) rfl)
set_option maxRecDepth 20000 in
theorem B_X11_on_118 {M : qMem} {x1 x2 x3 x4 : Int} (h1 : 0 ≤ krem x2 10) (h2 : krem x2 10 < 6) : qlim C_X11_on (118, [some (qA 0), some (qI x1), some (qI x2), some (qI x3), some (qI x4)], [], qH0 M) = qlim C_X11_on (145, [some (qA 0), some (qI x1), some (qI x2), some (qI x3), some (qI x4)], [qI (M 26 (krem x2 10))], qH0 M) := by
  refine Eq.trans (qlim_n (n := 5) (c' := (128, [some (qA 0), some (qI x1), some (qI x2), some (qI x3), some (qI x4)], [qI 10, qI x2, qA 26], qH0 M)) rfl) ?_
  refine Eq.trans (qs_irem rfl (by decide)) ?_
  refine Eq.trans (qs_iaload rfl rfl h1 h2) ?_
  exact (qlim_n (n := 1) (c' := (145, [some (qA 0), some (qI x1), some (qI x2), some (qI x3), some (qI x4)], [qI (M 26 (krem x2 10))], qH0 M)) rfl)
set_option maxRecDepth 20000 in
theorem B_X11_on_133 {M : qMem} {x1 x2 x3 x4 : Int} (h1 : 0 ≤ krem x2 10) (h2 : krem x2 10 < 6) : qlim C_X11_on (133, [some (qA 0), some (qI x1), some (qI x2), some (qI x3), some (qI x4)], [], qH0 M) = qlim C_X11_on (145, [some (qA 0), some (qI x1), some (qI x2), some (qI x3), some (qI x4)], [qI (M 27 (krem x2 10))], qH0 M) := by
  refine Eq.trans (qlim_n (n := 5) (c' := (143, [some (qA 0), some (qI x1), some (qI x2), some (qI x3), some (qI x4)], [qI 10, qI x2, qA 27], qH0 M)) rfl) ?_
  refine Eq.trans (qs_irem rfl (by decide)) ?_
  exact (qs_iaload rfl rfl h1 h2)
set_option maxRecDepth 20000 in
theorem B_X11_on_145 {M : qMem} {x1 x2 x3 x4 s0 : Int} : qlim C_X11_on (145, [some (qA 0), some (qI x1), some (qI x2), some (qI x3), some (qI x4)], [qI s0], qH0 M) = some (some (qI s0), qH0 M) := (qlim_ret rfl)
theorem E_X11_on {h : qH} {x1 x2 : Int} : S_X11_on [qA 0, qI x1, qI x2] h = qlim C_X11_on (0, [some (qA 0), some (qI x1), some (qI x2), none, none], [], h) := qM_at (Nat.le_of_ble_eq_true rfl) rfl
set_option maxRecDepth 20000 in
theorem B_X11_ready_0 {M : qMem} {x1 : Int} : qlim C_X11_ready (0, [some (qA 0), some (qI x1), none], [], qH0 M) = qbd (S_X11_isIn [qI x1, qI 9999] (qH0 M)) (fun r h' => qlim C_X11_ready (7, [some (qA 0), some (qI x1), none], r.toList ++ [], h')) := by
  refine Eq.trans (qlim_n (n := 2) (c' := (4, [some (qA 0), some (qI x1), none], [qI 9999, qI x1], qH0 M)) rfl) ?_
  exact (qlim_calls (n := 2) rfl rfl rfl (Nat.le_of_ble_eq_true rfl) (Nat.le_of_ble_eq_true rfl))
set_option maxRecDepth 20000 in
theorem B_X11_ready_7 {M : qMem} {x1 s0 : Int} : qlim C_X11_ready (7, [some (qA 0), some (qI x1), none], [qI s0], qH0 M) = qlim C_X11_ready ((if ¬ s0 = 0 then 13 else 10), [some (qA 0), some (qI x1), none], [], qH0 M) := (qlim_n (n := 1) (c' := ((if ¬ s0 = 0 then 13 else 10), [some (qA 0), some (qI x1), none], [], qH0 M)) rfl)
set_option maxRecDepth 20000 in
theorem B_X11_ready_10 {M : qMem} {x1 : Int} : qlim C_X11_ready (10, [some (qA 0), some (qI x1), none], [], qH0 M) = some (some (qI (-2)), qH0 M) := by
  refine Eq.trans (qlim_n (n := 1) (c' := (12, [some (qA 0), some (qI x1), none], [qI (-2)], qH0 M)) rfl) ?_
  exact (qlim_ret rfl)
set_option maxRecDepth 20000 in
theorem B_X11_ready_13 {M : qMem} {x1 : Int} : qlim C_X11_ready (13, [some (qA 0), some (qI x1), none], [], qH0 M) = qbd (S_X8_becomes [qA 21, qA 12] (qH0 M)) (fun r h' => qlim C_X11_ready (24, [some (qA 0), some (qI x1), none], r.toList ++ [], h')) := by
  refine Eq.trans (qlim_n (n := 4) (c' := (21, [some (qA 0), some (qI x1), none], [qA 12, qA 21], qH0 M)) rfl) ?_
  exact (qlim_callv (n := 1) rfl rfl rfl (Nat.le_of_ble_eq_true rfl) (Nat.le_of_ble_eq_true rfl) rfl)
set_option maxRecDepth 20000 in
theorem B_X11_ready_24 {M : qMem} {x1 : Int} : qlim C_X11_ready (24, [some (qA 0), some (qI x1), none], [], qH0 M) = qlim C_X11_ready (26, [some (qA 0), some (qI x1), some (qI 0)], [], qH0 M) := (qlim_n (n := 2) (c' := (26, [some (qA 0), some (qI x1), some (qI 0)], [], qH0 M)) rfl)
set_option maxRecDepth 20000 in
theorem B_X11_ready_26 {M : qMem} {x1 x2 : Int} : qlim C_X11_ready (26, [some (qA 0), some (qI x1), some (qI x2)], [], qH0 M) = qlim C_X11_ready ((if 99 < x2 then 62 else 32), [some (qA 0), some (qI x1), some (qI x2)], [], qH0 M) := (qlim_n (n := 3) (c' := ((if 99 < x2 then 62 else 32), [some (qA 0), some (qI x1), some (qI x2)], [], qH0 M)) rfl)
set_option maxRecDepth 20000 in
theorem B_X11_ready_32 {M : qMem} {x1 x2 : Int} : qlim C_X11_ready (32, [some (qA 0), some (qI x1), some (qI x2)], [], qH0 M) = qlim C_X11_ready ((if M 22 4 < x1 then 47 else 45), [some (qA 0), some (qI x1), some (qI x2)], [], qH0 M) := (qlim_n (n := 7) (c' := ((if M 22 4 < x1 then 47 else 45), [some (qA 0), some (qI x1), some (qI x2)], [], qH0 M)) rfl)
set_option maxRecDepth 20000 in
theorem B_X11_ready_45 {M : qMem} {x1 x2 : Int} : qlim C_X11_ready (45, [some (qA 0), some (qI x1), some (qI x2)], [], qH0 M) = some (some (qI x2), qH0 M) := by
  refine Eq.trans (qlim_n (n := 1) (c' := (46, [some (qA 0), some (qI x1), some (qI x2)], [qI x2], qH0 M)) rfl) ?_
  exact (qlim_ret rfl)
set_option maxRecDepth 20000 in
theorem B_X11_ready_47 {M : qMem} {x1 x2 : Int} : qlim C_X11_ready (47, [some (qA 0), some (qI x1), some (qI x2)], [], qH0 M) = qbd (S_X8_minutesGo [qA 21, qI 1] (qH0 M)) (fun r h' => qlim C_X11_ready (55, [some (qA 0), some (qI x1), some (qI x2)], r.toList ++ [], h')) := by
  refine Eq.trans (qlim_n (n := 3) (c' := (52, [some (qA 0), some (qI x1), some (qI x2)], [qI 1, qA 21], qH0 M)) rfl) ?_
  exact (qlim_callv (n := 1) rfl rfl rfl (Nat.le_of_ble_eq_true rfl) (Nat.le_of_ble_eq_true rfl) rfl)
set_option maxRecDepth 20000 in
theorem B_X11_ready_55 {M : qMem} {x1 x2 s0 : Int} : qlim C_X11_ready (55, [some (qA 0), some (qI x1), some (qI x2)], [qI s0], qH0 M) = qlim C_X11_ready (26, [some (qA 0), some (qI x1), some (qI (kadd x2 1))], [], qH0 M) := (qlim_n (n := 3) (c' := (26, [some (qA 0), some (qI x1), some (qI (kadd x2 1))], [], qH0 M)) rfl)
set_option maxRecDepth 20000 in
theorem B_X11_ready_62 {M : qMem} {x1 x2 : Int} : qlim C_X11_ready (62, [some (qA 0), some (qI x1), some (qI x2)], [], qH0 M) = some (some (qI (-5)), qH0 M) := by
  refine Eq.trans (qlim_n (n := 1) (c' := (64, [some (qA 0), some (qI x1), some (qI x2)], [qI (-5)], qH0 M)) rfl) ?_
  exact (qlim_ret rfl)
theorem E_X11_ready {h : qH} {x1 : Int} : S_X11_ready [qA 0, qI x1] h = qlim C_X11_ready (0, [some (qA 0), some (qI x1), none], [], h) := qM_at (Nat.le_of_ble_eq_true rfl) rfl
set_option maxRecDepth 20000 in
theorem B_X11_best_0 {M : qMem} {x1 : Int} : qlim C_X11_best (0, [some (qA 0), some (qI x1)], [], qH0 M) = qlim C_X11_best (qtk [36, 41, 46, 51, 56] 61 0 x1, [some (qA 0), some (qI x1)], [], qH0 M) := (qlim_n (n := 2) (c' := (qtk [36, 41, 46, 51, 56] 61 0 x1, [some (qA 0), some (qI x1)], [], qH0 M)) rfl)
set_option maxRecDepth 20000 in
theorem B_X11_best_36 {M : qMem} {x1 : Int} : qlim C_X11_best (36, [some (qA 0), some (qI x1)], [], qH0 M) = qbd (S_X11_bestMove [qA 0] (qH0 M)) (fun r h' => qlim C_X11_best (40, [some (qA 0), some (qI x1)], r.toList ++ [], h')) := by
  refine Eq.trans (qlim_n (n := 1) (c' := (37, [some (qA 0), some (qI x1)], [qA 0], qH0 M)) rfl) ?_
  exact (qlim_callv (n := 0) rfl rfl rfl (Nat.le_of_ble_eq_true rfl) (Nat.le_of_ble_eq_true rfl) rfl)
set_option maxRecDepth 20000 in
theorem B_X11_best_40 {M : qMem} {x1 s0 : Int} : qlim C_X11_best (40, [some (qA 0), some (qI x1)], [qI s0], qH0 M) = some (some (qI s0), qH0 M) := (qlim_ret rfl)
set_option maxRecDepth 20000 in
theorem B_X11_best_41 {M : qMem} {x1 : Int} : qlim C_X11_best (41, [some (qA 0), some (qI x1)], [], qH0 M) = qbd (S_X11_bestSwap [qA 0] (qH0 M)) (fun r h' => qlim C_X11_best (45, [some (qA 0), some (qI x1)], r.toList ++ [], h')) := by
  refine Eq.trans (qlim_n (n := 1) (c' := (42, [some (qA 0), some (qI x1)], [qA 0], qH0 M)) rfl) ?_
  exact (qlim_callv (n := 0) rfl rfl rfl (Nat.le_of_ble_eq_true rfl) (Nat.le_of_ble_eq_true rfl) rfl)
set_option maxRecDepth 20000 in
theorem B_X11_best_45 {M : qMem} {x1 s0 : Int} : qlim C_X11_best (45, [some (qA 0), some (qI x1)], [qI s0], qH0 M) = some (some (qI s0), qH0 M) := (qlim_ret rfl)
set_option maxRecDepth 20000 in
theorem B_X11_best_46 {M : qMem} {x1 : Int} : qlim C_X11_best (46, [some (qA 0), some (qI x1)], [], qH0 M) = qbd (S_X11_enoughRoom [qA 0] (qH0 M)) (fun r h' => qlim C_X11_best (50, [some (qA 0), some (qI x1)], r.toList ++ [], h')) := by
  refine Eq.trans (qlim_n (n := 1) (c' := (47, [some (qA 0), some (qI x1)], [qA 0], qH0 M)) rfl) ?_
  exact (qlim_callv (n := 0) rfl rfl rfl (Nat.le_of_ble_eq_true rfl) (Nat.le_of_ble_eq_true rfl) rfl)
set_option maxRecDepth 20000 in
theorem B_X11_best_50 {M : qMem} {x1 s0 : Int} : qlim C_X11_best (50, [some (qA 0), some (qI x1)], [qI s0], qH0 M) = some (some (qI s0), qH0 M) := (qlim_ret rfl)
set_option maxRecDepth 20000 in
theorem B_X11_best_51 {M : qMem} {x1 : Int} : qlim C_X11_best (51, [some (qA 0), some (qI x1)], [], qH0 M) = qbd (S_X11_mostMissed [qA 0] (qH0 M)) (fun r h' => qlim C_X11_best (55, [some (qA 0), some (qI x1)], r.toList ++ [], h')) := by
  refine Eq.trans (qlim_n (n := 1) (c' := (52, [some (qA 0), some (qI x1)], [qA 0], qH0 M)) rfl) ?_
  exact (qlim_callv (n := 0) rfl rfl rfl (Nat.le_of_ble_eq_true rfl) (Nat.le_of_ble_eq_true rfl) rfl)
set_option maxRecDepth 20000 in
theorem B_X11_best_55 {M : qMem} {x1 s0 : Int} : qlim C_X11_best (55, [some (qA 0), some (qI x1)], [qI s0], qH0 M) = some (some (qI s0), qH0 M) := (qlim_ret rfl)
set_option maxRecDepth 20000 in
theorem B_X11_best_56 {M : qMem} {x1 : Int} : qlim C_X11_best (56, [some (qA 0), some (qI x1)], [], qH0 M) = qbd (S_X11_yieldAsIs [qA 0] (qH0 M)) (fun r h' => qlim C_X11_best (60, [some (qA 0), some (qI x1)], r.toList ++ [], h')) := by
  refine Eq.trans (qlim_n (n := 1) (c' := (57, [some (qA 0), some (qI x1)], [qA 0], qH0 M)) rfl) ?_
  exact (qlim_callv (n := 0) rfl rfl rfl (Nat.le_of_ble_eq_true rfl) (Nat.le_of_ble_eq_true rfl) rfl)
set_option maxRecDepth 20000 in
theorem B_X11_best_60 {M : qMem} {x1 s0 : Int} : qlim C_X11_best (60, [some (qA 0), some (qI x1)], [qI s0], qH0 M) = some (some (qI s0), qH0 M) := (qlim_ret rfl)
set_option maxRecDepth 20000 in
theorem B_X11_best_61 {M : qMem} {x1 : Int} : qlim C_X11_best (61, [some (qA 0), some (qI x1)], [], qH0 M) = some (some (qI (-1)), qH0 M) := by
  refine Eq.trans (qlim_n (n := 1) (c' := (62, [some (qA 0), some (qI x1)], [qI (-1)], qH0 M)) rfl) ?_
  exact (qlim_ret rfl)
theorem E_X11_best {h : qH} {x1 : Int} : S_X11_best [qA 0, qI x1] h = qlim C_X11_best (0, [some (qA 0), some (qI x1)], [], h) := qM_at (Nat.le_of_ble_eq_true rfl) rfl
set_option maxRecDepth 20000 in
theorem B_X11_yieldAsIs_0 {M : qMem} : qlim C_X11_yieldAsIs (0, [some (qA 0)], [], qH0 M) = qbd (S_X8_becomes [qA 21, qA 12] (qH0 M)) (fun r h' => qlim C_X11_yieldAsIs (11, [some (qA 0)], r.toList ++ [], h')) := by
  refine Eq.trans (qlim_n (n := 4) (c' := (8, [some (qA 0)], [qA 12, qA 21], qH0 M)) rfl) ?_
  exact (qlim_callv (n := 1) rfl rfl rfl (Nat.le_of_ble_eq_true rfl) (Nat.le_of_ble_eq_true rfl) rfl)
set_option maxRecDepth 20000 in
theorem B_X11_yieldAsIs_11 {M : qMem} : qlim C_X11_yieldAsIs (11, [some (qA 0)], [], qH0 M) = qbd (S_X8_minutesGo [qA 21, qI 30] (qH0 M)) (fun r h' => qlim C_X11_yieldAsIs (20, [some (qA 0)], r.toList ++ [], h')) := by
  refine Eq.trans (qlim_n (n := 3) (c' := (17, [some (qA 0)], [qI 30, qA 21], qH0 M)) rfl) ?_
  exact (qlim_callv (n := 1) rfl rfl rfl (Nat.le_of_ble_eq_true rfl) (Nat.le_of_ble_eq_true rfl) rfl)
set_option maxRecDepth 20000 in
theorem B_X11_yieldAsIs_20 {M : qMem} {s0 : Int} : qlim C_X11_yieldAsIs (20, [some (qA 0)], [qI s0], qH0 M) = some (some (qI s0), qH0 M) := (qlim_ret rfl)
theorem E_X11_yieldAsIs {h : qH} : S_X11_yieldAsIs [qA 0] h = qlim C_X11_yieldAsIs (0, [some (qA 0)], [], h) := qM_at (Nat.le_of_ble_eq_true rfl) rfl
set_option maxRecDepth 20000 in
theorem B_X11_bestMove_0 {M : qMem} : qlim C_X11_bestMove (0, [some (qA 0), none, none, none, none, none], [], qH0 M) = qbd (S_X11_yieldAsIs [qA 0] (qH0 M)) (fun r h' => qlim C_X11_bestMove (4, [some (qA 0), none, none, none, none, none], r.toList ++ [], h')) := by
  refine Eq.trans (qlim_n (n := 1) (c' := (1, [some (qA 0), none, none, none, none, none], [qA 0], qH0 M)) rfl) ?_
  exact (qlim_callv (n := 0) rfl rfl rfl (Nat.le_of_ble_eq_true rfl) (Nat.le_of_ble_eq_true rfl) rfl)
set_option maxRecDepth 20000 in
theorem B_X11_bestMove_4 {M : qMem} {s0 : Int} : qlim C_X11_bestMove (4, [some (qA 0), none, none, none, none, none], [qI s0], qH0 M) = qlim C_X11_bestMove (10, [some (qA 0), some (qI s0), some (qI (-5)), some (qI 0), none, none], [], qH0 M) := (qlim_n (n := 5) (c' := (10, [some (qA 0), some (qI s0), some (qI (-5)), some (qI 0), none, none], [], qH0 M)) rfl)
set_option maxRecDepth 20000 in
theorem B_X11_bestMove_10 {M : qMem} {x1 x2 x3 : Int} {x4 x5 : Option qV} : qlim C_X11_bestMove (10, [some (qA 0), some (qI x1), some (qI x2), some (qI x3), x4, x5], [], qH0 M) = qlim C_X11_bestMove ((if M 12 10 ≤ x3 then 92 else 21), [some (qA 0), some (qI x1), some (qI x2), some (qI x3), x4, x5], [], qH0 M) := (qlim_n (n := 5) (c' := ((if M 12 10 ≤ x3 then 92 else 21), [some (qA 0), some (qI x1), some (qI x2), some (qI x3), x4, x5], [], qH0 M)) rfl)
set_option maxRecDepth 20000 in
theorem B_X11_bestMove_21 {M : qMem} {x1 x2 x3 : Int} {x4 x5 : Option qV} : qlim C_X11_bestMove (21, [some (qA 0), some (qI x1), some (qI x2), some (qI x3), x4, x5], [], qH0 M) = qlim C_X11_bestMove (24, [some (qA 0), some (qI x1), some (qI x2), some (qI x3), some (qI 0), x5], [], qH0 M) := (qlim_n (n := 2) (c' := (24, [some (qA 0), some (qI x1), some (qI x2), some (qI x3), some (qI 0), x5], [], qH0 M)) rfl)
set_option maxRecDepth 20000 in
theorem B_X11_bestMove_24 {M : qMem} {x1 x2 x3 x4 : Int} {x5 : Option qV} : qlim C_X11_bestMove (24, [some (qA 0), some (qI x1), some (qI x2), some (qI x3), some (qI x4), x5], [], qH0 M) = qlim C_X11_bestMove ((if 4 ≤ x4 then 86 else 30), [some (qA 0), some (qI x1), some (qI x2), some (qI x3), some (qI x4), x5], [], qH0 M) := (qlim_n (n := 3) (c' := ((if 4 ≤ x4 then 86 else 30), [some (qA 0), some (qI x1), some (qI x2), some (qI x3), some (qI x4), x5], [], qH0 M)) rfl)
set_option maxRecDepth 20000 in
theorem B_X11_bestMove_30 {M : qMem} {x1 x2 x3 x4 : Int} {x5 : Option qV} : qlim C_X11_bestMove (30, [some (qA 0), some (qI x1), some (qI x2), some (qI x3), some (qI x4), x5], [], qH0 M) = qbd (S_X8_becomes [qA 21, qA 12] (qH0 M)) (fun r h' => qlim C_X11_bestMove (41, [some (qA 0), some (qI x1), some (qI x2), some (qI x3), some (qI x4), x5], r.toList ++ [], h')) := by
  refine Eq.trans (qlim_n (n := 4) (c' := (38, [some (qA 0), some (qI x1), some (qI x2), some (qI x3), some (qI x4), x5], [qA 12, qA 21], qH0 M)) rfl) ?_
  exact (qlim_callv (n := 1) rfl rfl rfl (Nat.le_of_ble_eq_true rfl) (Nat.le_of_ble_eq_true rfl) rfl)
set_option maxRecDepth 20000 in
theorem B_X11_bestMove_41 {M : qMem} {x1 x2 x3 x4 : Int} {x5 : Option qV} (h1 : 0 ≤ x3) (h2 : x3 < 6) : qlim C_X11_bestMove (41, [some (qA 0), some (qI x1), some (qI x2), some (qI x3), some (qI x4), x5], [], qH0 M) = qbd (S_X8_minutesGo [qA 21, qI 30] (qH0 (qup M 25 x3 x4))) (fun r h' => qlim C_X11_bestMove (61, [some (qA 0), some (qI x1), some (qI x2), some (qI x3), some (qI x4), x5], r.toList ++ [], h')) := by
  refine Eq.trans (qlim_n (n := 5) (c' := (51, [some (qA 0), some (qI x1), some (qI x2), some (qI x3), some (qI x4), x5], [qI x4, qI x3, qA 25], qH0 M)) rfl) ?_
  refine Eq.trans (qs_iastore rfl rfl h1 h2) ?_
  refine Eq.trans (qlim_n (n := 3) (c' := (58, [some (qA 0), some (qI x1), some (qI x2), some (qI x3), some (qI x4), x5], [qI 30, qA 21], qH0 (qup M 25 x3 x4))) rfl) ?_
  exact (qlim_callv (n := 1) rfl rfl rfl (Nat.le_of_ble_eq_true rfl) (Nat.le_of_ble_eq_true rfl) rfl)
set_option maxRecDepth 20000 in
theorem B_X11_bestMove_61 {M : qMem} {x1 x2 x3 x4 s0 : Int} {x5 : Option qV} : qlim C_X11_bestMove (61, [some (qA 0), some (qI x1), some (qI x2), some (qI x3), some (qI x4), x5], [qI s0], qH0 M) = qlim C_X11_bestMove ((if s0 ≤ x1 then 80 else 69), [some (qA 0), some (qI x1), some (qI x2), some (qI x3), some (qI x4), some (qI s0)], [], qH0 M) := (qlim_n (n := 4) (c' := ((if s0 ≤ x1 then 80 else 69), [some (qA 0), some (qI x1), some (qI x2), some (qI x3), some (qI x4), some (qI s0)], [], qH0 M)) rfl)
set_option maxRecDepth 20000 in
theorem B_X11_bestMove_69 {M : qMem} {x1 x2 x3 x4 x5 : Int} : qlim C_X11_bestMove (69, [some (qA 0), some (qI x1), some (qI x2), some (qI x3), some (qI x4), some (qI x5)], [], qH0 M) = qlim C_X11_bestMove (80, [some (qA 0), some (qI x5), some (qI (kadd (kmul 10 x3) x4)), some (qI x3), some (qI x4), some (qI x5)], [], qH0 M) := (qlim_n (n := 8) (c' := (80, [some (qA 0), some (qI x5), some (qI (kadd (kmul 10 x3) x4)), some (qI x3), some (qI x4), some (qI x5)], [], qH0 M)) rfl)
set_option maxRecDepth 20000 in
theorem B_X11_bestMove_80 {M : qMem} {x1 x2 x3 x4 x5 : Int} : qlim C_X11_bestMove (80, [some (qA 0), some (qI x1), some (qI x2), some (qI x3), some (qI x4), some (qI x5)], [], qH0 M) = qlim C_X11_bestMove (24, [some (qA 0), some (qI x1), some (qI x2), some (qI x3), some (qI (kadd x4 1)), some (qI x5)], [], qH0 M) := (qlim_n (n := 2) (c' := (24, [some (qA 0), some (qI x1), some (qI x2), some (qI x3), some (qI (kadd x4 1)), some (qI x5)], [], qH0 M)) rfl)
set_option maxRecDepth 20000 in
theorem B_X11_bestMove_86 {M : qMem} {x1 x2 x3 x4 : Int} {x5 : Option qV} : qlim C_X11_bestMove (86, [some (qA 0), some (qI x1), some (qI x2), some (qI x3), some (qI x4), x5], [], qH0 M) = qlim C_X11_bestMove (10, [some (qA 0), some (qI x1), some (qI x2), some (qI (kadd x3 1)), some (qI x4), x5], [], qH0 M) := (qlim_n (n := 2) (c' := (10, [some (qA 0), some (qI x1), some (qI x2), some (qI (kadd x3 1)), some (qI x4), x5], [], qH0 M)) rfl)
set_option maxRecDepth 20000 in
theorem B_X11_bestMove_92 {M : qMem} {x1 x2 x3 : Int} {x4 x5 : Option qV} : qlim C_X11_bestMove (92, [some (qA 0), some (qI x1), some (qI x2), some (qI x3), x4, x5], [], qH0 M) = some (some (qI x2), qH0 M) := by
  refine Eq.trans (qlim_n (n := 1) (c' := (93, [some (qA 0), some (qI x1), some (qI x2), some (qI x3), x4, x5], [qI x2], qH0 M)) rfl) ?_
  exact (qlim_ret rfl)
theorem E_X11_bestMove {h : qH} : S_X11_bestMove [qA 0] h = qlim C_X11_bestMove (0, [some (qA 0), none, none, none, none, none], [], h) := qM_at (Nat.le_of_ble_eq_true rfl) rfl
set_option maxRecDepth 20000 in
theorem B_X11_bestSwap_0 {M : qMem} : qlim C_X11_bestSwap (0, [some (qA 0), none, none, none, none, none], [], qH0 M) = qbd (S_X11_yieldAsIs [qA 0] (qH0 M)) (fun r h' => qlim C_X11_bestSwap (4, [some (qA 0), none, none, none, none, none], r.toList ++ [], h')) := by
  refine Eq.trans (qlim_n (n := 1) (c' := (1, [some (qA 0), none, none, none, none, none], [qA 0], qH0 M)) rfl) ?_
  exact (qlim_callv (n := 0) rfl rfl rfl (Nat.le_of_ble_eq_true rfl) (Nat.le_of_ble_eq_true rfl) rfl)
set_option maxRecDepth 20000 in
theorem B_X11_bestSwap_4 {M : qMem} {s0 : Int} : qlim C_X11_bestSwap (4, [some (qA 0), none, none, none, none, none], [qI s0], qH0 M) = qlim C_X11_bestSwap (10, [some (qA 0), some (qI s0), some (qI (-5)), some (qI 0), none, none], [], qH0 M) := (qlim_n (n := 5) (c' := (10, [some (qA 0), some (qI s0), some (qI (-5)), some (qI 0), none, none], [], qH0 M)) rfl)
set_option maxRecDepth 20000 in
theorem B_X11_bestSwap_10 {M : qMem} {x1 x2 x3 : Int} {x4 x5 : Option qV} : qlim C_X11_bestSwap (10, [some (qA 0), some (qI x1), some (qI x2), some (qI x3), x4, x5], [], qH0 M) = qlim C_X11_bestSwap ((if M 12 10 ≤ x3 then 127 else 21), [some (qA 0), some (qI x1), some (qI x2), some (qI x3), x4, x5], [], qH0 M) := (qlim_n (n := 5) (c' := ((if M 12 10 ≤ x3 then 127 else 21), [some (qA 0), some (qI x1), some (qI x2), some (qI x3), x4, x5], [], qH0 M)) rfl)
set_option maxRecDepth 20000 in
theorem B_X11_bestSwap_21 {M : qMem} {x1 x2 x3 : Int} {x4 x5 : Option qV} : qlim C_X11_bestSwap (21, [some (qA 0), some (qI x1), some (qI x2), some (qI x3), x4, x5], [], qH0 M) = qlim C_X11_bestSwap (26, [some (qA 0), some (qI x1), some (qI x2), some (qI x3), some (qI (kadd x3 1)), x5], [], qH0 M) := (qlim_n (n := 4) (c' := (26, [some (qA 0), some (qI x1), some (qI x2), some (qI x3), some (qI (kadd x3 1)), x5], [], qH0 M)) rfl)
set_option maxRecDepth 20000 in
theorem B_X11_bestSwap_26 {M : qMem} {x1 x2 x3 x4 : Int} {x5 : Option qV} : qlim C_X11_bestSwap (26, [some (qA 0), some (qI x1), some (qI x2), some (qI x3), some (qI x4), x5], [], qH0 M) = qlim C_X11_bestSwap ((if M 12 10 ≤ x4 then 121 else 38), [some (qA 0), some (qI x1), some (qI x2), some (qI x3), some (qI x4), x5], [], qH0 M) := (qlim_n (n := 5) (c' := ((if M 12 10 ≤ x4 then 121 else 38), [some (qA 0), some (qI x1), some (qI x2), some (qI x3), some (qI x4), x5], [], qH0 M)) rfl)
set_option maxRecDepth 20000 in
theorem B_X11_bestSwap_38 {M : qMem} {x1 x2 x3 x4 : Int} {x5 : Option qV} : qlim C_X11_bestSwap (38, [some (qA 0), some (qI x1), some (qI x2), some (qI x3), some (qI x4), x5], [], qH0 M) = qbd (S_X8_becomes [qA 21, qA 12] (qH0 M)) (fun r h' => qlim C_X11_bestSwap (49, [some (qA 0), some (qI x1), some (qI x2), some (qI x3), some (qI x4), x5], r.toList ++ [], h')) := by
  refine Eq.trans (qlim_n (n := 4) (c' := (46, [some (qA 0), some (qI x1), some (qI x2), some (qI x3), some (qI x4), x5], [qA 12, qA 21], qH0 M)) rfl) ?_
  exact (qlim_callv (n := 1) rfl rfl rfl (Nat.le_of_ble_eq_true rfl) (Nat.le_of_ble_eq_true rfl) rfl)
set_option maxRecDepth 20000 in
theorem B_X11_bestSwap_49 {M : qMem} {x1 x2 x3 x4 : Int} {x5 : Option qV} (h1 : 0 ≤ x4) (h2 : x4 < 6) (h3 : 0 ≤ x3) (h4 : x3 < 6) : qlim C_X11_bestSwap (49, [some (qA 0), some (qI x1), some (qI x2), some (qI x3), some (qI x4), x5], [], qH0 M) = qbd (S_X8_minutesGo [qA 21, qI 30] (qH0 (qup (qup M 25 x3 (M 16 x4)) 25 x4 ((qup M 25 x3 (M 16 x4)) 16 x3)))) (fun r h' => qlim C_X11_bestSwap (96, [some (qA 0), some (qI x1), some (qI x2), some (qI x3), some (qI x4), x5], r.toList ++ [], h')) := by
  refine Eq.trans (qlim_n (n := 8) (c' := (66, [some (qA 0), some (qI x1), some (qI x2), some (qI x3), some (qI x4), x5], [qI x4, qA 16, qI x3, qA 25], qH0 M)) rfl) ?_
  refine Eq.trans (qs_iaload rfl rfl h1 h2) ?_
  refine Eq.trans (qs_iastore rfl rfl h3 h4) ?_
  refine Eq.trans (qlim_n (n := 8) (c' := (85, [some (qA 0), some (qI x1), some (qI x2), some (qI x3), some (qI x4), x5], [qI x3, qA 16, qI x4, qA 25], qH0 (qup M 25 x3 (M 16 x4)))) rfl) ?_
  refine Eq.trans (qs_iaload rfl rfl h3 h4) ?_
  refine Eq.trans (qs_iastore rfl rfl h1 h2) ?_
  refine Eq.trans (qlim_n (n := 3) (c' := (93, [some (qA 0), some (qI x1), some (qI x2), some (qI x3), some (qI x4), x5], [qI 30, qA 21], qH0 (qup (qup M 25 x3 (M 16 x4)) 25 x4 ((qup M 25 x3 (M 16 x4)) 16 x3)))) rfl) ?_
  exact (qlim_callv (n := 1) rfl rfl rfl (Nat.le_of_ble_eq_true rfl) (Nat.le_of_ble_eq_true rfl) rfl)
set_option maxRecDepth 20000 in
theorem B_X11_bestSwap_96 {M : qMem} {x1 x2 x3 x4 s0 : Int} {x5 : Option qV} : qlim C_X11_bestSwap (96, [some (qA 0), some (qI x1), some (qI x2), some (qI x3), some (qI x4), x5], [qI s0], qH0 M) = qlim C_X11_bestSwap ((if s0 ≤ x1 then 115 else 104), [some (qA 0), some (qI x1), some (qI x2), some (qI x3), some (qI x4), some (qI s0)], [], qH0 M) := (qlim_n (n := 4) (c' := ((if s0 ≤ x1 then 115 else 104), [some (qA 0), some (qI x1), some (qI x2), some (qI x3), some (qI x4), some (qI s0)], [], qH0 M)) rfl)
set_option maxRecDepth 20000 in
theorem B_X11_bestSwap_104 {M : qMem} {x1 x2 x3 x4 x5 : Int} : qlim C_X11_bestSwap (104, [some (qA 0), some (qI x1), some (qI x2), some (qI x3), some (qI x4), some (qI x5)], [], qH0 M) = qlim C_X11_bestSwap (115, [some (qA 0), some (qI x5), some (qI (kadd (kmul 10 x3) x4)), some (qI x3), some (qI x4), some (qI x5)], [], qH0 M) := (qlim_n (n := 8) (c' := (115, [some (qA 0), some (qI x5), some (qI (kadd (kmul 10 x3) x4)), some (qI x3), some (qI x4), some (qI x5)], [], qH0 M)) rfl)
set_option maxRecDepth 20000 in
theorem B_X11_bestSwap_115 {M : qMem} {x1 x2 x3 x4 x5 : Int} : qlim C_X11_bestSwap (115, [some (qA 0), some (qI x1), some (qI x2), some (qI x3), some (qI x4), some (qI x5)], [], qH0 M) = qlim C_X11_bestSwap (26, [some (qA 0), some (qI x1), some (qI x2), some (qI x3), some (qI (kadd x4 1)), some (qI x5)], [], qH0 M) := (qlim_n (n := 2) (c' := (26, [some (qA 0), some (qI x1), some (qI x2), some (qI x3), some (qI (kadd x4 1)), some (qI x5)], [], qH0 M)) rfl)
set_option maxRecDepth 20000 in
theorem B_X11_bestSwap_121 {M : qMem} {x1 x2 x3 x4 : Int} {x5 : Option qV} : qlim C_X11_bestSwap (121, [some (qA 0), some (qI x1), some (qI x2), some (qI x3), some (qI x4), x5], [], qH0 M) = qlim C_X11_bestSwap (10, [some (qA 0), some (qI x1), some (qI x2), some (qI (kadd x3 1)), some (qI x4), x5], [], qH0 M) := (qlim_n (n := 2) (c' := (10, [some (qA 0), some (qI x1), some (qI x2), some (qI (kadd x3 1)), some (qI x4), x5], [], qH0 M)) rfl)
set_option maxRecDepth 20000 in
theorem B_X11_bestSwap_127 {M : qMem} {x1 x2 x3 : Int} {x4 x5 : Option qV} : qlim C_X11_bestSwap (127, [some (qA 0), some (qI x1), some (qI x2), some (qI x3), x4, x5], [], qH0 M) = some (some (qI x2), qH0 M) := by
  refine Eq.trans (qlim_n (n := 1) (c' := (128, [some (qA 0), some (qI x1), some (qI x2), some (qI x3), x4, x5], [qI x2], qH0 M)) rfl) ?_
  exact (qlim_ret rfl)
theorem E_X11_bestSwap {h : qH} : S_X11_bestSwap [qA 0] h = qlim C_X11_bestSwap (0, [some (qA 0), none, none, none, none, none], [], h) := qM_at (Nat.le_of_ble_eq_true rfl) rfl
set_option maxRecDepth 20000 in
theorem B_X11_enoughRoom_0 {M : qMem} : qlim C_X11_enoughRoom (0, [some (qA 0), none, none], [], qH0 M) = qbd (S_X11_yieldAsIs [qA 0] (qH0 M)) (fun r h' => qlim C_X11_enoughRoom (4, [some (qA 0), none, none], r.toList ++ [], h')) := by
  refine Eq.trans (qlim_n (n := 1) (c' := (1, [some (qA 0), none, none], [qA 0], qH0 M)) rfl) ?_
  exact (qlim_callv (n := 0) rfl rfl rfl (Nat.le_of_ble_eq_true rfl) (Nat.le_of_ble_eq_true rfl) rfl)
set_option maxRecDepth 20000 in
theorem B_X11_enoughRoom_4 {M : qMem} {s0 : Int} : qlim C_X11_enoughRoom (4, [some (qA 0), none, none], [qI s0], qH0 M) = qlim C_X11_enoughRoom (7, [some (qA 0), some (qI s0), some (qI 1)], [], qH0 M) := (qlim_n (n := 3) (c' := (7, [some (qA 0), some (qI s0), some (qI 1)], [], qH0 M)) rfl)
set_option maxRecDepth 20000 in
theorem B_X11_enoughRoom_7 {M : qMem} {x1 x2 : Int} : qlim C_X11_enoughRoom (7, [some (qA 0), some (qI x1), some (qI x2)], [], qH0 M) = qlim C_X11_enoughRoom ((if 20 < x2 then 53 else 13), [some (qA 0), some (qI x1), some (qI x2)], [], qH0 M) := (qlim_n (n := 3) (c' := ((if 20 < x2 then 53 else 13), [some (qA 0), some (qI x1), some (qI x2)], [], qH0 M)) rfl)
set_option maxRecDepth 20000 in
theorem B_X11_enoughRoom_13 {M : qMem} {x1 x2 : Int} : qlim C_X11_enoughRoom (13, [some (qA 0), some (qI x1), some (qI x2)], [], qH0 M) = qbd (S_X8_becomes [qA 21, qA 12] (qH0 M)) (fun r h' => qlim C_X11_enoughRoom (24, [some (qA 0), some (qI x1), some (qI x2)], r.toList ++ [], h')) := by
  refine Eq.trans (qlim_n (n := 4) (c' := (21, [some (qA 0), some (qI x1), some (qI x2)], [qA 12, qA 21], qH0 M)) rfl) ?_
  exact (qlim_callv (n := 1) rfl rfl rfl (Nat.le_of_ble_eq_true rfl) (Nat.le_of_ble_eq_true rfl) rfl)
set_option maxRecDepth 20000 in
theorem B_X11_enoughRoom_24 {M : qMem} {x1 x2 : Int} : qlim C_X11_enoughRoom (24, [some (qA 0), some (qI x1), some (qI x2)], [], qH0 M) = qbd (S_X8_minutesGo [qA 21, qI 30] (qH0 (qup M 21 12 x2))) (fun r h' => qlim C_X11_enoughRoom (41, [some (qA 0), some (qI x1), some (qI x2)], r.toList ++ [], h')) := by
  refine Eq.trans (qlim_n (n := 7) (c' := (38, [some (qA 0), some (qI x1), some (qI x2)], [qI 30, qA 21], qH0 (qup M 21 12 x2))) rfl) ?_
  exact (qlim_callv (n := 1) rfl rfl rfl (Nat.le_of_ble_eq_true rfl) (Nat.le_of_ble_eq_true rfl) rfl)
set_option maxRecDepth 20000 in
theorem B_X11_enoughRoom_41 {M : qMem} {x1 x2 s0 : Int} : qlim C_X11_enoughRoom (41, [some (qA 0), some (qI x1), some (qI x2)], [qI s0], qH0 M) = qlim C_X11_enoughRoom ((if s0 < x1 then 47 else 45), [some (qA 0), some (qI x1), some (qI x2)], [], qH0 M) := (qlim_n (n := 2) (c' := ((if s0 < x1 then 47 else 45), [some (qA 0), some (qI x1), some (qI x2)], [], qH0 M)) rfl)
set_option maxRecDepth 20000 in
theorem B_X11_enoughRoom_45 {M : qMem} {x1 x2 : Int} : qlim C_X11_enoughRoom (45, [some (qA 0), some (qI x1), some (qI x2)], [], qH0 M) = some (some (qI x2), qH0 M) := by
  refine Eq.trans (qlim_n (n := 1) (c' := (46, [some (qA 0), some (qI x1), some (qI x2)], [qI x2], qH0 M)) rfl) ?_
  exact (qlim_ret rfl)
set_option maxRecDepth 20000 in
theorem B_X11_enoughRoom_47 {M : qMem} {x1 x2 : Int} : qlim C_X11_enoughRoom (47, [some (qA 0), some (qI x1), some (qI x2)], [], qH0 M) = qlim C_X11_enoughRoom (7, [some (qA 0), some (qI x1), some (qI (kadd x2 1))], [], qH0 M) := (qlim_n (n := 2) (c' := (7, [some (qA 0), some (qI x1), some (qI (kadd x2 1))], [], qH0 M)) rfl)
set_option maxRecDepth 20000 in
theorem B_X11_enoughRoom_53 {M : qMem} {x1 x2 : Int} : qlim C_X11_enoughRoom (53, [some (qA 0), some (qI x1), some (qI x2)], [], qH0 M) = some (some (qI (-5)), qH0 M) := by
  refine Eq.trans (qlim_n (n := 1) (c' := (55, [some (qA 0), some (qI x1), some (qI x2)], [qI (-5)], qH0 M)) rfl) ?_
  exact (qlim_ret rfl)
theorem E_X11_enoughRoom {h : qH} : S_X11_enoughRoom [qA 0] h = qlim C_X11_enoughRoom (0, [some (qA 0), none, none], [], h) := qM_at (Nat.le_of_ble_eq_true rfl) rfl
set_option maxRecDepth 20000 in
theorem B_X11_mostMissed_0 {M : qMem} : qlim C_X11_mostMissed (0, [some (qA 0), none, none, none, none], [], qH0 M) = qlim C_X11_mostMissed (8, [some (qA 0), some (qI 2147483647), some (qI (-5)), some (qI 0), none], [], qH0 M) := (qlim_n (n := 6) (c' := (8, [some (qA 0), some (qI 2147483647), some (qI (-5)), some (qI 0), none], [], qH0 M)) rfl)
set_option maxRecDepth 20000 in
theorem B_X11_mostMissed_8 {M : qMem} {x1 x2 x3 : Int} {x4 : Option qV} : qlim C_X11_mostMissed (8, [some (qA 0), some (qI x1), some (qI x2), some (qI x3), x4], [], qH0 M) = qlim C_X11_mostMissed ((if M 12 10 ≤ x3 then 57 else 19), [some (qA 0), some (qI x1), some (qI x2), some (qI x3), x4], [], qH0 M) := (qlim_n (n := 5) (c' := ((if M 12 10 ≤ x3 then 57 else 19), [some (qA 0), some (qI x1), some (qI x2), some (qI x3), x4], [], qH0 M)) rfl)
set_option maxRecDepth 20000 in
theorem B_X11_mostMissed_19 {M : qMem} {x1 x2 x3 : Int} {x4 : Option qV} (h1 : 0 ≤ x3) (h2 : x3 < 6) : qlim C_X11_mostMissed (19, [some (qA 0), some (qI x1), some (qI x2), some (qI x3), x4], [], qH0 M) = qlim C_X11_mostMissed ((if ¬ M 20 x3 = 0 then 51 else 31), [some (qA 0), some (qI x1), some (qI x2), some (qI x3), x4], [], qH0 M) := by
  refine Eq.trans (qlim_n (n := 4) (c' := (27, [some (qA 0), some (qI x1), some (qI x2), some (qI x3), x4], [qI x3, qA 20], qH0 M)) rfl) ?_
  refine Eq.trans (qs_zaload rfl rfl h1 h2) ?_
  exact (qlim_n (n := 1) (c' := ((if ¬ M 20 x3 = 0 then 51 else 31), [some (qA 0), some (qI x1), some (qI x2), some (qI x3), x4], [], qH0 M)) rfl)
set_option maxRecDepth 20000 in
theorem B_X11_mostMissed_31 {M : qMem} {x1 x2 x3 : Int} {x4 : Option qV} : qlim C_X11_mostMissed (31, [some (qA 0), some (qI x1), some (qI x2), some (qI x3), x4], [], qH0 M) = qbd (S_X11_behindWithout [qA 0, qI x3, qI 30] (qH0 M)) (fun r h' => qlim C_X11_mostMissed (38, [some (qA 0), some (qI x1), some (qI x2), some (qI x3), x4], r.toList ++ [], h')) := by
  refine Eq.trans (qlim_n (n := 3) (c' := (35, [some (qA 0), some (qI x1), some (qI x2), some (qI x3), x4], [qI 30, qI x3, qA 0], qH0 M)) rfl) ?_
  exact (qlim_callv (n := 2) rfl rfl rfl (Nat.le_of_ble_eq_true rfl) (Nat.le_of_ble_eq_true rfl) rfl)
set_option maxRecDepth 20000 in
theorem B_X11_mostMissed_38 {M : qMem} {x1 x2 x3 s0 : Int} {x4 : Option qV} : qlim C_X11_mostMissed (38, [some (qA 0), some (qI x1), some (qI x2), some (qI x3), x4], [qI s0], qH0 M) = qlim C_X11_mostMissed ((if x1 ≤ s0 then 51 else 46), [some (qA 0), some (qI x1), some (qI x2), some (qI x3), some (qI s0)], [], qH0 M) := (qlim_n (n := 4) (c' := ((if x1 ≤ s0 then 51 else 46), [some (qA 0), some (qI x1), some (qI x2), some (qI x3), some (qI s0)], [], qH0 M)) rfl)
set_option maxRecDepth 20000 in
theorem B_X11_mostMissed_46 {M : qMem} {x1 x2 x3 x4 : Int} : qlim C_X11_mostMissed (46, [some (qA 0), some (qI x1), some (qI x2), some (qI x3), some (qI x4)], [], qH0 M) = qlim C_X11_mostMissed (51, [some (qA 0), some (qI x4), some (qI x3), some (qI x3), some (qI x4)], [], qH0 M) := (qlim_n (n := 4) (c' := (51, [some (qA 0), some (qI x4), some (qI x3), some (qI x3), some (qI x4)], [], qH0 M)) rfl)
set_option maxRecDepth 20000 in
theorem B_X11_mostMissed_51 {M : qMem} {x1 x2 x3 : Int} {x4 : Option qV} : qlim C_X11_mostMissed (51, [some (qA 0), some (qI x1), some (qI x2), some (qI x3), x4], [], qH0 M) = qlim C_X11_mostMissed (8, [some (qA 0), some (qI x1), some (qI x2), some (qI (kadd x3 1)), x4], [], qH0 M) := (qlim_n (n := 2) (c' := (8, [some (qA 0), some (qI x1), some (qI x2), some (qI (kadd x3 1)), x4], [], qH0 M)) rfl)
set_option maxRecDepth 20000 in
theorem B_X11_mostMissed_57 {M : qMem} {x1 x2 x3 : Int} {x4 : Option qV} : qlim C_X11_mostMissed (57, [some (qA 0), some (qI x1), some (qI x2), some (qI x3), x4], [], qH0 M) = some (some (qI x2), qH0 M) := by
  refine Eq.trans (qlim_n (n := 1) (c' := (58, [some (qA 0), some (qI x1), some (qI x2), some (qI x3), x4], [qI x2], qH0 M)) rfl) ?_
  exact (qlim_ret rfl)
theorem E_X11_mostMissed {h : qH} : S_X11_mostMissed [qA 0] h = qlim C_X11_mostMissed (0, [some (qA 0), none, none, none, none], [], h) := qM_at (Nat.le_of_ble_eq_true rfl) rfl
set_option maxRecDepth 20000 in
theorem B_X11_behindWithout_0 {M : qMem} {x1 x2 : Int} : qlim C_X11_behindWithout (0, [some (qA 0), some (qI x1), some (qI x2)], [], qH0 M) = qbd (S_X8_becomes [qA 21, qA 12] (qH0 M)) (fun r h' => qlim C_X11_behindWithout (11, [some (qA 0), some (qI x1), some (qI x2)], r.toList ++ [], h')) := by
  refine Eq.trans (qlim_n (n := 4) (c' := (8, [some (qA 0), some (qI x1), some (qI x2)], [qA 12, qA 21], qH0 M)) rfl) ?_
  exact (qlim_callv (n := 1) rfl rfl rfl (Nat.le_of_ble_eq_true rfl) (Nat.le_of_ble_eq_true rfl) rfl)
set_option maxRecDepth 20000 in
theorem B_X11_behindWithout_11 {M : qMem} {x1 x2 : Int} (h1 : 0 ≤ x1) (h2 : x1 < 6) : qlim C_X11_behindWithout (11, [some (qA 0), some (qI x1), some (qI x2)], [], qH0 M) = qbd (S_X8_minutesGo [qA 21, qI x2] (qH0 (qup M 29 x1 1))) (fun r h' => qlim C_X11_behindWithout (29, [some (qA 0), some (qI x1), some (qI x2)], r.toList ++ [], h')) := by
  refine Eq.trans (qlim_n (n := 5) (c' := (20, [some (qA 0), some (qI x1), some (qI x2)], [qI 1, qI x1, qA 29], qH0 M)) rfl) ?_
  refine Eq.trans (qs_zastore rfl rfl h1 h2 (by decide)) ?_
  refine Eq.trans (qlim_n (n := 3) (c' := (26, [some (qA 0), some (qI x1), some (qI x2)], [qI x2, qA 21], qH0 (qup M 29 x1 1))) rfl) ?_
  exact (qlim_callv (n := 1) rfl rfl rfl (Nat.le_of_ble_eq_true rfl) (Nat.le_of_ble_eq_true rfl) rfl)
set_option maxRecDepth 20000 in
theorem B_X11_behindWithout_29 {M : qMem} {x1 x2 s0 : Int} : qlim C_X11_behindWithout (29, [some (qA 0), some (qI x1), some (qI x2)], [qI s0], qH0 M) = some (some (qI s0), qH0 M) := (qlim_ret rfl)
theorem E_X11_behindWithout {h : qH} {x1 x2 : Int} : S_X11_behindWithout [qA 0, qI x1, qI x2] h = qlim C_X11_behindWithout (0, [some (qA 0), some (qI x1), some (qI x2)], [], h) := qM_at (Nat.le_of_ble_eq_true rfl) rfl
set_option maxRecDepth 20000 in
theorem B_X11_when_0 {M : qMem} {x1 x2 : Int} : qlim C_X11_when (0, [some (qA 0), some (qI x1), some (qI x2), none, none, none, none], [], qH0 M) = qbd (S_X11_isPerson [qA 0, qI x1] (qH0 M)) (fun r h' => qlim C_X11_when (5, [some (qA 0), some (qI x1), some (qI x2), none, none, none, none], r.toList ++ [], h')) := by
  refine Eq.trans (qlim_n (n := 2) (c' := (2, [some (qA 0), some (qI x1), some (qI x2), none, none, none, none], [qI x1, qA 0], qH0 M)) rfl) ?_
  exact (qlim_callv (n := 1) rfl rfl rfl (Nat.le_of_ble_eq_true rfl) (Nat.le_of_ble_eq_true rfl) rfl)
set_option maxRecDepth 20000 in
theorem B_X11_when_5 {M : qMem} {x1 x2 s0 : Int} : qlim C_X11_when (5, [some (qA 0), some (qI x1), some (qI x2), none, none, none, none], [qI s0], qH0 M) = qlim C_X11_when ((if s0 = 0 then 15 else 8), [some (qA 0), some (qI x1), some (qI x2), none, none, none, none], [], qH0 M) := (qlim_n (n := 1) (c' := ((if s0 = 0 then 15 else 8), [some (qA 0), some (qI x1), some (qI x2), none, none, none, none], [], qH0 M)) rfl)
set_option maxRecDepth 20000 in
theorem B_X11_when_8 {M : qMem} {x1 x2 : Int} : qlim C_X11_when (8, [some (qA 0), some (qI x1), some (qI x2), none, none, none, none], [], qH0 M) = qbd (S_X11_isWork [qI x2] (qH0 M)) (fun r h' => qlim C_X11_when (12, [some (qA 0), some (qI x1), some (qI x2), none, none, none, none], r.toList ++ [], h')) := by
  refine Eq.trans (qlim_n (n := 1) (c' := (9, [some (qA 0), some (qI x1), some (qI x2), none, none, none, none], [qI x2], qH0 M)) rfl) ?_
  exact (qlim_calls (n := 1) rfl rfl rfl (Nat.le_of_ble_eq_true rfl) (Nat.le_of_ble_eq_true rfl))
set_option maxRecDepth 20000 in
theorem B_X11_when_12 {M : qMem} {x1 x2 s0 : Int} : qlim C_X11_when (12, [some (qA 0), some (qI x1), some (qI x2), none, none, none, none], [qI s0], qH0 M) = qlim C_X11_when ((if ¬ s0 = 0 then 17 else 15), [some (qA 0), some (qI x1), some (qI x2), none, none, none, none], [], qH0 M) := (qlim_n (n := 1) (c' := ((if ¬ s0 = 0 then 17 else 15), [some (qA 0), some (qI x1), some (qI x2), none, none, none, none], [], qH0 M)) rfl)
set_option maxRecDepth 20000 in
theorem B_X11_when_15 {M : qMem} {x1 x2 : Int} : qlim C_X11_when (15, [some (qA 0), some (qI x1), some (qI x2), none, none, none, none], [], qH0 M) = some (some (qI (-1)), qH0 M) := by
  refine Eq.trans (qlim_n (n := 1) (c' := (16, [some (qA 0), some (qI x1), some (qI x2), none, none, none, none], [qI (-1)], qH0 M)) rfl) ?_
  exact (qlim_ret rfl)
set_option maxRecDepth 20000 in
theorem B_X11_when_17 {M : qMem} {x1 x2 : Int} : qlim C_X11_when (17, [some (qA 0), some (qI x1), some (qI x2), none, none, none, none], [], qH0 M) = qlim C_X11_when (25, [some (qA 0), some (qI x1), some (qI x2), some (qI (-1)), some (qI 0), some (qI 0), none], [], qH0 M) := (qlim_n (n := 6) (c' := (25, [some (qA 0), some (qI x1), some (qI x2), some (qI (-1)), some (qI 0), some (qI 0), none], [], qH0 M)) rfl)
set_option maxRecDepth 20000 in
theorem B_X11_when_25 {M : qMem} {x1 x2 x3 x4 x5 : Int} {x6 : Option qV} : qlim C_X11_when (25, [some (qA 0), some (qI x1), some (qI x2), some (qI x3), some (qI x4), some (qI x5), x6], [], qH0 M) = qlim C_X11_when ((if 20 < x5 then 96 else 32), [some (qA 0), some (qI x1), some (qI x2), some (qI x3), some (qI x4), some (qI x5), x6], [], qH0 M) := (qlim_n (n := 3) (c' := ((if 20 < x5 then 96 else 32), [some (qA 0), some (qI x1), some (qI x2), some (qI x3), some (qI x4), some (qI x5), x6], [], qH0 M)) rfl)
set_option maxRecDepth 20000 in
theorem B_X11_when_32 {M : qMem} {x1 x2 x3 x4 x5 : Int} {x6 : Option qV} : qlim C_X11_when (32, [some (qA 0), some (qI x1), some (qI x2), some (qI x3), some (qI x4), some (qI x5), x6], [], qH0 M) = qbd (S_X8_becomes [qA 21, qA 12] (qH0 M)) (fun r h' => qlim C_X11_when (43, [some (qA 0), some (qI x1), some (qI x2), some (qI x3), some (qI x4), some (qI x5), x6], r.toList ++ [], h')) := by
  refine Eq.trans (qlim_n (n := 4) (c' := (40, [some (qA 0), some (qI x1), some (qI x2), some (qI x3), some (qI x4), some (qI x5), x6], [qA 12, qA 21], qH0 M)) rfl) ?_
  exact (qlim_callv (n := 1) rfl rfl rfl (Nat.le_of_ble_eq_true rfl) (Nat.le_of_ble_eq_true rfl) rfl)
set_option maxRecDepth 20000 in
theorem B_X11_when_43 {M : qMem} {x1 x2 x3 x4 x5 : Int} {x6 : Option qV} : qlim C_X11_when (43, [some (qA 0), some (qI x1), some (qI x2), some (qI x3), some (qI x4), some (qI x5), x6], [], qH0 M) = qbd (S_X8_minutesGo [qA 21, qI x5] (qH0 M)) (fun r h' => qlim C_X11_when (52, [some (qA 0), some (qI x1), some (qI x2), some (qI x3), some (qI x4), some (qI x5), x6], r.toList ++ [], h')) := by
  refine Eq.trans (qlim_n (n := 3) (c' := (49, [some (qA 0), some (qI x1), some (qI x2), some (qI x3), some (qI x4), some (qI x5), x6], [qI x5, qA 21], qH0 M)) rfl) ?_
  exact (qlim_callv (n := 1) rfl rfl rfl (Nat.le_of_ble_eq_true rfl) (Nat.le_of_ble_eq_true rfl) rfl)
set_option maxRecDepth 20000 in
theorem B_X11_when_52 {M : qMem} {x1 x2 x3 x4 x5 s0 : Int} {x6 : Option qV} (h1 : 0 ≤ x1) (h2 : x1 < 6) : qlim C_X11_when (52, [some (qA 0), some (qI x1), some (qI x2), some (qI x3), some (qI x4), some (qI x5), x6], [qI s0], qH0 M) = qbd (S_X8_minutesGo [qA 21, qI (ksub 30 x5)] (qH0 (qup M 25 x1 x2))) (fun r h' => qlim C_X11_when (75, [some (qA 0), some (qI x1), some (qI x2), some (qI x3), some (qI x4), some (qI x5), x6], r.toList ++ [], h')) := by
  refine Eq.trans (qlim_n (n := 6) (c' := (62, [some (qA 0), some (qI x1), some (qI x2), some (qI x3), some (qI x4), some (qI x5), x6], [qI x2, qI x1, qA 25], qH0 M)) rfl) ?_
  refine Eq.trans (qs_iastore rfl rfl h1 h2) ?_
  refine Eq.trans (qlim_n (n := 5) (c' := (72, [some (qA 0), some (qI x1), some (qI x2), some (qI x3), some (qI x4), some (qI x5), x6], [qI (ksub 30 x5), qA 21], qH0 (qup M 25 x1 x2))) rfl) ?_
  exact (qlim_callv (n := 1) rfl rfl rfl (Nat.le_of_ble_eq_true rfl) (Nat.le_of_ble_eq_true rfl) rfl)
set_option maxRecDepth 20000 in
theorem B_X11_when_75 {M : qMem} {x1 x2 x3 x4 x5 s0 : Int} {x6 : Option qV} : qlim C_X11_when (75, [some (qA 0), some (qI x1), some (qI x2), some (qI x3), some (qI x4), some (qI x5), x6], [qI s0], qH0 M) = qlim C_X11_when ((if s0 ≤ x3 then 90 else 83), [some (qA 0), some (qI x1), some (qI x2), some (qI x3), some (qI x4), some (qI x5), some (qI s0)], [], qH0 M) := (qlim_n (n := 4) (c' := ((if s0 ≤ x3 then 90 else 83), [some (qA 0), some (qI x1), some (qI x2), some (qI x3), some (qI x4), some (qI x5), some (qI s0)], [], qH0 M)) rfl)
set_option maxRecDepth 20000 in
theorem B_X11_when_83 {M : qMem} {x1 x2 x3 x4 x5 x6 : Int} : qlim C_X11_when (83, [some (qA 0), some (qI x1), some (qI x2), some (qI x3), some (qI x4), some (qI x5), some (qI x6)], [], qH0 M) = qlim C_X11_when (90, [some (qA 0), some (qI x1), some (qI x2), some (qI x6), some (qI x5), some (qI x5), some (qI x6)], [], qH0 M) := (qlim_n (n := 4) (c' := (90, [some (qA 0), some (qI x1), some (qI x2), some (qI x6), some (qI x5), some (qI x5), some (qI x6)], [], qH0 M)) rfl)
set_option maxRecDepth 20000 in
theorem B_X11_when_90 {M : qMem} {x1 x2 x3 x4 x5 x6 : Int} : qlim C_X11_when (90, [some (qA 0), some (qI x1), some (qI x2), some (qI x3), some (qI x4), some (qI x5), some (qI x6)], [], qH0 M) = qlim C_X11_when (25, [some (qA 0), some (qI x1), some (qI x2), some (qI x3), some (qI x4), some (qI (kadd x5 1)), some (qI x6)], [], qH0 M) := (qlim_n (n := 2) (c' := (25, [some (qA 0), some (qI x1), some (qI x2), some (qI x3), some (qI x4), some (qI (kadd x5 1)), some (qI x6)], [], qH0 M)) rfl)
set_option maxRecDepth 20000 in
theorem B_X11_when_96 {M : qMem} {x1 x2 x3 x4 x5 : Int} {x6 : Option qV} : qlim C_X11_when (96, [some (qA 0), some (qI x1), some (qI x2), some (qI x3), some (qI x4), some (qI x5), x6], [], qH0 M) = some (some (qI x4), qH0 M) := by
  refine Eq.trans (qlim_n (n := 1) (c' := (98, [some (qA 0), some (qI x1), some (qI x2), some (qI x3), some (qI x4), some (qI x5), x6], [qI x4], qH0 M)) rfl) ?_
  exact (qlim_ret rfl)
theorem E_X11_when {h : qH} {x1 x2 : Int} : S_X11_when [qA 0, qI x1, qI x2] h = qlim C_X11_when (0, [some (qA 0), some (qI x1), some (qI x2), none, none, none, none], [], h) := qM_at (Nat.le_of_ble_eq_true rfl) rfl
set_option maxRecDepth 20000 in
theorem B_X11_without_0 {M : qMem} {x1 : Int} : qlim C_X11_without (0, [some (qA 0), some (qI x1)], [], qH0 M) = qbd (S_X11_isPerson [qA 0, qI x1] (qH0 M)) (fun r h' => qlim C_X11_without (5, [some (qA 0), some (qI x1)], r.toList ++ [], h')) := by
  refine Eq.trans (qlim_n (n := 2) (c' := (2, [some (qA 0), some (qI x1)], [qI x1, qA 0], qH0 M)) rfl) ?_
  exact (qlim_callv (n := 1) rfl rfl rfl (Nat.le_of_ble_eq_true rfl) (Nat.le_of_ble_eq_true rfl) rfl)
set_option maxRecDepth 20000 in
theorem B_X11_without_5 {M : qMem} {x1 s0 : Int} : qlim C_X11_without (5, [some (qA 0), some (qI x1)], [qI s0], qH0 M) = qlim C_X11_without ((if s0 = 0 then 18 else 8), [some (qA 0), some (qI x1)], [], qH0 M) := (qlim_n (n := 1) (c' := ((if s0 = 0 then 18 else 8), [some (qA 0), some (qI x1)], [], qH0 M)) rfl)
set_option maxRecDepth 20000 in
theorem B_X11_without_8 {M : qMem} {x1 : Int} : qlim C_X11_without (8, [some (qA 0), some (qI x1)], [], qH0 M) = qbd (S_X11_behindWithout [qA 0, qI x1, qI 30] (qH0 M)) (fun r h' => qlim C_X11_without (15, [some (qA 0), some (qI x1)], r.toList ++ [], h')) := by
  refine Eq.trans (qlim_n (n := 3) (c' := (12, [some (qA 0), some (qI x1)], [qI 30, qI x1, qA 0], qH0 M)) rfl) ?_
  exact (qlim_callv (n := 2) rfl rfl rfl (Nat.le_of_ble_eq_true rfl) (Nat.le_of_ble_eq_true rfl) rfl)
set_option maxRecDepth 20000 in
theorem B_X11_without_15 {M : qMem} {x1 s0 : Int} : qlim C_X11_without (15, [some (qA 0), some (qI x1)], [qI s0], qH0 M) = qlim C_X11_without (19, [some (qA 0), some (qI x1)], [qI s0], qH0 M) := (qlim_n (n := 1) (c' := (19, [some (qA 0), some (qI x1)], [qI s0], qH0 M)) rfl)
set_option maxRecDepth 20000 in
theorem B_X11_without_18 {M : qMem} {x1 : Int} : qlim C_X11_without (18, [some (qA 0), some (qI x1)], [], qH0 M) = qlim C_X11_without (19, [some (qA 0), some (qI x1)], [qI (-1)], qH0 M) := (qlim_n (n := 1) (c' := (19, [some (qA 0), some (qI x1)], [qI (-1)], qH0 M)) rfl)
set_option maxRecDepth 20000 in
theorem B_X11_without_19 {M : qMem} {x1 s0 : Int} : qlim C_X11_without (19, [some (qA 0), some (qI x1)], [qI s0], qH0 M) = some (some (qI s0), qH0 M) := (qlim_ret rfl)
theorem E_X11_without {h : qH} {x1 : Int} : S_X11_without [qA 0, qI x1] h = qlim C_X11_without (0, [some (qA 0), some (qI x1)], [], h) := qM_at (Nat.le_of_ble_eq_true rfl) rfl
set_option maxRecDepth 20000 in
theorem B_X11_see_0 {M : qMem} {x1 x2 x3 : Int} : qlim C_X11_see (0, [some (qA 0), some (qI x1), some (qI x2), some (qI x3)], [], qH0 M) = qlim C_X11_see ((if ¬ x1 = (-1) then 15 else 5), [some (qA 0), some (qI x1), some (qI x2), some (qI x3)], [], qH0 M) := (qlim_n (n := 3) (c' := ((if ¬ x1 = (-1) then 15 else 5), [some (qA 0), some (qI x1), some (qI x2), some (qI x3)], [], qH0 M)) rfl)
set_option maxRecDepth 20000 in
theorem B_X11_see_5 {M : qMem} {x1 x2 x3 : Int} : qlim C_X11_see (5, [some (qA 0), some (qI x1), some (qI x2), some (qI x3)], [], qH0 M) = some (some (qI 0), qH0 (qup M 39 3 0)) := by
  refine Eq.trans (qlim_n (n := 5) (c' := (14, [some (qA 0), some (qI x1), some (qI x2), some (qI x3)], [qI 0], qH0 (qup M 39 3 0))) rfl) ?_
  exact (qlim_ret rfl)
set_option maxRecDepth 20000 in
theorem B_X11_see_15 {M : qMem} {x1 x2 x3 : Int} : qlim C_X11_see (15, [some (qA 0), some (qI x1), some (qI x2), some (qI x3)], [], qH0 M) = qbd (S_X11_isHeap [qI x1] (qH0 M)) (fun r h' => qlim C_X11_see (19, [some (qA 0), some (qI x1), some (qI x2), some (qI x3)], r.toList ++ [], h')) := by
  refine Eq.trans (qlim_n (n := 1) (c' := (16, [some (qA 0), some (qI x1), some (qI x2), some (qI x3)], [qI x1], qH0 M)) rfl) ?_
  exact (qlim_calls (n := 1) rfl rfl rfl (Nat.le_of_ble_eq_true rfl) (Nat.le_of_ble_eq_true rfl))
set_option maxRecDepth 20000 in
theorem B_X11_see_19 {M : qMem} {x1 x2 x3 s0 : Int} : qlim C_X11_see (19, [some (qA 0), some (qI x1), some (qI x2), some (qI x3)], [qI s0], qH0 M) = qlim C_X11_see ((if ¬ s0 = 0 then 24 else 22), [some (qA 0), some (qI x1), some (qI x2), some (qI x3)], [], qH0 M) := (qlim_n (n := 1) (c' := ((if ¬ s0 = 0 then 24 else 22), [some (qA 0), some (qI x1), some (qI x2), some (qI x3)], [], qH0 M)) rfl)
set_option maxRecDepth 20000 in
theorem B_X11_see_22 {M : qMem} {x1 x2 x3 : Int} : qlim C_X11_see (22, [some (qA 0), some (qI x1), some (qI x2), some (qI x3)], [], qH0 M) = some (some (qI (-1)), qH0 M) := by
  refine Eq.trans (qlim_n (n := 1) (c' := (23, [some (qA 0), some (qI x1), some (qI x2), some (qI x3)], [qI (-1)], qH0 M)) rfl) ?_
  exact (qlim_ret rfl)
set_option maxRecDepth 20000 in
theorem B_X11_see_24 {M : qMem} {x1 x2 x3 : Int} : qlim C_X11_see (24, [some (qA 0), some (qI x1), some (qI x2), some (qI x3)], [], qH0 M) = qbd (S_X11_isIn [qI x2, qI 9999] (qH0 M)) (fun r h' => qlim C_X11_see (31, [some (qA 0), some (qI x1), some (qI x2), some (qI x3)], r.toList ++ [], h')) := by
  refine Eq.trans (qlim_n (n := 2) (c' := (28, [some (qA 0), some (qI x1), some (qI x2), some (qI x3)], [qI 9999, qI x2], qH0 M)) rfl) ?_
  exact (qlim_calls (n := 2) rfl rfl rfl (Nat.le_of_ble_eq_true rfl) (Nat.le_of_ble_eq_true rfl))
set_option maxRecDepth 20000 in
theorem B_X11_see_31 {M : qMem} {x1 x2 x3 s0 : Int} : qlim C_X11_see (31, [some (qA 0), some (qI x1), some (qI x2), some (qI x3)], [qI s0], qH0 M) = qlim C_X11_see ((if s0 = 0 then 43 else 34), [some (qA 0), some (qI x1), some (qI x2), some (qI x3)], [], qH0 M) := (qlim_n (n := 1) (c' := ((if s0 = 0 then 43 else 34), [some (qA 0), some (qI x1), some (qI x2), some (qI x3)], [], qH0 M)) rfl)
set_option maxRecDepth 20000 in
theorem B_X11_see_34 {M : qMem} {x1 x2 x3 : Int} : qlim C_X11_see (34, [some (qA 0), some (qI x1), some (qI x2), some (qI x3)], [], qH0 M) = qbd (S_X11_isIn [qI x3, qI 20] (qH0 M)) (fun r h' => qlim C_X11_see (40, [some (qA 0), some (qI x1), some (qI x2), some (qI x3)], r.toList ++ [], h')) := by
  refine Eq.trans (qlim_n (n := 2) (c' := (37, [some (qA 0), some (qI x1), some (qI x2), some (qI x3)], [qI 20, qI x3], qH0 M)) rfl) ?_
  exact (qlim_calls (n := 2) rfl rfl rfl (Nat.le_of_ble_eq_true rfl) (Nat.le_of_ble_eq_true rfl))
set_option maxRecDepth 20000 in
theorem B_X11_see_40 {M : qMem} {x1 x2 x3 s0 : Int} : qlim C_X11_see (40, [some (qA 0), some (qI x1), some (qI x2), some (qI x3)], [qI s0], qH0 M) = qlim C_X11_see ((if ¬ s0 = 0 then 46 else 43), [some (qA 0), some (qI x1), some (qI x2), some (qI x3)], [], qH0 M) := (qlim_n (n := 1) (c' := ((if ¬ s0 = 0 then 46 else 43), [some (qA 0), some (qI x1), some (qI x2), some (qI x3)], [], qH0 M)) rfl)
set_option maxRecDepth 20000 in
theorem B_X11_see_43 {M : qMem} {x1 x2 x3 : Int} : qlim C_X11_see (43, [some (qA 0), some (qI x1), some (qI x2), some (qI x3)], [], qH0 M) = some (some (qI (-2)), qH0 M) := by
  refine Eq.trans (qlim_n (n := 1) (c' := (45, [some (qA 0), some (qI x1), some (qI x2), some (qI x3)], [qI (-2)], qH0 M)) rfl) ?_
  exact (qlim_ret rfl)
set_option maxRecDepth 20000 in
theorem B_X11_see_46 {M : qMem} {x1 x2 x3 : Int} : qlim C_X11_see (46, [some (qA 0), some (qI x1), some (qI x2), some (qI x3)], [], qH0 M) = qbd (S_X6_add [qA 39, qI x1, qI x2, qI x3] (qH0 M)) (fun r h' => qlim C_X11_see (56, [some (qA 0), some (qI x1), some (qI x2), some (qI x3)], r.toList ++ [], h')) := by
  refine Eq.trans (qlim_n (n := 5) (c' := (53, [some (qA 0), some (qI x1), some (qI x2), some (qI x3)], [qI x3, qI x2, qI x1, qA 39], qH0 M)) rfl) ?_
  exact (qlim_callv (n := 3) rfl rfl rfl (Nat.le_of_ble_eq_true rfl) (Nat.le_of_ble_eq_true rfl) rfl)
set_option maxRecDepth 20000 in
theorem B_X11_see_56 {M : qMem} {x1 x2 x3 s0 : Int} : qlim C_X11_see (56, [some (qA 0), some (qI x1), some (qI x2), some (qI x3)], [qI s0], qH0 M) = some (some (qI s0), qH0 M) := (qlim_ret rfl)
theorem E_X11_see {h : qH} {x1 x2 x3 : Int} : S_X11_see [qA 0, qI x1, qI x2, qI x3] h = qlim C_X11_see (0, [some (qA 0), some (qI x1), some (qI x2), some (qI x3)], [], h) := qM_at (Nat.le_of_ble_eq_true rfl) rfl
set_option maxRecDepth 20000 in
theorem B_X11_were_0 {M : qMem} {x1 x2 : Int} : qlim C_X11_were (0, [some (qA 0), some (qI x1), some (qI x2)], [], qH0 M) = qbd (S_X11_isHeap [qI x1] (qH0 M)) (fun r h' => qlim C_X11_were (4, [some (qA 0), some (qI x1), some (qI x2)], r.toList ++ [], h')) := by
  refine Eq.trans (qlim_n (n := 1) (c' := (1, [some (qA 0), some (qI x1), some (qI x2)], [qI x1], qH0 M)) rfl) ?_
  exact (qlim_calls (n := 1) rfl rfl rfl (Nat.le_of_ble_eq_true rfl) (Nat.le_of_ble_eq_true rfl))
set_option maxRecDepth 20000 in
theorem B_X11_were_4 {M : qMem} {x1 x2 s0 : Int} : qlim C_X11_were (4, [some (qA 0), some (qI x1), some (qI x2)], [qI s0], qH0 M) = qlim C_X11_were ((if s0 = 0 then 15 else 7), [some (qA 0), some (qI x1), some (qI x2)], [], qH0 M) := (qlim_n (n := 1) (c' := ((if s0 = 0 then 15 else 7), [some (qA 0), some (qI x1), some (qI x2)], [], qH0 M)) rfl)
set_option maxRecDepth 20000 in
theorem B_X11_were_7 {M : qMem} {x1 x2 : Int} : qlim C_X11_were (7, [some (qA 0), some (qI x1), some (qI x2)], [], qH0 M) = qbd (S_X11_isIn [qI x2, qI 1] (qH0 M)) (fun r h' => qlim C_X11_were (12, [some (qA 0), some (qI x1), some (qI x2)], r.toList ++ [], h')) := by
  refine Eq.trans (qlim_n (n := 2) (c' := (9, [some (qA 0), some (qI x1), some (qI x2)], [qI 1, qI x2], qH0 M)) rfl) ?_
  exact (qlim_calls (n := 2) rfl rfl rfl (Nat.le_of_ble_eq_true rfl) (Nat.le_of_ble_eq_true rfl))
set_option maxRecDepth 20000 in
theorem B_X11_were_12 {M : qMem} {x1 x2 s0 : Int} : qlim C_X11_were (12, [some (qA 0), some (qI x1), some (qI x2)], [qI s0], qH0 M) = qlim C_X11_were ((if ¬ s0 = 0 then 17 else 15), [some (qA 0), some (qI x1), some (qI x2)], [], qH0 M) := (qlim_n (n := 1) (c' := ((if ¬ s0 = 0 then 17 else 15), [some (qA 0), some (qI x1), some (qI x2)], [], qH0 M)) rfl)
set_option maxRecDepth 20000 in
theorem B_X11_were_15 {M : qMem} {x1 x2 : Int} : qlim C_X11_were (15, [some (qA 0), some (qI x1), some (qI x2)], [], qH0 M) = some (some (qI (-1)), qH0 M) := by
  refine Eq.trans (qlim_n (n := 1) (c' := (16, [some (qA 0), some (qI x1), some (qI x2)], [qI (-1)], qH0 M)) rfl) ?_
  exact (qlim_ret rfl)
set_option maxRecDepth 20000 in
theorem B_X11_were_17 {M : qMem} {x1 x2 : Int} : qlim C_X11_were (17, [some (qA 0), some (qI x1), some (qI x2)], [], qH0 M) = qbd (S_X11_fitting [qA 0, qA 22, qI x1, qI 40, qI x2] (qH0 M)) (fun r h' => qlim C_X11_were (32, [some (qA 0), some (qI x1), some (qI x2)], r.toList ++ [], h')) := by
  refine Eq.trans (qlim_n (n := 7) (c' := (29, [some (qA 0), some (qI x1), some (qI x2)], [qI x2, qI 40, qI x1, qA 22, qA 0], qH0 M)) rfl) ?_
  exact (qlim_callv (n := 4) rfl rfl rfl (Nat.le_of_ble_eq_true rfl) (Nat.le_of_ble_eq_true rfl) rfl)
set_option maxRecDepth 20000 in
theorem B_X11_were_32 {M : qMem} {x1 x2 s0 : Int} : qlim C_X11_were (32, [some (qA 0), some (qI x1), some (qI x2)], [qI s0], qH0 M) = some (some (qI s0), qH0 M) := (qlim_ret rfl)
theorem E_X11_were {h : qH} {x1 x2 : Int} : S_X11_were [qA 0, qI x1, qI x2] h = qlim C_X11_were (0, [some (qA 0), some (qI x1), some (qI x2)], [], h) := qM_at (Nat.le_of_ble_eq_true rfl) rfl
set_option maxRecDepth 20000 in
theorem B_X11_can_0 {M : qMem} {x1 x2 : Int} : qlim C_X11_can (0, [some (qA 0), some (qI x1), some (qI x2)], [], qH0 M) = qbd (S_X11_isPerson [qA 0, qI x1] (qH0 M)) (fun r h' => qlim C_X11_can (5, [some (qA 0), some (qI x1), some (qI x2)], r.toList ++ [], h')) := by
  refine Eq.trans (qlim_n (n := 2) (c' := (2, [some (qA 0), some (qI x1), some (qI x2)], [qI x1, qA 0], qH0 M)) rfl) ?_
  exact (qlim_callv (n := 1) rfl rfl rfl (Nat.le_of_ble_eq_true rfl) (Nat.le_of_ble_eq_true rfl) rfl)
set_option maxRecDepth 20000 in
theorem B_X11_can_5 {M : qMem} {x1 x2 s0 : Int} : qlim C_X11_can (5, [some (qA 0), some (qI x1), some (qI x2)], [qI s0], qH0 M) = qlim C_X11_can ((if s0 = 0 then 16 else 8), [some (qA 0), some (qI x1), some (qI x2)], [], qH0 M) := (qlim_n (n := 1) (c' := ((if s0 = 0 then 16 else 8), [some (qA 0), some (qI x1), some (qI x2)], [], qH0 M)) rfl)
set_option maxRecDepth 20000 in
theorem B_X11_can_8 {M : qMem} {x1 x2 : Int} : qlim C_X11_can (8, [some (qA 0), some (qI x1), some (qI x2)], [], qH0 M) = qbd (S_X11_isIn [qI x2, qI 1] (qH0 M)) (fun r h' => qlim C_X11_can (13, [some (qA 0), some (qI x1), some (qI x2)], r.toList ++ [], h')) := by
  refine Eq.trans (qlim_n (n := 2) (c' := (10, [some (qA 0), some (qI x1), some (qI x2)], [qI 1, qI x2], qH0 M)) rfl) ?_
  exact (qlim_calls (n := 2) rfl rfl rfl (Nat.le_of_ble_eq_true rfl) (Nat.le_of_ble_eq_true rfl))
set_option maxRecDepth 20000 in
theorem B_X11_can_13 {M : qMem} {x1 x2 s0 : Int} : qlim C_X11_can (13, [some (qA 0), some (qI x1), some (qI x2)], [qI s0], qH0 M) = qlim C_X11_can ((if ¬ s0 = 0 then 18 else 16), [some (qA 0), some (qI x1), some (qI x2)], [], qH0 M) := (qlim_n (n := 1) (c' := ((if ¬ s0 = 0 then 18 else 16), [some (qA 0), some (qI x1), some (qI x2)], [], qH0 M)) rfl)
set_option maxRecDepth 20000 in
theorem B_X11_can_16 {M : qMem} {x1 x2 : Int} : qlim C_X11_can (16, [some (qA 0), some (qI x1), some (qI x2)], [], qH0 M) = some (some (qI (-1)), qH0 M) := by
  refine Eq.trans (qlim_n (n := 1) (c' := (17, [some (qA 0), some (qI x1), some (qI x2)], [qI (-1)], qH0 M)) rfl) ?_
  exact (qlim_ret rfl)
set_option maxRecDepth 20000 in
theorem B_X11_can_18 {M : qMem} {x1 x2 : Int} : qlim C_X11_can (18, [some (qA 0), some (qI x1), some (qI x2)], [], qH0 M) = qbd (S_X11_fitting [qA 0, qA 24, qI x1, qI 9, qI x2] (qH0 M)) (fun r h' => qlim C_X11_can (33, [some (qA 0), some (qI x1), some (qI x2)], r.toList ++ [], h')) := by
  refine Eq.trans (qlim_n (n := 7) (c' := (30, [some (qA 0), some (qI x1), some (qI x2)], [qI x2, qI 9, qI x1, qA 24, qA 0], qH0 M)) rfl) ?_
  exact (qlim_callv (n := 4) rfl rfl rfl (Nat.le_of_ble_eq_true rfl) (Nat.le_of_ble_eq_true rfl) rfl)
set_option maxRecDepth 20000 in
theorem B_X11_can_33 {M : qMem} {x1 x2 s0 : Int} : qlim C_X11_can (33, [some (qA 0), some (qI x1), some (qI x2)], [qI s0], qH0 M) = some (some (qI s0), qH0 M) := (qlim_ret rfl)
theorem E_X11_can {h : qH} {x1 x2 : Int} : S_X11_can [qA 0, qI x1, qI x2] h = qlim C_X11_can (0, [some (qA 0), some (qI x1), some (qI x2)], [], h) := qM_at (Nat.le_of_ble_eq_true rfl) rfl
set_option maxRecDepth 20000 in
theorem B_X11_fitting_0 {M : qMem} {x1 x2 x3 x4 : Int} : qlim C_X11_fitting (0, [some (qA 0), some (qA x1), some (qI x2), some (qI x3), some (qI x4), none, none, none], [], qH0 M) = qlim C_X11_fitting (10, [some (qA 0), some (qA x1), some (qI x2), some (qI x3), some (qI x4), some (qI 0), some (qI (-5)), some (qI 0)], [], qH0 M) := (qlim_n (n := 6) (c' := (10, [some (qA 0), some (qA x1), some (qI x2), some (qI x3), some (qI x4), some (qI 0), some (qI (-5)), some (qI 0)], [], qH0 M)) rfl)
set_option maxRecDepth 20000 in
theorem B_X11_fitting_10 {M : qMem} {x1 x2 x3 x4 x5 x6 x7 : Int} : qlim C_X11_fitting (10, [some (qA 0), some (qA x1), some (qI x2), some (qI x3), some (qI x4), some (qI x5), some (qI x6), some (qI x7)], [], qH0 M) = qlim C_X11_fitting ((if x3 < x7 then 57 else 16), [some (qA 0), some (qA x1), some (qI x2), some (qI x3), some (qI x4), some (qI x5), some (qI x6), some (qI x7)], [], qH0 M) := (qlim_n (n := 3) (c' := ((if x3 < x7 then 57 else 16), [some (qA 0), some (qA x1), some (qI x2), some (qI x3), some (qI x4), some (qI x5), some (qI x6), some (qI x7)], [], qH0 M)) rfl)
set_option maxRecDepth 20000 in
theorem B_X11_fitting_16 {M : qMem} {x1 x2 x3 x4 x5 x6 x7 : Int} : qlim C_X11_fitting (16, [some (qA 0), some (qA x1), some (qI x2), some (qI x3), some (qI x4), some (qI x5), some (qI x6), some (qI x7)], [], qH0 M) = qbd (S_X8_becomes [qA 21, qA 12] (qH0 M)) (fun r h' => qlim C_X11_fitting (27, [some (qA 0), some (qA x1), some (qI x2), some (qI x3), some (qI x4), some (qI x5), some (qI x6), some (qI x7)], r.toList ++ [], h')) := by
  refine Eq.trans (qlim_n (n := 4) (c' := (24, [some (qA 0), some (qA x1), some (qI x2), some (qI x3), some (qI x4), some (qI x5), some (qI x6), some (qI x7)], [qA 12, qA 21], qH0 M)) rfl) ?_
  exact (qlim_callv (n := 1) rfl rfl rfl (Nat.le_of_ble_eq_true rfl) (Nat.le_of_ble_eq_true rfl) rfl)
set_option maxRecDepth 20000 in
theorem B_X11_fitting_27 {M : qMem} {x1 x2 x3 x4 x5 x6 x7 : Int} {n_x1 : Nat} (h1 : qty (qH0 M) x1 = (100, n_x1)) (h2 : 0 ≤ x2) (h3 : x2 < n_x1) : qlim C_X11_fitting (27, [some (qA 0), some (qA x1), some (qI x2), some (qI x3), some (qI x4), some (qI x5), some (qI x6), some (qI x7)], [], qH0 M) = qbd (S_X11_isAllSeenSo [qA 0] (qH0 (qup M x1 x2 x7))) (fun r h' => qlim C_X11_fitting (36, [some (qA 0), some (qA x1), some (qI x2), some (qI x3), some (qI x4), some (qI x5), some (qI x6), some (qI x7)], r.toList ++ [], h')) := by
  refine Eq.trans (qlim_n (n := 3) (c' := (31, [some (qA 0), some (qA x1), some (qI x2), some (qI x3), some (qI x4), some (qI x5), some (qI x6), some (qI x7)], [qI x7, qI x2, qA x1], qH0 M)) rfl) ?_
  refine Eq.trans (qs_iastore rfl h1 h2 h3) ?_
  refine Eq.trans (qlim_n (n := 1) (c' := (33, [some (qA 0), some (qA x1), some (qI x2), some (qI x3), some (qI x4), some (qI x5), some (qI x6), some (qI x7)], [qA 0], qH0 (qup M x1 x2 x7))) rfl) ?_
  exact (qlim_callv (n := 0) rfl rfl rfl (Nat.le_of_ble_eq_true rfl) (Nat.le_of_ble_eq_true rfl) rfl)
set_option maxRecDepth 20000 in
theorem B_X11_fitting_36 {M : qMem} {x1 x2 x3 x4 x5 x6 x7 s0 : Int} : qlim C_X11_fitting (36, [some (qA 0), some (qA x1), some (qI x2), some (qI x3), some (qI x4), some (qI x5), some (qI x6), some (qI x7)], [qI s0], qH0 M) = qlim C_X11_fitting ((if s0 = 0 then 51 else 39), [some (qA 0), some (qA x1), some (qI x2), some (qI x3), some (qI x4), some (qI x5), some (qI x6), some (qI x7)], [], qH0 M) := (qlim_n (n := 1) (c' := ((if s0 = 0 then 51 else 39), [some (qA 0), some (qA x1), some (qI x2), some (qI x3), some (qI x4), some (qI x5), some (qI x6), some (qI x7)], [], qH0 M)) rfl)
set_option maxRecDepth 20000 in
theorem B_X11_fitting_39 {M : qMem} {x1 x2 x3 x4 x5 x6 x7 : Int} : qlim C_X11_fitting (39, [some (qA 0), some (qA x1), some (qI x2), some (qI x3), some (qI x4), some (qI x5), some (qI x6), some (qI x7)], [], qH0 M) = qlim C_X11_fitting ((if ¬ x5 = 0 then 48 else 44), [some (qA 0), some (qA x1), some (qI x2), some (qI x3), some (qI x4), some (qI x5), some (qI x6), some (qI x7)], [], qH0 M) := (qlim_n (n := 2) (c' := ((if ¬ x5 = 0 then 48 else 44), [some (qA 0), some (qA x1), some (qI x2), some (qI x3), some (qI x4), some (qI x5), some (qI x6), some (qI x7)], [], qH0 M)) rfl)
set_option maxRecDepth 20000 in
theorem B_X11_fitting_44 {M : qMem} {x1 x2 x3 x4 x5 x6 x7 : Int} : qlim C_X11_fitting (44, [some (qA 0), some (qA x1), some (qI x2), some (qI x3), some (qI x4), some (qI x5), some (qI x6), some (qI x7)], [], qH0 M) = qlim C_X11_fitting (48, [some (qA 0), some (qA x1), some (qI x2), some (qI x3), some (qI x4), some (qI x5), some (qI x7), some (qI x7)], [], qH0 M) := (qlim_n (n := 2) (c' := (48, [some (qA 0), some (qA x1), some (qI x2), some (qI x3), some (qI x4), some (qI x5), some (qI x7), some (qI x7)], [], qH0 M)) rfl)
set_option maxRecDepth 20000 in
theorem B_X11_fitting_48 {M : qMem} {x1 x2 x3 x4 x5 x6 x7 : Int} : qlim C_X11_fitting (48, [some (qA 0), some (qA x1), some (qI x2), some (qI x3), some (qI x4), some (qI x5), some (qI x6), some (qI x7)], [], qH0 M) = qlim C_X11_fitting (51, [some (qA 0), some (qA x1), some (qI x2), some (qI x3), some (qI x4), some (qI (kadd x5 1)), some (qI x6), some (qI x7)], [], qH0 M) := (qlim_n (n := 1) (c' := (51, [some (qA 0), some (qA x1), some (qI x2), some (qI x3), some (qI x4), some (qI (kadd x5 1)), some (qI x6), some (qI x7)], [], qH0 M)) rfl)
set_option maxRecDepth 20000 in
theorem B_X11_fitting_51 {M : qMem} {x1 x2 x3 x4 x5 x6 x7 : Int} : qlim C_X11_fitting (51, [some (qA 0), some (qA x1), some (qI x2), some (qI x3), some (qI x4), some (qI x5), some (qI x6), some (qI x7)], [], qH0 M) = qlim C_X11_fitting (10, [some (qA 0), some (qA x1), some (qI x2), some (qI x3), some (qI x4), some (qI x5), some (qI x6), some (qI (kadd x7 1))], [], qH0 M) := (qlim_n (n := 2) (c' := (10, [some (qA 0), some (qA x1), some (qI x2), some (qI x3), some (qI x4), some (qI x5), some (qI x6), some (qI (kadd x7 1))], [], qH0 M)) rfl)
set_option maxRecDepth 20000 in
theorem B_X11_fitting_57 {M : qMem} {x1 x2 x3 x4 x5 x6 x7 : Int} : qlim C_X11_fitting (57, [some (qA 0), some (qA x1), some (qI x2), some (qI x3), some (qI x4), some (qI x5), some (qI x6), some (qI x7)], [], qH0 M) = qlim C_X11_fitting ((if ¬ x4 = 0 then 67 else 62), [some (qA 0), some (qA x1), some (qI x2), some (qI x3), some (qI x4), some (qI x5), some (qI x6), some (qI x7)], [], qH0 M) := (qlim_n (n := 2) (c' := ((if ¬ x4 = 0 then 67 else 62), [some (qA 0), some (qA x1), some (qI x2), some (qI x3), some (qI x4), some (qI x5), some (qI x6), some (qI x7)], [], qH0 M)) rfl)
set_option maxRecDepth 20000 in
theorem B_X11_fitting_62 {M : qMem} {x1 x2 x3 x4 x5 x6 x7 : Int} : qlim C_X11_fitting (62, [some (qA 0), some (qA x1), some (qI x2), some (qI x3), some (qI x4), some (qI x5), some (qI x6), some (qI x7)], [], qH0 M) = qlim C_X11_fitting (69, [some (qA 0), some (qA x1), some (qI x2), some (qI x3), some (qI x4), some (qI x5), some (qI x6), some (qI x7)], [qI x5], qH0 M) := (qlim_n (n := 2) (c' := (69, [some (qA 0), some (qA x1), some (qI x2), some (qI x3), some (qI x4), some (qI x5), some (qI x6), some (qI x7)], [qI x5], qH0 M)) rfl)
set_option maxRecDepth 20000 in
theorem B_X11_fitting_67 {M : qMem} {x1 x2 x3 x4 x5 x6 x7 : Int} : qlim C_X11_fitting (67, [some (qA 0), some (qA x1), some (qI x2), some (qI x3), some (qI x4), some (qI x5), some (qI x6), some (qI x7)], [], qH0 M) = qlim C_X11_fitting (69, [some (qA 0), some (qA x1), some (qI x2), some (qI x3), some (qI x4), some (qI x5), some (qI x6), some (qI x7)], [qI x6], qH0 M) := (qlim_n (n := 1) (c' := (69, [some (qA 0), some (qA x1), some (qI x2), some (qI x3), some (qI x4), some (qI x5), some (qI x6), some (qI x7)], [qI x6], qH0 M)) rfl)
set_option maxRecDepth 20000 in
theorem B_X11_fitting_69 {M : qMem} {x1 x2 x3 x4 x5 x6 x7 s0 : Int} : qlim C_X11_fitting (69, [some (qA 0), some (qA x1), some (qI x2), some (qI x3), some (qI x4), some (qI x5), some (qI x6), some (qI x7)], [qI s0], qH0 M) = some (some (qI s0), qH0 M) := (qlim_ret rfl)
theorem E_X11_fitting {h : qH} {x1 x2 x3 x4 : Int} : S_X11_fitting [qA 0, qA x1, qI x2, qI x3, qI x4] h = qlim C_X11_fitting (0, [some (qA 0), some (qA x1), some (qI x2), some (qI x3), some (qI x4), none, none, none], [], h) := qM_at (Nat.le_of_ble_eq_true rfl) rfl
set_option maxRecDepth 20000 in
theorem B_X11_isAllSeenSo_0 {M : qMem} : qlim C_X11_isAllSeenSo (0, [some (qA 0), none, none, none], [], qH0 M) = qlim C_X11_isAllSeenSo (4, [some (qA 0), some (qI 0), some (qI 0), none], [], qH0 M) := (qlim_n (n := 4) (c' := (4, [some (qA 0), some (qI 0), some (qI 0), none], [], qH0 M)) rfl)
set_option maxRecDepth 20000 in
theorem B_X11_isAllSeenSo_4 {M : qMem} {x1 x2 : Int} : qlim C_X11_isAllSeenSo (4, [some (qA 0), some (qI x1), some (qI x2), none], [], qH0 M) = qlim C_X11_isAllSeenSo ((if M 39 3 ≤ x2 then 35 else 15), [some (qA 0), some (qI x1), some (qI x2), none], [], qH0 M) := (qlim_n (n := 5) (c' := ((if M 39 3 ≤ x2 then 35 else 15), [some (qA 0), some (qI x1), some (qI x2), none], [], qH0 M)) rfl)
set_option maxRecDepth 20000 in
theorem B_X11_isAllSeenSo_15 {M : qMem} {x1 x2 : Int} : qlim C_X11_isAllSeenSo (15, [some (qA 0), some (qI x1), some (qI x2), none], [], qH0 M) = qbd (S_X6_cell [qA 39, qI x2, qI 2] (qH0 M)) (fun r h' => qlim C_X11_isAllSeenSo (25, [some (qA 0), some (qI x1), some (qI x2), none], r.toList ++ [qI x1], h')) := by
  refine Eq.trans (qlim_n (n := 5) (c' := (22, [some (qA 0), some (qI x1), some (qI x2), none], [qI 2, qI x2, qA 39, qI x1], qH0 M)) rfl) ?_
  exact (qlim_callv (n := 2) rfl rfl rfl (Nat.le_of_ble_eq_true rfl) (Nat.le_of_ble_eq_true rfl) rfl)
set_option maxRecDepth 20000 in
theorem B_X11_isAllSeenSo_25 {M : qMem} {x1 x2 s0 s1 : Int} : qlim C_X11_isAllSeenSo (25, [some (qA 0), some (qI x1), some (qI x2), none], [qI s1, qI s0], qH0 M) = qlim C_X11_isAllSeenSo (4, [some (qA 0), some (qI (max s0 s1)), some (qI (kadd x2 1)), none], [], qH0 M) := (qlim_n (n := 4) (c' := (4, [some (qA 0), some (qI (max s0 s1)), some (qI (kadd x2 1)), none], [], qH0 M)) rfl)
set_option maxRecDepth 20000 in
theorem B_X11_isAllSeenSo_35 {M : qMem} {x1 x2 : Int} : qlim C_X11_isAllSeenSo (35, [some (qA 0), some (qI x1), some (qI x2), none], [], qH0 M) = qlim C_X11_isAllSeenSo (37, [some (qA 0), some (qI x1), some (qI 0), none], [], qH0 M) := (qlim_n (n := 2) (c' := (37, [some (qA 0), some (qI x1), some (qI 0), none], [], qH0 M)) rfl)
set_option maxRecDepth 20000 in
theorem B_X11_isAllSeenSo_37 {M : qMem} {x1 x2 : Int} {x3 : Option qV} : qlim C_X11_isAllSeenSo (37, [some (qA 0), some (qI x1), some (qI x2), x3], [], qH0 M) = qlim C_X11_isAllSeenSo ((if x1 < x2 then 124 else 42), [some (qA 0), some (qI x1), some (qI x2), x3], [], qH0 M) := (qlim_n (n := 3) (c' := ((if x1 < x2 then 124 else 42), [some (qA 0), some (qI x1), some (qI x2), x3], [], qH0 M)) rfl)
set_option maxRecDepth 20000 in
theorem B_X11_isAllSeenSo_42 {M : qMem} {x1 x2 : Int} {x3 : Option qV} : qlim C_X11_isAllSeenSo (42, [some (qA 0), some (qI x1), some (qI x2), x3], [], qH0 M) = qlim C_X11_isAllSeenSo ((if x2 ≤ 0 then 55 else 46), [some (qA 0), some (qI x1), some (qI x2), x3], [], qH0 M) := (qlim_n (n := 2) (c' := ((if x2 ≤ 0 then 55 else 46), [some (qA 0), some (qI x1), some (qI x2), x3], [], qH0 M)) rfl)
set_option maxRecDepth 20000 in
theorem B_X11_isAllSeenSo_46 {M : qMem} {x1 x2 : Int} {x3 : Option qV} : qlim C_X11_isAllSeenSo (46, [some (qA 0), some (qI x1), some (qI x2), x3], [], qH0 M) = qbd (S_X8_minutesGo [qA 21, qI 1] (qH0 M)) (fun r h' => qlim C_X11_isAllSeenSo (54, [some (qA 0), some (qI x1), some (qI x2), x3], r.toList ++ [], h')) := by
  refine Eq.trans (qlim_n (n := 3) (c' := (51, [some (qA 0), some (qI x1), some (qI x2), x3], [qI 1, qA 21], qH0 M)) rfl) ?_
  exact (qlim_callv (n := 1) rfl rfl rfl (Nat.le_of_ble_eq_true rfl) (Nat.le_of_ble_eq_true rfl) rfl)
set_option maxRecDepth 20000 in
theorem B_X11_isAllSeenSo_54 {M : qMem} {x1 x2 s0 : Int} {x3 : Option qV} : qlim C_X11_isAllSeenSo (54, [some (qA 0), some (qI x1), some (qI x2), x3], [qI s0], qH0 M) = qlim C_X11_isAllSeenSo (55, [some (qA 0), some (qI x1), some (qI x2), x3], [], qH0 M) := (qlim_n (n := 1) (c' := (55, [some (qA 0), some (qI x1), some (qI x2), x3], [], qH0 M)) rfl)
set_option maxRecDepth 20000 in
theorem B_X11_isAllSeenSo_55 {M : qMem} {x1 x2 : Int} {x3 : Option qV} : qlim C_X11_isAllSeenSo (55, [some (qA 0), some (qI x1), some (qI x2), x3], [], qH0 M) = qlim C_X11_isAllSeenSo (57, [some (qA 0), some (qI x1), some (qI x2), some (qI 0)], [], qH0 M) := (qlim_n (n := 2) (c' := (57, [some (qA 0), some (qI x1), some (qI x2), some (qI 0)], [], qH0 M)) rfl)
set_option maxRecDepth 20000 in
theorem B_X11_isAllSeenSo_57 {M : qMem} {x1 x2 x3 : Int} : qlim C_X11_isAllSeenSo (57, [some (qA 0), some (qI x1), some (qI x2), some (qI x3)], [], qH0 M) = qlim C_X11_isAllSeenSo ((if M 39 3 ≤ x3 then 118 else 68), [some (qA 0), some (qI x1), some (qI x2), some (qI x3)], [], qH0 M) := (qlim_n (n := 5) (c' := ((if M 39 3 ≤ x3 then 118 else 68), [some (qA 0), some (qI x1), some (qI x2), some (qI x3)], [], qH0 M)) rfl)
set_option maxRecDepth 20000 in
theorem B_X11_isAllSeenSo_68 {M : qMem} {x1 x2 x3 : Int} : qlim C_X11_isAllSeenSo (68, [some (qA 0), some (qI x1), some (qI x2), some (qI x3)], [], qH0 M) = qbd (S_X6_cell [qA 39, qI x3, qI 2] (qH0 M)) (fun r h' => qlim C_X11_isAllSeenSo (77, [some (qA 0), some (qI x1), some (qI x2), some (qI x3)], r.toList ++ [], h')) := by
  refine Eq.trans (qlim_n (n := 4) (c' := (74, [some (qA 0), some (qI x1), some (qI x2), some (qI x3)], [qI 2, qI x3, qA 39], qH0 M)) rfl) ?_
  exact (qlim_callv (n := 2) rfl rfl rfl (Nat.le_of_ble_eq_true rfl) (Nat.le_of_ble_eq_true rfl) rfl)
set_option maxRecDepth 20000 in
theorem B_X11_isAllSeenSo_77 {M : qMem} {x1 x2 x3 s0 : Int} : qlim C_X11_isAllSeenSo (77, [some (qA 0), some (qI x1), some (qI x2), some (qI x3)], [qI s0], qH0 M) = qlim C_X11_isAllSeenSo ((if ¬ s0 = x2 then 112 else 81), [some (qA 0), some (qI x1), some (qI x2), some (qI x3)], [], qH0 M) := (qlim_n (n := 2) (c' := ((if ¬ s0 = x2 then 112 else 81), [some (qA 0), some (qI x1), some (qI x2), some (qI x3)], [], qH0 M)) rfl)
set_option maxRecDepth 20000 in
theorem B_X11_isAllSeenSo_81 {M : qMem} {x1 x2 x3 : Int} : qlim C_X11_isAllSeenSo (81, [some (qA 0), some (qI x1), some (qI x2), some (qI x3)], [], qH0 M) = qbd (S_X6_cell [qA 39, qI x3, qI 0] (qH0 M)) (fun r h' => qlim C_X11_isAllSeenSo (97, [some (qA 0), some (qI x1), some (qI x2), some (qI x3)], r.toList ++ [qA 22], h')) := by
  refine Eq.trans (qlim_n (n := 7) (c' := (94, [some (qA 0), some (qI x1), some (qI x2), some (qI x3)], [qI 0, qI x3, qA 39, qA 22], qH0 M)) rfl) ?_
  exact (qlim_callv (n := 2) rfl rfl rfl (Nat.le_of_ble_eq_true rfl) (Nat.le_of_ble_eq_true rfl) rfl)
set_option maxRecDepth 20000 in
theorem B_X11_isAllSeenSo_97 {M : qMem} {x1 x2 x3 s1 : Int} (h1 : 0 ≤ s1) (h2 : s1 < 5) : qlim C_X11_isAllSeenSo (97, [some (qA 0), some (qI x1), some (qI x2), some (qI x3)], [qI s1, qA 22], qH0 M) = qbd (S_X6_cell [qA 39, qI x3, qI 1] (qH0 M)) (fun r h' => qlim C_X11_isAllSeenSo (107, [some (qA 0), some (qI x1), some (qI x2), some (qI x3)], r.toList ++ [qI (M 22 s1)], h')) := by
  refine Eq.trans (qs_iaload rfl rfl h1 h2) ?_
  refine Eq.trans (qlim_n (n := 4) (c' := (104, [some (qA 0), some (qI x1), some (qI x2), some (qI x3)], [qI 1, qI x3, qA 39, qI (M 22 s1)], qH0 M)) rfl) ?_
  exact (qlim_callv (n := 2) rfl rfl rfl (Nat.le_of_ble_eq_true rfl) (Nat.le_of_ble_eq_true rfl) rfl)
set_option maxRecDepth 20000 in
theorem B_X11_isAllSeenSo_107 {M : qMem} {x1 x2 x3 s0 s1 : Int} : qlim C_X11_isAllSeenSo (107, [some (qA 0), some (qI x1), some (qI x2), some (qI x3)], [qI s1, qI s0], qH0 M) = qlim C_X11_isAllSeenSo ((if s0 = s1 then 112 else 110), [some (qA 0), some (qI x1), some (qI x2), some (qI x3)], [], qH0 M) := (qlim_n (n := 1) (c' := ((if s0 = s1 then 112 else 110), [some (qA 0), some (qI x1), some (qI x2), some (qI x3)], [], qH0 M)) rfl)
set_option maxRecDepth 20000 in
theorem B_X11_isAllSeenSo_110 {M : qMem} {x1 x2 x3 : Int} : qlim C_X11_isAllSeenSo (110, [some (qA 0), some (qI x1), some (qI x2), some (qI x3)], [], qH0 M) = some (some (qI 0), qH0 M) := by
  refine Eq.trans (qlim_n (n := 1) (c' := (111, [some (qA 0), some (qI x1), some (qI x2), some (qI x3)], [qI 0], qH0 M)) rfl) ?_
  exact (qlim_ret rfl)
set_option maxRecDepth 20000 in
theorem B_X11_isAllSeenSo_112 {M : qMem} {x1 x2 x3 : Int} : qlim C_X11_isAllSeenSo (112, [some (qA 0), some (qI x1), some (qI x2), some (qI x3)], [], qH0 M) = qlim C_X11_isAllSeenSo (57, [some (qA 0), some (qI x1), some (qI x2), some (qI (kadd x3 1))], [], qH0 M) := (qlim_n (n := 2) (c' := (57, [some (qA 0), some (qI x1), some (qI x2), some (qI (kadd x3 1))], [], qH0 M)) rfl)
set_option maxRecDepth 20000 in
theorem B_X11_isAllSeenSo_118 {M : qMem} {x1 x2 x3 : Int} : qlim C_X11_isAllSeenSo (118, [some (qA 0), some (qI x1), some (qI x2), some (qI x3)], [], qH0 M) = qlim C_X11_isAllSeenSo (37, [some (qA 0), some (qI x1), some (qI (kadd x2 1)), some (qI x3)], [], qH0 M) := (qlim_n (n := 2) (c' := (37, [some (qA 0), some (qI x1), some (qI (kadd x2 1)), some (qI x3)], [], qH0 M)) rfl)
set_option maxRecDepth 20000 in
theorem B_X11_isAllSeenSo_124 {M : qMem} {x1 x2 : Int} {x3 : Option qV} : qlim C_X11_isAllSeenSo (124, [some (qA 0), some (qI x1), some (qI x2), x3], [], qH0 M) = some (some (qI 1), qH0 M) := by
  refine Eq.trans (qlim_n (n := 1) (c' := (125, [some (qA 0), some (qI x1), some (qI x2), x3], [qI 1], qH0 M)) rfl) ?_
  exact (qlim_ret rfl)
theorem E_X11_isAllSeenSo {h : qH} : S_X11_isAllSeenSo [qA 0] h = qlim C_X11_isAllSeenSo (0, [some (qA 0), none, none, none], [], h) := qM_at (Nat.le_of_ble_eq_true rfl) rfl
set_option maxRecDepth 20000 in
theorem B_X11_odds_0 {M : qMem} {x1 x2 x3 : Int} : qlim C_X11_odds (0, [some (qA 0), some (qI x1), some (qI x2), some (qI x3), none, none], [], qH0 M) = qbd (S_X11_isIn [qI x1, qI 60] (qH0 M)) (fun r h' => qlim C_X11_odds (6, [some (qA 0), some (qI x1), some (qI x2), some (qI x3), none, none], r.toList ++ [], h')) := by
  refine Eq.trans (qlim_n (n := 2) (c' := (3, [some (qA 0), some (qI x1), some (qI x2), some (qI x3), none, none], [qI 60, qI x1], qH0 M)) rfl) ?_
  exact (qlim_calls (n := 2) rfl rfl rfl (Nat.le_of_ble_eq_true rfl) (Nat.le_of_ble_eq_true rfl))
set_option maxRecDepth 20000 in
theorem B_X11_odds_6 {M : qMem} {x1 x2 x3 s0 : Int} : qlim C_X11_odds (6, [some (qA 0), some (qI x1), some (qI x2), some (qI x3), none, none], [qI s0], qH0 M) = qlim C_X11_odds ((if s0 = 0 then 37 else 9), [some (qA 0), some (qI x1), some (qI x2), some (qI x3), none, none], [], qH0 M) := (qlim_n (n := 1) (c' := ((if s0 = 0 then 37 else 9), [some (qA 0), some (qI x1), some (qI x2), some (qI x3), none, none], [], qH0 M)) rfl)
set_option maxRecDepth 20000 in
theorem B_X11_odds_9 {M : qMem} {x1 x2 x3 : Int} : qlim C_X11_odds (9, [some (qA 0), some (qI x1), some (qI x2), some (qI x3), none, none], [], qH0 M) = qbd (S_X11_isIn [qI x2, qI 9999] (qH0 M)) (fun r h' => qlim C_X11_odds (16, [some (qA 0), some (qI x1), some (qI x2), some (qI x3), none, none], r.toList ++ [], h')) := by
  refine Eq.trans (qlim_n (n := 2) (c' := (13, [some (qA 0), some (qI x1), some (qI x2), some (qI x3), none, none], [qI 9999, qI x2], qH0 M)) rfl) ?_
  exact (qlim_calls (n := 2) rfl rfl rfl (Nat.le_of_ble_eq_true rfl) (Nat.le_of_ble_eq_true rfl))
set_option maxRecDepth 20000 in
theorem B_X11_odds_16 {M : qMem} {x1 x2 x3 s0 : Int} : qlim C_X11_odds (16, [some (qA 0), some (qI x1), some (qI x2), some (qI x3), none, none], [qI s0], qH0 M) = qlim C_X11_odds ((if s0 = 0 then 37 else 19), [some (qA 0), some (qI x1), some (qI x2), some (qI x3), none, none], [], qH0 M) := (qlim_n (n := 1) (c' := ((if s0 = 0 then 37 else 19), [some (qA 0), some (qI x1), some (qI x2), some (qI x3), none, none], [], qH0 M)) rfl)
set_option maxRecDepth 20000 in
theorem B_X11_odds_19 {M : qMem} {x1 x2 x3 : Int} : qlim C_X11_odds (19, [some (qA 0), some (qI x1), some (qI x2), some (qI x3), none, none], [], qH0 M) = qbd (S_X11_isIn [qI x3, qI 1] (qH0 M)) (fun r h' => qlim C_X11_odds (24, [some (qA 0), some (qI x1), some (qI x2), some (qI x3), none, none], r.toList ++ [], h')) := by
  refine Eq.trans (qlim_n (n := 2) (c' := (21, [some (qA 0), some (qI x1), some (qI x2), some (qI x3), none, none], [qI 1, qI x3], qH0 M)) rfl) ?_
  exact (qlim_calls (n := 2) rfl rfl rfl (Nat.le_of_ble_eq_true rfl) (Nat.le_of_ble_eq_true rfl))
set_option maxRecDepth 20000 in
theorem B_X11_odds_24 {M : qMem} {x1 x2 x3 s0 : Int} : qlim C_X11_odds (24, [some (qA 0), some (qI x1), some (qI x2), some (qI x3), none, none], [qI s0], qH0 M) = qlim C_X11_odds ((if s0 = 0 then 37 else 27), [some (qA 0), some (qI x1), some (qI x2), some (qI x3), none, none], [], qH0 M) := (qlim_n (n := 1) (c' := ((if s0 = 0 then 37 else 27), [some (qA 0), some (qI x1), some (qI x2), some (qI x3), none, none], [], qH0 M)) rfl)
set_option maxRecDepth 20000 in
theorem B_X11_odds_27 {M : qMem} {x1 x2 x3 : Int} : qlim C_X11_odds (27, [some (qA 0), some (qI x1), some (qI x2), some (qI x3), none, none], [], qH0 M) = qlim C_X11_odds ((if ¬ M 12 10 = 0 then 41 else 37), [some (qA 0), some (qI x1), some (qI x2), some (qI x3), none, none], [], qH0 M) := (qlim_n (n := 4) (c' := ((if ¬ M 12 10 = 0 then 41 else 37), [some (qA 0), some (qI x1), some (qI x2), some (qI x3), none, none], [], qH0 M)) rfl)
set_option maxRecDepth 20000 in
theorem B_X11_odds_37 {M : qMem} {x1 x2 x3 : Int} : qlim C_X11_odds (37, [some (qA 0), some (qI x1), some (qI x2), some (qI x3), none, none], [], qH0 M) = some (some (qJ (-9223372036854775808)), qH0 M) := by
  refine Eq.trans (qlim_n (n := 1) (c' := (40, [some (qA 0), some (qI x1), some (qI x2), some (qI x3), none, none], [qJ (-9223372036854775808)], qH0 M)) rfl) ?_
  exact (qlim_ret rfl)
set_option maxRecDepth 20000 in
theorem B_X11_odds_41 {M : qMem} {x1 x2 x3 : Int} : qlim C_X11_odds (41, [some (qA 0), some (qI x1), some (qI x2), some (qI x3), none, none], [], qH0 M) = qlim C_X11_odds (47, [some (qA 0), some (qI x1), some (qI x2), some (qI x3), some (qI 0), some (qI 0)], [], qH0 M) := (qlim_n (n := 4) (c' := (47, [some (qA 0), some (qI x1), some (qI x2), some (qI x3), some (qI 0), some (qI 0)], [], qH0 M)) rfl)
set_option maxRecDepth 20000 in
theorem B_X11_odds_47 {M : qMem} {x1 x2 x3 x4 x5 : Int} : qlim C_X11_odds (47, [some (qA 0), some (qI x1), some (qI x2), some (qI x3), some (qI x4), some (qI x5)], [], qH0 M) = qlim C_X11_odds ((if M 12 10 ≤ x5 then 79 else 59), [some (qA 0), some (qI x1), some (qI x2), some (qI x3), some (qI x4), some (qI x5)], [], qH0 M) := (qlim_n (n := 5) (c' := ((if M 12 10 ≤ x5 then 79 else 59), [some (qA 0), some (qI x1), some (qI x2), some (qI x3), some (qI x4), some (qI x5)], [], qH0 M)) rfl)
set_option maxRecDepth 20000 in
theorem B_X11_odds_59 {M : qMem} {x1 x2 x3 x4 x5 : Int} : qlim C_X11_odds (59, [some (qA 0), some (qI x1), some (qI x2), some (qI x3), some (qI x4), some (qI x5)], [], qH0 M) = qbd (S_X11_behindWithout [qA 0, qI x5, qI x1] (qH0 M)) (fun r h' => qlim C_X11_odds (66, [some (qA 0), some (qI x1), some (qI x2), some (qI x3), some (qI x4), some (qI x5)], r.toList ++ [], h')) := by
  refine Eq.trans (qlim_n (n := 3) (c' := (63, [some (qA 0), some (qI x1), some (qI x2), some (qI x3), some (qI x4), some (qI x5)], [qI x1, qI x5, qA 0], qH0 M)) rfl) ?_
  exact (qlim_callv (n := 2) rfl rfl rfl (Nat.le_of_ble_eq_true rfl) (Nat.le_of_ble_eq_true rfl) rfl)
set_option maxRecDepth 20000 in
theorem B_X11_odds_66 {M : qMem} {x1 x2 x3 x4 x5 s0 : Int} : qlim C_X11_odds (66, [some (qA 0), some (qI x1), some (qI x2), some (qI x3), some (qI x4), some (qI x5)], [qI s0], qH0 M) = qlim C_X11_odds ((if s0 < x2 then 73 else 70), [some (qA 0), some (qI x1), some (qI x2), some (qI x3), some (qI x4), some (qI x5)], [], qH0 M) := (qlim_n (n := 2) (c' := ((if s0 < x2 then 73 else 70), [some (qA 0), some (qI x1), some (qI x2), some (qI x3), some (qI x4), some (qI x5)], [], qH0 M)) rfl)
set_option maxRecDepth 20000 in
theorem B_X11_odds_70 {M : qMem} {x1 x2 x3 x4 x5 : Int} : qlim C_X11_odds (70, [some (qA 0), some (qI x1), some (qI x2), some (qI x3), some (qI x4), some (qI x5)], [], qH0 M) = qlim C_X11_odds (73, [some (qA 0), some (qI x1), some (qI x2), some (qI x3), some (qI (kadd x4 1)), some (qI x5)], [], qH0 M) := (qlim_n (n := 1) (c' := (73, [some (qA 0), some (qI x1), some (qI x2), some (qI x3), some (qI (kadd x4 1)), some (qI x5)], [], qH0 M)) rfl)
set_option maxRecDepth 20000 in
theorem B_X11_odds_73 {M : qMem} {x1 x2 x3 x4 x5 : Int} : qlim C_X11_odds (73, [some (qA 0), some (qI x1), some (qI x2), some (qI x3), some (qI x4), some (qI x5)], [], qH0 M) = qlim C_X11_odds (47, [some (qA 0), some (qI x1), some (qI x2), some (qI x3), some (qI x4), some (qI (kadd x5 1))], [], qH0 M) := (qlim_n (n := 2) (c' := (47, [some (qA 0), some (qI x1), some (qI x2), some (qI x3), some (qI x4), some (qI (kadd x5 1))], [], qH0 M)) rfl)
set_option maxRecDepth 20000 in
theorem B_X11_odds_79 {M : qMem} {x1 x2 x3 x4 x5 : Int} : qlim C_X11_odds (79, [some (qA 0), some (qI x1), some (qI x2), some (qI x3), some (qI x4), some (qI x5)], [], qH0 M) = qbd (S_X11_partOfFraction [qI x4, qI (M 12 10), qI x3] (qH0 M)) (fun r h' => qlim C_X11_odds (92, [some (qA 0), some (qI x1), some (qI x2), some (qI x3), some (qI x4), some (qI x5)], r.toList ++ [], h')) := by
  refine Eq.trans (qlim_n (n := 5) (c' := (89, [some (qA 0), some (qI x1), some (qI x2), some (qI x3), some (qI x4), some (qI x5)], [qI x3, qI (M 12 10), qI x4], qH0 M)) rfl) ?_
  exact (qlim_calls (n := 3) rfl rfl rfl (Nat.le_of_ble_eq_true rfl) (Nat.le_of_ble_eq_true rfl))
set_option maxRecDepth 20000 in
theorem B_X11_odds_92 {M : qMem} {x1 x2 x3 x4 x5 s0 : Int} : qlim C_X11_odds (92, [some (qA 0), some (qI x1), some (qI x2), some (qI x3), some (qI x4), some (qI x5)], [qJ s0], qH0 M) = some (some (qJ s0), qH0 M) := (qlim_ret rfl)
theorem E_X11_odds {h : qH} {x1 x2 x3 : Int} : S_X11_odds [qA 0, qI x1, qI x2, qI x3] h = qlim C_X11_odds (0, [some (qA 0), some (qI x1), some (qI x2), some (qI x3), none, none], [], h) := qM_at (Nat.le_of_ble_eq_true rfl) rfl
set_option maxRecDepth 20000 in
theorem B_X11_mean_0 {M : qMem} {x1 x2 : Int} : qlim C_X11_mean (0, [some (qA 0), some (qI x1), some (qI x2), none, none], [], qH0 M) = qbd (S_X11_isIn [qI x1, qI 60] (qH0 M)) (fun r h' => qlim C_X11_mean (6, [some (qA 0), some (qI x1), some (qI x2), none, none], r.toList ++ [], h')) := by
  refine Eq.trans (qlim_n (n := 2) (c' := (3, [some (qA 0), some (qI x1), some (qI x2), none, none], [qI 60, qI x1], qH0 M)) rfl) ?_
  exact (qlim_calls (n := 2) rfl rfl rfl (Nat.le_of_ble_eq_true rfl) (Nat.le_of_ble_eq_true rfl))
set_option maxRecDepth 20000 in
theorem B_X11_mean_6 {M : qMem} {x1 x2 s0 : Int} : qlim C_X11_mean (6, [some (qA 0), some (qI x1), some (qI x2), none, none], [qI s0], qH0 M) = qlim C_X11_mean ((if s0 = 0 then 27 else 9), [some (qA 0), some (qI x1), some (qI x2), none, none], [], qH0 M) := (qlim_n (n := 1) (c' := ((if s0 = 0 then 27 else 9), [some (qA 0), some (qI x1), some (qI x2), none, none], [], qH0 M)) rfl)
set_option maxRecDepth 20000 in
theorem B_X11_mean_9 {M : qMem} {x1 x2 : Int} : qlim C_X11_mean (9, [some (qA 0), some (qI x1), some (qI x2), none, none], [], qH0 M) = qbd (S_X11_isIn [qI x2, qI 1] (qH0 M)) (fun r h' => qlim C_X11_mean (14, [some (qA 0), some (qI x1), some (qI x2), none, none], r.toList ++ [], h')) := by
  refine Eq.trans (qlim_n (n := 2) (c' := (11, [some (qA 0), some (qI x1), some (qI x2), none, none], [qI 1, qI x2], qH0 M)) rfl) ?_
  exact (qlim_calls (n := 2) rfl rfl rfl (Nat.le_of_ble_eq_true rfl) (Nat.le_of_ble_eq_true rfl))
set_option maxRecDepth 20000 in
theorem B_X11_mean_14 {M : qMem} {x1 x2 s0 : Int} : qlim C_X11_mean (14, [some (qA 0), some (qI x1), some (qI x2), none, none], [qI s0], qH0 M) = qlim C_X11_mean ((if s0 = 0 then 27 else 17), [some (qA 0), some (qI x1), some (qI x2), none, none], [], qH0 M) := (qlim_n (n := 1) (c' := ((if s0 = 0 then 27 else 17), [some (qA 0), some (qI x1), some (qI x2), none, none], [], qH0 M)) rfl)
set_option maxRecDepth 20000 in
theorem B_X11_mean_17 {M : qMem} {x1 x2 : Int} : qlim C_X11_mean (17, [some (qA 0), some (qI x1), some (qI x2), none, none], [], qH0 M) = qlim C_X11_mean ((if ¬ M 12 10 = 0 then 31 else 27), [some (qA 0), some (qI x1), some (qI x2), none, none], [], qH0 M) := (qlim_n (n := 4) (c' := ((if ¬ M 12 10 = 0 then 31 else 27), [some (qA 0), some (qI x1), some (qI x2), none, none], [], qH0 M)) rfl)
set_option maxRecDepth 20000 in
theorem B_X11_mean_27 {M : qMem} {x1 x2 : Int} : qlim C_X11_mean (27, [some (qA 0), some (qI x1), some (qI x2), none, none], [], qH0 M) = some (some (qJ (-9223372036854775808)), qH0 M) := by
  refine Eq.trans (qlim_n (n := 1) (c' := (30, [some (qA 0), some (qI x1), some (qI x2), none, none], [qJ (-9223372036854775808)], qH0 M)) rfl) ?_
  exact (qlim_ret rfl)
set_option maxRecDepth 20000 in
theorem B_X11_mean_31 {M : qMem} {x1 x2 : Int} : qlim C_X11_mean (31, [some (qA 0), some (qI x1), some (qI x2), none, none], [], qH0 M) = qbd (S_X8_becomes [qA 21, qA 12] (qH0 M)) (fun r h' => qlim C_X11_mean (42, [some (qA 0), some (qI x1), some (qI x2), none, none], r.toList ++ [], h')) := by
  refine Eq.trans (qlim_n (n := 4) (c' := (39, [some (qA 0), some (qI x1), some (qI x2), none, none], [qA 12, qA 21], qH0 M)) rfl) ?_
  exact (qlim_callv (n := 1) rfl rfl rfl (Nat.le_of_ble_eq_true rfl) (Nat.le_of_ble_eq_true rfl) rfl)
set_option maxRecDepth 20000 in
theorem B_X11_mean_42 {M : qMem} {x1 x2 : Int} : qlim C_X11_mean (42, [some (qA 0), some (qI x1), some (qI x2), none, none], [], qH0 M) = qbd (S_X8_minutesGo [qA 21, qI x1] (qH0 M)) (fun r h' => qlim C_X11_mean (50, [some (qA 0), some (qI x1), some (qI x2), none, none], r.toList ++ [], h')) := by
  refine Eq.trans (qlim_n (n := 3) (c' := (47, [some (qA 0), some (qI x1), some (qI x2), none, none], [qI x1, qA 21], qH0 M)) rfl) ?_
  exact (qlim_callv (n := 1) rfl rfl rfl (Nat.le_of_ble_eq_true rfl) (Nat.le_of_ble_eq_true rfl) rfl)
set_option maxRecDepth 20000 in
theorem B_X11_mean_50 {M : qMem} {x1 x2 s0 : Int} : qlim C_X11_mean (50, [some (qA 0), some (qI x1), some (qI x2), none, none], [qI s0], qH0 M) = qlim C_X11_mean (56, [some (qA 0), some (qI x1), some (qI x2), some (qI 0), some (qI 0)], [], qH0 M) := (qlim_n (n := 5) (c' := (56, [some (qA 0), some (qI x1), some (qI x2), some (qI 0), some (qI 0)], [], qH0 M)) rfl)
set_option maxRecDepth 20000 in
theorem B_X11_mean_56 {M : qMem} {x1 x2 x3 x4 : Int} : qlim C_X11_mean (56, [some (qA 0), some (qI x1), some (qI x2), some (qI x3), some (qI x4)], [], qH0 M) = qlim C_X11_mean ((if M 12 10 ≤ x4 then 98 else 68), [some (qA 0), some (qI x1), some (qI x2), some (qI x3), some (qI x4)], [], qH0 M) := (qlim_n (n := 5) (c' := ((if M 12 10 ≤ x4 then 98 else 68), [some (qA 0), some (qI x1), some (qI x2), some (qI x3), some (qI x4)], [], qH0 M)) rfl)
set_option maxRecDepth 20000 in
theorem B_X11_mean_68 {M : qMem} {x1 x2 x3 x4 : Int} (h1 : 0 ≤ x4) (h2 : x4 < 6) : qlim C_X11_mean (68, [some (qA 0), some (qI x1), some (qI x2), some (qI x3), some (qI x4)], [], qH0 M) = qlim C_X11_mean (56, [some (qA 0), some (qI x1), some (qI x2), some (qI (kadd x3 (ksub (M 27 x4) (M 18 x4)))), some (qI (kadd x4 1))], [], qH0 M) := by
  refine Eq.trans (qlim_n (n := 5) (c' := (78, [some (qA 0), some (qI x1), some (qI x2), some (qI x3), some (qI x4)], [qI x4, qA 27, qI x3], qH0 M)) rfl) ?_
  refine Eq.trans (qs_iaload rfl rfl h1 h2) ?_
  refine Eq.trans (qlim_n (n := 4) (c' := (88, [some (qA 0), some (qI x1), some (qI x2), some (qI x3), some (qI x4)], [qI x4, qA 18, qI (M 27 x4), qI x3], qH0 M)) rfl) ?_
  refine Eq.trans (qs_iaload rfl rfl h1 h2) ?_
  exact (qlim_n (n := 5) (c' := (56, [some (qA 0), some (qI x1), some (qI x2), some (qI (kadd x3 (ksub (M 27 x4) (M 18 x4)))), some (qI (kadd x4 1))], [], qH0 M)) rfl)
set_option maxRecDepth 20000 in
theorem B_X11_mean_98 {M : qMem} {x1 x2 x3 x4 : Int} : qlim C_X11_mean (98, [some (qA 0), some (qI x1), some (qI x2), some (qI x3), some (qI x4)], [], qH0 M) = qbd (S_X11_partOfFraction [qI x3, qI (M 12 10), qI x2] (qH0 M)) (fun r h' => qlim C_X11_mean (110, [some (qA 0), some (qI x1), some (qI x2), some (qI x3), some (qI x4)], r.toList ++ [], h')) := by
  refine Eq.trans (qlim_n (n := 5) (c' := (107, [some (qA 0), some (qI x1), some (qI x2), some (qI x3), some (qI x4)], [qI x2, qI (M 12 10), qI x3], qH0 M)) rfl) ?_
  exact (qlim_calls (n := 3) rfl rfl rfl (Nat.le_of_ble_eq_true rfl) (Nat.le_of_ble_eq_true rfl))
set_option maxRecDepth 20000 in
theorem B_X11_mean_110 {M : qMem} {x1 x2 x3 x4 s0 : Int} : qlim C_X11_mean (110, [some (qA 0), some (qI x1), some (qI x2), some (qI x3), some (qI x4)], [qJ s0], qH0 M) = some (some (qJ s0), qH0 M) := (qlim_ret rfl)
theorem E_X11_mean {h : qH} {x1 x2 : Int} : S_X11_mean [qA 0, qI x1, qI x2] h = qlim C_X11_mean (0, [some (qA 0), some (qI x1), some (qI x2), none, none], [], h) := qM_at (Nat.le_of_ble_eq_true rfl) rfl
set_option maxRecDepth 20000 in
theorem B_X11_partOfFraction_0 {M : qMem} {x0 x1 x2 : Int} : qlim C_X11_partOfFraction (0, [some (qI x0), some (qI x1), some (qI x2), none, none, none, none], [], qH0 M) = qlim C_X11_partOfFraction (8, [some (qI x0), some (qI x1), some (qI x2), some (qI x0), some (qI x1), some (qI 0), none], [], qH0 M) := (qlim_n (n := 6) (c' := (8, [some (qI x0), some (qI x1), some (qI x2), some (qI x0), some (qI x1), some (qI 0), none], [], qH0 M)) rfl)
set_option maxRecDepth 20000 in
theorem B_X11_partOfFraction_8 {M : qMem} {x0 x1 x2 x3 x4 x5 : Int} {x6 : Option qV} : qlim C_X11_partOfFraction (8, [some (qI x0), some (qI x1), some (qI x2), some (qI x3), some (qI x4), some (qI x5), x6], [], qH0 M) = qlim C_X11_partOfFraction ((if 64 ≤ x5 then 39 else 15), [some (qI x0), some (qI x1), some (qI x2), some (qI x3), some (qI x4), some (qI x5), x6], [], qH0 M) := (qlim_n (n := 3) (c' := ((if 64 ≤ x5 then 39 else 15), [some (qI x0), some (qI x1), some (qI x2), some (qI x3), some (qI x4), some (qI x5), x6], [], qH0 M)) rfl)
set_option maxRecDepth 20000 in
theorem B_X11_partOfFraction_15 {M : qMem} {x0 x1 x2 x3 x4 x5 : Int} {x6 : Option qV} : qlim C_X11_partOfFraction (15, [some (qI x0), some (qI x1), some (qI x2), some (qI x3), some (qI x4), some (qI x5), x6], [], qH0 M) = qlim C_X11_partOfFraction ((if x4 = 0 then 39 else 20), [some (qI x0), some (qI x1), some (qI x2), some (qI x3), some (qI x4), some (qI x5), x6], [], qH0 M) := (qlim_n (n := 2) (c' := ((if x4 = 0 then 39 else 20), [some (qI x0), some (qI x1), some (qI x2), some (qI x3), some (qI x4), some (qI x5), x6], [], qH0 M)) rfl)
set_option maxRecDepth 20000 in
theorem B_X11_partOfFraction_20 {M : qMem} {x0 x1 x2 x3 x4 x5 : Int} {x6 : Option qV} (h1 : ¬ Int32.ofInt x4 = 0) : qlim C_X11_partOfFraction (20, [some (qI x0), some (qI x1), some (qI x2), some (qI x3), some (qI x4), some (qI x5), x6], [], qH0 M) = qlim C_X11_partOfFraction (8, [some (qI x0), some (qI x1), some (qI x2), some (qI x4), some (qI (krem x3 x4)), some (qI (kadd x5 1)), some (qI (krem x3 x4))], [], qH0 M) := by
  refine Eq.trans (qlim_n (n := 2) (c' := (23, [some (qI x0), some (qI x1), some (qI x2), some (qI x3), some (qI x4), some (qI x5), x6], [qI x4, qI x3], qH0 M)) rfl) ?_
  refine Eq.trans (qs_irem rfl h1) ?_
  exact (qlim_n (n := 7) (c' := (8, [some (qI x0), some (qI x1), some (qI x2), some (qI x4), some (qI (krem x3 x4)), some (qI (kadd x5 1)), some (qI (krem x3 x4))], [], qH0 M)) rfl)
set_option maxRecDepth 20000 in
theorem B_X11_partOfFraction_39 {M : qMem} {x0 x1 x2 x3 x4 x5 : Int} {x6 : Option qV} : qlim C_X11_partOfFraction (39, [some (qI x0), some (qI x1), some (qI x2), some (qI x3), some (qI x4), some (qI x5), x6], [], qH0 M) = qlim C_X11_partOfFraction ((if ¬ x2 = 0 then 54 else 50), [some (qI x0), some (qI x1), some (qI x2), some (qI x3), some (qI x4), some (qI (max 1 x3)), x6], [], qH0 M) := (qlim_n (n := 6) (c' := ((if ¬ x2 = 0 then 54 else 50), [some (qI x0), some (qI x1), some (qI x2), some (qI x3), some (qI x4), some (qI (max 1 x3)), x6], [], qH0 M)) rfl)
set_option maxRecDepth 20000 in
theorem B_X11_partOfFraction_50 {M : qMem} {x0 x1 x2 x3 x4 x5 : Int} {x6 : Option qV} : qlim C_X11_partOfFraction (50, [some (qI x0), some (qI x1), some (qI x2), some (qI x3), some (qI x4), some (qI x5), x6], [], qH0 M) = qlim C_X11_partOfFraction (55, [some (qI x0), some (qI x1), some (qI x2), some (qI x3), some (qI x4), some (qI x5), x6], [qI x0], qH0 M) := (qlim_n (n := 2) (c' := (55, [some (qI x0), some (qI x1), some (qI x2), some (qI x3), some (qI x4), some (qI x5), x6], [qI x0], qH0 M)) rfl)
set_option maxRecDepth 20000 in
theorem B_X11_partOfFraction_54 {M : qMem} {x0 x1 x2 x3 x4 x5 : Int} {x6 : Option qV} : qlim C_X11_partOfFraction (54, [some (qI x0), some (qI x1), some (qI x2), some (qI x3), some (qI x4), some (qI x5), x6], [], qH0 M) = qlim C_X11_partOfFraction (55, [some (qI x0), some (qI x1), some (qI x2), some (qI x3), some (qI x4), some (qI x5), x6], [qI x1], qH0 M) := (qlim_n (n := 1) (c' := (55, [some (qI x0), some (qI x1), some (qI x2), some (qI x3), some (qI x4), some (qI x5), x6], [qI x1], qH0 M)) rfl)
set_option maxRecDepth 20000 in
theorem B_X11_partOfFraction_55 {M : qMem} {x0 x1 x2 x3 x4 x5 s0 : Int} {x6 : Option qV} (h1 : ¬ Int32.ofInt x5 = 0) : qlim C_X11_partOfFraction (55, [some (qI x0), some (qI x1), some (qI x2), some (qI x3), some (qI x4), some (qI x5), x6], [qI s0], qH0 M) = some (some (qJ (ki2l (kdiv s0 x5))), qH0 M) := by
  refine Eq.trans (qlim_n (n := 1) (c' := (57, [some (qI x0), some (qI x1), some (qI x2), some (qI x3), some (qI x4), some (qI x5), x6], [qI x5, qI s0], qH0 M)) rfl) ?_
  refine Eq.trans (qs_idiv rfl h1) ?_
  refine Eq.trans (qlim_n (n := 1) (c' := (59, [some (qI x0), some (qI x1), some (qI x2), some (qI x3), some (qI x4), some (qI x5), x6], [qJ (ki2l (kdiv s0 x5))], qH0 M)) rfl) ?_
  exact (qlim_ret rfl)
theorem E_X11_partOfFraction {h : qH} {x0 x1 x2 : Int} : S_X11_partOfFraction [qI x0, qI x1, qI x2] h = qlim C_X11_partOfFraction (0, [some (qI x0), some (qI x1), some (qI x2), none, none, none, none], [], h) := qM_at (Nat.le_of_ble_eq_true rfl) rfl
set_option maxRecDepth 20000 in
theorem B_X11_evening_0 {M : qMem} {x1 x2 : Int} : qlim C_X11_evening (0, [some (qA 0), some (qI x1), some (qI x2)], [], qH0 M) = qlim C_X11_evening ((if ¬ x1 = (-1) then 15 else 5), [some (qA 0), some (qI x1), some (qI x2)], [], qH0 M) := (qlim_n (n := 3) (c' := ((if ¬ x1 = (-1) then 15 else 5), [some (qA 0), some (qI x1), some (qI x2)], [], qH0 M)) rfl)
set_option maxRecDepth 20000 in
theorem B_X11_evening_5 {M : qMem} {x1 x2 : Int} : qlim C_X11_evening (5, [some (qA 0), some (qI x1), some (qI x2)], [], qH0 M) = some (some (qI 0), qH0 (qup M 41 3 0)) := by
  refine Eq.trans (qlim_n (n := 5) (c' := (14, [some (qA 0), some (qI x1), some (qI x2)], [qI 0], qH0 (qup M 41 3 0))) rfl) ?_
  exact (qlim_ret rfl)
set_option maxRecDepth 20000 in
theorem B_X11_evening_15 {M : qMem} {x1 x2 : Int} : qlim C_X11_evening (15, [some (qA 0), some (qI x1), some (qI x2)], [], qH0 M) = qbd (S_X11_isIn [qI x1, qI 5] (qH0 M)) (fun r h' => qlim C_X11_evening (20, [some (qA 0), some (qI x1), some (qI x2)], r.toList ++ [], h')) := by
  refine Eq.trans (qlim_n (n := 2) (c' := (17, [some (qA 0), some (qI x1), some (qI x2)], [qI 5, qI x1], qH0 M)) rfl) ?_
  exact (qlim_calls (n := 2) rfl rfl rfl (Nat.le_of_ble_eq_true rfl) (Nat.le_of_ble_eq_true rfl))
set_option maxRecDepth 20000 in
theorem B_X11_evening_20 {M : qMem} {x1 x2 s0 : Int} : qlim C_X11_evening (20, [some (qA 0), some (qI x1), some (qI x2)], [qI s0], qH0 M) = qlim C_X11_evening ((if s0 = 0 then 35 else 23), [some (qA 0), some (qI x1), some (qI x2)], [], qH0 M) := (qlim_n (n := 1) (c' := ((if s0 = 0 then 35 else 23), [some (qA 0), some (qI x1), some (qI x2)], [], qH0 M)) rfl)
set_option maxRecDepth 20000 in
theorem B_X11_evening_23 {M : qMem} {x1 x2 : Int} : qlim C_X11_evening (23, [some (qA 0), some (qI x1), some (qI x2)], [], qH0 M) = qlim C_X11_evening ((if x1 = 0 then 37 else 27), [some (qA 0), some (qI x1), some (qI x2)], [], qH0 M) := (qlim_n (n := 2) (c' := ((if x1 = 0 then 37 else 27), [some (qA 0), some (qI x1), some (qI x2)], [], qH0 M)) rfl)
set_option maxRecDepth 20000 in
theorem B_X11_evening_27 {M : qMem} {x1 x2 : Int} : qlim C_X11_evening (27, [some (qA 0), some (qI x1), some (qI x2)], [], qH0 M) = qbd (S_X11_isPerson [qA 0, qI x2] (qH0 M)) (fun r h' => qlim C_X11_evening (32, [some (qA 0), some (qI x1), some (qI x2)], r.toList ++ [], h')) := by
  refine Eq.trans (qlim_n (n := 2) (c' := (29, [some (qA 0), some (qI x1), some (qI x2)], [qI x2, qA 0], qH0 M)) rfl) ?_
  exact (qlim_callv (n := 1) rfl rfl rfl (Nat.le_of_ble_eq_true rfl) (Nat.le_of_ble_eq_true rfl) rfl)
set_option maxRecDepth 20000 in
theorem B_X11_evening_32 {M : qMem} {x1 x2 s0 : Int} : qlim C_X11_evening (32, [some (qA 0), some (qI x1), some (qI x2)], [qI s0], qH0 M) = qlim C_X11_evening ((if ¬ s0 = 0 then 37 else 35), [some (qA 0), some (qI x1), some (qI x2)], [], qH0 M) := (qlim_n (n := 1) (c' := ((if ¬ s0 = 0 then 37 else 35), [some (qA 0), some (qI x1), some (qI x2)], [], qH0 M)) rfl)
set_option maxRecDepth 20000 in
theorem B_X11_evening_35 {M : qMem} {x1 x2 : Int} : qlim C_X11_evening (35, [some (qA 0), some (qI x1), some (qI x2)], [], qH0 M) = some (some (qI (-1)), qH0 M) := by
  refine Eq.trans (qlim_n (n := 1) (c' := (36, [some (qA 0), some (qI x1), some (qI x2)], [qI (-1)], qH0 M)) rfl) ?_
  exact (qlim_ret rfl)
set_option maxRecDepth 20000 in
theorem B_X11_evening_37 {M : qMem} {x1 x2 : Int} : qlim C_X11_evening (37, [some (qA 0), some (qI x1), some (qI x2)], [], qH0 M) = qbd (S_X6_add [qA 41, qI x1, qI x2, qI 0] (qH0 M)) (fun r h' => qlim C_X11_evening (47, [some (qA 0), some (qI x1), some (qI x2)], r.toList ++ [], h')) := by
  refine Eq.trans (qlim_n (n := 5) (c' := (44, [some (qA 0), some (qI x1), some (qI x2)], [qI 0, qI x2, qI x1, qA 41], qH0 M)) rfl) ?_
  exact (qlim_callv (n := 3) rfl rfl rfl (Nat.le_of_ble_eq_true rfl) (Nat.le_of_ble_eq_true rfl) rfl)
set_option maxRecDepth 20000 in
theorem B_X11_evening_47 {M : qMem} {x1 x2 s0 : Int} : qlim C_X11_evening (47, [some (qA 0), some (qI x1), some (qI x2)], [qI s0], qH0 M) = some (some (qI s0), qH0 M) := (qlim_ret rfl)
theorem E_X11_evening {h : qH} {x1 x2 : Int} : S_X11_evening [qA 0, qI x1, qI x2] h = qlim C_X11_evening (0, [some (qA 0), some (qI x1), some (qI x2)], [], h) := qM_at (Nat.le_of_ble_eq_true rfl) rfl
set_option maxRecDepth 20000 in
theorem B_X11_ends_0 {M : qMem} {x1 : Int} : qlim C_X11_ends (0, [some (qA 0), some (qI x1), none, none], [], qH0 M) = qbd (S_X11_isIn [qI x1, qI 1] (qH0 M)) (fun r h' => qlim C_X11_ends (5, [some (qA 0), some (qI x1), none, none], r.toList ++ [], h')) := by
  refine Eq.trans (qlim_n (n := 2) (c' := (2, [some (qA 0), some (qI x1), none, none], [qI 1, qI x1], qH0 M)) rfl) ?_
  exact (qlim_calls (n := 2) rfl rfl rfl (Nat.le_of_ble_eq_true rfl) (Nat.le_of_ble_eq_true rfl))
set_option maxRecDepth 20000 in
theorem B_X11_ends_5 {M : qMem} {x1 s0 : Int} : qlim C_X11_ends (5, [some (qA 0), some (qI x1), none, none], [qI s0], qH0 M) = qlim C_X11_ends ((if ¬ s0 = 0 then 10 else 8), [some (qA 0), some (qI x1), none, none], [], qH0 M) := (qlim_n (n := 1) (c' := ((if ¬ s0 = 0 then 10 else 8), [some (qA 0), some (qI x1), none, none], [], qH0 M)) rfl)
set_option maxRecDepth 20000 in
theorem B_X11_ends_8 {M : qMem} {x1 : Int} : qlim C_X11_ends (8, [some (qA 0), some (qI x1), none, none], [], qH0 M) = some (some (qI (-1)), qH0 M) := by
  refine Eq.trans (qlim_n (n := 1) (c' := (9, [some (qA 0), some (qI x1), none, none], [qI (-1)], qH0 M)) rfl) ?_
  exact (qlim_ret rfl)
set_option maxRecDepth 20000 in
theorem B_X11_ends_10 {M : qMem} {x1 : Int} : qlim C_X11_ends (10, [some (qA 0), some (qI x1), none, none], [], qH0 M) = qbd (S_X8_becomes [qA 21, qA 12] (qH0 M)) (fun r h' => qlim C_X11_ends (21, [some (qA 0), some (qI x1), none, none], r.toList ++ [], h')) := by
  refine Eq.trans (qlim_n (n := 4) (c' := (18, [some (qA 0), some (qI x1), none, none], [qA 12, qA 21], qH0 M)) rfl) ?_
  exact (qlim_callv (n := 1) rfl rfl rfl (Nat.le_of_ble_eq_true rfl) (Nat.le_of_ble_eq_true rfl) rfl)
set_option maxRecDepth 20000 in
theorem B_X11_ends_21 {M : qMem} {x1 : Int} : qlim C_X11_ends (21, [some (qA 0), some (qI x1), none, none], [], qH0 M) = qlim C_X11_ends (23, [some (qA 0), some (qI x1), some (qI 0), none], [], qH0 M) := (qlim_n (n := 2) (c' := (23, [some (qA 0), some (qI x1), some (qI 0), none], [], qH0 M)) rfl)
set_option maxRecDepth 20000 in
theorem B_X11_ends_23 {M : qMem} {x1 x2 : Int} : qlim C_X11_ends (23, [some (qA 0), some (qI x1), some (qI x2), none], [], qH0 M) = qlim C_X11_ends ((if M 41 3 ≤ x2 then 62 else 34), [some (qA 0), some (qI x1), some (qI x2), none], [], qH0 M) := (qlim_n (n := 5) (c' := ((if M 41 3 ≤ x2 then 62 else 34), [some (qA 0), some (qI x1), some (qI x2), none], [], qH0 M)) rfl)
set_option maxRecDepth 20000 in
theorem B_X11_ends_34 {M : qMem} {x1 x2 : Int} : qlim C_X11_ends (34, [some (qA 0), some (qI x1), some (qI x2), none], [], qH0 M) = qbd (S_X6_cell [qA 41, qI x2, qI 0] (qH0 M)) (fun r h' => qlim C_X11_ends (44, [some (qA 0), some (qI x1), some (qI x2), none], r.toList ++ [qA 0], h')) := by
  refine Eq.trans (qlim_n (n := 5) (c' := (41, [some (qA 0), some (qI x1), some (qI x2), none], [qI 0, qI x2, qA 41, qA 0], qH0 M)) rfl) ?_
  exact (qlim_callv (n := 2) rfl rfl rfl (Nat.le_of_ble_eq_true rfl) (Nat.le_of_ble_eq_true rfl) rfl)
set_option maxRecDepth 20000 in
theorem B_X11_ends_44 {M : qMem} {x1 x2 s1 : Int} : qlim C_X11_ends (44, [some (qA 0), some (qI x1), some (qI x2), none], [qI s1, qA 0], qH0 M) = qbd (S_X6_cell [qA 41, qI x2, qI 1] (qH0 M)) (fun r h' => qlim C_X11_ends (53, [some (qA 0), some (qI x1), some (qI x2), none], r.toList ++ [qI s1, qA 0], h')) := by
  refine Eq.trans (qlim_n (n := 4) (c' := (50, [some (qA 0), some (qI x1), some (qI x2), none], [qI 1, qI x2, qA 41, qI s1, qA 0], qH0 M)) rfl) ?_
  exact (qlim_callv (n := 2) rfl rfl rfl (Nat.le_of_ble_eq_true rfl) (Nat.le_of_ble_eq_true rfl) rfl)
set_option maxRecDepth 20000 in
theorem B_X11_ends_53 {M : qMem} {x1 x2 s1 s2 : Int} : qlim C_X11_ends (53, [some (qA 0), some (qI x1), some (qI x2), none], [qI s2, qI s1, qA 0], qH0 M) = qbd (S_X11_goesInTrial [qA 0, qI s1, qI s2] (qH0 M)) (fun r h' => qlim C_X11_ends (56, [some (qA 0), some (qI x1), some (qI x2), none], r.toList ++ [], h')) := (qlim_callv (n := 2) rfl rfl rfl (Nat.le_of_ble_eq_true rfl) (Nat.le_of_ble_eq_true rfl) rfl)
set_option maxRecDepth 20000 in
theorem B_X11_ends_56 {M : qMem} {x1 x2 : Int} : qlim C_X11_ends (56, [some (qA 0), some (qI x1), some (qI x2), none], [], qH0 M) = qlim C_X11_ends (23, [some (qA 0), some (qI x1), some (qI (kadd x2 1)), none], [], qH0 M) := (qlim_n (n := 2) (c' := (23, [some (qA 0), some (qI x1), some (qI (kadd x2 1)), none], [], qH0 M)) rfl)
set_option maxRecDepth 20000 in
theorem B_X11_ends_62 {M : qMem} {x1 x2 : Int} : qlim C_X11_ends (62, [some (qA 0), some (qI x1), some (qI x2), none], [], qH0 M) = qlim C_X11_ends ((if ¬ x1 = 0 then 76 else 66), [some (qA 0), some (qI x1), some (qI x2), none], [], qH0 M) := (qlim_n (n := 2) (c' := ((if ¬ x1 = 0 then 76 else 66), [some (qA 0), some (qI x1), some (qI x2), none], [], qH0 M)) rfl)
set_option maxRecDepth 20000 in
theorem B_X11_ends_66 {M : qMem} {x1 x2 : Int} : qlim C_X11_ends (66, [some (qA 0), some (qI x1), some (qI x2), none], [], qH0 M) = some (some (qI (M 22 4)), qH0 M) := by
  refine Eq.trans (qlim_n (n := 5) (c' := (75, [some (qA 0), some (qI x1), some (qI x2), none], [qI (M 22 4)], qH0 M)) rfl) ?_
  exact (qlim_ret rfl)
set_option maxRecDepth 20000 in
theorem B_X11_ends_76 {M : qMem} {x1 x2 : Int} : qlim C_X11_ends (76, [some (qA 0), some (qI x1), some (qI x2), none], [], qH0 M) = qlim C_X11_ends (80, [some (qA 0), some (qI x1), some (qI 0), some (qI 0)], [], qH0 M) := (qlim_n (n := 4) (c' := (80, [some (qA 0), some (qI x1), some (qI 0), some (qI 0)], [], qH0 M)) rfl)
set_option maxRecDepth 20000 in
theorem B_X11_ends_80 {M : qMem} {x1 x2 x3 : Int} : qlim C_X11_ends (80, [some (qA 0), some (qI x1), some (qI x2), some (qI x3)], [], qH0 M) = qlim C_X11_ends ((if M 12 10 ≤ x3 then 119 else 91), [some (qA 0), some (qI x1), some (qI x2), some (qI x3)], [], qH0 M) := (qlim_n (n := 5) (c' := ((if M 12 10 ≤ x3 then 119 else 91), [some (qA 0), some (qI x1), some (qI x2), some (qI x3)], [], qH0 M)) rfl)
set_option maxRecDepth 20000 in
theorem B_X11_ends_91 {M : qMem} {x1 x2 x3 : Int} (h1 : 0 ≤ x3) (h2 : x3 < 6) : qlim C_X11_ends (91, [some (qA 0), some (qI x1), some (qI x2), some (qI x3)], [], qH0 M) = qlim C_X11_ends (80, [some (qA 0), some (qI x1), some (qI (kadd x2 (ksub (M 26 x3) (M 17 x3)))), some (qI (kadd x3 1))], [], qH0 M) := by
  refine Eq.trans (qlim_n (n := 5) (c' := (100, [some (qA 0), some (qI x1), some (qI x2), some (qI x3)], [qI x3, qA 26, qI x2], qH0 M)) rfl) ?_
  refine Eq.trans (qs_iaload rfl rfl h1 h2) ?_
  refine Eq.trans (qlim_n (n := 4) (c' := (109, [some (qA 0), some (qI x1), some (qI x2), some (qI x3)], [qI x3, qA 17, qI (M 26 x3), qI x2], qH0 M)) rfl) ?_
  refine Eq.trans (qs_iaload rfl rfl h1 h2) ?_
  exact (qlim_n (n := 5) (c' := (80, [some (qA 0), some (qI x1), some (qI (kadd x2 (ksub (M 26 x3) (M 17 x3)))), some (qI (kadd x3 1))], [], qH0 M)) rfl)
set_option maxRecDepth 20000 in
theorem B_X11_ends_119 {M : qMem} {x1 x2 x3 : Int} : qlim C_X11_ends (119, [some (qA 0), some (qI x1), some (qI x2), some (qI x3)], [], qH0 M) = some (some (qI x2), qH0 M) := by
  refine Eq.trans (qlim_n (n := 1) (c' := (120, [some (qA 0), some (qI x1), some (qI x2), some (qI x3)], [qI x2], qH0 M)) rfl) ?_
  exact (qlim_ret rfl)
theorem E_X11_ends {h : qH} {x1 : Int} : S_X11_ends [qA 0, qI x1] h = qlim C_X11_ends (0, [some (qA 0), some (qI x1), none, none], [], h) := qM_at (Nat.le_of_ble_eq_true rfl) rfl
set_option maxRecDepth 20000 in
theorem B_X11_goesInTrial_0 {M : qMem} {x1 x2 : Int} : qlim C_X11_goesInTrial (0, [some (qA 0), some (qI x1), some (qI x2)], [], qH0 M) = qlim C_X11_goesInTrial ((if ¬ x1 = 0 then 16 else 4), [some (qA 0), some (qI x1), some (qI x2)], [], qH0 M) := (qlim_n (n := 2) (c' := ((if ¬ x1 = 0 then 16 else 4), [some (qA 0), some (qI x1), some (qI x2)], [], qH0 M)) rfl)
set_option maxRecDepth 20000 in
theorem B_X11_goesInTrial_4 {M : qMem} {x1 x2 : Int} : qlim C_X11_goesInTrial (4, [some (qA 0), some (qI x1), some (qI x2)], [], qH0 M) = qbd (S_X8_minutesGo [qA 21, qI 1] (qH0 M)) (fun r h' => qlim C_X11_goesInTrial (12, [some (qA 0), some (qI x1), some (qI x2)], r.toList ++ [], h')) := by
  refine Eq.trans (qlim_n (n := 3) (c' := (9, [some (qA 0), some (qI x1), some (qI x2)], [qI 1, qA 21], qH0 M)) rfl) ?_
  exact (qlim_callv (n := 1) rfl rfl rfl (Nat.le_of_ble_eq_true rfl) (Nat.le_of_ble_eq_true rfl) rfl)
set_option maxRecDepth 20000 in
theorem B_X11_goesInTrial_12 {M : qMem} {x1 x2 s0 : Int} : qlim C_X11_goesInTrial (12, [some (qA 0), some (qI x1), some (qI x2)], [qI s0], qH0 M) = qlim C_X11_goesInTrial (54, [some (qA 0), some (qI x1), some (qI x2)], [], qH0 M) := (qlim_n (n := 2) (c' := (54, [some (qA 0), some (qI x1), some (qI x2)], [], qH0 M)) rfl)
set_option maxRecDepth 20000 in
theorem B_X11_goesInTrial_16 {M : qMem} {x1 x2 : Int} : qlim C_X11_goesInTrial (16, [some (qA 0), some (qI x1), some (qI x2)], [], qH0 M) = qbd (S_X11_isPerson [qA 0, qI x2] (qH0 M)) (fun r h' => qlim C_X11_goesInTrial (21, [some (qA 0), some (qI x1), some (qI x2)], r.toList ++ [], h')) := by
  refine Eq.trans (qlim_n (n := 2) (c' := (18, [some (qA 0), some (qI x1), some (qI x2)], [qI x2, qA 0], qH0 M)) rfl) ?_
  exact (qlim_callv (n := 1) rfl rfl rfl (Nat.le_of_ble_eq_true rfl) (Nat.le_of_ble_eq_true rfl) rfl)
set_option maxRecDepth 20000 in
theorem B_X11_goesInTrial_21 {M : qMem} {x1 x2 s0 : Int} : qlim C_X11_goesInTrial (21, [some (qA 0), some (qI x1), some (qI x2)], [qI s0], qH0 M) = qlim C_X11_goesInTrial ((if s0 = 0 then 54 else 24), [some (qA 0), some (qI x1), some (qI x2)], [], qH0 M) := (qlim_n (n := 1) (c' := ((if s0 = 0 then 54 else 24), [some (qA 0), some (qI x1), some (qI x2)], [], qH0 M)) rfl)
set_option maxRecDepth 20000 in
theorem B_X11_goesInTrial_24 {M : qMem} {x1 x2 : Int} : qlim C_X11_goesInTrial (24, [some (qA 0), some (qI x1), some (qI x2)], [], qH0 M) = qlim C_X11_goesInTrial ((if 4 < x1 then 44 else 29), [some (qA 0), some (qI x1), some (qI x2)], [], qH0 M) := (qlim_n (n := 3) (c' := ((if 4 < x1 then 44 else 29), [some (qA 0), some (qI x1), some (qI x2)], [], qH0 M)) rfl)
set_option maxRecDepth 20000 in
theorem B_X11_goesInTrial_29 {M : qMem} {x1 x2 : Int} (h1 : 0 ≤ x2) (h2 : x2 < 6) : qlim C_X11_goesInTrial (29, [some (qA 0), some (qI x1), some (qI x2)], [], qH0 M) = qlim C_X11_goesInTrial (54, [some (qA 0), some (qI x1), some (qI x2)], [], qH0 (qup M 25 x2 (ksub x1 1))) := by
  refine Eq.trans (qlim_n (n := 7) (c' := (40, [some (qA 0), some (qI x1), some (qI x2)], [qI (ksub x1 1), qI x2, qA 25], qH0 M)) rfl) ?_
  refine Eq.trans (qs_iastore rfl rfl h1 h2) ?_
  exact (qlim_n (n := 1) (c' := (54, [some (qA 0), some (qI x1), some (qI x2)], [], qH0 (qup M 25 x2 (ksub x1 1)))) rfl)
set_option maxRecDepth 20000 in
theorem B_X11_goesInTrial_44 {M : qMem} {x1 x2 : Int} (h1 : 0 ≤ x2) (h2 : x2 < 6) : qlim C_X11_goesInTrial (44, [some (qA 0), some (qI x1), some (qI x2)], [], qH0 M) = qlim C_X11_goesInTrial (54, [some (qA 0), some (qI x1), some (qI x2)], [], qH0 (qup M 29 x2 1)) := by
  refine Eq.trans (qlim_n (n := 5) (c' := (53, [some (qA 0), some (qI x1), some (qI x2)], [qI 1, qI x2, qA 29], qH0 M)) rfl) ?_
  exact (qs_zastore rfl rfl h1 h2 (by decide))
set_option maxRecDepth 20000 in
theorem B_X11_goesInTrial_54 {M : qMem} {x1 x2 : Int} : qlim C_X11_goesInTrial (54, [some (qA 0), some (qI x1), some (qI x2)], [], qH0 M) = some (none, qH0 M) := (qlim_ret rfl)
theorem E_X11_goesInTrial {h : qH} {x1 x2 : Int} : S_X11_goesInTrial [qA 0, qI x1, qI x2] h = qlim C_X11_goesInTrial (0, [some (qA 0), some (qI x1), some (qI x2)], [], h) := qM_at (Nat.le_of_ble_eq_true rfl) rfl
set_option maxRecDepth 20000 in
theorem B_X11_book_0 {M : qMem} {x1 x2 : Int} : qlim C_X11_book (0, [some (qA 0), some (qI x1), some (qI x2)], [], qH0 M) = qlim C_X11_book ((if ¬ x1 = (-1) then 15 else 5), [some (qA 0), some (qI x1), some (qI x2)], [], qH0 M) := (qlim_n (n := 3) (c' := ((if ¬ x1 = (-1) then 15 else 5), [some (qA 0), some (qI x1), some (qI x2)], [], qH0 M)) rfl)
set_option maxRecDepth 20000 in
theorem B_X11_book_5 {M : qMem} {x1 x2 : Int} : qlim C_X11_book (5, [some (qA 0), some (qI x1), some (qI x2)], [], qH0 M) = some (some (qI 0), qH0 (qup M 43 3 0)) := by
  refine Eq.trans (qlim_n (n := 5) (c' := (14, [some (qA 0), some (qI x1), some (qI x2)], [qI 0], qH0 (qup M 43 3 0))) rfl) ?_
  exact (qlim_ret rfl)
set_option maxRecDepth 20000 in
theorem B_X11_book_15 {M : qMem} {x1 x2 : Int} : qlim C_X11_book (15, [some (qA 0), some (qI x1), some (qI x2)], [], qH0 M) = qbd (S_X11_isHeap [qI x1] (qH0 M)) (fun r h' => qlim C_X11_book (19, [some (qA 0), some (qI x1), some (qI x2)], r.toList ++ [], h')) := by
  refine Eq.trans (qlim_n (n := 1) (c' := (16, [some (qA 0), some (qI x1), some (qI x2)], [qI x1], qH0 M)) rfl) ?_
  exact (qlim_calls (n := 1) rfl rfl rfl (Nat.le_of_ble_eq_true rfl) (Nat.le_of_ble_eq_true rfl))
set_option maxRecDepth 20000 in
theorem B_X11_book_19 {M : qMem} {x1 x2 s0 : Int} : qlim C_X11_book (19, [some (qA 0), some (qI x1), some (qI x2)], [qI s0], qH0 M) = qlim C_X11_book ((if ¬ s0 = 0 then 24 else 22), [some (qA 0), some (qI x1), some (qI x2)], [], qH0 M) := (qlim_n (n := 1) (c' := ((if ¬ s0 = 0 then 24 else 22), [some (qA 0), some (qI x1), some (qI x2)], [], qH0 M)) rfl)
set_option maxRecDepth 20000 in
theorem B_X11_book_22 {M : qMem} {x1 x2 : Int} : qlim C_X11_book (22, [some (qA 0), some (qI x1), some (qI x2)], [], qH0 M) = some (some (qI (-1)), qH0 M) := by
  refine Eq.trans (qlim_n (n := 1) (c' := (23, [some (qA 0), some (qI x1), some (qI x2)], [qI (-1)], qH0 M)) rfl) ?_
  exact (qlim_ret rfl)
set_option maxRecDepth 20000 in
theorem B_X11_book_24 {M : qMem} {x1 x2 : Int} : qlim C_X11_book (24, [some (qA 0), some (qI x1), some (qI x2)], [], qH0 M) = qbd (S_X11_isIn [qI x2, qI 9999] (qH0 M)) (fun r h' => qlim C_X11_book (31, [some (qA 0), some (qI x1), some (qI x2)], r.toList ++ [], h')) := by
  refine Eq.trans (qlim_n (n := 2) (c' := (28, [some (qA 0), some (qI x1), some (qI x2)], [qI 9999, qI x2], qH0 M)) rfl) ?_
  exact (qlim_calls (n := 2) rfl rfl rfl (Nat.le_of_ble_eq_true rfl) (Nat.le_of_ble_eq_true rfl))
set_option maxRecDepth 20000 in
theorem B_X11_book_31 {M : qMem} {x1 x2 s0 : Int} : qlim C_X11_book (31, [some (qA 0), some (qI x1), some (qI x2)], [qI s0], qH0 M) = qlim C_X11_book ((if ¬ s0 = 0 then 37 else 34), [some (qA 0), some (qI x1), some (qI x2)], [], qH0 M) := (qlim_n (n := 1) (c' := ((if ¬ s0 = 0 then 37 else 34), [some (qA 0), some (qI x1), some (qI x2)], [], qH0 M)) rfl)
set_option maxRecDepth 20000 in
theorem B_X11_book_34 {M : qMem} {x1 x2 : Int} : qlim C_X11_book (34, [some (qA 0), some (qI x1), some (qI x2)], [], qH0 M) = some (some (qI (-2)), qH0 M) := by
  refine Eq.trans (qlim_n (n := 1) (c' := (36, [some (qA 0), some (qI x1), some (qI x2)], [qI (-2)], qH0 M)) rfl) ?_
  exact (qlim_ret rfl)
set_option maxRecDepth 20000 in
theorem B_X11_book_37 {M : qMem} {x1 x2 : Int} : qlim C_X11_book (37, [some (qA 0), some (qI x1), some (qI x2)], [], qH0 M) = qbd (S_X6_add [qA 43, qI x1, qI x2, qI 0] (qH0 M)) (fun r h' => qlim C_X11_book (47, [some (qA 0), some (qI x1), some (qI x2)], r.toList ++ [], h')) := by
  refine Eq.trans (qlim_n (n := 5) (c' := (44, [some (qA 0), some (qI x1), some (qI x2)], [qI 0, qI x2, qI x1, qA 43], qH0 M)) rfl) ?_
  exact (qlim_callv (n := 3) rfl rfl rfl (Nat.le_of_ble_eq_true rfl) (Nat.le_of_ble_eq_true rfl) rfl)
set_option maxRecDepth 20000 in
theorem B_X11_book_47 {M : qMem} {x1 x2 s0 : Int} : qlim C_X11_book (47, [some (qA 0), some (qI x1), some (qI x2)], [qI s0], qH0 M) = some (some (qI s0), qH0 M) := (qlim_ret rfl)
theorem E_X11_book {h : qH} {x1 x2 : Int} : S_X11_book [qA 0, qI x1, qI x2] h = qlim C_X11_book (0, [some (qA 0), some (qI x1), some (qI x2)], [], h) := qM_at (Nat.le_of_ble_eq_true rfl) rfl
set_option maxRecDepth 20000 in
theorem B_X11_looked_0 {M : qMem} : qlim C_X11_looked (0, [some (qA 0), none], [], qH0 M) = qlim C_X11_looked (2, [some (qA 0), some (qI 0)], [], qH0 M) := (qlim_n (n := 2) (c' := (2, [some (qA 0), some (qI 0)], [], qH0 M)) rfl)
set_option maxRecDepth 20000 in
theorem B_X11_looked_2 {M : qMem} {x1 : Int} : qlim C_X11_looked (2, [some (qA 0), some (qI x1)], [], qH0 M) = qlim C_X11_looked ((if M 43 3 ≤ x1 then 50 else 13), [some (qA 0), some (qI x1)], [], qH0 M) := (qlim_n (n := 5) (c' := ((if M 43 3 ≤ x1 then 50 else 13), [some (qA 0), some (qI x1)], [], qH0 M)) rfl)
set_option maxRecDepth 20000 in
theorem B_X11_looked_13 {M : qMem} {x1 : Int} : qlim C_X11_looked (13, [some (qA 0), some (qI x1)], [], qH0 M) = qbd (S_X6_cell [qA 43, qI x1, qI 0] (qH0 M)) (fun r h' => qlim C_X11_looked (29, [some (qA 0), some (qI x1)], r.toList ++ [qA 13], h')) := by
  refine Eq.trans (qlim_n (n := 7) (c' := (26, [some (qA 0), some (qI x1)], [qI 0, qI x1, qA 43, qA 13], qH0 M)) rfl) ?_
  exact (qlim_callv (n := 2) rfl rfl rfl (Nat.le_of_ble_eq_true rfl) (Nat.le_of_ble_eq_true rfl) rfl)
set_option maxRecDepth 20000 in
theorem B_X11_looked_29 {M : qMem} {x1 s1 : Int} (h1 : 0 ≤ s1) (h2 : s1 < 5) : qlim C_X11_looked (29, [some (qA 0), some (qI x1)], [qI s1, qA 13], qH0 M) = qbd (S_X6_cell [qA 43, qI x1, qI 1] (qH0 M)) (fun r h' => qlim C_X11_looked (39, [some (qA 0), some (qI x1)], r.toList ++ [qI (M 13 s1)], h')) := by
  refine Eq.trans (qs_iaload rfl rfl h1 h2) ?_
  refine Eq.trans (qlim_n (n := 4) (c' := (36, [some (qA 0), some (qI x1)], [qI 1, qI x1, qA 43, qI (M 13 s1)], qH0 M)) rfl) ?_
  exact (qlim_callv (n := 2) rfl rfl rfl (Nat.le_of_ble_eq_true rfl) (Nat.le_of_ble_eq_true rfl) rfl)
set_option maxRecDepth 20000 in
theorem B_X11_looked_39 {M : qMem} {x1 s0 s1 : Int} : qlim C_X11_looked (39, [some (qA 0), some (qI x1)], [qI s1, qI s0], qH0 M) = qlim C_X11_looked ((if s0 = s1 then 44 else 42), [some (qA 0), some (qI x1)], [], qH0 M) := (qlim_n (n := 1) (c' := ((if s0 = s1 then 44 else 42), [some (qA 0), some (qI x1)], [], qH0 M)) rfl)
set_option maxRecDepth 20000 in
theorem B_X11_looked_42 {M : qMem} {x1 : Int} : qlim C_X11_looked (42, [some (qA 0), some (qI x1)], [], qH0 M) = some (some (qI x1), qH0 M) := by
  refine Eq.trans (qlim_n (n := 1) (c' := (43, [some (qA 0), some (qI x1)], [qI x1], qH0 M)) rfl) ?_
  exact (qlim_ret rfl)
set_option maxRecDepth 20000 in
theorem B_X11_looked_44 {M : qMem} {x1 : Int} : qlim C_X11_looked (44, [some (qA 0), some (qI x1)], [], qH0 M) = qlim C_X11_looked (2, [some (qA 0), some (qI (kadd x1 1))], [], qH0 M) := (qlim_n (n := 2) (c' := (2, [some (qA 0), some (qI (kadd x1 1))], [], qH0 M)) rfl)
set_option maxRecDepth 20000 in
theorem B_X11_looked_50 {M : qMem} {x1 : Int} : qlim C_X11_looked (50, [some (qA 0), some (qI x1)], [], qH0 M) = some (some (qI (-5)), qH0 M) := by
  refine Eq.trans (qlim_n (n := 1) (c' := (52, [some (qA 0), some (qI x1)], [qI (-5)], qH0 M)) rfl) ?_
  exact (qlim_ret rfl)
theorem E_X11_looked {h : qH} : S_X11_looked [qA 0] h = qlim C_X11_looked (0, [some (qA 0), none], [], h) := qM_at (Nat.le_of_ble_eq_true rfl) rfl
set_option maxRecDepth 20000 in
theorem B_X11_judge_0 {M : qMem} {x1 x2 : Int} : qlim C_X11_judge (0, [some (qA 0), some (qI x1), some (qI x2), none], [], qH0 M) = qbd (S_X11_isTape [qI x1] (qH0 M)) (fun r h' => qlim C_X11_judge (4, [some (qA 0), some (qI x1), some (qI x2), none], r.toList ++ [], h')) := by
  refine Eq.trans (qlim_n (n := 1) (c' := (1, [some (qA 0), some (qI x1), some (qI x2), none], [qI x1], qH0 M)) rfl) ?_
  exact (qlim_calls (n := 1) rfl rfl rfl (Nat.le_of_ble_eq_true rfl) (Nat.le_of_ble_eq_true rfl))
set_option maxRecDepth 20000 in
theorem B_X11_judge_4 {M : qMem} {x1 x2 s0 : Int} : qlim C_X11_judge (4, [some (qA 0), some (qI x1), some (qI x2), none], [qI s0], qH0 M) = qlim C_X11_judge ((if ¬ s0 = 0 then 9 else 7), [some (qA 0), some (qI x1), some (qI x2), none], [], qH0 M) := (qlim_n (n := 1) (c' := ((if ¬ s0 = 0 then 9 else 7), [some (qA 0), some (qI x1), some (qI x2), none], [], qH0 M)) rfl)
set_option maxRecDepth 20000 in
theorem B_X11_judge_7 {M : qMem} {x1 x2 : Int} : qlim C_X11_judge (7, [some (qA 0), some (qI x1), some (qI x2), none], [], qH0 M) = some (some (qI (-1)), qH0 M) := by
  refine Eq.trans (qlim_n (n := 1) (c' := (8, [some (qA 0), some (qI x1), some (qI x2), none], [qI (-1)], qH0 M)) rfl) ?_
  exact (qlim_ret rfl)
set_option maxRecDepth 20000 in
theorem B_X11_judge_9 {M : qMem} {x1 x2 : Int} (h1 : 0 ≤ x1) (h2 : x1 < 6) : qlim C_X11_judge (9, [some (qA 0), some (qI x1), some (qI x2), none], [], qH0 M) = qlim C_X11_judge ((if ¬ M 73 x1 = (-1) then 22 else 19), [some (qA 0), some (qI x1), some (qI x2), none], [], qH0 M) := by
  refine Eq.trans (qlim_n (n := 3) (c' := (14, [some (qA 0), some (qI x1), some (qI x2), none], [qI x1, qA 73], qH0 M)) rfl) ?_
  refine Eq.trans (qs_iaload rfl rfl h1 h2) ?_
  exact (qlim_n (n := 2) (c' := ((if ¬ M 73 x1 = (-1) then 22 else 19), [some (qA 0), some (qI x1), some (qI x2), none], [], qH0 M)) rfl)
set_option maxRecDepth 20000 in
theorem B_X11_judge_19 {M : qMem} {x1 x2 : Int} : qlim C_X11_judge (19, [some (qA 0), some (qI x1), some (qI x2), none], [], qH0 M) = some (some (qI 100), qH0 M) := by
  refine Eq.trans (qlim_n (n := 1) (c' := (21, [some (qA 0), some (qI x1), some (qI x2), none], [qI 100], qH0 M)) rfl) ?_
  exact (qlim_ret rfl)
set_option maxRecDepth 20000 in
theorem B_X11_judge_22 {M : qMem} {x1 x2 : Int} (h1 : 0 ≤ x1) (h2 : x1 < 6) : qlim C_X11_judge (22, [some (qA 0), some (qI x1), some (qI x2), none], [], qH0 M) = qlim C_X11_judge ((if M 73 x1 = 2 then 35 else 32), [some (qA 0), some (qI x1), some (qI x2), none], [], qH0 M) := by
  refine Eq.trans (qlim_n (n := 3) (c' := (27, [some (qA 0), some (qI x1), some (qI x2), none], [qI x1, qA 73], qH0 M)) rfl) ?_
  refine Eq.trans (qs_iaload rfl rfl h1 h2) ?_
  exact (qlim_n (n := 2) (c' := ((if M 73 x1 = 2 then 35 else 32), [some (qA 0), some (qI x1), some (qI x2), none], [], qH0 M)) rfl)
set_option maxRecDepth 20000 in
theorem B_X11_judge_32 {M : qMem} {x1 x2 : Int} : qlim C_X11_judge (32, [some (qA 0), some (qI x1), some (qI x2), none], [], qH0 M) = some (some (qI (-12)), qH0 M) := by
  refine Eq.trans (qlim_n (n := 1) (c' := (34, [some (qA 0), some (qI x1), some (qI x2), none], [qI (-12)], qH0 M)) rfl) ?_
  exact (qlim_ret rfl)
set_option maxRecDepth 20000 in
theorem B_X11_judge_35 {M : qMem} {x1 x2 : Int} : qlim C_X11_judge (35, [some (qA 0), some (qI x1), some (qI x2), none], [], qH0 M) = qlim C_X11_judge ((if 0 ≤ x2 then 42 else 39), [some (qA 0), some (qI x1), some (qI x2), none], [], qH0 M) := (qlim_n (n := 2) (c' := ((if 0 ≤ x2 then 42 else 39), [some (qA 0), some (qI x1), some (qI x2), none], [], qH0 M)) rfl)
set_option maxRecDepth 20000 in
theorem B_X11_judge_39 {M : qMem} {x1 x2 : Int} : qlim C_X11_judge (39, [some (qA 0), some (qI x1), some (qI x2), none], [], qH0 M) = some (some (qI 100), qH0 M) := by
  refine Eq.trans (qlim_n (n := 1) (c' := (41, [some (qA 0), some (qI x1), some (qI x2), none], [qI 100], qH0 M)) rfl) ?_
  exact (qlim_ret rfl)
set_option maxRecDepth 20000 in
theorem B_X11_judge_42 {M : qMem} {x1 x2 : Int} : qlim C_X11_judge (42, [some (qA 0), some (qI x1), some (qI x2), none], [], qH0 M) = qlim C_X11_judge (44, [some (qA 0), some (qI x1), some (qI x2), some (qI 0)], [], qH0 M) := (qlim_n (n := 2) (c' := (44, [some (qA 0), some (qI x1), some (qI x2), some (qI 0)], [], qH0 M)) rfl)
set_option maxRecDepth 20000 in
theorem B_X11_judge_44 {M : qMem} {x1 x2 x3 : Int} : qlim C_X11_judge (44, [some (qA 0), some (qI x1), some (qI x2), some (qI x3)], [], qH0 M) = qlim C_X11_judge ((if 5 ≤ x3 then 98 else 49), [some (qA 0), some (qI x1), some (qI x2), some (qI x3)], [], qH0 M) := (qlim_n (n := 3) (c' := ((if 5 ≤ x3 then 98 else 49), [some (qA 0), some (qI x1), some (qI x2), some (qI x3)], [], qH0 M)) rfl)
set_option maxRecDepth 20000 in
theorem B_X11_judge_49 {M : qMem} {x1 x2 x3 : Int} (h1 : 0 ≤ x1) (h2 : x1 < 6) : qlim C_X11_judge (49, [some (qA 0), some (qI x1), some (qI x2), some (qI x3)], [], qH0 M) = qlim C_X11_judge ((if x2 < ksub (M 74 x1) x3 then 66 else 61), [some (qA 0), some (qI x1), some (qI x2), some (qI x3)], [], qH0 M) := by
  refine Eq.trans (qlim_n (n := 4) (c' := (55, [some (qA 0), some (qI x1), some (qI x2), some (qI x3)], [qI x1, qA 74, qI x2], qH0 M)) rfl) ?_
  refine Eq.trans (qs_iaload rfl rfl h1 h2) ?_
  exact (qlim_n (n := 3) (c' := ((if x2 < ksub (M 74 x1) x3 then 66 else 61), [some (qA 0), some (qI x1), some (qI x2), some (qI x3)], [], qH0 M)) rfl)
set_option maxRecDepth 20000 in
theorem B_X11_judge_61 {M : qMem} {x1 x2 x3 : Int} : qlim C_X11_judge (61, [some (qA 0), some (qI x1), some (qI x2), some (qI x3)], [], qH0 M) = some (some (qI (kadd 100 x3)), qH0 M) := by
  refine Eq.trans (qlim_n (n := 3) (c' := (65, [some (qA 0), some (qI x1), some (qI x2), some (qI x3)], [qI (kadd 100 x3)], qH0 M)) rfl) ?_
  exact (qlim_ret rfl)
set_option maxRecDepth 20000 in
theorem B_X11_judge_66 {M : qMem} {x1 x2 x3 : Int} {n_qG075x1 : Nat} (h1 : 0 ≤ x1) (h2 : x1 < 6) (h3 : qty (qH0 M) (qG0 75 x1) = (103, n_qG075x1)) (h4 : 0 ≤ kadd x2 x3) (h5 : kadd x2 x3 < n_qG075x1) (h6 : 0 ≤ x3) (h7 : x3 < 5) : qlim C_X11_judge (66, [some (qA 0), some (qI x1), some (qI x2), some (qI x3)], [], qH0 M) = qlim C_X11_judge ((if jcmp (M (qG0 75 x1) (kadd x2 x3)) (ki2l (M 13 x3)) = 0 then 92 else 90), [some (qA 0), some (qI x1), some (qI x2), some (qI x3)], [], qH0 M) := by
  refine Eq.trans (qlim_n (n := 3) (c' := (71, [some (qA 0), some (qI x1), some (qI x2), some (qI x3)], [qI x1, qA 75], qH0 M)) rfl) ?_
  refine Eq.trans (qs_aaload rfl rfl (by decide) h1 h2) ?_
  refine Eq.trans (qlim_n (n := 3) (c' := (75, [some (qA 0), some (qI x1), some (qI x2), some (qI x3)], [qI (kadd x2 x3), qA (qG0 75 x1)], qH0 M)) rfl) ?_
  refine Eq.trans (qs_laload rfl h3 h4 h5) ?_
  refine Eq.trans (qlim_n (n := 4) (c' := (84, [some (qA 0), some (qI x1), some (qI x2), some (qI x3)], [qI x3, qA 13, qJ (M (qG0 75 x1) (kadd x2 x3))], qH0 M)) rfl) ?_
  refine Eq.trans (qs_iaload rfl rfl h6 h7) ?_
  exact (qlim_n (n := 3) (c' := ((if jcmp (M (qG0 75 x1) (kadd x2 x3)) (ki2l (M 13 x3)) = 0 then 92 else 90), [some (qA 0), some (qI x1), some (qI x2), some (qI x3)], [], qH0 M)) rfl)
set_option maxRecDepth 20000 in
theorem B_X11_judge_90 {M : qMem} {x1 x2 x3 : Int} : qlim C_X11_judge (90, [some (qA 0), some (qI x1), some (qI x2), some (qI x3)], [], qH0 M) = some (some (qI x3), qH0 M) := by
  refine Eq.trans (qlim_n (n := 1) (c' := (91, [some (qA 0), some (qI x1), some (qI x2), some (qI x3)], [qI x3], qH0 M)) rfl) ?_
  exact (qlim_ret rfl)
set_option maxRecDepth 20000 in
theorem B_X11_judge_92 {M : qMem} {x1 x2 x3 : Int} : qlim C_X11_judge (92, [some (qA 0), some (qI x1), some (qI x2), some (qI x3)], [], qH0 M) = qlim C_X11_judge (44, [some (qA 0), some (qI x1), some (qI x2), some (qI (kadd x3 1))], [], qH0 M) := (qlim_n (n := 2) (c' := (44, [some (qA 0), some (qI x1), some (qI x2), some (qI (kadd x3 1))], [], qH0 M)) rfl)
set_option maxRecDepth 20000 in
theorem B_X11_judge_98 {M : qMem} {x1 x2 x3 : Int} : qlim C_X11_judge (98, [some (qA 0), some (qI x1), some (qI x2), some (qI x3)], [], qH0 M) = some (some (qI (-5)), qH0 M) := by
  refine Eq.trans (qlim_n (n := 1) (c' := (100, [some (qA 0), some (qI x1), some (qI x2), some (qI x3)], [qI (-5)], qH0 M)) rfl) ?_
  exact (qlim_ret rfl)
theorem E_X11_judge {h : qH} {x1 x2 : Int} : S_X11_judge [qA 0, qI x1, qI x2] h = qlim C_X11_judge (0, [some (qA 0), some (qI x1), some (qI x2), none], [], h) := qM_at (Nat.le_of_ble_eq_true rfl) rfl
set_option maxRecDepth 20000 in
theorem B_X11_image_0 {M : qMem} : qlim C_X11_image (0, [some (qA 0)], [], qH0 M) = qbd (S_X8_becomes [qA 30, qA 12] (qH0 M)) (fun r h' => qlim C_X11_image (11, [some (qA 0)], r.toList ++ [], h')) := by
  refine Eq.trans (qlim_n (n := 4) (c' := (8, [some (qA 0)], [qA 12, qA 30], qH0 M)) rfl) ?_
  exact (qlim_callv (n := 1) rfl rfl rfl (Nat.le_of_ble_eq_true rfl) (Nat.le_of_ble_eq_true rfl) rfl)
set_option maxRecDepth 20000 in
theorem B_X11_image_11 {M : qMem} : qlim C_X11_image (11, [some (qA 0)], [], qH0 M) = qbd (S_X6_becomes [qA 45, qA 39] (qH0 M)) (fun r h' => qlim C_X11_image (22, [some (qA 0)], r.toList ++ [], h')) := by
  refine Eq.trans (qlim_n (n := 4) (c' := (19, [some (qA 0)], [qA 39, qA 45], qH0 M)) rfl) ?_
  exact (qlim_callv (n := 1) rfl rfl rfl (Nat.le_of_ble_eq_true rfl) (Nat.le_of_ble_eq_true rfl) rfl)
set_option maxRecDepth 20000 in
theorem B_X11_image_22 {M : qMem} : qlim C_X11_image (22, [some (qA 0)], [], qH0 M) = qbd (S_X6_becomes [qA 47, qA 41] (qH0 M)) (fun r h' => qlim C_X11_image (33, [some (qA 0)], r.toList ++ [], h')) := by
  refine Eq.trans (qlim_n (n := 4) (c' := (30, [some (qA 0)], [qA 41, qA 47], qH0 M)) rfl) ?_
  exact (qlim_callv (n := 1) rfl rfl rfl (Nat.le_of_ble_eq_true rfl) (Nat.le_of_ble_eq_true rfl) rfl)
set_option maxRecDepth 20000 in
theorem B_X11_image_33 {M : qMem} : qlim C_X11_image (33, [some (qA 0)], [], qH0 M) = qbd (S_X6_becomes [qA 49, qA 43] (qH0 M)) (fun r h' => qlim C_X11_image (44, [some (qA 0)], r.toList ++ [], h')) := by
  refine Eq.trans (qlim_n (n := 4) (c' := (41, [some (qA 0)], [qA 43, qA 49], qH0 M)) rfl) ?_
  exact (qlim_callv (n := 1) rfl rfl rfl (Nat.le_of_ble_eq_true rfl) (Nat.le_of_ble_eq_true rfl) rfl)
set_option maxRecDepth 20000 in
theorem B_X11_image_44 {M : qMem} : qlim C_X11_image (44, [some (qA 0)], [], qH0 M) = some (some (qI ((qup M 0 9 1) 12 10)), qH0 (qup M 0 9 1)) := by
  refine Eq.trans (qlim_n (n := 6) (c' := (56, [some (qA 0)], [qI ((qup M 0 9 1) 12 10)], qH0 (qup M 0 9 1))) rfl) ?_
  exact (qlim_ret rfl)
theorem E_X11_image {h : qH} : S_X11_image [qA 0] h = qlim C_X11_image (0, [some (qA 0)], [], h) := qM_at (Nat.le_of_ble_eq_true rfl) rfl
set_option maxRecDepth 20000 in
theorem B_X11_undo_0 {M : qMem} : qlim C_X11_undo (0, [some (qA 0)], [], qH0 M) = qlim C_X11_undo ((if ¬ M 0 9 = 0 then 10 else 7), [some (qA 0)], [], qH0 M) := (qlim_n (n := 3) (c' := ((if ¬ M 0 9 = 0 then 10 else 7), [some (qA 0)], [], qH0 M)) rfl)
set_option maxRecDepth 20000 in
theorem B_X11_undo_7 {M : qMem} : qlim C_X11_undo (7, [some (qA 0)], [], qH0 M) = some (some (qI (-3)), qH0 M) := by
  refine Eq.trans (qlim_n (n := 1) (c' := (9, [some (qA 0)], [qI (-3)], qH0 M)) rfl) ?_
  exact (qlim_ret rfl)
set_option maxRecDepth 20000 in
theorem B_X11_undo_10 {M : qMem} : qlim C_X11_undo (10, [some (qA 0)], [], qH0 M) = qbd (S_X8_becomes [qA 12, qA 30] (qH0 M)) (fun r h' => qlim C_X11_undo (21, [some (qA 0)], r.toList ++ [], h')) := by
  refine Eq.trans (qlim_n (n := 4) (c' := (18, [some (qA 0)], [qA 30, qA 12], qH0 M)) rfl) ?_
  exact (qlim_callv (n := 1) rfl rfl rfl (Nat.le_of_ble_eq_true rfl) (Nat.le_of_ble_eq_true rfl) rfl)
set_option maxRecDepth 20000 in
theorem B_X11_undo_21 {M : qMem} : qlim C_X11_undo (21, [some (qA 0)], [], qH0 M) = qbd (S_X6_becomes [qA 39, qA 45] (qH0 M)) (fun r h' => qlim C_X11_undo (32, [some (qA 0)], r.toList ++ [], h')) := by
  refine Eq.trans (qlim_n (n := 4) (c' := (29, [some (qA 0)], [qA 45, qA 39], qH0 M)) rfl) ?_
  exact (qlim_callv (n := 1) rfl rfl rfl (Nat.le_of_ble_eq_true rfl) (Nat.le_of_ble_eq_true rfl) rfl)
set_option maxRecDepth 20000 in
theorem B_X11_undo_32 {M : qMem} : qlim C_X11_undo (32, [some (qA 0)], [], qH0 M) = qbd (S_X6_becomes [qA 41, qA 47] (qH0 M)) (fun r h' => qlim C_X11_undo (43, [some (qA 0)], r.toList ++ [], h')) := by
  refine Eq.trans (qlim_n (n := 4) (c' := (40, [some (qA 0)], [qA 47, qA 41], qH0 M)) rfl) ?_
  exact (qlim_callv (n := 1) rfl rfl rfl (Nat.le_of_ble_eq_true rfl) (Nat.le_of_ble_eq_true rfl) rfl)
set_option maxRecDepth 20000 in
theorem B_X11_undo_43 {M : qMem} : qlim C_X11_undo (43, [some (qA 0)], [], qH0 M) = qbd (S_X6_becomes [qA 43, qA 49] (qH0 M)) (fun r h' => qlim C_X11_undo (54, [some (qA 0)], r.toList ++ [], h')) := by
  refine Eq.trans (qlim_n (n := 4) (c' := (51, [some (qA 0)], [qA 49, qA 43], qH0 M)) rfl) ?_
  exact (qlim_callv (n := 1) rfl rfl rfl (Nat.le_of_ble_eq_true rfl) (Nat.le_of_ble_eq_true rfl) rfl)
set_option maxRecDepth 20000 in
theorem B_X11_undo_54 {M : qMem} : qlim C_X11_undo (54, [some (qA 0)], [], qH0 M) = some (some (qI (M 12 10)), qH0 M) := by
  refine Eq.trans (qlim_n (n := 3) (c' := (61, [some (qA 0)], [qI (M 12 10)], qH0 M)) rfl) ?_
  exact (qlim_ret rfl)
theorem E_X11_undo {h : qH} : S_X11_undo [qA 0] h = qlim C_X11_undo (0, [some (qA 0)], [], h) := qM_at (Nat.le_of_ble_eq_true rfl) rfl
set_option maxRecDepth 20000 in
theorem B_X11_act_0 {M : qMem} {x1 x2 x3 : Int} : qlim C_X11_act (0, [some (qA 0), some (qI x1), some (qI x2), some (qI x3), none], [], qH0 M) = qbd (S_X11_isPerson [qA 0, qI x1] (qH0 (qup M 71 3 0))) (fun r h' => qlim C_X11_act (13, [some (qA 0), some (qI x1), some (qI x2), some (qI x3), none], r.toList ++ [], h')) := by
  refine Eq.trans (qlim_n (n := 6) (c' := (10, [some (qA 0), some (qI x1), some (qI x2), some (qI x3), none], [qI x1, qA 0], qH0 (qup M 71 3 0))) rfl) ?_
  exact (qlim_callv (n := 1) rfl rfl rfl (Nat.le_of_ble_eq_true rfl) (Nat.le_of_ble_eq_true rfl) rfl)
set_option maxRecDepth 20000 in
theorem B_X11_act_13 {M : qMem} {x1 x2 x3 s0 : Int} : qlim C_X11_act (13, [some (qA 0), some (qI x1), some (qI x2), some (qI x3), none], [qI s0], qH0 M) = qlim C_X11_act ((if ¬ s0 = 0 then 18 else 16), [some (qA 0), some (qI x1), some (qI x2), some (qI x3), none], [], qH0 M) := (qlim_n (n := 1) (c' := ((if ¬ s0 = 0 then 18 else 16), [some (qA 0), some (qI x1), some (qI x2), some (qI x3), none], [], qH0 M)) rfl)
set_option maxRecDepth 20000 in
theorem B_X11_act_16 {M : qMem} {x1 x2 x3 : Int} : qlim C_X11_act (16, [some (qA 0), some (qI x1), some (qI x2), some (qI x3), none], [], qH0 M) = some (some (qI 0), qH0 M) := by
  refine Eq.trans (qlim_n (n := 1) (c' := (17, [some (qA 0), some (qI x1), some (qI x2), some (qI x3), none], [qI 0], qH0 M)) rfl) ?_
  exact (qlim_ret rfl)
set_option maxRecDepth 20000 in
theorem B_X11_act_18 {M : qMem} {x1 x2 x3 : Int} (h1 : 0 ≤ x1) (h2 : x1 < 6) (h3 : 0 ≤ (qup (qup M 71 1 x1) 71 2 ((qup M 71 1 x1) 15 x1)) 14 x1) (h4 : (qup (qup M 71 1 x1) 71 2 ((qup M 71 1 x1) 15 x1)) 14 x1 < 7) : qlim C_X11_act (18, [some (qA 0), some (qI x1), some (qI x2), some (qI x3), none], [], qH0 M) = qlim C_X11_act (qtk [88, 99, 110] 121 0 x2, [some (qA 0), some (qI x1), some (qI x2), some (qI x3), some (qA (qG0 1 ((qup (qup M 71 1 x1) 71 2 ((qup M 71 1 x1) 15 x1)) 14 x1)))], [], qH0 (qup (qup M 71 1 x1) 71 2 ((qup M 71 1 x1) 15 x1))) := by
  refine Eq.trans (qlim_n (n := 10) (c' := (38, [some (qA 0), some (qI x1), some (qI x2), some (qI x3), none], [qI x1, qA 15, qA 71], qH0 (qup M 71 1 x1))) rfl) ?_
  refine Eq.trans (qs_iaload rfl rfl h1 h2) ?_
  refine Eq.trans (qlim_n (n := 8) (c' := (57, [some (qA 0), some (qI x1), some (qI x2), some (qI x3), none], [qI x1, qA 14, qA 1], qH0 (qup (qup M 71 1 x1) 71 2 ((qup M 71 1 x1) 15 x1)))) rfl) ?_
  refine Eq.trans (qs_iaload rfl rfl h1 h2) ?_
  refine Eq.trans (qs_aaload rfl rfl (by decide) h3 h4) ?_
  exact (qlim_n (n := 3) (c' := (qtk [88, 99, 110] 121 0 x2, [some (qA 0), some (qI x1), some (qI x2), some (qI x3), some (qA (qG0 1 ((qup (qup M 71 1 x1) 71 2 ((qup M 71 1 x1) 15 x1)) 14 x1)))], [], qH0 (qup (qup M 71 1 x1) 71 2 ((qup M 71 1 x1) 15 x1)))) rfl)
set_option maxRecDepth 20000 in
theorem B_X11_act_88 {M : qMem} {x1 x2 x3 x4 : Int} {f : qSem} (h1 : qsel [(4, S_X4_folds), (5, S_X4_folds), (2, S_X2_folds), (9, S_X4_folds), (7, S_X7_folds), (1, S_X2_folds), (10, S_X10_folds)] (qty (qH0 M) x4).1 = some f) : qlim C_X11_act (88, [some (qA 0), some (qI x1), some (qI x2), some (qI x3), some (qA x4)], [], qH0 M) = qbd (f [qA x4, qA 71, qI x3] (qH0 M)) (fun r h' => qlim C_X11_act (98, [some (qA 0), some (qI x1), some (qI x2), some (qI x3), some (qA x4)], r.toList ++ [], h')) := by
  refine Eq.trans (qlim_n (n := 4) (c' := (95, [some (qA 0), some (qI x1), some (qI x2), some (qI x3), some (qA x4)], [qI x3, qA 71, qA x4], qH0 M)) rfl) ?_
  exact (qlim_callv (n := 2) rfl rfl rfl (Nat.le_of_ble_eq_true rfl) (Nat.le_of_ble_eq_true rfl) h1)
set_option maxRecDepth 20000 in
theorem B_X11_act_98 {M : qMem} {x1 x2 x3 x4 s0 : Int} : qlim C_X11_act (98, [some (qA 0), some (qI x1), some (qI x2), some (qI x3), some (qA x4)], [qI s0], qH0 M) = some (some (qI s0), qH0 M) := (qlim_ret rfl)
set_option maxRecDepth 20000 in
theorem B_X11_act_99 {M : qMem} {x1 x2 x3 x4 : Int} {f : qSem} (h1 : qsel [(4, S_X4_licks), (5, S_X5_licks), (2, S_X4_licks), (9, S_X4_licks), (7, S_X7_licks), (1, S_X4_licks), (10, S_X10_licks)] (qty (qH0 M) x4).1 = some f) : qlim C_X11_act (99, [some (qA 0), some (qI x1), some (qI x2), some (qI x3), some (qA x4)], [], qH0 M) = qbd (f [qA x4, qA 71, qI x3] (qH0 M)) (fun r h' => qlim C_X11_act (109, [some (qA 0), some (qI x1), some (qI x2), some (qI x3), some (qA x4)], r.toList ++ [], h')) := by
  refine Eq.trans (qlim_n (n := 4) (c' := (106, [some (qA 0), some (qI x1), some (qI x2), some (qI x3), some (qA x4)], [qI x3, qA 71, qA x4], qH0 M)) rfl) ?_
  exact (qlim_callv (n := 2) rfl rfl rfl (Nat.le_of_ble_eq_true rfl) (Nat.le_of_ble_eq_true rfl) h1)
set_option maxRecDepth 20000 in
theorem B_X11_act_109 {M : qMem} {x1 x2 x3 x4 s0 : Int} : qlim C_X11_act (109, [some (qA 0), some (qI x1), some (qI x2), some (qI x3), some (qA x4)], [qI s0], qH0 M) = some (some (qI s0), qH0 M) := (qlim_ret rfl)
set_option maxRecDepth 20000 in
theorem B_X11_act_110 {M : qMem} {x1 x2 x3 x4 : Int} {f : qSem} (h1 : qsel [(4, S_X4_tells), (5, S_X4_tells), (2, S_X4_tells), (9, S_X9_tells), (7, S_X4_tells), (1, S_X1_tells), (10, S_X9_tells)] (qty (qH0 M) x4).1 = some f) : qlim C_X11_act (110, [some (qA 0), some (qI x1), some (qI x2), some (qI x3), some (qA x4)], [], qH0 M) = qbd (f [qA x4, qA 71, qI x3] (qH0 M)) (fun r h' => qlim C_X11_act (120, [some (qA 0), some (qI x1), some (qI x2), some (qI x3), some (qA x4)], r.toList ++ [], h')) := by
  refine Eq.trans (qlim_n (n := 4) (c' := (117, [some (qA 0), some (qI x1), some (qI x2), some (qI x3), some (qA x4)], [qI x3, qA 71, qA x4], qH0 M)) rfl) ?_
  exact (qlim_callv (n := 2) rfl rfl rfl (Nat.le_of_ble_eq_true rfl) (Nat.le_of_ble_eq_true rfl) h1)
set_option maxRecDepth 20000 in
theorem B_X11_act_120 {M : qMem} {x1 x2 x3 x4 s0 : Int} : qlim C_X11_act (120, [some (qA 0), some (qI x1), some (qI x2), some (qI x3), some (qA x4)], [qI s0], qH0 M) = some (some (qI s0), qH0 M) := (qlim_ret rfl)
set_option maxRecDepth 20000 in
theorem B_X11_act_121 {M : qMem} {x1 x2 x3 x4 : Int} : qlim C_X11_act (121, [some (qA 0), some (qI x1), some (qI x2), some (qI x3), some (qA x4)], [], qH0 M) = some (some (qI 0), qH0 M) := by
  refine Eq.trans (qlim_n (n := 1) (c' := (122, [some (qA 0), some (qI x1), some (qI x2), some (qI x3), some (qA x4)], [qI 0], qH0 M)) rfl) ?_
  exact (qlim_ret rfl)
theorem E_X11_act {h : qH} {x1 x2 x3 : Int} : S_X11_act [qA 0, qI x1, qI x2, qI x3] h = qlim C_X11_act (0, [some (qA 0), some (qI x1), some (qI x2), some (qI x3), none], [], h) := qM_at (Nat.le_of_ble_eq_true rfl) rfl
set_option maxRecDepth 20000 in
theorem B_X11_trace_0 {M : qMem} {x1 : Int} : qlim C_X11_trace (0, [some (qA 0), some (qI x1)], [], qH0 M) = qlim C_X11_trace ((if x1 < 0 then 39 else 4), [some (qA 0), some (qI x1)], [], qH0 M) := (qlim_n (n := 2) (c' := ((if x1 < 0 then 39 else 4), [some (qA 0), some (qI x1)], [], qH0 M)) rfl)
set_option maxRecDepth 20000 in
theorem B_X11_trace_4 {M : qMem} {x1 : Int} : qlim C_X11_trace (4, [some (qA 0), some (qI x1)], [], qH0 M) = qlim C_X11_trace ((if M 71 3 ≤ x1 then 39 else 15), [some (qA 0), some (qI x1)], [], qH0 M) := (qlim_n (n := 5) (c' := ((if M 71 3 ≤ x1 then 39 else 15), [some (qA 0), some (qI x1)], [], qH0 M)) rfl)
set_option maxRecDepth 20000 in
theorem B_X11_trace_15 {M : qMem} {x1 : Int} : qlim C_X11_trace (15, [some (qA 0), some (qI x1)], [], qH0 M) = qlim C_X11_trace ((if 20 ≤ x1 then 39 else 27), [some (qA 0), some (qI x1)], [], qH0 M) := (qlim_n (n := 6) (c' := ((if 20 ≤ x1 then 39 else 27), [some (qA 0), some (qI x1)], [], qH0 M)) rfl)
set_option maxRecDepth 20000 in
theorem B_X11_trace_27 {M : qMem} {x1 : Int} (h1 : 0 ≤ x1) (h2 : x1 < 20) : qlim C_X11_trace (27, [some (qA 0), some (qI x1)], [], qH0 M) = qlim C_X11_trace (40, [some (qA 0), some (qI x1)], [qI (M 72 x1)], qH0 M) := by
  refine Eq.trans (qlim_n (n := 4) (c' := (35, [some (qA 0), some (qI x1)], [qI x1, qA 72], qH0 M)) rfl) ?_
  refine Eq.trans (qs_iaload rfl rfl h1 h2) ?_
  exact (qlim_n (n := 1) (c' := (40, [some (qA 0), some (qI x1)], [qI (M 72 x1)], qH0 M)) rfl)
set_option maxRecDepth 20000 in
theorem B_X11_trace_39 {M : qMem} {x1 : Int} : qlim C_X11_trace (39, [some (qA 0), some (qI x1)], [], qH0 M) = qlim C_X11_trace (40, [some (qA 0), some (qI x1)], [qI (-1)], qH0 M) := (qlim_n (n := 1) (c' := (40, [some (qA 0), some (qI x1)], [qI (-1)], qH0 M)) rfl)
set_option maxRecDepth 20000 in
theorem B_X11_trace_40 {M : qMem} {x1 s0 : Int} : qlim C_X11_trace (40, [some (qA 0), some (qI x1)], [qI s0], qH0 M) = some (some (qI s0), qH0 M) := (qlim_ret rfl)
theorem E_X11_trace {h : qH} {x1 : Int} : S_X11_trace [qA 0, qI x1] h = qlim C_X11_trace (0, [some (qA 0), some (qI x1)], [], h) := qM_at (Nat.le_of_ble_eq_true rfl) rfl
set_option maxRecDepth 20000 in
theorem B_X11_taken_0 {M : qMem} {x1 x2 : Int} : qlim C_X11_taken (0, [some (qA 0), some (qI x1), some (qI x2), none, none, none], [], qH0 M) = qbd (S_X11_isIn [qI x2, qI 6] (qH0 M)) (fun r h' => qlim C_X11_taken (6, [some (qA 0), some (qI x1), some (qI x2), none, none, none], r.toList ++ [], h')) := by
  refine Eq.trans (qlim_n (n := 2) (c' := (3, [some (qA 0), some (qI x1), some (qI x2), none, none, none], [qI 6, qI x2], qH0 M)) rfl) ?_
  exact (qlim_calls (n := 2) rfl rfl rfl (Nat.le_of_ble_eq_true rfl) (Nat.le_of_ble_eq_true rfl))
set_option maxRecDepth 20000 in
theorem B_X11_taken_6 {M : qMem} {x1 x2 s0 : Int} : qlim C_X11_taken (6, [some (qA 0), some (qI x1), some (qI x2), none, none, none], [qI s0], qH0 M) = qlim C_X11_taken ((if ¬ s0 = 0 then 12 else 9), [some (qA 0), some (qI x1), some (qI x2), none, none, none], [], qH0 M) := (qlim_n (n := 1) (c' := ((if ¬ s0 = 0 then 12 else 9), [some (qA 0), some (qI x1), some (qI x2), none, none, none], [], qH0 M)) rfl)
set_option maxRecDepth 20000 in
theorem B_X11_taken_9 {M : qMem} {x1 x2 : Int} : qlim C_X11_taken (9, [some (qA 0), some (qI x1), some (qI x2), none, none, none], [], qH0 M) = some (some (qI (-2)), qH0 M) := by
  refine Eq.trans (qlim_n (n := 1) (c' := (11, [some (qA 0), some (qI x1), some (qI x2), none, none, none], [qI (-2)], qH0 M)) rfl) ?_
  exact (qlim_ret rfl)
set_option maxRecDepth 20000 in
theorem B_X11_taken_12 {M : qMem} {x1 x2 : Int} : qlim C_X11_taken (12, [some (qA 0), some (qI x1), some (qI x2), none, none, none], [], qH0 M) = qbd (S_X11_isPerson [qA 0, qI x1] (qH0 M)) (fun r h' => qlim C_X11_taken (17, [some (qA 0), some (qI x1), some (qI x2), none, none, none], r.toList ++ [], h')) := by
  refine Eq.trans (qlim_n (n := 2) (c' := (14, [some (qA 0), some (qI x1), some (qI x2), none, none, none], [qI x1, qA 0], qH0 M)) rfl) ?_
  exact (qlim_callv (n := 1) rfl rfl rfl (Nat.le_of_ble_eq_true rfl) (Nat.le_of_ble_eq_true rfl) rfl)
set_option maxRecDepth 20000 in
theorem B_X11_taken_17 {M : qMem} {x1 x2 s0 : Int} : qlim C_X11_taken (17, [some (qA 0), some (qI x1), some (qI x2), none, none, none], [qI s0], qH0 M) = qlim C_X11_taken ((if ¬ s0 = 0 then 23 else 20), [some (qA 0), some (qI x1), some (qI x2), none, none, none], [], qH0 M) := (qlim_n (n := 1) (c' := ((if ¬ s0 = 0 then 23 else 20), [some (qA 0), some (qI x1), some (qI x2), none, none, none], [], qH0 M)) rfl)
set_option maxRecDepth 20000 in
theorem B_X11_taken_20 {M : qMem} {x1 x2 : Int} : qlim C_X11_taken (20, [some (qA 0), some (qI x1), some (qI x2), none, none, none], [], qH0 M) = some (some (qI (-11)), qH0 M) := by
  refine Eq.trans (qlim_n (n := 1) (c' := (22, [some (qA 0), some (qI x1), some (qI x2), none, none, none], [qI (-11)], qH0 M)) rfl) ?_
  exact (qlim_ret rfl)
set_option maxRecDepth 20000 in
theorem B_X11_taken_23 {M : qMem} {x1 x2 : Int} (h1 : 0 ≤ x1) (h2 : x1 < 6) : qlim C_X11_taken (23, [some (qA 0), some (qI x1), some (qI x2), none, none, none], [], qH0 M) = qlim C_X11_taken (39, [some (qA 0), some (qI x1), some (qI x2), some (qI (M 14 x1)), some (qI (M 14 x1)), some (qI 0)], [], qH0 M) := by
  refine Eq.trans (qlim_n (n := 4) (c' := (31, [some (qA 0), some (qI x1), some (qI x2), none, none, none], [qI x1, qA 14], qH0 M)) rfl) ?_
  refine Eq.trans (qs_iaload rfl rfl h1 h2) ?_
  exact (qlim_n (n := 5) (c' := (39, [some (qA 0), some (qI x1), some (qI x2), some (qI (M 14 x1)), some (qI (M 14 x1)), some (qI 0)], [], qH0 M)) rfl)
set_option maxRecDepth 20000 in
theorem B_X11_taken_39 {M : qMem} {x1 x2 x3 x4 x5 : Int} : qlim C_X11_taken (39, [some (qA 0), some (qI x1), some (qI x2), some (qI x3), some (qI x4), some (qI x5)], [], qH0 M) = qlim C_X11_taken ((if 7 ≤ x5 then 73 else 46), [some (qA 0), some (qI x1), some (qI x2), some (qI x3), some (qI x4), some (qI x5)], [], qH0 M) := (qlim_n (n := 3) (c' := ((if 7 ≤ x5 then 73 else 46), [some (qA 0), some (qI x1), some (qI x2), some (qI x3), some (qI x4), some (qI x5)], [], qH0 M)) rfl)
set_option maxRecDepth 20000 in
theorem B_X11_taken_46 {M : qMem} {x1 x2 x3 x4 x5 : Int} : qlim C_X11_taken (46, [some (qA 0), some (qI x1), some (qI x2), some (qI x3), some (qI x4), some (qI x5)], [], qH0 M) = qlim C_X11_taken ((if x4 < 0 then 73 else 51), [some (qA 0), some (qI x1), some (qI x2), some (qI x3), some (qI x4), some (qI x5)], [], qH0 M) := (qlim_n (n := 2) (c' := ((if x4 < 0 then 73 else 51), [some (qA 0), some (qI x1), some (qI x2), some (qI x3), some (qI x4), some (qI x5)], [], qH0 M)) rfl)
set_option maxRecDepth 20000 in
theorem B_X11_taken_51 {M : qMem} {x1 x2 x3 x4 x5 : Int} : qlim C_X11_taken (51, [some (qA 0), some (qI x1), some (qI x2), some (qI x3), some (qI x4), some (qI x5)], [], qH0 M) = qlim C_X11_taken ((if ¬ x4 = x2 then 59 else 57), [some (qA 0), some (qI x1), some (qI x2), some (qI x3), some (qI x4), some (qI x5)], [], qH0 M) := (qlim_n (n := 3) (c' := ((if ¬ x4 = x2 then 59 else 57), [some (qA 0), some (qI x1), some (qI x2), some (qI x3), some (qI x4), some (qI x5)], [], qH0 M)) rfl)
set_option maxRecDepth 20000 in
theorem B_X11_taken_57 {M : qMem} {x1 x2 x3 x4 x5 : Int} : qlim C_X11_taken (57, [some (qA 0), some (qI x1), some (qI x2), some (qI x3), some (qI x4), some (qI x5)], [], qH0 M) = some (some (qI x3), qH0 M) := by
  refine Eq.trans (qlim_n (n := 1) (c' := (58, [some (qA 0), some (qI x1), some (qI x2), some (qI x3), some (qI x4), some (qI x5)], [qI x3], qH0 M)) rfl) ?_
  exact (qlim_ret rfl)
set_option maxRecDepth 20000 in
theorem B_X11_taken_59 {M : qMem} {x1 x2 x3 x4 x5 : Int} (h1 : 0 ≤ x4) (h2 : x4 < 7) : qlim C_X11_taken (59, [some (qA 0), some (qI x1), some (qI x2), some (qI x3), some (qI x4), some (qI x5)], [], qH0 M) = qlim C_X11_taken (39, [some (qA 0), some (qI x1), some (qI x2), some (qI x3), some (qI (qKT.getD x4.toNat 0)), some (qI (kadd x5 1))], [], qH0 M) := by
  refine Eq.trans (qlim_n (n := 2) (c' := (64, [some (qA 0), some (qI x1), some (qI x2), some (qI x3), some (qI x4), some (qI x5)], [qI x4, qA (-11)], qH0 M)) rfl) ?_
  refine Eq.trans (qs_tld rfl h1 h2) ?_
  exact (qlim_n (n := 3) (c' := (39, [some (qA 0), some (qI x1), some (qI x2), some (qI x3), some (qI (qKT.getD x4.toNat 0)), some (qI (kadd x5 1))], [], qH0 M)) rfl)
set_option maxRecDepth 20000 in
theorem B_X11_taken_73 {M : qMem} {x1 x2 x3 x4 x5 : Int} : qlim C_X11_taken (73, [some (qA 0), some (qI x1), some (qI x2), some (qI x3), some (qI x4), some (qI x5)], [], qH0 M) = some (some (qI (-12)), qH0 M) := by
  refine Eq.trans (qlim_n (n := 1) (c' := (75, [some (qA 0), some (qI x1), some (qI x2), some (qI x3), some (qI x4), some (qI x5)], [qI (-12)], qH0 M)) rfl) ?_
  exact (qlim_ret rfl)
theorem E_X11_taken {h : qH} {x1 x2 : Int} : S_X11_taken [qA 0, qI x1, qI x2] h = qlim C_X11_taken (0, [some (qA 0), some (qI x1), some (qI x2), none, none, none], [], h) := qM_at (Nat.le_of_ble_eq_true rfl) rfl
set_option maxRecDepth 20000 in
theorem B_X11_count_0 {M : qMem} {x1 : Int} : qlim C_X11_count (0, [some (qA 0), some (qI x1)], [], qH0 M) = qlim C_X11_count (qtk [44, 52, 57, 65, 73, 81, 86] 94 0 x1, [some (qA 0), some (qI x1)], [], qH0 M) := (qlim_n (n := 2) (c' := (qtk [44, 52, 57, 65, 73, 81, 86] 94 0 x1, [some (qA 0), some (qI x1)], [], qH0 M)) rfl)
set_option maxRecDepth 20000 in
theorem B_X11_count_44 {M : qMem} {x1 : Int} : qlim C_X11_count (44, [some (qA 0), some (qI x1)], [], qH0 M) = some (some (qI (M 12 10)), qH0 M) := by
  refine Eq.trans (qlim_n (n := 3) (c' := (51, [some (qA 0), some (qI x1)], [qI (M 12 10)], qH0 M)) rfl) ?_
  exact (qlim_ret rfl)
set_option maxRecDepth 20000 in
theorem B_X11_count_52 {M : qMem} {x1 : Int} : qlim C_X11_count (52, [some (qA 0), some (qI x1)], [], qH0 M) = some (some (qI (M 0 13)), qH0 M) := by
  refine Eq.trans (qlim_n (n := 2) (c' := (56, [some (qA 0), some (qI x1)], [qI (M 0 13)], qH0 M)) rfl) ?_
  exact (qlim_ret rfl)
set_option maxRecDepth 20000 in
theorem B_X11_count_57 {M : qMem} {x1 : Int} : qlim C_X11_count (57, [some (qA 0), some (qI x1)], [], qH0 M) = some (some (qI (M 39 3)), qH0 M) := by
  refine Eq.trans (qlim_n (n := 3) (c' := (64, [some (qA 0), some (qI x1)], [qI (M 39 3)], qH0 M)) rfl) ?_
  exact (qlim_ret rfl)
set_option maxRecDepth 20000 in
theorem B_X11_count_65 {M : qMem} {x1 : Int} : qlim C_X11_count (65, [some (qA 0), some (qI x1)], [], qH0 M) = some (some (qI (M 41 3)), qH0 M) := by
  refine Eq.trans (qlim_n (n := 3) (c' := (72, [some (qA 0), some (qI x1)], [qI (M 41 3)], qH0 M)) rfl) ?_
  exact (qlim_ret rfl)
set_option maxRecDepth 20000 in
theorem B_X11_count_73 {M : qMem} {x1 : Int} : qlim C_X11_count (73, [some (qA 0), some (qI x1)], [], qH0 M) = some (some (qI (M 43 3)), qH0 M) := by
  refine Eq.trans (qlim_n (n := 3) (c' := (80, [some (qA 0), some (qI x1)], [qI (M 43 3)], qH0 M)) rfl) ?_
  exact (qlim_ret rfl)
set_option maxRecDepth 20000 in
theorem B_X11_count_81 {M : qMem} {x1 : Int} : qlim C_X11_count (81, [some (qA 0), some (qI x1)], [], qH0 M) = some (some (qI (M 0 11)), qH0 M) := by
  refine Eq.trans (qlim_n (n := 2) (c' := (85, [some (qA 0), some (qI x1)], [qI (M 0 11)], qH0 M)) rfl) ?_
  exact (qlim_ret rfl)
set_option maxRecDepth 20000 in
theorem B_X11_count_86 {M : qMem} {x1 : Int} : qlim C_X11_count (86, [some (qA 0), some (qI x1)], [], qH0 M) = some (some (qI (M 71 3)), qH0 M) := by
  refine Eq.trans (qlim_n (n := 3) (c' := (93, [some (qA 0), some (qI x1)], [qI (M 71 3)], qH0 M)) rfl) ?_
  exact (qlim_ret rfl)
set_option maxRecDepth 20000 in
theorem B_X11_count_94 {M : qMem} {x1 : Int} : qlim C_X11_count (94, [some (qA 0), some (qI x1)], [], qH0 M) = some (some (qI (-2)), qH0 M) := by
  refine Eq.trans (qlim_n (n := 1) (c' := (96, [some (qA 0), some (qI x1)], [qI (-2)], qH0 M)) rfl) ?_
  exact (qlim_ret rfl)
theorem E_X11_count {h : qH} {x1 : Int} : S_X11_count [qA 0, qI x1] h = qlim C_X11_count (0, [some (qA 0), some (qI x1)], [], h) := qM_at (Nat.le_of_ble_eq_true rfl) rfl
set_option maxRecDepth 20000 in
theorem B_X11_tape_0 {M : qMem} {x1 x2 x3 : Int} : qlim C_X11_tape (0, [some (qA 0), some (qI x1), some (qI x2), some (qI x3), none], [], qH0 M) = qbd (S_X11_isTape [qI x1] (qH0 M)) (fun r h' => qlim C_X11_tape (4, [some (qA 0), some (qI x1), some (qI x2), some (qI x3), none], r.toList ++ [], h')) := by
  refine Eq.trans (qlim_n (n := 1) (c' := (1, [some (qA 0), some (qI x1), some (qI x2), some (qI x3), none], [qI x1], qH0 M)) rfl) ?_
  exact (qlim_calls (n := 1) rfl rfl rfl (Nat.le_of_ble_eq_true rfl) (Nat.le_of_ble_eq_true rfl))
set_option maxRecDepth 20000 in
theorem B_X11_tape_4 {M : qMem} {x1 x2 x3 s0 : Int} : qlim C_X11_tape (4, [some (qA 0), some (qI x1), some (qI x2), some (qI x3), none], [qI s0], qH0 M) = qlim C_X11_tape ((if ¬ s0 = 0 then 9 else 7), [some (qA 0), some (qI x1), some (qI x2), some (qI x3), none], [], qH0 M) := (qlim_n (n := 1) (c' := ((if ¬ s0 = 0 then 9 else 7), [some (qA 0), some (qI x1), some (qI x2), some (qI x3), none], [], qH0 M)) rfl)
set_option maxRecDepth 20000 in
theorem B_X11_tape_7 {M : qMem} {x1 x2 x3 : Int} : qlim C_X11_tape (7, [some (qA 0), some (qI x1), some (qI x2), some (qI x3), none], [], qH0 M) = some (some (qI (-1)), qH0 M) := by
  refine Eq.trans (qlim_n (n := 1) (c' := (8, [some (qA 0), some (qI x1), some (qI x2), some (qI x3), none], [qI (-1)], qH0 M)) rfl) ?_
  exact (qlim_ret rfl)
set_option maxRecDepth 20000 in
theorem B_X11_tape_9 {M : qMem} {x1 x2 x3 : Int} : qlim C_X11_tape (9, [some (qA 0), some (qI x1), some (qI x2), some (qI x3), none], [], qH0 M) = qlim C_X11_tape ((if ¬ x2 = (-1) then 23 else 14), [some (qA 0), some (qI x1), some (qI x2), some (qI x3), none], [], qH0 M) := (qlim_n (n := 3) (c' := ((if ¬ x2 = (-1) then 23 else 14), [some (qA 0), some (qI x1), some (qI x2), some (qI x3), none], [], qH0 M)) rfl)
set_option maxRecDepth 20000 in
theorem B_X11_tape_14 {M : qMem} {x1 x2 x3 : Int} (h1 : 0 ≤ x1) (h2 : x1 < 6) : qlim C_X11_tape (14, [some (qA 0), some (qI x1), some (qI x2), some (qI x3), none], [], qH0 M) = some (some (qI 1), qH0 (qup M 73 x1 (-1))) := by
  refine Eq.trans (qlim_n (n := 4) (c' := (20, [some (qA 0), some (qI x1), some (qI x2), some (qI x3), none], [qI (-1), qI x1, qA 73], qH0 M)) rfl) ?_
  refine Eq.trans (qs_iastore rfl rfl h1 h2) ?_
  refine Eq.trans (qlim_n (n := 1) (c' := (22, [some (qA 0), some (qI x1), some (qI x2), some (qI x3), none], [qI 1], qH0 (qup M 73 x1 (-1)))) rfl) ?_
  exact (qlim_ret rfl)
set_option maxRecDepth 20000 in
theorem B_X11_tape_23 {M : qMem} {x1 x2 x3 : Int} : qlim C_X11_tape (23, [some (qA 0), some (qI x1), some (qI x2), some (qI x3), none], [], qH0 M) = qbd (S_X11_isIn [qI x2, qI 4] (qH0 M)) (fun r h' => qlim C_X11_tape (28, [some (qA 0), some (qI x1), some (qI x2), some (qI x3), none], r.toList ++ [], h')) := by
  refine Eq.trans (qlim_n (n := 2) (c' := (25, [some (qA 0), some (qI x1), some (qI x2), some (qI x3), none], [qI 4, qI x2], qH0 M)) rfl) ?_
  exact (qlim_calls (n := 2) rfl rfl rfl (Nat.le_of_ble_eq_true rfl) (Nat.le_of_ble_eq_true rfl))
set_option maxRecDepth 20000 in
theorem B_X11_tape_28 {M : qMem} {x1 x2 x3 s0 : Int} : qlim C_X11_tape (28, [some (qA 0), some (qI x1), some (qI x2), some (qI x3), none], [qI s0], qH0 M) = qlim C_X11_tape ((if s0 = 0 then 37 else 31), [some (qA 0), some (qI x1), some (qI x2), some (qI x3), none], [], qH0 M) := (qlim_n (n := 1) (c' := ((if s0 = 0 then 37 else 31), [some (qA 0), some (qI x1), some (qI x2), some (qI x3), none], [], qH0 M)) rfl)
set_option maxRecDepth 20000 in
theorem B_X11_tape_31 {M : qMem} {x1 x2 x3 : Int} : qlim C_X11_tape (31, [some (qA 0), some (qI x1), some (qI x2), some (qI x3), none], [], qH0 M) = qlim C_X11_tape ((if x3 ≤ 60 then 40 else 37), [some (qA 0), some (qI x1), some (qI x2), some (qI x3), none], [], qH0 M) := (qlim_n (n := 3) (c' := ((if x3 ≤ 60 then 40 else 37), [some (qA 0), some (qI x1), some (qI x2), some (qI x3), none], [], qH0 M)) rfl)
set_option maxRecDepth 20000 in
theorem B_X11_tape_37 {M : qMem} {x1 x2 x3 : Int} : qlim C_X11_tape (37, [some (qA 0), some (qI x1), some (qI x2), some (qI x3), none], [], qH0 M) = some (some (qI (-2)), qH0 M) := by
  refine Eq.trans (qlim_n (n := 1) (c' := (39, [some (qA 0), some (qI x1), some (qI x2), some (qI x3), none], [qI (-2)], qH0 M)) rfl) ?_
  exact (qlim_ret rfl)
set_option maxRecDepth 20000 in
theorem B_X11_tape_40 {M : qMem} {x1 x2 x3 : Int} : qlim C_X11_tape (40, [some (qA 0), some (qI x1), some (qI x2), some (qI x3), none], [], qH0 M) = qlim C_X11_tape ((if 0 ≤ x3 then 47 else 44), [some (qA 0), some (qI x1), some (qI x2), some (qI x3), none], [], qH0 M) := (qlim_n (n := 2) (c' := ((if 0 ≤ x3 then 47 else 44), [some (qA 0), some (qI x1), some (qI x2), some (qI x3), none], [], qH0 M)) rfl)
set_option maxRecDepth 20000 in
theorem B_X11_tape_44 {M : qMem} {x1 x2 x3 : Int} : qlim C_X11_tape (44, [some (qA 0), some (qI x1), some (qI x2), some (qI x3), none], [], qH0 M) = some (some (qI (-14)), qH0 M) := by
  refine Eq.trans (qlim_n (n := 1) (c' := (46, [some (qA 0), some (qI x1), some (qI x2), some (qI x3), none], [qI (-14)], qH0 M)) rfl) ?_
  exact (qlim_ret rfl)
set_option maxRecDepth 20000 in
theorem B_X11_tape_47 {M : qMem} {x1 x2 x3 : Int} (h1 : 0 ≤ x1) (h2 : x1 < 6) : qlim C_X11_tape (47, [some (qA 0), some (qI x1), some (qI x2), some (qI x3), none], [], qH0 M) = qlim C_X11_tape (64, [some (qA 0), some (qI x1), some (qI x2), some (qI x3), some (qI 0)], [], qH0 (qup (qup M 73 x1 x2) 74 x1 x3)) := by
  refine Eq.trans (qlim_n (n := 4) (c' := (53, [some (qA 0), some (qI x1), some (qI x2), some (qI x3), none], [qI x2, qI x1, qA 73], qH0 M)) rfl) ?_
  refine Eq.trans (qs_iastore rfl rfl h1 h2) ?_
  refine Eq.trans (qlim_n (n := 4) (c' := (60, [some (qA 0), some (qI x1), some (qI x2), some (qI x3), none], [qI x3, qI x1, qA 74], qH0 (qup M 73 x1 x2))) rfl) ?_
  refine Eq.trans (qs_iastore rfl rfl h1 h2) ?_
  exact (qlim_n (n := 2) (c' := (64, [some (qA 0), some (qI x1), some (qI x2), some (qI x3), some (qI 0)], [], qH0 (qup (qup M 73 x1 x2) 74 x1 x3))) rfl)
set_option maxRecDepth 20000 in
theorem B_X11_tape_64 {M : qMem} {x1 x2 x3 x4 : Int} : qlim C_X11_tape (64, [some (qA 0), some (qI x1), some (qI x2), some (qI x3), some (qI x4)], [], qH0 M) = qlim C_X11_tape ((if x3 ≤ x4 then 86 else 70), [some (qA 0), some (qI x1), some (qI x2), some (qI x3), some (qI x4)], [], qH0 M) := (qlim_n (n := 3) (c' := ((if x3 ≤ x4 then 86 else 70), [some (qA 0), some (qI x1), some (qI x2), some (qI x3), some (qI x4)], [], qH0 M)) rfl)
set_option maxRecDepth 20000 in
theorem B_X11_tape_70 {M : qMem} {x1 x2 x3 x4 : Int} {n_qG075x1 : Nat} (h1 : 0 ≤ x1) (h2 : x1 < 6) (h3 : qty (qH0 M) (qG0 75 x1) = (103, n_qG075x1)) (h4 : 0 ≤ x4) (h5 : x4 < n_qG075x1) : qlim C_X11_tape (70, [some (qA 0), some (qI x1), some (qI x2), some (qI x3), some (qI x4)], [], qH0 M) = qlim C_X11_tape (64, [some (qA 0), some (qI x1), some (qI x2), some (qI x3), some (qI (kadd x4 1))], [], qH0 (qup M (qG0 75 x1) x4 0)) := by
  refine Eq.trans (qlim_n (n := 3) (c' := (75, [some (qA 0), some (qI x1), some (qI x2), some (qI x3), some (qI x4)], [qI x1, qA 75], qH0 M)) rfl) ?_
  refine Eq.trans (qs_aaload rfl rfl (by decide) h1 h2) ?_
  refine Eq.trans (qlim_n (n := 2) (c' := (79, [some (qA 0), some (qI x1), some (qI x2), some (qI x3), some (qI x4)], [qJ 0, qI x4, qA (qG0 75 x1)], qH0 M)) rfl) ?_
  refine Eq.trans (qs_lastore rfl h3 h4 h5) ?_
  exact (qlim_n (n := 2) (c' := (64, [some (qA 0), some (qI x1), some (qI x2), some (qI x3), some (qI (kadd x4 1))], [], qH0 (qup M (qG0 75 x1) x4 0))) rfl)
set_option maxRecDepth 20000 in
theorem B_X11_tape_86 {M : qMem} {x1 x2 x3 x4 : Int} : qlim C_X11_tape (86, [some (qA 0), some (qI x1), some (qI x2), some (qI x3), some (qI x4)], [], qH0 M) = some (some (qI 1), qH0 M) := by
  refine Eq.trans (qlim_n (n := 1) (c' := (87, [some (qA 0), some (qI x1), some (qI x2), some (qI x3), some (qI x4)], [qI 1], qH0 M)) rfl) ?_
  exact (qlim_ret rfl)
theorem E_X11_tape {h : qH} {x1 x2 x3 : Int} : S_X11_tape [qA 0, qI x1, qI x2, qI x3] h = qlim C_X11_tape (0, [some (qA 0), some (qI x1), some (qI x2), some (qI x3), none], [], h) := qM_at (Nat.le_of_ble_eq_true rfl) rfl
set_option maxRecDepth 20000 in
theorem B_X11_item_0 {M : qMem} {x1 x2 x3 : Int} : qlim C_X11_item (0, [some (qA 0), some (qI x1), some (qI x2), some (qJ x3), none], [], qH0 M) = qbd (S_X11_isTape [qI x1] (qH0 M)) (fun r h' => qlim C_X11_item (4, [some (qA 0), some (qI x1), some (qI x2), some (qJ x3), none], r.toList ++ [], h')) := by
  refine Eq.trans (qlim_n (n := 1) (c' := (1, [some (qA 0), some (qI x1), some (qI x2), some (qJ x3), none], [qI x1], qH0 M)) rfl) ?_
  exact (qlim_calls (n := 1) rfl rfl rfl (Nat.le_of_ble_eq_true rfl) (Nat.le_of_ble_eq_true rfl))
set_option maxRecDepth 20000 in
theorem B_X11_item_4 {M : qMem} {x1 x2 x3 s0 : Int} : qlim C_X11_item (4, [some (qA 0), some (qI x1), some (qI x2), some (qJ x3), none], [qI s0], qH0 M) = qlim C_X11_item ((if ¬ s0 = 0 then 9 else 7), [some (qA 0), some (qI x1), some (qI x2), some (qJ x3), none], [], qH0 M) := (qlim_n (n := 1) (c' := ((if ¬ s0 = 0 then 9 else 7), [some (qA 0), some (qI x1), some (qI x2), some (qJ x3), none], [], qH0 M)) rfl)
set_option maxRecDepth 20000 in
theorem B_X11_item_7 {M : qMem} {x1 x2 x3 : Int} : qlim C_X11_item (7, [some (qA 0), some (qI x1), some (qI x2), some (qJ x3), none], [], qH0 M) = some (some (qI (-1)), qH0 M) := by
  refine Eq.trans (qlim_n (n := 1) (c' := (8, [some (qA 0), some (qI x1), some (qI x2), some (qJ x3), none], [qI (-1)], qH0 M)) rfl) ?_
  exact (qlim_ret rfl)
set_option maxRecDepth 20000 in
theorem B_X11_item_9 {M : qMem} {x1 x2 x3 : Int} (h1 : 0 ≤ x1) (h2 : x1 < 6) : qlim C_X11_item (9, [some (qA 0), some (qI x1), some (qI x2), some (qJ x3), none], [], qH0 M) = qlim C_X11_item ((if ¬ M 73 x1 = (-1) then 22 else 19), [some (qA 0), some (qI x1), some (qI x2), some (qJ x3), none], [], qH0 M) := by
  refine Eq.trans (qlim_n (n := 3) (c' := (14, [some (qA 0), some (qI x1), some (qI x2), some (qJ x3), none], [qI x1, qA 73], qH0 M)) rfl) ?_
  refine Eq.trans (qs_iaload rfl rfl h1 h2) ?_
  exact (qlim_n (n := 2) (c' := ((if ¬ M 73 x1 = (-1) then 22 else 19), [some (qA 0), some (qI x1), some (qI x2), some (qJ x3), none], [], qH0 M)) rfl)
set_option maxRecDepth 20000 in
theorem B_X11_item_19 {M : qMem} {x1 x2 x3 : Int} : qlim C_X11_item (19, [some (qA 0), some (qI x1), some (qI x2), some (qJ x3), none], [], qH0 M) = some (some (qI (-11)), qH0 M) := by
  refine Eq.trans (qlim_n (n := 1) (c' := (21, [some (qA 0), some (qI x1), some (qI x2), some (qJ x3), none], [qI (-11)], qH0 M)) rfl) ?_
  exact (qlim_ret rfl)
set_option maxRecDepth 20000 in
theorem B_X11_item_22 {M : qMem} {x1 x2 x3 : Int} : qlim C_X11_item (22, [some (qA 0), some (qI x1), some (qI x2), some (qJ x3), none], [], qH0 M) = qlim C_X11_item ((if x2 < 0 then 36 else 26), [some (qA 0), some (qI x1), some (qI x2), some (qJ x3), none], [], qH0 M) := (qlim_n (n := 2) (c' := ((if x2 < 0 then 36 else 26), [some (qA 0), some (qI x1), some (qI x2), some (qJ x3), none], [], qH0 M)) rfl)
set_option maxRecDepth 20000 in
theorem B_X11_item_26 {M : qMem} {x1 x2 x3 : Int} (h1 : 0 ≤ x1) (h2 : x1 < 6) : qlim C_X11_item (26, [some (qA 0), some (qI x1), some (qI x2), some (qJ x3), none], [], qH0 M) = qlim C_X11_item ((if x2 < M 74 x1 then 39 else 36), [some (qA 0), some (qI x1), some (qI x2), some (qJ x3), none], [], qH0 M) := by
  refine Eq.trans (qlim_n (n := 4) (c' := (32, [some (qA 0), some (qI x1), some (qI x2), some (qJ x3), none], [qI x1, qA 74, qI x2], qH0 M)) rfl) ?_
  refine Eq.trans (qs_iaload rfl rfl h1 h2) ?_
  exact (qlim_n (n := 1) (c' := ((if x2 < M 74 x1 then 39 else 36), [some (qA 0), some (qI x1), some (qI x2), some (qJ x3), none], [], qH0 M)) rfl)
set_option maxRecDepth 20000 in
theorem B_X11_item_36 {M : qMem} {x1 x2 x3 : Int} : qlim C_X11_item (36, [some (qA 0), some (qI x1), some (qI x2), some (qJ x3), none], [], qH0 M) = some (some (qI (-13)), qH0 M) := by
  refine Eq.trans (qlim_n (n := 1) (c' := (38, [some (qA 0), some (qI x1), some (qI x2), some (qJ x3), none], [qI (-13)], qH0 M)) rfl) ?_
  exact (qlim_ret rfl)
set_option maxRecDepth 20000 in
theorem B_X11_item_39 {M : qMem} {x1 x2 x3 : Int} (h1 : 0 ≤ x1) (h2 : x1 < 6) : qlim C_X11_item (39, [some (qA 0), some (qI x1), some (qI x2), some (qJ x3), none], [], qH0 M) = qbd (S_X11_asItem [qI (M 73 x1), qJ x3] (qH0 M)) (fun r h' => qlim C_X11_item (56, [some (qA 0), some (qI x1), some (qI x2), some (qJ x3), none], r.toList ++ [qI x2, qA (qG0 75 x1)], h')) := by
  refine Eq.trans (qlim_n (n := 3) (c' := (44, [some (qA 0), some (qI x1), some (qI x2), some (qJ x3), none], [qI x1, qA 75], qH0 M)) rfl) ?_
  refine Eq.trans (qs_aaload rfl rfl (by decide) h1 h2) ?_
  refine Eq.trans (qlim_n (n := 4) (c' := (51, [some (qA 0), some (qI x1), some (qI x2), some (qJ x3), none], [qI x1, qA 73, qI x2, qA (qG0 75 x1)], qH0 M)) rfl) ?_
  refine Eq.trans (qs_iaload rfl rfl h1 h2) ?_
  refine Eq.trans (qlim_n (n := 1) (c' := (53, [some (qA 0), some (qI x1), some (qI x2), some (qJ x3), none], [qJ x3, qI (M 73 x1), qI x2, qA (qG0 75 x1)], qH0 M)) rfl) ?_
  exact (qlim_calls (n := 2) rfl rfl rfl (Nat.le_of_ble_eq_true rfl) (Nat.le_of_ble_eq_true rfl))
set_option maxRecDepth 20000 in
theorem B_X11_item_56 {M : qMem} {x1 x2 x3 s0 s1 s2 : Int} {n_s0 : Nat} (h1 : qty (qH0 M) s0 = (103, n_s0)) (h2 : 0 ≤ s1) (h3 : s1 < n_s0) : qlim C_X11_item (56, [some (qA 0), some (qI x1), some (qI x2), some (qJ x3), none], [qJ s2, qI s1, qA s0], qH0 M) = some (some (qI 1), qH0 (qup M s0 s1 s2)) := by
  refine Eq.trans (qs_lastore rfl h1 h2 h3) ?_
  refine Eq.trans (qlim_n (n := 1) (c' := (58, [some (qA 0), some (qI x1), some (qI x2), some (qJ x3), none], [qI 1], qH0 (qup M s0 s1 s2))) rfl) ?_
  exact (qlim_ret rfl)
theorem E_X11_item {h : qH} {x1 x2 x3 : Int} : S_X11_item [qA 0, qI x1, qI x2, qJ x3] h = qlim C_X11_item (0, [some (qA 0), some (qI x1), some (qI x2), some (qJ x3), none], [], h) := qM_at (Nat.le_of_ble_eq_true rfl) rfl
set_option maxRecDepth 20000 in
theorem B_X11_asItem_0 {M : qMem} {x0 x1 : Int} : qlim C_X11_asItem (0, [some (qI x0), some (qJ x1), none], [], qH0 M) = qlim C_X11_asItem (qtk [36, 41, 46, 62, 50] 62 0 x0, [some (qI x0), some (qJ x1), none], [], qH0 M) := (qlim_n (n := 2) (c' := (qtk [36, 41, 46, 62, 50] 62 0 x0, [some (qI x0), some (qJ x1), none], [], qH0 M)) rfl)
set_option maxRecDepth 20000 in
theorem B_X11_asItem_36 {M : qMem} {x0 x1 : Int} : qlim C_X11_asItem (36, [some (qI x0), some (qJ x1), none], [], qH0 M) = some (some (qJ (ki2l (ki2b (kl2i x1)))), qH0 M) := by
  refine Eq.trans (qlim_n (n := 4) (c' := (40, [some (qI x0), some (qJ x1), none], [qJ (ki2l (ki2b (kl2i x1)))], qH0 M)) rfl) ?_
  exact (qlim_ret rfl)
set_option maxRecDepth 20000 in
theorem B_X11_asItem_41 {M : qMem} {x0 x1 : Int} : qlim C_X11_asItem (41, [some (qI x0), some (qJ x1), none], [], qH0 M) = some (some (qJ (ki2l (ki2s (kl2i x1)))), qH0 M) := by
  refine Eq.trans (qlim_n (n := 4) (c' := (45, [some (qI x0), some (qJ x1), none], [qJ (ki2l (ki2s (kl2i x1)))], qH0 M)) rfl) ?_
  exact (qlim_ret rfl)
set_option maxRecDepth 20000 in
theorem B_X11_asItem_46 {M : qMem} {x0 x1 : Int} : qlim C_X11_asItem (46, [some (qI x0), some (qJ x1), none], [], qH0 M) = some (some (qJ (ki2l (kl2i x1))), qH0 M) := by
  refine Eq.trans (qlim_n (n := 3) (c' := (49, [some (qI x0), some (qJ x1), none], [qJ (ki2l (kl2i x1))], qH0 M)) rfl) ?_
  exact (qlim_ret rfl)
set_option maxRecDepth 20000 in
theorem B_X11_asItem_50 {M : qMem} {x0 x1 : Int} : qlim C_X11_asItem (50, [some (qI x0), some (qJ x1), none], [], qH0 M) = qlim C_X11_asItem ((if jcmp x1 0 = 0 then 60 else 56), [some (qI x0), some (qJ x1), none], [], qH0 M) := (qlim_n (n := 4) (c' := ((if jcmp x1 0 = 0 then 60 else 56), [some (qI x0), some (qJ x1), none], [], qH0 M)) rfl)
set_option maxRecDepth 20000 in
theorem B_X11_asItem_56 {M : qMem} {x0 x1 : Int} : qlim C_X11_asItem (56, [some (qI x0), some (qJ x1), none], [], qH0 M) = qlim C_X11_asItem (61, [some (qI x0), some (qJ x1), none], [qJ 1], qH0 M) := (qlim_n (n := 2) (c' := (61, [some (qI x0), some (qJ x1), none], [qJ 1], qH0 M)) rfl)
set_option maxRecDepth 20000 in
theorem B_X11_asItem_60 {M : qMem} {x0 x1 : Int} : qlim C_X11_asItem (60, [some (qI x0), some (qJ x1), none], [], qH0 M) = qlim C_X11_asItem (61, [some (qI x0), some (qJ x1), none], [qJ 0], qH0 M) := (qlim_n (n := 1) (c' := (61, [some (qI x0), some (qJ x1), none], [qJ 0], qH0 M)) rfl)
set_option maxRecDepth 20000 in
theorem B_X11_asItem_61 {M : qMem} {x0 x1 s0 : Int} : qlim C_X11_asItem (61, [some (qI x0), some (qJ x1), none], [qJ s0], qH0 M) = some (some (qJ s0), qH0 M) := (qlim_ret rfl)
set_option maxRecDepth 20000 in
theorem B_X11_asItem_62 {M : qMem} {x0 x1 : Int} : qlim C_X11_asItem (62, [some (qI x0), some (qJ x1), none], [], qH0 M) = some (some (qJ x1), qH0 M) := by
  refine Eq.trans (qlim_n (n := 1) (c' := (63, [some (qI x0), some (qJ x1), none], [qJ x1], qH0 M)) rfl) ?_
  exact (qlim_ret rfl)
theorem E_X11_asItem {h : qH} {x0 x1 : Int} : S_X11_asItem [qI x0, qJ x1] h = qlim C_X11_asItem (0, [some (qI x0), some (qJ x1), none], [], h) := qM_at (Nat.le_of_ble_eq_true rfl) rfl
set_option maxRecDepth 20000 in
theorem B_X11_read_0 {M : qMem} {x1 x2 : Int} : qlim C_X11_read (0, [some (qA 0), some (qI x1), some (qI x2)], [], qH0 M) = qbd (S_X11_isTape [qI x1] (qH0 M)) (fun r h' => qlim C_X11_read (4, [some (qA 0), some (qI x1), some (qI x2)], r.toList ++ [], h')) := by
  refine Eq.trans (qlim_n (n := 1) (c' := (1, [some (qA 0), some (qI x1), some (qI x2)], [qI x1], qH0 M)) rfl) ?_
  exact (qlim_calls (n := 1) rfl rfl rfl (Nat.le_of_ble_eq_true rfl) (Nat.le_of_ble_eq_true rfl))
set_option maxRecDepth 20000 in
theorem B_X11_read_4 {M : qMem} {x1 x2 s0 : Int} : qlim C_X11_read (4, [some (qA 0), some (qI x1), some (qI x2)], [qI s0], qH0 M) = qlim C_X11_read ((if s0 = 0 then 31 else 7), [some (qA 0), some (qI x1), some (qI x2)], [], qH0 M) := (qlim_n (n := 1) (c' := ((if s0 = 0 then 31 else 7), [some (qA 0), some (qI x1), some (qI x2)], [], qH0 M)) rfl)
set_option maxRecDepth 20000 in
theorem B_X11_read_7 {M : qMem} {x1 x2 : Int} (h1 : 0 ≤ x1) (h2 : x1 < 6) : qlim C_X11_read (7, [some (qA 0), some (qI x1), some (qI x2)], [], qH0 M) = qlim C_X11_read ((if M 73 x1 = (-1) then 31 else 17), [some (qA 0), some (qI x1), some (qI x2)], [], qH0 M) := by
  refine Eq.trans (qlim_n (n := 3) (c' := (12, [some (qA 0), some (qI x1), some (qI x2)], [qI x1, qA 73], qH0 M)) rfl) ?_
  refine Eq.trans (qs_iaload rfl rfl h1 h2) ?_
  exact (qlim_n (n := 2) (c' := ((if M 73 x1 = (-1) then 31 else 17), [some (qA 0), some (qI x1), some (qI x2)], [], qH0 M)) rfl)
set_option maxRecDepth 20000 in
theorem B_X11_read_17 {M : qMem} {x1 x2 : Int} : qlim C_X11_read (17, [some (qA 0), some (qI x1), some (qI x2)], [], qH0 M) = qlim C_X11_read ((if x2 < 0 then 31 else 21), [some (qA 0), some (qI x1), some (qI x2)], [], qH0 M) := (qlim_n (n := 2) (c' := ((if x2 < 0 then 31 else 21), [some (qA 0), some (qI x1), some (qI x2)], [], qH0 M)) rfl)
set_option maxRecDepth 20000 in
theorem B_X11_read_21 {M : qMem} {x1 x2 : Int} (h1 : 0 ≤ x1) (h2 : x1 < 6) : qlim C_X11_read (21, [some (qA 0), some (qI x1), some (qI x2)], [], qH0 M) = qlim C_X11_read ((if x2 < M 74 x1 then 35 else 31), [some (qA 0), some (qI x1), some (qI x2)], [], qH0 M) := by
  refine Eq.trans (qlim_n (n := 4) (c' := (27, [some (qA 0), some (qI x1), some (qI x2)], [qI x1, qA 74, qI x2], qH0 M)) rfl) ?_
  refine Eq.trans (qs_iaload rfl rfl h1 h2) ?_
  exact (qlim_n (n := 1) (c' := ((if x2 < M 74 x1 then 35 else 31), [some (qA 0), some (qI x1), some (qI x2)], [], qH0 M)) rfl)
set_option maxRecDepth 20000 in
theorem B_X11_read_31 {M : qMem} {x1 x2 : Int} : qlim C_X11_read (31, [some (qA 0), some (qI x1), some (qI x2)], [], qH0 M) = some (some (qJ (-9223372036854775808)), qH0 M) := by
  refine Eq.trans (qlim_n (n := 1) (c' := (34, [some (qA 0), some (qI x1), some (qI x2)], [qJ (-9223372036854775808)], qH0 M)) rfl) ?_
  exact (qlim_ret rfl)
set_option maxRecDepth 20000 in
theorem B_X11_read_35 {M : qMem} {x1 x2 : Int} {n_qG075x1 : Nat} (h1 : 0 ≤ x1) (h2 : x1 < 6) (h3 : qty (qH0 M) (qG0 75 x1) = (103, n_qG075x1)) (h4 : 0 ≤ x2) (h5 : x2 < n_qG075x1) : qlim C_X11_read (35, [some (qA 0), some (qI x1), some (qI x2)], [], qH0 M) = some (some (qJ (M (qG0 75 x1) x2)), qH0 M) := by
  refine Eq.trans (qlim_n (n := 3) (c' := (40, [some (qA 0), some (qI x1), some (qI x2)], [qI x1, qA 75], qH0 M)) rfl) ?_
  refine Eq.trans (qs_aaload rfl rfl (by decide) h1 h2) ?_
  refine Eq.trans (qlim_n (n := 1) (c' := (42, [some (qA 0), some (qI x1), some (qI x2)], [qI x2, qA (qG0 75 x1)], qH0 M)) rfl) ?_
  refine Eq.trans (qs_laload rfl h3 h4 h5) ?_
  exact (qlim_ret rfl)
theorem E_X11_read {h : qH} {x1 x2 : Int} : S_X11_read [qA 0, qI x1, qI x2] h = qlim C_X11_read (0, [some (qA 0), some (qI x1), some (qI x2)], [], h) := qM_at (Nat.le_of_ble_eq_true rfl) rfl
set_option maxRecDepth 20000 in
theorem B_X11_shift_0 {M : qMem} {x1 x2 x3 x4 x5 : Int} : qlim C_X11_shift (0, [some (qA 0), some (qI x1), some (qI x2), some (qI x3), some (qI x4), some (qI x5)], [], qH0 M) = qbd (S_X11_isTape [qI x1] (qH0 M)) (fun r h' => qlim C_X11_shift (4, [some (qA 0), some (qI x1), some (qI x2), some (qI x3), some (qI x4), some (qI x5)], r.toList ++ [], h')) := by
  refine Eq.trans (qlim_n (n := 1) (c' := (1, [some (qA 0), some (qI x1), some (qI x2), some (qI x3), some (qI x4), some (qI x5)], [qI x1], qH0 M)) rfl) ?_
  exact (qlim_calls (n := 1) rfl rfl rfl (Nat.le_of_ble_eq_true rfl) (Nat.le_of_ble_eq_true rfl))
set_option maxRecDepth 20000 in
theorem B_X11_shift_4 {M : qMem} {x1 x2 x3 x4 x5 s0 : Int} : qlim C_X11_shift (4, [some (qA 0), some (qI x1), some (qI x2), some (qI x3), some (qI x4), some (qI x5)], [qI s0], qH0 M) = qlim C_X11_shift ((if s0 = 0 then 14 else 7), [some (qA 0), some (qI x1), some (qI x2), some (qI x3), some (qI x4), some (qI x5)], [], qH0 M) := (qlim_n (n := 1) (c' := ((if s0 = 0 then 14 else 7), [some (qA 0), some (qI x1), some (qI x2), some (qI x3), some (qI x4), some (qI x5)], [], qH0 M)) rfl)
set_option maxRecDepth 20000 in
theorem B_X11_shift_7 {M : qMem} {x1 x2 x3 x4 x5 : Int} : qlim C_X11_shift (7, [some (qA 0), some (qI x1), some (qI x2), some (qI x3), some (qI x4), some (qI x5)], [], qH0 M) = qbd (S_X11_isTape [qI x3] (qH0 M)) (fun r h' => qlim C_X11_shift (11, [some (qA 0), some (qI x1), some (qI x2), some (qI x3), some (qI x4), some (qI x5)], r.toList ++ [], h')) := by
  refine Eq.trans (qlim_n (n := 1) (c' := (8, [some (qA 0), some (qI x1), some (qI x2), some (qI x3), some (qI x4), some (qI x5)], [qI x3], qH0 M)) rfl) ?_
  exact (qlim_calls (n := 1) rfl rfl rfl (Nat.le_of_ble_eq_true rfl) (Nat.le_of_ble_eq_true rfl))
set_option maxRecDepth 20000 in
theorem B_X11_shift_11 {M : qMem} {x1 x2 x3 x4 x5 s0 : Int} : qlim C_X11_shift (11, [some (qA 0), some (qI x1), some (qI x2), some (qI x3), some (qI x4), some (qI x5)], [qI s0], qH0 M) = qlim C_X11_shift ((if ¬ s0 = 0 then 16 else 14), [some (qA 0), some (qI x1), some (qI x2), some (qI x3), some (qI x4), some (qI x5)], [], qH0 M) := (qlim_n (n := 1) (c' := ((if ¬ s0 = 0 then 16 else 14), [some (qA 0), some (qI x1), some (qI x2), some (qI x3), some (qI x4), some (qI x5)], [], qH0 M)) rfl)
set_option maxRecDepth 20000 in
theorem B_X11_shift_14 {M : qMem} {x1 x2 x3 x4 x5 : Int} : qlim C_X11_shift (14, [some (qA 0), some (qI x1), some (qI x2), some (qI x3), some (qI x4), some (qI x5)], [], qH0 M) = some (some (qI (-1)), qH0 M) := by
  refine Eq.trans (qlim_n (n := 1) (c' := (15, [some (qA 0), some (qI x1), some (qI x2), some (qI x3), some (qI x4), some (qI x5)], [qI (-1)], qH0 M)) rfl) ?_
  exact (qlim_ret rfl)
set_option maxRecDepth 20000 in
theorem B_X11_shift_16 {M : qMem} {x1 x2 x3 x4 x5 : Int} (h1 : 0 ≤ x1) (h2 : x1 < 6) : qlim C_X11_shift (16, [some (qA 0), some (qI x1), some (qI x2), some (qI x3), some (qI x4), some (qI x5)], [], qH0 M) = qlim C_X11_shift ((if M 73 x1 = (-1) then 36 else 26), [some (qA 0), some (qI x1), some (qI x2), some (qI x3), some (qI x4), some (qI x5)], [], qH0 M) := by
  refine Eq.trans (qlim_n (n := 3) (c' := (21, [some (qA 0), some (qI x1), some (qI x2), some (qI x3), some (qI x4), some (qI x5)], [qI x1, qA 73], qH0 M)) rfl) ?_
  refine Eq.trans (qs_iaload rfl rfl h1 h2) ?_
  exact (qlim_n (n := 2) (c' := ((if M 73 x1 = (-1) then 36 else 26), [some (qA 0), some (qI x1), some (qI x2), some (qI x3), some (qI x4), some (qI x5)], [], qH0 M)) rfl)
set_option maxRecDepth 20000 in
theorem B_X11_shift_26 {M : qMem} {x1 x2 x3 x4 x5 : Int} (h1 : 0 ≤ x3) (h2 : x3 < 6) : qlim C_X11_shift (26, [some (qA 0), some (qI x1), some (qI x2), some (qI x3), some (qI x4), some (qI x5)], [], qH0 M) = qlim C_X11_shift ((if ¬ M 73 x3 = (-1) then 39 else 36), [some (qA 0), some (qI x1), some (qI x2), some (qI x3), some (qI x4), some (qI x5)], [], qH0 M) := by
  refine Eq.trans (qlim_n (n := 3) (c' := (31, [some (qA 0), some (qI x1), some (qI x2), some (qI x3), some (qI x4), some (qI x5)], [qI x3, qA 73], qH0 M)) rfl) ?_
  refine Eq.trans (qs_iaload rfl rfl h1 h2) ?_
  exact (qlim_n (n := 2) (c' := ((if ¬ M 73 x3 = (-1) then 39 else 36), [some (qA 0), some (qI x1), some (qI x2), some (qI x3), some (qI x4), some (qI x5)], [], qH0 M)) rfl)
set_option maxRecDepth 20000 in
theorem B_X11_shift_36 {M : qMem} {x1 x2 x3 x4 x5 : Int} : qlim C_X11_shift (36, [some (qA 0), some (qI x1), some (qI x2), some (qI x3), some (qI x4), some (qI x5)], [], qH0 M) = some (some (qI (-11)), qH0 M) := by
  refine Eq.trans (qlim_n (n := 1) (c' := (38, [some (qA 0), some (qI x1), some (qI x2), some (qI x3), some (qI x4), some (qI x5)], [qI (-11)], qH0 M)) rfl) ?_
  exact (qlim_ret rfl)
set_option maxRecDepth 20000 in
theorem B_X11_shift_39 {M : qMem} {x1 x2 x3 x4 x5 : Int} (h1 : 0 ≤ x1) (h2 : x1 < 6) (h3 : 0 ≤ x3) (h4 : x3 < 6) : qlim C_X11_shift (39, [some (qA 0), some (qI x1), some (qI x2), some (qI x3), some (qI x4), some (qI x5)], [], qH0 M) = qlim C_X11_shift ((if M 73 x1 = M 73 x3 then 57 else 54), [some (qA 0), some (qI x1), some (qI x2), some (qI x3), some (qI x4), some (qI x5)], [], qH0 M) := by
  refine Eq.trans (qlim_n (n := 3) (c' := (44, [some (qA 0), some (qI x1), some (qI x2), some (qI x3), some (qI x4), some (qI x5)], [qI x1, qA 73], qH0 M)) rfl) ?_
  refine Eq.trans (qs_iaload rfl rfl h1 h2) ?_
  refine Eq.trans (qlim_n (n := 3) (c' := (50, [some (qA 0), some (qI x1), some (qI x2), some (qI x3), some (qI x4), some (qI x5)], [qI x3, qA 73, qI (M 73 x1)], qH0 M)) rfl) ?_
  refine Eq.trans (qs_iaload rfl rfl h3 h4) ?_
  exact (qlim_n (n := 1) (c' := ((if M 73 x1 = M 73 x3 then 57 else 54), [some (qA 0), some (qI x1), some (qI x2), some (qI x3), some (qI x4), some (qI x5)], [], qH0 M)) rfl)
set_option maxRecDepth 20000 in
theorem B_X11_shift_54 {M : qMem} {x1 x2 x3 x4 x5 : Int} : qlim C_X11_shift (54, [some (qA 0), some (qI x1), some (qI x2), some (qI x3), some (qI x4), some (qI x5)], [], qH0 M) = some (some (qI (-12)), qH0 M) := by
  refine Eq.trans (qlim_n (n := 1) (c' := (56, [some (qA 0), some (qI x1), some (qI x2), some (qI x3), some (qI x4), some (qI x5)], [qI (-12)], qH0 M)) rfl) ?_
  exact (qlim_ret rfl)
set_option maxRecDepth 20000 in
theorem B_X11_shift_57 {M : qMem} {x1 x2 x3 x4 x5 : Int} : qlim C_X11_shift (57, [some (qA 0), some (qI x1), some (qI x2), some (qI x3), some (qI x4), some (qI x5)], [], qH0 M) = qlim C_X11_shift ((if x5 < 0 then 98 else 62), [some (qA 0), some (qI x1), some (qI x2), some (qI x3), some (qI x4), some (qI x5)], [], qH0 M) := (qlim_n (n := 2) (c' := ((if x5 < 0 then 98 else 62), [some (qA 0), some (qI x1), some (qI x2), some (qI x3), some (qI x4), some (qI x5)], [], qH0 M)) rfl)
set_option maxRecDepth 20000 in
theorem B_X11_shift_62 {M : qMem} {x1 x2 x3 x4 x5 : Int} : qlim C_X11_shift (62, [some (qA 0), some (qI x1), some (qI x2), some (qI x3), some (qI x4), some (qI x5)], [], qH0 M) = qlim C_X11_shift ((if x2 < 0 then 98 else 66), [some (qA 0), some (qI x1), some (qI x2), some (qI x3), some (qI x4), some (qI x5)], [], qH0 M) := (qlim_n (n := 2) (c' := ((if x2 < 0 then 98 else 66), [some (qA 0), some (qI x1), some (qI x2), some (qI x3), some (qI x4), some (qI x5)], [], qH0 M)) rfl)
set_option maxRecDepth 20000 in
theorem B_X11_shift_66 {M : qMem} {x1 x2 x3 x4 x5 : Int} : qlim C_X11_shift (66, [some (qA 0), some (qI x1), some (qI x2), some (qI x3), some (qI x4), some (qI x5)], [], qH0 M) = qlim C_X11_shift ((if x4 < 0 then 98 else 71), [some (qA 0), some (qI x1), some (qI x2), some (qI x3), some (qI x4), some (qI x5)], [], qH0 M) := (qlim_n (n := 2) (c' := ((if x4 < 0 then 98 else 71), [some (qA 0), some (qI x1), some (qI x2), some (qI x3), some (qI x4), some (qI x5)], [], qH0 M)) rfl)
set_option maxRecDepth 20000 in
theorem B_X11_shift_71 {M : qMem} {x1 x2 x3 x4 x5 : Int} (h1 : 0 ≤ x1) (h2 : x1 < 6) : qlim C_X11_shift (71, [some (qA 0), some (qI x1), some (qI x2), some (qI x3), some (qI x4), some (qI x5)], [], qH0 M) = qlim C_X11_shift ((if ksub (M 74 x1) x2 < x5 then 98 else 84), [some (qA 0), some (qI x1), some (qI x2), some (qI x3), some (qI x4), some (qI x5)], [], qH0 M) := by
  refine Eq.trans (qlim_n (n := 4) (c' := (78, [some (qA 0), some (qI x1), some (qI x2), some (qI x3), some (qI x4), some (qI x5)], [qI x1, qA 74, qI x5], qH0 M)) rfl) ?_
  refine Eq.trans (qs_iaload rfl rfl h1 h2) ?_
  exact (qlim_n (n := 3) (c' := ((if ksub (M 74 x1) x2 < x5 then 98 else 84), [some (qA 0), some (qI x1), some (qI x2), some (qI x3), some (qI x4), some (qI x5)], [], qH0 M)) rfl)
set_option maxRecDepth 20000 in
theorem B_X11_shift_84 {M : qMem} {x1 x2 x3 x4 x5 : Int} (h1 : 0 ≤ x3) (h2 : x3 < 6) : qlim C_X11_shift (84, [some (qA 0), some (qI x1), some (qI x2), some (qI x3), some (qI x4), some (qI x5)], [], qH0 M) = qlim C_X11_shift ((if x5 ≤ ksub (M 74 x3) x4 then 101 else 98), [some (qA 0), some (qI x1), some (qI x2), some (qI x3), some (qI x4), some (qI x5)], [], qH0 M) := by
  refine Eq.trans (qlim_n (n := 4) (c' := (91, [some (qA 0), some (qI x1), some (qI x2), some (qI x3), some (qI x4), some (qI x5)], [qI x3, qA 74, qI x5], qH0 M)) rfl) ?_
  refine Eq.trans (qs_iaload rfl rfl h1 h2) ?_
  exact (qlim_n (n := 3) (c' := ((if x5 ≤ ksub (M 74 x3) x4 then 101 else 98), [some (qA 0), some (qI x1), some (qI x2), some (qI x3), some (qI x4), some (qI x5)], [], qH0 M)) rfl)
set_option maxRecDepth 20000 in
theorem B_X11_shift_98 {M : qMem} {x1 x2 x3 x4 x5 : Int} : qlim C_X11_shift (98, [some (qA 0), some (qI x1), some (qI x2), some (qI x3), some (qI x4), some (qI x5)], [], qH0 M) = some (some (qI (-13)), qH0 M) := by
  refine Eq.trans (qlim_n (n := 1) (c' := (100, [some (qA 0), some (qI x1), some (qI x2), some (qI x3), some (qI x4), some (qI x5)], [qI (-13)], qH0 M)) rfl) ?_
  exact (qlim_ret rfl)
set_option maxRecDepth 20000 in
theorem B_X11_shift_101 {M : qMem} {x1 x2 x3 x4 x5 : Int} {n_qG075x1 n_qG075x3 : Nat} (h1 : 0 ≤ x1) (h2 : x1 < 6) (h3 : 0 ≤ x3) (h4 : x3 < 6) (h5 : qty (qH0 M) (qG0 75 x1) = (103, n_qG075x1)) (h6 : qty (qH0 M) (qG0 75 x3) = (103, n_qG075x3)) (h7 : 0 ≤ x2) (h8 : 0 ≤ x4) (h9 : 0 ≤ x5) (h10 : x2 + x5 ≤ n_qG075x1) (h11 : x4 + x5 ≤ n_qG075x3) : qlim C_X11_shift (101, [some (qA 0), some (qI x1), some (qI x2), some (qI x3), some (qI x4), some (qI x5)], [], qH0 M) = some (some (qI x5), qH0 (qcp M (qG0 75 x1) x2 (qG0 75 x3) x4 x5)) := by
  refine Eq.trans (qlim_n (n := 3) (c' := (106, [some (qA 0), some (qI x1), some (qI x2), some (qI x3), some (qI x4), some (qI x5)], [qI x1, qA 75], qH0 M)) rfl) ?_
  refine Eq.trans (qs_aaload rfl rfl (by decide) h1 h2) ?_
  refine Eq.trans (qlim_n (n := 4) (c' := (113, [some (qA 0), some (qI x1), some (qI x2), some (qI x3), some (qI x4), some (qI x5)], [qI x3, qA 75, qI x2, qA (qG0 75 x1)], qH0 M)) rfl) ?_
  refine Eq.trans (qs_aaload rfl rfl (by decide) h3 h4) ?_
  refine Eq.trans (qlim_n (n := 2) (c' := (118, [some (qA 0), some (qI x1), some (qI x2), some (qI x3), some (qI x4), some (qI x5)], [qI x5, qI x4, qA (qG0 75 x3), qI x2, qA (qG0 75 x1)], qH0 M)) rfl) ?_
  refine Eq.trans (qs_copyl rfl h5 h6 h7 h8 h9 h10 h11 (by decide)) ?_
  refine Eq.trans (qlim_n (n := 1) (c' := (123, [some (qA 0), some (qI x1), some (qI x2), some (qI x3), some (qI x4), some (qI x5)], [qI x5], qH0 (qcp M (qG0 75 x1) x2 (qG0 75 x3) x4 x5))) rfl) ?_
  exact (qlim_ret rfl)
theorem E_X11_shift {h : qH} {x1 x2 x3 x4 x5 : Int} : S_X11_shift [qA 0, qI x1, qI x2, qI x3, qI x4, qI x5] h = qlim C_X11_shift (0, [some (qA 0), some (qI x1), some (qI x2), some (qI x3), some (qI x4), some (qI x5)], [], h) := qM_at (Nat.le_of_ble_eq_true rfl) rfl
set_option maxRecDepth 20000 in
theorem B_X11_isIn_0 {M : qMem} {x0 x1 : Int} : qlim C_X11_isIn (0, [some (qI x0), some (qI x1)], [], qH0 M) = qlim C_X11_isIn ((if x0 < 0 then 13 else 4), [some (qI x0), some (qI x1)], [], qH0 M) := (qlim_n (n := 2) (c' := ((if x0 < 0 then 13 else 4), [some (qI x0), some (qI x1)], [], qH0 M)) rfl)
set_option maxRecDepth 20000 in
theorem B_X11_isIn_4 {M : qMem} {x0 x1 : Int} : qlim C_X11_isIn (4, [some (qI x0), some (qI x1)], [], qH0 M) = qlim C_X11_isIn ((if x1 < x0 then 13 else 9), [some (qI x0), some (qI x1)], [], qH0 M) := (qlim_n (n := 3) (c' := ((if x1 < x0 then 13 else 9), [some (qI x0), some (qI x1)], [], qH0 M)) rfl)
set_option maxRecDepth 20000 in
theorem B_X11_isIn_9 {M : qMem} {x0 x1 : Int} : qlim C_X11_isIn (9, [some (qI x0), some (qI x1)], [], qH0 M) = qlim C_X11_isIn (14, [some (qI x0), some (qI x1)], [qI 1], qH0 M) := (qlim_n (n := 2) (c' := (14, [some (qI x0), some (qI x1)], [qI 1], qH0 M)) rfl)
set_option maxRecDepth 20000 in
theorem B_X11_isIn_13 {M : qMem} {x0 x1 : Int} : qlim C_X11_isIn (13, [some (qI x0), some (qI x1)], [], qH0 M) = qlim C_X11_isIn (14, [some (qI x0), some (qI x1)], [qI 0], qH0 M) := (qlim_n (n := 1) (c' := (14, [some (qI x0), some (qI x1)], [qI 0], qH0 M)) rfl)
set_option maxRecDepth 20000 in
theorem B_X11_isIn_14 {M : qMem} {x0 x1 s0 : Int} (h1 : s0 = 0 ∨ s0 = 1) : qlim C_X11_isIn (14, [some (qI x0), some (qI x1)], [qI s0], qH0 M) = some (some (qI s0), qH0 M) := (qs_retZ rfl h1)
theorem E_X11_isIn {h : qH} {x0 x1 : Int} : S_X11_isIn [qI x0, qI x1] h = qlim C_X11_isIn (0, [some (qI x0), some (qI x1)], [], h) := qM_at (Nat.le_of_ble_eq_true rfl) rfl
set_option maxRecDepth 20000 in
theorem B_X11_isHeap_0 {M : qMem} {x0 : Int} : qlim C_X11_isHeap (0, [some (qI x0)], [], qH0 M) = qlim C_X11_isHeap ((if x0 < 0 then 13 else 4), [some (qI x0)], [], qH0 M) := (qlim_n (n := 2) (c' := ((if x0 < 0 then 13 else 4), [some (qI x0)], [], qH0 M)) rfl)
set_option maxRecDepth 20000 in
theorem B_X11_isHeap_4 {M : qMem} {x0 : Int} : qlim C_X11_isHeap (4, [some (qI x0)], [], qH0 M) = qlim C_X11_isHeap ((if 5 ≤ x0 then 13 else 9), [some (qI x0)], [], qH0 M) := (qlim_n (n := 3) (c' := ((if 5 ≤ x0 then 13 else 9), [some (qI x0)], [], qH0 M)) rfl)
set_option maxRecDepth 20000 in
theorem B_X11_isHeap_9 {M : qMem} {x0 : Int} : qlim C_X11_isHeap (9, [some (qI x0)], [], qH0 M) = qlim C_X11_isHeap (14, [some (qI x0)], [qI 1], qH0 M) := (qlim_n (n := 2) (c' := (14, [some (qI x0)], [qI 1], qH0 M)) rfl)
set_option maxRecDepth 20000 in
theorem B_X11_isHeap_13 {M : qMem} {x0 : Int} : qlim C_X11_isHeap (13, [some (qI x0)], [], qH0 M) = qlim C_X11_isHeap (14, [some (qI x0)], [qI 0], qH0 M) := (qlim_n (n := 1) (c' := (14, [some (qI x0)], [qI 0], qH0 M)) rfl)
set_option maxRecDepth 20000 in
theorem B_X11_isHeap_14 {M : qMem} {x0 s0 : Int} (h1 : s0 = 0 ∨ s0 = 1) : qlim C_X11_isHeap (14, [some (qI x0)], [qI s0], qH0 M) = some (some (qI s0), qH0 M) := (qs_retZ rfl h1)
theorem E_X11_isHeap {h : qH} {x0 : Int} : S_X11_isHeap [qI x0] h = qlim C_X11_isHeap (0, [some (qI x0)], [], h) := qM_at (Nat.le_of_ble_eq_true rfl) rfl
set_option maxRecDepth 20000 in
theorem B_X11_isWork_0 {M : qMem} {x0 : Int} : qlim C_X11_isWork (0, [some (qI x0)], [], qH0 M) = qlim C_X11_isWork ((if x0 < 0 then 13 else 4), [some (qI x0)], [], qH0 M) := (qlim_n (n := 2) (c' := ((if x0 < 0 then 13 else 4), [some (qI x0)], [], qH0 M)) rfl)
set_option maxRecDepth 20000 in
theorem B_X11_isWork_4 {M : qMem} {x0 : Int} : qlim C_X11_isWork (4, [some (qI x0)], [], qH0 M) = qlim C_X11_isWork ((if 4 ≤ x0 then 13 else 9), [some (qI x0)], [], qH0 M) := (qlim_n (n := 3) (c' := ((if 4 ≤ x0 then 13 else 9), [some (qI x0)], [], qH0 M)) rfl)
set_option maxRecDepth 20000 in
theorem B_X11_isWork_9 {M : qMem} {x0 : Int} : qlim C_X11_isWork (9, [some (qI x0)], [], qH0 M) = qlim C_X11_isWork (14, [some (qI x0)], [qI 1], qH0 M) := (qlim_n (n := 2) (c' := (14, [some (qI x0)], [qI 1], qH0 M)) rfl)
set_option maxRecDepth 20000 in
theorem B_X11_isWork_13 {M : qMem} {x0 : Int} : qlim C_X11_isWork (13, [some (qI x0)], [], qH0 M) = qlim C_X11_isWork (14, [some (qI x0)], [qI 0], qH0 M) := (qlim_n (n := 1) (c' := (14, [some (qI x0)], [qI 0], qH0 M)) rfl)
set_option maxRecDepth 20000 in
theorem B_X11_isWork_14 {M : qMem} {x0 s0 : Int} (h1 : s0 = 0 ∨ s0 = 1) : qlim C_X11_isWork (14, [some (qI x0)], [qI s0], qH0 M) = some (some (qI s0), qH0 M) := (qs_retZ rfl h1)
theorem E_X11_isWork {h : qH} {x0 : Int} : S_X11_isWork [qI x0] h = qlim C_X11_isWork (0, [some (qI x0)], [], h) := qM_at (Nat.le_of_ble_eq_true rfl) rfl
set_option maxRecDepth 20000 in
theorem B_X11_isTape_0 {M : qMem} {x0 : Int} : qlim C_X11_isTape (0, [some (qI x0)], [], qH0 M) = qlim C_X11_isTape ((if x0 < 0 then 14 else 4), [some (qI x0)], [], qH0 M) := (qlim_n (n := 2) (c' := ((if x0 < 0 then 14 else 4), [some (qI x0)], [], qH0 M)) rfl)
set_option maxRecDepth 20000 in
theorem B_X11_isTape_4 {M : qMem} {x0 : Int} : qlim C_X11_isTape (4, [some (qI x0)], [], qH0 M) = qlim C_X11_isTape ((if 6 ≤ x0 then 14 else 10), [some (qI x0)], [], qH0 M) := (qlim_n (n := 3) (c' := ((if 6 ≤ x0 then 14 else 10), [some (qI x0)], [], qH0 M)) rfl)
set_option maxRecDepth 20000 in
theorem B_X11_isTape_10 {M : qMem} {x0 : Int} : qlim C_X11_isTape (10, [some (qI x0)], [], qH0 M) = qlim C_X11_isTape (15, [some (qI x0)], [qI 1], qH0 M) := (qlim_n (n := 2) (c' := (15, [some (qI x0)], [qI 1], qH0 M)) rfl)
set_option maxRecDepth 20000 in
theorem B_X11_isTape_14 {M : qMem} {x0 : Int} : qlim C_X11_isTape (14, [some (qI x0)], [], qH0 M) = qlim C_X11_isTape (15, [some (qI x0)], [qI 0], qH0 M) := (qlim_n (n := 1) (c' := (15, [some (qI x0)], [qI 0], qH0 M)) rfl)
set_option maxRecDepth 20000 in
theorem B_X11_isTape_15 {M : qMem} {x0 s0 : Int} (h1 : s0 = 0 ∨ s0 = 1) : qlim C_X11_isTape (15, [some (qI x0)], [qI s0], qH0 M) = some (some (qI s0), qH0 M) := (qs_retZ rfl h1)
theorem E_X11_isTape {h : qH} {x0 : Int} : S_X11_isTape [qI x0] h = qlim C_X11_isTape (0, [some (qI x0)], [], h) := qM_at (Nat.le_of_ble_eq_true rfl) rfl
set_option maxRecDepth 20000 in
theorem B_X11_isPerson_0 {M : qMem} {x1 : Int} : qlim C_X11_isPerson (0, [some (qA 0), some (qI x1)], [], qH0 M) = qlim C_X11_isPerson ((if x1 < 0 then 19 else 4), [some (qA 0), some (qI x1)], [], qH0 M) := (qlim_n (n := 2) (c' := ((if x1 < 0 then 19 else 4), [some (qA 0), some (qI x1)], [], qH0 M)) rfl)
set_option maxRecDepth 20000 in
theorem B_X11_isPerson_4 {M : qMem} {x1 : Int} : qlim C_X11_isPerson (4, [some (qA 0), some (qI x1)], [], qH0 M) = qlim C_X11_isPerson ((if M 12 10 ≤ x1 then 19 else 15), [some (qA 0), some (qI x1)], [], qH0 M) := (qlim_n (n := 5) (c' := ((if M 12 10 ≤ x1 then 19 else 15), [some (qA 0), some (qI x1)], [], qH0 M)) rfl)
set_option maxRecDepth 20000 in
theorem B_X11_isPerson_15 {M : qMem} {x1 : Int} : qlim C_X11_isPerson (15, [some (qA 0), some (qI x1)], [], qH0 M) = qlim C_X11_isPerson (20, [some (qA 0), some (qI x1)], [qI 1], qH0 M) := (qlim_n (n := 2) (c' := (20, [some (qA 0), some (qI x1)], [qI 1], qH0 M)) rfl)
set_option maxRecDepth 20000 in
theorem B_X11_isPerson_19 {M : qMem} {x1 : Int} : qlim C_X11_isPerson (19, [some (qA 0), some (qI x1)], [], qH0 M) = qlim C_X11_isPerson (20, [some (qA 0), some (qI x1)], [qI 0], qH0 M) := (qlim_n (n := 1) (c' := (20, [some (qA 0), some (qI x1)], [qI 0], qH0 M)) rfl)
set_option maxRecDepth 20000 in
theorem B_X11_isPerson_20 {M : qMem} {x1 s0 : Int} (h1 : s0 = 0 ∨ s0 = 1) : qlim C_X11_isPerson (20, [some (qA 0), some (qI x1)], [qI s0], qH0 M) = some (some (qI s0), qH0 M) := (qs_retZ rfl h1)
theorem E_X11_isPerson {h : qH} {x1 : Int} : S_X11_isPerson [qA 0, qI x1] h = qlim C_X11_isPerson (0, [some (qA 0), some (qI x1)], [], h) := qM_at (Nat.le_of_ble_eq_true rfl) rfl
