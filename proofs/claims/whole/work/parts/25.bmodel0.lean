set_option maxRecDepth 20000 in
theorem B_X12_in_0 {M : qMem} {x1 x2 x3 : Int} : qlim C_X12_in (0, [some (qA 82), some (qI x1), some (qI x2), some (qI x3)], [], qH0 M) = qlim C_X12_in ((if x1 < x2 then 14 else 5), [some (qA 82), some (qI x1), some (qI x2), some (qI x3)], [], qH0 M) := (qlim_n (n := 3) (c' := ((if x1 < x2 then 14 else 5), [some (qA 82), some (qI x1), some (qI x2), some (qI x3)], [], qH0 M)) rfl)
set_option maxRecDepth 20000 in
theorem B_X12_in_5 {M : qMem} {x1 x2 x3 : Int} : qlim C_X12_in (5, [some (qA 82), some (qI x1), some (qI x2), some (qI x3)], [], qH0 M) = qlim C_X12_in ((if x3 < x1 then 14 else 10), [some (qA 82), some (qI x1), some (qI x2), some (qI x3)], [], qH0 M) := (qlim_n (n := 3) (c' := ((if x3 < x1 then 14 else 10), [some (qA 82), some (qI x1), some (qI x2), some (qI x3)], [], qH0 M)) rfl)
set_option maxRecDepth 20000 in
theorem B_X12_in_10 {M : qMem} {x1 x2 x3 : Int} : qlim C_X12_in (10, [some (qA 82), some (qI x1), some (qI x2), some (qI x3)], [], qH0 M) = qlim C_X12_in (15, [some (qA 82), some (qI x1), some (qI x2), some (qI x3)], [qI 1], qH0 M) := (qlim_n (n := 2) (c' := (15, [some (qA 82), some (qI x1), some (qI x2), some (qI x3)], [qI 1], qH0 M)) rfl)
set_option maxRecDepth 20000 in
theorem B_X12_in_14 {M : qMem} {x1 x2 x3 : Int} : qlim C_X12_in (14, [some (qA 82), some (qI x1), some (qI x2), some (qI x3)], [], qH0 M) = qlim C_X12_in (15, [some (qA 82), some (qI x1), some (qI x2), some (qI x3)], [qI 0], qH0 M) := (qlim_n (n := 1) (c' := (15, [some (qA 82), some (qI x1), some (qI x2), some (qI x3)], [qI 0], qH0 M)) rfl)
set_option maxRecDepth 20000 in
theorem B_X12_in_15 {M : qMem} {x1 x2 x3 s0 : Int} (h1 : s0 = 0 ∨ s0 = 1) : qlim C_X12_in (15, [some (qA 82), some (qI x1), some (qI x2), some (qI x3)], [qI s0], qH0 M) = some (some (qI s0), qH0 M) := (qs_retZ rfl h1)
theorem E_X12_in {h : qH} {x1 x2 x3 : Int} : S_X12_in [qA 82, qI x1, qI x2, qI x3] h = qlim C_X12_in (0, [some (qA 82), some (qI x1), some (qI x2), some (qI x3)], [], h) := qM_at (Nat.le_of_ble_eq_true rfl) rfl
set_option maxRecDepth 20000 in
theorem B_X12_has_0 {M : qMem} {x1 x2 : Int} : qlim C_X12_has (0, [some (qA 82), some (qI x1), some (qI x2)], [], qH0 M) = qlim C_X12_has ((if ¬ kand (kshr x1 x2) 1 = 1 then 13 else 9), [some (qA 82), some (qI x1), some (qI x2)], [], qH0 M) := (qlim_n (n := 7) (c' := ((if ¬ kand (kshr x1 x2) 1 = 1 then 13 else 9), [some (qA 82), some (qI x1), some (qI x2)], [], qH0 M)) rfl)
set_option maxRecDepth 20000 in
theorem B_X12_has_9 {M : qMem} {x1 x2 : Int} : qlim C_X12_has (9, [some (qA 82), some (qI x1), some (qI x2)], [], qH0 M) = qlim C_X12_has (14, [some (qA 82), some (qI x1), some (qI x2)], [qI 1], qH0 M) := (qlim_n (n := 2) (c' := (14, [some (qA 82), some (qI x1), some (qI x2)], [qI 1], qH0 M)) rfl)
set_option maxRecDepth 20000 in
theorem B_X12_has_13 {M : qMem} {x1 x2 : Int} : qlim C_X12_has (13, [some (qA 82), some (qI x1), some (qI x2)], [], qH0 M) = qlim C_X12_has (14, [some (qA 82), some (qI x1), some (qI x2)], [qI 0], qH0 M) := (qlim_n (n := 1) (c' := (14, [some (qA 82), some (qI x1), some (qI x2)], [qI 0], qH0 M)) rfl)
set_option maxRecDepth 20000 in
theorem B_X12_has_14 {M : qMem} {x1 x2 s0 : Int} (h1 : s0 = 0 ∨ s0 = 1) : qlim C_X12_has (14, [some (qA 82), some (qI x1), some (qI x2)], [qI s0], qH0 M) = some (some (qI s0), qH0 M) := (qs_retZ rfl h1)
theorem E_X12_has {h : qH} {x1 x2 : Int} : S_X12_has [qA 82, qI x1, qI x2] h = qlim C_X12_has (0, [some (qA 82), some (qI x1), some (qI x2)], [], h) := qM_at (Nat.le_of_ble_eq_true rfl) rfl
set_option maxRecDepth 20000 in
theorem B_X12_least_0 {M : qMem} {x1 x2 : Int} : qlim C_X12_least (0, [some (qA 82), some (qI x1), some (qI x2)], [], qH0 M) = qlim C_X12_least ((if x2 ≤ x1 then 9 else 5), [some (qA 82), some (qI x1), some (qI x2)], [], qH0 M) := (qlim_n (n := 3) (c' := ((if x2 ≤ x1 then 9 else 5), [some (qA 82), some (qI x1), some (qI x2)], [], qH0 M)) rfl)
set_option maxRecDepth 20000 in
theorem B_X12_least_5 {M : qMem} {x1 x2 : Int} : qlim C_X12_least (5, [some (qA 82), some (qI x1), some (qI x2)], [], qH0 M) = qlim C_X12_least (10, [some (qA 82), some (qI x1), some (qI x2)], [qI x1], qH0 M) := (qlim_n (n := 2) (c' := (10, [some (qA 82), some (qI x1), some (qI x2)], [qI x1], qH0 M)) rfl)
set_option maxRecDepth 20000 in
theorem B_X12_least_9 {M : qMem} {x1 x2 : Int} : qlim C_X12_least (9, [some (qA 82), some (qI x1), some (qI x2)], [], qH0 M) = qlim C_X12_least (10, [some (qA 82), some (qI x1), some (qI x2)], [qI x2], qH0 M) := (qlim_n (n := 1) (c' := (10, [some (qA 82), some (qI x1), some (qI x2)], [qI x2], qH0 M)) rfl)
set_option maxRecDepth 20000 in
theorem B_X12_least_10 {M : qMem} {x1 x2 s0 : Int} : qlim C_X12_least (10, [some (qA 82), some (qI x1), some (qI x2)], [qI s0], qH0 M) = some (some (qI s0), qH0 M) := (qlim_ret rfl)
theorem E_X12_least {h : qH} {x1 x2 : Int} : S_X12_least [qA 82, qI x1, qI x2] h = qlim C_X12_least (0, [some (qA 82), some (qI x1), some (qI x2)], [], h) := qM_at (Nat.le_of_ble_eq_true rfl) rfl
set_option maxRecDepth 20000 in
theorem B_X12_isPerson_0 {M : qMem} {x1 : Int} : qlim C_X12_isPerson (0, [some (qA 82), some (qI x1)], [], qH0 M) = qbd (S_X12_in [qA 82, qI x1, qI 0, qI (ksub (M 82 0) 1)] (qH0 M)) (fun r h' => qlim C_X12_isPerson (12, [some (qA 82), some (qI x1)], r.toList ++ [], h')) := by
  refine Eq.trans (qlim_n (n := 7) (c' := (9, [some (qA 82), some (qI x1)], [qI (ksub (M 82 0) 1), qI 0, qI x1, qA 82], qH0 M)) rfl) ?_
  exact (qlim_callv (n := 3) rfl rfl rfl (Nat.le_of_ble_eq_true rfl) (Nat.le_of_ble_eq_true rfl) rfl)
set_option maxRecDepth 20000 in
theorem B_X12_isPerson_12 {M : qMem} {x1 s0 : Int} (h1 : s0 = 0 ∨ s0 = 1) : qlim C_X12_isPerson (12, [some (qA 82), some (qI x1)], [qI s0], qH0 M) = some (some (qI s0), qH0 M) := (qs_retZ rfl h1)
theorem E_X12_isPerson {h : qH} {x1 : Int} : S_X12_isPerson [qA 82, qI x1] h = qlim C_X12_isPerson (0, [some (qA 82), some (qI x1)], [], h) := qM_at (Nat.le_of_ble_eq_true rfl) rfl
set_option maxRecDepth 20000 in
theorem B_X12_isWork_0 {M : qMem} {x1 : Int} : qlim C_X12_isWork (0, [some (qA 82), some (qI x1)], [], qH0 M) = qbd (S_X12_in [qA 82, qI x1, qI 0, qI 3] (qH0 M)) (fun r h' => qlim C_X12_isWork (7, [some (qA 82), some (qI x1)], r.toList ++ [], h')) := by
  refine Eq.trans (qlim_n (n := 4) (c' := (4, [some (qA 82), some (qI x1)], [qI 3, qI 0, qI x1, qA 82], qH0 M)) rfl) ?_
  exact (qlim_callv (n := 3) rfl rfl rfl (Nat.le_of_ble_eq_true rfl) (Nat.le_of_ble_eq_true rfl) rfl)
set_option maxRecDepth 20000 in
theorem B_X12_isWork_7 {M : qMem} {x1 s0 : Int} (h1 : s0 = 0 ∨ s0 = 1) : qlim C_X12_isWork (7, [some (qA 82), some (qI x1)], [qI s0], qH0 M) = some (some (qI s0), qH0 M) := (qs_retZ rfl h1)
theorem E_X12_isWork {h : qH} {x1 : Int} : S_X12_isWork [qA 82, qI x1] h = qlim C_X12_isWork (0, [some (qA 82), some (qI x1)], [], h) := qM_at (Nat.le_of_ble_eq_true rfl) rfl
set_option maxRecDepth 20000 in
theorem B_X12_isHeap_0 {M : qMem} {x1 : Int} : qlim C_X12_isHeap (0, [some (qA 82), some (qI x1)], [], qH0 M) = qbd (S_X12_in [qA 82, qI x1, qI 0, qI 4] (qH0 M)) (fun r h' => qlim C_X12_isHeap (7, [some (qA 82), some (qI x1)], r.toList ++ [], h')) := by
  refine Eq.trans (qlim_n (n := 4) (c' := (4, [some (qA 82), some (qI x1)], [qI 4, qI 0, qI x1, qA 82], qH0 M)) rfl) ?_
  exact (qlim_callv (n := 3) rfl rfl rfl (Nat.le_of_ble_eq_true rfl) (Nat.le_of_ble_eq_true rfl) rfl)
set_option maxRecDepth 20000 in
theorem B_X12_isHeap_7 {M : qMem} {x1 s0 : Int} (h1 : s0 = 0 ∨ s0 = 1) : qlim C_X12_isHeap (7, [some (qA 82), some (qI x1)], [qI s0], qH0 M) = some (some (qI s0), qH0 M) := (qs_retZ rfl h1)
theorem E_X12_isHeap {h : qH} {x1 : Int} : S_X12_isHeap [qA 82, qI x1] h = qlim C_X12_isHeap (0, [some (qA 82), some (qI x1)], [], h) := qM_at (Nat.le_of_ble_eq_true rfl) rfl
set_option maxRecDepth 20000 in
theorem B_X12_isLetters_0 {M : qMem} {x1 : Int} : qlim C_X12_isLetters (0, [some (qA 82), some (qI x1)], [], qH0 M) = qbd (S_X12_in [qA 82, qI x1, qI 0, qI 9999] (qH0 M)) (fun r h' => qlim C_X12_isLetters (9, [some (qA 82), some (qI x1)], r.toList ++ [], h')) := by
  refine Eq.trans (qlim_n (n := 4) (c' := (6, [some (qA 82), some (qI x1)], [qI 9999, qI 0, qI x1, qA 82], qH0 M)) rfl) ?_
  exact (qlim_callv (n := 3) rfl rfl rfl (Nat.le_of_ble_eq_true rfl) (Nat.le_of_ble_eq_true rfl) rfl)
set_option maxRecDepth 20000 in
theorem B_X12_isLetters_9 {M : qMem} {x1 s0 : Int} (h1 : s0 = 0 ∨ s0 = 1) : qlim C_X12_isLetters (9, [some (qA 82), some (qI x1)], [qI s0], qH0 M) = some (some (qI s0), qH0 M) := (qs_retZ rfl h1)
theorem E_X12_isLetters {h : qH} {x1 : Int} : S_X12_isLetters [qA 82, qI x1] h = qlim C_X12_isLetters (0, [some (qA 82), some (qI x1)], [], h) := qM_at (Nat.le_of_ble_eq_true rfl) rfl
set_option maxRecDepth 20000 in
theorem B_X12_isMinutes_0 {M : qMem} {x1 : Int} : qlim C_X12_isMinutes (0, [some (qA 82), some (qI x1)], [], qH0 M) = qbd (S_X12_in [qA 82, qI x1, qI 0, qI 60] (qH0 M)) (fun r h' => qlim C_X12_isMinutes (8, [some (qA 82), some (qI x1)], r.toList ++ [], h')) := by
  refine Eq.trans (qlim_n (n := 4) (c' := (5, [some (qA 82), some (qI x1)], [qI 60, qI 0, qI x1, qA 82], qH0 M)) rfl) ?_
  exact (qlim_callv (n := 3) rfl rfl rfl (Nat.le_of_ble_eq_true rfl) (Nat.le_of_ble_eq_true rfl) rfl)
set_option maxRecDepth 20000 in
theorem B_X12_isMinutes_8 {M : qMem} {x1 s0 : Int} (h1 : s0 = 0 ∨ s0 = 1) : qlim C_X12_isMinutes (8, [some (qA 82), some (qI x1)], [qI s0], qH0 M) = some (some (qI s0), qH0 M) := (qs_retZ rfl h1)
theorem E_X12_isMinutes {h : qH} {x1 : Int} : S_X12_isMinutes [qA 82, qI x1] h = qlim C_X12_isMinutes (0, [some (qA 82), some (qI x1)], [], h) := qM_at (Nat.le_of_ble_eq_true rfl) rfl
set_option maxRecDepth 20000 in
theorem B_X12_person_0 {M : qMem} {x1 x2 x3 : Int} : qlim C_X12_person (0, [some (qA 82), some (qI x1), some (qI x2), some (qI x3), none], [], qH0 M) = qbd (S_X12_in [qA 82, qI x1, qI 0, qI 6] (qH0 M)) (fun r h' => qlim C_X12_person (8, [some (qA 82), some (qI x1), some (qI x2), some (qI x3), none], r.toList ++ [], h')) := by
  refine Eq.trans (qlim_n (n := 4) (c' := (5, [some (qA 82), some (qI x1), some (qI x2), some (qI x3), none], [qI 6, qI 0, qI x1, qA 82], qH0 M)) rfl) ?_
  exact (qlim_callv (n := 3) rfl rfl rfl (Nat.le_of_ble_eq_true rfl) (Nat.le_of_ble_eq_true rfl) rfl)
set_option maxRecDepth 20000 in
theorem B_X12_person_8 {M : qMem} {x1 x2 x3 s0 : Int} : qlim C_X12_person (8, [some (qA 82), some (qI x1), some (qI x2), some (qI x3), none], [qI s0], qH0 M) = qlim C_X12_person ((if s0 = 0 then 19 else 11), [some (qA 82), some (qI x1), some (qI x2), some (qI x3), none], [], qH0 M) := (qlim_n (n := 1) (c' := ((if s0 = 0 then 19 else 11), [some (qA 82), some (qI x1), some (qI x2), some (qI x3), none], [], qH0 M)) rfl)
set_option maxRecDepth 20000 in
theorem B_X12_person_11 {M : qMem} {x1 x2 x3 : Int} : qlim C_X12_person (11, [some (qA 82), some (qI x1), some (qI x2), some (qI x3), none], [], qH0 M) = qbd (S_X12_isWork [qA 82, qI x3] (qH0 M)) (fun r h' => qlim C_X12_person (16, [some (qA 82), some (qI x1), some (qI x2), some (qI x3), none], r.toList ++ [], h')) := by
  refine Eq.trans (qlim_n (n := 2) (c' := (13, [some (qA 82), some (qI x1), some (qI x2), some (qI x3), none], [qI x3, qA 82], qH0 M)) rfl) ?_
  exact (qlim_callv (n := 1) rfl rfl rfl (Nat.le_of_ble_eq_true rfl) (Nat.le_of_ble_eq_true rfl) rfl)
set_option maxRecDepth 20000 in
theorem B_X12_person_16 {M : qMem} {x1 x2 x3 s0 : Int} : qlim C_X12_person (16, [some (qA 82), some (qI x1), some (qI x2), some (qI x3), none], [qI s0], qH0 M) = qlim C_X12_person ((if ¬ s0 = 0 then 21 else 19), [some (qA 82), some (qI x1), some (qI x2), some (qI x3), none], [], qH0 M) := (qlim_n (n := 1) (c' := ((if ¬ s0 = 0 then 21 else 19), [some (qA 82), some (qI x1), some (qI x2), some (qI x3), none], [], qH0 M)) rfl)
set_option maxRecDepth 20000 in
theorem B_X12_person_19 {M : qMem} {x1 x2 x3 : Int} : qlim C_X12_person (19, [some (qA 82), some (qI x1), some (qI x2), some (qI x3), none], [], qH0 M) = some (some (qI (-1)), qH0 M) := by
  refine Eq.trans (qlim_n (n := 1) (c' := (20, [some (qA 82), some (qI x1), some (qI x2), some (qI x3), none], [qI (-1)], qH0 M)) rfl) ?_
  exact (qlim_ret rfl)
set_option maxRecDepth 20000 in
theorem B_X12_person_21 {M : qMem} {x1 x2 x3 : Int} : qlim C_X12_person (21, [some (qA 82), some (qI x1), some (qI x2), some (qI x3), none], [], qH0 M) = qbd (S_X12_in [qA 82, qI x2, qI 0, qI 9] (qH0 M)) (fun r h' => qlim C_X12_person (29, [some (qA 82), some (qI x1), some (qI x2), some (qI x3), none], r.toList ++ [], h')) := by
  refine Eq.trans (qlim_n (n := 4) (c' := (26, [some (qA 82), some (qI x1), some (qI x2), some (qI x3), none], [qI 9, qI 0, qI x2, qA 82], qH0 M)) rfl) ?_
  exact (qlim_callv (n := 3) rfl rfl rfl (Nat.le_of_ble_eq_true rfl) (Nat.le_of_ble_eq_true rfl) rfl)
set_option maxRecDepth 20000 in
theorem B_X12_person_29 {M : qMem} {x1 x2 x3 s0 : Int} : qlim C_X12_person (29, [some (qA 82), some (qI x1), some (qI x2), some (qI x3), none], [qI s0], qH0 M) = qlim C_X12_person ((if ¬ s0 = 0 then 35 else 32), [some (qA 82), some (qI x1), some (qI x2), some (qI x3), none], [], qH0 M) := (qlim_n (n := 1) (c' := ((if ¬ s0 = 0 then 35 else 32), [some (qA 82), some (qI x1), some (qI x2), some (qI x3), none], [], qH0 M)) rfl)
set_option maxRecDepth 20000 in
theorem B_X12_person_32 {M : qMem} {x1 x2 x3 : Int} : qlim C_X12_person (32, [some (qA 82), some (qI x1), some (qI x2), some (qI x3), none], [], qH0 M) = some (some (qI (-2)), qH0 M) := by
  refine Eq.trans (qlim_n (n := 1) (c' := (34, [some (qA 82), some (qI x1), some (qI x2), some (qI x3), none], [qI (-2)], qH0 M)) rfl) ?_
  exact (qlim_ret rfl)
set_option maxRecDepth 20000 in
theorem B_X12_person_35 {M : qMem} {x1 x2 x3 : Int} : qlim C_X12_person (35, [some (qA 82), some (qI x1), some (qI x2), some (qI x3), none], [], qH0 M) = qlim C_X12_person ((if ¬ M 82 0 = 6 then 47 else 44), [some (qA 82), some (qI x1), some (qI x2), some (qI x3), none], [], qH0 M) := (qlim_n (n := 4) (c' := ((if ¬ M 82 0 = 6 then 47 else 44), [some (qA 82), some (qI x1), some (qI x2), some (qI x3), none], [], qH0 M)) rfl)
set_option maxRecDepth 20000 in
theorem B_X12_person_44 {M : qMem} {x1 x2 x3 : Int} : qlim C_X12_person (44, [some (qA 82), some (qI x1), some (qI x2), some (qI x3), none], [], qH0 M) = some (some (qI (-4)), qH0 M) := by
  refine Eq.trans (qlim_n (n := 1) (c' := (46, [some (qA 82), some (qI x1), some (qI x2), some (qI x3), none], [qI (-4)], qH0 M)) rfl) ?_
  exact (qlim_ret rfl)
set_option maxRecDepth 20000 in
theorem B_X12_person_47 {M : qMem} {x1 x2 x3 : Int} (h1 : 0 ≤ M 82 0) (h2 : M 82 0 < 6) (h3 : 0 ≤ (qup M 84 (M 82 0) x1) 82 0) (h4 : (qup M 84 (M 82 0) x1) 82 0 < 6) (h5 : 0 ≤ (qup (qup M 84 (M 82 0) x1) 85 ((qup M 84 (M 82 0) x1) 82 0) x2) 82 0) (h6 : (qup (qup M 84 (M 82 0) x1) 85 ((qup M 84 (M 82 0) x1) 82 0) x2) 82 0 < 6) (h7 : 0 ≤ (qup (qup (qup M 84 (M 82 0) x1) 85 ((qup M 84 (M 82 0) x1) 82 0) x2) 86 ((qup (qup M 84 (M 82 0) x1) 85 ((qup M 84 (M 82 0) x1) 82 0) x2) 82 0) x3) 82 0) (h8 : (qup (qup (qup M 84 (M 82 0) x1) 85 ((qup M 84 (M 82 0) x1) 82 0) x2) 86 ((qup (qup M 84 (M 82 0) x1) 85 ((qup M 84 (M 82 0) x1) 82 0) x2) 82 0) x3) 82 0 < 6) (h9 : 0 ≤ (qup (qup (qup (qup M 84 (M 82 0) x1) 85 ((qup M 84 (M 82 0) x1) 82 0) x2) 86 ((qup (qup M 84 (M 82 0) x1) 85 ((qup M 84 (M 82 0) x1) 82 0) x2) 82 0) x3) 87 ((qup (qup (qup M 84 (M 82 0) x1) 85 ((qup M 84 (M 82 0) x1) 82 0) x2) 86 ((qup (qup M 84 (M 82 0) x1) 85 ((qup M 84 (M 82 0) x1) 82 0) x2) 82 0) x3) 82 0) 0) 82 0) (h10 : (qup (qup (qup (qup M 84 (M 82 0) x1) 85 ((qup M 84 (M 82 0) x1) 82 0) x2) 86 ((qup (qup M 84 (M 82 0) x1) 85 ((qup M 84 (M 82 0) x1) 82 0) x2) 82 0) x3) 87 ((qup (qup (qup M 84 (M 82 0) x1) 85 ((qup M 84 (M 82 0) x1) 82 0) x2) 86 ((qup (qup M 84 (M 82 0) x1) 85 ((qup M 84 (M 82 0) x1) 82 0) x2) 82 0) x3) 82 0) 0) 82 0 < 6) : qlim C_X12_person (47, [some (qA 82), some (qI x1), some (qI x2), some (qI x3), none], [], qH0 M) = qlim C_X12_person (117, [some (qA 82), some (qI x1), some (qI x2), some (qI x3), some (qI 0)], [], qH0 (qup (qup (qup (qup (qup (qup M 84 (M 82 0) x1) 85 ((qup M 84 (M 82 0) x1) 82 0) x2) 86 ((qup (qup M 84 (M 82 0) x1) 85 ((qup M 84 (M 82 0) x1) 82 0) x2) 82 0) x3) 87 ((qup (qup (qup M 84 (M 82 0) x1) 85 ((qup M 84 (M 82 0) x1) 82 0) x2) 86 ((qup (qup M 84 (M 82 0) x1) 85 ((qup M 84 (M 82 0) x1) 82 0) x2) 82 0) x3) 82 0) 0) 88 ((qup (qup (qup (qup M 84 (M 82 0) x1) 85 ((qup M 84 (M 82 0) x1) 82 0) x2) 86 ((qup (qup M 84 (M 82 0) x1) 85 ((qup M 84 (M 82 0) x1) 82 0) x2) 82 0) x3) 87 ((qup (qup (qup M 84 (M 82 0) x1) 85 ((qup M 84 (M 82 0) x1) 82 0) x2) 86 ((qup (qup M 84 (M 82 0) x1) 85 ((qup M 84 (M 82 0) x1) 82 0) x2) 82 0) x3) 82 0) 0) 82 0) 0) 82 2 (kand ((qup (qup (qup (qup (qup M 84 (M 82 0) x1) 85 ((qup M 84 (M 82 0) x1) 82 0) x2) 86 ((qup (qup M 84 (M 82 0) x1) 85 ((qup M 84 (M 82 0) x1) 82 0) x2) 82 0) x3) 87 ((qup (qup (qup M 84 (M 82 0) x1) 85 ((qup M 84 (M 82 0) x1) 82 0) x2) 86 ((qup (qup M 84 (M 82 0) x1) 85 ((qup M 84 (M 82 0) x1) 82 0) x2) 82 0) x3) 82 0) 0) 88 ((qup (qup (qup (qup M 84 (M 82 0) x1) 85 ((qup M 84 (M 82 0) x1) 82 0) x2) 86 ((qup (qup M 84 (M 82 0) x1) 85 ((qup M 84 (M 82 0) x1) 82 0) x2) 82 0) x3) 87 ((qup (qup (qup M 84 (M 82 0) x1) 85 ((qup M 84 (M 82 0) x1) 82 0) x2) 86 ((qup (qup M 84 (M 82 0) x1) 85 ((qup M 84 (M 82 0) x1) 82 0) x2) 82 0) x3) 82 0) 0) 82 0) 0) 82 2) (kxor (kshl 1 ((qup (qup (qup (qup (qup M 84 (M 82 0) x1) 85 ((qup M 84 (M 82 0) x1) 82 0) x2) 86 ((qup (qup M 84 (M 82 0) x1) 85 ((qup M 84 (M 82 0) x1) 82 0) x2) 82 0) x3) 87 ((qup (qup (qup M 84 (M 82 0) x1) 85 ((qup M 84 (M 82 0) x1) 82 0) x2) 86 ((qup (qup M 84 (M 82 0) x1) 85 ((qup M 84 (M 82 0) x1) 82 0) x2) 82 0) x3) 82 0) 0) 88 ((qup (qup (qup (qup M 84 (M 82 0) x1) 85 ((qup M 84 (M 82 0) x1) 82 0) x2) 86 ((qup (qup M 84 (M 82 0) x1) 85 ((qup M 84 (M 82 0) x1) 82 0) x2) 82 0) x3) 87 ((qup (qup (qup M 84 (M 82 0) x1) 85 ((qup M 84 (M 82 0) x1) 82 0) x2) 86 ((qup (qup M 84 (M 82 0) x1) 85 ((qup M 84 (M 82 0) x1) 82 0) x2) 82 0) x3) 82 0) 0) 82 0) 0) 82 0)) (-1))))) := by
  refine Eq.trans (qlim_n (n := 5) (c' := (56, [some (qA 82), some (qI x1), some (qI x2), some (qI x3), none], [qI x1, qI (M 82 0), qA 84], qH0 M)) rfl) ?_
  refine Eq.trans (qs_iastore rfl rfl h1 h2) ?_
  refine Eq.trans (qlim_n (n := 5) (c' := (66, [some (qA 82), some (qI x1), some (qI x2), some (qI x3), none], [qI x2, qI ((qup M 84 (M 82 0) x1) 82 0), qA 85], qH0 (qup M 84 (M 82 0) x1))) rfl) ?_
  refine Eq.trans (qs_iastore rfl rfl h3 h4) ?_
  refine Eq.trans (qlim_n (n := 5) (c' := (76, [some (qA 82), some (qI x1), some (qI x2), some (qI x3), none], [qI x3, qI ((qup (qup M 84 (M 82 0) x1) 85 ((qup M 84 (M 82 0) x1) 82 0) x2) 82 0), qA 86], qH0 (qup (qup M 84 (M 82 0) x1) 85 ((qup M 84 (M 82 0) x1) 82 0) x2))) rfl) ?_
  refine Eq.trans (qs_iastore rfl rfl h5 h6) ?_
  refine Eq.trans (qlim_n (n := 5) (c' := (86, [some (qA 82), some (qI x1), some (qI x2), some (qI x3), none], [qI 0, qI ((qup (qup (qup M 84 (M 82 0) x1) 85 ((qup M 84 (M 82 0) x1) 82 0) x2) 86 ((qup (qup M 84 (M 82 0) x1) 85 ((qup M 84 (M 82 0) x1) 82 0) x2) 82 0) x3) 82 0), qA 87], qH0 (qup (qup (qup M 84 (M 82 0) x1) 85 ((qup M 84 (M 82 0) x1) 82 0) x2) 86 ((qup (qup M 84 (M 82 0) x1) 85 ((qup M 84 (M 82 0) x1) 82 0) x2) 82 0) x3))) rfl) ?_
  refine Eq.trans (qs_iastore rfl rfl h7 h8) ?_
  refine Eq.trans (qlim_n (n := 5) (c' := (96, [some (qA 82), some (qI x1), some (qI x2), some (qI x3), none], [qI 0, qI ((qup (qup (qup (qup M 84 (M 82 0) x1) 85 ((qup M 84 (M 82 0) x1) 82 0) x2) 86 ((qup (qup M 84 (M 82 0) x1) 85 ((qup M 84 (M 82 0) x1) 82 0) x2) 82 0) x3) 87 ((qup (qup (qup M 84 (M 82 0) x1) 85 ((qup M 84 (M 82 0) x1) 82 0) x2) 86 ((qup (qup M 84 (M 82 0) x1) 85 ((qup M 84 (M 82 0) x1) 82 0) x2) 82 0) x3) 82 0) 0) 82 0), qA 88], qH0 (qup (qup (qup (qup M 84 (M 82 0) x1) 85 ((qup M 84 (M 82 0) x1) 82 0) x2) 86 ((qup (qup M 84 (M 82 0) x1) 85 ((qup M 84 (M 82 0) x1) 82 0) x2) 82 0) x3) 87 ((qup (qup (qup M 84 (M 82 0) x1) 85 ((qup M 84 (M 82 0) x1) 82 0) x2) 86 ((qup (qup M 84 (M 82 0) x1) 85 ((qup M 84 (M 82 0) x1) 82 0) x2) 82 0) x3) 82 0) 0))) rfl) ?_
  refine Eq.trans (qs_iastore rfl rfl h9 h10) ?_
  exact (qlim_n (n := 13) (c' := (117, [some (qA 82), some (qI x1), some (qI x2), some (qI x3), some (qI 0)], [], qH0 (qup (qup (qup (qup (qup (qup M 84 (M 82 0) x1) 85 ((qup M 84 (M 82 0) x1) 82 0) x2) 86 ((qup (qup M 84 (M 82 0) x1) 85 ((qup M 84 (M 82 0) x1) 82 0) x2) 82 0) x3) 87 ((qup (qup (qup M 84 (M 82 0) x1) 85 ((qup M 84 (M 82 0) x1) 82 0) x2) 86 ((qup (qup M 84 (M 82 0) x1) 85 ((qup M 84 (M 82 0) x1) 82 0) x2) 82 0) x3) 82 0) 0) 88 ((qup (qup (qup (qup M 84 (M 82 0) x1) 85 ((qup M 84 (M 82 0) x1) 82 0) x2) 86 ((qup (qup M 84 (M 82 0) x1) 85 ((qup M 84 (M 82 0) x1) 82 0) x2) 82 0) x3) 87 ((qup (qup (qup M 84 (M 82 0) x1) 85 ((qup M 84 (M 82 0) x1) 82 0) x2) 86 ((qup (qup M 84 (M 82 0) x1) 85 ((qup M 84 (M 82 0) x1) 82 0) x2) 82 0) x3) 82 0) 0) 82 0) 0) 82 2 (kand ((qup (qup (qup (qup (qup M 84 (M 82 0) x1) 85 ((qup M 84 (M 82 0) x1) 82 0) x2) 86 ((qup (qup M 84 (M 82 0) x1) 85 ((qup M 84 (M 82 0) x1) 82 0) x2) 82 0) x3) 87 ((qup (qup (qup M 84 (M 82 0) x1) 85 ((qup M 84 (M 82 0) x1) 82 0) x2) 86 ((qup (qup M 84 (M 82 0) x1) 85 ((qup M 84 (M 82 0) x1) 82 0) x2) 82 0) x3) 82 0) 0) 88 ((qup (qup (qup (qup M 84 (M 82 0) x1) 85 ((qup M 84 (M 82 0) x1) 82 0) x2) 86 ((qup (qup M 84 (M 82 0) x1) 85 ((qup M 84 (M 82 0) x1) 82 0) x2) 82 0) x3) 87 ((qup (qup (qup M 84 (M 82 0) x1) 85 ((qup M 84 (M 82 0) x1) 82 0) x2) 86 ((qup (qup M 84 (M 82 0) x1) 85 ((qup M 84 (M 82 0) x1) 82 0) x2) 82 0) x3) 82 0) 0) 82 0) 0) 82 2) (kxor (kshl 1 ((qup (qup (qup (qup (qup M 84 (M 82 0) x1) 85 ((qup M 84 (M 82 0) x1) 82 0) x2) 86 ((qup (qup M 84 (M 82 0) x1) 85 ((qup M 84 (M 82 0) x1) 82 0) x2) 82 0) x3) 87 ((qup (qup (qup M 84 (M 82 0) x1) 85 ((qup M 84 (M 82 0) x1) 82 0) x2) 86 ((qup (qup M 84 (M 82 0) x1) 85 ((qup M 84 (M 82 0) x1) 82 0) x2) 82 0) x3) 82 0) 0) 88 ((qup (qup (qup (qup M 84 (M 82 0) x1) 85 ((qup M 84 (M 82 0) x1) 82 0) x2) 86 ((qup (qup M 84 (M 82 0) x1) 85 ((qup M 84 (M 82 0) x1) 82 0) x2) 82 0) x3) 87 ((qup (qup (qup M 84 (M 82 0) x1) 85 ((qup M 84 (M 82 0) x1) 82 0) x2) 86 ((qup (qup M 84 (M 82 0) x1) 85 ((qup M 84 (M 82 0) x1) 82 0) x2) 82 0) x3) 82 0) 0) 82 0) 0) 82 0)) (-1)))))) rfl)
set_option maxRecDepth 20000 in
theorem B_X12_person_117 {M : qMem} {x1 x2 x3 x4 : Int} : qlim C_X12_person (117, [some (qA 82), some (qI x1), some (qI x2), some (qI x3), some (qI x4)], [], qH0 M) = qlim C_X12_person ((if 4 ≤ x4 then 144 else 123), [some (qA 82), some (qI x1), some (qI x2), some (qI x3), some (qI x4)], [], qH0 M) := (qlim_n (n := 3) (c' := ((if 4 ≤ x4 then 144 else 123), [some (qA 82), some (qI x1), some (qI x2), some (qI x3), some (qI x4)], [], qH0 M)) rfl)
set_option maxRecDepth 20000 in
theorem B_X12_person_123 {M : qMem} {x1 x2 x3 x4 : Int} (h1 : 0 ≤ kadd (kmul 4 (M 82 0)) x4) (h2 : kadd (kmul 4 (M 82 0)) x4 < 24) : qlim C_X12_person (123, [some (qA 82), some (qI x1), some (qI x2), some (qI x3), some (qI x4)], [], qH0 M) = qlim C_X12_person (117, [some (qA 82), some (qI x1), some (qI x2), some (qI x3), some (qI (kadd x4 1))], [], qH0 (qup M 89 (kadd (kmul 4 (M 82 0)) x4) 0)) := by
  refine Eq.trans (qlim_n (n := 9) (c' := (137, [some (qA 82), some (qI x1), some (qI x2), some (qI x3), some (qI x4)], [qI 0, qI (kadd (kmul 4 (M 82 0)) x4), qA 89], qH0 M)) rfl) ?_
  refine Eq.trans (qs_iastore rfl rfl h1 h2) ?_
  exact (qlim_n (n := 2) (c' := (117, [some (qA 82), some (qI x1), some (qI x2), some (qI x3), some (qI (kadd x4 1))], [], qH0 (qup M 89 (kadd (kmul 4 (M 82 0)) x4) 0))) rfl)
set_option maxRecDepth 20000 in
theorem B_X12_person_144 {M : qMem} {x1 x2 x3 x4 : Int} : qlim C_X12_person (144, [some (qA 82), some (qI x1), some (qI x2), some (qI x3), some (qI x4)], [], qH0 M) = some (some (qI (ksub ((qup M 82 0 (kadd (M 82 0) 1)) 82 0) 1)), qH0 (qup M 82 0 (kadd (M 82 0) 1))) := by
  refine Eq.trans (qlim_n (n := 10) (c' := (160, [some (qA 82), some (qI x1), some (qI x2), some (qI x3), some (qI x4)], [qI (ksub ((qup M 82 0 (kadd (M 82 0) 1)) 82 0) 1)], qH0 (qup M 82 0 (kadd (M 82 0) 1)))) rfl) ?_
  exact (qlim_ret rfl)
theorem E_X12_person {h : qH} {x1 x2 x3 : Int} : S_X12_person [qA 82, qI x1, qI x2, qI x3] h = qlim C_X12_person (0, [some (qA 82), some (qI x1), some (qI x2), some (qI x3), none], [], h) := qM_at (Nat.le_of_ble_eq_true rfl) rfl
set_option maxRecDepth 20000 in
theorem B_X12_work_0 {M : qMem} {x1 x2 : Int} : qlim C_X12_work (0, [some (qA 82), some (qI x1), some (qI x2), none], [], qH0 M) = qbd (S_X12_isPerson [qA 82, qI x1] (qH0 M)) (fun r h' => qlim C_X12_work (5, [some (qA 82), some (qI x1), some (qI x2), none], r.toList ++ [], h')) := by
  refine Eq.trans (qlim_n (n := 2) (c' := (2, [some (qA 82), some (qI x1), some (qI x2), none], [qI x1, qA 82], qH0 M)) rfl) ?_
  exact (qlim_callv (n := 1) rfl rfl rfl (Nat.le_of_ble_eq_true rfl) (Nat.le_of_ble_eq_true rfl) rfl)
set_option maxRecDepth 20000 in
theorem B_X12_work_5 {M : qMem} {x1 x2 s0 : Int} : qlim C_X12_work (5, [some (qA 82), some (qI x1), some (qI x2), none], [qI s0], qH0 M) = qlim C_X12_work ((if s0 = 0 then 16 else 8), [some (qA 82), some (qI x1), some (qI x2), none], [], qH0 M) := (qlim_n (n := 1) (c' := ((if s0 = 0 then 16 else 8), [some (qA 82), some (qI x1), some (qI x2), none], [], qH0 M)) rfl)
set_option maxRecDepth 20000 in
theorem B_X12_work_8 {M : qMem} {x1 x2 : Int} : qlim C_X12_work (8, [some (qA 82), some (qI x1), some (qI x2), none], [], qH0 M) = qbd (S_X12_isWork [qA 82, qI x2] (qH0 M)) (fun r h' => qlim C_X12_work (13, [some (qA 82), some (qI x1), some (qI x2), none], r.toList ++ [], h')) := by
  refine Eq.trans (qlim_n (n := 2) (c' := (10, [some (qA 82), some (qI x1), some (qI x2), none], [qI x2, qA 82], qH0 M)) rfl) ?_
  exact (qlim_callv (n := 1) rfl rfl rfl (Nat.le_of_ble_eq_true rfl) (Nat.le_of_ble_eq_true rfl) rfl)
set_option maxRecDepth 20000 in
theorem B_X12_work_13 {M : qMem} {x1 x2 s0 : Int} : qlim C_X12_work (13, [some (qA 82), some (qI x1), some (qI x2), none], [qI s0], qH0 M) = qlim C_X12_work ((if ¬ s0 = 0 then 18 else 16), [some (qA 82), some (qI x1), some (qI x2), none], [], qH0 M) := (qlim_n (n := 1) (c' := ((if ¬ s0 = 0 then 18 else 16), [some (qA 82), some (qI x1), some (qI x2), none], [], qH0 M)) rfl)
set_option maxRecDepth 20000 in
theorem B_X12_work_16 {M : qMem} {x1 x2 : Int} : qlim C_X12_work (16, [some (qA 82), some (qI x1), some (qI x2), none], [], qH0 M) = some (some (qI (-1)), qH0 M) := by
  refine Eq.trans (qlim_n (n := 1) (c' := (17, [some (qA 82), some (qI x1), some (qI x2), none], [qI (-1)], qH0 M)) rfl) ?_
  exact (qlim_ret rfl)
set_option maxRecDepth 20000 in
theorem B_X12_work_18 {M : qMem} {x1 x2 : Int} (h1 : 0 ≤ x1) (h2 : x1 < 6) : qlim C_X12_work (18, [some (qA 82), some (qI x1), some (qI x2), none], [], qH0 M) = some (some (qI (M 86 x1)), qH0 (qup M 86 x1 x2)) := by
  refine Eq.trans (qlim_n (n := 3) (c' := (23, [some (qA 82), some (qI x1), some (qI x2), none], [qI x1, qA 86], qH0 M)) rfl) ?_
  refine Eq.trans (qs_iaload rfl rfl h1 h2) ?_
  refine Eq.trans (qlim_n (n := 5) (c' := (31, [some (qA 82), some (qI x1), some (qI x2), some (qI (M 86 x1))], [qI x2, qI x1, qA 86], qH0 M)) rfl) ?_
  refine Eq.trans (qs_iastore rfl rfl h1 h2) ?_
  refine Eq.trans (qlim_n (n := 1) (c' := (33, [some (qA 82), some (qI x1), some (qI x2), some (qI (M 86 x1))], [qI (M 86 x1)], qH0 (qup M 86 x1 x2))) rfl) ?_
  exact (qlim_ret rfl)
theorem E_X12_work {h : qH} {x1 x2 : Int} : S_X12_work [qA 82, qI x1, qI x2] h = qlim C_X12_work (0, [some (qA 82), some (qI x1), some (qI x2), none], [], h) := qM_at (Nat.le_of_ble_eq_true rfl) rfl
set_option maxRecDepth 20000 in
theorem B_X12_goes_0 {M : qMem} {x1 x2 : Int} : qlim C_X12_goes (0, [some (qA 82), some (qI x1), some (qI x2)], [], qH0 M) = qlim C_X12_goes ((if x2 = 0 then 16 else 5), [some (qA 82), some (qI x1), some (qI x2)], [qA 82], qH0 M) := (qlim_n (n := 3) (c' := ((if x2 = 0 then 16 else 5), [some (qA 82), some (qI x1), some (qI x2)], [qA 82], qH0 M)) rfl)
set_option maxRecDepth 20000 in
theorem B_X12_goes_5 {M : qMem} {x1 x2 : Int} : qlim C_X12_goes (5, [some (qA 82), some (qI x1), some (qI x2)], [qA 82], qH0 M) = qlim C_X12_goes (26, [some (qA 82), some (qI x1), some (qI x2)], [qI (kor (M 82 2) (kshl 1 x1)), qA 82], qH0 M) := (qlim_n (n := 7) (c' := (26, [some (qA 82), some (qI x1), some (qI x2)], [qI (kor (M 82 2) (kshl 1 x1)), qA 82], qH0 M)) rfl)
set_option maxRecDepth 20000 in
theorem B_X12_goes_16 {M : qMem} {x1 x2 : Int} : qlim C_X12_goes (16, [some (qA 82), some (qI x1), some (qI x2)], [qA 82], qH0 M) = qlim C_X12_goes (26, [some (qA 82), some (qI x1), some (qI x2)], [qI (kand (M 82 2) (kxor (kshl 1 x1) (-1))), qA 82], qH0 M) := (qlim_n (n := 8) (c' := (26, [some (qA 82), some (qI x1), some (qI x2)], [qI (kand (M 82 2) (kxor (kshl 1 x1) (-1))), qA 82], qH0 M)) rfl)
set_option maxRecDepth 20000 in
theorem B_X12_goes_26 {M : qMem} {x1 x2 s1 : Int} : qlim C_X12_goes (26, [some (qA 82), some (qI x1), some (qI x2)], [qI s1, qA 82], qH0 M) = some (none, qH0 (qup M 82 2 s1)) := by
  refine Eq.trans (qlim_n (n := 1) (c' := (29, [some (qA 82), some (qI x1), some (qI x2)], [], qH0 (qup M 82 2 s1))) rfl) ?_
  exact (qlim_ret rfl)
theorem E_X12_goes {h : qH} {x1 x2 : Int} : S_X12_goes [qA 82, qI x1, qI x2] h = qlim C_X12_goes (0, [some (qA 82), some (qI x1), some (qI x2)], [], h) := qM_at (Nat.le_of_ble_eq_true rfl) rfl
set_option maxRecDepth 20000 in
theorem B_X12_home_0 {M : qMem} {x1 x2 : Int} : qlim C_X12_home (0, [some (qA 82), some (qI x1), some (qI x2), none], [], qH0 M) = qbd (S_X12_isPerson [qA 82, qI x1] (qH0 M)) (fun r h' => qlim C_X12_home (5, [some (qA 82), some (qI x1), some (qI x2), none], r.toList ++ [], h')) := by
  refine Eq.trans (qlim_n (n := 2) (c' := (2, [some (qA 82), some (qI x1), some (qI x2), none], [qI x1, qA 82], qH0 M)) rfl) ?_
  exact (qlim_callv (n := 1) rfl rfl rfl (Nat.le_of_ble_eq_true rfl) (Nat.le_of_ble_eq_true rfl) rfl)
set_option maxRecDepth 20000 in
theorem B_X12_home_5 {M : qMem} {x1 x2 s0 : Int} : qlim C_X12_home (5, [some (qA 82), some (qI x1), some (qI x2), none], [qI s0], qH0 M) = qlim C_X12_home ((if ¬ s0 = 0 then 10 else 8), [some (qA 82), some (qI x1), some (qI x2), none], [], qH0 M) := (qlim_n (n := 1) (c' := ((if ¬ s0 = 0 then 10 else 8), [some (qA 82), some (qI x1), some (qI x2), none], [], qH0 M)) rfl)
set_option maxRecDepth 20000 in
theorem B_X12_home_8 {M : qMem} {x1 x2 : Int} : qlim C_X12_home (8, [some (qA 82), some (qI x1), some (qI x2), none], [], qH0 M) = some (some (qI (-1)), qH0 M) := by
  refine Eq.trans (qlim_n (n := 1) (c' := (9, [some (qA 82), some (qI x1), some (qI x2), none], [qI (-1)], qH0 M)) rfl) ?_
  exact (qlim_ret rfl)
set_option maxRecDepth 20000 in
theorem B_X12_home_10 {M : qMem} {x1 x2 : Int} : qlim C_X12_home (10, [some (qA 82), some (qI x1), some (qI x2), none], [], qH0 M) = qbd (S_X12_has [qA 82, qI (M 82 2), qI x1] (qH0 M)) (fun r h' => qlim C_X12_home (19, [some (qA 82), some (qI x1), some (qI x2), none], r.toList ++ [], h')) := by
  refine Eq.trans (qlim_n (n := 4) (c' := (16, [some (qA 82), some (qI x1), some (qI x2), none], [qI x1, qI (M 82 2), qA 82], qH0 M)) rfl) ?_
  exact (qlim_callv (n := 2) rfl rfl rfl (Nat.le_of_ble_eq_true rfl) (Nat.le_of_ble_eq_true rfl) rfl)
set_option maxRecDepth 20000 in
theorem B_X12_home_19 {M : qMem} {x1 x2 s0 : Int} : qlim C_X12_home (19, [some (qA 82), some (qI x1), some (qI x2), none], [qI s0], qH0 M) = qlim C_X12_home ((if s0 = 0 then 26 else 22), [some (qA 82), some (qI x1), some (qI x2), none], [], qH0 M) := (qlim_n (n := 1) (c' := ((if s0 = 0 then 26 else 22), [some (qA 82), some (qI x1), some (qI x2), none], [], qH0 M)) rfl)
set_option maxRecDepth 20000 in
theorem B_X12_home_22 {M : qMem} {x1 x2 : Int} : qlim C_X12_home (22, [some (qA 82), some (qI x1), some (qI x2), none], [], qH0 M) = qlim C_X12_home (27, [some (qA 82), some (qI x1), some (qI x2), none], [qI 1], qH0 M) := (qlim_n (n := 2) (c' := (27, [some (qA 82), some (qI x1), some (qI x2), none], [qI 1], qH0 M)) rfl)
set_option maxRecDepth 20000 in
theorem B_X12_home_26 {M : qMem} {x1 x2 : Int} : qlim C_X12_home (26, [some (qA 82), some (qI x1), some (qI x2), none], [], qH0 M) = qlim C_X12_home (27, [some (qA 82), some (qI x1), some (qI x2), none], [qI 0], qH0 M) := (qlim_n (n := 1) (c' := (27, [some (qA 82), some (qI x1), some (qI x2), none], [qI 0], qH0 M)) rfl)
set_option maxRecDepth 20000 in
theorem B_X12_home_27 {M : qMem} {x1 x2 s0 : Int} : qlim C_X12_home (27, [some (qA 82), some (qI x1), some (qI x2), none], [qI s0], qH0 M) = qbd (S_X12_goes [qA 82, qI x1, qI x2] (qH0 M)) (fun r h' => qlim C_X12_home (34, [some (qA 82), some (qI x1), some (qI x2), some (qI s0)], r.toList ++ [], h')) := by
  refine Eq.trans (qlim_n (n := 4) (c' := (31, [some (qA 82), some (qI x1), some (qI x2), some (qI s0)], [qI x2, qI x1, qA 82], qH0 M)) rfl) ?_
  exact (qlim_callv (n := 2) rfl rfl rfl (Nat.le_of_ble_eq_true rfl) (Nat.le_of_ble_eq_true rfl) rfl)
set_option maxRecDepth 20000 in
theorem B_X12_home_34 {M : qMem} {x1 x2 x3 : Int} : qlim C_X12_home (34, [some (qA 82), some (qI x1), some (qI x2), some (qI x3)], [], qH0 M) = some (some (qI x3), qH0 M) := by
  refine Eq.trans (qlim_n (n := 1) (c' := (35, [some (qA 82), some (qI x1), some (qI x2), some (qI x3)], [qI x3], qH0 M)) rfl) ?_
  exact (qlim_ret rfl)
theorem E_X12_home {h : qH} {x1 x2 : Int} : S_X12_home [qA 82, qI x1, qI x2] h = qlim C_X12_home (0, [some (qA 82), some (qI x1), some (qI x2), none], [], h) := qM_at (Nat.le_of_ble_eq_true rfl) rfl
set_option maxRecDepth 20000 in
theorem B_X12_row_0 {M : qMem} {x1 x2 x3 : Int} : qlim C_X12_row (0, [some (qA 82), some (qI x1), some (qI x2), some (qI x3), none], [], qH0 M) = qbd (S_X12_isPerson [qA 82, qI x1] (qH0 M)) (fun r h' => qlim C_X12_row (5, [some (qA 82), some (qI x1), some (qI x2), some (qI x3), none], r.toList ++ [], h')) := by
  refine Eq.trans (qlim_n (n := 2) (c' := (2, [some (qA 82), some (qI x1), some (qI x2), some (qI x3), none], [qI x1, qA 82], qH0 M)) rfl) ?_
  exact (qlim_callv (n := 1) rfl rfl rfl (Nat.le_of_ble_eq_true rfl) (Nat.le_of_ble_eq_true rfl) rfl)
set_option maxRecDepth 20000 in
theorem B_X12_row_5 {M : qMem} {x1 x2 x3 s0 : Int} : qlim C_X12_row (5, [some (qA 82), some (qI x1), some (qI x2), some (qI x3), none], [qI s0], qH0 M) = qlim C_X12_row ((if s0 = 0 then 18 else 8), [some (qA 82), some (qI x1), some (qI x2), some (qI x3), none], [], qH0 M) := (qlim_n (n := 1) (c' := ((if s0 = 0 then 18 else 8), [some (qA 82), some (qI x1), some (qI x2), some (qI x3), none], [], qH0 M)) rfl)
set_option maxRecDepth 20000 in
theorem B_X12_row_8 {M : qMem} {x1 x2 x3 : Int} : qlim C_X12_row (8, [some (qA 82), some (qI x1), some (qI x2), some (qI x3), none], [], qH0 M) = qbd (S_X12_in [qA 82, qI x2, qI 0, qI 3] (qH0 M)) (fun r h' => qlim C_X12_row (15, [some (qA 82), some (qI x1), some (qI x2), some (qI x3), none], r.toList ++ [], h')) := by
  refine Eq.trans (qlim_n (n := 4) (c' := (12, [some (qA 82), some (qI x1), some (qI x2), some (qI x3), none], [qI 3, qI 0, qI x2, qA 82], qH0 M)) rfl) ?_
  exact (qlim_callv (n := 3) rfl rfl rfl (Nat.le_of_ble_eq_true rfl) (Nat.le_of_ble_eq_true rfl) rfl)
set_option maxRecDepth 20000 in
theorem B_X12_row_15 {M : qMem} {x1 x2 x3 s0 : Int} : qlim C_X12_row (15, [some (qA 82), some (qI x1), some (qI x2), some (qI x3), none], [qI s0], qH0 M) = qlim C_X12_row ((if ¬ s0 = 0 then 20 else 18), [some (qA 82), some (qI x1), some (qI x2), some (qI x3), none], [], qH0 M) := (qlim_n (n := 1) (c' := ((if ¬ s0 = 0 then 20 else 18), [some (qA 82), some (qI x1), some (qI x2), some (qI x3), none], [], qH0 M)) rfl)
set_option maxRecDepth 20000 in
theorem B_X12_row_18 {M : qMem} {x1 x2 x3 : Int} : qlim C_X12_row (18, [some (qA 82), some (qI x1), some (qI x2), some (qI x3), none], [], qH0 M) = some (some (qI (-1)), qH0 M) := by
  refine Eq.trans (qlim_n (n := 1) (c' := (19, [some (qA 82), some (qI x1), some (qI x2), some (qI x3), none], [qI (-1)], qH0 M)) rfl) ?_
  exact (qlim_ret rfl)
set_option maxRecDepth 20000 in
theorem B_X12_row_20 {M : qMem} {x1 x2 x3 : Int} : qlim C_X12_row (20, [some (qA 82), some (qI x1), some (qI x2), some (qI x3), none], [], qH0 M) = qbd (S_X12_in [qA 82, qI x3, qI 0, qI 9] (qH0 M)) (fun r h' => qlim C_X12_row (28, [some (qA 82), some (qI x1), some (qI x2), some (qI x3), none], r.toList ++ [], h')) := by
  refine Eq.trans (qlim_n (n := 4) (c' := (25, [some (qA 82), some (qI x1), some (qI x2), some (qI x3), none], [qI 9, qI 0, qI x3, qA 82], qH0 M)) rfl) ?_
  exact (qlim_callv (n := 3) rfl rfl rfl (Nat.le_of_ble_eq_true rfl) (Nat.le_of_ble_eq_true rfl) rfl)
set_option maxRecDepth 20000 in
theorem B_X12_row_28 {M : qMem} {x1 x2 x3 s0 : Int} : qlim C_X12_row (28, [some (qA 82), some (qI x1), some (qI x2), some (qI x3), none], [qI s0], qH0 M) = qlim C_X12_row ((if ¬ s0 = 0 then 34 else 31), [some (qA 82), some (qI x1), some (qI x2), some (qI x3), none], [], qH0 M) := (qlim_n (n := 1) (c' := ((if ¬ s0 = 0 then 34 else 31), [some (qA 82), some (qI x1), some (qI x2), some (qI x3), none], [], qH0 M)) rfl)
set_option maxRecDepth 20000 in
theorem B_X12_row_31 {M : qMem} {x1 x2 x3 : Int} : qlim C_X12_row (31, [some (qA 82), some (qI x1), some (qI x2), some (qI x3), none], [], qH0 M) = some (some (qI (-2)), qH0 M) := by
  refine Eq.trans (qlim_n (n := 1) (c' := (33, [some (qA 82), some (qI x1), some (qI x2), some (qI x3), none], [qI (-2)], qH0 M)) rfl) ?_
  exact (qlim_ret rfl)
set_option maxRecDepth 20000 in
theorem B_X12_row_34 {M : qMem} {x1 x2 x3 : Int} (h1 : 0 ≤ x1) (h2 : x1 < 6) : qlim C_X12_row (34, [some (qA 82), some (qI x1), some (qI x2), some (qI x3), none], [], qH0 M) = qlim C_X12_row ((if M 84 x1 = 6 then 48 else 45), [some (qA 82), some (qI x1), some (qI x2), some (qI x3), none], [], qH0 M) := by
  refine Eq.trans (qlim_n (n := 3) (c' := (39, [some (qA 82), some (qI x1), some (qI x2), some (qI x3), none], [qI x1, qA 84], qH0 M)) rfl) ?_
  refine Eq.trans (qs_iaload rfl rfl h1 h2) ?_
  exact (qlim_n (n := 2) (c' := ((if M 84 x1 = 6 then 48 else 45), [some (qA 82), some (qI x1), some (qI x2), some (qI x3), none], [], qH0 M)) rfl)
set_option maxRecDepth 20000 in
theorem B_X12_row_45 {M : qMem} {x1 x2 x3 : Int} : qlim C_X12_row (45, [some (qA 82), some (qI x1), some (qI x2), some (qI x3), none], [], qH0 M) = some (some (qI (-3)), qH0 M) := by
  refine Eq.trans (qlim_n (n := 1) (c' := (47, [some (qA 82), some (qI x1), some (qI x2), some (qI x3), none], [qI (-3)], qH0 M)) rfl) ?_
  exact (qlim_ret rfl)
set_option maxRecDepth 20000 in
theorem B_X12_row_48 {M : qMem} {x1 x2 x3 : Int} (h1 : 0 ≤ kadd (kmul 4 x1) x2) (h2 : kadd (kmul 4 x1) x2 < 24) : qlim C_X12_row (48, [some (qA 82), some (qI x1), some (qI x2), some (qI x3), none], [], qH0 M) = some (some (qI (M 89 (kadd (kmul 4 x1) x2))), qH0 (qup M 89 (kadd (kmul 4 x1) x2) x3)) := by
  refine Eq.trans (qlim_n (n := 7) (c' := (57, [some (qA 82), some (qI x1), some (qI x2), some (qI x3), none], [qI (kadd (kmul 4 x1) x2), qA 89], qH0 M)) rfl) ?_
  refine Eq.trans (qs_iaload rfl rfl h1 h2) ?_
  refine Eq.trans (qlim_n (n := 9) (c' := (70, [some (qA 82), some (qI x1), some (qI x2), some (qI x3), some (qI (M 89 (kadd (kmul 4 x1) x2)))], [qI x3, qI (kadd (kmul 4 x1) x2), qA 89], qH0 M)) rfl) ?_
  refine Eq.trans (qs_iastore rfl rfl h1 h2) ?_
  refine Eq.trans (qlim_n (n := 1) (c' := (73, [some (qA 82), some (qI x1), some (qI x2), some (qI x3), some (qI (M 89 (kadd (kmul 4 x1) x2)))], [qI (M 89 (kadd (kmul 4 x1) x2))], qH0 (qup M 89 (kadd (kmul 4 x1) x2) x3))) rfl) ?_
  exact (qlim_ret rfl)
theorem E_X12_row {h : qH} {x1 x2 x3 : Int} : S_X12_row [qA 82, qI x1, qI x2, qI x3] h = qlim C_X12_row (0, [some (qA 82), some (qI x1), some (qI x2), some (qI x3), none], [], h) := qM_at (Nat.le_of_ble_eq_true rfl) rfl
set_option maxRecDepth 20000 in
theorem B_X12_heap_0 {M : qMem} {x1 x2 : Int} : qlim C_X12_heap (0, [some (qA 82), some (qI x1), some (qI x2), none], [], qH0 M) = qbd (S_X12_isHeap [qA 82, qI x1] (qH0 M)) (fun r h' => qlim C_X12_heap (5, [some (qA 82), some (qI x1), some (qI x2), none], r.toList ++ [], h')) := by
  refine Eq.trans (qlim_n (n := 2) (c' := (2, [some (qA 82), some (qI x1), some (qI x2), none], [qI x1, qA 82], qH0 M)) rfl) ?_
  exact (qlim_callv (n := 1) rfl rfl rfl (Nat.le_of_ble_eq_true rfl) (Nat.le_of_ble_eq_true rfl) rfl)
set_option maxRecDepth 20000 in
theorem B_X12_heap_5 {M : qMem} {x1 x2 s0 : Int} : qlim C_X12_heap (5, [some (qA 82), some (qI x1), some (qI x2), none], [qI s0], qH0 M) = qlim C_X12_heap ((if ¬ s0 = 0 then 10 else 8), [some (qA 82), some (qI x1), some (qI x2), none], [], qH0 M) := (qlim_n (n := 1) (c' := ((if ¬ s0 = 0 then 10 else 8), [some (qA 82), some (qI x1), some (qI x2), none], [], qH0 M)) rfl)
set_option maxRecDepth 20000 in
theorem B_X12_heap_8 {M : qMem} {x1 x2 : Int} : qlim C_X12_heap (8, [some (qA 82), some (qI x1), some (qI x2), none], [], qH0 M) = some (some (qI (-1)), qH0 M) := by
  refine Eq.trans (qlim_n (n := 1) (c' := (9, [some (qA 82), some (qI x1), some (qI x2), none], [qI (-1)], qH0 M)) rfl) ?_
  exact (qlim_ret rfl)
set_option maxRecDepth 20000 in
theorem B_X12_heap_10 {M : qMem} {x1 x2 : Int} : qlim C_X12_heap (10, [some (qA 82), some (qI x1), some (qI x2), none], [], qH0 M) = qbd (S_X12_isLetters [qA 82, qI x2] (qH0 M)) (fun r h' => qlim C_X12_heap (15, [some (qA 82), some (qI x1), some (qI x2), none], r.toList ++ [], h')) := by
  refine Eq.trans (qlim_n (n := 2) (c' := (12, [some (qA 82), some (qI x1), some (qI x2), none], [qI x2, qA 82], qH0 M)) rfl) ?_
  exact (qlim_callv (n := 1) rfl rfl rfl (Nat.le_of_ble_eq_true rfl) (Nat.le_of_ble_eq_true rfl) rfl)
set_option maxRecDepth 20000 in
theorem B_X12_heap_15 {M : qMem} {x1 x2 s0 : Int} : qlim C_X12_heap (15, [some (qA 82), some (qI x1), some (qI x2), none], [qI s0], qH0 M) = qlim C_X12_heap ((if ¬ s0 = 0 then 21 else 18), [some (qA 82), some (qI x1), some (qI x2), none], [], qH0 M) := (qlim_n (n := 1) (c' := ((if ¬ s0 = 0 then 21 else 18), [some (qA 82), some (qI x1), some (qI x2), none], [], qH0 M)) rfl)
set_option maxRecDepth 20000 in
theorem B_X12_heap_18 {M : qMem} {x1 x2 : Int} : qlim C_X12_heap (18, [some (qA 82), some (qI x1), some (qI x2), none], [], qH0 M) = some (some (qI (-2)), qH0 M) := by
  refine Eq.trans (qlim_n (n := 1) (c' := (20, [some (qA 82), some (qI x1), some (qI x2), none], [qI (-2)], qH0 M)) rfl) ?_
  exact (qlim_ret rfl)
set_option maxRecDepth 20000 in
theorem B_X12_heap_21 {M : qMem} {x1 x2 : Int} (h1 : 0 ≤ x1) (h2 : x1 < 5) : qlim C_X12_heap (21, [some (qA 82), some (qI x1), some (qI x2), none], [], qH0 M) = some (some (qI (M 83 x1)), qH0 (qup M 83 x1 x2)) := by
  refine Eq.trans (qlim_n (n := 3) (c' := (26, [some (qA 82), some (qI x1), some (qI x2), none], [qI x1, qA 83], qH0 M)) rfl) ?_
  refine Eq.trans (qs_iaload rfl rfl h1 h2) ?_
  refine Eq.trans (qlim_n (n := 5) (c' := (34, [some (qA 82), some (qI x1), some (qI x2), some (qI (M 83 x1))], [qI x2, qI x1, qA 83], qH0 M)) rfl) ?_
  refine Eq.trans (qs_iastore rfl rfl h1 h2) ?_
  refine Eq.trans (qlim_n (n := 1) (c' := (36, [some (qA 82), some (qI x1), some (qI x2), some (qI (M 83 x1))], [qI (M 83 x1)], qH0 (qup M 83 x1 x2))) rfl) ?_
  exact (qlim_ret rfl)
theorem E_X12_heap {h : qH} {x1 x2 : Int} : S_X12_heap [qA 82, qI x1, qI x2] h = qlim C_X12_heap (0, [some (qA 82), some (qI x1), some (qI x2), none], [], h) := qM_at (Nat.le_of_ble_eq_true rfl) rfl
set_option maxRecDepth 20000 in
theorem B_X12_feed_0 {M : qMem} {x1 : Int} : qlim C_X12_feed (0, [some (qA 82), some (qI x1)], [], qH0 M) = qbd (S_X12_in [qA 82, qI x1, qI 0, qI 127] (qH0 M)) (fun r h' => qlim C_X12_feed (8, [some (qA 82), some (qI x1)], r.toList ++ [], h')) := by
  refine Eq.trans (qlim_n (n := 4) (c' := (5, [some (qA 82), some (qI x1)], [qI 127, qI 0, qI x1, qA 82], qH0 M)) rfl) ?_
  exact (qlim_callv (n := 3) rfl rfl rfl (Nat.le_of_ble_eq_true rfl) (Nat.le_of_ble_eq_true rfl) rfl)
set_option maxRecDepth 20000 in
theorem B_X12_feed_8 {M : qMem} {x1 s0 : Int} : qlim C_X12_feed (8, [some (qA 82), some (qI x1)], [qI s0], qH0 M) = qlim C_X12_feed ((if ¬ s0 = 0 then 14 else 11), [some (qA 82), some (qI x1)], [], qH0 M) := (qlim_n (n := 1) (c' := ((if ¬ s0 = 0 then 14 else 11), [some (qA 82), some (qI x1)], [], qH0 M)) rfl)
set_option maxRecDepth 20000 in
theorem B_X12_feed_11 {M : qMem} {x1 : Int} : qlim C_X12_feed (11, [some (qA 82), some (qI x1)], [], qH0 M) = some (some (qI (-2)), qH0 M) := by
  refine Eq.trans (qlim_n (n := 1) (c' := (13, [some (qA 82), some (qI x1)], [qI (-2)], qH0 M)) rfl) ?_
  exact (qlim_ret rfl)
set_option maxRecDepth 20000 in
theorem B_X12_feed_14 {M : qMem} {x1 : Int} : qlim C_X12_feed (14, [some (qA 82), some (qI x1)], [], qH0 M) = qlim C_X12_feed ((if ¬ M 82 12 = 100 then 26 else 23), [some (qA 82), some (qI x1)], [], qH0 M) := (qlim_n (n := 4) (c' := ((if ¬ M 82 12 = 100 then 26 else 23), [some (qA 82), some (qI x1)], [], qH0 M)) rfl)
set_option maxRecDepth 20000 in
theorem B_X12_feed_23 {M : qMem} {x1 : Int} : qlim C_X12_feed (23, [some (qA 82), some (qI x1)], [], qH0 M) = some (some (qI (-4)), qH0 M) := by
  refine Eq.trans (qlim_n (n := 1) (c' := (25, [some (qA 82), some (qI x1)], [qI (-4)], qH0 M)) rfl) ?_
  exact (qlim_ret rfl)
set_option maxRecDepth 20000 in
theorem B_X12_feed_26 {M : qMem} {x1 : Int} (h1 : 0 ≤ M 82 12) (h2 : M 82 12 < 100) : qlim C_X12_feed (26, [some (qA 82), some (qI x1)], [], qH0 M) = some (some (qI ((qup (qup M 90 (M 82 12) x1) 82 12 (kadd ((qup M 90 (M 82 12) x1) 82 12) 1)) 82 12)), qH0 (qup (qup M 90 (M 82 12) x1) 82 12 (kadd ((qup M 90 (M 82 12) x1) 82 12) 1))) := by
  refine Eq.trans (qlim_n (n := 5) (c' := (35, [some (qA 82), some (qI x1)], [qI x1, qI (M 82 12), qA 90], qH0 M)) rfl) ?_
  refine Eq.trans (qs_iastore rfl rfl h1 h2) ?_
  refine Eq.trans (qlim_n (n := 8) (c' := (50, [some (qA 82), some (qI x1)], [qI ((qup (qup M 90 (M 82 12) x1) 82 12 (kadd ((qup M 90 (M 82 12) x1) 82 12) 1)) 82 12)], qH0 (qup (qup M 90 (M 82 12) x1) 82 12 (kadd ((qup M 90 (M 82 12) x1) 82 12) 1)))) rfl) ?_
  exact (qlim_ret rfl)
theorem E_X12_feed {h : qH} {x1 : Int} : S_X12_feed [qA 82, qI x1] h = qlim C_X12_feed (0, [some (qA 82), some (qI x1)], [], h) := qM_at (Nat.le_of_ble_eq_true rfl) rfl
set_option maxRecDepth 20000 in
theorem B_X12_next_0 {M : qMem} : qlim C_X12_next (0, [some (qA 82)], [], qH0 M) = qlim C_X12_next ((if M 82 12 ≤ M 82 13 then 23 else 11), [some (qA 82)], [], qH0 M) := (qlim_n (n := 5) (c' := ((if M 82 12 ≤ M 82 13 then 23 else 11), [some (qA 82)], [], qH0 M)) rfl)
set_option maxRecDepth 20000 in
theorem B_X12_next_11 {M : qMem} (h1 : 0 ≤ M 82 13) (h2 : M 82 13 < 100) : qlim C_X12_next (11, [some (qA 82)], [], qH0 M) = qlim C_X12_next (24, [some (qA 82)], [qI (M 90 (M 82 13))], qH0 M) := by
  refine Eq.trans (qlim_n (n := 4) (c' := (19, [some (qA 82)], [qI (M 82 13), qA 90], qH0 M)) rfl) ?_
  refine Eq.trans (qs_iaload rfl rfl h1 h2) ?_
  exact (qlim_n (n := 1) (c' := (24, [some (qA 82)], [qI (M 90 (M 82 13))], qH0 M)) rfl)
set_option maxRecDepth 20000 in
theorem B_X12_next_23 {M : qMem} : qlim C_X12_next (23, [some (qA 82)], [], qH0 M) = qlim C_X12_next (24, [some (qA 82)], [qI (-1)], qH0 M) := (qlim_n (n := 1) (c' := (24, [some (qA 82)], [qI (-1)], qH0 M)) rfl)
set_option maxRecDepth 20000 in
theorem B_X12_next_24 {M : qMem} {s0 : Int} : qlim C_X12_next (24, [some (qA 82)], [qI s0], qH0 M) = some (some (qI s0), qH0 M) := (qlim_ret rfl)
theorem E_X12_next {h : qH} : S_X12_next [qA 82] h = qlim C_X12_next (0, [some (qA 82)], [], h) := qM_at (Nat.le_of_ble_eq_true rfl) rfl
set_option maxRecDepth 20000 in
theorem B_X12_takes_0 {M : qMem} {x1 : Int} : qlim C_X12_takes (0, [some (qA 82), some (qI x1)], [], qH0 M) = qbd (S_X12_next [qA 82] (qH0 M)) (fun r h' => qlim C_X12_takes (4, [some (qA 82), some (qI x1)], r.toList ++ [], h')) := by
  refine Eq.trans (qlim_n (n := 1) (c' := (1, [some (qA 82), some (qI x1)], [qA 82], qH0 M)) rfl) ?_
  exact (qlim_callv (n := 0) rfl rfl rfl (Nat.le_of_ble_eq_true rfl) (Nat.le_of_ble_eq_true rfl) rfl)
set_option maxRecDepth 20000 in
theorem B_X12_takes_4 {M : qMem} {x1 s0 : Int} : qlim C_X12_takes (4, [some (qA 82), some (qI x1)], [qI s0], qH0 M) = qlim C_X12_takes ((if s0 = x1 then 10 else 8), [some (qA 82), some (qI x1)], [], qH0 M) := (qlim_n (n := 2) (c' := ((if s0 = x1 then 10 else 8), [some (qA 82), some (qI x1)], [], qH0 M)) rfl)
set_option maxRecDepth 20000 in
theorem B_X12_takes_8 {M : qMem} {x1 : Int} : qlim C_X12_takes (8, [some (qA 82), some (qI x1)], [], qH0 M) = some (some (qI 0), qH0 M) := by
  refine Eq.trans (qlim_n (n := 1) (c' := (9, [some (qA 82), some (qI x1)], [qI 0], qH0 M)) rfl) ?_
  exact (qlim_ret rfl)
set_option maxRecDepth 20000 in
theorem B_X12_takes_10 {M : qMem} {x1 : Int} : qlim C_X12_takes (10, [some (qA 82), some (qI x1)], [], qH0 M) = some (some (qI 1), qH0 (qup M 82 13 (kadd (M 82 13) 1))) := by
  refine Eq.trans (qlim_n (n := 7) (c' := (21, [some (qA 82), some (qI x1)], [qI 1], qH0 (qup M 82 13 (kadd (M 82 13) 1)))) rfl) ?_
  exact (qlim_ret rfl)
theorem E_X12_takes {h : qH} {x1 : Int} : S_X12_takes [qA 82, qI x1] h = qlim C_X12_takes (0, [some (qA 82), some (qI x1)], [], h) := qM_at (Nat.le_of_ble_eq_true rfl) rfl
set_option maxRecDepth 20000 in
theorem B_X12_takesWord_0 {M : qMem} {x1 x2 : Int} : qlim C_X12_takesWord (0, [some (qA 82), some (qI x1), some (qI x2), none], [], qH0 M) = qlim C_X12_takesWord (2, [some (qA 82), some (qI x1), some (qI x2), some (qI 0)], [], qH0 M) := (qlim_n (n := 2) (c' := (2, [some (qA 82), some (qI x1), some (qI x2), some (qI 0)], [], qH0 M)) rfl)
set_option maxRecDepth 20000 in
theorem B_X12_takesWord_2 {M : qMem} {x1 x2 x3 : Int} : qlim C_X12_takesWord (2, [some (qA 82), some (qI x1), some (qI x2), some (qI x3)], [], qH0 M) = qlim C_X12_takesWord ((if x2 ≤ x3 then 30 else 7), [some (qA 82), some (qI x1), some (qI x2), some (qI x3)], [], qH0 M) := (qlim_n (n := 3) (c' := ((if x2 ≤ x3 then 30 else 7), [some (qA 82), some (qI x1), some (qI x2), some (qI x3)], [], qH0 M)) rfl)
set_option maxRecDepth 20000 in
theorem B_X12_takesWord_7 {M : qMem} {x1 x2 x3 : Int} (h1 : 0 ≤ kadd x1 x3) (h2 : kadd x1 x3 < 18) : qlim C_X12_takesWord (7, [some (qA 82), some (qI x1), some (qI x2), some (qI x3)], [], qH0 M) = qbd (S_X12_takes [qA 82, qI (M 98 (kadd x1 x3))] (qH0 M)) (fun r h' => qlim C_X12_takesWord (19, [some (qA 82), some (qI x1), some (qI x2), some (qI x3)], r.toList ++ [], h')) := by
  refine Eq.trans (qlim_n (n := 6) (c' := (15, [some (qA 82), some (qI x1), some (qI x2), some (qI x3)], [qI (kadd x1 x3), qA 98, qA 82], qH0 M)) rfl) ?_
  refine Eq.trans (qs_iaload rfl rfl h1 h2) ?_
  exact (qlim_callv (n := 1) rfl rfl rfl (Nat.le_of_ble_eq_true rfl) (Nat.le_of_ble_eq_true rfl) rfl)
set_option maxRecDepth 20000 in
theorem B_X12_takesWord_19 {M : qMem} {x1 x2 x3 s0 : Int} : qlim C_X12_takesWord (19, [some (qA 82), some (qI x1), some (qI x2), some (qI x3)], [qI s0], qH0 M) = qlim C_X12_takesWord ((if ¬ s0 = 0 then 24 else 22), [some (qA 82), some (qI x1), some (qI x2), some (qI x3)], [], qH0 M) := (qlim_n (n := 1) (c' := ((if ¬ s0 = 0 then 24 else 22), [some (qA 82), some (qI x1), some (qI x2), some (qI x3)], [], qH0 M)) rfl)
set_option maxRecDepth 20000 in
theorem B_X12_takesWord_22 {M : qMem} {x1 x2 x3 : Int} : qlim C_X12_takesWord (22, [some (qA 82), some (qI x1), some (qI x2), some (qI x3)], [], qH0 M) = some (some (qI 0), qH0 M) := by
  refine Eq.trans (qlim_n (n := 1) (c' := (23, [some (qA 82), some (qI x1), some (qI x2), some (qI x3)], [qI 0], qH0 M)) rfl) ?_
  exact (qlim_ret rfl)
set_option maxRecDepth 20000 in
theorem B_X12_takesWord_24 {M : qMem} {x1 x2 x3 : Int} : qlim C_X12_takesWord (24, [some (qA 82), some (qI x1), some (qI x2), some (qI x3)], [], qH0 M) = qlim C_X12_takesWord (2, [some (qA 82), some (qI x1), some (qI x2), some (qI (kadd x3 1))], [], qH0 M) := (qlim_n (n := 2) (c' := (2, [some (qA 82), some (qI x1), some (qI x2), some (qI (kadd x3 1))], [], qH0 M)) rfl)
set_option maxRecDepth 20000 in
theorem B_X12_takesWord_30 {M : qMem} {x1 x2 x3 : Int} : qlim C_X12_takesWord (30, [some (qA 82), some (qI x1), some (qI x2), some (qI x3)], [], qH0 M) = qbd (S_X12_takes [qA 82, qI 32] (qH0 M)) (fun r h' => qlim C_X12_takesWord (36, [some (qA 82), some (qI x1), some (qI x2), some (qI x3)], r.toList ++ [], h')) := by
  refine Eq.trans (qlim_n (n := 2) (c' := (33, [some (qA 82), some (qI x1), some (qI x2), some (qI x3)], [qI 32, qA 82], qH0 M)) rfl) ?_
  exact (qlim_callv (n := 1) rfl rfl rfl (Nat.le_of_ble_eq_true rfl) (Nat.le_of_ble_eq_true rfl) rfl)
set_option maxRecDepth 20000 in
theorem B_X12_takesWord_36 {M : qMem} {x1 x2 x3 s0 : Int} (h1 : s0 = 0 ∨ s0 = 1) : qlim C_X12_takesWord (36, [some (qA 82), some (qI x1), some (qI x2), some (qI x3)], [qI s0], qH0 M) = some (some (qI s0), qH0 M) := (qs_retZ rfl h1)
theorem E_X12_takesWord {h : qH} {x1 x2 : Int} : S_X12_takesWord [qA 82, qI x1, qI x2] h = qlim C_X12_takesWord (0, [some (qA 82), some (qI x1), some (qI x2), none], [], h) := qM_at (Nat.le_of_ble_eq_true rfl) rfl
set_option maxRecDepth 20000 in
theorem B_X12_isDigit_0 {M : qMem} : qlim C_X12_isDigit (0, [some (qA 82)], [], qH0 M) = qbd (S_X12_next [qA 82] (qH0 M)) (fun r h' => qlim C_X12_isDigit (5, [some (qA 82)], r.toList ++ [qA 82], h')) := by
  refine Eq.trans (qlim_n (n := 2) (c' := (2, [some (qA 82)], [qA 82, qA 82], qH0 M)) rfl) ?_
  exact (qlim_callv (n := 0) rfl rfl rfl (Nat.le_of_ble_eq_true rfl) (Nat.le_of_ble_eq_true rfl) rfl)
set_option maxRecDepth 20000 in
theorem B_X12_isDigit_5 {M : qMem} {s1 : Int} : qlim C_X12_isDigit (5, [some (qA 82)], [qI s1, qA 82], qH0 M) = qbd (S_X12_in [qA 82, qI s1, qI 48, qI 57] (qH0 M)) (fun r h' => qlim C_X12_isDigit (12, [some (qA 82)], r.toList ++ [], h')) := by
  refine Eq.trans (qlim_n (n := 2) (c' := (9, [some (qA 82)], [qI 57, qI 48, qI s1, qA 82], qH0 M)) rfl) ?_
  exact (qlim_callv (n := 3) rfl rfl rfl (Nat.le_of_ble_eq_true rfl) (Nat.le_of_ble_eq_true rfl) rfl)
set_option maxRecDepth 20000 in
theorem B_X12_isDigit_12 {M : qMem} {s0 : Int} (h1 : s0 = 0 ∨ s0 = 1) : qlim C_X12_isDigit (12, [some (qA 82)], [qI s0], qH0 M) = some (some (qI s0), qH0 M) := (qs_retZ rfl h1)
theorem E_X12_isDigit {h : qH} : S_X12_isDigit [qA 82] h = qlim C_X12_isDigit (0, [some (qA 82)], [], h) := qM_at (Nat.le_of_ble_eq_true rfl) rfl
set_option maxRecDepth 20000 in
theorem B_X12_takesNumber_0 {M : qMem} : qlim C_X12_takesNumber (0, [some (qA 82), none], [], qH0 M) = qbd (S_X12_isDigit [qA 82] (qH0 M)) (fun r h' => qlim C_X12_takesNumber (4, [some (qA 82), none], r.toList ++ [], h')) := by
  refine Eq.trans (qlim_n (n := 1) (c' := (1, [some (qA 82), none], [qA 82], qH0 M)) rfl) ?_
  exact (qlim_callv (n := 0) rfl rfl rfl (Nat.le_of_ble_eq_true rfl) (Nat.le_of_ble_eq_true rfl) rfl)
set_option maxRecDepth 20000 in
theorem B_X12_takesNumber_4 {M : qMem} {s0 : Int} : qlim C_X12_takesNumber (4, [some (qA 82), none], [qI s0], qH0 M) = qlim C_X12_takesNumber ((if ¬ s0 = 0 then 9 else 7), [some (qA 82), none], [], qH0 M) := (qlim_n (n := 1) (c' := ((if ¬ s0 = 0 then 9 else 7), [some (qA 82), none], [], qH0 M)) rfl)
set_option maxRecDepth 20000 in
theorem B_X12_takesNumber_7 {M : qMem} : qlim C_X12_takesNumber (7, [some (qA 82), none], [], qH0 M) = some (some (qI 0), qH0 M) := by
  refine Eq.trans (qlim_n (n := 1) (c' := (8, [some (qA 82), none], [qI 0], qH0 M)) rfl) ?_
  exact (qlim_ret rfl)
set_option maxRecDepth 20000 in
theorem B_X12_takesNumber_9 {M : qMem} : qlim C_X12_takesNumber (9, [some (qA 82), none], [], qH0 M) = qlim C_X12_takesNumber (16, [some (qA 82), some (qI 0)], [], qH0 (qup M 82 14 0)) := (qlim_n (n := 5) (c' := (16, [some (qA 82), some (qI 0)], [], qH0 (qup M 82 14 0))) rfl)
set_option maxRecDepth 20000 in
theorem B_X12_takesNumber_16 {M : qMem} {x1 : Int} : qlim C_X12_takesNumber (16, [some (qA 82), some (qI x1)], [], qH0 M) = qlim C_X12_takesNumber ((if 2 ≤ x1 then 63 else 21), [some (qA 82), some (qI x1)], [], qH0 M) := (qlim_n (n := 3) (c' := ((if 2 ≤ x1 then 63 else 21), [some (qA 82), some (qI x1)], [], qH0 M)) rfl)
set_option maxRecDepth 20000 in
theorem B_X12_takesNumber_21 {M : qMem} {x1 : Int} : qlim C_X12_takesNumber (21, [some (qA 82), some (qI x1)], [], qH0 M) = qbd (S_X12_isDigit [qA 82] (qH0 M)) (fun r h' => qlim C_X12_takesNumber (25, [some (qA 82), some (qI x1)], r.toList ++ [], h')) := by
  refine Eq.trans (qlim_n (n := 1) (c' := (22, [some (qA 82), some (qI x1)], [qA 82], qH0 M)) rfl) ?_
  exact (qlim_callv (n := 0) rfl rfl rfl (Nat.le_of_ble_eq_true rfl) (Nat.le_of_ble_eq_true rfl) rfl)
set_option maxRecDepth 20000 in
theorem B_X12_takesNumber_25 {M : qMem} {x1 s0 : Int} : qlim C_X12_takesNumber (25, [some (qA 82), some (qI x1)], [qI s0], qH0 M) = qlim C_X12_takesNumber ((if s0 = 0 then 63 else 28), [some (qA 82), some (qI x1)], [], qH0 M) := (qlim_n (n := 1) (c' := ((if s0 = 0 then 63 else 28), [some (qA 82), some (qI x1)], [], qH0 M)) rfl)
set_option maxRecDepth 20000 in
theorem B_X12_takesNumber_28 {M : qMem} {x1 : Int} : qlim C_X12_takesNumber (28, [some (qA 82), some (qI x1)], [], qH0 M) = qbd (S_X12_next [qA 82] (qH0 M)) (fun r h' => qlim C_X12_takesNumber (40, [some (qA 82), some (qI x1)], r.toList ++ [qI (kmul 10 (M 82 14)), qA 82], h')) := by
  refine Eq.trans (qlim_n (n := 6) (c' := (37, [some (qA 82), some (qI x1)], [qA 82, qI (kmul 10 (M 82 14)), qA 82], qH0 M)) rfl) ?_
  exact (qlim_callv (n := 0) rfl rfl rfl (Nat.le_of_ble_eq_true rfl) (Nat.le_of_ble_eq_true rfl) rfl)
set_option maxRecDepth 20000 in
theorem B_X12_takesNumber_40 {M : qMem} {x1 s1 s2 : Int} : qlim C_X12_takesNumber (40, [some (qA 82), some (qI x1)], [qI s2, qI s1, qA 82], qH0 M) = qlim C_X12_takesNumber (16, [some (qA 82), some (qI (kadd x1 1))], [], qH0 (qup (qup M 82 14 (ksub (kadd s1 s2) 48)) 82 13 (kadd ((qup M 82 14 (ksub (kadd s1 s2) 48)) 82 13) 1))) := (qlim_n (n := 12) (c' := (16, [some (qA 82), some (qI (kadd x1 1))], [], qH0 (qup (qup M 82 14 (ksub (kadd s1 s2) 48)) 82 13 (kadd ((qup M 82 14 (ksub (kadd s1 s2) 48)) 82 13) 1)))) rfl)
set_option maxRecDepth 20000 in
theorem B_X12_takesNumber_63 {M : qMem} {x1 : Int} : qlim C_X12_takesNumber (63, [some (qA 82), some (qI x1)], [], qH0 M) = some (some (qI 1), qH0 M) := by
  refine Eq.trans (qlim_n (n := 1) (c' := (64, [some (qA 82), some (qI x1)], [qI 1], qH0 M)) rfl) ?_
  exact (qlim_ret rfl)
theorem E_X12_takesNumber {h : qH} : S_X12_takesNumber [qA 82] h = qlim C_X12_takesNumber (0, [some (qA 82), none], [], h) := qM_at (Nat.le_of_ble_eq_true rfl) rfl
set_option maxRecDepth 20000 in
theorem B_X12_emits_0 {M : qMem} {x1 : Int} (h1 : 0 ≤ M 82 23) (h2 : M 82 23 < 600) : qlim C_X12_emits (0, [some (qA 82), some (qI x1)], [], qH0 M) = some (none, qH0 (qup (qup M 96 (M 82 23) x1) 82 23 (kadd ((qup M 96 (M 82 23) x1) 82 23) 1))) := by
  refine Eq.trans (qlim_n (n := 5) (c' := (9, [some (qA 82), some (qI x1)], [qI x1, qI (M 82 23), qA 96], qH0 M)) rfl) ?_
  refine Eq.trans (qs_iastore rfl rfl h1 h2) ?_
  refine Eq.trans (qlim_n (n := 6) (c' := (20, [some (qA 82), some (qI x1)], [], qH0 (qup (qup M 96 (M 82 23) x1) 82 23 (kadd ((qup M 96 (M 82 23) x1) 82 23) 1)))) rfl) ?_
  exact (qlim_ret rfl)
theorem E_X12_emits {h : qH} {x1 : Int} : S_X12_emits [qA 82, qI x1] h = qlim C_X12_emits (0, [some (qA 82), some (qI x1)], [], h) := qM_at (Nat.le_of_ble_eq_true rfl) rfl
set_option maxRecDepth 20000 in
theorem B_X12_whole_0 {M : qMem} : qlim C_X12_whole (0, [some (qA 82)], [], qH0 M) = qlim C_X12_whole ((if M 82 24 ≤ 0 then 52 else 7), [some (qA 82)], [], qH0 M) := (qlim_n (n := 3) (c' := ((if M 82 24 ≤ 0 then 52 else 7), [some (qA 82)], [], qH0 M)) rfl)
set_option maxRecDepth 20000 in
theorem B_X12_whole_7 {M : qMem} (h1 : 0 ≤ ksub (M 82 24) 1) (h2 : ksub (M 82 24) 1 < 101) : qlim C_X12_whole (7, [some (qA 82)], [], qH0 M) = qlim C_X12_whole ((if ¬ M 97 (ksub (M 82 24) 1) = 33 then 52 else 23), [some (qA 82)], [], qH0 M) := by
  refine Eq.trans (qlim_n (n := 6) (c' := (17, [some (qA 82)], [qI (ksub (M 82 24) 1), qA 97], qH0 M)) rfl) ?_
  refine Eq.trans (qs_iaload rfl rfl h1 h2) ?_
  exact (qlim_n (n := 2) (c' := ((if ¬ M 97 (ksub (M 82 24) 1) = 33 then 52 else 23), [some (qA 82)], [], qH0 M)) rfl)
set_option maxRecDepth 20000 in
theorem B_X12_whole_23 {M : qMem} : qlim C_X12_whole (23, [some (qA 82)], [], qH0 M) = qbd (S_X12_emits [qA 82, qI (-33)] (qH0 M)) (fun r h' => qlim C_X12_whole (29, [some (qA 82)], r.toList ++ [], h')) := by
  refine Eq.trans (qlim_n (n := 2) (c' := (26, [some (qA 82)], [qI (-33), qA 82], qH0 M)) rfl) ?_
  exact (qlim_callv (n := 1) rfl rfl rfl (Nat.le_of_ble_eq_true rfl) (Nat.le_of_ble_eq_true rfl) rfl)
set_option maxRecDepth 20000 in
theorem B_X12_whole_29 {M : qMem} : qlim C_X12_whole (29, [some (qA 82)], [], qH0 M) = qlim C_X12_whole (0, [some (qA 82)], [], qH0 (qup (qup M 82 24 (ksub (M 82 24) 1)) 82 25 (ksub ((qup M 82 24 (ksub (M 82 24) 1)) 82 25) 1))) := (qlim_n (n := 13) (c' := (0, [some (qA 82)], [], qH0 (qup (qup M 82 24 (ksub (M 82 24) 1)) 82 25 (ksub ((qup M 82 24 (ksub (M 82 24) 1)) 82 25) 1)))) rfl)
set_option maxRecDepth 20000 in
theorem B_X12_whole_52 {M : qMem} : qlim C_X12_whole (52, [some (qA 82)], [], qH0 M) = some (none, qH0 M) := (qlim_ret rfl)
theorem E_X12_whole {h : qH} : S_X12_whole [qA 82] h = qlim C_X12_whole (0, [some (qA 82)], [], h) := qM_at (Nat.le_of_ble_eq_true rfl) rfl
set_option maxRecDepth 20000 in
theorem B_X12_settle_0 {M : qMem} {x1 : Int} : qlim C_X12_settle (0, [some (qA 82), some (qI x1)], [], qH0 M) = qlim C_X12_settle ((if M 82 24 ≤ 0 then 72 else 7), [some (qA 82), some (qI x1)], [], qH0 M) := (qlim_n (n := 3) (c' := ((if M 82 24 ≤ 0 then 72 else 7), [some (qA 82), some (qI x1)], [], qH0 M)) rfl)
set_option maxRecDepth 20000 in
theorem B_X12_settle_7 {M : qMem} {x1 : Int} (h1 : 0 ≤ ksub (M 82 24) 1) (h2 : ksub (M 82 24) 1 < 101) : qlim C_X12_settle (7, [some (qA 82), some (qI x1)], [], qH0 M) = qlim C_X12_settle ((if M 97 (ksub (M 82 24) 1) = 38 then 45 else 23), [some (qA 82), some (qI x1)], [], qH0 M) := by
  refine Eq.trans (qlim_n (n := 6) (c' := (17, [some (qA 82), some (qI x1)], [qI (ksub (M 82 24) 1), qA 97], qH0 M)) rfl) ?_
  refine Eq.trans (qs_iaload rfl rfl h1 h2) ?_
  exact (qlim_n (n := 2) (c' := ((if M 97 (ksub (M 82 24) 1) = 38 then 45 else 23), [some (qA 82), some (qI x1)], [], qH0 M)) rfl)
set_option maxRecDepth 20000 in
theorem B_X12_settle_23 {M : qMem} {x1 : Int} (h1 : 0 ≤ ksub (M 82 24) 1) (h2 : ksub (M 82 24) 1 < 101) : qlim C_X12_settle (23, [some (qA 82), some (qI x1)], [], qH0 M) = qlim C_X12_settle ((if ¬ M 97 (ksub (M 82 24) 1) = 124 then 72 else 39), [some (qA 82), some (qI x1)], [], qH0 M) := by
  refine Eq.trans (qlim_n (n := 6) (c' := (33, [some (qA 82), some (qI x1)], [qI (ksub (M 82 24) 1), qA 97], qH0 M)) rfl) ?_
  refine Eq.trans (qs_iaload rfl rfl h1 h2) ?_
  exact (qlim_n (n := 2) (c' := ((if ¬ M 97 (ksub (M 82 24) 1) = 124 then 72 else 39), [some (qA 82), some (qI x1)], [], qH0 M)) rfl)
set_option maxRecDepth 20000 in
theorem B_X12_settle_39 {M : qMem} {x1 : Int} : qlim C_X12_settle (39, [some (qA 82), some (qI x1)], [], qH0 M) = qlim C_X12_settle ((if x1 = 38 then 72 else 45), [some (qA 82), some (qI x1)], [], qH0 M) := (qlim_n (n := 3) (c' := ((if x1 = 38 then 72 else 45), [some (qA 82), some (qI x1)], [], qH0 M)) rfl)
set_option maxRecDepth 20000 in
theorem B_X12_settle_45 {M : qMem} {x1 : Int} (h1 : 0 ≤ (qup M 82 24 (ksub (M 82 24) 1)) 82 24) (h2 : (qup M 82 24 (ksub (M 82 24) 1)) 82 24 < 101) : qlim C_X12_settle (45, [some (qA 82), some (qI x1)], [], qH0 M) = qbd (S_X12_emits [qA 82, qI (kneg ((qup M 82 24 (ksub (M 82 24) 1)) 97 ((qup M 82 24 (ksub (M 82 24) 1)) 82 24)))] (qH0 (qup M 82 24 (ksub (M 82 24) 1)))) (fun r h' => qlim C_X12_settle (69, [some (qA 82), some (qI x1)], r.toList ++ [], h')) := by
  refine Eq.trans (qlim_n (n := 11) (c' := (64, [some (qA 82), some (qI x1)], [qI ((qup M 82 24 (ksub (M 82 24) 1)) 82 24), qA 97, qA 82], qH0 (qup M 82 24 (ksub (M 82 24) 1)))) rfl) ?_
  refine Eq.trans (qs_iaload rfl rfl h1 h2) ?_
  refine Eq.trans (qlim_n (n := 1) (c' := (66, [some (qA 82), some (qI x1)], [qI (kneg ((qup M 82 24 (ksub (M 82 24) 1)) 97 ((qup M 82 24 (ksub (M 82 24) 1)) 82 24))), qA 82], qH0 (qup M 82 24 (ksub (M 82 24) 1)))) rfl) ?_
  exact (qlim_callv (n := 1) rfl rfl rfl (Nat.le_of_ble_eq_true rfl) (Nat.le_of_ble_eq_true rfl) rfl)
set_option maxRecDepth 20000 in
theorem B_X12_settle_69 {M : qMem} {x1 : Int} : qlim C_X12_settle (69, [some (qA 82), some (qI x1)], [], qH0 M) = qlim C_X12_settle (0, [some (qA 82), some (qI x1)], [], qH0 M) := (qlim_n (n := 1) (c' := (0, [some (qA 82), some (qI x1)], [], qH0 M)) rfl)
set_option maxRecDepth 20000 in
theorem B_X12_settle_72 {M : qMem} {x1 : Int} : qlim C_X12_settle (72, [some (qA 82), some (qI x1)], [], qH0 M) = some (none, qH0 M) := (qlim_ret rfl)
theorem E_X12_settle {h : qH} {x1 : Int} : S_X12_settle [qA 82, qI x1] h = qlim C_X12_settle (0, [some (qA 82), some (qI x1)], [], h) := qM_at (Nat.le_of_ble_eq_true rfl) rfl
set_option maxRecDepth 20000 in
theorem B_X12_place_0 {M : qMem} {x1 : Int} : qlim C_X12_place (0, [some (qA 82), some (qI x1)], [], qH0 M) = qlim C_X12_place (qtk [104, 108, 108, 108, 108, 108, 108, 98, 108, 106, 108, 108, 96, 108, 108, 108, 108, 108, 100, 102] 108 100 x1, [some (qA 82), some (qI x1)], [], qH0 M) := (qlim_n (n := 2) (c' := (qtk [104, 108, 108, 108, 108, 108, 108, 98, 108, 106, 108, 108, 96, 108, 108, 108, 108, 108, 100, 102] 108 100 x1, [some (qA 82), some (qI x1)], [], qH0 M)) rfl)
set_option maxRecDepth 20000 in
theorem B_X12_place_96 {M : qMem} {x1 : Int} : qlim C_X12_place (96, [some (qA 82), some (qI x1)], [], qH0 M) = some (some (qI 0), qH0 M) := by
  refine Eq.trans (qlim_n (n := 1) (c' := (97, [some (qA 82), some (qI x1)], [qI 0], qH0 M)) rfl) ?_
  exact (qlim_ret rfl)
set_option maxRecDepth 20000 in
theorem B_X12_place_98 {M : qMem} {x1 : Int} : qlim C_X12_place (98, [some (qA 82), some (qI x1)], [], qH0 M) = some (some (qI 1), qH0 M) := by
  refine Eq.trans (qlim_n (n := 1) (c' := (99, [some (qA 82), some (qI x1)], [qI 1], qH0 M)) rfl) ?_
  exact (qlim_ret rfl)
set_option maxRecDepth 20000 in
theorem B_X12_place_100 {M : qMem} {x1 : Int} : qlim C_X12_place (100, [some (qA 82), some (qI x1)], [], qH0 M) = some (some (qI 2), qH0 M) := by
  refine Eq.trans (qlim_n (n := 1) (c' := (101, [some (qA 82), some (qI x1)], [qI 2], qH0 M)) rfl) ?_
  exact (qlim_ret rfl)
set_option maxRecDepth 20000 in
theorem B_X12_place_102 {M : qMem} {x1 : Int} : qlim C_X12_place (102, [some (qA 82), some (qI x1)], [], qH0 M) = some (some (qI 3), qH0 M) := by
  refine Eq.trans (qlim_n (n := 1) (c' := (103, [some (qA 82), some (qI x1)], [qI 3], qH0 M)) rfl) ?_
  exact (qlim_ret rfl)
set_option maxRecDepth 20000 in
theorem B_X12_place_104 {M : qMem} {x1 : Int} : qlim C_X12_place (104, [some (qA 82), some (qI x1)], [], qH0 M) = some (some (qI 4), qH0 M) := by
  refine Eq.trans (qlim_n (n := 1) (c' := (105, [some (qA 82), some (qI x1)], [qI 4], qH0 M)) rfl) ?_
  exact (qlim_ret rfl)
set_option maxRecDepth 20000 in
theorem B_X12_place_106 {M : qMem} {x1 : Int} : qlim C_X12_place (106, [some (qA 82), some (qI x1)], [], qH0 M) = some (some (qI 5), qH0 M) := by
  refine Eq.trans (qlim_n (n := 1) (c' := (107, [some (qA 82), some (qI x1)], [qI 5], qH0 M)) rfl) ?_
  exact (qlim_ret rfl)
set_option maxRecDepth 20000 in
theorem B_X12_place_108 {M : qMem} {x1 : Int} : qlim C_X12_place (108, [some (qA 82), some (qI x1)], [], qH0 M) = some (some (qI (-1)), qH0 M) := by
  refine Eq.trans (qlim_n (n := 1) (c' := (109, [some (qA 82), some (qI x1)], [qI (-1)], qH0 M)) rfl) ?_
  exact (qlim_ret rfl)
theorem E_X12_place {h : qH} {x1 : Int} : S_X12_place [qA 82, qI x1] h = qlim C_X12_place (0, [some (qA 82), some (qI x1)], [], h) := qM_at (Nat.le_of_ble_eq_true rfl) rfl
set_option maxRecDepth 20000 in
theorem B_X12_takesTest_0 {M : qMem} : qlim C_X12_takesTest (0, [some (qA 82), none, none], [], qH0 M) = qbd (S_X12_next [qA 82] (qH0 M)) (fun r h' => qlim C_X12_takesTest (5, [some (qA 82), none, none], r.toList ++ [qA 82], h')) := by
  refine Eq.trans (qlim_n (n := 2) (c' := (2, [some (qA 82), none, none], [qA 82, qA 82], qH0 M)) rfl) ?_
  exact (qlim_callv (n := 0) rfl rfl rfl (Nat.le_of_ble_eq_true rfl) (Nat.le_of_ble_eq_true rfl) rfl)
set_option maxRecDepth 20000 in
theorem B_X12_takesTest_5 {M : qMem} {s1 : Int} : qlim C_X12_takesTest (5, [some (qA 82), none, none], [qI s1, qA 82], qH0 M) = qbd (S_X12_place [qA 82, qI s1] (qH0 M)) (fun r h' => qlim C_X12_takesTest (8, [some (qA 82), none, none], r.toList ++ [], h')) := (qlim_callv (n := 1) rfl rfl rfl (Nat.le_of_ble_eq_true rfl) (Nat.le_of_ble_eq_true rfl) rfl)
set_option maxRecDepth 20000 in
theorem B_X12_takesTest_8 {M : qMem} {s0 : Int} : qlim C_X12_takesTest (8, [some (qA 82), none, none], [qI s0], qH0 M) = qlim C_X12_takesTest ((if 0 ≤ s0 then 15 else 13), [some (qA 82), some (qI s0), none], [], qH0 M) := (qlim_n (n := 3) (c' := ((if 0 ≤ s0 then 15 else 13), [some (qA 82), some (qI s0), none], [], qH0 M)) rfl)
set_option maxRecDepth 20000 in
theorem B_X12_takesTest_13 {M : qMem} {x1 : Int} : qlim C_X12_takesTest (13, [some (qA 82), some (qI x1), none], [], qH0 M) = some (some (qI 0), qH0 M) := by
  refine Eq.trans (qlim_n (n := 1) (c' := (14, [some (qA 82), some (qI x1), none], [qI 0], qH0 M)) rfl) ?_
  exact (qlim_ret rfl)
set_option maxRecDepth 20000 in
theorem B_X12_takesTest_15 {M : qMem} {x1 : Int} : qlim C_X12_takesTest (15, [some (qA 82), some (qI x1), none], [], qH0 M) = qbd (S_X12_next [qA 82] (qH0 (qup M 82 13 (kadd (M 82 13) 1)))) (fun r h' => qlim C_X12_takesTest (29, [some (qA 82), some (qI x1), none], r.toList ++ [], h')) := by
  refine Eq.trans (qlim_n (n := 7) (c' := (26, [some (qA 82), some (qI x1), none], [qA 82], qH0 (qup M 82 13 (kadd (M 82 13) 1)))) rfl) ?_
  exact (qlim_callv (n := 0) rfl rfl rfl (Nat.le_of_ble_eq_true rfl) (Nat.le_of_ble_eq_true rfl) rfl)
set_option maxRecDepth 20000 in
theorem B_X12_takesTest_29 {M : qMem} {x1 s0 : Int} : qlim C_X12_takesTest (29, [some (qA 82), some (qI x1), none], [qI s0], qH0 M) = qbd (S_X12_in [qA 82, qI s0, qI 60, qI 62] (qH0 M)) (fun r h' => qlim C_X12_takesTest (39, [some (qA 82), some (qI x1), some (qI s0)], r.toList ++ [], h')) := by
  refine Eq.trans (qlim_n (n := 5) (c' := (36, [some (qA 82), some (qI x1), some (qI s0)], [qI 62, qI 60, qI s0, qA 82], qH0 M)) rfl) ?_
  exact (qlim_callv (n := 3) rfl rfl rfl (Nat.le_of_ble_eq_true rfl) (Nat.le_of_ble_eq_true rfl) rfl)
set_option maxRecDepth 20000 in
theorem B_X12_takesTest_39 {M : qMem} {x1 x2 s0 : Int} : qlim C_X12_takesTest (39, [some (qA 82), some (qI x1), some (qI x2)], [qI s0], qH0 M) = qlim C_X12_takesTest ((if ¬ s0 = 0 then 44 else 42), [some (qA 82), some (qI x1), some (qI x2)], [], qH0 M) := (qlim_n (n := 1) (c' := ((if ¬ s0 = 0 then 44 else 42), [some (qA 82), some (qI x1), some (qI x2)], [], qH0 M)) rfl)
set_option maxRecDepth 20000 in
theorem B_X12_takesTest_42 {M : qMem} {x1 x2 : Int} : qlim C_X12_takesTest (42, [some (qA 82), some (qI x1), some (qI x2)], [], qH0 M) = some (some (qI 0), qH0 M) := by
  refine Eq.trans (qlim_n (n := 1) (c' := (43, [some (qA 82), some (qI x1), some (qI x2)], [qI 0], qH0 M)) rfl) ?_
  exact (qlim_ret rfl)
set_option maxRecDepth 20000 in
theorem B_X12_takesTest_44 {M : qMem} {x1 x2 : Int} : qlim C_X12_takesTest (44, [some (qA 82), some (qI x1), some (qI x2)], [], qH0 M) = qbd (S_X12_takesNumber [qA 82] (qH0 (qup M 82 13 (kadd (M 82 13) 1)))) (fun r h' => qlim C_X12_takesTest (58, [some (qA 82), some (qI x1), some (qI x2)], r.toList ++ [], h')) := by
  refine Eq.trans (qlim_n (n := 7) (c' := (55, [some (qA 82), some (qI x1), some (qI x2)], [qA 82], qH0 (qup M 82 13 (kadd (M 82 13) 1)))) rfl) ?_
  exact (qlim_callv (n := 0) rfl rfl rfl (Nat.le_of_ble_eq_true rfl) (Nat.le_of_ble_eq_true rfl) rfl)
set_option maxRecDepth 20000 in
theorem B_X12_takesTest_58 {M : qMem} {x1 x2 s0 : Int} : qlim C_X12_takesTest (58, [some (qA 82), some (qI x1), some (qI x2)], [qI s0], qH0 M) = qlim C_X12_takesTest ((if ¬ s0 = 0 then 63 else 61), [some (qA 82), some (qI x1), some (qI x2)], [], qH0 M) := (qlim_n (n := 1) (c' := ((if ¬ s0 = 0 then 63 else 61), [some (qA 82), some (qI x1), some (qI x2)], [], qH0 M)) rfl)
set_option maxRecDepth 20000 in
theorem B_X12_takesTest_61 {M : qMem} {x1 x2 : Int} : qlim C_X12_takesTest (61, [some (qA 82), some (qI x1), some (qI x2)], [], qH0 M) = some (some (qI 0), qH0 M) := by
  refine Eq.trans (qlim_n (n := 1) (c' := (62, [some (qA 82), some (qI x1), some (qI x2)], [qI 0], qH0 M)) rfl) ?_
  exact (qlim_ret rfl)
set_option maxRecDepth 20000 in
theorem B_X12_takesTest_63 {M : qMem} {x1 x2 : Int} : qlim C_X12_takesTest (63, [some (qA 82), some (qI x1), some (qI x2)], [], qH0 M) = qbd (S_X12_emits [qA 82, qI (kadd (kadd (kmul 1000 x1) (kmul 100 (ksub x2 60))) (M 82 14))] (qH0 M)) (fun r h' => qlim C_X12_takesTest (85, [some (qA 82), some (qI x1), some (qI x2)], r.toList ++ [], h')) := by
  refine Eq.trans (qlim_n (n := 13) (c' := (82, [some (qA 82), some (qI x1), some (qI x2)], [qI (kadd (kadd (kmul 1000 x1) (kmul 100 (ksub x2 60))) (M 82 14)), qA 82], qH0 M)) rfl) ?_
  exact (qlim_callv (n := 1) rfl rfl rfl (Nat.le_of_ble_eq_true rfl) (Nat.le_of_ble_eq_true rfl) rfl)
set_option maxRecDepth 20000 in
theorem B_X12_takesTest_85 {M : qMem} {x1 x2 : Int} : qlim C_X12_takesTest (85, [some (qA 82), some (qI x1), some (qI x2)], [], qH0 M) = qbd (S_X12_whole [qA 82] (qH0 M)) (fun r h' => qlim C_X12_takesTest (89, [some (qA 82), some (qI x1), some (qI x2)], r.toList ++ [], h')) := by
  refine Eq.trans (qlim_n (n := 1) (c' := (86, [some (qA 82), some (qI x1), some (qI x2)], [qA 82], qH0 M)) rfl) ?_
  exact (qlim_callv (n := 0) rfl rfl rfl (Nat.le_of_ble_eq_true rfl) (Nat.le_of_ble_eq_true rfl) rfl)
set_option maxRecDepth 20000 in
theorem B_X12_takesTest_89 {M : qMem} {x1 x2 : Int} : qlim C_X12_takesTest (89, [some (qA 82), some (qI x1), some (qI x2)], [], qH0 M) = some (some (qI 1), qH0 M) := by
  refine Eq.trans (qlim_n (n := 1) (c' := (90, [some (qA 82), some (qI x1), some (qI x2)], [qI 1], qH0 M)) rfl) ?_
  exact (qlim_ret rfl)
theorem E_X12_takesTest {h : qH} : S_X12_takesTest [qA 82] h = qlim C_X12_takesTest (0, [some (qA 82), none, none], [], h) := qM_at (Nat.le_of_ble_eq_true rfl) rfl
set_option maxRecDepth 20000 in
theorem B_X12_takesE_0 {M : qMem} {x1 : Int} (h1 : 0 ≤ x1) (h2 : x1 < 60) : qlim C_X12_takesE (0, [some (qA 82), some (qI x1), none, none], [], qH0 M) = qlim C_X12_takesE (22, [some (qA 82), some (qI x1), some (qI 1), none], [], qH0 (qup (qup (qup M 82 24 0) 82 25 0) 94 x1 ((qup (qup M 82 24 0) 82 25 0) 82 23))) := by
  refine Eq.trans (qlim_n (n := 11) (c' := (19, [some (qA 82), some (qI x1), none, none], [qI ((qup (qup M 82 24 0) 82 25 0) 82 23), qI x1, qA 94], qH0 (qup (qup M 82 24 0) 82 25 0))) rfl) ?_
  refine Eq.trans (qs_iastore rfl rfl h1 h2) ?_
  exact (qlim_n (n := 2) (c' := (22, [some (qA 82), some (qI x1), some (qI 1), none], [], qH0 (qup (qup (qup M 82 24 0) 82 25 0) 94 x1 ((qup (qup M 82 24 0) 82 25 0) 82 23)))) rfl)
set_option maxRecDepth 20000 in
theorem B_X12_takesE_22 {M : qMem} {x1 x2 : Int} {x3 : Option qV} : qlim C_X12_takesE (22, [some (qA 82), some (qI x1), some (qI x2), x3], [], qH0 M) = qbd (S_X12_next [qA 82] (qH0 M)) (fun r h' => qlim C_X12_takesE (26, [some (qA 82), some (qI x1), some (qI x2), x3], r.toList ++ [], h')) := by
  refine Eq.trans (qlim_n (n := 1) (c' := (23, [some (qA 82), some (qI x1), some (qI x2), x3], [qA 82], qH0 M)) rfl) ?_
  exact (qlim_callv (n := 0) rfl rfl rfl (Nat.le_of_ble_eq_true rfl) (Nat.le_of_ble_eq_true rfl) rfl)
set_option maxRecDepth 20000 in
theorem B_X12_takesE_26 {M : qMem} {x1 x2 s0 : Int} {x3 : Option qV} : qlim C_X12_takesE (26, [some (qA 82), some (qI x1), some (qI x2), x3], [qI s0], qH0 M) = qlim C_X12_takesE ((if x2 = 0 then 110 else 31), [some (qA 82), some (qI x1), some (qI x2), some (qI s0)], [], qH0 M) := (qlim_n (n := 3) (c' := ((if x2 = 0 then 110 else 31), [some (qA 82), some (qI x1), some (qI x2), some (qI s0)], [], qH0 M)) rfl)
set_option maxRecDepth 20000 in
theorem B_X12_takesE_31 {M : qMem} {x1 x2 x3 : Int} : qlim C_X12_takesE (31, [some (qA 82), some (qI x1), some (qI x2), some (qI x3)], [], qH0 M) = qlim C_X12_takesE ((if x3 = 33 then 43 else 37), [some (qA 82), some (qI x1), some (qI x2), some (qI x3)], [], qH0 M) := (qlim_n (n := 3) (c' := ((if x3 = 33 then 43 else 37), [some (qA 82), some (qI x1), some (qI x2), some (qI x3)], [], qH0 M)) rfl)
set_option maxRecDepth 20000 in
theorem B_X12_takesE_37 {M : qMem} {x1 x2 x3 : Int} : qlim C_X12_takesE (37, [some (qA 82), some (qI x1), some (qI x2), some (qI x3)], [], qH0 M) = qlim C_X12_takesE ((if ¬ x3 = 40 then 96 else 43), [some (qA 82), some (qI x1), some (qI x2), some (qI x3)], [], qH0 M) := (qlim_n (n := 3) (c' := ((if ¬ x3 = 40 then 96 else 43), [some (qA 82), some (qI x1), some (qI x2), some (qI x3)], [], qH0 M)) rfl)
set_option maxRecDepth 20000 in
theorem B_X12_takesE_43 {M : qMem} {x1 x2 x3 : Int} : qlim C_X12_takesE (43, [some (qA 82), some (qI x1), some (qI x2), some (qI x3)], [], qH0 M) = qlim C_X12_takesE ((if ¬ M 82 25 = 4 then 53 else 51), [some (qA 82), some (qI x1), some (qI x2), some (qI x3)], [], qH0 M) := (qlim_n (n := 4) (c' := ((if ¬ M 82 25 = 4 then 53 else 51), [some (qA 82), some (qI x1), some (qI x2), some (qI x3)], [], qH0 M)) rfl)
set_option maxRecDepth 20000 in
theorem B_X12_takesE_51 {M : qMem} {x1 x2 x3 : Int} : qlim C_X12_takesE (51, [some (qA 82), some (qI x1), some (qI x2), some (qI x3)], [], qH0 M) = some (some (qI 0), qH0 M) := by
  refine Eq.trans (qlim_n (n := 1) (c' := (52, [some (qA 82), some (qI x1), some (qI x2), some (qI x3)], [qI 0], qH0 M)) rfl) ?_
  exact (qlim_ret rfl)
set_option maxRecDepth 20000 in
theorem B_X12_takesE_53 {M : qMem} {x1 x2 x3 : Int} (h1 : 0 ≤ (qup M 82 25 (kadd (M 82 25) 1)) 82 24) (h2 : (qup M 82 25 (kadd (M 82 25) 1)) 82 24 < 101) : qlim C_X12_takesE (53, [some (qA 82), some (qI x1), some (qI x2), some (qI x3)], [], qH0 M) = qlim C_X12_takesE (22, [some (qA 82), some (qI x1), some (qI x2), some (qI x3)], [], qH0 (qup (qup (qup (qup M 82 25 (kadd (M 82 25) 1)) 97 ((qup M 82 25 (kadd (M 82 25) 1)) 82 24) x3) 82 24 (kadd ((qup (qup M 82 25 (kadd (M 82 25) 1)) 97 ((qup M 82 25 (kadd (M 82 25) 1)) 82 24) x3) 82 24) 1)) 82 13 (kadd ((qup (qup (qup M 82 25 (kadd (M 82 25) 1)) 97 ((qup M 82 25 (kadd (M 82 25) 1)) 82 24) x3) 82 24 (kadd ((qup (qup M 82 25 (kadd (M 82 25) 1)) 97 ((qup M 82 25 (kadd (M 82 25) 1)) 82 24) x3) 82 24) 1)) 82 13) 1))) := by
  refine Eq.trans (qlim_n (n := 11) (c' := (72, [some (qA 82), some (qI x1), some (qI x2), some (qI x3)], [qI x3, qI ((qup M 82 25 (kadd (M 82 25) 1)) 82 24), qA 97], qH0 (qup M 82 25 (kadd (M 82 25) 1)))) rfl) ?_
  refine Eq.trans (qs_iastore rfl rfl h1 h2) ?_
  exact (qlim_n (n := 13) (c' := (22, [some (qA 82), some (qI x1), some (qI x2), some (qI x3)], [], qH0 (qup (qup (qup (qup M 82 25 (kadd (M 82 25) 1)) 97 ((qup M 82 25 (kadd (M 82 25) 1)) 82 24) x3) 82 24 (kadd ((qup (qup M 82 25 (kadd (M 82 25) 1)) 97 ((qup M 82 25 (kadd (M 82 25) 1)) 82 24) x3) 82 24) 1)) 82 13 (kadd ((qup (qup (qup M 82 25 (kadd (M 82 25) 1)) 97 ((qup M 82 25 (kadd (M 82 25) 1)) 82 24) x3) 82 24 (kadd ((qup (qup M 82 25 (kadd (M 82 25) 1)) 97 ((qup M 82 25 (kadd (M 82 25) 1)) 82 24) x3) 82 24) 1)) 82 13) 1)))) rfl)
set_option maxRecDepth 20000 in
theorem B_X12_takesE_96 {M : qMem} {x1 x2 x3 : Int} : qlim C_X12_takesE (96, [some (qA 82), some (qI x1), some (qI x2), some (qI x3)], [], qH0 M) = qbd (S_X12_takesTest [qA 82] (qH0 M)) (fun r h' => qlim C_X12_takesE (100, [some (qA 82), some (qI x1), some (qI x2), some (qI x3)], r.toList ++ [], h')) := by
  refine Eq.trans (qlim_n (n := 1) (c' := (97, [some (qA 82), some (qI x1), some (qI x2), some (qI x3)], [qA 82], qH0 M)) rfl) ?_
  exact (qlim_callv (n := 0) rfl rfl rfl (Nat.le_of_ble_eq_true rfl) (Nat.le_of_ble_eq_true rfl) rfl)
set_option maxRecDepth 20000 in
theorem B_X12_takesE_100 {M : qMem} {x1 x2 x3 s0 : Int} : qlim C_X12_takesE (100, [some (qA 82), some (qI x1), some (qI x2), some (qI x3)], [qI s0], qH0 M) = qlim C_X12_takesE ((if s0 = 0 then 108 else 103), [some (qA 82), some (qI x1), some (qI x2), some (qI x3)], [], qH0 M) := (qlim_n (n := 1) (c' := ((if s0 = 0 then 108 else 103), [some (qA 82), some (qI x1), some (qI x2), some (qI x3)], [], qH0 M)) rfl)
set_option maxRecDepth 20000 in
theorem B_X12_takesE_103 {M : qMem} {x1 x2 x3 : Int} : qlim C_X12_takesE (103, [some (qA 82), some (qI x1), some (qI x2), some (qI x3)], [], qH0 M) = qlim C_X12_takesE (22, [some (qA 82), some (qI x1), some (qI 0), some (qI x3)], [], qH0 M) := (qlim_n (n := 3) (c' := (22, [some (qA 82), some (qI x1), some (qI 0), some (qI x3)], [], qH0 M)) rfl)
set_option maxRecDepth 20000 in
theorem B_X12_takesE_108 {M : qMem} {x1 x2 x3 : Int} : qlim C_X12_takesE (108, [some (qA 82), some (qI x1), some (qI x2), some (qI x3)], [], qH0 M) = some (some (qI 0), qH0 M) := by
  refine Eq.trans (qlim_n (n := 1) (c' := (109, [some (qA 82), some (qI x1), some (qI x2), some (qI x3)], [qI 0], qH0 M)) rfl) ?_
  exact (qlim_ret rfl)
set_option maxRecDepth 20000 in
theorem B_X12_takesE_110 {M : qMem} {x1 x2 x3 : Int} : qlim C_X12_takesE (110, [some (qA 82), some (qI x1), some (qI x2), some (qI x3)], [], qH0 M) = qlim C_X12_takesE ((if x3 = 38 then 122 else 116), [some (qA 82), some (qI x1), some (qI x2), some (qI x3)], [], qH0 M) := (qlim_n (n := 3) (c' := ((if x3 = 38 then 122 else 116), [some (qA 82), some (qI x1), some (qI x2), some (qI x3)], [], qH0 M)) rfl)
set_option maxRecDepth 20000 in
theorem B_X12_takesE_116 {M : qMem} {x1 x2 x3 : Int} : qlim C_X12_takesE (116, [some (qA 82), some (qI x1), some (qI x2), some (qI x3)], [], qH0 M) = qlim C_X12_takesE ((if ¬ x3 = 124 then 162 else 122), [some (qA 82), some (qI x1), some (qI x2), some (qI x3)], [], qH0 M) := (qlim_n (n := 3) (c' := ((if ¬ x3 = 124 then 162 else 122), [some (qA 82), some (qI x1), some (qI x2), some (qI x3)], [], qH0 M)) rfl)
set_option maxRecDepth 20000 in
theorem B_X12_takesE_122 {M : qMem} {x1 x2 x3 : Int} : qlim C_X12_takesE (122, [some (qA 82), some (qI x1), some (qI x2), some (qI x3)], [], qH0 M) = qbd (S_X12_settle [qA 82, qI x3] (qH0 M)) (fun r h' => qlim C_X12_takesE (127, [some (qA 82), some (qI x1), some (qI x2), some (qI x3)], r.toList ++ [], h')) := by
  refine Eq.trans (qlim_n (n := 2) (c' := (124, [some (qA 82), some (qI x1), some (qI x2), some (qI x3)], [qI x3, qA 82], qH0 M)) rfl) ?_
  exact (qlim_callv (n := 1) rfl rfl rfl (Nat.le_of_ble_eq_true rfl) (Nat.le_of_ble_eq_true rfl) rfl)
set_option maxRecDepth 20000 in
theorem B_X12_takesE_127 {M : qMem} {x1 x2 x3 : Int} (h1 : 0 ≤ M 82 24) (h2 : M 82 24 < 101) : qlim C_X12_takesE (127, [some (qA 82), some (qI x1), some (qI x2), some (qI x3)], [], qH0 M) = qlim C_X12_takesE (22, [some (qA 82), some (qI x1), some (qI 1), some (qI x3)], [], qH0 (qup (qup (qup M 97 (M 82 24) x3) 82 24 (kadd ((qup M 97 (M 82 24) x3) 82 24) 1)) 82 13 (kadd ((qup (qup M 97 (M 82 24) x3) 82 24 (kadd ((qup M 97 (M 82 24) x3) 82 24) 1)) 82 13) 1))) := by
  refine Eq.trans (qlim_n (n := 5) (c' := (136, [some (qA 82), some (qI x1), some (qI x2), some (qI x3)], [qI x3, qI (M 82 24), qA 97], qH0 M)) rfl) ?_
  refine Eq.trans (qs_iastore rfl rfl h1 h2) ?_
  exact (qlim_n (n := 15) (c' := (22, [some (qA 82), some (qI x1), some (qI 1), some (qI x3)], [], qH0 (qup (qup (qup M 97 (M 82 24) x3) 82 24 (kadd ((qup M 97 (M 82 24) x3) 82 24) 1)) 82 13 (kadd ((qup (qup M 97 (M 82 24) x3) 82 24 (kadd ((qup M 97 (M 82 24) x3) 82 24) 1)) 82 13) 1)))) rfl)
set_option maxRecDepth 20000 in
theorem B_X12_takesE_162 {M : qMem} {x1 x2 x3 : Int} : qlim C_X12_takesE (162, [some (qA 82), some (qI x1), some (qI x2), some (qI x3)], [], qH0 M) = qbd (S_X12_settle [qA 82, qI 124] (qH0 M)) (fun r h' => qlim C_X12_takesE (168, [some (qA 82), some (qI x1), some (qI x2), some (qI x3)], r.toList ++ [], h')) := by
  refine Eq.trans (qlim_n (n := 2) (c' := (165, [some (qA 82), some (qI x1), some (qI x2), some (qI x3)], [qI 124, qA 82], qH0 M)) rfl) ?_
  exact (qlim_callv (n := 1) rfl rfl rfl (Nat.le_of_ble_eq_true rfl) (Nat.le_of_ble_eq_true rfl) rfl)
set_option maxRecDepth 20000 in
theorem B_X12_takesE_168 {M : qMem} {x1 x2 x3 : Int} (h1 : 0 ≤ x1) (h2 : x1 < 60) : qlim C_X12_takesE (168, [some (qA 82), some (qI x1), some (qI x2), some (qI x3)], [], qH0 M) = qlim C_X12_takesE ((if ¬ (qup M 95 x1 (M 82 23)) 82 24 = 0 then 187 else 185), [some (qA 82), some (qI x1), some (qI x2), some (qI x3)], [], qH0 (qup M 95 x1 (M 82 23))) := by
  refine Eq.trans (qlim_n (n := 5) (c' := (177, [some (qA 82), some (qI x1), some (qI x2), some (qI x3)], [qI (M 82 23), qI x1, qA 95], qH0 M)) rfl) ?_
  refine Eq.trans (qs_iastore rfl rfl h1 h2) ?_
  exact (qlim_n (n := 3) (c' := ((if ¬ (qup M 95 x1 (M 82 23)) 82 24 = 0 then 187 else 185), [some (qA 82), some (qI x1), some (qI x2), some (qI x3)], [], qH0 (qup M 95 x1 (M 82 23)))) rfl)
set_option maxRecDepth 20000 in
theorem B_X12_takesE_185 {M : qMem} {x1 x2 x3 : Int} : qlim C_X12_takesE (185, [some (qA 82), some (qI x1), some (qI x2), some (qI x3)], [], qH0 M) = some (some (qI 1), qH0 M) := by
  refine Eq.trans (qlim_n (n := 1) (c' := (186, [some (qA 82), some (qI x1), some (qI x2), some (qI x3)], [qI 1], qH0 M)) rfl) ?_
  exact (qlim_ret rfl)
set_option maxRecDepth 20000 in
theorem B_X12_takesE_187 {M : qMem} {x1 x2 x3 : Int} : qlim C_X12_takesE (187, [some (qA 82), some (qI x1), some (qI x2), some (qI x3)], [], qH0 M) = qlim C_X12_takesE ((if x3 = 41 then 195 else 193), [some (qA 82), some (qI x1), some (qI x2), some (qI x3)], [], qH0 M) := (qlim_n (n := 3) (c' := ((if x3 = 41 then 195 else 193), [some (qA 82), some (qI x1), some (qI x2), some (qI x3)], [], qH0 M)) rfl)
set_option maxRecDepth 20000 in
theorem B_X12_takesE_193 {M : qMem} {x1 x2 x3 : Int} : qlim C_X12_takesE (193, [some (qA 82), some (qI x1), some (qI x2), some (qI x3)], [], qH0 M) = some (some (qI 0), qH0 M) := by
  refine Eq.trans (qlim_n (n := 1) (c' := (194, [some (qA 82), some (qI x1), some (qI x2), some (qI x3)], [qI 0], qH0 M)) rfl) ?_
  exact (qlim_ret rfl)
set_option maxRecDepth 20000 in
theorem B_X12_takesE_195 {M : qMem} {x1 x2 x3 : Int} : qlim C_X12_takesE (195, [some (qA 82), some (qI x1), some (qI x2), some (qI x3)], [], qH0 M) = qbd (S_X12_whole [qA 82] (qH0 (qup (qup (qup M 82 24 (ksub (M 82 24) 1)) 82 25 (ksub ((qup M 82 24 (ksub (M 82 24) 1)) 82 25) 1)) 82 13 (kadd ((qup (qup M 82 24 (ksub (M 82 24) 1)) 82 25 (ksub ((qup M 82 24 (ksub (M 82 24) 1)) 82 25) 1)) 82 13) 1)))) (fun r h' => qlim C_X12_takesE (229, [some (qA 82), some (qI x1), some (qI x2), some (qI x3)], r.toList ++ [], h')) := by
  refine Eq.trans (qlim_n (n := 19) (c' := (226, [some (qA 82), some (qI x1), some (qI x2), some (qI x3)], [qA 82], qH0 (qup (qup (qup M 82 24 (ksub (M 82 24) 1)) 82 25 (ksub ((qup M 82 24 (ksub (M 82 24) 1)) 82 25) 1)) 82 13 (kadd ((qup (qup M 82 24 (ksub (M 82 24) 1)) 82 25 (ksub ((qup M 82 24 (ksub (M 82 24) 1)) 82 25) 1)) 82 13) 1)))) rfl) ?_
  exact (qlim_callv (n := 0) rfl rfl rfl (Nat.le_of_ble_eq_true rfl) (Nat.le_of_ble_eq_true rfl) rfl)
set_option maxRecDepth 20000 in
theorem B_X12_takesE_229 {M : qMem} {x1 x2 x3 : Int} : qlim C_X12_takesE (229, [some (qA 82), some (qI x1), some (qI x2), some (qI x3)], [], qH0 M) = qlim C_X12_takesE (22, [some (qA 82), some (qI x1), some (qI x2), some (qI x3)], [], qH0 M) := (qlim_n (n := 1) (c' := (22, [some (qA 82), some (qI x1), some (qI x2), some (qI x3)], [], qH0 M)) rfl)
theorem E_X12_takesE {h : qH} {x1 : Int} : S_X12_takesE [qA 82, qI x1] h = qlim C_X12_takesE (0, [some (qA 82), some (qI x1), none, none], [], h) := qM_at (Nat.le_of_ble_eq_true rfl) rfl
set_option maxRecDepth 20000 in
theorem B_X12_takesHead_0 {M : qMem} {x1 : Int} : qlim C_X12_takesHead (0, [some (qA 82), some (qI x1)], [], qH0 M) = qbd (S_X12_next [qA 82] (qH0 M)) (fun r h' => qlim C_X12_takesHead (4, [some (qA 82), some (qI x1)], r.toList ++ [], h')) := by
  refine Eq.trans (qlim_n (n := 1) (c' := (1, [some (qA 82), some (qI x1)], [qA 82], qH0 M)) rfl) ?_
  exact (qlim_callv (n := 0) rfl rfl rfl (Nat.le_of_ble_eq_true rfl) (Nat.le_of_ble_eq_true rfl) rfl)
set_option maxRecDepth 20000 in
theorem B_X12_takesHead_4 {M : qMem} {x1 s0 : Int} : qlim C_X12_takesHead (4, [some (qA 82), some (qI x1)], [qI s0], qH0 M) = qlim C_X12_takesHead (qlk [(98, 40), (104, 68), (115, 54)] 83 s0, [some (qA 82), some (qI x1)], [], qH0 M) := (qlim_n (n := 1) (c' := (qlk [(98, 40), (104, 68), (115, 54)] 83 s0, [some (qA 82), some (qI x1)], [], qH0 M)) rfl)
set_option maxRecDepth 20000 in
theorem B_X12_takesHead_40 {M : qMem} {x1 : Int} (h1 : 0 ≤ x1) (h2 : x1 < 60) : qlim C_X12_takesHead (40, [some (qA 82), some (qI x1)], [], qH0 M) = qbd (S_X12_takesWord [qA 82, qI 0, qI 5] (qH0 (qup M 92 x1 0))) (fun r h' => qlim C_X12_takesHead (53, [some (qA 82), some (qI x1)], r.toList ++ [], h')) := by
  refine Eq.trans (qlim_n (n := 4) (c' := (46, [some (qA 82), some (qI x1)], [qI 0, qI x1, qA 92], qH0 M)) rfl) ?_
  refine Eq.trans (qs_iastore rfl rfl h1 h2) ?_
  refine Eq.trans (qlim_n (n := 3) (c' := (50, [some (qA 82), some (qI x1)], [qI 5, qI 0, qA 82], qH0 (qup M 92 x1 0))) rfl) ?_
  exact (qlim_callv (n := 2) rfl rfl rfl (Nat.le_of_ble_eq_true rfl) (Nat.le_of_ble_eq_true rfl) rfl)
set_option maxRecDepth 20000 in
theorem B_X12_takesHead_53 {M : qMem} {x1 s0 : Int} (h1 : s0 = 0 ∨ s0 = 1) : qlim C_X12_takesHead (53, [some (qA 82), some (qI x1)], [qI s0], qH0 M) = some (some (qI s0), qH0 M) := (qs_retZ rfl h1)
set_option maxRecDepth 20000 in
theorem B_X12_takesHead_54 {M : qMem} {x1 : Int} (h1 : 0 ≤ x1) (h2 : x1 < 60) : qlim C_X12_takesHead (54, [some (qA 82), some (qI x1)], [], qH0 M) = qbd (S_X12_takesWord [qA 82, qI 5, qI 5] (qH0 (qup M 92 x1 1))) (fun r h' => qlim C_X12_takesHead (67, [some (qA 82), some (qI x1)], r.toList ++ [], h')) := by
  refine Eq.trans (qlim_n (n := 4) (c' := (60, [some (qA 82), some (qI x1)], [qI 1, qI x1, qA 92], qH0 M)) rfl) ?_
  refine Eq.trans (qs_iastore rfl rfl h1 h2) ?_
  refine Eq.trans (qlim_n (n := 3) (c' := (64, [some (qA 82), some (qI x1)], [qI 5, qI 5, qA 82], qH0 (qup M 92 x1 1))) rfl) ?_
  exact (qlim_callv (n := 2) rfl rfl rfl (Nat.le_of_ble_eq_true rfl) (Nat.le_of_ble_eq_true rfl) rfl)
set_option maxRecDepth 20000 in
theorem B_X12_takesHead_67 {M : qMem} {x1 s0 : Int} (h1 : s0 = 0 ∨ s0 = 1) : qlim C_X12_takesHead (67, [some (qA 82), some (qI x1)], [qI s0], qH0 M) = some (some (qI s0), qH0 M) := (qs_retZ rfl h1)
set_option maxRecDepth 20000 in
theorem B_X12_takesHead_68 {M : qMem} {x1 : Int} (h1 : 0 ≤ x1) (h2 : x1 < 60) : qlim C_X12_takesHead (68, [some (qA 82), some (qI x1)], [], qH0 M) = qbd (S_X12_takesWord [qA 82, qI 10, qI 4] (qH0 (qup M 92 x1 2))) (fun r h' => qlim C_X12_takesHead (82, [some (qA 82), some (qI x1)], r.toList ++ [], h')) := by
  refine Eq.trans (qlim_n (n := 4) (c' := (74, [some (qA 82), some (qI x1)], [qI 2, qI x1, qA 92], qH0 M)) rfl) ?_
  refine Eq.trans (qs_iastore rfl rfl h1 h2) ?_
  refine Eq.trans (qlim_n (n := 3) (c' := (79, [some (qA 82), some (qI x1)], [qI 4, qI 10, qA 82], qH0 (qup M 92 x1 2))) rfl) ?_
  exact (qlim_callv (n := 2) rfl rfl rfl (Nat.le_of_ble_eq_true rfl) (Nat.le_of_ble_eq_true rfl) rfl)
set_option maxRecDepth 20000 in
theorem B_X12_takesHead_82 {M : qMem} {x1 s0 : Int} (h1 : s0 = 0 ∨ s0 = 1) : qlim C_X12_takesHead (82, [some (qA 82), some (qI x1)], [qI s0], qH0 M) = some (some (qI s0), qH0 M) := (qs_retZ rfl h1)
set_option maxRecDepth 20000 in
theorem B_X12_takesHead_83 {M : qMem} {x1 : Int} (h1 : 0 ≤ x1) (h2 : x1 < 60) : qlim C_X12_takesHead (83, [some (qA 82), some (qI x1)], [], qH0 M) = qbd (S_X12_takesWord [qA 82, qI 14, qI 4] (qH0 (qup M 92 x1 3))) (fun r h' => qlim C_X12_takesHead (97, [some (qA 82), some (qI x1)], r.toList ++ [], h')) := by
  refine Eq.trans (qlim_n (n := 4) (c' := (89, [some (qA 82), some (qI x1)], [qI 3, qI x1, qA 92], qH0 M)) rfl) ?_
  refine Eq.trans (qs_iastore rfl rfl h1 h2) ?_
  refine Eq.trans (qlim_n (n := 3) (c' := (94, [some (qA 82), some (qI x1)], [qI 4, qI 14, qA 82], qH0 (qup M 92 x1 3))) rfl) ?_
  exact (qlim_callv (n := 2) rfl rfl rfl (Nat.le_of_ble_eq_true rfl) (Nat.le_of_ble_eq_true rfl) rfl)
set_option maxRecDepth 20000 in
theorem B_X12_takesHead_97 {M : qMem} {x1 s0 : Int} (h1 : s0 = 0 ∨ s0 = 1) : qlim C_X12_takesHead (97, [some (qA 82), some (qI x1)], [qI s0], qH0 M) = some (some (qI s0), qH0 M) := (qs_retZ rfl h1)
theorem E_X12_takesHead {h : qH} {x1 : Int} : S_X12_takesHead [qA 82, qI x1] h = qlim C_X12_takesHead (0, [some (qA 82), some (qI x1)], [], h) := qM_at (Nat.le_of_ble_eq_true rfl) rfl
set_option maxRecDepth 20000 in
theorem B_X12_takesClause_0 {M : qMem} {x1 : Int} : qlim C_X12_takesClause (0, [some (qA 82), some (qI x1)], [], qH0 M) = qbd (S_X12_takesHead [qA 82, qI x1] (qH0 M)) (fun r h' => qlim C_X12_takesClause (5, [some (qA 82), some (qI x1)], r.toList ++ [], h')) := by
  refine Eq.trans (qlim_n (n := 2) (c' := (2, [some (qA 82), some (qI x1)], [qI x1, qA 82], qH0 M)) rfl) ?_
  exact (qlim_callv (n := 1) rfl rfl rfl (Nat.le_of_ble_eq_true rfl) (Nat.le_of_ble_eq_true rfl) rfl)
set_option maxRecDepth 20000 in
theorem B_X12_takesClause_5 {M : qMem} {x1 s0 : Int} : qlim C_X12_takesClause (5, [some (qA 82), some (qI x1)], [qI s0], qH0 M) = qlim C_X12_takesClause ((if s0 = 0 then 15 else 8), [some (qA 82), some (qI x1)], [], qH0 M) := (qlim_n (n := 1) (c' := ((if s0 = 0 then 15 else 8), [some (qA 82), some (qI x1)], [], qH0 M)) rfl)
set_option maxRecDepth 20000 in
theorem B_X12_takesClause_8 {M : qMem} {x1 : Int} : qlim C_X12_takesClause (8, [some (qA 82), some (qI x1)], [], qH0 M) = qbd (S_X12_takesNumber [qA 82] (qH0 M)) (fun r h' => qlim C_X12_takesClause (12, [some (qA 82), some (qI x1)], r.toList ++ [], h')) := by
  refine Eq.trans (qlim_n (n := 1) (c' := (9, [some (qA 82), some (qI x1)], [qA 82], qH0 M)) rfl) ?_
  exact (qlim_callv (n := 0) rfl rfl rfl (Nat.le_of_ble_eq_true rfl) (Nat.le_of_ble_eq_true rfl) rfl)
set_option maxRecDepth 20000 in
theorem B_X12_takesClause_12 {M : qMem} {x1 s0 : Int} : qlim C_X12_takesClause (12, [some (qA 82), some (qI x1)], [qI s0], qH0 M) = qlim C_X12_takesClause ((if ¬ s0 = 0 then 17 else 15), [some (qA 82), some (qI x1)], [], qH0 M) := (qlim_n (n := 1) (c' := ((if ¬ s0 = 0 then 17 else 15), [some (qA 82), some (qI x1)], [], qH0 M)) rfl)
set_option maxRecDepth 20000 in
theorem B_X12_takesClause_15 {M : qMem} {x1 : Int} : qlim C_X12_takesClause (15, [some (qA 82), some (qI x1)], [], qH0 M) = some (some (qI 0), qH0 M) := by
  refine Eq.trans (qlim_n (n := 1) (c' := (16, [some (qA 82), some (qI x1)], [qI 0], qH0 M)) rfl) ?_
  exact (qlim_ret rfl)
set_option maxRecDepth 20000 in
theorem B_X12_takesClause_17 {M : qMem} {x1 : Int} (h1 : 0 ≤ x1) (h2 : x1 < 60) : qlim C_X12_takesClause (17, [some (qA 82), some (qI x1)], [], qH0 M) = qlim C_X12_takesClause ((if 2 ≤ (qup M 93 x1 (M 82 14)) 92 x1 then 54 else 37), [some (qA 82), some (qI x1)], [], qH0 (qup M 93 x1 (M 82 14))) := by
  refine Eq.trans (qlim_n (n := 5) (c' := (26, [some (qA 82), some (qI x1)], [qI (M 82 14), qI x1, qA 93], qH0 M)) rfl) ?_
  refine Eq.trans (qs_iastore rfl rfl h1 h2) ?_
  refine Eq.trans (qlim_n (n := 3) (c' := (32, [some (qA 82), some (qI x1)], [qI x1, qA 92], qH0 (qup M 93 x1 (M 82 14)))) rfl) ?_
  refine Eq.trans (qs_iaload rfl rfl h1 h2) ?_
  exact (qlim_n (n := 2) (c' := ((if 2 ≤ (qup M 93 x1 (M 82 14)) 92 x1 then 54 else 37), [some (qA 82), some (qI x1)], [], qH0 (qup M 93 x1 (M 82 14)))) rfl)
set_option maxRecDepth 20000 in
theorem B_X12_takesClause_37 {M : qMem} {x1 : Int} : qlim C_X12_takesClause (37, [some (qA 82), some (qI x1)], [], qH0 M) = qbd (S_X12_takes [qA 82, qI 32] (qH0 M)) (fun r h' => qlim C_X12_takesClause (43, [some (qA 82), some (qI x1)], r.toList ++ [], h')) := by
  refine Eq.trans (qlim_n (n := 2) (c' := (40, [some (qA 82), some (qI x1)], [qI 32, qA 82], qH0 M)) rfl) ?_
  exact (qlim_callv (n := 1) rfl rfl rfl (Nat.le_of_ble_eq_true rfl) (Nat.le_of_ble_eq_true rfl) rfl)
set_option maxRecDepth 20000 in
theorem B_X12_takesClause_43 {M : qMem} {x1 s0 : Int} : qlim C_X12_takesClause (43, [some (qA 82), some (qI x1)], [qI s0], qH0 M) = qlim C_X12_takesClause ((if s0 = 0 then 58 else 46), [some (qA 82), some (qI x1)], [], qH0 M) := (qlim_n (n := 1) (c' := ((if s0 = 0 then 58 else 46), [some (qA 82), some (qI x1)], [], qH0 M)) rfl)
set_option maxRecDepth 20000 in
theorem B_X12_takesClause_46 {M : qMem} {x1 : Int} : qlim C_X12_takesClause (46, [some (qA 82), some (qI x1)], [], qH0 M) = qbd (S_X12_takesE [qA 82, qI x1] (qH0 M)) (fun r h' => qlim C_X12_takesClause (51, [some (qA 82), some (qI x1)], r.toList ++ [], h')) := by
  refine Eq.trans (qlim_n (n := 2) (c' := (48, [some (qA 82), some (qI x1)], [qI x1, qA 82], qH0 M)) rfl) ?_
  exact (qlim_callv (n := 1) rfl rfl rfl (Nat.le_of_ble_eq_true rfl) (Nat.le_of_ble_eq_true rfl) rfl)
set_option maxRecDepth 20000 in
theorem B_X12_takesClause_51 {M : qMem} {x1 s0 : Int} : qlim C_X12_takesClause (51, [some (qA 82), some (qI x1)], [qI s0], qH0 M) = qlim C_X12_takesClause ((if s0 = 0 then 58 else 54), [some (qA 82), some (qI x1)], [], qH0 M) := (qlim_n (n := 1) (c' := ((if s0 = 0 then 58 else 54), [some (qA 82), some (qI x1)], [], qH0 M)) rfl)
set_option maxRecDepth 20000 in
theorem B_X12_takesClause_54 {M : qMem} {x1 : Int} : qlim C_X12_takesClause (54, [some (qA 82), some (qI x1)], [], qH0 M) = qlim C_X12_takesClause (59, [some (qA 82), some (qI x1)], [qI 1], qH0 M) := (qlim_n (n := 2) (c' := (59, [some (qA 82), some (qI x1)], [qI 1], qH0 M)) rfl)
set_option maxRecDepth 20000 in
theorem B_X12_takesClause_58 {M : qMem} {x1 : Int} : qlim C_X12_takesClause (58, [some (qA 82), some (qI x1)], [], qH0 M) = qlim C_X12_takesClause (59, [some (qA 82), some (qI x1)], [qI 0], qH0 M) := (qlim_n (n := 1) (c' := (59, [some (qA 82), some (qI x1)], [qI 0], qH0 M)) rfl)
set_option maxRecDepth 20000 in
theorem B_X12_takesClause_59 {M : qMem} {x1 s0 : Int} (h1 : s0 = 0 ∨ s0 = 1) : qlim C_X12_takesClause (59, [some (qA 82), some (qI x1)], [qI s0], qH0 M) = some (some (qI s0), qH0 M) := (qs_retZ rfl h1)
theorem E_X12_takesClause {h : qH} {x1 : Int} : S_X12_takesClause [qA 82, qI x1] h = qlim C_X12_takesClause (0, [some (qA 82), some (qI x1)], [], h) := qM_at (Nat.le_of_ble_eq_true rfl) rfl
set_option maxRecDepth 20000 in
theorem B_X12_goesText_0 {M : qMem} {x1 : Int} : qlim C_X12_goesText (0, [some (qA 82), some (qI x1), none], [], qH0 M) = qlim C_X12_goesText (15, [some (qA 82), some (qI x1), some (qI 0)], [], qH0 (qup (qup M 82 13 0) 82 23 (kmul 100 x1))) := (qlim_n (n := 10) (c' := (15, [some (qA 82), some (qI x1), some (qI 0)], [], qH0 (qup (qup M 82 13 0) 82 23 (kmul 100 x1)))) rfl)
set_option maxRecDepth 20000 in
theorem B_X12_goesText_15 {M : qMem} {x1 x2 : Int} : qlim C_X12_goesText (15, [some (qA 82), some (qI x1), some (qI x2)], [], qH0 M) = qbd (S_X12_takesClause [qA 82, qI (kadd (kmul 10 x1) x2)] (qH0 M)) (fun r h' => qlim C_X12_goesText (25, [some (qA 82), some (qI x1), some (qI x2)], r.toList ++ [], h')) := by
  refine Eq.trans (qlim_n (n := 6) (c' := (22, [some (qA 82), some (qI x1), some (qI x2)], [qI (kadd (kmul 10 x1) x2), qA 82], qH0 M)) rfl) ?_
  exact (qlim_callv (n := 1) rfl rfl rfl (Nat.le_of_ble_eq_true rfl) (Nat.le_of_ble_eq_true rfl) rfl)
set_option maxRecDepth 20000 in
theorem B_X12_goesText_25 {M : qMem} {x1 x2 s0 : Int} : qlim C_X12_goesText (25, [some (qA 82), some (qI x1), some (qI x2)], [qI s0], qH0 M) = qlim C_X12_goesText ((if ¬ s0 = 0 then 30 else 28), [some (qA 82), some (qI x1), some (qI x2)], [], qH0 M) := (qlim_n (n := 1) (c' := ((if ¬ s0 = 0 then 30 else 28), [some (qA 82), some (qI x1), some (qI x2)], [], qH0 M)) rfl)
set_option maxRecDepth 20000 in
theorem B_X12_goesText_28 {M : qMem} {x1 x2 : Int} : qlim C_X12_goesText (28, [some (qA 82), some (qI x1), some (qI x2)], [], qH0 M) = some (some (qI 0), qH0 M) := by
  refine Eq.trans (qlim_n (n := 1) (c' := (29, [some (qA 82), some (qI x1), some (qI x2)], [qI 0], qH0 M)) rfl) ?_
  exact (qlim_ret rfl)
set_option maxRecDepth 20000 in
theorem B_X12_goesText_30 {M : qMem} {x1 x2 : Int} (h1 : 0 ≤ x1) (h2 : x1 < 6) : qlim C_X12_goesText (30, [some (qA 82), some (qI x1), some (qI x2)], [], qH0 M) = qlim C_X12_goesText ((if ¬ (qup M 91 x1 (kadd x2 1)) 82 13 = (qup M 91 x1 (kadd x2 1)) 82 12 then 53 else 51), [some (qA 82), some (qI x1), some (qI (kadd x2 1))], [], qH0 (qup M 91 x1 (kadd x2 1))) := by
  refine Eq.trans (qlim_n (n := 5) (c' := (39, [some (qA 82), some (qI x1), some (qI (kadd x2 1))], [qI (kadd x2 1), qI x1, qA 91], qH0 M)) rfl) ?_
  refine Eq.trans (qs_iastore rfl rfl h1 h2) ?_
  exact (qlim_n (n := 5) (c' := ((if ¬ (qup M 91 x1 (kadd x2 1)) 82 13 = (qup M 91 x1 (kadd x2 1)) 82 12 then 53 else 51), [some (qA 82), some (qI x1), some (qI (kadd x2 1))], [], qH0 (qup M 91 x1 (kadd x2 1)))) rfl)
set_option maxRecDepth 20000 in
theorem B_X12_goesText_51 {M : qMem} {x1 x2 : Int} : qlim C_X12_goesText (51, [some (qA 82), some (qI x1), some (qI x2)], [], qH0 M) = some (some (qI 1), qH0 M) := by
  refine Eq.trans (qlim_n (n := 1) (c' := (52, [some (qA 82), some (qI x1), some (qI x2)], [qI 1], qH0 M)) rfl) ?_
  exact (qlim_ret rfl)
set_option maxRecDepth 20000 in
theorem B_X12_goesText_53 {M : qMem} {x1 x2 : Int} : qlim C_X12_goesText (53, [some (qA 82), some (qI x1), some (qI x2)], [], qH0 M) = qlim C_X12_goesText ((if x2 = 10 then 68 else 59), [some (qA 82), some (qI x1), some (qI x2)], [], qH0 M) := (qlim_n (n := 3) (c' := ((if x2 = 10 then 68 else 59), [some (qA 82), some (qI x1), some (qI x2)], [], qH0 M)) rfl)
set_option maxRecDepth 20000 in
theorem B_X12_goesText_59 {M : qMem} {x1 x2 : Int} : qlim C_X12_goesText (59, [some (qA 82), some (qI x1), some (qI x2)], [], qH0 M) = qbd (S_X12_takes [qA 82, qI 59] (qH0 M)) (fun r h' => qlim C_X12_goesText (65, [some (qA 82), some (qI x1), some (qI x2)], r.toList ++ [], h')) := by
  refine Eq.trans (qlim_n (n := 2) (c' := (62, [some (qA 82), some (qI x1), some (qI x2)], [qI 59, qA 82], qH0 M)) rfl) ?_
  exact (qlim_callv (n := 1) rfl rfl rfl (Nat.le_of_ble_eq_true rfl) (Nat.le_of_ble_eq_true rfl) rfl)
set_option maxRecDepth 20000 in
theorem B_X12_goesText_65 {M : qMem} {x1 x2 s0 : Int} : qlim C_X12_goesText (65, [some (qA 82), some (qI x1), some (qI x2)], [qI s0], qH0 M) = qlim C_X12_goesText ((if ¬ s0 = 0 then 15 else 68), [some (qA 82), some (qI x1), some (qI x2)], [], qH0 M) := (qlim_n (n := 1) (c' := ((if ¬ s0 = 0 then 15 else 68), [some (qA 82), some (qI x1), some (qI x2)], [], qH0 M)) rfl)
set_option maxRecDepth 20000 in
theorem B_X12_goesText_68 {M : qMem} {x1 x2 : Int} : qlim C_X12_goesText (68, [some (qA 82), some (qI x1), some (qI x2)], [], qH0 M) = some (some (qI 0), qH0 M) := by
  refine Eq.trans (qlim_n (n := 1) (c' := (69, [some (qA 82), some (qI x1), some (qI x2)], [qI 0], qH0 M)) rfl) ?_
  exact (qlim_ret rfl)
theorem E_X12_goesText {h : qH} {x1 : Int} : S_X12_goesText [qA 82, qI x1] h = qlim C_X12_goesText (0, [some (qA 82), some (qI x1), none], [], h) := qM_at (Nat.le_of_ble_eq_true rfl) rfl
set_option maxRecDepth 20000 in
theorem B_X12_hall_0 {M : qMem} : qlim C_X12_hall (0, [some (qA 82), none], [], qH0 M) = qlim C_X12_hall ((if ¬ M 82 10 = 6 then 12 else 9), [some (qA 82), none], [], qH0 M) := (qlim_n (n := 4) (c' := ((if ¬ M 82 10 = 6 then 12 else 9), [some (qA 82), none], [], qH0 M)) rfl)
set_option maxRecDepth 20000 in
theorem B_X12_hall_9 {M : qMem} : qlim C_X12_hall (9, [some (qA 82), none], [], qH0 M) = some (some (qI (-4)), qH0 M) := by
  refine Eq.trans (qlim_n (n := 1) (c' := (11, [some (qA 82), none], [qI (-4)], qH0 M)) rfl) ?_
  exact (qlim_ret rfl)
set_option maxRecDepth 20000 in
theorem B_X12_hall_12 {M : qMem} : qlim C_X12_hall (12, [some (qA 82), none], [], qH0 M) = qbd (S_X12_goesText [qA 82, qI (M 82 10)] (qH0 M)) (fun r h' => qlim C_X12_hall (20, [some (qA 82), none], r.toList ++ [], h')) := by
  refine Eq.trans (qlim_n (n := 3) (c' := (17, [some (qA 82), none], [qI (M 82 10), qA 82], qH0 M)) rfl) ?_
  exact (qlim_callv (n := 1) rfl rfl rfl (Nat.le_of_ble_eq_true rfl) (Nat.le_of_ble_eq_true rfl) rfl)
set_option maxRecDepth 20000 in
theorem B_X12_hall_20 {M : qMem} {s0 : Int} : qlim C_X12_hall (20, [some (qA 82), none], [qI s0], qH0 M) = qlim C_X12_hall ((if ¬ s0 = 0 then 38 else 30), [some (qA 82), some (qI s0)], [], qH0 (qup M 82 12 0)) := (qlim_n (n := 6) (c' := ((if ¬ s0 = 0 then 38 else 30), [some (qA 82), some (qI s0)], [], qH0 (qup M 82 12 0))) rfl)
set_option maxRecDepth 20000 in
theorem B_X12_hall_30 {M : qMem} {x1 : Int} : qlim C_X12_hall (30, [some (qA 82), some (qI x1)], [], qH0 M) = some (some (qI (ksub (-10) (M 82 13))), qH0 M) := by
  refine Eq.trans (qlim_n (n := 4) (c' := (37, [some (qA 82), some (qI x1)], [qI (ksub (-10) (M 82 13))], qH0 M)) rfl) ?_
  exact (qlim_ret rfl)
set_option maxRecDepth 20000 in
theorem B_X12_hall_38 {M : qMem} {x1 : Int} : qlim C_X12_hall (38, [some (qA 82), some (qI x1)], [], qH0 M) = some (some (qI ((qup (qup M 82 11 (M 82 10)) 82 10 (kadd ((qup M 82 11 (M 82 10)) 82 10) 1)) 82 11)), qH0 (qup (qup M 82 11 (M 82 10)) 82 10 (kadd ((qup M 82 11 (M 82 10)) 82 10) 1))) := by
  refine Eq.trans (qlim_n (n := 12) (c' := (60, [some (qA 82), some (qI x1)], [qI ((qup (qup M 82 11 (M 82 10)) 82 10 (kadd ((qup M 82 11 (M 82 10)) 82 10) 1)) 82 11)], qH0 (qup (qup M 82 11 (M 82 10)) 82 10 (kadd ((qup M 82 11 (M 82 10)) 82 10) 1)))) rfl) ?_
  exact (qlim_ret rfl)
theorem E_X12_hall {h : qH} : S_X12_hall [qA 82] h = qlim C_X12_hall (0, [some (qA 82), none], [], h) := qM_at (Nat.le_of_ble_eq_true rfl) rfl
set_option maxRecDepth 20000 in
theorem B_X12_begin_0 {M : qMem} : qlim C_X12_begin (0, [some (qA 82)], [], qH0 M) = qlim C_X12_begin ((if 0 ≤ M 82 11 then 11 else 7), [some (qA 82)], [], qH0 M) := (qlim_n (n := 3) (c' := ((if 0 ≤ M 82 11 then 11 else 7), [some (qA 82)], [], qH0 M)) rfl)
set_option maxRecDepth 20000 in
theorem B_X12_begin_7 {M : qMem} : qlim C_X12_begin (7, [some (qA 82)], [], qH0 M) = qlim C_X12_begin (18, [some (qA 82)], [qI 0], qH0 M) := (qlim_n (n := 2) (c' := (18, [some (qA 82)], [qI 0], qH0 M)) rfl)
set_option maxRecDepth 20000 in
theorem B_X12_begin_11 {M : qMem} : qlim C_X12_begin (11, [some (qA 82)], [], qH0 M) = qlim C_X12_begin (18, [some (qA 82)], [qI (kmul 10 (M 82 11))], qH0 M) := (qlim_n (n := 4) (c' := (18, [some (qA 82)], [qI (kmul 10 (M 82 11))], qH0 M)) rfl)
set_option maxRecDepth 20000 in
theorem B_X12_begin_18 {M : qMem} {s0 : Int} : qlim C_X12_begin (18, [some (qA 82)], [qI s0], qH0 M) = some (some (qI s0), qH0 M) := (qlim_ret rfl)
theorem E_X12_begin {h : qH} : S_X12_begin [qA 82] h = qlim C_X12_begin (0, [some (qA 82)], [], h) := qM_at (Nat.le_of_ble_eq_true rfl) rfl
