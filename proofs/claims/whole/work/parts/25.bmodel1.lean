set_option maxRecDepth 20000 in
theorem B_X12_behind_0 {M : qMem} : qlim C_X12_behind (0, [some (qA 82)], [], qH0 M) = qlim C_X12_behind ((if 0 ≤ M 82 11 then 11 else 7), [some (qA 82)], [], qH0 M) := (qlim_n (n := 3) (c' := ((if 0 ≤ M 82 11 then 11 else 7), [some (qA 82)], [], qH0 M)) rfl)
set_option maxRecDepth 20000 in
theorem B_X12_behind_7 {M : qMem} : qlim C_X12_behind (7, [some (qA 82)], [], qH0 M) = qlim C_X12_behind (28, [some (qA 82)], [qI 0], qH0 M) := (qlim_n (n := 2) (c' := (28, [some (qA 82)], [qI 0], qH0 M)) rfl)
set_option maxRecDepth 20000 in
theorem B_X12_behind_11 {M : qMem} (h1 : 0 ≤ M 82 11) (h2 : M 82 11 < 6) : qlim C_X12_behind (11, [some (qA 82)], [], qH0 M) = qlim C_X12_behind (28, [some (qA 82)], [qI (kadd (kmul 10 (M 82 11)) (M 91 (M 82 11)))], qH0 M) := by
  refine Eq.trans (qlim_n (n := 8) (c' := (26, [some (qA 82)], [qI (M 82 11), qA 91, qI (kmul 10 (M 82 11))], qH0 M)) rfl) ?_
  refine Eq.trans (qs_iaload rfl rfl h1 h2) ?_
  exact (qlim_n (n := 1) (c' := (28, [some (qA 82)], [qI (kadd (kmul 10 (M 82 11)) (M 91 (M 82 11)))], qH0 M)) rfl)
set_option maxRecDepth 20000 in
theorem B_X12_behind_28 {M : qMem} {s0 : Int} : qlim C_X12_behind (28, [some (qA 82)], [qI s0], qH0 M) = some (some (qI s0), qH0 M) := (qlim_ret rfl)
theorem E_X12_behind {h : qH} : S_X12_behind [qA 82] h = qlim C_X12_behind (0, [some (qA 82)], [], h) := qM_at (Nat.le_of_ble_eq_true rfl) rfl
set_option maxRecDepth 20000 in
theorem B_X12_lastOf_0 {M : qMem} {x1 x2 : Int} : qlim C_X12_lastOf (0, [some (qA 82), some (qI x1), some (qI x2), none, none], [], qH0 M) = qbd (S_X12_begin [qA 82] (qH0 M)) (fun r h' => qlim C_X12_lastOf (6, [some (qA 82), some (qI x1), some (qI x2), some (qI x2), none], r.toList ++ [], h')) := by
  refine Eq.trans (qlim_n (n := 3) (c' := (3, [some (qA 82), some (qI x1), some (qI x2), some (qI x2), none], [qA 82], qH0 M)) rfl) ?_
  exact (qlim_callv (n := 0) rfl rfl rfl (Nat.le_of_ble_eq_true rfl) (Nat.le_of_ble_eq_true rfl) rfl)
set_option maxRecDepth 20000 in
theorem B_X12_lastOf_6 {M : qMem} {x1 x2 x3 s0 : Int} : qlim C_X12_lastOf (6, [some (qA 82), some (qI x1), some (qI x2), some (qI x3), none], [qI s0], qH0 M) = qlim C_X12_lastOf (8, [some (qA 82), some (qI x1), some (qI x2), some (qI x3), some (qI s0)], [], qH0 M) := (qlim_n (n := 1) (c' := (8, [some (qA 82), some (qI x1), some (qI x2), some (qI x3), some (qI s0)], [], qH0 M)) rfl)
set_option maxRecDepth 20000 in
theorem B_X12_lastOf_8 {M : qMem} {x1 x2 x3 x4 : Int} : qlim C_X12_lastOf (8, [some (qA 82), some (qI x1), some (qI x2), some (qI x3), some (qI x4)], [], qH0 M) = qbd (S_X12_behind [qA 82] (qH0 M)) (fun r h' => qlim C_X12_lastOf (14, [some (qA 82), some (qI x1), some (qI x2), some (qI x3), some (qI x4)], r.toList ++ [qI x4], h')) := by
  refine Eq.trans (qlim_n (n := 2) (c' := (11, [some (qA 82), some (qI x1), some (qI x2), some (qI x3), some (qI x4)], [qA 82, qI x4], qH0 M)) rfl) ?_
  exact (qlim_callv (n := 0) rfl rfl rfl (Nat.le_of_ble_eq_true rfl) (Nat.le_of_ble_eq_true rfl) rfl)
set_option maxRecDepth 20000 in
theorem B_X12_lastOf_14 {M : qMem} {x1 x2 x3 x4 s0 s1 : Int} : qlim C_X12_lastOf (14, [some (qA 82), some (qI x1), some (qI x2), some (qI x3), some (qI x4)], [qI s1, qI s0], qH0 M) = qlim C_X12_lastOf ((if s1 ≤ s0 then 46 else 17), [some (qA 82), some (qI x1), some (qI x2), some (qI x3), some (qI x4)], [], qH0 M) := (qlim_n (n := 1) (c' := ((if s1 ≤ s0 then 46 else 17), [some (qA 82), some (qI x1), some (qI x2), some (qI x3), some (qI x4)], [], qH0 M)) rfl)
set_option maxRecDepth 20000 in
theorem B_X12_lastOf_17 {M : qMem} {x1 x2 x3 x4 : Int} (h1 : 0 ≤ x4) (h2 : x4 < 60) : qlim C_X12_lastOf (17, [some (qA 82), some (qI x1), some (qI x2), some (qI x3), some (qI x4)], [], qH0 M) = qlim C_X12_lastOf ((if ¬ M 92 x4 = x1 then 38 else 28), [some (qA 82), some (qI x1), some (qI x2), some (qI x3), some (qI x4)], [], qH0 M) := by
  refine Eq.trans (qlim_n (n := 3) (c' := (23, [some (qA 82), some (qI x1), some (qI x2), some (qI x3), some (qI x4)], [qI x4, qA 92], qH0 M)) rfl) ?_
  refine Eq.trans (qs_iaload rfl rfl h1 h2) ?_
  exact (qlim_n (n := 2) (c' := ((if ¬ M 92 x4 = x1 then 38 else 28), [some (qA 82), some (qI x1), some (qI x2), some (qI x3), some (qI x4)], [], qH0 M)) rfl)
set_option maxRecDepth 20000 in
theorem B_X12_lastOf_28 {M : qMem} {x1 x2 x3 x4 : Int} (h1 : 0 ≤ x4) (h2 : x4 < 60) : qlim C_X12_lastOf (28, [some (qA 82), some (qI x1), some (qI x2), some (qI x3), some (qI x4)], [], qH0 M) = qlim C_X12_lastOf (39, [some (qA 82), some (qI x1), some (qI x2), some (qI x3), some (qI x4)], [qI (M 93 x4)], qH0 M) := by
  refine Eq.trans (qlim_n (n := 3) (c' := (34, [some (qA 82), some (qI x1), some (qI x2), some (qI x3), some (qI x4)], [qI x4, qA 93], qH0 M)) rfl) ?_
  refine Eq.trans (qs_iaload rfl rfl h1 h2) ?_
  exact (qlim_n (n := 1) (c' := (39, [some (qA 82), some (qI x1), some (qI x2), some (qI x3), some (qI x4)], [qI (M 93 x4)], qH0 M)) rfl)
set_option maxRecDepth 20000 in
theorem B_X12_lastOf_38 {M : qMem} {x1 x2 x3 x4 : Int} : qlim C_X12_lastOf (38, [some (qA 82), some (qI x1), some (qI x2), some (qI x3), some (qI x4)], [], qH0 M) = qlim C_X12_lastOf (39, [some (qA 82), some (qI x1), some (qI x2), some (qI x3), some (qI x4)], [qI x3], qH0 M) := (qlim_n (n := 1) (c' := (39, [some (qA 82), some (qI x1), some (qI x2), some (qI x3), some (qI x4)], [qI x3], qH0 M)) rfl)
set_option maxRecDepth 20000 in
theorem B_X12_lastOf_39 {M : qMem} {x1 x2 x3 x4 s0 : Int} : qlim C_X12_lastOf (39, [some (qA 82), some (qI x1), some (qI x2), some (qI x3), some (qI x4)], [qI s0], qH0 M) = qlim C_X12_lastOf (8, [some (qA 82), some (qI x1), some (qI x2), some (qI s0), some (qI (kadd x4 1))], [], qH0 M) := (qlim_n (n := 3) (c' := (8, [some (qA 82), some (qI x1), some (qI x2), some (qI s0), some (qI (kadd x4 1))], [], qH0 M)) rfl)
set_option maxRecDepth 20000 in
theorem B_X12_lastOf_46 {M : qMem} {x1 x2 x3 x4 : Int} : qlim C_X12_lastOf (46, [some (qA 82), some (qI x1), some (qI x2), some (qI x3), some (qI x4)], [], qH0 M) = some (some (qI x3), qH0 M) := by
  refine Eq.trans (qlim_n (n := 1) (c' := (47, [some (qA 82), some (qI x1), some (qI x2), some (qI x3), some (qI x4)], [qI x3], qH0 M)) rfl) ?_
  exact (qlim_ret rfl)
theorem E_X12_lastOf {h : qH} {x1 x2 : Int} : S_X12_lastOf [qA 82, qI x1, qI x2] h = qlim C_X12_lastOf (0, [some (qA 82), some (qI x1), some (qI x2), none, none], [], h) := qM_at (Nat.le_of_ble_eq_true rfl) rfl
set_option maxRecDepth 20000 in
theorem B_X12_room_0 {M : qMem} : qlim C_X12_room (0, [some (qA 82), none], [], qH0 M) = qlim C_X12_room ((if M 82 27 < 0 then 14 else 7), [some (qA 82), none], [], qH0 M) := (qlim_n (n := 3) (c' := ((if M 82 27 < 0 then 14 else 7), [some (qA 82), none], [], qH0 M)) rfl)
set_option maxRecDepth 20000 in
theorem B_X12_room_7 {M : qMem} : qlim C_X12_room (7, [some (qA 82), none], [], qH0 M) = qlim C_X12_room (21, [some (qA 82), none], [qI (M 82 27)], qH0 M) := (qlim_n (n := 3) (c' := (21, [some (qA 82), none], [qI (M 82 27)], qH0 M)) rfl)
set_option maxRecDepth 20000 in
theorem B_X12_room_14 {M : qMem} : qlim C_X12_room (14, [some (qA 82), none], [], qH0 M) = qbd (S_X12_lastOf [qA 82, qI 2, qI 50] (qH0 M)) (fun r h' => qlim C_X12_room (21, [some (qA 82), none], r.toList ++ [], h')) := by
  refine Eq.trans (qlim_n (n := 3) (c' := (18, [some (qA 82), none], [qI 50, qI 2, qA 82], qH0 M)) rfl) ?_
  exact (qlim_callv (n := 2) rfl rfl rfl (Nat.le_of_ble_eq_true rfl) (Nat.le_of_ble_eq_true rfl) rfl)
set_option maxRecDepth 20000 in
theorem B_X12_room_21 {M : qMem} {s0 : Int} : qlim C_X12_room (21, [some (qA 82), none], [qI s0], qH0 M) = qlim C_X12_room ((if 1 ≤ s0 then 31 else 27), [some (qA 82), some (qI s0)], [], qH0 M) := (qlim_n (n := 4) (c' := ((if 1 ≤ s0 then 31 else 27), [some (qA 82), some (qI s0)], [], qH0 M)) rfl)
set_option maxRecDepth 20000 in
theorem B_X12_room_27 {M : qMem} {x1 : Int} : qlim C_X12_room (27, [some (qA 82), some (qI x1)], [], qH0 M) = qlim C_X12_room (32, [some (qA 82), some (qI x1)], [qI 1], qH0 M) := (qlim_n (n := 2) (c' := (32, [some (qA 82), some (qI x1)], [qI 1], qH0 M)) rfl)
set_option maxRecDepth 20000 in
theorem B_X12_room_31 {M : qMem} {x1 : Int} : qlim C_X12_room (31, [some (qA 82), some (qI x1)], [], qH0 M) = qlim C_X12_room (32, [some (qA 82), some (qI x1)], [qI x1], qH0 M) := (qlim_n (n := 1) (c' := (32, [some (qA 82), some (qI x1)], [qI x1], qH0 M)) rfl)
set_option maxRecDepth 20000 in
theorem B_X12_room_32 {M : qMem} {x1 s0 : Int} : qlim C_X12_room (32, [some (qA 82), some (qI x1)], [qI s0], qH0 M) = some (some (qI s0), qH0 M) := (qlim_ret rfl)
theorem E_X12_room {h : qH} : S_X12_room [qA 82] h = qlim C_X12_room (0, [some (qA 82), none], [], h) := qM_at (Nat.le_of_ble_eq_true rfl) rfl
set_option maxRecDepth 20000 in
theorem B_X12_factOf_0 {M : qMem} {x1 x2 : Int} : qlim C_X12_factOf (0, [some (qA 82), some (qI x1), some (qI x2)], [], qH0 M) = qlim C_X12_factOf (qtk [36, 38, 45, 52, 59] 69 0 x1, [some (qA 82), some (qI x1), some (qI x2)], [], qH0 M) := (qlim_n (n := 2) (c' := (qtk [36, 38, 45, 52, 59] 69 0 x1, [some (qA 82), some (qI x1), some (qI x2)], [], qH0 M)) rfl)
set_option maxRecDepth 20000 in
theorem B_X12_factOf_36 {M : qMem} {x1 x2 : Int} : qlim C_X12_factOf (36, [some (qA 82), some (qI x1), some (qI x2)], [], qH0 M) = some (some (qI x2), qH0 M) := by
  refine Eq.trans (qlim_n (n := 1) (c' := (37, [some (qA 82), some (qI x1), some (qI x2)], [qI x2], qH0 M)) rfl) ?_
  exact (qlim_ret rfl)
set_option maxRecDepth 20000 in
theorem B_X12_factOf_38 {M : qMem} {x1 x2 : Int} (h1 : 0 ≤ x2) (h2 : x2 < 6) : qlim C_X12_factOf (38, [some (qA 82), some (qI x1), some (qI x2)], [], qH0 M) = some (some (qI (M 84 x2)), qH0 M) := by
  refine Eq.trans (qlim_n (n := 3) (c' := (43, [some (qA 82), some (qI x1), some (qI x2)], [qI x2, qA 84], qH0 M)) rfl) ?_
  refine Eq.trans (qs_iaload rfl rfl h1 h2) ?_
  exact (qlim_ret rfl)
set_option maxRecDepth 20000 in
theorem B_X12_factOf_45 {M : qMem} {x1 x2 : Int} (h1 : 0 ≤ x2) (h2 : x2 < 6) : qlim C_X12_factOf (45, [some (qA 82), some (qI x1), some (qI x2)], [], qH0 M) = some (some (qI (M 85 x2)), qH0 M) := by
  refine Eq.trans (qlim_n (n := 3) (c' := (50, [some (qA 82), some (qI x1), some (qI x2)], [qI x2, qA 85], qH0 M)) rfl) ?_
  refine Eq.trans (qs_iaload rfl rfl h1 h2) ?_
  exact (qlim_ret rfl)
set_option maxRecDepth 20000 in
theorem B_X12_factOf_52 {M : qMem} {x1 x2 : Int} (h1 : 0 ≤ x2) (h2 : x2 < 6) : qlim C_X12_factOf (52, [some (qA 82), some (qI x1), some (qI x2)], [], qH0 M) = some (some (qI (M 86 x2)), qH0 M) := by
  refine Eq.trans (qlim_n (n := 3) (c' := (57, [some (qA 82), some (qI x1), some (qI x2)], [qI x2, qA 86], qH0 M)) rfl) ?_
  refine Eq.trans (qs_iaload rfl rfl h1 h2) ?_
  exact (qlim_ret rfl)
set_option maxRecDepth 20000 in
theorem B_X12_factOf_59 {M : qMem} {x1 x2 : Int} (h1 : 0 ≤ x2) (h2 : x2 < 6) : qlim C_X12_factOf (59, [some (qA 82), some (qI x1), some (qI x2)], [], qH0 M) = some (some (qI (kdiv (M 87 x2) 10)), qH0 M) := by
  refine Eq.trans (qlim_n (n := 3) (c' := (64, [some (qA 82), some (qI x1), some (qI x2)], [qI x2, qA 87], qH0 M)) rfl) ?_
  refine Eq.trans (qs_iaload rfl rfl h1 h2) ?_
  refine Eq.trans (qlim_n (n := 1) (c' := (67, [some (qA 82), some (qI x1), some (qI x2)], [qI 10, qI (M 87 x2)], qH0 M)) rfl) ?_
  refine Eq.trans (qs_idiv rfl (by decide)) ?_
  exact (qlim_ret rfl)
set_option maxRecDepth 20000 in
theorem B_X12_factOf_69 {M : qMem} {x1 x2 : Int} : qlim C_X12_factOf (69, [some (qA 82), some (qI x1), some (qI x2)], [], qH0 M) = some (some (qI (krem (M 82 1) 10)), qH0 M) := by
  refine Eq.trans (qlim_n (n := 3) (c' := (75, [some (qA 82), some (qI x1), some (qI x2)], [qI 10, qI (M 82 1)], qH0 M)) rfl) ?_
  refine Eq.trans (qs_irem rfl (by decide)) ?_
  exact (qlim_ret rfl)
theorem E_X12_factOf {h : qH} {x1 x2 : Int} : S_X12_factOf [qA 82, qI x1, qI x2] h = qlim C_X12_factOf (0, [some (qA 82), some (qI x1), some (qI x2)], [], h) := qM_at (Nat.le_of_ble_eq_true rfl) rfl
set_option maxRecDepth 20000 in
theorem B_X12_holds_0 {M : qMem} {x1 x2 : Int} (h1 : 0 ≤ x1) (h2 : x1 < 60) : qlim C_X12_holds (0, [some (qA 82), some (qI x1), some (qI x2), none, none, none, none, none], [], qH0 M) = qlim C_X12_holds (10, [some (qA 82), some (qI x1), some (qI x2), some (qI 0), some (qI (M 94 x1)), none, none, none], [], qH0 M) := by
  refine Eq.trans (qlim_n (n := 5) (c' := (7, [some (qA 82), some (qI x1), some (qI x2), some (qI 0), none, none, none, none], [qI x1, qA 94], qH0 M)) rfl) ?_
  refine Eq.trans (qs_iaload rfl rfl h1 h2) ?_
  exact (qlim_n (n := 1) (c' := (10, [some (qA 82), some (qI x1), some (qI x2), some (qI 0), some (qI (M 94 x1)), none, none, none], [], qH0 M)) rfl)
set_option maxRecDepth 20000 in
theorem B_X12_holds_10 {M : qMem} {x1 x2 x3 x4 : Int} {x5 x6 x7 : Option qV} (h1 : 0 ≤ x1) (h2 : x1 < 60) : qlim C_X12_holds (10, [some (qA 82), some (qI x1), some (qI x2), some (qI x3), some (qI x4), x5, x6, x7], [], qH0 M) = qlim C_X12_holds ((if M 95 x1 ≤ x4 then 243 else 21), [some (qA 82), some (qI x1), some (qI x2), some (qI x3), some (qI x4), x5, x6, x7], [], qH0 M) := by
  refine Eq.trans (qlim_n (n := 4) (c' := (17, [some (qA 82), some (qI x1), some (qI x2), some (qI x3), some (qI x4), x5, x6, x7], [qI x1, qA 95, qI x4], qH0 M)) rfl) ?_
  refine Eq.trans (qs_iaload rfl rfl h1 h2) ?_
  exact (qlim_n (n := 1) (c' := ((if M 95 x1 ≤ x4 then 243 else 21), [some (qA 82), some (qI x1), some (qI x2), some (qI x3), some (qI x4), x5, x6, x7], [], qH0 M)) rfl)
set_option maxRecDepth 20000 in
theorem B_X12_holds_21 {M : qMem} {x1 x2 x3 x4 : Int} {x5 x6 x7 : Option qV} (h1 : 0 ≤ x4) (h2 : x4 < 600) : qlim C_X12_holds (21, [some (qA 82), some (qI x1), some (qI x2), some (qI x3), some (qI x4), x5, x6, x7], [], qH0 M) = qlim C_X12_holds ((if ¬ M 96 x4 = (-33) then 64 else 37), [some (qA 82), some (qI x1), some (qI x2), some (qI x3), some (qI x4), some (qI (M 96 x4)), x6, x7], [], qH0 M) := by
  refine Eq.trans (qlim_n (n := 3) (c' := (27, [some (qA 82), some (qI x1), some (qI x2), some (qI x3), some (qI x4), x5, x6, x7], [qI x4, qA 96], qH0 M)) rfl) ?_
  refine Eq.trans (qs_iaload rfl rfl h1 h2) ?_
  exact (qlim_n (n := 4) (c' := ((if ¬ M 96 x4 = (-33) then 64 else 37), [some (qA 82), some (qI x1), some (qI x2), some (qI x3), some (qI x4), some (qI (M 96 x4)), x6, x7], [], qH0 M)) rfl)
set_option maxRecDepth 20000 in
theorem B_X12_holds_37 {M : qMem} {x1 x2 x3 x4 x5 : Int} {x6 x7 : Option qV} (h1 : 0 ≤ ksub x3 1) (h2 : ksub x3 1 < 100) : qlim C_X12_holds (37, [some (qA 82), some (qI x1), some (qI x2), some (qI x3), some (qI x4), some (qI x5), x6, x7], [], qH0 M) = qlim C_X12_holds ((if ¬ M 99 (ksub x3 1) = 0 then 59 else 55), [some (qA 82), some (qI x1), some (qI x2), some (qI x3), some (qI x4), some (qI x5), x6, x7], [qI (ksub x3 1), qA 99], qH0 M) := by
  refine Eq.trans (qlim_n (n := 10) (c' := (51, [some (qA 82), some (qI x1), some (qI x2), some (qI x3), some (qI x4), some (qI x5), x6, x7], [qI (ksub x3 1), qA 99, qI (ksub x3 1), qA 99], qH0 M)) rfl) ?_
  refine Eq.trans (qs_zaload rfl rfl h1 h2) ?_
  exact (qlim_n (n := 1) (c' := ((if ¬ M 99 (ksub x3 1) = 0 then 59 else 55), [some (qA 82), some (qI x1), some (qI x2), some (qI x3), some (qI x4), some (qI x5), x6, x7], [qI (ksub x3 1), qA 99], qH0 M)) rfl)
set_option maxRecDepth 20000 in
theorem B_X12_holds_55 {M : qMem} {x1 x2 x3 x4 x5 s1 : Int} {x6 x7 : Option qV} : qlim C_X12_holds (55, [some (qA 82), some (qI x1), some (qI x2), some (qI x3), some (qI x4), some (qI x5), x6, x7], [qI s1, qA 99], qH0 M) = qlim C_X12_holds (60, [some (qA 82), some (qI x1), some (qI x2), some (qI x3), some (qI x4), some (qI x5), x6, x7], [qI 1, qI s1, qA 99], qH0 M) := (qlim_n (n := 2) (c' := (60, [some (qA 82), some (qI x1), some (qI x2), some (qI x3), some (qI x4), some (qI x5), x6, x7], [qI 1, qI s1, qA 99], qH0 M)) rfl)
set_option maxRecDepth 20000 in
theorem B_X12_holds_59 {M : qMem} {x1 x2 x3 x4 x5 s1 : Int} {x6 x7 : Option qV} : qlim C_X12_holds (59, [some (qA 82), some (qI x1), some (qI x2), some (qI x3), some (qI x4), some (qI x5), x6, x7], [qI s1, qA 99], qH0 M) = qlim C_X12_holds (60, [some (qA 82), some (qI x1), some (qI x2), some (qI x3), some (qI x4), some (qI x5), x6, x7], [qI 0, qI s1, qA 99], qH0 M) := (qlim_n (n := 1) (c' := (60, [some (qA 82), some (qI x1), some (qI x2), some (qI x3), some (qI x4), some (qI x5), x6, x7], [qI 0, qI s1, qA 99], qH0 M)) rfl)
set_option maxRecDepth 20000 in
theorem B_X12_holds_60 {M : qMem} {x1 x2 x3 x4 x5 s1 s2 : Int} {x6 x7 : Option qV} (h1 : 0 ≤ s1) (h2 : s1 < 100) (h3 : s2 = 0 ∨ s2 = 1) : qlim C_X12_holds (60, [some (qA 82), some (qI x1), some (qI x2), some (qI x3), some (qI x4), some (qI x5), x6, x7], [qI s2, qI s1, qA 99], qH0 M) = qlim C_X12_holds (237, [some (qA 82), some (qI x1), some (qI x2), some (qI x3), some (qI x4), some (qI x5), x6, x7], [], qH0 (qup M 99 s1 s2)) := by
  refine Eq.trans (qs_zastore rfl rfl h1 h2 h3) ?_
  exact (qlim_n (n := 1) (c' := (237, [some (qA 82), some (qI x1), some (qI x2), some (qI x3), some (qI x4), some (qI x5), x6, x7], [], qH0 (qup M 99 s1 s2))) rfl)
set_option maxRecDepth 20000 in
theorem B_X12_holds_64 {M : qMem} {x1 x2 x3 x4 x5 : Int} {x6 x7 : Option qV} : qlim C_X12_holds (64, [some (qA 82), some (qI x1), some (qI x2), some (qI x3), some (qI x4), some (qI x5), x6, x7], [], qH0 M) = qlim C_X12_holds ((if 0 ≤ x5 then 143 else 69), [some (qA 82), some (qI x1), some (qI x2), some (qI x3), some (qI x4), some (qI x5), x6, x7], [], qH0 M) := (qlim_n (n := 2) (c' := ((if 0 ≤ x5 then 143 else 69), [some (qA 82), some (qI x1), some (qI x2), some (qI x3), some (qI x4), some (qI x5), x6, x7], [], qH0 M)) rfl)
set_option maxRecDepth 20000 in
theorem B_X12_holds_69 {M : qMem} {x1 x2 x3 x4 x5 : Int} {x6 x7 : Option qV} : qlim C_X12_holds (69, [some (qA 82), some (qI x1), some (qI x2), some (qI x3), some (qI x4), some (qI x5), x6, x7], [], qH0 M) = qlim C_X12_holds ((if ¬ x5 = (-38) then 114 else 86), [some (qA 82), some (qI x1), some (qI x2), some (qI (kadd x3 (-1))), some (qI x4), some (qI x5), x6, x7], [qI (ksub (kadd x3 (-1)) 1), qA 99], qH0 M) := (qlim_n (n := 9) (c' := ((if ¬ x5 = (-38) then 114 else 86), [some (qA 82), some (qI x1), some (qI x2), some (qI (kadd x3 (-1))), some (qI x4), some (qI x5), x6, x7], [qI (ksub (kadd x3 (-1)) 1), qA 99], qH0 M)) rfl)
set_option maxRecDepth 20000 in
theorem B_X12_holds_86 {M : qMem} {x1 x2 x3 x4 x5 s1 : Int} {x6 x7 : Option qV} (h1 : 0 ≤ ksub x3 1) (h2 : ksub x3 1 < 100) : qlim C_X12_holds (86, [some (qA 82), some (qI x1), some (qI x2), some (qI x3), some (qI x4), some (qI x5), x6, x7], [qI s1, qA 99], qH0 M) = qlim C_X12_holds ((if M 99 (ksub x3 1) = 0 then 110 else 97), [some (qA 82), some (qI x1), some (qI x2), some (qI x3), some (qI x4), some (qI x5), x6, x7], [qI s1, qA 99], qH0 M) := by
  refine Eq.trans (qlim_n (n := 5) (c' := (93, [some (qA 82), some (qI x1), some (qI x2), some (qI x3), some (qI x4), some (qI x5), x6, x7], [qI (ksub x3 1), qA 99, qI s1, qA 99], qH0 M)) rfl) ?_
  refine Eq.trans (qs_zaload rfl rfl h1 h2) ?_
  exact (qlim_n (n := 1) (c' := ((if M 99 (ksub x3 1) = 0 then 110 else 97), [some (qA 82), some (qI x1), some (qI x2), some (qI x3), some (qI x4), some (qI x5), x6, x7], [qI s1, qA 99], qH0 M)) rfl)
set_option maxRecDepth 20000 in
theorem B_X12_holds_97 {M : qMem} {x1 x2 x3 x4 x5 s1 : Int} {x6 x7 : Option qV} (h1 : 0 ≤ x3) (h2 : x3 < 100) : qlim C_X12_holds (97, [some (qA 82), some (qI x1), some (qI x2), some (qI x3), some (qI x4), some (qI x5), x6, x7], [qI s1, qA 99], qH0 M) = qlim C_X12_holds ((if M 99 x3 = 0 then 110 else 106), [some (qA 82), some (qI x1), some (qI x2), some (qI x3), some (qI x4), some (qI x5), x6, x7], [qI s1, qA 99], qH0 M) := by
  refine Eq.trans (qlim_n (n := 3) (c' := (102, [some (qA 82), some (qI x1), some (qI x2), some (qI x3), some (qI x4), some (qI x5), x6, x7], [qI x3, qA 99, qI s1, qA 99], qH0 M)) rfl) ?_
  refine Eq.trans (qs_zaload rfl rfl h1 h2) ?_
  exact (qlim_n (n := 1) (c' := ((if M 99 x3 = 0 then 110 else 106), [some (qA 82), some (qI x1), some (qI x2), some (qI x3), some (qI x4), some (qI x5), x6, x7], [qI s1, qA 99], qH0 M)) rfl)
set_option maxRecDepth 20000 in
theorem B_X12_holds_106 {M : qMem} {x1 x2 x3 x4 x5 s1 : Int} {x6 x7 : Option qV} : qlim C_X12_holds (106, [some (qA 82), some (qI x1), some (qI x2), some (qI x3), some (qI x4), some (qI x5), x6, x7], [qI s1, qA 99], qH0 M) = qlim C_X12_holds (139, [some (qA 82), some (qI x1), some (qI x2), some (qI x3), some (qI x4), some (qI x5), x6, x7], [qI 1, qI s1, qA 99], qH0 M) := (qlim_n (n := 2) (c' := (139, [some (qA 82), some (qI x1), some (qI x2), some (qI x3), some (qI x4), some (qI x5), x6, x7], [qI 1, qI s1, qA 99], qH0 M)) rfl)
set_option maxRecDepth 20000 in
theorem B_X12_holds_110 {M : qMem} {x1 x2 x3 x4 x5 s1 : Int} {x6 x7 : Option qV} : qlim C_X12_holds (110, [some (qA 82), some (qI x1), some (qI x2), some (qI x3), some (qI x4), some (qI x5), x6, x7], [qI s1, qA 99], qH0 M) = qlim C_X12_holds (139, [some (qA 82), some (qI x1), some (qI x2), some (qI x3), some (qI x4), some (qI x5), x6, x7], [qI 0, qI s1, qA 99], qH0 M) := (qlim_n (n := 2) (c' := (139, [some (qA 82), some (qI x1), some (qI x2), some (qI x3), some (qI x4), some (qI x5), x6, x7], [qI 0, qI s1, qA 99], qH0 M)) rfl)
set_option maxRecDepth 20000 in
theorem B_X12_holds_114 {M : qMem} {x1 x2 x3 x4 x5 s1 : Int} {x6 x7 : Option qV} (h1 : 0 ≤ ksub x3 1) (h2 : ksub x3 1 < 100) : qlim C_X12_holds (114, [some (qA 82), some (qI x1), some (qI x2), some (qI x3), some (qI x4), some (qI x5), x6, x7], [qI s1, qA 99], qH0 M) = qlim C_X12_holds ((if ¬ M 99 (ksub x3 1) = 0 then 134 else 125), [some (qA 82), some (qI x1), some (qI x2), some (qI x3), some (qI x4), some (qI x5), x6, x7], [qI s1, qA 99], qH0 M) := by
  refine Eq.trans (qlim_n (n := 5) (c' := (121, [some (qA 82), some (qI x1), some (qI x2), some (qI x3), some (qI x4), some (qI x5), x6, x7], [qI (ksub x3 1), qA 99, qI s1, qA 99], qH0 M)) rfl) ?_
  refine Eq.trans (qs_zaload rfl rfl h1 h2) ?_
  exact (qlim_n (n := 1) (c' := ((if ¬ M 99 (ksub x3 1) = 0 then 134 else 125), [some (qA 82), some (qI x1), some (qI x2), some (qI x3), some (qI x4), some (qI x5), x6, x7], [qI s1, qA 99], qH0 M)) rfl)
set_option maxRecDepth 20000 in
theorem B_X12_holds_125 {M : qMem} {x1 x2 x3 x4 x5 s1 : Int} {x6 x7 : Option qV} (h1 : 0 ≤ x3) (h2 : x3 < 100) : qlim C_X12_holds (125, [some (qA 82), some (qI x1), some (qI x2), some (qI x3), some (qI x4), some (qI x5), x6, x7], [qI s1, qA 99], qH0 M) = qlim C_X12_holds ((if M 99 x3 = 0 then 138 else 134), [some (qA 82), some (qI x1), some (qI x2), some (qI x3), some (qI x4), some (qI x5), x6, x7], [qI s1, qA 99], qH0 M) := by
  refine Eq.trans (qlim_n (n := 3) (c' := (130, [some (qA 82), some (qI x1), some (qI x2), some (qI x3), some (qI x4), some (qI x5), x6, x7], [qI x3, qA 99, qI s1, qA 99], qH0 M)) rfl) ?_
  refine Eq.trans (qs_zaload rfl rfl h1 h2) ?_
  exact (qlim_n (n := 1) (c' := ((if M 99 x3 = 0 then 138 else 134), [some (qA 82), some (qI x1), some (qI x2), some (qI x3), some (qI x4), some (qI x5), x6, x7], [qI s1, qA 99], qH0 M)) rfl)
set_option maxRecDepth 20000 in
theorem B_X12_holds_134 {M : qMem} {x1 x2 x3 x4 x5 s1 : Int} {x6 x7 : Option qV} : qlim C_X12_holds (134, [some (qA 82), some (qI x1), some (qI x2), some (qI x3), some (qI x4), some (qI x5), x6, x7], [qI s1, qA 99], qH0 M) = qlim C_X12_holds (139, [some (qA 82), some (qI x1), some (qI x2), some (qI x3), some (qI x4), some (qI x5), x6, x7], [qI 1, qI s1, qA 99], qH0 M) := (qlim_n (n := 2) (c' := (139, [some (qA 82), some (qI x1), some (qI x2), some (qI x3), some (qI x4), some (qI x5), x6, x7], [qI 1, qI s1, qA 99], qH0 M)) rfl)
set_option maxRecDepth 20000 in
theorem B_X12_holds_138 {M : qMem} {x1 x2 x3 x4 x5 s1 : Int} {x6 x7 : Option qV} : qlim C_X12_holds (138, [some (qA 82), some (qI x1), some (qI x2), some (qI x3), some (qI x4), some (qI x5), x6, x7], [qI s1, qA 99], qH0 M) = qlim C_X12_holds (139, [some (qA 82), some (qI x1), some (qI x2), some (qI x3), some (qI x4), some (qI x5), x6, x7], [qI 0, qI s1, qA 99], qH0 M) := (qlim_n (n := 1) (c' := (139, [some (qA 82), some (qI x1), some (qI x2), some (qI x3), some (qI x4), some (qI x5), x6, x7], [qI 0, qI s1, qA 99], qH0 M)) rfl)
set_option maxRecDepth 20000 in
theorem B_X12_holds_139 {M : qMem} {x1 x2 x3 x4 x5 s1 s2 : Int} {x6 x7 : Option qV} (h1 : 0 ≤ s1) (h2 : s1 < 100) (h3 : s2 = 0 ∨ s2 = 1) : qlim C_X12_holds (139, [some (qA 82), some (qI x1), some (qI x2), some (qI x3), some (qI x4), some (qI x5), x6, x7], [qI s2, qI s1, qA 99], qH0 M) = qlim C_X12_holds (237, [some (qA 82), some (qI x1), some (qI x2), some (qI x3), some (qI x4), some (qI x5), x6, x7], [], qH0 (qup M 99 s1 s2)) := by
  refine Eq.trans (qs_zastore rfl rfl h1 h2 h3) ?_
  exact (qlim_n (n := 1) (c' := (237, [some (qA 82), some (qI x1), some (qI x2), some (qI x3), some (qI x4), some (qI x5), x6, x7], [], qH0 (qup M 99 s1 s2))) rfl)
set_option maxRecDepth 20000 in
theorem B_X12_holds_143 {M : qMem} {x1 x2 x3 x4 x5 : Int} {x6 x7 : Option qV} : qlim C_X12_holds (143, [some (qA 82), some (qI x1), some (qI x2), some (qI x3), some (qI x4), some (qI x5), x6, x7], [], qH0 M) = qbd (S_X12_factOf [qA 82, qI (kdiv x5 1000), qI x2] (qH0 M)) (fun r h' => qlim C_X12_holds (154, [some (qA 82), some (qI x1), some (qI x2), some (qI x3), some (qI x4), some (qI x5), x6, x7], r.toList ++ [], h')) := by
  refine Eq.trans (qlim_n (n := 3) (c' := (149, [some (qA 82), some (qI x1), some (qI x2), some (qI x3), some (qI x4), some (qI x5), x6, x7], [qI 1000, qI x5, qA 82], qH0 M)) rfl) ?_
  refine Eq.trans (qs_idiv rfl (by decide)) ?_
  refine Eq.trans (qlim_n (n := 1) (c' := (151, [some (qA 82), some (qI x1), some (qI x2), some (qI x3), some (qI x4), some (qI x5), x6, x7], [qI x2, qI (kdiv x5 1000), qA 82], qH0 M)) rfl) ?_
  exact (qlim_callv (n := 2) rfl rfl rfl (Nat.le_of_ble_eq_true rfl) (Nat.le_of_ble_eq_true rfl) rfl)
set_option maxRecDepth 20000 in
theorem B_X12_holds_154 {M : qMem} {x1 x2 x3 x4 x5 s0 : Int} {x6 x7 : Option qV} : qlim C_X12_holds (154, [some (qA 82), some (qI x1), some (qI x2), some (qI x3), some (qI x4), some (qI x5), x6, x7], [qI s0], qH0 M) = qlim C_X12_holds ((if ¬ krem (kdiv x5 100) 10 = 0 then 194 else 176), [some (qA 82), some (qI x1), some (qI x2), some (qI x3), some (qI x4), some (qI x5), some (qI s0), some (qI (krem (kdiv x5 100) 10))], [qI x3, qA 99], qH0 M) := by
  refine Eq.trans (qlim_n (n := 3) (c' := (160, [some (qA 82), some (qI x1), some (qI x2), some (qI x3), some (qI x4), some (qI x5), some (qI s0), x7], [qI 100, qI x5], qH0 M)) rfl) ?_
  refine Eq.trans (qs_idiv rfl (by decide)) ?_
  refine Eq.trans (qlim_n (n := 1) (c' := (163, [some (qA 82), some (qI x1), some (qI x2), some (qI x3), some (qI x4), some (qI x5), some (qI s0), x7], [qI 10, qI (kdiv x5 100)], qH0 M)) rfl) ?_
  refine Eq.trans (qs_irem rfl (by decide)) ?_
  exact (qlim_n (n := 6) (c' := ((if ¬ krem (kdiv x5 100) 10 = 0 then 194 else 176), [some (qA 82), some (qI x1), some (qI x2), some (qI x3), some (qI x4), some (qI x5), some (qI s0), some (qI (krem (kdiv x5 100) 10))], [qI x3, qA 99], qH0 M)) rfl)
set_option maxRecDepth 20000 in
theorem B_X12_holds_176 {M : qMem} {x1 x2 x3 x4 x5 x6 x7 s1 : Int} : qlim C_X12_holds (176, [some (qA 82), some (qI x1), some (qI x2), some (qI x3), some (qI x4), some (qI x5), some (qI x6), some (qI x7)], [qI s1, qA 99], qH0 M) = qlim C_X12_holds ((if krem x5 100 ≤ x6 then 190 else 186), [some (qA 82), some (qI x1), some (qI x2), some (qI x3), some (qI x4), some (qI x5), some (qI x6), some (qI x7)], [qI s1, qA 99], qH0 M) := by
  refine Eq.trans (qlim_n (n := 3) (c' := (182, [some (qA 82), some (qI x1), some (qI x2), some (qI x3), some (qI x4), some (qI x5), some (qI x6), some (qI x7)], [qI 100, qI x5, qI x6, qI s1, qA 99], qH0 M)) rfl) ?_
  refine Eq.trans (qs_irem rfl (by decide)) ?_
  exact (qlim_n (n := 1) (c' := ((if krem x5 100 ≤ x6 then 190 else 186), [some (qA 82), some (qI x1), some (qI x2), some (qI x3), some (qI x4), some (qI x5), some (qI x6), some (qI x7)], [qI s1, qA 99], qH0 M)) rfl)
set_option maxRecDepth 20000 in
theorem B_X12_holds_186 {M : qMem} {x1 x2 x3 x4 x5 x6 x7 s1 : Int} : qlim C_X12_holds (186, [some (qA 82), some (qI x1), some (qI x2), some (qI x3), some (qI x4), some (qI x5), some (qI x6), some (qI x7)], [qI s1, qA 99], qH0 M) = qlim C_X12_holds (233, [some (qA 82), some (qI x1), some (qI x2), some (qI x3), some (qI x4), some (qI x5), some (qI x6), some (qI x7)], [qI 1, qI s1, qA 99], qH0 M) := (qlim_n (n := 2) (c' := (233, [some (qA 82), some (qI x1), some (qI x2), some (qI x3), some (qI x4), some (qI x5), some (qI x6), some (qI x7)], [qI 1, qI s1, qA 99], qH0 M)) rfl)
set_option maxRecDepth 20000 in
theorem B_X12_holds_190 {M : qMem} {x1 x2 x3 x4 x5 x6 x7 s1 : Int} : qlim C_X12_holds (190, [some (qA 82), some (qI x1), some (qI x2), some (qI x3), some (qI x4), some (qI x5), some (qI x6), some (qI x7)], [qI s1, qA 99], qH0 M) = qlim C_X12_holds (233, [some (qA 82), some (qI x1), some (qI x2), some (qI x3), some (qI x4), some (qI x5), some (qI x6), some (qI x7)], [qI 0, qI s1, qA 99], qH0 M) := (qlim_n (n := 2) (c' := (233, [some (qA 82), some (qI x1), some (qI x2), some (qI x3), some (qI x4), some (qI x5), some (qI x6), some (qI x7)], [qI 0, qI s1, qA 99], qH0 M)) rfl)
set_option maxRecDepth 20000 in
theorem B_X12_holds_194 {M : qMem} {x1 x2 x3 x4 x5 x6 x7 s1 : Int} : qlim C_X12_holds (194, [some (qA 82), some (qI x1), some (qI x2), some (qI x3), some (qI x4), some (qI x5), some (qI x6), some (qI x7)], [qI s1, qA 99], qH0 M) = qlim C_X12_holds ((if ¬ x7 = 1 then 218 else 200), [some (qA 82), some (qI x1), some (qI x2), some (qI x3), some (qI x4), some (qI x5), some (qI x6), some (qI x7)], [qI s1, qA 99], qH0 M) := (qlim_n (n := 3) (c' := ((if ¬ x7 = 1 then 218 else 200), [some (qA 82), some (qI x1), some (qI x2), some (qI x3), some (qI x4), some (qI x5), some (qI x6), some (qI x7)], [qI s1, qA 99], qH0 M)) rfl)
set_option maxRecDepth 20000 in
theorem B_X12_holds_200 {M : qMem} {x1 x2 x3 x4 x5 x6 x7 s1 : Int} : qlim C_X12_holds (200, [some (qA 82), some (qI x1), some (qI x2), some (qI x3), some (qI x4), some (qI x5), some (qI x6), some (qI x7)], [qI s1, qA 99], qH0 M) = qlim C_X12_holds ((if ¬ x6 = krem x5 100 then 214 else 210), [some (qA 82), some (qI x1), some (qI x2), some (qI x3), some (qI x4), some (qI x5), some (qI x6), some (qI x7)], [qI s1, qA 99], qH0 M) := by
  refine Eq.trans (qlim_n (n := 3) (c' := (206, [some (qA 82), some (qI x1), some (qI x2), some (qI x3), some (qI x4), some (qI x5), some (qI x6), some (qI x7)], [qI 100, qI x5, qI x6, qI s1, qA 99], qH0 M)) rfl) ?_
  refine Eq.trans (qs_irem rfl (by decide)) ?_
  exact (qlim_n (n := 1) (c' := ((if ¬ x6 = krem x5 100 then 214 else 210), [some (qA 82), some (qI x1), some (qI x2), some (qI x3), some (qI x4), some (qI x5), some (qI x6), some (qI x7)], [qI s1, qA 99], qH0 M)) rfl)
set_option maxRecDepth 20000 in
theorem B_X12_holds_210 {M : qMem} {x1 x2 x3 x4 x5 x6 x7 s1 : Int} : qlim C_X12_holds (210, [some (qA 82), some (qI x1), some (qI x2), some (qI x3), some (qI x4), some (qI x5), some (qI x6), some (qI x7)], [qI s1, qA 99], qH0 M) = qlim C_X12_holds (233, [some (qA 82), some (qI x1), some (qI x2), some (qI x3), some (qI x4), some (qI x5), some (qI x6), some (qI x7)], [qI 1, qI s1, qA 99], qH0 M) := (qlim_n (n := 2) (c' := (233, [some (qA 82), some (qI x1), some (qI x2), some (qI x3), some (qI x4), some (qI x5), some (qI x6), some (qI x7)], [qI 1, qI s1, qA 99], qH0 M)) rfl)
set_option maxRecDepth 20000 in
theorem B_X12_holds_214 {M : qMem} {x1 x2 x3 x4 x5 x6 x7 s1 : Int} : qlim C_X12_holds (214, [some (qA 82), some (qI x1), some (qI x2), some (qI x3), some (qI x4), some (qI x5), some (qI x6), some (qI x7)], [qI s1, qA 99], qH0 M) = qlim C_X12_holds (233, [some (qA 82), some (qI x1), some (qI x2), some (qI x3), some (qI x4), some (qI x5), some (qI x6), some (qI x7)], [qI 0, qI s1, qA 99], qH0 M) := (qlim_n (n := 2) (c' := (233, [some (qA 82), some (qI x1), some (qI x2), some (qI x3), some (qI x4), some (qI x5), some (qI x6), some (qI x7)], [qI 0, qI s1, qA 99], qH0 M)) rfl)
set_option maxRecDepth 20000 in
theorem B_X12_holds_218 {M : qMem} {x1 x2 x3 x4 x5 x6 x7 s1 : Int} : qlim C_X12_holds (218, [some (qA 82), some (qI x1), some (qI x2), some (qI x3), some (qI x4), some (qI x5), some (qI x6), some (qI x7)], [qI s1, qA 99], qH0 M) = qlim C_X12_holds ((if x6 ≤ krem x5 100 then 232 else 228), [some (qA 82), some (qI x1), some (qI x2), some (qI x3), some (qI x4), some (qI x5), some (qI x6), some (qI x7)], [qI s1, qA 99], qH0 M) := by
  refine Eq.trans (qlim_n (n := 3) (c' := (224, [some (qA 82), some (qI x1), some (qI x2), some (qI x3), some (qI x4), some (qI x5), some (qI x6), some (qI x7)], [qI 100, qI x5, qI x6, qI s1, qA 99], qH0 M)) rfl) ?_
  refine Eq.trans (qs_irem rfl (by decide)) ?_
  exact (qlim_n (n := 1) (c' := ((if x6 ≤ krem x5 100 then 232 else 228), [some (qA 82), some (qI x1), some (qI x2), some (qI x3), some (qI x4), some (qI x5), some (qI x6), some (qI x7)], [qI s1, qA 99], qH0 M)) rfl)
set_option maxRecDepth 20000 in
theorem B_X12_holds_228 {M : qMem} {x1 x2 x3 x4 x5 x6 x7 s1 : Int} : qlim C_X12_holds (228, [some (qA 82), some (qI x1), some (qI x2), some (qI x3), some (qI x4), some (qI x5), some (qI x6), some (qI x7)], [qI s1, qA 99], qH0 M) = qlim C_X12_holds (233, [some (qA 82), some (qI x1), some (qI x2), some (qI x3), some (qI x4), some (qI x5), some (qI x6), some (qI x7)], [qI 1, qI s1, qA 99], qH0 M) := (qlim_n (n := 2) (c' := (233, [some (qA 82), some (qI x1), some (qI x2), some (qI x3), some (qI x4), some (qI x5), some (qI x6), some (qI x7)], [qI 1, qI s1, qA 99], qH0 M)) rfl)
set_option maxRecDepth 20000 in
theorem B_X12_holds_232 {M : qMem} {x1 x2 x3 x4 x5 x6 x7 s1 : Int} : qlim C_X12_holds (232, [some (qA 82), some (qI x1), some (qI x2), some (qI x3), some (qI x4), some (qI x5), some (qI x6), some (qI x7)], [qI s1, qA 99], qH0 M) = qlim C_X12_holds (233, [some (qA 82), some (qI x1), some (qI x2), some (qI x3), some (qI x4), some (qI x5), some (qI x6), some (qI x7)], [qI 0, qI s1, qA 99], qH0 M) := (qlim_n (n := 1) (c' := (233, [some (qA 82), some (qI x1), some (qI x2), some (qI x3), some (qI x4), some (qI x5), some (qI x6), some (qI x7)], [qI 0, qI s1, qA 99], qH0 M)) rfl)
set_option maxRecDepth 20000 in
theorem B_X12_holds_233 {M : qMem} {x1 x2 x3 x4 x5 x6 x7 s1 s2 : Int} (h1 : 0 ≤ s1) (h2 : s1 < 100) (h3 : s2 = 0 ∨ s2 = 1) : qlim C_X12_holds (233, [some (qA 82), some (qI x1), some (qI x2), some (qI x3), some (qI x4), some (qI x5), some (qI x6), some (qI x7)], [qI s2, qI s1, qA 99], qH0 M) = qlim C_X12_holds (237, [some (qA 82), some (qI x1), some (qI x2), some (qI (kadd x3 1)), some (qI x4), some (qI x5), some (qI x6), some (qI x7)], [], qH0 (qup M 99 s1 s2)) := by
  refine Eq.trans (qs_zastore rfl rfl h1 h2 h3) ?_
  exact (qlim_n (n := 1) (c' := (237, [some (qA 82), some (qI x1), some (qI x2), some (qI (kadd x3 1)), some (qI x4), some (qI x5), some (qI x6), some (qI x7)], [], qH0 (qup M 99 s1 s2))) rfl)
set_option maxRecDepth 20000 in
theorem B_X12_holds_237 {M : qMem} {x1 x2 x3 x4 x5 : Int} {x6 x7 : Option qV} : qlim C_X12_holds (237, [some (qA 82), some (qI x1), some (qI x2), some (qI x3), some (qI x4), some (qI x5), x6, x7], [], qH0 M) = qlim C_X12_holds (10, [some (qA 82), some (qI x1), some (qI x2), some (qI x3), some (qI (kadd x4 1)), some (qI x5), x6, x7], [], qH0 M) := (qlim_n (n := 2) (c' := (10, [some (qA 82), some (qI x1), some (qI x2), some (qI x3), some (qI (kadd x4 1)), some (qI x5), x6, x7], [], qH0 M)) rfl)
set_option maxRecDepth 20000 in
theorem B_X12_holds_243 {M : qMem} {x1 x2 x3 x4 : Int} {x5 x6 x7 : Option qV} (h1 : M 99 0 = 0 ∨ M 99 0 = 1) : qlim C_X12_holds (243, [some (qA 82), some (qI x1), some (qI x2), some (qI x3), some (qI x4), x5, x6, x7], [], qH0 M) = some (some (qI (M 99 0)), qH0 M) := by
  refine Eq.trans (qlim_n (n := 4) (c' := (249, [some (qA 82), some (qI x1), some (qI x2), some (qI x3), some (qI x4), x5, x6, x7], [qI (M 99 0)], qH0 M)) rfl) ?_
  exact (qs_retZ rfl h1)
theorem E_X12_holds {h : qH} {x1 x2 : Int} : S_X12_holds [qA 82, qI x1, qI x2] h = qlim C_X12_holds (0, [some (qA 82), some (qI x1), some (qI x2), none, none, none, none, none], [], h) := qM_at (Nat.le_of_ble_eq_true rfl) rfl
set_option maxRecDepth 20000 in
theorem B_X12_zeal_0 {M : qMem} {x1 : Int} : qlim C_X12_zeal (0, [some (qA 82), some (qI x1), none, none], [], qH0 M) = qbd (S_X12_begin [qA 82] (qH0 M)) (fun r h' => qlim C_X12_zeal (6, [some (qA 82), some (qI x1), some (qI 3), none], r.toList ++ [], h')) := by
  refine Eq.trans (qlim_n (n := 3) (c' := (3, [some (qA 82), some (qI x1), some (qI 3), none], [qA 82], qH0 M)) rfl) ?_
  exact (qlim_callv (n := 0) rfl rfl rfl (Nat.le_of_ble_eq_true rfl) (Nat.le_of_ble_eq_true rfl) rfl)
set_option maxRecDepth 20000 in
theorem B_X12_zeal_6 {M : qMem} {x1 x2 s0 : Int} : qlim C_X12_zeal (6, [some (qA 82), some (qI x1), some (qI x2), none], [qI s0], qH0 M) = qlim C_X12_zeal (7, [some (qA 82), some (qI x1), some (qI x2), some (qI s0)], [], qH0 M) := (qlim_n (n := 1) (c' := (7, [some (qA 82), some (qI x1), some (qI x2), some (qI s0)], [], qH0 M)) rfl)
set_option maxRecDepth 20000 in
theorem B_X12_zeal_7 {M : qMem} {x1 x2 x3 : Int} : qlim C_X12_zeal (7, [some (qA 82), some (qI x1), some (qI x2), some (qI x3)], [], qH0 M) = qbd (S_X12_behind [qA 82] (qH0 M)) (fun r h' => qlim C_X12_zeal (12, [some (qA 82), some (qI x1), some (qI x2), some (qI x3)], r.toList ++ [qI x3], h')) := by
  refine Eq.trans (qlim_n (n := 2) (c' := (9, [some (qA 82), some (qI x1), some (qI x2), some (qI x3)], [qA 82, qI x3], qH0 M)) rfl) ?_
  exact (qlim_callv (n := 0) rfl rfl rfl (Nat.le_of_ble_eq_true rfl) (Nat.le_of_ble_eq_true rfl) rfl)
set_option maxRecDepth 20000 in
theorem B_X12_zeal_12 {M : qMem} {x1 x2 x3 s0 s1 : Int} : qlim C_X12_zeal (12, [some (qA 82), some (qI x1), some (qI x2), some (qI x3)], [qI s1, qI s0], qH0 M) = qlim C_X12_zeal ((if s1 ≤ s0 then 71 else 15), [some (qA 82), some (qI x1), some (qI x2), some (qI x3)], [], qH0 M) := (qlim_n (n := 1) (c' := ((if s1 ≤ s0 then 71 else 15), [some (qA 82), some (qI x1), some (qI x2), some (qI x3)], [], qH0 M)) rfl)
set_option maxRecDepth 20000 in
theorem B_X12_zeal_15 {M : qMem} {x1 x2 x3 : Int} (h1 : 0 ≤ x3) (h2 : x3 < 60) : qlim C_X12_zeal (15, [some (qA 82), some (qI x1), some (qI x2), some (qI x3)], [], qH0 M) = qlim C_X12_zeal ((if 1 < M 92 x3 then 65 else 25), [some (qA 82), some (qI x1), some (qI x2), some (qI x3)], [], qH0 M) := by
  refine Eq.trans (qlim_n (n := 3) (c' := (20, [some (qA 82), some (qI x1), some (qI x2), some (qI x3)], [qI x3, qA 92], qH0 M)) rfl) ?_
  refine Eq.trans (qs_iaload rfl rfl h1 h2) ?_
  exact (qlim_n (n := 2) (c' := ((if 1 < M 92 x3 then 65 else 25), [some (qA 82), some (qI x1), some (qI x2), some (qI x3)], [], qH0 M)) rfl)
set_option maxRecDepth 20000 in
theorem B_X12_zeal_25 {M : qMem} {x1 x2 x3 : Int} : qlim C_X12_zeal (25, [some (qA 82), some (qI x1), some (qI x2), some (qI x3)], [], qH0 M) = qbd (S_X12_holds [qA 82, qI x3, qI x1] (qH0 M)) (fun r h' => qlim C_X12_zeal (31, [some (qA 82), some (qI x1), some (qI x2), some (qI x3)], r.toList ++ [], h')) := by
  refine Eq.trans (qlim_n (n := 3) (c' := (28, [some (qA 82), some (qI x1), some (qI x2), some (qI x3)], [qI x1, qI x3, qA 82], qH0 M)) rfl) ?_
  exact (qlim_callv (n := 2) rfl rfl rfl (Nat.le_of_ble_eq_true rfl) (Nat.le_of_ble_eq_true rfl) rfl)
set_option maxRecDepth 20000 in
theorem B_X12_zeal_31 {M : qMem} {x1 x2 x3 s0 : Int} : qlim C_X12_zeal (31, [some (qA 82), some (qI x1), some (qI x2), some (qI x3)], [qI s0], qH0 M) = qlim C_X12_zeal ((if ¬ s0 = 0 then 37 else 34), [some (qA 82), some (qI x1), some (qI x2), some (qI x3)], [], qH0 M) := (qlim_n (n := 1) (c' := ((if ¬ s0 = 0 then 37 else 34), [some (qA 82), some (qI x1), some (qI x2), some (qI x3)], [], qH0 M)) rfl)
set_option maxRecDepth 20000 in
theorem B_X12_zeal_34 {M : qMem} {x1 x2 x3 : Int} : qlim C_X12_zeal (34, [some (qA 82), some (qI x1), some (qI x2), some (qI x3)], [], qH0 M) = qlim C_X12_zeal (65, [some (qA 82), some (qI x1), some (qI x2), some (qI x3)], [], qH0 M) := (qlim_n (n := 1) (c' := (65, [some (qA 82), some (qI x1), some (qI x2), some (qI x3)], [], qH0 M)) rfl)
set_option maxRecDepth 20000 in
theorem B_X12_zeal_37 {M : qMem} {x1 x2 x3 : Int} (h1 : 0 ≤ x3) (h2 : x3 < 60) : qlim C_X12_zeal (37, [some (qA 82), some (qI x1), some (qI x2), some (qI x3)], [], qH0 M) = qlim C_X12_zeal ((if ¬ M 92 x3 = 0 then 56 else 47), [some (qA 82), some (qI x1), some (qI x2), some (qI x3)], [qI x2], qH0 M) := by
  refine Eq.trans (qlim_n (n := 4) (c' := (43, [some (qA 82), some (qI x1), some (qI x2), some (qI x3)], [qI x3, qA 92, qI x2], qH0 M)) rfl) ?_
  refine Eq.trans (qs_iaload rfl rfl h1 h2) ?_
  exact (qlim_n (n := 1) (c' := ((if ¬ M 92 x3 = 0 then 56 else 47), [some (qA 82), some (qI x1), some (qI x2), some (qI x3)], [qI x2], qH0 M)) rfl)
set_option maxRecDepth 20000 in
theorem B_X12_zeal_47 {M : qMem} {x1 x2 x3 s0 : Int} (h1 : 0 ≤ x3) (h2 : x3 < 60) : qlim C_X12_zeal (47, [some (qA 82), some (qI x1), some (qI x2), some (qI x3)], [qI s0], qH0 M) = qlim C_X12_zeal (63, [some (qA 82), some (qI x1), some (qI x2), some (qI x3)], [qI (M 93 x3), qI s0], qH0 M) := by
  refine Eq.trans (qlim_n (n := 3) (c' := (52, [some (qA 82), some (qI x1), some (qI x2), some (qI x3)], [qI x3, qA 93, qI s0], qH0 M)) rfl) ?_
  refine Eq.trans (qs_iaload rfl rfl h1 h2) ?_
  exact (qlim_n (n := 1) (c' := (63, [some (qA 82), some (qI x1), some (qI x2), some (qI x3)], [qI (M 93 x3), qI s0], qH0 M)) rfl)
set_option maxRecDepth 20000 in
theorem B_X12_zeal_56 {M : qMem} {x1 x2 x3 s0 : Int} (h1 : 0 ≤ x3) (h2 : x3 < 60) : qlim C_X12_zeal (56, [some (qA 82), some (qI x1), some (qI x2), some (qI x3)], [qI s0], qH0 M) = qlim C_X12_zeal (63, [some (qA 82), some (qI x1), some (qI x2), some (qI x3)], [qI (kneg (M 93 x3)), qI s0], qH0 M) := by
  refine Eq.trans (qlim_n (n := 3) (c' := (61, [some (qA 82), some (qI x1), some (qI x2), some (qI x3)], [qI x3, qA 93, qI s0], qH0 M)) rfl) ?_
  refine Eq.trans (qs_iaload rfl rfl h1 h2) ?_
  exact (qlim_n (n := 1) (c' := (63, [some (qA 82), some (qI x1), some (qI x2), some (qI x3)], [qI (kneg (M 93 x3)), qI s0], qH0 M)) rfl)
set_option maxRecDepth 20000 in
theorem B_X12_zeal_63 {M : qMem} {x1 x2 x3 s0 s1 : Int} : qlim C_X12_zeal (63, [some (qA 82), some (qI x1), some (qI x2), some (qI x3)], [qI s1, qI s0], qH0 M) = qlim C_X12_zeal (65, [some (qA 82), some (qI x1), some (qI (kadd s0 s1)), some (qI x3)], [], qH0 M) := (qlim_n (n := 2) (c' := (65, [some (qA 82), some (qI x1), some (qI (kadd s0 s1)), some (qI x3)], [], qH0 M)) rfl)
set_option maxRecDepth 20000 in
theorem B_X12_zeal_65 {M : qMem} {x1 x2 x3 : Int} : qlim C_X12_zeal (65, [some (qA 82), some (qI x1), some (qI x2), some (qI x3)], [], qH0 M) = qlim C_X12_zeal (7, [some (qA 82), some (qI x1), some (qI x2), some (qI (kadd x3 1))], [], qH0 M) := (qlim_n (n := 2) (c' := (7, [some (qA 82), some (qI x1), some (qI x2), some (qI (kadd x3 1))], [], qH0 M)) rfl)
set_option maxRecDepth 20000 in
theorem B_X12_zeal_71 {M : qMem} {x1 x2 x3 : Int} : qlim C_X12_zeal (71, [some (qA 82), some (qI x1), some (qI x2), some (qI x3)], [], qH0 M) = some (some (qI x2), qH0 M) := by
  refine Eq.trans (qlim_n (n := 1) (c' := (72, [some (qA 82), some (qI x1), some (qI x2), some (qI x3)], [qI x2], qH0 M)) rfl) ?_
  exact (qlim_ret rfl)
theorem E_X12_zeal {h : qH} {x1 : Int} : S_X12_zeal [qA 82, qI x1] h = qlim C_X12_zeal (0, [some (qA 82), some (qI x1), none, none], [], h) := qM_at (Nat.le_of_ble_eq_true rfl) rfl
set_option maxRecDepth 20000 in
theorem B_X12_alike_0 {M : qMem} {x1 : Int} : qlim C_X12_alike (0, [some (qA 82), some (qI x1), none, none], [], qH0 M) = qlim C_X12_alike (4, [some (qA 82), some (qI x1), some (qI 0), some (qI 0)], [], qH0 M) := (qlim_n (n := 4) (c' := (4, [some (qA 82), some (qI x1), some (qI 0), some (qI 0)], [], qH0 M)) rfl)
set_option maxRecDepth 20000 in
theorem B_X12_alike_4 {M : qMem} {x1 x2 x3 : Int} : qlim C_X12_alike (4, [some (qA 82), some (qI x1), some (qI x2), some (qI x3)], [], qH0 M) = qlim C_X12_alike ((if M 82 0 ≤ x3 then 58 else 12), [some (qA 82), some (qI x1), some (qI x2), some (qI x3)], [], qH0 M) := (qlim_n (n := 4) (c' := ((if M 82 0 ≤ x3 then 58 else 12), [some (qA 82), some (qI x1), some (qI x2), some (qI x3)], [], qH0 M)) rfl)
set_option maxRecDepth 20000 in
theorem B_X12_alike_12 {M : qMem} {x1 x2 x3 : Int} : qlim C_X12_alike (12, [some (qA 82), some (qI x1), some (qI x2), some (qI x3)], [], qH0 M) = qlim C_X12_alike ((if x3 = x1 then 49 else 18), [some (qA 82), some (qI x1), some (qI x2), some (qI x3)], [qI x2], qH0 M) := (qlim_n (n := 4) (c' := ((if x3 = x1 then 49 else 18), [some (qA 82), some (qI x1), some (qI x2), some (qI x3)], [qI x2], qH0 M)) rfl)
set_option maxRecDepth 20000 in
theorem B_X12_alike_18 {M : qMem} {x1 x2 x3 s0 : Int} : qlim C_X12_alike (18, [some (qA 82), some (qI x1), some (qI x2), some (qI x3)], [qI s0], qH0 M) = qbd (S_X12_has [qA 82, qI (M 82 2), qI x3] (qH0 M)) (fun r h' => qlim C_X12_alike (27, [some (qA 82), some (qI x1), some (qI x2), some (qI x3)], r.toList ++ [qI s0], h')) := by
  refine Eq.trans (qlim_n (n := 4) (c' := (24, [some (qA 82), some (qI x1), some (qI x2), some (qI x3)], [qI x3, qI (M 82 2), qA 82, qI s0], qH0 M)) rfl) ?_
  exact (qlim_callv (n := 2) rfl rfl rfl (Nat.le_of_ble_eq_true rfl) (Nat.le_of_ble_eq_true rfl) rfl)
set_option maxRecDepth 20000 in
theorem B_X12_alike_27 {M : qMem} {x1 x2 x3 s0 s1 : Int} : qlim C_X12_alike (27, [some (qA 82), some (qI x1), some (qI x2), some (qI x3)], [qI s1, qI s0], qH0 M) = qlim C_X12_alike ((if ¬ s1 = 0 then 49 else 30), [some (qA 82), some (qI x1), some (qI x2), some (qI x3)], [qI s0], qH0 M) := (qlim_n (n := 1) (c' := ((if ¬ s1 = 0 then 49 else 30), [some (qA 82), some (qI x1), some (qI x2), some (qI x3)], [qI s0], qH0 M)) rfl)
set_option maxRecDepth 20000 in
theorem B_X12_alike_30 {M : qMem} {x1 x2 x3 s0 : Int} (h1 : 0 ≤ x3) (h2 : x3 < 6) (h3 : 0 ≤ x1) (h4 : x1 < 6) : qlim C_X12_alike (30, [some (qA 82), some (qI x1), some (qI x2), some (qI x3)], [qI s0], qH0 M) = qlim C_X12_alike ((if ¬ M 86 x3 = M 86 x1 then 49 else 45), [some (qA 82), some (qI x1), some (qI x2), some (qI x3)], [qI s0], qH0 M) := by
  refine Eq.trans (qlim_n (n := 3) (c' := (35, [some (qA 82), some (qI x1), some (qI x2), some (qI x3)], [qI x3, qA 86, qI s0], qH0 M)) rfl) ?_
  refine Eq.trans (qs_iaload rfl rfl h1 h2) ?_
  refine Eq.trans (qlim_n (n := 3) (c' := (41, [some (qA 82), some (qI x1), some (qI x2), some (qI x3)], [qI x1, qA 86, qI (M 86 x3), qI s0], qH0 M)) rfl) ?_
  refine Eq.trans (qs_iaload rfl rfl h3 h4) ?_
  exact (qlim_n (n := 1) (c' := ((if ¬ M 86 x3 = M 86 x1 then 49 else 45), [some (qA 82), some (qI x1), some (qI x2), some (qI x3)], [qI s0], qH0 M)) rfl)
set_option maxRecDepth 20000 in
theorem B_X12_alike_45 {M : qMem} {x1 x2 x3 s0 : Int} : qlim C_X12_alike (45, [some (qA 82), some (qI x1), some (qI x2), some (qI x3)], [qI s0], qH0 M) = qlim C_X12_alike (50, [some (qA 82), some (qI x1), some (qI x2), some (qI x3)], [qI 1, qI s0], qH0 M) := (qlim_n (n := 2) (c' := (50, [some (qA 82), some (qI x1), some (qI x2), some (qI x3)], [qI 1, qI s0], qH0 M)) rfl)
set_option maxRecDepth 20000 in
theorem B_X12_alike_49 {M : qMem} {x1 x2 x3 s0 : Int} : qlim C_X12_alike (49, [some (qA 82), some (qI x1), some (qI x2), some (qI x3)], [qI s0], qH0 M) = qlim C_X12_alike (50, [some (qA 82), some (qI x1), some (qI x2), some (qI x3)], [qI 0, qI s0], qH0 M) := (qlim_n (n := 1) (c' := (50, [some (qA 82), some (qI x1), some (qI x2), some (qI x3)], [qI 0, qI s0], qH0 M)) rfl)
set_option maxRecDepth 20000 in
theorem B_X12_alike_50 {M : qMem} {x1 x2 x3 s0 s1 : Int} : qlim C_X12_alike (50, [some (qA 82), some (qI x1), some (qI x2), some (qI x3)], [qI s1, qI s0], qH0 M) = qlim C_X12_alike (4, [some (qA 82), some (qI x1), some (qI (kadd s0 s1)), some (qI (kadd x3 1))], [], qH0 M) := (qlim_n (n := 4) (c' := (4, [some (qA 82), some (qI x1), some (qI (kadd s0 s1)), some (qI (kadd x3 1))], [], qH0 M)) rfl)
set_option maxRecDepth 20000 in
theorem B_X12_alike_58 {M : qMem} {x1 x2 x3 : Int} : qlim C_X12_alike (58, [some (qA 82), some (qI x1), some (qI x2), some (qI x3)], [], qH0 M) = some (some (qI x2), qH0 M) := by
  refine Eq.trans (qlim_n (n := 1) (c' := (59, [some (qA 82), some (qI x1), some (qI x2), some (qI x3)], [qI x2], qH0 M)) rfl) ?_
  exact (qlim_ret rfl)
theorem E_X12_alike {h : qH} {x1 : Int} : S_X12_alike [qA 82, qI x1] h = qlim C_X12_alike (0, [some (qA 82), some (qI x1), none, none], [], h) := qM_at (Nat.le_of_ble_eq_true rfl) rfl
set_option maxRecDepth 20000 in
theorem B_X12_plainPace_0 {M : qMem} {x1 : Int} : qlim C_X12_plainPace (0, [some (qA 82), some (qI x1), none, none], [], qH0 M) = qbd (S_X12_zeal [qA 82, qI x1] (qH0 M)) (fun r h' => qlim C_X12_plainPace (5, [some (qA 82), some (qI x1), none, none], r.toList ++ [], h')) := by
  refine Eq.trans (qlim_n (n := 2) (c' := (2, [some (qA 82), some (qI x1), none, none], [qI x1, qA 82], qH0 M)) rfl) ?_
  exact (qlim_callv (n := 1) rfl rfl rfl (Nat.le_of_ble_eq_true rfl) (Nat.le_of_ble_eq_true rfl) rfl)
set_option maxRecDepth 20000 in
theorem B_X12_plainPace_5 {M : qMem} {x1 s0 : Int} (h1 : 0 ≤ x1) (h2 : x1 < 6) : qlim C_X12_plainPace (5, [some (qA 82), some (qI x1), none, none], [qI s0], qH0 M) = qlim C_X12_plainPace ((if ¬ M 86 x1 = 2 then 30 else 16), [some (qA 82), some (qI x1), some (qI s0), none], [], qH0 M) := by
  refine Eq.trans (qlim_n (n := 4) (c' := (11, [some (qA 82), some (qI x1), some (qI s0), none], [qI x1, qA 86], qH0 M)) rfl) ?_
  refine Eq.trans (qs_iaload rfl rfl h1 h2) ?_
  exact (qlim_n (n := 2) (c' := ((if ¬ M 86 x1 = 2 then 30 else 16), [some (qA 82), some (qI x1), some (qI s0), none], [], qH0 M)) rfl)
set_option maxRecDepth 20000 in
theorem B_X12_plainPace_16 {M : qMem} {x1 x2 : Int} (h1 : 0 ≤ x1) (h2 : x1 < 6) : qlim C_X12_plainPace (16, [some (qA 82), some (qI x1), some (qI x2), none], [], qH0 M) = qlim C_X12_plainPace (31, [some (qA 82), some (qI x1), some (qI x2), none], [qI (ksub x2 (kdiv (M 87 x1) 20))], qH0 M) := by
  refine Eq.trans (qlim_n (n := 4) (c' := (22, [some (qA 82), some (qI x1), some (qI x2), none], [qI x1, qA 87, qI x2], qH0 M)) rfl) ?_
  refine Eq.trans (qs_iaload rfl rfl h1 h2) ?_
  refine Eq.trans (qlim_n (n := 1) (c' := (25, [some (qA 82), some (qI x1), some (qI x2), none], [qI 20, qI (M 87 x1), qI x2], qH0 M)) rfl) ?_
  refine Eq.trans (qs_idiv rfl (by decide)) ?_
  exact (qlim_n (n := 2) (c' := (31, [some (qA 82), some (qI x1), some (qI x2), none], [qI (ksub x2 (kdiv (M 87 x1) 20))], qH0 M)) rfl)
set_option maxRecDepth 20000 in
theorem B_X12_plainPace_30 {M : qMem} {x1 x2 : Int} : qlim C_X12_plainPace (30, [some (qA 82), some (qI x1), some (qI x2), none], [], qH0 M) = qlim C_X12_plainPace (31, [some (qA 82), some (qI x1), some (qI x2), none], [qI x2], qH0 M) := (qlim_n (n := 1) (c' := (31, [some (qA 82), some (qI x1), some (qI x2), none], [qI x2], qH0 M)) rfl)
set_option maxRecDepth 20000 in
theorem B_X12_plainPace_31 {M : qMem} {x1 x2 s0 : Int} (h1 : 0 ≤ x1) (h2 : x1 < 6) : qlim C_X12_plainPace (31, [some (qA 82), some (qI x1), some (qI x2), none], [qI s0], qH0 M) = qlim C_X12_plainPace (qtk [76, 87, 89, 97, 124, 138] 162 1 (M 84 x1), [some (qA 82), some (qI x1), some (qI x2), some (qI s0)], [], qH0 M) := by
  refine Eq.trans (qlim_n (n := 4) (c' := (37, [some (qA 82), some (qI x1), some (qI x2), some (qI s0)], [qI x1, qA 84], qH0 M)) rfl) ?_
  refine Eq.trans (qs_iaload rfl rfl h1 h2) ?_
  exact (qlim_n (n := 1) (c' := (qtk [76, 87, 89, 97, 124, 138] 162 1 (M 84 x1), [some (qA 82), some (qI x1), some (qI x2), some (qI s0)], [], qH0 M)) rfl)
set_option maxRecDepth 20000 in
theorem B_X12_plainPace_76 {M : qMem} {x1 x2 x3 : Int} (h1 : 0 ≤ x1) (h2 : x1 < 6) : qlim C_X12_plainPace (76, [some (qA 82), some (qI x1), some (qI x2), some (qI x3)], [], qH0 M) = some (some (qI (kadd x2 (kdiv (M 85 x1) 2))), qH0 M) := by
  refine Eq.trans (qlim_n (n := 4) (c' := (82, [some (qA 82), some (qI x1), some (qI x2), some (qI x3)], [qI x1, qA 85, qI x2], qH0 M)) rfl) ?_
  refine Eq.trans (qs_iaload rfl rfl h1 h2) ?_
  refine Eq.trans (qlim_n (n := 1) (c' := (84, [some (qA 82), some (qI x1), some (qI x2), some (qI x3)], [qI 2, qI (M 85 x1), qI x2], qH0 M)) rfl) ?_
  refine Eq.trans (qs_idiv rfl (by decide)) ?_
  refine Eq.trans (qlim_n (n := 1) (c' := (86, [some (qA 82), some (qI x1), some (qI x2), some (qI x3)], [qI (kadd x2 (kdiv (M 85 x1) 2))], qH0 M)) rfl) ?_
  exact (qlim_ret rfl)
set_option maxRecDepth 20000 in
theorem B_X12_plainPace_87 {M : qMem} {x1 x2 x3 : Int} : qlim C_X12_plainPace (87, [some (qA 82), some (qI x1), some (qI x2), some (qI x3)], [], qH0 M) = some (some (qI x3), qH0 M) := by
  refine Eq.trans (qlim_n (n := 1) (c' := (88, [some (qA 82), some (qI x1), some (qI x2), some (qI x3)], [qI x3], qH0 M)) rfl) ?_
  exact (qlim_ret rfl)
set_option maxRecDepth 20000 in
theorem B_X12_plainPace_89 {M : qMem} {x1 x2 x3 : Int} : qlim C_X12_plainPace (89, [some (qA 82), some (qI x1), some (qI x2), some (qI x3)], [], qH0 M) = qbd (S_X12_alike [qA 82, qI x1] (qH0 M)) (fun r h' => qlim C_X12_plainPace (95, [some (qA 82), some (qI x1), some (qI x2), some (qI x3)], r.toList ++ [qI x2], h')) := by
  refine Eq.trans (qlim_n (n := 3) (c' := (92, [some (qA 82), some (qI x1), some (qI x2), some (qI x3)], [qI x1, qA 82, qI x2], qH0 M)) rfl) ?_
  exact (qlim_callv (n := 1) rfl rfl rfl (Nat.le_of_ble_eq_true rfl) (Nat.le_of_ble_eq_true rfl) rfl)
set_option maxRecDepth 20000 in
theorem B_X12_plainPace_95 {M : qMem} {x1 x2 x3 s0 s1 : Int} : qlim C_X12_plainPace (95, [some (qA 82), some (qI x1), some (qI x2), some (qI x3)], [qI s1, qI s0], qH0 M) = some (some (qI (ksub s0 s1)), qH0 M) := by
  refine Eq.trans (qlim_n (n := 1) (c' := (96, [some (qA 82), some (qI x1), some (qI x2), some (qI x3)], [qI (ksub s0 s1)], qH0 M)) rfl) ?_
  exact (qlim_ret rfl)
set_option maxRecDepth 20000 in
theorem B_X12_plainPace_97 {M : qMem} {x1 x2 x3 : Int} (h1 : 0 ≤ x1) (h2 : x1 < 6) : qlim C_X12_plainPace (97, [some (qA 82), some (qI x1), some (qI x2), some (qI x3)], [], qH0 M) = qlim C_X12_plainPace ((if ¬ M 86 x1 = 2 then 121 else 117), [some (qA 82), some (qI x1), some (qI x2), some (qI x3)], [qI (kadd x2 (kdiv (M 85 x1) 2))], qH0 M) := by
  refine Eq.trans (qlim_n (n := 4) (c' := (103, [some (qA 82), some (qI x1), some (qI x2), some (qI x3)], [qI x1, qA 85, qI x2], qH0 M)) rfl) ?_
  refine Eq.trans (qs_iaload rfl rfl h1 h2) ?_
  refine Eq.trans (qlim_n (n := 1) (c' := (105, [some (qA 82), some (qI x1), some (qI x2), some (qI x3)], [qI 2, qI (M 85 x1), qI x2], qH0 M)) rfl) ?_
  refine Eq.trans (qs_idiv rfl (by decide)) ?_
  refine Eq.trans (qlim_n (n := 4) (c' := (112, [some (qA 82), some (qI x1), some (qI x2), some (qI x3)], [qI x1, qA 86, qI (kadd x2 (kdiv (M 85 x1) 2))], qH0 M)) rfl) ?_
  refine Eq.trans (qs_iaload rfl rfl h1 h2) ?_
  exact (qlim_n (n := 2) (c' := ((if ¬ M 86 x1 = 2 then 121 else 117), [some (qA 82), some (qI x1), some (qI x2), some (qI x3)], [qI (kadd x2 (kdiv (M 85 x1) 2))], qH0 M)) rfl)
set_option maxRecDepth 20000 in
theorem B_X12_plainPace_117 {M : qMem} {x1 x2 x3 s0 : Int} : qlim C_X12_plainPace (117, [some (qA 82), some (qI x1), some (qI x2), some (qI x3)], [qI s0], qH0 M) = qlim C_X12_plainPace (122, [some (qA 82), some (qI x1), some (qI x2), some (qI x3)], [qI 2, qI s0], qH0 M) := (qlim_n (n := 2) (c' := (122, [some (qA 82), some (qI x1), some (qI x2), some (qI x3)], [qI 2, qI s0], qH0 M)) rfl)
set_option maxRecDepth 20000 in
theorem B_X12_plainPace_121 {M : qMem} {x1 x2 x3 s0 : Int} : qlim C_X12_plainPace (121, [some (qA 82), some (qI x1), some (qI x2), some (qI x3)], [qI s0], qH0 M) = qlim C_X12_plainPace (122, [some (qA 82), some (qI x1), some (qI x2), some (qI x3)], [qI 0, qI s0], qH0 M) := (qlim_n (n := 1) (c' := (122, [some (qA 82), some (qI x1), some (qI x2), some (qI x3)], [qI 0, qI s0], qH0 M)) rfl)
set_option maxRecDepth 20000 in
theorem B_X12_plainPace_122 {M : qMem} {x1 x2 x3 s0 s1 : Int} : qlim C_X12_plainPace (122, [some (qA 82), some (qI x1), some (qI x2), some (qI x3)], [qI s1, qI s0], qH0 M) = some (some (qI (kadd s0 s1)), qH0 M) := by
  refine Eq.trans (qlim_n (n := 1) (c' := (123, [some (qA 82), some (qI x1), some (qI x2), some (qI x3)], [qI (kadd s0 s1)], qH0 M)) rfl) ?_
  exact (qlim_ret rfl)
set_option maxRecDepth 20000 in
theorem B_X12_plainPace_124 {M : qMem} {x1 x2 x3 : Int} (h1 : 0 ≤ x1) (h2 : x1 < 6) : qlim C_X12_plainPace (124, [some (qA 82), some (qI x1), some (qI x2), some (qI x3)], [], qH0 M) = qbd (S_X12_least [qA 82, qI x3, qI (kadd (M 85 x1) 1)] (qH0 M)) (fun r h' => qlim C_X12_plainPace (137, [some (qA 82), some (qI x1), some (qI x2), some (qI x3)], r.toList ++ [], h')) := by
  refine Eq.trans (qlim_n (n := 5) (c' := (131, [some (qA 82), some (qI x1), some (qI x2), some (qI x3)], [qI x1, qA 85, qI x3, qA 82], qH0 M)) rfl) ?_
  refine Eq.trans (qs_iaload rfl rfl h1 h2) ?_
  refine Eq.trans (qlim_n (n := 2) (c' := (134, [some (qA 82), some (qI x1), some (qI x2), some (qI x3)], [qI (kadd (M 85 x1) 1), qI x3, qA 82], qH0 M)) rfl) ?_
  exact (qlim_callv (n := 2) rfl rfl rfl (Nat.le_of_ble_eq_true rfl) (Nat.le_of_ble_eq_true rfl) rfl)
set_option maxRecDepth 20000 in
theorem B_X12_plainPace_137 {M : qMem} {x1 x2 x3 s0 : Int} : qlim C_X12_plainPace (137, [some (qA 82), some (qI x1), some (qI x2), some (qI x3)], [qI s0], qH0 M) = some (some (qI s0), qH0 M) := (qlim_ret rfl)
set_option maxRecDepth 20000 in
theorem B_X12_plainPace_138 {M : qMem} {x1 x2 x3 : Int} : qlim C_X12_plainPace (138, [some (qA 82), some (qI x1), some (qI x2), some (qI x3)], [], qH0 M) = qbd (S_X12_alike [qA 82, qI x1] (qH0 M)) (fun r h' => qlim C_X12_plainPace (144, [some (qA 82), some (qI x1), some (qI x2), some (qI x3)], r.toList ++ [qI x2], h')) := by
  refine Eq.trans (qlim_n (n := 3) (c' := (141, [some (qA 82), some (qI x1), some (qI x2), some (qI x3)], [qI x1, qA 82, qI x2], qH0 M)) rfl) ?_
  exact (qlim_callv (n := 1) rfl rfl rfl (Nat.le_of_ble_eq_true rfl) (Nat.le_of_ble_eq_true rfl) rfl)
set_option maxRecDepth 20000 in
theorem B_X12_plainPace_144 {M : qMem} {x1 x2 x3 s0 s1 : Int} (h1 : 0 ≤ kadd (kmul 4 x1) (krem (M 82 1) 4)) (h2 : kadd (kmul 4 x1) (krem (M 82 1) 4) < 24) : qlim C_X12_plainPace (144, [some (qA 82), some (qI x1), some (qI x2), some (qI x3)], [qI s1, qI s0], qH0 M) = some (some (qI (kadd (ksub s0 s1) (M 89 (kadd (kmul 4 x1) (krem (M 82 1) 4))))), qH0 M) := by
  refine Eq.trans (qlim_n (n := 9) (c' := (157, [some (qA 82), some (qI x1), some (qI x2), some (qI x3)], [qI 4, qI (M 82 1), qI (kmul 4 x1), qA 89, qI (ksub s0 s1)], qH0 M)) rfl) ?_
  refine Eq.trans (qs_irem rfl (by decide)) ?_
  refine Eq.trans (qlim_n (n := 1) (c' := (159, [some (qA 82), some (qI x1), some (qI x2), some (qI x3)], [qI (kadd (kmul 4 x1) (krem (M 82 1) 4)), qA 89, qI (ksub s0 s1)], qH0 M)) rfl) ?_
  refine Eq.trans (qs_iaload rfl rfl h1 h2) ?_
  refine Eq.trans (qlim_n (n := 1) (c' := (161, [some (qA 82), some (qI x1), some (qI x2), some (qI x3)], [qI (kadd (ksub s0 s1) (M 89 (kadd (kmul 4 x1) (krem (M 82 1) 4))))], qH0 M)) rfl) ?_
  exact (qlim_ret rfl)
set_option maxRecDepth 20000 in
theorem B_X12_plainPace_162 {M : qMem} {x1 x2 x3 : Int} : qlim C_X12_plainPace (162, [some (qA 82), some (qI x1), some (qI x2), some (qI x3)], [], qH0 M) = some (some (qI x2), qH0 M) := by
  refine Eq.trans (qlim_n (n := 1) (c' := (163, [some (qA 82), some (qI x1), some (qI x2), some (qI x3)], [qI x2], qH0 M)) rfl) ?_
  exact (qlim_ret rfl)
theorem E_X12_plainPace {h : qH} {x1 : Int} : S_X12_plainPace [qA 82, qI x1] h = qlim C_X12_plainPace (0, [some (qA 82), some (qI x1), none, none], [], h) := qM_at (Nat.le_of_ble_eq_true rfl) rfl
set_option maxRecDepth 20000 in
theorem B_X12_pace_0 {M : qMem} {x1 : Int} : qlim C_X12_pace (0, [some (qA 82), some (qI x1), none], [], qH0 M) = qbd (S_X12_plainPace [qA 82, qI x1] (qH0 M)) (fun r h' => qlim C_X12_pace (5, [some (qA 82), some (qI x1), none], r.toList ++ [], h')) := by
  refine Eq.trans (qlim_n (n := 2) (c' := (2, [some (qA 82), some (qI x1), none], [qI x1, qA 82], qH0 M)) rfl) ?_
  exact (qlim_callv (n := 1) rfl rfl rfl (Nat.le_of_ble_eq_true rfl) (Nat.le_of_ble_eq_true rfl) rfl)
set_option maxRecDepth 20000 in
theorem B_X12_pace_5 {M : qMem} {x1 s0 : Int} : qlim C_X12_pace (5, [some (qA 82), some (qI x1), none], [qI s0], qH0 M) = qlim C_X12_pace ((if 0 ≤ s0 then 14 else 10), [some (qA 82), some (qI x1), some (qI s0)], [], qH0 M) := (qlim_n (n := 3) (c' := ((if 0 ≤ s0 then 14 else 10), [some (qA 82), some (qI x1), some (qI s0)], [], qH0 M)) rfl)
set_option maxRecDepth 20000 in
theorem B_X12_pace_10 {M : qMem} {x1 x2 : Int} : qlim C_X12_pace (10, [some (qA 82), some (qI x1), some (qI x2)], [], qH0 M) = qlim C_X12_pace (15, [some (qA 82), some (qI x1), some (qI x2)], [qI 0], qH0 M) := (qlim_n (n := 2) (c' := (15, [some (qA 82), some (qI x1), some (qI x2)], [qI 0], qH0 M)) rfl)
set_option maxRecDepth 20000 in
theorem B_X12_pace_14 {M : qMem} {x1 x2 : Int} : qlim C_X12_pace (14, [some (qA 82), some (qI x1), some (qI x2)], [], qH0 M) = qlim C_X12_pace (15, [some (qA 82), some (qI x1), some (qI x2)], [qI x2], qH0 M) := (qlim_n (n := 1) (c' := (15, [some (qA 82), some (qI x1), some (qI x2)], [qI x2], qH0 M)) rfl)
set_option maxRecDepth 20000 in
theorem B_X12_pace_15 {M : qMem} {x1 x2 s0 : Int} : qlim C_X12_pace (15, [some (qA 82), some (qI x1), some (qI x2)], [qI s0], qH0 M) = some (some (qI s0), qH0 M) := (qlim_ret rfl)
theorem E_X12_pace {h : qH} {x1 : Int} : S_X12_pace [qA 82, qI x1] h = qlim C_X12_pace (0, [some (qA 82), some (qI x1), none], [], h) := qM_at (Nat.le_of_ble_eq_true rfl) rfl
set_option maxRecDepth 20000 in
theorem B_X12_of_0 {M : qMem} {x1 x2 : Int} : qlim C_X12_of (0, [some (qA 82), some (qI x1), some (qI x2)], [], qH0 M) = qbd (S_X12_isPerson [qA 82, qI x1] (qH0 M)) (fun r h' => qlim C_X12_of (5, [some (qA 82), some (qI x1), some (qI x2)], r.toList ++ [], h')) := by
  refine Eq.trans (qlim_n (n := 2) (c' := (2, [some (qA 82), some (qI x1), some (qI x2)], [qI x1, qA 82], qH0 M)) rfl) ?_
  exact (qlim_callv (n := 1) rfl rfl rfl (Nat.le_of_ble_eq_true rfl) (Nat.le_of_ble_eq_true rfl) rfl)
set_option maxRecDepth 20000 in
theorem B_X12_of_5 {M : qMem} {x1 x2 s0 : Int} : qlim C_X12_of (5, [some (qA 82), some (qI x1), some (qI x2)], [qI s0], qH0 M) = qlim C_X12_of ((if ¬ s0 = 0 then 12 else 8), [some (qA 82), some (qI x1), some (qI x2)], [], qH0 M) := (qlim_n (n := 1) (c' := ((if ¬ s0 = 0 then 12 else 8), [some (qA 82), some (qI x1), some (qI x2)], [], qH0 M)) rfl)
set_option maxRecDepth 20000 in
theorem B_X12_of_8 {M : qMem} {x1 x2 : Int} : qlim C_X12_of (8, [some (qA 82), some (qI x1), some (qI x2)], [], qH0 M) = some (some (qI (-1001)), qH0 M) := by
  refine Eq.trans (qlim_n (n := 1) (c' := (11, [some (qA 82), some (qI x1), some (qI x2)], [qI (-1001)], qH0 M)) rfl) ?_
  exact (qlim_ret rfl)
set_option maxRecDepth 20000 in
theorem B_X12_of_12 {M : qMem} {x1 x2 : Int} : qlim C_X12_of (12, [some (qA 82), some (qI x1), some (qI x2)], [], qH0 M) = qlim C_X12_of (qtk [60, 67, 74, 81, 88, 95, 113, 119] 125 0 x2, [some (qA 82), some (qI x1), some (qI x2)], [], qH0 M) := (qlim_n (n := 2) (c' := (qtk [60, 67, 74, 81, 88, 95, 113, 119] 125 0 x2, [some (qA 82), some (qI x1), some (qI x2)], [], qH0 M)) rfl)
set_option maxRecDepth 20000 in
theorem B_X12_of_60 {M : qMem} {x1 x2 : Int} (h1 : 0 ≤ x1) (h2 : x1 < 6) : qlim C_X12_of (60, [some (qA 82), some (qI x1), some (qI x2)], [], qH0 M) = some (some (qI (M 84 x1)), qH0 M) := by
  refine Eq.trans (qlim_n (n := 3) (c' := (65, [some (qA 82), some (qI x1), some (qI x2)], [qI x1, qA 84], qH0 M)) rfl) ?_
  refine Eq.trans (qs_iaload rfl rfl h1 h2) ?_
  exact (qlim_ret rfl)
set_option maxRecDepth 20000 in
theorem B_X12_of_67 {M : qMem} {x1 x2 : Int} (h1 : 0 ≤ x1) (h2 : x1 < 6) : qlim C_X12_of (67, [some (qA 82), some (qI x1), some (qI x2)], [], qH0 M) = some (some (qI (M 85 x1)), qH0 M) := by
  refine Eq.trans (qlim_n (n := 3) (c' := (72, [some (qA 82), some (qI x1), some (qI x2)], [qI x1, qA 85], qH0 M)) rfl) ?_
  refine Eq.trans (qs_iaload rfl rfl h1 h2) ?_
  exact (qlim_ret rfl)
set_option maxRecDepth 20000 in
theorem B_X12_of_74 {M : qMem} {x1 x2 : Int} (h1 : 0 ≤ x1) (h2 : x1 < 6) : qlim C_X12_of (74, [some (qA 82), some (qI x1), some (qI x2)], [], qH0 M) = some (some (qI (M 86 x1)), qH0 M) := by
  refine Eq.trans (qlim_n (n := 3) (c' := (79, [some (qA 82), some (qI x1), some (qI x2)], [qI x1, qA 86], qH0 M)) rfl) ?_
  refine Eq.trans (qs_iaload rfl rfl h1 h2) ?_
  exact (qlim_ret rfl)
set_option maxRecDepth 20000 in
theorem B_X12_of_81 {M : qMem} {x1 x2 : Int} (h1 : 0 ≤ x1) (h2 : x1 < 6) : qlim C_X12_of (81, [some (qA 82), some (qI x1), some (qI x2)], [], qH0 M) = some (some (qI (M 87 x1)), qH0 M) := by
  refine Eq.trans (qlim_n (n := 3) (c' := (86, [some (qA 82), some (qI x1), some (qI x2)], [qI x1, qA 87], qH0 M)) rfl) ?_
  refine Eq.trans (qs_iaload rfl rfl h1 h2) ?_
  exact (qlim_ret rfl)
set_option maxRecDepth 20000 in
theorem B_X12_of_88 {M : qMem} {x1 x2 : Int} (h1 : 0 ≤ x1) (h2 : x1 < 6) : qlim C_X12_of (88, [some (qA 82), some (qI x1), some (qI x2)], [], qH0 M) = some (some (qI (M 88 x1)), qH0 M) := by
  refine Eq.trans (qlim_n (n := 3) (c' := (93, [some (qA 82), some (qI x1), some (qI x2)], [qI x1, qA 88], qH0 M)) rfl) ?_
  refine Eq.trans (qs_iaload rfl rfl h1 h2) ?_
  exact (qlim_ret rfl)
set_option maxRecDepth 20000 in
theorem B_X12_of_95 {M : qMem} {x1 x2 : Int} : qlim C_X12_of (95, [some (qA 82), some (qI x1), some (qI x2)], [], qH0 M) = qbd (S_X12_has [qA 82, qI (M 82 2), qI x1] (qH0 M)) (fun r h' => qlim C_X12_of (104, [some (qA 82), some (qI x1), some (qI x2)], r.toList ++ [], h')) := by
  refine Eq.trans (qlim_n (n := 4) (c' := (101, [some (qA 82), some (qI x1), some (qI x2)], [qI x1, qI (M 82 2), qA 82], qH0 M)) rfl) ?_
  exact (qlim_callv (n := 2) rfl rfl rfl (Nat.le_of_ble_eq_true rfl) (Nat.le_of_ble_eq_true rfl) rfl)
set_option maxRecDepth 20000 in
theorem B_X12_of_104 {M : qMem} {x1 x2 s0 : Int} : qlim C_X12_of (104, [some (qA 82), some (qI x1), some (qI x2)], [qI s0], qH0 M) = qlim C_X12_of ((if s0 = 0 then 111 else 107), [some (qA 82), some (qI x1), some (qI x2)], [], qH0 M) := (qlim_n (n := 1) (c' := ((if s0 = 0 then 111 else 107), [some (qA 82), some (qI x1), some (qI x2)], [], qH0 M)) rfl)
set_option maxRecDepth 20000 in
theorem B_X12_of_107 {M : qMem} {x1 x2 : Int} : qlim C_X12_of (107, [some (qA 82), some (qI x1), some (qI x2)], [], qH0 M) = qlim C_X12_of (112, [some (qA 82), some (qI x1), some (qI x2)], [qI 1], qH0 M) := (qlim_n (n := 2) (c' := (112, [some (qA 82), some (qI x1), some (qI x2)], [qI 1], qH0 M)) rfl)
set_option maxRecDepth 20000 in
theorem B_X12_of_111 {M : qMem} {x1 x2 : Int} : qlim C_X12_of (111, [some (qA 82), some (qI x1), some (qI x2)], [], qH0 M) = qlim C_X12_of (112, [some (qA 82), some (qI x1), some (qI x2)], [qI 0], qH0 M) := (qlim_n (n := 1) (c' := (112, [some (qA 82), some (qI x1), some (qI x2)], [qI 0], qH0 M)) rfl)
set_option maxRecDepth 20000 in
theorem B_X12_of_112 {M : qMem} {x1 x2 s0 : Int} : qlim C_X12_of (112, [some (qA 82), some (qI x1), some (qI x2)], [qI s0], qH0 M) = some (some (qI s0), qH0 M) := (qlim_ret rfl)
set_option maxRecDepth 20000 in
theorem B_X12_of_113 {M : qMem} {x1 x2 : Int} : qlim C_X12_of (113, [some (qA 82), some (qI x1), some (qI x2)], [], qH0 M) = qbd (S_X12_zeal [qA 82, qI x1] (qH0 M)) (fun r h' => qlim C_X12_of (118, [some (qA 82), some (qI x1), some (qI x2)], r.toList ++ [], h')) := by
  refine Eq.trans (qlim_n (n := 2) (c' := (115, [some (qA 82), some (qI x1), some (qI x2)], [qI x1, qA 82], qH0 M)) rfl) ?_
  exact (qlim_callv (n := 1) rfl rfl rfl (Nat.le_of_ble_eq_true rfl) (Nat.le_of_ble_eq_true rfl) rfl)
set_option maxRecDepth 20000 in
theorem B_X12_of_118 {M : qMem} {x1 x2 s0 : Int} : qlim C_X12_of (118, [some (qA 82), some (qI x1), some (qI x2)], [qI s0], qH0 M) = some (some (qI s0), qH0 M) := (qlim_ret rfl)
set_option maxRecDepth 20000 in
theorem B_X12_of_119 {M : qMem} {x1 x2 : Int} : qlim C_X12_of (119, [some (qA 82), some (qI x1), some (qI x2)], [], qH0 M) = qbd (S_X12_pace [qA 82, qI x1] (qH0 M)) (fun r h' => qlim C_X12_of (124, [some (qA 82), some (qI x1), some (qI x2)], r.toList ++ [], h')) := by
  refine Eq.trans (qlim_n (n := 2) (c' := (121, [some (qA 82), some (qI x1), some (qI x2)], [qI x1, qA 82], qH0 M)) rfl) ?_
  exact (qlim_callv (n := 1) rfl rfl rfl (Nat.le_of_ble_eq_true rfl) (Nat.le_of_ble_eq_true rfl) rfl)
set_option maxRecDepth 20000 in
theorem B_X12_of_124 {M : qMem} {x1 x2 s0 : Int} : qlim C_X12_of (124, [some (qA 82), some (qI x1), some (qI x2)], [qI s0], qH0 M) = some (some (qI s0), qH0 M) := (qlim_ret rfl)
set_option maxRecDepth 20000 in
theorem B_X12_of_125 {M : qMem} {x1 x2 : Int} : qlim C_X12_of (125, [some (qA 82), some (qI x1), some (qI x2)], [], qH0 M) = some (some (qI (-1001)), qH0 M) := by
  refine Eq.trans (qlim_n (n := 1) (c' := (128, [some (qA 82), some (qI x1), some (qI x2)], [qI (-1001)], qH0 M)) rfl) ?_
  exact (qlim_ret rfl)
theorem E_X12_of {h : qH} {x1 x2 : Int} : S_X12_of [qA 82, qI x1, qI x2] h = qlim C_X12_of (0, [some (qA 82), some (qI x1), some (qI x2)], [], h) := qM_at (Nat.le_of_ble_eq_true rfl) rfl
set_option maxRecDepth 20000 in
theorem B_X12_told_0 {M : qMem} {x1 : Int} : qlim C_X12_told (0, [some (qA 82), some (qI x1)], [], qH0 M) = qbd (S_X12_in [qA 82, qI x1, qI 10, qI 14] (qH0 M)) (fun r h' => qlim C_X12_told (9, [some (qA 82), some (qI x1)], r.toList ++ [], h')) := by
  refine Eq.trans (qlim_n (n := 4) (c' := (6, [some (qA 82), some (qI x1)], [qI 14, qI 10, qI x1, qA 82], qH0 M)) rfl) ?_
  exact (qlim_callv (n := 3) rfl rfl rfl (Nat.le_of_ble_eq_true rfl) (Nat.le_of_ble_eq_true rfl) rfl)
set_option maxRecDepth 20000 in
theorem B_X12_told_9 {M : qMem} {x1 s0 : Int} : qlim C_X12_told (9, [some (qA 82), some (qI x1)], [qI s0], qH0 M) = qlim C_X12_told ((if s0 = 0 then 22 else 12), [some (qA 82), some (qI x1)], [], qH0 M) := (qlim_n (n := 1) (c' := ((if s0 = 0 then 22 else 12), [some (qA 82), some (qI x1)], [], qH0 M)) rfl)
set_option maxRecDepth 20000 in
theorem B_X12_told_12 {M : qMem} {x1 : Int} (h1 : 0 ≤ ksub x1 10) (h2 : ksub x1 10 < 5) : qlim C_X12_told (12, [some (qA 82), some (qI x1)], [], qH0 M) = some (some (qI (M 83 (ksub x1 10))), qH0 M) := by
  refine Eq.trans (qlim_n (n := 5) (c' := (20, [some (qA 82), some (qI x1)], [qI (ksub x1 10), qA 83], qH0 M)) rfl) ?_
  refine Eq.trans (qs_iaload rfl rfl h1 h2) ?_
  exact (qlim_ret rfl)
set_option maxRecDepth 20000 in
theorem B_X12_told_22 {M : qMem} {x1 : Int} : qlim C_X12_told (22, [some (qA 82), some (qI x1)], [], qH0 M) = qlim C_X12_told (qtk [48, 53, 58] 65 0 x1, [some (qA 82), some (qI x1)], [], qH0 M) := (qlim_n (n := 2) (c' := (qtk [48, 53, 58] 65 0 x1, [some (qA 82), some (qI x1)], [], qH0 M)) rfl)
set_option maxRecDepth 20000 in
theorem B_X12_told_48 {M : qMem} {x1 : Int} : qlim C_X12_told (48, [some (qA 82), some (qI x1)], [], qH0 M) = some (some (qI (M 82 1)), qH0 M) := by
  refine Eq.trans (qlim_n (n := 2) (c' := (52, [some (qA 82), some (qI x1)], [qI (M 82 1)], qH0 M)) rfl) ?_
  exact (qlim_ret rfl)
set_option maxRecDepth 20000 in
theorem B_X12_told_53 {M : qMem} {x1 : Int} : qlim C_X12_told (53, [some (qA 82), some (qI x1)], [], qH0 M) = qbd (S_X12_room [qA 82] (qH0 M)) (fun r h' => qlim C_X12_told (57, [some (qA 82), some (qI x1)], r.toList ++ [], h')) := by
  refine Eq.trans (qlim_n (n := 1) (c' := (54, [some (qA 82), some (qI x1)], [qA 82], qH0 M)) rfl) ?_
  exact (qlim_callv (n := 0) rfl rfl rfl (Nat.le_of_ble_eq_true rfl) (Nat.le_of_ble_eq_true rfl) rfl)
set_option maxRecDepth 20000 in
theorem B_X12_told_57 {M : qMem} {x1 s0 : Int} : qlim C_X12_told (57, [some (qA 82), some (qI x1)], [qI s0], qH0 M) = some (some (qI s0), qH0 M) := (qlim_ret rfl)
set_option maxRecDepth 20000 in
theorem B_X12_told_58 {M : qMem} {x1 : Int} : qlim C_X12_told (58, [some (qA 82), some (qI x1)], [], qH0 M) = qbd (S_X12_lastOf [qA 82, qI 3, qI 0] (qH0 M)) (fun r h' => qlim C_X12_told (64, [some (qA 82), some (qI x1)], r.toList ++ [], h')) := by
  refine Eq.trans (qlim_n (n := 3) (c' := (61, [some (qA 82), some (qI x1)], [qI 0, qI 3, qA 82], qH0 M)) rfl) ?_
  exact (qlim_callv (n := 2) rfl rfl rfl (Nat.le_of_ble_eq_true rfl) (Nat.le_of_ble_eq_true rfl) rfl)
set_option maxRecDepth 20000 in
theorem B_X12_told_64 {M : qMem} {x1 s0 : Int} : qlim C_X12_told (64, [some (qA 82), some (qI x1)], [qI s0], qH0 M) = some (some (qI s0), qH0 M) := (qlim_ret rfl)
set_option maxRecDepth 20000 in
theorem B_X12_told_65 {M : qMem} {x1 : Int} : qlim C_X12_told (65, [some (qA 82), some (qI x1)], [], qH0 M) = some (some (qI (-1)), qH0 M) := by
  refine Eq.trans (qlim_n (n := 1) (c' := (66, [some (qA 82), some (qI x1)], [qI (-1)], qH0 M)) rfl) ?_
  exact (qlim_ret rfl)
theorem E_X12_told {h : qH} {x1 : Int} : S_X12_told [qA 82, qI x1] h = qlim C_X12_told (0, [some (qA 82), some (qI x1)], [], h) := qM_at (Nat.le_of_ble_eq_true rfl) rfl
set_option maxRecDepth 20000 in
theorem B_X12_goPerson_0 {M : qMem} {x1 : Int} (h1 : 0 ≤ x1) (h2 : x1 < 6) : qlim C_X12_goPerson (0, [some (qA 82), some (qI x1), none, none, none], [], qH0 M) = qlim C_X12_goPerson ((if ¬ M 86 x1 = 3 then 25 else 12), [some (qA 82), some (qI x1), some (qI (M 86 x1)), none, none], [], qH0 M) := by
  refine Eq.trans (qlim_n (n := 3) (c' := (5, [some (qA 82), some (qI x1), none, none, none], [qI x1, qA 86], qH0 M)) rfl) ?_
  refine Eq.trans (qs_iaload rfl rfl h1 h2) ?_
  exact (qlim_n (n := 4) (c' := ((if ¬ M 86 x1 = 3 then 25 else 12), [some (qA 82), some (qI x1), some (qI (M 86 x1)), none, none], [], qH0 M)) rfl)
set_option maxRecDepth 20000 in
theorem B_X12_goPerson_12 {M : qMem} {x1 x2 : Int} : qlim C_X12_goPerson (12, [some (qA 82), some (qI x1), some (qI x2), none, none], [], qH0 M) = qlim C_X12_goPerson (38, [some (qA 82), some (qI x1), some (qI x2), none, none], [qI (ksub 9999 (M 83 4))], qH0 M) := (qlim_n (n := 7) (c' := (38, [some (qA 82), some (qI x1), some (qI x2), none, none], [qI (ksub 9999 (M 83 4))], qH0 M)) rfl)
set_option maxRecDepth 20000 in
theorem B_X12_goPerson_25 {M : qMem} {x1 x2 : Int} : qlim C_X12_goPerson (25, [some (qA 82), some (qI x1), some (qI x2), none, none], [], qH0 M) = qbd (S_X12_room [qA 82] (qH0 M)) (fun r h' => qlim C_X12_goPerson (29, [some (qA 82), some (qI x1), some (qI x2), none, none], r.toList ++ [], h')) := by
  refine Eq.trans (qlim_n (n := 1) (c' := (26, [some (qA 82), some (qI x1), some (qI x2), none, none], [qA 82], qH0 M)) rfl) ?_
  exact (qlim_callv (n := 0) rfl rfl rfl (Nat.le_of_ble_eq_true rfl) (Nat.le_of_ble_eq_true rfl) rfl)
set_option maxRecDepth 20000 in
theorem B_X12_goPerson_29 {M : qMem} {x1 x2 s0 : Int} (h1 : 0 ≤ kadd x2 1) (h2 : kadd x2 1 < 5) : qlim C_X12_goPerson (29, [some (qA 82), some (qI x1), some (qI x2), none, none], [qI s0], qH0 M) = qlim C_X12_goPerson (38, [some (qA 82), some (qI x1), some (qI x2), none, none], [qI (ksub s0 (M 83 (kadd x2 1)))], qH0 M) := by
  refine Eq.trans (qlim_n (n := 5) (c' := (36, [some (qA 82), some (qI x1), some (qI x2), none, none], [qI (kadd x2 1), qA 83, qI s0], qH0 M)) rfl) ?_
  refine Eq.trans (qs_iaload rfl rfl h1 h2) ?_
  exact (qlim_n (n := 1) (c' := (38, [some (qA 82), some (qI x1), some (qI x2), none, none], [qI (ksub s0 (M 83 (kadd x2 1)))], qH0 M)) rfl)
set_option maxRecDepth 20000 in
theorem B_X12_goPerson_38 {M : qMem} {x1 x2 s0 : Int} : qlim C_X12_goPerson (38, [some (qA 82), some (qI x1), some (qI x2), none, none], [qI s0], qH0 M) = qbd (S_X12_pace [qA 82, qI x1] (qH0 M)) (fun r h' => qlim C_X12_goPerson (46, [some (qA 82), some (qI x1), some (qI x2), some (qI s0), none], r.toList ++ [qA 82, qA 82], h')) := by
  refine Eq.trans (qlim_n (n := 5) (c' := (43, [some (qA 82), some (qI x1), some (qI x2), some (qI s0), none], [qI x1, qA 82, qA 82, qA 82], qH0 M)) rfl) ?_
  exact (qlim_callv (n := 1) rfl rfl rfl (Nat.le_of_ble_eq_true rfl) (Nat.le_of_ble_eq_true rfl) rfl)
set_option maxRecDepth 20000 in
theorem B_X12_goPerson_46 {M : qMem} {x1 x2 x3 s2 : Int} (h1 : 0 ≤ x2) (h2 : x2 < 5) : qlim C_X12_goPerson (46, [some (qA 82), some (qI x1), some (qI x2), some (qI x3), none], [qI s2, qA 82, qA 82], qH0 M) = qbd (S_X12_least [qA 82, qI s2, qI (M 83 x2)] (qH0 M)) (fun r h' => qlim C_X12_goPerson (55, [some (qA 82), some (qI x1), some (qI x2), some (qI x3), none], r.toList ++ [qA 82], h')) := by
  refine Eq.trans (qlim_n (n := 3) (c' := (51, [some (qA 82), some (qI x1), some (qI x2), some (qI x3), none], [qI x2, qA 83, qI s2, qA 82, qA 82], qH0 M)) rfl) ?_
  refine Eq.trans (qs_iaload rfl rfl h1 h2) ?_
  exact (qlim_callv (n := 2) rfl rfl rfl (Nat.le_of_ble_eq_true rfl) (Nat.le_of_ble_eq_true rfl) rfl)
set_option maxRecDepth 20000 in
theorem B_X12_goPerson_55 {M : qMem} {x1 x2 x3 s1 : Int} : qlim C_X12_goPerson (55, [some (qA 82), some (qI x1), some (qI x2), some (qI x3), none], [qI s1, qA 82], qH0 M) = qlim C_X12_goPerson ((if 0 ≤ x3 then 63 else 59), [some (qA 82), some (qI x1), some (qI x2), some (qI x3), none], [qI s1, qA 82], qH0 M) := (qlim_n (n := 2) (c' := ((if 0 ≤ x3 then 63 else 59), [some (qA 82), some (qI x1), some (qI x2), some (qI x3), none], [qI s1, qA 82], qH0 M)) rfl)
set_option maxRecDepth 20000 in
theorem B_X12_goPerson_59 {M : qMem} {x1 x2 x3 s1 : Int} : qlim C_X12_goPerson (59, [some (qA 82), some (qI x1), some (qI x2), some (qI x3), none], [qI s1, qA 82], qH0 M) = qlim C_X12_goPerson (64, [some (qA 82), some (qI x1), some (qI x2), some (qI x3), none], [qI 0, qI s1, qA 82], qH0 M) := (qlim_n (n := 2) (c' := (64, [some (qA 82), some (qI x1), some (qI x2), some (qI x3), none], [qI 0, qI s1, qA 82], qH0 M)) rfl)
set_option maxRecDepth 20000 in
theorem B_X12_goPerson_63 {M : qMem} {x1 x2 x3 s1 : Int} : qlim C_X12_goPerson (63, [some (qA 82), some (qI x1), some (qI x2), some (qI x3), none], [qI s1, qA 82], qH0 M) = qlim C_X12_goPerson (64, [some (qA 82), some (qI x1), some (qI x2), some (qI x3), none], [qI x3, qI s1, qA 82], qH0 M) := (qlim_n (n := 1) (c' := (64, [some (qA 82), some (qI x1), some (qI x2), some (qI x3), none], [qI x3, qI s1, qA 82], qH0 M)) rfl)
set_option maxRecDepth 20000 in
theorem B_X12_goPerson_64 {M : qMem} {x1 x2 x3 s1 s2 : Int} : qlim C_X12_goPerson (64, [some (qA 82), some (qI x1), some (qI x2), some (qI x3), none], [qI s2, qI s1, qA 82], qH0 M) = qbd (S_X12_least [qA 82, qI s1, qI s2] (qH0 M)) (fun r h' => qlim C_X12_goPerson (67, [some (qA 82), some (qI x1), some (qI x2), some (qI x3), none], r.toList ++ [], h')) := (qlim_callv (n := 2) rfl rfl rfl (Nat.le_of_ble_eq_true rfl) (Nat.le_of_ble_eq_true rfl) rfl)
set_option maxRecDepth 20000 in
theorem B_X12_goPerson_67 {M : qMem} {x1 x2 x3 s0 : Int} (h1 : 0 ≤ x2) (h2 : x2 < 5) (h3 : 0 ≤ kadd x2 1) (h4 : kadd x2 1 < 5) (h5 : 0 ≤ x1) (h6 : x1 < 6) : qlim C_X12_goPerson (67, [some (qA 82), some (qI x1), some (qI x2), some (qI x3), none], [qI s0], qH0 M) = qbd (S_X12_least [qA 82, qI (kadd ((qup (qup M 83 x2 (ksub (M 83 x2) s0)) 83 (kadd x2 1) (kadd ((qup M 83 x2 (ksub (M 83 x2) s0)) 83 (kadd x2 1)) s0)) 87 x1) s0), qI ((qup (qup M 83 x2 (ksub (M 83 x2) s0)) 83 (kadd x2 1) (kadd ((qup M 83 x2 (ksub (M 83 x2) s0)) 83 (kadd x2 1)) s0)) 82 29)] (qH0 (qup (qup M 83 x2 (ksub (M 83 x2) s0)) 83 (kadd x2 1) (kadd ((qup M 83 x2 (ksub (M 83 x2) s0)) 83 (kadd x2 1)) s0)))) (fun r h' => qlim C_X12_goPerson (115, [some (qA 82), some (qI x1), some (qI x2), some (qI x3), some (qI s0)], r.toList ++ [qI x1, qA 87], h')) := by
  refine Eq.trans (qlim_n (n := 5) (c' := (75, [some (qA 82), some (qI x1), some (qI x2), some (qI x3), some (qI s0)], [qI x2, qA 83, qI x2, qA 83], qH0 M)) rfl) ?_
  refine Eq.trans (qs_iaload rfl rfl h1 h2) ?_
  refine Eq.trans (qlim_n (n := 2) (c' := (79, [some (qA 82), some (qI x1), some (qI x2), some (qI x3), some (qI s0)], [qI (ksub (M 83 x2) s0), qI x2, qA 83], qH0 M)) rfl) ?_
  refine Eq.trans (qs_iastore rfl rfl h1 h2) ?_
  refine Eq.trans (qlim_n (n := 6) (c' := (88, [some (qA 82), some (qI x1), some (qI x2), some (qI x3), some (qI s0)], [qI (kadd x2 1), qA 83, qI (kadd x2 1), qA 83], qH0 (qup M 83 x2 (ksub (M 83 x2) s0)))) rfl) ?_
  refine Eq.trans (qs_iaload rfl rfl h3 h4) ?_
  refine Eq.trans (qlim_n (n := 2) (c' := (92, [some (qA 82), some (qI x1), some (qI x2), some (qI x3), some (qI s0)], [qI (kadd ((qup M 83 x2 (ksub (M 83 x2) s0)) 83 (kadd x2 1)) s0), qI (kadd x2 1), qA 83], qH0 (qup M 83 x2 (ksub (M 83 x2) s0)))) rfl) ?_
  refine Eq.trans (qs_iastore rfl rfl h3 h4) ?_
  refine Eq.trans (qlim_n (n := 7) (c' := (104, [some (qA 82), some (qI x1), some (qI x2), some (qI x3), some (qI s0)], [qI x1, qA 87, qA 82, qI x1, qA 87], qH0 (qup (qup M 83 x2 (ksub (M 83 x2) s0)) 83 (kadd x2 1) (kadd ((qup M 83 x2 (ksub (M 83 x2) s0)) 83 (kadd x2 1)) s0)))) rfl) ?_
  refine Eq.trans (qs_iaload rfl rfl h5 h6) ?_
  refine Eq.trans (qlim_n (n := 4) (c' := (112, [some (qA 82), some (qI x1), some (qI x2), some (qI x3), some (qI s0)], [qI ((qup (qup M 83 x2 (ksub (M 83 x2) s0)) 83 (kadd x2 1) (kadd ((qup M 83 x2 (ksub (M 83 x2) s0)) 83 (kadd x2 1)) s0)) 82 29), qI (kadd ((qup (qup M 83 x2 (ksub (M 83 x2) s0)) 83 (kadd x2 1) (kadd ((qup M 83 x2 (ksub (M 83 x2) s0)) 83 (kadd x2 1)) s0)) 87 x1) s0), qA 82, qI x1, qA 87], qH0 (qup (qup M 83 x2 (ksub (M 83 x2) s0)) 83 (kadd x2 1) (kadd ((qup M 83 x2 (ksub (M 83 x2) s0)) 83 (kadd x2 1)) s0)))) rfl) ?_
  exact (qlim_callv (n := 2) rfl rfl rfl (Nat.le_of_ble_eq_true rfl) (Nat.le_of_ble_eq_true rfl) rfl)
set_option maxRecDepth 20000 in
theorem B_X12_goPerson_115 {M : qMem} {x1 x2 x3 x4 s1 s2 : Int} (h1 : 0 ≤ s1) (h2 : s1 < 6) : qlim C_X12_goPerson (115, [some (qA 82), some (qI x1), some (qI x2), some (qI x3), some (qI x4)], [qI s2, qI s1, qA 87], qH0 M) = qlim C_X12_goPerson ((if ¬ x4 = 0 then 143 else 121), [some (qA 82), some (qI x1), some (qI x2), some (qI x3), some (qI x4)], [], qH0 (qup M 87 s1 s2)) := by
  refine Eq.trans (qs_iastore rfl rfl h1 h2) ?_
  exact (qlim_n (n := 2) (c' := ((if ¬ x4 = 0 then 143 else 121), [some (qA 82), some (qI x1), some (qI x2), some (qI x3), some (qI x4)], [], qH0 (qup M 87 s1 s2))) rfl)
set_option maxRecDepth 20000 in
theorem B_X12_goPerson_121 {M : qMem} {x1 x2 x3 x4 : Int} (h1 : 0 ≤ x1) (h2 : x1 < 6) : qlim C_X12_goPerson (121, [some (qA 82), some (qI x1), some (qI x2), some (qI x3), some (qI x4)], [], qH0 M) = qbd (S_X12_least [qA 82, qI (kadd (M 88 x1) 1), qI (M 82 30)] (qH0 M)) (fun r h' => qlim C_X12_goPerson (142, [some (qA 82), some (qI x1), some (qI x2), some (qI x3), some (qI x4)], r.toList ++ [qI x1, qA 88], h')) := by
  refine Eq.trans (qlim_n (n := 7) (c' := (132, [some (qA 82), some (qI x1), some (qI x2), some (qI x3), some (qI x4)], [qI x1, qA 88, qA 82, qI x1, qA 88], qH0 M)) rfl) ?_
  refine Eq.trans (qs_iaload rfl rfl h1 h2) ?_
  refine Eq.trans (qlim_n (n := 4) (c' := (139, [some (qA 82), some (qI x1), some (qI x2), some (qI x3), some (qI x4)], [qI (M 82 30), qI (kadd (M 88 x1) 1), qA 82, qI x1, qA 88], qH0 M)) rfl) ?_
  exact (qlim_callv (n := 2) rfl rfl rfl (Nat.le_of_ble_eq_true rfl) (Nat.le_of_ble_eq_true rfl) rfl)
set_option maxRecDepth 20000 in
theorem B_X12_goPerson_142 {M : qMem} {x1 x2 x3 x4 s1 s2 : Int} (h1 : 0 ≤ s1) (h2 : s1 < 6) : qlim C_X12_goPerson (142, [some (qA 82), some (qI x1), some (qI x2), some (qI x3), some (qI x4)], [qI s2, qI s1, qA 88], qH0 M) = qlim C_X12_goPerson (143, [some (qA 82), some (qI x1), some (qI x2), some (qI x3), some (qI x4)], [], qH0 (qup M 88 s1 s2)) := (qs_iastore rfl rfl h1 h2)
set_option maxRecDepth 20000 in
theorem B_X12_goPerson_143 {M : qMem} {x1 x2 x3 x4 : Int} : qlim C_X12_goPerson (143, [some (qA 82), some (qI x1), some (qI x2), some (qI x3), some (qI x4)], [], qH0 M) = some (none, qH0 M) := (qlim_ret rfl)
theorem E_X12_goPerson {h : qH} {x1 : Int} : S_X12_goPerson [qA 82, qI x1] h = qlim C_X12_goPerson (0, [some (qA 82), some (qI x1), none, none, none], [], h) := qM_at (Nat.le_of_ble_eq_true rfl) rfl
set_option maxRecDepth 20000 in
theorem B_X12_goMinute_0 {M : qMem} : qlim C_X12_goMinute (0, [some (qA 82), none], [], qH0 M) = qlim C_X12_goMinute (2, [some (qA 82), some (qI 0)], [], qH0 M) := (qlim_n (n := 2) (c' := (2, [some (qA 82), some (qI 0)], [], qH0 M)) rfl)
set_option maxRecDepth 20000 in
theorem B_X12_goMinute_2 {M : qMem} {x1 : Int} : qlim C_X12_goMinute (2, [some (qA 82), some (qI x1)], [], qH0 M) = qlim C_X12_goMinute ((if M 82 0 ≤ x1 then 33 else 10), [some (qA 82), some (qI x1)], [], qH0 M) := (qlim_n (n := 4) (c' := ((if M 82 0 ≤ x1 then 33 else 10), [some (qA 82), some (qI x1)], [], qH0 M)) rfl)
set_option maxRecDepth 20000 in
theorem B_X12_goMinute_10 {M : qMem} {x1 : Int} : qlim C_X12_goMinute (10, [some (qA 82), some (qI x1)], [], qH0 M) = qbd (S_X12_has [qA 82, qI (M 82 2), qI x1] (qH0 M)) (fun r h' => qlim C_X12_goMinute (19, [some (qA 82), some (qI x1)], r.toList ++ [], h')) := by
  refine Eq.trans (qlim_n (n := 4) (c' := (16, [some (qA 82), some (qI x1)], [qI x1, qI (M 82 2), qA 82], qH0 M)) rfl) ?_
  exact (qlim_callv (n := 2) rfl rfl rfl (Nat.le_of_ble_eq_true rfl) (Nat.le_of_ble_eq_true rfl) rfl)
set_option maxRecDepth 20000 in
theorem B_X12_goMinute_19 {M : qMem} {x1 s0 : Int} : qlim C_X12_goMinute (19, [some (qA 82), some (qI x1)], [qI s0], qH0 M) = qlim C_X12_goMinute ((if ¬ s0 = 0 then 27 else 22), [some (qA 82), some (qI x1)], [], qH0 M) := (qlim_n (n := 1) (c' := ((if ¬ s0 = 0 then 27 else 22), [some (qA 82), some (qI x1)], [], qH0 M)) rfl)
set_option maxRecDepth 20000 in
theorem B_X12_goMinute_22 {M : qMem} {x1 : Int} : qlim C_X12_goMinute (22, [some (qA 82), some (qI x1)], [], qH0 M) = qbd (S_X12_goPerson [qA 82, qI x1] (qH0 M)) (fun r h' => qlim C_X12_goMinute (27, [some (qA 82), some (qI x1)], r.toList ++ [], h')) := by
  refine Eq.trans (qlim_n (n := 2) (c' := (24, [some (qA 82), some (qI x1)], [qI x1, qA 82], qH0 M)) rfl) ?_
  exact (qlim_callv (n := 1) rfl rfl rfl (Nat.le_of_ble_eq_true rfl) (Nat.le_of_ble_eq_true rfl) rfl)
set_option maxRecDepth 20000 in
theorem B_X12_goMinute_27 {M : qMem} {x1 : Int} : qlim C_X12_goMinute (27, [some (qA 82), some (qI x1)], [], qH0 M) = qlim C_X12_goMinute (2, [some (qA 82), some (qI (kadd x1 1))], [], qH0 M) := (qlim_n (n := 2) (c' := (2, [some (qA 82), some (qI (kadd x1 1))], [], qH0 M)) rfl)
set_option maxRecDepth 20000 in
theorem B_X12_goMinute_33 {M : qMem} {x1 : Int} : qlim C_X12_goMinute (33, [some (qA 82), some (qI x1)], [], qH0 M) = qbd (S_X12_lastOf [qA 82, qI 3, qI 0] (qH0 M)) (fun r h' => qlim C_X12_goMinute (51, [some (qA 82), some (qI x1)], r.toList ++ [qI (M 83 0), qA 82, qI 0, qA 83], h')) := by
  refine Eq.trans (qlim_n (n := 11) (c' := (48, [some (qA 82), some (qI x1)], [qI 0, qI 3, qA 82, qI (M 83 0), qA 82, qI 0, qA 83], qH0 M)) rfl) ?_
  exact (qlim_callv (n := 2) rfl rfl rfl (Nat.le_of_ble_eq_true rfl) (Nat.le_of_ble_eq_true rfl) rfl)
set_option maxRecDepth 20000 in
theorem B_X12_goMinute_51 {M : qMem} {x1 s1 s3 s4 : Int} : qlim C_X12_goMinute (51, [some (qA 82), some (qI x1)], [qI s4, qI s3, qA 82, qI s1, qA 83], qH0 M) = qbd (S_X12_least [qA 82, qI (kadd s3 s4), qI 9999] (qH0 M)) (fun r h' => qlim C_X12_goMinute (58, [some (qA 82), some (qI x1)], r.toList ++ [qI s1, qA 83], h')) := by
  refine Eq.trans (qlim_n (n := 2) (c' := (55, [some (qA 82), some (qI x1)], [qI 9999, qI (kadd s3 s4), qA 82, qI s1, qA 83], qH0 M)) rfl) ?_
  exact (qlim_callv (n := 2) rfl rfl rfl (Nat.le_of_ble_eq_true rfl) (Nat.le_of_ble_eq_true rfl) rfl)
set_option maxRecDepth 20000 in
theorem B_X12_goMinute_58 {M : qMem} {x1 s1 s2 : Int} (h1 : 0 ≤ s1) (h2 : s1 < 5) : qlim C_X12_goMinute (58, [some (qA 82), some (qI x1)], [qI s2, qI s1, qA 83], qH0 M) = some (none, qH0 (qup (qup M 83 s1 s2) 82 1 (kadd ((qup M 83 s1 s2) 82 1) 1))) := by
  refine Eq.trans (qs_iastore rfl rfl h1 h2) ?_
  refine Eq.trans (qlim_n (n := 6) (c' := (69, [some (qA 82), some (qI x1)], [], qH0 (qup (qup M 83 s1 s2) 82 1 (kadd ((qup M 83 s1 s2) 82 1) 1)))) rfl) ?_
  exact (qlim_ret rfl)
theorem E_X12_goMinute {h : qH} : S_X12_goMinute [qA 82] h = qlim C_X12_goMinute (0, [some (qA 82), none], [], h) := qM_at (Nat.le_of_ble_eq_true rfl) rfl
set_option maxRecDepth 20000 in
theorem B_X12_goMinutes_0 {M : qMem} {x1 : Int} : qlim C_X12_goMinutes (0, [some (qA 82), some (qI x1), none], [], qH0 M) = qlim C_X12_goMinutes (2, [some (qA 82), some (qI x1), some (qI 0)], [], qH0 M) := (qlim_n (n := 2) (c' := (2, [some (qA 82), some (qI x1), some (qI 0)], [], qH0 M)) rfl)
set_option maxRecDepth 20000 in
theorem B_X12_goMinutes_2 {M : qMem} {x1 x2 : Int} : qlim C_X12_goMinutes (2, [some (qA 82), some (qI x1), some (qI x2)], [], qH0 M) = qlim C_X12_goMinutes ((if x1 ≤ x2 then 17 else 7), [some (qA 82), some (qI x1), some (qI x2)], [], qH0 M) := (qlim_n (n := 3) (c' := ((if x1 ≤ x2 then 17 else 7), [some (qA 82), some (qI x1), some (qI x2)], [], qH0 M)) rfl)
set_option maxRecDepth 20000 in
theorem B_X12_goMinutes_7 {M : qMem} {x1 x2 : Int} : qlim C_X12_goMinutes (7, [some (qA 82), some (qI x1), some (qI x2)], [], qH0 M) = qbd (S_X12_goMinute [qA 82] (qH0 M)) (fun r h' => qlim C_X12_goMinutes (11, [some (qA 82), some (qI x1), some (qI x2)], r.toList ++ [], h')) := by
  refine Eq.trans (qlim_n (n := 1) (c' := (8, [some (qA 82), some (qI x1), some (qI x2)], [qA 82], qH0 M)) rfl) ?_
  exact (qlim_callv (n := 0) rfl rfl rfl (Nat.le_of_ble_eq_true rfl) (Nat.le_of_ble_eq_true rfl) rfl)
set_option maxRecDepth 20000 in
theorem B_X12_goMinutes_11 {M : qMem} {x1 x2 : Int} : qlim C_X12_goMinutes (11, [some (qA 82), some (qI x1), some (qI x2)], [], qH0 M) = qlim C_X12_goMinutes (2, [some (qA 82), some (qI x1), some (qI (kadd x2 1))], [], qH0 M) := (qlim_n (n := 2) (c' := (2, [some (qA 82), some (qI x1), some (qI (kadd x2 1))], [], qH0 M)) rfl)
set_option maxRecDepth 20000 in
theorem B_X12_goMinutes_17 {M : qMem} {x1 x2 : Int} : qlim C_X12_goMinutes (17, [some (qA 82), some (qI x1), some (qI x2)], [], qH0 M) = some (none, qH0 M) := (qlim_ret rfl)
theorem E_X12_goMinutes {h : qH} {x1 : Int} : S_X12_goMinutes [qA 82, qI x1] h = qlim C_X12_goMinutes (0, [some (qA 82), some (qI x1), none], [], h) := qM_at (Nat.le_of_ble_eq_true rfl) rfl
set_option maxRecDepth 20000 in
theorem B_X12_pass_0 {M : qMem} {x1 : Int} : qlim C_X12_pass (0, [some (qA 82), some (qI x1)], [], qH0 M) = qbd (S_X12_isMinutes [qA 82, qI x1] (qH0 M)) (fun r h' => qlim C_X12_pass (5, [some (qA 82), some (qI x1)], r.toList ++ [], h')) := by
  refine Eq.trans (qlim_n (n := 2) (c' := (2, [some (qA 82), some (qI x1)], [qI x1, qA 82], qH0 M)) rfl) ?_
  exact (qlim_callv (n := 1) rfl rfl rfl (Nat.le_of_ble_eq_true rfl) (Nat.le_of_ble_eq_true rfl) rfl)
set_option maxRecDepth 20000 in
theorem B_X12_pass_5 {M : qMem} {x1 s0 : Int} : qlim C_X12_pass (5, [some (qA 82), some (qI x1)], [qI s0], qH0 M) = qlim C_X12_pass ((if ¬ s0 = 0 then 11 else 8), [some (qA 82), some (qI x1)], [], qH0 M) := (qlim_n (n := 1) (c' := ((if ¬ s0 = 0 then 11 else 8), [some (qA 82), some (qI x1)], [], qH0 M)) rfl)
set_option maxRecDepth 20000 in
theorem B_X12_pass_8 {M : qMem} {x1 : Int} : qlim C_X12_pass (8, [some (qA 82), some (qI x1)], [], qH0 M) = some (some (qI (-2)), qH0 M) := by
  refine Eq.trans (qlim_n (n := 1) (c' := (10, [some (qA 82), some (qI x1)], [qI (-2)], qH0 M)) rfl) ?_
  exact (qlim_ret rfl)
set_option maxRecDepth 20000 in
theorem B_X12_pass_11 {M : qMem} {x1 : Int} : qlim C_X12_pass (11, [some (qA 82), some (qI x1)], [], qH0 M) = qlim C_X12_pass ((if kadd (M 82 1) x1 ≤ 9999 then 26 else 23), [some (qA 82), some (qI x1)], [], qH0 M) := (qlim_n (n := 6) (c' := ((if kadd (M 82 1) x1 ≤ 9999 then 26 else 23), [some (qA 82), some (qI x1)], [], qH0 M)) rfl)
set_option maxRecDepth 20000 in
theorem B_X12_pass_23 {M : qMem} {x1 : Int} : qlim C_X12_pass (23, [some (qA 82), some (qI x1)], [], qH0 M) = some (some (qI (-3)), qH0 M) := by
  refine Eq.trans (qlim_n (n := 1) (c' := (25, [some (qA 82), some (qI x1)], [qI (-3)], qH0 M)) rfl) ?_
  exact (qlim_ret rfl)
set_option maxRecDepth 20000 in
theorem B_X12_pass_26 {M : qMem} {x1 : Int} : qlim C_X12_pass (26, [some (qA 82), some (qI x1)], [], qH0 M) = qbd (S_X12_goMinutes [qA 82, qI x1] (qH0 M)) (fun r h' => qlim C_X12_pass (31, [some (qA 82), some (qI x1)], r.toList ++ [], h')) := by
  refine Eq.trans (qlim_n (n := 2) (c' := (28, [some (qA 82), some (qI x1)], [qI x1, qA 82], qH0 M)) rfl) ?_
  exact (qlim_callv (n := 1) rfl rfl rfl (Nat.le_of_ble_eq_true rfl) (Nat.le_of_ble_eq_true rfl) rfl)
set_option maxRecDepth 20000 in
theorem B_X12_pass_31 {M : qMem} {x1 : Int} : qlim C_X12_pass (31, [some (qA 82), some (qI x1)], [], qH0 M) = some (some (qI (M 83 4)), qH0 M) := by
  refine Eq.trans (qlim_n (n := 4) (c' := (37, [some (qA 82), some (qI x1)], [qI (M 83 4)], qH0 M)) rfl) ?_
  exact (qlim_ret rfl)
theorem E_X12_pass {h : qH} {x1 : Int} : S_X12_pass [qA 82, qI x1] h = qlim C_X12_pass (0, [some (qA 82), some (qI x1)], [], h) := qM_at (Nat.le_of_ble_eq_true rfl) rfl
set_option maxRecDepth 20000 in
theorem B_X12_save_0 {M : qMem} : qlim C_X12_save (0, [some (qA 82), none], [], qH0 M) = qlim C_X12_save (32, [some (qA 82), some (qI 0)], [], qH0 (qup (qup (qup (qup M 82 29 2000000000) 82 30 2000000000) 82 31 ((qup (qup M 82 29 2000000000) 82 30 2000000000) 82 1)) 82 32 ((qup (qup (qup M 82 29 2000000000) 82 30 2000000000) 82 31 ((qup (qup M 82 29 2000000000) 82 30 2000000000) 82 1)) 82 2))) := (qlim_n (n := 16) (c' := (32, [some (qA 82), some (qI 0)], [], qH0 (qup (qup (qup (qup M 82 29 2000000000) 82 30 2000000000) 82 31 ((qup (qup M 82 29 2000000000) 82 30 2000000000) 82 1)) 82 32 ((qup (qup (qup M 82 29 2000000000) 82 30 2000000000) 82 31 ((qup (qup M 82 29 2000000000) 82 30 2000000000) 82 1)) 82 2)))) rfl)
set_option maxRecDepth 20000 in
theorem B_X12_save_32 {M : qMem} {x1 : Int} : qlim C_X12_save (32, [some (qA 82), some (qI x1)], [], qH0 M) = qlim C_X12_save ((if 5 ≤ x1 then 55 else 37), [some (qA 82), some (qI x1)], [], qH0 M) := (qlim_n (n := 3) (c' := ((if 5 ≤ x1 then 55 else 37), [some (qA 82), some (qI x1)], [], qH0 M)) rfl)
set_option maxRecDepth 20000 in
theorem B_X12_save_37 {M : qMem} {x1 : Int} (h1 : 0 ≤ x1) (h2 : x1 < 5) : qlim C_X12_save (37, [some (qA 82), some (qI x1)], [], qH0 M) = qlim C_X12_save (32, [some (qA 82), some (qI (kadd x1 1))], [], qH0 (qup M 100 x1 (M 83 x1))) := by
  refine Eq.trans (qlim_n (n := 6) (c' := (47, [some (qA 82), some (qI x1)], [qI x1, qA 83, qI x1, qA 100], qH0 M)) rfl) ?_
  refine Eq.trans (qs_iaload rfl rfl h1 h2) ?_
  refine Eq.trans (qs_iastore rfl rfl h1 h2) ?_
  exact (qlim_n (n := 2) (c' := (32, [some (qA 82), some (qI (kadd x1 1))], [], qH0 (qup M 100 x1 (M 83 x1)))) rfl)
set_option maxRecDepth 20000 in
theorem B_X12_save_55 {M : qMem} {x1 : Int} : qlim C_X12_save (55, [some (qA 82), some (qI x1)], [], qH0 M) = qlim C_X12_save (57, [some (qA 82), some (qI 0)], [], qH0 M) := (qlim_n (n := 2) (c' := (57, [some (qA 82), some (qI 0)], [], qH0 M)) rfl)
set_option maxRecDepth 20000 in
theorem B_X12_save_57 {M : qMem} {x1 : Int} : qlim C_X12_save (57, [some (qA 82), some (qI x1)], [], qH0 M) = qlim C_X12_save ((if 6 ≤ x1 then 105 else 63), [some (qA 82), some (qI x1)], [], qH0 M) := (qlim_n (n := 3) (c' := ((if 6 ≤ x1 then 105 else 63), [some (qA 82), some (qI x1)], [], qH0 M)) rfl)
set_option maxRecDepth 20000 in
theorem B_X12_save_63 {M : qMem} {x1 : Int} (h1 : 0 ≤ x1) (h2 : x1 < 6) : qlim C_X12_save (63, [some (qA 82), some (qI x1)], [], qH0 M) = qlim C_X12_save (57, [some (qA 82), some (qI (kadd x1 1))], [], qH0 (qup (qup (qup M 101 x1 (M 86 x1)) 102 x1 ((qup M 101 x1 (M 86 x1)) 87 x1)) 103 x1 ((qup (qup M 101 x1 (M 86 x1)) 102 x1 ((qup M 101 x1 (M 86 x1)) 87 x1)) 88 x1))) := by
  refine Eq.trans (qlim_n (n := 6) (c' := (73, [some (qA 82), some (qI x1)], [qI x1, qA 86, qI x1, qA 101], qH0 M)) rfl) ?_
  refine Eq.trans (qs_iaload rfl rfl h1 h2) ?_
  refine Eq.trans (qs_iastore rfl rfl h1 h2) ?_
  refine Eq.trans (qlim_n (n := 6) (c' := (85, [some (qA 82), some (qI x1)], [qI x1, qA 87, qI x1, qA 102], qH0 (qup M 101 x1 (M 86 x1)))) rfl) ?_
  refine Eq.trans (qs_iaload rfl rfl h1 h2) ?_
  refine Eq.trans (qs_iastore rfl rfl h1 h2) ?_
  refine Eq.trans (qlim_n (n := 6) (c' := (97, [some (qA 82), some (qI x1)], [qI x1, qA 88, qI x1, qA 103], qH0 (qup (qup M 101 x1 (M 86 x1)) 102 x1 ((qup M 101 x1 (M 86 x1)) 87 x1)))) rfl) ?_
  refine Eq.trans (qs_iaload rfl rfl h1 h2) ?_
  refine Eq.trans (qs_iastore rfl rfl h1 h2) ?_
  exact (qlim_n (n := 2) (c' := (57, [some (qA 82), some (qI (kadd x1 1))], [], qH0 (qup (qup (qup M 101 x1 (M 86 x1)) 102 x1 ((qup M 101 x1 (M 86 x1)) 87 x1)) 103 x1 ((qup (qup M 101 x1 (M 86 x1)) 102 x1 ((qup M 101 x1 (M 86 x1)) 87 x1)) 88 x1)))) rfl)
set_option maxRecDepth 20000 in
theorem B_X12_save_105 {M : qMem} {x1 : Int} : qlim C_X12_save (105, [some (qA 82), some (qI x1)], [], qH0 M) = some (none, qH0 M) := (qlim_ret rfl)
theorem E_X12_save {h : qH} : S_X12_save [qA 82] h = qlim C_X12_save (0, [some (qA 82), none], [], h) := qM_at (Nat.le_of_ble_eq_true rfl) rfl
set_option maxRecDepth 20000 in
theorem B_X12_putBack_0 {M : qMem} : qlim C_X12_putBack (0, [some (qA 82), none], [], qH0 M) = qlim C_X12_putBack (36, [some (qA 82), some (qI 0)], [], qH0 (qup (qup (qup (qup (qup M 82 29 99999) 82 30 9999) 82 27 (-1)) 82 1 ((qup (qup (qup M 82 29 99999) 82 30 9999) 82 27 (-1)) 82 31)) 82 2 ((qup (qup (qup (qup M 82 29 99999) 82 30 9999) 82 27 (-1)) 82 1 ((qup (qup (qup M 82 29 99999) 82 30 9999) 82 27 (-1)) 82 31)) 82 32))) := (qlim_n (n := 19) (c' := (36, [some (qA 82), some (qI 0)], [], qH0 (qup (qup (qup (qup (qup M 82 29 99999) 82 30 9999) 82 27 (-1)) 82 1 ((qup (qup (qup M 82 29 99999) 82 30 9999) 82 27 (-1)) 82 31)) 82 2 ((qup (qup (qup (qup M 82 29 99999) 82 30 9999) 82 27 (-1)) 82 1 ((qup (qup (qup M 82 29 99999) 82 30 9999) 82 27 (-1)) 82 31)) 82 32)))) rfl)
set_option maxRecDepth 20000 in
theorem B_X12_putBack_36 {M : qMem} {x1 : Int} : qlim C_X12_putBack (36, [some (qA 82), some (qI x1)], [], qH0 M) = qlim C_X12_putBack ((if 5 ≤ x1 then 59 else 41), [some (qA 82), some (qI x1)], [], qH0 M) := (qlim_n (n := 3) (c' := ((if 5 ≤ x1 then 59 else 41), [some (qA 82), some (qI x1)], [], qH0 M)) rfl)
set_option maxRecDepth 20000 in
theorem B_X12_putBack_41 {M : qMem} {x1 : Int} (h1 : 0 ≤ x1) (h2 : x1 < 5) : qlim C_X12_putBack (41, [some (qA 82), some (qI x1)], [], qH0 M) = qlim C_X12_putBack (36, [some (qA 82), some (qI (kadd x1 1))], [], qH0 (qup M 83 x1 (M 100 x1))) := by
  refine Eq.trans (qlim_n (n := 6) (c' := (51, [some (qA 82), some (qI x1)], [qI x1, qA 100, qI x1, qA 83], qH0 M)) rfl) ?_
  refine Eq.trans (qs_iaload rfl rfl h1 h2) ?_
  refine Eq.trans (qs_iastore rfl rfl h1 h2) ?_
  exact (qlim_n (n := 2) (c' := (36, [some (qA 82), some (qI (kadd x1 1))], [], qH0 (qup M 83 x1 (M 100 x1)))) rfl)
set_option maxRecDepth 20000 in
theorem B_X12_putBack_59 {M : qMem} {x1 : Int} : qlim C_X12_putBack (59, [some (qA 82), some (qI x1)], [], qH0 M) = qlim C_X12_putBack (61, [some (qA 82), some (qI 0)], [], qH0 M) := (qlim_n (n := 2) (c' := (61, [some (qA 82), some (qI 0)], [], qH0 M)) rfl)
set_option maxRecDepth 20000 in
theorem B_X12_putBack_61 {M : qMem} {x1 : Int} : qlim C_X12_putBack (61, [some (qA 82), some (qI x1)], [], qH0 M) = qlim C_X12_putBack ((if 6 ≤ x1 then 109 else 67), [some (qA 82), some (qI x1)], [], qH0 M) := (qlim_n (n := 3) (c' := ((if 6 ≤ x1 then 109 else 67), [some (qA 82), some (qI x1)], [], qH0 M)) rfl)
set_option maxRecDepth 20000 in
theorem B_X12_putBack_67 {M : qMem} {x1 : Int} (h1 : 0 ≤ x1) (h2 : x1 < 6) : qlim C_X12_putBack (67, [some (qA 82), some (qI x1)], [], qH0 M) = qlim C_X12_putBack (61, [some (qA 82), some (qI (kadd x1 1))], [], qH0 (qup (qup (qup M 86 x1 (M 101 x1)) 87 x1 ((qup M 86 x1 (M 101 x1)) 102 x1)) 88 x1 ((qup (qup M 86 x1 (M 101 x1)) 87 x1 ((qup M 86 x1 (M 101 x1)) 102 x1)) 103 x1))) := by
  refine Eq.trans (qlim_n (n := 6) (c' := (77, [some (qA 82), some (qI x1)], [qI x1, qA 101, qI x1, qA 86], qH0 M)) rfl) ?_
  refine Eq.trans (qs_iaload rfl rfl h1 h2) ?_
  refine Eq.trans (qs_iastore rfl rfl h1 h2) ?_
  refine Eq.trans (qlim_n (n := 6) (c' := (89, [some (qA 82), some (qI x1)], [qI x1, qA 102, qI x1, qA 87], qH0 (qup M 86 x1 (M 101 x1)))) rfl) ?_
  refine Eq.trans (qs_iaload rfl rfl h1 h2) ?_
  refine Eq.trans (qs_iastore rfl rfl h1 h2) ?_
  refine Eq.trans (qlim_n (n := 6) (c' := (101, [some (qA 82), some (qI x1)], [qI x1, qA 103, qI x1, qA 88], qH0 (qup (qup M 86 x1 (M 101 x1)) 87 x1 ((qup M 86 x1 (M 101 x1)) 102 x1)))) rfl) ?_
  refine Eq.trans (qs_iaload rfl rfl h1 h2) ?_
  refine Eq.trans (qs_iastore rfl rfl h1 h2) ?_
  exact (qlim_n (n := 2) (c' := (61, [some (qA 82), some (qI (kadd x1 1))], [], qH0 (qup (qup (qup M 86 x1 (M 101 x1)) 87 x1 ((qup M 86 x1 (M 101 x1)) 102 x1)) 88 x1 ((qup (qup M 86 x1 (M 101 x1)) 87 x1 ((qup M 86 x1 (M 101 x1)) 102 x1)) 103 x1)))) rfl)
set_option maxRecDepth 20000 in
theorem B_X12_putBack_109 {M : qMem} {x1 : Int} : qlim C_X12_putBack (109, [some (qA 82), some (qI x1)], [], qH0 M) = some (none, qH0 M) := (qlim_ret rfl)
theorem E_X12_putBack {h : qH} : S_X12_putBack [qA 82] h = qlim C_X12_putBack (0, [some (qA 82), none], [], h) := qM_at (Nat.le_of_ble_eq_true rfl) rfl
set_option maxRecDepth 20000 in
theorem B_X12_on_0 {M : qMem} {x1 x2 : Int} : qlim C_X12_on (0, [some (qA 82), some (qI x1), some (qI x2), none], [], qH0 M) = qbd (S_X12_in [qA 82, qI x2, qI 10, qI 14] (qH0 M)) (fun r h' => qlim C_X12_on (9, [some (qA 82), some (qI x1), some (qI x2), none], r.toList ++ [], h')) := by
  refine Eq.trans (qlim_n (n := 4) (c' := (6, [some (qA 82), some (qI x1), some (qI x2), none], [qI 14, qI 10, qI x2, qA 82], qH0 M)) rfl) ?_
  exact (qlim_callv (n := 3) rfl rfl rfl (Nat.le_of_ble_eq_true rfl) (Nat.le_of_ble_eq_true rfl) rfl)
set_option maxRecDepth 20000 in
theorem B_X12_on_9 {M : qMem} {x1 x2 s0 : Int} : qlim C_X12_on (9, [some (qA 82), some (qI x1), some (qI x2), none], [qI s0], qH0 M) = qlim C_X12_on ((if ¬ s0 = 0 then 48 else 12), [some (qA 82), some (qI x1), some (qI x2), none], [], qH0 M) := (qlim_n (n := 1) (c' := ((if ¬ s0 = 0 then 48 else 12), [some (qA 82), some (qI x1), some (qI x2), none], [], qH0 M)) rfl)
set_option maxRecDepth 20000 in
theorem B_X12_on_12 {M : qMem} {x1 x2 : Int} : qlim C_X12_on (12, [some (qA 82), some (qI x1), some (qI x2), none], [], qH0 M) = qbd (S_X12_in [qA 82, qI x2, qI 20, qI (kadd 19 (M 82 0))] (qH0 M)) (fun r h' => qlim C_X12_on (26, [some (qA 82), some (qI x1), some (qI x2), none], r.toList ++ [], h')) := by
  refine Eq.trans (qlim_n (n := 7) (c' := (23, [some (qA 82), some (qI x1), some (qI x2), none], [qI (kadd 19 (M 82 0)), qI 20, qI x2, qA 82], qH0 M)) rfl) ?_
  exact (qlim_callv (n := 3) rfl rfl rfl (Nat.le_of_ble_eq_true rfl) (Nat.le_of_ble_eq_true rfl) rfl)
set_option maxRecDepth 20000 in
theorem B_X12_on_26 {M : qMem} {x1 x2 s0 : Int} : qlim C_X12_on (26, [some (qA 82), some (qI x1), some (qI x2), none], [qI s0], qH0 M) = qlim C_X12_on ((if ¬ s0 = 0 then 48 else 29), [some (qA 82), some (qI x1), some (qI x2), none], [], qH0 M) := (qlim_n (n := 1) (c' := ((if ¬ s0 = 0 then 48 else 29), [some (qA 82), some (qI x1), some (qI x2), none], [], qH0 M)) rfl)
set_option maxRecDepth 20000 in
theorem B_X12_on_29 {M : qMem} {x1 x2 : Int} : qlim C_X12_on (29, [some (qA 82), some (qI x1), some (qI x2), none], [], qH0 M) = qbd (S_X12_in [qA 82, qI x2, qI 30, qI (kadd 29 (M 82 0))] (qH0 M)) (fun r h' => qlim C_X12_on (43, [some (qA 82), some (qI x1), some (qI x2), none], r.toList ++ [], h')) := by
  refine Eq.trans (qlim_n (n := 7) (c' := (40, [some (qA 82), some (qI x1), some (qI x2), none], [qI (kadd 29 (M 82 0)), qI 30, qI x2, qA 82], qH0 M)) rfl) ?_
  exact (qlim_callv (n := 3) rfl rfl rfl (Nat.le_of_ble_eq_true rfl) (Nat.le_of_ble_eq_true rfl) rfl)
set_option maxRecDepth 20000 in
theorem B_X12_on_43 {M : qMem} {x1 x2 s0 : Int} : qlim C_X12_on (43, [some (qA 82), some (qI x1), some (qI x2), none], [qI s0], qH0 M) = qlim C_X12_on ((if ¬ s0 = 0 then 48 else 46), [some (qA 82), some (qI x1), some (qI x2), none], [], qH0 M) := (qlim_n (n := 1) (c' := ((if ¬ s0 = 0 then 48 else 46), [some (qA 82), some (qI x1), some (qI x2), none], [], qH0 M)) rfl)
set_option maxRecDepth 20000 in
theorem B_X12_on_46 {M : qMem} {x1 x2 : Int} : qlim C_X12_on (46, [some (qA 82), some (qI x1), some (qI x2), none], [], qH0 M) = some (some (qI (-1)), qH0 M) := by
  refine Eq.trans (qlim_n (n := 1) (c' := (47, [some (qA 82), some (qI x1), some (qI x2), none], [qI (-1)], qH0 M)) rfl) ?_
  exact (qlim_ret rfl)
set_option maxRecDepth 20000 in
theorem B_X12_on_48 {M : qMem} {x1 x2 : Int} : qlim C_X12_on (48, [some (qA 82), some (qI x1), some (qI x2), none], [], qH0 M) = qbd (S_X12_isMinutes [qA 82, qI x1] (qH0 M)) (fun r h' => qlim C_X12_on (53, [some (qA 82), some (qI x1), some (qI x2), none], r.toList ++ [], h')) := by
  refine Eq.trans (qlim_n (n := 2) (c' := (50, [some (qA 82), some (qI x1), some (qI x2), none], [qI x1, qA 82], qH0 M)) rfl) ?_
  exact (qlim_callv (n := 1) rfl rfl rfl (Nat.le_of_ble_eq_true rfl) (Nat.le_of_ble_eq_true rfl) rfl)
set_option maxRecDepth 20000 in
theorem B_X12_on_53 {M : qMem} {x1 x2 s0 : Int} : qlim C_X12_on (53, [some (qA 82), some (qI x1), some (qI x2), none], [qI s0], qH0 M) = qlim C_X12_on ((if ¬ s0 = 0 then 59 else 56), [some (qA 82), some (qI x1), some (qI x2), none], [], qH0 M) := (qlim_n (n := 1) (c' := ((if ¬ s0 = 0 then 59 else 56), [some (qA 82), some (qI x1), some (qI x2), none], [], qH0 M)) rfl)
set_option maxRecDepth 20000 in
theorem B_X12_on_56 {M : qMem} {x1 x2 : Int} : qlim C_X12_on (56, [some (qA 82), some (qI x1), some (qI x2), none], [], qH0 M) = some (some (qI (-2)), qH0 M) := by
  refine Eq.trans (qlim_n (n := 1) (c' := (58, [some (qA 82), some (qI x1), some (qI x2), none], [qI (-2)], qH0 M)) rfl) ?_
  exact (qlim_ret rfl)
set_option maxRecDepth 20000 in
theorem B_X12_on_59 {M : qMem} {x1 x2 : Int} : qlim C_X12_on (59, [some (qA 82), some (qI x1), some (qI x2), none], [], qH0 M) = qbd (S_X12_save [qA 82] (qH0 M)) (fun r h' => qlim C_X12_on (63, [some (qA 82), some (qI x1), some (qI x2), none], r.toList ++ [], h')) := by
  refine Eq.trans (qlim_n (n := 1) (c' := (60, [some (qA 82), some (qI x1), some (qI x2), none], [qA 82], qH0 M)) rfl) ?_
  exact (qlim_callv (n := 0) rfl rfl rfl (Nat.le_of_ble_eq_true rfl) (Nat.le_of_ble_eq_true rfl) rfl)
set_option maxRecDepth 20000 in
theorem B_X12_on_63 {M : qMem} {x1 x2 : Int} : qlim C_X12_on (63, [some (qA 82), some (qI x1), some (qI x2), none], [], qH0 M) = qbd (S_X12_goMinutes [qA 82, qI x1] (qH0 M)) (fun r h' => qlim C_X12_on (68, [some (qA 82), some (qI x1), some (qI x2), none], r.toList ++ [], h')) := by
  refine Eq.trans (qlim_n (n := 2) (c' := (65, [some (qA 82), some (qI x1), some (qI x2), none], [qI x1, qA 82], qH0 M)) rfl) ?_
  exact (qlim_callv (n := 1) rfl rfl rfl (Nat.le_of_ble_eq_true rfl) (Nat.le_of_ble_eq_true rfl) rfl)
set_option maxRecDepth 20000 in
theorem B_X12_on_68 {M : qMem} {x1 x2 : Int} : qlim C_X12_on (68, [some (qA 82), some (qI x1), some (qI x2), none], [], qH0 M) = qlim C_X12_on ((if 20 ≤ x2 then 86 else 74), [some (qA 82), some (qI x1), some (qI x2), none], [], qH0 M) := (qlim_n (n := 3) (c' := ((if 20 ≤ x2 then 86 else 74), [some (qA 82), some (qI x1), some (qI x2), none], [], qH0 M)) rfl)
set_option maxRecDepth 20000 in
theorem B_X12_on_74 {M : qMem} {x1 x2 : Int} (h1 : 0 ≤ ksub x2 10) (h2 : ksub x2 10 < 5) : qlim C_X12_on (74, [some (qA 82), some (qI x1), some (qI x2), none], [], qH0 M) = qlim C_X12_on (113, [some (qA 82), some (qI x1), some (qI x2), none], [qI (M 83 (ksub x2 10))], qH0 M) := by
  refine Eq.trans (qlim_n (n := 5) (c' := (82, [some (qA 82), some (qI x1), some (qI x2), none], [qI (ksub x2 10), qA 83], qH0 M)) rfl) ?_
  refine Eq.trans (qs_iaload rfl rfl h1 h2) ?_
  exact (qlim_n (n := 1) (c' := (113, [some (qA 82), some (qI x1), some (qI x2), none], [qI (M 83 (ksub x2 10))], qH0 M)) rfl)
set_option maxRecDepth 20000 in
theorem B_X12_on_86 {M : qMem} {x1 x2 : Int} : qlim C_X12_on (86, [some (qA 82), some (qI x1), some (qI x2), none], [], qH0 M) = qlim C_X12_on ((if 30 ≤ x2 then 104 else 92), [some (qA 82), some (qI x1), some (qI x2), none], [], qH0 M) := (qlim_n (n := 3) (c' := ((if 30 ≤ x2 then 104 else 92), [some (qA 82), some (qI x1), some (qI x2), none], [], qH0 M)) rfl)
set_option maxRecDepth 20000 in
theorem B_X12_on_92 {M : qMem} {x1 x2 : Int} (h1 : 0 ≤ ksub x2 20) (h2 : ksub x2 20 < 6) : qlim C_X12_on (92, [some (qA 82), some (qI x1), some (qI x2), none], [], qH0 M) = qlim C_X12_on (113, [some (qA 82), some (qI x1), some (qI x2), none], [qI (M 87 (ksub x2 20))], qH0 M) := by
  refine Eq.trans (qlim_n (n := 5) (c' := (100, [some (qA 82), some (qI x1), some (qI x2), none], [qI (ksub x2 20), qA 87], qH0 M)) rfl) ?_
  refine Eq.trans (qs_iaload rfl rfl h1 h2) ?_
  exact (qlim_n (n := 1) (c' := (113, [some (qA 82), some (qI x1), some (qI x2), none], [qI (M 87 (ksub x2 20))], qH0 M)) rfl)
set_option maxRecDepth 20000 in
theorem B_X12_on_104 {M : qMem} {x1 x2 : Int} (h1 : 0 ≤ ksub x2 30) (h2 : ksub x2 30 < 6) : qlim C_X12_on (104, [some (qA 82), some (qI x1), some (qI x2), none], [], qH0 M) = qlim C_X12_on (113, [some (qA 82), some (qI x1), some (qI x2), none], [qI (M 88 (ksub x2 30))], qH0 M) := by
  refine Eq.trans (qlim_n (n := 5) (c' := (112, [some (qA 82), some (qI x1), some (qI x2), none], [qI (ksub x2 30), qA 88], qH0 M)) rfl) ?_
  exact (qs_iaload rfl rfl h1 h2)
set_option maxRecDepth 20000 in
theorem B_X12_on_113 {M : qMem} {x1 x2 s0 : Int} : qlim C_X12_on (113, [some (qA 82), some (qI x1), some (qI x2), none], [qI s0], qH0 M) = qbd (S_X12_putBack [qA 82] (qH0 M)) (fun r h' => qlim C_X12_on (118, [some (qA 82), some (qI x1), some (qI x2), some (qI s0)], r.toList ++ [], h')) := by
  refine Eq.trans (qlim_n (n := 2) (c' := (115, [some (qA 82), some (qI x1), some (qI x2), some (qI s0)], [qA 82], qH0 M)) rfl) ?_
  exact (qlim_callv (n := 0) rfl rfl rfl (Nat.le_of_ble_eq_true rfl) (Nat.le_of_ble_eq_true rfl) rfl)
set_option maxRecDepth 20000 in
theorem B_X12_on_118 {M : qMem} {x1 x2 x3 : Int} : qlim C_X12_on (118, [some (qA 82), some (qI x1), some (qI x2), some (qI x3)], [], qH0 M) = some (some (qI x3), qH0 M) := by
  refine Eq.trans (qlim_n (n := 1) (c' := (119, [some (qA 82), some (qI x1), some (qI x2), some (qI x3)], [qI x3], qH0 M)) rfl) ?_
  exact (qlim_ret rfl)
theorem E_X12_on {h : qH} {x1 x2 : Int} : S_X12_on [qA 82, qI x1, qI x2] h = qlim C_X12_on (0, [some (qA 82), some (qI x1), some (qI x2), none], [], h) := qM_at (Nat.le_of_ble_eq_true rfl) rfl
set_option maxRecDepth 20000 in
theorem B_X12_ready_0 {M : qMem} {x1 : Int} : qlim C_X12_ready (0, [some (qA 82), some (qI x1), none], [], qH0 M) = qbd (S_X12_isLetters [qA 82, qI x1] (qH0 M)) (fun r h' => qlim C_X12_ready (5, [some (qA 82), some (qI x1), none], r.toList ++ [], h')) := by
  refine Eq.trans (qlim_n (n := 2) (c' := (2, [some (qA 82), some (qI x1), none], [qI x1, qA 82], qH0 M)) rfl) ?_
  exact (qlim_callv (n := 1) rfl rfl rfl (Nat.le_of_ble_eq_true rfl) (Nat.le_of_ble_eq_true rfl) rfl)
set_option maxRecDepth 20000 in
theorem B_X12_ready_5 {M : qMem} {x1 s0 : Int} : qlim C_X12_ready (5, [some (qA 82), some (qI x1), none], [qI s0], qH0 M) = qlim C_X12_ready ((if ¬ s0 = 0 then 11 else 8), [some (qA 82), some (qI x1), none], [], qH0 M) := (qlim_n (n := 1) (c' := ((if ¬ s0 = 0 then 11 else 8), [some (qA 82), some (qI x1), none], [], qH0 M)) rfl)
set_option maxRecDepth 20000 in
theorem B_X12_ready_8 {M : qMem} {x1 : Int} : qlim C_X12_ready (8, [some (qA 82), some (qI x1), none], [], qH0 M) = some (some (qI (-2)), qH0 M) := by
  refine Eq.trans (qlim_n (n := 1) (c' := (10, [some (qA 82), some (qI x1), none], [qI (-2)], qH0 M)) rfl) ?_
  exact (qlim_ret rfl)
set_option maxRecDepth 20000 in
theorem B_X12_ready_11 {M : qMem} {x1 : Int} : qlim C_X12_ready (11, [some (qA 82), some (qI x1), none], [], qH0 M) = qbd (S_X12_save [qA 82] (qH0 M)) (fun r h' => qlim C_X12_ready (15, [some (qA 82), some (qI x1), none], r.toList ++ [], h')) := by
  refine Eq.trans (qlim_n (n := 1) (c' := (12, [some (qA 82), some (qI x1), none], [qA 82], qH0 M)) rfl) ?_
  exact (qlim_callv (n := 0) rfl rfl rfl (Nat.le_of_ble_eq_true rfl) (Nat.le_of_ble_eq_true rfl) rfl)
set_option maxRecDepth 20000 in
theorem B_X12_ready_15 {M : qMem} {x1 : Int} : qlim C_X12_ready (15, [some (qA 82), some (qI x1), none], [], qH0 M) = qlim C_X12_ready (17, [some (qA 82), some (qI x1), some (qI 0)], [], qH0 M) := (qlim_n (n := 2) (c' := (17, [some (qA 82), some (qI x1), some (qI 0)], [], qH0 M)) rfl)
set_option maxRecDepth 20000 in
theorem B_X12_ready_17 {M : qMem} {x1 x2 : Int} : qlim C_X12_ready (17, [some (qA 82), some (qI x1), some (qI x2)], [], qH0 M) = qlim C_X12_ready ((if 100 ≤ x2 then 43 else 23), [some (qA 82), some (qI x1), some (qI x2)], [], qH0 M) := (qlim_n (n := 3) (c' := ((if 100 ≤ x2 then 43 else 23), [some (qA 82), some (qI x1), some (qI x2)], [], qH0 M)) rfl)
set_option maxRecDepth 20000 in
theorem B_X12_ready_23 {M : qMem} {x1 x2 : Int} : qlim C_X12_ready (23, [some (qA 82), some (qI x1), some (qI x2)], [], qH0 M) = qlim C_X12_ready ((if x1 ≤ M 83 4 then 43 else 33), [some (qA 82), some (qI x1), some (qI x2)], [], qH0 M) := (qlim_n (n := 6) (c' := ((if x1 ≤ M 83 4 then 43 else 33), [some (qA 82), some (qI x1), some (qI x2)], [], qH0 M)) rfl)
set_option maxRecDepth 20000 in
theorem B_X12_ready_33 {M : qMem} {x1 x2 : Int} : qlim C_X12_ready (33, [some (qA 82), some (qI x1), some (qI x2)], [], qH0 M) = qbd (S_X12_goMinute [qA 82] (qH0 M)) (fun r h' => qlim C_X12_ready (37, [some (qA 82), some (qI x1), some (qI x2)], r.toList ++ [], h')) := by
  refine Eq.trans (qlim_n (n := 1) (c' := (34, [some (qA 82), some (qI x1), some (qI x2)], [qA 82], qH0 M)) rfl) ?_
  exact (qlim_callv (n := 0) rfl rfl rfl (Nat.le_of_ble_eq_true rfl) (Nat.le_of_ble_eq_true rfl) rfl)
set_option maxRecDepth 20000 in
theorem B_X12_ready_37 {M : qMem} {x1 x2 : Int} : qlim C_X12_ready (37, [some (qA 82), some (qI x1), some (qI x2)], [], qH0 M) = qlim C_X12_ready (17, [some (qA 82), some (qI x1), some (qI (kadd x2 1))], [], qH0 M) := (qlim_n (n := 2) (c' := (17, [some (qA 82), some (qI x1), some (qI (kadd x2 1))], [], qH0 M)) rfl)
set_option maxRecDepth 20000 in
theorem B_X12_ready_43 {M : qMem} {x1 x2 : Int} : qlim C_X12_ready (43, [some (qA 82), some (qI x1), some (qI x2)], [], qH0 M) = qbd (S_X12_putBack [qA 82] (qH0 M)) (fun r h' => qlim C_X12_ready (47, [some (qA 82), some (qI x1), some (qI x2)], r.toList ++ [], h')) := by
  refine Eq.trans (qlim_n (n := 1) (c' := (44, [some (qA 82), some (qI x1), some (qI x2)], [qA 82], qH0 M)) rfl) ?_
  exact (qlim_callv (n := 0) rfl rfl rfl (Nat.le_of_ble_eq_true rfl) (Nat.le_of_ble_eq_true rfl) rfl)
set_option maxRecDepth 20000 in
theorem B_X12_ready_47 {M : qMem} {x1 x2 : Int} : qlim C_X12_ready (47, [some (qA 82), some (qI x1), some (qI x2)], [], qH0 M) = qlim C_X12_ready ((if 100 ≤ x2 then 57 else 53), [some (qA 82), some (qI x1), some (qI x2)], [], qH0 M) := (qlim_n (n := 3) (c' := ((if 100 ≤ x2 then 57 else 53), [some (qA 82), some (qI x1), some (qI x2)], [], qH0 M)) rfl)
set_option maxRecDepth 20000 in
theorem B_X12_ready_53 {M : qMem} {x1 x2 : Int} : qlim C_X12_ready (53, [some (qA 82), some (qI x1), some (qI x2)], [], qH0 M) = qlim C_X12_ready (59, [some (qA 82), some (qI x1), some (qI x2)], [qI x2], qH0 M) := (qlim_n (n := 2) (c' := (59, [some (qA 82), some (qI x1), some (qI x2)], [qI x2], qH0 M)) rfl)
set_option maxRecDepth 20000 in
theorem B_X12_ready_57 {M : qMem} {x1 x2 : Int} : qlim C_X12_ready (57, [some (qA 82), some (qI x1), some (qI x2)], [], qH0 M) = qlim C_X12_ready (59, [some (qA 82), some (qI x1), some (qI x2)], [qI (-5)], qH0 M) := (qlim_n (n := 1) (c' := (59, [some (qA 82), some (qI x1), some (qI x2)], [qI (-5)], qH0 M)) rfl)
set_option maxRecDepth 20000 in
theorem B_X12_ready_59 {M : qMem} {x1 x2 s0 : Int} : qlim C_X12_ready (59, [some (qA 82), some (qI x1), some (qI x2)], [qI s0], qH0 M) = some (some (qI s0), qH0 M) := (qlim_ret rfl)
theorem E_X12_ready {h : qH} {x1 : Int} : S_X12_ready [qA 82, qI x1] h = qlim C_X12_ready (0, [some (qA 82), some (qI x1), none], [], h) := qM_at (Nat.le_of_ble_eq_true rfl) rfl
set_option maxRecDepth 20000 in
theorem B_X12_yieldThen_0 {M : qMem} {x1 : Int} : qlim C_X12_yieldThen (0, [some (qA 82), some (qI x1), none], [], qH0 M) = qbd (S_X12_goMinutes [qA 82, qI x1] (qH0 M)) (fun r h' => qlim C_X12_yieldThen (5, [some (qA 82), some (qI x1), none], r.toList ++ [], h')) := by
  refine Eq.trans (qlim_n (n := 2) (c' := (2, [some (qA 82), some (qI x1), none], [qI x1, qA 82], qH0 M)) rfl) ?_
  exact (qlim_callv (n := 1) rfl rfl rfl (Nat.le_of_ble_eq_true rfl) (Nat.le_of_ble_eq_true rfl) rfl)
set_option maxRecDepth 20000 in
theorem B_X12_yieldThen_5 {M : qMem} {x1 : Int} : qlim C_X12_yieldThen (5, [some (qA 82), some (qI x1), none], [], qH0 M) = qbd (S_X12_putBack [qA 82] (qH0 M)) (fun r h' => qlim C_X12_yieldThen (16, [some (qA 82), some (qI x1), some (qI (M 83 4))], r.toList ++ [], h')) := by
  refine Eq.trans (qlim_n (n := 6) (c' := (13, [some (qA 82), some (qI x1), some (qI (M 83 4))], [qA 82], qH0 M)) rfl) ?_
  exact (qlim_callv (n := 0) rfl rfl rfl (Nat.le_of_ble_eq_true rfl) (Nat.le_of_ble_eq_true rfl) rfl)
set_option maxRecDepth 20000 in
theorem B_X12_yieldThen_16 {M : qMem} {x1 x2 : Int} : qlim C_X12_yieldThen (16, [some (qA 82), some (qI x1), some (qI x2)], [], qH0 M) = some (some (qI x2), qH0 M) := by
  refine Eq.trans (qlim_n (n := 1) (c' := (17, [some (qA 82), some (qI x1), some (qI x2)], [qI x2], qH0 M)) rfl) ?_
  exact (qlim_ret rfl)
theorem E_X12_yieldThen {h : qH} {x1 : Int} : S_X12_yieldThen [qA 82, qI x1] h = qlim C_X12_yieldThen (0, [some (qA 82), some (qI x1), none], [], h) := qM_at (Nat.le_of_ble_eq_true rfl) rfl
set_option maxRecDepth 20000 in
theorem B_X12_yield0_0 {M : qMem} : qlim C_X12_yield0 (0, [some (qA 82)], [], qH0 M) = qbd (S_X12_save [qA 82] (qH0 M)) (fun r h' => qlim C_X12_yield0 (4, [some (qA 82)], r.toList ++ [], h')) := by
  refine Eq.trans (qlim_n (n := 1) (c' := (1, [some (qA 82)], [qA 82], qH0 M)) rfl) ?_
  exact (qlim_callv (n := 0) rfl rfl rfl (Nat.le_of_ble_eq_true rfl) (Nat.le_of_ble_eq_true rfl) rfl)
set_option maxRecDepth 20000 in
theorem B_X12_yield0_4 {M : qMem} : qlim C_X12_yield0 (4, [some (qA 82)], [], qH0 M) = qbd (S_X12_yieldThen [qA 82, qI 30] (qH0 M)) (fun r h' => qlim C_X12_yield0 (10, [some (qA 82)], r.toList ++ [], h')) := by
  refine Eq.trans (qlim_n (n := 2) (c' := (7, [some (qA 82)], [qI 30, qA 82], qH0 M)) rfl) ?_
  exact (qlim_callv (n := 1) rfl rfl rfl (Nat.le_of_ble_eq_true rfl) (Nat.le_of_ble_eq_true rfl) rfl)
set_option maxRecDepth 20000 in
theorem B_X12_yield0_10 {M : qMem} {s0 : Int} : qlim C_X12_yield0 (10, [some (qA 82)], [qI s0], qH0 M) = some (some (qI s0), qH0 M) := (qlim_ret rfl)
theorem E_X12_yield0 {h : qH} : S_X12_yield0 [qA 82] h = qlim C_X12_yield0 (0, [some (qA 82)], [], h) := qM_at (Nat.le_of_ble_eq_true rfl) rfl
set_option maxRecDepth 20000 in
theorem B_X12_moveOf_0 {M : qMem} : qlim C_X12_moveOf (0, [some (qA 82), none, none, none, none, none], [], qH0 M) = qbd (S_X12_yield0 [qA 82] (qH0 M)) (fun r h' => qlim C_X12_moveOf (7, [some (qA 82), some (qI (-5)), none, none, none, none], r.toList ++ [], h')) := by
  refine Eq.trans (qlim_n (n := 3) (c' := (4, [some (qA 82), some (qI (-5)), none, none, none, none], [qA 82], qH0 M)) rfl) ?_
  exact (qlim_callv (n := 0) rfl rfl rfl (Nat.le_of_ble_eq_true rfl) (Nat.le_of_ble_eq_true rfl) rfl)
set_option maxRecDepth 20000 in
theorem B_X12_moveOf_7 {M : qMem} {x1 s0 : Int} : qlim C_X12_moveOf (7, [some (qA 82), some (qI x1), none, none, none, none], [qI s0], qH0 M) = qlim C_X12_moveOf (10, [some (qA 82), some (qI x1), some (qI s0), some (qI 0), none, none], [], qH0 M) := (qlim_n (n := 3) (c' := (10, [some (qA 82), some (qI x1), some (qI s0), some (qI 0), none, none], [], qH0 M)) rfl)
set_option maxRecDepth 20000 in
theorem B_X12_moveOf_10 {M : qMem} {x1 x2 x3 : Int} {x4 x5 : Option qV} : qlim C_X12_moveOf (10, [some (qA 82), some (qI x1), some (qI x2), some (qI x3), x4, x5], [], qH0 M) = qlim C_X12_moveOf ((if M 82 0 ≤ x3 then 79 else 18), [some (qA 82), some (qI x1), some (qI x2), some (qI x3), x4, x5], [], qH0 M) := (qlim_n (n := 4) (c' := ((if M 82 0 ≤ x3 then 79 else 18), [some (qA 82), some (qI x1), some (qI x2), some (qI x3), x4, x5], [], qH0 M)) rfl)
set_option maxRecDepth 20000 in
theorem B_X12_moveOf_18 {M : qMem} {x1 x2 x3 : Int} {x4 x5 : Option qV} : qlim C_X12_moveOf (18, [some (qA 82), some (qI x1), some (qI x2), some (qI x3), x4, x5], [], qH0 M) = qlim C_X12_moveOf (21, [some (qA 82), some (qI x1), some (qI x2), some (qI x3), some (qI 0), x5], [], qH0 M) := (qlim_n (n := 2) (c' := (21, [some (qA 82), some (qI x1), some (qI x2), some (qI x3), some (qI 0), x5], [], qH0 M)) rfl)
set_option maxRecDepth 20000 in
theorem B_X12_moveOf_21 {M : qMem} {x1 x2 x3 x4 : Int} {x5 : Option qV} : qlim C_X12_moveOf (21, [some (qA 82), some (qI x1), some (qI x2), some (qI x3), some (qI x4), x5], [], qH0 M) = qlim C_X12_moveOf ((if 4 ≤ x4 then 73 else 27), [some (qA 82), some (qI x1), some (qI x2), some (qI x3), some (qI x4), x5], [], qH0 M) := (qlim_n (n := 3) (c' := ((if 4 ≤ x4 then 73 else 27), [some (qA 82), some (qI x1), some (qI x2), some (qI x3), some (qI x4), x5], [], qH0 M)) rfl)
set_option maxRecDepth 20000 in
theorem B_X12_moveOf_27 {M : qMem} {x1 x2 x3 x4 : Int} {x5 : Option qV} : qlim C_X12_moveOf (27, [some (qA 82), some (qI x1), some (qI x2), some (qI x3), some (qI x4), x5], [], qH0 M) = qbd (S_X12_save [qA 82] (qH0 M)) (fun r h' => qlim C_X12_moveOf (31, [some (qA 82), some (qI x1), some (qI x2), some (qI x3), some (qI x4), x5], r.toList ++ [], h')) := by
  refine Eq.trans (qlim_n (n := 1) (c' := (28, [some (qA 82), some (qI x1), some (qI x2), some (qI x3), some (qI x4), x5], [qA 82], qH0 M)) rfl) ?_
  exact (qlim_callv (n := 0) rfl rfl rfl (Nat.le_of_ble_eq_true rfl) (Nat.le_of_ble_eq_true rfl) rfl)
set_option maxRecDepth 20000 in
theorem B_X12_moveOf_31 {M : qMem} {x1 x2 x3 x4 : Int} {x5 : Option qV} (h1 : 0 ≤ x3) (h2 : x3 < 6) : qlim C_X12_moveOf (31, [some (qA 82), some (qI x1), some (qI x2), some (qI x3), some (qI x4), x5], [], qH0 M) = qbd (S_X12_yieldThen [qA 82, qI 30] (qH0 (qup M 86 x3 x4))) (fun r h' => qlim C_X12_moveOf (45, [some (qA 82), some (qI x1), some (qI x2), some (qI x3), some (qI x4), x5], r.toList ++ [], h')) := by
  refine Eq.trans (qlim_n (n := 4) (c' := (38, [some (qA 82), some (qI x1), some (qI x2), some (qI x3), some (qI x4), x5], [qI x4, qI x3, qA 86], qH0 M)) rfl) ?_
  refine Eq.trans (qs_iastore rfl rfl h1 h2) ?_
  refine Eq.trans (qlim_n (n := 2) (c' := (42, [some (qA 82), some (qI x1), some (qI x2), some (qI x3), some (qI x4), x5], [qI 30, qA 82], qH0 (qup M 86 x3 x4))) rfl) ?_
  exact (qlim_callv (n := 1) rfl rfl rfl (Nat.le_of_ble_eq_true rfl) (Nat.le_of_ble_eq_true rfl) rfl)
set_option maxRecDepth 20000 in
theorem B_X12_moveOf_45 {M : qMem} {x1 x2 x3 x4 s0 : Int} {x5 : Option qV} : qlim C_X12_moveOf (45, [some (qA 82), some (qI x1), some (qI x2), some (qI x3), some (qI x4), x5], [qI s0], qH0 M) = qlim C_X12_moveOf ((if x2 < s0 then 56 else 53), [some (qA 82), some (qI x1), some (qI x2), some (qI x3), some (qI x4), some (qI s0)], [], qH0 M) := (qlim_n (n := 4) (c' := ((if x2 < s0 then 56 else 53), [some (qA 82), some (qI x1), some (qI x2), some (qI x3), some (qI x4), some (qI s0)], [], qH0 M)) rfl)
set_option maxRecDepth 20000 in
theorem B_X12_moveOf_53 {M : qMem} {x1 x2 x3 x4 x5 : Int} : qlim C_X12_moveOf (53, [some (qA 82), some (qI x1), some (qI x2), some (qI x3), some (qI x4), some (qI x5)], [], qH0 M) = qlim C_X12_moveOf (67, [some (qA 82), some (qI x1), some (qI x2), some (qI x3), some (qI x4), some (qI x5)], [], qH0 M) := (qlim_n (n := 1) (c' := (67, [some (qA 82), some (qI x1), some (qI x2), some (qI x3), some (qI x4), some (qI x5)], [], qH0 M)) rfl)
set_option maxRecDepth 20000 in
theorem B_X12_moveOf_56 {M : qMem} {x1 x2 x3 x4 x5 : Int} : qlim C_X12_moveOf (56, [some (qA 82), some (qI x1), some (qI x2), some (qI x3), some (qI x4), some (qI x5)], [], qH0 M) = qlim C_X12_moveOf (67, [some (qA 82), some (qI (kadd (kmul 10 x3) x4)), some (qI x5), some (qI x3), some (qI x4), some (qI x5)], [], qH0 M) := (qlim_n (n := 8) (c' := (67, [some (qA 82), some (qI (kadd (kmul 10 x3) x4)), some (qI x5), some (qI x3), some (qI x4), some (qI x5)], [], qH0 M)) rfl)
set_option maxRecDepth 20000 in
theorem B_X12_moveOf_67 {M : qMem} {x1 x2 x3 x4 x5 : Int} : qlim C_X12_moveOf (67, [some (qA 82), some (qI x1), some (qI x2), some (qI x3), some (qI x4), some (qI x5)], [], qH0 M) = qlim C_X12_moveOf (21, [some (qA 82), some (qI x1), some (qI x2), some (qI x3), some (qI (kadd x4 1)), some (qI x5)], [], qH0 M) := (qlim_n (n := 2) (c' := (21, [some (qA 82), some (qI x1), some (qI x2), some (qI x3), some (qI (kadd x4 1)), some (qI x5)], [], qH0 M)) rfl)
set_option maxRecDepth 20000 in
theorem B_X12_moveOf_73 {M : qMem} {x1 x2 x3 x4 : Int} {x5 : Option qV} : qlim C_X12_moveOf (73, [some (qA 82), some (qI x1), some (qI x2), some (qI x3), some (qI x4), x5], [], qH0 M) = qlim C_X12_moveOf (10, [some (qA 82), some (qI x1), some (qI x2), some (qI (kadd x3 1)), some (qI x4), x5], [], qH0 M) := (qlim_n (n := 2) (c' := (10, [some (qA 82), some (qI x1), some (qI x2), some (qI (kadd x3 1)), some (qI x4), x5], [], qH0 M)) rfl)
set_option maxRecDepth 20000 in
theorem B_X12_moveOf_79 {M : qMem} {x1 x2 x3 : Int} {x4 x5 : Option qV} : qlim C_X12_moveOf (79, [some (qA 82), some (qI x1), some (qI x2), some (qI x3), x4, x5], [], qH0 M) = some (some (qI x1), qH0 M) := by
  refine Eq.trans (qlim_n (n := 1) (c' := (80, [some (qA 82), some (qI x1), some (qI x2), some (qI x3), x4, x5], [qI x1], qH0 M)) rfl) ?_
  exact (qlim_ret rfl)
theorem E_X12_moveOf {h : qH} : S_X12_moveOf [qA 82] h = qlim C_X12_moveOf (0, [some (qA 82), none, none, none, none, none], [], h) := qM_at (Nat.le_of_ble_eq_true rfl) rfl
set_option maxRecDepth 20000 in
theorem B_X12_swapOf_0 {M : qMem} : qlim C_X12_swapOf (0, [some (qA 82), none, none, none, none, none], [], qH0 M) = qbd (S_X12_yield0 [qA 82] (qH0 M)) (fun r h' => qlim C_X12_swapOf (7, [some (qA 82), some (qI (-5)), none, none, none, none], r.toList ++ [], h')) := by
  refine Eq.trans (qlim_n (n := 3) (c' := (4, [some (qA 82), some (qI (-5)), none, none, none, none], [qA 82], qH0 M)) rfl) ?_
  exact (qlim_callv (n := 0) rfl rfl rfl (Nat.le_of_ble_eq_true rfl) (Nat.le_of_ble_eq_true rfl) rfl)
set_option maxRecDepth 20000 in
theorem B_X12_swapOf_7 {M : qMem} {x1 s0 : Int} : qlim C_X12_swapOf (7, [some (qA 82), some (qI x1), none, none, none, none], [qI s0], qH0 M) = qlim C_X12_swapOf (10, [some (qA 82), some (qI x1), some (qI s0), some (qI 0), none, none], [], qH0 M) := (qlim_n (n := 3) (c' := (10, [some (qA 82), some (qI x1), some (qI s0), some (qI 0), none, none], [], qH0 M)) rfl)
set_option maxRecDepth 20000 in
theorem B_X12_swapOf_10 {M : qMem} {x1 x2 x3 : Int} {x4 x5 : Option qV} : qlim C_X12_swapOf (10, [some (qA 82), some (qI x1), some (qI x2), some (qI x3), x4, x5], [], qH0 M) = qlim C_X12_swapOf ((if M 82 0 ≤ x3 then 102 else 18), [some (qA 82), some (qI x1), some (qI x2), some (qI x3), x4, x5], [], qH0 M) := (qlim_n (n := 4) (c' := ((if M 82 0 ≤ x3 then 102 else 18), [some (qA 82), some (qI x1), some (qI x2), some (qI x3), x4, x5], [], qH0 M)) rfl)
set_option maxRecDepth 20000 in
theorem B_X12_swapOf_18 {M : qMem} {x1 x2 x3 : Int} {x4 x5 : Option qV} : qlim C_X12_swapOf (18, [some (qA 82), some (qI x1), some (qI x2), some (qI x3), x4, x5], [], qH0 M) = qlim C_X12_swapOf (23, [some (qA 82), some (qI x1), some (qI x2), some (qI x3), some (qI (kadd x3 1)), x5], [], qH0 M) := (qlim_n (n := 4) (c' := (23, [some (qA 82), some (qI x1), some (qI x2), some (qI x3), some (qI (kadd x3 1)), x5], [], qH0 M)) rfl)
set_option maxRecDepth 20000 in
theorem B_X12_swapOf_23 {M : qMem} {x1 x2 x3 x4 : Int} {x5 : Option qV} : qlim C_X12_swapOf (23, [some (qA 82), some (qI x1), some (qI x2), some (qI x3), some (qI x4), x5], [], qH0 M) = qlim C_X12_swapOf ((if M 82 0 ≤ x4 then 96 else 32), [some (qA 82), some (qI x1), some (qI x2), some (qI x3), some (qI x4), x5], [], qH0 M) := (qlim_n (n := 4) (c' := ((if M 82 0 ≤ x4 then 96 else 32), [some (qA 82), some (qI x1), some (qI x2), some (qI x3), some (qI x4), x5], [], qH0 M)) rfl)
set_option maxRecDepth 20000 in
theorem B_X12_swapOf_32 {M : qMem} {x1 x2 x3 x4 : Int} {x5 : Option qV} : qlim C_X12_swapOf (32, [some (qA 82), some (qI x1), some (qI x2), some (qI x3), some (qI x4), x5], [], qH0 M) = qbd (S_X12_save [qA 82] (qH0 M)) (fun r h' => qlim C_X12_swapOf (36, [some (qA 82), some (qI x1), some (qI x2), some (qI x3), some (qI x4), x5], r.toList ++ [], h')) := by
  refine Eq.trans (qlim_n (n := 1) (c' := (33, [some (qA 82), some (qI x1), some (qI x2), some (qI x3), some (qI x4), x5], [qA 82], qH0 M)) rfl) ?_
  exact (qlim_callv (n := 0) rfl rfl rfl (Nat.le_of_ble_eq_true rfl) (Nat.le_of_ble_eq_true rfl) rfl)
set_option maxRecDepth 20000 in
theorem B_X12_swapOf_36 {M : qMem} {x1 x2 x3 x4 : Int} {x5 : Option qV} (h1 : 0 ≤ x4) (h2 : x4 < 6) (h3 : 0 ≤ x3) (h4 : x3 < 6) : qlim C_X12_swapOf (36, [some (qA 82), some (qI x1), some (qI x2), some (qI x3), some (qI x4), x5], [], qH0 M) = qbd (S_X12_yieldThen [qA 82, qI 30] (qH0 (qup (qup M 86 x3 (M 101 x4)) 86 x4 ((qup M 86 x3 (M 101 x4)) 101 x3)))) (fun r h' => qlim C_X12_swapOf (68, [some (qA 82), some (qI x1), some (qI x2), some (qI x3), some (qI x4), x5], r.toList ++ [], h')) := by
  refine Eq.trans (qlim_n (n := 6) (c' := (47, [some (qA 82), some (qI x1), some (qI x2), some (qI x3), some (qI x4), x5], [qI x4, qA 101, qI x3, qA 86], qH0 M)) rfl) ?_
  refine Eq.trans (qs_iaload rfl rfl h1 h2) ?_
  refine Eq.trans (qs_iastore rfl rfl h3 h4) ?_
  refine Eq.trans (qlim_n (n := 6) (c' := (60, [some (qA 82), some (qI x1), some (qI x2), some (qI x3), some (qI x4), x5], [qI x3, qA 101, qI x4, qA 86], qH0 (qup M 86 x3 (M 101 x4)))) rfl) ?_
  refine Eq.trans (qs_iaload rfl rfl h3 h4) ?_
  refine Eq.trans (qs_iastore rfl rfl h1 h2) ?_
  refine Eq.trans (qlim_n (n := 2) (c' := (65, [some (qA 82), some (qI x1), some (qI x2), some (qI x3), some (qI x4), x5], [qI 30, qA 82], qH0 (qup (qup M 86 x3 (M 101 x4)) 86 x4 ((qup M 86 x3 (M 101 x4)) 101 x3)))) rfl) ?_
  exact (qlim_callv (n := 1) rfl rfl rfl (Nat.le_of_ble_eq_true rfl) (Nat.le_of_ble_eq_true rfl) rfl)
set_option maxRecDepth 20000 in
theorem B_X12_swapOf_68 {M : qMem} {x1 x2 x3 x4 s0 : Int} {x5 : Option qV} : qlim C_X12_swapOf (68, [some (qA 82), some (qI x1), some (qI x2), some (qI x3), some (qI x4), x5], [qI s0], qH0 M) = qlim C_X12_swapOf ((if x2 < s0 then 79 else 76), [some (qA 82), some (qI x1), some (qI x2), some (qI x3), some (qI x4), some (qI s0)], [], qH0 M) := (qlim_n (n := 4) (c' := ((if x2 < s0 then 79 else 76), [some (qA 82), some (qI x1), some (qI x2), some (qI x3), some (qI x4), some (qI s0)], [], qH0 M)) rfl)
set_option maxRecDepth 20000 in
theorem B_X12_swapOf_76 {M : qMem} {x1 x2 x3 x4 x5 : Int} : qlim C_X12_swapOf (76, [some (qA 82), some (qI x1), some (qI x2), some (qI x3), some (qI x4), some (qI x5)], [], qH0 M) = qlim C_X12_swapOf (90, [some (qA 82), some (qI x1), some (qI x2), some (qI x3), some (qI x4), some (qI x5)], [], qH0 M) := (qlim_n (n := 1) (c' := (90, [some (qA 82), some (qI x1), some (qI x2), some (qI x3), some (qI x4), some (qI x5)], [], qH0 M)) rfl)
set_option maxRecDepth 20000 in
theorem B_X12_swapOf_79 {M : qMem} {x1 x2 x3 x4 x5 : Int} : qlim C_X12_swapOf (79, [some (qA 82), some (qI x1), some (qI x2), some (qI x3), some (qI x4), some (qI x5)], [], qH0 M) = qlim C_X12_swapOf (90, [some (qA 82), some (qI (kadd (kmul 10 x3) x4)), some (qI x5), some (qI x3), some (qI x4), some (qI x5)], [], qH0 M) := (qlim_n (n := 8) (c' := (90, [some (qA 82), some (qI (kadd (kmul 10 x3) x4)), some (qI x5), some (qI x3), some (qI x4), some (qI x5)], [], qH0 M)) rfl)
set_option maxRecDepth 20000 in
theorem B_X12_swapOf_90 {M : qMem} {x1 x2 x3 x4 x5 : Int} : qlim C_X12_swapOf (90, [some (qA 82), some (qI x1), some (qI x2), some (qI x3), some (qI x4), some (qI x5)], [], qH0 M) = qlim C_X12_swapOf (23, [some (qA 82), some (qI x1), some (qI x2), some (qI x3), some (qI (kadd x4 1)), some (qI x5)], [], qH0 M) := (qlim_n (n := 2) (c' := (23, [some (qA 82), some (qI x1), some (qI x2), some (qI x3), some (qI (kadd x4 1)), some (qI x5)], [], qH0 M)) rfl)
set_option maxRecDepth 20000 in
theorem B_X12_swapOf_96 {M : qMem} {x1 x2 x3 x4 : Int} {x5 : Option qV} : qlim C_X12_swapOf (96, [some (qA 82), some (qI x1), some (qI x2), some (qI x3), some (qI x4), x5], [], qH0 M) = qlim C_X12_swapOf (10, [some (qA 82), some (qI x1), some (qI x2), some (qI (kadd x3 1)), some (qI x4), x5], [], qH0 M) := (qlim_n (n := 2) (c' := (10, [some (qA 82), some (qI x1), some (qI x2), some (qI (kadd x3 1)), some (qI x4), x5], [], qH0 M)) rfl)
set_option maxRecDepth 20000 in
theorem B_X12_swapOf_102 {M : qMem} {x1 x2 x3 : Int} {x4 x5 : Option qV} : qlim C_X12_swapOf (102, [some (qA 82), some (qI x1), some (qI x2), some (qI x3), x4, x5], [], qH0 M) = some (some (qI x1), qH0 M) := by
  refine Eq.trans (qlim_n (n := 1) (c' := (103, [some (qA 82), some (qI x1), some (qI x2), some (qI x3), x4, x5], [qI x1], qH0 M)) rfl) ?_
  exact (qlim_ret rfl)
theorem E_X12_swapOf {h : qH} : S_X12_swapOf [qA 82] h = qlim C_X12_swapOf (0, [some (qA 82), none, none, none, none, none], [], h) := qM_at (Nat.le_of_ble_eq_true rfl) rfl
set_option maxRecDepth 20000 in
theorem B_X12_enoughOf_0 {M : qMem} : qlim C_X12_enoughOf (0, [some (qA 82), none, none], [], qH0 M) = qbd (S_X12_yield0 [qA 82] (qH0 M)) (fun r h' => qlim C_X12_enoughOf (4, [some (qA 82), none, none], r.toList ++ [], h')) := by
  refine Eq.trans (qlim_n (n := 1) (c' := (1, [some (qA 82), none, none], [qA 82], qH0 M)) rfl) ?_
  exact (qlim_callv (n := 0) rfl rfl rfl (Nat.le_of_ble_eq_true rfl) (Nat.le_of_ble_eq_true rfl) rfl)
set_option maxRecDepth 20000 in
theorem B_X12_enoughOf_4 {M : qMem} {s0 : Int} : qlim C_X12_enoughOf (4, [some (qA 82), none, none], [qI s0], qH0 M) = qlim C_X12_enoughOf (7, [some (qA 82), some (qI s0), some (qI 1)], [], qH0 M) := (qlim_n (n := 3) (c' := (7, [some (qA 82), some (qI s0), some (qI 1)], [], qH0 M)) rfl)
set_option maxRecDepth 20000 in
theorem B_X12_enoughOf_7 {M : qMem} {x1 x2 : Int} : qlim C_X12_enoughOf (7, [some (qA 82), some (qI x1), some (qI x2)], [], qH0 M) = qlim C_X12_enoughOf ((if 21 ≤ x2 then 40 else 13), [some (qA 82), some (qI x1), some (qI x2)], [], qH0 M) := (qlim_n (n := 3) (c' := ((if 21 ≤ x2 then 40 else 13), [some (qA 82), some (qI x1), some (qI x2)], [], qH0 M)) rfl)
set_option maxRecDepth 20000 in
theorem B_X12_enoughOf_13 {M : qMem} {x1 x2 : Int} : qlim C_X12_enoughOf (13, [some (qA 82), some (qI x1), some (qI x2)], [], qH0 M) = qbd (S_X12_save [qA 82] (qH0 M)) (fun r h' => qlim C_X12_enoughOf (17, [some (qA 82), some (qI x1), some (qI x2)], r.toList ++ [], h')) := by
  refine Eq.trans (qlim_n (n := 1) (c' := (14, [some (qA 82), some (qI x1), some (qI x2)], [qA 82], qH0 M)) rfl) ?_
  exact (qlim_callv (n := 0) rfl rfl rfl (Nat.le_of_ble_eq_true rfl) (Nat.le_of_ble_eq_true rfl) rfl)
set_option maxRecDepth 20000 in
theorem B_X12_enoughOf_17 {M : qMem} {x1 x2 : Int} : qlim C_X12_enoughOf (17, [some (qA 82), some (qI x1), some (qI x2)], [], qH0 M) = qbd (S_X12_yieldThen [qA 82, qI 30] (qH0 (qup M 82 27 x2))) (fun r h' => qlim C_X12_enoughOf (28, [some (qA 82), some (qI x1), some (qI x2)], r.toList ++ [], h')) := by
  refine Eq.trans (qlim_n (n := 5) (c' := (25, [some (qA 82), some (qI x1), some (qI x2)], [qI 30, qA 82], qH0 (qup M 82 27 x2))) rfl) ?_
  exact (qlim_callv (n := 1) rfl rfl rfl (Nat.le_of_ble_eq_true rfl) (Nat.le_of_ble_eq_true rfl) rfl)
set_option maxRecDepth 20000 in
theorem B_X12_enoughOf_28 {M : qMem} {x1 x2 s0 : Int} : qlim C_X12_enoughOf (28, [some (qA 82), some (qI x1), some (qI x2)], [qI s0], qH0 M) = qlim C_X12_enoughOf ((if s0 < x1 then 34 else 32), [some (qA 82), some (qI x1), some (qI x2)], [], qH0 M) := (qlim_n (n := 2) (c' := ((if s0 < x1 then 34 else 32), [some (qA 82), some (qI x1), some (qI x2)], [], qH0 M)) rfl)
set_option maxRecDepth 20000 in
theorem B_X12_enoughOf_32 {M : qMem} {x1 x2 : Int} : qlim C_X12_enoughOf (32, [some (qA 82), some (qI x1), some (qI x2)], [], qH0 M) = some (some (qI x2), qH0 M) := by
  refine Eq.trans (qlim_n (n := 1) (c' := (33, [some (qA 82), some (qI x1), some (qI x2)], [qI x2], qH0 M)) rfl) ?_
  exact (qlim_ret rfl)
set_option maxRecDepth 20000 in
theorem B_X12_enoughOf_34 {M : qMem} {x1 x2 : Int} : qlim C_X12_enoughOf (34, [some (qA 82), some (qI x1), some (qI x2)], [], qH0 M) = qlim C_X12_enoughOf (7, [some (qA 82), some (qI x1), some (qI (kadd x2 1))], [], qH0 M) := (qlim_n (n := 2) (c' := (7, [some (qA 82), some (qI x1), some (qI (kadd x2 1))], [], qH0 M)) rfl)
set_option maxRecDepth 20000 in
theorem B_X12_enoughOf_40 {M : qMem} {x1 x2 : Int} : qlim C_X12_enoughOf (40, [some (qA 82), some (qI x1), some (qI x2)], [], qH0 M) = some (some (qI (-5)), qH0 M) := by
  refine Eq.trans (qlim_n (n := 1) (c' := (42, [some (qA 82), some (qI x1), some (qI x2)], [qI (-5)], qH0 M)) rfl) ?_
  exact (qlim_ret rfl)
theorem E_X12_enoughOf {h : qH} : S_X12_enoughOf [qA 82] h = qlim C_X12_enoughOf (0, [some (qA 82), none, none], [], h) := qM_at (Nat.le_of_ble_eq_true rfl) rfl
set_option maxRecDepth 20000 in
theorem B_X12_missOf_0 {M : qMem} : qlim C_X12_missOf (0, [some (qA 82), none, none, none, none], [], qH0 M) = qlim C_X12_missOf (7, [some (qA 82), some (qI (-5)), some (qI 0), some (qI 0), none], [], qH0 M) := (qlim_n (n := 6) (c' := (7, [some (qA 82), some (qI (-5)), some (qI 0), some (qI 0), none], [], qH0 M)) rfl)
set_option maxRecDepth 20000 in
theorem B_X12_missOf_7 {M : qMem} {x1 x2 x3 : Int} {x4 : Option qV} : qlim C_X12_missOf (7, [some (qA 82), some (qI x1), some (qI x2), some (qI x3), x4], [], qH0 M) = qlim C_X12_missOf ((if M 82 0 ≤ x3 then 61 else 15), [some (qA 82), some (qI x1), some (qI x2), some (qI x3), x4], [], qH0 M) := (qlim_n (n := 4) (c' := ((if M 82 0 ≤ x3 then 61 else 15), [some (qA 82), some (qI x1), some (qI x2), some (qI x3), x4], [], qH0 M)) rfl)
set_option maxRecDepth 20000 in
theorem B_X12_missOf_15 {M : qMem} {x1 x2 x3 : Int} {x4 : Option qV} : qlim C_X12_missOf (15, [some (qA 82), some (qI x1), some (qI x2), some (qI x3), x4], [], qH0 M) = qbd (S_X12_has [qA 82, qI (M 82 2), qI x3] (qH0 M)) (fun r h' => qlim C_X12_missOf (24, [some (qA 82), some (qI x1), some (qI x2), some (qI x3), x4], r.toList ++ [], h')) := by
  refine Eq.trans (qlim_n (n := 4) (c' := (21, [some (qA 82), some (qI x1), some (qI x2), some (qI x3), x4], [qI x3, qI (M 82 2), qA 82], qH0 M)) rfl) ?_
  exact (qlim_callv (n := 2) rfl rfl rfl (Nat.le_of_ble_eq_true rfl) (Nat.le_of_ble_eq_true rfl) rfl)
set_option maxRecDepth 20000 in
theorem B_X12_missOf_24 {M : qMem} {x1 x2 x3 s0 : Int} {x4 : Option qV} : qlim C_X12_missOf (24, [some (qA 82), some (qI x1), some (qI x2), some (qI x3), x4], [qI s0], qH0 M) = qlim C_X12_missOf ((if s0 = 0 then 30 else 27), [some (qA 82), some (qI x1), some (qI x2), some (qI x3), x4], [], qH0 M) := (qlim_n (n := 1) (c' := ((if s0 = 0 then 30 else 27), [some (qA 82), some (qI x1), some (qI x2), some (qI x3), x4], [], qH0 M)) rfl)
set_option maxRecDepth 20000 in
theorem B_X12_missOf_27 {M : qMem} {x1 x2 x3 : Int} {x4 : Option qV} : qlim C_X12_missOf (27, [some (qA 82), some (qI x1), some (qI x2), some (qI x3), x4], [], qH0 M) = qlim C_X12_missOf (55, [some (qA 82), some (qI x1), some (qI x2), some (qI x3), x4], [], qH0 M) := (qlim_n (n := 1) (c' := (55, [some (qA 82), some (qI x1), some (qI x2), some (qI x3), x4], [], qH0 M)) rfl)
set_option maxRecDepth 20000 in
theorem B_X12_missOf_30 {M : qMem} {x1 x2 x3 : Int} {x4 : Option qV} : qlim C_X12_missOf (30, [some (qA 82), some (qI x1), some (qI x2), some (qI x3), x4], [], qH0 M) = qbd (S_X12_without [qA 82, qI x3] (qH0 M)) (fun r h' => qlim C_X12_missOf (35, [some (qA 82), some (qI x1), some (qI x2), some (qI x3), x4], r.toList ++ [], h')) := by
  refine Eq.trans (qlim_n (n := 2) (c' := (32, [some (qA 82), some (qI x1), some (qI x2), some (qI x3), x4], [qI x3, qA 82], qH0 M)) rfl) ?_
  exact (qlim_callv (n := 1) rfl rfl rfl (Nat.le_of_ble_eq_true rfl) (Nat.le_of_ble_eq_true rfl) rfl)
set_option maxRecDepth 20000 in
theorem B_X12_missOf_35 {M : qMem} {x1 x2 x3 s0 : Int} {x4 : Option qV} : qlim C_X12_missOf (35, [some (qA 82), some (qI x1), some (qI x2), some (qI x3), x4], [qI s0], qH0 M) = qlim C_X12_missOf ((if x1 < 0 then 50 else 41), [some (qA 82), some (qI x1), some (qI x2), some (qI x3), some (qI s0)], [], qH0 M) := (qlim_n (n := 3) (c' := ((if x1 < 0 then 50 else 41), [some (qA 82), some (qI x1), some (qI x2), some (qI x3), some (qI s0)], [], qH0 M)) rfl)
set_option maxRecDepth 20000 in
theorem B_X12_missOf_41 {M : qMem} {x1 x2 x3 x4 : Int} : qlim C_X12_missOf (41, [some (qA 82), some (qI x1), some (qI x2), some (qI x3), some (qI x4)], [], qH0 M) = qlim C_X12_missOf ((if x4 < x2 then 50 else 47), [some (qA 82), some (qI x1), some (qI x2), some (qI x3), some (qI x4)], [], qH0 M) := (qlim_n (n := 3) (c' := ((if x4 < x2 then 50 else 47), [some (qA 82), some (qI x1), some (qI x2), some (qI x3), some (qI x4)], [], qH0 M)) rfl)
set_option maxRecDepth 20000 in
theorem B_X12_missOf_47 {M : qMem} {x1 x2 x3 x4 : Int} : qlim C_X12_missOf (47, [some (qA 82), some (qI x1), some (qI x2), some (qI x3), some (qI x4)], [], qH0 M) = qlim C_X12_missOf (55, [some (qA 82), some (qI x1), some (qI x2), some (qI x3), some (qI x4)], [], qH0 M) := (qlim_n (n := 1) (c' := (55, [some (qA 82), some (qI x1), some (qI x2), some (qI x3), some (qI x4)], [], qH0 M)) rfl)
set_option maxRecDepth 20000 in
theorem B_X12_missOf_50 {M : qMem} {x1 x2 x3 x4 : Int} : qlim C_X12_missOf (50, [some (qA 82), some (qI x1), some (qI x2), some (qI x3), some (qI x4)], [], qH0 M) = qlim C_X12_missOf (55, [some (qA 82), some (qI x3), some (qI x4), some (qI x3), some (qI x4)], [], qH0 M) := (qlim_n (n := 4) (c' := (55, [some (qA 82), some (qI x3), some (qI x4), some (qI x3), some (qI x4)], [], qH0 M)) rfl)
set_option maxRecDepth 20000 in
theorem B_X12_missOf_55 {M : qMem} {x1 x2 x3 : Int} {x4 : Option qV} : qlim C_X12_missOf (55, [some (qA 82), some (qI x1), some (qI x2), some (qI x3), x4], [], qH0 M) = qlim C_X12_missOf (7, [some (qA 82), some (qI x1), some (qI x2), some (qI (kadd x3 1)), x4], [], qH0 M) := (qlim_n (n := 2) (c' := (7, [some (qA 82), some (qI x1), some (qI x2), some (qI (kadd x3 1)), x4], [], qH0 M)) rfl)
set_option maxRecDepth 20000 in
theorem B_X12_missOf_61 {M : qMem} {x1 x2 x3 : Int} {x4 : Option qV} : qlim C_X12_missOf (61, [some (qA 82), some (qI x1), some (qI x2), some (qI x3), x4], [], qH0 M) = some (some (qI x1), qH0 M) := by
  refine Eq.trans (qlim_n (n := 1) (c' := (62, [some (qA 82), some (qI x1), some (qI x2), some (qI x3), x4], [qI x1], qH0 M)) rfl) ?_
  exact (qlim_ret rfl)
theorem E_X12_missOf {h : qH} : S_X12_missOf [qA 82] h = qlim C_X12_missOf (0, [some (qA 82), none, none, none, none], [], h) := qM_at (Nat.le_of_ble_eq_true rfl) rfl
set_option maxRecDepth 20000 in
theorem B_X12_best_0 {M : qMem} {x1 : Int} : qlim C_X12_best (0, [some (qA 82), some (qI x1)], [], qH0 M) = qlim C_X12_best (qtk [36, 41, 46, 51, 56] 61 0 x1, [some (qA 82), some (qI x1)], [], qH0 M) := (qlim_n (n := 2) (c' := (qtk [36, 41, 46, 51, 56] 61 0 x1, [some (qA 82), some (qI x1)], [], qH0 M)) rfl)
set_option maxRecDepth 20000 in
theorem B_X12_best_36 {M : qMem} {x1 : Int} : qlim C_X12_best (36, [some (qA 82), some (qI x1)], [], qH0 M) = qbd (S_X12_moveOf [qA 82] (qH0 M)) (fun r h' => qlim C_X12_best (40, [some (qA 82), some (qI x1)], r.toList ++ [], h')) := by
  refine Eq.trans (qlim_n (n := 1) (c' := (37, [some (qA 82), some (qI x1)], [qA 82], qH0 M)) rfl) ?_
  exact (qlim_callv (n := 0) rfl rfl rfl (Nat.le_of_ble_eq_true rfl) (Nat.le_of_ble_eq_true rfl) rfl)
set_option maxRecDepth 20000 in
theorem B_X12_best_40 {M : qMem} {x1 s0 : Int} : qlim C_X12_best (40, [some (qA 82), some (qI x1)], [qI s0], qH0 M) = some (some (qI s0), qH0 M) := (qlim_ret rfl)
set_option maxRecDepth 20000 in
theorem B_X12_best_41 {M : qMem} {x1 : Int} : qlim C_X12_best (41, [some (qA 82), some (qI x1)], [], qH0 M) = qbd (S_X12_swapOf [qA 82] (qH0 M)) (fun r h' => qlim C_X12_best (45, [some (qA 82), some (qI x1)], r.toList ++ [], h')) := by
  refine Eq.trans (qlim_n (n := 1) (c' := (42, [some (qA 82), some (qI x1)], [qA 82], qH0 M)) rfl) ?_
  exact (qlim_callv (n := 0) rfl rfl rfl (Nat.le_of_ble_eq_true rfl) (Nat.le_of_ble_eq_true rfl) rfl)
set_option maxRecDepth 20000 in
theorem B_X12_best_45 {M : qMem} {x1 s0 : Int} : qlim C_X12_best (45, [some (qA 82), some (qI x1)], [qI s0], qH0 M) = some (some (qI s0), qH0 M) := (qlim_ret rfl)
set_option maxRecDepth 20000 in
theorem B_X12_best_46 {M : qMem} {x1 : Int} : qlim C_X12_best (46, [some (qA 82), some (qI x1)], [], qH0 M) = qbd (S_X12_enoughOf [qA 82] (qH0 M)) (fun r h' => qlim C_X12_best (50, [some (qA 82), some (qI x1)], r.toList ++ [], h')) := by
  refine Eq.trans (qlim_n (n := 1) (c' := (47, [some (qA 82), some (qI x1)], [qA 82], qH0 M)) rfl) ?_
  exact (qlim_callv (n := 0) rfl rfl rfl (Nat.le_of_ble_eq_true rfl) (Nat.le_of_ble_eq_true rfl) rfl)
set_option maxRecDepth 20000 in
theorem B_X12_best_50 {M : qMem} {x1 s0 : Int} : qlim C_X12_best (50, [some (qA 82), some (qI x1)], [qI s0], qH0 M) = some (some (qI s0), qH0 M) := (qlim_ret rfl)
set_option maxRecDepth 20000 in
theorem B_X12_best_51 {M : qMem} {x1 : Int} : qlim C_X12_best (51, [some (qA 82), some (qI x1)], [], qH0 M) = qbd (S_X12_missOf [qA 82] (qH0 M)) (fun r h' => qlim C_X12_best (55, [some (qA 82), some (qI x1)], r.toList ++ [], h')) := by
  refine Eq.trans (qlim_n (n := 1) (c' := (52, [some (qA 82), some (qI x1)], [qA 82], qH0 M)) rfl) ?_
  exact (qlim_callv (n := 0) rfl rfl rfl (Nat.le_of_ble_eq_true rfl) (Nat.le_of_ble_eq_true rfl) rfl)
set_option maxRecDepth 20000 in
theorem B_X12_best_55 {M : qMem} {x1 s0 : Int} : qlim C_X12_best (55, [some (qA 82), some (qI x1)], [qI s0], qH0 M) = some (some (qI s0), qH0 M) := (qlim_ret rfl)
set_option maxRecDepth 20000 in
theorem B_X12_best_56 {M : qMem} {x1 : Int} : qlim C_X12_best (56, [some (qA 82), some (qI x1)], [], qH0 M) = qbd (S_X12_yield0 [qA 82] (qH0 M)) (fun r h' => qlim C_X12_best (60, [some (qA 82), some (qI x1)], r.toList ++ [], h')) := by
  refine Eq.trans (qlim_n (n := 1) (c' := (57, [some (qA 82), some (qI x1)], [qA 82], qH0 M)) rfl) ?_
  exact (qlim_callv (n := 0) rfl rfl rfl (Nat.le_of_ble_eq_true rfl) (Nat.le_of_ble_eq_true rfl) rfl)
set_option maxRecDepth 20000 in
theorem B_X12_best_60 {M : qMem} {x1 s0 : Int} : qlim C_X12_best (60, [some (qA 82), some (qI x1)], [qI s0], qH0 M) = some (some (qI s0), qH0 M) := (qlim_ret rfl)
set_option maxRecDepth 20000 in
theorem B_X12_best_61 {M : qMem} {x1 : Int} : qlim C_X12_best (61, [some (qA 82), some (qI x1)], [], qH0 M) = some (some (qI (-1)), qH0 M) := by
  refine Eq.trans (qlim_n (n := 1) (c' := (62, [some (qA 82), some (qI x1)], [qI (-1)], qH0 M)) rfl) ?_
  exact (qlim_ret rfl)
theorem E_X12_best {h : qH} {x1 : Int} : S_X12_best [qA 82, qI x1] h = qlim C_X12_best (0, [some (qA 82), some (qI x1)], [], h) := qM_at (Nat.le_of_ble_eq_true rfl) rfl
set_option maxRecDepth 20000 in
theorem B_X12_when_0 {M : qMem} {x1 x2 : Int} : qlim C_X12_when (0, [some (qA 82), some (qI x1), some (qI x2), none, none, none, none], [], qH0 M) = qbd (S_X12_isPerson [qA 82, qI x1] (qH0 M)) (fun r h' => qlim C_X12_when (5, [some (qA 82), some (qI x1), some (qI x2), none, none, none, none], r.toList ++ [], h')) := by
  refine Eq.trans (qlim_n (n := 2) (c' := (2, [some (qA 82), some (qI x1), some (qI x2), none, none, none, none], [qI x1, qA 82], qH0 M)) rfl) ?_
  exact (qlim_callv (n := 1) rfl rfl rfl (Nat.le_of_ble_eq_true rfl) (Nat.le_of_ble_eq_true rfl) rfl)
set_option maxRecDepth 20000 in
theorem B_X12_when_5 {M : qMem} {x1 x2 s0 : Int} : qlim C_X12_when (5, [some (qA 82), some (qI x1), some (qI x2), none, none, none, none], [qI s0], qH0 M) = qlim C_X12_when ((if s0 = 0 then 16 else 8), [some (qA 82), some (qI x1), some (qI x2), none, none, none, none], [], qH0 M) := (qlim_n (n := 1) (c' := ((if s0 = 0 then 16 else 8), [some (qA 82), some (qI x1), some (qI x2), none, none, none, none], [], qH0 M)) rfl)
set_option maxRecDepth 20000 in
theorem B_X12_when_8 {M : qMem} {x1 x2 : Int} : qlim C_X12_when (8, [some (qA 82), some (qI x1), some (qI x2), none, none, none, none], [], qH0 M) = qbd (S_X12_isWork [qA 82, qI x2] (qH0 M)) (fun r h' => qlim C_X12_when (13, [some (qA 82), some (qI x1), some (qI x2), none, none, none, none], r.toList ++ [], h')) := by
  refine Eq.trans (qlim_n (n := 2) (c' := (10, [some (qA 82), some (qI x1), some (qI x2), none, none, none, none], [qI x2, qA 82], qH0 M)) rfl) ?_
  exact (qlim_callv (n := 1) rfl rfl rfl (Nat.le_of_ble_eq_true rfl) (Nat.le_of_ble_eq_true rfl) rfl)
set_option maxRecDepth 20000 in
theorem B_X12_when_13 {M : qMem} {x1 x2 s0 : Int} : qlim C_X12_when (13, [some (qA 82), some (qI x1), some (qI x2), none, none, none, none], [qI s0], qH0 M) = qlim C_X12_when ((if ¬ s0 = 0 then 18 else 16), [some (qA 82), some (qI x1), some (qI x2), none, none, none, none], [], qH0 M) := (qlim_n (n := 1) (c' := ((if ¬ s0 = 0 then 18 else 16), [some (qA 82), some (qI x1), some (qI x2), none, none, none, none], [], qH0 M)) rfl)
set_option maxRecDepth 20000 in
theorem B_X12_when_16 {M : qMem} {x1 x2 : Int} : qlim C_X12_when (16, [some (qA 82), some (qI x1), some (qI x2), none, none, none, none], [], qH0 M) = some (some (qI (-1)), qH0 M) := by
  refine Eq.trans (qlim_n (n := 1) (c' := (17, [some (qA 82), some (qI x1), some (qI x2), none, none, none, none], [qI (-1)], qH0 M)) rfl) ?_
  exact (qlim_ret rfl)
set_option maxRecDepth 20000 in
theorem B_X12_when_18 {M : qMem} {x1 x2 : Int} : qlim C_X12_when (18, [some (qA 82), some (qI x1), some (qI x2), none, none, none, none], [], qH0 M) = qlim C_X12_when (26, [some (qA 82), some (qI x1), some (qI x2), some (qI 0), some (qI (-1)), some (qI 0), none], [], qH0 M) := (qlim_n (n := 6) (c' := (26, [some (qA 82), some (qI x1), some (qI x2), some (qI 0), some (qI (-1)), some (qI 0), none], [], qH0 M)) rfl)
set_option maxRecDepth 20000 in
theorem B_X12_when_26 {M : qMem} {x1 x2 x3 x4 x5 : Int} {x6 : Option qV} : qlim C_X12_when (26, [some (qA 82), some (qI x1), some (qI x2), some (qI x3), some (qI x4), some (qI x5), x6], [], qH0 M) = qlim C_X12_when ((if 21 ≤ x5 then 84 else 33), [some (qA 82), some (qI x1), some (qI x2), some (qI x3), some (qI x4), some (qI x5), x6], [], qH0 M) := (qlim_n (n := 3) (c' := ((if 21 ≤ x5 then 84 else 33), [some (qA 82), some (qI x1), some (qI x2), some (qI x3), some (qI x4), some (qI x5), x6], [], qH0 M)) rfl)
set_option maxRecDepth 20000 in
theorem B_X12_when_33 {M : qMem} {x1 x2 x3 x4 x5 : Int} {x6 : Option qV} : qlim C_X12_when (33, [some (qA 82), some (qI x1), some (qI x2), some (qI x3), some (qI x4), some (qI x5), x6], [], qH0 M) = qbd (S_X12_save [qA 82] (qH0 M)) (fun r h' => qlim C_X12_when (37, [some (qA 82), some (qI x1), some (qI x2), some (qI x3), some (qI x4), some (qI x5), x6], r.toList ++ [], h')) := by
  refine Eq.trans (qlim_n (n := 1) (c' := (34, [some (qA 82), some (qI x1), some (qI x2), some (qI x3), some (qI x4), some (qI x5), x6], [qA 82], qH0 M)) rfl) ?_
  exact (qlim_callv (n := 0) rfl rfl rfl (Nat.le_of_ble_eq_true rfl) (Nat.le_of_ble_eq_true rfl) rfl)
set_option maxRecDepth 20000 in
theorem B_X12_when_37 {M : qMem} {x1 x2 x3 x4 x5 : Int} {x6 : Option qV} : qlim C_X12_when (37, [some (qA 82), some (qI x1), some (qI x2), some (qI x3), some (qI x4), some (qI x5), x6], [], qH0 M) = qbd (S_X12_goMinutes [qA 82, qI x5] (qH0 M)) (fun r h' => qlim C_X12_when (43, [some (qA 82), some (qI x1), some (qI x2), some (qI x3), some (qI x4), some (qI x5), x6], r.toList ++ [], h')) := by
  refine Eq.trans (qlim_n (n := 2) (c' := (40, [some (qA 82), some (qI x1), some (qI x2), some (qI x3), some (qI x4), some (qI x5), x6], [qI x5, qA 82], qH0 M)) rfl) ?_
  exact (qlim_callv (n := 1) rfl rfl rfl (Nat.le_of_ble_eq_true rfl) (Nat.le_of_ble_eq_true rfl) rfl)
set_option maxRecDepth 20000 in
theorem B_X12_when_43 {M : qMem} {x1 x2 x3 x4 x5 : Int} {x6 : Option qV} (h1 : 0 ≤ x1) (h2 : x1 < 6) : qlim C_X12_when (43, [some (qA 82), some (qI x1), some (qI x2), some (qI x3), some (qI x4), some (qI x5), x6], [], qH0 M) = qbd (S_X12_yieldThen [qA 82, qI (ksub 30 x5)] (qH0 (qup M 86 x1 x2))) (fun r h' => qlim C_X12_when (59, [some (qA 82), some (qI x1), some (qI x2), some (qI x3), some (qI x4), some (qI x5), x6], r.toList ++ [], h')) := by
  refine Eq.trans (qlim_n (n := 4) (c' := (49, [some (qA 82), some (qI x1), some (qI x2), some (qI x3), some (qI x4), some (qI x5), x6], [qI x2, qI x1, qA 86], qH0 M)) rfl) ?_
  refine Eq.trans (qs_iastore rfl rfl h1 h2) ?_
  refine Eq.trans (qlim_n (n := 4) (c' := (56, [some (qA 82), some (qI x1), some (qI x2), some (qI x3), some (qI x4), some (qI x5), x6], [qI (ksub 30 x5), qA 82], qH0 (qup M 86 x1 x2))) rfl) ?_
  exact (qlim_callv (n := 1) rfl rfl rfl (Nat.le_of_ble_eq_true rfl) (Nat.le_of_ble_eq_true rfl) rfl)
set_option maxRecDepth 20000 in
theorem B_X12_when_59 {M : qMem} {x1 x2 x3 x4 x5 s0 : Int} {x6 : Option qV} : qlim C_X12_when (59, [some (qA 82), some (qI x1), some (qI x2), some (qI x3), some (qI x4), some (qI x5), x6], [qI s0], qH0 M) = qlim C_X12_when ((if x4 < s0 then 71 else 68), [some (qA 82), some (qI x1), some (qI x2), some (qI x3), some (qI x4), some (qI x5), some (qI s0)], [], qH0 M) := (qlim_n (n := 4) (c' := ((if x4 < s0 then 71 else 68), [some (qA 82), some (qI x1), some (qI x2), some (qI x3), some (qI x4), some (qI x5), some (qI s0)], [], qH0 M)) rfl)
set_option maxRecDepth 20000 in
theorem B_X12_when_68 {M : qMem} {x1 x2 x3 x4 x5 x6 : Int} : qlim C_X12_when (68, [some (qA 82), some (qI x1), some (qI x2), some (qI x3), some (qI x4), some (qI x5), some (qI x6)], [], qH0 M) = qlim C_X12_when (78, [some (qA 82), some (qI x1), some (qI x2), some (qI x3), some (qI x4), some (qI x5), some (qI x6)], [], qH0 M) := (qlim_n (n := 1) (c' := (78, [some (qA 82), some (qI x1), some (qI x2), some (qI x3), some (qI x4), some (qI x5), some (qI x6)], [], qH0 M)) rfl)
set_option maxRecDepth 20000 in
theorem B_X12_when_71 {M : qMem} {x1 x2 x3 x4 x5 x6 : Int} : qlim C_X12_when (71, [some (qA 82), some (qI x1), some (qI x2), some (qI x3), some (qI x4), some (qI x5), some (qI x6)], [], qH0 M) = qlim C_X12_when (78, [some (qA 82), some (qI x1), some (qI x2), some (qI x5), some (qI x6), some (qI x5), some (qI x6)], [], qH0 M) := (qlim_n (n := 4) (c' := (78, [some (qA 82), some (qI x1), some (qI x2), some (qI x5), some (qI x6), some (qI x5), some (qI x6)], [], qH0 M)) rfl)
set_option maxRecDepth 20000 in
theorem B_X12_when_78 {M : qMem} {x1 x2 x3 x4 x5 x6 : Int} : qlim C_X12_when (78, [some (qA 82), some (qI x1), some (qI x2), some (qI x3), some (qI x4), some (qI x5), some (qI x6)], [], qH0 M) = qlim C_X12_when (26, [some (qA 82), some (qI x1), some (qI x2), some (qI x3), some (qI x4), some (qI (kadd x5 1)), some (qI x6)], [], qH0 M) := (qlim_n (n := 2) (c' := (26, [some (qA 82), some (qI x1), some (qI x2), some (qI x3), some (qI x4), some (qI (kadd x5 1)), some (qI x6)], [], qH0 M)) rfl)
set_option maxRecDepth 20000 in
theorem B_X12_when_84 {M : qMem} {x1 x2 x3 x4 x5 : Int} {x6 : Option qV} : qlim C_X12_when (84, [some (qA 82), some (qI x1), some (qI x2), some (qI x3), some (qI x4), some (qI x5), x6], [], qH0 M) = some (some (qI x3), qH0 M) := by
  refine Eq.trans (qlim_n (n := 1) (c' := (85, [some (qA 82), some (qI x1), some (qI x2), some (qI x3), some (qI x4), some (qI x5), x6], [qI x3], qH0 M)) rfl) ?_
  exact (qlim_ret rfl)
theorem E_X12_when {h : qH} {x1 x2 : Int} : S_X12_when [qA 82, qI x1, qI x2] h = qlim C_X12_when (0, [some (qA 82), some (qI x1), some (qI x2), none, none, none, none], [], h) := qM_at (Nat.le_of_ble_eq_true rfl) rfl
set_option maxRecDepth 20000 in
theorem B_X12_without_0 {M : qMem} {x1 : Int} : qlim C_X12_without (0, [some (qA 82), some (qI x1)], [], qH0 M) = qbd (S_X12_isPerson [qA 82, qI x1] (qH0 M)) (fun r h' => qlim C_X12_without (5, [some (qA 82), some (qI x1)], r.toList ++ [], h')) := by
  refine Eq.trans (qlim_n (n := 2) (c' := (2, [some (qA 82), some (qI x1)], [qI x1, qA 82], qH0 M)) rfl) ?_
  exact (qlim_callv (n := 1) rfl rfl rfl (Nat.le_of_ble_eq_true rfl) (Nat.le_of_ble_eq_true rfl) rfl)
set_option maxRecDepth 20000 in
theorem B_X12_without_5 {M : qMem} {x1 s0 : Int} : qlim C_X12_without (5, [some (qA 82), some (qI x1)], [qI s0], qH0 M) = qlim C_X12_without ((if ¬ s0 = 0 then 10 else 8), [some (qA 82), some (qI x1)], [], qH0 M) := (qlim_n (n := 1) (c' := ((if ¬ s0 = 0 then 10 else 8), [some (qA 82), some (qI x1)], [], qH0 M)) rfl)
set_option maxRecDepth 20000 in
theorem B_X12_without_8 {M : qMem} {x1 : Int} : qlim C_X12_without (8, [some (qA 82), some (qI x1)], [], qH0 M) = some (some (qI (-1)), qH0 M) := by
  refine Eq.trans (qlim_n (n := 1) (c' := (9, [some (qA 82), some (qI x1)], [qI (-1)], qH0 M)) rfl) ?_
  exact (qlim_ret rfl)
set_option maxRecDepth 20000 in
theorem B_X12_without_10 {M : qMem} {x1 : Int} : qlim C_X12_without (10, [some (qA 82), some (qI x1)], [], qH0 M) = qbd (S_X12_save [qA 82] (qH0 M)) (fun r h' => qlim C_X12_without (14, [some (qA 82), some (qI x1)], r.toList ++ [], h')) := by
  refine Eq.trans (qlim_n (n := 1) (c' := (11, [some (qA 82), some (qI x1)], [qA 82], qH0 M)) rfl) ?_
  exact (qlim_callv (n := 0) rfl rfl rfl (Nat.le_of_ble_eq_true rfl) (Nat.le_of_ble_eq_true rfl) rfl)
set_option maxRecDepth 20000 in
theorem B_X12_without_14 {M : qMem} {x1 : Int} : qlim C_X12_without (14, [some (qA 82), some (qI x1)], [], qH0 M) = qbd (S_X12_goes [qA 82, qI x1, qI 1] (qH0 M)) (fun r h' => qlim C_X12_without (20, [some (qA 82), some (qI x1)], r.toList ++ [], h')) := by
  refine Eq.trans (qlim_n (n := 3) (c' := (17, [some (qA 82), some (qI x1)], [qI 1, qI x1, qA 82], qH0 M)) rfl) ?_
  exact (qlim_callv (n := 2) rfl rfl rfl (Nat.le_of_ble_eq_true rfl) (Nat.le_of_ble_eq_true rfl) rfl)
set_option maxRecDepth 20000 in
theorem B_X12_without_20 {M : qMem} {x1 : Int} : qlim C_X12_without (20, [some (qA 82), some (qI x1)], [], qH0 M) = qbd (S_X12_yieldThen [qA 82, qI 30] (qH0 M)) (fun r h' => qlim C_X12_without (26, [some (qA 82), some (qI x1)], r.toList ++ [], h')) := by
  refine Eq.trans (qlim_n (n := 2) (c' := (23, [some (qA 82), some (qI x1)], [qI 30, qA 82], qH0 M)) rfl) ?_
  exact (qlim_callv (n := 1) rfl rfl rfl (Nat.le_of_ble_eq_true rfl) (Nat.le_of_ble_eq_true rfl) rfl)
set_option maxRecDepth 20000 in
theorem B_X12_without_26 {M : qMem} {x1 s0 : Int} : qlim C_X12_without (26, [some (qA 82), some (qI x1)], [qI s0], qH0 M) = some (some (qI s0), qH0 M) := (qlim_ret rfl)
theorem E_X12_without {h : qH} {x1 : Int} : S_X12_without [qA 82, qI x1] h = qlim C_X12_without (0, [some (qA 82), some (qI x1)], [], h) := qM_at (Nat.le_of_ble_eq_true rfl) rfl
set_option maxRecDepth 20000 in
theorem B_X12_see_0 {M : qMem} {x1 x2 x3 : Int} : qlim C_X12_see (0, [some (qA 82), some (qI x1), some (qI x2), some (qI x3)], [], qH0 M) = qlim C_X12_see ((if ¬ x1 = (-1) then 12 else 5), [some (qA 82), some (qI x1), some (qI x2), some (qI x3)], [], qH0 M) := (qlim_n (n := 3) (c' := ((if ¬ x1 = (-1) then 12 else 5), [some (qA 82), some (qI x1), some (qI x2), some (qI x3)], [], qH0 M)) rfl)
set_option maxRecDepth 20000 in
theorem B_X12_see_5 {M : qMem} {x1 x2 x3 : Int} : qlim C_X12_see (5, [some (qA 82), some (qI x1), some (qI x2), some (qI x3)], [], qH0 M) = some (some (qI 0), qH0 (qup M 82 37 0)) := by
  refine Eq.trans (qlim_n (n := 4) (c' := (11, [some (qA 82), some (qI x1), some (qI x2), some (qI x3)], [qI 0], qH0 (qup M 82 37 0))) rfl) ?_
  exact (qlim_ret rfl)
set_option maxRecDepth 20000 in
theorem B_X12_see_12 {M : qMem} {x1 x2 x3 : Int} : qlim C_X12_see (12, [some (qA 82), some (qI x1), some (qI x2), some (qI x3)], [], qH0 M) = qbd (S_X12_isHeap [qA 82, qI x1] (qH0 M)) (fun r h' => qlim C_X12_see (17, [some (qA 82), some (qI x1), some (qI x2), some (qI x3)], r.toList ++ [], h')) := by
  refine Eq.trans (qlim_n (n := 2) (c' := (14, [some (qA 82), some (qI x1), some (qI x2), some (qI x3)], [qI x1, qA 82], qH0 M)) rfl) ?_
  exact (qlim_callv (n := 1) rfl rfl rfl (Nat.le_of_ble_eq_true rfl) (Nat.le_of_ble_eq_true rfl) rfl)
set_option maxRecDepth 20000 in
theorem B_X12_see_17 {M : qMem} {x1 x2 x3 s0 : Int} : qlim C_X12_see (17, [some (qA 82), some (qI x1), some (qI x2), some (qI x3)], [qI s0], qH0 M) = qlim C_X12_see ((if ¬ s0 = 0 then 22 else 20), [some (qA 82), some (qI x1), some (qI x2), some (qI x3)], [], qH0 M) := (qlim_n (n := 1) (c' := ((if ¬ s0 = 0 then 22 else 20), [some (qA 82), some (qI x1), some (qI x2), some (qI x3)], [], qH0 M)) rfl)
set_option maxRecDepth 20000 in
theorem B_X12_see_20 {M : qMem} {x1 x2 x3 : Int} : qlim C_X12_see (20, [some (qA 82), some (qI x1), some (qI x2), some (qI x3)], [], qH0 M) = some (some (qI (-1)), qH0 M) := by
  refine Eq.trans (qlim_n (n := 1) (c' := (21, [some (qA 82), some (qI x1), some (qI x2), some (qI x3)], [qI (-1)], qH0 M)) rfl) ?_
  exact (qlim_ret rfl)
set_option maxRecDepth 20000 in
theorem B_X12_see_22 {M : qMem} {x1 x2 x3 : Int} : qlim C_X12_see (22, [some (qA 82), some (qI x1), some (qI x2), some (qI x3)], [], qH0 M) = qbd (S_X12_isLetters [qA 82, qI x2] (qH0 M)) (fun r h' => qlim C_X12_see (27, [some (qA 82), some (qI x1), some (qI x2), some (qI x3)], r.toList ++ [], h')) := by
  refine Eq.trans (qlim_n (n := 2) (c' := (24, [some (qA 82), some (qI x1), some (qI x2), some (qI x3)], [qI x2, qA 82], qH0 M)) rfl) ?_
  exact (qlim_callv (n := 1) rfl rfl rfl (Nat.le_of_ble_eq_true rfl) (Nat.le_of_ble_eq_true rfl) rfl)
set_option maxRecDepth 20000 in
theorem B_X12_see_27 {M : qMem} {x1 x2 x3 s0 : Int} : qlim C_X12_see (27, [some (qA 82), some (qI x1), some (qI x2), some (qI x3)], [qI s0], qH0 M) = qlim C_X12_see ((if s0 = 0 then 41 else 30), [some (qA 82), some (qI x1), some (qI x2), some (qI x3)], [], qH0 M) := (qlim_n (n := 1) (c' := ((if s0 = 0 then 41 else 30), [some (qA 82), some (qI x1), some (qI x2), some (qI x3)], [], qH0 M)) rfl)
set_option maxRecDepth 20000 in
theorem B_X12_see_30 {M : qMem} {x1 x2 x3 : Int} : qlim C_X12_see (30, [some (qA 82), some (qI x1), some (qI x2), some (qI x3)], [], qH0 M) = qbd (S_X12_in [qA 82, qI x3, qI 0, qI 20] (qH0 M)) (fun r h' => qlim C_X12_see (38, [some (qA 82), some (qI x1), some (qI x2), some (qI x3)], r.toList ++ [], h')) := by
  refine Eq.trans (qlim_n (n := 4) (c' := (35, [some (qA 82), some (qI x1), some (qI x2), some (qI x3)], [qI 20, qI 0, qI x3, qA 82], qH0 M)) rfl) ?_
  exact (qlim_callv (n := 3) rfl rfl rfl (Nat.le_of_ble_eq_true rfl) (Nat.le_of_ble_eq_true rfl) rfl)
set_option maxRecDepth 20000 in
theorem B_X12_see_38 {M : qMem} {x1 x2 x3 s0 : Int} : qlim C_X12_see (38, [some (qA 82), some (qI x1), some (qI x2), some (qI x3)], [qI s0], qH0 M) = qlim C_X12_see ((if ¬ s0 = 0 then 44 else 41), [some (qA 82), some (qI x1), some (qI x2), some (qI x3)], [], qH0 M) := (qlim_n (n := 1) (c' := ((if ¬ s0 = 0 then 44 else 41), [some (qA 82), some (qI x1), some (qI x2), some (qI x3)], [], qH0 M)) rfl)
set_option maxRecDepth 20000 in
theorem B_X12_see_41 {M : qMem} {x1 x2 x3 : Int} : qlim C_X12_see (41, [some (qA 82), some (qI x1), some (qI x2), some (qI x3)], [], qH0 M) = some (some (qI (-2)), qH0 M) := by
  refine Eq.trans (qlim_n (n := 1) (c' := (43, [some (qA 82), some (qI x1), some (qI x2), some (qI x3)], [qI (-2)], qH0 M)) rfl) ?_
  exact (qlim_ret rfl)
set_option maxRecDepth 20000 in
theorem B_X12_see_44 {M : qMem} {x1 x2 x3 : Int} : qlim C_X12_see (44, [some (qA 82), some (qI x1), some (qI x2), some (qI x3)], [], qH0 M) = qlim C_X12_see ((if ¬ M 82 37 = 5 then 55 else 52), [some (qA 82), some (qI x1), some (qI x2), some (qI x3)], [], qH0 M) := (qlim_n (n := 4) (c' := ((if ¬ M 82 37 = 5 then 55 else 52), [some (qA 82), some (qI x1), some (qI x2), some (qI x3)], [], qH0 M)) rfl)
set_option maxRecDepth 20000 in
theorem B_X12_see_52 {M : qMem} {x1 x2 x3 : Int} : qlim C_X12_see (52, [some (qA 82), some (qI x1), some (qI x2), some (qI x3)], [], qH0 M) = some (some (qI (-4)), qH0 M) := by
  refine Eq.trans (qlim_n (n := 1) (c' := (54, [some (qA 82), some (qI x1), some (qI x2), some (qI x3)], [qI (-4)], qH0 M)) rfl) ?_
  exact (qlim_ret rfl)
set_option maxRecDepth 20000 in
theorem B_X12_see_55 {M : qMem} {x1 x2 x3 : Int} (h1 : 0 ≤ M 82 37) (h2 : M 82 37 < 5) (h3 : 0 ≤ (qup M 104 (M 82 37) x1) 82 37) (h4 : (qup M 104 (M 82 37) x1) 82 37 < 5) (h5 : 0 ≤ (qup (qup M 104 (M 82 37) x1) 105 ((qup M 104 (M 82 37) x1) 82 37) x2) 82 37) (h6 : (qup (qup M 104 (M 82 37) x1) 105 ((qup M 104 (M 82 37) x1) 82 37) x2) 82 37 < 5) : qlim C_X12_see (55, [some (qA 82), some (qI x1), some (qI x2), some (qI x3)], [], qH0 M) = some (some (qI ((qup (qup (qup (qup M 104 (M 82 37) x1) 105 ((qup M 104 (M 82 37) x1) 82 37) x2) 106 ((qup (qup M 104 (M 82 37) x1) 105 ((qup M 104 (M 82 37) x1) 82 37) x2) 82 37) x3) 82 37 (kadd ((qup (qup (qup M 104 (M 82 37) x1) 105 ((qup M 104 (M 82 37) x1) 82 37) x2) 106 ((qup (qup M 104 (M 82 37) x1) 105 ((qup M 104 (M 82 37) x1) 82 37) x2) 82 37) x3) 82 37) 1)) 82 37)), qH0 (qup (qup (qup (qup M 104 (M 82 37) x1) 105 ((qup M 104 (M 82 37) x1) 82 37) x2) 106 ((qup (qup M 104 (M 82 37) x1) 105 ((qup M 104 (M 82 37) x1) 82 37) x2) 82 37) x3) 82 37 (kadd ((qup (qup (qup M 104 (M 82 37) x1) 105 ((qup M 104 (M 82 37) x1) 82 37) x2) 106 ((qup (qup M 104 (M 82 37) x1) 105 ((qup M 104 (M 82 37) x1) 82 37) x2) 82 37) x3) 82 37) 1))) := by
  refine Eq.trans (qlim_n (n := 5) (c' := (64, [some (qA 82), some (qI x1), some (qI x2), some (qI x3)], [qI x1, qI (M 82 37), qA 104], qH0 M)) rfl) ?_
  refine Eq.trans (qs_iastore rfl rfl h1 h2) ?_
  refine Eq.trans (qlim_n (n := 5) (c' := (74, [some (qA 82), some (qI x1), some (qI x2), some (qI x3)], [qI x2, qI ((qup M 104 (M 82 37) x1) 82 37), qA 105], qH0 (qup M 104 (M 82 37) x1))) rfl) ?_
  refine Eq.trans (qs_iastore rfl rfl h3 h4) ?_
  refine Eq.trans (qlim_n (n := 5) (c' := (84, [some (qA 82), some (qI x1), some (qI x2), some (qI x3)], [qI x3, qI ((qup (qup M 104 (M 82 37) x1) 105 ((qup M 104 (M 82 37) x1) 82 37) x2) 82 37), qA 106], qH0 (qup (qup M 104 (M 82 37) x1) 105 ((qup M 104 (M 82 37) x1) 82 37) x2))) rfl) ?_
  refine Eq.trans (qs_iastore rfl rfl h5 h6) ?_
  refine Eq.trans (qlim_n (n := 8) (c' := (99, [some (qA 82), some (qI x1), some (qI x2), some (qI x3)], [qI ((qup (qup (qup (qup M 104 (M 82 37) x1) 105 ((qup M 104 (M 82 37) x1) 82 37) x2) 106 ((qup (qup M 104 (M 82 37) x1) 105 ((qup M 104 (M 82 37) x1) 82 37) x2) 82 37) x3) 82 37 (kadd ((qup (qup (qup M 104 (M 82 37) x1) 105 ((qup M 104 (M 82 37) x1) 82 37) x2) 106 ((qup (qup M 104 (M 82 37) x1) 105 ((qup M 104 (M 82 37) x1) 82 37) x2) 82 37) x3) 82 37) 1)) 82 37)], qH0 (qup (qup (qup (qup M 104 (M 82 37) x1) 105 ((qup M 104 (M 82 37) x1) 82 37) x2) 106 ((qup (qup M 104 (M 82 37) x1) 105 ((qup M 104 (M 82 37) x1) 82 37) x2) 82 37) x3) 82 37 (kadd ((qup (qup (qup M 104 (M 82 37) x1) 105 ((qup M 104 (M 82 37) x1) 82 37) x2) 106 ((qup (qup M 104 (M 82 37) x1) 105 ((qup M 104 (M 82 37) x1) 82 37) x2) 82 37) x3) 82 37) 1)))) rfl) ?_
  exact (qlim_ret rfl)
theorem E_X12_see {h : qH} {x1 x2 x3 : Int} : S_X12_see [qA 82, qI x1, qI x2, qI x3] h = qlim C_X12_see (0, [some (qA 82), some (qI x1), some (qI x2), some (qI x3)], [], h) := qM_at (Nat.le_of_ble_eq_true rfl) rfl
set_option maxRecDepth 20000 in
theorem B_X12_isSeen_0 {M : qMem} : qlim C_X12_isSeen (0, [some (qA 82), none, none], [], qH0 M) = qlim C_X12_isSeen (4, [some (qA 82), some (qI 1), some (qI 0)], [], qH0 M) := (qlim_n (n := 4) (c' := (4, [some (qA 82), some (qI 1), some (qI 0)], [], qH0 M)) rfl)
set_option maxRecDepth 20000 in
theorem B_X12_isSeen_4 {M : qMem} {x1 x2 : Int} : qlim C_X12_isSeen (4, [some (qA 82), some (qI x1), some (qI x2)], [], qH0 M) = qlim C_X12_isSeen ((if M 82 37 ≤ x2 then 66 else 12), [some (qA 82), some (qI x1), some (qI x2)], [], qH0 M) := (qlim_n (n := 4) (c' := ((if M 82 37 ≤ x2 then 66 else 12), [some (qA 82), some (qI x1), some (qI x2)], [], qH0 M)) rfl)
set_option maxRecDepth 20000 in
theorem B_X12_isSeen_12 {M : qMem} {x1 x2 : Int} : qlim C_X12_isSeen (12, [some (qA 82), some (qI x1), some (qI x2)], [], qH0 M) = qlim C_X12_isSeen ((if x1 = 0 then 66 else 16), [some (qA 82), some (qI x1), some (qI x2)], [], qH0 M) := (qlim_n (n := 2) (c' := ((if x1 = 0 then 66 else 16), [some (qA 82), some (qI x1), some (qI x2)], [], qH0 M)) rfl)
set_option maxRecDepth 20000 in
theorem B_X12_isSeen_16 {M : qMem} {x1 x2 : Int} : qlim C_X12_isSeen (16, [some (qA 82), some (qI x1), some (qI x2)], [], qH0 M) = qbd (S_X12_save [qA 82] (qH0 M)) (fun r h' => qlim C_X12_isSeen (20, [some (qA 82), some (qI x1), some (qI x2)], r.toList ++ [], h')) := by
  refine Eq.trans (qlim_n (n := 1) (c' := (17, [some (qA 82), some (qI x1), some (qI x2)], [qA 82], qH0 M)) rfl) ?_
  exact (qlim_callv (n := 0) rfl rfl rfl (Nat.le_of_ble_eq_true rfl) (Nat.le_of_ble_eq_true rfl) rfl)
set_option maxRecDepth 20000 in
theorem B_X12_isSeen_20 {M : qMem} {x1 x2 : Int} (h1 : 0 ≤ x2) (h2 : x2 < 5) : qlim C_X12_isSeen (20, [some (qA 82), some (qI x1), some (qI x2)], [], qH0 M) = qbd (S_X12_goMinutes [qA 82, qI (M 106 x2)] (qH0 M)) (fun r h' => qlim C_X12_isSeen (30, [some (qA 82), some (qI x1), some (qI x2)], r.toList ++ [], h')) := by
  refine Eq.trans (qlim_n (n := 4) (c' := (26, [some (qA 82), some (qI x1), some (qI x2)], [qI x2, qA 106, qA 82], qH0 M)) rfl) ?_
  refine Eq.trans (qs_iaload rfl rfl h1 h2) ?_
  exact (qlim_callv (n := 1) rfl rfl rfl (Nat.le_of_ble_eq_true rfl) (Nat.le_of_ble_eq_true rfl) rfl)
set_option maxRecDepth 20000 in
theorem B_X12_isSeen_30 {M : qMem} {x1 x2 : Int} (h1 : 0 ≤ x2) (h2 : x2 < 5) (h3 : 0 ≤ M 104 x2) (h4 : M 104 x2 < 5) : qlim C_X12_isSeen (30, [some (qA 82), some (qI x1), some (qI x2)], [], qH0 M) = qlim C_X12_isSeen ((if ¬ M 83 (M 104 x2) = M 105 x2 then 54 else 50), [some (qA 82), some (qI x1), some (qI x2)], [], qH0 M) := by
  refine Eq.trans (qlim_n (n := 5) (c' := (39, [some (qA 82), some (qI x1), some (qI x2)], [qI x2, qA 104, qA 83], qH0 M)) rfl) ?_
  refine Eq.trans (qs_iaload rfl rfl h1 h2) ?_
  refine Eq.trans (qs_iaload rfl rfl h3 h4) ?_
  refine Eq.trans (qlim_n (n := 3) (c' := (46, [some (qA 82), some (qI x1), some (qI x2)], [qI x2, qA 105, qI (M 83 (M 104 x2))], qH0 M)) rfl) ?_
  refine Eq.trans (qs_iaload rfl rfl h1 h2) ?_
  exact (qlim_n (n := 1) (c' := ((if ¬ M 83 (M 104 x2) = M 105 x2 then 54 else 50), [some (qA 82), some (qI x1), some (qI x2)], [], qH0 M)) rfl)
set_option maxRecDepth 20000 in
theorem B_X12_isSeen_50 {M : qMem} {x1 x2 : Int} : qlim C_X12_isSeen (50, [some (qA 82), some (qI x1), some (qI x2)], [], qH0 M) = qlim C_X12_isSeen (55, [some (qA 82), some (qI x1), some (qI x2)], [qI 1], qH0 M) := (qlim_n (n := 2) (c' := (55, [some (qA 82), some (qI x1), some (qI x2)], [qI 1], qH0 M)) rfl)
set_option maxRecDepth 20000 in
theorem B_X12_isSeen_54 {M : qMem} {x1 x2 : Int} : qlim C_X12_isSeen (54, [some (qA 82), some (qI x1), some (qI x2)], [], qH0 M) = qlim C_X12_isSeen (55, [some (qA 82), some (qI x1), some (qI x2)], [qI 0], qH0 M) := (qlim_n (n := 1) (c' := (55, [some (qA 82), some (qI x1), some (qI x2)], [qI 0], qH0 M)) rfl)
set_option maxRecDepth 20000 in
theorem B_X12_isSeen_55 {M : qMem} {x1 x2 s0 : Int} : qlim C_X12_isSeen (55, [some (qA 82), some (qI x1), some (qI x2)], [qI s0], qH0 M) = qbd (S_X12_putBack [qA 82] (qH0 M)) (fun r h' => qlim C_X12_isSeen (60, [some (qA 82), some (qI s0), some (qI x2)], r.toList ++ [], h')) := by
  refine Eq.trans (qlim_n (n := 2) (c' := (57, [some (qA 82), some (qI s0), some (qI x2)], [qA 82], qH0 M)) rfl) ?_
  exact (qlim_callv (n := 0) rfl rfl rfl (Nat.le_of_ble_eq_true rfl) (Nat.le_of_ble_eq_true rfl) rfl)
set_option maxRecDepth 20000 in
theorem B_X12_isSeen_60 {M : qMem} {x1 x2 : Int} : qlim C_X12_isSeen (60, [some (qA 82), some (qI x1), some (qI x2)], [], qH0 M) = qlim C_X12_isSeen (4, [some (qA 82), some (qI x1), some (qI (kadd x2 1))], [], qH0 M) := (qlim_n (n := 2) (c' := (4, [some (qA 82), some (qI x1), some (qI (kadd x2 1))], [], qH0 M)) rfl)
set_option maxRecDepth 20000 in
theorem B_X12_isSeen_66 {M : qMem} {x1 x2 : Int} (h1 : x1 = 0 ∨ x1 = 1) : qlim C_X12_isSeen (66, [some (qA 82), some (qI x1), some (qI x2)], [], qH0 M) = some (some (qI x1), qH0 M) := by
  refine Eq.trans (qlim_n (n := 1) (c' := (67, [some (qA 82), some (qI x1), some (qI x2)], [qI x1], qH0 M)) rfl) ?_
  exact (qs_retZ rfl h1)
theorem E_X12_isSeen {h : qH} : S_X12_isSeen [qA 82] h = qlim C_X12_isSeen (0, [some (qA 82), none, none], [], h) := qM_at (Nat.le_of_ble_eq_true rfl) rfl
set_option maxRecDepth 20000 in
theorem B_X12_were_0 {M : qMem} {x1 x2 : Int} : qlim C_X12_were (0, [some (qA 82), some (qI x1), some (qI x2), none, none, none, none], [], qH0 M) = qbd (S_X12_isHeap [qA 82, qI x1] (qH0 M)) (fun r h' => qlim C_X12_were (5, [some (qA 82), some (qI x1), some (qI x2), none, none, none, none], r.toList ++ [], h')) := by
  refine Eq.trans (qlim_n (n := 2) (c' := (2, [some (qA 82), some (qI x1), some (qI x2), none, none, none, none], [qI x1, qA 82], qH0 M)) rfl) ?_
  exact (qlim_callv (n := 1) rfl rfl rfl (Nat.le_of_ble_eq_true rfl) (Nat.le_of_ble_eq_true rfl) rfl)
set_option maxRecDepth 20000 in
theorem B_X12_were_5 {M : qMem} {x1 x2 s0 : Int} : qlim C_X12_were (5, [some (qA 82), some (qI x1), some (qI x2), none, none, none, none], [qI s0], qH0 M) = qlim C_X12_were ((if s0 = 0 then 18 else 8), [some (qA 82), some (qI x1), some (qI x2), none, none, none, none], [], qH0 M) := (qlim_n (n := 1) (c' := ((if s0 = 0 then 18 else 8), [some (qA 82), some (qI x1), some (qI x2), none, none, none, none], [], qH0 M)) rfl)
set_option maxRecDepth 20000 in
theorem B_X12_were_8 {M : qMem} {x1 x2 : Int} : qlim C_X12_were (8, [some (qA 82), some (qI x1), some (qI x2), none, none, none, none], [], qH0 M) = qbd (S_X12_in [qA 82, qI x2, qI 0, qI 1] (qH0 M)) (fun r h' => qlim C_X12_were (15, [some (qA 82), some (qI x1), some (qI x2), none, none, none, none], r.toList ++ [], h')) := by
  refine Eq.trans (qlim_n (n := 4) (c' := (12, [some (qA 82), some (qI x1), some (qI x2), none, none, none, none], [qI 1, qI 0, qI x2, qA 82], qH0 M)) rfl) ?_
  exact (qlim_callv (n := 3) rfl rfl rfl (Nat.le_of_ble_eq_true rfl) (Nat.le_of_ble_eq_true rfl) rfl)
set_option maxRecDepth 20000 in
theorem B_X12_were_15 {M : qMem} {x1 x2 s0 : Int} : qlim C_X12_were (15, [some (qA 82), some (qI x1), some (qI x2), none, none, none, none], [qI s0], qH0 M) = qlim C_X12_were ((if ¬ s0 = 0 then 20 else 18), [some (qA 82), some (qI x1), some (qI x2), none, none, none, none], [], qH0 M) := (qlim_n (n := 1) (c' := ((if ¬ s0 = 0 then 20 else 18), [some (qA 82), some (qI x1), some (qI x2), none, none, none, none], [], qH0 M)) rfl)
set_option maxRecDepth 20000 in
theorem B_X12_were_18 {M : qMem} {x1 x2 : Int} : qlim C_X12_were (18, [some (qA 82), some (qI x1), some (qI x2), none, none, none, none], [], qH0 M) = some (some (qI (-1)), qH0 M) := by
  refine Eq.trans (qlim_n (n := 1) (c' := (19, [some (qA 82), some (qI x1), some (qI x2), none, none, none, none], [qI (-1)], qH0 M)) rfl) ?_
  exact (qlim_ret rfl)
set_option maxRecDepth 20000 in
theorem B_X12_were_20 {M : qMem} {x1 x2 : Int} (h1 : 0 ≤ x1) (h2 : x1 < 5) : qlim C_X12_were (20, [some (qA 82), some (qI x1), some (qI x2), none, none, none, none], [], qH0 M) = qlim C_X12_were (38, [some (qA 82), some (qI x1), some (qI x2), some (qI (M 83 x1)), some (qI 0), some (qI (-5)), some (qI 40)], [], qH0 M) := by
  refine Eq.trans (qlim_n (n := 3) (c' := (25, [some (qA 82), some (qI x1), some (qI x2), none, none, none, none], [qI x1, qA 83], qH0 M)) rfl) ?_
  refine Eq.trans (qs_iaload rfl rfl h1 h2) ?_
  exact (qlim_n (n := 7) (c' := (38, [some (qA 82), some (qI x1), some (qI x2), some (qI (M 83 x1)), some (qI 0), some (qI (-5)), some (qI 40)], [], qH0 M)) rfl)
set_option maxRecDepth 20000 in
theorem B_X12_were_38 {M : qMem} {x1 x2 x3 x4 x5 x6 : Int} : qlim C_X12_were (38, [some (qA 82), some (qI x1), some (qI x2), some (qI x3), some (qI x4), some (qI x5), some (qI x6)], [], qH0 M) = qlim C_X12_were ((if x6 < 0 then 74 else 43), [some (qA 82), some (qI x1), some (qI x2), some (qI x3), some (qI x4), some (qI x5), some (qI x6)], [], qH0 M) := (qlim_n (n := 2) (c' := ((if x6 < 0 then 74 else 43), [some (qA 82), some (qI x1), some (qI x2), some (qI x3), some (qI x4), some (qI x5), some (qI x6)], [], qH0 M)) rfl)
set_option maxRecDepth 20000 in
theorem B_X12_were_43 {M : qMem} {x1 x2 x3 x4 x5 x6 : Int} (h1 : 0 ≤ x1) (h2 : x1 < 5) : qlim C_X12_were (43, [some (qA 82), some (qI x1), some (qI x2), some (qI x3), some (qI x4), some (qI x5), some (qI x6)], [], qH0 M) = qbd (S_X12_isSeen [qA 82] (qH0 (qup M 83 x1 x6))) (fun r h' => qlim C_X12_were (55, [some (qA 82), some (qI x1), some (qI x2), some (qI x3), some (qI x4), some (qI x5), some (qI x6)], r.toList ++ [], h')) := by
  refine Eq.trans (qlim_n (n := 4) (c' := (50, [some (qA 82), some (qI x1), some (qI x2), some (qI x3), some (qI x4), some (qI x5), some (qI x6)], [qI x6, qI x1, qA 83], qH0 M)) rfl) ?_
  refine Eq.trans (qs_iastore rfl rfl h1 h2) ?_
  refine Eq.trans (qlim_n (n := 1) (c' := (52, [some (qA 82), some (qI x1), some (qI x2), some (qI x3), some (qI x4), some (qI x5), some (qI x6)], [qA 82], qH0 (qup M 83 x1 x6))) rfl) ?_
  exact (qlim_callv (n := 0) rfl rfl rfl (Nat.le_of_ble_eq_true rfl) (Nat.le_of_ble_eq_true rfl) rfl)
set_option maxRecDepth 20000 in
theorem B_X12_were_55 {M : qMem} {x1 x2 x3 x4 x5 x6 s0 : Int} : qlim C_X12_were (55, [some (qA 82), some (qI x1), some (qI x2), some (qI x3), some (qI x4), some (qI x5), some (qI x6)], [qI s0], qH0 M) = qlim C_X12_were ((if ¬ s0 = 0 then 61 else 58), [some (qA 82), some (qI x1), some (qI x2), some (qI x3), some (qI x4), some (qI x5), some (qI x6)], [], qH0 M) := (qlim_n (n := 1) (c' := ((if ¬ s0 = 0 then 61 else 58), [some (qA 82), some (qI x1), some (qI x2), some (qI x3), some (qI x4), some (qI x5), some (qI x6)], [], qH0 M)) rfl)
set_option maxRecDepth 20000 in
theorem B_X12_were_58 {M : qMem} {x1 x2 x3 x4 x5 x6 : Int} : qlim C_X12_were (58, [some (qA 82), some (qI x1), some (qI x2), some (qI x3), some (qI x4), some (qI x5), some (qI x6)], [], qH0 M) = qlim C_X12_were (68, [some (qA 82), some (qI x1), some (qI x2), some (qI x3), some (qI x4), some (qI x5), some (qI x6)], [], qH0 M) := (qlim_n (n := 1) (c' := (68, [some (qA 82), some (qI x1), some (qI x2), some (qI x3), some (qI x4), some (qI x5), some (qI x6)], [], qH0 M)) rfl)
set_option maxRecDepth 20000 in
theorem B_X12_were_61 {M : qMem} {x1 x2 x3 x4 x5 x6 : Int} : qlim C_X12_were (61, [some (qA 82), some (qI x1), some (qI x2), some (qI x3), some (qI x4), some (qI x5), some (qI x6)], [], qH0 M) = qlim C_X12_were (68, [some (qA 82), some (qI x1), some (qI x2), some (qI x3), some (qI (kadd x4 1)), some (qI x6), some (qI x6)], [], qH0 M) := (qlim_n (n := 3) (c' := (68, [some (qA 82), some (qI x1), some (qI x2), some (qI x3), some (qI (kadd x4 1)), some (qI x6), some (qI x6)], [], qH0 M)) rfl)
set_option maxRecDepth 20000 in
theorem B_X12_were_68 {M : qMem} {x1 x2 x3 x4 x5 x6 : Int} : qlim C_X12_were (68, [some (qA 82), some (qI x1), some (qI x2), some (qI x3), some (qI x4), some (qI x5), some (qI x6)], [], qH0 M) = qlim C_X12_were (38, [some (qA 82), some (qI x1), some (qI x2), some (qI x3), some (qI x4), some (qI x5), some (qI (kadd x6 (-1)))], [], qH0 M) := (qlim_n (n := 2) (c' := (38, [some (qA 82), some (qI x1), some (qI x2), some (qI x3), some (qI x4), some (qI x5), some (qI (kadd x6 (-1)))], [], qH0 M)) rfl)
set_option maxRecDepth 20000 in
theorem B_X12_were_74 {M : qMem} {x1 x2 x3 x4 x5 x6 : Int} (h1 : 0 ≤ x1) (h2 : x1 < 5) : qlim C_X12_were (74, [some (qA 82), some (qI x1), some (qI x2), some (qI x3), some (qI x4), some (qI x5), some (qI x6)], [], qH0 M) = qlim C_X12_were ((if ¬ x2 = 0 then 90 else 85), [some (qA 82), some (qI x1), some (qI x2), some (qI x3), some (qI x4), some (qI x5), some (qI x6)], [], qH0 (qup M 83 x1 x3)) := by
  refine Eq.trans (qlim_n (n := 4) (c' := (80, [some (qA 82), some (qI x1), some (qI x2), some (qI x3), some (qI x4), some (qI x5), some (qI x6)], [qI x3, qI x1, qA 83], qH0 M)) rfl) ?_
  refine Eq.trans (qs_iastore rfl rfl h1 h2) ?_
  exact (qlim_n (n := 2) (c' := ((if ¬ x2 = 0 then 90 else 85), [some (qA 82), some (qI x1), some (qI x2), some (qI x3), some (qI x4), some (qI x5), some (qI x6)], [], qH0 (qup M 83 x1 x3))) rfl)
set_option maxRecDepth 20000 in
theorem B_X12_were_85 {M : qMem} {x1 x2 x3 x4 x5 x6 : Int} : qlim C_X12_were (85, [some (qA 82), some (qI x1), some (qI x2), some (qI x3), some (qI x4), some (qI x5), some (qI x6)], [], qH0 M) = qlim C_X12_were (92, [some (qA 82), some (qI x1), some (qI x2), some (qI x3), some (qI x4), some (qI x5), some (qI x6)], [qI x4], qH0 M) := (qlim_n (n := 2) (c' := (92, [some (qA 82), some (qI x1), some (qI x2), some (qI x3), some (qI x4), some (qI x5), some (qI x6)], [qI x4], qH0 M)) rfl)
set_option maxRecDepth 20000 in
theorem B_X12_were_90 {M : qMem} {x1 x2 x3 x4 x5 x6 : Int} : qlim C_X12_were (90, [some (qA 82), some (qI x1), some (qI x2), some (qI x3), some (qI x4), some (qI x5), some (qI x6)], [], qH0 M) = qlim C_X12_were (92, [some (qA 82), some (qI x1), some (qI x2), some (qI x3), some (qI x4), some (qI x5), some (qI x6)], [qI x5], qH0 M) := (qlim_n (n := 1) (c' := (92, [some (qA 82), some (qI x1), some (qI x2), some (qI x3), some (qI x4), some (qI x5), some (qI x6)], [qI x5], qH0 M)) rfl)
set_option maxRecDepth 20000 in
theorem B_X12_were_92 {M : qMem} {x1 x2 x3 x4 x5 x6 s0 : Int} : qlim C_X12_were (92, [some (qA 82), some (qI x1), some (qI x2), some (qI x3), some (qI x4), some (qI x5), some (qI x6)], [qI s0], qH0 M) = some (some (qI s0), qH0 M) := (qlim_ret rfl)
theorem E_X12_were {h : qH} {x1 x2 : Int} : S_X12_were [qA 82, qI x1, qI x2] h = qlim C_X12_were (0, [some (qA 82), some (qI x1), some (qI x2), none, none, none, none], [], h) := qM_at (Nat.le_of_ble_eq_true rfl) rfl
