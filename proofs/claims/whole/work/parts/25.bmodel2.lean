set_option maxRecDepth 20000 in
theorem B_X12_can_0 {M : qMem} {x1 x2 : Int} : qlim C_X12_can (0, [some (qA 82), some (qI x1), some (qI x2), none, none, none, none], [], qH0 M) = qbd (S_X12_isPerson [qA 82, qI x1] (qH0 M)) (fun r h' => qlim C_X12_can (5, [some (qA 82), some (qI x1), some (qI x2), none, none, none, none], r.toList ++ [], h')) := by
  refine Eq.trans (qlim_n (n := 2) (c' := (2, [some (qA 82), some (qI x1), some (qI x2), none, none, none, none], [qI x1, qA 82], qH0 M)) rfl) ?_
  exact (qlim_callv (n := 1) rfl rfl rfl (Nat.le_of_ble_eq_true rfl) (Nat.le_of_ble_eq_true rfl) rfl)
set_option maxRecDepth 20000 in
theorem B_X12_can_5 {M : qMem} {x1 x2 s0 : Int} : qlim C_X12_can (5, [some (qA 82), some (qI x1), some (qI x2), none, none, none, none], [qI s0], qH0 M) = qlim C_X12_can ((if s0 = 0 then 18 else 8), [some (qA 82), some (qI x1), some (qI x2), none, none, none, none], [], qH0 M) := (qlim_n (n := 1) (c' := ((if s0 = 0 then 18 else 8), [some (qA 82), some (qI x1), some (qI x2), none, none, none, none], [], qH0 M)) rfl)
set_option maxRecDepth 20000 in
theorem B_X12_can_8 {M : qMem} {x1 x2 : Int} : qlim C_X12_can (8, [some (qA 82), some (qI x1), some (qI x2), none, none, none, none], [], qH0 M) = qbd (S_X12_in [qA 82, qI x2, qI 0, qI 1] (qH0 M)) (fun r h' => qlim C_X12_can (15, [some (qA 82), some (qI x1), some (qI x2), none, none, none, none], r.toList ++ [], h')) := by
  refine Eq.trans (qlim_n (n := 4) (c' := (12, [some (qA 82), some (qI x1), some (qI x2), none, none, none, none], [qI 1, qI 0, qI x2, qA 82], qH0 M)) rfl) ?_
  exact (qlim_callv (n := 3) rfl rfl rfl (Nat.le_of_ble_eq_true rfl) (Nat.le_of_ble_eq_true rfl) rfl)
set_option maxRecDepth 20000 in
theorem B_X12_can_15 {M : qMem} {x1 x2 s0 : Int} : qlim C_X12_can (15, [some (qA 82), some (qI x1), some (qI x2), none, none, none, none], [qI s0], qH0 M) = qlim C_X12_can ((if ¬ s0 = 0 then 20 else 18), [some (qA 82), some (qI x1), some (qI x2), none, none, none, none], [], qH0 M) := (qlim_n (n := 1) (c' := ((if ¬ s0 = 0 then 20 else 18), [some (qA 82), some (qI x1), some (qI x2), none, none, none, none], [], qH0 M)) rfl)
set_option maxRecDepth 20000 in
theorem B_X12_can_18 {M : qMem} {x1 x2 : Int} : qlim C_X12_can (18, [some (qA 82), some (qI x1), some (qI x2), none, none, none, none], [], qH0 M) = some (some (qI (-1)), qH0 M) := by
  refine Eq.trans (qlim_n (n := 1) (c' := (19, [some (qA 82), some (qI x1), some (qI x2), none, none, none, none], [qI (-1)], qH0 M)) rfl) ?_
  exact (qlim_ret rfl)
set_option maxRecDepth 20000 in
theorem B_X12_can_20 {M : qMem} {x1 x2 : Int} (h1 : 0 ≤ x1) (h2 : x1 < 6) : qlim C_X12_can (20, [some (qA 82), some (qI x1), some (qI x2), none, none, none, none], [], qH0 M) = qlim C_X12_can (38, [some (qA 82), some (qI x1), some (qI x2), some (qI (M 85 x1)), some (qI 0), some (qI (-5)), some (qI 9)], [], qH0 M) := by
  refine Eq.trans (qlim_n (n := 3) (c' := (25, [some (qA 82), some (qI x1), some (qI x2), none, none, none, none], [qI x1, qA 85], qH0 M)) rfl) ?_
  refine Eq.trans (qs_iaload rfl rfl h1 h2) ?_
  exact (qlim_n (n := 7) (c' := (38, [some (qA 82), some (qI x1), some (qI x2), some (qI (M 85 x1)), some (qI 0), some (qI (-5)), some (qI 9)], [], qH0 M)) rfl)
set_option maxRecDepth 20000 in
theorem B_X12_can_38 {M : qMem} {x1 x2 x3 x4 x5 x6 : Int} : qlim C_X12_can (38, [some (qA 82), some (qI x1), some (qI x2), some (qI x3), some (qI x4), some (qI x5), some (qI x6)], [], qH0 M) = qlim C_X12_can ((if x6 < 0 then 74 else 43), [some (qA 82), some (qI x1), some (qI x2), some (qI x3), some (qI x4), some (qI x5), some (qI x6)], [], qH0 M) := (qlim_n (n := 2) (c' := ((if x6 < 0 then 74 else 43), [some (qA 82), some (qI x1), some (qI x2), some (qI x3), some (qI x4), some (qI x5), some (qI x6)], [], qH0 M)) rfl)
set_option maxRecDepth 20000 in
theorem B_X12_can_43 {M : qMem} {x1 x2 x3 x4 x5 x6 : Int} (h1 : 0 ≤ x1) (h2 : x1 < 6) : qlim C_X12_can (43, [some (qA 82), some (qI x1), some (qI x2), some (qI x3), some (qI x4), some (qI x5), some (qI x6)], [], qH0 M) = qbd (S_X12_isSeen [qA 82] (qH0 (qup M 85 x1 x6))) (fun r h' => qlim C_X12_can (55, [some (qA 82), some (qI x1), some (qI x2), some (qI x3), some (qI x4), some (qI x5), some (qI x6)], r.toList ++ [], h')) := by
  refine Eq.trans (qlim_n (n := 4) (c' := (50, [some (qA 82), some (qI x1), some (qI x2), some (qI x3), some (qI x4), some (qI x5), some (qI x6)], [qI x6, qI x1, qA 85], qH0 M)) rfl) ?_
  refine Eq.trans (qs_iastore rfl rfl h1 h2) ?_
  refine Eq.trans (qlim_n (n := 1) (c' := (52, [some (qA 82), some (qI x1), some (qI x2), some (qI x3), some (qI x4), some (qI x5), some (qI x6)], [qA 82], qH0 (qup M 85 x1 x6))) rfl) ?_
  exact (qlim_callv (n := 0) rfl rfl rfl (Nat.le_of_ble_eq_true rfl) (Nat.le_of_ble_eq_true rfl) rfl)
set_option maxRecDepth 20000 in
theorem B_X12_can_55 {M : qMem} {x1 x2 x3 x4 x5 x6 s0 : Int} : qlim C_X12_can (55, [some (qA 82), some (qI x1), some (qI x2), some (qI x3), some (qI x4), some (qI x5), some (qI x6)], [qI s0], qH0 M) = qlim C_X12_can ((if ¬ s0 = 0 then 61 else 58), [some (qA 82), some (qI x1), some (qI x2), some (qI x3), some (qI x4), some (qI x5), some (qI x6)], [], qH0 M) := (qlim_n (n := 1) (c' := ((if ¬ s0 = 0 then 61 else 58), [some (qA 82), some (qI x1), some (qI x2), some (qI x3), some (qI x4), some (qI x5), some (qI x6)], [], qH0 M)) rfl)
set_option maxRecDepth 20000 in
theorem B_X12_can_58 {M : qMem} {x1 x2 x3 x4 x5 x6 : Int} : qlim C_X12_can (58, [some (qA 82), some (qI x1), some (qI x2), some (qI x3), some (qI x4), some (qI x5), some (qI x6)], [], qH0 M) = qlim C_X12_can (68, [some (qA 82), some (qI x1), some (qI x2), some (qI x3), some (qI x4), some (qI x5), some (qI x6)], [], qH0 M) := (qlim_n (n := 1) (c' := (68, [some (qA 82), some (qI x1), some (qI x2), some (qI x3), some (qI x4), some (qI x5), some (qI x6)], [], qH0 M)) rfl)
set_option maxRecDepth 20000 in
theorem B_X12_can_61 {M : qMem} {x1 x2 x3 x4 x5 x6 : Int} : qlim C_X12_can (61, [some (qA 82), some (qI x1), some (qI x2), some (qI x3), some (qI x4), some (qI x5), some (qI x6)], [], qH0 M) = qlim C_X12_can (68, [some (qA 82), some (qI x1), some (qI x2), some (qI x3), some (qI (kadd x4 1)), some (qI x6), some (qI x6)], [], qH0 M) := (qlim_n (n := 3) (c' := (68, [some (qA 82), some (qI x1), some (qI x2), some (qI x3), some (qI (kadd x4 1)), some (qI x6), some (qI x6)], [], qH0 M)) rfl)
set_option maxRecDepth 20000 in
theorem B_X12_can_68 {M : qMem} {x1 x2 x3 x4 x5 x6 : Int} : qlim C_X12_can (68, [some (qA 82), some (qI x1), some (qI x2), some (qI x3), some (qI x4), some (qI x5), some (qI x6)], [], qH0 M) = qlim C_X12_can (38, [some (qA 82), some (qI x1), some (qI x2), some (qI x3), some (qI x4), some (qI x5), some (qI (kadd x6 (-1)))], [], qH0 M) := (qlim_n (n := 2) (c' := (38, [some (qA 82), some (qI x1), some (qI x2), some (qI x3), some (qI x4), some (qI x5), some (qI (kadd x6 (-1)))], [], qH0 M)) rfl)
set_option maxRecDepth 20000 in
theorem B_X12_can_74 {M : qMem} {x1 x2 x3 x4 x5 x6 : Int} (h1 : 0 ≤ x1) (h2 : x1 < 6) : qlim C_X12_can (74, [some (qA 82), some (qI x1), some (qI x2), some (qI x3), some (qI x4), some (qI x5), some (qI x6)], [], qH0 M) = qlim C_X12_can ((if ¬ x2 = 0 then 90 else 85), [some (qA 82), some (qI x1), some (qI x2), some (qI x3), some (qI x4), some (qI x5), some (qI x6)], [], qH0 (qup M 85 x1 x3)) := by
  refine Eq.trans (qlim_n (n := 4) (c' := (80, [some (qA 82), some (qI x1), some (qI x2), some (qI x3), some (qI x4), some (qI x5), some (qI x6)], [qI x3, qI x1, qA 85], qH0 M)) rfl) ?_
  refine Eq.trans (qs_iastore rfl rfl h1 h2) ?_
  exact (qlim_n (n := 2) (c' := ((if ¬ x2 = 0 then 90 else 85), [some (qA 82), some (qI x1), some (qI x2), some (qI x3), some (qI x4), some (qI x5), some (qI x6)], [], qH0 (qup M 85 x1 x3))) rfl)
set_option maxRecDepth 20000 in
theorem B_X12_can_85 {M : qMem} {x1 x2 x3 x4 x5 x6 : Int} : qlim C_X12_can (85, [some (qA 82), some (qI x1), some (qI x2), some (qI x3), some (qI x4), some (qI x5), some (qI x6)], [], qH0 M) = qlim C_X12_can (92, [some (qA 82), some (qI x1), some (qI x2), some (qI x3), some (qI x4), some (qI x5), some (qI x6)], [qI x4], qH0 M) := (qlim_n (n := 2) (c' := (92, [some (qA 82), some (qI x1), some (qI x2), some (qI x3), some (qI x4), some (qI x5), some (qI x6)], [qI x4], qH0 M)) rfl)
set_option maxRecDepth 20000 in
theorem B_X12_can_90 {M : qMem} {x1 x2 x3 x4 x5 x6 : Int} : qlim C_X12_can (90, [some (qA 82), some (qI x1), some (qI x2), some (qI x3), some (qI x4), some (qI x5), some (qI x6)], [], qH0 M) = qlim C_X12_can (92, [some (qA 82), some (qI x1), some (qI x2), some (qI x3), some (qI x4), some (qI x5), some (qI x6)], [qI x5], qH0 M) := (qlim_n (n := 1) (c' := (92, [some (qA 82), some (qI x1), some (qI x2), some (qI x3), some (qI x4), some (qI x5), some (qI x6)], [qI x5], qH0 M)) rfl)
set_option maxRecDepth 20000 in
theorem B_X12_can_92 {M : qMem} {x1 x2 x3 x4 x5 x6 s0 : Int} : qlim C_X12_can (92, [some (qA 82), some (qI x1), some (qI x2), some (qI x3), some (qI x4), some (qI x5), some (qI x6)], [qI s0], qH0 M) = some (some (qI s0), qH0 M) := (qlim_ret rfl)
theorem E_X12_can {h : qH} {x1 x2 : Int} : S_X12_can [qA 82, qI x1, qI x2] h = qlim C_X12_can (0, [some (qA 82), some (qI x1), some (qI x2), none, none, none, none], [], h) := qM_at (Nat.le_of_ble_eq_true rfl) rfl
set_option maxRecDepth 20000 in
theorem B_X12_divisor_0 {M : qMem} {x1 x2 : Int} : qlim C_X12_divisor (0, [some (qA 82), some (qI x1), some (qI x2), none, none, none], [], qH0 M) = qlim C_X12_divisor (5, [some (qA 82), some (qI x1), some (qI x2), some (qI x1), some (qI x2), none], [], qH0 M) := (qlim_n (n := 4) (c' := (5, [some (qA 82), some (qI x1), some (qI x2), some (qI x1), some (qI x2), none], [], qH0 M)) rfl)
set_option maxRecDepth 20000 in
theorem B_X12_divisor_5 {M : qMem} {x1 x2 x3 x4 : Int} {x5 : Option qV} : qlim C_X12_divisor (5, [some (qA 82), some (qI x1), some (qI x2), some (qI x3), some (qI x4), x5], [], qH0 M) = qlim C_X12_divisor ((if x4 = 0 then 26 else 10), [some (qA 82), some (qI x1), some (qI x2), some (qI x3), some (qI x4), x5], [], qH0 M) := (qlim_n (n := 2) (c' := ((if x4 = 0 then 26 else 10), [some (qA 82), some (qI x1), some (qI x2), some (qI x3), some (qI x4), x5], [], qH0 M)) rfl)
set_option maxRecDepth 20000 in
theorem B_X12_divisor_10 {M : qMem} {x1 x2 x3 x4 : Int} {x5 : Option qV} (h1 : ¬ Int32.ofInt x4 = 0) : qlim C_X12_divisor (10, [some (qA 82), some (qI x1), some (qI x2), some (qI x3), some (qI x4), x5], [], qH0 M) = qlim C_X12_divisor (5, [some (qA 82), some (qI x1), some (qI x2), some (qI x4), some (qI (krem x3 x4)), some (qI (krem x3 x4))], [], qH0 M) := by
  refine Eq.trans (qlim_n (n := 2) (c' := (13, [some (qA 82), some (qI x1), some (qI x2), some (qI x3), some (qI x4), x5], [qI x4, qI x3], qH0 M)) rfl) ?_
  refine Eq.trans (qs_irem rfl h1) ?_
  exact (qlim_n (n := 6) (c' := (5, [some (qA 82), some (qI x1), some (qI x2), some (qI x4), some (qI (krem x3 x4)), some (qI (krem x3 x4))], [], qH0 M)) rfl)
set_option maxRecDepth 20000 in
theorem B_X12_divisor_26 {M : qMem} {x1 x2 x3 x4 : Int} {x5 : Option qV} : qlim C_X12_divisor (26, [some (qA 82), some (qI x1), some (qI x2), some (qI x3), some (qI x4), x5], [], qH0 M) = some (some (qI x3), qH0 M) := by
  refine Eq.trans (qlim_n (n := 1) (c' := (27, [some (qA 82), some (qI x1), some (qI x2), some (qI x3), some (qI x4), x5], [qI x3], qH0 M)) rfl) ?_
  exact (qlim_ret rfl)
theorem E_X12_divisor {h : qH} {x1 x2 : Int} : S_X12_divisor [qA 82, qI x1, qI x2] h = qlim C_X12_divisor (0, [some (qA 82), some (qI x1), some (qI x2), none, none, none], [], h) := qM_at (Nat.le_of_ble_eq_true rfl) rfl
set_option maxRecDepth 20000 in
theorem B_X12_lowest_0 {M : qMem} {x1 x2 x3 : Int} : qlim C_X12_lowest (0, [some (qA 82), some (qI x1), some (qI x2), some (qI x3), none], [], qH0 M) = qbd (S_X12_divisor [qA 82, qI x1, qI x2] (qH0 M)) (fun r h' => qlim C_X12_lowest (6, [some (qA 82), some (qI x1), some (qI x2), some (qI x3), none], r.toList ++ [], h')) := by
  refine Eq.trans (qlim_n (n := 3) (c' := (3, [some (qA 82), some (qI x1), some (qI x2), some (qI x3), none], [qI x2, qI x1, qA 82], qH0 M)) rfl) ?_
  exact (qlim_callv (n := 2) rfl rfl rfl (Nat.le_of_ble_eq_true rfl) (Nat.le_of_ble_eq_true rfl) rfl)
set_option maxRecDepth 20000 in
theorem B_X12_lowest_6 {M : qMem} {x1 x2 x3 s0 : Int} : qlim C_X12_lowest (6, [some (qA 82), some (qI x1), some (qI x2), some (qI x3), none], [qI s0], qH0 M) = qlim C_X12_lowest ((if ¬ x3 = 0 then 20 else 12), [some (qA 82), some (qI x1), some (qI x2), some (qI x3), some (qI s0)], [], qH0 M) := (qlim_n (n := 3) (c' := ((if ¬ x3 = 0 then 20 else 12), [some (qA 82), some (qI x1), some (qI x2), some (qI x3), some (qI s0)], [], qH0 M)) rfl)
set_option maxRecDepth 20000 in
theorem B_X12_lowest_12 {M : qMem} {x1 x2 x3 x4 : Int} (h1 : ¬ Int32.ofInt x4 = 0) : qlim C_X12_lowest (12, [some (qA 82), some (qI x1), some (qI x2), some (qI x3), some (qI x4)], [], qH0 M) = qlim C_X12_lowest (25, [some (qA 82), some (qI x1), some (qI x2), some (qI x3), some (qI x4)], [qJ (ki2l (kdiv x1 x4))], qH0 M) := by
  refine Eq.trans (qlim_n (n := 2) (c' := (15, [some (qA 82), some (qI x1), some (qI x2), some (qI x3), some (qI x4)], [qI x4, qI x1], qH0 M)) rfl) ?_
  refine Eq.trans (qs_idiv rfl h1) ?_
  exact (qlim_n (n := 2) (c' := (25, [some (qA 82), some (qI x1), some (qI x2), some (qI x3), some (qI x4)], [qJ (ki2l (kdiv x1 x4))], qH0 M)) rfl)
set_option maxRecDepth 20000 in
theorem B_X12_lowest_20 {M : qMem} {x1 x2 x3 x4 : Int} (h1 : ¬ Int32.ofInt x4 = 0) : qlim C_X12_lowest (20, [some (qA 82), some (qI x1), some (qI x2), some (qI x3), some (qI x4)], [], qH0 M) = qlim C_X12_lowest (25, [some (qA 82), some (qI x1), some (qI x2), some (qI x3), some (qI x4)], [qJ (ki2l (kdiv x2 x4))], qH0 M) := by
  refine Eq.trans (qlim_n (n := 2) (c' := (23, [some (qA 82), some (qI x1), some (qI x2), some (qI x3), some (qI x4)], [qI x4, qI x2], qH0 M)) rfl) ?_
  refine Eq.trans (qs_idiv rfl h1) ?_
  exact (qlim_n (n := 1) (c' := (25, [some (qA 82), some (qI x1), some (qI x2), some (qI x3), some (qI x4)], [qJ (ki2l (kdiv x2 x4))], qH0 M)) rfl)
set_option maxRecDepth 20000 in
theorem B_X12_lowest_25 {M : qMem} {x1 x2 x3 x4 s0 : Int} : qlim C_X12_lowest (25, [some (qA 82), some (qI x1), some (qI x2), some (qI x3), some (qI x4)], [qJ s0], qH0 M) = some (some (qJ s0), qH0 M) := (qlim_ret rfl)
theorem E_X12_lowest {h : qH} {x1 x2 x3 : Int} : S_X12_lowest [qA 82, qI x1, qI x2, qI x3] h = qlim C_X12_lowest (0, [some (qA 82), some (qI x1), some (qI x2), some (qI x3), none], [], h) := qM_at (Nat.le_of_ble_eq_true rfl) rfl
set_option maxRecDepth 20000 in
theorem B_X12_odds_0 {M : qMem} {x1 x2 x3 : Int} : qlim C_X12_odds (0, [some (qA 82), some (qI x1), some (qI x2), some (qI x3), none, none], [], qH0 M) = qbd (S_X12_isMinutes [qA 82, qI x1] (qH0 M)) (fun r h' => qlim C_X12_odds (5, [some (qA 82), some (qI x1), some (qI x2), some (qI x3), none, none], r.toList ++ [], h')) := by
  refine Eq.trans (qlim_n (n := 2) (c' := (2, [some (qA 82), some (qI x1), some (qI x2), some (qI x3), none, none], [qI x1, qA 82], qH0 M)) rfl) ?_
  exact (qlim_callv (n := 1) rfl rfl rfl (Nat.le_of_ble_eq_true rfl) (Nat.le_of_ble_eq_true rfl) rfl)
set_option maxRecDepth 20000 in
theorem B_X12_odds_5 {M : qMem} {x1 x2 x3 s0 : Int} : qlim C_X12_odds (5, [some (qA 82), some (qI x1), some (qI x2), some (qI x3), none, none], [qI s0], qH0 M) = qlim C_X12_odds ((if s0 = 0 then 33 else 8), [some (qA 82), some (qI x1), some (qI x2), some (qI x3), none, none], [], qH0 M) := (qlim_n (n := 1) (c' := ((if s0 = 0 then 33 else 8), [some (qA 82), some (qI x1), some (qI x2), some (qI x3), none, none], [], qH0 M)) rfl)
set_option maxRecDepth 20000 in
theorem B_X12_odds_8 {M : qMem} {x1 x2 x3 : Int} : qlim C_X12_odds (8, [some (qA 82), some (qI x1), some (qI x2), some (qI x3), none, none], [], qH0 M) = qbd (S_X12_isLetters [qA 82, qI x2] (qH0 M)) (fun r h' => qlim C_X12_odds (13, [some (qA 82), some (qI x1), some (qI x2), some (qI x3), none, none], r.toList ++ [], h')) := by
  refine Eq.trans (qlim_n (n := 2) (c' := (10, [some (qA 82), some (qI x1), some (qI x2), some (qI x3), none, none], [qI x2, qA 82], qH0 M)) rfl) ?_
  exact (qlim_callv (n := 1) rfl rfl rfl (Nat.le_of_ble_eq_true rfl) (Nat.le_of_ble_eq_true rfl) rfl)
set_option maxRecDepth 20000 in
theorem B_X12_odds_13 {M : qMem} {x1 x2 x3 s0 : Int} : qlim C_X12_odds (13, [some (qA 82), some (qI x1), some (qI x2), some (qI x3), none, none], [qI s0], qH0 M) = qlim C_X12_odds ((if s0 = 0 then 33 else 16), [some (qA 82), some (qI x1), some (qI x2), some (qI x3), none, none], [], qH0 M) := (qlim_n (n := 1) (c' := ((if s0 = 0 then 33 else 16), [some (qA 82), some (qI x1), some (qI x2), some (qI x3), none, none], [], qH0 M)) rfl)
set_option maxRecDepth 20000 in
theorem B_X12_odds_16 {M : qMem} {x1 x2 x3 : Int} : qlim C_X12_odds (16, [some (qA 82), some (qI x1), some (qI x2), some (qI x3), none, none], [], qH0 M) = qbd (S_X12_in [qA 82, qI x3, qI 0, qI 1] (qH0 M)) (fun r h' => qlim C_X12_odds (23, [some (qA 82), some (qI x1), some (qI x2), some (qI x3), none, none], r.toList ++ [], h')) := by
  refine Eq.trans (qlim_n (n := 4) (c' := (20, [some (qA 82), some (qI x1), some (qI x2), some (qI x3), none, none], [qI 1, qI 0, qI x3, qA 82], qH0 M)) rfl) ?_
  exact (qlim_callv (n := 3) rfl rfl rfl (Nat.le_of_ble_eq_true rfl) (Nat.le_of_ble_eq_true rfl) rfl)
set_option maxRecDepth 20000 in
theorem B_X12_odds_23 {M : qMem} {x1 x2 x3 s0 : Int} : qlim C_X12_odds (23, [some (qA 82), some (qI x1), some (qI x2), some (qI x3), none, none], [qI s0], qH0 M) = qlim C_X12_odds ((if s0 = 0 then 33 else 26), [some (qA 82), some (qI x1), some (qI x2), some (qI x3), none, none], [], qH0 M) := (qlim_n (n := 1) (c' := ((if s0 = 0 then 33 else 26), [some (qA 82), some (qI x1), some (qI x2), some (qI x3), none, none], [], qH0 M)) rfl)
set_option maxRecDepth 20000 in
theorem B_X12_odds_26 {M : qMem} {x1 x2 x3 : Int} : qlim C_X12_odds (26, [some (qA 82), some (qI x1), some (qI x2), some (qI x3), none, none], [], qH0 M) = qlim C_X12_odds ((if ¬ M 82 0 = 0 then 37 else 33), [some (qA 82), some (qI x1), some (qI x2), some (qI x3), none, none], [], qH0 M) := (qlim_n (n := 3) (c' := ((if ¬ M 82 0 = 0 then 37 else 33), [some (qA 82), some (qI x1), some (qI x2), some (qI x3), none, none], [], qH0 M)) rfl)
set_option maxRecDepth 20000 in
theorem B_X12_odds_33 {M : qMem} {x1 x2 x3 : Int} : qlim C_X12_odds (33, [some (qA 82), some (qI x1), some (qI x2), some (qI x3), none, none], [], qH0 M) = some (some (qJ (-9223372036854775808)), qH0 M) := by
  refine Eq.trans (qlim_n (n := 1) (c' := (36, [some (qA 82), some (qI x1), some (qI x2), some (qI x3), none, none], [qJ (-9223372036854775808)], qH0 M)) rfl) ?_
  exact (qlim_ret rfl)
set_option maxRecDepth 20000 in
theorem B_X12_odds_37 {M : qMem} {x1 x2 x3 : Int} : qlim C_X12_odds (37, [some (qA 82), some (qI x1), some (qI x2), some (qI x3), none, none], [], qH0 M) = qlim C_X12_odds (43, [some (qA 82), some (qI x1), some (qI x2), some (qI x3), some (qI 0), some (qI 0)], [], qH0 M) := (qlim_n (n := 4) (c' := (43, [some (qA 82), some (qI x1), some (qI x2), some (qI x3), some (qI 0), some (qI 0)], [], qH0 M)) rfl)
set_option maxRecDepth 20000 in
theorem B_X12_odds_43 {M : qMem} {x1 x2 x3 x4 x5 : Int} : qlim C_X12_odds (43, [some (qA 82), some (qI x1), some (qI x2), some (qI x3), some (qI x4), some (qI x5)], [], qH0 M) = qlim C_X12_odds ((if M 82 0 ≤ x5 then 88 else 52), [some (qA 82), some (qI x1), some (qI x2), some (qI x3), some (qI x4), some (qI x5)], [], qH0 M) := (qlim_n (n := 4) (c' := ((if M 82 0 ≤ x5 then 88 else 52), [some (qA 82), some (qI x1), some (qI x2), some (qI x3), some (qI x4), some (qI x5)], [], qH0 M)) rfl)
set_option maxRecDepth 20000 in
theorem B_X12_odds_52 {M : qMem} {x1 x2 x3 x4 x5 : Int} : qlim C_X12_odds (52, [some (qA 82), some (qI x1), some (qI x2), some (qI x3), some (qI x4), some (qI x5)], [], qH0 M) = qbd (S_X12_save [qA 82] (qH0 M)) (fun r h' => qlim C_X12_odds (56, [some (qA 82), some (qI x1), some (qI x2), some (qI x3), some (qI x4), some (qI x5)], r.toList ++ [], h')) := by
  refine Eq.trans (qlim_n (n := 1) (c' := (53, [some (qA 82), some (qI x1), some (qI x2), some (qI x3), some (qI x4), some (qI x5)], [qA 82], qH0 M)) rfl) ?_
  exact (qlim_callv (n := 0) rfl rfl rfl (Nat.le_of_ble_eq_true rfl) (Nat.le_of_ble_eq_true rfl) rfl)
set_option maxRecDepth 20000 in
theorem B_X12_odds_56 {M : qMem} {x1 x2 x3 x4 x5 : Int} : qlim C_X12_odds (56, [some (qA 82), some (qI x1), some (qI x2), some (qI x3), some (qI x4), some (qI x5)], [], qH0 M) = qbd (S_X12_goes [qA 82, qI x5, qI 1] (qH0 M)) (fun r h' => qlim C_X12_odds (63, [some (qA 82), some (qI x1), some (qI x2), some (qI x3), some (qI x4), some (qI x5)], r.toList ++ [], h')) := by
  refine Eq.trans (qlim_n (n := 3) (c' := (60, [some (qA 82), some (qI x1), some (qI x2), some (qI x3), some (qI x4), some (qI x5)], [qI 1, qI x5, qA 82], qH0 M)) rfl) ?_
  exact (qlim_callv (n := 2) rfl rfl rfl (Nat.le_of_ble_eq_true rfl) (Nat.le_of_ble_eq_true rfl) rfl)
set_option maxRecDepth 20000 in
theorem B_X12_odds_63 {M : qMem} {x1 x2 x3 x4 x5 : Int} : qlim C_X12_odds (63, [some (qA 82), some (qI x1), some (qI x2), some (qI x3), some (qI x4), some (qI x5)], [], qH0 M) = qbd (S_X12_yieldThen [qA 82, qI x1] (qH0 M)) (fun r h' => qlim C_X12_odds (70, [some (qA 82), some (qI x1), some (qI x2), some (qI x3), some (qI x4), some (qI x5)], r.toList ++ [qI x4], h')) := by
  refine Eq.trans (qlim_n (n := 3) (c' := (67, [some (qA 82), some (qI x1), some (qI x2), some (qI x3), some (qI x4), some (qI x5)], [qI x1, qA 82, qI x4], qH0 M)) rfl) ?_
  exact (qlim_callv (n := 1) rfl rfl rfl (Nat.le_of_ble_eq_true rfl) (Nat.le_of_ble_eq_true rfl) rfl)
set_option maxRecDepth 20000 in
theorem B_X12_odds_70 {M : qMem} {x1 x2 x3 x4 x5 s0 s1 : Int} : qlim C_X12_odds (70, [some (qA 82), some (qI x1), some (qI x2), some (qI x3), some (qI x4), some (qI x5)], [qI s1, qI s0], qH0 M) = qlim C_X12_odds ((if s1 < x2 then 78 else 74), [some (qA 82), some (qI x1), some (qI x2), some (qI x3), some (qI x4), some (qI x5)], [qI s0], qH0 M) := (qlim_n (n := 2) (c' := ((if s1 < x2 then 78 else 74), [some (qA 82), some (qI x1), some (qI x2), some (qI x3), some (qI x4), some (qI x5)], [qI s0], qH0 M)) rfl)
set_option maxRecDepth 20000 in
theorem B_X12_odds_74 {M : qMem} {x1 x2 x3 x4 x5 s0 : Int} : qlim C_X12_odds (74, [some (qA 82), some (qI x1), some (qI x2), some (qI x3), some (qI x4), some (qI x5)], [qI s0], qH0 M) = qlim C_X12_odds (79, [some (qA 82), some (qI x1), some (qI x2), some (qI x3), some (qI x4), some (qI x5)], [qI 1, qI s0], qH0 M) := (qlim_n (n := 2) (c' := (79, [some (qA 82), some (qI x1), some (qI x2), some (qI x3), some (qI x4), some (qI x5)], [qI 1, qI s0], qH0 M)) rfl)
set_option maxRecDepth 20000 in
theorem B_X12_odds_78 {M : qMem} {x1 x2 x3 x4 x5 s0 : Int} : qlim C_X12_odds (78, [some (qA 82), some (qI x1), some (qI x2), some (qI x3), some (qI x4), some (qI x5)], [qI s0], qH0 M) = qlim C_X12_odds (79, [some (qA 82), some (qI x1), some (qI x2), some (qI x3), some (qI x4), some (qI x5)], [qI 0, qI s0], qH0 M) := (qlim_n (n := 1) (c' := (79, [some (qA 82), some (qI x1), some (qI x2), some (qI x3), some (qI x4), some (qI x5)], [qI 0, qI s0], qH0 M)) rfl)
set_option maxRecDepth 20000 in
theorem B_X12_odds_79 {M : qMem} {x1 x2 x3 x4 x5 s0 s1 : Int} : qlim C_X12_odds (79, [some (qA 82), some (qI x1), some (qI x2), some (qI x3), some (qI x4), some (qI x5)], [qI s1, qI s0], qH0 M) = qlim C_X12_odds (43, [some (qA 82), some (qI x1), some (qI x2), some (qI x3), some (qI (kadd s0 s1)), some (qI (kadd x5 1))], [], qH0 M) := (qlim_n (n := 4) (c' := (43, [some (qA 82), some (qI x1), some (qI x2), some (qI x3), some (qI (kadd s0 s1)), some (qI (kadd x5 1))], [], qH0 M)) rfl)
set_option maxRecDepth 20000 in
theorem B_X12_odds_88 {M : qMem} {x1 x2 x3 x4 x5 : Int} : qlim C_X12_odds (88, [some (qA 82), some (qI x1), some (qI x2), some (qI x3), some (qI x4), some (qI x5)], [], qH0 M) = qbd (S_X12_lowest [qA 82, qI x4, qI (M 82 0), qI x3] (qH0 M)) (fun r h' => qlim C_X12_odds (99, [some (qA 82), some (qI x1), some (qI x2), some (qI x3), some (qI x4), some (qI x5)], r.toList ++ [], h')) := by
  refine Eq.trans (qlim_n (n := 5) (c' := (96, [some (qA 82), some (qI x1), some (qI x2), some (qI x3), some (qI x4), some (qI x5)], [qI x3, qI (M 82 0), qI x4, qA 82], qH0 M)) rfl) ?_
  exact (qlim_callv (n := 3) rfl rfl rfl (Nat.le_of_ble_eq_true rfl) (Nat.le_of_ble_eq_true rfl) rfl)
set_option maxRecDepth 20000 in
theorem B_X12_odds_99 {M : qMem} {x1 x2 x3 x4 x5 s0 : Int} : qlim C_X12_odds (99, [some (qA 82), some (qI x1), some (qI x2), some (qI x3), some (qI x4), some (qI x5)], [qJ s0], qH0 M) = some (some (qJ s0), qH0 M) := (qlim_ret rfl)
theorem E_X12_odds {h : qH} {x1 x2 x3 : Int} : S_X12_odds [qA 82, qI x1, qI x2, qI x3] h = qlim C_X12_odds (0, [some (qA 82), some (qI x1), some (qI x2), some (qI x3), none, none], [], h) := qM_at (Nat.le_of_ble_eq_true rfl) rfl
set_option maxRecDepth 20000 in
theorem B_X12_mean_0 {M : qMem} {x1 x2 : Int} : qlim C_X12_mean (0, [some (qA 82), some (qI x1), some (qI x2), none, none], [], qH0 M) = qbd (S_X12_isMinutes [qA 82, qI x1] (qH0 M)) (fun r h' => qlim C_X12_mean (5, [some (qA 82), some (qI x1), some (qI x2), none, none], r.toList ++ [], h')) := by
  refine Eq.trans (qlim_n (n := 2) (c' := (2, [some (qA 82), some (qI x1), some (qI x2), none, none], [qI x1, qA 82], qH0 M)) rfl) ?_
  exact (qlim_callv (n := 1) rfl rfl rfl (Nat.le_of_ble_eq_true rfl) (Nat.le_of_ble_eq_true rfl) rfl)
set_option maxRecDepth 20000 in
theorem B_X12_mean_5 {M : qMem} {x1 x2 s0 : Int} : qlim C_X12_mean (5, [some (qA 82), some (qI x1), some (qI x2), none, none], [qI s0], qH0 M) = qlim C_X12_mean ((if s0 = 0 then 25 else 8), [some (qA 82), some (qI x1), some (qI x2), none, none], [], qH0 M) := (qlim_n (n := 1) (c' := ((if s0 = 0 then 25 else 8), [some (qA 82), some (qI x1), some (qI x2), none, none], [], qH0 M)) rfl)
set_option maxRecDepth 20000 in
theorem B_X12_mean_8 {M : qMem} {x1 x2 : Int} : qlim C_X12_mean (8, [some (qA 82), some (qI x1), some (qI x2), none, none], [], qH0 M) = qbd (S_X12_in [qA 82, qI x2, qI 0, qI 1] (qH0 M)) (fun r h' => qlim C_X12_mean (15, [some (qA 82), some (qI x1), some (qI x2), none, none], r.toList ++ [], h')) := by
  refine Eq.trans (qlim_n (n := 4) (c' := (12, [some (qA 82), some (qI x1), some (qI x2), none, none], [qI 1, qI 0, qI x2, qA 82], qH0 M)) rfl) ?_
  exact (qlim_callv (n := 3) rfl rfl rfl (Nat.le_of_ble_eq_true rfl) (Nat.le_of_ble_eq_true rfl) rfl)
set_option maxRecDepth 20000 in
theorem B_X12_mean_15 {M : qMem} {x1 x2 s0 : Int} : qlim C_X12_mean (15, [some (qA 82), some (qI x1), some (qI x2), none, none], [qI s0], qH0 M) = qlim C_X12_mean ((if s0 = 0 then 25 else 18), [some (qA 82), some (qI x1), some (qI x2), none, none], [], qH0 M) := (qlim_n (n := 1) (c' := ((if s0 = 0 then 25 else 18), [some (qA 82), some (qI x1), some (qI x2), none, none], [], qH0 M)) rfl)
set_option maxRecDepth 20000 in
theorem B_X12_mean_18 {M : qMem} {x1 x2 : Int} : qlim C_X12_mean (18, [some (qA 82), some (qI x1), some (qI x2), none, none], [], qH0 M) = qlim C_X12_mean ((if ¬ M 82 0 = 0 then 29 else 25), [some (qA 82), some (qI x1), some (qI x2), none, none], [], qH0 M) := (qlim_n (n := 3) (c' := ((if ¬ M 82 0 = 0 then 29 else 25), [some (qA 82), some (qI x1), some (qI x2), none, none], [], qH0 M)) rfl)
set_option maxRecDepth 20000 in
theorem B_X12_mean_25 {M : qMem} {x1 x2 : Int} : qlim C_X12_mean (25, [some (qA 82), some (qI x1), some (qI x2), none, none], [], qH0 M) = some (some (qJ (-9223372036854775808)), qH0 M) := by
  refine Eq.trans (qlim_n (n := 1) (c' := (28, [some (qA 82), some (qI x1), some (qI x2), none, none], [qJ (-9223372036854775808)], qH0 M)) rfl) ?_
  exact (qlim_ret rfl)
set_option maxRecDepth 20000 in
theorem B_X12_mean_29 {M : qMem} {x1 x2 : Int} : qlim C_X12_mean (29, [some (qA 82), some (qI x1), some (qI x2), none, none], [], qH0 M) = qbd (S_X12_save [qA 82] (qH0 M)) (fun r h' => qlim C_X12_mean (33, [some (qA 82), some (qI x1), some (qI x2), none, none], r.toList ++ [], h')) := by
  refine Eq.trans (qlim_n (n := 1) (c' := (30, [some (qA 82), some (qI x1), some (qI x2), none, none], [qA 82], qH0 M)) rfl) ?_
  exact (qlim_callv (n := 0) rfl rfl rfl (Nat.le_of_ble_eq_true rfl) (Nat.le_of_ble_eq_true rfl) rfl)
set_option maxRecDepth 20000 in
theorem B_X12_mean_33 {M : qMem} {x1 x2 : Int} : qlim C_X12_mean (33, [some (qA 82), some (qI x1), some (qI x2), none, none], [], qH0 M) = qbd (S_X12_goMinutes [qA 82, qI x1] (qH0 M)) (fun r h' => qlim C_X12_mean (38, [some (qA 82), some (qI x1), some (qI x2), none, none], r.toList ++ [], h')) := by
  refine Eq.trans (qlim_n (n := 2) (c' := (35, [some (qA 82), some (qI x1), some (qI x2), none, none], [qI x1, qA 82], qH0 M)) rfl) ?_
  exact (qlim_callv (n := 1) rfl rfl rfl (Nat.le_of_ble_eq_true rfl) (Nat.le_of_ble_eq_true rfl) rfl)
set_option maxRecDepth 20000 in
theorem B_X12_mean_38 {M : qMem} {x1 x2 : Int} : qlim C_X12_mean (38, [some (qA 82), some (qI x1), some (qI x2), none, none], [], qH0 M) = qlim C_X12_mean (43, [some (qA 82), some (qI x1), some (qI x2), some (qI 0), some (qI 0)], [], qH0 M) := (qlim_n (n := 4) (c' := (43, [some (qA 82), some (qI x1), some (qI x2), some (qI 0), some (qI 0)], [], qH0 M)) rfl)
set_option maxRecDepth 20000 in
theorem B_X12_mean_43 {M : qMem} {x1 x2 x3 x4 : Int} : qlim C_X12_mean (43, [some (qA 82), some (qI x1), some (qI x2), some (qI x3), some (qI x4)], [], qH0 M) = qlim C_X12_mean ((if M 82 0 ≤ x4 then 76 else 52), [some (qA 82), some (qI x1), some (qI x2), some (qI x3), some (qI x4)], [], qH0 M) := (qlim_n (n := 4) (c' := ((if M 82 0 ≤ x4 then 76 else 52), [some (qA 82), some (qI x1), some (qI x2), some (qI x3), some (qI x4)], [], qH0 M)) rfl)
set_option maxRecDepth 20000 in
theorem B_X12_mean_52 {M : qMem} {x1 x2 x3 x4 : Int} (h1 : 0 ≤ x4) (h2 : x4 < 6) : qlim C_X12_mean (52, [some (qA 82), some (qI x1), some (qI x2), some (qI x3), some (qI x4)], [], qH0 M) = qlim C_X12_mean (43, [some (qA 82), some (qI x1), some (qI x2), some (qI (kadd x3 (ksub (M 88 x4) (M 103 x4)))), some (qI (kadd x4 1))], [], qH0 M) := by
  refine Eq.trans (qlim_n (n := 4) (c' := (59, [some (qA 82), some (qI x1), some (qI x2), some (qI x3), some (qI x4)], [qI x4, qA 88, qI x3], qH0 M)) rfl) ?_
  refine Eq.trans (qs_iaload rfl rfl h1 h2) ?_
  refine Eq.trans (qlim_n (n := 3) (c' := (66, [some (qA 82), some (qI x1), some (qI x2), some (qI x3), some (qI x4)], [qI x4, qA 103, qI (M 88 x4), qI x3], qH0 M)) rfl) ?_
  refine Eq.trans (qs_iaload rfl rfl h1 h2) ?_
  exact (qlim_n (n := 5) (c' := (43, [some (qA 82), some (qI x1), some (qI x2), some (qI (kadd x3 (ksub (M 88 x4) (M 103 x4)))), some (qI (kadd x4 1))], [], qH0 M)) rfl)
set_option maxRecDepth 20000 in
theorem B_X12_mean_76 {M : qMem} {x1 x2 x3 x4 : Int} : qlim C_X12_mean (76, [some (qA 82), some (qI x1), some (qI x2), some (qI x3), some (qI x4)], [], qH0 M) = qbd (S_X12_putBack [qA 82] (qH0 M)) (fun r h' => qlim C_X12_mean (80, [some (qA 82), some (qI x1), some (qI x2), some (qI x3), some (qI x4)], r.toList ++ [], h')) := by
  refine Eq.trans (qlim_n (n := 1) (c' := (77, [some (qA 82), some (qI x1), some (qI x2), some (qI x3), some (qI x4)], [qA 82], qH0 M)) rfl) ?_
  exact (qlim_callv (n := 0) rfl rfl rfl (Nat.le_of_ble_eq_true rfl) (Nat.le_of_ble_eq_true rfl) rfl)
set_option maxRecDepth 20000 in
theorem B_X12_mean_80 {M : qMem} {x1 x2 x3 x4 : Int} : qlim C_X12_mean (80, [some (qA 82), some (qI x1), some (qI x2), some (qI x3), some (qI x4)], [], qH0 M) = qbd (S_X12_lowest [qA 82, qI x3, qI (M 82 0), qI x2] (qH0 M)) (fun r h' => qlim C_X12_mean (90, [some (qA 82), some (qI x1), some (qI x2), some (qI x3), some (qI x4)], r.toList ++ [], h')) := by
  refine Eq.trans (qlim_n (n := 5) (c' := (87, [some (qA 82), some (qI x1), some (qI x2), some (qI x3), some (qI x4)], [qI x2, qI (M 82 0), qI x3, qA 82], qH0 M)) rfl) ?_
  exact (qlim_callv (n := 3) rfl rfl rfl (Nat.le_of_ble_eq_true rfl) (Nat.le_of_ble_eq_true rfl) rfl)
set_option maxRecDepth 20000 in
theorem B_X12_mean_90 {M : qMem} {x1 x2 x3 x4 s0 : Int} : qlim C_X12_mean (90, [some (qA 82), some (qI x1), some (qI x2), some (qI x3), some (qI x4)], [qJ s0], qH0 M) = some (some (qJ s0), qH0 M) := (qlim_ret rfl)
theorem E_X12_mean {h : qH} {x1 x2 : Int} : S_X12_mean [qA 82, qI x1, qI x2] h = qlim C_X12_mean (0, [some (qA 82), some (qI x1), some (qI x2), none, none], [], h) := qM_at (Nat.le_of_ble_eq_true rfl) rfl
set_option maxRecDepth 20000 in
theorem B_X12_evening_0 {M : qMem} {x1 x2 : Int} : qlim C_X12_evening (0, [some (qA 82), some (qI x1), some (qI x2)], [], qH0 M) = qlim C_X12_evening ((if ¬ x1 = (-1) then 12 else 5), [some (qA 82), some (qI x1), some (qI x2)], [], qH0 M) := (qlim_n (n := 3) (c' := ((if ¬ x1 = (-1) then 12 else 5), [some (qA 82), some (qI x1), some (qI x2)], [], qH0 M)) rfl)
set_option maxRecDepth 20000 in
theorem B_X12_evening_5 {M : qMem} {x1 x2 : Int} : qlim C_X12_evening (5, [some (qA 82), some (qI x1), some (qI x2)], [], qH0 M) = some (some (qI 0), qH0 (qup M 82 41 0)) := by
  refine Eq.trans (qlim_n (n := 4) (c' := (11, [some (qA 82), some (qI x1), some (qI x2)], [qI 0], qH0 (qup M 82 41 0))) rfl) ?_
  exact (qlim_ret rfl)
set_option maxRecDepth 20000 in
theorem B_X12_evening_12 {M : qMem} {x1 x2 : Int} : qlim C_X12_evening (12, [some (qA 82), some (qI x1), some (qI x2)], [], qH0 M) = qbd (S_X12_in [qA 82, qI x1, qI 0, qI 5] (qH0 M)) (fun r h' => qlim C_X12_evening (19, [some (qA 82), some (qI x1), some (qI x2)], r.toList ++ [], h')) := by
  refine Eq.trans (qlim_n (n := 4) (c' := (16, [some (qA 82), some (qI x1), some (qI x2)], [qI 5, qI 0, qI x1, qA 82], qH0 M)) rfl) ?_
  exact (qlim_callv (n := 3) rfl rfl rfl (Nat.le_of_ble_eq_true rfl) (Nat.le_of_ble_eq_true rfl) rfl)
set_option maxRecDepth 20000 in
theorem B_X12_evening_19 {M : qMem} {x1 x2 s0 : Int} : qlim C_X12_evening (19, [some (qA 82), some (qI x1), some (qI x2)], [qI s0], qH0 M) = qlim C_X12_evening ((if s0 = 0 then 34 else 22), [some (qA 82), some (qI x1), some (qI x2)], [], qH0 M) := (qlim_n (n := 1) (c' := ((if s0 = 0 then 34 else 22), [some (qA 82), some (qI x1), some (qI x2)], [], qH0 M)) rfl)
set_option maxRecDepth 20000 in
theorem B_X12_evening_22 {M : qMem} {x1 x2 : Int} : qlim C_X12_evening (22, [some (qA 82), some (qI x1), some (qI x2)], [], qH0 M) = qlim C_X12_evening ((if x1 ≤ 0 then 36 else 26), [some (qA 82), some (qI x1), some (qI x2)], [], qH0 M) := (qlim_n (n := 2) (c' := ((if x1 ≤ 0 then 36 else 26), [some (qA 82), some (qI x1), some (qI x2)], [], qH0 M)) rfl)
set_option maxRecDepth 20000 in
theorem B_X12_evening_26 {M : qMem} {x1 x2 : Int} : qlim C_X12_evening (26, [some (qA 82), some (qI x1), some (qI x2)], [], qH0 M) = qbd (S_X12_isPerson [qA 82, qI x2] (qH0 M)) (fun r h' => qlim C_X12_evening (31, [some (qA 82), some (qI x1), some (qI x2)], r.toList ++ [], h')) := by
  refine Eq.trans (qlim_n (n := 2) (c' := (28, [some (qA 82), some (qI x1), some (qI x2)], [qI x2, qA 82], qH0 M)) rfl) ?_
  exact (qlim_callv (n := 1) rfl rfl rfl (Nat.le_of_ble_eq_true rfl) (Nat.le_of_ble_eq_true rfl) rfl)
set_option maxRecDepth 20000 in
theorem B_X12_evening_31 {M : qMem} {x1 x2 s0 : Int} : qlim C_X12_evening (31, [some (qA 82), some (qI x1), some (qI x2)], [qI s0], qH0 M) = qlim C_X12_evening ((if ¬ s0 = 0 then 36 else 34), [some (qA 82), some (qI x1), some (qI x2)], [], qH0 M) := (qlim_n (n := 1) (c' := ((if ¬ s0 = 0 then 36 else 34), [some (qA 82), some (qI x1), some (qI x2)], [], qH0 M)) rfl)
set_option maxRecDepth 20000 in
theorem B_X12_evening_34 {M : qMem} {x1 x2 : Int} : qlim C_X12_evening (34, [some (qA 82), some (qI x1), some (qI x2)], [], qH0 M) = some (some (qI (-1)), qH0 M) := by
  refine Eq.trans (qlim_n (n := 1) (c' := (35, [some (qA 82), some (qI x1), some (qI x2)], [qI (-1)], qH0 M)) rfl) ?_
  exact (qlim_ret rfl)
set_option maxRecDepth 20000 in
theorem B_X12_evening_36 {M : qMem} {x1 x2 : Int} : qlim C_X12_evening (36, [some (qA 82), some (qI x1), some (qI x2)], [], qH0 M) = qlim C_X12_evening ((if ¬ M 82 41 = 10 then 48 else 45), [some (qA 82), some (qI x1), some (qI x2)], [], qH0 M) := (qlim_n (n := 4) (c' := ((if ¬ M 82 41 = 10 then 48 else 45), [some (qA 82), some (qI x1), some (qI x2)], [], qH0 M)) rfl)
set_option maxRecDepth 20000 in
theorem B_X12_evening_45 {M : qMem} {x1 x2 : Int} : qlim C_X12_evening (45, [some (qA 82), some (qI x1), some (qI x2)], [], qH0 M) = some (some (qI (-4)), qH0 M) := by
  refine Eq.trans (qlim_n (n := 1) (c' := (47, [some (qA 82), some (qI x1), some (qI x2)], [qI (-4)], qH0 M)) rfl) ?_
  exact (qlim_ret rfl)
set_option maxRecDepth 20000 in
theorem B_X12_evening_48 {M : qMem} {x1 x2 : Int} (h1 : 0 ≤ M 82 41) (h2 : M 82 41 < 10) : qlim C_X12_evening (48, [some (qA 82), some (qI x1), some (qI x2)], [], qH0 M) = qlim C_X12_evening ((if x1 ≤ 0 then 74 else 70), [some (qA 82), some (qI x1), some (qI x2)], [qI ((qup M 107 (M 82 41) x1) 82 41), qA 108], qH0 (qup M 107 (M 82 41) x1)) := by
  refine Eq.trans (qlim_n (n := 5) (c' := (57, [some (qA 82), some (qI x1), some (qI x2)], [qI x1, qI (M 82 41), qA 107], qH0 M)) rfl) ?_
  refine Eq.trans (qs_iastore rfl rfl h1 h2) ?_
  exact (qlim_n (n := 6) (c' := ((if x1 ≤ 0 then 74 else 70), [some (qA 82), some (qI x1), some (qI x2)], [qI ((qup M 107 (M 82 41) x1) 82 41), qA 108], qH0 (qup M 107 (M 82 41) x1))) rfl)
set_option maxRecDepth 20000 in
theorem B_X12_evening_70 {M : qMem} {x1 x2 s1 : Int} : qlim C_X12_evening (70, [some (qA 82), some (qI x1), some (qI x2)], [qI s1, qA 108], qH0 M) = qlim C_X12_evening (75, [some (qA 82), some (qI x1), some (qI x2)], [qI x2, qI s1, qA 108], qH0 M) := (qlim_n (n := 2) (c' := (75, [some (qA 82), some (qI x1), some (qI x2)], [qI x2, qI s1, qA 108], qH0 M)) rfl)
set_option maxRecDepth 20000 in
theorem B_X12_evening_74 {M : qMem} {x1 x2 s1 : Int} : qlim C_X12_evening (74, [some (qA 82), some (qI x1), some (qI x2)], [qI s1, qA 108], qH0 M) = qlim C_X12_evening (75, [some (qA 82), some (qI x1), some (qI x2)], [qI 0, qI s1, qA 108], qH0 M) := (qlim_n (n := 1) (c' := (75, [some (qA 82), some (qI x1), some (qI x2)], [qI 0, qI s1, qA 108], qH0 M)) rfl)
set_option maxRecDepth 20000 in
theorem B_X12_evening_75 {M : qMem} {x1 x2 s1 s2 : Int} (h1 : 0 ≤ s1) (h2 : s1 < 10) : qlim C_X12_evening (75, [some (qA 82), some (qI x1), some (qI x2)], [qI s2, qI s1, qA 108], qH0 M) = some (some (qI ((qup (qup M 108 s1 s2) 82 41 (kadd ((qup M 108 s1 s2) 82 41) 1)) 82 41)), qH0 (qup (qup M 108 s1 s2) 82 41 (kadd ((qup M 108 s1 s2) 82 41) 1))) := by
  refine Eq.trans (qs_iastore rfl rfl h1 h2) ?_
  refine Eq.trans (qlim_n (n := 8) (c' := (90, [some (qA 82), some (qI x1), some (qI x2)], [qI ((qup (qup M 108 s1 s2) 82 41 (kadd ((qup M 108 s1 s2) 82 41) 1)) 82 41)], qH0 (qup (qup M 108 s1 s2) 82 41 (kadd ((qup M 108 s1 s2) 82 41) 1)))) rfl) ?_
  exact (qlim_ret rfl)
theorem E_X12_evening {h : qH} {x1 x2 : Int} : S_X12_evening [qA 82, qI x1, qI x2] h = qlim C_X12_evening (0, [some (qA 82), some (qI x1), some (qI x2)], [], h) := qM_at (Nat.le_of_ble_eq_true rfl) rfl
set_option maxRecDepth 20000 in
theorem B_X12_ends_0 {M : qMem} {x1 : Int} : qlim C_X12_ends (0, [some (qA 82), some (qI x1), none, none], [], qH0 M) = qbd (S_X12_in [qA 82, qI x1, qI 0, qI 1] (qH0 M)) (fun r h' => qlim C_X12_ends (7, [some (qA 82), some (qI x1), none, none], r.toList ++ [], h')) := by
  refine Eq.trans (qlim_n (n := 4) (c' := (4, [some (qA 82), some (qI x1), none, none], [qI 1, qI 0, qI x1, qA 82], qH0 M)) rfl) ?_
  exact (qlim_callv (n := 3) rfl rfl rfl (Nat.le_of_ble_eq_true rfl) (Nat.le_of_ble_eq_true rfl) rfl)
set_option maxRecDepth 20000 in
theorem B_X12_ends_7 {M : qMem} {x1 s0 : Int} : qlim C_X12_ends (7, [some (qA 82), some (qI x1), none, none], [qI s0], qH0 M) = qlim C_X12_ends ((if ¬ s0 = 0 then 12 else 10), [some (qA 82), some (qI x1), none, none], [], qH0 M) := (qlim_n (n := 1) (c' := ((if ¬ s0 = 0 then 12 else 10), [some (qA 82), some (qI x1), none, none], [], qH0 M)) rfl)
set_option maxRecDepth 20000 in
theorem B_X12_ends_10 {M : qMem} {x1 : Int} : qlim C_X12_ends (10, [some (qA 82), some (qI x1), none, none], [], qH0 M) = some (some (qI (-1)), qH0 M) := by
  refine Eq.trans (qlim_n (n := 1) (c' := (11, [some (qA 82), some (qI x1), none, none], [qI (-1)], qH0 M)) rfl) ?_
  exact (qlim_ret rfl)
set_option maxRecDepth 20000 in
theorem B_X12_ends_12 {M : qMem} {x1 : Int} : qlim C_X12_ends (12, [some (qA 82), some (qI x1), none, none], [], qH0 M) = qbd (S_X12_save [qA 82] (qH0 M)) (fun r h' => qlim C_X12_ends (16, [some (qA 82), some (qI x1), none, none], r.toList ++ [], h')) := by
  refine Eq.trans (qlim_n (n := 1) (c' := (13, [some (qA 82), some (qI x1), none, none], [qA 82], qH0 M)) rfl) ?_
  exact (qlim_callv (n := 0) rfl rfl rfl (Nat.le_of_ble_eq_true rfl) (Nat.le_of_ble_eq_true rfl) rfl)
set_option maxRecDepth 20000 in
theorem B_X12_ends_16 {M : qMem} {x1 : Int} : qlim C_X12_ends (16, [some (qA 82), some (qI x1), none, none], [], qH0 M) = qlim C_X12_ends (18, [some (qA 82), some (qI x1), some (qI 0), none], [], qH0 M) := (qlim_n (n := 2) (c' := (18, [some (qA 82), some (qI x1), some (qI 0), none], [], qH0 M)) rfl)
set_option maxRecDepth 20000 in
theorem B_X12_ends_18 {M : qMem} {x1 x2 : Int} : qlim C_X12_ends (18, [some (qA 82), some (qI x1), some (qI x2), none], [], qH0 M) = qlim C_X12_ends ((if M 82 41 ≤ x2 then 100 else 26), [some (qA 82), some (qI x1), some (qI x2), none], [], qH0 M) := (qlim_n (n := 4) (c' := ((if M 82 41 ≤ x2 then 100 else 26), [some (qA 82), some (qI x1), some (qI x2), none], [], qH0 M)) rfl)
set_option maxRecDepth 20000 in
theorem B_X12_ends_26 {M : qMem} {x1 x2 : Int} (h1 : 0 ≤ x2) (h2 : x2 < 10) : qlim C_X12_ends (26, [some (qA 82), some (qI x1), some (qI x2), none], [], qH0 M) = qlim C_X12_ends ((if ¬ M 107 x2 = 0 then 39 else 35), [some (qA 82), some (qI x1), some (qI x2), none], [], qH0 M) := by
  refine Eq.trans (qlim_n (n := 3) (c' := (31, [some (qA 82), some (qI x1), some (qI x2), none], [qI x2, qA 107], qH0 M)) rfl) ?_
  refine Eq.trans (qs_iaload rfl rfl h1 h2) ?_
  exact (qlim_n (n := 1) (c' := ((if ¬ M 107 x2 = 0 then 39 else 35), [some (qA 82), some (qI x1), some (qI x2), none], [], qH0 M)) rfl)
set_option maxRecDepth 20000 in
theorem B_X12_ends_35 {M : qMem} {x1 x2 : Int} : qlim C_X12_ends (35, [some (qA 82), some (qI x1), some (qI x2), none], [], qH0 M) = qbd (S_X12_goMinute [qA 82] (qH0 M)) (fun r h' => qlim C_X12_ends (39, [some (qA 82), some (qI x1), some (qI x2), none], r.toList ++ [], h')) := by
  refine Eq.trans (qlim_n (n := 1) (c' := (36, [some (qA 82), some (qI x1), some (qI x2), none], [qA 82], qH0 M)) rfl) ?_
  exact (qlim_callv (n := 0) rfl rfl rfl (Nat.le_of_ble_eq_true rfl) (Nat.le_of_ble_eq_true rfl) rfl)
set_option maxRecDepth 20000 in
theorem B_X12_ends_39 {M : qMem} {x1 x2 : Int} (h1 : 0 ≤ x2) (h2 : x2 < 10) : qlim C_X12_ends (39, [some (qA 82), some (qI x1), some (qI x2), none], [], qH0 M) = qbd (S_X12_in [qA 82, qI (M 107 x2), qI 1, qI 4] (qH0 M)) (fun r h' => qlim C_X12_ends (51, [some (qA 82), some (qI x1), some (qI x2), none], r.toList ++ [], h')) := by
  refine Eq.trans (qlim_n (n := 4) (c' := (45, [some (qA 82), some (qI x1), some (qI x2), none], [qI x2, qA 107, qA 82], qH0 M)) rfl) ?_
  refine Eq.trans (qs_iaload rfl rfl h1 h2) ?_
  refine Eq.trans (qlim_n (n := 2) (c' := (48, [some (qA 82), some (qI x1), some (qI x2), none], [qI 4, qI 1, qI (M 107 x2), qA 82], qH0 M)) rfl) ?_
  exact (qlim_callv (n := 3) rfl rfl rfl (Nat.le_of_ble_eq_true rfl) (Nat.le_of_ble_eq_true rfl) rfl)
set_option maxRecDepth 20000 in
theorem B_X12_ends_51 {M : qMem} {x1 x2 s0 : Int} : qlim C_X12_ends (51, [some (qA 82), some (qI x1), some (qI x2), none], [qI s0], qH0 M) = qlim C_X12_ends ((if s0 = 0 then 73 else 54), [some (qA 82), some (qI x1), some (qI x2), none], [], qH0 M) := (qlim_n (n := 1) (c' := ((if s0 = 0 then 73 else 54), [some (qA 82), some (qI x1), some (qI x2), none], [], qH0 M)) rfl)
set_option maxRecDepth 20000 in
theorem B_X12_ends_54 {M : qMem} {x1 x2 : Int} (h1 : 0 ≤ x2) (h2 : x2 < 10) (h3 : 0 ≤ M 108 x2) (h4 : M 108 x2 < 6) : qlim C_X12_ends (54, [some (qA 82), some (qI x1), some (qI x2), none], [], qH0 M) = qlim C_X12_ends (73, [some (qA 82), some (qI x1), some (qI x2), none], [], qH0 (qup M 86 (M 108 x2) (ksub (M 107 x2) 1))) := by
  refine Eq.trans (qlim_n (n := 5) (c' := (63, [some (qA 82), some (qI x1), some (qI x2), none], [qI x2, qA 108, qA 86], qH0 M)) rfl) ?_
  refine Eq.trans (qs_iaload rfl rfl h1 h2) ?_
  refine Eq.trans (qlim_n (n := 3) (c' := (69, [some (qA 82), some (qI x1), some (qI x2), none], [qI x2, qA 107, qI (M 108 x2), qA 86], qH0 M)) rfl) ?_
  refine Eq.trans (qs_iaload rfl rfl h1 h2) ?_
  refine Eq.trans (qlim_n (n := 2) (c' := (72, [some (qA 82), some (qI x1), some (qI x2), none], [qI (ksub (M 107 x2) 1), qI (M 108 x2), qA 86], qH0 M)) rfl) ?_
  exact (qs_iastore rfl rfl h3 h4)
set_option maxRecDepth 20000 in
theorem B_X12_ends_73 {M : qMem} {x1 x2 : Int} (h1 : 0 ≤ x2) (h2 : x2 < 10) : qlim C_X12_ends (73, [some (qA 82), some (qI x1), some (qI x2), none], [], qH0 M) = qlim C_X12_ends ((if ¬ M 107 x2 = 5 then 94 else 83), [some (qA 82), some (qI x1), some (qI x2), none], [], qH0 M) := by
  refine Eq.trans (qlim_n (n := 3) (c' := (78, [some (qA 82), some (qI x1), some (qI x2), none], [qI x2, qA 107], qH0 M)) rfl) ?_
  refine Eq.trans (qs_iaload rfl rfl h1 h2) ?_
  exact (qlim_n (n := 2) (c' := ((if ¬ M 107 x2 = 5 then 94 else 83), [some (qA 82), some (qI x1), some (qI x2), none], [], qH0 M)) rfl)
set_option maxRecDepth 20000 in
theorem B_X12_ends_83 {M : qMem} {x1 x2 : Int} (h1 : 0 ≤ x2) (h2 : x2 < 10) : qlim C_X12_ends (83, [some (qA 82), some (qI x1), some (qI x2), none], [], qH0 M) = qbd (S_X12_goes [qA 82, qI (M 108 x2), qI 1] (qH0 M)) (fun r h' => qlim C_X12_ends (94, [some (qA 82), some (qI x1), some (qI x2), none], r.toList ++ [], h')) := by
  refine Eq.trans (qlim_n (n := 4) (c' := (89, [some (qA 82), some (qI x1), some (qI x2), none], [qI x2, qA 108, qA 82], qH0 M)) rfl) ?_
  refine Eq.trans (qs_iaload rfl rfl h1 h2) ?_
  refine Eq.trans (qlim_n (n := 1) (c' := (91, [some (qA 82), some (qI x1), some (qI x2), none], [qI 1, qI (M 108 x2), qA 82], qH0 M)) rfl) ?_
  exact (qlim_callv (n := 2) rfl rfl rfl (Nat.le_of_ble_eq_true rfl) (Nat.le_of_ble_eq_true rfl) rfl)
set_option maxRecDepth 20000 in
theorem B_X12_ends_94 {M : qMem} {x1 x2 : Int} : qlim C_X12_ends (94, [some (qA 82), some (qI x1), some (qI x2), none], [], qH0 M) = qlim C_X12_ends (18, [some (qA 82), some (qI x1), some (qI (kadd x2 1)), none], [], qH0 M) := (qlim_n (n := 2) (c' := (18, [some (qA 82), some (qI x1), some (qI (kadd x2 1)), none], [], qH0 M)) rfl)
set_option maxRecDepth 20000 in
theorem B_X12_ends_100 {M : qMem} {x1 x2 : Int} : qlim C_X12_ends (100, [some (qA 82), some (qI x1), some (qI x2), none], [], qH0 M) = qlim C_X12_ends (104, [some (qA 82), some (qI x1), some (qI 0), some (qI 0)], [], qH0 M) := (qlim_n (n := 4) (c' := (104, [some (qA 82), some (qI x1), some (qI 0), some (qI 0)], [], qH0 M)) rfl)
set_option maxRecDepth 20000 in
theorem B_X12_ends_104 {M : qMem} {x1 x2 x3 : Int} : qlim C_X12_ends (104, [some (qA 82), some (qI x1), some (qI x2), some (qI x3)], [], qH0 M) = qlim C_X12_ends ((if M 82 0 ≤ x3 then 134 else 112), [some (qA 82), some (qI x1), some (qI x2), some (qI x3)], [], qH0 M) := (qlim_n (n := 4) (c' := ((if M 82 0 ≤ x3 then 134 else 112), [some (qA 82), some (qI x1), some (qI x2), some (qI x3)], [], qH0 M)) rfl)
set_option maxRecDepth 20000 in
theorem B_X12_ends_112 {M : qMem} {x1 x2 x3 : Int} (h1 : 0 ≤ x3) (h2 : x3 < 6) : qlim C_X12_ends (112, [some (qA 82), some (qI x1), some (qI x2), some (qI x3)], [], qH0 M) = qlim C_X12_ends (104, [some (qA 82), some (qI x1), some (qI (kadd x2 (ksub (M 87 x3) (M 102 x3)))), some (qI (kadd x3 1))], [], qH0 M) := by
  refine Eq.trans (qlim_n (n := 4) (c' := (118, [some (qA 82), some (qI x1), some (qI x2), some (qI x3)], [qI x3, qA 87, qI x2], qH0 M)) rfl) ?_
  refine Eq.trans (qs_iaload rfl rfl h1 h2) ?_
  refine Eq.trans (qlim_n (n := 3) (c' := (124, [some (qA 82), some (qI x1), some (qI x2), some (qI x3)], [qI x3, qA 102, qI (M 87 x3), qI x2], qH0 M)) rfl) ?_
  refine Eq.trans (qs_iaload rfl rfl h1 h2) ?_
  exact (qlim_n (n := 5) (c' := (104, [some (qA 82), some (qI x1), some (qI (kadd x2 (ksub (M 87 x3) (M 102 x3)))), some (qI (kadd x3 1))], [], qH0 M)) rfl)
set_option maxRecDepth 20000 in
theorem B_X12_ends_134 {M : qMem} {x1 x2 x3 : Int} : qlim C_X12_ends (134, [some (qA 82), some (qI x1), some (qI x2), some (qI x3)], [], qH0 M) = qlim C_X12_ends ((if ¬ x1 = 0 then 147 else 138), [some (qA 82), some (qI x1), some (qI x2), some (qI x3)], [], qH0 M) := (qlim_n (n := 2) (c' := ((if ¬ x1 = 0 then 147 else 138), [some (qA 82), some (qI x1), some (qI x2), some (qI x3)], [], qH0 M)) rfl)
set_option maxRecDepth 20000 in
theorem B_X12_ends_138 {M : qMem} {x1 x2 x3 : Int} : qlim C_X12_ends (138, [some (qA 82), some (qI x1), some (qI x2), some (qI x3)], [], qH0 M) = qlim C_X12_ends (148, [some (qA 82), some (qI x1), some (qI x2), some (qI x3)], [qI (M 83 4)], qH0 M) := (qlim_n (n := 5) (c' := (148, [some (qA 82), some (qI x1), some (qI x2), some (qI x3)], [qI (M 83 4)], qH0 M)) rfl)
set_option maxRecDepth 20000 in
theorem B_X12_ends_147 {M : qMem} {x1 x2 x3 : Int} : qlim C_X12_ends (147, [some (qA 82), some (qI x1), some (qI x2), some (qI x3)], [], qH0 M) = qlim C_X12_ends (148, [some (qA 82), some (qI x1), some (qI x2), some (qI x3)], [qI x2], qH0 M) := (qlim_n (n := 1) (c' := (148, [some (qA 82), some (qI x1), some (qI x2), some (qI x3)], [qI x2], qH0 M)) rfl)
set_option maxRecDepth 20000 in
theorem B_X12_ends_148 {M : qMem} {x1 x2 x3 s0 : Int} : qlim C_X12_ends (148, [some (qA 82), some (qI x1), some (qI x2), some (qI x3)], [qI s0], qH0 M) = qbd (S_X12_putBack [qA 82] (qH0 M)) (fun r h' => qlim C_X12_ends (153, [some (qA 82), some (qI x1), some (qI x2), some (qI s0)], r.toList ++ [], h')) := by
  refine Eq.trans (qlim_n (n := 2) (c' := (150, [some (qA 82), some (qI x1), some (qI x2), some (qI s0)], [qA 82], qH0 M)) rfl) ?_
  exact (qlim_callv (n := 0) rfl rfl rfl (Nat.le_of_ble_eq_true rfl) (Nat.le_of_ble_eq_true rfl) rfl)
set_option maxRecDepth 20000 in
theorem B_X12_ends_153 {M : qMem} {x1 x2 x3 : Int} : qlim C_X12_ends (153, [some (qA 82), some (qI x1), some (qI x2), some (qI x3)], [], qH0 M) = some (some (qI x3), qH0 M) := by
  refine Eq.trans (qlim_n (n := 1) (c' := (154, [some (qA 82), some (qI x1), some (qI x2), some (qI x3)], [qI x3], qH0 M)) rfl) ?_
  exact (qlim_ret rfl)
theorem E_X12_ends {h : qH} {x1 : Int} : S_X12_ends [qA 82, qI x1] h = qlim C_X12_ends (0, [some (qA 82), some (qI x1), none, none], [], h) := qM_at (Nat.le_of_ble_eq_true rfl) rfl
set_option maxRecDepth 20000 in
theorem B_X12_book_0 {M : qMem} {x1 x2 : Int} : qlim C_X12_book (0, [some (qA 82), some (qI x1), some (qI x2)], [], qH0 M) = qlim C_X12_book ((if ¬ x1 = (-1) then 12 else 5), [some (qA 82), some (qI x1), some (qI x2)], [], qH0 M) := (qlim_n (n := 3) (c' := ((if ¬ x1 = (-1) then 12 else 5), [some (qA 82), some (qI x1), some (qI x2)], [], qH0 M)) rfl)
set_option maxRecDepth 20000 in
theorem B_X12_book_5 {M : qMem} {x1 x2 : Int} : qlim C_X12_book (5, [some (qA 82), some (qI x1), some (qI x2)], [], qH0 M) = some (some (qI 0), qH0 (qup M 82 42 0)) := by
  refine Eq.trans (qlim_n (n := 4) (c' := (11, [some (qA 82), some (qI x1), some (qI x2)], [qI 0], qH0 (qup M 82 42 0))) rfl) ?_
  exact (qlim_ret rfl)
set_option maxRecDepth 20000 in
theorem B_X12_book_12 {M : qMem} {x1 x2 : Int} : qlim C_X12_book (12, [some (qA 82), some (qI x1), some (qI x2)], [], qH0 M) = qbd (S_X12_isHeap [qA 82, qI x1] (qH0 M)) (fun r h' => qlim C_X12_book (17, [some (qA 82), some (qI x1), some (qI x2)], r.toList ++ [], h')) := by
  refine Eq.trans (qlim_n (n := 2) (c' := (14, [some (qA 82), some (qI x1), some (qI x2)], [qI x1, qA 82], qH0 M)) rfl) ?_
  exact (qlim_callv (n := 1) rfl rfl rfl (Nat.le_of_ble_eq_true rfl) (Nat.le_of_ble_eq_true rfl) rfl)
set_option maxRecDepth 20000 in
theorem B_X12_book_17 {M : qMem} {x1 x2 s0 : Int} : qlim C_X12_book (17, [some (qA 82), some (qI x1), some (qI x2)], [qI s0], qH0 M) = qlim C_X12_book ((if ¬ s0 = 0 then 22 else 20), [some (qA 82), some (qI x1), some (qI x2)], [], qH0 M) := (qlim_n (n := 1) (c' := ((if ¬ s0 = 0 then 22 else 20), [some (qA 82), some (qI x1), some (qI x2)], [], qH0 M)) rfl)
set_option maxRecDepth 20000 in
theorem B_X12_book_20 {M : qMem} {x1 x2 : Int} : qlim C_X12_book (20, [some (qA 82), some (qI x1), some (qI x2)], [], qH0 M) = some (some (qI (-1)), qH0 M) := by
  refine Eq.trans (qlim_n (n := 1) (c' := (21, [some (qA 82), some (qI x1), some (qI x2)], [qI (-1)], qH0 M)) rfl) ?_
  exact (qlim_ret rfl)
set_option maxRecDepth 20000 in
theorem B_X12_book_22 {M : qMem} {x1 x2 : Int} : qlim C_X12_book (22, [some (qA 82), some (qI x1), some (qI x2)], [], qH0 M) = qbd (S_X12_isLetters [qA 82, qI x2] (qH0 M)) (fun r h' => qlim C_X12_book (27, [some (qA 82), some (qI x1), some (qI x2)], r.toList ++ [], h')) := by
  refine Eq.trans (qlim_n (n := 2) (c' := (24, [some (qA 82), some (qI x1), some (qI x2)], [qI x2, qA 82], qH0 M)) rfl) ?_
  exact (qlim_callv (n := 1) rfl rfl rfl (Nat.le_of_ble_eq_true rfl) (Nat.le_of_ble_eq_true rfl) rfl)
set_option maxRecDepth 20000 in
theorem B_X12_book_27 {M : qMem} {x1 x2 s0 : Int} : qlim C_X12_book (27, [some (qA 82), some (qI x1), some (qI x2)], [qI s0], qH0 M) = qlim C_X12_book ((if ¬ s0 = 0 then 33 else 30), [some (qA 82), some (qI x1), some (qI x2)], [], qH0 M) := (qlim_n (n := 1) (c' := ((if ¬ s0 = 0 then 33 else 30), [some (qA 82), some (qI x1), some (qI x2)], [], qH0 M)) rfl)
set_option maxRecDepth 20000 in
theorem B_X12_book_30 {M : qMem} {x1 x2 : Int} : qlim C_X12_book (30, [some (qA 82), some (qI x1), some (qI x2)], [], qH0 M) = some (some (qI (-2)), qH0 M) := by
  refine Eq.trans (qlim_n (n := 1) (c' := (32, [some (qA 82), some (qI x1), some (qI x2)], [qI (-2)], qH0 M)) rfl) ?_
  exact (qlim_ret rfl)
set_option maxRecDepth 20000 in
theorem B_X12_book_33 {M : qMem} {x1 x2 : Int} : qlim C_X12_book (33, [some (qA 82), some (qI x1), some (qI x2)], [], qH0 M) = qlim C_X12_book ((if ¬ M 82 42 = 8 then 45 else 42), [some (qA 82), some (qI x1), some (qI x2)], [], qH0 M) := (qlim_n (n := 4) (c' := ((if ¬ M 82 42 = 8 then 45 else 42), [some (qA 82), some (qI x1), some (qI x2)], [], qH0 M)) rfl)
set_option maxRecDepth 20000 in
theorem B_X12_book_42 {M : qMem} {x1 x2 : Int} : qlim C_X12_book (42, [some (qA 82), some (qI x1), some (qI x2)], [], qH0 M) = some (some (qI (-4)), qH0 M) := by
  refine Eq.trans (qlim_n (n := 1) (c' := (44, [some (qA 82), some (qI x1), some (qI x2)], [qI (-4)], qH0 M)) rfl) ?_
  exact (qlim_ret rfl)
set_option maxRecDepth 20000 in
theorem B_X12_book_45 {M : qMem} {x1 x2 : Int} (h1 : 0 ≤ M 82 42) (h2 : M 82 42 < 8) (h3 : 0 ≤ (qup M 109 (M 82 42) x1) 82 42) (h4 : (qup M 109 (M 82 42) x1) 82 42 < 8) : qlim C_X12_book (45, [some (qA 82), some (qI x1), some (qI x2)], [], qH0 M) = some (some (qI ((qup (qup (qup M 109 (M 82 42) x1) 110 ((qup M 109 (M 82 42) x1) 82 42) x2) 82 42 (kadd ((qup (qup M 109 (M 82 42) x1) 110 ((qup M 109 (M 82 42) x1) 82 42) x2) 82 42) 1)) 82 42)), qH0 (qup (qup (qup M 109 (M 82 42) x1) 110 ((qup M 109 (M 82 42) x1) 82 42) x2) 82 42 (kadd ((qup (qup M 109 (M 82 42) x1) 110 ((qup M 109 (M 82 42) x1) 82 42) x2) 82 42) 1))) := by
  refine Eq.trans (qlim_n (n := 5) (c' := (54, [some (qA 82), some (qI x1), some (qI x2)], [qI x1, qI (M 82 42), qA 109], qH0 M)) rfl) ?_
  refine Eq.trans (qs_iastore rfl rfl h1 h2) ?_
  refine Eq.trans (qlim_n (n := 5) (c' := (64, [some (qA 82), some (qI x1), some (qI x2)], [qI x2, qI ((qup M 109 (M 82 42) x1) 82 42), qA 110], qH0 (qup M 109 (M 82 42) x1))) rfl) ?_
  refine Eq.trans (qs_iastore rfl rfl h3 h4) ?_
  refine Eq.trans (qlim_n (n := 8) (c' := (79, [some (qA 82), some (qI x1), some (qI x2)], [qI ((qup (qup (qup M 109 (M 82 42) x1) 110 ((qup M 109 (M 82 42) x1) 82 42) x2) 82 42 (kadd ((qup (qup M 109 (M 82 42) x1) 110 ((qup M 109 (M 82 42) x1) 82 42) x2) 82 42) 1)) 82 42)], qH0 (qup (qup (qup M 109 (M 82 42) x1) 110 ((qup M 109 (M 82 42) x1) 82 42) x2) 82 42 (kadd ((qup (qup M 109 (M 82 42) x1) 110 ((qup M 109 (M 82 42) x1) 82 42) x2) 82 42) 1)))) rfl) ?_
  exact (qlim_ret rfl)
theorem E_X12_book {h : qH} {x1 x2 : Int} : S_X12_book [qA 82, qI x1, qI x2] h = qlim C_X12_book (0, [some (qA 82), some (qI x1), some (qI x2)], [], h) := qM_at (Nat.le_of_ble_eq_true rfl) rfl
set_option maxRecDepth 20000 in
theorem B_X12_looked_0 {M : qMem} : qlim C_X12_looked (0, [some (qA 82), none], [], qH0 M) = qlim C_X12_looked (2, [some (qA 82), some (qI 0)], [], qH0 M) := (qlim_n (n := 2) (c' := (2, [some (qA 82), some (qI 0)], [], qH0 M)) rfl)
set_option maxRecDepth 20000 in
theorem B_X12_looked_2 {M : qMem} {x1 : Int} : qlim C_X12_looked (2, [some (qA 82), some (qI x1)], [], qH0 M) = qlim C_X12_looked ((if M 82 42 ≤ x1 then 38 else 10), [some (qA 82), some (qI x1)], [], qH0 M) := (qlim_n (n := 4) (c' := ((if M 82 42 ≤ x1 then 38 else 10), [some (qA 82), some (qI x1)], [], qH0 M)) rfl)
set_option maxRecDepth 20000 in
theorem B_X12_looked_10 {M : qMem} {x1 : Int} (h1 : 0 ≤ x1) (h2 : x1 < 8) (h3 : 0 ≤ M 109 x1) (h4 : M 109 x1 < 5) : qlim C_X12_looked (10, [some (qA 82), some (qI x1)], [], qH0 M) = qlim C_X12_looked ((if M 83 (M 109 x1) = M 110 x1 then 32 else 30), [some (qA 82), some (qI x1)], [], qH0 M) := by
  refine Eq.trans (qlim_n (n := 5) (c' := (19, [some (qA 82), some (qI x1)], [qI x1, qA 109, qA 83], qH0 M)) rfl) ?_
  refine Eq.trans (qs_iaload rfl rfl h1 h2) ?_
  refine Eq.trans (qs_iaload rfl rfl h3 h4) ?_
  refine Eq.trans (qlim_n (n := 3) (c' := (26, [some (qA 82), some (qI x1)], [qI x1, qA 110, qI (M 83 (M 109 x1))], qH0 M)) rfl) ?_
  refine Eq.trans (qs_iaload rfl rfl h1 h2) ?_
  exact (qlim_n (n := 1) (c' := ((if M 83 (M 109 x1) = M 110 x1 then 32 else 30), [some (qA 82), some (qI x1)], [], qH0 M)) rfl)
set_option maxRecDepth 20000 in
theorem B_X12_looked_30 {M : qMem} {x1 : Int} : qlim C_X12_looked (30, [some (qA 82), some (qI x1)], [], qH0 M) = some (some (qI x1), qH0 M) := by
  refine Eq.trans (qlim_n (n := 1) (c' := (31, [some (qA 82), some (qI x1)], [qI x1], qH0 M)) rfl) ?_
  exact (qlim_ret rfl)
set_option maxRecDepth 20000 in
theorem B_X12_looked_32 {M : qMem} {x1 : Int} : qlim C_X12_looked (32, [some (qA 82), some (qI x1)], [], qH0 M) = qlim C_X12_looked (2, [some (qA 82), some (qI (kadd x1 1))], [], qH0 M) := (qlim_n (n := 2) (c' := (2, [some (qA 82), some (qI (kadd x1 1))], [], qH0 M)) rfl)
set_option maxRecDepth 20000 in
theorem B_X12_looked_38 {M : qMem} {x1 : Int} : qlim C_X12_looked (38, [some (qA 82), some (qI x1)], [], qH0 M) = some (some (qI (-5)), qH0 M) := by
  refine Eq.trans (qlim_n (n := 1) (c' := (40, [some (qA 82), some (qI x1)], [qI (-5)], qH0 M)) rfl) ?_
  exact (qlim_ret rfl)
theorem E_X12_looked {h : qH} : S_X12_looked [qA 82] h = qlim C_X12_looked (0, [some (qA 82), none], [], h) := qM_at (Nat.le_of_ble_eq_true rfl) rfl
set_option maxRecDepth 20000 in
theorem B_X12_judge_0 {M : qMem} {x1 x2 : Int} : qlim C_X12_judge (0, [some (qA 82), some (qI x1), some (qI x2), none], [], qH0 M) = qbd (S_X12_isTape [qA 82, qI x1] (qH0 M)) (fun r h' => qlim C_X12_judge (5, [some (qA 82), some (qI x1), some (qI x2), none], r.toList ++ [], h')) := by
  refine Eq.trans (qlim_n (n := 2) (c' := (2, [some (qA 82), some (qI x1), some (qI x2), none], [qI x1, qA 82], qH0 M)) rfl) ?_
  exact (qlim_callv (n := 1) rfl rfl rfl (Nat.le_of_ble_eq_true rfl) (Nat.le_of_ble_eq_true rfl) rfl)
set_option maxRecDepth 20000 in
theorem B_X12_judge_5 {M : qMem} {x1 x2 s0 : Int} : qlim C_X12_judge (5, [some (qA 82), some (qI x1), some (qI x2), none], [qI s0], qH0 M) = qlim C_X12_judge ((if ¬ s0 = 0 then 10 else 8), [some (qA 82), some (qI x1), some (qI x2), none], [], qH0 M) := (qlim_n (n := 1) (c' := ((if ¬ s0 = 0 then 10 else 8), [some (qA 82), some (qI x1), some (qI x2), none], [], qH0 M)) rfl)
set_option maxRecDepth 20000 in
theorem B_X12_judge_8 {M : qMem} {x1 x2 : Int} : qlim C_X12_judge (8, [some (qA 82), some (qI x1), some (qI x2), none], [], qH0 M) = some (some (qI (-1)), qH0 M) := by
  refine Eq.trans (qlim_n (n := 1) (c' := (9, [some (qA 82), some (qI x1), some (qI x2), none], [qI (-1)], qH0 M)) rfl) ?_
  exact (qlim_ret rfl)
set_option maxRecDepth 20000 in
theorem B_X12_judge_10 {M : qMem} {x1 x2 : Int} (h1 : 0 ≤ x1) (h2 : x1 < 6) : qlim C_X12_judge (10, [some (qA 82), some (qI x1), some (qI x2), none], [], qH0 M) = qlim C_X12_judge ((if M 126 x1 < 0 then 32 else 19), [some (qA 82), some (qI x1), some (qI x2), none], [], qH0 M) := by
  refine Eq.trans (qlim_n (n := 3) (c' := (15, [some (qA 82), some (qI x1), some (qI x2), none], [qI x1, qA 126], qH0 M)) rfl) ?_
  refine Eq.trans (qs_iaload rfl rfl h1 h2) ?_
  exact (qlim_n (n := 1) (c' := ((if M 126 x1 < 0 then 32 else 19), [some (qA 82), some (qI x1), some (qI x2), none], [], qH0 M)) rfl)
set_option maxRecDepth 20000 in
theorem B_X12_judge_19 {M : qMem} {x1 x2 : Int} (h1 : 0 ≤ x1) (h2 : x1 < 6) : qlim C_X12_judge (19, [some (qA 82), some (qI x1), some (qI x2), none], [], qH0 M) = qlim C_X12_judge ((if M 126 x1 = 2 then 32 else 29), [some (qA 82), some (qI x1), some (qI x2), none], [], qH0 M) := by
  refine Eq.trans (qlim_n (n := 3) (c' := (24, [some (qA 82), some (qI x1), some (qI x2), none], [qI x1, qA 126], qH0 M)) rfl) ?_
  refine Eq.trans (qs_iaload rfl rfl h1 h2) ?_
  exact (qlim_n (n := 2) (c' := ((if M 126 x1 = 2 then 32 else 29), [some (qA 82), some (qI x1), some (qI x2), none], [], qH0 M)) rfl)
set_option maxRecDepth 20000 in
theorem B_X12_judge_29 {M : qMem} {x1 x2 : Int} : qlim C_X12_judge (29, [some (qA 82), some (qI x1), some (qI x2), none], [], qH0 M) = some (some (qI (-12)), qH0 M) := by
  refine Eq.trans (qlim_n (n := 1) (c' := (31, [some (qA 82), some (qI x1), some (qI x2), none], [qI (-12)], qH0 M)) rfl) ?_
  exact (qlim_ret rfl)
set_option maxRecDepth 20000 in
theorem B_X12_judge_32 {M : qMem} {x1 x2 : Int} : qlim C_X12_judge (32, [some (qA 82), some (qI x1), some (qI x2), none], [], qH0 M) = qlim C_X12_judge (34, [some (qA 82), some (qI x1), some (qI x2), some (qI 0)], [], qH0 M) := (qlim_n (n := 2) (c' := (34, [some (qA 82), some (qI x1), some (qI x2), some (qI 0)], [], qH0 M)) rfl)
set_option maxRecDepth 20000 in
theorem B_X12_judge_34 {M : qMem} {x1 x2 x3 : Int} : qlim C_X12_judge (34, [some (qA 82), some (qI x1), some (qI x2), some (qI x3)], [], qH0 M) = qlim C_X12_judge ((if 5 ≤ x3 then 103 else 39), [some (qA 82), some (qI x1), some (qI x2), some (qI x3)], [], qH0 M) := (qlim_n (n := 3) (c' := ((if 5 ≤ x3 then 103 else 39), [some (qA 82), some (qI x1), some (qI x2), some (qI x3)], [], qH0 M)) rfl)
set_option maxRecDepth 20000 in
theorem B_X12_judge_39 {M : qMem} {x1 x2 x3 : Int} (h1 : 0 ≤ x1) (h2 : x1 < 6) : qlim C_X12_judge (39, [some (qA 82), some (qI x1), some (qI x2), some (qI x3)], [], qH0 M) = qlim C_X12_judge ((if M 126 x1 < 0 then 66 else 48), [some (qA 82), some (qI x1), some (qI x2), some (qI x3)], [], qH0 M) := by
  refine Eq.trans (qlim_n (n := 3) (c' := (44, [some (qA 82), some (qI x1), some (qI x2), some (qI x3)], [qI x1, qA 126], qH0 M)) rfl) ?_
  refine Eq.trans (qs_iaload rfl rfl h1 h2) ?_
  exact (qlim_n (n := 1) (c' := ((if M 126 x1 < 0 then 66 else 48), [some (qA 82), some (qI x1), some (qI x2), some (qI x3)], [], qH0 M)) rfl)
set_option maxRecDepth 20000 in
theorem B_X12_judge_48 {M : qMem} {x1 x2 x3 : Int} : qlim C_X12_judge (48, [some (qA 82), some (qI x1), some (qI x2), some (qI x3)], [], qH0 M) = qlim C_X12_judge ((if x2 < 0 then 66 else 52), [some (qA 82), some (qI x1), some (qI x2), some (qI x3)], [], qH0 M) := (qlim_n (n := 2) (c' := ((if x2 < 0 then 66 else 52), [some (qA 82), some (qI x1), some (qI x2), some (qI x3)], [], qH0 M)) rfl)
set_option maxRecDepth 20000 in
theorem B_X12_judge_52 {M : qMem} {x1 x2 x3 : Int} (h1 : 0 ≤ x1) (h2 : x1 < 6) : qlim C_X12_judge (52, [some (qA 82), some (qI x1), some (qI x2), some (qI x3)], [], qH0 M) = qlim C_X12_judge ((if x2 ≤ ksub (ksub (M 127 x1) x3) 1 then 71 else 66), [some (qA 82), some (qI x1), some (qI x2), some (qI x3)], [], qH0 M) := by
  refine Eq.trans (qlim_n (n := 4) (c' := (58, [some (qA 82), some (qI x1), some (qI x2), some (qI x3)], [qI x1, qA 127, qI x2], qH0 M)) rfl) ?_
  refine Eq.trans (qs_iaload rfl rfl h1 h2) ?_
  exact (qlim_n (n := 5) (c' := ((if x2 ≤ ksub (ksub (M 127 x1) x3) 1 then 71 else 66), [some (qA 82), some (qI x1), some (qI x2), some (qI x3)], [], qH0 M)) rfl)
set_option maxRecDepth 20000 in
theorem B_X12_judge_66 {M : qMem} {x1 x2 x3 : Int} : qlim C_X12_judge (66, [some (qA 82), some (qI x1), some (qI x2), some (qI x3)], [], qH0 M) = some (some (qI (kadd 100 x3)), qH0 M) := by
  refine Eq.trans (qlim_n (n := 3) (c' := (70, [some (qA 82), some (qI x1), some (qI x2), some (qI x3)], [qI (kadd 100 x3)], qH0 M)) rfl) ?_
  exact (qlim_ret rfl)
set_option maxRecDepth 20000 in
theorem B_X12_judge_71 {M : qMem} {x1 x2 x3 : Int} (h1 : 0 ≤ kadd (kadd (kmul 60 x1) x2) x3) (h2 : kadd (kadd (kmul 60 x1) x2) x3 < 360) (h3 : 0 ≤ x3) (h4 : x3 < 5) : qlim C_X12_judge (71, [some (qA 82), some (qI x1), some (qI x2), some (qI x3)], [], qH0 M) = qlim C_X12_judge ((if jcmp (M 128 (kadd (kadd (kmul 60 x1) x2) x3)) (ki2l (M 83 x3)) = 0 then 97 else 95), [some (qA 82), some (qI x1), some (qI x2), some (qI x3)], [], qH0 M) := by
  refine Eq.trans (qlim_n (n := 9) (c' := (83, [some (qA 82), some (qI x1), some (qI x2), some (qI x3)], [qI (kadd (kadd (kmul 60 x1) x2) x3), qA 128], qH0 M)) rfl) ?_
  refine Eq.trans (qs_laload rfl rfl h1 h2) ?_
  refine Eq.trans (qlim_n (n := 3) (c' := (89, [some (qA 82), some (qI x1), some (qI x2), some (qI x3)], [qI x3, qA 83, qJ (M 128 (kadd (kadd (kmul 60 x1) x2) x3))], qH0 M)) rfl) ?_
  refine Eq.trans (qs_iaload rfl rfl h3 h4) ?_
  exact (qlim_n (n := 3) (c' := ((if jcmp (M 128 (kadd (kadd (kmul 60 x1) x2) x3)) (ki2l (M 83 x3)) = 0 then 97 else 95), [some (qA 82), some (qI x1), some (qI x2), some (qI x3)], [], qH0 M)) rfl)
set_option maxRecDepth 20000 in
theorem B_X12_judge_95 {M : qMem} {x1 x2 x3 : Int} : qlim C_X12_judge (95, [some (qA 82), some (qI x1), some (qI x2), some (qI x3)], [], qH0 M) = some (some (qI x3), qH0 M) := by
  refine Eq.trans (qlim_n (n := 1) (c' := (96, [some (qA 82), some (qI x1), some (qI x2), some (qI x3)], [qI x3], qH0 M)) rfl) ?_
  exact (qlim_ret rfl)
set_option maxRecDepth 20000 in
theorem B_X12_judge_97 {M : qMem} {x1 x2 x3 : Int} : qlim C_X12_judge (97, [some (qA 82), some (qI x1), some (qI x2), some (qI x3)], [], qH0 M) = qlim C_X12_judge (34, [some (qA 82), some (qI x1), some (qI x2), some (qI (kadd x3 1))], [], qH0 M) := (qlim_n (n := 2) (c' := (34, [some (qA 82), some (qI x1), some (qI x2), some (qI (kadd x3 1))], [], qH0 M)) rfl)
set_option maxRecDepth 20000 in
theorem B_X12_judge_103 {M : qMem} {x1 x2 x3 : Int} : qlim C_X12_judge (103, [some (qA 82), some (qI x1), some (qI x2), some (qI x3)], [], qH0 M) = some (some (qI (-5)), qH0 M) := by
  refine Eq.trans (qlim_n (n := 1) (c' := (105, [some (qA 82), some (qI x1), some (qI x2), some (qI x3)], [qI (-5)], qH0 M)) rfl) ?_
  exact (qlim_ret rfl)
theorem E_X12_judge {h : qH} {x1 x2 : Int} : S_X12_judge [qA 82, qI x1, qI x2] h = qlim C_X12_judge (0, [some (qA 82), some (qI x1), some (qI x2), none], [], h) := qM_at (Nat.le_of_ble_eq_true rfl) rfl
set_option maxRecDepth 20000 in
theorem B_X12_image_0 {M : qMem} : qlim C_X12_image (0, [some (qA 82), none], [], qH0 M) = qlim C_X12_image (63, [some (qA 82), some (qI 0)], [], qH0 (qup (qup (qup (qup (qup (qup (qup (qup M 82 47 1) 82 48 ((qup M 82 47 1) 82 11)) 82 49 ((qup (qup M 82 47 1) 82 48 ((qup M 82 47 1) 82 11)) 82 0)) 82 50 ((qup (qup (qup M 82 47 1) 82 48 ((qup M 82 47 1) 82 11)) 82 49 ((qup (qup M 82 47 1) 82 48 ((qup M 82 47 1) 82 11)) 82 0)) 82 1)) 82 51 ((qup (qup (qup (qup M 82 47 1) 82 48 ((qup M 82 47 1) 82 11)) 82 49 ((qup (qup M 82 47 1) 82 48 ((qup M 82 47 1) 82 11)) 82 0)) 82 50 ((qup (qup (qup M 82 47 1) 82 48 ((qup M 82 47 1) 82 11)) 82 49 ((qup (qup M 82 47 1) 82 48 ((qup M 82 47 1) 82 11)) 82 0)) 82 1)) 82 2)) 82 52 ((qup (qup (qup (qup (qup M 82 47 1) 82 48 ((qup M 82 47 1) 82 11)) 82 49 ((qup (qup M 82 47 1) 82 48 ((qup M 82 47 1) 82 11)) 82 0)) 82 50 ((qup (qup (qup M 82 47 1) 82 48 ((qup M 82 47 1) 82 11)) 82 49 ((qup (qup M 82 47 1) 82 48 ((qup M 82 47 1) 82 11)) 82 0)) 82 1)) 82 51 ((qup (qup (qup (qup M 82 47 1) 82 48 ((qup M 82 47 1) 82 11)) 82 49 ((qup (qup M 82 47 1) 82 48 ((qup M 82 47 1) 82 11)) 82 0)) 82 50 ((qup (qup (qup M 82 47 1) 82 48 ((qup M 82 47 1) 82 11)) 82 49 ((qup (qup M 82 47 1) 82 48 ((qup M 82 47 1) 82 11)) 82 0)) 82 1)) 82 2)) 82 37)) 82 53 ((qup (qup (qup (qup (qup (qup M 82 47 1) 82 48 ((qup M 82 47 1) 82 11)) 82 49 ((qup (qup M 82 47 1) 82 48 ((qup M 82 47 1) 82 11)) 82 0)) 82 50 ((qup (qup (qup M 82 47 1) 82 48 ((qup M 82 47 1) 82 11)) 82 49 ((qup (qup M 82 47 1) 82 48 ((qup M 82 47 1) 82 11)) 82 0)) 82 1)) 82 51 ((qup (qup (qup (qup M 82 47 1) 82 48 ((qup M 82 47 1) 82 11)) 82 49 ((qup (qup M 82 47 1) 82 48 ((qup M 82 47 1) 82 11)) 82 0)) 82 50 ((qup (qup (qup M 82 47 1) 82 48 ((qup M 82 47 1) 82 11)) 82 49 ((qup (qup M 82 47 1) 82 48 ((qup M 82 47 1) 82 11)) 82 0)) 82 1)) 82 2)) 82 52 ((qup (qup (qup (qup (qup M 82 47 1) 82 48 ((qup M 82 47 1) 82 11)) 82 49 ((qup (qup M 82 47 1) 82 48 ((qup M 82 47 1) 82 11)) 82 0)) 82 50 ((qup (qup (qup M 82 47 1) 82 48 ((qup M 82 47 1) 82 11)) 82 49 ((qup (qup M 82 47 1) 82 48 ((qup M 82 47 1) 82 11)) 82 0)) 82 1)) 82 51 ((qup (qup (qup (qup M 82 47 1) 82 48 ((qup M 82 47 1) 82 11)) 82 49 ((qup (qup M 82 47 1) 82 48 ((qup M 82 47 1) 82 11)) 82 0)) 82 50 ((qup (qup (qup M 82 47 1) 82 48 ((qup M 82 47 1) 82 11)) 82 49 ((qup (qup M 82 47 1) 82 48 ((qup M 82 47 1) 82 11)) 82 0)) 82 1)) 82 2)) 82 37)) 82 41)) 82 54 ((qup (qup (qup (qup (qup (qup (qup M 82 47 1) 82 48 ((qup M 82 47 1) 82 11)) 82 49 ((qup (qup M 82 47 1) 82 48 ((qup M 82 47 1) 82 11)) 82 0)) 82 50 ((qup (qup (qup M 82 47 1) 82 48 ((qup M 82 47 1) 82 11)) 82 49 ((qup (qup M 82 47 1) 82 48 ((qup M 82 47 1) 82 11)) 82 0)) 82 1)) 82 51 ((qup (qup (qup (qup M 82 47 1) 82 48 ((qup M 82 47 1) 82 11)) 82 49 ((qup (qup M 82 47 1) 82 48 ((qup M 82 47 1) 82 11)) 82 0)) 82 50 ((qup (qup (qup M 82 47 1) 82 48 ((qup M 82 47 1) 82 11)) 82 49 ((qup (qup M 82 47 1) 82 48 ((qup M 82 47 1) 82 11)) 82 0)) 82 1)) 82 2)) 82 52 ((qup (qup (qup (qup (qup M 82 47 1) 82 48 ((qup M 82 47 1) 82 11)) 82 49 ((qup (qup M 82 47 1) 82 48 ((qup M 82 47 1) 82 11)) 82 0)) 82 50 ((qup (qup (qup M 82 47 1) 82 48 ((qup M 82 47 1) 82 11)) 82 49 ((qup (qup M 82 47 1) 82 48 ((qup M 82 47 1) 82 11)) 82 0)) 82 1)) 82 51 ((qup (qup (qup (qup M 82 47 1) 82 48 ((qup M 82 47 1) 82 11)) 82 49 ((qup (qup M 82 47 1) 82 48 ((qup M 82 47 1) 82 11)) 82 0)) 82 50 ((qup (qup (qup M 82 47 1) 82 48 ((qup M 82 47 1) 82 11)) 82 49 ((qup (qup M 82 47 1) 82 48 ((qup M 82 47 1) 82 11)) 82 0)) 82 1)) 82 2)) 82 37)) 82 53 ((qup (qup (qup (qup (qup (qup M 82 47 1) 82 48 ((qup M 82 47 1) 82 11)) 82 49 ((qup (qup M 82 47 1) 82 48 ((qup M 82 47 1) 82 11)) 82 0)) 82 50 ((qup (qup (qup M 82 47 1) 82 48 ((qup M 82 47 1) 82 11)) 82 49 ((qup (qup M 82 47 1) 82 48 ((qup M 82 47 1) 82 11)) 82 0)) 82 1)) 82 51 ((qup (qup (qup (qup M 82 47 1) 82 48 ((qup M 82 47 1) 82 11)) 82 49 ((qup (qup M 82 47 1) 82 48 ((qup M 82 47 1) 82 11)) 82 0)) 82 50 ((qup (qup (qup M 82 47 1) 82 48 ((qup M 82 47 1) 82 11)) 82 49 ((qup (qup M 82 47 1) 82 48 ((qup M 82 47 1) 82 11)) 82 0)) 82 1)) 82 2)) 82 52 ((qup (qup (qup (qup (qup M 82 47 1) 82 48 ((qup M 82 47 1) 82 11)) 82 49 ((qup (qup M 82 47 1) 82 48 ((qup M 82 47 1) 82 11)) 82 0)) 82 50 ((qup (qup (qup M 82 47 1) 82 48 ((qup M 82 47 1) 82 11)) 82 49 ((qup (qup M 82 47 1) 82 48 ((qup M 82 47 1) 82 11)) 82 0)) 82 1)) 82 51 ((qup (qup (qup (qup M 82 47 1) 82 48 ((qup M 82 47 1) 82 11)) 82 49 ((qup (qup M 82 47 1) 82 48 ((qup M 82 47 1) 82 11)) 82 0)) 82 50 ((qup (qup (qup M 82 47 1) 82 48 ((qup M 82 47 1) 82 11)) 82 49 ((qup (qup M 82 47 1) 82 48 ((qup M 82 47 1) 82 11)) 82 0)) 82 1)) 82 2)) 82 37)) 82 41)) 82 42))) := (qlim_n (n := 33) (c' := (63, [some (qA 82), some (qI 0)], [], qH0 (qup (qup (qup (qup (qup (qup (qup (qup M 82 47 1) 82 48 ((qup M 82 47 1) 82 11)) 82 49 ((qup (qup M 82 47 1) 82 48 ((qup M 82 47 1) 82 11)) 82 0)) 82 50 ((qup (qup (qup M 82 47 1) 82 48 ((qup M 82 47 1) 82 11)) 82 49 ((qup (qup M 82 47 1) 82 48 ((qup M 82 47 1) 82 11)) 82 0)) 82 1)) 82 51 ((qup (qup (qup (qup M 82 47 1) 82 48 ((qup M 82 47 1) 82 11)) 82 49 ((qup (qup M 82 47 1) 82 48 ((qup M 82 47 1) 82 11)) 82 0)) 82 50 ((qup (qup (qup M 82 47 1) 82 48 ((qup M 82 47 1) 82 11)) 82 49 ((qup (qup M 82 47 1) 82 48 ((qup M 82 47 1) 82 11)) 82 0)) 82 1)) 82 2)) 82 52 ((qup (qup (qup (qup (qup M 82 47 1) 82 48 ((qup M 82 47 1) 82 11)) 82 49 ((qup (qup M 82 47 1) 82 48 ((qup M 82 47 1) 82 11)) 82 0)) 82 50 ((qup (qup (qup M 82 47 1) 82 48 ((qup M 82 47 1) 82 11)) 82 49 ((qup (qup M 82 47 1) 82 48 ((qup M 82 47 1) 82 11)) 82 0)) 82 1)) 82 51 ((qup (qup (qup (qup M 82 47 1) 82 48 ((qup M 82 47 1) 82 11)) 82 49 ((qup (qup M 82 47 1) 82 48 ((qup M 82 47 1) 82 11)) 82 0)) 82 50 ((qup (qup (qup M 82 47 1) 82 48 ((qup M 82 47 1) 82 11)) 82 49 ((qup (qup M 82 47 1) 82 48 ((qup M 82 47 1) 82 11)) 82 0)) 82 1)) 82 2)) 82 37)) 82 53 ((qup (qup (qup (qup (qup (qup M 82 47 1) 82 48 ((qup M 82 47 1) 82 11)) 82 49 ((qup (qup M 82 47 1) 82 48 ((qup M 82 47 1) 82 11)) 82 0)) 82 50 ((qup (qup (qup M 82 47 1) 82 48 ((qup M 82 47 1) 82 11)) 82 49 ((qup (qup M 82 47 1) 82 48 ((qup M 82 47 1) 82 11)) 82 0)) 82 1)) 82 51 ((qup (qup (qup (qup M 82 47 1) 82 48 ((qup M 82 47 1) 82 11)) 82 49 ((qup (qup M 82 47 1) 82 48 ((qup M 82 47 1) 82 11)) 82 0)) 82 50 ((qup (qup (qup M 82 47 1) 82 48 ((qup M 82 47 1) 82 11)) 82 49 ((qup (qup M 82 47 1) 82 48 ((qup M 82 47 1) 82 11)) 82 0)) 82 1)) 82 2)) 82 52 ((qup (qup (qup (qup (qup M 82 47 1) 82 48 ((qup M 82 47 1) 82 11)) 82 49 ((qup (qup M 82 47 1) 82 48 ((qup M 82 47 1) 82 11)) 82 0)) 82 50 ((qup (qup (qup M 82 47 1) 82 48 ((qup M 82 47 1) 82 11)) 82 49 ((qup (qup M 82 47 1) 82 48 ((qup M 82 47 1) 82 11)) 82 0)) 82 1)) 82 51 ((qup (qup (qup (qup M 82 47 1) 82 48 ((qup M 82 47 1) 82 11)) 82 49 ((qup (qup M 82 47 1) 82 48 ((qup M 82 47 1) 82 11)) 82 0)) 82 50 ((qup (qup (qup M 82 47 1) 82 48 ((qup M 82 47 1) 82 11)) 82 49 ((qup (qup M 82 47 1) 82 48 ((qup M 82 47 1) 82 11)) 82 0)) 82 1)) 82 2)) 82 37)) 82 41)) 82 54 ((qup (qup (qup (qup (qup (qup (qup M 82 47 1) 82 48 ((qup M 82 47 1) 82 11)) 82 49 ((qup (qup M 82 47 1) 82 48 ((qup M 82 47 1) 82 11)) 82 0)) 82 50 ((qup (qup (qup M 82 47 1) 82 48 ((qup M 82 47 1) 82 11)) 82 49 ((qup (qup M 82 47 1) 82 48 ((qup M 82 47 1) 82 11)) 82 0)) 82 1)) 82 51 ((qup (qup (qup (qup M 82 47 1) 82 48 ((qup M 82 47 1) 82 11)) 82 49 ((qup (qup M 82 47 1) 82 48 ((qup M 82 47 1) 82 11)) 82 0)) 82 50 ((qup (qup (qup M 82 47 1) 82 48 ((qup M 82 47 1) 82 11)) 82 49 ((qup (qup M 82 47 1) 82 48 ((qup M 82 47 1) 82 11)) 82 0)) 82 1)) 82 2)) 82 52 ((qup (qup (qup (qup (qup M 82 47 1) 82 48 ((qup M 82 47 1) 82 11)) 82 49 ((qup (qup M 82 47 1) 82 48 ((qup M 82 47 1) 82 11)) 82 0)) 82 50 ((qup (qup (qup M 82 47 1) 82 48 ((qup M 82 47 1) 82 11)) 82 49 ((qup (qup M 82 47 1) 82 48 ((qup M 82 47 1) 82 11)) 82 0)) 82 1)) 82 51 ((qup (qup (qup (qup M 82 47 1) 82 48 ((qup M 82 47 1) 82 11)) 82 49 ((qup (qup M 82 47 1) 82 48 ((qup M 82 47 1) 82 11)) 82 0)) 82 50 ((qup (qup (qup M 82 47 1) 82 48 ((qup M 82 47 1) 82 11)) 82 49 ((qup (qup M 82 47 1) 82 48 ((qup M 82 47 1) 82 11)) 82 0)) 82 1)) 82 2)) 82 37)) 82 53 ((qup (qup (qup (qup (qup (qup M 82 47 1) 82 48 ((qup M 82 47 1) 82 11)) 82 49 ((qup (qup M 82 47 1) 82 48 ((qup M 82 47 1) 82 11)) 82 0)) 82 50 ((qup (qup (qup M 82 47 1) 82 48 ((qup M 82 47 1) 82 11)) 82 49 ((qup (qup M 82 47 1) 82 48 ((qup M 82 47 1) 82 11)) 82 0)) 82 1)) 82 51 ((qup (qup (qup (qup M 82 47 1) 82 48 ((qup M 82 47 1) 82 11)) 82 49 ((qup (qup M 82 47 1) 82 48 ((qup M 82 47 1) 82 11)) 82 0)) 82 50 ((qup (qup (qup M 82 47 1) 82 48 ((qup M 82 47 1) 82 11)) 82 49 ((qup (qup M 82 47 1) 82 48 ((qup M 82 47 1) 82 11)) 82 0)) 82 1)) 82 2)) 82 52 ((qup (qup (qup (qup (qup M 82 47 1) 82 48 ((qup M 82 47 1) 82 11)) 82 49 ((qup (qup M 82 47 1) 82 48 ((qup M 82 47 1) 82 11)) 82 0)) 82 50 ((qup (qup (qup M 82 47 1) 82 48 ((qup M 82 47 1) 82 11)) 82 49 ((qup (qup M 82 47 1) 82 48 ((qup M 82 47 1) 82 11)) 82 0)) 82 1)) 82 51 ((qup (qup (qup (qup M 82 47 1) 82 48 ((qup M 82 47 1) 82 11)) 82 49 ((qup (qup M 82 47 1) 82 48 ((qup M 82 47 1) 82 11)) 82 0)) 82 50 ((qup (qup (qup M 82 47 1) 82 48 ((qup M 82 47 1) 82 11)) 82 49 ((qup (qup M 82 47 1) 82 48 ((qup M 82 47 1) 82 11)) 82 0)) 82 1)) 82 2)) 82 37)) 82 41)) 82 42)))) rfl)
set_option maxRecDepth 20000 in
theorem B_X12_image_63 {M : qMem} {x1 : Int} : qlim C_X12_image (63, [some (qA 82), some (qI x1)], [], qH0 M) = qlim C_X12_image ((if 5 ≤ x1 then 122 else 68), [some (qA 82), some (qI x1)], [], qH0 M) := (qlim_n (n := 3) (c' := ((if 5 ≤ x1 then 122 else 68), [some (qA 82), some (qI x1)], [], qH0 M)) rfl)
set_option maxRecDepth 20000 in
theorem B_X12_image_68 {M : qMem} {x1 : Int} (h1 : 0 ≤ x1) (h2 : x1 < 5) : qlim C_X12_image (68, [some (qA 82), some (qI x1)], [], qH0 M) = qlim C_X12_image (63, [some (qA 82), some (qI (kadd x1 1))], [], qH0 (qup (qup (qup (qup M 111 x1 (M 83 x1)) 118 x1 ((qup M 111 x1 (M 83 x1)) 104 x1)) 119 x1 ((qup (qup M 111 x1 (M 83 x1)) 118 x1 ((qup M 111 x1 (M 83 x1)) 104 x1)) 105 x1)) 120 x1 ((qup (qup (qup M 111 x1 (M 83 x1)) 118 x1 ((qup M 111 x1 (M 83 x1)) 104 x1)) 119 x1 ((qup (qup M 111 x1 (M 83 x1)) 118 x1 ((qup M 111 x1 (M 83 x1)) 104 x1)) 105 x1)) 106 x1))) := by
  refine Eq.trans (qlim_n (n := 6) (c' := (78, [some (qA 82), some (qI x1)], [qI x1, qA 83, qI x1, qA 111], qH0 M)) rfl) ?_
  refine Eq.trans (qs_iaload rfl rfl h1 h2) ?_
  refine Eq.trans (qs_iastore rfl rfl h1 h2) ?_
  refine Eq.trans (qlim_n (n := 6) (c' := (90, [some (qA 82), some (qI x1)], [qI x1, qA 104, qI x1, qA 118], qH0 (qup M 111 x1 (M 83 x1)))) rfl) ?_
  refine Eq.trans (qs_iaload rfl rfl h1 h2) ?_
  refine Eq.trans (qs_iastore rfl rfl h1 h2) ?_
  refine Eq.trans (qlim_n (n := 6) (c' := (102, [some (qA 82), some (qI x1)], [qI x1, qA 105, qI x1, qA 119], qH0 (qup (qup M 111 x1 (M 83 x1)) 118 x1 ((qup M 111 x1 (M 83 x1)) 104 x1)))) rfl) ?_
  refine Eq.trans (qs_iaload rfl rfl h1 h2) ?_
  refine Eq.trans (qs_iastore rfl rfl h1 h2) ?_
  refine Eq.trans (qlim_n (n := 6) (c' := (114, [some (qA 82), some (qI x1)], [qI x1, qA 106, qI x1, qA 120], qH0 (qup (qup (qup M 111 x1 (M 83 x1)) 118 x1 ((qup M 111 x1 (M 83 x1)) 104 x1)) 119 x1 ((qup (qup M 111 x1 (M 83 x1)) 118 x1 ((qup M 111 x1 (M 83 x1)) 104 x1)) 105 x1)))) rfl) ?_
  refine Eq.trans (qs_iaload rfl rfl h1 h2) ?_
  refine Eq.trans (qs_iastore rfl rfl h1 h2) ?_
  exact (qlim_n (n := 2) (c' := (63, [some (qA 82), some (qI (kadd x1 1))], [], qH0 (qup (qup (qup (qup M 111 x1 (M 83 x1)) 118 x1 ((qup M 111 x1 (M 83 x1)) 104 x1)) 119 x1 ((qup (qup M 111 x1 (M 83 x1)) 118 x1 ((qup M 111 x1 (M 83 x1)) 104 x1)) 105 x1)) 120 x1 ((qup (qup (qup M 111 x1 (M 83 x1)) 118 x1 ((qup M 111 x1 (M 83 x1)) 104 x1)) 119 x1 ((qup (qup M 111 x1 (M 83 x1)) 118 x1 ((qup M 111 x1 (M 83 x1)) 104 x1)) 105 x1)) 106 x1)))) rfl)
set_option maxRecDepth 20000 in
theorem B_X12_image_122 {M : qMem} {x1 : Int} : qlim C_X12_image (122, [some (qA 82), some (qI x1)], [], qH0 M) = qlim C_X12_image (124, [some (qA 82), some (qI 0)], [], qH0 M) := (qlim_n (n := 2) (c' := (124, [some (qA 82), some (qI 0)], [], qH0 M)) rfl)
set_option maxRecDepth 20000 in
theorem B_X12_image_124 {M : qMem} {x1 : Int} : qlim C_X12_image (124, [some (qA 82), some (qI x1)], [], qH0 M) = qlim C_X12_image ((if 6 ≤ x1 then 196 else 130), [some (qA 82), some (qI x1)], [], qH0 M) := (qlim_n (n := 3) (c' := ((if 6 ≤ x1 then 196 else 130), [some (qA 82), some (qI x1)], [], qH0 M)) rfl)
set_option maxRecDepth 20000 in
theorem B_X12_image_130 {M : qMem} {x1 : Int} (h1 : 0 ≤ x1) (h2 : x1 < 6) : qlim C_X12_image (130, [some (qA 82), some (qI x1)], [], qH0 M) = qlim C_X12_image (124, [some (qA 82), some (qI (kadd x1 1))], [], qH0 (qup (qup (qup (qup (qup M 112 x1 (M 84 x1)) 113 x1 ((qup M 112 x1 (M 84 x1)) 85 x1)) 114 x1 ((qup (qup M 112 x1 (M 84 x1)) 113 x1 ((qup M 112 x1 (M 84 x1)) 85 x1)) 86 x1)) 115 x1 ((qup (qup (qup M 112 x1 (M 84 x1)) 113 x1 ((qup M 112 x1 (M 84 x1)) 85 x1)) 114 x1 ((qup (qup M 112 x1 (M 84 x1)) 113 x1 ((qup M 112 x1 (M 84 x1)) 85 x1)) 86 x1)) 87 x1)) 116 x1 ((qup (qup (qup (qup M 112 x1 (M 84 x1)) 113 x1 ((qup M 112 x1 (M 84 x1)) 85 x1)) 114 x1 ((qup (qup M 112 x1 (M 84 x1)) 113 x1 ((qup M 112 x1 (M 84 x1)) 85 x1)) 86 x1)) 115 x1 ((qup (qup (qup M 112 x1 (M 84 x1)) 113 x1 ((qup M 112 x1 (M 84 x1)) 85 x1)) 114 x1 ((qup (qup M 112 x1 (M 84 x1)) 113 x1 ((qup M 112 x1 (M 84 x1)) 85 x1)) 86 x1)) 87 x1)) 88 x1))) := by
  refine Eq.trans (qlim_n (n := 6) (c' := (140, [some (qA 82), some (qI x1)], [qI x1, qA 84, qI x1, qA 112], qH0 M)) rfl) ?_
  refine Eq.trans (qs_iaload rfl rfl h1 h2) ?_
  refine Eq.trans (qs_iastore rfl rfl h1 h2) ?_
  refine Eq.trans (qlim_n (n := 6) (c' := (152, [some (qA 82), some (qI x1)], [qI x1, qA 85, qI x1, qA 113], qH0 (qup M 112 x1 (M 84 x1)))) rfl) ?_
  refine Eq.trans (qs_iaload rfl rfl h1 h2) ?_
  refine Eq.trans (qs_iastore rfl rfl h1 h2) ?_
  refine Eq.trans (qlim_n (n := 6) (c' := (164, [some (qA 82), some (qI x1)], [qI x1, qA 86, qI x1, qA 114], qH0 (qup (qup M 112 x1 (M 84 x1)) 113 x1 ((qup M 112 x1 (M 84 x1)) 85 x1)))) rfl) ?_
  refine Eq.trans (qs_iaload rfl rfl h1 h2) ?_
  refine Eq.trans (qs_iastore rfl rfl h1 h2) ?_
  refine Eq.trans (qlim_n (n := 6) (c' := (176, [some (qA 82), some (qI x1)], [qI x1, qA 87, qI x1, qA 115], qH0 (qup (qup (qup M 112 x1 (M 84 x1)) 113 x1 ((qup M 112 x1 (M 84 x1)) 85 x1)) 114 x1 ((qup (qup M 112 x1 (M 84 x1)) 113 x1 ((qup M 112 x1 (M 84 x1)) 85 x1)) 86 x1)))) rfl) ?_
  refine Eq.trans (qs_iaload rfl rfl h1 h2) ?_
  refine Eq.trans (qs_iastore rfl rfl h1 h2) ?_
  refine Eq.trans (qlim_n (n := 6) (c' := (188, [some (qA 82), some (qI x1)], [qI x1, qA 88, qI x1, qA 116], qH0 (qup (qup (qup (qup M 112 x1 (M 84 x1)) 113 x1 ((qup M 112 x1 (M 84 x1)) 85 x1)) 114 x1 ((qup (qup M 112 x1 (M 84 x1)) 113 x1 ((qup M 112 x1 (M 84 x1)) 85 x1)) 86 x1)) 115 x1 ((qup (qup (qup M 112 x1 (M 84 x1)) 113 x1 ((qup M 112 x1 (M 84 x1)) 85 x1)) 114 x1 ((qup (qup M 112 x1 (M 84 x1)) 113 x1 ((qup M 112 x1 (M 84 x1)) 85 x1)) 86 x1)) 87 x1)))) rfl) ?_
  refine Eq.trans (qs_iaload rfl rfl h1 h2) ?_
  refine Eq.trans (qs_iastore rfl rfl h1 h2) ?_
  exact (qlim_n (n := 2) (c' := (124, [some (qA 82), some (qI (kadd x1 1))], [], qH0 (qup (qup (qup (qup (qup M 112 x1 (M 84 x1)) 113 x1 ((qup M 112 x1 (M 84 x1)) 85 x1)) 114 x1 ((qup (qup M 112 x1 (M 84 x1)) 113 x1 ((qup M 112 x1 (M 84 x1)) 85 x1)) 86 x1)) 115 x1 ((qup (qup (qup M 112 x1 (M 84 x1)) 113 x1 ((qup M 112 x1 (M 84 x1)) 85 x1)) 114 x1 ((qup (qup M 112 x1 (M 84 x1)) 113 x1 ((qup M 112 x1 (M 84 x1)) 85 x1)) 86 x1)) 87 x1)) 116 x1 ((qup (qup (qup (qup M 112 x1 (M 84 x1)) 113 x1 ((qup M 112 x1 (M 84 x1)) 85 x1)) 114 x1 ((qup (qup M 112 x1 (M 84 x1)) 113 x1 ((qup M 112 x1 (M 84 x1)) 85 x1)) 86 x1)) 115 x1 ((qup (qup (qup M 112 x1 (M 84 x1)) 113 x1 ((qup M 112 x1 (M 84 x1)) 85 x1)) 114 x1 ((qup (qup M 112 x1 (M 84 x1)) 113 x1 ((qup M 112 x1 (M 84 x1)) 85 x1)) 86 x1)) 87 x1)) 88 x1)))) rfl)
set_option maxRecDepth 20000 in
theorem B_X12_image_196 {M : qMem} {x1 : Int} : qlim C_X12_image (196, [some (qA 82), some (qI x1)], [], qH0 M) = qlim C_X12_image (198, [some (qA 82), some (qI 0)], [], qH0 M) := (qlim_n (n := 2) (c' := (198, [some (qA 82), some (qI 0)], [], qH0 M)) rfl)
set_option maxRecDepth 20000 in
theorem B_X12_image_198 {M : qMem} {x1 : Int} : qlim C_X12_image (198, [some (qA 82), some (qI x1)], [], qH0 M) = qlim C_X12_image ((if 24 ≤ x1 then 222 else 204), [some (qA 82), some (qI x1)], [], qH0 M) := (qlim_n (n := 3) (c' := ((if 24 ≤ x1 then 222 else 204), [some (qA 82), some (qI x1)], [], qH0 M)) rfl)
set_option maxRecDepth 20000 in
theorem B_X12_image_204 {M : qMem} {x1 : Int} (h1 : 0 ≤ x1) (h2 : x1 < 24) : qlim C_X12_image (204, [some (qA 82), some (qI x1)], [], qH0 M) = qlim C_X12_image (198, [some (qA 82), some (qI (kadd x1 1))], [], qH0 (qup M 117 x1 (M 89 x1))) := by
  refine Eq.trans (qlim_n (n := 6) (c' := (214, [some (qA 82), some (qI x1)], [qI x1, qA 89, qI x1, qA 117], qH0 M)) rfl) ?_
  refine Eq.trans (qs_iaload rfl rfl h1 h2) ?_
  refine Eq.trans (qs_iastore rfl rfl h1 h2) ?_
  exact (qlim_n (n := 2) (c' := (198, [some (qA 82), some (qI (kadd x1 1))], [], qH0 (qup M 117 x1 (M 89 x1)))) rfl)
set_option maxRecDepth 20000 in
theorem B_X12_image_222 {M : qMem} {x1 : Int} : qlim C_X12_image (222, [some (qA 82), some (qI x1)], [], qH0 M) = qlim C_X12_image (224, [some (qA 82), some (qI 0)], [], qH0 M) := (qlim_n (n := 2) (c' := (224, [some (qA 82), some (qI 0)], [], qH0 M)) rfl)
set_option maxRecDepth 20000 in
theorem B_X12_image_224 {M : qMem} {x1 : Int} : qlim C_X12_image (224, [some (qA 82), some (qI x1)], [], qH0 M) = qlim C_X12_image ((if 10 ≤ x1 then 260 else 230), [some (qA 82), some (qI x1)], [], qH0 M) := (qlim_n (n := 3) (c' := ((if 10 ≤ x1 then 260 else 230), [some (qA 82), some (qI x1)], [], qH0 M)) rfl)
set_option maxRecDepth 20000 in
theorem B_X12_image_230 {M : qMem} {x1 : Int} (h1 : 0 ≤ x1) (h2 : x1 < 10) : qlim C_X12_image (230, [some (qA 82), some (qI x1)], [], qH0 M) = qlim C_X12_image (224, [some (qA 82), some (qI (kadd x1 1))], [], qH0 (qup (qup M 121 x1 (M 107 x1)) 122 x1 ((qup M 121 x1 (M 107 x1)) 108 x1))) := by
  refine Eq.trans (qlim_n (n := 6) (c' := (240, [some (qA 82), some (qI x1)], [qI x1, qA 107, qI x1, qA 121], qH0 M)) rfl) ?_
  refine Eq.trans (qs_iaload rfl rfl h1 h2) ?_
  refine Eq.trans (qs_iastore rfl rfl h1 h2) ?_
  refine Eq.trans (qlim_n (n := 6) (c' := (252, [some (qA 82), some (qI x1)], [qI x1, qA 108, qI x1, qA 122], qH0 (qup M 121 x1 (M 107 x1)))) rfl) ?_
  refine Eq.trans (qs_iaload rfl rfl h1 h2) ?_
  refine Eq.trans (qs_iastore rfl rfl h1 h2) ?_
  exact (qlim_n (n := 2) (c' := (224, [some (qA 82), some (qI (kadd x1 1))], [], qH0 (qup (qup M 121 x1 (M 107 x1)) 122 x1 ((qup M 121 x1 (M 107 x1)) 108 x1)))) rfl)
set_option maxRecDepth 20000 in
theorem B_X12_image_260 {M : qMem} {x1 : Int} : qlim C_X12_image (260, [some (qA 82), some (qI x1)], [], qH0 M) = qlim C_X12_image (262, [some (qA 82), some (qI 0)], [], qH0 M) := (qlim_n (n := 2) (c' := (262, [some (qA 82), some (qI 0)], [], qH0 M)) rfl)
set_option maxRecDepth 20000 in
theorem B_X12_image_262 {M : qMem} {x1 : Int} : qlim C_X12_image (262, [some (qA 82), some (qI x1)], [], qH0 M) = qlim C_X12_image ((if 8 ≤ x1 then 298 else 268), [some (qA 82), some (qI x1)], [], qH0 M) := (qlim_n (n := 3) (c' := ((if 8 ≤ x1 then 298 else 268), [some (qA 82), some (qI x1)], [], qH0 M)) rfl)
set_option maxRecDepth 20000 in
theorem B_X12_image_268 {M : qMem} {x1 : Int} (h1 : 0 ≤ x1) (h2 : x1 < 8) : qlim C_X12_image (268, [some (qA 82), some (qI x1)], [], qH0 M) = qlim C_X12_image (262, [some (qA 82), some (qI (kadd x1 1))], [], qH0 (qup (qup M 123 x1 (M 109 x1)) 124 x1 ((qup M 123 x1 (M 109 x1)) 110 x1))) := by
  refine Eq.trans (qlim_n (n := 6) (c' := (278, [some (qA 82), some (qI x1)], [qI x1, qA 109, qI x1, qA 123], qH0 M)) rfl) ?_
  refine Eq.trans (qs_iaload rfl rfl h1 h2) ?_
  refine Eq.trans (qs_iastore rfl rfl h1 h2) ?_
  refine Eq.trans (qlim_n (n := 6) (c' := (290, [some (qA 82), some (qI x1)], [qI x1, qA 110, qI x1, qA 124], qH0 (qup M 123 x1 (M 109 x1)))) rfl) ?_
  refine Eq.trans (qs_iaload rfl rfl h1 h2) ?_
  refine Eq.trans (qs_iastore rfl rfl h1 h2) ?_
  exact (qlim_n (n := 2) (c' := (262, [some (qA 82), some (qI (kadd x1 1))], [], qH0 (qup (qup M 123 x1 (M 109 x1)) 124 x1 ((qup M 123 x1 (M 109 x1)) 110 x1)))) rfl)
set_option maxRecDepth 20000 in
theorem B_X12_image_298 {M : qMem} {x1 : Int} : qlim C_X12_image (298, [some (qA 82), some (qI x1)], [], qH0 M) = some (some (qI (M 82 0)), qH0 M) := by
  refine Eq.trans (qlim_n (n := 2) (c' := (302, [some (qA 82), some (qI x1)], [qI (M 82 0)], qH0 M)) rfl) ?_
  exact (qlim_ret rfl)
theorem E_X12_image {h : qH} : S_X12_image [qA 82] h = qlim C_X12_image (0, [some (qA 82), none], [], h) := qM_at (Nat.le_of_ble_eq_true rfl) rfl
set_option maxRecDepth 20000 in
theorem B_X12_undo_0 {M : qMem} : qlim C_X12_undo (0, [some (qA 82), none], [], qH0 M) = qlim C_X12_undo ((if ¬ M 82 47 = 0 then 10 else 7), [some (qA 82), none], [], qH0 M) := (qlim_n (n := 3) (c' := ((if ¬ M 82 47 = 0 then 10 else 7), [some (qA 82), none], [], qH0 M)) rfl)
set_option maxRecDepth 20000 in
theorem B_X12_undo_7 {M : qMem} : qlim C_X12_undo (7, [some (qA 82), none], [], qH0 M) = some (some (qI (-3)), qH0 M) := by
  refine Eq.trans (qlim_n (n := 1) (c' := (9, [some (qA 82), none], [qI (-3)], qH0 M)) rfl) ?_
  exact (qlim_ret rfl)
set_option maxRecDepth 20000 in
theorem B_X12_undo_10 {M : qMem} : qlim C_X12_undo (10, [some (qA 82), none], [], qH0 M) = qlim C_X12_undo (68, [some (qA 82), some (qI 0)], [], qH0 (qup (qup (qup (qup (qup (qup (qup M 82 11 (M 82 48)) 82 0 ((qup M 82 11 (M 82 48)) 82 49)) 82 1 ((qup (qup M 82 11 (M 82 48)) 82 0 ((qup M 82 11 (M 82 48)) 82 49)) 82 50)) 82 2 ((qup (qup (qup M 82 11 (M 82 48)) 82 0 ((qup M 82 11 (M 82 48)) 82 49)) 82 1 ((qup (qup M 82 11 (M 82 48)) 82 0 ((qup M 82 11 (M 82 48)) 82 49)) 82 50)) 82 51)) 82 37 ((qup (qup (qup (qup M 82 11 (M 82 48)) 82 0 ((qup M 82 11 (M 82 48)) 82 49)) 82 1 ((qup (qup M 82 11 (M 82 48)) 82 0 ((qup M 82 11 (M 82 48)) 82 49)) 82 50)) 82 2 ((qup (qup (qup M 82 11 (M 82 48)) 82 0 ((qup M 82 11 (M 82 48)) 82 49)) 82 1 ((qup (qup M 82 11 (M 82 48)) 82 0 ((qup M 82 11 (M 82 48)) 82 49)) 82 50)) 82 51)) 82 52)) 82 41 ((qup (qup (qup (qup (qup M 82 11 (M 82 48)) 82 0 ((qup M 82 11 (M 82 48)) 82 49)) 82 1 ((qup (qup M 82 11 (M 82 48)) 82 0 ((qup M 82 11 (M 82 48)) 82 49)) 82 50)) 82 2 ((qup (qup (qup M 82 11 (M 82 48)) 82 0 ((qup M 82 11 (M 82 48)) 82 49)) 82 1 ((qup (qup M 82 11 (M 82 48)) 82 0 ((qup M 82 11 (M 82 48)) 82 49)) 82 50)) 82 51)) 82 37 ((qup (qup (qup (qup M 82 11 (M 82 48)) 82 0 ((qup M 82 11 (M 82 48)) 82 49)) 82 1 ((qup (qup M 82 11 (M 82 48)) 82 0 ((qup M 82 11 (M 82 48)) 82 49)) 82 50)) 82 2 ((qup (qup (qup M 82 11 (M 82 48)) 82 0 ((qup M 82 11 (M 82 48)) 82 49)) 82 1 ((qup (qup M 82 11 (M 82 48)) 82 0 ((qup M 82 11 (M 82 48)) 82 49)) 82 50)) 82 51)) 82 52)) 82 53)) 82 42 ((qup (qup (qup (qup (qup (qup M 82 11 (M 82 48)) 82 0 ((qup M 82 11 (M 82 48)) 82 49)) 82 1 ((qup (qup M 82 11 (M 82 48)) 82 0 ((qup M 82 11 (M 82 48)) 82 49)) 82 50)) 82 2 ((qup (qup (qup M 82 11 (M 82 48)) 82 0 ((qup M 82 11 (M 82 48)) 82 49)) 82 1 ((qup (qup M 82 11 (M 82 48)) 82 0 ((qup M 82 11 (M 82 48)) 82 49)) 82 50)) 82 51)) 82 37 ((qup (qup (qup (qup M 82 11 (M 82 48)) 82 0 ((qup M 82 11 (M 82 48)) 82 49)) 82 1 ((qup (qup M 82 11 (M 82 48)) 82 0 ((qup M 82 11 (M 82 48)) 82 49)) 82 50)) 82 2 ((qup (qup (qup M 82 11 (M 82 48)) 82 0 ((qup M 82 11 (M 82 48)) 82 49)) 82 1 ((qup (qup M 82 11 (M 82 48)) 82 0 ((qup M 82 11 (M 82 48)) 82 49)) 82 50)) 82 51)) 82 52)) 82 41 ((qup (qup (qup (qup (qup M 82 11 (M 82 48)) 82 0 ((qup M 82 11 (M 82 48)) 82 49)) 82 1 ((qup (qup M 82 11 (M 82 48)) 82 0 ((qup M 82 11 (M 82 48)) 82 49)) 82 50)) 82 2 ((qup (qup (qup M 82 11 (M 82 48)) 82 0 ((qup M 82 11 (M 82 48)) 82 49)) 82 1 ((qup (qup M 82 11 (M 82 48)) 82 0 ((qup M 82 11 (M 82 48)) 82 49)) 82 50)) 82 51)) 82 37 ((qup (qup (qup (qup M 82 11 (M 82 48)) 82 0 ((qup M 82 11 (M 82 48)) 82 49)) 82 1 ((qup (qup M 82 11 (M 82 48)) 82 0 ((qup M 82 11 (M 82 48)) 82 49)) 82 50)) 82 2 ((qup (qup (qup M 82 11 (M 82 48)) 82 0 ((qup M 82 11 (M 82 48)) 82 49)) 82 1 ((qup (qup M 82 11 (M 82 48)) 82 0 ((qup M 82 11 (M 82 48)) 82 49)) 82 50)) 82 51)) 82 52)) 82 53)) 82 54))) := (qlim_n (n := 30) (c' := (68, [some (qA 82), some (qI 0)], [], qH0 (qup (qup (qup (qup (qup (qup (qup M 82 11 (M 82 48)) 82 0 ((qup M 82 11 (M 82 48)) 82 49)) 82 1 ((qup (qup M 82 11 (M 82 48)) 82 0 ((qup M 82 11 (M 82 48)) 82 49)) 82 50)) 82 2 ((qup (qup (qup M 82 11 (M 82 48)) 82 0 ((qup M 82 11 (M 82 48)) 82 49)) 82 1 ((qup (qup M 82 11 (M 82 48)) 82 0 ((qup M 82 11 (M 82 48)) 82 49)) 82 50)) 82 51)) 82 37 ((qup (qup (qup (qup M 82 11 (M 82 48)) 82 0 ((qup M 82 11 (M 82 48)) 82 49)) 82 1 ((qup (qup M 82 11 (M 82 48)) 82 0 ((qup M 82 11 (M 82 48)) 82 49)) 82 50)) 82 2 ((qup (qup (qup M 82 11 (M 82 48)) 82 0 ((qup M 82 11 (M 82 48)) 82 49)) 82 1 ((qup (qup M 82 11 (M 82 48)) 82 0 ((qup M 82 11 (M 82 48)) 82 49)) 82 50)) 82 51)) 82 52)) 82 41 ((qup (qup (qup (qup (qup M 82 11 (M 82 48)) 82 0 ((qup M 82 11 (M 82 48)) 82 49)) 82 1 ((qup (qup M 82 11 (M 82 48)) 82 0 ((qup M 82 11 (M 82 48)) 82 49)) 82 50)) 82 2 ((qup (qup (qup M 82 11 (M 82 48)) 82 0 ((qup M 82 11 (M 82 48)) 82 49)) 82 1 ((qup (qup M 82 11 (M 82 48)) 82 0 ((qup M 82 11 (M 82 48)) 82 49)) 82 50)) 82 51)) 82 37 ((qup (qup (qup (qup M 82 11 (M 82 48)) 82 0 ((qup M 82 11 (M 82 48)) 82 49)) 82 1 ((qup (qup M 82 11 (M 82 48)) 82 0 ((qup M 82 11 (M 82 48)) 82 49)) 82 50)) 82 2 ((qup (qup (qup M 82 11 (M 82 48)) 82 0 ((qup M 82 11 (M 82 48)) 82 49)) 82 1 ((qup (qup M 82 11 (M 82 48)) 82 0 ((qup M 82 11 (M 82 48)) 82 49)) 82 50)) 82 51)) 82 52)) 82 53)) 82 42 ((qup (qup (qup (qup (qup (qup M 82 11 (M 82 48)) 82 0 ((qup M 82 11 (M 82 48)) 82 49)) 82 1 ((qup (qup M 82 11 (M 82 48)) 82 0 ((qup M 82 11 (M 82 48)) 82 49)) 82 50)) 82 2 ((qup (qup (qup M 82 11 (M 82 48)) 82 0 ((qup M 82 11 (M 82 48)) 82 49)) 82 1 ((qup (qup M 82 11 (M 82 48)) 82 0 ((qup M 82 11 (M 82 48)) 82 49)) 82 50)) 82 51)) 82 37 ((qup (qup (qup (qup M 82 11 (M 82 48)) 82 0 ((qup M 82 11 (M 82 48)) 82 49)) 82 1 ((qup (qup M 82 11 (M 82 48)) 82 0 ((qup M 82 11 (M 82 48)) 82 49)) 82 50)) 82 2 ((qup (qup (qup M 82 11 (M 82 48)) 82 0 ((qup M 82 11 (M 82 48)) 82 49)) 82 1 ((qup (qup M 82 11 (M 82 48)) 82 0 ((qup M 82 11 (M 82 48)) 82 49)) 82 50)) 82 51)) 82 52)) 82 41 ((qup (qup (qup (qup (qup M 82 11 (M 82 48)) 82 0 ((qup M 82 11 (M 82 48)) 82 49)) 82 1 ((qup (qup M 82 11 (M 82 48)) 82 0 ((qup M 82 11 (M 82 48)) 82 49)) 82 50)) 82 2 ((qup (qup (qup M 82 11 (M 82 48)) 82 0 ((qup M 82 11 (M 82 48)) 82 49)) 82 1 ((qup (qup M 82 11 (M 82 48)) 82 0 ((qup M 82 11 (M 82 48)) 82 49)) 82 50)) 82 51)) 82 37 ((qup (qup (qup (qup M 82 11 (M 82 48)) 82 0 ((qup M 82 11 (M 82 48)) 82 49)) 82 1 ((qup (qup M 82 11 (M 82 48)) 82 0 ((qup M 82 11 (M 82 48)) 82 49)) 82 50)) 82 2 ((qup (qup (qup M 82 11 (M 82 48)) 82 0 ((qup M 82 11 (M 82 48)) 82 49)) 82 1 ((qup (qup M 82 11 (M 82 48)) 82 0 ((qup M 82 11 (M 82 48)) 82 49)) 82 50)) 82 51)) 82 52)) 82 53)) 82 54)))) rfl)
set_option maxRecDepth 20000 in
theorem B_X12_undo_68 {M : qMem} {x1 : Int} : qlim C_X12_undo (68, [some (qA 82), some (qI x1)], [], qH0 M) = qlim C_X12_undo ((if 5 ≤ x1 then 127 else 73), [some (qA 82), some (qI x1)], [], qH0 M) := (qlim_n (n := 3) (c' := ((if 5 ≤ x1 then 127 else 73), [some (qA 82), some (qI x1)], [], qH0 M)) rfl)
set_option maxRecDepth 20000 in
theorem B_X12_undo_73 {M : qMem} {x1 : Int} (h1 : 0 ≤ x1) (h2 : x1 < 5) : qlim C_X12_undo (73, [some (qA 82), some (qI x1)], [], qH0 M) = qlim C_X12_undo (68, [some (qA 82), some (qI (kadd x1 1))], [], qH0 (qup (qup (qup (qup M 83 x1 (M 111 x1)) 104 x1 ((qup M 83 x1 (M 111 x1)) 118 x1)) 105 x1 ((qup (qup M 83 x1 (M 111 x1)) 104 x1 ((qup M 83 x1 (M 111 x1)) 118 x1)) 119 x1)) 106 x1 ((qup (qup (qup M 83 x1 (M 111 x1)) 104 x1 ((qup M 83 x1 (M 111 x1)) 118 x1)) 105 x1 ((qup (qup M 83 x1 (M 111 x1)) 104 x1 ((qup M 83 x1 (M 111 x1)) 118 x1)) 119 x1)) 120 x1))) := by
  refine Eq.trans (qlim_n (n := 6) (c' := (83, [some (qA 82), some (qI x1)], [qI x1, qA 111, qI x1, qA 83], qH0 M)) rfl) ?_
  refine Eq.trans (qs_iaload rfl rfl h1 h2) ?_
  refine Eq.trans (qs_iastore rfl rfl h1 h2) ?_
  refine Eq.trans (qlim_n (n := 6) (c' := (95, [some (qA 82), some (qI x1)], [qI x1, qA 118, qI x1, qA 104], qH0 (qup M 83 x1 (M 111 x1)))) rfl) ?_
  refine Eq.trans (qs_iaload rfl rfl h1 h2) ?_
  refine Eq.trans (qs_iastore rfl rfl h1 h2) ?_
  refine Eq.trans (qlim_n (n := 6) (c' := (107, [some (qA 82), some (qI x1)], [qI x1, qA 119, qI x1, qA 105], qH0 (qup (qup M 83 x1 (M 111 x1)) 104 x1 ((qup M 83 x1 (M 111 x1)) 118 x1)))) rfl) ?_
  refine Eq.trans (qs_iaload rfl rfl h1 h2) ?_
  refine Eq.trans (qs_iastore rfl rfl h1 h2) ?_
  refine Eq.trans (qlim_n (n := 6) (c' := (119, [some (qA 82), some (qI x1)], [qI x1, qA 120, qI x1, qA 106], qH0 (qup (qup (qup M 83 x1 (M 111 x1)) 104 x1 ((qup M 83 x1 (M 111 x1)) 118 x1)) 105 x1 ((qup (qup M 83 x1 (M 111 x1)) 104 x1 ((qup M 83 x1 (M 111 x1)) 118 x1)) 119 x1)))) rfl) ?_
  refine Eq.trans (qs_iaload rfl rfl h1 h2) ?_
  refine Eq.trans (qs_iastore rfl rfl h1 h2) ?_
  exact (qlim_n (n := 2) (c' := (68, [some (qA 82), some (qI (kadd x1 1))], [], qH0 (qup (qup (qup (qup M 83 x1 (M 111 x1)) 104 x1 ((qup M 83 x1 (M 111 x1)) 118 x1)) 105 x1 ((qup (qup M 83 x1 (M 111 x1)) 104 x1 ((qup M 83 x1 (M 111 x1)) 118 x1)) 119 x1)) 106 x1 ((qup (qup (qup M 83 x1 (M 111 x1)) 104 x1 ((qup M 83 x1 (M 111 x1)) 118 x1)) 105 x1 ((qup (qup M 83 x1 (M 111 x1)) 104 x1 ((qup M 83 x1 (M 111 x1)) 118 x1)) 119 x1)) 120 x1)))) rfl)
set_option maxRecDepth 20000 in
theorem B_X12_undo_127 {M : qMem} {x1 : Int} : qlim C_X12_undo (127, [some (qA 82), some (qI x1)], [], qH0 M) = qlim C_X12_undo (129, [some (qA 82), some (qI 0)], [], qH0 M) := (qlim_n (n := 2) (c' := (129, [some (qA 82), some (qI 0)], [], qH0 M)) rfl)
set_option maxRecDepth 20000 in
theorem B_X12_undo_129 {M : qMem} {x1 : Int} : qlim C_X12_undo (129, [some (qA 82), some (qI x1)], [], qH0 M) = qlim C_X12_undo ((if 6 ≤ x1 then 201 else 135), [some (qA 82), some (qI x1)], [], qH0 M) := (qlim_n (n := 3) (c' := ((if 6 ≤ x1 then 201 else 135), [some (qA 82), some (qI x1)], [], qH0 M)) rfl)
set_option maxRecDepth 20000 in
theorem B_X12_undo_135 {M : qMem} {x1 : Int} (h1 : 0 ≤ x1) (h2 : x1 < 6) : qlim C_X12_undo (135, [some (qA 82), some (qI x1)], [], qH0 M) = qlim C_X12_undo (129, [some (qA 82), some (qI (kadd x1 1))], [], qH0 (qup (qup (qup (qup (qup M 84 x1 (M 112 x1)) 85 x1 ((qup M 84 x1 (M 112 x1)) 113 x1)) 86 x1 ((qup (qup M 84 x1 (M 112 x1)) 85 x1 ((qup M 84 x1 (M 112 x1)) 113 x1)) 114 x1)) 87 x1 ((qup (qup (qup M 84 x1 (M 112 x1)) 85 x1 ((qup M 84 x1 (M 112 x1)) 113 x1)) 86 x1 ((qup (qup M 84 x1 (M 112 x1)) 85 x1 ((qup M 84 x1 (M 112 x1)) 113 x1)) 114 x1)) 115 x1)) 88 x1 ((qup (qup (qup (qup M 84 x1 (M 112 x1)) 85 x1 ((qup M 84 x1 (M 112 x1)) 113 x1)) 86 x1 ((qup (qup M 84 x1 (M 112 x1)) 85 x1 ((qup M 84 x1 (M 112 x1)) 113 x1)) 114 x1)) 87 x1 ((qup (qup (qup M 84 x1 (M 112 x1)) 85 x1 ((qup M 84 x1 (M 112 x1)) 113 x1)) 86 x1 ((qup (qup M 84 x1 (M 112 x1)) 85 x1 ((qup M 84 x1 (M 112 x1)) 113 x1)) 114 x1)) 115 x1)) 116 x1))) := by
  refine Eq.trans (qlim_n (n := 6) (c' := (145, [some (qA 82), some (qI x1)], [qI x1, qA 112, qI x1, qA 84], qH0 M)) rfl) ?_
  refine Eq.trans (qs_iaload rfl rfl h1 h2) ?_
  refine Eq.trans (qs_iastore rfl rfl h1 h2) ?_
  refine Eq.trans (qlim_n (n := 6) (c' := (157, [some (qA 82), some (qI x1)], [qI x1, qA 113, qI x1, qA 85], qH0 (qup M 84 x1 (M 112 x1)))) rfl) ?_
  refine Eq.trans (qs_iaload rfl rfl h1 h2) ?_
  refine Eq.trans (qs_iastore rfl rfl h1 h2) ?_
  refine Eq.trans (qlim_n (n := 6) (c' := (169, [some (qA 82), some (qI x1)], [qI x1, qA 114, qI x1, qA 86], qH0 (qup (qup M 84 x1 (M 112 x1)) 85 x1 ((qup M 84 x1 (M 112 x1)) 113 x1)))) rfl) ?_
  refine Eq.trans (qs_iaload rfl rfl h1 h2) ?_
  refine Eq.trans (qs_iastore rfl rfl h1 h2) ?_
  refine Eq.trans (qlim_n (n := 6) (c' := (181, [some (qA 82), some (qI x1)], [qI x1, qA 115, qI x1, qA 87], qH0 (qup (qup (qup M 84 x1 (M 112 x1)) 85 x1 ((qup M 84 x1 (M 112 x1)) 113 x1)) 86 x1 ((qup (qup M 84 x1 (M 112 x1)) 85 x1 ((qup M 84 x1 (M 112 x1)) 113 x1)) 114 x1)))) rfl) ?_
  refine Eq.trans (qs_iaload rfl rfl h1 h2) ?_
  refine Eq.trans (qs_iastore rfl rfl h1 h2) ?_
  refine Eq.trans (qlim_n (n := 6) (c' := (193, [some (qA 82), some (qI x1)], [qI x1, qA 116, qI x1, qA 88], qH0 (qup (qup (qup (qup M 84 x1 (M 112 x1)) 85 x1 ((qup M 84 x1 (M 112 x1)) 113 x1)) 86 x1 ((qup (qup M 84 x1 (M 112 x1)) 85 x1 ((qup M 84 x1 (M 112 x1)) 113 x1)) 114 x1)) 87 x1 ((qup (qup (qup M 84 x1 (M 112 x1)) 85 x1 ((qup M 84 x1 (M 112 x1)) 113 x1)) 86 x1 ((qup (qup M 84 x1 (M 112 x1)) 85 x1 ((qup M 84 x1 (M 112 x1)) 113 x1)) 114 x1)) 115 x1)))) rfl) ?_
  refine Eq.trans (qs_iaload rfl rfl h1 h2) ?_
  refine Eq.trans (qs_iastore rfl rfl h1 h2) ?_
  exact (qlim_n (n := 2) (c' := (129, [some (qA 82), some (qI (kadd x1 1))], [], qH0 (qup (qup (qup (qup (qup M 84 x1 (M 112 x1)) 85 x1 ((qup M 84 x1 (M 112 x1)) 113 x1)) 86 x1 ((qup (qup M 84 x1 (M 112 x1)) 85 x1 ((qup M 84 x1 (M 112 x1)) 113 x1)) 114 x1)) 87 x1 ((qup (qup (qup M 84 x1 (M 112 x1)) 85 x1 ((qup M 84 x1 (M 112 x1)) 113 x1)) 86 x1 ((qup (qup M 84 x1 (M 112 x1)) 85 x1 ((qup M 84 x1 (M 112 x1)) 113 x1)) 114 x1)) 115 x1)) 88 x1 ((qup (qup (qup (qup M 84 x1 (M 112 x1)) 85 x1 ((qup M 84 x1 (M 112 x1)) 113 x1)) 86 x1 ((qup (qup M 84 x1 (M 112 x1)) 85 x1 ((qup M 84 x1 (M 112 x1)) 113 x1)) 114 x1)) 87 x1 ((qup (qup (qup M 84 x1 (M 112 x1)) 85 x1 ((qup M 84 x1 (M 112 x1)) 113 x1)) 86 x1 ((qup (qup M 84 x1 (M 112 x1)) 85 x1 ((qup M 84 x1 (M 112 x1)) 113 x1)) 114 x1)) 115 x1)) 116 x1)))) rfl)
set_option maxRecDepth 20000 in
theorem B_X12_undo_201 {M : qMem} {x1 : Int} : qlim C_X12_undo (201, [some (qA 82), some (qI x1)], [], qH0 M) = qlim C_X12_undo (203, [some (qA 82), some (qI 0)], [], qH0 M) := (qlim_n (n := 2) (c' := (203, [some (qA 82), some (qI 0)], [], qH0 M)) rfl)
set_option maxRecDepth 20000 in
theorem B_X12_undo_203 {M : qMem} {x1 : Int} : qlim C_X12_undo (203, [some (qA 82), some (qI x1)], [], qH0 M) = qlim C_X12_undo ((if 24 ≤ x1 then 227 else 209), [some (qA 82), some (qI x1)], [], qH0 M) := (qlim_n (n := 3) (c' := ((if 24 ≤ x1 then 227 else 209), [some (qA 82), some (qI x1)], [], qH0 M)) rfl)
set_option maxRecDepth 20000 in
theorem B_X12_undo_209 {M : qMem} {x1 : Int} (h1 : 0 ≤ x1) (h2 : x1 < 24) : qlim C_X12_undo (209, [some (qA 82), some (qI x1)], [], qH0 M) = qlim C_X12_undo (203, [some (qA 82), some (qI (kadd x1 1))], [], qH0 (qup M 89 x1 (M 117 x1))) := by
  refine Eq.trans (qlim_n (n := 6) (c' := (219, [some (qA 82), some (qI x1)], [qI x1, qA 117, qI x1, qA 89], qH0 M)) rfl) ?_
  refine Eq.trans (qs_iaload rfl rfl h1 h2) ?_
  refine Eq.trans (qs_iastore rfl rfl h1 h2) ?_
  exact (qlim_n (n := 2) (c' := (203, [some (qA 82), some (qI (kadd x1 1))], [], qH0 (qup M 89 x1 (M 117 x1)))) rfl)
set_option maxRecDepth 20000 in
theorem B_X12_undo_227 {M : qMem} {x1 : Int} : qlim C_X12_undo (227, [some (qA 82), some (qI x1)], [], qH0 M) = qlim C_X12_undo (229, [some (qA 82), some (qI 0)], [], qH0 M) := (qlim_n (n := 2) (c' := (229, [some (qA 82), some (qI 0)], [], qH0 M)) rfl)
set_option maxRecDepth 20000 in
theorem B_X12_undo_229 {M : qMem} {x1 : Int} : qlim C_X12_undo (229, [some (qA 82), some (qI x1)], [], qH0 M) = qlim C_X12_undo ((if 10 ≤ x1 then 265 else 235), [some (qA 82), some (qI x1)], [], qH0 M) := (qlim_n (n := 3) (c' := ((if 10 ≤ x1 then 265 else 235), [some (qA 82), some (qI x1)], [], qH0 M)) rfl)
set_option maxRecDepth 20000 in
theorem B_X12_undo_235 {M : qMem} {x1 : Int} (h1 : 0 ≤ x1) (h2 : x1 < 10) : qlim C_X12_undo (235, [some (qA 82), some (qI x1)], [], qH0 M) = qlim C_X12_undo (229, [some (qA 82), some (qI (kadd x1 1))], [], qH0 (qup (qup M 107 x1 (M 121 x1)) 108 x1 ((qup M 107 x1 (M 121 x1)) 122 x1))) := by
  refine Eq.trans (qlim_n (n := 6) (c' := (245, [some (qA 82), some (qI x1)], [qI x1, qA 121, qI x1, qA 107], qH0 M)) rfl) ?_
  refine Eq.trans (qs_iaload rfl rfl h1 h2) ?_
  refine Eq.trans (qs_iastore rfl rfl h1 h2) ?_
  refine Eq.trans (qlim_n (n := 6) (c' := (257, [some (qA 82), some (qI x1)], [qI x1, qA 122, qI x1, qA 108], qH0 (qup M 107 x1 (M 121 x1)))) rfl) ?_
  refine Eq.trans (qs_iaload rfl rfl h1 h2) ?_
  refine Eq.trans (qs_iastore rfl rfl h1 h2) ?_
  exact (qlim_n (n := 2) (c' := (229, [some (qA 82), some (qI (kadd x1 1))], [], qH0 (qup (qup M 107 x1 (M 121 x1)) 108 x1 ((qup M 107 x1 (M 121 x1)) 122 x1)))) rfl)
set_option maxRecDepth 20000 in
theorem B_X12_undo_265 {M : qMem} {x1 : Int} : qlim C_X12_undo (265, [some (qA 82), some (qI x1)], [], qH0 M) = qlim C_X12_undo (267, [some (qA 82), some (qI 0)], [], qH0 M) := (qlim_n (n := 2) (c' := (267, [some (qA 82), some (qI 0)], [], qH0 M)) rfl)
set_option maxRecDepth 20000 in
theorem B_X12_undo_267 {M : qMem} {x1 : Int} : qlim C_X12_undo (267, [some (qA 82), some (qI x1)], [], qH0 M) = qlim C_X12_undo ((if 8 ≤ x1 then 303 else 273), [some (qA 82), some (qI x1)], [], qH0 M) := (qlim_n (n := 3) (c' := ((if 8 ≤ x1 then 303 else 273), [some (qA 82), some (qI x1)], [], qH0 M)) rfl)
set_option maxRecDepth 20000 in
theorem B_X12_undo_273 {M : qMem} {x1 : Int} (h1 : 0 ≤ x1) (h2 : x1 < 8) : qlim C_X12_undo (273, [some (qA 82), some (qI x1)], [], qH0 M) = qlim C_X12_undo (267, [some (qA 82), some (qI (kadd x1 1))], [], qH0 (qup (qup M 109 x1 (M 123 x1)) 110 x1 ((qup M 109 x1 (M 123 x1)) 124 x1))) := by
  refine Eq.trans (qlim_n (n := 6) (c' := (283, [some (qA 82), some (qI x1)], [qI x1, qA 123, qI x1, qA 109], qH0 M)) rfl) ?_
  refine Eq.trans (qs_iaload rfl rfl h1 h2) ?_
  refine Eq.trans (qs_iastore rfl rfl h1 h2) ?_
  refine Eq.trans (qlim_n (n := 6) (c' := (295, [some (qA 82), some (qI x1)], [qI x1, qA 124, qI x1, qA 110], qH0 (qup M 109 x1 (M 123 x1)))) rfl) ?_
  refine Eq.trans (qs_iaload rfl rfl h1 h2) ?_
  refine Eq.trans (qs_iastore rfl rfl h1 h2) ?_
  exact (qlim_n (n := 2) (c' := (267, [some (qA 82), some (qI (kadd x1 1))], [], qH0 (qup (qup M 109 x1 (M 123 x1)) 110 x1 ((qup M 109 x1 (M 123 x1)) 124 x1)))) rfl)
set_option maxRecDepth 20000 in
theorem B_X12_undo_303 {M : qMem} {x1 : Int} : qlim C_X12_undo (303, [some (qA 82), some (qI x1)], [], qH0 M) = some (some (qI (M 82 0)), qH0 M) := by
  refine Eq.trans (qlim_n (n := 2) (c' := (307, [some (qA 82), some (qI x1)], [qI (M 82 0)], qH0 M)) rfl) ?_
  exact (qlim_ret rfl)
theorem E_X12_undo {h : qH} : S_X12_undo [qA 82] h = qlim C_X12_undo (0, [some (qA 82), none], [], h) := qM_at (Nat.le_of_ble_eq_true rfl) rfl
set_option maxRecDepth 20000 in
theorem B_X12_body_0 {M : qMem} {x1 : Int} : qlim C_X12_body (0, [some (qA 82), some (qI x1)], [], qH0 M) = qlim C_X12_body ((if 20 ≤ M 82 69 then 19 else 9), [some (qA 82), some (qI x1)], [], qH0 M) := (qlim_n (n := 4) (c' := ((if 20 ≤ M 82 69 then 19 else 9), [some (qA 82), some (qI x1)], [], qH0 M)) rfl)
set_option maxRecDepth 20000 in
theorem B_X12_body_9 {M : qMem} {x1 : Int} (h1 : 0 ≤ M 82 69) (h2 : M 82 69 < 20) : qlim C_X12_body (9, [some (qA 82), some (qI x1)], [], qH0 M) = qlim C_X12_body (19, [some (qA 82), some (qI x1)], [], qH0 (qup M 125 (M 82 69) x1)) := by
  refine Eq.trans (qlim_n (n := 5) (c' := (18, [some (qA 82), some (qI x1)], [qI x1, qI (M 82 69), qA 125], qH0 M)) rfl) ?_
  exact (qs_iastore rfl rfl h1 h2)
set_option maxRecDepth 20000 in
theorem B_X12_body_19 {M : qMem} {x1 : Int} : qlim C_X12_body (19, [some (qA 82), some (qI x1)], [], qH0 M) = some (none, qH0 (qup M 82 69 (kadd (M 82 69) 1))) := by
  refine Eq.trans (qlim_n (n := 6) (c' := (29, [some (qA 82), some (qI x1)], [], qH0 (qup M 82 69 (kadd (M 82 69) 1)))) rfl) ?_
  exact (qlim_ret rfl)
theorem E_X12_body {h : qH} {x1 : Int} : S_X12_body [qA 82, qI x1] h = qlim C_X12_body (0, [some (qA 82), some (qI x1)], [], h) := qM_at (Nat.le_of_ble_eq_true rfl) rfl
set_option maxRecDepth 20000 in
theorem B_X12_personFolds_0 {M : qMem} {x1 x2 : Int} : qlim C_X12_personFolds (0, [some (qA 82), some (qI x1), some (qI x2)], [], qH0 M) = qbd (S_X12_body [qA 82, qI 10] (qH0 M)) (fun r h' => qlim C_X12_personFolds (6, [some (qA 82), some (qI x1), some (qI x2)], r.toList ++ [], h')) := by
  refine Eq.trans (qlim_n (n := 2) (c' := (3, [some (qA 82), some (qI x1), some (qI x2)], [qI 10, qA 82], qH0 M)) rfl) ?_
  exact (qlim_callv (n := 1) rfl rfl rfl (Nat.le_of_ble_eq_true rfl) (Nat.le_of_ble_eq_true rfl) rfl)
set_option maxRecDepth 20000 in
theorem B_X12_personFolds_6 {M : qMem} {x1 x2 : Int} : qlim C_X12_personFolds (6, [some (qA 82), some (qI x1), some (qI x2)], [], qH0 M) = some (some (qI (kadd x2 x1)), qH0 M) := by
  refine Eq.trans (qlim_n (n := 3) (c' := (9, [some (qA 82), some (qI x1), some (qI x2)], [qI (kadd x2 x1)], qH0 M)) rfl) ?_
  exact (qlim_ret rfl)
theorem E_X12_personFolds {h : qH} {x1 x2 : Int} : S_X12_personFolds [qA 82, qI x1, qI x2] h = qlim C_X12_personFolds (0, [some (qA 82), some (qI x1), some (qI x2)], [], h) := qM_at (Nat.le_of_ble_eq_true rfl) rfl
set_option maxRecDepth 20000 in
theorem B_X12_foldsAct_0 {M : qMem} {x1 x2 : Int} (h1 : 0 ≤ x1) (h2 : x1 < 6) : qlim C_X12_foldsAct (0, [some (qA 82), some (qI x1), some (qI x2)], [], qH0 M) = qlim C_X12_foldsAct (qtk [40, 89, 55, 40, 69] 89 2 (M 84 x1), [some (qA 82), some (qI x1), some (qI x2)], [], qH0 M) := by
  refine Eq.trans (qlim_n (n := 3) (c' := (5, [some (qA 82), some (qI x1), some (qI x2)], [qI x1, qA 84], qH0 M)) rfl) ?_
  refine Eq.trans (qs_iaload rfl rfl h1 h2) ?_
  exact (qlim_n (n := 1) (c' := (qtk [40, 89, 55, 40, 69] 89 2 (M 84 x1), [some (qA 82), some (qI x1), some (qI x2)], [], qH0 M)) rfl)
set_option maxRecDepth 20000 in
theorem B_X12_foldsAct_40 {M : qMem} {x1 x2 : Int} : qlim C_X12_foldsAct (40, [some (qA 82), some (qI x1), some (qI x2)], [], qH0 M) = qbd (S_X12_body [qA 82, qI 30] (qH0 M)) (fun r h' => qlim C_X12_foldsAct (46, [some (qA 82), some (qI x1), some (qI x2)], r.toList ++ [], h')) := by
  refine Eq.trans (qlim_n (n := 2) (c' := (43, [some (qA 82), some (qI x1), some (qI x2)], [qI 30, qA 82], qH0 M)) rfl) ?_
  exact (qlim_callv (n := 1) rfl rfl rfl (Nat.le_of_ble_eq_true rfl) (Nat.le_of_ble_eq_true rfl) rfl)
set_option maxRecDepth 20000 in
theorem B_X12_foldsAct_46 {M : qMem} {x1 x2 : Int} : qlim C_X12_foldsAct (46, [some (qA 82), some (qI x1), some (qI x2)], [], qH0 M) = qbd (S_X12_personFolds [qA 82, qI x1, qI (kmul x2 3)] (qH0 M)) (fun r h' => qlim C_X12_foldsAct (54, [some (qA 82), some (qI x1), some (qI x2)], r.toList ++ [], h')) := by
  refine Eq.trans (qlim_n (n := 5) (c' := (51, [some (qA 82), some (qI x1), some (qI x2)], [qI (kmul x2 3), qI x1, qA 82], qH0 M)) rfl) ?_
  exact (qlim_callv (n := 2) rfl rfl rfl (Nat.le_of_ble_eq_true rfl) (Nat.le_of_ble_eq_true rfl) rfl)
set_option maxRecDepth 20000 in
theorem B_X12_foldsAct_54 {M : qMem} {x1 x2 s0 : Int} : qlim C_X12_foldsAct (54, [some (qA 82), some (qI x1), some (qI x2)], [qI s0], qH0 M) = some (some (qI s0), qH0 M) := (qlim_ret rfl)
set_option maxRecDepth 20000 in
theorem B_X12_foldsAct_55 {M : qMem} {x1 x2 : Int} : qlim C_X12_foldsAct (55, [some (qA 82), some (qI x1), some (qI x2)], [], qH0 M) = qbd (S_X12_body [qA 82, qI 50] (qH0 M)) (fun r h' => qlim C_X12_foldsAct (61, [some (qA 82), some (qI x1), some (qI x2)], r.toList ++ [], h')) := by
  refine Eq.trans (qlim_n (n := 2) (c' := (58, [some (qA 82), some (qI x1), some (qI x2)], [qI 50, qA 82], qH0 M)) rfl) ?_
  exact (qlim_callv (n := 1) rfl rfl rfl (Nat.le_of_ble_eq_true rfl) (Nat.le_of_ble_eq_true rfl) rfl)
set_option maxRecDepth 20000 in
theorem B_X12_foldsAct_61 {M : qMem} {x1 x2 : Int} : qlim C_X12_foldsAct (61, [some (qA 82), some (qI x1), some (qI x2)], [], qH0 M) = qbd (S_X12_personFolds [qA 82, qI x1, qI x2] (qH0 M)) (fun r h' => qlim C_X12_foldsAct (67, [some (qA 82), some (qI x1), some (qI x2)], r.toList ++ [], h')) := by
  refine Eq.trans (qlim_n (n := 3) (c' := (64, [some (qA 82), some (qI x1), some (qI x2)], [qI x2, qI x1, qA 82], qH0 M)) rfl) ?_
  exact (qlim_callv (n := 2) rfl rfl rfl (Nat.le_of_ble_eq_true rfl) (Nat.le_of_ble_eq_true rfl) rfl)
set_option maxRecDepth 20000 in
theorem B_X12_foldsAct_67 {M : qMem} {x1 x2 s0 : Int} : qlim C_X12_foldsAct (67, [some (qA 82), some (qI x1), some (qI x2)], [qI s0], qH0 M) = some (some (qI (kneg s0)), qH0 M) := by
  refine Eq.trans (qlim_n (n := 1) (c' := (68, [some (qA 82), some (qI x1), some (qI x2)], [qI (kneg s0)], qH0 M)) rfl) ?_
  exact (qlim_ret rfl)
set_option maxRecDepth 20000 in
theorem B_X12_foldsAct_69 {M : qMem} {x1 x2 : Int} : qlim C_X12_foldsAct (69, [some (qA 82), some (qI x1), some (qI x2)], [], qH0 M) = qbd (S_X12_body [qA 82, qI 71] (qH0 M)) (fun r h' => qlim C_X12_foldsAct (75, [some (qA 82), some (qI x1), some (qI x2)], r.toList ++ [], h')) := by
  refine Eq.trans (qlim_n (n := 2) (c' := (72, [some (qA 82), some (qI x1), some (qI x2)], [qI 71, qA 82], qH0 M)) rfl) ?_
  exact (qlim_callv (n := 1) rfl rfl rfl (Nat.le_of_ble_eq_true rfl) (Nat.le_of_ble_eq_true rfl) rfl)
set_option maxRecDepth 20000 in
theorem B_X12_foldsAct_75 {M : qMem} {x1 x2 : Int} : qlim C_X12_foldsAct (75, [some (qA 82), some (qI x1), some (qI x2)], [], qH0 M) = qbd (S_X12_personFolds [qA 82, qI x1, qI x2] (qH0 M)) (fun r h' => qlim C_X12_foldsAct (81, [some (qA 82), some (qI x1), some (qI x2)], r.toList ++ [], h')) := by
  refine Eq.trans (qlim_n (n := 3) (c' := (78, [some (qA 82), some (qI x1), some (qI x2)], [qI x2, qI x1, qA 82], qH0 M)) rfl) ?_
  exact (qlim_callv (n := 2) rfl rfl rfl (Nat.le_of_ble_eq_true rfl) (Nat.le_of_ble_eq_true rfl) rfl)
set_option maxRecDepth 20000 in
theorem B_X12_foldsAct_81 {M : qMem} {x1 x2 s0 : Int} (h1 : 0 ≤ x1) (h2 : x1 < 6) : qlim C_X12_foldsAct (81, [some (qA 82), some (qI x1), some (qI x2)], [qI s0], qH0 M) = some (some (qI (kxor s0 (M 85 x1))), qH0 M) := by
  refine Eq.trans (qlim_n (n := 3) (c' := (86, [some (qA 82), some (qI x1), some (qI x2)], [qI x1, qA 85, qI s0], qH0 M)) rfl) ?_
  refine Eq.trans (qs_iaload rfl rfl h1 h2) ?_
  refine Eq.trans (qlim_n (n := 1) (c' := (88, [some (qA 82), some (qI x1), some (qI x2)], [qI (kxor s0 (M 85 x1))], qH0 M)) rfl) ?_
  exact (qlim_ret rfl)
set_option maxRecDepth 20000 in
theorem B_X12_foldsAct_89 {M : qMem} {x1 x2 : Int} : qlim C_X12_foldsAct (89, [some (qA 82), some (qI x1), some (qI x2)], [], qH0 M) = qbd (S_X12_personFolds [qA 82, qI x1, qI x2] (qH0 M)) (fun r h' => qlim C_X12_foldsAct (95, [some (qA 82), some (qI x1), some (qI x2)], r.toList ++ [], h')) := by
  refine Eq.trans (qlim_n (n := 3) (c' := (92, [some (qA 82), some (qI x1), some (qI x2)], [qI x2, qI x1, qA 82], qH0 M)) rfl) ?_
  exact (qlim_callv (n := 2) rfl rfl rfl (Nat.le_of_ble_eq_true rfl) (Nat.le_of_ble_eq_true rfl) rfl)
set_option maxRecDepth 20000 in
theorem B_X12_foldsAct_95 {M : qMem} {x1 x2 s0 : Int} : qlim C_X12_foldsAct (95, [some (qA 82), some (qI x1), some (qI x2)], [qI s0], qH0 M) = some (some (qI s0), qH0 M) := (qlim_ret rfl)
theorem E_X12_foldsAct {h : qH} {x1 x2 : Int} : S_X12_foldsAct [qA 82, qI x1, qI x2] h = qlim C_X12_foldsAct (0, [some (qA 82), some (qI x1), some (qI x2)], [], h) := qM_at (Nat.le_of_ble_eq_true rfl) rfl
set_option maxRecDepth 20000 in
theorem B_X12_personLicks_0 {M : qMem} {x1 x2 : Int} : qlim C_X12_personLicks (0, [some (qA 82), some (qI x1), some (qI x2)], [], qH0 M) = qbd (S_X12_body [qA 82, qI 11] (qH0 M)) (fun r h' => qlim C_X12_personLicks (6, [some (qA 82), some (qI x1), some (qI x2)], r.toList ++ [], h')) := by
  refine Eq.trans (qlim_n (n := 2) (c' := (3, [some (qA 82), some (qI x1), some (qI x2)], [qI 11, qA 82], qH0 M)) rfl) ?_
  exact (qlim_callv (n := 1) rfl rfl rfl (Nat.le_of_ble_eq_true rfl) (Nat.le_of_ble_eq_true rfl) rfl)
set_option maxRecDepth 20000 in
theorem B_X12_personLicks_6 {M : qMem} {x1 x2 : Int} : qlim C_X12_personLicks (6, [some (qA 82), some (qI x1), some (qI x2)], [], qH0 M) = qbd (S_X12_foldsAct [qA 82, qI x1, qI x2] (qH0 M)) (fun r h' => qlim C_X12_personLicks (12, [some (qA 82), some (qI x1), some (qI x2)], r.toList ++ [], h')) := by
  refine Eq.trans (qlim_n (n := 3) (c' := (9, [some (qA 82), some (qI x1), some (qI x2)], [qI x2, qI x1, qA 82], qH0 M)) rfl) ?_
  exact (qlim_callv (n := 2) rfl rfl rfl (Nat.le_of_ble_eq_true rfl) (Nat.le_of_ble_eq_true rfl) rfl)
set_option maxRecDepth 20000 in
theorem B_X12_personLicks_12 {M : qMem} {x1 x2 s0 : Int} (h1 : 0 ≤ x1) (h2 : x1 < 6) : qlim C_X12_personLicks (12, [some (qA 82), some (qI x1), some (qI x2)], [qI s0], qH0 M) = some (some (qI (ksub s0 (M 85 x1))), qH0 M) := by
  refine Eq.trans (qlim_n (n := 3) (c' := (17, [some (qA 82), some (qI x1), some (qI x2)], [qI x1, qA 85, qI s0], qH0 M)) rfl) ?_
  refine Eq.trans (qs_iaload rfl rfl h1 h2) ?_
  refine Eq.trans (qlim_n (n := 1) (c' := (19, [some (qA 82), some (qI x1), some (qI x2)], [qI (ksub s0 (M 85 x1))], qH0 M)) rfl) ?_
  exact (qlim_ret rfl)
theorem E_X12_personLicks {h : qH} {x1 x2 : Int} : S_X12_personLicks [qA 82, qI x1, qI x2] h = qlim C_X12_personLicks (0, [some (qA 82), some (qI x1), some (qI x2)], [], h) := qM_at (Nat.le_of_ble_eq_true rfl) rfl
set_option maxRecDepth 20000 in
theorem B_X12_quickLicks_0 {M : qMem} {x1 x2 : Int} : qlim C_X12_quickLicks (0, [some (qA 82), some (qI x1), some (qI x2)], [], qH0 M) = qbd (S_X12_body [qA 82, qI 20] (qH0 M)) (fun r h' => qlim C_X12_quickLicks (6, [some (qA 82), some (qI x1), some (qI x2)], r.toList ++ [], h')) := by
  refine Eq.trans (qlim_n (n := 2) (c' := (3, [some (qA 82), some (qI x1), some (qI x2)], [qI 20, qA 82], qH0 M)) rfl) ?_
  exact (qlim_callv (n := 1) rfl rfl rfl (Nat.le_of_ble_eq_true rfl) (Nat.le_of_ble_eq_true rfl) rfl)
set_option maxRecDepth 20000 in
theorem B_X12_quickLicks_6 {M : qMem} {x1 x2 : Int} : qlim C_X12_quickLicks (6, [some (qA 82), some (qI x1), some (qI x2)], [], qH0 M) = qbd (S_X12_personLicks [qA 82, qI x1, qI x2] (qH0 M)) (fun r h' => qlim C_X12_quickLicks (12, [some (qA 82), some (qI x1), some (qI x2)], r.toList ++ [], h')) := by
  refine Eq.trans (qlim_n (n := 3) (c' := (9, [some (qA 82), some (qI x1), some (qI x2)], [qI x2, qI x1, qA 82], qH0 M)) rfl) ?_
  exact (qlim_callv (n := 2) rfl rfl rfl (Nat.le_of_ble_eq_true rfl) (Nat.le_of_ble_eq_true rfl) rfl)
set_option maxRecDepth 20000 in
theorem B_X12_quickLicks_12 {M : qMem} {x1 x2 s0 : Int} : qlim C_X12_quickLicks (12, [some (qA 82), some (qI x1), some (qI x2)], [qI s0], qH0 M) = some (some (qI (kxor s0 6)), qH0 M) := by
  refine Eq.trans (qlim_n (n := 2) (c' := (15, [some (qA 82), some (qI x1), some (qI x2)], [qI (kxor s0 6)], qH0 M)) rfl) ?_
  exact (qlim_ret rfl)
theorem E_X12_quickLicks {h : qH} {x1 x2 : Int} : S_X12_quickLicks [qA 82, qI x1, qI x2] h = qlim C_X12_quickLicks (0, [some (qA 82), some (qI x1), some (qI x2)], [], h) := qM_at (Nat.le_of_ble_eq_true rfl) rfl
set_option maxRecDepth 20000 in
theorem B_X12_licksAct_0 {M : qMem} {x1 x2 : Int} (h1 : 0 ≤ x1) (h2 : x1 < 6) : qlim C_X12_licksAct (0, [some (qA 82), some (qI x1), some (qI x2), none], [], qH0 M) = qlim C_X12_licksAct (qlk [(1, 40), (4, 47), (6, 62)] 84 (M 84 x1), [some (qA 82), some (qI x1), some (qI x2), none], [], qH0 M) := by
  refine Eq.trans (qlim_n (n := 3) (c' := (5, [some (qA 82), some (qI x1), some (qI x2), none], [qI x1, qA 84], qH0 M)) rfl) ?_
  refine Eq.trans (qs_iaload rfl rfl h1 h2) ?_
  exact (qlim_n (n := 1) (c' := (qlk [(1, 40), (4, 47), (6, 62)] 84 (M 84 x1), [some (qA 82), some (qI x1), some (qI x2), none], [], qH0 M)) rfl)
set_option maxRecDepth 20000 in
theorem B_X12_licksAct_40 {M : qMem} {x1 x2 : Int} : qlim C_X12_licksAct (40, [some (qA 82), some (qI x1), some (qI x2), none], [], qH0 M) = qbd (S_X12_quickLicks [qA 82, qI x1, qI x2] (qH0 M)) (fun r h' => qlim C_X12_licksAct (46, [some (qA 82), some (qI x1), some (qI x2), none], r.toList ++ [], h')) := by
  refine Eq.trans (qlim_n (n := 3) (c' := (43, [some (qA 82), some (qI x1), some (qI x2), none], [qI x2, qI x1, qA 82], qH0 M)) rfl) ?_
  exact (qlim_callv (n := 2) rfl rfl rfl (Nat.le_of_ble_eq_true rfl) (Nat.le_of_ble_eq_true rfl) rfl)
set_option maxRecDepth 20000 in
theorem B_X12_licksAct_46 {M : qMem} {x1 x2 s0 : Int} : qlim C_X12_licksAct (46, [some (qA 82), some (qI x1), some (qI x2), none], [qI s0], qH0 M) = some (some (qI s0), qH0 M) := (qlim_ret rfl)
set_option maxRecDepth 20000 in
theorem B_X12_licksAct_47 {M : qMem} {x1 x2 : Int} : qlim C_X12_licksAct (47, [some (qA 82), some (qI x1), some (qI x2), none], [], qH0 M) = qbd (S_X12_body [qA 82, qI 51] (qH0 M)) (fun r h' => qlim C_X12_licksAct (53, [some (qA 82), some (qI x1), some (qI x2), none], r.toList ++ [], h')) := by
  refine Eq.trans (qlim_n (n := 2) (c' := (50, [some (qA 82), some (qI x1), some (qI x2), none], [qI 51, qA 82], qH0 M)) rfl) ?_
  exact (qlim_callv (n := 1) rfl rfl rfl (Nat.le_of_ble_eq_true rfl) (Nat.le_of_ble_eq_true rfl) rfl)
set_option maxRecDepth 20000 in
theorem B_X12_licksAct_53 {M : qMem} {x1 x2 : Int} : qlim C_X12_licksAct (53, [some (qA 82), some (qI x1), some (qI x2), none], [], qH0 M) = qbd (S_X12_quickLicks [qA 82, qI x1, qI (kadd x2 1)] (qH0 M)) (fun r h' => qlim C_X12_licksAct (61, [some (qA 82), some (qI x1), some (qI x2), none], r.toList ++ [], h')) := by
  refine Eq.trans (qlim_n (n := 5) (c' := (58, [some (qA 82), some (qI x1), some (qI x2), none], [qI (kadd x2 1), qI x1, qA 82], qH0 M)) rfl) ?_
  exact (qlim_callv (n := 2) rfl rfl rfl (Nat.le_of_ble_eq_true rfl) (Nat.le_of_ble_eq_true rfl) rfl)
set_option maxRecDepth 20000 in
theorem B_X12_licksAct_61 {M : qMem} {x1 x2 s0 : Int} : qlim C_X12_licksAct (61, [some (qA 82), some (qI x1), some (qI x2), none], [qI s0], qH0 M) = some (some (qI s0), qH0 M) := (qlim_ret rfl)
set_option maxRecDepth 20000 in
theorem B_X12_licksAct_62 {M : qMem} {x1 x2 : Int} : qlim C_X12_licksAct (62, [some (qA 82), some (qI x1), some (qI x2), none], [], qH0 M) = qbd (S_X12_body [qA 82, qI 70] (qH0 M)) (fun r h' => qlim C_X12_licksAct (68, [some (qA 82), some (qI x1), some (qI x2), none], r.toList ++ [], h')) := by
  refine Eq.trans (qlim_n (n := 2) (c' := (65, [some (qA 82), some (qI x1), some (qI x2), none], [qI 70, qA 82], qH0 M)) rfl) ?_
  exact (qlim_callv (n := 1) rfl rfl rfl (Nat.le_of_ble_eq_true rfl) (Nat.le_of_ble_eq_true rfl) rfl)
set_option maxRecDepth 20000 in
theorem B_X12_licksAct_68 {M : qMem} {x1 x2 : Int} : qlim C_X12_licksAct (68, [some (qA 82), some (qI x1), some (qI x2), none], [], qH0 M) = qbd (S_X12_personLicks [qA 82, qI x1, qI x2] (qH0 M)) (fun r h' => qlim C_X12_licksAct (74, [some (qA 82), some (qI x1), some (qI x2), none], r.toList ++ [], h')) := by
  refine Eq.trans (qlim_n (n := 3) (c' := (71, [some (qA 82), some (qI x1), some (qI x2), none], [qI x2, qI x1, qA 82], qH0 M)) rfl) ?_
  exact (qlim_callv (n := 2) rfl rfl rfl (Nat.le_of_ble_eq_true rfl) (Nat.le_of_ble_eq_true rfl) rfl)
set_option maxRecDepth 20000 in
theorem B_X12_licksAct_74 {M : qMem} {x1 x2 s0 : Int} : qlim C_X12_licksAct (74, [some (qA 82), some (qI x1), some (qI x2), none], [qI s0], qH0 M) = qbd (S_X12_personFolds [qA 82, qI x1, qI 2] (qH0 M)) (fun r h' => qlim C_X12_licksAct (82, [some (qA 82), some (qI x1), some (qI x2), some (qI s0)], r.toList ++ [qI s0], h')) := by
  refine Eq.trans (qlim_n (n := 5) (c' := (79, [some (qA 82), some (qI x1), some (qI x2), some (qI s0)], [qI 2, qI x1, qA 82, qI s0], qH0 M)) rfl) ?_
  exact (qlim_callv (n := 2) rfl rfl rfl (Nat.le_of_ble_eq_true rfl) (Nat.le_of_ble_eq_true rfl) rfl)
set_option maxRecDepth 20000 in
theorem B_X12_licksAct_82 {M : qMem} {x1 x2 x3 s0 s1 : Int} : qlim C_X12_licksAct (82, [some (qA 82), some (qI x1), some (qI x2), some (qI x3)], [qI s1, qI s0], qH0 M) = some (some (qI (kadd s0 s1)), qH0 M) := by
  refine Eq.trans (qlim_n (n := 1) (c' := (83, [some (qA 82), some (qI x1), some (qI x2), some (qI x3)], [qI (kadd s0 s1)], qH0 M)) rfl) ?_
  exact (qlim_ret rfl)
set_option maxRecDepth 20000 in
theorem B_X12_licksAct_84 {M : qMem} {x1 x2 : Int} : qlim C_X12_licksAct (84, [some (qA 82), some (qI x1), some (qI x2), none], [], qH0 M) = qbd (S_X12_personLicks [qA 82, qI x1, qI x2] (qH0 M)) (fun r h' => qlim C_X12_licksAct (90, [some (qA 82), some (qI x1), some (qI x2), none], r.toList ++ [], h')) := by
  refine Eq.trans (qlim_n (n := 3) (c' := (87, [some (qA 82), some (qI x1), some (qI x2), none], [qI x2, qI x1, qA 82], qH0 M)) rfl) ?_
  exact (qlim_callv (n := 2) rfl rfl rfl (Nat.le_of_ble_eq_true rfl) (Nat.le_of_ble_eq_true rfl) rfl)
set_option maxRecDepth 20000 in
theorem B_X12_licksAct_90 {M : qMem} {x1 x2 s0 : Int} : qlim C_X12_licksAct (90, [some (qA 82), some (qI x1), some (qI x2), none], [qI s0], qH0 M) = some (some (qI s0), qH0 M) := (qlim_ret rfl)
theorem E_X12_licksAct {h : qH} {x1 x2 : Int} : S_X12_licksAct [qA 82, qI x1, qI x2] h = qlim C_X12_licksAct (0, [some (qA 82), some (qI x1), some (qI x2), none], [], h) := qM_at (Nat.le_of_ble_eq_true rfl) rfl
set_option maxRecDepth 20000 in
theorem B_X12_personTells_0 {M : qMem} {x1 x2 : Int} : qlim C_X12_personTells (0, [some (qA 82), some (qI x1), some (qI x2)], [], qH0 M) = qbd (S_X12_body [qA 82, qI 12] (qH0 M)) (fun r h' => qlim C_X12_personTells (6, [some (qA 82), some (qI x1), some (qI x2)], r.toList ++ [], h')) := by
  refine Eq.trans (qlim_n (n := 2) (c' := (3, [some (qA 82), some (qI x1), some (qI x2)], [qI 12, qA 82], qH0 M)) rfl) ?_
  exact (qlim_callv (n := 1) rfl rfl rfl (Nat.le_of_ble_eq_true rfl) (Nat.le_of_ble_eq_true rfl) rfl)
set_option maxRecDepth 20000 in
theorem B_X12_personTells_6 {M : qMem} {x1 x2 : Int} : qlim C_X12_personTells (6, [some (qA 82), some (qI x1), some (qI x2)], [], qH0 M) = qbd (S_X12_licksAct [qA 82, qI x1, qI x2] (qH0 M)) (fun r h' => qlim C_X12_personTells (12, [some (qA 82), some (qI x1), some (qI x2)], r.toList ++ [], h')) := by
  refine Eq.trans (qlim_n (n := 3) (c' := (9, [some (qA 82), some (qI x1), some (qI x2)], [qI x2, qI x1, qA 82], qH0 M)) rfl) ?_
  exact (qlim_callv (n := 2) rfl rfl rfl (Nat.le_of_ble_eq_true rfl) (Nat.le_of_ble_eq_true rfl) rfl)
set_option maxRecDepth 20000 in
theorem B_X12_personTells_12 {M : qMem} {x1 x2 s0 : Int} : qlim C_X12_personTells (12, [some (qA 82), some (qI x1), some (qI x2)], [qI s0], qH0 M) = some (some (qI (kmul s0 2)), qH0 M) := by
  refine Eq.trans (qlim_n (n := 2) (c' := (14, [some (qA 82), some (qI x1), some (qI x2)], [qI (kmul s0 2)], qH0 M)) rfl) ?_
  exact (qlim_ret rfl)
theorem E_X12_personTells {h : qH} {x1 x2 : Int} : S_X12_personTells [qA 82, qI x1, qI x2] h = qlim C_X12_personTells (0, [some (qA 82), some (qI x1), some (qI x2)], [], h) := qM_at (Nat.le_of_ble_eq_true rfl) rfl
set_option maxRecDepth 20000 in
theorem B_X12_tellsAct_0 {M : qMem} {x1 x2 : Int} (h1 : 0 ≤ x1) (h2 : x1 < 6) : qlim C_X12_tellsAct (0, [some (qA 82), some (qI x1), some (qI x2), none], [], qH0 M) = qlim C_X12_tellsAct (qtk [36, 73, 58, 36] 73 3 (M 84 x1), [some (qA 82), some (qI x1), some (qI x2), none], [], qH0 M) := by
  refine Eq.trans (qlim_n (n := 3) (c' := (5, [some (qA 82), some (qI x1), some (qI x2), none], [qI x1, qA 84], qH0 M)) rfl) ?_
  refine Eq.trans (qs_iaload rfl rfl h1 h2) ?_
  exact (qlim_n (n := 1) (c' := (qtk [36, 73, 58, 36] 73 3 (M 84 x1), [some (qA 82), some (qI x1), some (qI x2), none], [], qH0 M)) rfl)
set_option maxRecDepth 20000 in
theorem B_X12_tellsAct_36 {M : qMem} {x1 x2 : Int} : qlim C_X12_tellsAct (36, [some (qA 82), some (qI x1), some (qI x2), none], [], qH0 M) = qbd (S_X12_body [qA 82, qI 40] (qH0 M)) (fun r h' => qlim C_X12_tellsAct (42, [some (qA 82), some (qI x1), some (qI x2), none], r.toList ++ [], h')) := by
  refine Eq.trans (qlim_n (n := 2) (c' := (39, [some (qA 82), some (qI x1), some (qI x2), none], [qI 40, qA 82], qH0 M)) rfl) ?_
  exact (qlim_callv (n := 1) rfl rfl rfl (Nat.le_of_ble_eq_true rfl) (Nat.le_of_ble_eq_true rfl) rfl)
set_option maxRecDepth 20000 in
theorem B_X12_tellsAct_42 {M : qMem} {x1 x2 : Int} : qlim C_X12_tellsAct (42, [some (qA 82), some (qI x1), some (qI x2), none], [], qH0 M) = qbd (S_X12_personTells [qA 82, qI x1, qI x2] (qH0 M)) (fun r h' => qlim C_X12_tellsAct (48, [some (qA 82), some (qI x1), some (qI x2), none], r.toList ++ [], h')) := by
  refine Eq.trans (qlim_n (n := 3) (c' := (45, [some (qA 82), some (qI x1), some (qI x2), none], [qI x2, qI x1, qA 82], qH0 M)) rfl) ?_
  exact (qlim_callv (n := 2) rfl rfl rfl (Nat.le_of_ble_eq_true rfl) (Nat.le_of_ble_eq_true rfl) rfl)
set_option maxRecDepth 20000 in
theorem B_X12_tellsAct_48 {M : qMem} {x1 x2 s0 : Int} : qlim C_X12_tellsAct (48, [some (qA 82), some (qI x1), some (qI x2), none], [qI s0], qH0 M) = qbd (S_X12_licksAct [qA 82, qI x1, qI 1] (qH0 M)) (fun r h' => qlim C_X12_tellsAct (56, [some (qA 82), some (qI x1), some (qI x2), some (qI s0)], r.toList ++ [qI s0], h')) := by
  refine Eq.trans (qlim_n (n := 5) (c' := (53, [some (qA 82), some (qI x1), some (qI x2), some (qI s0)], [qI 1, qI x1, qA 82, qI s0], qH0 M)) rfl) ?_
  exact (qlim_callv (n := 2) rfl rfl rfl (Nat.le_of_ble_eq_true rfl) (Nat.le_of_ble_eq_true rfl) rfl)
set_option maxRecDepth 20000 in
theorem B_X12_tellsAct_56 {M : qMem} {x1 x2 x3 s0 s1 : Int} : qlim C_X12_tellsAct (56, [some (qA 82), some (qI x1), some (qI x2), some (qI x3)], [qI s1, qI s0], qH0 M) = some (some (qI (kadd s0 s1)), qH0 M) := by
  refine Eq.trans (qlim_n (n := 1) (c' := (57, [some (qA 82), some (qI x1), some (qI x2), some (qI x3)], [qI (kadd s0 s1)], qH0 M)) rfl) ?_
  exact (qlim_ret rfl)
set_option maxRecDepth 20000 in
theorem B_X12_tellsAct_58 {M : qMem} {x1 x2 : Int} : qlim C_X12_tellsAct (58, [some (qA 82), some (qI x1), some (qI x2), none], [], qH0 M) = qbd (S_X12_body [qA 82, qI 60] (qH0 M)) (fun r h' => qlim C_X12_tellsAct (64, [some (qA 82), some (qI x1), some (qI x2), none], r.toList ++ [], h')) := by
  refine Eq.trans (qlim_n (n := 2) (c' := (61, [some (qA 82), some (qI x1), some (qI x2), none], [qI 60, qA 82], qH0 M)) rfl) ?_
  exact (qlim_callv (n := 1) rfl rfl rfl (Nat.le_of_ble_eq_true rfl) (Nat.le_of_ble_eq_true rfl) rfl)
set_option maxRecDepth 20000 in
theorem B_X12_tellsAct_64 {M : qMem} {x1 x2 : Int} : qlim C_X12_tellsAct (64, [some (qA 82), some (qI x1), some (qI x2), none], [], qH0 M) = qbd (S_X12_personTells [qA 82, qI x1, qI (ksub x2 x1)] (qH0 M)) (fun r h' => qlim C_X12_tellsAct (72, [some (qA 82), some (qI x1), some (qI x2), none], r.toList ++ [], h')) := by
  refine Eq.trans (qlim_n (n := 5) (c' := (69, [some (qA 82), some (qI x1), some (qI x2), none], [qI (ksub x2 x1), qI x1, qA 82], qH0 M)) rfl) ?_
  exact (qlim_callv (n := 2) rfl rfl rfl (Nat.le_of_ble_eq_true rfl) (Nat.le_of_ble_eq_true rfl) rfl)
set_option maxRecDepth 20000 in
theorem B_X12_tellsAct_72 {M : qMem} {x1 x2 s0 : Int} : qlim C_X12_tellsAct (72, [some (qA 82), some (qI x1), some (qI x2), none], [qI s0], qH0 M) = some (some (qI s0), qH0 M) := (qlim_ret rfl)
set_option maxRecDepth 20000 in
theorem B_X12_tellsAct_73 {M : qMem} {x1 x2 : Int} : qlim C_X12_tellsAct (73, [some (qA 82), some (qI x1), some (qI x2), none], [], qH0 M) = qbd (S_X12_personTells [qA 82, qI x1, qI x2] (qH0 M)) (fun r h' => qlim C_X12_tellsAct (79, [some (qA 82), some (qI x1), some (qI x2), none], r.toList ++ [], h')) := by
  refine Eq.trans (qlim_n (n := 3) (c' := (76, [some (qA 82), some (qI x1), some (qI x2), none], [qI x2, qI x1, qA 82], qH0 M)) rfl) ?_
  exact (qlim_callv (n := 2) rfl rfl rfl (Nat.le_of_ble_eq_true rfl) (Nat.le_of_ble_eq_true rfl) rfl)
set_option maxRecDepth 20000 in
theorem B_X12_tellsAct_79 {M : qMem} {x1 x2 s0 : Int} : qlim C_X12_tellsAct (79, [some (qA 82), some (qI x1), some (qI x2), none], [qI s0], qH0 M) = some (some (qI s0), qH0 M) := (qlim_ret rfl)
theorem E_X12_tellsAct {h : qH} {x1 x2 : Int} : S_X12_tellsAct [qA 82, qI x1, qI x2] h = qlim C_X12_tellsAct (0, [some (qA 82), some (qI x1), some (qI x2), none], [], h) := qM_at (Nat.le_of_ble_eq_true rfl) rfl
set_option maxRecDepth 20000 in
theorem B_X12_act_0 {M : qMem} {x1 x2 x3 : Int} : qlim C_X12_act (0, [some (qA 82), some (qI x1), some (qI x2), some (qI x3)], [], qH0 M) = qbd (S_X12_isPerson [qA 82, qI x1] (qH0 (qup M 82 69 0))) (fun r h' => qlim C_X12_act (10, [some (qA 82), some (qI x1), some (qI x2), some (qI x3)], r.toList ++ [], h')) := by
  refine Eq.trans (qlim_n (n := 5) (c' := (7, [some (qA 82), some (qI x1), some (qI x2), some (qI x3)], [qI x1, qA 82], qH0 (qup M 82 69 0))) rfl) ?_
  exact (qlim_callv (n := 1) rfl rfl rfl (Nat.le_of_ble_eq_true rfl) (Nat.le_of_ble_eq_true rfl) rfl)
set_option maxRecDepth 20000 in
theorem B_X12_act_10 {M : qMem} {x1 x2 x3 s0 : Int} : qlim C_X12_act (10, [some (qA 82), some (qI x1), some (qI x2), some (qI x3)], [qI s0], qH0 M) = qlim C_X12_act ((if s0 = 0 then 23 else 13), [some (qA 82), some (qI x1), some (qI x2), some (qI x3)], [], qH0 M) := (qlim_n (n := 1) (c' := ((if s0 = 0 then 23 else 13), [some (qA 82), some (qI x1), some (qI x2), some (qI x3)], [], qH0 M)) rfl)
set_option maxRecDepth 20000 in
theorem B_X12_act_13 {M : qMem} {x1 x2 x3 : Int} : qlim C_X12_act (13, [some (qA 82), some (qI x1), some (qI x2), some (qI x3)], [], qH0 M) = qbd (S_X12_in [qA 82, qI x2, qI 0, qI 2] (qH0 M)) (fun r h' => qlim C_X12_act (20, [some (qA 82), some (qI x1), some (qI x2), some (qI x3)], r.toList ++ [], h')) := by
  refine Eq.trans (qlim_n (n := 4) (c' := (17, [some (qA 82), some (qI x1), some (qI x2), some (qI x3)], [qI 2, qI 0, qI x2, qA 82], qH0 M)) rfl) ?_
  exact (qlim_callv (n := 3) rfl rfl rfl (Nat.le_of_ble_eq_true rfl) (Nat.le_of_ble_eq_true rfl) rfl)
set_option maxRecDepth 20000 in
theorem B_X12_act_20 {M : qMem} {x1 x2 x3 s0 : Int} : qlim C_X12_act (20, [some (qA 82), some (qI x1), some (qI x2), some (qI x3)], [qI s0], qH0 M) = qlim C_X12_act ((if ¬ s0 = 0 then 25 else 23), [some (qA 82), some (qI x1), some (qI x2), some (qI x3)], [], qH0 M) := (qlim_n (n := 1) (c' := ((if ¬ s0 = 0 then 25 else 23), [some (qA 82), some (qI x1), some (qI x2), some (qI x3)], [], qH0 M)) rfl)
set_option maxRecDepth 20000 in
theorem B_X12_act_23 {M : qMem} {x1 x2 x3 : Int} : qlim C_X12_act (23, [some (qA 82), some (qI x1), some (qI x2), some (qI x3)], [], qH0 M) = some (some (qI 0), qH0 M) := by
  refine Eq.trans (qlim_n (n := 1) (c' := (24, [some (qA 82), some (qI x1), some (qI x2), some (qI x3)], [qI 0], qH0 M)) rfl) ?_
  exact (qlim_ret rfl)
set_option maxRecDepth 20000 in
theorem B_X12_act_25 {M : qMem} {x1 x2 x3 : Int} : qlim C_X12_act (25, [some (qA 82), some (qI x1), some (qI x2), some (qI x3)], [], qH0 M) = qlim C_X12_act ((if ¬ x2 = 0 then 38 else 29), [some (qA 82), some (qI x1), some (qI x2), some (qI x3)], [], qH0 M) := (qlim_n (n := 2) (c' := ((if ¬ x2 = 0 then 38 else 29), [some (qA 82), some (qI x1), some (qI x2), some (qI x3)], [], qH0 M)) rfl)
set_option maxRecDepth 20000 in
theorem B_X12_act_29 {M : qMem} {x1 x2 x3 : Int} : qlim C_X12_act (29, [some (qA 82), some (qI x1), some (qI x2), some (qI x3)], [], qH0 M) = qbd (S_X12_foldsAct [qA 82, qI x1, qI x3] (qH0 M)) (fun r h' => qlim C_X12_act (35, [some (qA 82), some (qI x1), some (qI x2), some (qI x3)], r.toList ++ [], h')) := by
  refine Eq.trans (qlim_n (n := 3) (c' := (32, [some (qA 82), some (qI x1), some (qI x2), some (qI x3)], [qI x3, qI x1, qA 82], qH0 M)) rfl) ?_
  exact (qlim_callv (n := 2) rfl rfl rfl (Nat.le_of_ble_eq_true rfl) (Nat.le_of_ble_eq_true rfl) rfl)
set_option maxRecDepth 20000 in
theorem B_X12_act_35 {M : qMem} {x1 x2 x3 s0 : Int} : qlim C_X12_act (35, [some (qA 82), some (qI x1), some (qI x2), some (qI x3)], [qI s0], qH0 M) = qlim C_X12_act (58, [some (qA 82), some (qI x1), some (qI x2), some (qI x3)], [qI s0], qH0 M) := (qlim_n (n := 1) (c' := (58, [some (qA 82), some (qI x1), some (qI x2), some (qI x3)], [qI s0], qH0 M)) rfl)
set_option maxRecDepth 20000 in
theorem B_X12_act_38 {M : qMem} {x1 x2 x3 : Int} : qlim C_X12_act (38, [some (qA 82), some (qI x1), some (qI x2), some (qI x3)], [], qH0 M) = qlim C_X12_act ((if ¬ x2 = 1 then 52 else 43), [some (qA 82), some (qI x1), some (qI x2), some (qI x3)], [], qH0 M) := (qlim_n (n := 3) (c' := ((if ¬ x2 = 1 then 52 else 43), [some (qA 82), some (qI x1), some (qI x2), some (qI x3)], [], qH0 M)) rfl)
set_option maxRecDepth 20000 in
theorem B_X12_act_43 {M : qMem} {x1 x2 x3 : Int} : qlim C_X12_act (43, [some (qA 82), some (qI x1), some (qI x2), some (qI x3)], [], qH0 M) = qbd (S_X12_licksAct [qA 82, qI x1, qI x3] (qH0 M)) (fun r h' => qlim C_X12_act (49, [some (qA 82), some (qI x1), some (qI x2), some (qI x3)], r.toList ++ [], h')) := by
  refine Eq.trans (qlim_n (n := 3) (c' := (46, [some (qA 82), some (qI x1), some (qI x2), some (qI x3)], [qI x3, qI x1, qA 82], qH0 M)) rfl) ?_
  exact (qlim_callv (n := 2) rfl rfl rfl (Nat.le_of_ble_eq_true rfl) (Nat.le_of_ble_eq_true rfl) rfl)
set_option maxRecDepth 20000 in
theorem B_X12_act_49 {M : qMem} {x1 x2 x3 s0 : Int} : qlim C_X12_act (49, [some (qA 82), some (qI x1), some (qI x2), some (qI x3)], [qI s0], qH0 M) = qlim C_X12_act (58, [some (qA 82), some (qI x1), some (qI x2), some (qI x3)], [qI s0], qH0 M) := (qlim_n (n := 1) (c' := (58, [some (qA 82), some (qI x1), some (qI x2), some (qI x3)], [qI s0], qH0 M)) rfl)
set_option maxRecDepth 20000 in
theorem B_X12_act_52 {M : qMem} {x1 x2 x3 : Int} : qlim C_X12_act (52, [some (qA 82), some (qI x1), some (qI x2), some (qI x3)], [], qH0 M) = qbd (S_X12_tellsAct [qA 82, qI x1, qI x3] (qH0 M)) (fun r h' => qlim C_X12_act (58, [some (qA 82), some (qI x1), some (qI x2), some (qI x3)], r.toList ++ [], h')) := by
  refine Eq.trans (qlim_n (n := 3) (c' := (55, [some (qA 82), some (qI x1), some (qI x2), some (qI x3)], [qI x3, qI x1, qA 82], qH0 M)) rfl) ?_
  exact (qlim_callv (n := 2) rfl rfl rfl (Nat.le_of_ble_eq_true rfl) (Nat.le_of_ble_eq_true rfl) rfl)
set_option maxRecDepth 20000 in
theorem B_X12_act_58 {M : qMem} {x1 x2 x3 s0 : Int} : qlim C_X12_act (58, [some (qA 82), some (qI x1), some (qI x2), some (qI x3)], [qI s0], qH0 M) = some (some (qI s0), qH0 M) := (qlim_ret rfl)
theorem E_X12_act {h : qH} {x1 x2 x3 : Int} : S_X12_act [qA 82, qI x1, qI x2, qI x3] h = qlim C_X12_act (0, [some (qA 82), some (qI x1), some (qI x2), some (qI x3)], [], h) := qM_at (Nat.le_of_ble_eq_true rfl) rfl
set_option maxRecDepth 20000 in
theorem B_X12_trace_0 {M : qMem} {x1 : Int} : qlim C_X12_trace (0, [some (qA 82), some (qI x1)], [], qH0 M) = qbd (S_X12_in [qA 82, qI x1, qI 0, qI 19] (qH0 M)) (fun r h' => qlim C_X12_trace (8, [some (qA 82), some (qI x1)], r.toList ++ [], h')) := by
  refine Eq.trans (qlim_n (n := 4) (c' := (5, [some (qA 82), some (qI x1)], [qI 19, qI 0, qI x1, qA 82], qH0 M)) rfl) ?_
  exact (qlim_callv (n := 3) rfl rfl rfl (Nat.le_of_ble_eq_true rfl) (Nat.le_of_ble_eq_true rfl) rfl)
set_option maxRecDepth 20000 in
theorem B_X12_trace_8 {M : qMem} {x1 s0 : Int} : qlim C_X12_trace (8, [some (qA 82), some (qI x1)], [qI s0], qH0 M) = qlim C_X12_trace ((if s0 = 0 then 28 else 11), [some (qA 82), some (qI x1)], [], qH0 M) := (qlim_n (n := 1) (c' := ((if s0 = 0 then 28 else 11), [some (qA 82), some (qI x1)], [], qH0 M)) rfl)
set_option maxRecDepth 20000 in
theorem B_X12_trace_11 {M : qMem} {x1 : Int} : qlim C_X12_trace (11, [some (qA 82), some (qI x1)], [], qH0 M) = qlim C_X12_trace ((if M 82 69 ≤ x1 then 28 else 19), [some (qA 82), some (qI x1)], [], qH0 M) := (qlim_n (n := 4) (c' := ((if M 82 69 ≤ x1 then 28 else 19), [some (qA 82), some (qI x1)], [], qH0 M)) rfl)
set_option maxRecDepth 20000 in
theorem B_X12_trace_19 {M : qMem} {x1 : Int} (h1 : 0 ≤ x1) (h2 : x1 < 20) : qlim C_X12_trace (19, [some (qA 82), some (qI x1)], [], qH0 M) = qlim C_X12_trace (29, [some (qA 82), some (qI x1)], [qI (M 125 x1)], qH0 M) := by
  refine Eq.trans (qlim_n (n := 3) (c' := (24, [some (qA 82), some (qI x1)], [qI x1, qA 125], qH0 M)) rfl) ?_
  refine Eq.trans (qs_iaload rfl rfl h1 h2) ?_
  exact (qlim_n (n := 1) (c' := (29, [some (qA 82), some (qI x1)], [qI (M 125 x1)], qH0 M)) rfl)
set_option maxRecDepth 20000 in
theorem B_X12_trace_28 {M : qMem} {x1 : Int} : qlim C_X12_trace (28, [some (qA 82), some (qI x1)], [], qH0 M) = qlim C_X12_trace (29, [some (qA 82), some (qI x1)], [qI (-1)], qH0 M) := (qlim_n (n := 1) (c' := (29, [some (qA 82), some (qI x1)], [qI (-1)], qH0 M)) rfl)
set_option maxRecDepth 20000 in
theorem B_X12_trace_29 {M : qMem} {x1 s0 : Int} : qlim C_X12_trace (29, [some (qA 82), some (qI x1)], [qI s0], qH0 M) = some (some (qI s0), qH0 M) := (qlim_ret rfl)
theorem E_X12_trace {h : qH} {x1 : Int} : S_X12_trace [qA 82, qI x1] h = qlim C_X12_trace (0, [some (qA 82), some (qI x1)], [], h) := qM_at (Nat.le_of_ble_eq_true rfl) rfl
set_option maxRecDepth 20000 in
theorem B_X12_taken_0 {M : qMem} {x1 x2 : Int} : qlim C_X12_taken (0, [some (qA 82), some (qI x1), some (qI x2), none], [], qH0 M) = qbd (S_X12_in [qA 82, qI x2, qI 0, qI 6] (qH0 M)) (fun r h' => qlim C_X12_taken (8, [some (qA 82), some (qI x1), some (qI x2), none], r.toList ++ [], h')) := by
  refine Eq.trans (qlim_n (n := 4) (c' := (5, [some (qA 82), some (qI x1), some (qI x2), none], [qI 6, qI 0, qI x2, qA 82], qH0 M)) rfl) ?_
  exact (qlim_callv (n := 3) rfl rfl rfl (Nat.le_of_ble_eq_true rfl) (Nat.le_of_ble_eq_true rfl) rfl)
set_option maxRecDepth 20000 in
theorem B_X12_taken_8 {M : qMem} {x1 x2 s0 : Int} : qlim C_X12_taken (8, [some (qA 82), some (qI x1), some (qI x2), none], [qI s0], qH0 M) = qlim C_X12_taken ((if ¬ s0 = 0 then 14 else 11), [some (qA 82), some (qI x1), some (qI x2), none], [], qH0 M) := (qlim_n (n := 1) (c' := ((if ¬ s0 = 0 then 14 else 11), [some (qA 82), some (qI x1), some (qI x2), none], [], qH0 M)) rfl)
set_option maxRecDepth 20000 in
theorem B_X12_taken_11 {M : qMem} {x1 x2 : Int} : qlim C_X12_taken (11, [some (qA 82), some (qI x1), some (qI x2), none], [], qH0 M) = some (some (qI (-2)), qH0 M) := by
  refine Eq.trans (qlim_n (n := 1) (c' := (13, [some (qA 82), some (qI x1), some (qI x2), none], [qI (-2)], qH0 M)) rfl) ?_
  exact (qlim_ret rfl)
set_option maxRecDepth 20000 in
theorem B_X12_taken_14 {M : qMem} {x1 x2 : Int} : qlim C_X12_taken (14, [some (qA 82), some (qI x1), some (qI x2), none], [], qH0 M) = qbd (S_X12_isPerson [qA 82, qI x1] (qH0 M)) (fun r h' => qlim C_X12_taken (19, [some (qA 82), some (qI x1), some (qI x2), none], r.toList ++ [], h')) := by
  refine Eq.trans (qlim_n (n := 2) (c' := (16, [some (qA 82), some (qI x1), some (qI x2), none], [qI x1, qA 82], qH0 M)) rfl) ?_
  exact (qlim_callv (n := 1) rfl rfl rfl (Nat.le_of_ble_eq_true rfl) (Nat.le_of_ble_eq_true rfl) rfl)
set_option maxRecDepth 20000 in
theorem B_X12_taken_19 {M : qMem} {x1 x2 s0 : Int} : qlim C_X12_taken (19, [some (qA 82), some (qI x1), some (qI x2), none], [qI s0], qH0 M) = qlim C_X12_taken ((if ¬ s0 = 0 then 25 else 22), [some (qA 82), some (qI x1), some (qI x2), none], [], qH0 M) := (qlim_n (n := 1) (c' := ((if ¬ s0 = 0 then 25 else 22), [some (qA 82), some (qI x1), some (qI x2), none], [], qH0 M)) rfl)
set_option maxRecDepth 20000 in
theorem B_X12_taken_22 {M : qMem} {x1 x2 : Int} : qlim C_X12_taken (22, [some (qA 82), some (qI x1), some (qI x2), none], [], qH0 M) = some (some (qI (-11)), qH0 M) := by
  refine Eq.trans (qlim_n (n := 1) (c' := (24, [some (qA 82), some (qI x1), some (qI x2), none], [qI (-11)], qH0 M)) rfl) ?_
  exact (qlim_ret rfl)
set_option maxRecDepth 20000 in
theorem B_X12_taken_25 {M : qMem} {x1 x2 : Int} (h1 : 0 ≤ x1) (h2 : x1 < 6) : qlim C_X12_taken (25, [some (qA 82), some (qI x1), some (qI x2), none], [], qH0 M) = qlim C_X12_taken ((if x2 = 0 then 72 else 36), [some (qA 82), some (qI x1), some (qI x2), some (qI (M 84 x1))], [], qH0 M) := by
  refine Eq.trans (qlim_n (n := 3) (c' := (30, [some (qA 82), some (qI x1), some (qI x2), none], [qI x1, qA 84], qH0 M)) rfl) ?_
  refine Eq.trans (qs_iaload rfl rfl h1 h2) ?_
  exact (qlim_n (n := 3) (c' := ((if x2 = 0 then 72 else 36), [some (qA 82), some (qI x1), some (qI x2), some (qI (M 84 x1))], [], qH0 M)) rfl)
set_option maxRecDepth 20000 in
theorem B_X12_taken_36 {M : qMem} {x1 x2 x3 : Int} : qlim C_X12_taken (36, [some (qA 82), some (qI x1), some (qI x2), some (qI x3)], [], qH0 M) = qlim C_X12_taken ((if x3 = x2 then 72 else 41), [some (qA 82), some (qI x1), some (qI x2), some (qI x3)], [], qH0 M) := (qlim_n (n := 3) (c' := ((if x3 = x2 then 72 else 41), [some (qA 82), some (qI x1), some (qI x2), some (qI x3)], [], qH0 M)) rfl)
set_option maxRecDepth 20000 in
theorem B_X12_taken_41 {M : qMem} {x1 x2 x3 : Int} : qlim C_X12_taken (41, [some (qA 82), some (qI x1), some (qI x2), some (qI x3)], [], qH0 M) = qlim C_X12_taken ((if ¬ x2 = 1 then 51 else 46), [some (qA 82), some (qI x1), some (qI x2), some (qI x3)], [], qH0 M) := (qlim_n (n := 3) (c' := ((if ¬ x2 = 1 then 51 else 46), [some (qA 82), some (qI x1), some (qI x2), some (qI x3)], [], qH0 M)) rfl)
set_option maxRecDepth 20000 in
theorem B_X12_taken_46 {M : qMem} {x1 x2 x3 : Int} : qlim C_X12_taken (46, [some (qA 82), some (qI x1), some (qI x2), some (qI x3)], [], qH0 M) = qlim C_X12_taken ((if x3 = 4 then 72 else 51), [some (qA 82), some (qI x1), some (qI x2), some (qI x3)], [], qH0 M) := (qlim_n (n := 3) (c' := ((if x3 = 4 then 72 else 51), [some (qA 82), some (qI x1), some (qI x2), some (qI x3)], [], qH0 M)) rfl)
set_option maxRecDepth 20000 in
theorem B_X12_taken_51 {M : qMem} {x1 x2 x3 : Int} : qlim C_X12_taken (51, [some (qA 82), some (qI x1), some (qI x2), some (qI x3)], [], qH0 M) = qlim C_X12_taken ((if ¬ x2 = 2 then 61 else 56), [some (qA 82), some (qI x1), some (qI x2), some (qI x3)], [], qH0 M) := (qlim_n (n := 3) (c' := ((if ¬ x2 = 2 then 61 else 56), [some (qA 82), some (qI x1), some (qI x2), some (qI x3)], [], qH0 M)) rfl)
set_option maxRecDepth 20000 in
theorem B_X12_taken_56 {M : qMem} {x1 x2 x3 : Int} : qlim C_X12_taken (56, [some (qA 82), some (qI x1), some (qI x2), some (qI x3)], [], qH0 M) = qlim C_X12_taken ((if x3 = 5 then 72 else 61), [some (qA 82), some (qI x1), some (qI x2), some (qI x3)], [], qH0 M) := (qlim_n (n := 3) (c' := ((if x3 = 5 then 72 else 61), [some (qA 82), some (qI x1), some (qI x2), some (qI x3)], [], qH0 M)) rfl)
set_option maxRecDepth 20000 in
theorem B_X12_taken_61 {M : qMem} {x1 x2 x3 : Int} : qlim C_X12_taken (61, [some (qA 82), some (qI x1), some (qI x2), some (qI x3)], [], qH0 M) = qlim C_X12_taken ((if ¬ x2 = 3 then 76 else 66), [some (qA 82), some (qI x1), some (qI x2), some (qI x3)], [], qH0 M) := (qlim_n (n := 3) (c' := ((if ¬ x2 = 3 then 76 else 66), [some (qA 82), some (qI x1), some (qI x2), some (qI x3)], [], qH0 M)) rfl)
set_option maxRecDepth 20000 in
theorem B_X12_taken_66 {M : qMem} {x1 x2 x3 : Int} : qlim C_X12_taken (66, [some (qA 82), some (qI x1), some (qI x2), some (qI x3)], [], qH0 M) = qlim C_X12_taken ((if ¬ x3 = 6 then 76 else 72), [some (qA 82), some (qI x1), some (qI x2), some (qI x3)], [], qH0 M) := (qlim_n (n := 3) (c' := ((if ¬ x3 = 6 then 76 else 72), [some (qA 82), some (qI x1), some (qI x2), some (qI x3)], [], qH0 M)) rfl)
set_option maxRecDepth 20000 in
theorem B_X12_taken_72 {M : qMem} {x1 x2 x3 : Int} : qlim C_X12_taken (72, [some (qA 82), some (qI x1), some (qI x2), some (qI x3)], [], qH0 M) = qlim C_X12_taken (78, [some (qA 82), some (qI x1), some (qI x2), some (qI x3)], [qI x3], qH0 M) := (qlim_n (n := 2) (c' := (78, [some (qA 82), some (qI x1), some (qI x2), some (qI x3)], [qI x3], qH0 M)) rfl)
set_option maxRecDepth 20000 in
theorem B_X12_taken_76 {M : qMem} {x1 x2 x3 : Int} : qlim C_X12_taken (76, [some (qA 82), some (qI x1), some (qI x2), some (qI x3)], [], qH0 M) = qlim C_X12_taken (78, [some (qA 82), some (qI x1), some (qI x2), some (qI x3)], [qI (-12)], qH0 M) := (qlim_n (n := 1) (c' := (78, [some (qA 82), some (qI x1), some (qI x2), some (qI x3)], [qI (-12)], qH0 M)) rfl)
set_option maxRecDepth 20000 in
theorem B_X12_taken_78 {M : qMem} {x1 x2 x3 s0 : Int} : qlim C_X12_taken (78, [some (qA 82), some (qI x1), some (qI x2), some (qI x3)], [qI s0], qH0 M) = some (some (qI s0), qH0 M) := (qlim_ret rfl)
theorem E_X12_taken {h : qH} {x1 x2 : Int} : S_X12_taken [qA 82, qI x1, qI x2] h = qlim C_X12_taken (0, [some (qA 82), some (qI x1), some (qI x2), none], [], h) := qM_at (Nat.le_of_ble_eq_true rfl) rfl
set_option maxRecDepth 20000 in
theorem B_X12_count_0 {M : qMem} {x1 : Int} : qlim C_X12_count (0, [some (qA 82), some (qI x1)], [], qH0 M) = qlim C_X12_count (qtk [44, 49, 54, 59, 64, 69, 74] 79 0 x1, [some (qA 82), some (qI x1)], [], qH0 M) := (qlim_n (n := 2) (c' := (qtk [44, 49, 54, 59, 64, 69, 74] 79 0 x1, [some (qA 82), some (qI x1)], [], qH0 M)) rfl)
set_option maxRecDepth 20000 in
theorem B_X12_count_44 {M : qMem} {x1 : Int} : qlim C_X12_count (44, [some (qA 82), some (qI x1)], [], qH0 M) = some (some (qI (M 82 0)), qH0 M) := by
  refine Eq.trans (qlim_n (n := 2) (c' := (48, [some (qA 82), some (qI x1)], [qI (M 82 0)], qH0 M)) rfl) ?_
  exact (qlim_ret rfl)
set_option maxRecDepth 20000 in
theorem B_X12_count_49 {M : qMem} {x1 : Int} : qlim C_X12_count (49, [some (qA 82), some (qI x1)], [], qH0 M) = some (some (qI (M 82 10)), qH0 M) := by
  refine Eq.trans (qlim_n (n := 2) (c' := (53, [some (qA 82), some (qI x1)], [qI (M 82 10)], qH0 M)) rfl) ?_
  exact (qlim_ret rfl)
set_option maxRecDepth 20000 in
theorem B_X12_count_54 {M : qMem} {x1 : Int} : qlim C_X12_count (54, [some (qA 82), some (qI x1)], [], qH0 M) = some (some (qI (M 82 37)), qH0 M) := by
  refine Eq.trans (qlim_n (n := 2) (c' := (58, [some (qA 82), some (qI x1)], [qI (M 82 37)], qH0 M)) rfl) ?_
  exact (qlim_ret rfl)
set_option maxRecDepth 20000 in
theorem B_X12_count_59 {M : qMem} {x1 : Int} : qlim C_X12_count (59, [some (qA 82), some (qI x1)], [], qH0 M) = some (some (qI (M 82 41)), qH0 M) := by
  refine Eq.trans (qlim_n (n := 2) (c' := (63, [some (qA 82), some (qI x1)], [qI (M 82 41)], qH0 M)) rfl) ?_
  exact (qlim_ret rfl)
set_option maxRecDepth 20000 in
theorem B_X12_count_64 {M : qMem} {x1 : Int} : qlim C_X12_count (64, [some (qA 82), some (qI x1)], [], qH0 M) = some (some (qI (M 82 42)), qH0 M) := by
  refine Eq.trans (qlim_n (n := 2) (c' := (68, [some (qA 82), some (qI x1)], [qI (M 82 42)], qH0 M)) rfl) ?_
  exact (qlim_ret rfl)
set_option maxRecDepth 20000 in
theorem B_X12_count_69 {M : qMem} {x1 : Int} : qlim C_X12_count (69, [some (qA 82), some (qI x1)], [], qH0 M) = some (some (qI (M 82 12)), qH0 M) := by
  refine Eq.trans (qlim_n (n := 2) (c' := (73, [some (qA 82), some (qI x1)], [qI (M 82 12)], qH0 M)) rfl) ?_
  exact (qlim_ret rfl)
set_option maxRecDepth 20000 in
theorem B_X12_count_74 {M : qMem} {x1 : Int} : qlim C_X12_count (74, [some (qA 82), some (qI x1)], [], qH0 M) = some (some (qI (M 82 69)), qH0 M) := by
  refine Eq.trans (qlim_n (n := 2) (c' := (78, [some (qA 82), some (qI x1)], [qI (M 82 69)], qH0 M)) rfl) ?_
  exact (qlim_ret rfl)
set_option maxRecDepth 20000 in
theorem B_X12_count_79 {M : qMem} {x1 : Int} : qlim C_X12_count (79, [some (qA 82), some (qI x1)], [], qH0 M) = some (some (qI (-2)), qH0 M) := by
  refine Eq.trans (qlim_n (n := 1) (c' := (81, [some (qA 82), some (qI x1)], [qI (-2)], qH0 M)) rfl) ?_
  exact (qlim_ret rfl)
theorem E_X12_count {h : qH} {x1 : Int} : S_X12_count [qA 82, qI x1] h = qlim C_X12_count (0, [some (qA 82), some (qI x1)], [], h) := qM_at (Nat.le_of_ble_eq_true rfl) rfl
set_option maxRecDepth 20000 in
theorem B_X12_isTape_0 {M : qMem} {x1 : Int} : qlim C_X12_isTape (0, [some (qA 82), some (qI x1)], [], qH0 M) = qbd (S_X12_in [qA 82, qI x1, qI 0, qI 5] (qH0 M)) (fun r h' => qlim C_X12_isTape (7, [some (qA 82), some (qI x1)], r.toList ++ [], h')) := by
  refine Eq.trans (qlim_n (n := 4) (c' := (4, [some (qA 82), some (qI x1)], [qI 5, qI 0, qI x1, qA 82], qH0 M)) rfl) ?_
  exact (qlim_callv (n := 3) rfl rfl rfl (Nat.le_of_ble_eq_true rfl) (Nat.le_of_ble_eq_true rfl) rfl)
set_option maxRecDepth 20000 in
theorem B_X12_isTape_7 {M : qMem} {x1 s0 : Int} (h1 : s0 = 0 ∨ s0 = 1) : qlim C_X12_isTape (7, [some (qA 82), some (qI x1)], [qI s0], qH0 M) = some (some (qI s0), qH0 M) := (qs_retZ rfl h1)
theorem E_X12_isTape {h : qH} {x1 : Int} : S_X12_isTape [qA 82, qI x1] h = qlim C_X12_isTape (0, [some (qA 82), some (qI x1)], [], h) := qM_at (Nat.le_of_ble_eq_true rfl) rfl
set_option maxRecDepth 20000 in
theorem B_X12_tape_0 {M : qMem} {x1 x2 x3 : Int} : qlim C_X12_tape (0, [some (qA 82), some (qI x1), some (qI x2), some (qI x3), none], [], qH0 M) = qbd (S_X12_isTape [qA 82, qI x1] (qH0 M)) (fun r h' => qlim C_X12_tape (5, [some (qA 82), some (qI x1), some (qI x2), some (qI x3), none], r.toList ++ [], h')) := by
  refine Eq.trans (qlim_n (n := 2) (c' := (2, [some (qA 82), some (qI x1), some (qI x2), some (qI x3), none], [qI x1, qA 82], qH0 M)) rfl) ?_
  exact (qlim_callv (n := 1) rfl rfl rfl (Nat.le_of_ble_eq_true rfl) (Nat.le_of_ble_eq_true rfl) rfl)
set_option maxRecDepth 20000 in
theorem B_X12_tape_5 {M : qMem} {x1 x2 x3 s0 : Int} : qlim C_X12_tape (5, [some (qA 82), some (qI x1), some (qI x2), some (qI x3), none], [qI s0], qH0 M) = qlim C_X12_tape ((if ¬ s0 = 0 then 10 else 8), [some (qA 82), some (qI x1), some (qI x2), some (qI x3), none], [], qH0 M) := (qlim_n (n := 1) (c' := ((if ¬ s0 = 0 then 10 else 8), [some (qA 82), some (qI x1), some (qI x2), some (qI x3), none], [], qH0 M)) rfl)
set_option maxRecDepth 20000 in
theorem B_X12_tape_8 {M : qMem} {x1 x2 x3 : Int} : qlim C_X12_tape (8, [some (qA 82), some (qI x1), some (qI x2), some (qI x3), none], [], qH0 M) = some (some (qI (-1)), qH0 M) := by
  refine Eq.trans (qlim_n (n := 1) (c' := (9, [some (qA 82), some (qI x1), some (qI x2), some (qI x3), none], [qI (-1)], qH0 M)) rfl) ?_
  exact (qlim_ret rfl)
set_option maxRecDepth 20000 in
theorem B_X12_tape_10 {M : qMem} {x1 x2 x3 : Int} : qlim C_X12_tape (10, [some (qA 82), some (qI x1), some (qI x2), some (qI x3), none], [], qH0 M) = qbd (S_X12_in [qA 82, qI x2, qI (-1), qI 4] (qH0 M)) (fun r h' => qlim C_X12_tape (17, [some (qA 82), some (qI x1), some (qI x2), some (qI x3), none], r.toList ++ [], h')) := by
  refine Eq.trans (qlim_n (n := 4) (c' := (14, [some (qA 82), some (qI x1), some (qI x2), some (qI x3), none], [qI 4, qI (-1), qI x2, qA 82], qH0 M)) rfl) ?_
  exact (qlim_callv (n := 3) rfl rfl rfl (Nat.le_of_ble_eq_true rfl) (Nat.le_of_ble_eq_true rfl) rfl)
set_option maxRecDepth 20000 in
theorem B_X12_tape_17 {M : qMem} {x1 x2 x3 s0 : Int} : qlim C_X12_tape (17, [some (qA 82), some (qI x1), some (qI x2), some (qI x3), none], [qI s0], qH0 M) = qlim C_X12_tape ((if s0 = 0 then 30 else 20), [some (qA 82), some (qI x1), some (qI x2), some (qI x3), none], [], qH0 M) := (qlim_n (n := 1) (c' := ((if s0 = 0 then 30 else 20), [some (qA 82), some (qI x1), some (qI x2), some (qI x3), none], [], qH0 M)) rfl)
set_option maxRecDepth 20000 in
theorem B_X12_tape_20 {M : qMem} {x1 x2 x3 : Int} : qlim C_X12_tape (20, [some (qA 82), some (qI x1), some (qI x2), some (qI x3), none], [], qH0 M) = qlim C_X12_tape ((if x2 < 0 then 33 else 24), [some (qA 82), some (qI x1), some (qI x2), some (qI x3), none], [], qH0 M) := (qlim_n (n := 2) (c' := ((if x2 < 0 then 33 else 24), [some (qA 82), some (qI x1), some (qI x2), some (qI x3), none], [], qH0 M)) rfl)
set_option maxRecDepth 20000 in
theorem B_X12_tape_24 {M : qMem} {x1 x2 x3 : Int} : qlim C_X12_tape (24, [some (qA 82), some (qI x1), some (qI x2), some (qI x3), none], [], qH0 M) = qlim C_X12_tape ((if x3 ≤ 60 then 33 else 30), [some (qA 82), some (qI x1), some (qI x2), some (qI x3), none], [], qH0 M) := (qlim_n (n := 3) (c' := ((if x3 ≤ 60 then 33 else 30), [some (qA 82), some (qI x1), some (qI x2), some (qI x3), none], [], qH0 M)) rfl)
set_option maxRecDepth 20000 in
theorem B_X12_tape_30 {M : qMem} {x1 x2 x3 : Int} : qlim C_X12_tape (30, [some (qA 82), some (qI x1), some (qI x2), some (qI x3), none], [], qH0 M) = some (some (qI (-2)), qH0 M) := by
  refine Eq.trans (qlim_n (n := 1) (c' := (32, [some (qA 82), some (qI x1), some (qI x2), some (qI x3), none], [qI (-2)], qH0 M)) rfl) ?_
  exact (qlim_ret rfl)
set_option maxRecDepth 20000 in
theorem B_X12_tape_33 {M : qMem} {x1 x2 x3 : Int} : qlim C_X12_tape (33, [some (qA 82), some (qI x1), some (qI x2), some (qI x3), none], [], qH0 M) = qlim C_X12_tape ((if x2 < 0 then 44 else 37), [some (qA 82), some (qI x1), some (qI x2), some (qI x3), none], [], qH0 M) := (qlim_n (n := 2) (c' := ((if x2 < 0 then 44 else 37), [some (qA 82), some (qI x1), some (qI x2), some (qI x3), none], [], qH0 M)) rfl)
set_option maxRecDepth 20000 in
theorem B_X12_tape_37 {M : qMem} {x1 x2 x3 : Int} : qlim C_X12_tape (37, [some (qA 82), some (qI x1), some (qI x2), some (qI x3), none], [], qH0 M) = qlim C_X12_tape ((if 0 ≤ x3 then 44 else 41), [some (qA 82), some (qI x1), some (qI x2), some (qI x3), none], [], qH0 M) := (qlim_n (n := 2) (c' := ((if 0 ≤ x3 then 44 else 41), [some (qA 82), some (qI x1), some (qI x2), some (qI x3), none], [], qH0 M)) rfl)
set_option maxRecDepth 20000 in
theorem B_X12_tape_41 {M : qMem} {x1 x2 x3 : Int} : qlim C_X12_tape (41, [some (qA 82), some (qI x1), some (qI x2), some (qI x3), none], [], qH0 M) = some (some (qI (-14)), qH0 M) := by
  refine Eq.trans (qlim_n (n := 1) (c' := (43, [some (qA 82), some (qI x1), some (qI x2), some (qI x3), none], [qI (-14)], qH0 M)) rfl) ?_
  exact (qlim_ret rfl)
set_option maxRecDepth 20000 in
theorem B_X12_tape_44 {M : qMem} {x1 x2 x3 : Int} (h1 : 0 ≤ x1) (h2 : x1 < 6) : qlim C_X12_tape (44, [some (qA 82), some (qI x1), some (qI x2), some (qI x3), none], [], qH0 M) = qlim C_X12_tape ((if 0 ≤ x2 then 64 else 60), [some (qA 82), some (qI x1), some (qI x2), some (qI x3), none], [qI x1, qA 127], qH0 (qup M 126 x1 x2)) := by
  refine Eq.trans (qlim_n (n := 4) (c' := (50, [some (qA 82), some (qI x1), some (qI x2), some (qI x3), none], [qI x2, qI x1, qA 126], qH0 M)) rfl) ?_
  refine Eq.trans (qs_iastore rfl rfl h1 h2) ?_
  exact (qlim_n (n := 5) (c' := ((if 0 ≤ x2 then 64 else 60), [some (qA 82), some (qI x1), some (qI x2), some (qI x3), none], [qI x1, qA 127], qH0 (qup M 126 x1 x2))) rfl)
set_option maxRecDepth 20000 in
theorem B_X12_tape_60 {M : qMem} {x1 x2 x3 s1 : Int} : qlim C_X12_tape (60, [some (qA 82), some (qI x1), some (qI x2), some (qI x3), none], [qI s1, qA 127], qH0 M) = qlim C_X12_tape (65, [some (qA 82), some (qI x1), some (qI x2), some (qI x3), none], [qI 0, qI s1, qA 127], qH0 M) := (qlim_n (n := 2) (c' := (65, [some (qA 82), some (qI x1), some (qI x2), some (qI x3), none], [qI 0, qI s1, qA 127], qH0 M)) rfl)
set_option maxRecDepth 20000 in
theorem B_X12_tape_64 {M : qMem} {x1 x2 x3 s1 : Int} : qlim C_X12_tape (64, [some (qA 82), some (qI x1), some (qI x2), some (qI x3), none], [qI s1, qA 127], qH0 M) = qlim C_X12_tape (65, [some (qA 82), some (qI x1), some (qI x2), some (qI x3), none], [qI x3, qI s1, qA 127], qH0 M) := (qlim_n (n := 1) (c' := (65, [some (qA 82), some (qI x1), some (qI x2), some (qI x3), none], [qI x3, qI s1, qA 127], qH0 M)) rfl)
set_option maxRecDepth 20000 in
theorem B_X12_tape_65 {M : qMem} {x1 x2 x3 s1 s2 : Int} (h1 : 0 ≤ s1) (h2 : s1 < 6) : qlim C_X12_tape (65, [some (qA 82), some (qI x1), some (qI x2), some (qI x3), none], [qI s2, qI s1, qA 127], qH0 M) = qlim C_X12_tape (69, [some (qA 82), some (qI x1), some (qI x2), some (qI x3), some (qI 0)], [], qH0 (qup M 127 s1 s2)) := by
  refine Eq.trans (qs_iastore rfl rfl h1 h2) ?_
  exact (qlim_n (n := 2) (c' := (69, [some (qA 82), some (qI x1), some (qI x2), some (qI x3), some (qI 0)], [], qH0 (qup M 127 s1 s2))) rfl)
set_option maxRecDepth 20000 in
theorem B_X12_tape_69 {M : qMem} {x1 x2 x3 x4 : Int} : qlim C_X12_tape (69, [some (qA 82), some (qI x1), some (qI x2), some (qI x3), some (qI x4)], [], qH0 M) = qlim C_X12_tape ((if 60 ≤ x4 then 95 else 76), [some (qA 82), some (qI x1), some (qI x2), some (qI x3), some (qI x4)], [], qH0 M) := (qlim_n (n := 3) (c' := ((if 60 ≤ x4 then 95 else 76), [some (qA 82), some (qI x1), some (qI x2), some (qI x3), some (qI x4)], [], qH0 M)) rfl)
set_option maxRecDepth 20000 in
theorem B_X12_tape_76 {M : qMem} {x1 x2 x3 x4 : Int} (h1 : 0 ≤ kadd (kmul 60 x1) x4) (h2 : kadd (kmul 60 x1) x4 < 360) : qlim C_X12_tape (76, [some (qA 82), some (qI x1), some (qI x2), some (qI x3), some (qI x4)], [], qH0 M) = qlim C_X12_tape (69, [some (qA 82), some (qI x1), some (qI x2), some (qI x3), some (qI (kadd x4 1))], [], qH0 (qup M 128 (kadd (kmul 60 x1) x4) 0)) := by
  refine Eq.trans (qlim_n (n := 8) (c' := (88, [some (qA 82), some (qI x1), some (qI x2), some (qI x3), some (qI x4)], [qJ 0, qI (kadd (kmul 60 x1) x4), qA 128], qH0 M)) rfl) ?_
  refine Eq.trans (qs_lastore rfl rfl h1 h2) ?_
  exact (qlim_n (n := 2) (c' := (69, [some (qA 82), some (qI x1), some (qI x2), some (qI x3), some (qI (kadd x4 1))], [], qH0 (qup M 128 (kadd (kmul 60 x1) x4) 0))) rfl)
set_option maxRecDepth 20000 in
theorem B_X12_tape_95 {M : qMem} {x1 x2 x3 x4 : Int} : qlim C_X12_tape (95, [some (qA 82), some (qI x1), some (qI x2), some (qI x3), some (qI x4)], [], qH0 M) = some (some (qI 1), qH0 M) := by
  refine Eq.trans (qlim_n (n := 1) (c' := (96, [some (qA 82), some (qI x1), some (qI x2), some (qI x3), some (qI x4)], [qI 1], qH0 M)) rfl) ?_
  exact (qlim_ret rfl)
theorem E_X12_tape {h : qH} {x1 x2 x3 : Int} : S_X12_tape [qA 82, qI x1, qI x2, qI x3] h = qlim C_X12_tape (0, [some (qA 82), some (qI x1), some (qI x2), some (qI x3), none], [], h) := qM_at (Nat.le_of_ble_eq_true rfl) rfl
set_option maxRecDepth 20000 in
theorem B_X12_narrow_0 {M : qMem} {x1 x2 : Int} : qlim C_X12_narrow (0, [some (qA 82), some (qI x1), some (qJ x2), none], [], qH0 M) = qlim C_X12_narrow ((if ¬ x1 = 0 then 11 else 4), [some (qA 82), some (qI x1), some (qJ x2), none], [], qH0 M) := (qlim_n (n := 2) (c' := ((if ¬ x1 = 0 then 11 else 4), [some (qA 82), some (qI x1), some (qJ x2), none], [], qH0 M)) rfl)
set_option maxRecDepth 20000 in
theorem B_X12_narrow_4 {M : qMem} {x1 x2 : Int} : qlim C_X12_narrow (4, [some (qA 82), some (qI x1), some (qJ x2), none], [], qH0 M) = qlim C_X12_narrow (54, [some (qA 82), some (qI x1), some (qJ x2), none], [qJ (ki2l (ki2b (kl2i x2)))], qH0 M) := (qlim_n (n := 5) (c' := (54, [some (qA 82), some (qI x1), some (qJ x2), none], [qJ (ki2l (ki2b (kl2i x2)))], qH0 M)) rfl)
set_option maxRecDepth 20000 in
theorem B_X12_narrow_11 {M : qMem} {x1 x2 : Int} : qlim C_X12_narrow (11, [some (qA 82), some (qI x1), some (qJ x2), none], [], qH0 M) = qlim C_X12_narrow ((if ¬ x1 = 1 then 23 else 16), [some (qA 82), some (qI x1), some (qJ x2), none], [], qH0 M) := (qlim_n (n := 3) (c' := ((if ¬ x1 = 1 then 23 else 16), [some (qA 82), some (qI x1), some (qJ x2), none], [], qH0 M)) rfl)
set_option maxRecDepth 20000 in
theorem B_X12_narrow_16 {M : qMem} {x1 x2 : Int} : qlim C_X12_narrow (16, [some (qA 82), some (qI x1), some (qJ x2), none], [], qH0 M) = qlim C_X12_narrow (54, [some (qA 82), some (qI x1), some (qJ x2), none], [qJ (ki2l (ki2s (kl2i x2)))], qH0 M) := (qlim_n (n := 5) (c' := (54, [some (qA 82), some (qI x1), some (qJ x2), none], [qJ (ki2l (ki2s (kl2i x2)))], qH0 M)) rfl)
set_option maxRecDepth 20000 in
theorem B_X12_narrow_23 {M : qMem} {x1 x2 : Int} : qlim C_X12_narrow (23, [some (qA 82), some (qI x1), some (qJ x2), none], [], qH0 M) = qlim C_X12_narrow ((if ¬ x1 = 2 then 34 else 28), [some (qA 82), some (qI x1), some (qJ x2), none], [], qH0 M) := (qlim_n (n := 3) (c' := ((if ¬ x1 = 2 then 34 else 28), [some (qA 82), some (qI x1), some (qJ x2), none], [], qH0 M)) rfl)
set_option maxRecDepth 20000 in
theorem B_X12_narrow_28 {M : qMem} {x1 x2 : Int} : qlim C_X12_narrow (28, [some (qA 82), some (qI x1), some (qJ x2), none], [], qH0 M) = qlim C_X12_narrow (54, [some (qA 82), some (qI x1), some (qJ x2), none], [qJ (ki2l (kl2i x2))], qH0 M) := (qlim_n (n := 4) (c' := (54, [some (qA 82), some (qI x1), some (qJ x2), none], [qJ (ki2l (kl2i x2))], qH0 M)) rfl)
set_option maxRecDepth 20000 in
theorem B_X12_narrow_34 {M : qMem} {x1 x2 : Int} : qlim C_X12_narrow (34, [some (qA 82), some (qI x1), some (qJ x2), none], [], qH0 M) = qlim C_X12_narrow ((if ¬ x1 = 4 then 53 else 39), [some (qA 82), some (qI x1), some (qJ x2), none], [], qH0 M) := (qlim_n (n := 3) (c' := ((if ¬ x1 = 4 then 53 else 39), [some (qA 82), some (qI x1), some (qJ x2), none], [], qH0 M)) rfl)
set_option maxRecDepth 20000 in
theorem B_X12_narrow_39 {M : qMem} {x1 x2 : Int} : qlim C_X12_narrow (39, [some (qA 82), some (qI x1), some (qJ x2), none], [], qH0 M) = qlim C_X12_narrow ((if jcmp x2 0 = 0 then 49 else 45), [some (qA 82), some (qI x1), some (qJ x2), none], [], qH0 M) := (qlim_n (n := 4) (c' := ((if jcmp x2 0 = 0 then 49 else 45), [some (qA 82), some (qI x1), some (qJ x2), none], [], qH0 M)) rfl)
set_option maxRecDepth 20000 in
theorem B_X12_narrow_45 {M : qMem} {x1 x2 : Int} : qlim C_X12_narrow (45, [some (qA 82), some (qI x1), some (qJ x2), none], [], qH0 M) = qlim C_X12_narrow (54, [some (qA 82), some (qI x1), some (qJ x2), none], [qJ 1], qH0 M) := (qlim_n (n := 2) (c' := (54, [some (qA 82), some (qI x1), some (qJ x2), none], [qJ 1], qH0 M)) rfl)
set_option maxRecDepth 20000 in
theorem B_X12_narrow_49 {M : qMem} {x1 x2 : Int} : qlim C_X12_narrow (49, [some (qA 82), some (qI x1), some (qJ x2), none], [], qH0 M) = qlim C_X12_narrow (54, [some (qA 82), some (qI x1), some (qJ x2), none], [qJ 0], qH0 M) := (qlim_n (n := 2) (c' := (54, [some (qA 82), some (qI x1), some (qJ x2), none], [qJ 0], qH0 M)) rfl)
set_option maxRecDepth 20000 in
theorem B_X12_narrow_53 {M : qMem} {x1 x2 : Int} : qlim C_X12_narrow (53, [some (qA 82), some (qI x1), some (qJ x2), none], [], qH0 M) = qlim C_X12_narrow (54, [some (qA 82), some (qI x1), some (qJ x2), none], [qJ x2], qH0 M) := (qlim_n (n := 1) (c' := (54, [some (qA 82), some (qI x1), some (qJ x2), none], [qJ x2], qH0 M)) rfl)
set_option maxRecDepth 20000 in
theorem B_X12_narrow_54 {M : qMem} {x1 x2 s0 : Int} : qlim C_X12_narrow (54, [some (qA 82), some (qI x1), some (qJ x2), none], [qJ s0], qH0 M) = some (some (qJ s0), qH0 M) := (qlim_ret rfl)
theorem E_X12_narrow {h : qH} {x1 x2 : Int} : S_X12_narrow [qA 82, qI x1, qJ x2] h = qlim C_X12_narrow (0, [some (qA 82), some (qI x1), some (qJ x2), none], [], h) := qM_at (Nat.le_of_ble_eq_true rfl) rfl
set_option maxRecDepth 20000 in
theorem B_X12_item_0 {M : qMem} {x1 x2 x3 : Int} : qlim C_X12_item (0, [some (qA 82), some (qI x1), some (qI x2), some (qJ x3), none], [], qH0 M) = qbd (S_X12_isTape [qA 82, qI x1] (qH0 M)) (fun r h' => qlim C_X12_item (5, [some (qA 82), some (qI x1), some (qI x2), some (qJ x3), none], r.toList ++ [], h')) := by
  refine Eq.trans (qlim_n (n := 2) (c' := (2, [some (qA 82), some (qI x1), some (qI x2), some (qJ x3), none], [qI x1, qA 82], qH0 M)) rfl) ?_
  exact (qlim_callv (n := 1) rfl rfl rfl (Nat.le_of_ble_eq_true rfl) (Nat.le_of_ble_eq_true rfl) rfl)
set_option maxRecDepth 20000 in
theorem B_X12_item_5 {M : qMem} {x1 x2 x3 s0 : Int} : qlim C_X12_item (5, [some (qA 82), some (qI x1), some (qI x2), some (qJ x3), none], [qI s0], qH0 M) = qlim C_X12_item ((if ¬ s0 = 0 then 10 else 8), [some (qA 82), some (qI x1), some (qI x2), some (qJ x3), none], [], qH0 M) := (qlim_n (n := 1) (c' := ((if ¬ s0 = 0 then 10 else 8), [some (qA 82), some (qI x1), some (qI x2), some (qJ x3), none], [], qH0 M)) rfl)
set_option maxRecDepth 20000 in
theorem B_X12_item_8 {M : qMem} {x1 x2 x3 : Int} : qlim C_X12_item (8, [some (qA 82), some (qI x1), some (qI x2), some (qJ x3), none], [], qH0 M) = some (some (qI (-1)), qH0 M) := by
  refine Eq.trans (qlim_n (n := 1) (c' := (9, [some (qA 82), some (qI x1), some (qI x2), some (qJ x3), none], [qI (-1)], qH0 M)) rfl) ?_
  exact (qlim_ret rfl)
set_option maxRecDepth 20000 in
theorem B_X12_item_10 {M : qMem} {x1 x2 x3 : Int} (h1 : 0 ≤ x1) (h2 : x1 < 6) : qlim C_X12_item (10, [some (qA 82), some (qI x1), some (qI x2), some (qJ x3), none], [], qH0 M) = qlim C_X12_item ((if 0 ≤ M 126 x1 then 22 else 19), [some (qA 82), some (qI x1), some (qI x2), some (qJ x3), none], [], qH0 M) := by
  refine Eq.trans (qlim_n (n := 3) (c' := (15, [some (qA 82), some (qI x1), some (qI x2), some (qJ x3), none], [qI x1, qA 126], qH0 M)) rfl) ?_
  refine Eq.trans (qs_iaload rfl rfl h1 h2) ?_
  exact (qlim_n (n := 1) (c' := ((if 0 ≤ M 126 x1 then 22 else 19), [some (qA 82), some (qI x1), some (qI x2), some (qJ x3), none], [], qH0 M)) rfl)
set_option maxRecDepth 20000 in
theorem B_X12_item_19 {M : qMem} {x1 x2 x3 : Int} : qlim C_X12_item (19, [some (qA 82), some (qI x1), some (qI x2), some (qJ x3), none], [], qH0 M) = some (some (qI (-11)), qH0 M) := by
  refine Eq.trans (qlim_n (n := 1) (c' := (21, [some (qA 82), some (qI x1), some (qI x2), some (qJ x3), none], [qI (-11)], qH0 M)) rfl) ?_
  exact (qlim_ret rfl)
set_option maxRecDepth 20000 in
theorem B_X12_item_22 {M : qMem} {x1 x2 x3 : Int} (h1 : 0 ≤ x1) (h2 : x1 < 6) : qlim C_X12_item (22, [some (qA 82), some (qI x1), some (qI x2), some (qJ x3), none], [], qH0 M) = qbd (S_X12_in [qA 82, qI x2, qI 0, qI (ksub (M 127 x1) 1)] (qH0 M)) (fun r h' => qlim C_X12_item (36, [some (qA 82), some (qI x1), some (qI x2), some (qJ x3), none], r.toList ++ [], h')) := by
  refine Eq.trans (qlim_n (n := 6) (c' := (30, [some (qA 82), some (qI x1), some (qI x2), some (qJ x3), none], [qI x1, qA 127, qI 0, qI x2, qA 82], qH0 M)) rfl) ?_
  refine Eq.trans (qs_iaload rfl rfl h1 h2) ?_
  refine Eq.trans (qlim_n (n := 2) (c' := (33, [some (qA 82), some (qI x1), some (qI x2), some (qJ x3), none], [qI (ksub (M 127 x1) 1), qI 0, qI x2, qA 82], qH0 M)) rfl) ?_
  exact (qlim_callv (n := 3) rfl rfl rfl (Nat.le_of_ble_eq_true rfl) (Nat.le_of_ble_eq_true rfl) rfl)
set_option maxRecDepth 20000 in
theorem B_X12_item_36 {M : qMem} {x1 x2 x3 s0 : Int} : qlim C_X12_item (36, [some (qA 82), some (qI x1), some (qI x2), some (qJ x3), none], [qI s0], qH0 M) = qlim C_X12_item ((if ¬ s0 = 0 then 42 else 39), [some (qA 82), some (qI x1), some (qI x2), some (qJ x3), none], [], qH0 M) := (qlim_n (n := 1) (c' := ((if ¬ s0 = 0 then 42 else 39), [some (qA 82), some (qI x1), some (qI x2), some (qJ x3), none], [], qH0 M)) rfl)
set_option maxRecDepth 20000 in
theorem B_X12_item_39 {M : qMem} {x1 x2 x3 : Int} : qlim C_X12_item (39, [some (qA 82), some (qI x1), some (qI x2), some (qJ x3), none], [], qH0 M) = some (some (qI (-13)), qH0 M) := by
  refine Eq.trans (qlim_n (n := 1) (c' := (41, [some (qA 82), some (qI x1), some (qI x2), some (qJ x3), none], [qI (-13)], qH0 M)) rfl) ?_
  exact (qlim_ret rfl)
set_option maxRecDepth 20000 in
theorem B_X12_item_42 {M : qMem} {x1 x2 x3 : Int} (h1 : 0 ≤ x1) (h2 : x1 < 6) : qlim C_X12_item (42, [some (qA 82), some (qI x1), some (qI x2), some (qJ x3), none], [], qH0 M) = qbd (S_X12_narrow [qA 82, qI (M 126 x1), qJ x3] (qH0 M)) (fun r h' => qlim C_X12_item (63, [some (qA 82), some (qI x1), some (qI x2), some (qJ x3), none], r.toList ++ [qI (kadd (kmul 60 x1) x2), qA 128], h')) := by
  refine Eq.trans (qlim_n (n := 11) (c' := (58, [some (qA 82), some (qI x1), some (qI x2), some (qJ x3), none], [qI x1, qA 126, qA 82, qI (kadd (kmul 60 x1) x2), qA 128], qH0 M)) rfl) ?_
  refine Eq.trans (qs_iaload rfl rfl h1 h2) ?_
  refine Eq.trans (qlim_n (n := 1) (c' := (60, [some (qA 82), some (qI x1), some (qI x2), some (qJ x3), none], [qJ x3, qI (M 126 x1), qA 82, qI (kadd (kmul 60 x1) x2), qA 128], qH0 M)) rfl) ?_
  exact (qlim_callv (n := 2) rfl rfl rfl (Nat.le_of_ble_eq_true rfl) (Nat.le_of_ble_eq_true rfl) rfl)
set_option maxRecDepth 20000 in
theorem B_X12_item_63 {M : qMem} {x1 x2 x3 s1 s2 : Int} (h1 : 0 ≤ s1) (h2 : s1 < 360) : qlim C_X12_item (63, [some (qA 82), some (qI x1), some (qI x2), some (qJ x3), none], [qJ s2, qI s1, qA 128], qH0 M) = some (some (qI 1), qH0 (qup M 128 s1 s2)) := by
  refine Eq.trans (qs_lastore rfl rfl h1 h2) ?_
  refine Eq.trans (qlim_n (n := 1) (c' := (65, [some (qA 82), some (qI x1), some (qI x2), some (qJ x3), none], [qI 1], qH0 (qup M 128 s1 s2))) rfl) ?_
  exact (qlim_ret rfl)
theorem E_X12_item {h : qH} {x1 x2 x3 : Int} : S_X12_item [qA 82, qI x1, qI x2, qJ x3] h = qlim C_X12_item (0, [some (qA 82), some (qI x1), some (qI x2), some (qJ x3), none], [], h) := qM_at (Nat.le_of_ble_eq_true rfl) rfl
set_option maxRecDepth 20000 in
theorem B_X12_read_0 {M : qMem} {x1 x2 : Int} : qlim C_X12_read (0, [some (qA 82), some (qI x1), some (qI x2)], [], qH0 M) = qbd (S_X12_isTape [qA 82, qI x1] (qH0 M)) (fun r h' => qlim C_X12_read (5, [some (qA 82), some (qI x1), some (qI x2)], r.toList ++ [], h')) := by
  refine Eq.trans (qlim_n (n := 2) (c' := (2, [some (qA 82), some (qI x1), some (qI x2)], [qI x1, qA 82], qH0 M)) rfl) ?_
  exact (qlim_callv (n := 1) rfl rfl rfl (Nat.le_of_ble_eq_true rfl) (Nat.le_of_ble_eq_true rfl) rfl)
set_option maxRecDepth 20000 in
theorem B_X12_read_5 {M : qMem} {x1 x2 s0 : Int} : qlim C_X12_read (5, [some (qA 82), some (qI x1), some (qI x2)], [qI s0], qH0 M) = qlim C_X12_read ((if s0 = 0 then 34 else 8), [some (qA 82), some (qI x1), some (qI x2)], [], qH0 M) := (qlim_n (n := 1) (c' := ((if s0 = 0 then 34 else 8), [some (qA 82), some (qI x1), some (qI x2)], [], qH0 M)) rfl)
set_option maxRecDepth 20000 in
theorem B_X12_read_8 {M : qMem} {x1 x2 : Int} (h1 : 0 ≤ x1) (h2 : x1 < 6) : qlim C_X12_read (8, [some (qA 82), some (qI x1), some (qI x2)], [], qH0 M) = qlim C_X12_read ((if M 126 x1 < 0 then 34 else 17), [some (qA 82), some (qI x1), some (qI x2)], [], qH0 M) := by
  refine Eq.trans (qlim_n (n := 3) (c' := (13, [some (qA 82), some (qI x1), some (qI x2)], [qI x1, qA 126], qH0 M)) rfl) ?_
  refine Eq.trans (qs_iaload rfl rfl h1 h2) ?_
  exact (qlim_n (n := 1) (c' := ((if M 126 x1 < 0 then 34 else 17), [some (qA 82), some (qI x1), some (qI x2)], [], qH0 M)) rfl)
set_option maxRecDepth 20000 in
theorem B_X12_read_17 {M : qMem} {x1 x2 : Int} (h1 : 0 ≤ x1) (h2 : x1 < 6) : qlim C_X12_read (17, [some (qA 82), some (qI x1), some (qI x2)], [], qH0 M) = qbd (S_X12_in [qA 82, qI x2, qI 0, qI (ksub (M 127 x1) 1)] (qH0 M)) (fun r h' => qlim C_X12_read (31, [some (qA 82), some (qI x1), some (qI x2)], r.toList ++ [], h')) := by
  refine Eq.trans (qlim_n (n := 6) (c' := (25, [some (qA 82), some (qI x1), some (qI x2)], [qI x1, qA 127, qI 0, qI x2, qA 82], qH0 M)) rfl) ?_
  refine Eq.trans (qs_iaload rfl rfl h1 h2) ?_
  refine Eq.trans (qlim_n (n := 2) (c' := (28, [some (qA 82), some (qI x1), some (qI x2)], [qI (ksub (M 127 x1) 1), qI 0, qI x2, qA 82], qH0 M)) rfl) ?_
  exact (qlim_callv (n := 3) rfl rfl rfl (Nat.le_of_ble_eq_true rfl) (Nat.le_of_ble_eq_true rfl) rfl)
set_option maxRecDepth 20000 in
theorem B_X12_read_31 {M : qMem} {x1 x2 s0 : Int} : qlim C_X12_read (31, [some (qA 82), some (qI x1), some (qI x2)], [qI s0], qH0 M) = qlim C_X12_read ((if ¬ s0 = 0 then 40 else 34), [some (qA 82), some (qI x1), some (qI x2)], [], qH0 M) := (qlim_n (n := 1) (c' := ((if ¬ s0 = 0 then 40 else 34), [some (qA 82), some (qI x1), some (qI x2)], [], qH0 M)) rfl)
set_option maxRecDepth 20000 in
theorem B_X12_read_34 {M : qMem} {x1 x2 : Int} : qlim C_X12_read (34, [some (qA 82), some (qI x1), some (qI x2)], [], qH0 M) = qlim C_X12_read (51, [some (qA 82), some (qI x1), some (qI x2)], [qJ (-9223372036854775808)], qH0 M) := (qlim_n (n := 2) (c' := (51, [some (qA 82), some (qI x1), some (qI x2)], [qJ (-9223372036854775808)], qH0 M)) rfl)
set_option maxRecDepth 20000 in
theorem B_X12_read_40 {M : qMem} {x1 x2 : Int} (h1 : 0 ≤ kadd (kmul 60 x1) x2) (h2 : kadd (kmul 60 x1) x2 < 360) : qlim C_X12_read (40, [some (qA 82), some (qI x1), some (qI x2)], [], qH0 M) = qlim C_X12_read (51, [some (qA 82), some (qI x1), some (qI x2)], [qJ (M 128 (kadd (kmul 60 x1) x2))], qH0 M) := by
  refine Eq.trans (qlim_n (n := 7) (c' := (50, [some (qA 82), some (qI x1), some (qI x2)], [qI (kadd (kmul 60 x1) x2), qA 128], qH0 M)) rfl) ?_
  exact (qs_laload rfl rfl h1 h2)
set_option maxRecDepth 20000 in
theorem B_X12_read_51 {M : qMem} {x1 x2 s0 : Int} : qlim C_X12_read (51, [some (qA 82), some (qI x1), some (qI x2)], [qJ s0], qH0 M) = some (some (qJ s0), qH0 M) := (qlim_ret rfl)
theorem E_X12_read {h : qH} {x1 x2 : Int} : S_X12_read [qA 82, qI x1, qI x2] h = qlim C_X12_read (0, [some (qA 82), some (qI x1), some (qI x2)], [], h) := qM_at (Nat.le_of_ble_eq_true rfl) rfl
set_option maxRecDepth 20000 in
theorem B_X12_shift_0 {M : qMem} {x1 x2 x3 x4 x5 : Int} : qlim C_X12_shift (0, [some (qA 82), some (qI x1), some (qI x2), some (qI x3), some (qI x4), some (qI x5), none], [], qH0 M) = qbd (S_X12_isTape [qA 82, qI x1] (qH0 M)) (fun r h' => qlim C_X12_shift (5, [some (qA 82), some (qI x1), some (qI x2), some (qI x3), some (qI x4), some (qI x5), none], r.toList ++ [], h')) := by
  refine Eq.trans (qlim_n (n := 2) (c' := (2, [some (qA 82), some (qI x1), some (qI x2), some (qI x3), some (qI x4), some (qI x5), none], [qI x1, qA 82], qH0 M)) rfl) ?_
  exact (qlim_callv (n := 1) rfl rfl rfl (Nat.le_of_ble_eq_true rfl) (Nat.le_of_ble_eq_true rfl) rfl)
set_option maxRecDepth 20000 in
theorem B_X12_shift_5 {M : qMem} {x1 x2 x3 x4 x5 s0 : Int} : qlim C_X12_shift (5, [some (qA 82), some (qI x1), some (qI x2), some (qI x3), some (qI x4), some (qI x5), none], [qI s0], qH0 M) = qlim C_X12_shift ((if s0 = 0 then 16 else 8), [some (qA 82), some (qI x1), some (qI x2), some (qI x3), some (qI x4), some (qI x5), none], [], qH0 M) := (qlim_n (n := 1) (c' := ((if s0 = 0 then 16 else 8), [some (qA 82), some (qI x1), some (qI x2), some (qI x3), some (qI x4), some (qI x5), none], [], qH0 M)) rfl)
set_option maxRecDepth 20000 in
theorem B_X12_shift_8 {M : qMem} {x1 x2 x3 x4 x5 : Int} : qlim C_X12_shift (8, [some (qA 82), some (qI x1), some (qI x2), some (qI x3), some (qI x4), some (qI x5), none], [], qH0 M) = qbd (S_X12_isTape [qA 82, qI x3] (qH0 M)) (fun r h' => qlim C_X12_shift (13, [some (qA 82), some (qI x1), some (qI x2), some (qI x3), some (qI x4), some (qI x5), none], r.toList ++ [], h')) := by
  refine Eq.trans (qlim_n (n := 2) (c' := (10, [some (qA 82), some (qI x1), some (qI x2), some (qI x3), some (qI x4), some (qI x5), none], [qI x3, qA 82], qH0 M)) rfl) ?_
  exact (qlim_callv (n := 1) rfl rfl rfl (Nat.le_of_ble_eq_true rfl) (Nat.le_of_ble_eq_true rfl) rfl)
set_option maxRecDepth 20000 in
theorem B_X12_shift_13 {M : qMem} {x1 x2 x3 x4 x5 s0 : Int} : qlim C_X12_shift (13, [some (qA 82), some (qI x1), some (qI x2), some (qI x3), some (qI x4), some (qI x5), none], [qI s0], qH0 M) = qlim C_X12_shift ((if ¬ s0 = 0 then 18 else 16), [some (qA 82), some (qI x1), some (qI x2), some (qI x3), some (qI x4), some (qI x5), none], [], qH0 M) := (qlim_n (n := 1) (c' := ((if ¬ s0 = 0 then 18 else 16), [some (qA 82), some (qI x1), some (qI x2), some (qI x3), some (qI x4), some (qI x5), none], [], qH0 M)) rfl)
set_option maxRecDepth 20000 in
theorem B_X12_shift_16 {M : qMem} {x1 x2 x3 x4 x5 : Int} : qlim C_X12_shift (16, [some (qA 82), some (qI x1), some (qI x2), some (qI x3), some (qI x4), some (qI x5), none], [], qH0 M) = some (some (qI (-1)), qH0 M) := by
  refine Eq.trans (qlim_n (n := 1) (c' := (17, [some (qA 82), some (qI x1), some (qI x2), some (qI x3), some (qI x4), some (qI x5), none], [qI (-1)], qH0 M)) rfl) ?_
  exact (qlim_ret rfl)
set_option maxRecDepth 20000 in
theorem B_X12_shift_18 {M : qMem} {x1 x2 x3 x4 x5 : Int} (h1 : 0 ≤ x1) (h2 : x1 < 6) : qlim C_X12_shift (18, [some (qA 82), some (qI x1), some (qI x2), some (qI x3), some (qI x4), some (qI x5), none], [], qH0 M) = qlim C_X12_shift ((if M 126 x1 < 0 then 36 else 27), [some (qA 82), some (qI x1), some (qI x2), some (qI x3), some (qI x4), some (qI x5), none], [], qH0 M) := by
  refine Eq.trans (qlim_n (n := 3) (c' := (23, [some (qA 82), some (qI x1), some (qI x2), some (qI x3), some (qI x4), some (qI x5), none], [qI x1, qA 126], qH0 M)) rfl) ?_
  refine Eq.trans (qs_iaload rfl rfl h1 h2) ?_
  exact (qlim_n (n := 1) (c' := ((if M 126 x1 < 0 then 36 else 27), [some (qA 82), some (qI x1), some (qI x2), some (qI x3), some (qI x4), some (qI x5), none], [], qH0 M)) rfl)
set_option maxRecDepth 20000 in
theorem B_X12_shift_27 {M : qMem} {x1 x2 x3 x4 x5 : Int} (h1 : 0 ≤ x3) (h2 : x3 < 6) : qlim C_X12_shift (27, [some (qA 82), some (qI x1), some (qI x2), some (qI x3), some (qI x4), some (qI x5), none], [], qH0 M) = qlim C_X12_shift ((if 0 ≤ M 126 x3 then 39 else 36), [some (qA 82), some (qI x1), some (qI x2), some (qI x3), some (qI x4), some (qI x5), none], [], qH0 M) := by
  refine Eq.trans (qlim_n (n := 3) (c' := (32, [some (qA 82), some (qI x1), some (qI x2), some (qI x3), some (qI x4), some (qI x5), none], [qI x3, qA 126], qH0 M)) rfl) ?_
  refine Eq.trans (qs_iaload rfl rfl h1 h2) ?_
  exact (qlim_n (n := 1) (c' := ((if 0 ≤ M 126 x3 then 39 else 36), [some (qA 82), some (qI x1), some (qI x2), some (qI x3), some (qI x4), some (qI x5), none], [], qH0 M)) rfl)
set_option maxRecDepth 20000 in
theorem B_X12_shift_36 {M : qMem} {x1 x2 x3 x4 x5 : Int} : qlim C_X12_shift (36, [some (qA 82), some (qI x1), some (qI x2), some (qI x3), some (qI x4), some (qI x5), none], [], qH0 M) = some (some (qI (-11)), qH0 M) := by
  refine Eq.trans (qlim_n (n := 1) (c' := (38, [some (qA 82), some (qI x1), some (qI x2), some (qI x3), some (qI x4), some (qI x5), none], [qI (-11)], qH0 M)) rfl) ?_
  exact (qlim_ret rfl)
set_option maxRecDepth 20000 in
theorem B_X12_shift_39 {M : qMem} {x1 x2 x3 x4 x5 : Int} (h1 : 0 ≤ x1) (h2 : x1 < 6) (h3 : 0 ≤ x3) (h4 : x3 < 6) : qlim C_X12_shift (39, [some (qA 82), some (qI x1), some (qI x2), some (qI x3), some (qI x4), some (qI x5), none], [], qH0 M) = qlim C_X12_shift ((if M 126 x1 = M 126 x3 then 57 else 54), [some (qA 82), some (qI x1), some (qI x2), some (qI x3), some (qI x4), some (qI x5), none], [], qH0 M) := by
  refine Eq.trans (qlim_n (n := 3) (c' := (44, [some (qA 82), some (qI x1), some (qI x2), some (qI x3), some (qI x4), some (qI x5), none], [qI x1, qA 126], qH0 M)) rfl) ?_
  refine Eq.trans (qs_iaload rfl rfl h1 h2) ?_
  refine Eq.trans (qlim_n (n := 3) (c' := (50, [some (qA 82), some (qI x1), some (qI x2), some (qI x3), some (qI x4), some (qI x5), none], [qI x3, qA 126, qI (M 126 x1)], qH0 M)) rfl) ?_
  refine Eq.trans (qs_iaload rfl rfl h3 h4) ?_
  exact (qlim_n (n := 1) (c' := ((if M 126 x1 = M 126 x3 then 57 else 54), [some (qA 82), some (qI x1), some (qI x2), some (qI x3), some (qI x4), some (qI x5), none], [], qH0 M)) rfl)
set_option maxRecDepth 20000 in
theorem B_X12_shift_54 {M : qMem} {x1 x2 x3 x4 x5 : Int} : qlim C_X12_shift (54, [some (qA 82), some (qI x1), some (qI x2), some (qI x3), some (qI x4), some (qI x5), none], [], qH0 M) = some (some (qI (-12)), qH0 M) := by
  refine Eq.trans (qlim_n (n := 1) (c' := (56, [some (qA 82), some (qI x1), some (qI x2), some (qI x3), some (qI x4), some (qI x5), none], [qI (-12)], qH0 M)) rfl) ?_
  exact (qlim_ret rfl)
set_option maxRecDepth 20000 in
theorem B_X12_shift_57 {M : qMem} {x1 x2 x3 x4 x5 : Int} : qlim C_X12_shift (57, [some (qA 82), some (qI x1), some (qI x2), some (qI x3), some (qI x4), some (qI x5), none], [], qH0 M) = qlim C_X12_shift ((if x5 < 0 then 98 else 62), [some (qA 82), some (qI x1), some (qI x2), some (qI x3), some (qI x4), some (qI x5), none], [], qH0 M) := (qlim_n (n := 2) (c' := ((if x5 < 0 then 98 else 62), [some (qA 82), some (qI x1), some (qI x2), some (qI x3), some (qI x4), some (qI x5), none], [], qH0 M)) rfl)
set_option maxRecDepth 20000 in
theorem B_X12_shift_62 {M : qMem} {x1 x2 x3 x4 x5 : Int} : qlim C_X12_shift (62, [some (qA 82), some (qI x1), some (qI x2), some (qI x3), some (qI x4), some (qI x5), none], [], qH0 M) = qlim C_X12_shift ((if x2 < 0 then 98 else 66), [some (qA 82), some (qI x1), some (qI x2), some (qI x3), some (qI x4), some (qI x5), none], [], qH0 M) := (qlim_n (n := 2) (c' := ((if x2 < 0 then 98 else 66), [some (qA 82), some (qI x1), some (qI x2), some (qI x3), some (qI x4), some (qI x5), none], [], qH0 M)) rfl)
set_option maxRecDepth 20000 in
theorem B_X12_shift_66 {M : qMem} {x1 x2 x3 x4 x5 : Int} : qlim C_X12_shift (66, [some (qA 82), some (qI x1), some (qI x2), some (qI x3), some (qI x4), some (qI x5), none], [], qH0 M) = qlim C_X12_shift ((if x4 < 0 then 98 else 71), [some (qA 82), some (qI x1), some (qI x2), some (qI x3), some (qI x4), some (qI x5), none], [], qH0 M) := (qlim_n (n := 2) (c' := ((if x4 < 0 then 98 else 71), [some (qA 82), some (qI x1), some (qI x2), some (qI x3), some (qI x4), some (qI x5), none], [], qH0 M)) rfl)
set_option maxRecDepth 20000 in
theorem B_X12_shift_71 {M : qMem} {x1 x2 x3 x4 x5 : Int} (h1 : 0 ≤ x1) (h2 : x1 < 6) : qlim C_X12_shift (71, [some (qA 82), some (qI x1), some (qI x2), some (qI x3), some (qI x4), some (qI x5), none], [], qH0 M) = qlim C_X12_shift ((if ksub (M 127 x1) x5 < x2 then 98 else 84), [some (qA 82), some (qI x1), some (qI x2), some (qI x3), some (qI x4), some (qI x5), none], [], qH0 M) := by
  refine Eq.trans (qlim_n (n := 4) (c' := (77, [some (qA 82), some (qI x1), some (qI x2), some (qI x3), some (qI x4), some (qI x5), none], [qI x1, qA 127, qI x2], qH0 M)) rfl) ?_
  refine Eq.trans (qs_iaload rfl rfl h1 h2) ?_
  exact (qlim_n (n := 3) (c' := ((if ksub (M 127 x1) x5 < x2 then 98 else 84), [some (qA 82), some (qI x1), some (qI x2), some (qI x3), some (qI x4), some (qI x5), none], [], qH0 M)) rfl)
set_option maxRecDepth 20000 in
theorem B_X12_shift_84 {M : qMem} {x1 x2 x3 x4 x5 : Int} (h1 : 0 ≤ x3) (h2 : x3 < 6) : qlim C_X12_shift (84, [some (qA 82), some (qI x1), some (qI x2), some (qI x3), some (qI x4), some (qI x5), none], [], qH0 M) = qlim C_X12_shift ((if x4 ≤ ksub (M 127 x3) x5 then 101 else 98), [some (qA 82), some (qI x1), some (qI x2), some (qI x3), some (qI x4), some (qI x5), none], [], qH0 M) := by
  refine Eq.trans (qlim_n (n := 4) (c' := (91, [some (qA 82), some (qI x1), some (qI x2), some (qI x3), some (qI x4), some (qI x5), none], [qI x3, qA 127, qI x4], qH0 M)) rfl) ?_
  refine Eq.trans (qs_iaload rfl rfl h1 h2) ?_
  exact (qlim_n (n := 3) (c' := ((if x4 ≤ ksub (M 127 x3) x5 then 101 else 98), [some (qA 82), some (qI x1), some (qI x2), some (qI x3), some (qI x4), some (qI x5), none], [], qH0 M)) rfl)
set_option maxRecDepth 20000 in
theorem B_X12_shift_98 {M : qMem} {x1 x2 x3 x4 x5 : Int} : qlim C_X12_shift (98, [some (qA 82), some (qI x1), some (qI x2), some (qI x3), some (qI x4), some (qI x5), none], [], qH0 M) = some (some (qI (-13)), qH0 M) := by
  refine Eq.trans (qlim_n (n := 1) (c' := (100, [some (qA 82), some (qI x1), some (qI x2), some (qI x3), some (qI x4), some (qI x5), none], [qI (-13)], qH0 M)) rfl) ?_
  exact (qlim_ret rfl)
set_option maxRecDepth 20000 in
theorem B_X12_shift_101 {M : qMem} {x1 x2 x3 x4 x5 : Int} : qlim C_X12_shift (101, [some (qA 82), some (qI x1), some (qI x2), some (qI x3), some (qI x4), some (qI x5), none], [], qH0 M) = qlim C_X12_shift (104, [some (qA 82), some (qI x1), some (qI x2), some (qI x3), some (qI x4), some (qI x5), some (qI 0)], [], qH0 M) := (qlim_n (n := 2) (c' := (104, [some (qA 82), some (qI x1), some (qI x2), some (qI x3), some (qI x4), some (qI x5), some (qI 0)], [], qH0 M)) rfl)
set_option maxRecDepth 20000 in
theorem B_X12_shift_104 {M : qMem} {x1 x2 x3 x4 x5 x6 : Int} : qlim C_X12_shift (104, [some (qA 82), some (qI x1), some (qI x2), some (qI x3), some (qI x4), some (qI x5), some (qI x6)], [], qH0 M) = qlim C_X12_shift ((if x5 ≤ x6 then 138 else 111), [some (qA 82), some (qI x1), some (qI x2), some (qI x3), some (qI x4), some (qI x5), some (qI x6)], [], qH0 M) := (qlim_n (n := 3) (c' := ((if x5 ≤ x6 then 138 else 111), [some (qA 82), some (qI x1), some (qI x2), some (qI x3), some (qI x4), some (qI x5), some (qI x6)], [], qH0 M)) rfl)
set_option maxRecDepth 20000 in
theorem B_X12_shift_111 {M : qMem} {x1 x2 x3 x4 x5 x6 : Int} (h1 : 0 ≤ kadd (kadd (kmul 60 x1) x2) x6) (h2 : kadd (kadd (kmul 60 x1) x2) x6 < 360) (h3 : 0 ≤ x6) (h4 : x6 < 60) : qlim C_X12_shift (111, [some (qA 82), some (qI x1), some (qI x2), some (qI x3), some (qI x4), some (qI x5), some (qI x6)], [], qH0 M) = qlim C_X12_shift (104, [some (qA 82), some (qI x1), some (qI x2), some (qI x3), some (qI x4), some (qI x5), some (qI (kadd x6 1))], [], qH0 (qup M 129 x6 (M 128 (kadd (kadd (kmul 60 x1) x2) x6)))) := by
  refine Eq.trans (qlim_n (n := 12) (c' := (130, [some (qA 82), some (qI x1), some (qI x2), some (qI x3), some (qI x4), some (qI x5), some (qI x6)], [qI (kadd (kadd (kmul 60 x1) x2) x6), qA 128, qI x6, qA 129], qH0 M)) rfl) ?_
  refine Eq.trans (qs_laload rfl rfl h1 h2) ?_
  refine Eq.trans (qs_lastore rfl rfl h3 h4) ?_
  exact (qlim_n (n := 2) (c' := (104, [some (qA 82), some (qI x1), some (qI x2), some (qI x3), some (qI x4), some (qI x5), some (qI (kadd x6 1))], [], qH0 (qup M 129 x6 (M 128 (kadd (kadd (kmul 60 x1) x2) x6))))) rfl)
set_option maxRecDepth 20000 in
theorem B_X12_shift_138 {M : qMem} {x1 x2 x3 x4 x5 x6 : Int} : qlim C_X12_shift (138, [some (qA 82), some (qI x1), some (qI x2), some (qI x3), some (qI x4), some (qI x5), some (qI x6)], [], qH0 M) = qlim C_X12_shift (141, [some (qA 82), some (qI x1), some (qI x2), some (qI x3), some (qI x4), some (qI x5), some (qI 0)], [], qH0 M) := (qlim_n (n := 2) (c' := (141, [some (qA 82), some (qI x1), some (qI x2), some (qI x3), some (qI x4), some (qI x5), some (qI 0)], [], qH0 M)) rfl)
set_option maxRecDepth 20000 in
theorem B_X12_shift_141 {M : qMem} {x1 x2 x3 x4 x5 x6 : Int} : qlim C_X12_shift (141, [some (qA 82), some (qI x1), some (qI x2), some (qI x3), some (qI x4), some (qI x5), some (qI x6)], [], qH0 M) = qlim C_X12_shift ((if x5 ≤ x6 then 176 else 148), [some (qA 82), some (qI x1), some (qI x2), some (qI x3), some (qI x4), some (qI x5), some (qI x6)], [], qH0 M) := (qlim_n (n := 3) (c' := ((if x5 ≤ x6 then 176 else 148), [some (qA 82), some (qI x1), some (qI x2), some (qI x3), some (qI x4), some (qI x5), some (qI x6)], [], qH0 M)) rfl)
set_option maxRecDepth 20000 in
theorem B_X12_shift_148 {M : qMem} {x1 x2 x3 x4 x5 x6 : Int} (h1 : 0 ≤ x6) (h2 : x6 < 60) (h3 : 0 ≤ kadd (kadd (kmul 60 x3) x4) x6) (h4 : kadd (kadd (kmul 60 x3) x4) x6 < 360) : qlim C_X12_shift (148, [some (qA 82), some (qI x1), some (qI x2), some (qI x3), some (qI x4), some (qI x5), some (qI x6)], [], qH0 M) = qlim C_X12_shift (141, [some (qA 82), some (qI x1), some (qI x2), some (qI x3), some (qI x4), some (qI x5), some (qI (kadd x6 1))], [], qH0 (qup M 128 (kadd (kadd (kmul 60 x3) x4) x6) (M 129 x6))) := by
  refine Eq.trans (qlim_n (n := 12) (c' := (168, [some (qA 82), some (qI x1), some (qI x2), some (qI x3), some (qI x4), some (qI x5), some (qI x6)], [qI x6, qA 129, qI (kadd (kadd (kmul 60 x3) x4) x6), qA 128], qH0 M)) rfl) ?_
  refine Eq.trans (qs_laload rfl rfl h1 h2) ?_
  refine Eq.trans (qs_lastore rfl rfl h3 h4) ?_
  exact (qlim_n (n := 2) (c' := (141, [some (qA 82), some (qI x1), some (qI x2), some (qI x3), some (qI x4), some (qI x5), some (qI (kadd x6 1))], [], qH0 (qup M 128 (kadd (kadd (kmul 60 x3) x4) x6) (M 129 x6)))) rfl)
set_option maxRecDepth 20000 in
theorem B_X12_shift_176 {M : qMem} {x1 x2 x3 x4 x5 x6 : Int} : qlim C_X12_shift (176, [some (qA 82), some (qI x1), some (qI x2), some (qI x3), some (qI x4), some (qI x5), some (qI x6)], [], qH0 M) = some (some (qI x5), qH0 M) := by
  refine Eq.trans (qlim_n (n := 1) (c' := (178, [some (qA 82), some (qI x1), some (qI x2), some (qI x3), some (qI x4), some (qI x5), some (qI x6)], [qI x5], qH0 M)) rfl) ?_
  exact (qlim_ret rfl)
theorem E_X12_shift {h : qH} {x1 x2 x3 x4 x5 : Int} : S_X12_shift [qA 82, qI x1, qI x2, qI x3, qI x4, qI x5] h = qlim C_X12_shift (0, [some (qA 82), some (qI x1), some (qI x2), some (qI x3), some (qI x4), some (qI x5), none], [], h) := qM_at (Nat.le_of_ble_eq_true rfl) rfl
