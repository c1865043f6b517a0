set_option maxRecDepth 20000 in
theorem B_X6_add_0 {M : qMem} {r x1 x2 x3 : Int} (h_r : qRw r) : qlim C_X6_add (0, [some (qA r), some (qI x1), some (qI x2), some (qI x3), none], [], qH0 M) = qlim C_X6_add ((if M r 3 < M r 0 then 14 else 11), [some (qA r), some (qI x1), some (qI x2), some (qI x3), none], [], qH0 M) := by
  refine Eq.trans (qlim_n (n := 1) (c' := (1, [some (qA r), some (qI x1), some (qI x2), some (qI x3), none], [qA r], qH0 M)) rfl) ?_
  refine Eq.trans (qs_getI rfl (qRw_ty h_r) (by decide)) ?_
  refine Eq.trans (qlim_n (n := 1) (c' := (5, [some (qA r), some (qI x1), some (qI x2), some (qI x3), none], [qA r, qI (M r 3)], qH0 M)) rfl) ?_
  refine Eq.trans (qs_getI rfl (qRw_ty h_r) (by decide)) ?_
  exact (qlim_n (n := 1) (c' := ((if M r 3 < M r 0 then 14 else 11), [some (qA r), some (qI x1), some (qI x2), some (qI x3), none], [], qH0 M)) rfl)
set_option maxRecDepth 20000 in
theorem B_X6_add_11 {M : qMem} {r x1 x2 x3 : Int} (h_r : qRw r) : qlim C_X6_add (11, [some (qA r), some (qI x1), some (qI x2), some (qI x3), none], [], qH0 M) = some (some (qI (-4)), qH0 M) := by
  refine Eq.trans (qlim_n (n := 1) (c' := (13, [some (qA r), some (qI x1), some (qI x2), some (qI x3), none], [qI (-4)], qH0 M)) rfl) ?_
  exact (qlim_ret rfl)
set_option maxRecDepth 20000 in
theorem B_X6_add_14 {M : qMem} {r x1 x2 x3 : Int} {n_r1 : Nat} (h_r : qRw r) (h1 : qty (qH0 M) (r + 1) = (100, n_r1)) (h2 : 0 ≤ kmul (M r 3) (M r 1)) (h3 : kmul (M r 3) (M r 1) < n_r1) (h4 : 0 ≤ kadd (kmul (M r 3) (M r 1)) 1) (h5 : kadd (kmul (M r 3) (M r 1)) 1 < n_r1) : qlim C_X6_add (14, [some (qA r), some (qI x1), some (qI x2), some (qI x3), none], [], qH0 M) = qlim C_X6_add ((if (qup (qup M (r + 1) (kmul (M r 3) (M r 1)) x1) (r + 1) (kadd (kmul (M r 3) (M r 1)) 1) x2) r 1 ≤ 2 then 61 else 51), [some (qA r), some (qI x1), some (qI x2), some (qI x3), some (qI (kmul (M r 3) (M r 1)))], [], qH0 (qup (qup M (r + 1) (kmul (M r 3) (M r 1)) x1) (r + 1) (kadd (kmul (M r 3) (M r 1)) 1) x2)) := by
  refine Eq.trans (qlim_n (n := 1) (c' := (15, [some (qA r), some (qI x1), some (qI x2), some (qI x3), none], [qA r], qH0 M)) rfl) ?_
  refine Eq.trans (qs_getI rfl (qRw_ty h_r) (by decide)) ?_
  refine Eq.trans (qlim_n (n := 1) (c' := (19, [some (qA r), some (qI x1), some (qI x2), some (qI x3), none], [qA r, qI (M r 3)], qH0 M)) rfl) ?_
  refine Eq.trans (qs_getI rfl (qRw_ty h_r) (by decide)) ?_
  refine Eq.trans (qlim_n (n := 3) (c' := (26, [some (qA r), some (qI x1), some (qI x2), some (qI x3), some (qI (kmul (M r 3) (M r 1)))], [qA r], qH0 M)) rfl) ?_
  refine Eq.trans (qs_getR (z := r + 1) rfl (qRw_ty h_r) (by decide) (qRw_g2 h_r)) ?_
  refine Eq.trans (qlim_n (n := 2) (c' := (32, [some (qA r), some (qI x1), some (qI x2), some (qI x3), some (qI (kmul (M r 3) (M r 1)))], [qI x1, qI (kmul (M r 3) (M r 1)), qA (r + 1)], qH0 M)) rfl) ?_
  refine Eq.trans (qs_iastore rfl h1 h2 h3) ?_
  refine Eq.trans (qlim_n (n := 1) (c' := (34, [some (qA r), some (qI x1), some (qI x2), some (qI x3), some (qI (kmul (M r 3) (M r 1)))], [qA r], qH0 (qup M (r + 1) (kmul (M r 3) (M r 1)) x1))) rfl) ?_
  refine Eq.trans (qs_getR (z := r + 1) rfl (qRw_ty h_r) (by decide) (qRw_g2 h_r)) ?_
  refine Eq.trans (qlim_n (n := 4) (c' := (42, [some (qA r), some (qI x1), some (qI x2), some (qI x3), some (qI (kmul (M r 3) (M r 1)))], [qI x2, qI (kadd (kmul (M r 3) (M r 1)) 1), qA (r + 1)], qH0 (qup M (r + 1) (kmul (M r 3) (M r 1)) x1))) rfl) ?_
  refine Eq.trans (qs_iastore rfl h1 h4 h5) ?_
  refine Eq.trans (qlim_n (n := 1) (c' := (44, [some (qA r), some (qI x1), some (qI x2), some (qI x3), some (qI (kmul (M r 3) (M r 1)))], [qA r], qH0 (qup (qup M (r + 1) (kmul (M r 3) (M r 1)) x1) (r + 1) (kadd (kmul (M r 3) (M r 1)) 1) x2))) rfl) ?_
  refine Eq.trans (qs_getI rfl (qRw_ty h_r) (by decide)) ?_
  exact (qlim_n (n := 2) (c' := ((if (qup (qup M (r + 1) (kmul (M r 3) (M r 1)) x1) (r + 1) (kadd (kmul (M r 3) (M r 1)) 1) x2) r 1 ≤ 2 then 61 else 51), [some (qA r), some (qI x1), some (qI x2), some (qI x3), some (qI (kmul (M r 3) (M r 1)))], [], qH0 (qup (qup M (r + 1) (kmul (M r 3) (M r 1)) x1) (r + 1) (kadd (kmul (M r 3) (M r 1)) 1) x2))) rfl)
set_option maxRecDepth 20000 in
theorem B_X6_add_51 {M : qMem} {r x1 x2 x3 x4 : Int} {n_r1 : Nat} (h_r : qRw r) (h1 : qty (qH0 M) (r + 1) = (100, n_r1)) (h2 : 0 ≤ kadd x4 2) (h3 : kadd x4 2 < n_r1) : qlim C_X6_add (51, [some (qA r), some (qI x1), some (qI x2), some (qI x3), some (qI x4)], [], qH0 M) = qlim C_X6_add (61, [some (qA r), some (qI x1), some (qI x2), some (qI x3), some (qI x4)], [], qH0 (qup M (r + 1) (kadd x4 2) x3)) := by
  refine Eq.trans (qlim_n (n := 1) (c' := (52, [some (qA r), some (qI x1), some (qI x2), some (qI x3), some (qI x4)], [qA r], qH0 M)) rfl) ?_
  refine Eq.trans (qs_getR (z := r + 1) rfl (qRw_ty h_r) (by decide) (qRw_g2 h_r)) ?_
  refine Eq.trans (qlim_n (n := 4) (c' := (60, [some (qA r), some (qI x1), some (qI x2), some (qI x3), some (qI x4)], [qI x3, qI (kadd x4 2), qA (r + 1)], qH0 M)) rfl) ?_
  exact (qs_iastore rfl h1 h2 h3)
set_option maxRecDepth 20000 in
theorem B_X6_add_61 {M : qMem} {r x1 x2 x3 x4 : Int} (h_r : qRw r) : qlim C_X6_add (61, [some (qA r), some (qI x1), some (qI x2), some (qI x3), some (qI x4)], [], qH0 M) = some (some (qI ((qup M r 3 (kadd (M r 3) 1)) r 3)), qH0 (qup M r 3 (kadd (M r 3) 1))) := by
  refine Eq.trans (qlim_n (n := 2) (c' := (63, [some (qA r), some (qI x1), some (qI x2), some (qI x3), some (qI x4)], [qA r, qA r], qH0 M)) rfl) ?_
  refine Eq.trans (qs_getI rfl (qRw_ty h_r) (by decide)) ?_
  refine Eq.trans (qlim_n (n := 2) (c' := (68, [some (qA r), some (qI x1), some (qI x2), some (qI x3), some (qI x4)], [qI (kadd (M r 3) 1), qA r], qH0 M)) rfl) ?_
  refine Eq.trans (qs_putI rfl (qRw_ty h_r) (by decide)) ?_
  refine Eq.trans (qlim_n (n := 1) (c' := (72, [some (qA r), some (qI x1), some (qI x2), some (qI x3), some (qI x4)], [qA r], qH0 (qup M r 3 (kadd (M r 3) 1)))) rfl) ?_
  refine Eq.trans (qs_getI rfl (qRw_ty h_r) (by decide)) ?_
  exact (qlim_ret rfl)
theorem E_X6_add {h : qH} {r x1 x2 x3 : Int} : S_X6_add [qA r, qI x1, qI x2, qI x3] h = qlim C_X6_add (0, [some (qA r), some (qI x1), some (qI x2), some (qI x3), none], [], h) := qM_at (Nat.le_of_ble_eq_true rfl) rfl
set_option maxRecDepth 20000 in
theorem B_X6_cell_0 {M : qMem} {r x1 x2 : Int} {n_r1 : Nat} (h_r : qRw r) (h1 : qty (qH0 M) (r + 1) = (100, n_r1)) (h2 : 0 ≤ kadd (kmul x1 (M r 1)) x2) (h3 : kadd (kmul x1 (M r 1)) x2 < n_r1) : qlim C_X6_cell (0, [some (qA r), some (qI x1), some (qI x2)], [], qH0 M) = some (some (qI (M (r + 1) (kadd (kmul x1 (M r 1)) x2))), qH0 M) := by
  refine Eq.trans (qlim_n (n := 1) (c' := (1, [some (qA r), some (qI x1), some (qI x2)], [qA r], qH0 M)) rfl) ?_
  refine Eq.trans (qs_getR (z := r + 1) rfl (qRw_ty h_r) (by decide) (qRw_g2 h_r)) ?_
  refine Eq.trans (qlim_n (n := 2) (c' := (6, [some (qA r), some (qI x1), some (qI x2)], [qA r, qI x1, qA (r + 1)], qH0 M)) rfl) ?_
  refine Eq.trans (qs_getI rfl (qRw_ty h_r) (by decide)) ?_
  refine Eq.trans (qlim_n (n := 3) (c' := (12, [some (qA r), some (qI x1), some (qI x2)], [qI (kadd (kmul x1 (M r 1)) x2), qA (r + 1)], qH0 M)) rfl) ?_
  refine Eq.trans (qs_iaload rfl h1 h2 h3) ?_
  exact (qlim_ret rfl)
theorem E_X6_cell {h : qH} {r x1 x2 : Int} : S_X6_cell [qA r, qI x1, qI x2] h = qlim C_X6_cell (0, [some (qA r), some (qI x1), some (qI x2)], [], h) := qM_at (Nat.le_of_ble_eq_true rfl) rfl
set_option maxRecDepth 20000 in
theorem B_X6_becomes_0 {M : qMem} {r r2 : Int} {n_r1 n_r21 : Nat} (h_r : qRw r) (h_r2 : qRw r2) (h1 : qty (qH0 M) (r + 1) = (100, n_r1)) (h2 : n_r1 ≤ 2147483647) (h3 : qty (qH0 M) (r2 + 1) = (100, n_r21)) (h4 : n_r21 ≤ 2147483647) (h5 : 0 ≤ min (n_r1 : Int) (n_r21 : Int)) (h6 : 0 + min (n_r1 : Int) (n_r21 : Int) ≤ n_r21) (h7 : 0 + min (n_r1 : Int) (n_r21 : Int) ≤ n_r1) : qlim C_X6_becomes (0, [some (qA r), some (qA r2)], [], qH0 M) = some (none, qH0 (qup (qcp M (r2 + 1) 0 (r + 1) 0 (min (n_r1 : Int) (n_r21 : Int))) r 3 ((qcp M (r2 + 1) 0 (r + 1) 0 (min (n_r1 : Int) (n_r21 : Int))) r2 3))) := by
  refine Eq.trans (qlim_n (n := 1) (c' := (1, [some (qA r), some (qA r2)], [qA r2], qH0 M)) rfl) ?_
  refine Eq.trans (qs_getR (z := r2 + 1) rfl (qRw_ty h_r2) (by decide) (qRw_g2 h_r2)) ?_
  refine Eq.trans (qlim_n (n := 2) (c' := (6, [some (qA r), some (qA r2)], [qA r, qI 0, qA (r2 + 1)], qH0 M)) rfl) ?_
  refine Eq.trans (qs_getR (z := r + 1) rfl (qRw_ty h_r) (by decide) (qRw_g2 h_r)) ?_
  refine Eq.trans (qlim_n (n := 2) (c' := (11, [some (qA r), some (qA r2)], [qA r, qI 0, qA (r + 1), qI 0, qA (r2 + 1)], qH0 M)) rfl) ?_
  refine Eq.trans (qs_getR (z := r + 1) rfl (qRw_ty h_r) (by decide) (qRw_g2 h_r)) ?_
  refine Eq.trans (qs_alen rfl h1 (by decide) h2) ?_
  refine Eq.trans (qlim_n (n := 1) (c' := (16, [some (qA r), some (qA r2)], [qA r2, qI (n_r1 : Int), qI 0, qA (r + 1), qI 0, qA (r2 + 1)], qH0 M)) rfl) ?_
  refine Eq.trans (qs_getR (z := r2 + 1) rfl (qRw_ty h_r2) (by decide) (qRw_g2 h_r2)) ?_
  refine Eq.trans (qs_alen rfl h3 (by decide) h4) ?_
  refine Eq.trans (qlim_n (n := 1) (c' := (23, [some (qA r), some (qA r2)], [qI (min (n_r1 : Int) (n_r21 : Int)), qI 0, qA (r + 1), qI 0, qA (r2 + 1)], qH0 M)) rfl) ?_
  refine Eq.trans (qs_copy rfl h3 h1 (by decide) (by decide) h5 h6 h7 (by decide)) ?_
  refine Eq.trans (qlim_n (n := 2) (c' := (28, [some (qA r), some (qA r2)], [qA r2, qA r], qH0 (qcp M (r2 + 1) 0 (r + 1) 0 (min (n_r1 : Int) (n_r21 : Int))))) rfl) ?_
  refine Eq.trans (qs_getI rfl (qRw_ty h_r2) (by decide)) ?_
  refine Eq.trans (qs_putI rfl (qRw_ty h_r) (by decide)) ?_
  exact (qlim_ret rfl)
theorem E_X6_becomes {h : qH} {r r2 : Int} : S_X6_becomes [qA r, qA r2] h = qlim C_X6_becomes (0, [some (qA r), some (qA r2)], [], h) := qM_at (Nat.le_of_ble_eq_true rfl) rfl
set_option maxRecDepth 20000 in
theorem B_X8_becomes_0 {M : qMem} {o o2 : Int} (h_o : qSt o) (h_o2 : qSt o2) (h1 : 0 ≤ (qup (qup (qup (qcp (qcp (qcp (qcp (qcp (qcp (qcp (qcp M (o2 + 1) 0 (o + 1) 0 5) (o2 + 2) 0 (o + 2) 0 6) (o2 + 3) 0 (o + 3) 0 6) (o2 + 4) 0 (o + 4) 0 6) (o2 + 5) 0 (o + 5) 0 6) (o2 + 6) 0 (o + 6) 0 6) (o2 + 7) 0 (o + 7) 0 24) (o2 + 8) 0 (o + 8) 0 6) o 10 ((qcp (qcp (qcp (qcp (qcp (qcp (qcp (qcp M (o2 + 1) 0 (o + 1) 0 5) (o2 + 2) 0 (o + 2) 0 6) (o2 + 3) 0 (o + 3) 0 6) (o2 + 4) 0 (o + 4) 0 6) (o2 + 5) 0 (o + 5) 0 6) (o2 + 6) 0 (o + 6) 0 6) (o2 + 7) 0 (o + 7) 0 24) (o2 + 8) 0 (o + 8) 0 6) o2 10)) o 11 ((qup (qcp (qcp (qcp (qcp (qcp (qcp (qcp (qcp M (o2 + 1) 0 (o + 1) 0 5) (o2 + 2) 0 (o + 2) 0 6) (o2 + 3) 0 (o + 3) 0 6) (o2 + 4) 0 (o + 4) 0 6) (o2 + 5) 0 (o + 5) 0 6) (o2 + 6) 0 (o + 6) 0 6) (o2 + 7) 0 (o + 7) 0 24) (o2 + 8) 0 (o + 8) 0 6) o 10 ((qcp (qcp (qcp (qcp (qcp (qcp (qcp (qcp M (o2 + 1) 0 (o + 1) 0 5) (o2 + 2) 0 (o + 2) 0 6) (o2 + 3) 0 (o + 3) 0 6) (o2 + 4) 0 (o + 4) 0 6) (o2 + 5) 0 (o + 5) 0 6) (o2 + 6) 0 (o + 6) 0 6) (o2 + 7) 0 (o + 7) 0 24) (o2 + 8) 0 (o + 8) 0 6) o2 10)) o2 11)) o 12 ((qup (qup (qcp (qcp (qcp (qcp (qcp (qcp (qcp (qcp M (o2 + 1) 0 (o + 1) 0 5) (o2 + 2) 0 (o + 2) 0 6) (o2 + 3) 0 (o + 3) 0 6) (o2 + 4) 0 (o + 4) 0 6) (o2 + 5) 0 (o + 5) 0 6) (o2 + 6) 0 (o + 6) 0 6) (o2 + 7) 0 (o + 7) 0 24) (o2 + 8) 0 (o + 8) 0 6) o 10 ((qcp (qcp (qcp (qcp (qcp (qcp (qcp (qcp M (o2 + 1) 0 (o + 1) 0 5) (o2 + 2) 0 (o + 2) 0 6) (o2 + 3) 0 (o + 3) 0 6) (o2 + 4) 0 (o + 4) 0 6) (o2 + 5) 0 (o + 5) 0 6) (o2 + 6) 0 (o + 6) 0 6) (o2 + 7) 0 (o + 7) 0 24) (o2 + 8) 0 (o + 8) 0 6) o2 10)) o 11 ((qup (qcp (qcp (qcp (qcp (qcp (qcp (qcp (qcp M (o2 + 1) 0 (o + 1) 0 5) (o2 + 2) 0 (o + 2) 0 6) (o2 + 3) 0 (o + 3) 0 6) (o2 + 4) 0 (o + 4) 0 6) (o2 + 5) 0 (o + 5) 0 6) (o2 + 6) 0 (o + 6) 0 6) (o2 + 7) 0 (o + 7) 0 24) (o2 + 8) 0 (o + 8) 0 6) o 10 ((qcp (qcp (qcp (qcp (qcp (qcp (qcp (qcp M (o2 + 1) 0 (o + 1) 0 5) (o2 + 2) 0 (o + 2) 0 6) (o2 + 3) 0 (o + 3) 0 6) (o2 + 4) 0 (o + 4) 0 6) (o2 + 5) 0 (o + 5) 0 6) (o2 + 6) 0 (o + 6) 0 6) (o2 + 7) 0 (o + 7) 0 24) (o2 + 8) 0 (o + 8) 0 6) o2 10)) o2 11)) o2 12)) o2 13) : qlim C_X8_becomes (0, [some (qA o), some (qA o2)], [], qH0 M) = some (none, qH0 (qup (qup (qup (qup (qcp (qcp (qcp (qcp (qcp (qcp (qcp (qcp M (o2 + 1) 0 (o + 1) 0 5) (o2 + 2) 0 (o + 2) 0 6) (o2 + 3) 0 (o + 3) 0 6) (o2 + 4) 0 (o + 4) 0 6) (o2 + 5) 0 (o + 5) 0 6) (o2 + 6) 0 (o + 6) 0 6) (o2 + 7) 0 (o + 7) 0 24) (o2 + 8) 0 (o + 8) 0 6) o 10 ((qcp (qcp (qcp (qcp (qcp (qcp (qcp (qcp M (o2 + 1) 0 (o + 1) 0 5) (o2 + 2) 0 (o + 2) 0 6) (o2 + 3) 0 (o + 3) 0 6) (o2 + 4) 0 (o + 4) 0 6) (o2 + 5) 0 (o + 5) 0 6) (o2 + 6) 0 (o + 6) 0 6) (o2 + 7) 0 (o + 7) 0 24) (o2 + 8) 0 (o + 8) 0 6) o2 10)) o 11 ((qup (qcp (qcp (qcp (qcp (qcp (qcp (qcp (qcp M (o2 + 1) 0 (o + 1) 0 5) (o2 + 2) 0 (o + 2) 0 6) (o2 + 3) 0 (o + 3) 0 6) (o2 + 4) 0 (o + 4) 0 6) (o2 + 5) 0 (o + 5) 0 6) (o2 + 6) 0 (o + 6) 0 6) (o2 + 7) 0 (o + 7) 0 24) (o2 + 8) 0 (o + 8) 0 6) o 10 ((qcp (qcp (qcp (qcp (qcp (qcp (qcp (qcp M (o2 + 1) 0 (o + 1) 0 5) (o2 + 2) 0 (o + 2) 0 6) (o2 + 3) 0 (o + 3) 0 6) (o2 + 4) 0 (o + 4) 0 6) (o2 + 5) 0 (o + 5) 0 6) (o2 + 6) 0 (o + 6) 0 6) (o2 + 7) 0 (o + 7) 0 24) (o2 + 8) 0 (o + 8) 0 6) o2 10)) o2 11)) o 12 ((qup (qup (qcp (qcp (qcp (qcp (qcp (qcp (qcp (qcp M (o2 + 1) 0 (o + 1) 0 5) (o2 + 2) 0 (o + 2) 0 6) (o2 + 3) 0 (o + 3) 0 6) (o2 + 4) 0 (o + 4) 0 6) (o2 + 5) 0 (o + 5) 0 6) (o2 + 6) 0 (o + 6) 0 6) (o2 + 7) 0 (o + 7) 0 24) (o2 + 8) 0 (o + 8) 0 6) o 10 ((qcp (qcp (qcp (qcp (qcp (qcp (qcp (qcp M (o2 + 1) 0 (o + 1) 0 5) (o2 + 2) 0 (o + 2) 0 6) (o2 + 3) 0 (o + 3) 0 6) (o2 + 4) 0 (o + 4) 0 6) (o2 + 5) 0 (o + 5) 0 6) (o2 + 6) 0 (o + 6) 0 6) (o2 + 7) 0 (o + 7) 0 24) (o2 + 8) 0 (o + 8) 0 6) o2 10)) o 11 ((qup (qcp (qcp (qcp (qcp (qcp (qcp (qcp (qcp M (o2 + 1) 0 (o + 1) 0 5) (o2 + 2) 0 (o + 2) 0 6) (o2 + 3) 0 (o + 3) 0 6) (o2 + 4) 0 (o + 4) 0 6) (o2 + 5) 0 (o + 5) 0 6) (o2 + 6) 0 (o + 6) 0 6) (o2 + 7) 0 (o + 7) 0 24) (o2 + 8) 0 (o + 8) 0 6) o 10 ((qcp (qcp (qcp (qcp (qcp (qcp (qcp (qcp M (o2 + 1) 0 (o + 1) 0 5) (o2 + 2) 0 (o + 2) 0 6) (o2 + 3) 0 (o + 3) 0 6) (o2 + 4) 0 (o + 4) 0 6) (o2 + 5) 0 (o + 5) 0 6) (o2 + 6) 0 (o + 6) 0 6) (o2 + 7) 0 (o + 7) 0 24) (o2 + 8) 0 (o + 8) 0 6) o2 10)) o2 11)) o2 12)) o 13 ((qup (qup (qup (qcp (qcp (qcp (qcp (qcp (qcp (qcp (qcp M (o2 + 1) 0 (o + 1) 0 5) (o2 + 2) 0 (o + 2) 0 6) (o2 + 3) 0 (o + 3) 0 6) (o2 + 4) 0 (o + 4) 0 6) (o2 + 5) 0 (o + 5) 0 6) (o2 + 6) 0 (o + 6) 0 6) (o2 + 7) 0 (o + 7) 0 24) (o2 + 8) 0 (o + 8) 0 6) o 10 ((qcp (qcp (qcp (qcp (qcp (qcp (qcp (qcp M (o2 + 1) 0 (o + 1) 0 5) (o2 + 2) 0 (o + 2) 0 6) (o2 + 3) 0 (o + 3) 0 6) (o2 + 4) 0 (o + 4) 0 6) (o2 + 5) 0 (o + 5) 0 6) (o2 + 6) 0 (o + 6) 0 6) (o2 + 7) 0 (o + 7) 0 24) (o2 + 8) 0 (o + 8) 0 6) o2 10)) o 11 ((qup (qcp (qcp (qcp (qcp (qcp (qcp (qcp (qcp M (o2 + 1) 0 (o + 1) 0 5) (o2 + 2) 0 (o + 2) 0 6) (o2 + 3) 0 (o + 3) 0 6) (o2 + 4) 0 (o + 4) 0 6) (o2 + 5) 0 (o + 5) 0 6) (o2 + 6) 0 (o + 6) 0 6) (o2 + 7) 0 (o + 7) 0 24) (o2 + 8) 0 (o + 8) 0 6) o 10 ((qcp (qcp (qcp (qcp (qcp (qcp (qcp (qcp M (o2 + 1) 0 (o + 1) 0 5) (o2 + 2) 0 (o + 2) 0 6) (o2 + 3) 0 (o + 3) 0 6) (o2 + 4) 0 (o + 4) 0 6) (o2 + 5) 0 (o + 5) 0 6) (o2 + 6) 0 (o + 6) 0 6) (o2 + 7) 0 (o + 7) 0 24) (o2 + 8) 0 (o + 8) 0 6) o2 10)) o2 11)) o 12 ((qup (qup (qcp (qcp (qcp (qcp (qcp (qcp (qcp (qcp M (o2 + 1) 0 (o + 1) 0 5) (o2 + 2) 0 (o + 2) 0 6) (o2 + 3) 0 (o + 3) 0 6) (o2 + 4) 0 (o + 4) 0 6) (o2 + 5) 0 (o + 5) 0 6) (o2 + 6) 0 (o + 6) 0 6) (o2 + 7) 0 (o + 7) 0 24) (o2 + 8) 0 (o + 8) 0 6) o 10 ((qcp (qcp (qcp (qcp (qcp (qcp (qcp (qcp M (o2 + 1) 0 (o + 1) 0 5) (o2 + 2) 0 (o + 2) 0 6) (o2 + 3) 0 (o + 3) 0 6) (o2 + 4) 0 (o + 4) 0 6) (o2 + 5) 0 (o + 5) 0 6) (o2 + 6) 0 (o + 6) 0 6) (o2 + 7) 0 (o + 7) 0 24) (o2 + 8) 0 (o + 8) 0 6) o2 10)) o 11 ((qup (qcp (qcp (qcp (qcp (qcp (qcp (qcp (qcp M (o2 + 1) 0 (o + 1) 0 5) (o2 + 2) 0 (o + 2) 0 6) (o2 + 3) 0 (o + 3) 0 6) (o2 + 4) 0 (o + 4) 0 6) (o2 + 5) 0 (o + 5) 0 6) (o2 + 6) 0 (o + 6) 0 6) (o2 + 7) 0 (o + 7) 0 24) (o2 + 8) 0 (o + 8) 0 6) o 10 ((qcp (qcp (qcp (qcp (qcp (qcp (qcp (qcp M (o2 + 1) 0 (o + 1) 0 5) (o2 + 2) 0 (o + 2) 0 6) (o2 + 3) 0 (o + 3) 0 6) (o2 + 4) 0 (o + 4) 0 6) (o2 + 5) 0 (o + 5) 0 6) (o2 + 6) 0 (o + 6) 0 6) (o2 + 7) 0 (o + 7) 0 24) (o2 + 8) 0 (o + 8) 0 6) o2 10)) o2 11)) o2 12)) o2 13))) := by
  refine Eq.trans (qlim_n (n := 1) (c' := (1, [some (qA o), some (qA o2)], [qA o2], qH0 M)) rfl) ?_
  refine Eq.trans (qs_getR (z := o2 + 1) rfl (qSt_ty h_o2) (by decide) (qSt_g2 h_o2)) ?_
  refine Eq.trans (qlim_n (n := 2) (c' := (6, [some (qA o), some (qA o2)], [qA o, qI 0, qA (o2 + 1)], qH0 M)) rfl) ?_
  refine Eq.trans (qs_getR (z := o + 1) rfl (qSt_ty h_o) (by decide) (qSt_g2 h_o)) ?_
  refine Eq.trans (qlim_n (n := 2) (c' := (11, [some (qA o), some (qA o2)], [qI 5, qI 0, qA (o + 1), qI 0, qA (o2 + 1)], qH0 M)) rfl) ?_
  refine Eq.trans (qs_copy rfl (qSt_t1 h_o2) (qSt_t1 h_o) (by decide) (by decide) (by decide) (by decide) (by decide) (by decide)) ?_
  refine Eq.trans (qlim_n (n := 1) (c' := (15, [some (qA o), some (qA o2)], [qA o2], qH0 (qcp M (o2 + 1) 0 (o + 1) 0 5))) rfl) ?_
  refine Eq.trans (qs_getR (z := o2 + 2) rfl (qSt_ty h_o2) (by decide) (qSt_g3 h_o2)) ?_
  refine Eq.trans (qlim_n (n := 2) (c' := (20, [some (qA o), some (qA o2)], [qA o, qI 0, qA (o2 + 2)], qH0 (qcp M (o2 + 1) 0 (o + 1) 0 5))) rfl) ?_
  refine Eq.trans (qs_getR (z := o + 2) rfl (qSt_ty h_o) (by decide) (qSt_g3 h_o)) ?_
  refine Eq.trans (qlim_n (n := 2) (c' := (26, [some (qA o), some (qA o2)], [qI 6, qI 0, qA (o + 2), qI 0, qA (o2 + 2)], qH0 (qcp M (o2 + 1) 0 (o + 1) 0 5))) rfl) ?_
  refine Eq.trans (qs_copy rfl (qSt_t2 h_o2) (qSt_t2 h_o) (by decide) (by decide) (by decide) (by decide) (by decide) (by decide)) ?_
  refine Eq.trans (qlim_n (n := 1) (c' := (30, [some (qA o), some (qA o2)], [qA o2], qH0 (qcp (qcp M (o2 + 1) 0 (o + 1) 0 5) (o2 + 2) 0 (o + 2) 0 6))) rfl) ?_
  refine Eq.trans (qs_getR (z := o2 + 3) rfl (qSt_ty h_o2) (by decide) (qSt_g4 h_o2)) ?_
  refine Eq.trans (qlim_n (n := 2) (c' := (35, [some (qA o), some (qA o2)], [qA o, qI 0, qA (o2 + 3)], qH0 (qcp (qcp M (o2 + 1) 0 (o + 1) 0 5) (o2 + 2) 0 (o + 2) 0 6))) rfl) ?_
  refine Eq.trans (qs_getR (z := o + 3) rfl (qSt_ty h_o) (by decide) (qSt_g4 h_o)) ?_
  refine Eq.trans (qlim_n (n := 2) (c' := (41, [some (qA o), some (qA o2)], [qI 6, qI 0, qA (o + 3), qI 0, qA (o2 + 3)], qH0 (qcp (qcp M (o2 + 1) 0 (o + 1) 0 5) (o2 + 2) 0 (o + 2) 0 6))) rfl) ?_
  refine Eq.trans (qs_copy rfl (qSt_t3 h_o2) (qSt_t3 h_o) (by decide) (by decide) (by decide) (by decide) (by decide) (by decide)) ?_
  refine Eq.trans (qlim_n (n := 1) (c' := (45, [some (qA o), some (qA o2)], [qA o2], qH0 (qcp (qcp (qcp M (o2 + 1) 0 (o + 1) 0 5) (o2 + 2) 0 (o + 2) 0 6) (o2 + 3) 0 (o + 3) 0 6))) rfl) ?_
  refine Eq.trans (qs_getR (z := o2 + 4) rfl (qSt_ty h_o2) (by decide) (qSt_g5 h_o2)) ?_
  refine Eq.trans (qlim_n (n := 2) (c' := (50, [some (qA o), some (qA o2)], [qA o, qI 0, qA (o2 + 4)], qH0 (qcp (qcp (qcp M (o2 + 1) 0 (o + 1) 0 5) (o2 + 2) 0 (o + 2) 0 6) (o2 + 3) 0 (o + 3) 0 6))) rfl) ?_
  refine Eq.trans (qs_getR (z := o + 4) rfl (qSt_ty h_o) (by decide) (qSt_g5 h_o)) ?_
  refine Eq.trans (qlim_n (n := 2) (c' := (56, [some (qA o), some (qA o2)], [qI 6, qI 0, qA (o + 4), qI 0, qA (o2 + 4)], qH0 (qcp (qcp (qcp M (o2 + 1) 0 (o + 1) 0 5) (o2 + 2) 0 (o + 2) 0 6) (o2 + 3) 0 (o + 3) 0 6))) rfl) ?_
  refine Eq.trans (qs_copy rfl (qSt_t4 h_o2) (qSt_t4 h_o) (by decide) (by decide) (by decide) (by decide) (by decide) (by decide)) ?_
  refine Eq.trans (qlim_n (n := 1) (c' := (60, [some (qA o), some (qA o2)], [qA o2], qH0 (qcp (qcp (qcp (qcp M (o2 + 1) 0 (o + 1) 0 5) (o2 + 2) 0 (o + 2) 0 6) (o2 + 3) 0 (o + 3) 0 6) (o2 + 4) 0 (o + 4) 0 6))) rfl) ?_
  refine Eq.trans (qs_getR (z := o2 + 5) rfl (qSt_ty h_o2) (by decide) (qSt_g6 h_o2)) ?_
  refine Eq.trans (qlim_n (n := 2) (c' := (65, [some (qA o), some (qA o2)], [qA o, qI 0, qA (o2 + 5)], qH0 (qcp (qcp (qcp (qcp M (o2 + 1) 0 (o + 1) 0 5) (o2 + 2) 0 (o + 2) 0 6) (o2 + 3) 0 (o + 3) 0 6) (o2 + 4) 0 (o + 4) 0 6))) rfl) ?_
  refine Eq.trans (qs_getR (z := o + 5) rfl (qSt_ty h_o) (by decide) (qSt_g6 h_o)) ?_
  refine Eq.trans (qlim_n (n := 2) (c' := (71, [some (qA o), some (qA o2)], [qI 6, qI 0, qA (o + 5), qI 0, qA (o2 + 5)], qH0 (qcp (qcp (qcp (qcp M (o2 + 1) 0 (o + 1) 0 5) (o2 + 2) 0 (o + 2) 0 6) (o2 + 3) 0 (o + 3) 0 6) (o2 + 4) 0 (o + 4) 0 6))) rfl) ?_
  refine Eq.trans (qs_copy rfl (qSt_t5 h_o2) (qSt_t5 h_o) (by decide) (by decide) (by decide) (by decide) (by decide) (by decide)) ?_
  refine Eq.trans (qlim_n (n := 1) (c' := (75, [some (qA o), some (qA o2)], [qA o2], qH0 (qcp (qcp (qcp (qcp (qcp M (o2 + 1) 0 (o + 1) 0 5) (o2 + 2) 0 (o + 2) 0 6) (o2 + 3) 0 (o + 3) 0 6) (o2 + 4) 0 (o + 4) 0 6) (o2 + 5) 0 (o + 5) 0 6))) rfl) ?_
  refine Eq.trans (qs_getR (z := o2 + 6) rfl (qSt_ty h_o2) (by decide) (qSt_g7 h_o2)) ?_
  refine Eq.trans (qlim_n (n := 2) (c' := (80, [some (qA o), some (qA o2)], [qA o, qI 0, qA (o2 + 6)], qH0 (qcp (qcp (qcp (qcp (qcp M (o2 + 1) 0 (o + 1) 0 5) (o2 + 2) 0 (o + 2) 0 6) (o2 + 3) 0 (o + 3) 0 6) (o2 + 4) 0 (o + 4) 0 6) (o2 + 5) 0 (o + 5) 0 6))) rfl) ?_
  refine Eq.trans (qs_getR (z := o + 6) rfl (qSt_ty h_o) (by decide) (qSt_g7 h_o)) ?_
  refine Eq.trans (qlim_n (n := 2) (c' := (86, [some (qA o), some (qA o2)], [qI 6, qI 0, qA (o + 6), qI 0, qA (o2 + 6)], qH0 (qcp (qcp (qcp (qcp (qcp M (o2 + 1) 0 (o + 1) 0 5) (o2 + 2) 0 (o + 2) 0 6) (o2 + 3) 0 (o + 3) 0 6) (o2 + 4) 0 (o + 4) 0 6) (o2 + 5) 0 (o + 5) 0 6))) rfl) ?_
  refine Eq.trans (qs_copy rfl (qSt_t6 h_o2) (qSt_t6 h_o) (by decide) (by decide) (by decide) (by decide) (by decide) (by decide)) ?_
  refine Eq.trans (qlim_n (n := 1) (c' := (90, [some (qA o), some (qA o2)], [qA o2], qH0 (qcp (qcp (qcp (qcp (qcp (qcp M (o2 + 1) 0 (o + 1) 0 5) (o2 + 2) 0 (o + 2) 0 6) (o2 + 3) 0 (o + 3) 0 6) (o2 + 4) 0 (o + 4) 0 6) (o2 + 5) 0 (o + 5) 0 6) (o2 + 6) 0 (o + 6) 0 6))) rfl) ?_
  refine Eq.trans (qs_getR (z := o2 + 7) rfl (qSt_ty h_o2) (by decide) (qSt_g8 h_o2)) ?_
  refine Eq.trans (qlim_n (n := 2) (c' := (95, [some (qA o), some (qA o2)], [qA o, qI 0, qA (o2 + 7)], qH0 (qcp (qcp (qcp (qcp (qcp (qcp M (o2 + 1) 0 (o + 1) 0 5) (o2 + 2) 0 (o + 2) 0 6) (o2 + 3) 0 (o + 3) 0 6) (o2 + 4) 0 (o + 4) 0 6) (o2 + 5) 0 (o + 5) 0 6) (o2 + 6) 0 (o + 6) 0 6))) rfl) ?_
  refine Eq.trans (qs_getR (z := o + 7) rfl (qSt_ty h_o) (by decide) (qSt_g8 h_o)) ?_
  refine Eq.trans (qlim_n (n := 2) (c' := (101, [some (qA o), some (qA o2)], [qI 24, qI 0, qA (o + 7), qI 0, qA (o2 + 7)], qH0 (qcp (qcp (qcp (qcp (qcp (qcp M (o2 + 1) 0 (o + 1) 0 5) (o2 + 2) 0 (o + 2) 0 6) (o2 + 3) 0 (o + 3) 0 6) (o2 + 4) 0 (o + 4) 0 6) (o2 + 5) 0 (o + 5) 0 6) (o2 + 6) 0 (o + 6) 0 6))) rfl) ?_
  refine Eq.trans (qs_copy rfl (qSt_t7 h_o2) (qSt_t7 h_o) (by decide) (by decide) (by decide) (by decide) (by decide) (by decide)) ?_
  refine Eq.trans (qlim_n (n := 1) (c' := (105, [some (qA o), some (qA o2)], [qA o2], qH0 (qcp (qcp (qcp (qcp (qcp (qcp (qcp M (o2 + 1) 0 (o + 1) 0 5) (o2 + 2) 0 (o + 2) 0 6) (o2 + 3) 0 (o + 3) 0 6) (o2 + 4) 0 (o + 4) 0 6) (o2 + 5) 0 (o + 5) 0 6) (o2 + 6) 0 (o + 6) 0 6) (o2 + 7) 0 (o + 7) 0 24))) rfl) ?_
  refine Eq.trans (qs_getR (z := o2 + 8) rfl (qSt_ty h_o2) (by decide) (qSt_g9 h_o2)) ?_
  refine Eq.trans (qlim_n (n := 2) (c' := (110, [some (qA o), some (qA o2)], [qA o, qI 0, qA (o2 + 8)], qH0 (qcp (qcp (qcp (qcp (qcp (qcp (qcp M (o2 + 1) 0 (o + 1) 0 5) (o2 + 2) 0 (o + 2) 0 6) (o2 + 3) 0 (o + 3) 0 6) (o2 + 4) 0 (o + 4) 0 6) (o2 + 5) 0 (o + 5) 0 6) (o2 + 6) 0 (o + 6) 0 6) (o2 + 7) 0 (o + 7) 0 24))) rfl) ?_
  refine Eq.trans (qs_getR (z := o + 8) rfl (qSt_ty h_o) (by decide) (qSt_g9 h_o)) ?_
  refine Eq.trans (qlim_n (n := 2) (c' := (116, [some (qA o), some (qA o2)], [qI 6, qI 0, qA (o + 8), qI 0, qA (o2 + 8)], qH0 (qcp (qcp (qcp (qcp (qcp (qcp (qcp M (o2 + 1) 0 (o + 1) 0 5) (o2 + 2) 0 (o + 2) 0 6) (o2 + 3) 0 (o + 3) 0 6) (o2 + 4) 0 (o + 4) 0 6) (o2 + 5) 0 (o + 5) 0 6) (o2 + 6) 0 (o + 6) 0 6) (o2 + 7) 0 (o + 7) 0 24))) rfl) ?_
  refine Eq.trans (qs_copy rfl (qSt_t8 h_o2) (qSt_t8 h_o) (by decide) (by decide) (by decide) (by decide) (by decide) (by decide)) ?_
  refine Eq.trans (qlim_n (n := 2) (c' := (121, [some (qA o), some (qA o2)], [qA o2, qA o], qH0 (qcp (qcp (qcp (qcp (qcp (qcp (qcp (qcp M (o2 + 1) 0 (o + 1) 0 5) (o2 + 2) 0 (o + 2) 0 6) (o2 + 3) 0 (o + 3) 0 6) (o2 + 4) 0 (o + 4) 0 6) (o2 + 5) 0 (o + 5) 0 6) (o2 + 6) 0 (o + 6) 0 6) (o2 + 7) 0 (o + 7) 0 24) (o2 + 8) 0 (o + 8) 0 6))) rfl) ?_
  refine Eq.trans (qs_getI rfl (qSt_ty h_o2) (by decide)) ?_
  refine Eq.trans (qs_putI rfl (qSt_ty h_o) (by decide)) ?_
  refine Eq.trans (qlim_n (n := 2) (c' := (129, [some (qA o), some (qA o2)], [qA o2, qA o], qH0 (qup (qcp (qcp (qcp (qcp (qcp (qcp (qcp (qcp M (o2 + 1) 0 (o + 1) 0 5) (o2 + 2) 0 (o + 2) 0 6) (o2 + 3) 0 (o + 3) 0 6) (o2 + 4) 0 (o + 4) 0 6) (o2 + 5) 0 (o + 5) 0 6) (o2 + 6) 0 (o + 6) 0 6) (o2 + 7) 0 (o + 7) 0 24) (o2 + 8) 0 (o + 8) 0 6) o 10 ((qcp (qcp (qcp (qcp (qcp (qcp (qcp (qcp M (o2 + 1) 0 (o + 1) 0 5) (o2 + 2) 0 (o + 2) 0 6) (o2 + 3) 0 (o + 3) 0 6) (o2 + 4) 0 (o + 4) 0 6) (o2 + 5) 0 (o + 5) 0 6) (o2 + 6) 0 (o + 6) 0 6) (o2 + 7) 0 (o + 7) 0 24) (o2 + 8) 0 (o + 8) 0 6) o2 10)))) rfl) ?_
  refine Eq.trans (qs_getI rfl (qSt_ty h_o2) (by decide)) ?_
  refine Eq.trans (qs_putI rfl (qSt_ty h_o) (by decide)) ?_
  refine Eq.trans (qlim_n (n := 2) (c' := (137, [some (qA o), some (qA o2)], [qA o2, qA o], qH0 (qup (qup (qcp (qcp (qcp (qcp (qcp (qcp (qcp (qcp M (o2 + 1) 0 (o + 1) 0 5) (o2 + 2) 0 (o + 2) 0 6) (o2 + 3) 0 (o + 3) 0 6) (o2 + 4) 0 (o + 4) 0 6) (o2 + 5) 0 (o + 5) 0 6) (o2 + 6) 0 (o + 6) 0 6) (o2 + 7) 0 (o + 7) 0 24) (o2 + 8) 0 (o + 8) 0 6) o 10 ((qcp (qcp (qcp (qcp (qcp (qcp (qcp (qcp M (o2 + 1) 0 (o + 1) 0 5) (o2 + 2) 0 (o + 2) 0 6) (o2 + 3) 0 (o + 3) 0 6) (o2 + 4) 0 (o + 4) 0 6) (o2 + 5) 0 (o + 5) 0 6) (o2 + 6) 0 (o + 6) 0 6) (o2 + 7) 0 (o + 7) 0 24) (o2 + 8) 0 (o + 8) 0 6) o2 10)) o 11 ((qup (qcp (qcp (qcp (qcp (qcp (qcp (qcp (qcp M (o2 + 1) 0 (o + 1) 0 5) (o2 + 2) 0 (o + 2) 0 6) (o2 + 3) 0 (o + 3) 0 6) (o2 + 4) 0 (o + 4) 0 6) (o2 + 5) 0 (o + 5) 0 6) (o2 + 6) 0 (o + 6) 0 6) (o2 + 7) 0 (o + 7) 0 24) (o2 + 8) 0 (o + 8) 0 6) o 10 ((qcp (qcp (qcp (qcp (qcp (qcp (qcp (qcp M (o2 + 1) 0 (o + 1) 0 5) (o2 + 2) 0 (o + 2) 0 6) (o2 + 3) 0 (o + 3) 0 6) (o2 + 4) 0 (o + 4) 0 6) (o2 + 5) 0 (o + 5) 0 6) (o2 + 6) 0 (o + 6) 0 6) (o2 + 7) 0 (o + 7) 0 24) (o2 + 8) 0 (o + 8) 0 6) o2 10)) o2 11)))) rfl) ?_
  refine Eq.trans (qs_getI rfl (qSt_ty h_o2) (by decide)) ?_
  refine Eq.trans (qs_putI rfl (qSt_ty h_o) (by decide)) ?_
  refine Eq.trans (qlim_n (n := 2) (c' := (145, [some (qA o), some (qA o2)], [qA o2, qA o], qH0 (qup (qup (qup (qcp (qcp (qcp (qcp (qcp (qcp (qcp (qcp M (o2 + 1) 0 (o + 1) 0 5) (o2 + 2) 0 (o + 2) 0 6) (o2 + 3) 0 (o + 3) 0 6) (o2 + 4) 0 (o + 4) 0 6) (o2 + 5) 0 (o + 5) 0 6) (o2 + 6) 0 (o + 6) 0 6) (o2 + 7) 0 (o + 7) 0 24) (o2 + 8) 0 (o + 8) 0 6) o 10 ((qcp (qcp (qcp (qcp (qcp (qcp (qcp (qcp M (o2 + 1) 0 (o + 1) 0 5) (o2 + 2) 0 (o + 2) 0 6) (o2 + 3) 0 (o + 3) 0 6) (o2 + 4) 0 (o + 4) 0 6) (o2 + 5) 0 (o + 5) 0 6) (o2 + 6) 0 (o + 6) 0 6) (o2 + 7) 0 (o + 7) 0 24) (o2 + 8) 0 (o + 8) 0 6) o2 10)) o 11 ((qup (qcp (qcp (qcp (qcp (qcp (qcp (qcp (qcp M (o2 + 1) 0 (o + 1) 0 5) (o2 + 2) 0 (o + 2) 0 6) (o2 + 3) 0 (o + 3) 0 6) (o2 + 4) 0 (o + 4) 0 6) (o2 + 5) 0 (o + 5) 0 6) (o2 + 6) 0 (o + 6) 0 6) (o2 + 7) 0 (o + 7) 0 24) (o2 + 8) 0 (o + 8) 0 6) o 10 ((qcp (qcp (qcp (qcp (qcp (qcp (qcp (qcp M (o2 + 1) 0 (o + 1) 0 5) (o2 + 2) 0 (o + 2) 0 6) (o2 + 3) 0 (o + 3) 0 6) (o2 + 4) 0 (o + 4) 0 6) (o2 + 5) 0 (o + 5) 0 6) (o2 + 6) 0 (o + 6) 0 6) (o2 + 7) 0 (o + 7) 0 24) (o2 + 8) 0 (o + 8) 0 6) o2 10)) o2 11)) o 12 ((qup (qup (qcp (qcp (qcp (qcp (qcp (qcp (qcp (qcp M (o2 + 1) 0 (o + 1) 0 5) (o2 + 2) 0 (o + 2) 0 6) (o2 + 3) 0 (o + 3) 0 6) (o2 + 4) 0 (o + 4) 0 6) (o2 + 5) 0 (o + 5) 0 6) (o2 + 6) 0 (o + 6) 0 6) (o2 + 7) 0 (o + 7) 0 24) (o2 + 8) 0 (o + 8) 0 6) o 10 ((qcp (qcp (qcp (qcp (qcp (qcp (qcp (qcp M (o2 + 1) 0 (o + 1) 0 5) (o2 + 2) 0 (o + 2) 0 6) (o2 + 3) 0 (o + 3) 0 6) (o2 + 4) 0 (o + 4) 0 6) (o2 + 5) 0 (o + 5) 0 6) (o2 + 6) 0 (o + 6) 0 6) (o2 + 7) 0 (o + 7) 0 24) (o2 + 8) 0 (o + 8) 0 6) o2 10)) o 11 ((qup (qcp (qcp (qcp (qcp (qcp (qcp (qcp (qcp M (o2 + 1) 0 (o + 1) 0 5) (o2 + 2) 0 (o + 2) 0 6) (o2 + 3) 0 (o + 3) 0 6) (o2 + 4) 0 (o + 4) 0 6) (o2 + 5) 0 (o + 5) 0 6) (o2 + 6) 0 (o + 6) 0 6) (o2 + 7) 0 (o + 7) 0 24) (o2 + 8) 0 (o + 8) 0 6) o 10 ((qcp (qcp (qcp (qcp (qcp (qcp (qcp (qcp M (o2 + 1) 0 (o + 1) 0 5) (o2 + 2) 0 (o + 2) 0 6) (o2 + 3) 0 (o + 3) 0 6) (o2 + 4) 0 (o + 4) 0 6) (o2 + 5) 0 (o + 5) 0 6) (o2 + 6) 0 (o + 6) 0 6) (o2 + 7) 0 (o + 7) 0 24) (o2 + 8) 0 (o + 8) 0 6) o2 10)) o2 11)) o2 12)))) rfl) ?_
  refine Eq.trans (qs_getD rfl (qSt_ty h_o2) (by decide)) ?_
  refine Eq.trans (qs_putD rfl (qSt_ty h_o) (by decide) h1) ?_
  exact (qlim_ret rfl)
theorem E_X8_becomes {h : qH} {o o2 : Int} : S_X8_becomes [qA o, qA o2] h = qlim C_X8_becomes (0, [some (qA o), some (qA o2)], [], h) := qM_at (Nat.le_of_ble_eq_true rfl) rfl
set_option maxRecDepth 20000 in
theorem B_X8_comes_0 {M : qMem} {o x1 x2 x3 : Int} (h_o : qSt o) (h1 : 0 ≤ M o 10) (h2 : M o 10 < 6) : qlim C_X8_comes (0, [some (qA o), some (qI x1), some (qI x2), some (qI x3), none], [], qH0 M) = some (some (qI (M o 10)), qH0 (qup (qup (qup (qup M (o + 2) (M o 10) x1) (o + 3) (M o 10) x2) (o + 4) (M o 10) x3) o 10 (kadd ((qup (qup (qup M (o + 2) (M o 10) x1) (o + 3) (M o 10) x2) (o + 4) (M o 10) x3) o 10) 1))) := by
  refine Eq.trans (qlim_n (n := 1) (c' := (1, [some (qA o), some (qI x1), some (qI x2), some (qI x3), none], [qA o], qH0 M)) rfl) ?_
  refine Eq.trans (qs_getI rfl (qSt_ty h_o) (by decide)) ?_
  refine Eq.trans (qlim_n (n := 2) (c' := (7, [some (qA o), some (qI x1), some (qI x2), some (qI x3), some (qI (M o 10))], [qA o], qH0 M)) rfl) ?_
  refine Eq.trans (qs_getR (z := o + 2) rfl (qSt_ty h_o) (by decide) (qSt_g3 h_o)) ?_
  refine Eq.trans (qlim_n (n := 2) (c' := (13, [some (qA o), some (qI x1), some (qI x2), some (qI x3), some (qI (M o 10))], [qI x1, qI (M o 10), qA (o + 2)], qH0 M)) rfl) ?_
  refine Eq.trans (qs_iastore rfl (qSt_t2 h_o) h1 h2) ?_
  refine Eq.trans (qlim_n (n := 1) (c' := (15, [some (qA o), some (qI x1), some (qI x2), some (qI x3), some (qI (M o 10))], [qA o], qH0 (qup M (o + 2) (M o 10) x1))) rfl) ?_
  refine Eq.trans (qs_getR (z := o + 3) rfl (qSt_ty h_o) (by decide) (qSt_g4 h_o)) ?_
  refine Eq.trans (qlim_n (n := 2) (c' := (21, [some (qA o), some (qI x1), some (qI x2), some (qI x3), some (qI (M o 10))], [qI x2, qI (M o 10), qA (o + 3)], qH0 (qup M (o + 2) (M o 10) x1))) rfl) ?_
  refine Eq.trans (qs_iastore rfl (qSt_t3 h_o) h1 h2) ?_
  refine Eq.trans (qlim_n (n := 1) (c' := (23, [some (qA o), some (qI x1), some (qI x2), some (qI x3), some (qI (M o 10))], [qA o], qH0 (qup (qup M (o + 2) (M o 10) x1) (o + 3) (M o 10) x2))) rfl) ?_
  refine Eq.trans (qs_getR (z := o + 4) rfl (qSt_ty h_o) (by decide) (qSt_g5 h_o)) ?_
  refine Eq.trans (qlim_n (n := 2) (c' := (29, [some (qA o), some (qI x1), some (qI x2), some (qI x3), some (qI (M o 10))], [qI x3, qI (M o 10), qA (o + 4)], qH0 (qup (qup M (o + 2) (M o 10) x1) (o + 3) (M o 10) x2))) rfl) ?_
  refine Eq.trans (qs_iastore rfl (qSt_t4 h_o) h1 h2) ?_
  refine Eq.trans (qlim_n (n := 2) (c' := (32, [some (qA o), some (qI x1), some (qI x2), some (qI x3), some (qI (M o 10))], [qA o, qA o], qH0 (qup (qup (qup M (o + 2) (M o 10) x1) (o + 3) (M o 10) x2) (o + 4) (M o 10) x3))) rfl) ?_
  refine Eq.trans (qs_getI rfl (qSt_ty h_o) (by decide)) ?_
  refine Eq.trans (qlim_n (n := 2) (c' := (37, [some (qA o), some (qI x1), some (qI x2), some (qI x3), some (qI (M o 10))], [qI (kadd ((qup (qup (qup M (o + 2) (M o 10) x1) (o + 3) (M o 10) x2) (o + 4) (M o 10) x3) o 10) 1), qA o], qH0 (qup (qup (qup M (o + 2) (M o 10) x1) (o + 3) (M o 10) x2) (o + 4) (M o 10) x3))) rfl) ?_
  refine Eq.trans (qs_putI rfl (qSt_ty h_o) (by decide)) ?_
  refine Eq.trans (qlim_n (n := 1) (c' := (42, [some (qA o), some (qI x1), some (qI x2), some (qI x3), some (qI (M o 10))], [qI (M o 10)], qH0 (qup (qup (qup (qup M (o + 2) (M o 10) x1) (o + 3) (M o 10) x2) (o + 4) (M o 10) x3) o 10 (kadd ((qup (qup (qup M (o + 2) (M o 10) x1) (o + 3) (M o 10) x2) (o + 4) (M o 10) x3) o 10) 1)))) rfl) ?_
  exact (qlim_ret rfl)
theorem E_X8_comes {h : qH} {o x1 x2 x3 : Int} : S_X8_comes [qA o, qI x1, qI x2, qI x3] h = qlim C_X8_comes (0, [some (qA o), some (qI x1), some (qI x2), some (qI x3), none], [], h) := qM_at (Nat.le_of_ble_eq_true rfl) rfl
set_option maxRecDepth 20000 in
theorem B_X8_holds_0 {M : qMem} {o g : Int} (h_o : qSt o) (h_g : qHl g) (h1 : 0 ≤ g) : qlim C_X8_holds (0, [some (qA o), some (qA g)], [], qH0 M) = some (none, qH0 (qup (qup M o 13 g) o 12 ((qup M o 13 g) g 4))) := by
  refine Eq.trans (qlim_n (n := 2) (c' := (2, [some (qA o), some (qA g)], [qA g, qA o], qH0 M)) rfl) ?_
  refine Eq.trans (qs_putD rfl (qSt_ty h_o) (by decide) h1) ?_
  refine Eq.trans (qlim_n (n := 2) (c' := (7, [some (qA o), some (qA g)], [qA g, qA o], qH0 (qup M o 13 g))) rfl) ?_
  refine Eq.trans (qs_getI rfl (qHl_ty h_g) (by decide)) ?_
  refine Eq.trans (qs_putI rfl (qSt_ty h_o) (by decide)) ?_
  exact (qlim_ret rfl)
theorem E_X8_holds {h : qH} {o g : Int} : S_X8_holds [qA o, qA g] h = qlim C_X8_holds (0, [some (qA o), some (qA g)], [], h) := qM_at (Nat.le_of_ble_eq_true rfl) rfl
set_option maxRecDepth 20000 in
theorem B_X8_minutesGo_0 {M : qMem} {o x1 : Int} (h_o : qSt o) : qlim C_X8_minutesGo (0, [some (qA o), some (qI x1), none, none], [], qH0 M) = qlim C_X8_minutesGo (2, [some (qA o), some (qI x1), some (qI 0), none], [], qH0 M) := (qlim_n (n := 2) (c' := (2, [some (qA o), some (qI x1), some (qI 0), none], [], qH0 M)) rfl)
set_option maxRecDepth 20000 in
theorem B_X8_minutesGo_2 {M : qMem} {o x1 x2 : Int} {x3 : Option qV} (h_o : qSt o) : qlim C_X8_minutesGo (2, [some (qA o), some (qI x1), some (qI x2), x3], [], qH0 M) = qlim C_X8_minutesGo ((if x1 ≤ x2 then 79 else 7), [some (qA o), some (qI x1), some (qI x2), x3], [], qH0 M) := (qlim_n (n := 3) (c' := ((if x1 ≤ x2 then 79 else 7), [some (qA o), some (qI x1), some (qI x2), x3], [], qH0 M)) rfl)
set_option maxRecDepth 20000 in
theorem B_X8_minutesGo_7 {M : qMem} {o x1 x2 : Int} {x3 : Option qV} (h_o : qSt o) : qlim C_X8_minutesGo (7, [some (qA o), some (qI x1), some (qI x2), x3], [], qH0 M) = qlim C_X8_minutesGo (9, [some (qA o), some (qI x1), some (qI x2), some (qI 0)], [], qH0 M) := (qlim_n (n := 2) (c' := (9, [some (qA o), some (qI x1), some (qI x2), some (qI 0)], [], qH0 M)) rfl)
set_option maxRecDepth 20000 in
theorem B_X8_minutesGo_9 {M : qMem} {o x1 x2 x3 : Int} (h_o : qSt o) : qlim C_X8_minutesGo (9, [some (qA o), some (qI x1), some (qI x2), some (qI x3)], [], qH0 M) = qlim C_X8_minutesGo ((if M o 10 ≤ x3 then 37 else 17), [some (qA o), some (qI x1), some (qI x2), some (qI x3)], [], qH0 M) := by
  refine Eq.trans (qlim_n (n := 2) (c' := (11, [some (qA o), some (qI x1), some (qI x2), some (qI x3)], [qA o, qI x3], qH0 M)) rfl) ?_
  refine Eq.trans (qs_getI rfl (qSt_ty h_o) (by decide)) ?_
  exact (qlim_n (n := 1) (c' := ((if M o 10 ≤ x3 then 37 else 17), [some (qA o), some (qI x1), some (qI x2), some (qI x3)], [], qH0 M)) rfl)
set_option maxRecDepth 20000 in
theorem B_X8_minutesGo_17 {M : qMem} {o x1 x2 x3 : Int} (h_o : qSt o) (h1 : 0 ≤ x3) (h2 : x3 < 6) : qlim C_X8_minutesGo (17, [some (qA o), some (qI x1), some (qI x2), some (qI x3)], [], qH0 M) = qlim C_X8_minutesGo ((if ¬ M (o + 8) x3 = 0 then 31 else 26), [some (qA o), some (qI x1), some (qI x2), some (qI x3)], [], qH0 M) := by
  refine Eq.trans (qlim_n (n := 1) (c' := (18, [some (qA o), some (qI x1), some (qI x2), some (qI x3)], [qA o], qH0 M)) rfl) ?_
  refine Eq.trans (qs_getR (z := o + 8) rfl (qSt_ty h_o) (by decide) (qSt_g9 h_o)) ?_
  refine Eq.trans (qlim_n (n := 1) (c' := (22, [some (qA o), some (qI x1), some (qI x2), some (qI x3)], [qI x3, qA (o + 8)], qH0 M)) rfl) ?_
  refine Eq.trans (qs_zaload rfl (qSt_t8 h_o) h1 h2) ?_
  exact (qlim_n (n := 1) (c' := ((if ¬ M (o + 8) x3 = 0 then 31 else 26), [some (qA o), some (qI x1), some (qI x2), some (qI x3)], [], qH0 M)) rfl)
set_option maxRecDepth 20000 in
theorem B_X8_minutesGo_26 {M : qMem} {o x1 x2 x3 : Int} (h_o : qSt o) : qlim C_X8_minutesGo (26, [some (qA o), some (qI x1), some (qI x2), some (qI x3)], [], qH0 M) = qbd (S_X8_works [qA o, qI x3] (qH0 M)) (fun r h' => qlim C_X8_minutesGo (31, [some (qA o), some (qI x1), some (qI x2), some (qI x3)], r.toList ++ [], h')) := by
  refine Eq.trans (qlim_n (n := 2) (c' := (28, [some (qA o), some (qI x1), some (qI x2), some (qI x3)], [qI x3, qA o], qH0 M)) rfl) ?_
  exact (qlim_callv (n := 1) rfl rfl rfl (Nat.le_of_ble_eq_true rfl) (Nat.le_of_ble_eq_true rfl) (by rw [(qSt_ty h_o)]; rfl))
set_option maxRecDepth 20000 in
theorem B_X8_minutesGo_31 {M : qMem} {o x1 x2 x3 : Int} (h_o : qSt o) : qlim C_X8_minutesGo (31, [some (qA o), some (qI x1), some (qI x2), some (qI x3)], [], qH0 M) = qlim C_X8_minutesGo (9, [some (qA o), some (qI x1), some (qI x2), some (qI (kadd x3 1))], [], qH0 M) := (qlim_n (n := 2) (c' := (9, [some (qA o), some (qI x1), some (qI x2), some (qI (kadd x3 1))], [], qH0 M)) rfl)
set_option maxRecDepth 20000 in
theorem B_X8_minutesGo_37 {M : qMem} {o x1 x2 x3 : Int} (h_o : qSt o) (h1 : qty (qH0 M) (M o 13) = (3, 7)) : qlim C_X8_minutesGo (37, [some (qA o), some (qI x1), some (qI x2), some (qI x3)], [], qH0 M) = qlim C_X8_minutesGo (2, [some (qA o), some (qI x1), some (qI (kadd x2 1)), some (qI x3)], [], qH0 (qup (qup M (o + 1) 0 (min (kadd (M (o + 1) 0) (M (M o 13) 5)) 9999)) o 11 (kadd ((qup M (o + 1) 0 (min (kadd (M (o + 1) 0) (M (M o 13) 5)) 9999)) o 11) 1))) := by
  refine Eq.trans (qlim_n (n := 1) (c' := (38, [some (qA o), some (qI x1), some (qI x2), some (qI x3)], [qA o], qH0 M)) rfl) ?_
  refine Eq.trans (qs_getR (z := o + 1) rfl (qSt_ty h_o) (by decide) (qSt_g2 h_o)) ?_
  refine Eq.trans (qlim_n (n := 2) (c' := (43, [some (qA o), some (qI x1), some (qI x2), some (qI x3)], [qA o, qI 0, qA (o + 1)], qH0 M)) rfl) ?_
  refine Eq.trans (qs_getR (z := o + 1) rfl (qSt_ty h_o) (by decide) (qSt_g2 h_o)) ?_
  refine Eq.trans (qlim_n (n := 1) (c' := (47, [some (qA o), some (qI x1), some (qI x2), some (qI x3)], [qI 0, qA (o + 1), qI 0, qA (o + 1)], qH0 M)) rfl) ?_
  refine Eq.trans (qs_iaload rfl (qSt_t1 h_o) (by decide) (by decide)) ?_
  refine Eq.trans (qlim_n (n := 1) (c' := (49, [some (qA o), some (qI x1), some (qI x2), some (qI x3)], [qA o, qI (M (o + 1) 0), qI 0, qA (o + 1)], qH0 M)) rfl) ?_
  refine Eq.trans (qs_getD rfl (qSt_ty h_o) (by decide)) ?_
  refine Eq.trans (qs_getI rfl h1 (by decide)) ?_
  refine Eq.trans (qlim_n (n := 3) (c' := (62, [some (qA o), some (qI x1), some (qI x2), some (qI x3)], [qI (min (kadd (M (o + 1) 0) (M (M o 13) 5)) 9999), qI 0, qA (o + 1)], qH0 M)) rfl) ?_
  refine Eq.trans (qs_iastore rfl (qSt_t1 h_o) (by decide) (by decide)) ?_
  refine Eq.trans (qlim_n (n := 2) (c' := (65, [some (qA o), some (qI x1), some (qI x2), some (qI x3)], [qA o, qA o], qH0 (qup M (o + 1) 0 (min (kadd (M (o + 1) 0) (M (M o 13) 5)) 9999)))) rfl) ?_
  refine Eq.trans (qs_getI rfl (qSt_ty h_o) (by decide)) ?_
  refine Eq.trans (qlim_n (n := 2) (c' := (70, [some (qA o), some (qI x1), some (qI x2), some (qI x3)], [qI (kadd ((qup M (o + 1) 0 (min (kadd (M (o + 1) 0) (M (M o 13) 5)) 9999)) o 11) 1), qA o], qH0 (qup M (o + 1) 0 (min (kadd (M (o + 1) 0) (M (M o 13) 5)) 9999)))) rfl) ?_
  refine Eq.trans (qs_putI rfl (qSt_ty h_o) (by decide)) ?_
  exact (qlim_n (n := 2) (c' := (2, [some (qA o), some (qI x1), some (qI (kadd x2 1)), some (qI x3)], [], qH0 (qup (qup M (o + 1) 0 (min (kadd (M (o + 1) 0) (M (M o 13) 5)) 9999)) o 11 (kadd ((qup M (o + 1) 0 (min (kadd (M (o + 1) 0) (M (M o 13) 5)) 9999)) o 11) 1)))) rfl)
set_option maxRecDepth 20000 in
theorem B_X8_minutesGo_79 {M : qMem} {o x1 x2 : Int} {x3 : Option qV} (h_o : qSt o) : qlim C_X8_minutesGo (79, [some (qA o), some (qI x1), some (qI x2), x3], [], qH0 M) = some (some (qI (M (o + 1) 4)), qH0 M) := by
  refine Eq.trans (qlim_n (n := 1) (c' := (80, [some (qA o), some (qI x1), some (qI x2), x3], [qA o], qH0 M)) rfl) ?_
  refine Eq.trans (qs_getR (z := o + 1) rfl (qSt_ty h_o) (by decide) (qSt_g2 h_o)) ?_
  refine Eq.trans (qlim_n (n := 1) (c' := (84, [some (qA o), some (qI x1), some (qI x2), x3], [qI 4, qA (o + 1)], qH0 M)) rfl) ?_
  refine Eq.trans (qs_iaload rfl (qSt_t1 h_o) (by decide) (by decide)) ?_
  exact (qlim_ret rfl)
theorem E_X8_minutesGo {h : qH} {o x1 : Int} : S_X8_minutesGo [qA o, qI x1] h = qlim C_X8_minutesGo (0, [some (qA o), some (qI x1), none, none], [], h) := qM_at (Nat.le_of_ble_eq_true rfl) rfl
set_option maxRecDepth 20000 in
theorem B_X8_works_0 {M : qMem} {o x1 : Int} (h_o : qSt o) (h1 : 0 ≤ x1) (h2 : x1 < 6) : qlim C_X8_works (0, [some (qA o), some (qI x1), none, none, none, none], [], qH0 M) = qlim C_X8_works ((if ¬ kadd (M (o + 4) x1) 1 = 4 then 22 else 16), [some (qA o), some (qI x1), some (qI (M (o + 4) x1)), some (qI (kadd (M (o + 4) x1) 1)), none, none], [], qH0 M) := by
  refine Eq.trans (qlim_n (n := 1) (c' := (1, [some (qA o), some (qI x1), none, none, none, none], [qA o], qH0 M)) rfl) ?_
  refine Eq.trans (qs_getR (z := o + 4) rfl (qSt_ty h_o) (by decide) (qSt_g5 h_o)) ?_
  refine Eq.trans (qlim_n (n := 1) (c' := (5, [some (qA o), some (qI x1), none, none, none, none], [qI x1, qA (o + 4)], qH0 M)) rfl) ?_
  refine Eq.trans (qs_iaload rfl (qSt_t4 h_o) h1 h2) ?_
  exact (qlim_n (n := 8) (c' := ((if ¬ kadd (M (o + 4) x1) 1 = 4 then 22 else 16), [some (qA o), some (qI x1), some (qI (M (o + 4) x1)), some (qI (kadd (M (o + 4) x1) 1)), none, none], [], qH0 M)) rfl)
set_option maxRecDepth 20000 in
theorem B_X8_works_16 {M : qMem} {o x1 x2 x3 : Int} (h_o : qSt o) : qlim C_X8_works (16, [some (qA o), some (qI x1), some (qI x2), some (qI x3), none, none], [], qH0 M) = qlim C_X8_works (26, [some (qA o), some (qI x1), some (qI x2), some (qI x3), none, none], [qI 9999], qH0 M) := (qlim_n (n := 2) (c' := (26, [some (qA o), some (qI x1), some (qI x2), some (qI x3), none, none], [qI 9999], qH0 M)) rfl)
set_option maxRecDepth 20000 in
theorem B_X8_works_22 {M : qMem} {o x1 x2 x3 : Int} (h_o : qSt o) : qlim C_X8_works (22, [some (qA o), some (qI x1), some (qI x2), some (qI x3), none, none], [], qH0 M) = qlim C_X8_works (26, [some (qA o), some (qI x1), some (qI x2), some (qI x3), none, none], [qI (M o 12)], qH0 M) := by
  refine Eq.trans (qlim_n (n := 1) (c' := (23, [some (qA o), some (qI x1), some (qI x2), some (qI x3), none, none], [qA o], qH0 M)) rfl) ?_
  exact (qs_getI rfl (qSt_ty h_o) (by decide))
set_option maxRecDepth 20000 in
theorem B_X8_works_26 {M : qMem} {o x1 x2 x3 s0 : Int} (h_o : qSt o) (h1 : 0 ≤ x3) (h2 : x3 < 5) (h3 : 0 ≤ x2) (h4 : x2 < 5) : qlim C_X8_works (26, [some (qA o), some (qI x1), some (qI x2), some (qI x3), none, none], [qI s0], qH0 M) = qlim C_X8_works ((if min (M (o + 1) x2) (ksub s0 (M (o + 1) x3)) ≤ 0 then 65 else 53), [some (qA o), some (qI x1), some (qI x2), some (qI x3), some (qI (ksub s0 (M (o + 1) x3))), some (qI (min (M (o + 1) x2) (ksub s0 (M (o + 1) x3))))], [], qH0 M) := by
  refine Eq.trans (qlim_n (n := 1) (c' := (27, [some (qA o), some (qI x1), some (qI x2), some (qI x3), none, none], [qA o, qI s0], qH0 M)) rfl) ?_
  refine Eq.trans (qs_getR (z := o + 1) rfl (qSt_ty h_o) (by decide) (qSt_g2 h_o)) ?_
  refine Eq.trans (qlim_n (n := 1) (c' := (31, [some (qA o), some (qI x1), some (qI x2), some (qI x3), none, none], [qI x3, qA (o + 1), qI s0], qH0 M)) rfl) ?_
  refine Eq.trans (qs_iaload rfl (qSt_t1 h_o) h1 h2) ?_
  refine Eq.trans (qlim_n (n := 3) (c' := (36, [some (qA o), some (qI x1), some (qI x2), some (qI x3), some (qI (ksub s0 (M (o + 1) x3))), none], [qA o], qH0 M)) rfl) ?_
  refine Eq.trans (qs_getR (z := o + 1) rfl (qSt_ty h_o) (by decide) (qSt_g2 h_o)) ?_
  refine Eq.trans (qlim_n (n := 1) (c' := (40, [some (qA o), some (qI x1), some (qI x2), some (qI x3), some (qI (ksub s0 (M (o + 1) x3))), none], [qI x2, qA (o + 1)], qH0 M)) rfl) ?_
  refine Eq.trans (qs_iaload rfl (qSt_t1 h_o) h3 h4) ?_
  exact (qlim_n (n := 5) (c' := ((if min (M (o + 1) x2) (ksub s0 (M (o + 1) x3)) ≤ 0 then 65 else 53), [some (qA o), some (qI x1), some (qI x2), some (qI x3), some (qI (ksub s0 (M (o + 1) x3))), some (qI (min (M (o + 1) x2) (ksub s0 (M (o + 1) x3))))], [], qH0 M)) rfl)
set_option maxRecDepth 20000 in
theorem B_X8_works_53 {M : qMem} {o x1 x2 x3 x4 x5 : Int} (h_o : qSt o) : qlim C_X8_works (53, [some (qA o), some (qI x1), some (qI x2), some (qI x3), some (qI x4), some (qI x5)], [], qH0 M) = qbd (S_X8_paceOf [qA o, qI x1] (qH0 M)) (fun r h' => qlim C_X8_works (60, [some (qA o), some (qI x1), some (qI x2), some (qI x3), some (qI x4), some (qI x5)], r.toList ++ [qI x5], h')) := by
  refine Eq.trans (qlim_n (n := 3) (c' := (57, [some (qA o), some (qI x1), some (qI x2), some (qI x3), some (qI x4), some (qI x5)], [qI x1, qA o, qI x5], qH0 M)) rfl) ?_
  exact (qlim_callv (n := 1) rfl rfl rfl (Nat.le_of_ble_eq_true rfl) (Nat.le_of_ble_eq_true rfl) (by rw [(qSt_ty h_o)]; rfl))
set_option maxRecDepth 20000 in
theorem B_X8_works_60 {M : qMem} {o x1 x2 x3 x4 x5 s0 s1 : Int} (h_o : qSt o) : qlim C_X8_works (60, [some (qA o), some (qI x1), some (qI x2), some (qI x3), some (qI x4), some (qI x5)], [qI s1, qI s0], qH0 M) = qlim C_X8_works (65, [some (qA o), some (qI x1), some (qI x2), some (qI x3), some (qI x4), some (qI (min s0 s1))], [], qH0 M) := (qlim_n (n := 2) (c' := (65, [some (qA o), some (qI x1), some (qI x2), some (qI x3), some (qI x4), some (qI (min s0 s1))], [], qH0 M)) rfl)
set_option maxRecDepth 20000 in
theorem B_X8_works_65 {M : qMem} {o x1 x2 x3 x4 x5 : Int} (h_o : qSt o) : qlim C_X8_works (65, [some (qA o), some (qI x1), some (qI x2), some (qI x3), some (qI x4), some (qI x5)], [], qH0 M) = qlim C_X8_works ((if 0 < x5 then 81 else 70), [some (qA o), some (qI x1), some (qI x2), some (qI x3), some (qI x4), some (qI x5)], [], qH0 M) := (qlim_n (n := 2) (c' := ((if 0 < x5 then 81 else 70), [some (qA o), some (qI x1), some (qI x2), some (qI x3), some (qI x4), some (qI x5)], [], qH0 M)) rfl)
set_option maxRecDepth 20000 in
theorem B_X8_works_70 {M : qMem} {o x1 x2 x3 x4 x5 : Int} (h_o : qSt o) (h1 : 0 ≤ x1) (h2 : x1 < 6) : qlim C_X8_works (70, [some (qA o), some (qI x1), some (qI x2), some (qI x3), some (qI x4), some (qI x5)], [], qH0 M) = some (none, qH0 (qup M (o + 6) x1 (kadd (M (o + 6) x1) 1))) := by
  refine Eq.trans (qlim_n (n := 1) (c' := (71, [some (qA o), some (qI x1), some (qI x2), some (qI x3), some (qI x4), some (qI x5)], [qA o], qH0 M)) rfl) ?_
  refine Eq.trans (qs_getR (z := o + 6) rfl (qSt_ty h_o) (by decide) (qSt_g7 h_o)) ?_
  refine Eq.trans (qlim_n (n := 2) (c' := (76, [some (qA o), some (qI x1), some (qI x2), some (qI x3), some (qI x4), some (qI x5)], [qI x1, qA (o + 6), qI x1, qA (o + 6)], qH0 M)) rfl) ?_
  refine Eq.trans (qs_iaload rfl (qSt_t6 h_o) h1 h2) ?_
  refine Eq.trans (qlim_n (n := 2) (c' := (79, [some (qA o), some (qI x1), some (qI x2), some (qI x3), some (qI x4), some (qI x5)], [qI (kadd (M (o + 6) x1) 1), qI x1, qA (o + 6)], qH0 M)) rfl) ?_
  refine Eq.trans (qs_iastore rfl (qSt_t6 h_o) h1 h2) ?_
  exact (qlim_ret rfl)
set_option maxRecDepth 20000 in
theorem B_X8_works_81 {M : qMem} {o x1 x2 x3 x4 x5 : Int} (h_o : qSt o) (h1 : 0 ≤ x2) (h2 : x2 < 5) (h3 : 0 ≤ x3) (h4 : x3 < 5) (h5 : 0 ≤ x1) (h6 : x1 < 6) : qlim C_X8_works (81, [some (qA o), some (qI x1), some (qI x2), some (qI x3), some (qI x4), some (qI x5)], [], qH0 M) = some (none, qH0 (qup (qup (qup M (o + 1) x2 (ksub (M (o + 1) x2) x5)) (o + 1) x3 (kadd ((qup M (o + 1) x2 (ksub (M (o + 1) x2) x5)) (o + 1) x3) x5)) (o + 5) x1 (min (kadd ((qup (qup M (o + 1) x2 (ksub (M (o + 1) x2) x5)) (o + 1) x3 (kadd ((qup M (o + 1) x2 (ksub (M (o + 1) x2) x5)) (o + 1) x3) x5)) (o + 5) x1) x5) ((qup (qup M (o + 1) x2 (ksub (M (o + 1) x2) x5)) (o + 1) x3 (kadd ((qup M (o + 1) x2 (ksub (M (o + 1) x2) x5)) (o + 1) x3) x5)) o 1)))) := by
  refine Eq.trans (qlim_n (n := 1) (c' := (82, [some (qA o), some (qI x1), some (qI x2), some (qI x3), some (qI x4), some (qI x5)], [qA o], qH0 M)) rfl) ?_
  refine Eq.trans (qs_getR (z := o + 1) rfl (qSt_ty h_o) (by decide) (qSt_g2 h_o)) ?_
  refine Eq.trans (qlim_n (n := 2) (c' := (87, [some (qA o), some (qI x1), some (qI x2), some (qI x3), some (qI x4), some (qI x5)], [qI x2, qA (o + 1), qI x2, qA (o + 1)], qH0 M)) rfl) ?_
  refine Eq.trans (qs_iaload rfl (qSt_t1 h_o) h1 h2) ?_
  refine Eq.trans (qlim_n (n := 2) (c' := (91, [some (qA o), some (qI x1), some (qI x2), some (qI x3), some (qI x4), some (qI x5)], [qI (ksub (M (o + 1) x2) x5), qI x2, qA (o + 1)], qH0 M)) rfl) ?_
  refine Eq.trans (qs_iastore rfl (qSt_t1 h_o) h1 h2) ?_
  refine Eq.trans (qlim_n (n := 1) (c' := (93, [some (qA o), some (qI x1), some (qI x2), some (qI x3), some (qI x4), some (qI x5)], [qA o], qH0 (qup M (o + 1) x2 (ksub (M (o + 1) x2) x5)))) rfl) ?_
  refine Eq.trans (qs_getR (z := o + 1) rfl (qSt_ty h_o) (by decide) (qSt_g2 h_o)) ?_
  refine Eq.trans (qlim_n (n := 2) (c' := (98, [some (qA o), some (qI x1), some (qI x2), some (qI x3), some (qI x4), some (qI x5)], [qI x3, qA (o + 1), qI x3, qA (o + 1)], qH0 (qup M (o + 1) x2 (ksub (M (o + 1) x2) x5)))) rfl) ?_
  refine Eq.trans (qs_iaload rfl (qSt_t1 h_o) h3 h4) ?_
  refine Eq.trans (qlim_n (n := 2) (c' := (102, [some (qA o), some (qI x1), some (qI x2), some (qI x3), some (qI x4), some (qI x5)], [qI (kadd ((qup M (o + 1) x2 (ksub (M (o + 1) x2) x5)) (o + 1) x3) x5), qI x3, qA (o + 1)], qH0 (qup M (o + 1) x2 (ksub (M (o + 1) x2) x5)))) rfl) ?_
  refine Eq.trans (qs_iastore rfl (qSt_t1 h_o) h3 h4) ?_
  refine Eq.trans (qlim_n (n := 1) (c' := (104, [some (qA o), some (qI x1), some (qI x2), some (qI x3), some (qI x4), some (qI x5)], [qA o], qH0 (qup (qup M (o + 1) x2 (ksub (M (o + 1) x2) x5)) (o + 1) x3 (kadd ((qup M (o + 1) x2 (ksub (M (o + 1) x2) x5)) (o + 1) x3) x5)))) rfl) ?_
  refine Eq.trans (qs_getR (z := o + 5) rfl (qSt_ty h_o) (by decide) (qSt_g6 h_o)) ?_
  refine Eq.trans (qlim_n (n := 2) (c' := (109, [some (qA o), some (qI x1), some (qI x2), some (qI x3), some (qI x4), some (qI x5)], [qA o, qI x1, qA (o + 5)], qH0 (qup (qup M (o + 1) x2 (ksub (M (o + 1) x2) x5)) (o + 1) x3 (kadd ((qup M (o + 1) x2 (ksub (M (o + 1) x2) x5)) (o + 1) x3) x5)))) rfl) ?_
  refine Eq.trans (qs_getR (z := o + 5) rfl (qSt_ty h_o) (by decide) (qSt_g6 h_o)) ?_
  refine Eq.trans (qlim_n (n := 1) (c' := (113, [some (qA o), some (qI x1), some (qI x2), some (qI x3), some (qI x4), some (qI x5)], [qI x1, qA (o + 5), qI x1, qA (o + 5)], qH0 (qup (qup M (o + 1) x2 (ksub (M (o + 1) x2) x5)) (o + 1) x3 (kadd ((qup M (o + 1) x2 (ksub (M (o + 1) x2) x5)) (o + 1) x3) x5)))) rfl) ?_
  refine Eq.trans (qs_iaload rfl (qSt_t5 h_o) h5 h6) ?_
  refine Eq.trans (qlim_n (n := 3) (c' := (118, [some (qA o), some (qI x1), some (qI x2), some (qI x3), some (qI x4), some (qI x5)], [qA o, qI (kadd ((qup (qup M (o + 1) x2 (ksub (M (o + 1) x2) x5)) (o + 1) x3 (kadd ((qup M (o + 1) x2 (ksub (M (o + 1) x2) x5)) (o + 1) x3) x5)) (o + 5) x1) x5), qI x1, qA (o + 5)], qH0 (qup (qup M (o + 1) x2 (ksub (M (o + 1) x2) x5)) (o + 1) x3 (kadd ((qup M (o + 1) x2 (ksub (M (o + 1) x2) x5)) (o + 1) x3) x5)))) rfl) ?_
  refine Eq.trans (qs_getI rfl (qSt_ty h_o) (by decide)) ?_
  refine Eq.trans (qlim_n (n := 1) (c' := (124, [some (qA o), some (qI x1), some (qI x2), some (qI x3), some (qI x4), some (qI x5)], [qI (min (kadd ((qup (qup M (o + 1) x2 (ksub (M (o + 1) x2) x5)) (o + 1) x3 (kadd ((qup M (o + 1) x2 (ksub (M (o + 1) x2) x5)) (o + 1) x3) x5)) (o + 5) x1) x5) ((qup (qup M (o + 1) x2 (ksub (M (o + 1) x2) x5)) (o + 1) x3 (kadd ((qup M (o + 1) x2 (ksub (M (o + 1) x2) x5)) (o + 1) x3) x5)) o 1)), qI x1, qA (o + 5)], qH0 (qup (qup M (o + 1) x2 (ksub (M (o + 1) x2) x5)) (o + 1) x3 (kadd ((qup M (o + 1) x2 (ksub (M (o + 1) x2) x5)) (o + 1) x3) x5)))) rfl) ?_
  refine Eq.trans (qs_iastore rfl (qSt_t5 h_o) h5 h6) ?_
  exact (qlim_ret rfl)
theorem E_X8_works {h : qH} {o x1 : Int} : S_X8_works [qA o, qI x1] h = qlim C_X8_works (0, [some (qA o), some (qI x1), none, none, none, none], [], h) := qM_at (Nat.le_of_ble_eq_true rfl) rfl
set_option maxRecDepth 20000 in
theorem B_X8_paceOf_0 {M : qMem} {o x1 : Int} (h_o : qSt o) (h1 : 0 ≤ x1) (h2 : x1 < 6) (h3 : 0 ≤ M (o + 2) x1) (h4 : M (o + 2) x1 < 7) (h5 : qty (qH0 M) (M o 13) = (3, 7)) : qlim C_X8_paceOf (0, [some (qA o), some (qI x1)], [], qH0 M) = qbd (S_X3_zealOf [qA (M o 13), qA o, qI x1] (qH0 M)) (fun r h' => qlim C_X8_paceOf (23, [some (qA o), some (qI x1)], r.toList ++ [qI x1, qA o, qA (qG0 1 (M (o + 2) x1)), qI 0], h')) := by
  refine Eq.trans (qlim_n (n := 2) (c' := (2, [some (qA o), some (qI x1)], [qA o, qI 0], qH0 M)) rfl) ?_
  refine Eq.trans (qs_getR (z := 1) rfl (qSt_ty h_o) (by decide) (qSt_g0 h_o)) ?_
  refine Eq.trans (qlim_n (n := 1) (c' := (6, [some (qA o), some (qI x1)], [qA o, qA 1, qI 0], qH0 M)) rfl) ?_
  refine Eq.trans (qs_getR (z := o + 2) rfl (qSt_ty h_o) (by decide) (qSt_g3 h_o)) ?_
  refine Eq.trans (qlim_n (n := 1) (c' := (10, [some (qA o), some (qI x1)], [qI x1, qA (o + 2), qA 1, qI 0], qH0 M)) rfl) ?_
  refine Eq.trans (qs_iaload rfl (qSt_t2 h_o) h1 h2) ?_
  refine Eq.trans (qs_aaload rfl rfl (by decide) h3 h4) ?_
  refine Eq.trans (qlim_n (n := 3) (c' := (15, [some (qA o), some (qI x1)], [qA o, qI x1, qA o, qA (qG0 1 (M (o + 2) x1)), qI 0], qH0 M)) rfl) ?_
  refine Eq.trans (qs_getD rfl (qSt_ty h_o) (by decide)) ?_
  refine Eq.trans (qlim_n (n := 2) (c' := (20, [some (qA o), some (qI x1)], [qI x1, qA o, qA (M o 13), qI x1, qA o, qA (qG0 1 (M (o + 2) x1)), qI 0], qH0 M)) rfl) ?_
  exact (qlim_callv (n := 2) rfl rfl rfl (Nat.le_of_ble_eq_true rfl) (Nat.le_of_ble_eq_true rfl) (by rw [h5]; rfl))
set_option maxRecDepth 20000 in
theorem B_X8_paceOf_23 {M : qMem} {o x1 s0 s1 s3 s4 : Int} {f : qSem} (h_o : qSt o) (h1 : qsel [(4, S_X4_pace), (5, S_X5_pace), (2, S_X2_pace), (9, S_X9_pace), (7, S_X7_pace), (1, S_X1_pace), (10, S_X10_pace)] (qty (qH0 M) s1).1 = some f) : qlim C_X8_paceOf (23, [some (qA o), some (qI x1)], [qI s4, qI s3, qA o, qA s1, qI s0], qH0 M) = qbd (f [qA s1, qA o, qI s3, qI s4] (qH0 M)) (fun r h' => qlim C_X8_paceOf (26, [some (qA o), some (qI x1)], r.toList ++ [qI s0], h')) := (qlim_callv (n := 3) rfl rfl rfl (Nat.le_of_ble_eq_true rfl) (Nat.le_of_ble_eq_true rfl) h1)
set_option maxRecDepth 20000 in
theorem B_X8_paceOf_26 {M : qMem} {o x1 s0 s1 : Int} (h_o : qSt o) : qlim C_X8_paceOf (26, [some (qA o), some (qI x1)], [qI s1, qI s0], qH0 M) = some (some (qI (max s0 s1)), qH0 M) := by
  refine Eq.trans (qlim_n (n := 1) (c' := (29, [some (qA o), some (qI x1)], [qI (max s0 s1)], qH0 M)) rfl) ?_
  exact (qlim_ret rfl)
theorem E_X8_paceOf {h : qH} {o x1 : Int} : S_X8_paceOf [qA o, qI x1] h = qlim C_X8_paceOf (0, [some (qA o), some (qI x1)], [], h) := qM_at (Nat.le_of_ble_eq_true rfl) rfl
