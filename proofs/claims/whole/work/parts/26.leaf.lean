/-! WHAT THE METHODS ANSWER: numbers, the small ones -/
section QIF
variable {C : List (Nat × qOp)} {c : Prop} {a b : Nat} {ls : qLs} {st : List qV} {H : qH}
theorem qif_t [Decidable c] (h : c) : qlim C ((if c then a else b), ls, st, H) = qlim C (a, ls, st, H) := by rw [if_pos h]
theorem qif_f [Decidable c] (h : ¬ c) : qlim C ((if c then a else b), ls, st, H) = qlim C (b, ls, st, H) := by rw [if_neg h]
end QIF
theorem k32 {a : Int} (h1 : -2147483648 ≤ a) (h2 : a ≤ 2147483647) : (Int32.ofInt a).toInt = a := by
  have e : Int32.size = 4294967296 := rfl
  rw [Int32.toInt_ofInt, e]
  exact Int.bmod_eq_of_le (by omega) (by omega)
theorem kdiv_eq {a b : Int} (h1 : 0 ≤ a) (h2 : a ≤ 2147483647) (h3 : 0 < b) (h4 : b ≤ 2147483647) : kdiv a b = a / b := by
  unfold kdiv
  rw [Int32.toInt_div, k32 (by omega) h2, k32 (by omega) h4, Int.tdiv_eq_ediv_of_nonneg h1]
  have h5 : 0 ≤ a / b := Int.ediv_nonneg h1 (by omega)
  have h6 : a / b ≤ a := Int.ediv_le_self b h1
  exact Int.bmod_eq_of_le (by omega) (by omega)
theorem knz {b : Int} (h3 : 0 < b) (h4 : b ≤ 2147483647) : ¬ Int32.ofInt b = 0 := by
  intro h
  have := congrArg Int32.toInt h
  rw [k32 (by omega) h4] at this
  have h0 : Int32.toInt 0 = 0 := rfl
  omega
theorem krem_eq {a b : Int} (h1 : 0 ≤ a) (h2 : a ≤ 2147483647) (h3 : 0 < b) (h4 : b ≤ 2147483647) : krem a b = a % b := by
  have e : krem a b = ksub a (kmul (kdiv a b) b) := by
    unfold krem ksub kmul kdiv
    rw [Int32.ofInt_toInt, Int32.ofInt_toInt]
  have h5 : 0 ≤ a / b := Int.ediv_nonneg h1 (by omega)
  have h7 : a / b * b + a % b = a := Int.ediv_mul_add_emod a b
  have h8 := Int.emod_nonneg a (b := b) (by omega)
  have h9 := Int.emod_lt_of_pos a h3
  have h10 : 0 ≤ a / b * b := Int.mul_nonneg h5 (by omega)
  rw [e, kdiv_eq h1 h2 h3 h4, kmul_eq (by omega) (by omega), ksub_eq (by omega) (by omega)]
  omega
theorem kneg_eq {a : Int} (h1 : -2147483648 < a) (h2 : a ≤ 2147483647) : kneg a = -a := by
  unfold kneg
  rw [Int32.toInt_neg, k32 (by omega) h2]
  exact Int.bmod_eq_of_le (by omega) (by omega)
/-! is .. -/
theorem sX11_isIn_y {M : qMem} {a b : Int} (h : 0 ≤ a ∧ a ≤ b) : S_X11_isIn [qI a, qI b] (qH0 M) = some (some (qI 1), qH0 M) := by
  simp (disch := first | assumption | omega) only [E_X11_isIn, B_X11_isIn_0, B_X11_isIn_4, B_X11_isIn_9, B_X11_isIn_13, B_X11_isIn_14, not_true_eq_false, not_false_eq_true, if_true, if_false, qlk, qtk, qif_t, qif_f, qbd_some, Option.toList_some, Option.toList_none, List.cons_append, List.nil_append, List.append_nil]
theorem sX11_isIn_n {M : qMem} {a b : Int} (h : ¬ (0 ≤ a ∧ a ≤ b)) : S_X11_isIn [qI a, qI b] (qH0 M) = some (some (qI 0), qH0 M) := by
  by_cases h1 : a < 0
  · simp (disch := first | assumption | omega) only [E_X11_isIn, B_X11_isIn_0, B_X11_isIn_4, B_X11_isIn_9, B_X11_isIn_13, B_X11_isIn_14, not_true_eq_false, not_false_eq_true, if_true, if_false, qlk, qtk, qif_t, qif_f, qbd_some, Option.toList_some, Option.toList_none, List.cons_append, List.nil_append, List.append_nil]
  · simp (disch := first | assumption | omega) only [E_X11_isIn, B_X11_isIn_0, B_X11_isIn_4, B_X11_isIn_9, B_X11_isIn_13, B_X11_isIn_14, not_true_eq_false, not_false_eq_true, if_true, if_false, qlk, qtk, qif_t, qif_f, qbd_some, Option.toList_some, Option.toList_none, List.cons_append, List.nil_append, List.append_nil]
theorem sX11_isHeap_y {M : qMem} {a : Int} (h : 0 ≤ a ∧ a < 5) : S_X11_isHeap [qI a] (qH0 M) = some (some (qI 1), qH0 M) := by
  simp (disch := first | assumption | omega) only [E_X11_isHeap, B_X11_isHeap_0, B_X11_isHeap_4, B_X11_isHeap_9, B_X11_isHeap_13, B_X11_isHeap_14, not_true_eq_false, not_false_eq_true, if_true, if_false, qlk, qtk, qif_t, qif_f, qbd_some, Option.toList_some, Option.toList_none, List.cons_append, List.nil_append, List.append_nil]
theorem sX11_isHeap_n {M : qMem} {a : Int} (h : ¬ (0 ≤ a ∧ a < 5)) : S_X11_isHeap [qI a] (qH0 M) = some (some (qI 0), qH0 M) := by
  by_cases h1 : a < 0
  · simp (disch := first | assumption | omega) only [E_X11_isHeap, B_X11_isHeap_0, B_X11_isHeap_4, B_X11_isHeap_9, B_X11_isHeap_13, B_X11_isHeap_14, not_true_eq_false, not_false_eq_true, if_true, if_false, qlk, qtk, qif_t, qif_f, qbd_some, Option.toList_some, Option.toList_none, List.cons_append, List.nil_append, List.append_nil]
  · simp (disch := first | assumption | omega) only [E_X11_isHeap, B_X11_isHeap_0, B_X11_isHeap_4, B_X11_isHeap_9, B_X11_isHeap_13, B_X11_isHeap_14, not_true_eq_false, not_false_eq_true, if_true, if_false, qlk, qtk, qif_t, qif_f, qbd_some, Option.toList_some, Option.toList_none, List.cons_append, List.nil_append, List.append_nil]
theorem sX11_isWork_y {M : qMem} {a : Int} (h : 0 ≤ a ∧ a < 4) : S_X11_isWork [qI a] (qH0 M) = some (some (qI 1), qH0 M) := by
  simp (disch := first | assumption | omega) only [E_X11_isWork, B_X11_isWork_0, B_X11_isWork_4, B_X11_isWork_9, B_X11_isWork_13, B_X11_isWork_14, not_true_eq_false, not_false_eq_true, if_true, if_false, qlk, qtk, qif_t, qif_f, qbd_some, Option.toList_some, Option.toList_none, List.cons_append, List.nil_append, List.append_nil]
theorem sX11_isWork_n {M : qMem} {a : Int} (h : ¬ (0 ≤ a ∧ a < 4)) : S_X11_isWork [qI a] (qH0 M) = some (some (qI 0), qH0 M) := by
  by_cases h1 : a < 0
  · simp (disch := first | assumption | omega) only [E_X11_isWork, B_X11_isWork_0, B_X11_isWork_4, B_X11_isWork_9, B_X11_isWork_13, B_X11_isWork_14, not_true_eq_false, not_false_eq_true, if_true, if_false, qlk, qtk, qif_t, qif_f, qbd_some, Option.toList_some, Option.toList_none, List.cons_append, List.nil_append, List.append_nil]
  · simp (disch := first | assumption | omega) only [E_X11_isWork, B_X11_isWork_0, B_X11_isWork_4, B_X11_isWork_9, B_X11_isWork_13, B_X11_isWork_14, not_true_eq_false, not_false_eq_true, if_true, if_false, qlk, qtk, qif_t, qif_f, qbd_some, Option.toList_some, Option.toList_none, List.cons_append, List.nil_append, List.append_nil]
theorem sX11_isTape_y {M : qMem} {a : Int} (h : 0 ≤ a ∧ a < 6) : S_X11_isTape [qI a] (qH0 M) = some (some (qI 1), qH0 M) := by
  simp (disch := first | assumption | omega) only [E_X11_isTape, B_X11_isTape_0, B_X11_isTape_4, B_X11_isTape_10, B_X11_isTape_14, B_X11_isTape_15, not_true_eq_false, not_false_eq_true, if_true, if_false, qlk, qtk, qif_t, qif_f, qbd_some, Option.toList_some, Option.toList_none, List.cons_append, List.nil_append, List.append_nil]
theorem sX11_isTape_n {M : qMem} {a : Int} (h : ¬ (0 ≤ a ∧ a < 6)) : S_X11_isTape [qI a] (qH0 M) = some (some (qI 0), qH0 M) := by
  by_cases h1 : a < 0
  · simp (disch := first | assumption | omega) only [E_X11_isTape, B_X11_isTape_0, B_X11_isTape_4, B_X11_isTape_10, B_X11_isTape_14, B_X11_isTape_15, not_true_eq_false, not_false_eq_true, if_true, if_false, qlk, qtk, qif_t, qif_f, qbd_some, Option.toList_some, Option.toList_none, List.cons_append, List.nil_append, List.append_nil]
  · simp (disch := first | assumption | omega) only [E_X11_isTape, B_X11_isTape_0, B_X11_isTape_4, B_X11_isTape_10, B_X11_isTape_14, B_X11_isTape_15, not_true_eq_false, not_false_eq_true, if_true, if_false, qlk, qtk, qif_t, qif_f, qbd_some, Option.toList_some, Option.toList_none, List.cons_append, List.nil_append, List.append_nil]
theorem sX11_isPerson_y {M : qMem} {a : Int} (h : 0 ≤ a ∧ a < M 12 10) : S_X11_isPerson [qA 0, qI a] (qH0 M) = some (some (qI 1), qH0 M) := by
  simp (disch := first | assumption | omega) only [E_X11_isPerson, B_X11_isPerson_0, B_X11_isPerson_4, B_X11_isPerson_15, B_X11_isPerson_19, B_X11_isPerson_20, not_true_eq_false, not_false_eq_true, if_true, if_false, qlk, qtk, qif_t, qif_f, qbd_some, Option.toList_some, Option.toList_none, List.cons_append, List.nil_append, List.append_nil]
theorem sX11_isPerson_n {M : qMem} {a : Int} (h : ¬ (0 ≤ a ∧ a < M 12 10)) : S_X11_isPerson [qA 0, qI a] (qH0 M) = some (some (qI 0), qH0 M) := by
  by_cases h1 : a < 0
  · simp (disch := first | assumption | omega) only [E_X11_isPerson, B_X11_isPerson_0, B_X11_isPerson_4, B_X11_isPerson_15, B_X11_isPerson_19, B_X11_isPerson_20, not_true_eq_false, not_false_eq_true, if_true, if_false, qlk, qtk, qif_t, qif_f, qbd_some, Option.toList_some, Option.toList_none, List.cons_append, List.nil_append, List.append_nil]
  · simp (disch := first | assumption | omega) only [E_X11_isPerson, B_X11_isPerson_0, B_X11_isPerson_4, B_X11_isPerson_15, B_X11_isPerson_19, B_X11_isPerson_20, not_true_eq_false, not_false_eq_true, if_true, if_false, qlk, qtk, qif_t, qif_f, qbd_some, Option.toList_some, Option.toList_none, List.cons_append, List.nil_append, List.append_nil]
/-! the state's small ones -/
theorem sX8_comes {M : qMem} {o k v w : Int} (ho : qSt o) (h1 : 0 ≤ M o 10) (h2 : M o 10 < 6) : S_X8_comes [qA o, qI k, qI v, qI w] (qH0 M) = some (some (qI (M o 10)), qH0 (qup (qup (qup (qup M (o + 2) (M o 10) k) (o + 3) (M o 10) v) (o + 4) (M o 10) w) o 10 (M o 10 + 1))) := by
  simp (disch := first | assumption | omega) only [E_X8_comes, B_X8_comes_0, kadd_eq, ksub_eq, kmul_eq, qup_self, qup_ne, not_true_eq_false, not_false_eq_true, if_true, if_false, qlk, qtk, qif_t, qif_f, qbd_some, Option.toList_some, Option.toList_none, List.cons_append, List.nil_append, List.append_nil]
theorem sX8_holds {M : qMem} {o g : Int} (ho : qSt o) (hg : qHl g) : S_X8_holds [qA o, qA g] (qH0 M) = some (none, qH0 (qup (qup M o 13 g) o 12 (M g 4))) := by
  have h0 : 0 ≤ g := by unfold qHl at hg; omega
  simp (disch := first | assumption | omega) only [E_X8_holds, B_X8_holds_0, kadd_eq, ksub_eq, kmul_eq, qup_self, qup_ne, not_true_eq_false, not_false_eq_true, if_true, if_false, qlk, qtk, qif_t, qif_f, qbd_some, Option.toList_some, Option.toList_none, List.cons_append, List.nil_append, List.append_nil]
theorem sX0_begins {M : qMem} {b : Int} (h1 : 0 ≤ M 71 3) (h2 : M 71 3 < 20) : S_X0_begins [qA 71, qI b] (qH0 M) = some (none, qH0 (qup (qup M 72 (M 71 3) b) 71 3 (M 71 3 + 1))) := by
  simp (disch := first | assumption | omega) only [E_X0_begins, B_X0_begins_0, B_X0_begins_12, B_X0_begins_22, kadd_eq, ksub_eq, kmul_eq, qup_self, qup_ne, not_true_eq_false, not_false_eq_true, if_true, if_false, qlk, qtk, qif_t, qif_f, qbd_some, Option.toList_some, Option.toList_none, List.cons_append, List.nil_append, List.append_nil]
/-! rows told by hand -/
theorem sX6_cell3 {M : qMem} {i j : Int} (hw : M 39 1 = 3) (h1 : 0 ≤ i) (h2 : i < 5) (h3 : 0 ≤ j) (h4 : j < 3) : S_X6_cell [qA 39, qI i, qI j] (qH0 M) = some (some (qI (M 40 (3 * i + j))), qH0 M) := by
  have e : kadd (kmul i (M 39 1)) j = 3 * i + j := by
    rw [hw, kmul_eq (by omega) (by omega), kadd_eq (by omega) (by omega)]
    omega
  rw [E_X6_cell, B_X6_cell_0 (r := 39) (n_r1 := 15) (Or.inl rfl) rfl (by rw [e]; omega) (by rw [e]; omega), e]
  rfl
theorem sX6_cell2 {M : qMem} {r i j : Int} {n : Nat} (hr : qRw r) (hn : qty (qH0 M) (r + 1) = (100, n)) (hw : M r 1 = 2) (h1 : 0 ≤ i) (h2 : 2 * i + j < n) (h3 : 0 ≤ j) (h4 : n ≤ 20) : S_X6_cell [qA r, qI i, qI j] (qH0 M) = some (some (qI (M (r + 1) (2 * i + j))), qH0 M) := by
  have e : kadd (kmul i (M r 1)) j = 2 * i + j := by
    rw [hw, kmul_eq (by omega) (by omega), kadd_eq (by omega) (by omega)]
    omega
  rw [E_X6_cell, B_X6_cell_0 hr hn (by rw [e]; omega) (by rw [e]; omega), e]
theorem sX6_add_full {M : qMem} {r a b c : Int} (hr : qRw r) (h : M r 0 ≤ M r 3) : S_X6_add [qA r, qI a, qI b, qI c] (qH0 M) = some (some (qI (-4)), qH0 M) := by
  simp (disch := first | assumption | omega) only [E_X6_add, B_X6_add_0, B_X6_add_11, B_X6_add_14, B_X6_add_51, B_X6_add_61, not_true_eq_false, not_false_eq_true, if_true, if_false, qlk, qtk, qif_t, qif_f, qbd_some, Option.toList_some, Option.toList_none, List.cons_append, List.nil_append, List.append_nil]
theorem sX6_add3 {M : qMem} {a b c : Int} (hm : M 39 0 = 5) (hw : M 39 1 = 3) (h1 : 0 ≤ M 39 3) (h2 : M 39 3 < 5) : S_X6_add [qA 39, qI a, qI b, qI c] (qH0 M) = some (some (qI (M 39 3 + 1)), qH0 (qup (qup (qup (qup M 40 (3 * M 39 3) a) 40 (3 * M 39 3 + 1) b) 40 (3 * M 39 3 + 2) c) 39 3 (M 39 3 + 1))) := by
  have hr : qRw 39 := Or.inl rfl
  have hn : qty (qH0 M) (39 + 1) = (100, 15) := rfl
  have e : kmul (M 39 3) (M 39 1) = 3 * M 39 3 := by
    rw [hw, kmul_eq (by omega) (by omega)]
    omega
  have e1 : kadd (3 * M 39 3) 1 = 3 * M 39 3 + 1 := kadd_eq (by omega) (by omega)
  have e2 : kadd (3 * M 39 3) 2 = 3 * M 39 3 + 2 := kadd_eq (by omega) (by omega)
  rw [E_X6_add, B_X6_add_0 hr, qif_t (by omega), B_X6_add_14 hr hn (by rw [e]; omega) (by rw [e]; omega) (by rw [e, e1]; omega) (by rw [e, e1]; omega), e, e1]
  rw [qif_f (by rw [qup_ne (by omega), qup_ne (by omega), hw]; omega), B_X6_add_51 hr (n_r1 := 15) rfl (by rw [e2]; omega) (by rw [e2]; omega), e2]
  simp (disch := first | assumption | omega) only [B_X6_add_61, kadd_eq, ksub_eq, kmul_eq, qup_self, qup_ne, not_true_eq_false, not_false_eq_true, if_true, if_false, qlk, qtk, qif_t, qif_f, qbd_some, Option.toList_some, Option.toList_none, List.cons_append, List.nil_append, List.append_nil, hw]
  rfl
theorem sX6_add2 {M : qMem} {r a b c m : Int} {n : Nat} (hr : qRw r) (hn : qty (qH0 M) (r + 1) = (100, n)) (hm : M r 0 = m) (hw : M r 1 = 2) (hk : 2 * m = n) (hm2 : m ≤ 10) (h1 : 0 ≤ M r 3) (h2 : M r 3 < m) : S_X6_add [qA r, qI a, qI b, qI c] (qH0 M) = some (some (qI (M r 3 + 1)), qH0 (qup (qup (qup M (r + 1) (2 * M r 3) a) (r + 1) (2 * M r 3 + 1) b) r 3 (M r 3 + 1))) := by
  have e : kmul (M r 3) (M r 1) = 2 * M r 3 := by
    rw [hw, kmul_eq (by omega) (by omega)]
    omega
  have e1 : kadd (2 * M r 3) 1 = 2 * M r 3 + 1 := kadd_eq (by omega) (by omega)
  rw [E_X6_add, B_X6_add_0 hr, qif_t (by omega), B_X6_add_14 hr hn (by rw [e]; omega) (by rw [e]; omega) (by rw [e, e1]; omega) (by rw [e, e1]; omega), e, e1]
  simp (disch := first | assumption | omega) only [B_X6_add_61, kadd_eq, ksub_eq, kmul_eq, qup_self, qup_ne, not_true_eq_false, not_false_eq_true, if_true, if_false, qlk, qtk, qif_t, qif_f, qbd_some, Option.toList_some, Option.toList_none, List.cons_append, List.nil_append, List.append_nil, hw]
