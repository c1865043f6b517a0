/-! calls that only look: books, tapes, kinds -/
theorem lX11_looked {M : qMem} (hb : qBok M 43 42 109 110) : ∀ (d i : Nat), ((i + d : Nat) : Int) = M 43 3 → ∃ v : Int, qlim C_X11_looked (2, [some (qA 0), some (qI i)], [], qH0 M) = some (some (qI v), qH0 M) ∧
    ∀ N : qMem, N 82 42 = M 43 3 → (∀ i : Int, 0 ≤ i → i < M 43 3 → N 109 i = M 44 (2 * i) ∧ N 110 i = M 44 (2 * i + 1)) → (∀ k : Int, 0 ≤ k → k < 5 → N 83 k = M 13 k) → qlim C_X12_looked (2, [some (qA 82), some (qI i)], [], qH0 N) = some (some (qI v), qH0 N)
  | 0, i, hi => by
    refine ⟨-5, ?_, fun N h1 h2 h3 => ?_⟩
    · simp (disch := first | assumption | omega) only [B_X11_looked_2, B_X11_looked_50, not_true_eq_false, not_false_eq_true, if_true, if_false, qlk, qtk, qif_t, qif_f, qbd_some, Option.toList_some, Option.toList_none, List.cons_append, List.nil_append, List.append_nil]
    · simp (disch := first | assumption | omega) only [B_X12_looked_2, B_X12_looked_38, not_true_eq_false, not_false_eq_true, if_true, if_false, qlk, qtk, qif_t, qif_f, qbd_some, Option.toList_some, Option.toList_none, List.cons_append, List.nil_append, List.append_nil]
  | d + 1, i, hi => by
    obtain ⟨b1, b2, b3, b4⟩ := hb
    have q := b4 i (by omega) (by omega)
    have q1 := q.1
    have e1 : kadd (i : Int) 1 = ((i + 1 : Nat) : Int) := by rw [kadd_eq (by omega) (by omega)]; omega
    have s0 := sX6_cell2 (M := M) (r := 43) (i := i) (j := 0) (n := 16) (Or.inr (Or.inr (Or.inl rfl))) rfl b1.2 (by omega) (by omega) (by omega) (by omega)
    have s1 := sX6_cell2 (M := M) (r := 43) (i := i) (j := 1) (n := 16) (Or.inr (Or.inr (Or.inl rfl))) rfl b1.2 (by omega) (by omega) (by omega) (by omega)
    have e0 : (2 : Int) * i + 0 = 2 * i := by omega
    rw [e0] at s0
    have s0' : S_X6_cell [qA 43, qI i, qI 0] (qH0 M) = some (some (qI (M 44 (2 * i))), qH0 M) := s0
    have s1' : S_X6_cell [qA 43, qI i, qI 1] (qH0 M) = some (some (qI (M 44 (2 * i + 1))), qH0 M) := s1
    have q1' : 0 ≤ M 44 (2 * i) ∧ M 44 (2 * i) < 5 := q1
    have i0 : (0 : Int) ≤ i := by omega
    have i8 : (i : Int) < 8 := by omega
    by_cases c : M 13 (M 44 (2 * i)) = M 44 (2 * i + 1)
    · obtain ⟨v, r1, r2⟩ := lX11_looked ⟨b1, b2, b3, b4⟩ d (i + 1) (by omega)
      refine ⟨v, ?_, fun N h1 h2 h3 => ?_⟩
      · rw [← r1]
        simp (disch := first | assumption | omega) only [B_X11_looked_2, B_X11_looked_13, B_X11_looked_29, B_X11_looked_39, B_X11_looked_44, not_true_eq_false, not_false_eq_true, if_true, if_false, qlk, qtk, qif_t, qif_f, qbd_some, Option.toList_some, Option.toList_none, List.cons_append, List.nil_append, List.append_nil, s0', s1', e1]
      · have w := h2 i (by omega) (by omega)
        have w1 := w.1
        have w2 := w.2
        have w3 : N 83 (N 109 i) = N 110 i := by rw [w1, w2, h3 _ q1'.1 q1'.2]; exact c
        rw [← r2 N h1 h2 h3, B_X12_looked_2, qif_f (by omega), B_X12_looked_10 i0 i8 (by omega) (by omega), qif_t w3, B_X12_looked_32, e1]
    · refine ⟨i, ?_, fun N h1 h2 h3 => ?_⟩
      · simp (disch := first | assumption | omega) only [B_X11_looked_2, B_X11_looked_13, B_X11_looked_29, B_X11_looked_39, B_X11_looked_42, not_true_eq_false, not_false_eq_true, if_true, if_false, qlk, qtk, qif_t, qif_f, qbd_some, Option.toList_some, Option.toList_none, List.cons_append, List.nil_append, List.append_nil, s0', s1']
      · have w := h2 i (by omega) (by omega)
        have w1 := w.1
        have w2 := w.2
        have w3 : ¬ N 83 (N 109 i) = N 110 i := by rw [w1, w2, h3 _ q1'.1 q1'.2]; exact c
        rw [B_X12_looked_2, qif_f (by omega), B_X12_looked_10 i0 i8 (by omega) (by omega), qif_f w3, B_X12_looked_30]
theorem step_looked {M : qMem} (h : qInv M) : qStep S_X11_looked S_X12_looked [] M := by
  have hb := iBok h
  obtain ⟨v, r1, r2⟩ := lX11_looked hb (M 43 3).toNat 0 (by have := hb.2.1; omega)
  refine qStep_r (v := qI v) h ?_ ?_
  · rw [E_X11_looked, B_X11_looked_0]
    exact r1
  · rw [E_X12_looked, B_X12_looked_0]
    exact r2 M hb.2.2.1 (fun i a b => (hb.2.2.2 i a b).2) (fun k a b => h.2.1.1.2.2.1 k a b)
theorem qG75 {x : Int} (h0 : 0 ≤ x) (h1 : x < 6) : qG0 75 x = 76 + x := by
  have e : x = 0 ∨ x = 1 ∨ x = 2 ∨ x = 3 ∨ x = 4 ∨ x = 5 := by omega
  rcases e with rfl | rfl | rfl | rfl | rfl | rfl <;> rfl
theorem qG75t {M : qMem} {x : Int} (h0 : 0 ≤ x) (h1 : x < 6) : qty (qH0 M) (qG0 75 x) = (103, 60) := by
  have e : x = 0 ∨ x = 1 ∨ x = 2 ∨ x = 3 ∨ x = 4 ∨ x = 5 := by omega
  rcases e with rfl | rfl | rfl | rfl | rfl | rfl <;> rfl
theorem step_read {M : qMem} {x i : Int} (h : qInv M) : qStep S_X11_read S_X12_read [qI x, qI i] M := by
  by_cases c : 0 ≤ x ∧ x < 6
  · have x0 := c.1
    have x6 := c.2
    obtain ⟨t1, t2, t3⟩ := iTps h x c.1 c.2
    have P1 := sX11_isTape_y (M := M) c
    have P2 := sX12_isTape_y (M := M) c
    by_cases d : 0 ≤ M 73 x
    · obtain ⟨u1, u2, u3⟩ := t3 d
      have e1 : ksub (M 127 x) 1 = M 74 x - 1 := by rw [u1, ksub_eq (by omega) (by omega)]
      by_cases b : 0 ≤ i ∧ i < M 74 x
      · have e2 : kadd (kmul 60 x) i = 60 * x + i := by rw [kmul_eq (by omega) (by omega), kadd_eq (by omega) (by omega)]
        have q := u3 i b.1 b.2
        refine qStep_r (v := qJ (M (76 + x) i)) h ?_ ?_
        · have k := B_X11_read_35 (M := M) x0 x6 (qG75t x0 x6) b.1 (by omega)
          rw [qG75 x0 x6] at k
          rw [← k, E_X11_read]
          simp (disch := first | assumption | omega) only [B_X11_read_0, B_X11_read_4, B_X11_read_7, B_X11_read_17, B_X11_read_21, not_true_eq_false, not_false_eq_true, if_true, if_false, qlk, qtk, qif_t, qif_f, qbd_some, Option.toList_some, Option.toList_none, List.cons_append, List.nil_append, List.append_nil, P1]
        · have k := B_X12_read_40 (M := M) (x1 := x) (x2 := i) (by rw [e2]; omega) (by rw [e2]; omega)
          rw [e2, q] at k
          rw [← B_X12_read_51 (M := M) (x1 := x) (x2 := i), ← k, E_X12_read]
          simp (disch := first | assumption | omega) only [B_X12_read_0, B_X12_read_5, B_X12_read_8, B_X12_read_17, B_X12_read_31, not_true_eq_false, not_false_eq_true, if_true, if_false, qlk, qtk, qif_t, qif_f, qbd_some, Option.toList_some, Option.toList_none, List.cons_append, List.nil_append, List.append_nil, P2, e1, sX12_in_y]
      · refine qStep_r (v := qJ (-9223372036854775808)) h ?_ ?_
        · by_cases b2 : i < 0
          · simp (disch := first | assumption | omega) only [E_X11_read, B_X11_read_0, B_X11_read_4, B_X11_read_7, B_X11_read_17, B_X11_read_21, B_X11_read_31, B_X11_read_35, not_true_eq_false, not_false_eq_true, if_true, if_false, qlk, qtk, qif_t, qif_f, qbd_some, Option.toList_some, Option.toList_none, List.cons_append, List.nil_append, List.append_nil, P1]
          · simp (disch := first | assumption | omega) only [E_X11_read, B_X11_read_0, B_X11_read_4, B_X11_read_7, B_X11_read_17, B_X11_read_21, B_X11_read_31, B_X11_read_35, not_true_eq_false, not_false_eq_true, if_true, if_false, qlk, qtk, qif_t, qif_f, qbd_some, Option.toList_some, Option.toList_none, List.cons_append, List.nil_append, List.append_nil, P1]
        · simp (disch := first | assumption | omega) only [E_X12_read, B_X12_read_0, B_X12_read_5, B_X12_read_8, B_X12_read_17, B_X12_read_31, B_X12_read_34, B_X12_read_40, B_X12_read_51, not_true_eq_false, not_false_eq_true, if_true, if_false, qlk, qtk, qif_t, qif_f, qbd_some, Option.toList_some, Option.toList_none, List.cons_append, List.nil_append, List.append_nil, P2, e1, sX12_in_n]
    · refine qStep_r (v := qJ (-9223372036854775808)) h ?_ ?_
      · simp (disch := first | assumption | omega) only [E_X11_read, B_X11_read_0, B_X11_read_4, B_X11_read_7, B_X11_read_17, B_X11_read_21, B_X11_read_31, B_X11_read_35, not_true_eq_false, not_false_eq_true, if_true, if_false, qlk, qtk, qif_t, qif_f, qbd_some, Option.toList_some, Option.toList_none, List.cons_append, List.nil_append, List.append_nil, P1]
      · simp (disch := first | assumption | omega) only [E_X12_read, B_X12_read_0, B_X12_read_5, B_X12_read_8, B_X12_read_17, B_X12_read_31, B_X12_read_34, B_X12_read_40, B_X12_read_51, not_true_eq_false, not_false_eq_true, if_true, if_false, qlk, qtk, qif_t, qif_f, qbd_some, Option.toList_some, Option.toList_none, List.cons_append, List.nil_append, List.append_nil, P2]
  · have P1 := sX11_isTape_n (M := M) c
    have P2 := sX12_isTape_n (M := M) c
    refine qStep_r (v := qJ (-9223372036854775808)) h ?_ ?_
    · simp (disch := first | assumption | omega) only [E_X11_read, B_X11_read_0, B_X11_read_4, B_X11_read_7, B_X11_read_17, B_X11_read_21, B_X11_read_31, B_X11_read_35, not_true_eq_false, not_false_eq_true, if_true, if_false, qlk, qtk, qif_t, qif_f, qbd_some, Option.toList_some, Option.toList_none, List.cons_append, List.nil_append, List.append_nil, P1]
    · simp (disch := first | assumption | omega) only [E_X12_read, B_X12_read_0, B_X12_read_5, B_X12_read_8, B_X12_read_17, B_X12_read_31, B_X12_read_34, B_X12_read_40, B_X12_read_51, not_true_eq_false, not_false_eq_true, if_true, if_false, qlk, qtk, qif_t, qif_f, qbd_some, Option.toList_some, Option.toList_none, List.cons_append, List.nil_append, List.append_nil, P2]
