/-! taken, judge -/
def fTk (k x : Int) : Int := if x = 0 ∨ k = x ∨ (x = 1 ∧ k = 4) ∨ (x = 2 ∧ k = 5) ∨ (x = 3 ∧ k = 6) then k else -12
theorem kt0 : qKT.getD (Int.toNat 0) 0 = -1 := rfl
theorem kt1 : qKT.getD (Int.toNat 1) 0 = 0 := rfl
theorem kt2 : qKT.getD (Int.toNat 2) 0 = 0 := rfl
theorem kt3 : qKT.getD (Int.toNat 3) 0 = 0 := rfl
theorem kt4 : qKT.getD (Int.toNat 4) 0 = 1 := rfl
theorem kt5 : qKT.getD (Int.toNat 5) 0 = 2 := rfl
theorem kt6 : qKT.getD (Int.toNat 6) 0 = 3 := rfl
theorem lX11_taken {M : qMem} {p k x : Int} (hk : 0 ≤ k ∧ k ≤ 6) (hx : 0 ≤ x ∧ x ≤ 6) : qlim C_X11_taken (39, [some (qA 0), some (qI p), some (qI x), some (qI k), some (qI k), some (qI 0)], [], qH0 M) = some (some (qI (fTk k x)), qH0 M) := by
  have a1 : kadd 0 1 = 1 := rfl
  have a2 : kadd 1 1 = 2 := rfl
  have a3 : kadd 2 1 = 3 := rfl
  have ek : k = 0 ∨ k = 1 ∨ k = 2 ∨ k = 3 ∨ k = 4 ∨ k = 5 ∨ k = 6 := by omega
  have ex : x = 0 ∨ x = 1 ∨ x = 2 ∨ x = 3 ∨ x = 4 ∨ x = 5 ∨ x = 6 := by omega
  rcases ek with rfl | rfl | rfl | rfl | rfl | rfl | rfl <;> rcases ex with rfl | rfl | rfl | rfl | rfl | rfl | rfl <;> (simp (disch := first | assumption | omega) only [B_X11_taken_39, B_X11_taken_46, B_X11_taken_51, B_X11_taken_57, B_X11_taken_59, B_X11_taken_73, not_true_eq_false, not_false_eq_true, if_true, if_false, qlk, qtk, qif_t, qif_f, qbd_some, Option.toList_some, Option.toList_none, List.cons_append, List.nil_append, List.append_nil, kt0, kt1, kt2, kt3, kt4, kt5, kt6, a1, a2, a3, Int.reduceEq, Int.reduceLT, Int.reduceLE, Int.reduceNeg]; first | done | rfl)
theorem lX12_taken {M : qMem} {p k x : Int} : (if x = 0 then qlim C_X12_taken (72, [some (qA 82), some (qI p), some (qI x), some (qI k)], [], qH0 M) else qlim C_X12_taken (36, [some (qA 82), some (qI p), some (qI x), some (qI k)], [], qH0 M)) = some (some (qI (fTk k x)), qH0 M) := by
  have y : qlim C_X12_taken (72, [some (qA 82), some (qI p), some (qI x), some (qI k)], [], qH0 M) = some (some (qI k), qH0 M) := by rw [B_X12_taken_72, B_X12_taken_78]
  have n : qlim C_X12_taken (76, [some (qA 82), some (qI p), some (qI x), some (qI k)], [], qH0 M) = some (some (qI (-12)), qH0 M) := by rw [B_X12_taken_76, B_X12_taken_78]
  unfold fTk
  by_cases c0 : x = 0
  · rw [if_pos c0, if_pos (Or.inl c0), y]
  · rw [if_neg c0, B_X12_taken_36]
    by_cases c1 : k = x
    · rw [qif_t c1, y, if_pos (by omega)]
    · rw [qif_f c1, B_X12_taken_41]
      by_cases c2 : x = 1
      · rw [qif_f (fun q => q c2), B_X12_taken_46]
        by_cases c3 : k = 4
        · rw [qif_t c3, y, if_pos (by omega)]
        · rw [qif_f c3, B_X12_taken_51, qif_t (by omega), B_X12_taken_61, qif_t (by omega), n, if_neg (by omega)]
      · rw [qif_t c2, B_X12_taken_51]
        by_cases c4 : x = 2
        · rw [qif_f (fun q => q c4), B_X12_taken_56]
          by_cases c5 : k = 5
          · rw [qif_t c5, y, if_pos (by omega)]
          · rw [qif_f c5, B_X12_taken_61, qif_t (by omega), n, if_neg (by omega)]
        · rw [qif_t c4, B_X12_taken_61]
          by_cases c6 : x = 3
          · rw [qif_f (fun q => q c6), B_X12_taken_66]
            by_cases c7 : k = 6
            · rw [qif_f (fun q => q c7), y, if_pos (by omega)]
            · rw [qif_t c7, n, if_neg (by omega)]
          · rw [qif_t c6, n, if_neg (by omega)]
theorem step_taken {M : qMem} {p x : Int} (h : qInv M) : qStep S_X11_taken S_X12_taken [qI p, qI x] M := by
  have h6 := h.1.1.2.1
  have n0 := h.2.1.1.1.1
  by_cases cx : 0 ≤ x ∧ x ≤ 6
  · have a1 := sX11_isIn_y (M := M) cx
    have a2 := sX12_in_y (M := M) cx
    by_cases c : 0 ≤ p ∧ p < M 12 10
    · have p6 : p < 6 := by omega
      have p0 := c.1
      have P1 := sX11_isPerson_y (M := M) c
      have P2 := sX12_isPerson_y (M := M) (a := p) (by omega) (by omega) (by omega)
      have hk := (h.1.1.2.2.2.2.1 p c.1 p6).1
      have e1 : M 84 p = M 14 p := (h.2.1.1.2.2.2.1 p c.1 p6).1
      refine qStep_r (v := qI (fTk (M 14 p) x)) h ?_ ?_
      · rw [← lX11_taken (M := M) (p := p) (k := M 14 p) (x := x) hk cx, E_X11_taken]
        simp (disch := first | assumption | omega) only [B_X11_taken_0, B_X11_taken_6, B_X11_taken_12, B_X11_taken_17, B_X11_taken_23, not_true_eq_false, not_false_eq_true, if_true, if_false, qlk, qtk, qif_t, qif_f, qbd_some, Option.toList_some, Option.toList_none, List.cons_append, List.nil_append, List.append_nil, a1, P1]
      · rw [← lX12_taken (M := M) (p := p) (k := M 14 p) (x := x), E_X12_taken, B_X12_taken_0, a2, qbd_some]
        show qlim C_X12_taken (8, [some (qA 82), some (qI p), some (qI x), none], [qI 1], qH0 M) = _
        rw [B_X12_taken_8, qif_t (by omega), B_X12_taken_14, P2, qbd_some]
        show qlim C_X12_taken (19, [some (qA 82), some (qI p), some (qI x), none], [qI 1], qH0 M) = _
        rw [B_X12_taken_19, qif_t (by omega), B_X12_taken_25 p0 p6, e1]
        by_cases c0 : x = 0
        · rw [qif_t c0, if_pos c0]
        · rw [qif_f c0, if_neg c0]
    · have P1 := sX11_isPerson_n (M := M) c
      have P2 := sX12_isPerson_n (M := M) (a := p) (by omega) (by omega) (by omega)
      refine qStep_r (v := qI (-11)) h ?_ ?_
      · rw [E_X11_taken]
        simp (disch := first | assumption | omega) only [B_X11_taken_0, B_X11_taken_6, B_X11_taken_12, B_X11_taken_17, B_X11_taken_20, not_true_eq_false, not_false_eq_true, if_true, if_false, qlk, qtk, qif_t, qif_f, qbd_some, Option.toList_some, Option.toList_none, List.cons_append, List.nil_append, List.append_nil, a1, P1]
      · rw [E_X12_taken]
        simp (disch := first | assumption | omega) only [B_X12_taken_0, B_X12_taken_8, B_X12_taken_14, B_X12_taken_19, B_X12_taken_22, not_true_eq_false, not_false_eq_true, if_true, if_false, qlk, qtk, qif_t, qif_f, qbd_some, Option.toList_some, Option.toList_none, List.cons_append, List.nil_append, List.append_nil, a2, P2]
  · have a1 := sX11_isIn_n (M := M) cx
    have a2 := sX12_in_n (M := M) cx
    refine qStep_r (v := qI (-2)) h ?_ ?_
    · rw [E_X11_taken]
      simp (disch := first | assumption | omega) only [B_X11_taken_0, B_X11_taken_6, B_X11_taken_9, not_true_eq_false, not_false_eq_true, if_true, if_false, qlk, qtk, qif_t, qif_f, qbd_some, Option.toList_some, Option.toList_none, List.cons_append, List.nil_append, List.append_nil, a1]
    · rw [E_X12_taken]
      simp (disch := first | assumption | omega) only [B_X12_taken_0, B_X12_taken_8, B_X12_taken_11, not_true_eq_false, not_false_eq_true, if_true, if_false, qlk, qtk, qif_t, qif_f, qbd_some, Option.toList_some, Option.toList_none, List.cons_append, List.nil_append, List.append_nil, a2]
theorem l_judge {M : qMem} {x i : Int} (h : qInv M) (x0 : 0 ≤ x) (x6 : x < 6) (h2 : M 73 x = 2) (i0 : 0 ≤ i) (i1 : i ≤ 2147483647) : ∀ (d k : Nat), k + d = 5 → ∃ v : Int, qlim C_X11_judge (44, [some (qA 0), some (qI x), some (qI i), some (qI k)], [], qH0 M) = some (some (qI v), qH0 M) ∧ qlim C_X12_judge (34, [some (qA 82), some (qI x), some (qI i), some (qI k)], [], qH0 M) = some (some (qI v), qH0 M)
  | 0, k, hk => by
    refine ⟨-5, ?_, ?_⟩
    · simp (disch := first | assumption | omega) only [B_X11_judge_44, B_X11_judge_98, not_true_eq_false, not_false_eq_true, if_true, if_false, qlk, qtk, qif_t, qif_f, qbd_some, Option.toList_some, Option.toList_none, List.cons_append, List.nil_append, List.append_nil]
    · simp (disch := first | assumption | omega) only [B_X12_judge_34, B_X12_judge_103, not_true_eq_false, not_false_eq_true, if_true, if_false, qlk, qtk, qif_t, qif_f, qbd_some, Option.toList_some, Option.toList_none, List.cons_append, List.nil_append, List.append_nil]
  | d + 1, k, hk => by
    obtain ⟨t1, t2, t3⟩ := iTps h x x0 x6
    obtain ⟨u1, u2, u3⟩ := t3 (by omega)
    have e1 : ksub (M 74 x) k = M 74 x - k := ksub_eq (by omega) (by omega)
    have e2 : ksub (ksub (M 127 x) k) 1 = M 74 x - k - 1 := by rw [u1, e1, ksub_eq (by omega) (by omega)]
    have e3 : kadd (k : Int) 1 = ((k + 1 : Nat) : Int) := by rw [kadd_eq (by omega) (by omega)]; omega
    by_cases c : i < M 74 x - k
    · have e4 : kadd i k = i + k := kadd_eq (by omega) (by omega)
      have e5 : kadd (kadd (kmul 60 x) i) k = 60 * x + (i + k) := by rw [kmul_eq (by omega) (by omega), kadd_eq (a := 60 * x) (by omega) (by omega), kadd_eq (by omega) (by omega)]; omega
      have q := u3 (i + k) (by omega) (by omega)
      have e6 : M 83 k = M 13 k := h.2.1.1.2.2.1 k (by omega) (by omega)
      have s1 := B_X11_judge_66 (M := M) (x1 := x) (x2 := i) (x3 := k) x0 x6 (qG75t x0 x6) (by rw [e4]; omega) (by rw [e4]; omega) (by omega) (by omega)
      have s2 := B_X12_judge_71 (M := M) (x1 := x) (x2 := i) (x3 := k) (by rw [e5]; omega) (by rw [e5]; omega) (by omega) (by omega)
      rw [e4, qG75 x0 x6] at s1
      rw [e5, q, e6] at s2
      have r1 : qlim C_X11_judge (44, [some (qA 0), some (qI x), some (qI i), some (qI k)], [], qH0 M) = qlim C_X11_judge (66, [some (qA 0), some (qI x), some (qI i), some (qI k)], [], qH0 M) := by
        rw [B_X11_judge_44, qif_f (by omega), B_X11_judge_49 x0 x6, e1, qif_t c]
      have r2 : qlim C_X12_judge (34, [some (qA 82), some (qI x), some (qI i), some (qI k)], [], qH0 M) = qlim C_X12_judge (71, [some (qA 82), some (qI x), some (qI i), some (qI k)], [], qH0 M) := by
        rw [B_X12_judge_34, qif_f (by omega), B_X12_judge_39 x0 x6, qif_f (by omega), B_X12_judge_48, qif_f (by omega), B_X12_judge_52 x0 x6, e2, qif_t (by omega)]
      by_cases z : jcmp (M (76 + x) (i + k)) (ki2l (M 13 k)) = 0
      · obtain ⟨v, w1, w2⟩ := l_judge h x0 x6 h2 i0 i1 d (k + 1) (by omega)
        refine ⟨v, ?_, ?_⟩
        · rw [r1, s1, qif_t z, B_X11_judge_92, e3]
          exact w1
        · rw [r2, s2, qif_t z, B_X12_judge_97, e3]
          exact w2
      · refine ⟨k, ?_, ?_⟩
        · rw [r1, s1, qif_f z, B_X11_judge_90]
        · rw [r2, s2, qif_f z, B_X12_judge_95]
    · refine ⟨kadd 100 k, ?_, ?_⟩
      · rw [B_X11_judge_44, qif_f (by omega), B_X11_judge_49 x0 x6, e1, qif_f c, B_X11_judge_61]
      · rw [B_X12_judge_34, qif_f (by omega), B_X12_judge_39 x0 x6, qif_f (by omega), B_X12_judge_48, qif_f (by omega), B_X12_judge_52 x0 x6, e2, qif_f (by omega), B_X12_judge_66]
theorem step_judge {M : qMem} {x i : Int} (h : qInv M) (i1 : i ≤ 2147483647) : qStep S_X11_judge S_X12_judge [qI x, qI i] M := by
  by_cases c : 0 ≤ x ∧ x < 6
  · have x0 := c.1
    have x6 := c.2
    obtain ⟨t1, t2, t3⟩ := iTps h x c.1 c.2
    have P1 := sX11_isTape_y (M := M) c
    have P2 := sX12_isTape_y (M := M) c
    have e100 : kadd 100 0 = 100 := rfl
    by_cases d : 0 ≤ M 73 x
    · by_cases d2 : M 73 x = 2
      · by_cases i0 : 0 ≤ i
        · obtain ⟨v, w1, w2⟩ := l_judge h x0 x6 d2 i0 i1 5 0 (by omega)
          refine qStep_r (v := qI v) h ?_ ?_
          · rw [← w1, E_X11_judge]
            simp (disch := first | assumption | omega) only [B_X11_judge_0, B_X11_judge_4, B_X11_judge_9, B_X11_judge_22, B_X11_judge_35, B_X11_judge_42, not_true_eq_false, not_false_eq_true, if_true, if_false, qlk, qtk, qif_t, qif_f, qbd_some, Option.toList_some, Option.toList_none, List.cons_append, List.nil_append, List.append_nil, P1]
            rfl
          · rw [← w2, E_X12_judge]
            simp (disch := first | assumption | omega) only [B_X12_judge_0, B_X12_judge_5, B_X12_judge_10, B_X12_judge_19, B_X12_judge_32, not_true_eq_false, not_false_eq_true, if_true, if_false, qlk, qtk, qif_t, qif_f, qbd_some, Option.toList_some, Option.toList_none, List.cons_append, List.nil_append, List.append_nil, P2]
            rfl
        · refine qStep_r (v := qI 100) h ?_ ?_
          · simp (disch := first | assumption | omega) only [B_X11_judge_0, B_X11_judge_4, B_X11_judge_9, B_X11_judge_22, B_X11_judge_35, B_X11_judge_39, E_X11_judge, B_X11_judge_0, B_X11_judge_4, B_X11_judge_7, B_X11_judge_9, B_X11_judge_19, B_X11_judge_22, B_X11_judge_32, B_X11_judge_35, B_X11_judge_39, B_X11_judge_42, B_X11_judge_44, B_X11_judge_49, B_X11_judge_61, B_X11_judge_66, B_X11_judge_90, B_X11_judge_92, B_X11_judge_98, not_true_eq_false, not_false_eq_true, if_true, if_false, qlk, qtk, qif_t, qif_f, qbd_some, Option.toList_some, Option.toList_none, List.cons_append, List.nil_append, List.append_nil, P1]
          · simp (disch := first | assumption | omega) only [B_X12_judge_0, B_X12_judge_5, B_X12_judge_10, B_X12_judge_19, B_X12_judge_32, B_X12_judge_34, B_X12_judge_39, B_X12_judge_48, B_X12_judge_66, E_X12_judge, B_X12_judge_0, B_X12_judge_5, B_X12_judge_8, B_X12_judge_10, B_X12_judge_19, B_X12_judge_29, B_X12_judge_32, B_X12_judge_34, B_X12_judge_39, B_X12_judge_48, B_X12_judge_52, B_X12_judge_66, B_X12_judge_71, B_X12_judge_95, B_X12_judge_97, B_X12_judge_103, not_true_eq_false, not_false_eq_true, if_true, if_false, qlk, qtk, qif_t, qif_f, qbd_some, Option.toList_some, Option.toList_none, List.cons_append, List.nil_append, List.append_nil, P2, e100]
      · refine qStep_r (v := qI (-12)) h ?_ ?_
        · simp (disch := first | assumption | omega) only [E_X11_judge, B_X11_judge_0, B_X11_judge_4, B_X11_judge_7, B_X11_judge_9, B_X11_judge_19, B_X11_judge_22, B_X11_judge_32, B_X11_judge_35, B_X11_judge_39, B_X11_judge_42, B_X11_judge_44, B_X11_judge_49, B_X11_judge_61, B_X11_judge_66, B_X11_judge_90, B_X11_judge_92, B_X11_judge_98, not_true_eq_false, not_false_eq_true, if_true, if_false, qlk, qtk, qif_t, qif_f, qbd_some, Option.toList_some, Option.toList_none, List.cons_append, List.nil_append, List.append_nil, P1]
        · simp (disch := first | assumption | omega) only [E_X12_judge, B_X12_judge_0, B_X12_judge_5, B_X12_judge_8, B_X12_judge_10, B_X12_judge_19, B_X12_judge_29, B_X12_judge_32, B_X12_judge_34, B_X12_judge_39, B_X12_judge_48, B_X12_judge_52, B_X12_judge_66, B_X12_judge_71, B_X12_judge_95, B_X12_judge_97, B_X12_judge_103, not_true_eq_false, not_false_eq_true, if_true, if_false, qlk, qtk, qif_t, qif_f, qbd_some, Option.toList_some, Option.toList_none, List.cons_append, List.nil_append, List.append_nil, P2]
    · refine qStep_r (v := qI 100) h ?_ ?_
      · simp (disch := first | assumption | omega) only [E_X11_judge, B_X11_judge_0, B_X11_judge_4, B_X11_judge_7, B_X11_judge_9, B_X11_judge_19, B_X11_judge_22, B_X11_judge_32, B_X11_judge_35, B_X11_judge_39, B_X11_judge_42, B_X11_judge_44, B_X11_judge_49, B_X11_judge_61, B_X11_judge_66, B_X11_judge_90, B_X11_judge_92, B_X11_judge_98, not_true_eq_false, not_false_eq_true, if_true, if_false, qlk, qtk, qif_t, qif_f, qbd_some, Option.toList_some, Option.toList_none, List.cons_append, List.nil_append, List.append_nil, P1]
      · simp (disch := first | assumption | omega) only [E_X12_judge, B_X12_judge_0, B_X12_judge_5, B_X12_judge_8, B_X12_judge_10, B_X12_judge_19, B_X12_judge_29, B_X12_judge_32, B_X12_judge_34, B_X12_judge_39, B_X12_judge_48, B_X12_judge_52, B_X12_judge_66, B_X12_judge_71, B_X12_judge_95, B_X12_judge_97, B_X12_judge_103, not_true_eq_false, not_false_eq_true, if_true, if_false, qlk, qtk, qif_t, qif_f, qbd_some, Option.toList_some, Option.toList_none, List.cons_append, List.nil_append, List.append_nil, P2, e100]
  · have P1 := sX11_isTape_n (M := M) c
    have P2 := sX12_isTape_n (M := M) c
    refine qStep_r (v := qI (-1)) h ?_ ?_
    · simp (disch := first | assumption | omega) only [E_X11_judge, B_X11_judge_0, B_X11_judge_4, B_X11_judge_7, B_X11_judge_9, B_X11_judge_19, B_X11_judge_22, B_X11_judge_32, B_X11_judge_35, B_X11_judge_39, B_X11_judge_42, B_X11_judge_44, B_X11_judge_49, B_X11_judge_61, B_X11_judge_66, B_X11_judge_90, B_X11_judge_92, B_X11_judge_98, not_true_eq_false, not_false_eq_true, if_true, if_false, qlk, qtk, qif_t, qif_f, qbd_some, Option.toList_some, Option.toList_none, List.cons_append, List.nil_append, List.append_nil, P1]
    · simp (disch := first | assumption | omega) only [E_X12_judge, B_X12_judge_0, B_X12_judge_5, B_X12_judge_8, B_X12_judge_10, B_X12_judge_19, B_X12_judge_29, B_X12_judge_32, B_X12_judge_34, B_X12_judge_39, B_X12_judge_48, B_X12_judge_52, B_X12_judge_66, B_X12_judge_71, B_X12_judge_95, B_X12_judge_97, B_X12_judge_103, not_true_eq_false, not_false_eq_true, if_true, if_false, qlk, qtk, qif_t, qif_f, qbd_some, Option.toList_some, Option.toList_none, List.cons_append, List.nil_append, List.append_nil, P2]
