/-! calls that change the state now -/
theorem qup_same {M : qMem} {a k v : Int} (h : M a k = v) : qup M a k v = M := by
  subst h
  exact qup_id
theorem qInv_edit {M1 M2 : qMem} (n1 : qNow M1) (r : qMN M2 M1) (u1 : qAg D1 M2 M1) (rest : qRest M2) : qInv M2 := ⟨qNow_g n1 u1, qMN_a r n1 u1, rest⟩
theorem step_heap {M : qMem} {p w : Int} (h : qInv M) : qStep S_X11_heap S_X12_heap [qI p, qI w] M := by
  by_cases c : 0 ≤ p ∧ p < 5
  · by_cases d : 0 ≤ w ∧ w ≤ 9999
    · have c1 := c.1
      have c2 := c.2
      have n1 : qNow (qup M 13 p w) := qNow_y h.1 (Or.inl ⟨rfl, c, d⟩)
      have m1 : qMN (qup M 13 p w) M := qMN_n h.2.1 (qAg_up qAg_r (by unfold D2; omega))
      have r : qMN (qup (qup M 13 p w) 83 p w) (qup M 13 p w) := ⟨qRS_heap (o := 12) m1.1 h.1.1, m1.2⟩
      have e : qup M 13 p w 83 p = M 13 p := by rw [qup_ne (by omega)]; exact h.2.1.1.2.2.1 p c.1 c.2
      refine ⟨qI (M 13 p), qup M 13 p w, qup (qup M 13 p w) 83 p w, ?_, ?_, qInv_edit n1 r (qAg_up qAg_r (by unfold D1; omega)) (qRest_g h.2.2 (qAg_up (qAg_up qAg_r (by unfold DR; omega)) (by unfold DR; omega)))⟩
      · simp (disch := first | assumption | omega) only [E_X11_heap, B_X11_heap_0, B_X11_heap_4, B_X11_heap_7, B_X11_heap_9, B_X11_heap_16, B_X11_heap_19, B_X11_heap_22, not_true_eq_false, not_false_eq_true, if_true, if_false, qlk, qtk, qif_t, qif_f, qbd_some, Option.toList_some, Option.toList_none, List.cons_append, List.nil_append, List.append_nil, sX11_isHeap_y, sX11_isIn_y]
      · simp (disch := first | assumption | omega) only [E_X12_heap, B_X12_heap_0, B_X12_heap_5, B_X12_heap_8, B_X12_heap_10, B_X12_heap_15, B_X12_heap_18, B_X12_heap_21, not_true_eq_false, not_false_eq_true, if_true, if_false, qlk, qtk, qif_t, qif_f, qbd_some, Option.toList_some, Option.toList_none, List.cons_append, List.nil_append, List.append_nil, sX12_isHeap_y, sX12_isLetters_y, e]
    · refine qStep_r (v := qI (-2)) h ?_ ?_
      · simp (disch := first | assumption | omega) only [E_X11_heap, B_X11_heap_0, B_X11_heap_4, B_X11_heap_7, B_X11_heap_9, B_X11_heap_16, B_X11_heap_19, B_X11_heap_22, not_true_eq_false, not_false_eq_true, if_true, if_false, qlk, qtk, qif_t, qif_f, qbd_some, Option.toList_some, Option.toList_none, List.cons_append, List.nil_append, List.append_nil, sX11_isHeap_y, sX11_isIn_n]
      · simp (disch := first | assumption | omega) only [E_X12_heap, B_X12_heap_0, B_X12_heap_5, B_X12_heap_8, B_X12_heap_10, B_X12_heap_15, B_X12_heap_18, B_X12_heap_21, not_true_eq_false, not_false_eq_true, if_true, if_false, qlk, qtk, qif_t, qif_f, qbd_some, Option.toList_some, Option.toList_none, List.cons_append, List.nil_append, List.append_nil, sX12_isHeap_y, sX12_isLetters_n]
  · refine qStep_r (v := qI (-1)) h ?_ ?_
    · simp (disch := first | assumption | omega) only [E_X11_heap, B_X11_heap_0, B_X11_heap_4, B_X11_heap_7, B_X11_heap_9, B_X11_heap_16, B_X11_heap_19, B_X11_heap_22, not_true_eq_false, not_false_eq_true, if_true, if_false, qlk, qtk, qif_t, qif_f, qbd_some, Option.toList_some, Option.toList_none, List.cons_append, List.nil_append, List.append_nil, sX11_isHeap_n]
    · simp (disch := first | assumption | omega) only [E_X12_heap, B_X12_heap_0, B_X12_heap_5, B_X12_heap_8, B_X12_heap_10, B_X12_heap_15, B_X12_heap_18, B_X12_heap_21, not_true_eq_false, not_false_eq_true, if_true, if_false, qlk, qtk, qif_t, qif_f, qbd_some, Option.toList_some, Option.toList_none, List.cons_append, List.nil_append, List.append_nil, sX12_isHeap_n]
theorem step_work {M : qMem} {p w : Int} (h : qInv M) : qStep S_X11_work S_X12_work [qI p, qI w] M := by
  have h6 := h.1.1.2.1
  have n0 := h.2.1.1.1.1
  by_cases c : 0 ≤ p ∧ p < M 12 10
  · have P1 := sX11_isPerson_y (M := M) c
    by_cases d : 0 ≤ w ∧ w < 4
    · have p0 := c.1
      have p6 : p < 6 := by omega
      have n1 : qNow (qup M 16 p w) := ⟨qSF_up (o := 12) (c := 4) h.1.1 (by omega) (by omega) (fun _ => by omega) (by omega) (by omega) (by omega), qSV_row h.1.2.1 (qup_ne (by omega)) (qup_ne (by omega)) (qup_row (by omega)) (qup_row (by omega)) (qup_row (by omega)), by rw [qup_ne (by omega)]; exact h.1.2.2.1, by rw [qup_ne (by omega)]; exact h.1.2.2.2.1, by rw [qup_ne (by omega)]; exact h.1.2.2.2.2⟩
      have m1 : qMN (qup M 16 p w) M := qMN_n h.2.1 (qAg_up qAg_r (by unfold D2; omega))
      have r : qMN (qup (qup M 16 p w) 86 p w) (qup M 16 p w) := ⟨qRS_work (o := 12) m1.1 h.1.1, by rw [qup_ne (by omega)]; exact m1.2.1, by rw [qup_ne (by omega)]; exact m1.2.2.1, by rw [qup_ne (by omega)]; exact m1.2.2.2⟩
      have e : qup M 16 p w 86 p = M 16 p := by rw [qup_ne (by omega)]; exact (h.2.1.1.2.2.2.1 p c.1 p6).2.2.1
      have e0 : qup M 16 p w 82 0 = M 82 0 := qup_ne (by omega)
      have P2 := sX12_isPerson_y (M := qup M 16 p w) (a := p) (by omega) (by omega) (by omega)
      refine ⟨qI (M 16 p), qup M 16 p w, qup (qup M 16 p w) 86 p w, ?_, ?_, qInv_edit n1 r (qAg_up qAg_r (by unfold D1; omega)) (qRest_g h.2.2 (qAg_up (qAg_up qAg_r (by unfold DR; omega)) (by unfold DR; omega)))⟩
      · simp (disch := first | assumption | omega) only [E_X11_work, B_X11_work_0, B_X11_work_5, B_X11_work_8, B_X11_work_12, B_X11_work_15, B_X11_work_17, not_true_eq_false, not_false_eq_true, if_true, if_false, qlk, qtk, qif_t, qif_f, qbd_some, Option.toList_some, Option.toList_none, List.cons_append, List.nil_append, List.append_nil, P1, sX11_isWork_y]
      · simp (disch := first | assumption | omega) only [E_X12_work, B_X12_work_0, B_X12_work_5, B_X12_work_8, B_X12_work_13, B_X12_work_16, B_X12_work_18, not_true_eq_false, not_false_eq_true, if_true, if_false, qlk, qtk, qif_t, qif_f, qbd_some, Option.toList_some, Option.toList_none, List.cons_append, List.nil_append, List.append_nil, P2, sX12_isWork_y, e]
    · have P2 := sX12_isPerson_y (M := M) (a := p) (by omega) (by omega) (by omega)
      refine qStep_r (v := qI (-1)) h ?_ ?_
      · simp (disch := first | assumption | omega) only [E_X11_work, B_X11_work_0, B_X11_work_5, B_X11_work_8, B_X11_work_12, B_X11_work_15, B_X11_work_17, not_true_eq_false, not_false_eq_true, if_true, if_false, qlk, qtk, qif_t, qif_f, qbd_some, Option.toList_some, Option.toList_none, List.cons_append, List.nil_append, List.append_nil, P1, sX11_isWork_n]
      · simp (disch := first | assumption | omega) only [E_X12_work, B_X12_work_0, B_X12_work_5, B_X12_work_8, B_X12_work_13, B_X12_work_16, B_X12_work_18, not_true_eq_false, not_false_eq_true, if_true, if_false, qlk, qtk, qif_t, qif_f, qbd_some, Option.toList_some, Option.toList_none, List.cons_append, List.nil_append, List.append_nil, P2, sX12_isWork_n]
  · have P1 := sX11_isPerson_n (M := M) c
    have P2 := sX12_isPerson_n (M := M) (a := p) (by omega) (by omega) (by omega)
    refine qStep_r (v := qI (-1)) h ?_ ?_
    · simp (disch := first | assumption | omega) only [E_X11_work, B_X11_work_0, B_X11_work_5, B_X11_work_8, B_X11_work_12, B_X11_work_15, B_X11_work_17, not_true_eq_false, not_false_eq_true, if_true, if_false, qlk, qtk, qif_t, qif_f, qbd_some, Option.toList_some, Option.toList_none, List.cons_append, List.nil_append, List.append_nil, P1]
    · simp (disch := first | assumption | omega) only [E_X12_work, B_X12_work_0, B_X12_work_5, B_X12_work_8, B_X12_work_13, B_X12_work_16, B_X12_work_18, not_true_eq_false, not_false_eq_true, if_true, if_false, qlk, qtk, qif_t, qif_f, qbd_some, Option.toList_some, Option.toList_none, List.cons_append, List.nil_append, List.append_nil, P2]
theorem step_home {M : qMem} {p v : Int} (h : qInv M) (hv : v = 0 ∨ v = 1) : qStep S_X11_home S_X12_home [qI p, qI v] M := by
  have h6 := h.1.1.2.1
  have n0 := h.2.1.1.1.1
  by_cases c : 0 ≤ p ∧ p < M 12 10
  · have P1 := sX11_isPerson_y (M := M) c
    have p0 := c.1
    have p6 : p < 6 := by omega
    have g6 : M 20 p = 0 ∨ M 20 p = 1 := (h.1.1.2.2.2.2.1 p c.1 p6).2.2.2
    have n1 : qNow (qup M 20 p v) := ⟨qSF_up (o := 12) (c := 8) h.1.1 (by omega) (by omega) (by omega) (fun _ => hv) (by omega) (by omega), qSV_row h.1.2.1 (qup_ne (by omega)) (qup_ne (by omega)) (qup_row (by omega)) (qup_row (by omega)) (qup_row (by omega)), by rw [qup_ne (by omega)]; exact h.1.2.2.1, by rw [qup_ne (by omega)]; exact h.1.2.2.2.1, by rw [qup_ne (by omega)]; exact h.1.2.2.2.2⟩
    have m1 : qMN (qup M 20 p v) M := qMN_n h.2.1 (qAg_up qAg_r (by unfold D2; omega))
    have e0 : qup M 20 p v 82 0 = M 82 0 := qup_ne (by omega)
    have e2 : qup M 20 p v 82 2 = M 82 2 := qup_ne (by omega)
    have P2 := sX12_isPerson_y (M := qup M 20 p v) (a := p) (by omega) (by omega) (by omega)
    have b2 := h.2.1.1.2.1
    have eb : qBit (M 82 2) p = M 20 p := (h.2.1.1.2.2.2.1 p c.1 p6).2.2.2.2.2
    have sH := sX12_has (M := qup M 20 p v) (a := M 82 2) b2.1 b2.2 p0 p6 g6 eb
    obtain ⟨x, sG, x1, x2⟩ : ∃ x : Int, S_X12_goes [qA 82, qI p, qI v] (qH0 (qup M 20 p v)) = some (none, qH0 (qup (qup M 20 p v) 82 2 x)) ∧ (0 ≤ x ∧ x < 64) ∧ ∀ q : Int, 0 ≤ q → q < 6 → qBit x q = if q = p then v else qBit (qup M 20 p v 82 2) q := by
      rcases hv with rfl | rfl
      · exact sX12_goes_n (by omega) (by omega) p0 p6
      · exact sX12_goes_y (by omega) (by omega) p0 p6
    have r : qMN (qup (qup M 20 p v) 82 2 x) (qup M 20 p v) := ⟨qRS_gone (o := 12) m1.1 h.1.1 x1 x2, by rw [qup_ne (by omega)]; exact m1.2.1, by rw [qup_ne (by omega)]; exact m1.2.2.1, by rw [qup_ne (by omega)]; exact m1.2.2.2⟩
    have z : qZ (qup (qup M 20 p v) 82 2 x) 12 := by
      have zz := (iZ h).1
      intro q q1 q2
      have e10 : qup (qup M 20 p v) 82 2 x 12 10 = M 12 10 := by rw [qup_ne (by omega), qup_ne (by omega)]
      have Z := zz q (by omega) q2
      refine ⟨?_, ?_, ?_, fun i i0 i1 => ?_⟩
      · rw [qup_ne (by omega), qup_ne (by omega)]
        exact Z.1
      · rw [qup_ne (by omega), qup_ne (by omega)]
        exact Z.2.1
      · rw [qup_ne (by omega), qup_ne (by omega)]
        exact Z.2.2.1
      · rw [qup_ne (by omega), qup_ne (by omega)]
        exact Z.2.2.2 i i0 i1
    refine ⟨qI (M 20 p), qup M 20 p v, qup (qup M 20 p v) 82 2 x, ?_, ?_, qInv_edit n1 r (qAg_up qAg_r (by unfold D1; omega)) (qRest_z h.2.2 (qAg_up (qAg_up qAg_r (by unfold DZ; omega)) (by unfold DZ; omega)) (by rw [qup_ne (by omega), qup_ne (by omega)]; omega) z)⟩
    · rw [E_X11_home]
      rcases g6 with g | g
      · rw [g]
        simp (disch := first | assumption | omega) only [B_X11_home_0, B_X11_home_5, B_X11_home_10, B_X11_home_26, B_X11_home_27, not_true_eq_false, not_false_eq_true, if_true, if_false, qlk, qtk, qif_t, qif_f, qbd_some, Option.toList_some, Option.toList_none, List.cons_append, List.nil_append, List.append_nil, P1, g]
      · rw [g]
        simp (disch := first | assumption | omega) only [B_X11_home_0, B_X11_home_5, B_X11_home_10, B_X11_home_22, B_X11_home_27, not_true_eq_false, not_false_eq_true, if_true, if_false, qlk, qtk, qif_t, qif_f, qbd_some, Option.toList_some, Option.toList_none, List.cons_append, List.nil_append, List.append_nil, P1, g]
    · rw [E_X12_home]
      rcases g6 with g | g
      · rw [g] at sH ⊢
        simp (disch := first | assumption | omega) only [B_X12_home_0, B_X12_home_5, B_X12_home_10, B_X12_home_19, B_X12_home_26, B_X12_home_27, B_X12_home_34, not_true_eq_false, not_false_eq_true, if_true, if_false, qlk, qtk, qif_t, qif_f, qbd_some, Option.toList_some, Option.toList_none, List.cons_append, List.nil_append, List.append_nil, P2, e2, sH, sG]
      · rw [g] at sH ⊢
        simp (disch := first | assumption | omega) only [B_X12_home_0, B_X12_home_5, B_X12_home_10, B_X12_home_19, B_X12_home_22, B_X12_home_27, B_X12_home_34, not_true_eq_false, not_false_eq_true, if_true, if_false, qlk, qtk, qif_t, qif_f, qbd_some, Option.toList_some, Option.toList_none, List.cons_append, List.nil_append, List.append_nil, P2, e2, sH, sG]
  · have P1 := sX11_isPerson_n (M := M) c
    have P2 := sX12_isPerson_n (M := M) (a := p) (by omega) (by omega) (by omega)
    refine qStep_r (v := qI (-1)) h ?_ ?_
    · simp (disch := first | assumption | omega) only [E_X11_home, B_X11_home_0, B_X11_home_5, B_X11_home_8, B_X11_home_10, B_X11_home_22, B_X11_home_26, B_X11_home_27, not_true_eq_false, not_false_eq_true, if_true, if_false, qlk, qtk, qif_t, qif_f, qbd_some, Option.toList_some, Option.toList_none, List.cons_append, List.nil_append, List.append_nil, P1]
    · simp (disch := first | assumption | omega) only [E_X12_home, B_X12_home_0, B_X12_home_5, B_X12_home_8, B_X12_home_10, B_X12_home_19, B_X12_home_22, B_X12_home_26, B_X12_home_27, B_X12_home_34, not_true_eq_false, not_false_eq_true, if_true, if_false, qlk, qtk, qif_t, qif_f, qbd_some, Option.toList_some, Option.toList_none, List.cons_append, List.nil_append, List.append_nil, P2]
