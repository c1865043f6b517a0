/-! rows told by hand; signs -/
theorem step_see {M : qMem} {x y w : Int} (h : qInv M) : qStep S_X11_see S_X12_see [qI x, qI y, qI w] M := by
  have S := iSeen h
  obtain ⟨⟨S1, S1'⟩, S2, S3, S4⟩ := S
  by_cases c : x = -1
  · subst c
    have z : qSeen (qup (qup M 39 3 0) 82 37 0) 39 37 104 105 106 := by
      refine ⟨⟨by rw [qup_ne (by omega), qup_ne (by omega)]; exact S1, by rw [qup_ne (by omega), qup_ne (by omega)]; exact S1'⟩, ?_, ?_, fun i a b => ?_⟩
      · rw [qup_ne (by omega), qup_self]
        omega
      · rw [qup_self, qup_ne (by omega), qup_self]
      · rw [qup_ne (by omega), qup_self] at b
        omega
    refine ⟨qI 0, qup M 39 3 0, qup (qup M 39 3 0) 82 37 0, ?_, ?_, qInv_seen h (qAg_up (qAg_up qAg_r (by unfold Ese; omega)) (by unfold Ese; omega)) z⟩
    · simp (disch := first | assumption | omega) only [B_X11_see_0, B_X11_see_5, E_X11_see, B_X11_see_0, B_X11_see_5, B_X11_see_15, B_X11_see_19, B_X11_see_22, B_X11_see_24, B_X11_see_31, B_X11_see_34, B_X11_see_40, B_X11_see_43, B_X11_see_46, B_X11_see_56, not_true_eq_false, not_false_eq_true, if_true, if_false, qlk, qtk, qif_t, qif_f, qbd_some, Option.toList_some, Option.toList_none, List.cons_append, List.nil_append, List.append_nil, Int.reduceNeg]
    · simp (disch := first | assumption | omega) only [B_X12_see_0, B_X12_see_5, E_X12_see, B_X12_see_0, B_X12_see_5, B_X12_see_12, B_X12_see_17, B_X12_see_20, B_X12_see_22, B_X12_see_27, B_X12_see_30, B_X12_see_38, B_X12_see_41, B_X12_see_44, B_X12_see_52, B_X12_see_55, not_true_eq_false, not_false_eq_true, if_true, if_false, qlk, qtk, qif_t, qif_f, qbd_some, Option.toList_some, Option.toList_none, List.cons_append, List.nil_append, List.append_nil, Int.reduceNeg]
  · by_cases cx : 0 ≤ x ∧ x < 5
    · by_cases cy : 0 ≤ y ∧ y ≤ 9999
      · have y1 := sX11_isIn_y (M := M) cy
        by_cases cw : 0 ≤ w ∧ w ≤ 20
        · have w1 := sX11_isIn_y (M := M) cw
          by_cases cf : M 39 3 < 5
          · have s1 := sX6_add3 (M := M) (a := x) (b := y) (c := w) S1 S1' S2.1 cf
            obtain ⟨s, hs⟩ : ∃ s, M 39 3 = s := ⟨_, rfl⟩
            rw [hs] at s1 S2 S3 S4 cf
            obtain ⟨Q, hQ⟩ : ∃ Q : qMem, Q = qup (qup (qup (qup M 40 (3 * s) x) 40 (3 * s + 1) y) 40 (3 * s + 2) w) 39 3 (s + 1) := ⟨_, rfl⟩
            rw [← hQ] at s1
            have q37 : Q 82 37 = s := by rw [hQ, qup_ne (by omega), qup_ne (by omega), qup_ne (by omega), qup_ne (by omega)]; exact S3
            obtain ⟨V, hV⟩ : ∃ V : qMem, V = qup (qup (qup (qup Q 104 s x) 105 s y) 106 s w) 82 37 (s + 1) := ⟨_, rfl⟩
            have s2 : S_X12_see [qA 82, qI x, qI y, qI w] (qH0 Q) = some (some (qI (s + 1)), qH0 V) := by
              have y2 : S_X12_isLetters [qA 82, qI y] (qH0 Q) = some (some (qI 1), qH0 Q) := sX12_isLetters_y cy
              have w2 := sX12_in_y (M := Q) cw
              have e1 : kadd s 1 = s + 1 := kadd_eq (by omega) (by omega)
              have t1 : qup Q 104 s x 82 37 = s := by rw [qup_ne (by omega), q37]
              have t2 : qup (qup Q 104 s x) 105 s y 82 37 = s := by rw [qup_ne (by omega), t1]
              have t3 : qup (qup (qup Q 104 s x) 105 s y) 106 s w 82 37 = s := by rw [qup_ne (by omega), t2]
              rw [E_X12_see, hV]
              simp (disch := first | assumption | omega) only [B_X12_see_0, B_X12_see_12, B_X12_see_17, B_X12_see_22, B_X12_see_27, B_X12_see_30, B_X12_see_38, B_X12_see_44, not_true_eq_false, not_false_eq_true, if_true, if_false, qlk, qtk, qif_t, qif_f, qbd_some, Option.toList_some, Option.toList_none, List.cons_append, List.nil_append, List.append_nil, sX12_isHeap_y, y2, w2]
              rw [B_X12_see_55 (by rw [q37]; omega) (by rw [q37]; omega) (by rw [q37, t1]; omega) (by rw [q37, t1]; omega) (by rw [q37, t1, t2]; omega) (by rw [q37, t1, t2]; omega), q37, t1, t2, t3, e1, qup_self]
            have v40 : ∀ k : Int, V 40 k = if k = 3 * s then x else if k = 3 * s + 1 then y else if k = 3 * s + 2 then w else M 40 k := fun k => by
              rw [hV, qup_ne (by omega), qup_ne (by omega), qup_ne (by omega), qup_ne (by omega), hQ, qup_ne (by omega)]
              by_cases k1 : k = 3 * s
              · rw [if_pos k1, k1, qup_ne (by omega), qup_ne (by omega), qup_self]
              · rw [if_neg k1]
                by_cases k2 : k = 3 * s + 1
                · rw [if_pos k2, k2, qup_ne (by omega), qup_self]
                · rw [if_neg k2]
                  by_cases k3 : k = 3 * s + 2
                  · rw [if_pos k3, k3, qup_self]
                  · rw [if_neg k3, qup_ne (by omega), qup_ne (by omega), qup_ne (by omega)]
            have v39 : ∀ k : Int, V 39 k = if k = 3 then s + 1 else M 39 k := fun k => by
              rw [hV, qup_ne (by omega), qup_ne (by omega), qup_ne (by omega), qup_ne (by omega), hQ]
              by_cases k1 : k = 3
              · rw [if_pos k1, k1, qup_self]
              · rw [if_neg k1, qup_ne (by omega), qup_ne (by omega), qup_ne (by omega), qup_ne (by omega)]
            have u : qAg Ese V M := by
              rw [hV, hQ]
              exact qAg_up (qAg_up (qAg_up (qAg_up (qAg_up (qAg_up (qAg_up (qAg_up qAg_r (by unfold Ese; omega)) (by unfold Ese; omega)) (by unfold Ese; omega)) (by unfold Ese; omega)) (by unfold Ese; omega)) (by unfold Ese; omega)) (by unfold Ese; omega)) (by unfold Ese; omega)
            have v104 : ∀ k : Int, V 104 k = if k = s then x else M 104 k := fun k => by
              rw [hV, qup_ne (by omega), qup_ne (by omega), qup_ne (by omega)]
              by_cases k1 : k = s
              · rw [if_pos k1, k1, qup_self]
              · rw [if_neg k1, qup_ne (by omega), hQ, qup_ne (by omega), qup_ne (by omega), qup_ne (by omega), qup_ne (by omega)]
            have v105 : ∀ k : Int, V 105 k = if k = s then y else M 105 k := fun k => by
              rw [hV, qup_ne (by omega), qup_ne (by omega)]
              by_cases k1 : k = s
              · rw [if_pos k1, k1, qup_self]
              · rw [if_neg k1, qup_ne (by omega), qup_ne (by omega), hQ, qup_ne (by omega), qup_ne (by omega), qup_ne (by omega), qup_ne (by omega)]
            have v106 : ∀ k : Int, V 106 k = if k = s then w else M 106 k := fun k => by
              rw [hV, qup_ne (by omega)]
              by_cases k1 : k = s
              · rw [if_pos k1, k1, qup_self]
              · rw [if_neg k1, qup_ne (by omega), qup_ne (by omega), qup_ne (by omega), hQ, qup_ne (by omega), qup_ne (by omega), qup_ne (by omega), qup_ne (by omega)]
            have z : qSeen V 39 37 104 105 106 := by
              have e37 : V 82 37 = s + 1 := by rw [hV, qup_self]
              have e3 : V 39 3 = s + 1 := by rw [v39, if_pos rfl]
              refine ⟨⟨by rw [v39, if_neg (by omega)]; exact S1, by rw [v39, if_neg (by omega)]; exact S1'⟩, by omega, by omega, fun i a b => ?_⟩
              have g0 : V (39 + 1) (3 * i) = if 3 * i = 3 * s then x else if 3 * i = 3 * s + 1 then y else if 3 * i = 3 * s + 2 then w else M 40 (3 * i) := v40 _
              have g1 : V (39 + 1) (3 * i + 1) = if 3 * i + 1 = 3 * s then x else if 3 * i + 1 = 3 * s + 1 then y else if 3 * i + 1 = 3 * s + 2 then w else M 40 (3 * i + 1) := v40 _
              have g2 : V (39 + 1) (3 * i + 2) = if 3 * i + 2 = 3 * s then x else if 3 * i + 2 = 3 * s + 1 then y else if 3 * i + 2 = 3 * s + 2 then w else M 40 (3 * i + 2) := v40 _
              rw [g0, g1, g2, v104, v105, v106]
              by_cases ci : i = s
              · rw [if_pos (c := i = s) ci, if_pos (c := i = s) ci, if_pos (c := i = s) ci, if_pos (c := 3 * i = 3 * s) (by omega), if_neg (c := 3 * i + 1 = 3 * s) (by omega), if_pos (c := 3 * i + 1 = 3 * s + 1) (by omega), if_neg (c := 3 * i + 2 = 3 * s) (by omega), if_neg (c := 3 * i + 2 = 3 * s + 1) (by omega), if_pos (c := 3 * i + 2 = 3 * s + 2) (by omega)]
                exact ⟨cx, cw, rfl, rfl, rfl⟩
              · rw [if_neg (c := i = s) ci, if_neg (c := i = s) ci, if_neg (c := i = s) ci, if_neg (c := 3 * i = 3 * s) (by omega), if_neg (c := 3 * i = 3 * s + 1) (by omega), if_neg (c := 3 * i = 3 * s + 2) (by omega), if_neg (c := 3 * i + 1 = 3 * s) (by omega), if_neg (c := 3 * i + 1 = 3 * s + 1) (by omega), if_neg (c := 3 * i + 1 = 3 * s + 2) (by omega), if_neg (c := 3 * i + 2 = 3 * s) (by omega), if_neg (c := 3 * i + 2 = 3 * s + 1) (by omega), if_neg (c := 3 * i + 2 = 3 * s + 2) (by omega)]
                exact S4 i a (by omega)
            refine ⟨qI (s + 1), Q, V, ?_, s2, qInv_seen h u z⟩
            rw [E_X11_see]
            simp (disch := first | assumption | omega) only [B_X11_see_0, B_X11_see_15, B_X11_see_19, B_X11_see_24, B_X11_see_31, B_X11_see_34, B_X11_see_40, B_X11_see_46, B_X11_see_56, not_true_eq_false, not_false_eq_true, if_true, if_false, qlk, qtk, qif_t, qif_f, qbd_some, Option.toList_some, Option.toList_none, List.cons_append, List.nil_append, List.append_nil, sX11_isHeap_y, y1, w1, s1]
          · have s1 := sX6_add_full (M := M) (r := 39) (a := x) (b := y) (c := w) (Or.inl rfl) (by omega)
            have y2 : S_X12_isLetters [qA 82, qI y] (qH0 M) = some (some (qI 1), qH0 M) := sX12_isLetters_y cy
            have w2 := sX12_in_y (M := M) cw
            have f : M 82 37 = 5 := by omega
            refine qStep_r (v := qI (-4)) h ?_ ?_
            · rw [E_X11_see]
              simp (disch := first | assumption | omega) only [B_X11_see_0, B_X11_see_15, B_X11_see_19, B_X11_see_24, B_X11_see_31, B_X11_see_34, B_X11_see_40, B_X11_see_46, B_X11_see_56, not_true_eq_false, not_false_eq_true, if_true, if_false, qlk, qtk, qif_t, qif_f, qbd_some, Option.toList_some, Option.toList_none, List.cons_append, List.nil_append, List.append_nil, sX11_isHeap_y, y1, w1, s1]
            · rw [E_X12_see]
              simp (disch := first | assumption | omega) only [B_X12_see_0, B_X12_see_12, B_X12_see_17, B_X12_see_22, B_X12_see_27, B_X12_see_30, B_X12_see_38, B_X12_see_44, B_X12_see_52, not_true_eq_false, not_false_eq_true, if_true, if_false, qlk, qtk, qif_t, qif_f, qbd_some, Option.toList_some, Option.toList_none, List.cons_append, List.nil_append, List.append_nil, sX12_isHeap_y, y2, w2, f]
        · have w1 := sX11_isIn_n (M := M) cw
          have w2 := sX12_in_n (M := M) cw
          have y2 : S_X12_isLetters [qA 82, qI y] (qH0 M) = some (some (qI 1), qH0 M) := sX12_isLetters_y cy
          refine qStep_r (v := qI (-2)) h ?_ ?_
          · rw [E_X11_see]
            simp (disch := first | assumption | omega) only [B_X11_see_0, B_X11_see_15, B_X11_see_19, B_X11_see_24, B_X11_see_31, B_X11_see_34, B_X11_see_40, B_X11_see_43, not_true_eq_false, not_false_eq_true, if_true, if_false, qlk, qtk, qif_t, qif_f, qbd_some, Option.toList_some, Option.toList_none, List.cons_append, List.nil_append, List.append_nil, sX11_isHeap_y, y1, w1]
          · rw [E_X12_see]
            simp (disch := first | assumption | omega) only [B_X12_see_0, B_X12_see_12, B_X12_see_17, B_X12_see_22, B_X12_see_27, B_X12_see_30, B_X12_see_38, B_X12_see_41, not_true_eq_false, not_false_eq_true, if_true, if_false, qlk, qtk, qif_t, qif_f, qbd_some, Option.toList_some, Option.toList_none, List.cons_append, List.nil_append, List.append_nil, sX12_isHeap_y, y2, w2]
      · have y1 := sX11_isIn_n (M := M) cy
        have y2 : S_X12_isLetters [qA 82, qI y] (qH0 M) = some (some (qI 0), qH0 M) := sX12_isLetters_n cy
        refine qStep_r (v := qI (-2)) h ?_ ?_
        · rw [E_X11_see]
          simp (disch := first | assumption | omega) only [B_X11_see_0, B_X11_see_15, B_X11_see_19, B_X11_see_24, B_X11_see_31, B_X11_see_43, not_true_eq_false, not_false_eq_true, if_true, if_false, qlk, qtk, qif_t, qif_f, qbd_some, Option.toList_some, Option.toList_none, List.cons_append, List.nil_append, List.append_nil, sX11_isHeap_y, y1]
        · rw [E_X12_see]
          simp (disch := first | assumption | omega) only [B_X12_see_0, B_X12_see_12, B_X12_see_17, B_X12_see_22, B_X12_see_27, B_X12_see_41, not_true_eq_false, not_false_eq_true, if_true, if_false, qlk, qtk, qif_t, qif_f, qbd_some, Option.toList_some, Option.toList_none, List.cons_append, List.nil_append, List.append_nil, sX12_isHeap_y, y2]
    · refine qStep_r (v := qI (-1)) h ?_ ?_
      · rw [E_X11_see]
        simp (disch := first | assumption | omega) only [B_X11_see_0, B_X11_see_15, B_X11_see_19, B_X11_see_22, not_true_eq_false, not_false_eq_true, if_true, if_false, qlk, qtk, qif_t, qif_f, qbd_some, Option.toList_some, Option.toList_none, List.cons_append, List.nil_append, List.append_nil, sX11_isHeap_n]
      · rw [E_X12_see]
        simp (disch := first | assumption | omega) only [B_X12_see_0, B_X12_see_12, B_X12_see_17, B_X12_see_20, not_true_eq_false, not_false_eq_true, if_true, if_false, qlk, qtk, qif_t, qif_f, qbd_some, Option.toList_some, Option.toList_none, List.cons_append, List.nil_append, List.append_nil, sX12_isHeap_n]
theorem step_book {M : qMem} {x y : Int} (h : qInv M) : qStep S_X11_book S_X12_book [qI x, qI y] M := by
  obtain ⟨⟨S1, S1'⟩, S2, S3, S4⟩ := iBok h
  by_cases c : x = -1
  · subst c
    have z : qBok (qup (qup M 43 3 0) 82 42 0) 43 42 109 110 := by
      refine ⟨⟨by rw [qup_ne (by omega), qup_ne (by omega)]; exact S1, by rw [qup_ne (by omega), qup_ne (by omega)]; exact S1'⟩, ?_, ?_, fun i a b => ?_⟩
      · rw [qup_ne (by omega), qup_self]
        omega
      · rw [qup_self, qup_ne (by omega), qup_self]
      · rw [qup_ne (by omega), qup_self] at b
        omega
    refine ⟨qI 0, qup M 43 3 0, qup (qup M 43 3 0) 82 42 0, ?_, ?_, qInv_bok h (qAg_up (qAg_up qAg_r (by unfold Ebk; omega)) (by unfold Ebk; omega)) z⟩
    · simp (disch := first | assumption | omega) only [B_X11_book_0, B_X11_book_5, E_X11_book, B_X11_book_0, B_X11_book_5, B_X11_book_15, B_X11_book_19, B_X11_book_22, B_X11_book_24, B_X11_book_31, B_X11_book_34, B_X11_book_37, B_X11_book_47, not_true_eq_false, not_false_eq_true, if_true, if_false, qlk, qtk, qif_t, qif_f, qbd_some, Option.toList_some, Option.toList_none, List.cons_append, List.nil_append, List.append_nil, Int.reduceNeg]
    · simp (disch := first | assumption | omega) only [B_X12_book_0, B_X12_book_5, E_X12_book, B_X12_book_0, B_X12_book_5, B_X12_book_12, B_X12_book_17, B_X12_book_20, B_X12_book_22, B_X12_book_27, B_X12_book_30, B_X12_book_33, B_X12_book_42, B_X12_book_45, not_true_eq_false, not_false_eq_true, if_true, if_false, qlk, qtk, qif_t, qif_f, qbd_some, Option.toList_some, Option.toList_none, List.cons_append, List.nil_append, List.append_nil, Int.reduceNeg]
  · by_cases cx : 0 ≤ x ∧ x < 5
    · by_cases cy : 0 ≤ y ∧ y ≤ 9999
      · have y1 := sX11_isIn_y (M := M) cy
        by_cases cf : M 43 3 < 8
        · have s1 := sX6_add2 (M := M) (r := 43) (a := x) (b := y) (c := 0) (m := 8) (n := 16) (Or.inr (Or.inr (Or.inl rfl))) rfl S1 S1' (by omega) (by omega) S2.1 cf
          obtain ⟨s, hs⟩ : ∃ s, M 43 3 = s := ⟨_, rfl⟩
          rw [hs] at s1 S2 S3 S4 cf
          obtain ⟨Q, hQ⟩ : ∃ Q : qMem, Q = qup (qup (qup M 44 (2 * s) x) 44 (2 * s + 1) y) 43 3 (s + 1) := ⟨_, rfl⟩
          have s1' : S_X6_add [qA 43, qI x, qI y, qI 0] (qH0 M) = some (some (qI (s + 1)), qH0 Q) := by rw [hQ]; exact s1
          have q42 : Q 82 42 = s := by rw [hQ, qup_ne (by omega), qup_ne (by omega), qup_ne (by omega)]; exact S3
          obtain ⟨V, hV⟩ : ∃ V : qMem, V = qup (qup (qup Q 109 s x) 110 s y) 82 42 (s + 1) := ⟨_, rfl⟩
          have s2 : S_X12_book [qA 82, qI x, qI y] (qH0 Q) = some (some (qI (s + 1)), qH0 V) := by
            have y2 : S_X12_isLetters [qA 82, qI y] (qH0 Q) = some (some (qI 1), qH0 Q) := sX12_isLetters_y cy
            have e1 : kadd s 1 = s + 1 := kadd_eq (by omega) (by omega)
            have t1 : qup Q 109 s x 82 42 = s := by rw [qup_ne (by omega), q42]
            have t2 : qup (qup Q 109 s x) 110 s y 82 42 = s := by rw [qup_ne (by omega), t1]
            rw [E_X12_book, hV]
            simp (disch := first | assumption | omega) only [B_X12_book_0, B_X12_book_12, B_X12_book_17, B_X12_book_22, B_X12_book_27, B_X12_book_33, not_true_eq_false, not_false_eq_true, if_true, if_false, qlk, qtk, qif_t, qif_f, qbd_some, Option.toList_some, Option.toList_none, List.cons_append, List.nil_append, List.append_nil, sX12_isHeap_y, y2]
            rw [B_X12_book_45 (by rw [q42]; omega) (by rw [q42]; omega) (by rw [q42, t1]; omega) (by rw [q42, t1]; omega), q42, t1, t2, e1, qup_self]
          have v44 : ∀ k : Int, V 44 k = if k = 2 * s then x else if k = 2 * s + 1 then y else M 44 k := fun k => by
            rw [hV, qup_ne (by omega), qup_ne (by omega), qup_ne (by omega), hQ, qup_ne (by omega)]
            by_cases k1 : k = 2 * s
            · rw [if_pos k1, k1, qup_ne (by omega), qup_self]
            · rw [if_neg k1]
              by_cases k2 : k = 2 * s + 1
              · rw [if_pos k2, k2, qup_self]
              · rw [if_neg k2, qup_ne (by omega), qup_ne (by omega)]
          have v43 : ∀ k : Int, V 43 k = if k = 3 then s + 1 else M 43 k := fun k => by
            rw [hV, qup_ne (by omega), qup_ne (by omega), qup_ne (by omega), hQ]
            by_cases k1 : k = 3
            · rw [if_pos k1, k1, qup_self]
            · rw [if_neg k1, qup_ne (by omega), qup_ne (by omega), qup_ne (by omega)]
          have u : qAg Ebk V M := by
            rw [hV, hQ]
            exact qAg_up (qAg_up (qAg_up (qAg_up (qAg_up (qAg_up qAg_r (by unfold Ebk; omega)) (by unfold Ebk; omega)) (by unfold Ebk; omega)) (by unfold Ebk; omega)) (by unfold Ebk; omega)) (by unfold Ebk; omega)
          have v109 : ∀ k : Int, V 109 k = if k = s then x else M 109 k := fun k => by
            rw [hV, qup_ne (by omega), qup_ne (by omega)]
            by_cases k1 : k = s
            · rw [if_pos k1, k1, qup_self]
            · rw [if_neg k1, qup_ne (by omega), hQ, qup_ne (by omega), qup_ne (by omega), qup_ne (by omega)]
          have v110 : ∀ k : Int, V 110 k = if k = s then y else M 110 k := fun k => by
            rw [hV, qup_ne (by omega)]
            by_cases k1 : k = s
            · rw [if_pos k1, k1, qup_self]
            · rw [if_neg k1, qup_ne (by omega), qup_ne (by omega), hQ, qup_ne (by omega), qup_ne (by omega), qup_ne (by omega)]
          have z : qBok V 43 42 109 110 := by
            have e42 : V 82 42 = s + 1 := by rw [hV, qup_self]
            have e3 : V 43 3 = s + 1 := by rw [v43, if_pos rfl]
            refine ⟨⟨by rw [v43, if_neg (by omega)]; exact S1, by rw [v43, if_neg (by omega)]; exact S1'⟩, by omega, by omega, fun i a b => ?_⟩
            have g0 : V (43 + 1) (2 * i) = if 2 * i = 2 * s then x else if 2 * i = 2 * s + 1 then y else M 44 (2 * i) := v44 _
            have g1 : V (43 + 1) (2 * i + 1) = if 2 * i + 1 = 2 * s then x else if 2 * i + 1 = 2 * s + 1 then y else M 44 (2 * i + 1) := v44 _
            rw [g0, g1, v109, v110]
            by_cases ci : i = s
            · rw [if_pos (c := i = s) ci, if_pos (c := i = s) ci, if_pos (c := 2 * i = 2 * s) (by omega), if_neg (c := 2 * i + 1 = 2 * s) (by omega), if_pos (c := 2 * i + 1 = 2 * s + 1) (by omega)]
              exact ⟨cx, rfl, rfl⟩
            · rw [if_neg (c := i = s) ci, if_neg (c := i = s) ci, if_neg (c := 2 * i = 2 * s) (by omega), if_neg (c := 2 * i = 2 * s + 1) (by omega), if_neg (c := 2 * i + 1 = 2 * s) (by omega), if_neg (c := 2 * i + 1 = 2 * s + 1) (by omega)]
              exact S4 i a (by omega)
          refine ⟨qI (s + 1), Q, V, ?_, s2, qInv_bok h u z⟩
          rw [E_X11_book]
          simp (disch := first | assumption | omega) only [B_X11_book_0, B_X11_book_15, B_X11_book_19, B_X11_book_24, B_X11_book_31, B_X11_book_37, B_X11_book_47, not_true_eq_false, not_false_eq_true, if_true, if_false, qlk, qtk, qif_t, qif_f, qbd_some, Option.toList_some, Option.toList_none, List.cons_append, List.nil_append, List.append_nil, sX11_isHeap_y, y1, s1']
        · have s1 := sX6_add_full (M := M) (r := 43) (a := x) (b := y) (c := 0) (Or.inr (Or.inr (Or.inl rfl))) (by omega)
          have y2 : S_X12_isLetters [qA 82, qI y] (qH0 M) = some (some (qI 1), qH0 M) := sX12_isLetters_y cy
          have f : M 82 42 = 8 := by omega
          refine qStep_r (v := qI (-4)) h ?_ ?_
          · rw [E_X11_book]
            simp (disch := first | assumption | omega) only [B_X11_book_0, B_X11_book_15, B_X11_book_19, B_X11_book_24, B_X11_book_31, B_X11_book_37, B_X11_book_47, not_true_eq_false, not_false_eq_true, if_true, if_false, qlk, qtk, qif_t, qif_f, qbd_some, Option.toList_some, Option.toList_none, List.cons_append, List.nil_append, List.append_nil, sX11_isHeap_y, y1, s1]
          · rw [E_X12_book]
            simp (disch := first | assumption | omega) only [B_X12_book_0, B_X12_book_12, B_X12_book_17, B_X12_book_22, B_X12_book_27, B_X12_book_33, B_X12_book_42, not_true_eq_false, not_false_eq_true, if_true, if_false, qlk, qtk, qif_t, qif_f, qbd_some, Option.toList_some, Option.toList_none, List.cons_append, List.nil_append, List.append_nil, sX12_isHeap_y, y2, f]
      · have y1 := sX11_isIn_n (M := M) cy
        have y2 : S_X12_isLetters [qA 82, qI y] (qH0 M) = some (some (qI 0), qH0 M) := sX12_isLetters_n cy
        refine qStep_r (v := qI (-2)) h ?_ ?_
        · rw [E_X11_book]
          simp (disch := first | assumption | omega) only [B_X11_book_0, B_X11_book_15, B_X11_book_19, B_X11_book_24, B_X11_book_31, B_X11_book_34, not_true_eq_false, not_false_eq_true, if_true, if_false, qlk, qtk, qif_t, qif_f, qbd_some, Option.toList_some, Option.toList_none, List.cons_append, List.nil_append, List.append_nil, sX11_isHeap_y, y1]
        · rw [E_X12_book]
          simp (disch := first | assumption | omega) only [B_X12_book_0, B_X12_book_12, B_X12_book_17, B_X12_book_22, B_X12_book_27, B_X12_book_30, not_true_eq_false, not_false_eq_true, if_true, if_false, qlk, qtk, qif_t, qif_f, qbd_some, Option.toList_some, Option.toList_none, List.cons_append, List.nil_append, List.append_nil, sX12_isHeap_y, y2]
    · refine qStep_r (v := qI (-1)) h ?_ ?_
      · rw [E_X11_book]
        simp (disch := first | assumption | omega) only [B_X11_book_0, B_X11_book_15, B_X11_book_19, B_X11_book_22, not_true_eq_false, not_false_eq_true, if_true, if_false, qlk, qtk, qif_t, qif_f, qbd_some, Option.toList_some, Option.toList_none, List.cons_append, List.nil_append, List.append_nil, sX11_isHeap_n]
      · rw [E_X12_book]
        simp (disch := first | assumption | omega) only [B_X12_book_0, B_X12_book_12, B_X12_book_17, B_X12_book_20, not_true_eq_false, not_false_eq_true, if_true, if_false, qlk, qtk, qif_t, qif_f, qbd_some, Option.toList_some, Option.toList_none, List.cons_append, List.nil_append, List.append_nil, sX12_isHeap_n]
