/-! calls that only look -/
theorem iSeen {M : qMem} (h : qInv M) : qSeen M 39 37 104 105 106 := h.2.2.1
theorem iEvn {M : qMem} (h : qInv M) : qEvn M 41 41 107 108 (M 12 10) := h.2.2.2.1
theorem iBok {M : qMem} (h : qInv M) : qBok M 43 42 109 110 := h.2.2.2.2.1
theorem iImg {M : qMem} (h : qInv M) : qImg M := h.2.2.2.2.2.1
theorem iImr {M : qMem} (h : qInv M) : qSeen M 45 52 118 119 120 ∧ qEvn M 47 53 121 122 (M 30 10) ∧ qBok M 49 54 123 124 := h.2.2.2.2.2.2.1
theorem iZ {M : qMem} (h : qInv M) : qZ M 12 ∧ qZ M 30 := h.2.2.2.2.2.2.2.1
theorem iHl {M : qMem} (h : qInv M) : qHls M ∧ qHk (M 0 13) (M 12 13) (M 82 11) ∧ qHk (M 0 13) (M 30 13) (M 82 48) ∧ M 30 12 = M (M 30 13) 4 := h.2.2.2.2.2.2.2.2.1
theorem iTps {M : qMem} (h : qInv M) : qTps M := h.2.2.2.2.2.2.2.2.2.1
theorem iAct {M : qMem} (h : qInv M) : qAct M := h.2.2.2.2.2.2.2.2.2.2.1
theorem iTxt {M : qMem} (h : qInv M) : qTxt M := h.2.2.2.2.2.2.2.2.2.2.2.1
theorem iHas {M : qMem} (h : qInv M) : M 82 47 = M 0 9 ∧ (M 0 9 = 0 ∨ M 0 9 = 1) := h.2.2.2.2.2.2.2.2.2.2.2.2
theorem qMx_aw {N M : qMem} (h : qAw N M) : qMx N M := ⟨fun a _ _ _ _ _ b _ _ _ _ => h a b, fun k _ _ _ _ _ _ _ => by rw [h 82 (by omega)]⟩
theorem qInv_aw {N M : qMem} (h : qInv M) (u : qAw N M) : qInv N := qInv_x h qCu_r (qMN_n h.2.1 (fun a k q => by rw [u a (by unfold D2 at q; omega)])) (qMx_aw u)
theorem qInv_zs {M : qMem} {p : Int} (h : qInv M) (h0 : 0 ≤ p) (h1 : p < 6) : qZS M 12 p := by
  have hV := h.1.2.1
  have hd := qSV_d hV h0 h1
  have hm := hV.1
  exact ⟨h.1.1.1, ⟨h0, h1⟩, by omega, by omega⟩
theorem step_of {M : qMem} {p w : Int} (h : qInv M) : qStep S_X11_of S_X12_of [qI p, qI w] M := by
  have h6 := h.1.1.2.1
  have n0 := h.2.1.1.1.1
  by_cases c : 0 ≤ p ∧ p < M 12 10
  · have p6 : p < 6 := by omega
    have p0 := c.1
    have P1 := sX11_isPerson_y (M := M) c
    have P2 := sX12_isPerson_y (M := M) (a := p) (by omega) (by omega) (by omega)
    have q := h.2.1.1.2.2.2.1 p c.1 p6
    have e1 : M 84 p = M 14 p := q.1
    have e2 : M 85 p = M 15 p := q.2.1
    have e3 : M 86 p = M 16 p := q.2.2.1
    have e4 : M 87 p = M 17 p := q.2.2.2.1
    have e5 : M 88 p = M 18 p := q.2.2.2.2.1
    have e6 : qBit (M 82 2) p = M 20 p := q.2.2.2.2.2
    have g6 : M 20 p = 0 ∨ M 20 p = 1 := (h.1.1.2.2.2.2.1 p c.1 p6).2.2.2
    have a1 : S_X11_of [qA 0, qI p, qI w] (qH0 M) = qlim C_X11_of (qtk [60, 70, 80, 90, 100, 110, 128, 144] 153 0 w, [some (qA 0), some (qI p), some (qI w)], [], qH0 M) := by
      rw [E_X11_of]
      simp (disch := first | assumption | omega) only [B_X11_of_0, B_X11_of_5, B_X11_of_12, not_true_eq_false, not_false_eq_true, if_true, if_false, qlk, qtk, qif_t, qif_f, qbd_some, Option.toList_some, Option.toList_none, List.cons_append, List.nil_append, List.append_nil, P1]
    have a2 : S_X12_of [qA 82, qI p, qI w] (qH0 M) = qlim C_X12_of (qtk [60, 67, 74, 81, 88, 95, 113, 119] 125 0 w, [some (qA 82), some (qI p), some (qI w)], [], qH0 M) := by
      rw [E_X12_of]
      simp (disch := first | assumption | omega) only [B_X12_of_0, B_X12_of_5, B_X12_of_12, not_true_eq_false, not_false_eq_true, if_true, if_false, qlk, qtk, qif_t, qif_f, qbd_some, Option.toList_some, Option.toList_none, List.cons_append, List.nil_append, List.append_nil, P2]
    by_cases d : 0 ≤ w ∧ w < 8
    · have dd : w = 0 ∨ w = 1 ∨ w = 2 ∨ w = 3 ∨ w = 4 ∨ w = 5 ∨ w = 6 ∨ w = 7 := by omega
      rcases dd with rfl | rfl | rfl | rfl | rfl | rfl | rfl | rfl
      · refine qStep_r (v := qI (M 14 p)) h (a1.trans (B_X11_of_60 p0 p6)) (a2.trans ?_)
        rw [← e1]
        exact B_X12_of_60 p0 p6
      · refine qStep_r (v := qI (M 15 p)) h (a1.trans (B_X11_of_70 p0 p6)) (a2.trans ?_)
        rw [← e2]
        exact B_X12_of_67 p0 p6
      · refine qStep_r (v := qI (M 16 p)) h (a1.trans (B_X11_of_80 p0 p6)) (a2.trans ?_)
        rw [← e3]
        exact B_X12_of_74 p0 p6
      · refine qStep_r (v := qI (M 17 p)) h (a1.trans (B_X11_of_90 p0 p6)) (a2.trans ?_)
        rw [← e4]
        exact B_X12_of_81 p0 p6
      · refine qStep_r (v := qI (M 18 p)) h (a1.trans (B_X11_of_100 p0 p6)) (a2.trans ?_)
        rw [← e5]
        exact B_X12_of_88 p0 p6
      · have sH := sX12_has (M := M) (a := M 82 2) h.2.1.1.2.1.1 h.2.1.1.2.1.2 p0 p6 g6 e6
        have b1 : qlim C_X11_of (110, [some (qA 0), some (qI p), some (qI 5)], [], qH0 M) = some (some (qI (M 20 p)), qH0 M) := by
          rcases g6 with z | z
          · rw [B_X11_of_110 p0 p6, qif_t z, B_X11_of_126, B_X11_of_127, z]
          · rw [B_X11_of_110 p0 p6, qif_f (by omega), B_X11_of_122, B_X11_of_127, z]
        have b2 : qlim C_X12_of (95, [some (qA 82), some (qI p), some (qI 5)], [], qH0 M) = some (some (qI (M 20 p)), qH0 M) := by
          rw [B_X12_of_95, sH, qbd_some]
          show qlim C_X12_of (104, [some (qA 82), some (qI p), some (qI 5)], [qI (M 20 p)], qH0 M) = _
          rw [B_X12_of_104]
          rcases g6 with z | z
          · rw [qif_t z, B_X12_of_111, B_X12_of_112, z]
          · rw [qif_f (by omega), B_X12_of_107, B_X12_of_112, z]
        exact qStep_r h (a1.trans b1) (a2.trans b2)
      · have hg := h.1.1.2.2.2.2.2.2
        have s1 := sX3_zealOf hg (qInv_zs h p0 p6)
        obtain ⟨N, s2, s3⟩ := sX12_zeal h.2.1.1 (qInv_zs h p0 p6) hg
        refine ⟨qI (fZeal M (M 12 13) 12 p), M, N, a1.trans ?_, a2.trans ?_, qInv_aw h s3⟩
        · refine (B_X11_of_128 (qHl_ty hg.1)).trans ?_
          rw [s1, qbd_some]
          exact B_X11_of_143
        · refine B_X12_of_113.trans ?_
          rw [s2, qbd_some]
          exact B_X12_of_118
      · have s1 := sX8_paceOf h.1.1 h.1.2.1 p0 p6
        obtain ⟨N, s2, s3⟩ := sX12_pace h.2.1.1 h.1.1 h.1.2.1 p0 p6
        refine ⟨qI (fPace M 12 p), M, N, a1.trans ?_, a2.trans ?_, qInv_aw h s3⟩
        · refine B_X11_of_144.trans ?_
          rw [s1, qbd_some]
          exact B_X11_of_152
        · refine B_X12_of_119.trans ?_
          rw [s2, qbd_some]
          exact B_X12_of_124
    · have d' : w < 0 ∨ 0 + ((8 : Nat) : Int) ≤ w := by omega
      rw [qtk_out _ _ _ d'] at a1 a2
      exact qStep_r h (a1.trans B_X11_of_153) (a2.trans B_X12_of_125)
  · have P1 := sX11_isPerson_n (M := M) c
    have P2 := sX12_isPerson_n (M := M) (a := p) (by omega) (by omega) (by omega)
    refine qStep_r (v := qI (-1001)) h ?_ ?_
    · rw [E_X11_of]
      simp (disch := first | assumption | omega) only [B_X11_of_0, B_X11_of_5, B_X11_of_8, not_true_eq_false, not_false_eq_true, if_true, if_false, qlk, qtk, qif_t, qif_f, qbd_some, Option.toList_some, Option.toList_none, List.cons_append, List.nil_append, List.append_nil, P1]
    · rw [E_X12_of]
      simp (disch := first | assumption | omega) only [B_X12_of_0, B_X12_of_5, B_X12_of_8, not_true_eq_false, not_false_eq_true, if_true, if_false, qlk, qtk, qif_t, qif_f, qbd_some, Option.toList_some, Option.toList_none, List.cons_append, List.nil_append, List.append_nil, P2]
theorem step_told {M : qMem} {w : Int} (h : qInv M) : qStep S_X11_told S_X12_told [qI w] M := by
  have hg := h.1.1.2.2.2.2.2.2
  have hS := h.2.1.1.2.2.2.2.2.1
  have hr := h.2.1.1.2.2.2.2.2.2
  have h27 := h.2.1.2.1
  have r1 := h.1.1.2.2.1
  by_cases c : 10 ≤ w ∧ w ≤ 14
  · have e : ksub w 10 = w - 10 := ksub_eq (by omega) (by omega)
    have e2 : M 83 (w - 10) = M 13 (w - 10) := h.2.1.1.2.2.1 _ (by omega) (by omega)
    refine qStep_r (v := qI (M 13 (w - 10))) h ?_ ?_
    · rw [E_X11_told, B_X11_told_0, qtk_out _ _ _ (Or.inr (by show (0 : Int) + ((3 : Nat) : Int) ≤ w; omega)), B_X11_told_55, qif_f (by omega), B_X11_told_61, qif_f (by omega), B_X11_told_67 (by rw [e]; omega) (by rw [e]; omega), e, B_X11_told_83]
    · rw [E_X12_told]
      simp (disch := first | assumption | omega) only [B_X12_told_0, B_X12_told_9, B_X12_told_12, not_true_eq_false, not_false_eq_true, if_true, if_false, qlk, qtk, qif_t, qif_f, qbd_some, Option.toList_some, Option.toList_none, List.cons_append, List.nil_append, List.append_nil, sX12_in_y, e, e2]
  · have b2 : S_X12_told [qA 82, qI w] (qH0 M) = qlim C_X12_told (qtk [48, 53, 58] 65 0 w, [some (qA 82), some (qI w)], [], qH0 M) := by
      rw [E_X12_told, B_X12_told_0, sX12_in_n c, qbd_some]
      show qlim C_X12_told (9, [some (qA 82), some (qI w)], [qI 0], qH0 M) = _
      rw [B_X12_told_9, qif_t rfl, B_X12_told_22]
    have b1 : S_X11_told [qA 0, qI w] (qH0 M) = qlim C_X11_told (qtk [28, 36, 44] 55 0 w, [some (qA 0), some (qI w)], [], qH0 M) := by rw [E_X11_told, B_X11_told_0]
    by_cases d : 0 ≤ w ∧ w < 3
    · have dd : w = 0 ∨ w = 1 ∨ w = 2 := by omega
      rcases dd with rfl | rfl | rfl
      · have e : M 82 1 = M 12 11 := h.2.1.1.1.2
        refine qStep_r (v := qI (M 12 11)) h (b1.trans B_X11_told_28) (b2.trans ?_)
        rw [← e]
        exact B_X12_told_48
      · have R := sX12_room hS hr r1.1
        refine qStep_r (v := qI (M 12 12)) h (b1.trans B_X11_told_36) (b2.trans ?_)
        refine B_X12_told_53.trans ?_
        rw [R, qbd_some]
        exact B_X12_told_57
      · have R := sX12_post hS
        refine qStep_r (v := qI (M (M 12 13) 5)) h (b1.trans (B_X11_told_44 (qHl_ty hg.1))) (b2.trans ?_)
        refine B_X12_told_58.trans ?_
        rw [R, qbd_some]
        exact B_X12_told_64
    · have d' : w < 0 ∨ 0 + ((3 : Nat) : Int) ≤ w := by omega
      refine qStep_r (v := qI (-1)) h (b1.trans ?_) (b2.trans ?_)
      · rw [qtk_out _ _ _ d', B_X11_told_55]
        by_cases d2 : w < 10
        · rw [qif_t d2, B_X11_told_82, B_X11_told_83]
        · rw [qif_f d2, B_X11_told_61, qif_t (by omega), B_X11_told_82, B_X11_told_83]
      · rw [qtk_out _ _ _ d', B_X12_told_65]
theorem step_trace {M : qMem} {i : Int} (h : qInv M) : qStep S_X11_trace S_X12_trace [qI i] M := by
  obtain ⟨a1, a2, a3⟩ := iAct h
  by_cases c : 0 ≤ i ∧ i < M 71 3
  · have e := a3 i c.1 c.2
    refine qStep_r (v := qI (M 72 i)) h ?_ ?_
    · simp (disch := first | assumption | omega) only [E_X11_trace, B_X11_trace_0, B_X11_trace_4, B_X11_trace_15, B_X11_trace_27, B_X11_trace_39, B_X11_trace_40, not_true_eq_false, not_false_eq_true, if_true, if_false, qlk, qtk, qif_t, qif_f, qbd_some, Option.toList_some, Option.toList_none, List.cons_append, List.nil_append, List.append_nil]
    · simp (disch := first | assumption | omega) only [E_X12_trace, B_X12_trace_0, B_X12_trace_8, B_X12_trace_11, B_X12_trace_19, B_X12_trace_28, B_X12_trace_29, not_true_eq_false, not_false_eq_true, if_true, if_false, qlk, qtk, qif_t, qif_f, qbd_some, Option.toList_some, Option.toList_none, List.cons_append, List.nil_append, List.append_nil, sX12_in_y, e]
  · refine qStep_r (v := qI (-1)) h ?_ ?_
    · by_cases d : i < 0
      · simp (disch := first | assumption | omega) only [E_X11_trace, B_X11_trace_0, B_X11_trace_4, B_X11_trace_15, B_X11_trace_27, B_X11_trace_39, B_X11_trace_40, not_true_eq_false, not_false_eq_true, if_true, if_false, qlk, qtk, qif_t, qif_f, qbd_some, Option.toList_some, Option.toList_none, List.cons_append, List.nil_append, List.append_nil]
      · simp (disch := first | assumption | omega) only [E_X11_trace, B_X11_trace_0, B_X11_trace_4, B_X11_trace_15, B_X11_trace_27, B_X11_trace_39, B_X11_trace_40, not_true_eq_false, not_false_eq_true, if_true, if_false, qlk, qtk, qif_t, qif_f, qbd_some, Option.toList_some, Option.toList_none, List.cons_append, List.nil_append, List.append_nil]
    · by_cases d : 0 ≤ i ∧ i ≤ 19
      · simp (disch := first | assumption | omega) only [E_X12_trace, B_X12_trace_0, B_X12_trace_8, B_X12_trace_11, B_X12_trace_19, B_X12_trace_28, B_X12_trace_29, not_true_eq_false, not_false_eq_true, if_true, if_false, qlk, qtk, qif_t, qif_f, qbd_some, Option.toList_some, Option.toList_none, List.cons_append, List.nil_append, List.append_nil, sX12_in_y]
      · simp (disch := first | assumption | omega) only [E_X12_trace, B_X12_trace_0, B_X12_trace_8, B_X12_trace_11, B_X12_trace_19, B_X12_trace_28, B_X12_trace_29, not_true_eq_false, not_false_eq_true, if_true, if_false, qlk, qtk, qif_t, qif_f, qbd_some, Option.toList_some, Option.toList_none, List.cons_append, List.nil_append, List.append_nil, sX12_in_n]
theorem step_count {M : qMem} {w : Int} (h : qInv M) : qStep S_X11_count S_X12_count [qI w] M := by
  have e0 : M 82 0 = M 12 10 := h.2.1.1.1.1
  have e1 : M 82 10 = M 0 13 := (iHl h).1.1.1
  have e2 : M 82 37 = M 39 3 := (iSeen h).2.2.1
  have e3 : M 82 41 = M 41 3 := (iEvn h).2.2.1
  have e4 : M 82 42 = M 43 3 := (iBok h).2.2.1
  have e5 : M 82 12 = M 0 11 := (iTxt h).1
  have e6 : M 82 69 = M 71 3 := (iAct h).1
  have b1 : S_X11_count [qA 0, qI w] (qH0 M) = qlim C_X11_count (qtk [44, 52, 57, 65, 73, 81, 86] 94 0 w, [some (qA 0), some (qI w)], [], qH0 M) := by rw [E_X11_count, B_X11_count_0]
  have b2 : S_X12_count [qA 82, qI w] (qH0 M) = qlim C_X12_count (qtk [44, 49, 54, 59, 64, 69, 74] 79 0 w, [some (qA 82), some (qI w)], [], qH0 M) := by rw [E_X12_count, B_X12_count_0]
  by_cases d : 0 ≤ w ∧ w < 7
  · have dd : w = 0 ∨ w = 1 ∨ w = 2 ∨ w = 3 ∨ w = 4 ∨ w = 5 ∨ w = 6 := by omega
    rcases dd with rfl | rfl | rfl | rfl | rfl | rfl | rfl
    · exact qStep_r h (b1.trans B_X11_count_44) (b2.trans (by rw [← e0]; exact B_X12_count_44))
    · exact qStep_r h (b1.trans B_X11_count_52) (b2.trans (by rw [← e1]; exact B_X12_count_49))
    · exact qStep_r h (b1.trans B_X11_count_57) (b2.trans (by rw [← e2]; exact B_X12_count_54))
    · exact qStep_r h (b1.trans B_X11_count_65) (b2.trans (by rw [← e3]; exact B_X12_count_59))
    · exact qStep_r h (b1.trans B_X11_count_73) (b2.trans (by rw [← e4]; exact B_X12_count_64))
    · exact qStep_r h (b1.trans B_X11_count_81) (b2.trans (by rw [← e5]; exact B_X12_count_69))
    · exact qStep_r h (b1.trans B_X11_count_86) (b2.trans (by rw [← e6]; exact B_X12_count_74))
  · have d' : w < 0 ∨ 0 + ((7 : Nat) : Int) ≤ w := by omega
    refine qStep_r (v := qI (-2)) h (b1.trans ?_) (b2.trans ?_)
    · rw [qtk_out _ _ _ d', B_X11_count_94]
    · rw [qtk_out _ _ _ d', B_X12_count_79]
