/-! pass, on, ready -/
theorem sX11_pass_bad {A : qMem} {n : Int} (h : ¬ (0 ≤ n ∧ n ≤ 60)) : S_X11_pass [qA 0, qI n] (qH0 A) = some (some (qI (-2)), qH0 A) := by
  simp (disch := first | assumption | omega) only [E_X11_pass, B_X11_pass_0, B_X11_pass_6, B_X11_pass_9, B_X11_pass_12, B_X11_pass_27, B_X11_pass_30, B_X11_pass_38, not_true_eq_false, not_false_eq_true, if_true, if_false, qlk, qtk, qif_t, qif_f, qbd_some, Option.toList_some, Option.toList_none, List.cons_append, List.nil_append, List.append_nil, sX11_isIn_n]
theorem sX11_pass_state {A : qMem} {n : Int} (hA : qNow A) (h : 0 ≤ n ∧ n ≤ 60) (h2 : ¬ A 12 11 + n ≤ 9999) : S_X11_pass [qA 0, qI n] (qH0 A) = some (some (qI (-3)), qH0 A) := by
  have e : kadd (A 12 11) n = A 12 11 + n := by
    have := hA.2.1.1
    exact kadd_eq (by omega) (by omega)
  simp (disch := first | assumption | omega) only [E_X11_pass, B_X11_pass_0, B_X11_pass_6, B_X11_pass_9, B_X11_pass_12, B_X11_pass_27, B_X11_pass_30, B_X11_pass_38, not_true_eq_false, not_false_eq_true, if_true, if_false, qlk, qtk, qif_t, qif_f, qbd_some, Option.toList_some, Option.toList_none, List.cons_append, List.nil_append, List.append_nil, sX11_isIn_y, e]
theorem sX11_pass {A : qMem} {n : Int} (hA : qNow A) (h : 0 ≤ n ∧ n ≤ 60) (h2 : A 12 11 + n ≤ 9999) : S_X11_pass [qA 0, qI n] (qH0 A) = some (some (qI (fMin A 12 n.toNat 13 4)), qH0 (fMin A 12 n.toNat)) := by
  have hm := hA.2.1.1
  have e : kadd (A 12 11) n = A 12 11 + n := kadd_eq (by omega) (by omega)
  have s : S_X8_minutesGo [qA 12, qI n] (qH0 A) = some (some (qI (fMin A 12 n.toNat 13 4)), qH0 (fMin A 12 n.toNat)) := sX8_minutesGo hA.1 hA.2.1 h.1 (by omega) (by omega)
  simp (disch := first | assumption | omega) only [E_X11_pass, B_X11_pass_0, B_X11_pass_6, B_X11_pass_9, B_X11_pass_12, B_X11_pass_27, B_X11_pass_30, B_X11_pass_38, not_true_eq_false, not_false_eq_true, if_true, if_false, qlk, qtk, qif_t, qif_f, qbd_some, Option.toList_some, Option.toList_none, List.cons_append, List.nil_append, List.append_nil, sX11_isIn_y, e, s]
theorem sX12_pass_bad {A : qMem} {n : Int} (h : ¬ (0 ≤ n ∧ n ≤ 60)) : S_X12_pass [qA 82, qI n] (qH0 A) = some (some (qI (-2)), qH0 A) := by
  simp (disch := first | assumption | omega) only [E_X12_pass, B_X12_pass_0, B_X12_pass_5, B_X12_pass_8, B_X12_pass_11, B_X12_pass_23, B_X12_pass_26, B_X12_pass_31, not_true_eq_false, not_false_eq_true, if_true, if_false, qlk, qtk, qif_t, qif_f, qbd_some, Option.toList_some, Option.toList_none, List.cons_append, List.nil_append, List.append_nil, sX12_isMinutes_n]
theorem sX12_pass_state {N A : qMem} {n : Int} (hN : qMN N A) (hA : qNow A) (h : 0 ≤ n ∧ n ≤ 60) (h2 : ¬ A 12 11 + n ≤ 9999) : S_X12_pass [qA 82, qI n] (qH0 N) = some (some (qI (-3)), qH0 N) := by
  have hm := hA.2.1.1
  have e : kadd (N 82 1) n = A 12 11 + n := by rw [hN.1.1.2]; exact kadd_eq (by omega) (by omega)
  simp (disch := first | assumption | omega) only [E_X12_pass, B_X12_pass_0, B_X12_pass_5, B_X12_pass_8, B_X12_pass_11, B_X12_pass_23, B_X12_pass_26, B_X12_pass_31, not_true_eq_false, not_false_eq_true, if_true, if_false, qlk, qtk, qif_t, qif_f, qbd_some, Option.toList_some, Option.toList_none, List.cons_append, List.nil_append, List.append_nil, sX12_isMinutes_y, e]
theorem sX12_pass {N A : qMem} {n : Int} (hN : qMN N A) (hA : qNow A) (h : 0 ≤ n ∧ n ≤ 60) (h2 : A 12 11 + n ≤ 9999) : ∃ N', S_X12_pass [qA 82, qI n] (qH0 N) = some (some (qI (fMin A 12 n.toNat 13 4)), qH0 N') ∧ qMN N' (fMin A 12 n.toNat) ∧ qMx N' N := by
  have hm := hA.2.1.1
  have e : kadd (N 82 1) n = A 12 11 + n := by rw [hN.1.1.2]; exact kadd_eq (by omega) (by omega)
  have hC : qCap N A 12 n := ⟨Or.inl (by rw [hN.2.2.1, hA.2.2.1]), by rw [hN.2.2.1]; omega, by rw [hN.2.2.2]; omega, by rw [hN.2.2.2]; omega⟩
  obtain ⟨N', q1, q2, q3⟩ := sX12_goMinutes hA.1 hA.2.1 hN.1 h.1 hC (by omega) (by omega)
  have e2 : N' 83 4 = fMin A 12 n.toNat 13 4 := q2.2.2.1 4 (by omega) (by omega)
  refine ⟨N', ?_, ⟨q2, by rw [q3.2 27 (by omega)]; exact hN.2.1, by rw [q3.2 29 (by omega)]; exact hN.2.2.1, by rw [q3.2 30 (by omega)]; exact hN.2.2.2⟩, qMx_f (qTf_m q3)⟩
  simp (disch := first | assumption | omega) only [E_X12_pass, B_X12_pass_0, B_X12_pass_5, B_X12_pass_8, B_X12_pass_11, B_X12_pass_23, B_X12_pass_26, B_X12_pass_31, not_true_eq_false, not_false_eq_true, if_true, if_false, qlk, qtk, qif_t, qif_f, qbd_some, Option.toList_some, Option.toList_none, List.cons_append, List.nil_append, List.append_nil, sX12_isMinutes_y, e, q1, e2]
/-! on -/
def fOnV (A : qMem) (w : Int) : Prop := (10 ≤ w ∧ w < 15) ∨ (20 ≤ w ∧ w < 20 + A 12 10) ∨ (30 ≤ w ∧ w < 30 + A 12 10)
def fOn (B : qMem) (w : Int) : Int := if w < 20 then B 22 (w - 10) else if w < 30 then B 26 (w - 20) else B 27 (w - 30)
theorem lX11_on {A : qMem} {n w : Int} (hA : qNow A) (hw : w ≤ 2147483647) : S_X11_on [qA 0, qI n, qI w] (qH0 A) = qlim C_X11_on (50, [some (qA 0), some (qI n), some (qI w), some (qI (if 10 ≤ w ∧ w < 15 then 1 else 0)), none], [qI (if (20 ≤ w ∧ w < 20 + A 12 10) ∨ (30 ≤ w ∧ w < 30 + A 12 10) then 1 else 0)], qH0 A) := by
  have hn := hA.1.2.1
  have step2 : ∀ v : Int, qlim C_X11_on (21, [some (qA 0), some (qI n), some (qI w), none, none], [qI v], qH0 A) = qlim C_X11_on (50, [some (qA 0), some (qI n), some (qI w), some (qI v), none], [qI (if (20 ≤ w ∧ w < 20 + A 12 10) ∨ (30 ≤ w ∧ w < 30 + A 12 10) then 1 else 0)], qH0 A) := by
    intro v
    by_cases c1 : w < 20
    · rw [if_neg (by omega)]
      simp (disch := first | assumption | omega) only [B_X11_on_21, B_X11_on_49, not_true_eq_false, not_false_eq_true, if_true, if_false, qlk, qtk, qif_t, qif_f, qbd_some, Option.toList_some, Option.toList_none, List.cons_append, List.nil_append, List.append_nil]
    · by_cases c2 : 40 ≤ w
      · rw [if_neg (by omega)]
        simp (disch := first | assumption | omega) only [B_X11_on_21, B_X11_on_28, B_X11_on_49, not_true_eq_false, not_false_eq_true, if_true, if_false, qlk, qtk, qif_t, qif_f, qbd_some, Option.toList_some, Option.toList_none, List.cons_append, List.nil_append, List.append_nil]
      · have e : krem w 10 = w % 10 := krem_eq (by omega) (by omega) (by omega) (by omega)
        by_cases c3 : w % 10 < A 12 10
        · rw [if_pos (by omega)]
          simp (disch := first | assumption | omega) only [B_X11_on_21, B_X11_on_28, B_X11_on_34, B_X11_on_42, B_X11_on_45, not_true_eq_false, not_false_eq_true, if_true, if_false, qlk, qtk, qif_t, qif_f, qbd_some, Option.toList_some, Option.toList_none, List.cons_append, List.nil_append, List.append_nil, e, sX11_isPerson_y]
        · rw [if_neg (by omega)]
          simp (disch := first | assumption | omega) only [B_X11_on_21, B_X11_on_28, B_X11_on_34, B_X11_on_42, B_X11_on_49, not_true_eq_false, not_false_eq_true, if_true, if_false, qlk, qtk, qif_t, qif_f, qbd_some, Option.toList_some, Option.toList_none, List.cons_append, List.nil_append, List.append_nil, e, sX11_isPerson_n]
  rw [E_X11_on]
  by_cases c1 : w < 10
  · rw [if_neg (c := 10 ≤ w ∧ w < 15) (by omega), ← step2 0]
    simp (disch := first | assumption | omega) only [B_X11_on_0, B_X11_on_20, not_true_eq_false, not_false_eq_true, if_true, if_false, qlk, qtk, qif_t, qif_f, qbd_some, Option.toList_some, Option.toList_none, List.cons_append, List.nil_append, List.append_nil]
  · by_cases c2 : w < 15
    · have e : ksub w 10 = w - 10 := ksub_eq (by omega) (by omega)
      rw [if_pos (c := 10 ≤ w ∧ w < 15) (by omega), ← step2 1]
      simp (disch := first | assumption | omega) only [B_X11_on_0, B_X11_on_6, B_X11_on_13, B_X11_on_16, not_true_eq_false, not_false_eq_true, if_true, if_false, qlk, qtk, qif_t, qif_f, qbd_some, Option.toList_some, Option.toList_none, List.cons_append, List.nil_append, List.append_nil, e, sX11_isHeap_y]
    · rw [if_neg (c := 10 ≤ w ∧ w < 15) (by omega), ← step2 0]
      have e : ksub w 10 = w - 10 := ksub_eq (by omega) (by omega)
      simp (disch := first | assumption | omega) only [B_X11_on_0, B_X11_on_6, B_X11_on_13, B_X11_on_20, not_true_eq_false, not_false_eq_true, if_true, if_false, qlk, qtk, qif_t, qif_f, qbd_some, Option.toList_some, Option.toList_none, List.cons_append, List.nil_append, List.append_nil, e, sX11_isHeap_n]
theorem sX11_on_none {A : qMem} {n w : Int} (hA : qNow A) (hw : w ≤ 2147483647) (h : ¬ fOnV A w) : S_X11_on [qA 0, qI n, qI w] (qH0 A) = some (some (qI (-1)), qH0 A) := by
  unfold fOnV at h
  rw [lX11_on hA hw, if_neg (c := 10 ≤ w ∧ w < 15) (by omega), if_neg (by omega)]
  simp (disch := first | assumption | omega) only [B_X11_on_50, B_X11_on_56, B_X11_on_61, not_true_eq_false, not_false_eq_true, if_true, if_false, qlk, qtk, qif_t, qif_f, qbd_some, Option.toList_some, Option.toList_none, List.cons_append, List.nil_append, List.append_nil]
theorem sX11_on_bad {A : qMem} {n w : Int} (hA : qNow A) (hw : w ≤ 2147483647) (h : fOnV A w) (hn : ¬ (0 ≤ n ∧ n ≤ 60)) : S_X11_on [qA 0, qI n, qI w] (qH0 A) = some (some (qI (-2)), qH0 A) := by
  unfold fOnV at h
  rw [lX11_on hA hw]
  by_cases c : 10 ≤ w ∧ w < 15
  · rw [if_pos c]
    simp (disch := first | assumption | omega) only [B_X11_on_50, B_X11_on_63, B_X11_on_69, B_X11_on_72, not_true_eq_false, not_false_eq_true, if_true, if_false, qlk, qtk, qif_t, qif_f, qbd_some, Option.toList_some, Option.toList_none, List.cons_append, List.nil_append, List.append_nil, sX11_isIn_n]
  · rw [if_neg c, if_pos (by omega)]
    simp (disch := first | assumption | omega) only [B_X11_on_50, B_X11_on_56, B_X11_on_63, B_X11_on_69, B_X11_on_72, not_true_eq_false, not_false_eq_true, if_true, if_false, qlk, qtk, qif_t, qif_f, qbd_some, Option.toList_some, Option.toList_none, List.cons_append, List.nil_append, List.append_nil, sX11_isIn_n]
theorem sX11_on {A : qMem} {n w : Int} (hA : qNow A) (hw : w ≤ 2147483647) (h : fOnV A w) (hn : 0 ≤ n ∧ n ≤ 60) : S_X11_on [qA 0, qI n, qI w] (qH0 A) = some (some (qI (fOn (fMin (fTr A) 21 n.toNat) w)), qH0 (fMin (fTr A) 21 n.toNat)) := by
  have hp := hA.1.2.1
  have s1 := sT_becomes hA
  have s2 := sT_minutesGo (n := n) (fTr_T hA) (by omega) (by omega) (by omega)
  unfold fOnV at h
  unfold fOn
  rw [lX11_on hA hw]
  by_cases c : 10 ≤ w ∧ w < 15
  · have e : ksub w 10 = w - 10 := ksub_eq (by omega) (by omega)
    rw [if_pos c, if_pos (c := w < 20) (by omega)]
    simp (disch := first | assumption | omega) only [B_X11_on_50, B_X11_on_63, B_X11_on_69, B_X11_on_75, B_X11_on_86, B_X11_on_94, B_X11_on_99, not_true_eq_false, not_false_eq_true, if_true, if_false, qlk, qtk, qif_t, qif_f, qbd_some, Option.toList_some, Option.toList_none, List.cons_append, List.nil_append, List.append_nil, sX11_isIn_y, s1, s2, e]
  · have e : krem w 10 = w % 10 := krem_eq (by omega) (by omega) (by omega) (by omega)
    rw [if_neg c, if_pos (c := (20 ≤ w ∧ w < 20 + A 12 10) ∨ (30 ≤ w ∧ w < 30 + A 12 10)) (by omega), if_neg (c := w < 20) (by omega)]
    by_cases c2 : w < 30
    · have e2 : w % 10 = w - 20 := by omega
      rw [if_pos c2]
      simp (disch := first | assumption | omega) only [B_X11_on_50, B_X11_on_56, B_X11_on_63, B_X11_on_69, B_X11_on_75, B_X11_on_86, B_X11_on_94, B_X11_on_112, B_X11_on_118, B_X11_on_145, not_true_eq_false, not_false_eq_true, if_true, if_false, qlk, qtk, qif_t, qif_f, qbd_some, Option.toList_some, Option.toList_none, List.cons_append, List.nil_append, List.append_nil, sX11_isIn_y, s1, s2, e, e2]
    · have e2 : w % 10 = w - 30 := by omega
      rw [if_neg c2]
      simp (disch := first | assumption | omega) only [B_X11_on_50, B_X11_on_56, B_X11_on_63, B_X11_on_69, B_X11_on_75, B_X11_on_86, B_X11_on_94, B_X11_on_112, B_X11_on_133, B_X11_on_145, not_true_eq_false, not_false_eq_true, if_true, if_false, qlk, qtk, qif_t, qif_f, qbd_some, Option.toList_some, Option.toList_none, List.cons_append, List.nil_append, List.append_nil, sX11_isIn_y, s1, s2, e, e2]
theorem lX12_on_y {N A : qMem} {n w : Int} (hN : qMN N A) (hA : qNow A) (h : fOnV A w) : S_X12_on [qA 82, qI n, qI w] (qH0 N) = qlim C_X12_on (48, [some (qA 82), some (qI n), some (qI w), none], [], qH0 N) := by
  have hp := hA.1.2.1
  have h0 := hN.1.1.1
  have e1 : kadd 19 (N 82 0) = 19 + A 12 10 := by rw [h0]; exact kadd_eq (by omega) (by omega)
  have e2 : kadd 29 (N 82 0) = 29 + A 12 10 := by rw [h0]; exact kadd_eq (by omega) (by omega)
  unfold fOnV at h
  by_cases c : 10 ≤ w ∧ w < 15
  · simp (disch := first | assumption | omega) only [B_X12_on_0, B_X12_on_9, not_true_eq_false, not_false_eq_true, if_true, if_false, qlk, qtk, qif_t, qif_f, qbd_some, Option.toList_some, Option.toList_none, List.cons_append, List.nil_append, List.append_nil, E_X12_on, sX12_in_y]
  · by_cases c2 : 20 ≤ w ∧ w < 20 + A 12 10
    · simp (disch := first | assumption | omega) only [B_X12_on_0, B_X12_on_9, B_X12_on_12, B_X12_on_26, not_true_eq_false, not_false_eq_true, if_true, if_false, qlk, qtk, qif_t, qif_f, qbd_some, Option.toList_some, Option.toList_none, List.cons_append, List.nil_append, List.append_nil, E_X12_on, sX12_in_y, sX12_in_n, e1]
    · simp (disch := first | assumption | omega) only [B_X12_on_0, B_X12_on_9, B_X12_on_12, B_X12_on_26, B_X12_on_29, B_X12_on_43, not_true_eq_false, not_false_eq_true, if_true, if_false, qlk, qtk, qif_t, qif_f, qbd_some, Option.toList_some, Option.toList_none, List.cons_append, List.nil_append, List.append_nil, E_X12_on, sX12_in_y, sX12_in_n, e1, e2]
theorem sX12_on_none {N A : qMem} {n w : Int} (hN : qMN N A) (hA : qNow A) (h : ¬ fOnV A w) : S_X12_on [qA 82, qI n, qI w] (qH0 N) = some (some (qI (-1)), qH0 N) := by
  have hp := hA.1.2.1
  have h0 := hN.1.1.1
  have e1 : kadd 19 (N 82 0) = 19 + A 12 10 := by rw [h0]; exact kadd_eq (by omega) (by omega)
  have e2 : kadd 29 (N 82 0) = 29 + A 12 10 := by rw [h0]; exact kadd_eq (by omega) (by omega)
  unfold fOnV at h
  simp (disch := first | assumption | omega) only [B_X12_on_0, B_X12_on_9, B_X12_on_12, B_X12_on_26, B_X12_on_29, B_X12_on_43, B_X12_on_46, not_true_eq_false, not_false_eq_true, if_true, if_false, qlk, qtk, qif_t, qif_f, qbd_some, Option.toList_some, Option.toList_none, List.cons_append, List.nil_append, List.append_nil, E_X12_on, sX12_in_n, e1, e2]
theorem sX12_on_bad {N A : qMem} {n w : Int} (hN : qMN N A) (hA : qNow A) (h : fOnV A w) (hn : ¬ (0 ≤ n ∧ n ≤ 60)) : S_X12_on [qA 82, qI n, qI w] (qH0 N) = some (some (qI (-2)), qH0 N) := by
  rw [lX12_on_y hN hA h]
  simp (disch := first | assumption | omega) only [B_X12_on_48, B_X12_on_53, B_X12_on_56, not_true_eq_false, not_false_eq_true, if_true, if_false, qlk, qtk, qif_t, qif_f, qbd_some, Option.toList_some, Option.toList_none, List.cons_append, List.nil_append, List.append_nil, sX12_isMinutes_n]
theorem sX12_on {N A : qMem} {n w : Int} (hN : qMN N A) (hA : qNow A) (h : fOnV A w) (hn : 0 ≤ n ∧ n ≤ 60) : ∃ N', S_X12_on [qA 82, qI n, qI w] (qH0 N) = some (some (qI (fOn (fMin (fTr A) 21 n.toNat) w)), qH0 N') ∧ qMN N' A ∧ qMx N' N := by
  have hp := hA.1.2.1
  obtain ⟨N1, q1, q2, q3, q4⟩ := sT_save hN hA
  obtain ⟨N2, r1, r2, r3⟩ := sT_goMinutes (n := n) q2 (fTr_T hA) (by omega) (by omega) (by omega)
  obtain ⟨N3, p1, p2, p3⟩ := sT_putBack r2
  refine ⟨N3, ?_, p2, qMx_t (qMx_f p3) (qMx_t (qMx_f (qTf_m r3)) q4)⟩
  have hR := r2.1
  rw [lX12_on_y hN hA h]
  unfold fOnV at h
  unfold fOn
  by_cases c : w < 20
  · have e : ksub w 10 = w - 10 := ksub_eq (by omega) (by omega)
    have e2 : N2 83 (w - 10) = fMin (fTr A) 21 n.toNat 22 (w - 10) := hR.2.2.1 _ (by omega) (by omega)
    rw [if_pos c]
    simp (disch := first | assumption | omega) only [B_X12_on_48, B_X12_on_53, B_X12_on_59, B_X12_on_63, B_X12_on_68, B_X12_on_74, B_X12_on_113, B_X12_on_118, not_true_eq_false, not_false_eq_true, if_true, if_false, qlk, qtk, qif_t, qif_f, qbd_some, Option.toList_some, Option.toList_none, List.cons_append, List.nil_append, List.append_nil, sX12_isMinutes_y, q1, r1, p1, e, e2]
  · rw [if_neg c]
    by_cases c2 : w < 30
    · have e : ksub w 20 = w - 20 := ksub_eq (by omega) (by omega)
      have e2 : N2 87 (w - 20) = fMin (fTr A) 21 n.toNat 26 (w - 20) := (hR.2.2.2.1 _ (by omega) (by omega)).2.2.2.1
      rw [if_pos c2]
      simp (disch := first | assumption | omega) only [B_X12_on_48, B_X12_on_53, B_X12_on_59, B_X12_on_63, B_X12_on_68, B_X12_on_86, B_X12_on_92, B_X12_on_113, B_X12_on_118, not_true_eq_false, not_false_eq_true, if_true, if_false, qlk, qtk, qif_t, qif_f, qbd_some, Option.toList_some, Option.toList_none, List.cons_append, List.nil_append, List.append_nil, sX12_isMinutes_y, q1, r1, p1, e, e2]
    · have e : ksub w 30 = w - 30 := ksub_eq (by omega) (by omega)
      have e2 : N2 88 (w - 30) = fMin (fTr A) 21 n.toNat 27 (w - 30) := (hR.2.2.2.1 _ (by omega) (by omega)).2.2.2.2.1
      rw [if_neg c2]
      simp (disch := first | assumption | omega) only [B_X12_on_48, B_X12_on_53, B_X12_on_59, B_X12_on_63, B_X12_on_68, B_X12_on_86, B_X12_on_104, B_X12_on_113, B_X12_on_118, not_true_eq_false, not_false_eq_true, if_true, if_false, qlk, qtk, qif_t, qif_f, qbd_some, Option.toList_some, Option.toList_none, List.cons_append, List.nil_append, List.append_nil, sX12_isMinutes_y, q1, r1, p1, e, e2]
/-! ready -/
def fRd (B : qMem) (q : Int) : Nat → Nat → Int
  | 0, _ => -5
  | d + 1, k => if q ≤ fMin B 21 k 22 4 then k else fRd B q d (k + 1)
theorem lX11_ready {B : qMem} {q : Int} (hB : qTr B 0) : ∀ d k : Nat, k + d = 100 →
    ∃ M', qlim C_X11_ready (26, [some (qA 0), some (qI q), some (qI k)], [], qH0 (fMin B 21 k)) = some (some (qI (fRd B q d k)), qH0 M') ∧ qCu M' B
  | 0, k, hk => ⟨fMin B 21 k, by simp (disch := first | assumption | omega) only [B_X11_ready_26, B_X11_ready_62, not_true_eq_false, not_false_eq_true, if_true, if_false, qlk, qtk, qif_t, qif_f, qbd_some, Option.toList_some, Option.toList_none, List.cons_append, List.nil_append, List.append_nil, fRd], fMin_x hB k (by omega)⟩
  | d + 1, k, hk => by
    have e1 : kadd (k : Int) 1 = ((k + 1 : Nat) : Int) := by rw [kadd_eq (by omega) (by omega)]; omega
    by_cases c : q ≤ fMin B 21 k 22 4
    · refine ⟨fMin B 21 k, ?_, fMin_x hB k (by omega)⟩
      have e : fRd B q (d + 1) k = k := if_pos c
      rw [e]
      simp (disch := first | assumption | omega) only [B_X11_ready_26, B_X11_ready_32, B_X11_ready_45, not_true_eq_false, not_false_eq_true, if_true, if_false, qlk, qtk, qif_t, qif_f, qbd_some, Option.toList_some, Option.toList_none, List.cons_append, List.nil_append, List.append_nil]
    · have e : fRd B q (d + 1) k = fRd B q d (k + 1) := if_neg c
      obtain ⟨M', q1, q2⟩ := lX11_ready hB d (k + 1) (by omega)
      have hT := fMin_T hB k (by omega)
      have s : S_X8_minutesGo [qA 21, qI 1] (qH0 (fMin B 21 k)) = some (some (qI (fMin (fMin B 21 k) 21 1 22 4)), qH0 (fMin B 21 (k + 1))) := sT_minutesGo (n := 1) hT (by omega) (by omega) (by omega)
      refine ⟨M', ?_, q2⟩
      rw [e, ← q1]
      simp (disch := first | assumption | omega) only [B_X11_ready_26, B_X11_ready_32, B_X11_ready_47, B_X11_ready_55, not_true_eq_false, not_false_eq_true, if_true, if_false, qlk, qtk, qif_t, qif_f, qbd_some, Option.toList_some, Option.toList_none, List.cons_append, List.nil_append, List.append_nil, s, e1]
theorem sX11_ready_bad {A : qMem} {q : Int} (h : ¬ (0 ≤ q ∧ q ≤ 9999)) : S_X11_ready [qA 0, qI q] (qH0 A) = some (some (qI (-2)), qH0 A) := by
  simp (disch := first | assumption | omega) only [B_X11_ready_0, B_X11_ready_7, B_X11_ready_10, not_true_eq_false, not_false_eq_true, if_true, if_false, qlk, qtk, qif_t, qif_f, qbd_some, Option.toList_some, Option.toList_none, List.cons_append, List.nil_append, List.append_nil, E_X11_ready, sX11_isIn_n]
theorem sX11_ready {A : qMem} {q : Int} (hA : qNow A) (h : 0 ≤ q ∧ q ≤ 9999) : ∃ M', S_X11_ready [qA 0, qI q] (qH0 A) = some (some (qI (fRd (fTr A) q 100 0)), qH0 M') ∧ qCu M' A := by
  obtain ⟨M', q1, q2⟩ := lX11_ready (q := q) (fTr_T hA) 100 0 (by omega)
  have s := sT_becomes hA
  refine ⟨M', ?_, qCu_t q2 fTr_x⟩
  rw [← q1]
  simp (disch := first | assumption | omega) only [B_X11_ready_0, B_X11_ready_7, B_X11_ready_13, B_X11_ready_24, not_true_eq_false, not_false_eq_true, if_true, if_false, qlk, qtk, qif_t, qif_f, qbd_some, Option.toList_some, Option.toList_none, List.cons_append, List.nil_append, List.append_nil, E_X11_ready, sX11_isIn_y, s]
  rfl
theorem lX12_ready {A B : qMem} {q : Int} (hB : qTr B 0) : ∀ (d k : Nat) (N : qMem), k + d = 100 → qMT N A (fMin B 21 k) →
    ∃ N', qlim C_X12_ready (17, [some (qA 82), some (qI q), some (qI k)], [], qH0 N) = some (some (qI (fRd B q d k)), qH0 N') ∧ qMN N' A ∧ qTf N' N
  | 0, k, N, hk, hN => by
    obtain ⟨N', p1, p2, p3⟩ := sT_putBack hN
    refine ⟨N', ?_, p2, p3⟩
    simp (disch := first | assumption | omega) only [B_X12_ready_17, B_X12_ready_43, B_X12_ready_47, B_X12_ready_57, B_X12_ready_59, not_true_eq_false, not_false_eq_true, if_true, if_false, qlk, qtk, qif_t, qif_f, qbd_some, Option.toList_some, Option.toList_none, List.cons_append, List.nil_append, List.append_nil, p1, fRd]
  | d + 1, k, N, hk, hN => by
    have e1 : kadd (k : Int) 1 = ((k + 1 : Nat) : Int) := by rw [kadd_eq (by omega) (by omega)]; omega
    have e4 : N 83 4 = fMin B 21 k 22 4 := hN.1.2.2.1 4 (by omega) (by omega)
    by_cases c : q ≤ fMin B 21 k 22 4
    · obtain ⟨N', p1, p2, p3⟩ := sT_putBack hN
      refine ⟨N', ?_, p2, p3⟩
      have e : fRd B q (d + 1) k = k := if_pos c
      rw [e]
      simp (disch := first | assumption | omega) only [B_X12_ready_17, B_X12_ready_23, B_X12_ready_43, B_X12_ready_47, B_X12_ready_53, B_X12_ready_59, not_true_eq_false, not_false_eq_true, if_true, if_false, qlk, qtk, qif_t, qif_f, qbd_some, Option.toList_some, Option.toList_none, List.cons_append, List.nil_append, List.append_nil, p1, e4]
    · have e : fRd B q (d + 1) k = fRd B q d (k + 1) := if_neg c
      obtain ⟨N1, r1, r2, r3⟩ := sT_goMinute hN (fMin_T hB k (by omega)) (by omega) (by omega)
      obtain ⟨N2, q1, q2, q3⟩ := lX12_ready (q := q) hB d (k + 1) N1 (by omega) r2
      refine ⟨N2, ?_, q2, qTf_t q3 (qTf_m r3)⟩
      rw [e, ← q1]
      simp (disch := first | assumption | omega) only [B_X12_ready_17, B_X12_ready_23, B_X12_ready_33, B_X12_ready_37, not_true_eq_false, not_false_eq_true, if_true, if_false, qlk, qtk, qif_t, qif_f, qbd_some, Option.toList_some, Option.toList_none, List.cons_append, List.nil_append, List.append_nil, r1, e4, e1]
theorem sX12_ready_bad {N : qMem} {q : Int} (h : ¬ (0 ≤ q ∧ q ≤ 9999)) : S_X12_ready [qA 82, qI q] (qH0 N) = some (some (qI (-2)), qH0 N) := by
  simp (disch := first | assumption | omega) only [B_X12_ready_0, B_X12_ready_5, B_X12_ready_8, not_true_eq_false, not_false_eq_true, if_true, if_false, qlk, qtk, qif_t, qif_f, qbd_some, Option.toList_some, Option.toList_none, List.cons_append, List.nil_append, List.append_nil, E_X12_ready, sX12_isLetters_n]
theorem sX12_ready {N A : qMem} {q : Int} (hN : qMN N A) (hA : qNow A) (h : 0 ≤ q ∧ q ≤ 9999) : ∃ N', S_X12_ready [qA 82, qI q] (qH0 N) = some (some (qI (fRd (fTr A) q 100 0)), qH0 N') ∧ qMN N' A ∧ qMx N' N := by
  obtain ⟨N1, q1, q2, q3, q4⟩ := sT_save hN hA
  obtain ⟨N2, r1, r2, r3⟩ := lX12_ready (q := q) (fTr_T hA) 100 0 N1 (by omega) q2
  refine ⟨N2, ?_, r2, qMx_t (qMx_f r3) q4⟩
  rw [← r1]
  simp (disch := first | assumption | omega) only [B_X12_ready_0, B_X12_ready_5, B_X12_ready_11, B_X12_ready_15, not_true_eq_false, not_false_eq_true, if_true, if_false, qlk, qtk, qif_t, qif_f, qbd_some, Option.toList_some, Option.toList_none, List.cons_append, List.nil_append, List.append_nil, E_X12_ready, sX12_isLetters_y, q1]
  rfl
