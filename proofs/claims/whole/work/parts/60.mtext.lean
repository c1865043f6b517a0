/-! the text (reference): signs, numbers, tests, what waits -/
def qTm (N : qMem) (n : Int) (t : Int → Int) : Prop := N 82 12 = n ∧ (0 ≤ n ∧ n ≤ 100) ∧ (∀ i : Int, 0 ≤ i → i < n → N 90 i = t i) ∧ (∀ i : Int, n ≤ i → t i = -1)
/-- what reading a text may change -/
def qFr (c : Int) (N' N : qMem) : Prop := (∀ a : Int, ¬ a = 82 → ¬ a = 95 → ¬ a = 96 → ¬ a = 97 → N' a = N a) ∧ (∀ k : Int, ¬ k = c → N' 95 k = N 95 k) ∧ (∀ k : Int, ¬ k = 13 → ¬ k = 14 → ¬ k = 23 → ¬ k = 24 → ¬ k = 25 → N' 82 k = N 82 k)
theorem qFr_r {c : Int} {N : qMem} : qFr c N N := ⟨fun _ _ _ _ _ => rfl, fun _ _ => rfl, fun _ _ _ _ _ _ => rfl⟩
theorem qFr_t {c : Int} {L N M : qMem} (h1 : qFr c L N) (h2 : qFr c N M) : qFr c L M := ⟨fun a a1 a2 a3 a4 => (h1.1 a a1 a2 a3 a4).trans (h2.1 a a1 a2 a3 a4), fun k a => (h1.2.1 k a).trans (h2.2.1 k a), fun k a b d e f => (h1.2.2 k a b d e f).trans (h2.2.2 k a b d e f)⟩
theorem qFr_up {c : Int} {N M : qMem} {a k v : Int} (h : qFr c N M) (ha : a = 96 ∨ a = 97 ∨ (a = 95 ∧ k = c) ∨ (a = 82 ∧ (k = 13 ∨ k = 14 ∨ k = 23 ∨ k = 24 ∨ k = 25))) : qFr c (qup N a k v) M :=
  ⟨fun a' a1 a2 a3 a4 => by rw [qup_row (by omega)]; exact h.1 a' a1 a2 a3 a4, fun k' b => by rw [qup_ne (by omega)]; exact h.2.1 k' b, fun k' b1 b2 b3 b4 b5 => by rw [qup_ne (by omega)]; exact h.2.2 k' b1 b2 b3 b4 b5⟩
theorem qTm_fr {c n : Int} {N M : qMem} {t : Int → Int} (h : qTm M n t) (f : qFr c N M) : qTm N n t :=
  ⟨(f.2.2 12 (by omega) (by omega) (by omega) (by omega) (by omega)).trans h.1, h.2.1, fun i a b => by rw [f.1 90 (by omega) (by omega) (by omega) (by omega)]; exact h.2.2.1 i a b, h.2.2.2⟩
theorem qTm_up {n : Int} {M : qMem} {t : Int → Int} {a k v : Int} (h : qTm M n t) (ha : a = 96 ∨ a = 97 ∨ a = 95 ∨ (a = 82 ∧ (k = 13 ∨ k = 14 ∨ k = 23 ∨ k = 24 ∨ k = 25))) : qTm (qup M a k v) n t :=
  qTm_fr (c := k) h (qFr_up qFr_r (by omega))
theorem qTm_lt {M : qMem} {n i : Int} {t : Int → Int} (h : qTm M n t) (hi : ¬ t i = -1) : i < n := by
  by_cases c : i < n
  · exact c
  · exact absurd (h.2.2.2 i (by omega)) hi
theorem sX12_next {M : qMem} {n : Int} {t : Int → Int} (h : qTm M n t) (h0 : 0 ≤ M 82 13) : S_X12_next [qA 82] (qH0 M) = some (some (qI (t (M 82 13))), qH0 M) := by
  obtain ⟨h2, hn, h3, h4⟩ := h
  by_cases c : M 82 12 ≤ M 82 13
  · have e := h4 (M 82 13) (by omega)
    rw [e]
    simp (disch := first | assumption | omega) only [E_X12_next, B_X12_next_0, B_X12_next_11, B_X12_next_23, B_X12_next_24, not_true_eq_false, not_false_eq_true, if_true, if_false, qlk, qtk, qif_t, qif_f, qbd_some, Option.toList_some, Option.toList_none, List.cons_append, List.nil_append, List.append_nil]
  · have e := h3 (M 82 13) h0 (by omega)
    rw [← e]
    simp (disch := first | assumption | omega) only [E_X12_next, B_X12_next_0, B_X12_next_11, B_X12_next_23, B_X12_next_24, not_true_eq_false, not_false_eq_true, if_true, if_false, qlk, qtk, qif_t, qif_f, qbd_some, Option.toList_some, Option.toList_none, List.cons_append, List.nil_append, List.append_nil]
theorem sX12_takes_y {M : qMem} {n c : Int} {t : Int → Int} (h : qTm M n t) (h0 : 0 ≤ M 82 13) (hc : t (M 82 13) = c) (hc0 : ¬ c = -1) : S_X12_takes [qA 82, qI c] (qH0 M) = some (some (qI 1), qH0 (qup M 82 13 (M 82 13 + 1))) := by
  have s := sX12_next h h0
  have hl := qTm_lt h (i := M 82 13) (by omega)
  have hn := h.2.1
  have e : kadd (M 82 13) 1 = M 82 13 + 1 := kadd_eq (by omega) (by omega)
  simp (disch := first | assumption | omega) only [E_X12_takes, B_X12_takes_0, B_X12_takes_4, B_X12_takes_8, B_X12_takes_10, not_true_eq_false, not_false_eq_true, if_true, if_false, qlk, qtk, qif_t, qif_f, qbd_some, Option.toList_some, Option.toList_none, List.cons_append, List.nil_append, List.append_nil, s, e]
theorem sX12_takes_n {M : qMem} {n c : Int} {t : Int → Int} (h : qTm M n t) (h0 : 0 ≤ M 82 13) (hc : ¬ t (M 82 13) = c) : S_X12_takes [qA 82, qI c] (qH0 M) = some (some (qI 0), qH0 M) := by
  have s := sX12_next h h0
  simp (disch := first | assumption | omega) only [E_X12_takes, B_X12_takes_0, B_X12_takes_4, B_X12_takes_8, B_X12_takes_10, not_true_eq_false, not_false_eq_true, if_true, if_false, qlk, qtk, qif_t, qif_f, qbd_some, Option.toList_some, Option.toList_none, List.cons_append, List.nil_append, List.append_nil, s]
theorem sX12_isDigit_y {M : qMem} {n : Int} {t : Int → Int} (h : qTm M n t) (h0 : 0 ≤ M 82 13) (c : 48 ≤ t (M 82 13) ∧ t (M 82 13) ≤ 57) : S_X12_isDigit [qA 82] (qH0 M) = some (some (qI 1), qH0 M) := by
  have s := sX12_next h h0
  simp (disch := first | assumption | omega) only [E_X12_isDigit, B_X12_isDigit_0, B_X12_isDigit_5, B_X12_isDigit_12, not_true_eq_false, not_false_eq_true, if_true, if_false, qlk, qtk, qif_t, qif_f, qbd_some, Option.toList_some, Option.toList_none, List.cons_append, List.nil_append, List.append_nil, s, sX12_in_y]
theorem sX12_isDigit_n {M : qMem} {n : Int} {t : Int → Int} (h : qTm M n t) (h0 : 0 ≤ M 82 13) (c : ¬ (48 ≤ t (M 82 13) ∧ t (M 82 13) ≤ 57)) : S_X12_isDigit [qA 82] (qH0 M) = some (some (qI 0), qH0 M) := by
  have s := sX12_next h h0
  simp (disch := first | assumption | omega) only [E_X12_isDigit, B_X12_isDigit_0, B_X12_isDigit_5, B_X12_isDigit_12, not_true_eq_false, not_false_eq_true, if_true, if_false, qlk, qtk, qif_t, qif_f, qbd_some, Option.toList_some, Option.toList_none, List.cons_append, List.nil_append, List.append_nil, s, sX12_in_n]
theorem sX12_number_n {M : qMem} {n : Int} {t : Int → Int} (h : qTm M n t) (h0 : 0 ≤ M 82 13) (c : fNv t (M 82 13) < 0) : S_X12_takesNumber [qA 82] (qH0 M) = some (some (qI 0), qH0 M) := by
  have d : ¬ (48 ≤ t (M 82 13) ∧ t (M 82 13) ≤ 57) := fun q => by
    unfold fNv at c
    rw [if_pos q] at c
    split at c <;> omega
  have s := sX12_isDigit_n h h0 d
  simp (disch := first | assumption | omega) only [E_X12_takesNumber, B_X12_takesNumber_0, B_X12_takesNumber_4, B_X12_takesNumber_7, B_X12_takesNumber_9, B_X12_takesNumber_16, B_X12_takesNumber_21, B_X12_takesNumber_25, B_X12_takesNumber_28, B_X12_takesNumber_40, B_X12_takesNumber_63, not_true_eq_false, not_false_eq_true, if_true, if_false, qlk, qtk, qif_t, qif_f, qbd_some, Option.toList_some, Option.toList_none, List.cons_append, List.nil_append, List.append_nil, s]
theorem sX12_number {M : qMem} {n : Int} {t : Int → Int} (h : qTm M n t) (h0 : 0 ≤ M 82 13) (c : 0 ≤ fNv t (M 82 13)) : ∃ N, S_X12_takesNumber [qA 82] (qH0 M) = some (some (qI 1), qH0 N) ∧ N 82 13 = fNe t (M 82 13) ∧ N 82 14 = fNv t (M 82 13) ∧ (∀ a k : Int, ¬ (a = 82 ∧ (k = 13 ∨ k = 14)) → N a k = M a k) := by
  have d : 48 ≤ t (M 82 13) ∧ t (M 82 13) ≤ 57 := by
    by_cases q : 48 ≤ t (M 82 13) ∧ t (M 82 13) ≤ 57
    · exact q
    · unfold fNv at c
      rw [if_neg q] at c
      omega
  have hn := h.2.1
  have hl := qTm_lt h (i := M 82 13) (by omega)
  have s := sX12_isDigit_y h h0 d
  have x1 : qup M 82 14 0 82 13 = M 82 13 := qup_ne (by omega)
  have h1 := qTm_up (a := 82) (k := 14) (v := 0) h (by omega)
  have s1 := sX12_isDigit_y h1 (by rw [x1]; exact h0) (by rw [x1]; exact d)
  have s2 := sX12_next h1 (by rw [x1]; exact h0)
  rw [x1] at s2
  have e1 : ksub (kadd (kmul 10 0) (t (M 82 13))) 48 = t (M 82 13) - 48 := by rw [kmul_eq (by omega) (by omega), kadd_eq (by omega) (by omega), ksub_eq (by omega) (by omega)]; omega
  have e2 : kadd (M 82 13) 1 = M 82 13 + 1 := kadd_eq (by omega) (by omega)
  have e3 : kadd 0 1 = 1 := rfl
  have e4 : kadd 1 1 = 2 := rfl
  have h2 := qTm_up (a := 82) (k := 13) (v := M 82 13 + 1) (qTm_up (a := 82) (k := 14) (v := t (M 82 13) - 48) h1 (by omega)) (by omega)
  have x2 : qup (qup (qup M 82 14 0) 82 14 (t (M 82 13) - 48)) 82 13 (M 82 13 + 1) 82 13 = M 82 13 + 1 := qup_self
  have x3 : qup (qup (qup M 82 14 0) 82 14 (t (M 82 13) - 48)) 82 13 (M 82 13 + 1) 82 14 = t (M 82 13) - 48 := by rw [qup_ne (by omega), qup_self]
  unfold fNv fNe
  rw [if_pos d, if_pos d]
  by_cases f : 48 ≤ t (M 82 13 + 1) ∧ t (M 82 13 + 1) ≤ 57
  · have hl2 := qTm_lt h (i := M 82 13 + 1) (by omega)
    have s3 := sX12_isDigit_y h2 (by rw [x2]; omega) (by rw [x2]; exact f)
    have s4 := sX12_next h2 (by rw [x2]; omega)
    rw [x2] at s4
    have e5 : ksub (kadd (kmul 10 (t (M 82 13) - 48)) (t (M 82 13 + 1))) 48 = 10 * (t (M 82 13) - 48) + (t (M 82 13 + 1) - 48) := by
      rw [kmul_eq (by omega) (by omega), kadd_eq (by omega) (by omega), ksub_eq (by omega) (by omega)]
      omega
    have e6 : kadd (M 82 13 + 1) 1 = M 82 13 + 2 := by rw [kadd_eq (by omega) (by omega)]; omega
    rw [if_pos f, if_pos f]
    refine ⟨_, by simp (disch := first | assumption | omega) only [E_X12_takesNumber, B_X12_takesNumber_0, B_X12_takesNumber_4, B_X12_takesNumber_7, B_X12_takesNumber_9, B_X12_takesNumber_16, B_X12_takesNumber_21, B_X12_takesNumber_25, B_X12_takesNumber_28, B_X12_takesNumber_40, B_X12_takesNumber_63, qup_self, qup_ne, not_true_eq_false, not_false_eq_true, if_true, if_false, qlk, qtk, qif_t, qif_f, qbd_some, Option.toList_some, Option.toList_none, List.cons_append, List.nil_append, List.append_nil, s, s1, s2, e1, e2, e3, s3, s4, e4, e5, e6, Int.reduceLE, Int.reduceEq]; exact rfl, ?_, ?_, fun a k hk => ?_⟩
    · rw [qup_self]
    · rw [qup_ne (by omega), qup_self]
    · rw [qup_ne (by omega), qup_ne (by omega), qup_ne (by omega), qup_ne (by omega), qup_ne (by omega)]
  · have s3 := sX12_isDigit_n h2 (by rw [x2]; omega) (by rw [x2]; exact f)
    rw [if_neg f, if_neg f]
    refine ⟨_, by simp (disch := first | assumption | omega) only [E_X12_takesNumber, B_X12_takesNumber_0, B_X12_takesNumber_4, B_X12_takesNumber_7, B_X12_takesNumber_9, B_X12_takesNumber_16, B_X12_takesNumber_21, B_X12_takesNumber_25, B_X12_takesNumber_28, B_X12_takesNumber_40, B_X12_takesNumber_63, qup_self, qup_ne, not_true_eq_false, not_false_eq_true, if_true, if_false, qlk, qtk, qif_t, qif_f, qbd_some, Option.toList_some, Option.toList_none, List.cons_append, List.nil_append, List.append_nil, s, s1, s2, e1, e2, e3, s3, Int.reduceLE, Int.reduceEq]; exact rfl, ?_, ?_, fun a k hk => ?_⟩
    · rw [qup_self]
    · rw [qup_ne (by omega), qup_self]
    · rw [qup_ne (by omega), qup_ne (by omega), qup_ne (by omega)]
theorem sX12_emits {M : qMem} {x : Int} (h1 : 0 ≤ M 82 23) (h2 : M 82 23 < 600) : S_X12_emits [qA 82, qI x] (qH0 M) = some (none, qH0 (qup (qup M 96 (M 82 23) x) 82 23 (M 82 23 + 1))) := by
  have e : kadd (M 82 23) 1 = M 82 23 + 1 := kadd_eq (by omega) (by omega)
  simp (disch := first | assumption | omega) only [E_X12_emits, B_X12_emits_0, qup_self, qup_ne, not_true_eq_false, not_false_eq_true, if_true, if_false, qlk, qtk, qif_t, qif_f, qbd_some, Option.toList_some, Option.toList_none, List.cons_append, List.nil_append, List.append_nil, e]
/-- the top j of what waits are ! and what is below isn't -/
def qTop (N : qMem) (j : Nat) : Prop := (j : Int) ≤ N 82 24 ∧ (∀ k : Int, N 82 24 - j ≤ k → k < N 82 24 → N 97 k = 33) ∧ (N 82 24 = j ∨ ¬ N 97 (N 82 24 - j - 1) = 33)
theorem sX12_whole {c : Int} : ∀ (j : Nat) (N : qMem), qTop N j → N 82 24 ≤ 100 → (0 ≤ N 82 23 ∧ N 82 23 + j ≤ 600) → ((j : Int) ≤ N 82 25 ∧ N 82 25 ≤ 100) →
    ∃ N', S_X12_whole [qA 82] (qH0 N) = some (none, qH0 N') ∧ qFr c N' N ∧ N' 95 = N 95 ∧ N' 97 = N 97 ∧ N' 82 13 = N 82 13 ∧ N' 82 24 = N 82 24 - j ∧ N' 82 25 = N 82 25 - j ∧ N' 82 23 = N 82 23 + j ∧ (∀ k : Int, N 82 23 ≤ k → k < N 82 23 + j → N' 96 k = -33) ∧ (∀ k : Int, k < N 82 23 → N' 96 k = N 96 k)
  | 0, N, hT, hw, hs, hd => by
    obtain ⟨t1, t2, t3⟩ := hT
    refine ⟨N, ?_, qFr_r, rfl, rfl, rfl, by omega, by omega, by omega, fun k a b => by omega, fun k a => rfl⟩
    by_cases c0 : N 82 24 ≤ 0
    · simp (disch := first | assumption | omega) only [E_X12_whole, B_X12_whole_0, B_X12_whole_7, B_X12_whole_23, B_X12_whole_29, B_X12_whole_52, not_true_eq_false, not_false_eq_true, if_true, if_false, qlk, qtk, qif_t, qif_f, qbd_some, Option.toList_some, Option.toList_none, List.cons_append, List.nil_append, List.append_nil]
    · have e : ksub (N 82 24) 1 = N 82 24 - 1 := ksub_eq (by omega) (by omega)
      have t4 : ¬ N 97 (N 82 24 - 1) = 33 := by
        rcases t3 with t3 | t3
        · omega
        · intro q
          apply t3
          rw [← q]
          congr 1
          omega
      rw [E_X12_whole, B_X12_whole_0, qif_f c0, B_X12_whole_7 (by rw [e]; omega) (by rw [e]; omega), e, qif_t t4, B_X12_whole_52]
  | j + 1, N, hT, hw, hs, hd => by
    obtain ⟨t1, t2, t3⟩ := hT
    have e : ksub (N 82 24) 1 = N 82 24 - 1 := ksub_eq (by omega) (by omega)
    have e2 : ksub (N 82 25) 1 = N 82 25 - 1 := ksub_eq (by omega) (by omega)
    have t4 : N 97 (N 82 24 - 1) = 33 := t2 _ (by omega) (by omega)
    have s := sX12_emits (M := N) (x := -33) (by omega) (by omega)
    have ih := sX12_whole (c := c) j (qup (qup (qup (qup N 96 (N 82 23) (-33)) 82 23 (N 82 23 + 1)) 82 24 (N 82 24 - 1)) 82 25 (N 82 25 - 1))
    have y24 : qup (qup (qup (qup N 96 (N 82 23) (-33)) 82 23 (N 82 23 + 1)) 82 24 (N 82 24 - 1)) 82 25 (N 82 25 - 1) 82 24 = N 82 24 - 1 := by rw [qup_ne (by omega), qup_self]
    have y23 : qup (qup (qup (qup N 96 (N 82 23) (-33)) 82 23 (N 82 23 + 1)) 82 24 (N 82 24 - 1)) 82 25 (N 82 25 - 1) 82 23 = N 82 23 + 1 := by rw [qup_ne (by omega), qup_ne (by omega), qup_self]
    have y25 : qup (qup (qup (qup N 96 (N 82 23) (-33)) 82 23 (N 82 23 + 1)) 82 24 (N 82 24 - 1)) 82 25 (N 82 25 - 1) 82 25 = N 82 25 - 1 := qup_self
    have y13 : qup (qup (qup (qup N 96 (N 82 23) (-33)) 82 23 (N 82 23 + 1)) 82 24 (N 82 24 - 1)) 82 25 (N 82 25 - 1) 82 13 = N 82 13 := by rw [qup_ne (by omega), qup_ne (by omega), qup_ne (by omega), qup_ne (by omega)]
    have y97 : qup (qup (qup (qup N 96 (N 82 23) (-33)) 82 23 (N 82 23 + 1)) 82 24 (N 82 24 - 1)) 82 25 (N 82 25 - 1) 97 = N 97 := by rw [qup_row (by omega), qup_row (by omega), qup_row (by omega), qup_row (by omega)]
    have y95 : qup (qup (qup (qup N 96 (N 82 23) (-33)) 82 23 (N 82 23 + 1)) 82 24 (N 82 24 - 1)) 82 25 (N 82 25 - 1) 95 = N 95 := by rw [qup_row (by omega), qup_row (by omega), qup_row (by omega), qup_row (by omega)]
    have y96 : ∀ k : Int, qup (qup (qup (qup N 96 (N 82 23) (-33)) 82 23 (N 82 23 + 1)) 82 24 (N 82 24 - 1)) 82 25 (N 82 25 - 1) 96 k = qup N 96 (N 82 23) (-33) 96 k := fun k => by rw [qup_ne (by omega), qup_ne (by omega), qup_ne (by omega)]
    have fr : qFr c (qup (qup (qup (qup N 96 (N 82 23) (-33)) 82 23 (N 82 23 + 1)) 82 24 (N 82 24 - 1)) 82 25 (N 82 25 - 1)) N := qFr_up (qFr_up (qFr_up (qFr_up qFr_r (by omega)) (by omega)) (by omega)) (by omega)
    unfold qTop at ih
    rw [y24, y23, y25, y13, y97, y95] at ih
    obtain ⟨N', q1, q2, q3, q4, q5, q6, q7, q8, q9, q10⟩ := ih ⟨by omega, fun k a b => t2 k (by omega) (by omega), by
      rcases t3 with t3 | t3
      · exact Or.inl (by omega)
      · refine Or.inr (fun q => t3 ?_)
        rw [← q]
        congr 1
        omega⟩ (by omega) (by omega) (by omega)
    refine ⟨N', ?_, qFr_t q2 fr, q3, q4, q5, by omega, by omega, by omega, fun k a b => ?_, fun k a => ?_⟩
    · have y24' : qup (qup N 96 (N 82 23) (-33)) 82 23 (N 82 23 + 1) 82 24 = N 82 24 := by rw [qup_ne (by omega), qup_ne (by omega)]
      have y25' : qup (qup (qup N 96 (N 82 23) (-33)) 82 23 (N 82 23 + 1)) 82 24 (N 82 24 - 1) 82 25 = N 82 25 := by rw [qup_ne (by omega), qup_ne (by omega), qup_ne (by omega)]
      rw [E_X12_whole, B_X12_whole_0, qif_f (by omega), B_X12_whole_7 (by rw [e]; omega) (by rw [e]; omega), e, qif_f (fun q => q t4), B_X12_whole_23, s, qbd_some]
      show qlim C_X12_whole (29, [some (qA 82)], [], qH0 (qup (qup N 96 (N 82 23) (-33)) 82 23 (N 82 23 + 1))) = _
      rw [B_X12_whole_29, y24', e, y25', e2, ← E_X12_whole]
      exact q1
    · by_cases ck : k = N 82 23
      · subst ck
        rw [q10 _ (by omega), y96, qup_self]
      · exact q9 k (by omega) (by omega)
    · rw [q10 k (by omega), y96, qup_ne (by omega)]
def fPc (c : Int) : Int := if c = 112 then 0 else if c = 107 then 1 else if c = 118 then 2 else if c = 119 then 3 else if c = 100 then 4 else if c = 109 then 5 else -1
theorem sX12_place {M : qMem} {c : Int} : S_X12_place [qA 82, qI c] (qH0 M) = some (some (qI (fPc c)), qH0 M) := by
  rw [E_X12_place, B_X12_place_0]
  by_cases h : 100 ≤ c ∧ c ≤ 119
  · have e : c = 100 ∨ c = 101 ∨ c = 102 ∨ c = 103 ∨ c = 104 ∨ c = 105 ∨ c = 106 ∨ c = 107 ∨ c = 108 ∨ c = 109 ∨ c = 110 ∨ c = 111 ∨ c = 112 ∨ c = 113 ∨ c = 114 ∨ c = 115 ∨ c = 116 ∨ c = 117 ∨ c = 118 ∨ c = 119 := by omega
    rcases e with rfl | rfl | rfl | rfl | rfl | rfl | rfl | rfl | rfl | rfl | rfl | rfl | rfl | rfl | rfl | rfl | rfl | rfl | rfl | rfl
    · exact B_X12_place_104
    · exact B_X12_place_108
    · exact B_X12_place_108
    · exact B_X12_place_108
    · exact B_X12_place_108
    · exact B_X12_place_108
    · exact B_X12_place_108
    · exact B_X12_place_98
    · exact B_X12_place_108
    · exact B_X12_place_106
    · exact B_X12_place_108
    · exact B_X12_place_108
    · exact B_X12_place_96
    · exact B_X12_place_108
    · exact B_X12_place_108
    · exact B_X12_place_108
    · exact B_X12_place_108
    · exact B_X12_place_108
    · exact B_X12_place_100
    · exact B_X12_place_102
  · rw [qtk_out _ _ _ (by
      show c < 100 ∨ 100 + ((20 : Nat) : Int) ≤ c
      omega), B_X12_place_108]
    unfold fPc
    rw [if_neg (by omega), if_neg (by omega), if_neg (by omega), if_neg (by omega), if_neg (by omega), if_neg (by omega)]
