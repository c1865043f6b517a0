/-! the text (class): numbers, tests, parts -/
/-- the number that stands at i: its value, -1 if there is none, and where it ends -/
def fNv (t : Int → Int) (i : Int) : Int := if 48 ≤ t i ∧ t i ≤ 57 then (if 48 ≤ t (i + 1) ∧ t (i + 1) ≤ 57 then 10 * (t i - 48) + (t (i + 1) - 48) else t i - 48) else -1
def fNe (t : Int → Int) (i : Int) : Int := if 48 ≤ t i ∧ t i ≤ 57 then (if 48 ≤ t (i + 1) ∧ t (i + 1) ≤ 57 then i + 2 else i + 1) else i
theorem fNv_lo {t : Int → Int} {i : Int} : i ≤ fNe t i ∧ (-1 ≤ fNv t i ∧ fNv t i ≤ 99) ∧ (0 ≤ fNv t i → i + 1 ≤ fNe t i) ∧ (fNv t i < 0 → fNe t i = i) := by
  unfold fNv fNe
  split
  · split <;> omega
  · omega
theorem fNe_le {M : qMem} {g n i : Int} {t : Int → Int} (h : qTc M g n t) (hi : i ≤ n) : fNe t i ≤ n := by
  unfold fNe
  split
  · have h1 := qTc_lt h (i := i) (by omega)
    split
    · have h2 := qTc_lt h (i := i + 1) (by omega)
      omega
    · omega
  · exact hi
theorem sX3_number {M : qMem} {g n : Int} {t : Int → Int} (h : qTc M g n t) (h0 : 0 ≤ M g 6) : S_X3_takesNumber [qA g] (qH0 M) = some (some (qI (fNv t (M g 6))), qH0 (qup M g 6 (fNe t (M g 6)))) := by
  have hg := h.1
  have hn := h.2.2.1
  have s := sX3_next h h0
  unfold fNv fNe
  by_cases c : 48 ≤ t (M g 6) ∧ t (M g 6) ≤ 57
  · have hl := qTc_lt h (i := M g 6) (by omega)
    have e1 : kadd (M g 6) 1 = M g 6 + 1 := kadd_eq (by omega) (by omega)
    have e2 : ksub (kadd 0 (t (M g 6))) 48 = t (M g 6) - 48 := by rw [kadd_eq (by omega) (by omega), ksub_eq (by omega) (by omega)]; omega
    have e3 : kadd 0 1 = 1 := rfl
    have s2 := sX3_next (qTc_6 (v := M g 6 + 1) h) (by rw [qup_self]; omega)
    rw [qup_self] at s2
    rw [if_pos c, if_pos c]
    by_cases d : 48 ≤ t (M g 6 + 1) ∧ t (M g 6 + 1) ≤ 57
    · have hl2 := qTc_lt h (i := M g 6 + 1) (by omega)
      rw [if_pos d, if_pos d]
      have e4 : kadd (M g 6 + 1) 1 = M g 6 + 2 := by rw [kadd_eq (by omega) (by omega)]; omega
      have e5 : ksub (kadd (kmul 10 (t (M g 6) - 48)) (t (M g 6 + 1))) 48 = 10 * (t (M g 6) - 48) + (t (M g 6 + 1) - 48) := by
        rw [kmul_eq (by omega) (by omega), kadd_eq (by omega) (by omega), ksub_eq (by omega) (by omega)]
        omega
      have e6 : kadd 1 1 = 2 := rfl
      simp (disch := first | assumption | omega) only [E_X3_takesNumber, B_X3_takesNumber_0, B_X3_takesNumber_4, B_X3_takesNumber_9, B_X3_takesNumber_13, B_X3_takesNumber_20, B_X3_takesNumber_26, B_X3_takesNumber_28, B_X3_takesNumber_32, B_X3_takesNumber_36, B_X3_takesNumber_40, B_X3_takesNumber_62, not_true_eq_false, not_false_eq_true, if_true, if_false, qlk, qtk, qif_t, qif_f, qbd_some, Option.toList_some, Option.toList_none, List.cons_append, List.nil_append, List.append_nil, s, e1, e2, e3, s2, qup_self, qup_qup, e4, e5, e6, Int.reduceLE, Int.reduceEq]
    · rw [if_neg d, if_neg d]
      by_cases d2 : t (M g 6 + 1) < 48
      · simp (disch := first | assumption | omega) only [E_X3_takesNumber, B_X3_takesNumber_0, B_X3_takesNumber_4, B_X3_takesNumber_9, B_X3_takesNumber_13, B_X3_takesNumber_20, B_X3_takesNumber_26, B_X3_takesNumber_28, B_X3_takesNumber_32, B_X3_takesNumber_36, B_X3_takesNumber_40, B_X3_takesNumber_62, not_true_eq_false, not_false_eq_true, if_true, if_false, qlk, qtk, qif_t, qif_f, qbd_some, Option.toList_some, Option.toList_none, List.cons_append, List.nil_append, List.append_nil, s, e1, e2, e3, s2, Int.reduceLE, Int.reduceEq]
      · simp (disch := first | assumption | omega) only [E_X3_takesNumber, B_X3_takesNumber_0, B_X3_takesNumber_4, B_X3_takesNumber_9, B_X3_takesNumber_13, B_X3_takesNumber_20, B_X3_takesNumber_26, B_X3_takesNumber_28, B_X3_takesNumber_32, B_X3_takesNumber_36, B_X3_takesNumber_40, B_X3_takesNumber_62, not_true_eq_false, not_false_eq_true, if_true, if_false, qlk, qtk, qif_t, qif_f, qbd_some, Option.toList_some, Option.toList_none, List.cons_append, List.nil_append, List.append_nil, s, e1, e2, e3, s2, Int.reduceLE, Int.reduceEq]
  · rw [if_neg c, if_neg c, qup_id]
    by_cases d2 : t (M g 6) < 48
    · simp (disch := first | assumption | omega) only [E_X3_takesNumber, B_X3_takesNumber_0, B_X3_takesNumber_4, B_X3_takesNumber_9, B_X3_takesNumber_13, B_X3_takesNumber_20, B_X3_takesNumber_26, B_X3_takesNumber_28, B_X3_takesNumber_32, B_X3_takesNumber_36, B_X3_takesNumber_40, B_X3_takesNumber_62, not_true_eq_false, not_false_eq_true, if_true, if_false, qlk, qtk, qif_t, qif_f, qbd_some, Option.toList_some, Option.toList_none, List.cons_append, List.nil_append, List.append_nil, s, Int.reduceLE]
    · simp (disch := first | assumption | omega) only [E_X3_takesNumber, B_X3_takesNumber_0, B_X3_takesNumber_4, B_X3_takesNumber_9, B_X3_takesNumber_13, B_X3_takesNumber_20, B_X3_takesNumber_26, B_X3_takesNumber_28, B_X3_takesNumber_32, B_X3_takesNumber_36, B_X3_takesNumber_40, B_X3_takesNumber_62, not_true_eq_false, not_false_eq_true, if_true, if_false, qlk, qtk, qif_t, qif_f, qbd_some, Option.toList_some, Option.toList_none, List.cons_append, List.nil_append, List.append_nil, s, Int.reduceLE]
theorem sX3_adds {M : qMem} {g x : Int} (hg : qHl g) (h0 : 0 ≤ M g 3) (h1 : M g 3 < 100) : S_X3_adds [qA g, qI x] (qH0 M) = some (none, qH0 (qup (qup M (g + 2) (M g 3) x) g 3 (M g 3 + 1))) := by
  have hg2 : ¬ g = g + 2 := by omega
  have e : kadd (M g 3) 1 = M g 3 + 1 := kadd_eq (by omega) (by omega)
  simp (disch := first | assumption | omega) only [E_X3_adds, B_X3_adds_0, B_X3_adds_12, B_X3_adds_32, qup_self, qup_ne, not_true_eq_false, not_false_eq_true, if_true, if_false, qlk, qtk, qif_t, qif_f, qbd_some, Option.toList_some, Option.toList_none, List.cons_append, List.nil_append, List.append_nil, e]
theorem sX3_adds_full {M : qMem} {g x : Int} (hg : qHl g) (h1 : 100 ≤ M g 3) : S_X3_adds [qA g, qI x] (qH0 M) = some (none, qH0 M) := by
  simp (disch := first | assumption | omega) only [E_X3_adds, B_X3_adds_0, B_X3_adds_12, B_X3_adds_32, not_true_eq_false, not_false_eq_true, if_true, if_false, qlk, qtk, qif_t, qif_f, qbd_some, Option.toList_some, Option.toList_none, List.cons_append, List.nil_append, List.append_nil]
def qAsk (c : Int) : Prop := c = 112 ∨ c = 107 ∨ c = 118 ∨ c = 119 ∨ c = 100 ∨ c = 109
theorem sX3_asked_y {M : qMem} {c : Int} (h : qAsk c) : S_X3_isAskedFor [qI c] (qH0 M) = some (some (qI 1), qH0 M) := by
  rcases h with rfl | rfl | rfl | rfl | rfl | rfl <;> simp (disch := first | assumption | omega) only [E_X3_isAskedFor, B_X3_isAskedFor_0, B_X3_isAskedFor_6, B_X3_isAskedFor_12, B_X3_isAskedFor_18, B_X3_isAskedFor_24, B_X3_isAskedFor_30, B_X3_isAskedFor_36, B_X3_isAskedFor_40, B_X3_isAskedFor_41, not_true_eq_false, not_false_eq_true, if_true, if_false, qlk, qtk, qif_t, qif_f, qbd_some, Option.toList_some, Option.toList_none, List.cons_append, List.nil_append, List.append_nil, Int.reduceEq]
theorem sX3_asked_n {M : qMem} {c : Int} (h : ¬ qAsk c) : S_X3_isAskedFor [qI c] (qH0 M) = some (some (qI 0), qH0 M) := by
  unfold qAsk at h
  simp (disch := first | assumption | omega) only [E_X3_isAskedFor, B_X3_isAskedFor_0, B_X3_isAskedFor_6, B_X3_isAskedFor_12, B_X3_isAskedFor_18, B_X3_isAskedFor_24, B_X3_isAskedFor_30, B_X3_isAskedFor_36, B_X3_isAskedFor_40, B_X3_isAskedFor_41, not_true_eq_false, not_false_eq_true, if_true, if_false, qlk, qtk, qif_t, qif_f, qbd_some, Option.toList_some, Option.toList_none, List.cons_append, List.nil_append, List.append_nil]
theorem kor_test : ∀ a ∈ ([112, 107, 118, 119, 100, 109] : List Int), ∀ s ∈ ([60, 61, 62] : List Int), ∀ v : Fin 100, kor (kor a (kshl s 8)) (kshl (v.val : Int) 16) = a + 256 * s + 65536 * (v.val : Int) := by decide +kernel
theorem kor_mark : ∀ a ∈ ([98, 115] : List Int), ∀ v : Fin 100, kor a (kshl (v.val : Int) 16) = a + 65536 * (v.val : Int) := by decide +kernel
theorem kor_t {a s v : Int} (ha : qAsk a) (hs : 60 ≤ s ∧ s ≤ 62) (hv : 0 ≤ v ∧ v ≤ 99) : kor (kor a (kshl s 8)) (kshl v 16) = a + 256 * s + 65536 * v := by
  obtain ⟨m, rfl⟩ := Int.eq_ofNat_of_zero_le hv.1
  have es : s = 60 ∨ s = 61 ∨ s = 62 := by omega
  refine kor_test a ?_ s ?_ ⟨m, by omega⟩
  · rcases ha with rfl | rfl | rfl | rfl | rfl | rfl <;> decide
  · rcases es with rfl | rfl | rfl <;> decide
theorem kor_m {a v : Int} (ha : a = 98 ∨ a = 115) (hv : 0 ≤ v ∧ v ≤ 99) : kor a (kshl v 16) = a + 65536 * v := by
  obtain ⟨m, rfl⟩ := Int.eq_ofNat_of_zero_le hv.1
  refine kor_mark a ?_ ⟨m, by omega⟩
  rcases ha with rfl | rfl <;> decide
/-- a test stands at i: as far as its letter, its sign, its number -/
def qT1 (t : Int → Int) (i : Int) : Prop := qAsk (t i)
def qT2 (t : Int → Int) (i : Int) : Prop := qAsk (t i) ∧ (60 ≤ t (i + 1) ∧ t (i + 1) ≤ 62)
def qT3 (t : Int → Int) (i : Int) : Prop := qT2 t i ∧ 0 ≤ fNv t (i + 2)
theorem qAsk_p {c : Int} (h : qAsk c) : 100 ≤ c ∧ c ≤ 119 := by unfold qAsk at h; omega
theorem sX3_test_1 {M : qMem} {g n : Int} {t : Int → Int} (h : qTc M g n t) (h0 : 0 ≤ M g 6) (h1 : ¬ qT1 t (M g 6)) : S_X3_takesTest [qA g] (qH0 M) = some (some (qI 0), qH0 M) := by
  have hg := h.1
  have s := sX3_next h h0
  have a := sX3_asked_n (M := M) h1
  simp (disch := first | assumption | omega) only [E_X3_takesTest, B_X3_takesTest_0, B_X3_takesTest_4, B_X3_takesTest_9, B_X3_takesTest_12, B_X3_takesTest_14, B_X3_takesTest_28, B_X3_takesTest_35, B_X3_takesTest_41, B_X3_takesTest_47, B_X3_takesTest_49, B_X3_takesTest_63, B_X3_takesTest_68, B_X3_takesTest_70, B_X3_takesTest_85, not_true_eq_false, not_false_eq_true, if_true, if_false, qlk, qtk, qif_t, qif_f, qbd_some, Option.toList_some, Option.toList_none, List.cons_append, List.nil_append, List.append_nil, s, a]
theorem sX3_test_2 {M : qMem} {g n : Int} {t : Int → Int} (h : qTc M g n t) (h0 : 0 ≤ M g 6) (h1 : qT1 t (M g 6)) (h2 : ¬ qT2 t (M g 6)) : S_X3_takesTest [qA g] (qH0 M) = some (some (qI 0), qH0 (qup M g 6 (M g 6 + 1))) := by
  have hg := h.1
  have hn := h.2.2.1
  have s := sX3_next h h0
  have a := sX3_asked_y (M := M) h1
  have hp := qAsk_p h1
  have hl := qTc_lt h (i := M g 6) (by omega)
  have e1 : kadd (M g 6) 1 = M g 6 + 1 := kadd_eq (by omega) (by omega)
  have s2 := sX3_next (qTc_6 (v := M g 6 + 1) h) (by rw [qup_self]; omega)
  rw [qup_self] at s2
  have c : ¬ (60 ≤ t (M g 6 + 1) ∧ t (M g 6 + 1) ≤ 62) := fun q => h2 ⟨h1, q⟩
  simp (disch := first | assumption | omega) only [E_X3_takesTest, B_X3_takesTest_0, B_X3_takesTest_4, B_X3_takesTest_9, B_X3_takesTest_12, B_X3_takesTest_14, B_X3_takesTest_28, B_X3_takesTest_35, B_X3_takesTest_41, B_X3_takesTest_47, B_X3_takesTest_49, B_X3_takesTest_63, B_X3_takesTest_68, B_X3_takesTest_70, B_X3_takesTest_85, not_true_eq_false, not_false_eq_true, if_true, if_false, qlk, qtk, qif_t, qif_f, qbd_some, Option.toList_some, Option.toList_none, List.cons_append, List.nil_append, List.append_nil, s, a, e1, s2]
theorem sX3_test_3 {M : qMem} {g n : Int} {t : Int → Int} (h : qTc M g n t) (h0 : 0 ≤ M g 6) (h2 : qT2 t (M g 6)) (h3 : ¬ qT3 t (M g 6)) : S_X3_takesTest [qA g] (qH0 M) = some (some (qI 0), qH0 (qup M g 6 (M g 6 + 2))) := by
  have hg := h.1
  have hn := h.2.2.1
  have s := sX3_next h h0
  have a := sX3_asked_y (M := M) h2.1
  have hp := qAsk_p h2.1
  have c := h2.2
  have hl := qTc_lt h (i := M g 6 + 1) (by omega)
  have e1 : kadd (M g 6) 1 = M g 6 + 1 := kadd_eq (by omega) (by omega)
  have e2 : kadd (M g 6 + 1) 1 = M g 6 + 2 := by rw [kadd_eq (by omega) (by omega)]; omega
  have s2 := sX3_next (qTc_6 (v := M g 6 + 1) h) (by rw [qup_self]; omega)
  have s3 := sX3_number (qTc_6 (v := M g 6 + 2) h) (by rw [qup_self]; omega)
  rw [qup_self] at s2 s3
  have v : fNv t (M g 6 + 2) < 0 := by
    by_cases q : fNv t (M g 6 + 2) < 0
    · exact q
    · exact absurd ⟨h2, by omega⟩ h3
  have v2 := fNv_lo.2.2.2 v
  rw [v2, qup_qup] at s3
  by_cases d1 : t (M g 6 + 1) = 60
  · simp (disch := first | assumption | omega) only [E_X3_takesTest, B_X3_takesTest_0, B_X3_takesTest_4, B_X3_takesTest_9, B_X3_takesTest_12, B_X3_takesTest_14, B_X3_takesTest_28, B_X3_takesTest_35, B_X3_takesTest_41, B_X3_takesTest_47, B_X3_takesTest_49, B_X3_takesTest_63, B_X3_takesTest_68, B_X3_takesTest_70, B_X3_takesTest_85, not_true_eq_false, not_false_eq_true, if_true, if_false, qlk, qtk, qif_t, qif_f, qbd_some, Option.toList_some, Option.toList_none, List.cons_append, List.nil_append, List.append_nil, s, a, e1, s2, qup_self, qup_qup, e2, s3, d1]
  · by_cases d2 : t (M g 6 + 1) = 61
    · simp (disch := first | assumption | omega) only [E_X3_takesTest, B_X3_takesTest_0, B_X3_takesTest_4, B_X3_takesTest_9, B_X3_takesTest_12, B_X3_takesTest_14, B_X3_takesTest_28, B_X3_takesTest_35, B_X3_takesTest_41, B_X3_takesTest_47, B_X3_takesTest_49, B_X3_takesTest_63, B_X3_takesTest_68, B_X3_takesTest_70, B_X3_takesTest_85, not_true_eq_false, not_false_eq_true, if_true, if_false, qlk, qtk, qif_t, qif_f, qbd_some, Option.toList_some, Option.toList_none, List.cons_append, List.nil_append, List.append_nil, s, a, e1, s2, qup_self, qup_qup, e2, s3, d1, d2]
    · have d3 : t (M g 6 + 1) = 62 := by omega
      simp (disch := first | assumption | omega) only [E_X3_takesTest, B_X3_takesTest_0, B_X3_takesTest_4, B_X3_takesTest_9, B_X3_takesTest_12, B_X3_takesTest_14, B_X3_takesTest_28, B_X3_takesTest_35, B_X3_takesTest_41, B_X3_takesTest_47, B_X3_takesTest_49, B_X3_takesTest_63, B_X3_takesTest_68, B_X3_takesTest_70, B_X3_takesTest_85, not_true_eq_false, not_false_eq_true, if_true, if_false, qlk, qtk, qif_t, qif_f, qbd_some, Option.toList_some, Option.toList_none, List.cons_append, List.nil_append, List.append_nil, s, a, e1, s2, qup_self, qup_qup, e2, s3, d1, d2, d3]
/-- the part that a test gives -/
def fTp (t : Int → Int) (i : Int) : Int := t i + 256 * t (i + 1) + 65536 * fNv t (i + 2)
theorem sX3_test {M : qMem} {g n : Int} {t : Int → Int} (h : qTc M g n t) (h0 : 0 ≤ M g 6) (h3 : qT3 t (M g 6)) (p0 : 0 ≤ M g 3) (p1 : M g 3 < 100) : S_X3_takesTest [qA g] (qH0 M) = some (some (qI 1), qH0 (qup (qup (qup M g 6 (fNe t (M g 6 + 2))) (g + 2) (M g 3) (fTp t (M g 6))) g 3 (M g 3 + 1))) := by
  have hg := h.1
  have hn := h.2.2.1
  have h2 := h3.1
  have s := sX3_next h h0
  have a := sX3_asked_y (M := M) h2.1
  have hp := qAsk_p h2.1
  have c := h2.2
  have hl := qTc_lt h (i := M g 6 + 1) (by omega)
  have e1 : kadd (M g 6) 1 = M g 6 + 1 := kadd_eq (by omega) (by omega)
  have e2 : kadd (M g 6 + 1) 1 = M g 6 + 2 := by rw [kadd_eq (by omega) (by omega)]; omega
  have s2 := sX3_next (qTc_6 (v := M g 6 + 1) h) (by rw [qup_self]; omega)
  have s3 := sX3_number (qTc_6 (v := M g 6 + 2) h) (by rw [qup_self]; omega)
  rw [qup_self] at s2 s3
  rw [qup_qup] at s3
  have v0 := h3.2
  have v1 := (fNv_lo (t := t) (i := M g 6 + 2)).2.1.2
  have ek := kor_t h2.1 c ⟨v0, v1⟩
  have k3 : qup M g 6 (fNe t (M g 6 + 2)) g 3 = M g 3 := qup_ne (by omega)
  have s4 := sX3_adds (M := qup M g 6 (fNe t (M g 6 + 2))) (x := fTp t (M g 6)) hg (by rw [k3]; exact p0) (by rw [k3]; exact p1)
  rw [k3] at s4
  have ek' : kor (kor (t (M g 6)) (kshl (t (M g 6 + 1)) 8)) (kshl (fNv t (M g 6 + 2)) 16) = fTp t (M g 6) := ek
  by_cases d1 : t (M g 6 + 1) = 60
  · rw [d1] at ek'
    simp (disch := first | assumption | omega) only [E_X3_takesTest, B_X3_takesTest_0, B_X3_takesTest_4, B_X3_takesTest_9, B_X3_takesTest_12, B_X3_takesTest_14, B_X3_takesTest_28, B_X3_takesTest_35, B_X3_takesTest_41, B_X3_takesTest_47, B_X3_takesTest_49, B_X3_takesTest_63, B_X3_takesTest_68, B_X3_takesTest_70, B_X3_takesTest_85, not_true_eq_false, not_false_eq_true, if_true, if_false, qlk, qtk, qif_t, qif_f, qbd_some, Option.toList_some, Option.toList_none, List.cons_append, List.nil_append, List.append_nil, s, a, e1, s2, qup_self, qup_qup, e2, s3, d1, ek', s4]
  · by_cases d2 : t (M g 6 + 1) = 61
    · rw [d2] at ek'
      simp (disch := first | assumption | omega) only [E_X3_takesTest, B_X3_takesTest_0, B_X3_takesTest_4, B_X3_takesTest_9, B_X3_takesTest_12, B_X3_takesTest_14, B_X3_takesTest_28, B_X3_takesTest_35, B_X3_takesTest_41, B_X3_takesTest_47, B_X3_takesTest_49, B_X3_takesTest_63, B_X3_takesTest_68, B_X3_takesTest_70, B_X3_takesTest_85, not_true_eq_false, not_false_eq_true, if_true, if_false, qlk, qtk, qif_t, qif_f, qbd_some, Option.toList_some, Option.toList_none, List.cons_append, List.nil_append, List.append_nil, s, a, e1, s2, qup_self, qup_qup, e2, s3, d1, d2, ek', s4]
    · have d3 : t (M g 6 + 1) = 62 := by omega
      rw [d3] at ek'
      simp (disch := first | assumption | omega) only [E_X3_takesTest, B_X3_takesTest_0, B_X3_takesTest_4, B_X3_takesTest_9, B_X3_takesTest_12, B_X3_takesTest_14, B_X3_takesTest_28, B_X3_takesTest_35, B_X3_takesTest_41, B_X3_takesTest_47, B_X3_takesTest_49, B_X3_takesTest_63, B_X3_takesTest_68, B_X3_takesTest_70, B_X3_takesTest_85, not_true_eq_false, not_false_eq_true, if_true, if_false, qlk, qtk, qif_t, qif_f, qbd_some, Option.toList_some, Option.toList_none, List.cons_append, List.nil_append, List.append_nil, s, a, e1, s2, qup_self, qup_qup, e2, s3, d1, d2, d3, ek', s4]
