/-! the text (reference): tests, settling, the steps of the loop -/
theorem fPc_y {c : Int} (h : qAsk c) : 0 ≤ fPc c ∧ fPc c < 6 ∧ qLet (fPc c) = c := by
  rcases h with rfl | rfl | rfl | rfl | rfl | rfl <;> decide
theorem fPc_n {c : Int} (h : ¬ qAsk c) : fPc c = -1 := by
  unfold qAsk at h
  unfold fPc
  rw [if_neg (by omega), if_neg (by omega), if_neg (by omega), if_neg (by omega), if_neg (by omega), if_neg (by omega)]
theorem sX12_test_1 {M : qMem} {n : Int} {t : Int → Int} (h : qTm M n t) (h0 : 0 ≤ M 82 13) (h1 : ¬ qT1 t (M 82 13)) : S_X12_takesTest [qA 82] (qH0 M) = some (some (qI 0), qH0 M) := by
  have s := sX12_next h h0
  have e : fPc (t (M 82 13)) = -1 := fPc_n h1
  have a : S_X12_place [qA 82, qI (t (M 82 13))] (qH0 M) = some (some (qI (-1)), qH0 M) := by rw [sX12_place, e]
  simp (disch := first | assumption | omega) only [E_X12_takesTest, B_X12_takesTest_0, B_X12_takesTest_5, B_X12_takesTest_8, B_X12_takesTest_13, B_X12_takesTest_15, B_X12_takesTest_29, B_X12_takesTest_39, B_X12_takesTest_42, B_X12_takesTest_44, B_X12_takesTest_58, B_X12_takesTest_61, B_X12_takesTest_63, B_X12_takesTest_85, B_X12_takesTest_89, not_true_eq_false, not_false_eq_true, if_true, if_false, qlk, qtk, qif_t, qif_f, qbd_some, Option.toList_some, Option.toList_none, List.cons_append, List.nil_append, List.append_nil, s, a]
theorem sX12_test_2 {M : qMem} {n : Int} {t : Int → Int} (h : qTm M n t) (h0 : 0 ≤ M 82 13) (h1 : qT1 t (M 82 13)) (h2 : ¬ qT2 t (M 82 13)) : S_X12_takesTest [qA 82] (qH0 M) = some (some (qI 0), qH0 (qup M 82 13 (M 82 13 + 1))) := by
  have hn := h.2.1
  have s := sX12_next h h0
  have a := sX12_place (M := M) (c := t (M 82 13))
  have ap := fPc_y h1
  have hp := qAsk_p h1
  have hl := qTm_lt h (i := M 82 13) (by omega)
  have e1 : kadd (M 82 13) 1 = M 82 13 + 1 := kadd_eq (by omega) (by omega)
  have s2 := sX12_next (qTm_up (a := 82) (k := 13) (v := M 82 13 + 1) h (by omega)) (by rw [qup_self]; omega)
  rw [qup_self] at s2
  have c : ¬ (60 ≤ t (M 82 13 + 1) ∧ t (M 82 13 + 1) ≤ 62) := fun q => h2 ⟨h1, q⟩
  simp (disch := first | assumption | omega) only [E_X12_takesTest, B_X12_takesTest_0, B_X12_takesTest_5, B_X12_takesTest_8, B_X12_takesTest_13, B_X12_takesTest_15, B_X12_takesTest_29, B_X12_takesTest_39, B_X12_takesTest_42, B_X12_takesTest_44, B_X12_takesTest_58, B_X12_takesTest_61, B_X12_takesTest_63, B_X12_takesTest_85, B_X12_takesTest_89, not_true_eq_false, not_false_eq_true, if_true, if_false, qlk, qtk, qif_t, qif_f, qbd_some, Option.toList_some, Option.toList_none, List.cons_append, List.nil_append, List.append_nil, s, a, e1, s2, sX12_in_n]
theorem sX12_test_3 {M : qMem} {n : Int} {t : Int → Int} (h : qTm M n t) (h0 : 0 ≤ M 82 13) (h2 : qT2 t (M 82 13)) (h3 : ¬ qT3 t (M 82 13)) : S_X12_takesTest [qA 82] (qH0 M) = some (some (qI 0), qH0 (qup M 82 13 (M 82 13 + 2))) := by
  have hn := h.2.1
  have s := sX12_next h h0
  have a := sX12_place (M := M) (c := t (M 82 13))
  have ap := fPc_y h2.1
  have c := h2.2
  have hl := qTm_lt h (i := M 82 13 + 1) (by omega)
  have e1 : kadd (M 82 13) 1 = M 82 13 + 1 := kadd_eq (by omega) (by omega)
  have e2 : kadd (M 82 13 + 1) 1 = M 82 13 + 2 := by rw [kadd_eq (by omega) (by omega)]; omega
  have s2 := sX12_next (qTm_up (a := 82) (k := 13) (v := M 82 13 + 1) h (by omega)) (by rw [qup_self]; omega)
  rw [qup_self] at s2
  have v : fNv t (M 82 13 + 2) < 0 := by
    by_cases q : fNv t (M 82 13 + 2) < 0
    · exact q
    · exact absurd ⟨h2, by omega⟩ h3
  have s3 := sX12_number_n (qTm_up (a := 82) (k := 13) (v := M 82 13 + 2) h (by omega)) (by rw [qup_self]; omega) (by rw [qup_self]; exact v)
  simp (disch := first | assumption | omega) only [E_X12_takesTest, B_X12_takesTest_0, B_X12_takesTest_5, B_X12_takesTest_8, B_X12_takesTest_13, B_X12_takesTest_15, B_X12_takesTest_29, B_X12_takesTest_39, B_X12_takesTest_42, B_X12_takesTest_44, B_X12_takesTest_58, B_X12_takesTest_61, B_X12_takesTest_63, B_X12_takesTest_85, B_X12_takesTest_89, not_true_eq_false, not_false_eq_true, if_true, if_false, qlk, qtk, qif_t, qif_f, qbd_some, Option.toList_some, Option.toList_none, List.cons_append, List.nil_append, List.append_nil, s, a, e1, s2, sX12_in_y, qup_self, qup_qup, e2, s3]
/-- the sign that a test gives -/
def fTq (t : Int → Int) (i : Int) : Int := 1000 * fPc (t i) + 100 * (t (i + 1) - 60) + fNv t (i + 2)
theorem sX12_test {N : qMem} {n c : Int} {t : Int → Int} {j : Nat} (h : qTm N n t) (h0 : 0 ≤ N 82 13) (h3 : qT3 t (N 82 13)) (hT : qTop N j) (hw : N 82 24 ≤ 100) (hs : 0 ≤ N 82 23 ∧ N 82 23 + 1 + j ≤ 600) (hd : (j : Int) ≤ N 82 25 ∧ N 82 25 ≤ 100) :
    ∃ N', S_X12_takesTest [qA 82] (qH0 N) = some (some (qI 1), qH0 N') ∧ qFr c N' N ∧ N' 95 = N 95 ∧ N' 97 = N 97 ∧ N' 82 13 = fNe t (N 82 13 + 2) ∧ N' 82 24 = N 82 24 - j ∧ N' 82 25 = N 82 25 - j ∧ N' 82 23 = N 82 23 + 1 + j ∧ N' 96 (N 82 23) = fTq t (N 82 13) ∧ (∀ k : Int, N 82 23 + 1 ≤ k → k < N 82 23 + 1 + j → N' 96 k = -33) ∧ (∀ k : Int, k < N 82 23 → N' 96 k = N 96 k) := by
  have hn := h.2.1
  have h2 := h3.1
  have s := sX12_next h h0
  have a := sX12_place (M := N) (c := t (N 82 13))
  have ap := fPc_y h2.1
  have cc := h2.2
  have hl := qTm_lt h (i := N 82 13 + 1) (by omega)
  have e1 : kadd (N 82 13) 1 = N 82 13 + 1 := kadd_eq (by omega) (by omega)
  have e2 : kadd (N 82 13 + 1) 1 = N 82 13 + 2 := by rw [kadd_eq (by omega) (by omega)]; omega
  have s2 := sX12_next (qTm_up (a := 82) (k := 13) (v := N 82 13 + 1) h (by omega)) (by rw [qup_self]; omega)
  rw [qup_self] at s2
  have v0 := h3.2
  have v1 := (fNv_lo (t := t) (i := N 82 13 + 2)).2.1.2
  obtain ⟨N1, p1, p2, p3, p4⟩ := sX12_number (qTm_up (a := 82) (k := 13) (v := N 82 13 + 2) h (by omega)) (by rw [qup_self]; omega) (by rw [qup_self]; exact v0)
  rw [qup_self] at p2 p3
  have r : ∀ a k : Int, ¬ (a = 82 ∧ (k = 13 ∨ k = 14)) → N1 a k = N a k := fun a k hk => by rw [p4 a k hk, qup_ne (by omega)]
  have f1 : qFr c N1 N := ⟨fun a a1 a2 a3 a4 => funext (fun k => r a k (by omega)), fun k a => r _ _ (by omega), fun k a1 a2 a3 a4 a5 => r _ _ (by omega)⟩
  have e23 : N1 82 23 = N 82 23 := r 82 23 (by omega)
  have e24 : N1 82 24 = N 82 24 := r 82 24 (by omega)
  have e25 : N1 82 25 = N 82 25 := r 82 25 (by omega)
  have e97 : N1 97 = N 97 := funext (fun k => r 97 k (by omega))
  have e95 : N1 95 = N 95 := funext (fun k => r 95 k (by omega))
  have e96 : N1 96 = N 96 := funext (fun k => r 96 k (by omega))
  have s4 := sX12_emits (M := N1) (x := fTq t (N 82 13)) (by omega) (by omega)
  have ek : kadd (kadd (kmul 1000 (fPc (t (N 82 13)))) (kmul 100 (ksub (t (N 82 13 + 1)) 60))) (fNv t (N 82 13 + 2)) = fTq t (N 82 13) := by
    unfold fTq
    rw [ksub_eq (by omega) (by omega), kmul_eq (by omega) (by omega), kmul_eq (by omega) (by omega), kadd_eq (a := 1000 * fPc (t (N 82 13))) (by omega) (by omega), kadd_eq (by omega) (by omega)]
  rw [e23] at s4
  have W := sX12_whole (c := c) j (qup (qup N1 96 (N 82 23) (fTq t (N 82 13))) 82 23 (N 82 23 + 1))
  have y24 : qup (qup N1 96 (N 82 23) (fTq t (N 82 13))) 82 23 (N 82 23 + 1) 82 24 = N 82 24 := by rw [qup_ne (by omega), qup_ne (by omega), e24]
  have y25 : qup (qup N1 96 (N 82 23) (fTq t (N 82 13))) 82 23 (N 82 23 + 1) 82 25 = N 82 25 := by rw [qup_ne (by omega), qup_ne (by omega), e25]
  have y23 : qup (qup N1 96 (N 82 23) (fTq t (N 82 13))) 82 23 (N 82 23 + 1) 82 23 = N 82 23 + 1 := qup_self
  have y13 : qup (qup N1 96 (N 82 23) (fTq t (N 82 13))) 82 23 (N 82 23 + 1) 82 13 = fNe t (N 82 13 + 2) := by rw [qup_ne (by omega), qup_ne (by omega), p2]
  have y97 : qup (qup N1 96 (N 82 23) (fTq t (N 82 13))) 82 23 (N 82 23 + 1) 97 = N 97 := by rw [qup_row (by omega), qup_row (by omega), e97]
  have y95 : qup (qup N1 96 (N 82 23) (fTq t (N 82 13))) 82 23 (N 82 23 + 1) 95 = N 95 := by rw [qup_row (by omega), qup_row (by omega), e95]
  have y96 : ∀ k : Int, qup (qup N1 96 (N 82 23) (fTq t (N 82 13))) 82 23 (N 82 23 + 1) 96 k = qup N1 96 (N 82 23) (fTq t (N 82 13)) 96 k := fun k => by rw [qup_ne (by omega)]
  have fr : qFr c (qup (qup N1 96 (N 82 23) (fTq t (N 82 13))) 82 23 (N 82 23 + 1)) N := qFr_up (qFr_up f1 (by omega)) (by omega)
  unfold qTop at W hT
  rw [y24, y25, y23, y13, y97, y95] at W
  obtain ⟨N', q1, q2, q3, q4, q5, q6, q7, q8, q9, q10⟩ := W hT hw (by omega) hd
  refine ⟨N', ?_, qFr_t q2 fr, q3, q4, q5, q6, q7, by omega, ?_, q9, fun k hk => ?_⟩
  · simp (disch := first | assumption | omega) only [E_X12_takesTest, B_X12_takesTest_0, B_X12_takesTest_5, B_X12_takesTest_8, B_X12_takesTest_13, B_X12_takesTest_15, B_X12_takesTest_29, B_X12_takesTest_39, B_X12_takesTest_42, B_X12_takesTest_44, B_X12_takesTest_58, B_X12_takesTest_61, B_X12_takesTest_63, B_X12_takesTest_85, B_X12_takesTest_89, not_true_eq_false, not_false_eq_true, if_true, if_false, qlk, qtk, qif_t, qif_f, qbd_some, Option.toList_some, Option.toList_none, List.cons_append, List.nil_append, List.append_nil, s, a, e1, s2, sX12_in_y, qup_self, qup_qup, e2, p1, p3, ek, s4, q1]
  · rw [q10 _ (by omega), y96, qup_self]
  · rw [q10 k (by omega), y96, qup_ne (by omega), e96]
/-! settling -/
theorem sX12_settle_pop {N : qMem} {s : Int} (hw : 1 ≤ N 82 24 ∧ N 82 24 ≤ 100) (hs : 0 ≤ N 82 23 ∧ N 82 23 < 600) (ht : N 97 (N 82 24 - 1) = 38 ∨ (N 97 (N 82 24 - 1) = 124 ∧ ¬ s = 38)) :
    S_X12_settle [qA 82, qI s] (qH0 N) = S_X12_settle [qA 82, qI s] (qH0 (qup (qup (qup N 82 24 (N 82 24 - 1)) 96 (N 82 23) (-(N 97 (N 82 24 - 1)))) 82 23 (N 82 23 + 1))) := by
  have e : ksub (N 82 24) 1 = N 82 24 - 1 := ksub_eq (by omega) (by omega)
  have y23 : qup N 82 24 (N 82 24 - 1) 82 23 = N 82 23 := qup_ne (by omega)
  have y97 : qup N 82 24 (N 82 24 - 1) 97 = N 97 := qup_row (by omega)
  have s4 := sX12_emits (M := qup N 82 24 (N 82 24 - 1)) (x := -(N 97 (N 82 24 - 1))) (by omega) (by omega)
  rw [y23] at s4
  have en : kneg (N 97 (N 82 24 - 1)) = -(N 97 (N 82 24 - 1)) := kneg_eq (by omega) (by omega)
  rw [E_X12_settle, E_X12_settle, B_X12_settle_0, qif_f (by omega), B_X12_settle_7 (by rw [e]; omega) (by rw [e]; omega), e]
  rcases ht with ht | ht
  · rw [qif_t ht, B_X12_settle_45 (by rw [e, qup_self]; omega) (by rw [e, qup_self]; omega), e, qup_self, y97, en, s4, qbd_some]
    exact B_X12_settle_69
  · rw [qif_f (by omega), B_X12_settle_23 (by rw [e]; omega) (by rw [e]; omega), e, qif_f (by omega), B_X12_settle_39, qif_f ht.2, B_X12_settle_45 (by rw [e, qup_self]; omega) (by rw [e, qup_self]; omega), e, qup_self, y97, en, s4, qbd_some]
    exact B_X12_settle_69
theorem sX12_settle_stop {N : qMem} {s : Int} (hw : 0 ≤ N 82 24 ∧ N 82 24 ≤ 100) (ht : N 82 24 = 0 ∨ (¬ N 97 (N 82 24 - 1) = 38 ∧ (N 97 (N 82 24 - 1) = 124 → s = 38))) :
    S_X12_settle [qA 82, qI s] (qH0 N) = some (none, qH0 N) := by
  have e : ksub (N 82 24) 1 = N 82 24 - 1 := ksub_eq (by omega) (by omega)
  by_cases c : N 82 24 = 0
  · rw [E_X12_settle, B_X12_settle_0, qif_t (by omega), B_X12_settle_72]
  · have h := ht.resolve_left c
    rw [E_X12_settle, B_X12_settle_0, qif_f (by omega), B_X12_settle_7 (by rw [e]; omega) (by rw [e]; omega), e, qif_f h.1, B_X12_settle_23 (by rw [e]; omega) (by rw [e]; omega), e]
    by_cases d : N 97 (N 82 24 - 1) = 124
    · rw [qif_f (fun q => q d), B_X12_settle_39, qif_t (h.2 d), B_X12_settle_72]
    · rw [qif_t d, B_X12_settle_72]
/-! the loop -/
noncomputable def rE (c w : Int) (N : qMem) : qRes := qlim C_X12_takesE (22, [some (qA 82), some (qI c), some (qI w), none], [], qH0 N)
theorem rE_x {N : qMem} {n c w : Int} {t : Int → Int} {x : Option qV} (h : qTm N n t) (h0 : 0 ≤ N 82 13) : qlim C_X12_takesE (22, [some (qA 82), some (qI c), some (qI w), x], [], qH0 N) = rE c w N := by
  unfold rE
  rw [B_X12_takesE_22, B_X12_takesE_22, sX12_next h h0, qbd_some, qbd_some]
  show qlim C_X12_takesE (26, [some (qA 82), some (qI c), some (qI w), x], [qI (t (N 82 13))], qH0 N) = qlim C_X12_takesE (26, [some (qA 82), some (qI c), some (qI w), none], [qI (t (N 82 13))], qH0 N)
  rw [B_X12_takesE_26, B_X12_takesE_26]
theorem rE_at {N : qMem} {n c w : Int} {t : Int → Int} (h : qTm N n t) (h0 : 0 ≤ N 82 13) : rE c w N = qlim C_X12_takesE ((if w = 0 then 110 else 31), [some (qA 82), some (qI c), some (qI w), some (qI (t (N 82 13)))], [], qH0 N) := by
  unfold rE
  rw [B_X12_takesE_22, sX12_next h h0, qbd_some]
  exact B_X12_takesE_26
/-- what waits on top is settled beforehand -/
theorem rE_eager {N : qMem} {n c : Int} {t : Int → Int} (h : qTm N n t) (h0 : 0 ≤ N 82 13) (hw : 1 ≤ N 82 24 ∧ N 82 24 ≤ 100) (hs : 0 ≤ N 82 23 ∧ N 82 23 < 600) (ht : N 97 (N 82 24 - 1) = 38 ∨ (N 97 (N 82 24 - 1) = 124 ∧ ¬ t (N 82 13) = 38)) :
    rE c 0 N = rE c 0 (qup (qup (qup N 82 24 (N 82 24 - 1)) 96 (N 82 23) (-(N 97 (N 82 24 - 1)))) 82 23 (N 82 23 + 1)) := by
  have h1 := qTm_up (a := 82) (k := 23) (v := N 82 23 + 1) (qTm_up (a := 96) (k := N 82 23) (v := -(N 97 (N 82 24 - 1))) (qTm_up (a := 82) (k := 24) (v := N 82 24 - 1) h (by omega)) (by omega)) (by omega)
  have x : qup (qup (qup N 82 24 (N 82 24 - 1)) 96 (N 82 23) (-(N 97 (N 82 24 - 1)))) 82 23 (N 82 23 + 1) 82 13 = N 82 13 := by rw [qup_ne (by omega), qup_ne (by omega), qup_ne (by omega)]
  rw [rE_at h h0, rE_at h1 (by rw [x]; exact h0), x, qif_t rfl, qif_t rfl, B_X12_takesE_110, B_X12_takesE_110]
  by_cases c1 : t (N 82 13) = 38
  · rw [qif_t c1, qif_t c1, B_X12_takesE_122, B_X12_takesE_122, sX12_settle_pop hw hs (by omega)]
  · rw [qif_f c1, qif_f c1, B_X12_takesE_116, B_X12_takesE_116]
    by_cases c2 : t (N 82 13) = 124
    · rw [qif_f (fun q => q c2), qif_f (fun q => q c2), B_X12_takesE_122, B_X12_takesE_122, sX12_settle_pop hw hs (by omega)]
    · rw [qif_t c2, qif_t c2, B_X12_takesE_162, B_X12_takesE_162, sX12_settle_pop hw hs (by omega)]
/-- a sign that joins -/
theorem rE_op {N : qMem} {n c b : Int} {t : Int → Int} (h : qTm N n t) (h0 : 0 ≤ N 82 13) (hb : t (N 82 13) = b) (hb2 : b = 38 ∨ b = 124) (hw : 0 ≤ N 82 24 ∧ N 82 24 ≤ 99) (ht : N 82 24 = 0 ∨ (¬ N 97 (N 82 24 - 1) = 38 ∧ (N 97 (N 82 24 - 1) = 124 → b = 38))) :
    rE c 0 N = rE c 1 (qup (qup (qup N 97 (N 82 24) b) 82 24 (N 82 24 + 1)) 82 13 (N 82 13 + 1)) := by
  have hn := h.2.1
  have hl := qTm_lt h (i := N 82 13) (by omega)
  have h1 := qTm_up (a := 82) (k := 13) (v := N 82 13 + 1) (qTm_up (a := 82) (k := 24) (v := N 82 24 + 1) (qTm_up (a := 97) (k := N 82 24) (v := b) h (by omega)) (by omega)) (by omega)
  have e1 : kadd (N 82 24) 1 = N 82 24 + 1 := kadd_eq (by omega) (by omega)
  have e2 : kadd (N 82 13) 1 = N 82 13 + 1 := kadd_eq (by omega) (by omega)
  have x1 : qup N 97 (N 82 24) b 82 24 = N 82 24 := qup_ne (by omega)
  have x2 : qup (qup N 97 (N 82 24) b) 82 24 (N 82 24 + 1) 82 13 = N 82 13 := by rw [qup_ne (by omega), qup_ne (by omega)]
  have s : S_X12_settle [qA 82, qI b] (qH0 N) = some (none, qH0 N) := sX12_settle_stop (by omega) ht
  have fin : qlim C_X12_takesE (122, [some (qA 82), some (qI c), some (qI 0), some (qI b)], [], qH0 N) = rE c 1 (qup (qup (qup N 97 (N 82 24) b) 82 24 (N 82 24 + 1)) 82 13 (N 82 13 + 1)) := by
    rw [B_X12_takesE_122, s, qbd_some]
    show qlim C_X12_takesE (127, [some (qA 82), some (qI c), some (qI 0), some (qI b)], [], qH0 N) = _
    rw [B_X12_takesE_127 (by omega) (by omega), x1, e1, x2, e2]
    exact rE_x h1 (by rw [qup_self]; omega)
  rw [rE_at h h0, hb, qif_t rfl, B_X12_takesE_110]
  rcases hb2 with rfl | rfl
  · rw [qif_t rfl]
    exact fin
  · rw [qif_f (by omega), B_X12_takesE_116, qif_f (fun q => q rfl)]
    exact fin
/-- behind a whole one: nothing that joins follows -/
theorem rE_168 {N : qMem} {n c : Int} {t : Int → Int} (h : qTm N n t) (h0 : 0 ≤ N 82 13) (hb : ¬ t (N 82 13) = 38 ∧ ¬ t (N 82 13) = 124) (hc : 0 ≤ c ∧ c < 60) (hw : 0 ≤ N 82 24 ∧ N 82 24 ≤ 100) (ht : N 82 24 = 0 ∨ (¬ N 97 (N 82 24 - 1) = 38 ∧ ¬ N 97 (N 82 24 - 1) = 124)) :
    rE c 0 N = qlim C_X12_takesE ((if ¬ N 82 24 = 0 then 187 else 185), [some (qA 82), some (qI c), some (qI 0), some (qI (t (N 82 13)))], [], qH0 (qup N 95 c (N 82 23))) := by
  have s : S_X12_settle [qA 82, qI 124] (qH0 N) = some (none, qH0 N) := sX12_settle_stop hw (by omega)
  have x1 : qup N 95 c (N 82 23) 82 24 = N 82 24 := qup_ne (by omega)
  rw [rE_at h h0, qif_t rfl, B_X12_takesE_110, qif_f hb.1, B_X12_takesE_116, qif_t hb.2, B_X12_takesE_162, s, qbd_some]
  show qlim C_X12_takesE (168, [some (qA 82), some (qI c), some (qI 0), some (qI (t (N 82 13)))], [], qH0 N) = _
  rw [B_X12_takesE_168 hc.1 hc.2, x1]
theorem rE_end {N : qMem} {n c : Int} {t : Int → Int} (h : qTm N n t) (h0 : 0 ≤ N 82 13) (hb : ¬ t (N 82 13) = 38 ∧ ¬ t (N 82 13) = 124) (hc : 0 ≤ c ∧ c < 60) (hw : N 82 24 = 0) :
    rE c 0 N = some (some (qI 1), qH0 (qup N 95 c (N 82 23))) := by
  rw [rE_168 h h0 hb hc (by omega) (Or.inl hw), qif_f (fun q => q hw), B_X12_takesE_185]
theorem rE_bad {N : qMem} {n c : Int} {t : Int → Int} (h : qTm N n t) (h0 : 0 ≤ N 82 13) (hb : ¬ t (N 82 13) = 38 ∧ ¬ t (N 82 13) = 124) (hb3 : ¬ t (N 82 13) = 41) (hc : 0 ≤ c ∧ c < 60) (hw : 1 ≤ N 82 24 ∧ N 82 24 ≤ 100) (ht : ¬ N 97 (N 82 24 - 1) = 38 ∧ ¬ N 97 (N 82 24 - 1) = 124) :
    rE c 0 N = some (some (qI 0), qH0 (qup N 95 c (N 82 23))) := by
  rw [rE_168 h h0 hb hc (by omega) (Or.inr ht), qif_t (by omega), B_X12_takesE_187, qif_f hb3, B_X12_takesE_193]
theorem rE_close {N : qMem} {n c : Int} {t : Int → Int} {j : Nat} (h : qTm N n t) (h0 : 0 ≤ N 82 13) (hb3 : t (N 82 13) = 41) (hc : 0 ≤ c ∧ c < 60) (hw : 1 ≤ N 82 24 ∧ N 82 24 ≤ 100) (ht : N 97 (N 82 24 - 1) = 40) (hs : 0 ≤ N 82 23 ∧ N 82 23 + j ≤ 600)
    (hd : (j : Int) + 1 ≤ N 82 25 ∧ N 82 25 ≤ 100) (hT : (j : Int) ≤ N 82 24 - 1 ∧ (∀ k : Int, N 82 24 - 1 - j ≤ k → k < N 82 24 - 1 → N 97 k = 33) ∧ (N 82 24 - 1 = j ∨ ¬ N 97 (N 82 24 - 1 - j - 1) = 33)) :
    ∃ N', rE c 0 N = rE c 0 N' ∧ qFr c N' N ∧ N' 97 = N 97 ∧ N' 82 13 = N 82 13 + 1 ∧ N' 82 24 = N 82 24 - 1 - j ∧ N' 82 25 = N 82 25 - 1 - j ∧ N' 82 23 = N 82 23 + j ∧ (∀ k : Int, N 82 23 ≤ k → k < N 82 23 + j → N' 96 k = -33) ∧ (∀ k : Int, k < N 82 23 → N' 96 k = N 96 k) := by
  have hn := h.2.1
  have hl := qTm_lt h (i := N 82 13) (by omega)
  have e24 : ksub (N 82 24) 1 = N 82 24 - 1 := ksub_eq (by omega) (by omega)
  have e25 : ksub (N 82 25) 1 = N 82 25 - 1 := ksub_eq (by omega) (by omega)
  have e13 : kadd (N 82 13) 1 = N 82 13 + 1 := kadd_eq (by omega) (by omega)
  have z24 : qup N 95 c (N 82 23) 82 24 = N 82 24 := qup_ne (by omega)
  have z25 : qup (qup N 95 c (N 82 23)) 82 24 (N 82 24 - 1) 82 25 = N 82 25 := by rw [qup_ne (by omega), qup_ne (by omega)]
  have z13 : qup (qup (qup N 95 c (N 82 23)) 82 24 (N 82 24 - 1)) 82 25 (N 82 25 - 1) 82 13 = N 82 13 := by rw [qup_ne (by omega), qup_ne (by omega), qup_ne (by omega)]
  have y24 : qup (qup (qup (qup N 95 c (N 82 23)) 82 24 (N 82 24 - 1)) 82 25 (N 82 25 - 1)) 82 13 (N 82 13 + 1) 82 24 = N 82 24 - 1 := by rw [qup_ne (by omega), qup_ne (by omega), qup_self]
  have y25 : qup (qup (qup (qup N 95 c (N 82 23)) 82 24 (N 82 24 - 1)) 82 25 (N 82 25 - 1)) 82 13 (N 82 13 + 1) 82 25 = N 82 25 - 1 := by rw [qup_ne (by omega), qup_self]
  have y13 : qup (qup (qup (qup N 95 c (N 82 23)) 82 24 (N 82 24 - 1)) 82 25 (N 82 25 - 1)) 82 13 (N 82 13 + 1) 82 13 = N 82 13 + 1 := qup_self
  have y23 : qup (qup (qup (qup N 95 c (N 82 23)) 82 24 (N 82 24 - 1)) 82 25 (N 82 25 - 1)) 82 13 (N 82 13 + 1) 82 23 = N 82 23 := by rw [qup_ne (by omega), qup_ne (by omega), qup_ne (by omega), qup_ne (by omega)]
  have y97 : qup (qup (qup (qup N 95 c (N 82 23)) 82 24 (N 82 24 - 1)) 82 25 (N 82 25 - 1)) 82 13 (N 82 13 + 1) 97 = N 97 := by rw [qup_row (by omega), qup_row (by omega), qup_row (by omega), qup_row (by omega)]
  have y96 : qup (qup (qup (qup N 95 c (N 82 23)) 82 24 (N 82 24 - 1)) 82 25 (N 82 25 - 1)) 82 13 (N 82 13 + 1) 96 = N 96 := by rw [qup_row (by omega), qup_row (by omega), qup_row (by omega), qup_row (by omega)]
  have fr : qFr c (qup (qup (qup (qup N 95 c (N 82 23)) 82 24 (N 82 24 - 1)) 82 25 (N 82 25 - 1)) 82 13 (N 82 13 + 1)) N := qFr_up (qFr_up (qFr_up (qFr_up qFr_r (by omega)) (by omega)) (by omega)) (by omega)
  have W := sX12_whole (c := c) j (qup (qup (qup (qup N 95 c (N 82 23)) 82 24 (N 82 24 - 1)) 82 25 (N 82 25 - 1)) 82 13 (N 82 13 + 1))
  unfold qTop at W
  rw [y24, y25, y13, y23, y97, y96] at W
  obtain ⟨N', q1, q2, q3, q4, q5, q6, q7, q8, q9, q10⟩ := W hT (by omega) hs (by omega)
  have f := qFr_t q2 fr
  refine ⟨N', ?_, f, q4, q5, q6, q7, q8, q9, q10⟩
  rw [rE_168 h h0 (by omega) hc (by omega) (Or.inr (by omega)), qif_t (by omega), B_X12_takesE_187, qif_t hb3, B_X12_takesE_195, z24, e24, z25, e25, z13, e13, q1, qbd_some]
  show qlim C_X12_takesE (229, [some (qA 82), some (qI c), some (qI 0), some (qI (t (N 82 13)))], [], qH0 N') = _
  rw [B_X12_takesE_229]
  exact rE_x (qTm_fr h f) (by rw [q5]; omega)
theorem rE_open {N : qMem} {n c b : Int} {t : Int → Int} (h : qTm N n t) (h0 : 0 ≤ N 82 13) (hb : t (N 82 13) = b) (hb2 : b = 33 ∨ b = 40) (hw : 0 ≤ N 82 24 ∧ N 82 24 ≤ 99) (hd : 0 ≤ N 82 25 ∧ N 82 25 < 4) :
    rE c 1 N = rE c 1 (qup (qup (qup (qup N 82 25 (N 82 25 + 1)) 97 (N 82 24) b) 82 24 (N 82 24 + 1)) 82 13 (N 82 13 + 1)) := by
  have hn := h.2.1
  have hl := qTm_lt h (i := N 82 13) (by omega)
  have h1 := qTm_up (a := 82) (k := 13) (v := N 82 13 + 1) (qTm_up (a := 82) (k := 24) (v := N 82 24 + 1) (qTm_up (a := 97) (k := N 82 24) (v := b) (qTm_up (a := 82) (k := 25) (v := N 82 25 + 1) h (by omega)) (by omega)) (by omega)) (by omega)
  have e0 : kadd (N 82 25) 1 = N 82 25 + 1 := kadd_eq (by omega) (by omega)
  have e1 : kadd (N 82 24) 1 = N 82 24 + 1 := kadd_eq (by omega) (by omega)
  have e2 : kadd (N 82 13) 1 = N 82 13 + 1 := kadd_eq (by omega) (by omega)
  have x0 : qup N 82 25 (N 82 25 + 1) 82 24 = N 82 24 := qup_ne (by omega)
  have x1 : qup (qup N 82 25 (N 82 25 + 1)) 97 (N 82 24) b 82 24 = N 82 24 := by rw [qup_ne (by omega), x0]
  have x2 : qup (qup (qup N 82 25 (N 82 25 + 1)) 97 (N 82 24) b) 82 24 (N 82 24 + 1) 82 13 = N 82 13 := by rw [qup_ne (by omega), qup_ne (by omega), qup_ne (by omega)]
  have fin : qlim C_X12_takesE (43, [some (qA 82), some (qI c), some (qI 1), some (qI b)], [], qH0 N) = rE c 1 (qup (qup (qup (qup N 82 25 (N 82 25 + 1)) 97 (N 82 24) b) 82 24 (N 82 24 + 1)) 82 13 (N 82 13 + 1)) := by
    rw [B_X12_takesE_43, qif_t (by omega), B_X12_takesE_53 (by rw [e0, x0]; omega) (by rw [e0, x0]; omega), e0, x0, x1, e1, x2, e2]
    exact rE_x h1 (by rw [qup_self]; omega)
  rw [rE_at h h0, hb, qif_f (by omega), B_X12_takesE_31]
  rcases hb2 with rfl | rfl
  · rw [qif_t rfl]
    exact fin
  · rw [qif_f (by omega), B_X12_takesE_37, qif_f (fun q => q rfl)]
    exact fin
theorem rE_deep {N : qMem} {n c b : Int} {t : Int → Int} (h : qTm N n t) (h0 : 0 ≤ N 82 13) (hb : t (N 82 13) = b) (hb2 : b = 33 ∨ b = 40) (hd : N 82 25 = 4) : rE c 1 N = some (some (qI 0), qH0 N) := by
  have fin : qlim C_X12_takesE (43, [some (qA 82), some (qI c), some (qI 1), some (qI b)], [], qH0 N) = some (some (qI 0), qH0 N) := by
    rw [B_X12_takesE_43, qif_f (fun q => q hd), B_X12_takesE_51]
  rw [rE_at h h0, hb, qif_f (by omega), B_X12_takesE_31]
  rcases hb2 with rfl | rfl
  · rw [qif_t rfl]
    exact fin
  · rw [qif_f (by omega), B_X12_takesE_37, qif_f (fun q => q rfl)]
    exact fin
theorem rE_test {N N' : qMem} {n c : Int} {t : Int → Int} (h : qTm N n t) (h0 : 0 ≤ N 82 13) (hb : ¬ t (N 82 13) = 33 ∧ ¬ t (N 82 13) = 40) (hs : S_X12_takesTest [qA 82] (qH0 N) = some (some (qI 1), qH0 N')) (h' : qTm N' n t) (h0' : 0 ≤ N' 82 13) : rE c 1 N = rE c 0 N' := by
  rw [rE_at h h0, qif_f (by omega), B_X12_takesE_31, qif_f hb.1, B_X12_takesE_37, qif_t hb.2, B_X12_takesE_96, hs, qbd_some]
  show qlim C_X12_takesE (100, [some (qA 82), some (qI c), some (qI 1), some (qI (t (N 82 13)))], [qI 1], qH0 N') = _
  rw [B_X12_takesE_100, qif_f (by omega), B_X12_takesE_103]
  exact rE_x h' h0'
theorem rE_test_n {N N' : qMem} {n c : Int} {t : Int → Int} (h : qTm N n t) (h0 : 0 ≤ N 82 13) (hb : ¬ t (N 82 13) = 33 ∧ ¬ t (N 82 13) = 40) (hs : S_X12_takesTest [qA 82] (qH0 N) = some (some (qI 0), qH0 N')) : rE c 1 N = some (some (qI 0), qH0 N') := by
  rw [rE_at h h0, qif_f (by omega), B_X12_takesE_31, qif_f hb.1, B_X12_takesE_37, qif_t hb.2, B_X12_takesE_96, hs, qbd_some]
  show qlim C_X12_takesE (100, [some (qA 82), some (qI c), some (qI 1), some (qI (t (N 82 13)))], [qI 0], qH0 N') = _
  rw [B_X12_takesE_100, qif_t rfl, B_X12_takesE_108]
