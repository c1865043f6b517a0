/-! a person's minute, minutes (the reference) -/
/-- what the reference's minutes leave as it was -/
def qMf (N M : qMem) : Prop := (∀ a : Int, ¬ a = 82 → ¬ a = 83 → ¬ a = 87 → ¬ a = 88 → ¬ a = 99 → N a = M a) ∧ (∀ k : Int, ¬ k = 1 → N 82 k = M 82 k)
theorem qMf_r {M : qMem} : qMf M M := ⟨fun _ _ _ _ _ _ => rfl, fun _ _ => rfl⟩
theorem qMf_t {L N M : qMem} (h1 : qMf L N) (h2 : qMf N M) : qMf L M := ⟨fun a b c d e f => (h1.1 a b c d e f).trans (h2.1 a b c d e f), fun k hk => (h1.2 k hk).trans (h2.2 k hk)⟩
/-- the reference's caps say no more than the class's for n minutes -/
def qCap (M A : qMem) (o n : Int) : Prop := (M 82 29 = A o 1 ∨ (102000000 ≤ M 82 29 ∧ 102000000 ≤ A o 1)) ∧ (M 82 29 ≤ 2147483647) ∧ A o 11 + n ≤ M 82 30 ∧ M 82 30 ≤ 2147483647
theorem qSV_w {M : qMem} {o p : Int} (h : qSV M o p) (h1 : 0 ≤ p) (h2 : p < 6) : M (o + 5) p ≤ 9999 * M o 11 ∧ M (o + 6) p ≤ M o 11 := by
  have h3 := h.2.2 p h1 h2
  rw [if_neg (Int.lt_irrefl p)] at h3
  omega
theorem sX12_goPerson {M A : qMem} {o p : Int} (h : qRS M A o) (hF : qSF A o) (hV : qSV A o p) (hC : qCap M A o 1) (h1 : 0 ≤ p) (h2 : p < 6) : ∃ N, S_X12_goPerson [qA 82, qI p] (qH0 M) = some (none, qH0 N) ∧ qRS N (fWorks A o p) o ∧ qMf N M := by
  obtain ⟨N, q1, q2⟩ := sX12_pace h hF hV h1 h2
  have hw := (hF.2.2.2.2.1 p h1 h2).2.2.1
  have ha := hV.2.1 (A (o + 4) p) (by omega) (by omega)
  have hb := hV.2.1 (A (o + 4) p + 1) (by omega) (by omega)
  have hr := hF.2.2.1
  have hN := fN_lo hF hV h1 h2
  have hd := qSV_d hV h1 h2
  have hdw := qSV_w hV h1 h2
  have hPl := fPace_lo (M := A) (o := o) (p := p)
  have hm := hV.1
  have hM := h.2.2.2.1 p h1 h2
  have hR := qRS_aw h q2
  have hq := hR.2.2.2.1 p h1 h2
  have ea : N 83 (A (o + 4) p) = A (o + 1) (A (o + 4) p) := hR.2.2.1 _ (by omega) (by omega)
  have eb : N 83 (A (o + 4) p + 1) = A (o + 1) (A (o + 4) p + 1) := hR.2.2.1 _ (by omega) (by omega)
  have eaM : M 83 (A (o + 4) p + 1) = A (o + 1) (A (o + 4) p + 1) := h.2.2.1 _ (by omega) (by omega)
  have e1 : kadd (A (o + 4) p) 1 = A (o + 4) p + 1 := kadd_eq (by omega) (by omega)
  have sR := sX12_room h.2.2.2.2.2.1 h.2.2.2.2.2.2 hr.1
  -- the amount
  have hn : ∀ fr : Int, fr = (if A (o + 4) p = 3 then 9999 else A o 12) - A (o + 1) (A (o + 4) p + 1) → min (min (fPace A o p) (A (o + 1) (A (o + 4) p))) (if 0 ≤ fr then fr else 0) = max 0 (fN A o p) := by
    intro fr hfr
    unfold fN
    rw [← hfr]
    split <;> split <;> omega
  -- the writing
  have W : ∀ (n x3 : Int), n = max 0 (fN A o p) → ∃ N', qlim C_X12_goPerson (67, [some (qA 82), some (qI p), some (qI (A (o + 4) p)), some (qI x3), none], [qI n], qH0 N) = some (none, qH0 N') ∧ qRS N' (fWorks A o p) o ∧ qMf N' M := by
    intro n x3 hn0
    have k1 : ksub (N 83 (A (o + 4) p)) n = A (o + 1) (A (o + 4) p) - n := by rw [ea]; exact ksub_eq (by omega) (by omega)
    have k2 : kadd (N 83 (A (o + 4) p + 1)) n = A (o + 1) (A (o + 4) p + 1) + n := by rw [eb]; exact kadd_eq (by omega) (by omega)
    have k3 : kadd (N 87 p) n = A (o + 5) p + n := by rw [hq.2.2.2.1]; exact kadd_eq (by omega) (by omega)
    have k4 : kadd (N 88 p) 1 = A (o + 6) p + 1 := by rw [hq.2.2.2.2.1]; exact kadd_eq (by omega) (by omega)
    have c29 : N 82 29 = M 82 29 := by rw [q2 82 (by omega)]
    have c30 : N 82 30 = M 82 30 := by rw [q2 82 (by omega)]
    have m1 : min (A (o + 5) p + n) (M 82 29) = min (A (o + 5) p + n) (A o 1) := by
      rcases hC.1 with c | c
      · rw [c]
      · omega
    have m2 : min (A (o + 6) p + 1) (M 82 30) = A (o + 6) p + 1 := by
      have := hC.2.2.1
      omega
    have c1 := hF.2.2.2.1
    rw [B_X12_goPerson_67 (by omega) (by omega) (by rw [e1]; omega) (by rw [e1]; omega) h1 h2, e1, k1, qup_ne (a := 83) (a' := 83) (k' := A (o + 4) p + 1) (by omega), k2]
    simp (disch := omega) only [qup_ne]
    rw [k3, c29, sX12_least, qbd_some, m1]
    -- what the heaps say
    have hRh : ∀ (N2 : qMem), (∀ a : Int, ¬ a = 83 → ¬ a = 87 → ¬ a = 88 → N2 a = N a) → (∀ k : Int, 0 ≤ k → k < 5 → N2 83 k = fWorks A o p (o + 1) k) → (∀ q : Int, 0 ≤ q → q < 6 → N2 87 q = fWorks A o p (o + 5) q ∧ N2 88 q = fWorks A o p (o + 6) q) → qRS N2 (fWorks A o p) o ∧ qMf N2 M := by
      intro N2 f1 f2 f3
      have g := qSF_g hF
      have g1 := g.1 1 (by omega) (by omega)
      have g5 := g.1 5 (by omega) (by omega)
      have g6 := g.1 6 (by omega) (by omega)
      have r0 : fWorks A o p o = A o := fWorks_row (by omega) (by omega) (by omega)
      have hS := qHS_rowA (B := fWorks A o p) (qHS_row hR.2.2.2.2.2.1 (by rw [f1 82 (by omega) (by omega) (by omega)]) (f1 91 (by omega) (by omega) (by omega)) (f1 92 (by omega) (by omega) (by omega)) (f1 93 (by omega) (by omega) (by omega)) (f1 94 (by omega) (by omega) (by omega)) (f1 95 (by omega) (by omega) (by omega)) (f1 96 (by omega) (by omega) (by omega))) (fWorks_row g1.1 g5.1 g6.1) (fWorks_row g1.2 g5.2 g6.2)
      have rg : fWorks A o p (A o 13) = A (A o 13) := fWorks_row g1.1 g5.1 g6.1
      refine ⟨?_, fun a a1 a2 a3 a4 a5 => (f1 a a2 a3 a4).trans (q2 a a5), fun k _ => by rw [f1 82 (by omega) (by omega) (by omega), q2 82 (by omega)]⟩
      unfold qRS
      rw [r0, f1 82 (by omega) (by omega) (by omega), f1 84 (by omega) (by omega) (by omega), f1 85 (by omega) (by omega) (by omega), f1 86 (by omega) (by omega) (by omega), f1 89 (by omega) (by omega) (by omega), rg]
      refine ⟨hR.1, hR.2.1, f2, fun q a b => ?_, ?_, hS, hR.2.2.2.2.2.2⟩
      · have hqq := hR.2.2.2.1 q a b
        rw [fWorks_row (a := o + 2) (by omega) (by omega) (by omega), fWorks_row (a := o + 3) (by omega) (by omega) (by omega), fWorks_row (a := o + 4) (by omega) (by omega) (by omega), fWorks_row (a := o + 8) (by omega) (by omega) (by omega)]
        exact ⟨hqq.1, hqq.2.1, hqq.2.2.1, (f3 q a b).1, (f3 q a b).2, hqq.2.2.2.2.2⟩
      · rw [fWorks_row (a := o + 7) (by omega) (by omega) (by omega)]
        exact hR.2.2.2.2.1
    show ∃ N', qlim C_X12_goPerson (115, [some (qA 82), some (qI p), some (qI (A (o + 4) p)), some (qI x3), some (qI n)], [qI (min (A (o + 5) p + n) (A o 1)), qI p, qA 87], qH0 (qup (qup N 83 (A (o + 4) p) (A (o + 1) (A (o + 4) p) - n)) 83 (A (o + 4) p + 1) (A (o + 1) (A (o + 4) p + 1) + n))) = some (none, qH0 N') ∧ _
    by_cases c : 0 < fN A o p
    · have en : n = fN A o p := by omega
      refine ⟨qup (qup (qup N 83 (A (o + 4) p) (A (o + 1) (A (o + 4) p) - n)) 83 (A (o + 4) p + 1) (A (o + 1) (A (o + 4) p + 1) + n)) 87 p (min (A (o + 5) p + n) (A o 1)), ?_, ?_⟩
      · simp (disch := first | assumption | omega) only [B_X12_goPerson_115, B_X12_goPerson_143, not_true_eq_false, not_false_eq_true, if_true, if_false, qlk, qtk, qif_t, qif_f, qbd_some, Option.toList_some, Option.toList_none, List.cons_append, List.nil_append, List.append_nil]
      · apply hRh
        · intro a a1 a2 a3
          rw [qup_row a2, qup_row a1, qup_row a1]
        · intro k a b
          unfold fWorks
          rw [if_pos c, qup_ne (a := 87) (by omega), qup_ne (a := o + 5) (by omega), ← en]
          by_cases d : k = A (o + 4) p + 1
          · subst d
            rw [qup_self, qup_self]
          · rw [qup_ne (a := 83) (k := A (o + 4) p + 1) (by omega), qup_ne (a := o + 1) (k := A (o + 4) p + 1) (by omega)]
            by_cases d2 : k = A (o + 4) p
            · subst d2
              rw [qup_self, qup_self]
            · rw [qup_ne (a := 83) (by omega), qup_ne (a := o + 1) (by omega)]
              exact hR.2.2.1 k a b
        · intro q a b
          have hqq := hR.2.2.2.1 q a b
          unfold fWorks
          rw [if_pos c, ← en, qup_ne (a := 87) (a' := 88) (by omega), qup_ne (a := 83) (a' := 88) (by omega), qup_ne (a := 83) (a' := 88) (by omega), qup_ne (a := o + 5) (a' := o + 6) (by omega), qup_ne (a := o + 1) (a' := o + 6) (by omega), qup_ne (a := o + 1) (a' := o + 6) (by omega)]
          refine ⟨?_, hqq.2.2.2.2.1⟩
          by_cases d : q = p
          · subst d
            rw [qup_self, qup_self]
          · rw [qup_ne (a := 87) (by omega), qup_ne (a := 83) (by omega), qup_ne (a := 83) (by omega), qup_ne (a := o + 5) (by omega), qup_ne (a := o + 1) (by omega), qup_ne (a := o + 1) (by omega)]
            exact hqq.2.2.2.1
    · have en : n = 0 := by omega
      subst en
      have hcap := (hV.2.2 p h1 h2).2.2
      have ed : min (A (o + 5) p + 0) (A o 1) = A (o + 5) p := by omega
      refine ⟨qup (qup (qup (qup N 83 (A (o + 4) p) (A (o + 1) (A (o + 4) p) - 0)) 83 (A (o + 4) p + 1) (A (o + 1) (A (o + 4) p + 1) + 0)) 87 p (min (A (o + 5) p + 0) (A o 1))) 88 p (A (o + 6) p + 1), ?_, ?_⟩
      · have k5 : kadd ((qup (qup (qup N 83 (A (o + 4) p) (A (o + 1) (A (o + 4) p) - 0)) 83 (A (o + 4) p + 1) (A (o + 1) (A (o + 4) p + 1) + 0)) 87 p (min (A (o + 5) p + 0) (A o 1))) 88 p) 1 = A (o + 6) p + 1 := by
          rw [qup_ne (by omega), qup_ne (by omega), qup_ne (by omega)]
          exact k4
        have k6 : (qup (qup (qup N 83 (A (o + 4) p) (A (o + 1) (A (o + 4) p) - 0)) 83 (A (o + 4) p + 1) (A (o + 1) (A (o + 4) p + 1) + 0)) 87 p (min (A (o + 5) p + 0) (A o 1))) 82 30 = M 82 30 := by
          rw [qup_ne (by omega), qup_ne (by omega), qup_ne (by omega)]
          exact c30
        simp (disch := first | assumption | omega) only [B_X12_goPerson_115, B_X12_goPerson_121, B_X12_goPerson_142, B_X12_goPerson_143, not_true_eq_false, not_false_eq_true, if_true, if_false, qlk, qtk, qif_t, qif_f, qbd_some, Option.toList_some, Option.toList_none, List.cons_append, List.nil_append, List.append_nil, sX12_least, k5, k6, m2]
      · apply hRh
        · intro a a1 a2 a3
          rw [qup_row a3, qup_row a2, qup_row a1, qup_row a1]
        · intro k a b
          unfold fWorks
          rw [if_neg c, qup_ne (a := 88) (by omega), qup_ne (a := 87) (by omega), qup_ne (a := o + 6) (by omega)]
          by_cases d : k = A (o + 4) p + 1
          · subst d
            rw [qup_self]
            omega
          · rw [qup_ne (a := 83) (k := A (o + 4) p + 1) (by omega)]
            by_cases d2 : k = A (o + 4) p
            · subst d2
              rw [qup_self]
              omega
            · rw [qup_ne (a := 83) (by omega)]
              exact hR.2.2.1 k a b
        · intro q a b
          have hqq := hR.2.2.2.1 q a b
          unfold fWorks
          rw [if_neg c, qup_ne (a := 88) (a' := 87) (by omega), qup_ne (a := o + 6) (a' := o + 5) (by omega), ed]
          by_cases d : q = p
          · subst d
            rw [qup_self, qup_self, qup_self]
            exact ⟨rfl, rfl⟩
          · rw [qup_ne (a := 87) (a' := 87) (by omega), qup_ne (a := 83) (by omega), qup_ne (a := 83) (by omega), qup_ne (a := 88) (by omega), qup_ne (a := 87) (by omega), qup_ne (a := 83) (by omega), qup_ne (a := 83) (by omega), qup_ne (a := o + 6) (by omega)]
            exact ⟨hqq.2.2.2.1, hqq.2.2.2.2.1⟩
  -- to the writing
  have V : ∀ fr : Int, fr = (if A (o + 4) p = 3 then 9999 else A o 12) - A (o + 1) (A (o + 4) p + 1) → ∃ N', qlim C_X12_goPerson (38, [some (qA 82), some (qI p), some (qI (A (o + 4) p)), none, none], [qI fr], qH0 M) = some (none, qH0 N') ∧ qRS N' (fWorks A o p) o ∧ qMf N' M := by
    intro fr hfr
    obtain ⟨N', w1, w2⟩ := W _ fr (hn fr hfr)
    refine ⟨N', ?_, w2⟩
    rw [← w1]
    by_cases c : 0 ≤ fr
    · rw [if_pos c]
      simp (disch := first | assumption | omega) only [B_X12_goPerson_38, B_X12_goPerson_46, B_X12_goPerson_55, B_X12_goPerson_59, B_X12_goPerson_63, B_X12_goPerson_64, not_true_eq_false, not_false_eq_true, if_true, if_false, qlk, qtk, qif_t, qif_f, qbd_some, Option.toList_some, Option.toList_none, List.cons_append, List.nil_append, List.append_nil, q1, ea, sX12_least]
    · rw [if_neg c]
      simp (disch := first | assumption | omega) only [B_X12_goPerson_38, B_X12_goPerson_46, B_X12_goPerson_55, B_X12_goPerson_59, B_X12_goPerson_63, B_X12_goPerson_64, not_true_eq_false, not_false_eq_true, if_true, if_false, qlk, qtk, qif_t, qif_f, qbd_some, Option.toList_some, Option.toList_none, List.cons_append, List.nil_append, List.append_nil, q1, ea, sX12_least]
  rw [E_X12_goPerson, B_X12_goPerson_0 h1 h2, hM.2.2.1]
  by_cases c : A (o + 4) p = 3
  · have e4 : M 83 4 = A (o + 1) (A (o + 4) p + 1) := by rw [← eaM, c]; rfl
    have k1 : ksub 9999 (M 83 4) = 9999 - A (o + 1) (A (o + 4) p + 1) := by rw [e4]; exact ksub_eq (by omega) (by omega)
    obtain ⟨N', v1, v2⟩ := V (9999 - A (o + 1) (A (o + 4) p + 1)) (by rw [if_pos c])
    refine ⟨N', ?_, v2⟩
    rw [qif_f (by omega), B_X12_goPerson_12, k1]
    exact v1
  · have k1 : ksub (A o 12) (M 83 (A (o + 4) p + 1)) = A o 12 - A (o + 1) (A (o + 4) p + 1) := by rw [eaM]; exact ksub_eq (by omega) (by omega)
    obtain ⟨N', v1, v2⟩ := V (A o 12 - A (o + 1) (A (o + 4) p + 1)) (by rw [if_neg c])
    refine ⟨N', ?_, v2⟩
    rw [qif_t c, B_X12_goPerson_25, sR, qbd_some, ← v1]
    show qlim C_X12_goPerson (29, [some (qA 82), some (qI p), some (qI (A (o + 4) p)), none, none], [qI (A o 12)], qH0 M) = _
    rw [B_X12_goPerson_29 (by rw [e1]; omega) (by rw [e1]; omega), e1, k1]
