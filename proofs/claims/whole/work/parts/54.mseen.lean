/-! is seen (the reference); how often it fits -/
theorem qSnR_x {N M A : qMem} (h : qSnR M A) (f : qMx N M) : qSnR N A := by
  unfold qSnR
  rw [f.2 37 (by omega) (by omega) (by omega) (by omega) (by omega) (by omega) (by omega), f.1 104 (by omega) (by omega) (by omega) (by omega) (by omega) (by omega) (by omega) (by omega) (by omega) (by omega), f.1 105 (by omega) (by omega) (by omega) (by omega) (by omega) (by omega) (by omega) (by omega) (by omega) (by omega), f.1 106 (by omega) (by omega) (by omega) (by omega) (by omega) (by omega) (by omega) (by omega) (by omega) (by omega)]
  exact h
/-- B is the trial that begins at the state A1 -/
def qTs1 (A1 B : qMem) : Prop := qSE B 21 (fTr A1) 21 ∧ B (A1 12 13) = fTr A1 (A1 12 13) ∧ B (A1 12 13 + 2) = fTr A1 (A1 12 13 + 2)
theorem qMT_s {N A1 B : qMem} (h : qMT N A1 (fTr A1)) (hB : qTs1 A1 B) : qMT N A1 B := by
  have e : fTr A1 21 13 = A1 12 13 := fTr_E.1.2.2.2
  exact ⟨qRS_E h.1 hB.1 (by rw [e]; exact hB.2.1) (by rw [e]; exact hB.2.2), h.2⟩
theorem lX12_seen {A A1 B : qMem} (hA : qNow A1) (hS : qSn A) (hB : qTr B 0) (hs : qTs1 A1 B) : ∀ (d i : Nat) (N : qMem), ((i + d : Nat) : Int) = A 39 3 → qMN N A1 → qSnR N A →
    ∃ (N' : qMem) (v : Int), qlim C_X12_isSeen (4, [some (qA 82), some (qI 1), some (qI i)], [], qH0 N) = some (some (qI v), qH0 N') ∧ qMN N' A1 ∧ qMx N' N ∧
      ((v = 1 ∧ ∀ k : Int, i ≤ k → k < A 39 3 → qOkR A B k) ∨ (v = 0 ∧ ∃ k : Int, 0 ≤ k ∧ k < A 39 3 ∧ ¬ qOkR A B k))
  | 0, i, N, hi, hN, hR => by
    have r := hR.1
    refine ⟨N, 1, ?_, hN, qMx_r, Or.inl ⟨rfl, fun k a b => by omega⟩⟩
    simp (disch := first | assumption | omega) only [B_X12_isSeen_4, B_X12_isSeen_66, not_true_eq_false, not_false_eq_true, if_true, if_false, qlk, qtk, qif_t, qif_f, qbd_some, Option.toList_some, Option.toList_none, List.cons_append, List.nil_append, List.append_nil, r]
  | d + 1, i, N, hi, hN, hR => by
    have h5 := hS.2.1
    have h := hS.2.2 i (by omega) (by omega)
    have e1 : kadd (i : Int) 1 = ((i + 1 : Nat) : Int) := by rw [kadd_eq (by omega) (by omega)]; omega
    obtain ⟨N1, a1, a2, a3, a4⟩ := sT_save hN hA
    obtain ⟨N2, b1, b2, b3⟩ := sT_goMinutes (n := A 40 (3 * i + 2)) (qMT_s a2 hs) hB h.2.1 (by omega) (by omega)
    obtain ⟨N3, p1, p2, p3⟩ := sT_putBack b2
    have f2 : qMx N2 N := qMx_t (qMx_f (qTf_m b3)) a4
    have f3 : qMx N3 N := qMx_t (qMx_f p3) f2
    have r := hR.1
    have r1 := (qSnR_x hR a4).2 i (by omega) (by omega)
    have r2 := (qSnR_x hR f2).2 i (by omega) (by omega)
    have R3 := qSnR_x hR f3
    have r3 := R3.1
    have k1 : N1 106 i = A 40 (3 * i + 2) := r1.2.2
    have k2 : N2 104 i = A 40 (3 * i) := r2.1
    have k3 : N2 105 i = A 40 (3 * i + 1) := r2.2.1
    have h1 := h.1
    have k4 : N2 83 (A 40 (3 * i)) = fMin B 21 (A 40 (3 * i + 2)).toNat 22 (A 40 (3 * i)) := b2.1.2.2.1 _ h1.1 h1.2
    have i0 : (0 : Int) ≤ i := by omega
    have i5 : (i : Int) < 5 := by omega
    by_cases c : qOkR A B i
    · obtain ⟨N', v, q1, q2, q3, q4⟩ := lX12_seen hA hS hB hs d (i + 1) N3 (by omega) p2 R3
      refine ⟨N', v, ?_, q2, qMx_t q3 f3, ?_⟩
      · have k5 : N2 83 (A 40 (3 * i)) = A 40 (3 * i + 1) := k4.trans c
        rw [← q1]
        simp (disch := first | assumption | omega) only [B_X12_isSeen_4, B_X12_isSeen_12, B_X12_isSeen_16, B_X12_isSeen_20, B_X12_isSeen_30, B_X12_isSeen_50, B_X12_isSeen_55, B_X12_isSeen_60, not_true_eq_false, not_false_eq_true, if_true, if_false, qlk, qtk, qif_t, qif_f, qbd_some, Option.toList_some, Option.toList_none, List.cons_append, List.nil_append, List.append_nil, r, a1, k1, b1, k2, k3, k5, p1, e1]
      · rcases q4 with ⟨c1, c2⟩ | q4
        · refine Or.inl ⟨c1, fun k x1 x2 => ?_⟩
          by_cases ck : k = i
          · subst ck
            exact c
          · exact c2 k (by omega) x2
        · exact Or.inr q4
    · refine ⟨N3, 0, ?_, p2, f3, Or.inr ⟨rfl, i, by omega, by omega, c⟩⟩
      have k5 : ¬ N2 83 (A 40 (3 * i)) = A 40 (3 * i + 1) := fun q => c (k4.symm.trans q)
      by_cases cz : A 39 3 ≤ ((i + 1 : Nat) : Int)
      · simp (disch := first | assumption | omega) only [B_X12_isSeen_4, B_X12_isSeen_12, B_X12_isSeen_16, B_X12_isSeen_20, B_X12_isSeen_30, B_X12_isSeen_54, B_X12_isSeen_55, B_X12_isSeen_60, B_X12_isSeen_66, not_true_eq_false, not_false_eq_true, if_true, if_false, qlk, qtk, qif_t, qif_f, qbd_some, Option.toList_some, Option.toList_none, List.cons_append, List.nil_append, List.append_nil, r, a1, k1, b1, k2, k3, p1, e1, r3]
      · simp (disch := first | assumption | omega) only [B_X12_isSeen_4, B_X12_isSeen_12, B_X12_isSeen_16, B_X12_isSeen_20, B_X12_isSeen_30, B_X12_isSeen_54, B_X12_isSeen_55, B_X12_isSeen_60, B_X12_isSeen_66, not_true_eq_false, not_false_eq_true, if_true, if_false, qlk, qtk, qif_t, qif_f, qbd_some, Option.toList_some, Option.toList_none, List.cons_append, List.nil_append, List.append_nil, r, a1, k1, b1, k2, k3, p1, e1, r3]
theorem sX12_isSeen {A A1 B N : qMem} (hA : qNow A1) (hS : qSn A) (hB : qTr B 0) (hs : qTs1 A1 B) (hN : qMN N A1) (hR : qSnR N A) : ∃ (N' : qMem) (v : Int), S_X12_isSeen [qA 82] (qH0 N) = some (some (qI v), qH0 N') ∧ qMN N' A1 ∧ qMx N' N ∧
    ((v = 1 ∧ ∀ k : Int, 0 ≤ k → k < A 39 3 → qOkR A B k) ∨ (v = 0 ∧ ∃ k : Int, 0 ≤ k ∧ k < A 39 3 ∧ ¬ qOkR A B k)) := by
  obtain ⟨N', v, q1, q2⟩ := lX12_seen hA hS hB hs (A 39 3).toNat 0 N (by have := hS.2.1; omega) hN hR
  refine ⟨N', v, ?_, q2⟩
  rw [E_X12_isSeen, B_X12_isSeen_0]
  exact q1
