/-! evenings gone in a trial (the reference) -/
theorem lX12_ends {A : qMem} {w : Int} (hA : qNow A) (hE : qEv A) : ∀ (d i : Nat) (N : qMem), ((i + d : Nat) : Int) = A 41 3 → qMT N A (fEv A i) → qEvR N A →
    ∃ N' : qMem, qlim C_X12_ends (18, [some (qA 82), some (qI w), some (qI i), none], [], qH0 N) = qlim C_X12_ends (100, [some (qA 82), some (qI w), some (qI (A 41 3)), none], [], qH0 N') ∧ qMT N' A (fEv A (i + d)) ∧ qTf N' N
  | 0, i, N, hi, hN, hR => by
    have e : (i : Int) = A 41 3 := by omega
    have r := hR.1
    refine ⟨N, ?_, hN, qTf_r⟩
    rw [B_X12_ends_18, r, qif_t (by omega), e]
  | d + 1, i, N, hi, hN, hR => by
    have T := fEv_T hA hE i (by omega)
    have h := hE.2.2 i (by omega) (by omega)
    have h10 := hE.2.1
    have h6 := hA.1.2.1
    have hr := hR.2 i (by omega) (by omega)
    have r := hR.1
    have e1 : kadd (i : Int) 1 = ((i + 1 : Nat) : Int) := by rw [kadd_eq (by omega) (by omega)]; omega
    have e3 : i + (d + 1) = i + 1 + d := by omega
    have e4 : fEv A (i + 1) = fEs (fEv A i) (A 42 (2 * i)) (A 42 (2 * i + 1)) := rfl
    have hR' : ∀ N1 : qMem, qTf N1 N → qEvR N1 A := fun N1 f => by
      unfold qEvR
      rw [f.2 41 (by omega) (by omega) (by omega) (by omega) (by omega), f.1 107 (by omega) (by omega) (by omega) (by omega) (by omega) (by omega), f.1 108 (by omega) (by omega) (by omega) (by omega) (by omega) (by omega)]
      exact hR
    have i0 : (0 : Int) ≤ i := by omega
    have i1 : (i : Int) < 10 := by omega
    have k1 : N 107 i = A 42 (2 * i) := hr.1
    have k2 := hr.2
    have h1 := h.1
    have h2 := h.2
    rw [e3]
    by_cases c : A 42 (2 * (i : Int)) = 0
    · obtain ⟨N1, g1, g2, g3⟩ := sT_goMinute hN T.1 (by omega) (by omega)
      have f1 := qTf_m g3
      have e5 : fEv A (i + 1) = fMin (fEv A i) 21 1 := by rw [e4]; exact if_pos c
      rw [← e5] at g2
      obtain ⟨N', q1, q2, q3⟩ := lX12_ends (w := w) hA hE d (i + 1) N1 (by omega) g2 (hR' N1 f1)
      refine ⟨N', ?_, q2, qTf_t q3 f1⟩
      have k3 : N1 107 i = 0 := by rw [f1.1 107 (by omega) (by omega) (by omega) (by omega) (by omega) (by omega), k1]; exact c
      rw [c] at k1
      rw [← q1]
      simp (disch := first | assumption | omega) only [B_X12_ends_18, B_X12_ends_26, B_X12_ends_35, B_X12_ends_39, B_X12_ends_51, B_X12_ends_73, B_X12_ends_94, not_true_eq_false, not_false_eq_true, if_true, if_false, qlk, qtk, qif_t, qif_f, qbd_some, Option.toList_some, Option.toList_none, List.cons_append, List.nil_append, List.append_nil, r, k1, g1, k3, sX12_in_n, e1]
    · have hp := h2 c
      have k4 := k2 c
      by_cases c2 : A 42 (2 * (i : Int)) ≤ 4
      · have e5 : fEv A (i + 1) = qup (fEv A i) 25 (A 42 (2 * i + 1)) (A 42 (2 * i) - 1) := by rw [e4]; unfold fEs; rw [if_neg c, if_pos c2]
        have g2 := qMT_work (p := A 42 (2 * i + 1)) (w := A 42 (2 * i) - 1) hN T.1.1
        rw [← e5] at g2
        have f1 : qTf (qup N 86 (A 42 (2 * i + 1)) (A 42 (2 * i) - 1)) N := qTf_up (by omega)
        obtain ⟨N', q1, q2, q3⟩ := lX12_ends (w := w) hA hE d (i + 1) _ (by omega) g2 (hR' _ f1)
        refine ⟨N', ?_, q2, qTf_t q3 f1⟩
        have k5 : ksub (A 42 (2 * (i : Int))) 1 = A 42 (2 * i) - 1 := ksub_eq (by omega) (by omega)
        have k6 : qup N 86 (A 42 (2 * i + 1)) (A 42 (2 * i) - 1) 107 i = A 42 (2 * i) := by rw [qup_ne (by omega), k1]
        rw [← q1]
        generalize A 42 (2 * (i : Int)) = a at k1 k5 k6 c c2 h1 ⊢
        generalize A 42 (2 * (i : Int) + 1) = p at k4 k6 hp ⊢
        have hp0 := hp.1
        have hp1 : p < 6 := by omega
        simp (disch := first | assumption | omega) only [B_X12_ends_18, B_X12_ends_26, B_X12_ends_39, B_X12_ends_51, B_X12_ends_54, B_X12_ends_73, B_X12_ends_94, not_true_eq_false, not_false_eq_true, if_true, if_false, qlk, qtk, qif_t, qif_f, qbd_some, Option.toList_some, Option.toList_none, List.cons_append, List.nil_append, List.append_nil, r, k1, k4, k5, k6, sX12_in_y, e1]
      · have e5 : fEv A (i + 1) = qup (fEv A i) 29 (A 42 (2 * i + 1)) 1 := by rw [e4]; unfold fEs; rw [if_neg c, if_neg c2]
        obtain ⟨N1, g1, g2, g3⟩ := sT_goes (p := A 42 (2 * i + 1)) hN T.1.1 hp.1 (by omega)
        rw [← e5] at g2
        obtain ⟨N', q1, q2, q3⟩ := lX12_ends (w := w) hA hE d (i + 1) N1 (by omega) g2 (hR' N1 g3)
        refine ⟨N', ?_, q2, qTf_t q3 g3⟩
        have c5 : A 42 (2 * (i : Int)) = 5 := by omega
        rw [c5] at k1
        rw [← q1]
        simp (disch := first | assumption | omega) only [B_X12_ends_18, B_X12_ends_26, B_X12_ends_39, B_X12_ends_51, B_X12_ends_73, B_X12_ends_83, B_X12_ends_94, not_true_eq_false, not_false_eq_true, if_true, if_false, qlk, qtk, qif_t, qif_f, qbd_some, Option.toList_some, Option.toList_none, List.cons_append, List.nil_append, List.append_nil, r, k1, k4, g1, sX12_in_n, e1]
theorem lX12_de {A B N : qMem} {w k : Int} (hA : qNow A) (hB : qTr B k) (hN : qMT N A B) : ∀ d p : Nat, ((p + d : Nat) : Int) = A 12 10 →
    qlim C_X12_ends (104, [some (qA 82), some (qI w), some (qI (fDe A B p)), some (qI p)], [], qH0 N) = qlim C_X12_ends (134, [some (qA 82), some (qI w), some (qI (fDe A B (p + d))), some (qI (A 12 10))], [], qH0 N)
  | 0, p, hp => by
    have r : N 82 0 = A 12 10 := hN.2.1.1.1
    have e : (p : Int) = A 12 10 := by omega
    rw [B_X12_ends_104, r, qif_t (by omega), e]
    rfl
  | d + 1, p, hp => by
    have r : N 82 0 = A 12 10 := hN.2.1.1.1
    have h6 := hA.1.2.1
    have hb := fDe_lo hA hB p (by omega)
    have h2 : (0 ≤ B 26 p ∧ B 26 p ≤ 102000000) ∧ (0 ≤ B 27 p ∧ B 27 p ≤ 10201) := qSV_d hB.2.1 (show (0 : Int) ≤ p by omega) (by omega)
    have h3 : (0 ≤ A 17 p ∧ A 17 p ≤ 102000000) ∧ (0 ≤ A 18 p ∧ A 18 p ≤ 10201) := qSV_d hA.2.1 (show (0 : Int) ≤ p by omega) (by omega)
    have k1 : N 87 p = B 26 p := (hN.1.2.2.2.1 p (by omega) (by omega)).2.2.2.1
    have k2 : N 102 p = A 17 p := (hN.2.1.2.2.2.1 p (by omega) (by omega)).2.2.2.1
    have e1 : kadd (p : Int) 1 = ((p + 1 : Nat) : Int) := by rw [kadd_eq (by omega) (by omega)]; omega
    have e2 : ksub (B 26 p) (A 17 p) = B 26 p - A 17 p := ksub_eq (by omega) (by omega)
    have e3 : p + (d + 1) = p + 1 + d := by omega
    have e4 : kadd (fDe A B p) (B 26 p - A 17 p) = fDe A B (p + 1) := by
      rw [kadd_eq (by omega) (by omega)]
      rfl
    have ih := lX12_de (w := w) hA hB hN d (p + 1) (by omega)
    rw [e3, ← ih]
    simp (disch := first | assumption | omega) only [B_X12_ends_104, B_X12_ends_112, not_true_eq_false, not_false_eq_true, if_true, if_false, qlk, qtk, qif_t, qif_f, qbd_some, Option.toList_some, Option.toList_none, List.cons_append, List.nil_append, List.append_nil, r, k1, k2, e1, e2, e4]
theorem sX12_ends_n {N : qMem} {w : Int} (h : ¬ (0 ≤ w ∧ w ≤ 1)) : S_X12_ends [qA 82, qI w] (qH0 N) = some (some (qI (-1)), qH0 N) := by
  simp (disch := first | assumption | omega) only [B_X12_ends_0, B_X12_ends_7, B_X12_ends_10, not_true_eq_false, not_false_eq_true, if_true, if_false, qlk, qtk, qif_t, qif_f, qbd_some, Option.toList_some, Option.toList_none, List.cons_append, List.nil_append, List.append_nil, E_X12_ends, sX12_in_n]
theorem sX12_ends {N A : qMem} {w : Int} (hN : qMN N A) (hA : qNow A) (hE : qEv A) (hR : qEvR N A) (h : 0 ≤ w ∧ w ≤ 1) : ∃ N' : qMem, S_X12_ends [qA 82, qI w] (qH0 N) = some (some (qI (fEnds A w)), qH0 N') ∧ qMN N' A ∧ qMx N' N := by
  have h6 := hA.1.2.1
  have h10 := hE.2.1
  obtain ⟨N1, a1, a2, a3, a4⟩ := sT_save hN hA
  have hR1 : qEvR N1 A := by
    unfold qEvR
    rw [a4.2 41 (by omega) (by omega) (by omega) (by omega) (by omega) (by omega) (by omega), a4.1 107 (by omega) (by omega) (by omega) (by omega) (by omega) (by omega) (by omega) (by omega) (by omega) (by omega), a4.1 108 (by omega) (by omega) (by omega) (by omega) (by omega) (by omega) (by omega) (by omega) (by omega) (by omega)]
    exact hR
  obtain ⟨N2, b1, b2, b3⟩ := lX12_ends (w := w) hA hE (A 41 3).toNat 0 N1 (by omega) a2 hR1
  have T := fEv_T hA hE (A 41 3).toNat (by omega)
  have z0 : ((0 : Nat) : Int) = 0 := rfl
  rw [Nat.zero_add] at b2
  rw [z0] at b1
  have D := lX12_de (w := w) hA T.1 b2 (A 12 10).toNat 0 (by omega)
  have e5 : fDe A (fEv A (A 41 3).toNat) 0 = 0 := rfl
  rw [Nat.zero_add, e5, z0] at D
  obtain ⟨N3, p1, p2, p3⟩ := sT_putBack b2
  refine ⟨N3, ?_, p2, qMx_t (qMx_f p3) (qMx_t (qMx_f b3) a4)⟩
  have G : S_X12_ends [qA 82, qI w] (qH0 N) = qlim C_X12_ends (134, [some (qA 82), some (qI w), some (qI (fDe A (fEv A (A 41 3).toNat) (A 12 10).toNat)), some (qI (A 12 10))], [], qH0 N2) := by
    rw [← D]
    have b1' := b1.trans B_X12_ends_100
    rw [← b1']
    simp (disch := first | assumption | omega) only [B_X12_ends_0, B_X12_ends_7, B_X12_ends_12, B_X12_ends_16, not_true_eq_false, not_false_eq_true, if_true, if_false, qlk, qtk, qif_t, qif_f, qbd_some, Option.toList_some, Option.toList_none, List.cons_append, List.nil_append, List.append_nil, E_X12_ends, sX12_in_y, a1]
  have k : N2 83 4 = fEv A (A 41 3).toNat 22 4 := b2.1.2.2.1 4 (by omega) (by omega)
  rw [G]
  unfold fEnds
  by_cases c : w = 0
  · rw [if_pos c]
    simp (disch := first | assumption | omega) only [B_X12_ends_134, B_X12_ends_138, B_X12_ends_148, B_X12_ends_153, not_true_eq_false, not_false_eq_true, if_true, if_false, qlk, qtk, qif_t, qif_f, qbd_some, Option.toList_some, Option.toList_none, List.cons_append, List.nil_append, List.append_nil, k, p1]
  · rw [if_neg c]
    simp (disch := first | assumption | omega) only [B_X12_ends_134, B_X12_ends_147, B_X12_ends_148, B_X12_ends_153, not_true_eq_false, not_false_eq_true, if_true, if_false, qlk, qtk, qif_t, qif_f, qbd_some, Option.toList_some, Option.toList_none, List.cons_append, List.nil_append, List.append_nil, p1]
