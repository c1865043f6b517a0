/-! minutes (the reference) -/
theorem lX12_people {A : qMem} {o : Int} (hF : qSF A o) (hV : qSV A o 0) : ∀ (d j : Nat) (N : qMem), ((j + d : Nat) : Int) = A o 10 → qRS N (fPp A o j) o → qCap N A o 1 →
    ∃ N', qlim C_X12_goMinute (2, [some (qA 82), some (qI j)], [], qH0 N) = qlim C_X12_goMinute (33, [some (qA 82), some (qI (A o 10))], [], qH0 N') ∧ qRS N' (fPp A o (j + d)) o ∧ qMf N' N
  | 0, j, N, hj, hR, hC => by
    have r0 : fPp A o j o = A o := fPp_row (by omega) (by omega) (by omega) _
    have h0 := hR.1.1
    rw [r0] at h0
    refine ⟨N, ?_, hR, qMf_r⟩
    have e : (j : Int) = A o 10 := by omega
    rw [B_X12_goMinute_2, qif_t (by omega), e]
  | d + 1, j, N, hj, hR, hC => by
    have hn := hF.2.1
    have r0 : fPp A o j o = A o := fPp_row (by omega) (by omega) (by omega) _
    have r8 : fPp A o j (o + 8) = A (o + 8) := fPp_row (by omega) (by omega) (by omega) _
    have h0 := hR.1.1
    rw [r0] at h0
    have I := fPp_I hF hV j (by omega)
    have hq := (hR.2.2.2.1 j (by omega) (by omega)).2.2.2.2.2
    rw [r8] at hq
    have hgo := (hF.2.2.2.2.1 j (by omega) (by omega)).2.2.2
    have sH := sX12_has (M := N) hR.2.1.1 hR.2.1.2 (show (0 : Int) ≤ j by omega) (by omega) hgo hq
    have e1 : kadd (j : Int) 1 = ((j + 1 : Nat) : Int) := by rw [kadd_eq (by omega) (by omega)]; omega
    have e3 : j + (d + 1) = j + 1 + d := by omega
    have e4 : fPp A o (j + 1) = if A (o + 8) j = 0 then fWorks (fPp A o j) o j else fPp A o j := rfl
    rw [e3, B_X12_goMinute_2, qif_f (by omega), B_X12_goMinute_10, sH, qbd_some]
    by_cases c : A (o + 8) j = 0
    · rw [if_pos c] at e4
      have hC' : qCap N (fPp A o j) o 1 := by unfold qCap; rw [r0]; exact hC
      obtain ⟨N1, g1, g2, g3⟩ := sX12_goPerson hR I.1 I.2 hC' (by omega) (by omega)
      rw [← e4] at g2
      have hC1 : qCap N1 A o 1 := by unfold qCap; rw [g3.2 29 (by omega), g3.2 30 (by omega)]; exact hC
      obtain ⟨N2, q1, q2, q3⟩ := lX12_people hF hV d (j + 1) N1 (by omega) g2 hC1
      refine ⟨N2, ?_, q2, qMf_t q3 g3⟩
      rw [← q1, c]
      simp (disch := first | assumption | omega) only [B_X12_goMinute_19, B_X12_goMinute_22, B_X12_goMinute_27, not_true_eq_false, not_false_eq_true, if_true, if_false, qlk, qtk, qif_t, qif_f, qbd_some, Option.toList_some, Option.toList_none, List.cons_append, List.nil_append, List.append_nil, g1, e1]
    · rw [if_neg c] at e4
      rw [← e4] at hR
      obtain ⟨N2, q1, q2, q3⟩ := lX12_people hF hV d (j + 1) N (by omega) hR hC
      refine ⟨N2, ?_, q2, q3⟩
      rw [← q1]
      simp (disch := first | assumption | omega) only [B_X12_goMinute_19, B_X12_goMinute_27, not_true_eq_false, not_false_eq_true, if_true, if_false, qlk, qtk, qif_t, qif_f, qbd_some, Option.toList_some, Option.toList_none, List.cons_append, List.nil_append, List.append_nil, e1]
theorem sX12_goMinute {M A : qMem} {o : Int} (hF : qSF A o) (hV : qSV A o 0) (hR : qRS M A o) (hC : qCap M A o 1) (hm : A o 11 + 1 ≤ 10200) :
    ∃ N, S_X12_goMinute [qA 82] (qH0 M) = some (none, qH0 N) ∧ qRS N (fMi A o) o ∧ qMf N M := by
  have hn := hF.2.1
  obtain ⟨N, q1, q2, q3⟩ := lX12_people hF hV (A o 10).toNat 0 M (by omega) hR hC
  rw [Nat.zero_add] at q2
  have I := fPp_I hF hV (A o 10).toNat (by omega)
  have r0 : fPp A o (A o 10).toNat o = A o := fPp_row (by omega) (by omega) (by omega) _
  have g := qSF_g hF
  have g1 := g.1 1 (by omega) (by omega)
  have g5 := g.1 5 (by omega) (by omega)
  have g6 := g.1 6 (by omega) (by omega)
  have rg : fPp A o (A o 10).toNat (A o 13) = A (A o 13) := fPp_row g1.1 g5.1 g6.1 _
  have hS := q2.2.2.2.2.2.1
  have sP := sX12_post hS
  rw [r0, rg] at sP
  have hpo := hF.2.2.2.2.2.2.2.2.2.1
  have h0 := I.2.2.1 0 (by omega) (by omega)
  have e0 : N 83 0 = fPp A o (A o 10).toNat (o + 1) 0 := q2.2.2.1 0 (by omega) (by omega)
  have e1 : N 82 1 = A o 11 := by have := q2.1.2; rw [r0] at this; exact this
  have hm0 := hV.1
  have k1 : kadd (N 83 0) (A (A o 13) 5) = fPp A o (A o 10).toNat (o + 1) 0 + A (A o 13) 5 := by rw [e0]; exact kadd_eq (by omega) (by omega)
  have k2 : kadd (N 82 1) 1 = A o 11 + 1 := by rw [e1]; exact kadd_eq (by omega) (by omega)
  refine ⟨qup (qup N 83 0 (min (fPp A o (A o 10).toNat (o + 1) 0 + A (A o 13) 5) 9999)) 82 1 (A o 11 + 1), ?_, ?_, ?_⟩
  · rw [E_X12_goMinute, B_X12_goMinute_0]
    refine q1.trans ?_
    have z0 : (0 : Int) ≤ 0 := Int.le_refl 0
    simp (disch := first | assumption | omega) only [B_X12_goMinute_33, B_X12_goMinute_51, B_X12_goMinute_58, kadd_eq, ksub_eq, kmul_eq, qup_self, qup_ne, not_true_eq_false, not_false_eq_true, if_true, if_false, qlk, qtk, qif_t, qif_f, qbd_some, Option.toList_some, Option.toList_none, List.cons_append, List.nil_append, List.append_nil, sP, k1, sX12_least, k2]
    rw [e0, e1]
  · have f0 : ∀ k : Int, ¬ k = 11 → fMi A o o k = A o k := fun k hk => fMi_0 hk
    have fr : ∀ a : Int, ¬ a = o → ¬ a = o + 1 → fMi A o a = fPp A o (A o 10).toNat a := fun a a0 a1 => by
      unfold fMi
      rw [qup_row a0, qup_row a1]
    have hgr : fMi A o (A o 13) = fPp A o (A o 10).toNat (A o 13) := fr _ g.2.1 g1.1
    have hgr2 : fMi A o (A o 13 + 2) = fPp A o (A o 10).toNat (A o 13 + 2) := fr _ g.2.2 g1.2
    have hrm := q2.2.2.2.2.2.2
    rw [r0] at hS hrm
    have hS2 := qHS_rowA (B := fMi A o) (qHS_row (N := qup (qup N 83 0 (min (fPp A o (A o 10).toNat (o + 1) 0 + A (A o 13) 5) 9999)) 82 1 (A o 11 + 1)) hS (by rw [qup_ne (by omega), qup_row (by omega)]) (by rw [qup_row (by omega), qup_row (by omega)]) (by rw [qup_row (by omega), qup_row (by omega)]) (by rw [qup_row (by omega), qup_row (by omega)]) (by rw [qup_row (by omega), qup_row (by omega)]) (by rw [qup_row (by omega), qup_row (by omega)]) (by rw [qup_row (by omega), qup_row (by omega)])) hgr hgr2
    have h00 := q2.1.1
    rw [r0] at h00
    unfold qRS
    rw [f0 10 (by omega), f0 12 (by omega), f0 13 (by omega), fMi_11, hgr]
    rw [qup_self, qup_ne (a := 82) (a' := 82) (k' := 0) (by omega), qup_ne (a := 82) (a' := 82) (k' := 2) (by omega), qup_ne (a := 82) (a' := 82) (k' := 27) (by omega), qup_row (a := 83) (a' := 82) (by omega)]
    refine ⟨⟨h00, rfl⟩, q2.2.1, fun k a b => ?_, fun q a b => ?_, fun k a b => ?_, hS2, hrm⟩
    · unfold fMi
      rw [qup_ne (a := 82) (by omega), qup_ne (a := o) (by omega)]
      by_cases d : k = 0
      · subst d
        rw [qup_self, qup_self]
      · rw [qup_ne (a := 83) (by omega), qup_ne (a := o + 1) (by omega)]
        exact q2.2.2.1 k a b
    · have hqq := q2.2.2.2.1 q a b
      rw [qup_row (a := 82) (a' := 84) (by omega), qup_row (a := 82) (a' := 85) (by omega), qup_row (a := 82) (a' := 86) (by omega), qup_row (a := 82) (a' := 87) (by omega), qup_row (a := 82) (a' := 88) (by omega), qup_row (a := 83) (a' := 84) (by omega), qup_row (a := 83) (a' := 85) (by omega), qup_row (a := 83) (a' := 86) (by omega), qup_row (a := 83) (a' := 87) (by omega), qup_row (a := 83) (a' := 88) (by omega)]
      rw [fr (o + 2) (by omega) (by omega), fr (o + 3) (by omega) (by omega), fr (o + 4) (by omega) (by omega), fr (o + 5) (by omega) (by omega), fr (o + 6) (by omega) (by omega), fr (o + 8) (by omega) (by omega)]
      exact hqq
    · rw [qup_row (a := 82) (by omega), qup_row (a := 83) (by omega), fr (o + 7) (by omega) (by omega)]
      exact q2.2.2.2.2.1 k a b
  · refine ⟨fun a a1 a2 a3 a4 a5 => ?_, fun k hk => ?_⟩
    · rw [qup_row a1, qup_row a2]
      exact q3.1 a a1 a2 a3 a4 a5
    · rw [qup_ne (by omega), qup_row (by omega)]
      exact q3.2 k hk
theorem lX12_goMinutes {M A : qMem} {o n : Int} (hF : qSF A o) (hV : qSV A o 0) (hC : qCap M A o n) (hn : n ≤ 1000) (hm : A o 11 + n ≤ 10200) : ∀ (d i : Nat) (N : qMem), ((i + d : Nat) : Int) = n → qRS N (fMin A o i) o → qMf N M →
    ∃ N', qlim C_X12_goMinutes (2, [some (qA 82), some (qI n), some (qI i)], [], qH0 N) = some (none, qH0 N') ∧ qRS N' (fMin A o (i + d)) o ∧ qMf N' M
  | 0, i, N, hi, hR, hN => by
    refine ⟨N, ?_, hR, hN⟩
    rw [B_X12_goMinutes_2, qif_t (by omega), B_X12_goMinutes_17]
  | d + 1, i, N, hi, hR, hN => by
    have I := fMin_I hF hV i (by omega)
    have hC' : qCap N (fMin A o i) o 1 := by
      unfold qCap at hC ⊢
      rw [hN.2 29 (by omega), hN.2 30 (by omega), fMin_0 (k := 1) (by omega), I.2.2]
      refine ⟨hC.1, hC.2.1, ?_, hC.2.2.2⟩
      have := hC.2.2.1
      omega
    obtain ⟨N1, g1, g2, g3⟩ := sX12_goMinute I.1 I.2.1 hR hC' (by omega)
    obtain ⟨N2, q1, q2, q3⟩ := lX12_goMinutes hF hV hC hn hm d (i + 1) N1 (by omega) g2 (qMf_t g3 hN)
    have e1 : kadd (i : Int) 1 = ((i + 1 : Nat) : Int) := by rw [kadd_eq (by omega) (by omega)]; omega
    have e3 : i + (d + 1) = i + 1 + d := by omega
    rw [e3]
    refine ⟨N2, ?_, q2, q3⟩
    rw [← q1]
    simp (disch := first | assumption | omega) only [B_X12_goMinutes_2, B_X12_goMinutes_7, B_X12_goMinutes_11, not_true_eq_false, not_false_eq_true, if_true, if_false, qlk, qtk, qif_t, qif_f, qbd_some, Option.toList_some, Option.toList_none, List.cons_append, List.nil_append, List.append_nil, g1, e1]
theorem sX12_goMinutes {M A : qMem} {o n : Int} (hF : qSF A o) (hV : qSV A o 0) (hR : qRS M A o) (h0 : 0 ≤ n) (hC : qCap M A o n) (hn : n ≤ 1000) (hm : A o 11 + n ≤ 10200) :
    ∃ N, S_X12_goMinutes [qA 82, qI n] (qH0 M) = some (none, qH0 N) ∧ qRS N (fMin A o n.toNat) o ∧ qMf N M := by
  obtain ⟨N, q1, q2, q3⟩ := lX12_goMinutes hF hV hC hn hm n.toNat 0 M (by omega) hR qMf_r
  rw [Nat.zero_add] at q2
  refine ⟨N, ?_, q2, q3⟩
  rw [E_X12_goMinutes, B_X12_goMinutes_0]
  exact q1
