/-! odds (class, reference) -/
def fOd (A : qMem) (n q : Int) : Nat → Int
  | 0 => 0
  | p + 1 => if q ≤ fBw A p n 22 4 then fOd A n q p + 1 else fOd A n q p
theorem fOd_lo {A : qMem} {n q : Int} : ∀ p : Nat, 0 ≤ fOd A n q p ∧ fOd A n q p ≤ p
  | 0 => ⟨Int.le_refl _, Int.le_refl _⟩
  | p + 1 => by
    have ih := fOd_lo (A := A) (n := n) (q := q) p
    unfold fOd
    split <;> omega
theorem lX11_odds {A : qMem} {n q part : Int} (hA : qNow A) (hn : 0 ≤ n ∧ n ≤ 60) (hz : 1 ≤ A 12 10) : ∀ (d p : Nat) (N : qMem), ((p + d : Nat) : Int) = A 12 10 → qCu N A →
    ∃ N' : qMem, qlim C_X11_odds (47, [some (qA 0), some (qI n), some (qI q), some (qI part), some (qI (fOd A n q p)), some (qI p)], [], qH0 N) = some (some (qJ (fFr (fOd A n q (p + d)) (A 12 10) part)), qH0 N') ∧ qCu N' A
  | 0, p, N, hp, u => by
    have r := qCu_row u (a := 12) (by omega)
    have h6 := hA.1.2.1
    have hb := fOd_lo (A := A) (n := n) (q := q) p
    have s := sX11_fr (M := N) (u := fOd A n q p) (v := A 12 10) (part := part) (by omega) (by omega) (by omega) (by omega)
    exact ⟨N, by simp (disch := first | assumption | omega) only [B_X11_odds_47, B_X11_odds_79, B_X11_odds_92, not_true_eq_false, not_false_eq_true, if_true, if_false, qlk, qtk, qif_t, qif_f, qbd_some, Option.toList_some, Option.toList_none, List.cons_append, List.nil_append, List.append_nil, r, s]; rfl, u⟩
  | d + 1, p, N, hp, u => by
    have r := qCu_row u (a := 12) (by omega)
    have h6 := hA.1.2.1
    have hb := fOd_lo (A := A) (n := n) (q := q) p
    have e1 : kadd (p : Int) 1 = ((p + 1 : Nat) : Int) := by rw [kadd_eq (by omega) (by omega)]; omega
    have e2 : kadd (fOd A n q p) 1 = fOd A n q p + 1 := kadd_eq (by omega) (by omega)
    have e3 : p + (d + 1) = p + 1 + d := by omega
    have s := sX11_behindWithout (p := p) (n := n) hA u (by omega) (by omega) (by omega) (by omega)
    obtain ⟨N', q1, q2⟩ := lX11_odds (q := q) (part := part) hA hn hz d (p + 1) (fBw A p n) (by omega) (fBw_x hA (by omega) (by omega) (by omega) (by omega))
    refine ⟨N', ?_, q2⟩
    rw [e3, ← q1]
    by_cases c : q ≤ fBw A p n 22 4
    · have e4 : fOd A n q (p + 1) = fOd A n q p + 1 := if_pos c
      rw [e4]
      simp (disch := first | assumption | omega) only [B_X11_odds_47, B_X11_odds_59, B_X11_odds_66, B_X11_odds_70, B_X11_odds_73, not_true_eq_false, not_false_eq_true, if_true, if_false, qlk, qtk, qif_t, qif_f, qbd_some, Option.toList_some, Option.toList_none, List.cons_append, List.nil_append, List.append_nil, r, s, e1, e2]
    · have e4 : fOd A n q (p + 1) = fOd A n q p := if_neg c
      rw [e4]
      simp (disch := first | assumption | omega) only [B_X11_odds_47, B_X11_odds_59, B_X11_odds_66, B_X11_odds_73, not_true_eq_false, not_false_eq_true, if_true, if_false, qlk, qtk, qif_t, qif_f, qbd_some, Option.toList_some, Option.toList_none, List.cons_append, List.nil_append, List.append_nil, r, s, e1]
def fOdV (A : qMem) (n q part : Int) : Prop := (0 ≤ n ∧ n ≤ 60) ∧ (0 ≤ q ∧ q ≤ 9999) ∧ (0 ≤ part ∧ part ≤ 1) ∧ ¬ A 12 10 = 0
theorem sX11_odds_n {A : qMem} {n q part : Int} (h : ¬ fOdV A n q part) : S_X11_odds [qA 0, qI n, qI q, qI part] (qH0 A) = some (some (qJ (-9223372036854775808)), qH0 A) := by
  unfold fOdV at h
  by_cases c1 : 0 ≤ n ∧ n ≤ 60
  · by_cases c2 : 0 ≤ q ∧ q ≤ 9999
    · by_cases c3 : 0 ≤ part ∧ part ≤ 1
      · simp (disch := first | assumption | omega) only [B_X11_odds_0, B_X11_odds_6, B_X11_odds_9, B_X11_odds_16, B_X11_odds_19, B_X11_odds_24, B_X11_odds_27, B_X11_odds_37, not_true_eq_false, not_false_eq_true, if_true, if_false, qlk, qtk, qif_t, qif_f, qbd_some, Option.toList_some, Option.toList_none, List.cons_append, List.nil_append, List.append_nil, E_X11_odds, sX11_isIn_y]
      · simp (disch := first | assumption | omega) only [B_X11_odds_0, B_X11_odds_6, B_X11_odds_9, B_X11_odds_16, B_X11_odds_19, B_X11_odds_24, B_X11_odds_27, B_X11_odds_37, not_true_eq_false, not_false_eq_true, if_true, if_false, qlk, qtk, qif_t, qif_f, qbd_some, Option.toList_some, Option.toList_none, List.cons_append, List.nil_append, List.append_nil, E_X11_odds, sX11_isIn_y, sX11_isIn_n]
    · simp (disch := first | assumption | omega) only [B_X11_odds_0, B_X11_odds_6, B_X11_odds_9, B_X11_odds_16, B_X11_odds_19, B_X11_odds_24, B_X11_odds_27, B_X11_odds_37, not_true_eq_false, not_false_eq_true, if_true, if_false, qlk, qtk, qif_t, qif_f, qbd_some, Option.toList_some, Option.toList_none, List.cons_append, List.nil_append, List.append_nil, E_X11_odds, sX11_isIn_y, sX11_isIn_n]
  · simp (disch := first | assumption | omega) only [B_X11_odds_0, B_X11_odds_6, B_X11_odds_9, B_X11_odds_16, B_X11_odds_19, B_X11_odds_24, B_X11_odds_27, B_X11_odds_37, not_true_eq_false, not_false_eq_true, if_true, if_false, qlk, qtk, qif_t, qif_f, qbd_some, Option.toList_some, Option.toList_none, List.cons_append, List.nil_append, List.append_nil, E_X11_odds, sX11_isIn_y, sX11_isIn_n]
theorem sX11_odds {A : qMem} {n q part : Int} (hA : qNow A) (h : fOdV A n q part) : ∃ N' : qMem, S_X11_odds [qA 0, qI n, qI q, qI part] (qH0 A) = some (some (qJ (fFr (fOd A n q (A 12 10).toNat) (A 12 10) part)), qH0 N') ∧ qCu N' A := by
  have h6 := hA.1.2.1
  obtain ⟨c1, c2, c3, c4⟩ := h
  obtain ⟨N, q1, q2⟩ := lX11_odds (n := n) (q := q) (part := part) hA c1 (by omega) (A 12 10).toNat 0 A (by omega) qCu_r
  have e0 : fOd A n q 0 = 0 := rfl
  have z0 : ((0 : Nat) : Int) = 0 := rfl
  rw [Nat.zero_add, e0, z0] at q1
  refine ⟨N, ?_, q2⟩
  rw [← q1]
  simp (disch := first | assumption | omega) only [B_X11_odds_0, B_X11_odds_6, B_X11_odds_9, B_X11_odds_16, B_X11_odds_19, B_X11_odds_24, B_X11_odds_27, B_X11_odds_41, not_true_eq_false, not_false_eq_true, if_true, if_false, qlk, qtk, qif_t, qif_f, qbd_some, Option.toList_some, Option.toList_none, List.cons_append, List.nil_append, List.append_nil, E_X11_odds, sX11_isIn_y]
theorem lX12_odds {A : qMem} {n q part : Int} (hA : qNow A) (hn : 0 ≤ n ∧ n ≤ 60) (hz : 1 ≤ A 12 10) : ∀ (d p : Nat) (N : qMem), ((p + d : Nat) : Int) = A 12 10 → qMN N A →
    ∃ N' : qMem, qlim C_X12_odds (43, [some (qA 82), some (qI n), some (qI q), some (qI part), some (qI (fOd A n q p)), some (qI p)], [], qH0 N) = some (some (qJ (fFr (fOd A n q (p + d)) (A 12 10) part)), qH0 N') ∧ qMN N' A ∧ qMx N' N
  | 0, p, N, hp, u => by
    have r := u.1.1.1
    have h6 := hA.1.2.1
    have hb := fOd_lo (A := A) (n := n) (q := q) p
    have s := sX12_fr (M := N) (u := fOd A n q p) (v := A 12 10) (part := part) (by omega) (by omega) (by omega) (by omega)
    exact ⟨N, by simp (disch := first | assumption | omega) only [B_X12_odds_43, B_X12_odds_88, B_X12_odds_99, not_true_eq_false, not_false_eq_true, if_true, if_false, qlk, qtk, qif_t, qif_f, qbd_some, Option.toList_some, Option.toList_none, List.cons_append, List.nil_append, List.append_nil, r, s]; rfl, u, qMx_r⟩
  | d + 1, p, N, hp, u => by
    have r := u.1.1.1
    have h6 := hA.1.2.1
    have hb := fOd_lo (A := A) (n := n) (q := q) p
    have e1 : kadd (p : Int) 1 = ((p + 1 : Nat) : Int) := by rw [kadd_eq (by omega) (by omega)]; omega
    have e2 : kadd (fOd A n q p) 1 = fOd A n q p + 1 := kadd_eq (by omega) (by omega)
    have e5 : kadd (fOd A n q p) 0 = fOd A n q p := by rw [kadd_eq (by omega) (by omega)]; omega
    have e3 : p + (d + 1) = p + 1 + d := by omega
    obtain ⟨N1, a1, a2, a3, a4⟩ := sT_save u hA
    obtain ⟨N2, g1, g2, g3⟩ := sT_goes (p := p) a2 (fTr_T hA).1 (by omega) (by omega)
    obtain ⟨N3, c1, c2, c3⟩ := sX12_yieldThen (n := n) g2 (qTr_gone (fTr_T hA)) (by omega) (by omega) (by omega)
    have c1' : S_X12_yieldThen [qA 82, qI n] (qH0 N2) = some (some (qI (fBw A p n 22 4)), qH0 N3) := c1
    have hx : qMx N3 N := qMx_t c3 (qMx_t (qMx_f g3) a4)
    obtain ⟨N', q1, q2, q3⟩ := lX12_odds (q := q) (part := part) hA hn hz d (p + 1) N3 (by omega) c2
    refine ⟨N', ?_, q2, qMx_t q3 hx⟩
    rw [e3, ← q1]
    by_cases c : q ≤ fBw A p n 22 4
    · have e4 : fOd A n q (p + 1) = fOd A n q p + 1 := if_pos c
      rw [e4]
      simp (disch := first | assumption | omega) only [B_X12_odds_43, B_X12_odds_52, B_X12_odds_56, B_X12_odds_63, B_X12_odds_70, B_X12_odds_74, B_X12_odds_79, not_true_eq_false, not_false_eq_true, if_true, if_false, qlk, qtk, qif_t, qif_f, qbd_some, Option.toList_some, Option.toList_none, List.cons_append, List.nil_append, List.append_nil, r, a1, g1, c1', e1, e2]
    · have e4 : fOd A n q (p + 1) = fOd A n q p := if_neg c
      rw [e4]
      simp (disch := first | assumption | omega) only [B_X12_odds_43, B_X12_odds_52, B_X12_odds_56, B_X12_odds_63, B_X12_odds_70, B_X12_odds_78, B_X12_odds_79, not_true_eq_false, not_false_eq_true, if_true, if_false, qlk, qtk, qif_t, qif_f, qbd_some, Option.toList_some, Option.toList_none, List.cons_append, List.nil_append, List.append_nil, r, a1, g1, c1', e1, e5]
theorem sX12_odds_n {N A : qMem} {n q part : Int} (hN : qMN N A) (h : ¬ fOdV A n q part) : S_X12_odds [qA 82, qI n, qI q, qI part] (qH0 N) = some (some (qJ (-9223372036854775808)), qH0 N) := by
  have r := hN.1.1.1
  unfold fOdV at h
  by_cases c1 : 0 ≤ n ∧ n ≤ 60
  · by_cases c2 : 0 ≤ q ∧ q ≤ 9999
    · by_cases c3 : 0 ≤ part ∧ part ≤ 1
      · simp (disch := first | assumption | omega) only [B_X12_odds_0, B_X12_odds_5, B_X12_odds_8, B_X12_odds_13, B_X12_odds_16, B_X12_odds_23, B_X12_odds_26, B_X12_odds_33, not_true_eq_false, not_false_eq_true, if_true, if_false, qlk, qtk, qif_t, qif_f, qbd_some, Option.toList_some, Option.toList_none, List.cons_append, List.nil_append, List.append_nil, E_X12_odds, sX12_isMinutes_y, sX12_isLetters_y, sX12_in_y, r]
      · simp (disch := first | assumption | omega) only [B_X12_odds_0, B_X12_odds_5, B_X12_odds_8, B_X12_odds_13, B_X12_odds_16, B_X12_odds_23, B_X12_odds_26, B_X12_odds_33, not_true_eq_false, not_false_eq_true, if_true, if_false, qlk, qtk, qif_t, qif_f, qbd_some, Option.toList_some, Option.toList_none, List.cons_append, List.nil_append, List.append_nil, E_X12_odds, sX12_isMinutes_y, sX12_isLetters_y, sX12_in_n]
    · simp (disch := first | assumption | omega) only [B_X12_odds_0, B_X12_odds_5, B_X12_odds_8, B_X12_odds_13, B_X12_odds_16, B_X12_odds_23, B_X12_odds_26, B_X12_odds_33, not_true_eq_false, not_false_eq_true, if_true, if_false, qlk, qtk, qif_t, qif_f, qbd_some, Option.toList_some, Option.toList_none, List.cons_append, List.nil_append, List.append_nil, E_X12_odds, sX12_isMinutes_y, sX12_isLetters_n]
  · simp (disch := first | assumption | omega) only [B_X12_odds_0, B_X12_odds_5, B_X12_odds_8, B_X12_odds_13, B_X12_odds_16, B_X12_odds_23, B_X12_odds_26, B_X12_odds_33, not_true_eq_false, not_false_eq_true, if_true, if_false, qlk, qtk, qif_t, qif_f, qbd_some, Option.toList_some, Option.toList_none, List.cons_append, List.nil_append, List.append_nil, E_X12_odds, sX12_isMinutes_n]
theorem sX12_odds {N A : qMem} {n q part : Int} (hN : qMN N A) (hA : qNow A) (h : fOdV A n q part) : ∃ N' : qMem, S_X12_odds [qA 82, qI n, qI q, qI part] (qH0 N) = some (some (qJ (fFr (fOd A n q (A 12 10).toNat) (A 12 10) part)), qH0 N') ∧ qMN N' A ∧ qMx N' N := by
  have r := hN.1.1.1
  have h6 := hA.1.2.1
  obtain ⟨c1, c2, c3, c4⟩ := h
  obtain ⟨N2, q1, q2, q3⟩ := lX12_odds (n := n) (q := q) (part := part) hA c1 (by omega) (A 12 10).toNat 0 N (by omega) hN
  have e0 : fOd A n q 0 = 0 := rfl
  have z0 : ((0 : Nat) : Int) = 0 := rfl
  rw [Nat.zero_add, e0, z0] at q1
  refine ⟨N2, ?_, q2, q3⟩
  rw [← q1]
  simp (disch := first | assumption | omega) only [B_X12_odds_0, B_X12_odds_5, B_X12_odds_8, B_X12_odds_13, B_X12_odds_16, B_X12_odds_23, B_X12_odds_26, B_X12_odds_37, not_true_eq_false, not_false_eq_true, if_true, if_false, qlk, qtk, qif_t, qif_f, qbd_some, Option.toList_some, Option.toList_none, List.cons_append, List.nil_append, List.append_nil, E_X12_odds, sX12_isMinutes_y, sX12_isLetters_y, sX12_in_y, r]
