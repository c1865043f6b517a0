/-! mean (class, reference) -/
theorem fWorks_w {M : qMem} {o p q : Int} : M (o + 6) q ≤ fWorks M o p (o + 6) q := by
  unfold fWorks
  split
  · rw [qup_ne (by omega), qup_ne (by omega), qup_ne (by omega)]
    exact Int.le_refl _
  · by_cases c : q = p
    · subst c
      rw [qup_self]
      omega
    · rw [qup_ne (by omega)]
      exact Int.le_refl _
theorem fPp_w {M : qMem} {o q : Int} : ∀ j : Nat, M (o + 6) q ≤ fPp M o j (o + 6) q
  | 0 => Int.le_refl _
  | j + 1 => by
    have ih := fPp_w (M := M) (o := o) (q := q) j
    unfold fPp
    split
    · exact Int.le_trans ih fWorks_w
    · exact ih
theorem fMin_w {M : qMem} {o q : Int} : ∀ n : Nat, M (o + 6) q ≤ fMin M o n (o + 6) q
  | 0 => Int.le_refl _
  | n + 1 => by
    have ih := fMin_w (M := M) (o := o) (q := q) n
    refine Int.le_trans ih ?_
    show fMin M o n (o + 6) q ≤ fMi (fMin M o n) o (o + 6) q
    unfold fMi
    rw [qup_ne (by omega), qup_ne (by omega)]
    exact fPp_w _
def fMe (A B : qMem) : Nat → Int
  | 0 => 0
  | p + 1 => fMe A B p + (B 27 p - A 18 p)
theorem fMe_lo {A : qMem} {n : Int} (hA : qNow A) (hn : 0 ≤ n ∧ n ≤ 60) : ∀ p : Nat, (p : Int) ≤ 6 → 0 ≤ fMe A (fMin (fTr A) 21 n.toNat) p ∧ fMe A (fMin (fTr A) 21 n.toNat) p ≤ 10201 * p ∧ ∀ q : Int, 0 ≤ q → q < 6 → 0 ≤ fMin (fTr A) 21 n.toNat 27 q - A 18 q ∧ fMin (fTr A) 21 n.toNat 27 q - A 18 q ≤ 10201 := by
  have hd : ∀ q : Int, 0 ≤ q → q < 6 → 0 ≤ fMin (fTr A) 21 n.toNat 27 q - A 18 q ∧ fMin (fTr A) 21 n.toNat 27 q - A 18 q ≤ 10201 := by
    intro q q1 q2
    have w : fTr A 27 q ≤ fMin (fTr A) 21 n.toNat 27 q := fMin_w (M := fTr A) (o := 21) (q := q) n.toNat
    have e : fTr A 27 q = A 18 q := (fTr_E.2.2.1 q q1 q2).2.2.2.2.1
    have hT := fMin_T (fTr_T hA) n.toNat (by omega)
    have h2 : (0 ≤ fMin (fTr A) 21 n.toNat 26 q ∧ fMin (fTr A) 21 n.toNat 26 q ≤ 102000000) ∧ (0 ≤ fMin (fTr A) 21 n.toNat 27 q ∧ fMin (fTr A) 21 n.toNat 27 q ≤ 10201) := qSV_d hT.2.1 q1 q2
    have h3 : (0 ≤ A 17 q ∧ A 17 q ≤ 102000000) ∧ (0 ≤ A 18 q ∧ A 18 q ≤ 10201) := qSV_d hA.2.1 q1 q2
    rw [e] at w
    omega
  intro p
  induction p with
  | zero => exact fun _ => ⟨Int.le_refl _, Int.le_refl _, hd⟩
  | succ p ih =>
    intro hp
    have i := ih (by omega)
    have k := hd p (by omega) (by omega)
    refine ⟨?_, ?_, hd⟩
    · show 0 ≤ fMe A (fMin (fTr A) 21 n.toNat) p + (fMin (fTr A) 21 n.toNat 27 p - A 18 p)
      omega
    · show fMe A (fMin (fTr A) 21 n.toNat) p + (fMin (fTr A) 21 n.toNat 27 p - A 18 p) ≤ 10201 * ((p + 1 : Nat) : Int)
      omega
theorem lX11_mean {A : qMem} {n part : Int} (hA : qNow A) (hn : 0 ≤ n ∧ n ≤ 60) (hz : 1 ≤ A 12 10) : ∀ d p : Nat, ((p + d : Nat) : Int) = A 12 10 →
    qlim C_X11_mean (56, [some (qA 0), some (qI n), some (qI part), some (qI (fMe A (fMin (fTr A) 21 n.toNat) p)), some (qI p)], [], qH0 (fMin (fTr A) 21 n.toNat)) = some (some (qJ (fFr (fMe A (fMin (fTr A) 21 n.toNat) (p + d)) (A 12 10) part)), qH0 (fMin (fTr A) 21 n.toNat))
  | 0, p, hp => by
    have u : qCu (fMin (fTr A) 21 n.toNat) A := qCu_t (fMin_x (fTr_T hA) _ (by omega)) fTr_x
    have r := qCu_row u (a := 12) (by omega)
    have h6 := hA.1.2.1
    have hb := fMe_lo hA hn p (by omega)
    generalize fMin (fTr A) 21 n.toNat = B at u r hb ⊢
    have s := sX11_fr (M := B) (u := fMe A B p) (v := A 12 10) (part := part) hb.1 (by omega) hz h6.2
    simp (disch := first | assumption | omega) only [B_X11_mean_56, B_X11_mean_98, B_X11_mean_110, not_true_eq_false, not_false_eq_true, if_true, if_false, qlk, qtk, qif_t, qif_f, qbd_some, Option.toList_some, Option.toList_none, List.cons_append, List.nil_append, List.append_nil, r, s]
    rfl
  | d + 1, p, hp => by
    have ih := lX11_mean (part := part) hA hn hz d (p + 1) (by omega)
    have u : qCu (fMin (fTr A) 21 n.toNat) A := qCu_t (fMin_x (fTr_T hA) _ (by omega)) fTr_x
    have r := qCu_row u (a := 12) (by omega)
    have r18 := qCu_row u (a := 18) (by omega)
    have h6 := hA.1.2.1
    have hb := fMe_lo hA hn p (by omega)
    have hk := hb.2.2 p (by omega) (by omega)
    have h3 : (0 ≤ A 17 p ∧ A 17 p ≤ 102000000) ∧ (0 ≤ A 18 p ∧ A 18 p ≤ 10201) := qSV_d hA.2.1 (show (0 : Int) ≤ p by omega) (by omega)
    have e3 : p + (d + 1) = p + 1 + d := by omega
    have e1 : kadd (p : Int) 1 = ((p + 1 : Nat) : Int) := by rw [kadd_eq (by omega) (by omega)]; omega
    rw [e3, ← ih]
    generalize fMin (fTr A) 21 n.toNat = B at u r r18 hb hk ⊢
    have e2 : ksub (B 27 p) (A 18 p) = B 27 p - A 18 p := ksub_eq (by omega) (by omega)
    have e4 : kadd (fMe A B p) (B 27 p - A 18 p) = fMe A B (p + 1) := by
      rw [kadd_eq (by omega) (by omega)]
      rfl
    simp (disch := first | assumption | omega) only [B_X11_mean_56, B_X11_mean_68, not_true_eq_false, not_false_eq_true, if_true, if_false, qlk, qtk, qif_t, qif_f, qbd_some, Option.toList_some, Option.toList_none, List.cons_append, List.nil_append, List.append_nil, r, r18, e1, e2, e4]
def fMeV (A : qMem) (n part : Int) : Prop := (0 ≤ n ∧ n ≤ 60) ∧ (0 ≤ part ∧ part ≤ 1) ∧ ¬ A 12 10 = 0
theorem sX11_mean_n {A : qMem} {n part : Int} (h : ¬ fMeV A n part) : S_X11_mean [qA 0, qI n, qI part] (qH0 A) = some (some (qJ (-9223372036854775808)), qH0 A) := by
  unfold fMeV at h
  by_cases c1 : 0 ≤ n ∧ n ≤ 60
  · by_cases c3 : 0 ≤ part ∧ part ≤ 1
    · simp (disch := first | assumption | omega) only [B_X11_mean_0, B_X11_mean_6, B_X11_mean_9, B_X11_mean_14, B_X11_mean_17, B_X11_mean_27, not_true_eq_false, not_false_eq_true, if_true, if_false, qlk, qtk, qif_t, qif_f, qbd_some, Option.toList_some, Option.toList_none, List.cons_append, List.nil_append, List.append_nil, E_X11_mean, sX11_isIn_y]
    · simp (disch := first | assumption | omega) only [B_X11_mean_0, B_X11_mean_6, B_X11_mean_9, B_X11_mean_14, B_X11_mean_17, B_X11_mean_27, not_true_eq_false, not_false_eq_true, if_true, if_false, qlk, qtk, qif_t, qif_f, qbd_some, Option.toList_some, Option.toList_none, List.cons_append, List.nil_append, List.append_nil, E_X11_mean, sX11_isIn_y, sX11_isIn_n]
  · simp (disch := first | assumption | omega) only [B_X11_mean_0, B_X11_mean_6, B_X11_mean_9, B_X11_mean_14, B_X11_mean_17, B_X11_mean_27, not_true_eq_false, not_false_eq_true, if_true, if_false, qlk, qtk, qif_t, qif_f, qbd_some, Option.toList_some, Option.toList_none, List.cons_append, List.nil_append, List.append_nil, E_X11_mean, sX11_isIn_n]
theorem sX11_mean {A : qMem} {n part : Int} (hA : qNow A) (h : fMeV A n part) : ∃ N' : qMem, S_X11_mean [qA 0, qI n, qI part] (qH0 A) = some (some (qJ (fFr (fMe A (fMin (fTr A) 21 n.toNat) (A 12 10).toNat) (A 12 10) part)), qH0 N') ∧ qCu N' A := by
  have h6 := hA.1.2.1
  obtain ⟨c1, c3, c4⟩ := h
  have q1 := lX11_mean (n := n) (part := part) hA c1 (by omega) (A 12 10).toNat 0 (by omega)
  have e0 : fMe A (fMin (fTr A) 21 n.toNat) 0 = 0 := by unfold fMe; exact rfl
  have z0 : ((0 : Nat) : Int) = 0 := rfl
  rw [Nat.zero_add, e0, z0] at q1
  have s1 := sT_becomes hA
  have s2 := sT_minutesGo (n := n) (fTr_T hA) (by omega) (by omega) (by omega)
  refine ⟨fMin (fTr A) 21 n.toNat, ?_, qCu_t (fMin_x (fTr_T hA) _ (by omega)) fTr_x⟩
  rw [← q1]
  simp (disch := first | assumption | omega) only [B_X11_mean_0, B_X11_mean_6, B_X11_mean_9, B_X11_mean_14, B_X11_mean_17, B_X11_mean_31, B_X11_mean_42, B_X11_mean_50, not_true_eq_false, not_false_eq_true, if_true, if_false, qlk, qtk, qif_t, qif_f, qbd_some, Option.toList_some, Option.toList_none, List.cons_append, List.nil_append, List.append_nil, E_X11_mean, sX11_isIn_y, s1, s2]
theorem lX12_mean {N A : qMem} {n part : Int} (hA : qNow A) (hn : 0 ≤ n ∧ n ≤ 60) (hz : 1 ≤ A 12 10) (hN : qMT N A (fMin (fTr A) 21 n.toNat)) : ∀ d p : Nat, ((p + d : Nat) : Int) = A 12 10 →
    ∃ N' : qMem, qlim C_X12_mean (43, [some (qA 82), some (qI n), some (qI part), some (qI (fMe A (fMin (fTr A) 21 n.toNat) p)), some (qI p)], [], qH0 N) = some (some (qJ (fFr (fMe A (fMin (fTr A) 21 n.toNat) (p + d)) (A 12 10) part)), qH0 N') ∧ qMN N' A ∧ qTf N' N
  | 0, p, hp => by
    have r : N 82 0 = A 12 10 := hN.2.1.1.1
    have h6 := hA.1.2.1
    have hb := fMe_lo hA hn p (by omega)
    obtain ⟨N', p1, p2, p3⟩ := sT_putBack hN
    have r' : N' 82 0 = A 12 10 := p2.1.1.1
    generalize fMin (fTr A) 21 n.toNat = B at hb hN ⊢
    have s := sX12_fr (M := N') (u := fMe A B p) (v := A 12 10) (part := part) hb.1 (by omega) hz h6.2
    refine ⟨N', ?_, p2, p3⟩
    simp (disch := first | assumption | omega) only [B_X12_mean_43, B_X12_mean_76, B_X12_mean_80, B_X12_mean_90, not_true_eq_false, not_false_eq_true, if_true, if_false, qlk, qtk, qif_t, qif_f, qbd_some, Option.toList_some, Option.toList_none, List.cons_append, List.nil_append, List.append_nil, r, p1, r', s]
    rfl
  | d + 1, p, hp => by
    have r : N 82 0 = A 12 10 := hN.2.1.1.1
    have h6 := hA.1.2.1
    have hb := fMe_lo hA hn p (by omega)
    have hk := hb.2.2 p (by omega) (by omega)
    have h3 : (0 ≤ A 17 p ∧ A 17 p ≤ 102000000) ∧ (0 ≤ A 18 p ∧ A 18 p ≤ 10201) := qSV_d hA.2.1 (show (0 : Int) ≤ p by omega) (by omega)
    have e3 : p + (d + 1) = p + 1 + d := by omega
    have e1 : kadd (p : Int) 1 = ((p + 1 : Nat) : Int) := by rw [kadd_eq (by omega) (by omega)]; omega
    obtain ⟨N', q1, q2⟩ := lX12_mean (part := part) hA hn hz hN d (p + 1) (by omega)
    refine ⟨N', ?_, q2⟩
    rw [e3, ← q1]
    have k1 : N 88 p = fMin (fTr A) 21 n.toNat 27 p := (hN.1.2.2.2.1 p (by omega) (by omega)).2.2.2.2.1
    have k2 : N 103 p = A 18 p := (hN.2.1.2.2.2.1 p (by omega) (by omega)).2.2.2.2.1
    generalize fMin (fTr A) 21 n.toNat = B at hb hk k1 ⊢
    have e2 : ksub (B 27 p) (A 18 p) = B 27 p - A 18 p := ksub_eq (by omega) (by omega)
    have e4 : kadd (fMe A B p) (B 27 p - A 18 p) = fMe A B (p + 1) := by
      rw [kadd_eq (by omega) (by omega)]
      rfl
    simp (disch := first | assumption | omega) only [B_X12_mean_43, B_X12_mean_52, not_true_eq_false, not_false_eq_true, if_true, if_false, qlk, qtk, qif_t, qif_f, qbd_some, Option.toList_some, Option.toList_none, List.cons_append, List.nil_append, List.append_nil, r, k1, k2, e1, e2, e4]
theorem sX12_mean_n {N A : qMem} {n part : Int} (hN : qMN N A) (h : ¬ fMeV A n part) : S_X12_mean [qA 82, qI n, qI part] (qH0 N) = some (some (qJ (-9223372036854775808)), qH0 N) := by
  have r := hN.1.1.1
  unfold fMeV at h
  by_cases c1 : 0 ≤ n ∧ n ≤ 60
  · by_cases c3 : 0 ≤ part ∧ part ≤ 1
    · simp (disch := first | assumption | omega) only [B_X12_mean_0, B_X12_mean_5, B_X12_mean_8, B_X12_mean_15, B_X12_mean_18, B_X12_mean_25, not_true_eq_false, not_false_eq_true, if_true, if_false, qlk, qtk, qif_t, qif_f, qbd_some, Option.toList_some, Option.toList_none, List.cons_append, List.nil_append, List.append_nil, E_X12_mean, sX12_isMinutes_y, sX12_in_y, r]
    · simp (disch := first | assumption | omega) only [B_X12_mean_0, B_X12_mean_5, B_X12_mean_8, B_X12_mean_15, B_X12_mean_18, B_X12_mean_25, not_true_eq_false, not_false_eq_true, if_true, if_false, qlk, qtk, qif_t, qif_f, qbd_some, Option.toList_some, Option.toList_none, List.cons_append, List.nil_append, List.append_nil, E_X12_mean, sX12_isMinutes_y, sX12_in_n]
  · simp (disch := first | assumption | omega) only [B_X12_mean_0, B_X12_mean_5, B_X12_mean_8, B_X12_mean_15, B_X12_mean_18, B_X12_mean_25, not_true_eq_false, not_false_eq_true, if_true, if_false, qlk, qtk, qif_t, qif_f, qbd_some, Option.toList_some, Option.toList_none, List.cons_append, List.nil_append, List.append_nil, E_X12_mean, sX12_isMinutes_n]
theorem sX12_mean {N A : qMem} {n part : Int} (hN : qMN N A) (hA : qNow A) (h : fMeV A n part) : ∃ N' : qMem, S_X12_mean [qA 82, qI n, qI part] (qH0 N) = some (some (qJ (fFr (fMe A (fMin (fTr A) 21 n.toNat) (A 12 10).toNat) (A 12 10) part)), qH0 N') ∧ qMN N' A ∧ qMx N' N := by
  have r := hN.1.1.1
  have h6 := hA.1.2.1
  obtain ⟨c1, c3, c4⟩ := h
  obtain ⟨N1, a1, a2, a3, a4⟩ := sT_save hN hA
  obtain ⟨N2, b1, b2, b3⟩ := sT_goMinutes (n := n) a2 (fTr_T hA) (by omega) (by omega) (by omega)
  obtain ⟨N3, q1, q2, q3⟩ := lX12_mean (n := n) (part := part) hA c1 (by omega) b2 (A 12 10).toNat 0 (by omega)
  have e0 : fMe A (fMin (fTr A) 21 n.toNat) 0 = 0 := by unfold fMe; exact rfl
  have z0 : ((0 : Nat) : Int) = 0 := rfl
  rw [Nat.zero_add, e0, z0] at q1
  refine ⟨N3, ?_, q2, qMx_t (qMx_f q3) (qMx_t (qMx_f (qTf_m b3)) a4)⟩
  rw [← q1]
  simp (disch := first | assumption | omega) only [B_X12_mean_0, B_X12_mean_5, B_X12_mean_8, B_X12_mean_15, B_X12_mean_18, B_X12_mean_29, B_X12_mean_33, B_X12_mean_38, not_true_eq_false, not_false_eq_true, if_true, if_false, qlk, qtk, qif_t, qif_f, qbd_some, Option.toList_some, Option.toList_none, List.cons_append, List.nil_append, List.append_nil, E_X12_mean, sX12_isMinutes_y, sX12_in_y, r, a1, b1]
