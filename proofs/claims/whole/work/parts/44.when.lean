/-! without, when, how large -/
theorem sT_bec {N A : qMem} (hA : qNow A) (u : qCu N A) : S_X8_becomes [qA 21, qA 12] (qH0 N) = some (none, qH0 (fTr A)) := by
  rw [sT_becomes (qNow_u hA u), fTr_u u]
def fBw (A : qMem) (p n : Int) : qMem := fMin (qup (fTr A) 29 p 1) 21 n.toNat
theorem fBw_T {A : qMem} {p n : Int} (hA : qNow A) (h0 : 0 ≤ n) (h1 : n ≤ 100) : qTr (fBw A p n) n := by
  have := fMin_T (qTr_gone (p := p) (fTr_T hA)) n.toNat (by omega)
  have e : (0 : Int) + (n.toNat : Int) = n := by omega
  rw [e] at this
  exact this
theorem fBw_x {A : qMem} {p n : Int} (hA : qNow A) (h0 : 0 ≤ n) (h1 : n ≤ 100) (p1 : 0 ≤ p) (p2 : p < 6) : qCu (fBw A p n) A :=
  qCu_t (fMin_x (qTr_gone (fTr_T hA)) _ (by omega)) (qCu_t (qCu_up (by unfold qIn; omega)) fTr_x)
theorem sX11_behindWithout {N A : qMem} {p n : Int} (hA : qNow A) (u : qCu N A) (p1 : 0 ≤ p) (p2 : p < 6) (h0 : 0 ≤ n) (h1 : n ≤ 100) : S_X11_behindWithout [qA 0, qI p, qI n] (qH0 N) = some (some (qI (fBw A p n 22 4)), qH0 (fBw A p n)) := by
  have s1 := sT_bec hA u
  have s2 : S_X8_minutesGo [qA 21, qI n] (qH0 (qup (fTr A) 29 p 1)) = some (some (qI (fBw A p n 22 4)), qH0 (fBw A p n)) := sT_minutesGo (qTr_gone (fTr_T hA)) h0 (by omega) (by omega)
  simp (disch := first | assumption | omega) only [E_X11_behindWithout, B_X11_behindWithout_0, B_X11_behindWithout_11, B_X11_behindWithout_29, not_true_eq_false, not_false_eq_true, if_true, if_false, qlk, qtk, qif_t, qif_f, qbd_some, Option.toList_some, Option.toList_none, List.cons_append, List.nil_append, List.append_nil, s1, s2]
theorem sX11_without_n {A : qMem} {p : Int} (h : ¬ (0 ≤ p ∧ p < A 12 10)) : S_X11_without [qA 0, qI p] (qH0 A) = some (some (qI (-1)), qH0 A) := by
  simp (disch := first | assumption | omega) only [E_X11_without, B_X11_without_0, B_X11_without_5, B_X11_without_8, B_X11_without_15, B_X11_without_18, B_X11_without_19, not_true_eq_false, not_false_eq_true, if_true, if_false, qlk, qtk, qif_t, qif_f, qbd_some, Option.toList_some, Option.toList_none, List.cons_append, List.nil_append, List.append_nil, sX11_isPerson_n]
theorem sX11_without {A : qMem} {p : Int} (hA : qNow A) (h : 0 ≤ p ∧ p < A 12 10) : S_X11_without [qA 0, qI p] (qH0 A) = some (some (qI (fBw A p 30 22 4)), qH0 (fBw A p 30)) := by
  have hp := hA.1.2.1
  have s := sX11_behindWithout (n := 30) hA qCu_r h.1 (by omega) (by omega) (by omega)
  simp (disch := first | assumption | omega) only [E_X11_without, B_X11_without_0, B_X11_without_5, B_X11_without_8, B_X11_without_15, B_X11_without_18, B_X11_without_19, not_true_eq_false, not_false_eq_true, if_true, if_false, qlk, qtk, qif_t, qif_f, qbd_some, Option.toList_some, Option.toList_none, List.cons_append, List.nil_append, List.append_nil, sX11_isPerson_y, s]
theorem sX12_without_n {N A : qMem} {p : Int} (hN : qMN N A) (hA : qNow A) (h : ¬ (0 ≤ p ∧ p < A 12 10)) : S_X12_without [qA 82, qI p] (qH0 N) = some (some (qI (-1)), qH0 N) := by
  have h0 := hN.1.1.1
  have hp := hA.1.2.1
  simp (disch := first | assumption | omega) only [B_X12_without_0, B_X12_without_5, B_X12_without_8, not_true_eq_false, not_false_eq_true, if_true, if_false, qlk, qtk, qif_t, qif_f, qbd_some, Option.toList_some, Option.toList_none, List.cons_append, List.nil_append, List.append_nil, E_X12_without, sX12_isPerson_n]
theorem sX12_without {N A : qMem} {p : Int} (hN : qMN N A) (hA : qNow A) (h : 0 ≤ p ∧ p < A 12 10) : ∃ N', S_X12_without [qA 82, qI p] (qH0 N) = some (some (qI (fBw A p 30 22 4)), qH0 N') ∧ qMN N' A ∧ qMx N' N := by
  have h0 := hN.1.1.1
  have hp := hA.1.2.1
  obtain ⟨N1, q1, q2, q3, q4⟩ := sT_save hN hA
  obtain ⟨N2, g1, g2, g3⟩ := sT_goes (p := p) q2 (fTr_T hA).1 h.1 (by omega)
  obtain ⟨N3, r1, r2, r3⟩ := sX12_yieldThen (n := 30) g2 (qTr_gone (fTr_T hA)) (by omega) (by omega) (by omega)
  have r1' : S_X12_yieldThen [qA 82, qI 30] (qH0 N2) = some (some (qI (fBw A p 30 22 4)), qH0 N3) := r1
  refine ⟨N3, ?_, r2, qMx_t r3 (qMx_t (qMx_f g3) q4)⟩
  simp (disch := first | assumption | omega) only [B_X12_without_0, B_X12_without_5, B_X12_without_10, B_X12_without_14, B_X12_without_20, B_X12_without_26, not_true_eq_false, not_false_eq_true, if_true, if_false, qlk, qtk, qif_t, qif_f, qbd_some, Option.toList_some, Option.toList_none, List.cons_append, List.nil_append, List.append_nil, E_X12_without, sX12_isPerson_y, q1, g1, r1']
/-! when -/
def fWt (A : qMem) (p w : Int) (n : Nat) : qMem := fMin (qup (fMin (fTr A) 21 n) 25 p w) 21 (30 - (n : Int)).toNat
def fWh (A : qMem) (p w : Int) : Nat → Int × Int
  | 0 => (-1, 0)
  | n + 1 => if fWt A p w n 22 4 ≤ (fWh A p w n).1 then fWh A p w n else (fWt A p w n 22 4, n)
theorem qTr_w {A : qMem} {p w : Int} (hA : qNow A) (hw : 0 ≤ w ∧ w < 4) {n : Nat} (hn : n ≤ 20) : qTr (qup (fMin (fTr A) 21 n) 25 p w) (0 + n) := qTr_work (fMin_T (fTr_T hA) n (by omega)) (by omega)
theorem fWt_x {A : qMem} {p w : Int} (hA : qNow A) (hp : 0 ≤ p ∧ p < 6) (hw : 0 ≤ w ∧ w < 4) {n : Nat} (hn : n ≤ 20) : qCu (fWt A p w n) A :=
  qCu_t (fMin_x (qTr_w hA hw hn) _ (by omega)) (qCu_t (qCu_up (by unfold qIn; omega)) (qCu_t (fMin_x (fTr_T hA) n (by omega)) fTr_x))
theorem lX11_when {A : qMem} {p w : Int} (hA : qNow A) (hp : 0 ≤ p ∧ p < 6) (hw : 0 ≤ w ∧ w < 4) : ∀ (d n : Nat) (N : qMem) (x : Option qV), n + d = 21 → qCu N A →
    ∃ N', qlim C_X11_when (25, [some (qA 0), some (qI p), some (qI w), some (qI (fWh A p w n).1), some (qI (fWh A p w n).2), some (qI n), x], [], qH0 N) = some (some (qI (fWh A p w 21).2), qH0 N') ∧ qCu N' A
  | 0, n, N, x, hn, u => by
    have e : n = 21 := by omega
    subst e
    exact ⟨N, by simp (disch := first | assumption | omega) only [B_X11_when_25, B_X11_when_96, not_true_eq_false, not_false_eq_true, if_true, if_false, qlk, qtk, qif_t, qif_f, qbd_some, Option.toList_some, Option.toList_none, List.cons_append, List.nil_append, List.append_nil], u⟩
  | d + 1, n, N, x, hn, u => by
    obtain ⟨p1, p2⟩ := hp
    have e1 : kadd (n : Int) 1 = ((n + 1 : Nat) : Int) := by rw [kadd_eq (by omega) (by omega)]; omega
    have e2 : ksub 30 (n : Int) = 30 - n := ksub_eq (by omega) (by omega)
    have s1 := sT_bec hA u
    have s2 : S_X8_minutesGo [qA 21, qI n] (qH0 (fTr A)) = some (some (qI (fMin (fTr A) 21 n 22 4)), qH0 (fMin (fTr A) 21 n)) := sT_minutesGo (n := n) (fTr_T hA) (by omega) (by omega) (by omega)
    have s3 : S_X8_minutesGo [qA 21, qI (30 - n)] (qH0 (qup (fMin (fTr A) 21 n) 25 p w)) = some (some (qI (fWt A p w n 22 4)), qH0 (fWt A p w n)) := sT_minutesGo (qTr_w hA hw (by omega)) (by omega) (by omega) (by omega)
    obtain ⟨N', q1, q2⟩ := lX11_when hA ⟨p1, p2⟩ hw d (n + 1) (fWt A p w n) (some (qI (fWt A p w n 22 4))) (by omega) (fWt_x hA ⟨p1, p2⟩ hw (by omega))
    refine ⟨N', ?_, q2⟩
    rw [← q1]
    by_cases c : fWt A p w n 22 4 ≤ (fWh A p w n).1
    · have e : fWh A p w (n + 1) = fWh A p w n := if_pos c
      rw [e]
      simp (disch := first | assumption | omega) only [B_X11_when_25, B_X11_when_32, B_X11_when_43, B_X11_when_52, B_X11_when_75, B_X11_when_90, not_true_eq_false, not_false_eq_true, if_true, if_false, qlk, qtk, qif_t, qif_f, qbd_some, Option.toList_some, Option.toList_none, List.cons_append, List.nil_append, List.append_nil, s1, s2, s3, e1, e2]
    · have e : fWh A p w (n + 1) = (fWt A p w n 22 4, (n : Int)) := if_neg c
      rw [e]
      simp (disch := first | assumption | omega) only [B_X11_when_25, B_X11_when_32, B_X11_when_43, B_X11_when_52, B_X11_when_75, B_X11_when_83, B_X11_when_90, not_true_eq_false, not_false_eq_true, if_true, if_false, qlk, qtk, qif_t, qif_f, qbd_some, Option.toList_some, Option.toList_none, List.cons_append, List.nil_append, List.append_nil, s1, s2, s3, e1, e2]
theorem sX11_when_n {A : qMem} {p w : Int} (h : ¬ ((0 ≤ p ∧ p < A 12 10) ∧ (0 ≤ w ∧ w < 4))) : S_X11_when [qA 0, qI p, qI w] (qH0 A) = some (some (qI (-1)), qH0 A) := by
  by_cases c : 0 ≤ p ∧ p < A 12 10
  · simp (disch := first | assumption | omega) only [B_X11_when_0, B_X11_when_5, B_X11_when_8, B_X11_when_12, B_X11_when_15, not_true_eq_false, not_false_eq_true, if_true, if_false, qlk, qtk, qif_t, qif_f, qbd_some, Option.toList_some, Option.toList_none, List.cons_append, List.nil_append, List.append_nil, E_X11_when, sX11_isPerson_y, sX11_isWork_n]
  · simp (disch := first | assumption | omega) only [B_X11_when_0, B_X11_when_5, B_X11_when_15, not_true_eq_false, not_false_eq_true, if_true, if_false, qlk, qtk, qif_t, qif_f, qbd_some, Option.toList_some, Option.toList_none, List.cons_append, List.nil_append, List.append_nil, E_X11_when, sX11_isPerson_n]
theorem sX11_when {A : qMem} {p w : Int} (hA : qNow A) (h : 0 ≤ p ∧ p < A 12 10) (hw : 0 ≤ w ∧ w < 4) : ∃ N', S_X11_when [qA 0, qI p, qI w] (qH0 A) = some (some (qI (fWh A p w 21).2), qH0 N') ∧ qCu N' A := by
  have hp := hA.1.2.1
  obtain ⟨N', q1, q2⟩ := lX11_when hA (p := p) (w := w) ⟨h.1, by omega⟩ hw 21 0 A none (by omega) qCu_r
  refine ⟨N', ?_, q2⟩
  rw [← q1]
  simp (disch := first | assumption | omega) only [B_X11_when_0, B_X11_when_5, B_X11_when_8, B_X11_when_12, B_X11_when_17, not_true_eq_false, not_false_eq_true, if_true, if_false, qlk, qtk, qif_t, qif_f, qbd_some, Option.toList_some, Option.toList_none, List.cons_append, List.nil_append, List.append_nil, E_X11_when, sX11_isPerson_y, sX11_isWork_y]
  rfl
theorem lX12_when {A : qMem} {p w : Int} (hA : qNow A) (hp : 0 ≤ p ∧ p < 6) (hw : 0 ≤ w ∧ w < 4) : ∀ (d n : Nat) (N : qMem) (x : Option qV), n + d = 21 → qMN N A →
    ∃ N', qlim C_X12_when (26, [some (qA 82), some (qI p), some (qI w), some (qI (fWh A p w n).2), some (qI (fWh A p w n).1), some (qI n), x], [], qH0 N) = some (some (qI (fWh A p w 21).2), qH0 N') ∧ qMN N' A ∧ qMx N' N
  | 0, n, N, x, hn, u => by
    have e : n = 21 := by omega
    subst e
    exact ⟨N, by simp (disch := first | assumption | omega) only [B_X12_when_26, B_X12_when_84, not_true_eq_false, not_false_eq_true, if_true, if_false, qlk, qtk, qif_t, qif_f, qbd_some, Option.toList_some, Option.toList_none, List.cons_append, List.nil_append, List.append_nil], u, qMx_r⟩
  | d + 1, n, N, x, hn, u => by
    obtain ⟨p1, p2⟩ := hp
    have e1 : kadd (n : Int) 1 = ((n + 1 : Nat) : Int) := by rw [kadd_eq (by omega) (by omega)]; omega
    have e2 : ksub 30 (n : Int) = 30 - n := ksub_eq (by omega) (by omega)
    obtain ⟨N1, a1, a2, a3, a4⟩ := sT_save u hA
    obtain ⟨N2, b1, b2, b3⟩ := sT_goMinutes (n := n) a2 (fTr_T hA) (by omega) (by omega) (by omega)
    have b2' : qMT N2 A (fMin (fTr A) 21 n) := b2
    have hT := fMin_T (fTr_T hA) n (by omega)
    obtain ⟨N3, c1, c2, c3⟩ := sX12_yieldThen (n := 30 - n) (qMT_work (p := p) (w := w) b2' hT.1) (qTr_w hA hw (by omega)) (by omega) (by omega) (by omega)
    have c1' : S_X12_yieldThen [qA 82, qI (30 - n)] (qH0 (qup N2 86 p w)) = some (some (qI (fWt A p w n 22 4)), qH0 N3) := c1
    have hx : qMx N3 N := qMx_t c3 (qMx_t (qMx_f (qTf_up (by omega))) (qMx_t (qMx_f (qTf_m b3)) a4))
    obtain ⟨N', q1, q2, q3⟩ := lX12_when hA ⟨p1, p2⟩ hw d (n + 1) N3 (some (qI (fWt A p w n 22 4))) (by omega) c2
    refine ⟨N', ?_, q2, qMx_t q3 hx⟩
    rw [← q1]
    by_cases c : fWt A p w n 22 4 ≤ (fWh A p w n).1
    · have e : fWh A p w (n + 1) = fWh A p w n := if_pos c
      rw [e]
      simp (disch := first | assumption | omega) only [B_X12_when_26, B_X12_when_33, B_X12_when_37, B_X12_when_43, B_X12_when_59, B_X12_when_68, B_X12_when_78, not_true_eq_false, not_false_eq_true, if_true, if_false, qlk, qtk, qif_t, qif_f, qbd_some, Option.toList_some, Option.toList_none, List.cons_append, List.nil_append, List.append_nil, a1, b1, c1', e1, e2]
    · have e : fWh A p w (n + 1) = (fWt A p w n 22 4, (n : Int)) := if_neg c
      rw [e]
      simp (disch := first | assumption | omega) only [B_X12_when_26, B_X12_when_33, B_X12_when_37, B_X12_when_43, B_X12_when_59, B_X12_when_71, B_X12_when_78, not_true_eq_false, not_false_eq_true, if_true, if_false, qlk, qtk, qif_t, qif_f, qbd_some, Option.toList_some, Option.toList_none, List.cons_append, List.nil_append, List.append_nil, a1, b1, c1', e1, e2]
theorem sX12_when_n {N A : qMem} {p w : Int} (hN : qMN N A) (hA : qNow A) (h : ¬ ((0 ≤ p ∧ p < A 12 10) ∧ (0 ≤ w ∧ w < 4))) : S_X12_when [qA 82, qI p, qI w] (qH0 N) = some (some (qI (-1)), qH0 N) := by
  have h0 := hN.1.1.1
  have hp := hA.1.2.1
  by_cases c : 0 ≤ p ∧ p < A 12 10
  · simp (disch := first | assumption | omega) only [B_X12_when_0, B_X12_when_5, B_X12_when_8, B_X12_when_13, B_X12_when_16, not_true_eq_false, not_false_eq_true, if_true, if_false, qlk, qtk, qif_t, qif_f, qbd_some, Option.toList_some, Option.toList_none, List.cons_append, List.nil_append, List.append_nil, E_X12_when, sX12_isPerson_y, sX12_isWork_n]
  · simp (disch := first | assumption | omega) only [B_X12_when_0, B_X12_when_5, B_X12_when_16, not_true_eq_false, not_false_eq_true, if_true, if_false, qlk, qtk, qif_t, qif_f, qbd_some, Option.toList_some, Option.toList_none, List.cons_append, List.nil_append, List.append_nil, E_X12_when, sX12_isPerson_n]
theorem sX12_when {N A : qMem} {p w : Int} (hN : qMN N A) (hA : qNow A) (h : 0 ≤ p ∧ p < A 12 10) (hw : 0 ≤ w ∧ w < 4) : ∃ N', S_X12_when [qA 82, qI p, qI w] (qH0 N) = some (some (qI (fWh A p w 21).2), qH0 N') ∧ qMN N' A ∧ qMx N' N := by
  have h0 := hN.1.1.1
  have hp := hA.1.2.1
  obtain ⟨N', q1, q2⟩ := lX12_when hA (p := p) (w := w) ⟨h.1, by omega⟩ hw 21 0 N none (by omega) hN
  refine ⟨N', ?_, q2⟩
  rw [← q1]
  simp (disch := first | assumption | omega) only [B_X12_when_0, B_X12_when_5, B_X12_when_8, B_X12_when_13, B_X12_when_18, not_true_eq_false, not_false_eq_true, if_true, if_false, qlk, qtk, qif_t, qif_f, qbd_some, Option.toList_some, Option.toList_none, List.cons_append, List.nil_append, List.append_nil, E_X12_when, sX12_isPerson_y, sX12_isWork_y]
  rfl
