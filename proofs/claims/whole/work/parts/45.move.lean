/-! who had better do other work (class, reference) -/
def fMt (A : qMem) (p w : Int) : qMem := fMin (qup (fTr A) 25 p w) 21 30
def fMw (A : qMem) (p : Int) (s : Int × Int) : Nat → Int × Int
  | 0 => s
  | w + 1 => if fMt A p w 22 4 ≤ (fMw A p s w).1 then fMw A p s w else (fMt A p w 22 4, 10 * p + w)
def fMv (A : qMem) : Nat → Int × Int
  | 0 => (fMin (fTr A) 21 30 22 4, -5)
  | p + 1 => fMw A p (fMv A p) 4
theorem fMt_x {A : qMem} {p w : Int} (hA : qNow A) (hp : 0 ≤ p ∧ p < 6) (hw : 0 ≤ w ∧ w < 4) : qCu (fMt A p w) A :=
  qCu_t (fMin_x (qTr_work (fTr_T hA) (by omega)) _ (by omega)) (qCu_t (qCu_up (by unfold qIn; omega)) fTr_x)
theorem lX11_mw {A : qMem} {p : Int} {s : Int × Int} (hA : qNow A) (hp : 0 ≤ p ∧ p < 6) : ∀ (d w : Nat) (N : qMem) (x : Option qV), w + d = 4 → qCu N A →
    ∃ (N' : qMem) (x' : Option qV), qlim C_X11_bestMove (24, [some (qA 0), some (qI (fMw A p s w).1), some (qI (fMw A p s w).2), some (qI p), some (qI w), x], [], qH0 N) = qlim C_X11_bestMove (86, [some (qA 0), some (qI (fMw A p s 4).1), some (qI (fMw A p s 4).2), some (qI p), some (qI 4), x'], [], qH0 N') ∧ qCu N' A
  | 0, w, N, x, hw, u => by
    have e : w = 4 := by omega
    subst e
    exact ⟨N, x, by simp (disch := first | assumption | omega) only [B_X11_bestMove_24, not_true_eq_false, not_false_eq_true, if_true, if_false, qlk, qtk, qif_t, qif_f, qbd_some, Option.toList_some, Option.toList_none, List.cons_append, List.nil_append, List.append_nil]; rfl, u⟩
  | d + 1, w, N, x, hw, u => by
    obtain ⟨p1, p2⟩ := hp
    have e1 : kadd (w : Int) 1 = ((w + 1 : Nat) : Int) := by rw [kadd_eq (by omega) (by omega)]; omega
    have e2 : kadd (kmul 10 p) w = 10 * p + w := by rw [kmul_eq (by omega) (by omega), kadd_eq (by omega) (by omega)]
    have s1 := sT_bec hA u
    have s2 : S_X8_minutesGo [qA 21, qI 30] (qH0 (qup (fTr A) 25 p w)) = some (some (qI (fMt A p w 22 4)), qH0 (fMt A p w)) := sT_minutesGo (n := 30) (qTr_work (fTr_T hA) (by omega)) (by omega) (by omega) (by omega)
    obtain ⟨N', x', q1, q2⟩ := lX11_mw (s := s) hA ⟨p1, p2⟩ d (w + 1) (fMt A p w) (some (qI (fMt A p w 22 4))) (by omega) (fMt_x hA ⟨p1, p2⟩ (by omega))
    refine ⟨N', x', ?_, q2⟩
    rw [← q1]
    by_cases c : fMt A p w 22 4 ≤ (fMw A p s w).1
    · have e : fMw A p s (w + 1) = fMw A p s w := if_pos c
      rw [e]
      simp (disch := first | assumption | omega) only [B_X11_bestMove_24, B_X11_bestMove_30, B_X11_bestMove_41, B_X11_bestMove_61, B_X11_bestMove_80, not_true_eq_false, not_false_eq_true, if_true, if_false, qlk, qtk, qif_t, qif_f, qbd_some, Option.toList_some, Option.toList_none, List.cons_append, List.nil_append, List.append_nil, s1, s2, e1]
    · have e : fMw A p s (w + 1) = (fMt A p w 22 4, 10 * p + w) := if_neg c
      rw [e]
      simp (disch := first | assumption | omega) only [B_X11_bestMove_24, B_X11_bestMove_30, B_X11_bestMove_41, B_X11_bestMove_61, B_X11_bestMove_69, B_X11_bestMove_80, not_true_eq_false, not_false_eq_true, if_true, if_false, qlk, qtk, qif_t, qif_f, qbd_some, Option.toList_some, Option.toList_none, List.cons_append, List.nil_append, List.append_nil, s1, s2, e1, e2]
theorem lX11_mv {A : qMem} (hA : qNow A) : ∀ (d p : Nat) (N : qMem) (x y : Option qV), ((p + d : Nat) : Int) = A 12 10 → qCu N A →
    ∃ N' : qMem, qlim C_X11_bestMove (10, [some (qA 0), some (qI (fMv A p).1), some (qI (fMv A p).2), some (qI p), x, y], [], qH0 N) = some (some (qI (fMv A (p + d)).2), qH0 N') ∧ qCu N' A
  | 0, p, N, x, y, hp, u => by
    have r := qCu_row u (a := 12) (by omega)
    exact ⟨N, by simp (disch := first | assumption | omega) only [B_X11_bestMove_10, B_X11_bestMove_92, not_true_eq_false, not_false_eq_true, if_true, if_false, qlk, qtk, qif_t, qif_f, qbd_some, Option.toList_some, Option.toList_none, List.cons_append, List.nil_append, List.append_nil, r]; rfl, u⟩
  | d + 1, p, N, x, y, hp, u => by
    have r := qCu_row u (a := 12) (by omega)
    have h6 := hA.1.2.1
    have e1 : kadd (p : Int) 1 = ((p + 1 : Nat) : Int) := by rw [kadd_eq (by omega) (by omega)]; omega
    obtain ⟨N1, x1, a1, a2⟩ := lX11_mw (p := p) (s := fMv A p) hA (by omega) 4 0 N y (by omega) u
    obtain ⟨N2, b1, b2⟩ := lX11_mv hA d (p + 1) N1 (some (qI 4)) x1 (by omega) a2
    refine ⟨N2, ?_, b2⟩
    have e3 : p + (d + 1) = p + 1 + d := by omega
    rw [e3, ← b1, B_X11_bestMove_10, r, qif_f (by omega), B_X11_bestMove_21]
    refine Eq.trans a1 ?_
    rw [B_X11_bestMove_86, e1]
    rfl
theorem sX11_bestMove {A : qMem} (hA : qNow A) : ∃ N' : qMem, S_X11_bestMove [qA 0] (qH0 A) = some (some (qI (fMv A (A 12 10).toNat).2), qH0 N') ∧ qCu N' A := by
  have h6 := hA.1.2.1
  have s := sX11_yieldAsIs hA
  obtain ⟨N, q1, q2⟩ := lX11_mv hA (A 12 10).toNat 0 (fMin (fTr A) 21 30) none none (by omega) (qCu_t (fMin_x (fTr_T hA) _ (by omega)) fTr_x)
  have e0 : fMv A 0 = (fMin (fTr A) 21 30 22 4, -5) := by unfold fMv; exact rfl
  have z0 : ((0 : Nat) : Int) = 0 := rfl
  rw [Nat.zero_add, e0, z0] at q1
  refine ⟨N, ?_, q2⟩
  rw [← q1]
  simp (disch := first | assumption | omega) only [B_X11_bestMove_0, B_X11_bestMove_4, not_true_eq_false, not_false_eq_true, if_true, if_false, qlk, qtk, qif_t, qif_f, qbd_some, Option.toList_some, Option.toList_none, List.cons_append, List.nil_append, List.append_nil, E_X11_bestMove, s]
theorem lX12_mw {A : qMem} {p : Int} {s : Int × Int} (hA : qNow A) (hp : 0 ≤ p ∧ p < 6) : ∀ (d w : Nat) (N : qMem) (x : Option qV), w + d = 4 → qMN N A →
    ∃ (N' : qMem) (x' : Option qV), qlim C_X12_moveOf (21, [some (qA 82), some (qI (fMw A p s w).2), some (qI (fMw A p s w).1), some (qI p), some (qI w), x], [], qH0 N) = qlim C_X12_moveOf (73, [some (qA 82), some (qI (fMw A p s 4).2), some (qI (fMw A p s 4).1), some (qI p), some (qI 4), x'], [], qH0 N') ∧ qMN N' A ∧ qMx N' N
  | 0, w, N, x, hw, u => by
    have e : w = 4 := by omega
    subst e
    exact ⟨N, x, by simp (disch := first | assumption | omega) only [B_X12_moveOf_21, not_true_eq_false, not_false_eq_true, if_true, if_false, qlk, qtk, qif_t, qif_f, qbd_some, Option.toList_some, Option.toList_none, List.cons_append, List.nil_append, List.append_nil]; rfl, u, qMx_r⟩
  | d + 1, w, N, x, hw, u => by
    obtain ⟨p1, p2⟩ := hp
    have e1 : kadd (w : Int) 1 = ((w + 1 : Nat) : Int) := by rw [kadd_eq (by omega) (by omega)]; omega
    have e2 : kadd (kmul 10 p) w = 10 * p + w := by rw [kmul_eq (by omega) (by omega), kadd_eq (by omega) (by omega)]
    obtain ⟨N1, a1, a2, a3, a4⟩ := sT_save u hA
    obtain ⟨N3, c1, c2, c3⟩ := sX12_yieldThen (n := 30) (qMT_work (p := p) (w := w) a2 (fTr_T hA).1) (qTr_work (fTr_T hA) (by omega)) (by omega) (by omega) (by omega)
    have c1' : S_X12_yieldThen [qA 82, qI 30] (qH0 (qup N1 86 p w)) = some (some (qI (fMt A p w 22 4)), qH0 N3) := c1
    have hx : qMx N3 N := qMx_t c3 (qMx_t (qMx_f (qTf_up (by omega))) a4)
    obtain ⟨N', x', q1, q2, q3⟩ := lX12_mw (s := s) hA ⟨p1, p2⟩ d (w + 1) N3 (some (qI (fMt A p w 22 4))) (by omega) c2
    refine ⟨N', x', ?_, q2, qMx_t q3 hx⟩
    rw [← q1]
    by_cases c : fMt A p w 22 4 ≤ (fMw A p s w).1
    · have e : fMw A p s (w + 1) = fMw A p s w := if_pos c
      rw [e]
      simp (disch := first | assumption | omega) only [B_X12_moveOf_21, B_X12_moveOf_27, B_X12_moveOf_31, B_X12_moveOf_45, B_X12_moveOf_53, B_X12_moveOf_67, not_true_eq_false, not_false_eq_true, if_true, if_false, qlk, qtk, qif_t, qif_f, qbd_some, Option.toList_some, Option.toList_none, List.cons_append, List.nil_append, List.append_nil, a1, c1', e1]
    · have e : fMw A p s (w + 1) = (fMt A p w 22 4, 10 * p + w) := if_neg c
      rw [e]
      simp (disch := first | assumption | omega) only [B_X12_moveOf_21, B_X12_moveOf_27, B_X12_moveOf_31, B_X12_moveOf_45, B_X12_moveOf_56, B_X12_moveOf_67, not_true_eq_false, not_false_eq_true, if_true, if_false, qlk, qtk, qif_t, qif_f, qbd_some, Option.toList_some, Option.toList_none, List.cons_append, List.nil_append, List.append_nil, a1, c1', e1, e2]
theorem lX12_mv {A : qMem} (hA : qNow A) : ∀ (d p : Nat) (N : qMem) (x y : Option qV), ((p + d : Nat) : Int) = A 12 10 → qMN N A →
    ∃ N' : qMem, qlim C_X12_moveOf (10, [some (qA 82), some (qI (fMv A p).2), some (qI (fMv A p).1), some (qI p), x, y], [], qH0 N) = some (some (qI (fMv A (p + d)).2), qH0 N') ∧ qMN N' A ∧ qMx N' N
  | 0, p, N, x, y, hp, u => by
    have r := u.1.1.1
    exact ⟨N, by simp (disch := first | assumption | omega) only [B_X12_moveOf_10, B_X12_moveOf_79, not_true_eq_false, not_false_eq_true, if_true, if_false, qlk, qtk, qif_t, qif_f, qbd_some, Option.toList_some, Option.toList_none, List.cons_append, List.nil_append, List.append_nil, r]; rfl, u, qMx_r⟩
  | d + 1, p, N, x, y, hp, u => by
    have r := u.1.1.1
    have h6 := hA.1.2.1
    have e1 : kadd (p : Int) 1 = ((p + 1 : Nat) : Int) := by rw [kadd_eq (by omega) (by omega)]; omega
    obtain ⟨N1, x1, a1, a2, a3⟩ := lX12_mw (p := p) (s := fMv A p) hA (by omega) 4 0 N y (by omega) u
    obtain ⟨N2, b1, b2, b3⟩ := lX12_mv hA d (p + 1) N1 (some (qI 4)) x1 (by omega) a2
    refine ⟨N2, ?_, b2, qMx_t b3 a3⟩
    have e3 : p + (d + 1) = p + 1 + d := by omega
    rw [e3, ← b1, B_X12_moveOf_10, r, qif_f (by omega), B_X12_moveOf_18]
    refine Eq.trans a1 ?_
    rw [B_X12_moveOf_73, e1]
    rfl
theorem sX12_moveOf {N A : qMem} (hN : qMN N A) (hA : qNow A) : ∃ N' : qMem, S_X12_moveOf [qA 82] (qH0 N) = some (some (qI (fMv A (A 12 10).toNat).2), qH0 N') ∧ qMN N' A ∧ qMx N' N := by
  have h6 := hA.1.2.1
  obtain ⟨N1, a1, a2, a3⟩ := sX12_yield0 hN hA
  obtain ⟨N2, q1, q2, q3⟩ := lX12_mv hA (A 12 10).toNat 0 N1 none none (by omega) a2
  have e0 : fMv A 0 = (fMin (fTr A) 21 30 22 4, -5) := by unfold fMv; exact rfl
  have z0 : ((0 : Nat) : Int) = 0 := rfl
  rw [Nat.zero_add, e0, z0] at q1
  refine ⟨N2, ?_, q2, qMx_t q3 a3⟩
  rw [← q1]
  simp (disch := first | assumption | omega) only [B_X12_moveOf_0, B_X12_moveOf_7, not_true_eq_false, not_false_eq_true, if_true, if_false, qlk, qtk, qif_t, qif_f, qbd_some, Option.toList_some, Option.toList_none, List.cons_append, List.nil_append, List.append_nil, E_X12_moveOf, a1]
