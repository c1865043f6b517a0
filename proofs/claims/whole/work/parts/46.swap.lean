/-! who should change with whom (class, reference) -/
def fSt (A : qMem) (p q : Int) : qMem := fMin (qup (qup (fTr A) 25 p (A 16 q)) 25 q (A 16 p)) 21 30
def fSw (A : qMem) (p : Nat) (s : Int × Int) : Nat → Int × Int
  | 0 => s
  | i + 1 => if fSt A p ((p + 1 + i : Nat) : Int) 22 4 ≤ (fSw A p s i).1 then fSw A p s i else (fSt A p ((p + 1 + i : Nat) : Int) 22 4, 10 * p + ((p + 1 + i : Nat) : Int))
def fSv (A : qMem) : Nat → Int × Int
  | 0 => (fMin (fTr A) 21 30 22 4, -5)
  | p + 1 => fSw A p (fSv A p) ((A 12 10).toNat - (p + 1))
theorem qTr_sw {A : qMem} {p q : Int} (hA : qNow A) (hp : 0 ≤ p ∧ p < 6) (hq : 0 ≤ q ∧ q < 6) : qTr (qup (fTr A) 25 p (A 16 q)) 0 ∧ qTr (qup (qup (fTr A) 25 p (A 16 q)) 25 q (A 16 p)) 0 := by
  have w1 : 0 ≤ A 16 p ∧ A 16 p ≤ 3 := (hA.1.2.2.2.2.1 p hp.1 hp.2).2.2.1
  have w2 : 0 ≤ A 16 q ∧ A 16 q ≤ 3 := (hA.1.2.2.2.2.1 q hq.1 hq.2).2.2.1
  have a := qTr_work (p := p) (fTr_T hA) w2
  exact ⟨a, qTr_work a w1⟩
theorem fSt_x {A : qMem} {p q : Int} (hA : qNow A) (hp : 0 ≤ p ∧ p < 6) (hq : 0 ≤ q ∧ q < 6) : qCu (fSt A p q) A :=
  qCu_t (fMin_x (qTr_sw hA hp hq).2 _ (by omega)) (qCu_t (qCu_up (by unfold qIn; omega)) (qCu_t (qCu_up (by unfold qIn; omega)) fTr_x))
theorem lX11_sw {A : qMem} {p : Nat} {s : Int × Int} (hA : qNow A) (hp : (p : Int) < A 12 10) : ∀ (d i : Nat) (N : qMem) (x : Option qV), i + d = (A 12 10).toNat - (p + 1) → qCu N A →
    ∃ (N' : qMem) (x' : Option qV), qlim C_X11_bestSwap (26, [some (qA 0), some (qI (fSw A p s i).1), some (qI (fSw A p s i).2), some (qI p), some (qI ((p + 1 + i : Nat) : Int)), x], [], qH0 N) = qlim C_X11_bestSwap (121, [some (qA 0), some (qI (fSw A p s (i + d)).1), some (qI (fSw A p s (i + d)).2), some (qI p), some (qI (A 12 10)), x'], [], qH0 N') ∧ qCu N' A
  | 0, i, N, x, hi, u => by
    have r := qCu_row u (a := 12) (by omega)
    have h6 := hA.1.2.1
    have e : ((p + 1 + i : Nat) : Int) = A 12 10 := by omega
    refine ⟨N, x, ?_, u⟩
    rw [B_X11_bestSwap_26, r, qif_t (by omega), e]
    rfl
  | d + 1, i, N, x, hi, u => by
    have r := qCu_row u (a := 12) (by omega)
    have h6 := hA.1.2.1
    have e1 : kadd ((p + 1 + i : Nat) : Int) 1 = ((p + 1 + (i + 1) : Nat) : Int) := by rw [kadd_eq (by omega) (by omega)]; omega
    have e2 : kadd (kmul 10 p) ((p + 1 + i : Nat) : Int) = 10 * p + ((p + 1 + i : Nat) : Int) := by rw [kmul_eq (by omega) (by omega), kadd_eq (by omega) (by omega)]
    have e3 : i + (d + 1) = i + 1 + d := by omega
    have r16 : fTr A 16 = A 16 := qCu_row fTr_x (by omega)
    have hq : (0 : Int) ≤ ((p + 1 + i : Nat) : Int) ∧ ((p + 1 + i : Nat) : Int) < A 12 10 := by omega
    have e4 : fSw A p s (i + 1) = if fSt A p ((p + 1 + i : Nat) : Int) 22 4 ≤ (fSw A p s i).1 then fSw A p s i else (fSt A p ((p + 1 + i : Nat) : Int) 22 4, 10 * p + ((p + 1 + i : Nat) : Int)) := rfl
    have ih := fun N x => lX11_sw (s := s) hA hp d (i + 1) N x (by omega)
    rw [e3]
    generalize ((p + 1 + i : Nat) : Int) = q at e1 e2 hq e4 ⊢
    have s1 := sT_bec hA u
    have s2 : S_X8_minutesGo [qA 21, qI 30] (qH0 (qup (qup (fTr A) 25 p (A 16 q)) 25 q (A 16 p))) = some (some (qI (fSt A p q 22 4)), qH0 (fSt A p q)) := sT_minutesGo (n := 30) (qTr_sw hA (by omega) (by omega)).2 (by omega) (by omega) (by omega)
    obtain ⟨N', x', q1, q2⟩ := ih (fSt A p q) (some (qI (fSt A p q 22 4))) (fSt_x hA (by omega) (by omega))
    refine ⟨N', x', ?_, q2⟩
    rw [← q1]
    have s16 : qup (fTr A) 25 p (A 16 q) 16 p = A 16 p := by rw [qup_ne (by omega), r16]
    by_cases c : fSt A p q 22 4 ≤ (fSw A p s i).1
    · rw [if_pos c] at e4
      rw [e4]
      simp (disch := first | assumption | omega) only [B_X11_bestSwap_26, B_X11_bestSwap_38, B_X11_bestSwap_49, B_X11_bestSwap_96, B_X11_bestSwap_115, not_true_eq_false, not_false_eq_true, if_true, if_false, qlk, qtk, qif_t, qif_f, qbd_some, Option.toList_some, Option.toList_none, List.cons_append, List.nil_append, List.append_nil, r, s1, r16, s16, s2, e1]
    · rw [if_neg c] at e4
      rw [e4]
      simp (disch := first | assumption | omega) only [B_X11_bestSwap_26, B_X11_bestSwap_38, B_X11_bestSwap_49, B_X11_bestSwap_96, B_X11_bestSwap_104, B_X11_bestSwap_115, not_true_eq_false, not_false_eq_true, if_true, if_false, qlk, qtk, qif_t, qif_f, qbd_some, Option.toList_some, Option.toList_none, List.cons_append, List.nil_append, List.append_nil, r, s1, r16, s16, s2, e1, e2]
theorem lX11_sv {A : qMem} (hA : qNow A) : ∀ (d p : Nat) (N : qMem) (x y : Option qV), ((p + d : Nat) : Int) = A 12 10 → qCu N A →
    ∃ N' : qMem, qlim C_X11_bestSwap (10, [some (qA 0), some (qI (fSv A p).1), some (qI (fSv A p).2), some (qI p), x, y], [], qH0 N) = some (some (qI (fSv A (p + d)).2), qH0 N') ∧ qCu N' A
  | 0, p, N, x, y, hp, u => by
    have r := qCu_row u (a := 12) (by omega)
    exact ⟨N, by simp (disch := first | assumption | omega) only [B_X11_bestSwap_10, B_X11_bestSwap_127, not_true_eq_false, not_false_eq_true, if_true, if_false, qlk, qtk, qif_t, qif_f, qbd_some, Option.toList_some, Option.toList_none, List.cons_append, List.nil_append, List.append_nil, r]; rfl, u⟩
  | d + 1, p, N, x, y, hp, u => by
    have r := qCu_row u (a := 12) (by omega)
    have h6 := hA.1.2.1
    have e1 : kadd (p : Int) 1 = ((p + 1 : Nat) : Int) := by rw [kadd_eq (by omega) (by omega)]; omega
    obtain ⟨N1, x1, a1, a2⟩ := lX11_sw (p := p) (s := fSv A p) hA (by omega) ((A 12 10).toNat - (p + 1)) 0 N y (by omega) u
    obtain ⟨N2, b1, b2⟩ := lX11_sv hA d (p + 1) N1 (some (qI (A 12 10))) x1 (by omega) a2
    refine ⟨N2, ?_, b2⟩
    have e3 : p + (d + 1) = p + 1 + d := by omega
    rw [Nat.zero_add, Nat.add_zero] at a1
    rw [e3, ← b1, B_X11_bestSwap_10, r, qif_f (by omega), B_X11_bestSwap_21, e1]
    refine Eq.trans a1 ?_
    rw [B_X11_bestSwap_121, e1]
    rfl
theorem sX11_bestSwap {A : qMem} (hA : qNow A) : ∃ N' : qMem, S_X11_bestSwap [qA 0] (qH0 A) = some (some (qI (fSv A (A 12 10).toNat).2), qH0 N') ∧ qCu N' A := by
  have h6 := hA.1.2.1
  have s := sX11_yieldAsIs hA
  obtain ⟨N, q1, q2⟩ := lX11_sv hA (A 12 10).toNat 0 (fMin (fTr A) 21 30) none none (by omega) (qCu_t (fMin_x (fTr_T hA) _ (by omega)) fTr_x)
  have e0 : fSv A 0 = (fMin (fTr A) 21 30 22 4, -5) := by unfold fSv; exact rfl
  have z0 : ((0 : Nat) : Int) = 0 := rfl
  rw [Nat.zero_add, e0, z0] at q1
  refine ⟨N, ?_, q2⟩
  rw [← q1]
  simp (disch := first | assumption | omega) only [B_X11_bestSwap_0, B_X11_bestSwap_4, not_true_eq_false, not_false_eq_true, if_true, if_false, qlk, qtk, qif_t, qif_f, qbd_some, Option.toList_some, Option.toList_none, List.cons_append, List.nil_append, List.append_nil, E_X11_bestSwap, s]
theorem lX12_sw {A : qMem} {p : Nat} {s : Int × Int} (hA : qNow A) (hp : (p : Int) < A 12 10) : ∀ (d i : Nat) (N : qMem) (x : Option qV), i + d = (A 12 10).toNat - (p + 1) → qMN N A →
    ∃ (N' : qMem) (x' : Option qV), qlim C_X12_swapOf (23, [some (qA 82), some (qI (fSw A p s i).2), some (qI (fSw A p s i).1), some (qI p), some (qI ((p + 1 + i : Nat) : Int)), x], [], qH0 N) = qlim C_X12_swapOf (96, [some (qA 82), some (qI (fSw A p s (i + d)).2), some (qI (fSw A p s (i + d)).1), some (qI p), some (qI (A 12 10)), x'], [], qH0 N') ∧ qMN N' A ∧ qMx N' N
  | 0, i, N, x, hi, u => by
    have r := u.1.1.1
    have h6 := hA.1.2.1
    have e : ((p + 1 + i : Nat) : Int) = A 12 10 := by omega
    refine ⟨N, x, ?_, u, qMx_r⟩
    rw [B_X12_swapOf_23, r, qif_t (by omega), e]
    rfl
  | d + 1, i, N, x, hi, u => by
    have r := u.1.1.1
    have h6 := hA.1.2.1
    have e1 : kadd ((p + 1 + i : Nat) : Int) 1 = ((p + 1 + (i + 1) : Nat) : Int) := by rw [kadd_eq (by omega) (by omega)]; omega
    have e2 : kadd (kmul 10 p) ((p + 1 + i : Nat) : Int) = 10 * p + ((p + 1 + i : Nat) : Int) := by rw [kmul_eq (by omega) (by omega), kadd_eq (by omega) (by omega)]
    have e3 : i + (d + 1) = i + 1 + d := by omega
    have hq : (0 : Int) ≤ ((p + 1 + i : Nat) : Int) ∧ ((p + 1 + i : Nat) : Int) < A 12 10 := by omega
    have e4 : fSw A p s (i + 1) = if fSt A p ((p + 1 + i : Nat) : Int) 22 4 ≤ (fSw A p s i).1 then fSw A p s i else (fSt A p ((p + 1 + i : Nat) : Int) 22 4, 10 * p + ((p + 1 + i : Nat) : Int)) := rfl
    have ih := fun N x => lX12_sw (s := s) hA hp d (i + 1) N x (by omega)
    rw [e3]
    generalize ((p + 1 + i : Nat) : Int) = q at e1 e2 hq e4 ⊢
    obtain ⟨N1, a1, a2, a3, a4⟩ := sT_save u hA
    have k1 : N1 101 p = A 16 p := (a2.2.1.2.2.2.1 p (by omega) (by omega)).2.2.1
    have k2 : N1 101 q = A 16 q := (a2.2.1.2.2.2.1 q (by omega) (by omega)).2.2.1
    have T := qTr_sw (p := p) (q := q) hA (by omega) (by omega)
    obtain ⟨N3, c1, c2, c3⟩ := sX12_yieldThen (n := 30) (qMT_work (p := q) (w := A 16 p) (qMT_work (p := p) (w := A 16 q) a2 (fTr_T hA).1) T.1.1) T.2 (by omega) (by omega) (by omega)
    have c1' : S_X12_yieldThen [qA 82, qI 30] (qH0 (qup (qup N1 86 p (A 16 q)) 86 q (A 16 p))) = some (some (qI (fSt A p q 22 4)), qH0 N3) := c1
    have hx : qMx N3 N := qMx_t c3 (qMx_t (qMx_f (qTf_up (by omega))) (qMx_t (qMx_f (qTf_up (by omega))) a4))
    obtain ⟨N', x', q1, q2, q3⟩ := ih N3 (some (qI (fSt A p q 22 4))) c2
    refine ⟨N', x', ?_, q2, qMx_t q3 hx⟩
    rw [← q1]
    have k3 : qup N1 86 p (A 16 q) 101 p = A 16 p := by rw [qup_ne (by omega), k1]
    by_cases c : fSt A p q 22 4 ≤ (fSw A p s i).1
    · rw [if_pos c] at e4
      rw [e4]
      simp (disch := first | assumption | omega) only [B_X12_swapOf_23, B_X12_swapOf_32, B_X12_swapOf_36, B_X12_swapOf_68, B_X12_swapOf_76, B_X12_swapOf_90, not_true_eq_false, not_false_eq_true, if_true, if_false, qlk, qtk, qif_t, qif_f, qbd_some, Option.toList_some, Option.toList_none, List.cons_append, List.nil_append, List.append_nil, r, a1, k1, k2, k3, c1', e1]
    · rw [if_neg c] at e4
      rw [e4]
      simp (disch := first | assumption | omega) only [B_X12_swapOf_23, B_X12_swapOf_32, B_X12_swapOf_36, B_X12_swapOf_68, B_X12_swapOf_79, B_X12_swapOf_90, not_true_eq_false, not_false_eq_true, if_true, if_false, qlk, qtk, qif_t, qif_f, qbd_some, Option.toList_some, Option.toList_none, List.cons_append, List.nil_append, List.append_nil, r, a1, k1, k2, k3, c1', e1, e2]
theorem lX12_sv {A : qMem} (hA : qNow A) : ∀ (d p : Nat) (N : qMem) (x y : Option qV), ((p + d : Nat) : Int) = A 12 10 → qMN N A →
    ∃ N' : qMem, qlim C_X12_swapOf (10, [some (qA 82), some (qI (fSv A p).2), some (qI (fSv A p).1), some (qI p), x, y], [], qH0 N) = some (some (qI (fSv A (p + d)).2), qH0 N') ∧ qMN N' A ∧ qMx N' N
  | 0, p, N, x, y, hp, u => by
    have r := u.1.1.1
    exact ⟨N, by simp (disch := first | assumption | omega) only [B_X12_swapOf_10, B_X12_swapOf_102, not_true_eq_false, not_false_eq_true, if_true, if_false, qlk, qtk, qif_t, qif_f, qbd_some, Option.toList_some, Option.toList_none, List.cons_append, List.nil_append, List.append_nil, r]; rfl, u, qMx_r⟩
  | d + 1, p, N, x, y, hp, u => by
    have r := u.1.1.1
    have h6 := hA.1.2.1
    have e1 : kadd (p : Int) 1 = ((p + 1 : Nat) : Int) := by rw [kadd_eq (by omega) (by omega)]; omega
    obtain ⟨N1, x1, a1, a2, a3⟩ := lX12_sw (p := p) (s := fSv A p) hA (by omega) ((A 12 10).toNat - (p + 1)) 0 N y (by omega) u
    obtain ⟨N2, b1, b2, b3⟩ := lX12_sv hA d (p + 1) N1 (some (qI (A 12 10))) x1 (by omega) a2
    refine ⟨N2, ?_, b2, qMx_t b3 a3⟩
    have e3 : p + (d + 1) = p + 1 + d := by omega
    rw [Nat.zero_add, Nat.add_zero] at a1
    rw [e3, ← b1, B_X12_swapOf_10, r, qif_f (by omega), B_X12_swapOf_18, e1]
    refine Eq.trans a1 ?_
    rw [B_X12_swapOf_96, e1]
    rfl
theorem sX12_swapOf {N A : qMem} (hN : qMN N A) (hA : qNow A) : ∃ N' : qMem, S_X12_swapOf [qA 82] (qH0 N) = some (some (qI (fSv A (A 12 10).toNat).2), qH0 N') ∧ qMN N' A ∧ qMx N' N := by
  have h6 := hA.1.2.1
  obtain ⟨N1, a1, a2, a3⟩ := sX12_yield0 hN hA
  obtain ⟨N2, q1, q2, q3⟩ := lX12_sv hA (A 12 10).toNat 0 N1 none none (by omega) a2
  have e0 : fSv A 0 = (fMin (fTr A) 21 30 22 4, -5) := by unfold fSv; exact rfl
  have z0 : ((0 : Nat) : Int) = 0 := rfl
  rw [Nat.zero_add, e0, z0] at q1
  refine ⟨N2, ?_, q2, qMx_t q3 a3⟩
  rw [← q1]
  simp (disch := first | assumption | omega) only [B_X12_swapOf_0, B_X12_swapOf_7, not_true_eq_false, not_false_eq_true, if_true, if_false, qlk, qtk, qif_t, qif_f, qbd_some, Option.toList_some, Option.toList_none, List.cons_append, List.nil_append, List.append_nil, E_X12_swapOf, a1]
