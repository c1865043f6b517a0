/-! were, can (class, reference) -/
noncomputable def fSb (A B : qMem) : Int := @ite Int (∀ k : Int, 0 ≤ k → k < A 39 3 → qOkR A B k) (Classical.propDecidable _) 1 0
theorem fSb_of {A B : qMem} {v : Int} (h : (v = 1 ∧ ∀ k : Int, 0 ≤ k → k < A 39 3 → qOkR A B k) ∨ (v = 0 ∧ ∃ k : Int, 0 ≤ k ∧ k < A 39 3 ∧ ¬ qOkR A B k)) : v = fSb A B := by
  unfold fSb
  rcases h with ⟨rfl, h⟩ | ⟨rfl, k, a, b, c⟩
  · exact (if_pos h).symm
  · exact (if_neg (fun q => c (q k a b))).symm
theorem fSb_01 {A B : qMem} : fSb A B = 0 ∨ fSb A B = 1 := by
  unfold fSb
  by_cases h : ∀ k : Int, 0 ≤ k → k < A 39 3 → qOkR A B k
  · exact Or.inr (if_pos h)
  · exact Or.inl (if_neg h)
def fU (P : Nat → Int) : Nat → Int × Int
  | 0 => (0, -5)
  | n + 1 => if P n = 0 then fU P n else ((fU P n).1 + 1, if (fU P n).1 = 0 then n else (fU P n).2)
theorem fU_lo {P : Nat → Int} : ∀ n : Nat, 0 ≤ (fU P n).1 ∧ (fU P n).1 ≤ n
  | 0 => ⟨Int.le_refl _, Int.le_refl _⟩
  | n + 1 => by
    have ih := fU_lo (P := P) n
    unfold fU
    split
    · omega
    · dsimp only
      omega
theorem qSV_heap {M : qMem} {o j h n : Int} (hV : qSV M o j) (hn : 0 ≤ n ∧ n ≤ 9999) : qSV (qup M (o + 1) h n) o j := by
  refine ⟨by rw [qup_ne (by omega)]; exact hV.1, fun k a b => ?_, ?_⟩
  · by_cases c : k = h
    · subst c
      rw [qup_self]
      exact hn
    · rw [qup_ne (by omega)]
      exact hV.2.1 k a b
  · rw [qup_row (by omega), qup_row (by omega), qup_row (by omega)]
    exact hV.2.2
theorem qSF_heap {M : qMem} {o h n : Int} (hF : qSF M o) : qSF (qup M (o + 1) h n) o :=
  qSF_up (c := 1) hF (by omega) (by omega) (by omega) (by omega) (by omega) (by omega)
/-- what is tried: a heap (13) or a v (15) -/
def qTy (A : qMem) (c h n : Int) : Prop := (c = 13 ∧ (0 ≤ h ∧ h < 5) ∧ (0 ≤ n ∧ n ≤ 9999)) ∨ (c = 15 ∧ (0 ≤ h ∧ h < 6) ∧ (0 ≤ n ∧ n ≤ 9))
theorem qTr_y {A : qMem} {c h n : Int} (hA : qNow A) (hy : qTy A c h n) : qTr (qup (fTr A) (c + 9) h n) 0 := by
  have T := fTr_T hA
  rcases hy with ⟨rfl, h1, h2⟩ | ⟨rfl, h1, h2⟩
  · exact ⟨qSF_heap (o := 21) T.1, qSV_heap (o := 21) T.2.1 h2, by rw [qup_ne (by omega)]; exact T.2.2.1, by rw [qup_ne (by omega)]; exact T.2.2.2⟩
  · exact ⟨qSF_up (o := 21) (c := 3) T.1 (by omega) (fun _ => h2) (by omega) (by omega) (by omega) (by omega), qSV_row T.2.1 (qup_ne (by omega)) (qup_ne (by omega)) (qup_row (by omega)) (qup_row (by omega)) (qup_row (by omega)), by rw [qup_ne (by omega)]; exact T.2.2.1, by rw [qup_ne (by omega)]; exact T.2.2.2⟩
theorem qNow_y {A : qMem} {c h n : Int} (hA : qNow A) (hy : qTy A c h n) : qNow (qup A c h n) := by
  obtain ⟨a1, a2, a3, a4, a5⟩ := hA
  rcases hy with ⟨rfl, h1, h2⟩ | ⟨rfl, h1, h2⟩
  · exact ⟨qSF_heap (o := 12) a1, qSV_heap (o := 12) a2 h2, by rw [qup_ne (by omega)]; exact a3, by rw [qup_ne (by omega)]; exact a4, by rw [qup_ne (by omega)]; exact a5⟩
  · exact ⟨qSF_up (o := 12) (c := 3) a1 (by omega) (fun _ => h2) (by omega) (by omega) (by omega) (by omega), qSV_row a2 (qup_ne (by omega)) (qup_ne (by omega)) (qup_row (by omega)) (qup_row (by omega)) (qup_row (by omega)), by rw [qup_ne (by omega)]; exact a3, by rw [qup_ne (by omega)]; exact a4, by rw [qup_ne (by omega)]; exact a5⟩
theorem qCu_y {A : qMem} {c h n : Int} (hy : qTy A c h n) : qCu (qup (fTr A) (c + 9) h n) A := by
  refine qCu_t (qCu_up ?_) fTr_x
  unfold qIn
  unfold qTy at hy
  omega
theorem qTs1_y {A : qMem} {c h n : Int} (hA : qNow A) (hy : qTy A c h n) : qTs1 (qup A c h n) (qup (fTr A) (c + 9) h n) := by
  have hg := hA.1.2.2.2.2.2.2.1
  unfold qHl at hg
  have hc : c = 13 ∨ c = 15 := by
    unfold qTy at hy
    omega
  have E1 := fTr_E (A := A)
  have E2 := fTr_E (A := qup A c h n)
  have e13 : qup A c h n 12 13 = A 12 13 := qup_ne (by omega)
  unfold qTs1
  rw [e13]
  refine ⟨⟨?_, fun k a b => ?_, fun p a b => ?_, fun k a b => ?_⟩, ?_, ?_⟩
  · obtain ⟨x1, x2, x3, x4⟩ := E1.1
    obtain ⟨y1, y2, y3, y4⟩ := E2.1
    rw [y1, y2, y3, y4, qup_ne (by omega), qup_ne (by omega), qup_ne (by omega), qup_ne (by omega), qup_ne (by omega), qup_ne (by omega), qup_ne (by omega), qup_ne (by omega)]
    exact ⟨x1, x2, x3, x4⟩
  · have x := E1.2.1 k a b
    have y := E2.2.1 k a b
    rw [y]
    by_cases d : c = 13 ∧ k = h
    · obtain ⟨rfl, rfl⟩ := d
      exact qup_self.trans qup_self.symm
    · rw [qup_ne (by omega), qup_ne (by omega)]
      exact x
  · have x := E1.2.2.1 p a b
    have y := E2.2.2.1 p a b
    refine ⟨?_, ?_, ?_, ?_, ?_, ?_⟩
    · rw [y.1, qup_ne (by omega), qup_ne (by omega)]
      exact x.1
    · rw [y.2.1]
      by_cases d : c = 15 ∧ p = h
      · obtain ⟨rfl, rfl⟩ := d
        exact qup_self.trans qup_self.symm
      · rw [qup_ne (by omega), qup_ne (by omega)]
        exact x.2.1
    · rw [y.2.2.1, qup_ne (by omega), qup_ne (by omega)]
      exact x.2.2.1
    · rw [y.2.2.2.1, qup_ne (by omega), qup_ne (by omega)]
      exact x.2.2.2.1
    · rw [y.2.2.2.2.1, qup_ne (by omega), qup_ne (by omega)]
      exact x.2.2.2.2.1
    · rw [y.2.2.2.2.2, qup_ne (by omega), qup_ne (by omega)]
      exact x.2.2.2.2.2
  · have x := E1.2.2.2 k a b
    have y := E2.2.2.2 k a b
    rw [y, qup_ne (by omega), qup_ne (by omega)]
    exact x
  · have r1 : fTr (qup A c h n) (A 12 13) = qup A c h n (A 12 13) := qCu_row fTr_x (by omega)
    have r2 : fTr A (A 12 13) = A (A 12 13) := qCu_row fTr_x (by omega)
    rw [r1, qup_row (by omega), qup_row (by omega), r2]
  · have r1 : fTr (qup A c h n) (A 12 13 + 2) = qup A c h n (A 12 13 + 2) := qCu_row fTr_x (by omega)
    have r2 : fTr A (A 12 13 + 2) = A (A 12 13 + 2) := qCu_row fTr_x (by omega)
    rw [r1, qup_row (by omega), qup_row (by omega), r2]
noncomputable def fP (A : qMem) (c h : Int) (n : Nat) : Int := fSb A (qup (fTr A) (c + 9) h n)
theorem lX11_fit {A : qMem} {c h w : Int} {most sz : Nat} (hA : qNow A) (hS : qSn A) (hm : most ≤ 50) (hsz : ∀ B : qMem, qty (qH0 B) (c + 9) = (100, sz)) (h0 : 0 ≤ h) (h1 : h < sz) (hy : ∀ n : Nat, n ≤ most → qTy A c h n) : ∀ (d n : Nat) (N : qMem), n + d = most + 1 → qCu N A →
    ∃ N' : qMem, qlim C_X11_fitting (10, [some (qA 0), some (qA (c + 9)), some (qI h), some (qI most), some (qI w), some (qI (fU (fP A c h) n).1), some (qI (fU (fP A c h) n).2), some (qI n)], [], qH0 N) = some (some (qI (if w = 0 then (fU (fP A c h) (most + 1)).1 else (fU (fP A c h) (most + 1)).2)), qH0 N') ∧ qCu N' A
  | 0, n, N, hn, u => by
    have e : n = most + 1 := by omega
    subst e
    refine ⟨N, ?_, u⟩
    by_cases cw : w = 0
    · rw [if_pos cw]
      simp (disch := first | assumption | omega) only [B_X11_fitting_10, B_X11_fitting_57, B_X11_fitting_62, B_X11_fitting_69, not_true_eq_false, not_false_eq_true, if_true, if_false, qlk, qtk, qif_t, qif_f, qbd_some, Option.toList_some, Option.toList_none, List.cons_append, List.nil_append, List.append_nil]
    · rw [if_neg cw]
      simp (disch := first | assumption | omega) only [B_X11_fitting_10, B_X11_fitting_57, B_X11_fitting_67, B_X11_fitting_69, not_true_eq_false, not_false_eq_true, if_true, if_false, qlk, qtk, qif_t, qif_f, qbd_some, Option.toList_some, Option.toList_none, List.cons_append, List.nil_append, List.append_nil]
  | d + 1, n, N, hn, u => by
    have e1 : kadd (n : Int) 1 = ((n + 1 : Nat) : Int) := by rw [kadd_eq (by omega) (by omega)]; omega
    have hl := fU_lo (P := fP A c h) n
    have e2 : kadd (fU (fP A c h) n).1 1 = (fU (fP A c h) n).1 + 1 := kadd_eq (by omega) (by omega)
    have s1 := sT_bec hA u
    have y := hy n (by omega)
    obtain ⟨N1, v, a1, a2, a3⟩ := sX11_isAllSeenSo hA hS (qTr_y hA y) (qCu_y y)
    have hv : v = fP A c h n := fSb_of a3
    obtain ⟨N', q1, q2⟩ := lX11_fit (w := w) hA hS hm hsz h0 h1 hy d (n + 1) N1 (by omega) a2
    refine ⟨N', ?_, q2⟩
    rw [← q1, B_X11_fitting_10, qif_f (by omega), B_X11_fitting_16, s1, qbd_some]
    show qlim C_X11_fitting (27, [some (qA 0), some (qA (c + 9)), some (qI h), some (qI most), some (qI w), some (qI (fU (fP A c h) n).1), some (qI (fU (fP A c h) n).2), some (qI n)], [], qH0 (fTr A)) = _
    rw [B_X11_fitting_27 (hsz _) h0 h1, a1, qbd_some]
    have e4 : fU (fP A c h) (n + 1) = if fP A c h n = 0 then fU (fP A c h) n else ((fU (fP A c h) n).1 + 1, if (fU (fP A c h) n).1 = 0 then (n : Int) else (fU (fP A c h) n).2) := rfl
    by_cases c1 : v = 0
    · rw [if_pos (hv.symm.trans c1)] at e4
      rw [e4]
      simp (disch := first | assumption | omega) only [B_X11_fitting_36, B_X11_fitting_51, not_true_eq_false, not_false_eq_true, if_true, if_false, qlk, qtk, qif_t, qif_f, qbd_some, Option.toList_some, Option.toList_none, List.cons_append, List.nil_append, List.append_nil, e1]
    · rw [if_neg (fun q => c1 (hv.trans q))] at e4
      rw [e4]
      by_cases c2 : (fU (fP A c h) n).1 = 0
      · rw [if_pos c2]
        simp (disch := first | assumption | omega) only [B_X11_fitting_36, B_X11_fitting_39, B_X11_fitting_44, B_X11_fitting_48, B_X11_fitting_51, not_true_eq_false, not_false_eq_true, if_true, if_false, qlk, qtk, qif_t, qif_f, qbd_some, Option.toList_some, Option.toList_none, List.cons_append, List.nil_append, List.append_nil, e1, e2]
      · rw [if_neg c2]
        simp (disch := first | assumption | omega) only [B_X11_fitting_36, B_X11_fitting_39, B_X11_fitting_48, B_X11_fitting_51, not_true_eq_false, not_false_eq_true, if_true, if_false, qlk, qtk, qif_t, qif_f, qbd_some, Option.toList_some, Option.toList_none, List.cons_append, List.nil_append, List.append_nil, e1, e2]
theorem fU_z {P : Nat → Int} : ∀ n : Nat, (fU P n).1 = 0 → (fU P n).2 = -5
  | 0, _ => rfl
  | n + 1, h => by
    have hl := fU_lo (P := P) n
    have ih := fU_z (P := P) n
    unfold fU at h ⊢
    split at h
    · rename_i c
      rw [if_pos c]
      exact ih h
    · dsimp only at h
      omega
noncomputable def fUv (A : qMem) (c h w : Int) (m : Nat) : Int := if w = 0 then (fU (fP A c h) m).1 else (fU (fP A c h) m).2
theorem fU_hi {P : Nat → Int} : ∀ n : Nat, -5 ≤ (fU P n).2 ∧ (fU P n).2 ≤ n
  | 0 => ⟨Int.le_refl _, by show (-5 : Int) ≤ 0; omega⟩
  | n + 1 => by
    have ih := fU_hi (P := P) n
    unfold fU
    split
    · omega
    · dsimp only
      split <;> omega
theorem sX11_were {A : qMem} {h w : Int} (hA : qNow A) (hS : qSn A) (h0 : 0 ≤ h) (h1 : h < 5) (hw : 0 ≤ w ∧ w ≤ 1) : ∃ N' : qMem, S_X11_were [qA 0, qI h, qI w] (qH0 A) = some (some (qI (fUv A 13 h w 41)), qH0 N') ∧ qCu N' A := by
  obtain ⟨N', q1, q2⟩ := lX11_fit (c := 13) (h := h) (w := w) (most := 40) (sz := 5) hA hS (by omega) (fun _ => rfl) h0 (by omega) (fun n hn => Or.inl ⟨rfl, ⟨h0, h1⟩, by omega⟩) 41 0 A (by omega) qCu_r
  have s : S_X11_fitting [qA 0, qA 22, qI h, qI 40, qI w] (qH0 A) = some (some (qI (fUv A 13 h w 41)), qH0 N') := by
    rw [E_X11_fitting, B_X11_fitting_0]
    exact q1
  refine ⟨N', ?_, q2⟩
  simp (disch := first | assumption | omega) only [E_X11_were, B_X11_were_0, B_X11_were_4, B_X11_were_7, B_X11_were_12, B_X11_were_15, B_X11_were_17, B_X11_were_32, not_true_eq_false, not_false_eq_true, if_true, if_false, qlk, qtk, qif_t, qif_f, qbd_some, Option.toList_some, Option.toList_none, List.cons_append, List.nil_append, List.append_nil, sX11_isHeap_y, sX11_isIn_y, s]
theorem sX11_were_n {A : qMem} {h w : Int} (hb : ¬ ((0 ≤ h ∧ h < 5) ∧ (0 ≤ w ∧ w ≤ 1))) : S_X11_were [qA 0, qI h, qI w] (qH0 A) = some (some (qI (-1)), qH0 A) := by
  by_cases c : 0 ≤ h ∧ h < 5
  · have c2 : ¬ (0 ≤ w ∧ w ≤ 1) := fun q => hb ⟨c, q⟩
    simp (disch := first | assumption | omega) only [E_X11_were, B_X11_were_0, B_X11_were_4, B_X11_were_7, B_X11_were_12, B_X11_were_15, B_X11_were_17, B_X11_were_32, not_true_eq_false, not_false_eq_true, if_true, if_false, qlk, qtk, qif_t, qif_f, qbd_some, Option.toList_some, Option.toList_none, List.cons_append, List.nil_append, List.append_nil, sX11_isHeap_y, sX11_isIn_n]
  · simp (disch := first | assumption | omega) only [E_X11_were, B_X11_were_0, B_X11_were_4, B_X11_were_7, B_X11_were_12, B_X11_were_15, B_X11_were_17, B_X11_were_32, not_true_eq_false, not_false_eq_true, if_true, if_false, qlk, qtk, qif_t, qif_f, qbd_some, Option.toList_some, Option.toList_none, List.cons_append, List.nil_append, List.append_nil, sX11_isHeap_n]
theorem sX11_can {A : qMem} {h w : Int} (hA : qNow A) (hS : qSn A) (h0 : 0 ≤ h) (h1 : h < A 12 10) (hw : 0 ≤ w ∧ w ≤ 1) : ∃ N' : qMem, S_X11_can [qA 0, qI h, qI w] (qH0 A) = some (some (qI (fUv A 15 h w 10)), qH0 N') ∧ qCu N' A := by
  have hp := hA.1.2.1
  obtain ⟨N', q1, q2⟩ := lX11_fit (c := 15) (h := h) (w := w) (most := 9) (sz := 6) hA hS (by omega) (fun _ => rfl) h0 (by omega) (fun n hn => Or.inr ⟨rfl, ⟨h0, by omega⟩, by omega⟩) 10 0 A (by omega) qCu_r
  have s : S_X11_fitting [qA 0, qA 24, qI h, qI 9, qI w] (qH0 A) = some (some (qI (fUv A 15 h w 10)), qH0 N') := by
    rw [E_X11_fitting, B_X11_fitting_0]
    exact q1
  refine ⟨N', ?_, q2⟩
  simp (disch := first | assumption | omega) only [E_X11_can, B_X11_can_0, B_X11_can_5, B_X11_can_8, B_X11_can_13, B_X11_can_16, B_X11_can_18, B_X11_can_33, not_true_eq_false, not_false_eq_true, if_true, if_false, qlk, qtk, qif_t, qif_f, qbd_some, Option.toList_some, Option.toList_none, List.cons_append, List.nil_append, List.append_nil, sX11_isPerson_y, sX11_isIn_y, s]
theorem sX11_can_n {A : qMem} {h w : Int} (hb : ¬ ((0 ≤ h ∧ h < A 12 10) ∧ (0 ≤ w ∧ w ≤ 1))) : S_X11_can [qA 0, qI h, qI w] (qH0 A) = some (some (qI (-1)), qH0 A) := by
  by_cases c : 0 ≤ h ∧ h < A 12 10
  · have c2 : ¬ (0 ≤ w ∧ w ≤ 1) := fun q => hb ⟨c, q⟩
    simp (disch := first | assumption | omega) only [E_X11_can, B_X11_can_0, B_X11_can_5, B_X11_can_8, B_X11_can_13, B_X11_can_16, B_X11_can_18, B_X11_can_33, not_true_eq_false, not_false_eq_true, if_true, if_false, qlk, qtk, qif_t, qif_f, qbd_some, Option.toList_some, Option.toList_none, List.cons_append, List.nil_append, List.append_nil, sX11_isPerson_y, sX11_isIn_n]
  · simp (disch := first | assumption | omega) only [E_X11_can, B_X11_can_0, B_X11_can_5, B_X11_can_8, B_X11_can_13, B_X11_can_16, B_X11_can_18, B_X11_can_33, not_true_eq_false, not_false_eq_true, if_true, if_false, qlk, qtk, qif_t, qif_f, qbd_some, Option.toList_some, Option.toList_none, List.cons_append, List.nil_append, List.append_nil, sX11_isPerson_n]
