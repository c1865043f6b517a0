/-! is all seen so (class, reference) -/
/-- the rows seen are sound -/
def qSn (A : qMem) : Prop := (A 39 0 = 5 ∧ A 39 1 = 3) ∧ (0 ≤ A 39 3 ∧ A 39 3 ≤ 5) ∧ ∀ i : Int, 0 ≤ i → i < A 39 3 → (0 ≤ A 40 (3 * i) ∧ A 40 (3 * i) < 5) ∧ (0 ≤ A 40 (3 * i + 2) ∧ A 40 (3 * i + 2) ≤ 20)
def qSnR (N A : qMem) : Prop := N 82 37 = A 39 3 ∧ ∀ i : Int, 0 ≤ i → i < A 39 3 → N 104 i = A 40 (3 * i) ∧ N 105 i = A 40 (3 * i + 1) ∧ N 106 i = A 40 (3 * i + 2)
def qOkR (A B : qMem) (i : Int) : Prop := fMin B 21 (A 40 (3 * i + 2)).toNat 22 (A 40 (3 * i)) = A 40 (3 * i + 1)
theorem sSn_cell {A N : qMem} {i j : Int} (hS : qSn A) (r39 : N 39 = A 39) (r40 : N 40 = A 40) (i1 : 0 ≤ i) (i2 : i < A 39 3) (j1 : 0 ≤ j) (j2 : j < 3) : S_X6_cell [qA 39, qI i, qI j] (qH0 N) = some (some (qI (A 40 (3 * i + j))), qH0 N) := by
  have h5 := hS.2.1
  rw [sX6_cell3 (by rw [r39]; exact hS.1.2) i1 (by omega) j1 j2, r40]
theorem lX11_last {A N : qMem} (hS : qSn A) (r39 : N 39 = A 39) (r40 : N 40 = A 40) : ∀ (d i : Nat) (l : Int), ((i + d : Nat) : Int) = A 39 3 → (0 ≤ l ∧ l ≤ 20) → (∀ k : Int, 0 ≤ k → k < i → A 40 (3 * k + 2) ≤ l) →
    ∃ l' : Int, qlim C_X11_isAllSeenSo (4, [some (qA 0), some (qI l), some (qI i), none], [], qH0 N) = qlim C_X11_isAllSeenSo (37, [some (qA 0), some (qI l'), some (qI 0), none], [], qH0 N) ∧ (0 ≤ l' ∧ l' ≤ 20) ∧ ∀ k : Int, 0 ≤ k → k < A 39 3 → A 40 (3 * k + 2) ≤ l'
  | 0, i, l, hi, hl, hk => by
    refine ⟨l, ?_, hl, fun k a b => hk k a (by omega)⟩
    simp (disch := first | assumption | omega) only [B_X11_isAllSeenSo_4, B_X11_isAllSeenSo_35, not_true_eq_false, not_false_eq_true, if_true, if_false, qlk, qtk, qif_t, qif_f, qbd_some, Option.toList_some, Option.toList_none, List.cons_append, List.nil_append, List.append_nil, r39]
  | d + 1, i, l, hi, hl, hk => by
    have h5 := hS.2.1
    have h := (hS.2.2 i (by omega) (by omega)).2
    have e1 : kadd (i : Int) 1 = ((i + 1 : Nat) : Int) := by rw [kadd_eq (by omega) (by omega)]; omega
    have s := sSn_cell (i := i) (j := 2) hS r39 r40 (by omega) (by omega) (by omega) (by omega)
    obtain ⟨l', q1, q2⟩ := lX11_last hS r39 r40 d (i + 1) (max l (A 40 (3 * i + 2))) (by omega) (by omega) (fun k a b => by
      by_cases c : k = i
      · subst c
        omega
      · have := hk k a (by omega)
        omega)
    refine ⟨l', ?_, q2⟩
    rw [← q1]
    simp (disch := first | assumption | omega) only [B_X11_isAllSeenSo_4, B_X11_isAllSeenSo_15, B_X11_isAllSeenSo_25, not_true_eq_false, not_false_eq_true, if_true, if_false, qlk, qtk, qif_t, qif_f, qbd_some, Option.toList_some, Option.toList_none, List.cons_append, List.nil_append, List.append_nil, r39, s, e1]
theorem lX11_rows {A B : qMem} {m : Nat} {l : Int} (hA : qNow A) (hS : qSn A) (hT : qTr (fMin B 21 m) m) (u : qCu (fMin B 21 m) A) : ∀ d i : Nat, ((i + d : Nat) : Int) = A 39 3 →
    (qlim C_X11_isAllSeenSo (57, [some (qA 0), some (qI l), some (qI m), some (qI i)], [], qH0 (fMin B 21 m)) = qlim C_X11_isAllSeenSo (118, [some (qA 0), some (qI l), some (qI m), some (qI (A 39 3))], [], qH0 (fMin B 21 m)) ∧ ∀ k : Int, i ≤ k → k < A 39 3 → A 40 (3 * k + 2) = m → qOkR A B k) ∨
    (qlim C_X11_isAllSeenSo (57, [some (qA 0), some (qI l), some (qI m), some (qI i)], [], qH0 (fMin B 21 m)) = some (some (qI 0), qH0 (fMin B 21 m)) ∧ ∃ k : Int, 0 ≤ k ∧ k < A 39 3 ∧ ¬ qOkR A B k)
  | 0, i, hi => by
    have r39 := qCu_row u (a := 39) (by omega)
    have e : (i : Int) = A 39 3 := by omega
    refine Or.inl ⟨?_, fun k a b => by omega⟩
    rw [B_X11_isAllSeenSo_57, r39, qif_t (by omega), e]
  | d + 1, i, hi => by
    have r39 := qCu_row u (a := 39) (by omega)
    have r40 := qCu_row u (a := 40) (by omega)
    have h5 := hS.2.1
    have h := hS.2.2 i (by omega) (by omega)
    have e1 : kadd (i : Int) 1 = ((i + 1 : Nat) : Int) := by rw [kadd_eq (by omega) (by omega)]; omega
    have s2 := sSn_cell (i := i) (j := 2) hS r39 r40 (by omega) (by omega) (by omega) (by omega)
    have s0 := sSn_cell (i := i) (j := 0) hS r39 r40 (by omega) (by omega) (by omega) (by omega)
    have s1 := sSn_cell (i := i) (j := 1) hS r39 r40 (by omega) (by omega) (by omega) (by omega)
    have e0 : (3 : Int) * i + 0 = 3 * i := by omega
    rw [e0] at s0
    have ih := lX11_rows (l := l) hA hS hT u d (i + 1) (by omega)
    have run : ∀ x : Int, (A 40 (3 * (i : Int) + 2) = m → x = 0 → False) → True := fun _ _ => trivial
    by_cases c : A 40 (3 * (i : Int) + 2) = m
    · have em : (A 40 (3 * (i : Int) + 2)).toNat = m := by omega
      have ok : qOkR A B i ↔ fMin B 21 m 22 (A 40 (3 * i)) = A 40 (3 * i + 1) := by unfold qOkR; rw [em]
      by_cases c2 : fMin B 21 m 22 (A 40 (3 * (i : Int))) = A 40 (3 * i + 1)
      · have st : qlim C_X11_isAllSeenSo (57, [some (qA 0), some (qI l), some (qI m), some (qI i)], [], qH0 (fMin B 21 m)) = qlim C_X11_isAllSeenSo (57, [some (qA 0), some (qI l), some (qI m), some (qI ((i + 1 : Nat) : Int))], [], qH0 (fMin B 21 m)) := by
          have h1 := h.1
          generalize fMin B 21 m = C at s0 s1 s2 r39 c2 ⊢
          simp (disch := first | assumption | omega) only [B_X11_isAllSeenSo_57, B_X11_isAllSeenSo_68, B_X11_isAllSeenSo_77, B_X11_isAllSeenSo_81, B_X11_isAllSeenSo_97, B_X11_isAllSeenSo_107, B_X11_isAllSeenSo_112, not_true_eq_false, not_false_eq_true, if_true, if_false, qlk, qtk, qif_t, qif_f, qbd_some, Option.toList_some, Option.toList_none, List.cons_append, List.nil_append, List.append_nil, r39, s2, s0, s1, e1]
        rcases ih with ⟨a1, a2⟩ | ⟨a1, a2⟩
        · refine Or.inl ⟨st.trans a1, fun k b1 b2 b3 => ?_⟩
          by_cases ck : k = i
          · subst ck
            exact ok.mpr c2
          · exact a2 k (by omega) b2 b3
        · exact Or.inr ⟨st.trans a1, a2⟩
      · refine Or.inr ⟨?_, i, by omega, by omega, fun q => c2 (ok.mp q)⟩
        have h1 := h.1
        generalize fMin B 21 m = C at s0 s1 s2 r39 c2 ⊢
        simp (disch := first | assumption | omega) only [B_X11_isAllSeenSo_57, B_X11_isAllSeenSo_68, B_X11_isAllSeenSo_77, B_X11_isAllSeenSo_81, B_X11_isAllSeenSo_97, B_X11_isAllSeenSo_107, B_X11_isAllSeenSo_110, not_true_eq_false, not_false_eq_true, if_true, if_false, qlk, qtk, qif_t, qif_f, qbd_some, Option.toList_some, Option.toList_none, List.cons_append, List.nil_append, List.append_nil, r39, s2, s0, s1]
    · have st : qlim C_X11_isAllSeenSo (57, [some (qA 0), some (qI l), some (qI m), some (qI i)], [], qH0 (fMin B 21 m)) = qlim C_X11_isAllSeenSo (57, [some (qA 0), some (qI l), some (qI m), some (qI ((i + 1 : Nat) : Int))], [], qH0 (fMin B 21 m)) := by
        generalize fMin B 21 m = C at s0 s1 s2 r39 ⊢
        simp (disch := first | assumption | omega) only [B_X11_isAllSeenSo_57, B_X11_isAllSeenSo_68, B_X11_isAllSeenSo_77, B_X11_isAllSeenSo_112, not_true_eq_false, not_false_eq_true, if_true, if_false, qlk, qtk, qif_t, qif_f, qbd_some, Option.toList_some, Option.toList_none, List.cons_append, List.nil_append, List.append_nil, r39, s2, e1]
      rcases ih with ⟨a1, a2⟩ | ⟨a1, a2⟩
      · refine Or.inl ⟨st.trans a1, fun k b1 b2 b3 => ?_⟩
        by_cases ck : k = i
        · subst ck
          exact absurd b3 c
        · exact a2 k (by omega) b2 b3
      · exact Or.inr ⟨st.trans a1, a2⟩
theorem lX11_seen {A B : qMem} {l : Int} (hA : qNow A) (hS : qSn A) (hB : qTr B 0) (u : qCu B A) (hl : 0 ≤ l ∧ l ≤ 20) (hlast : ∀ k : Int, 0 ≤ k → k < A 39 3 → A 40 (3 * k + 2) ≤ l) : ∀ (d m : Nat) (x : Option qV), ((m + d : Nat) : Int) = l + 1 →
    ∃ (N' : qMem) (v : Int), qlim C_X11_isAllSeenSo (37, [some (qA 0), some (qI l), some (qI m), x], [], qH0 (fMin B 21 (m - 1))) = some (some (qI v), qH0 N') ∧ qCu N' A ∧
      ((v = 1 ∧ ∀ k : Int, 0 ≤ k → k < A 39 3 → m ≤ A 40 (3 * k + 2) → qOkR A B k) ∨ (v = 0 ∧ ∃ k : Int, 0 ≤ k ∧ k < A 39 3 ∧ ¬ qOkR A B k))
  | 0, m, x, hm => by
    have uu := qCu_t (fMin_x hB (m - 1) (by omega)) u
    refine ⟨fMin B 21 (m - 1), 1, ?_, uu, Or.inl ⟨rfl, fun k a b c => ?_⟩⟩
    · rw [B_X11_isAllSeenSo_37, qif_t (by omega), B_X11_isAllSeenSo_124]
    · have := hlast k a b
      omega
  | d + 1, m, x, hm => by
    have uu := qCu_t (fMin_x hB m (by omega)) u
    have hT := fMin_T hB m (by omega)
    have e00 : (0 : Int) + (m : Int) = m := by omega
    rw [e00] at hT
    have e1 : kadd (m : Int) 1 = ((m + 1 : Nat) : Int) := by rw [kadd_eq (by omega) (by omega)]; omega
    have st : qlim C_X11_isAllSeenSo (37, [some (qA 0), some (qI l), some (qI m), x], [], qH0 (fMin B 21 (m - 1))) = qlim C_X11_isAllSeenSo (57, [some (qA 0), some (qI l), some (qI m), some (qI ((0 : Nat) : Int))], [], qH0 (fMin B 21 m)) := by
      cases m with
      | zero =>
        rw [B_X11_isAllSeenSo_37, qif_f (by omega), B_X11_isAllSeenSo_42, qif_t (by omega), B_X11_isAllSeenSo_55]
        rfl
      | succ j =>
        have hj := fMin_T hB j (by omega)
        have s : S_X8_minutesGo [qA 21, qI 1] (qH0 (fMin B 21 j)) = some (some (qI (fMin (fMin B 21 j) 21 1 22 4)), qH0 (fMin B 21 (j + 1))) := sT_minutesGo (n := 1) hj (by omega) (by omega) (by omega)
        have ej : j + 1 - 1 = j := by omega
        rw [ej, B_X11_isAllSeenSo_37, qif_f (by omega), B_X11_isAllSeenSo_42, qif_f (by omega), B_X11_isAllSeenSo_46, s, qbd_some]
        show qlim C_X11_isAllSeenSo (54, [some (qA 0), some (qI l), some (qI ((j + 1 : Nat) : Int)), x], [qI (fMin (fMin B 21 j) 21 1 22 4)], qH0 (fMin B 21 (j + 1))) = _
        rw [B_X11_isAllSeenSo_54, B_X11_isAllSeenSo_55]
        rfl
    rcases lX11_rows (l := l) hA hS hT uu (A 39 3).toNat 0 (by have := hS.2.1; omega) with ⟨a1, a2⟩ | ⟨a1, a2⟩
    · obtain ⟨N', v, q1, q2, q3⟩ := lX11_seen hA hS hB u hl hlast d (m + 1) (some (qI (A 39 3))) (by omega)
      have em : m + 1 - 1 = m := by omega
      rw [em] at q1
      refine ⟨N', v, ?_, q2, ?_⟩
      · rw [st, a1, B_X11_isAllSeenSo_118, e1]
        exact q1
      · rcases q3 with ⟨c1, c2⟩ | q3
        · refine Or.inl ⟨c1, fun k b1 b2 b3 => ?_⟩
          by_cases c : A 40 (3 * k + 2) = m
          · exact a2 k (by omega) b2 c
          · exact c2 k b1 b2 (by omega)
        · exact Or.inr q3
    · exact ⟨fMin B 21 m, 0, st.trans a1, uu, Or.inr ⟨rfl, a2⟩⟩
theorem sX11_isAllSeenSo {A B : qMem} (hA : qNow A) (hS : qSn A) (hB : qTr B 0) (u : qCu B A) : ∃ (N' : qMem) (v : Int), S_X11_isAllSeenSo [qA 0] (qH0 B) = some (some (qI v), qH0 N') ∧ qCu N' A ∧
    ((v = 1 ∧ ∀ k : Int, 0 ≤ k → k < A 39 3 → qOkR A B k) ∨ (v = 0 ∧ ∃ k : Int, 0 ≤ k ∧ k < A 39 3 ∧ ¬ qOkR A B k)) := by
  have h5 := hS.2.1
  obtain ⟨l, a1, a2, a3⟩ := lX11_last (N := B) hS (qCu_row u (by omega)) (qCu_row u (by omega)) (A 39 3).toNat 0 0 (by omega) (by omega) (fun k a b => by omega)
  obtain ⟨N', v, q1, q2, q3⟩ := lX11_seen hA hS hB u a2 a3 (l + 1).toNat 0 none (by omega)
  refine ⟨N', v, ?_, q2, ?_⟩
  · rw [E_X11_isAllSeenSo, B_X11_isAllSeenSo_0]
    exact a1.trans q1
  · rcases q3 with ⟨c1, c2⟩ | q3
    · exact Or.inl ⟨c1, fun k b1 b2 => c2 k b1 b2 (by have := (hS.2.2 k b1 b2).2; omega)⟩
    · exact Or.inr q3
