/-! the reference keeps and puts back -/
theorem qRS_E {M A B : qMem} {o o2 : Int} (h : qRS M A o) (he : qSE B o2 A o) (g1 : B (A o 13) = A (A o 13)) (g2 : B (A o 13 + 2) = A (A o 13 + 2)) : qRS M B o2 := by
  obtain ⟨⟨h10, h11, h12, h13⟩, h1, hp, h7⟩ := he
  unfold qRS
  rw [h10, h11, h12, h13, g1]
  refine ⟨h.1, h.2.1, fun k a b => by rw [h1 k a b]; exact h.2.2.1 k a b, fun p a b => ?_, fun k a b => by rw [h7 k a b]; exact h.2.2.2.2.1 k a b, qHS_rowA h.2.2.2.2.2.1 g1 g2, h.2.2.2.2.2.2⟩
  have q := hp p a b
  rw [q.1, q.2.1, q.2.2.1, q.2.2.2.1, q.2.2.2.2.1, q.2.2.2.2.2]
  exact h.2.2.2.1 p a b
/-- what the reference has kept is the state now -/
def qKept (M A : qMem) : Prop := (M 82 0 = A 12 10 ∧ M 82 31 = A 12 11) ∧ (0 ≤ M 82 32 ∧ M 82 32 < 64) ∧ (∀ k : Int, 0 ≤ k → k < 5 → M 100 k = A 13 k) ∧
  (∀ p : Int, 0 ≤ p → p < 6 → M 84 p = A 14 p ∧ M 85 p = A 15 p ∧ M 101 p = A 16 p ∧ M 102 p = A 17 p ∧ M 103 p = A 18 p ∧ qBit (M 82 32) p = A 20 p) ∧
  (∀ k : Int, 0 ≤ k → k < 24 → M 89 k = A 19 k) ∧ qHS M A (A 12 13) ∧ A 12 12 = A (A 12 13) 4
/-- but for what a trial changes alike -/
def qTf (N M : qMem) : Prop := (∀ a : Int, ¬ a = 82 → ¬ a = 83 → ¬ a = 86 → ¬ a = 87 → ¬ a = 88 → ¬ a = 99 → N a = M a) ∧ (∀ k : Int, ¬ k = 1 → ¬ k = 2 → ¬ k = 27 → ¬ k = 29 → ¬ k = 30 → N 82 k = M 82 k)
theorem qTf_r {M : qMem} : qTf M M := ⟨fun _ _ _ _ _ _ _ => rfl, fun _ _ _ _ _ _ => rfl⟩
theorem qTf_t {L N M : qMem} (h1 : qTf L N) (h2 : qTf N M) : qTf L M := ⟨fun a b c d e f g => (h1.1 a b c d e f g).trans (h2.1 a b c d e f g), fun k a b c d e => (h1.2 k a b c d e).trans (h2.2 k a b c d e)⟩
theorem qTf_m {N M : qMem} (h : qMf N M) : qTf N M := ⟨fun a b c _ e f g => h.1 a b c e f g, fun k a _ _ _ _ => h.2 k a⟩
theorem qKept_f {M N A : qMem} (h : qKept M A) (f : qTf N M) : qKept N A := by
  have hS := qHS_row h.2.2.2.2.2.1 (f.2 11 (by omega) (by omega) (by omega) (by omega) (by omega)) (f.1 91 (by omega) (by omega) (by omega) (by omega) (by omega) (by omega)) (f.1 92 (by omega) (by omega) (by omega) (by omega) (by omega) (by omega)) (f.1 93 (by omega) (by omega) (by omega) (by omega) (by omega) (by omega)) (f.1 94 (by omega) (by omega) (by omega) (by omega) (by omega) (by omega)) (f.1 95 (by omega) (by omega) (by omega) (by omega) (by omega) (by omega)) (f.1 96 (by omega) (by omega) (by omega) (by omega) (by omega) (by omega))
  unfold qKept
  rw [f.2 0 (by omega) (by omega) (by omega) (by omega) (by omega), f.2 31 (by omega) (by omega) (by omega) (by omega) (by omega), f.2 32 (by omega) (by omega) (by omega) (by omega) (by omega), f.1 100 (by omega) (by omega) (by omega) (by omega) (by omega) (by omega), f.1 84 (by omega) (by omega) (by omega) (by omega) (by omega) (by omega), f.1 85 (by omega) (by omega) (by omega) (by omega) (by omega) (by omega), f.1 101 (by omega) (by omega) (by omega) (by omega) (by omega) (by omega), f.1 102 (by omega) (by omega) (by omega) (by omega) (by omega) (by omega), f.1 103 (by omega) (by omega) (by omega) (by omega) (by omega) (by omega), f.1 89 (by omega) (by omega) (by omega) (by omega) (by omega) (by omega)]
  exact ⟨h.1, h.2.1, h.2.2.1, h.2.2.2.1, h.2.2.2.2.1, hS, h.2.2.2.2.2.2⟩
theorem lS1 {M : qMem} : ∀ (d k : Nat) (N : qMem), k + d = 5 → (∀ j : Int, 0 ≤ j → j < k → N 100 j = M 83 j) → (∀ a : Int, ¬ a = 100 → N a = M a) →
    ∃ N', qlim C_X12_save (32, [some (qA 82), some (qI k)], [], qH0 N) = qlim C_X12_save (57, [some (qA 82), some (qI 0)], [], qH0 N') ∧ (∀ j : Int, 0 ≤ j → j < 5 → N' 100 j = M 83 j) ∧ (∀ a : Int, ¬ a = 100 → N' a = M a)
  | 0, k, N, hk, h1, h2 => ⟨N, by simp (disch := first | assumption | omega) only [B_X12_save_32, B_X12_save_55, not_true_eq_false, not_false_eq_true, if_true, if_false, qlk, qtk, qif_t, qif_f, qbd_some, Option.toList_some, Option.toList_none, List.cons_append, List.nil_append, List.append_nil], fun j a b => h1 j a (by omega), h2⟩
  | d + 1, k, N, hk, h1, h2 => by
    have e1 : kadd (k : Int) 1 = ((k + 1 : Nat) : Int) := by rw [kadd_eq (by omega) (by omega)]; omega
    obtain ⟨N', q1, q2⟩ := lS1 d (k + 1) (qup N 100 k (N 83 k)) (by omega) (fun j a b => by
      by_cases c : j = k
      · subst c
        rw [qup_self, h2 83 (by omega)]
      · rw [qup_ne (by omega)]
        exact h1 j a (by omega)) (fun a ha => by rw [qup_row ha]; exact h2 a ha)
    refine ⟨N', ?_, q2⟩
    rw [← q1]
    simp (disch := first | assumption | omega) only [B_X12_save_32, B_X12_save_37, not_true_eq_false, not_false_eq_true, if_true, if_false, qlk, qtk, qif_t, qif_f, qbd_some, Option.toList_some, Option.toList_none, List.cons_append, List.nil_append, List.append_nil, e1]
theorem lS2 {M : qMem} : ∀ (d k : Nat) (N : qMem), k + d = 6 → (∀ j : Int, 0 ≤ j → j < k → N 101 j = M 86 j ∧ N 102 j = M 87 j ∧ N 103 j = M 88 j) → (∀ a : Int, ¬ a = 101 → ¬ a = 102 → ¬ a = 103 → N a = M a) →
    ∃ N', qlim C_X12_save (57, [some (qA 82), some (qI k)], [], qH0 N) = some (none, qH0 N') ∧ (∀ j : Int, 0 ≤ j → j < 6 → N' 101 j = M 86 j ∧ N' 102 j = M 87 j ∧ N' 103 j = M 88 j) ∧ (∀ a : Int, ¬ a = 101 → ¬ a = 102 → ¬ a = 103 → N' a = M a)
  | 0, k, N, hk, h1, h2 => ⟨N, by simp (disch := first | assumption | omega) only [B_X12_save_57, B_X12_save_105, not_true_eq_false, not_false_eq_true, if_true, if_false, qlk, qtk, qif_t, qif_f, qbd_some, Option.toList_some, Option.toList_none, List.cons_append, List.nil_append, List.append_nil], fun j a b => h1 j a (by omega), h2⟩
  | d + 1, k, N, hk, h1, h2 => by
    have e1 : kadd (k : Int) 1 = ((k + 1 : Nat) : Int) := by rw [kadd_eq (by omega) (by omega)]; omega
    have f1 : N 86 = M 86 := h2 86 (by omega) (by omega) (by omega)
    have f2 : N 87 = M 87 := h2 87 (by omega) (by omega) (by omega)
    have f3 : N 88 = M 88 := h2 88 (by omega) (by omega) (by omega)
    obtain ⟨N', q1, q2⟩ := lS2 d (k + 1) (qup (qup (qup N 101 k (M 86 k)) 102 k (M 87 k)) 103 k (M 88 k)) (by omega) (fun j a b => by
      by_cases c : j = k
      · subst c
        refine ⟨?_, ?_, ?_⟩
        · rw [qup_ne (by omega), qup_ne (by omega), qup_self]
        · rw [qup_ne (by omega), qup_self]
        · rw [qup_self]
      · have := h1 j a (by omega)
        refine ⟨?_, ?_, ?_⟩
        · rw [qup_ne (by omega), qup_ne (by omega), qup_ne (by omega)]
          exact this.1
        · rw [qup_ne (by omega), qup_ne (by omega), qup_ne (by omega)]
          exact this.2.1
        · rw [qup_ne (by omega), qup_ne (by omega), qup_ne (by omega)]
          exact this.2.2) (fun a a1 a2 a3 => by rw [qup_row a3, qup_row a2, qup_row a1]; exact h2 a a1 a2 a3)
    refine ⟨N', ?_, q2⟩
    rw [← q1]
    simp (disch := first | assumption | omega) only [B_X12_save_57, B_X12_save_63, qup_self, qup_ne, not_true_eq_false, not_false_eq_true, if_true, if_false, qlk, qtk, qif_t, qif_f, qbd_some, Option.toList_some, Option.toList_none, List.cons_append, List.nil_append, List.append_nil, e1, f1, f2, f3]
theorem sX12_save {M A : qMem} (h : qRS M A 12) (h27 : M 82 27 = -1) : ∃ N, S_X12_save [qA 82] (qH0 M) = some (none, qH0 N) ∧ qRS N A 12 ∧ qKept N A ∧ N 82 29 = 2000000000 ∧ N 82 30 = 2000000000 ∧
    (∀ a : Int, ¬ a = 82 → ¬ a = 100 → ¬ a = 101 → ¬ a = 102 → ¬ a = 103 → N a = M a) ∧ (∀ k : Int, ¬ k = 29 → ¬ k = 30 → ¬ k = 31 → ¬ k = 32 → N 82 k = M 82 k) := by
  obtain ⟨N1, q1, q2, q3⟩ := lS1 (M := qup (qup (qup (qup M 82 29 2000000000) 82 30 2000000000) 82 31 (M 82 1)) 82 32 (M 82 2)) 5 0 _ (by omega) (fun j a b => by omega) (fun a _ => rfl)
  obtain ⟨N, r1, r2, r3⟩ := lS2 (M := N1) 6 0 _ (by omega) (fun j a b => by omega) (fun a _ _ _ => rfl)
  have f : ∀ a : Int, ¬ a = 82 → ¬ a = 100 → ¬ a = 101 → ¬ a = 102 → ¬ a = 103 → N a = M a := fun a a1 a2 a3 a4 a5 => by
    rw [r3 a a3 a4 a5, q3 a a2, qup_row a1, qup_row a1, qup_row a1, qup_row a1]
  have f82 : N 82 = qup (qup (qup (qup M 82 29 2000000000) 82 30 2000000000) 82 31 (M 82 1)) 82 32 (M 82 2) 82 := by rw [r3 82 (by omega) (by omega) (by omega), q3 82 (by omega)]
  have fk : ∀ k : Int, ¬ k = 29 → ¬ k = 30 → ¬ k = 31 → ¬ k = 32 → N 82 k = M 82 k := fun k a1 a2 a3 a4 => by
    rw [f82, qup_ne (by omega), qup_ne (by omega), qup_ne (by omega), qup_ne (by omega)]
  have k31 : N 82 31 = M 82 1 := by rw [f82, qup_ne (by omega), qup_self]
  have k32' : N 82 32 = M 82 2 := by rw [f82, qup_self]
  have hS := qHS_row (N := N) h.2.2.2.2.2.1 (fk 11 (by omega) (by omega) (by omega) (by omega)) (f 91 (by omega) (by omega) (by omega) (by omega) (by omega)) (f 92 (by omega) (by omega) (by omega) (by omega) (by omega)) (f 93 (by omega) (by omega) (by omega) (by omega) (by omega)) (f 94 (by omega) (by omega) (by omega) (by omega) (by omega)) (f 95 (by omega) (by omega) (by omega) (by omega) (by omega)) (f 96 (by omega) (by omega) (by omega) (by omega) (by omega))
  have hr := h.2.2.2.2.2.2
  refine ⟨N, ?_, ?_, ?_, by rw [f82, qup_ne (by omega), qup_ne (by omega), qup_ne (by omega), qup_self], by rw [f82, qup_ne (by omega), qup_ne (by omega), qup_self], f, fk⟩
  · rw [E_X12_save, B_X12_save_0]
    simp (disch := omega) only [qup_ne]
    exact q1.trans r1
  · unfold qRS
    rw [fk 0 (by omega) (by omega) (by omega) (by omega), fk 1 (by omega) (by omega) (by omega) (by omega), fk 2 (by omega) (by omega) (by omega) (by omega), fk 27 (by omega) (by omega) (by omega) (by omega), f 83 (by omega) (by omega) (by omega) (by omega) (by omega), f 84 (by omega) (by omega) (by omega) (by omega) (by omega), f 85 (by omega) (by omega) (by omega) (by omega) (by omega), f 86 (by omega) (by omega) (by omega) (by omega) (by omega), f 87 (by omega) (by omega) (by omega) (by omega) (by omega), f 88 (by omega) (by omega) (by omega) (by omega) (by omega), f 89 (by omega) (by omega) (by omega) (by omega) (by omega)]
    exact ⟨h.1, h.2.1, h.2.2.1, h.2.2.2.1, h.2.2.2.2.1, hS, hr⟩
  · rw [h27, if_neg (by omega)] at hr
    unfold qKept
    rw [fk 0 (by omega) (by omega) (by omega) (by omega), k31, k32', f 84 (by omega) (by omega) (by omega) (by omega) (by omega), f 85 (by omega) (by omega) (by omega) (by omega) (by omega), f 89 (by omega) (by omega) (by omega) (by omega) (by omega)]
    refine ⟨h.1, h.2.1, fun k a b => ?_, fun p a b => ?_, h.2.2.2.2.1, hS, hr⟩
    · rw [r3 100 (by omega) (by omega) (by omega), q2 k a b, qup_row (by omega), qup_row (by omega), qup_row (by omega), qup_row (by omega)]
      exact h.2.2.1 k a b
    · have hp := h.2.2.2.1 p a b
      have hr2 := r2 p a b
      rw [q3 86 (by omega), q3 87 (by omega), q3 88 (by omega)] at hr2
      simp (disch := omega) only [qup_ne] at hr2
      exact ⟨hp.1, hp.2.1, by rw [hr2.1]; exact hp.2.2.1, by rw [hr2.2.1]; exact hp.2.2.2.1, by rw [hr2.2.2]; exact hp.2.2.2.2.1, hp.2.2.2.2.2⟩
theorem lP1 {M : qMem} : ∀ (d k : Nat) (N : qMem), k + d = 5 → (∀ j : Int, 0 ≤ j → j < k → N 83 j = M 100 j) → (∀ a : Int, ¬ a = 83 → N a = M a) →
    ∃ N', qlim C_X12_putBack (36, [some (qA 82), some (qI k)], [], qH0 N) = qlim C_X12_putBack (61, [some (qA 82), some (qI 0)], [], qH0 N') ∧ (∀ j : Int, 0 ≤ j → j < 5 → N' 83 j = M 100 j) ∧ (∀ a : Int, ¬ a = 83 → N' a = M a)
  | 0, k, N, hk, h1, h2 => ⟨N, by simp (disch := first | assumption | omega) only [B_X12_putBack_36, B_X12_putBack_59, not_true_eq_false, not_false_eq_true, if_true, if_false, qlk, qtk, qif_t, qif_f, qbd_some, Option.toList_some, Option.toList_none, List.cons_append, List.nil_append, List.append_nil], fun j a b => h1 j a (by omega), h2⟩
  | d + 1, k, N, hk, h1, h2 => by
    have e1 : kadd (k : Int) 1 = ((k + 1 : Nat) : Int) := by rw [kadd_eq (by omega) (by omega)]; omega
    obtain ⟨N', q1, q2⟩ := lP1 d (k + 1) (qup N 83 k (N 100 k)) (by omega) (fun j a b => by
      by_cases c : j = k
      · subst c
        rw [qup_self, h2 100 (by omega)]
      · rw [qup_ne (by omega)]
        exact h1 j a (by omega)) (fun a ha => by rw [qup_row ha]; exact h2 a ha)
    refine ⟨N', ?_, q2⟩
    rw [← q1]
    simp (disch := first | assumption | omega) only [B_X12_putBack_36, B_X12_putBack_41, not_true_eq_false, not_false_eq_true, if_true, if_false, qlk, qtk, qif_t, qif_f, qbd_some, Option.toList_some, Option.toList_none, List.cons_append, List.nil_append, List.append_nil, e1]
theorem lP2 {M : qMem} : ∀ (d k : Nat) (N : qMem), k + d = 6 → (∀ j : Int, 0 ≤ j → j < k → N 86 j = M 101 j ∧ N 87 j = M 102 j ∧ N 88 j = M 103 j) → (∀ a : Int, ¬ a = 86 → ¬ a = 87 → ¬ a = 88 → N a = M a) →
    ∃ N', qlim C_X12_putBack (61, [some (qA 82), some (qI k)], [], qH0 N) = some (none, qH0 N') ∧ (∀ j : Int, 0 ≤ j → j < 6 → N' 86 j = M 101 j ∧ N' 87 j = M 102 j ∧ N' 88 j = M 103 j) ∧ (∀ a : Int, ¬ a = 86 → ¬ a = 87 → ¬ a = 88 → N' a = M a)
  | 0, k, N, hk, h1, h2 => ⟨N, by simp (disch := first | assumption | omega) only [B_X12_putBack_61, B_X12_putBack_109, not_true_eq_false, not_false_eq_true, if_true, if_false, qlk, qtk, qif_t, qif_f, qbd_some, Option.toList_some, Option.toList_none, List.cons_append, List.nil_append, List.append_nil], fun j a b => h1 j a (by omega), h2⟩
  | d + 1, k, N, hk, h1, h2 => by
    have e1 : kadd (k : Int) 1 = ((k + 1 : Nat) : Int) := by rw [kadd_eq (by omega) (by omega)]; omega
    have f1 : N 101 = M 101 := h2 101 (by omega) (by omega) (by omega)
    have f2 : N 102 = M 102 := h2 102 (by omega) (by omega) (by omega)
    have f3 : N 103 = M 103 := h2 103 (by omega) (by omega) (by omega)
    obtain ⟨N', q1, q2⟩ := lP2 d (k + 1) (qup (qup (qup N 86 k (M 101 k)) 87 k (M 102 k)) 88 k (M 103 k)) (by omega) (fun j a b => by
      by_cases c : j = k
      · subst c
        refine ⟨?_, ?_, ?_⟩
        · rw [qup_ne (by omega), qup_ne (by omega), qup_self]
        · rw [qup_ne (by omega), qup_self]
        · rw [qup_self]
      · have := h1 j a (by omega)
        refine ⟨?_, ?_, ?_⟩
        · rw [qup_ne (by omega), qup_ne (by omega), qup_ne (by omega)]
          exact this.1
        · rw [qup_ne (by omega), qup_ne (by omega), qup_ne (by omega)]
          exact this.2.1
        · rw [qup_ne (by omega), qup_ne (by omega), qup_ne (by omega)]
          exact this.2.2) (fun a a1 a2 a3 => by rw [qup_row a3, qup_row a2, qup_row a1]; exact h2 a a1 a2 a3)
    refine ⟨N', ?_, q2⟩
    rw [← q1]
    simp (disch := first | assumption | omega) only [B_X12_putBack_61, B_X12_putBack_67, qup_self, qup_ne, not_true_eq_false, not_false_eq_true, if_true, if_false, qlk, qtk, qif_t, qif_f, qbd_some, Option.toList_some, Option.toList_none, List.cons_append, List.nil_append, List.append_nil, e1, f1, f2, f3]
theorem sX12_putBack {M A : qMem} (h : qKept M A) : ∃ N, S_X12_putBack [qA 82] (qH0 M) = some (none, qH0 N) ∧ qRS N A 12 ∧ N 82 29 = 99999 ∧ N 82 30 = 9999 ∧ N 82 27 = -1 ∧ qTf N M := by
  obtain ⟨N1, q1, q2, q3⟩ := lP1 (M := qup (qup (qup (qup (qup M 82 29 99999) 82 30 9999) 82 27 (-1)) 82 1 (M 82 31)) 82 2 (M 82 32)) 5 0 _ (by omega) (fun j a b => by omega) (fun a _ => rfl)
  obtain ⟨N, r1, r2, r3⟩ := lP2 (M := N1) 6 0 _ (by omega) (fun j a b => by omega) (fun a _ _ _ => rfl)
  have f : ∀ a : Int, ¬ a = 82 → ¬ a = 83 → ¬ a = 86 → ¬ a = 87 → ¬ a = 88 → N a = M a := fun a a1 a2 a3 a4 a5 => by
    rw [r3 a a3 a4 a5, q3 a a2, qup_row a1, qup_row a1, qup_row a1, qup_row a1, qup_row a1]
  have f82 : N 82 = qup (qup (qup (qup (qup M 82 29 99999) 82 30 9999) 82 27 (-1)) 82 1 (M 82 31)) 82 2 (M 82 32) 82 := by rw [r3 82 (by omega) (by omega) (by omega), q3 82 (by omega)]
  have fk : ∀ k : Int, ¬ k = 1 → ¬ k = 2 → ¬ k = 27 → ¬ k = 29 → ¬ k = 30 → N 82 k = M 82 k := fun k a1 a2 a3 a4 a5 => by
    rw [f82, qup_ne (by omega), qup_ne (by omega), qup_ne (by omega), qup_ne (by omega), qup_ne (by omega)]
  have k1 : N 82 1 = M 82 31 := by rw [f82, qup_ne (by omega), qup_self]
  have k2 : N 82 2 = M 82 32 := by rw [f82, qup_self]
  have k27 : N 82 27 = -1 := by rw [f82, qup_ne (by omega), qup_ne (by omega), qup_self]
  have fT : qTf N M := ⟨fun a a1 a2 a3 a4 a5 _ => f a a1 a2 a3 a4 a5, fk⟩
  have hK := qKept_f h fT
  have hS := hK.2.2.2.2.2.1
  refine ⟨N, ?_, ?_, by rw [f82, qup_ne (by omega), qup_ne (by omega), qup_ne (by omega), qup_ne (by omega), qup_self], by rw [f82, qup_ne (by omega), qup_ne (by omega), qup_ne (by omega), qup_self], k27, fT⟩
  · rw [E_X12_putBack, B_X12_putBack_0]
    simp (disch := omega) only [qup_ne]
    exact q1.trans r1
  · unfold qRS
    rw [k1, k2, k27, if_neg (by omega), fk 0 (by omega) (by omega) (by omega) (by omega) (by omega)]
    refine ⟨h.1, h.2.1, fun k a b => ?_, fun p a b => ?_, hK.2.2.2.2.1, hS, h.2.2.2.2.2.2⟩
    · rw [r3 83 (by omega) (by omega) (by omega), q2 k a b, qup_row (by omega), qup_row (by omega), qup_row (by omega), qup_row (by omega), qup_row (by omega)]
      exact h.2.2.1 k a b
    · have hp := h.2.2.2.1 p a b
      have hr2 := r2 p a b
      rw [q3 101 (by omega), q3 102 (by omega), q3 103 (by omega)] at hr2
      simp (disch := omega) only [qup_ne] at hr2
      rw [f 84 (by omega) (by omega) (by omega) (by omega) (by omega), f 85 (by omega) (by omega) (by omega) (by omega) (by omega)]
      exact ⟨hp.1, hp.2.1, by rw [hr2.1]; exact hp.2.2.1, by rw [hr2.2.1]; exact hp.2.2.2.1, by rw [hr2.2.2]; exact hp.2.2.2.2.1, hp.2.2.2.2.2⟩
