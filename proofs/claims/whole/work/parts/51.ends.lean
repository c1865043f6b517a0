/-! evenings gone in a trial (class, reference) -/
/-- the evening's rows are sound -/
def qEv (A : qMem) : Prop := (A 41 0 = 10 ∧ A 41 1 = 2) ∧ (0 ≤ A 41 3 ∧ A 41 3 ≤ 10) ∧ ∀ i : Int, 0 ≤ i → i < A 41 3 → (0 ≤ A 42 (2 * i) ∧ A 42 (2 * i) ≤ 5) ∧ (¬ A 42 (2 * i) = 0 → 0 ≤ A 42 (2 * i + 1) ∧ A 42 (2 * i + 1) < A 12 10)
/-- the reference's evening beside the class's -/
def qEvR (N A : qMem) : Prop := N 82 41 = A 41 3 ∧ ∀ i : Int, 0 ≤ i → i < A 41 3 → N 107 i = A 42 (2 * i) ∧ (¬ A 42 (2 * i) = 0 → N 108 i = A 42 (2 * i + 1))
def fEs (B : qMem) (a p : Int) : qMem := if a = 0 then fMin B 21 1 else if a ≤ 4 then qup B 25 p (a - 1) else qup B 29 p 1
def fEv (A : qMem) : Nat → qMem
  | 0 => fTr A
  | i + 1 => fEs (fEv A i) (A 42 (2 * i)) (A 42 (2 * i + 1))
theorem fEv_T {A : qMem} (hA : qNow A) (hE : qEv A) : ∀ i : Nat, (i : Int) ≤ A 41 3 → qTr (fEv A i) i ∧ qCu (fEv A i) A
  | 0, _ => ⟨fTr_T hA, fTr_x⟩
  | i + 1, hi => by
    have ih := fEv_T hA hE i (by omega)
    have h := hE.2.2 i (by omega) (by omega)
    have h10 := hE.2.1
    have h6 := hA.1.2.1
    have up : ∀ C : qMem, qTr C i → qTr C ((i + 1 : Nat) : Int) := fun C hC => ⟨hC.1, hC.2.1, hC.2.2.1, by have := hC.2.2.2; omega⟩
    show qTr (fEs (fEv A i) (A 42 (2 * i)) (A 42 (2 * i + 1))) ((i + 1 : Nat) : Int) ∧ qCu (fEs (fEv A i) (A 42 (2 * i)) (A 42 (2 * i + 1))) A
    generalize fEv A i = B at ih ⊢
    unfold fEs
    split
    · have t := fMin_T ih.1 1 (by omega)
      exact ⟨by have e : (i : Int) + (1 : Nat) = ((i + 1 : Nat) : Int) := by omega
                rw [e] at t; exact t, qCu_t (fMin_x ih.1 1 (by omega)) ih.2⟩
    · rename_i c
      have hw := h.2 c
      split
      · exact ⟨up _ (qTr_work ih.1 (by omega)), qCu_t (qCu_up (by unfold qIn; omega)) ih.2⟩
      · exact ⟨up _ (qTr_gone ih.1), qCu_t (qCu_up (by unfold qIn; omega)) ih.2⟩
theorem sX11_goes {B A : qMem} {a p : Int} {k : Int} (hB : qTr B k) (hk : 0 ≤ k ∧ k ≤ 100) (u : qCu B A) (hA : qNow A) (ha : 0 ≤ a ∧ a ≤ 5) (hp : ¬ a = 0 → 0 ≤ p ∧ p < A 12 10) : S_X11_goesInTrial [qA 0, qI a, qI p] (qH0 B) = some (none, qH0 (fEs B a p)) := by
  have r := qCu_row u (a := 12) (by omega)
  have h6 := hA.1.2.1
  unfold fEs
  by_cases c : a = 0
  · have s : S_X8_minutesGo [qA 21, qI 1] (qH0 B) = some (some (qI (fMin B 21 1 22 4)), qH0 (fMin B 21 1)) := sT_minutesGo (n := 1) hB (by omega) (by omega) (by omega)
    rw [if_pos c]
    simp (disch := first | assumption | omega) only [B_X11_goesInTrial_0, B_X11_goesInTrial_4, B_X11_goesInTrial_12, B_X11_goesInTrial_54, not_true_eq_false, not_false_eq_true, if_true, if_false, qlk, qtk, qif_t, qif_f, qbd_some, Option.toList_some, Option.toList_none, List.cons_append, List.nil_append, List.append_nil, E_X11_goesInTrial, s]
  · have hq := hp c
    have hP : S_X11_isPerson [qA 0, qI p] (qH0 B) = some (some (qI 1), qH0 B) := sX11_isPerson_y (by rw [r]; omega)
    have e : ksub a 1 = a - 1 := ksub_eq (by omega) (by omega)
    rw [if_neg c]
    by_cases c2 : a ≤ 4
    · rw [if_pos c2]
      simp (disch := first | assumption | omega) only [B_X11_goesInTrial_0, B_X11_goesInTrial_16, B_X11_goesInTrial_21, B_X11_goesInTrial_24, B_X11_goesInTrial_29, B_X11_goesInTrial_54, not_true_eq_false, not_false_eq_true, if_true, if_false, qlk, qtk, qif_t, qif_f, qbd_some, Option.toList_some, Option.toList_none, List.cons_append, List.nil_append, List.append_nil, E_X11_goesInTrial, hP, e]
    · rw [if_neg c2]
      simp (disch := first | assumption | omega) only [B_X11_goesInTrial_0, B_X11_goesInTrial_16, B_X11_goesInTrial_21, B_X11_goesInTrial_24, B_X11_goesInTrial_44, B_X11_goesInTrial_54, not_true_eq_false, not_false_eq_true, if_true, if_false, qlk, qtk, qif_t, qif_f, qbd_some, Option.toList_some, Option.toList_none, List.cons_append, List.nil_append, List.append_nil, E_X11_goesInTrial, hP]
theorem lX11_ends {A : qMem} {w : Int} (hA : qNow A) (hE : qEv A) : ∀ d i : Nat, ((i + d : Nat) : Int) = A 41 3 →
    qlim C_X11_ends (23, [some (qA 0), some (qI w), some (qI i), none], [], qH0 (fEv A i)) = qlim C_X11_ends (62, [some (qA 0), some (qI w), some (qI (A 41 3)), none], [], qH0 (fEv A (i + d)))
  | 0, i, hi => by
    have T := fEv_T hA hE i (by omega)
    have r := qCu_row T.2 (a := 41) (by omega)
    have e : (i : Int) = A 41 3 := by omega
    rw [B_X11_ends_23, r, qif_t (by omega), e]
    rfl
  | d + 1, i, hi => by
    have T := fEv_T hA hE i (by omega)
    have r := qCu_row T.2 (a := 41) (by omega)
    have r2 : fEv A i (41 + 1) = A 42 := qCu_row T.2 (a := 42) (by omega)
    have h := hE.2.2 i (by omega) (by omega)
    have h10 := hE.2.1
    have e1 : kadd (i : Int) 1 = ((i + 1 : Nat) : Int) := by rw [kadd_eq (by omega) (by omega)]; omega
    have e3 : i + (d + 1) = i + 1 + d := by omega
    have e0 : (2 : Int) * i + 0 = 2 * i := by omega
    have s1 : S_X6_cell [qA 41, qI i, qI 0] (qH0 (fEv A i)) = some (some (qI (A 42 (2 * i))), qH0 (fEv A i)) := by
      rw [sX6_cell2 (Or.inr (Or.inl rfl)) (n := 20) rfl (by rw [r]; exact hE.1.2) (by omega) (by omega) (by omega) (by omega), r2, e0]
    have s2 : S_X6_cell [qA 41, qI i, qI 1] (qH0 (fEv A i)) = some (some (qI (A 42 (2 * i + 1))), qH0 (fEv A i)) := by
      rw [sX6_cell2 (Or.inr (Or.inl rfl)) (n := 20) rfl (by rw [r]; exact hE.1.2) (by omega) (by omega) (by omega) (by omega), r2]
    have s3 : S_X11_goesInTrial [qA 0, qI (A 42 (2 * i)), qI (A 42 (2 * i + 1))] (qH0 (fEv A i)) = some (none, qH0 (fEv A (i + 1))) := sX11_goes T.1 (by omega) T.2 hA h.1 h.2
    have ih := lX11_ends (w := w) hA hE d (i + 1) (by omega)
    rw [e3, ← ih]
    simp (disch := first | assumption | omega) only [B_X11_ends_23, B_X11_ends_34, B_X11_ends_44, B_X11_ends_53, B_X11_ends_56, not_true_eq_false, not_false_eq_true, if_true, if_false, qlk, qtk, qif_t, qif_f, qbd_some, Option.toList_some, Option.toList_none, List.cons_append, List.nil_append, List.append_nil, r, s1, s2, s3, e1]
/-- how many letters more were done -/
def fDe (A B : qMem) : Nat → Int
  | 0 => 0
  | p + 1 => fDe A B p + (B 26 p - A 17 p)
theorem fDe_lo {A B : qMem} {k : Int} (hA : qNow A) (hB : qTr B k) : ∀ p : Nat, (p : Int) ≤ 6 → -(102000000 * p) ≤ fDe A B p ∧ fDe A B p ≤ 102000000 * p
  | 0, _ => ⟨Int.le_refl _, Int.le_refl _⟩
  | p + 1, hp => by
    have ih := fDe_lo hA hB p (by omega)
    have h2 : (0 ≤ B 26 p ∧ B 26 p ≤ 102000000) ∧ (0 ≤ B 27 p ∧ B 27 p ≤ 10201) := qSV_d hB.2.1 (show (0 : Int) ≤ p by omega) (by omega)
    have h3 : (0 ≤ A 17 p ∧ A 17 p ≤ 102000000) ∧ (0 ≤ A 18 p ∧ A 18 p ≤ 10201) := qSV_d hA.2.1 (show (0 : Int) ≤ p by omega) (by omega)
    show -(102000000 * ((p + 1 : Nat) : Int)) ≤ fDe A B p + (B 26 p - A 17 p) ∧ fDe A B p + (B 26 p - A 17 p) ≤ 102000000 * ((p + 1 : Nat) : Int)
    omega
theorem lX11_de {A B : qMem} {w k : Int} (hA : qNow A) (hB : qTr B k) (u : qCu B A) : ∀ d p : Nat, ((p + d : Nat) : Int) = A 12 10 →
    qlim C_X11_ends (80, [some (qA 0), some (qI w), some (qI (fDe A B p)), some (qI p)], [], qH0 B) = some (some (qI (fDe A B (p + d))), qH0 B)
  | 0, p, hp => by
    have r := qCu_row u (a := 12) (by omega)
    simp (disch := first | assumption | omega) only [B_X11_ends_80, B_X11_ends_119, not_true_eq_false, not_false_eq_true, if_true, if_false, qlk, qtk, qif_t, qif_f, qbd_some, Option.toList_some, Option.toList_none, List.cons_append, List.nil_append, List.append_nil, r]
    rfl
  | d + 1, p, hp => by
    have r := qCu_row u (a := 12) (by omega)
    have r17 := qCu_row u (a := 17) (by omega)
    have h6 := hA.1.2.1
    have hb := fDe_lo hA hB p (by omega)
    have h2 : (0 ≤ B 26 p ∧ B 26 p ≤ 102000000) ∧ (0 ≤ B 27 p ∧ B 27 p ≤ 10201) := qSV_d hB.2.1 (show (0 : Int) ≤ p by omega) (by omega)
    have h3 : (0 ≤ A 17 p ∧ A 17 p ≤ 102000000) ∧ (0 ≤ A 18 p ∧ A 18 p ≤ 10201) := qSV_d hA.2.1 (show (0 : Int) ≤ p by omega) (by omega)
    have e1 : kadd (p : Int) 1 = ((p + 1 : Nat) : Int) := by rw [kadd_eq (by omega) (by omega)]; omega
    have e2 : ksub (B 26 p) (A 17 p) = B 26 p - A 17 p := ksub_eq (by omega) (by omega)
    have e3 : p + (d + 1) = p + 1 + d := by omega
    have e4 : kadd (fDe A B p) (B 26 p - A 17 p) = fDe A B (p + 1) := by
      rw [kadd_eq (by omega) (by omega)]
      rfl
    have ih := lX11_de (w := w) hA hB u d (p + 1) (by omega)
    rw [e3, ← ih]
    simp (disch := first | assumption | omega) only [B_X11_ends_80, B_X11_ends_91, not_true_eq_false, not_false_eq_true, if_true, if_false, qlk, qtk, qif_t, qif_f, qbd_some, Option.toList_some, Option.toList_none, List.cons_append, List.nil_append, List.append_nil, r, r17, e1, e2, e4]
def fEnds (A : qMem) (w : Int) : Int := if w = 0 then fEv A (A 41 3).toNat 22 4 else fDe A (fEv A (A 41 3).toNat) (A 12 10).toNat
theorem sX11_ends_n {A : qMem} {w : Int} (h : ¬ (0 ≤ w ∧ w ≤ 1)) : S_X11_ends [qA 0, qI w] (qH0 A) = some (some (qI (-1)), qH0 A) := by
  simp (disch := first | assumption | omega) only [B_X11_ends_0, B_X11_ends_5, B_X11_ends_8, not_true_eq_false, not_false_eq_true, if_true, if_false, qlk, qtk, qif_t, qif_f, qbd_some, Option.toList_some, Option.toList_none, List.cons_append, List.nil_append, List.append_nil, E_X11_ends, sX11_isIn_n]
theorem sX11_ends {A : qMem} {w : Int} (hA : qNow A) (hE : qEv A) (h : 0 ≤ w ∧ w ≤ 1) : ∃ N' : qMem, S_X11_ends [qA 0, qI w] (qH0 A) = some (some (qI (fEnds A w)), qH0 N') ∧ qCu N' A := by
  have h6 := hA.1.2.1
  have h10 := hE.2.1
  have s1 := sT_becomes hA
  have L := lX11_ends (w := w) hA hE (A 41 3).toNat 0 (by omega)
  have T := fEv_T hA hE (A 41 3).toNat (by omega)
  have e0 : fEv A 0 = fTr A := rfl
  have z0 : ((0 : Nat) : Int) = 0 := rfl
  rw [Nat.zero_add, e0, z0] at L
  refine ⟨fEv A (A 41 3).toNat, ?_, T.2⟩
  have G : S_X11_ends [qA 0, qI w] (qH0 A) = qlim C_X11_ends (62, [some (qA 0), some (qI w), some (qI (A 41 3)), none], [], qH0 (fEv A (A 41 3).toNat)) := by
    rw [← L]
    simp (disch := first | assumption | omega) only [B_X11_ends_0, B_X11_ends_5, B_X11_ends_10, B_X11_ends_21, not_true_eq_false, not_false_eq_true, if_true, if_false, qlk, qtk, qif_t, qif_f, qbd_some, Option.toList_some, Option.toList_none, List.cons_append, List.nil_append, List.append_nil, E_X11_ends, sX11_isIn_y, s1]
  rw [G]
  unfold fEnds
  by_cases c : w = 0
  · rw [if_pos c]
    simp (disch := first | assumption | omega) only [B_X11_ends_62, B_X11_ends_66, not_true_eq_false, not_false_eq_true, if_true, if_false, qlk, qtk, qif_t, qif_f, qbd_some, Option.toList_some, Option.toList_none, List.cons_append, List.nil_append, List.append_nil]
  · have D := lX11_de (w := w) hA T.1 T.2 (A 12 10).toNat 0 (by omega)
    have e5 : fDe A (fEv A (A 41 3).toNat) 0 = 0 := rfl
    rw [Nat.zero_add, e5, z0] at D
    rw [if_neg c, ← D]
    simp (disch := first | assumption | omega) only [B_X11_ends_62, B_X11_ends_76, not_true_eq_false, not_false_eq_true, if_true, if_false, qlk, qtk, qif_t, qif_f, qbd_some, Option.toList_some, Option.toList_none, List.cons_append, List.nil_append, List.append_nil]
