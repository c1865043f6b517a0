/-! a trial is changed by hand -/
theorem qSF_up {M : qMem} {o c p v : Int} (h : qSF M o) (hc : 1 ≤ c ∧ c ≤ 8) (h3 : c = 3 → 0 ≤ v ∧ v ≤ 9) (h4 : c = 4 → 0 ≤ v ∧ v ≤ 3) (h8 : c = 8 → v = 0 ∨ v = 1) (h2 : ¬ c = 2) (h7 : ¬ c = 7) : qSF (qup M (o + c) p v) o := by
  have g := qSF_g h
  have gc := g.1 c hc.1 hc.2
  have hh := qHI_row (M' := qup M (o + c) p v) h.2.2.2.2.2.2 (qup_row gc.1) (qup_row gc.2)
  unfold qSF
  rw [qup_row (a' := o) (by omega), qup_row (a' := o + 2) (by omega), qup_row (a' := o + 7) (by omega)]
  refine ⟨h.1, h.2.1, h.2.2.1, h.2.2.2.1, fun q a b => ?_, h.2.2.2.2.2.1, hh⟩
  have hq := h.2.2.2.2.1 q a b
  refine ⟨hq.1, ?_, ?_, ?_⟩
  · by_cases d : c = 3 ∧ q = p
    · obtain ⟨rfl, rfl⟩ := d
      rw [qup_self]
      exact h3 rfl
    · rw [qup_ne (by omega)]
      exact hq.2.1
  · by_cases d : c = 4 ∧ q = p
    · obtain ⟨rfl, rfl⟩ := d
      rw [qup_self]
      exact h4 rfl
    · rw [qup_ne (by omega)]
      exact hq.2.2.1
  · by_cases d : c = 8 ∧ q = p
    · obtain ⟨rfl, rfl⟩ := d
      rw [qup_self]
      exact h8 rfl
    · rw [qup_ne (by omega)]
      exact hq.2.2.2
theorem qSF_room {M : qMem} {o n : Int} (h : qSF M o) (hn : 1 ≤ n ∧ n ≤ 99) : qSF (qup M o 12 n) o := by
  have g := qSF_g h
  have hh := qHI_row (M' := qup M o 12 n) h.2.2.2.2.2.2 (qup_row g.2.1) (qup_row g.2.2)
  unfold qSF
  rw [qup_ne (a' := o) (k' := 10) (by omega), qup_self, qup_ne (a' := o) (k' := 1) (by omega), qup_ne (a' := o) (k' := 13) (by omega), qup_row (a' := o + 2) (by omega), qup_row (a' := o + 3) (by omega), qup_row (a' := o + 4) (by omega), qup_row (a' := o + 7) (by omega), qup_row (a' := o + 8) (by omega)]
  exact ⟨h.1, h.2.1, hn, h.2.2.2.1, h.2.2.2.2.1, h.2.2.2.2.2.1, hh⟩
theorem qSV_row {M N : qMem} {o j : Int} (h : qSV M o j) (h11 : N o 11 = M o 11) (h1 : N o 1 = M o 1) (a1 : N (o + 1) = M (o + 1)) (a5 : N (o + 5) = M (o + 5)) (a6 : N (o + 6) = M (o + 6)) : qSV N o j := by
  unfold qSV
  rw [h11, h1, a1, a5, a6]
  exact h
theorem qTr_work {B : qMem} {k p w : Int} (h : qTr B k) (hw : 0 ≤ w ∧ w ≤ 3) : qTr (qup B 25 p w) k := by
  refine ⟨qSF_up (o := 21) (c := 4) h.1 (by omega) (by omega) (fun _ => hw) (by omega) (by omega) (by omega), qSV_row h.2.1 (qup_ne (by omega)) (qup_ne (by omega)) (qup_row (by omega)) (qup_row (by omega)) (qup_row (by omega)), ?_, ?_⟩
  · rw [qup_ne (by omega)]
    exact h.2.2.1
  · rw [qup_ne (by omega)]
    exact h.2.2.2
theorem qTr_gone {B : qMem} {k p : Int} (h : qTr B k) : qTr (qup B 29 p 1) k := by
  refine ⟨qSF_up (o := 21) (c := 8) h.1 (by omega) (by omega) (by omega) (fun _ => Or.inr rfl) (by omega) (by omega), qSV_row h.2.1 (qup_ne (by omega)) (qup_ne (by omega)) (qup_row (by omega)) (qup_row (by omega)) (qup_row (by omega)), ?_, ?_⟩
  · rw [qup_ne (by omega)]
    exact h.2.2.1
  · rw [qup_ne (by omega)]
    exact h.2.2.2
theorem qTr_room {B : qMem} {k n : Int} (h : qTr B k) (hn : 1 ≤ n ∧ n ≤ 99) : qTr (qup B 21 12 n) k := by
  refine ⟨qSF_room h.1 hn, qSV_row h.2.1 (qup_ne (by omega)) (qup_ne (by omega)) (qup_row (by omega)) (qup_row (by omega)) (qup_row (by omega)), ?_, ?_⟩
  · rw [qup_ne (by omega)]
    exact h.2.2.1
  · rw [qup_ne (by omega)]
    exact h.2.2.2
/-! the same on the reference's side -/
theorem kbit_or : ∀ a : Nat, a < 64 → ∀ p : Nat, p < 6 → (a ||| 2 ^ p) < 64 ∧ ∀ q : Nat, q < 6 → (a ||| 2 ^ p) / 2 ^ q % 2 = if q = p then 1 else a / 2 ^ q % 2 := by decide +kernel
theorem kbit_and : ∀ a : Nat, a < 64 → ∀ p : Nat, p < 6 → (a &&& (63 - 2 ^ p)) < 64 ∧ ∀ q : Nat, q < 6 → (a &&& (63 - 2 ^ p)) / 2 ^ q % 2 = if q = p then 0 else a / 2 ^ q % 2 := by decide +kernel
theorem qBit_nat (a p : Nat) : qBit a p = ((a / 2 ^ p % 2 : Nat) : Int) := by
  unfold qBit
  rw [Int.toNat_natCast]
  simp
theorem kshl_1 {p : Nat} (hp : p < 6) : kshl 1 p = ((2 ^ p : Nat) : Int) := by
  have e : p = 0 ∨ p = 1 ∨ p = 2 ∨ p = 3 ∨ p = 4 ∨ p = 5 := by omega
  rcases e with rfl | rfl | rfl | rfl | rfl | rfl <;> decide
theorem sX12_goes_y {N : qMem} {p : Int} (h1 : 0 ≤ N 82 2) (h2 : N 82 2 < 64) (p1 : 0 ≤ p) (p2 : p < 6) : ∃ a : Int, S_X12_goes [qA 82, qI p, qI 1] (qH0 N) = some (none, qH0 (qup N 82 2 a)) ∧ (0 ≤ a ∧ a < 64) ∧ ∀ q : Int, 0 ≤ q → q < 6 → qBit a q = if q = p then 1 else qBit (N 82 2) q := by
  generalize hx : N 82 2 = x at h1 h2 ⊢
  obtain ⟨n, rfl⟩ := Int.eq_ofNat_of_zero_le h1
  obtain ⟨m, rfl⟩ := Int.eq_ofNat_of_zero_le p1
  have K := kbit_or n (by omega) m (by omega)
  have e1 : kshl 1 ((m : Nat) : Int) = ((2 ^ m : Nat) : Int) := kshl_1 (by omega)
  have h64 : 2 ^ m ≤ 2 ^ 5 := Nat.pow_le_pow_right (by omega) (by omega)
  have e2 : kor n ((2 ^ m : Nat) : Int) = ((n ||| 2 ^ m : Nat) : Int) := kor_nat (by omega) (by omega)
  refine ⟨((n ||| 2 ^ m : Nat) : Int), ?_, by omega, fun q q1 q2 => ?_⟩
  · simp (disch := first | assumption | omega) only [E_X12_goes, B_X12_goes_0, B_X12_goes_5, B_X12_goes_16, B_X12_goes_26, not_true_eq_false, not_false_eq_true, if_true, if_false, qlk, qtk, qif_t, qif_f, qbd_some, Option.toList_some, Option.toList_none, List.cons_append, List.nil_append, List.append_nil, hx, e1, e2]
  · obtain ⟨j, rfl⟩ := Int.eq_ofNat_of_zero_le q1
    have := K.2 j (by omega)
    rw [qBit_nat, qBit_nat, this]
    by_cases c : j = m
    · subst c
      rw [if_pos rfl, if_pos rfl]
      rfl
    · rw [if_neg c, if_neg (by omega)]
