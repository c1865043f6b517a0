/-! edits on the reference's side -/
theorem kbit_n : ∀ a : Nat, a < 64 → ∀ p : Nat, p < 6 → kand a (kxor (kshl 1 p) (-1)) = ((a &&& (63 - 2 ^ p) : Nat) : Int) := by decide +kernel
theorem sX12_goes_n {N : qMem} {p : Int} (h1 : 0 ≤ N 82 2) (h2 : N 82 2 < 64) (p1 : 0 ≤ p) (p2 : p < 6) : ∃ a : Int, S_X12_goes [qA 82, qI p, qI 0] (qH0 N) = some (none, qH0 (qup N 82 2 a)) ∧ (0 ≤ a ∧ a < 64) ∧ ∀ q : Int, 0 ≤ q → q < 6 → qBit a q = if q = p then 0 else qBit (N 82 2) q := by
  generalize hx : N 82 2 = x at h1 h2 ⊢
  obtain ⟨n, rfl⟩ := Int.eq_ofNat_of_zero_le h1
  obtain ⟨m, rfl⟩ := Int.eq_ofNat_of_zero_le p1
  have K := kbit_and n (by omega) m (by omega)
  have e1 := kbit_n n (by omega) m (by omega)
  refine ⟨((n &&& (63 - 2 ^ m) : Nat) : Int), ?_, by omega, fun q q1 q2 => ?_⟩
  · simp (disch := first | assumption | omega) only [E_X12_goes, B_X12_goes_0, B_X12_goes_5, B_X12_goes_16, B_X12_goes_26, not_true_eq_false, not_false_eq_true, if_true, if_false, qlk, qtk, qif_t, qif_f, qbd_some, Option.toList_some, Option.toList_none, List.cons_append, List.nil_append, List.append_nil, hx, e1]
  · obtain ⟨j, rfl⟩ := Int.eq_ofNat_of_zero_le q1
    have := K.2 j (by omega)
    rw [qBit_nat, qBit_nat, this]
    by_cases c : j = m
    · subst c
      rw [if_pos rfl, if_pos rfl]
      rfl
    · rw [if_neg c, if_neg (by omega)]
theorem qRS_work {N B : qMem} {o p w : Int} (h : qRS N B o) (hF : qSF B o) : qRS (qup N 86 p w) (qup B (o + 4) p w) o := by
  have g := (qSF_g hF).1 4 (by omega) (by omega)
  have hS := qHS_rowA (B := qup B (o + 4) p w) (qHS_row (N := qup N 86 p w) h.2.2.2.2.2.1 (by rw [qup_row (by omega)]) (qup_row (by omega)) (qup_row (by omega)) (qup_row (by omega)) (qup_row (by omega)) (qup_row (by omega)) (qup_row (by omega))) (qup_row g.1) (qup_row g.2)
  unfold qRS
  rw [qup_row (a := 86) (a' := 82) (by omega), qup_row (a := o + 4) (a' := o) (by omega), qup_row (a := o + 4) (a' := B o 13) g.1]
  refine ⟨h.1, h.2.1, fun k a b => ?_, fun q a b => ?_, fun k a b => ?_, hS, h.2.2.2.2.2.2⟩
  · rw [qup_ne (a := 86) (by omega), qup_ne (a := o + 4) (by omega)]
    exact h.2.2.1 k a b
  · have hq := h.2.2.2.1 q a b
    rw [qup_ne (a := 86) (a' := 84) (by omega), qup_ne (a := 86) (a' := 85) (by omega), qup_ne (a := 86) (a' := 87) (by omega), qup_ne (a := 86) (a' := 88) (by omega), qup_ne (a := o + 4) (a' := o + 2) (by omega), qup_ne (a := o + 4) (a' := o + 3) (by omega), qup_ne (a := o + 4) (a' := o + 5) (by omega), qup_ne (a := o + 4) (a' := o + 6) (by omega), qup_ne (a := o + 4) (a' := o + 8) (by omega)]
    refine ⟨hq.1, hq.2.1, ?_, hq.2.2.2⟩
    by_cases c : q = p
    · subst c
      rw [qup_self, qup_self]
    · rw [qup_ne (by omega), qup_ne (by omega)]
      exact hq.2.2.1
  · rw [qup_ne (a := 86) (by omega), qup_ne (a := o + 4) (by omega)]
    exact h.2.2.2.2.1 k a b
theorem qRS_gone {N B : qMem} {o p v x : Int} (h : qRS N B o) (hF : qSF B o) (hx : 0 ≤ x ∧ x < 64) (hb : ∀ q : Int, 0 ≤ q → q < 6 → qBit x q = if q = p then v else qBit (N 82 2) q) : qRS (qup N 82 2 x) (qup B (o + 8) p v) o := by
  have g := (qSF_g hF).1 8 (by omega) (by omega)
  have hS := qHS_rowA (B := qup B (o + 8) p v) (qHS_row (N := qup N 82 2 x) h.2.2.2.2.2.1 (by rw [qup_ne (by omega)]) (qup_row (by omega)) (qup_row (by omega)) (qup_row (by omega)) (qup_row (by omega)) (qup_row (by omega)) (qup_row (by omega))) (qup_row g.1) (qup_row g.2)
  unfold qRS
  rw [qup_self, qup_ne (a := 82) (a' := 82) (k' := 0) (by omega), qup_ne (a := 82) (a' := 82) (k' := 1) (by omega), qup_ne (a := 82) (a' := 82) (k' := 27) (by omega), qup_row (a := o + 8) (a' := o) (by omega), qup_row (a := o + 8) (a' := B o 13) g.1]
  refine ⟨h.1, hx, fun k a b => ?_, fun q a b => ?_, fun k a b => ?_, hS, h.2.2.2.2.2.2⟩
  · rw [qup_ne (a := 82) (by omega), qup_ne (a := o + 8) (by omega)]
    exact h.2.2.1 k a b
  · have hq := h.2.2.2.1 q a b
    rw [qup_ne (a := 82) (a' := 84) (by omega), qup_ne (a := 82) (a' := 85) (by omega), qup_ne (a := 82) (a' := 86) (by omega), qup_ne (a := 82) (a' := 87) (by omega), qup_ne (a := 82) (a' := 88) (by omega), qup_ne (a := o + 8) (a' := o + 2) (by omega), qup_ne (a := o + 8) (a' := o + 3) (by omega), qup_ne (a := o + 8) (a' := o + 4) (by omega), qup_ne (a := o + 8) (a' := o + 5) (by omega), qup_ne (a := o + 8) (a' := o + 6) (by omega), hb q a b]
    refine ⟨hq.1, hq.2.1, hq.2.2.1, hq.2.2.2.1, hq.2.2.2.2.1, ?_⟩
    by_cases c : q = p
    · subst c
      rw [qup_self, if_pos rfl]
    · rw [qup_ne (by omega), if_neg c]
      exact hq.2.2.2.2.2
  · rw [qup_ne (a := 82) (by omega), qup_ne (a := o + 8) (by omega)]
    exact h.2.2.2.2.1 k a b
theorem qRS_room {N B : qMem} {o n : Int} (h : qRS N B o) (hF : qSF B o) (hn : 0 ≤ n) : qRS (qup N 82 27 n) (qup B o 12 n) o := by
  have g := qSF_g hF
  have hS := qHS_rowA (B := qup B o 12 n) (qHS_row (N := qup N 82 27 n) h.2.2.2.2.2.1 (by rw [qup_ne (by omega)]) (qup_row (by omega)) (qup_row (by omega)) (qup_row (by omega)) (qup_row (by omega)) (qup_row (by omega)) (qup_row (by omega))) (qup_row g.2.1) (qup_row g.2.2)
  unfold qRS
  rw [qup_self, qup_self, if_pos hn, qup_ne (a := 82) (a' := 82) (k' := 0) (by omega), qup_ne (a := 82) (a' := 82) (k' := 1) (by omega), qup_ne (a := 82) (a' := 82) (k' := 2) (by omega), qup_ne (a := o) (a' := o) (k' := 10) (by omega), qup_ne (a := o) (a' := o) (k' := 11) (by omega), qup_ne (a := o) (a' := o) (k' := 13) (by omega)]
  refine ⟨h.1, h.2.1, fun k a b => ?_, fun q a b => ?_, fun k a b => ?_, hS, rfl⟩
  · rw [qup_ne (a := 82) (by omega), qup_ne (a := o) (by omega)]
    exact h.2.2.1 k a b
  · have hq := h.2.2.2.1 q a b
    rw [qup_ne (a := 82) (a' := 84) (by omega), qup_ne (a := 82) (a' := 85) (by omega), qup_ne (a := 82) (a' := 86) (by omega), qup_ne (a := 82) (a' := 87) (by omega), qup_ne (a := 82) (a' := 88) (by omega), qup_ne (a := o) (a' := o + 2) (by omega), qup_ne (a := o) (a' := o + 3) (by omega), qup_ne (a := o) (a' := o + 4) (by omega), qup_ne (a := o) (a' := o + 5) (by omega), qup_ne (a := o) (a' := o + 6) (by omega), qup_ne (a := o) (a' := o + 8) (by omega)]
    exact hq
  · rw [qup_ne (a := 82) (by omega), qup_ne (a := o) (by omega)]
    exact h.2.2.2.2.1 k a b
theorem qTf_up {N : qMem} {a k v : Int} (h : a = 83 ∨ a = 86 ∨ a = 87 ∨ a = 88 ∨ a = 99 ∨ (a = 82 ∧ (k = 1 ∨ k = 2 ∨ k = 27 ∨ k = 29 ∨ k = 30))) : qTf (qup N a k v) N := ⟨fun a' _ _ _ _ _ _ => qup_row (by omega), fun k' _ _ _ _ _ => qup_ne (by omega)⟩
theorem qMT_work {N A B : qMem} {p w : Int} (h : qMT N A B) (hF : qSF B 21) : qMT (qup N 86 p w) A (qup B 25 p w) :=
  ⟨qRS_work (o := 21) h.1 hF, qKept_f h.2.1 (qTf_up (by omega)), by rw [qup_ne (by omega)]; exact h.2.2.1, by rw [qup_ne (by omega)]; exact h.2.2.2⟩
theorem qMT_room {N A B : qMem} {n : Int} (h : qMT N A B) (hF : qSF B 21) (hn : 0 ≤ n) : qMT (qup N 82 27 n) A (qup B 21 12 n) :=
  ⟨qRS_room (o := 21) h.1 hF hn, qKept_f h.2.1 (qTf_up (by omega)), by rw [qup_ne (by omega)]; exact h.2.2.1, by rw [qup_ne (by omega)]; exact h.2.2.2⟩
theorem sT_goes {N A B : qMem} {p : Int} (h : qMT N A B) (hF : qSF B 21) (p1 : 0 ≤ p) (p2 : p < 6) : ∃ N', S_X12_goes [qA 82, qI p, qI 1] (qH0 N) = some (none, qH0 N') ∧ qMT N' A (qup B 29 p 1) ∧ qTf N' N := by
  obtain ⟨a, q1, q2, q3⟩ := sX12_goes_y h.1.2.1.1 h.1.2.1.2 p1 p2
  exact ⟨_, q1, ⟨qRS_gone (o := 21) h.1 hF q2 q3, qKept_f h.2.1 (qTf_up (by omega)), by rw [qup_ne (by omega)]; exact h.2.2.1, by rw [qup_ne (by omega)]; exact h.2.2.2⟩, qTf_up (by omega)⟩
