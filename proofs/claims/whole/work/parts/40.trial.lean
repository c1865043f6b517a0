/-! trials -/
def qNow (A : qMem) : Prop := qSF A 12 ∧ qSV A 12 0 ∧ A 12 1 = 99999 ∧ A 12 11 ≤ 9999 ∧ A 21 1 = 2147483647
def fTr (A : qMem) : qMem := fBec A 21 12
def qTr (B : qMem) (k : Int) : Prop := qSF B 21 ∧ qSV B 21 0 ∧ B 21 1 = 2147483647 ∧ B 21 11 ≤ 9999 + k
/-- but for the trial alike -/
def qCu (N M : qMem) : Prop := (∀ a : Int, a < 21 ∨ 29 < a → N a = M a) ∧ N 21 1 = M 21 1
theorem qCu_r {M : qMem} : qCu M M := ⟨fun _ _ => rfl, rfl⟩
theorem qCu_t {L N M : qMem} (h1 : qCu L N) (h2 : qCu N M) : qCu L M := ⟨fun a h => (h1.1 a h).trans (h2.1 a h), h1.2.trans h2.2⟩
theorem fTr_x {A : qMem} : qCu (fTr A) A := ⟨fun a h => fBec_row (by omega), fBec_1 (by omega)⟩
theorem fTr_E {A : qMem} : qSE (fTr A) 21 A 12 := fBec_E (Or.inr (Or.inl rfl)) (Or.inl rfl) (by omega)
theorem qHl_r {g : Int} (h : qHl g) : g < 21 ∨ 29 < g := by unfold qHl at h; omega
theorem qHl_r2 {g : Int} (h : qHl g) : g + 2 < 21 ∨ 29 < g + 2 := by unfold qHl at h; omega
theorem fTr_T {A : qMem} (h : qNow A) : qTr (fTr A) 0 := by
  obtain ⟨h1, h2, h3, h4, h5⟩ := h
  have e1 : fTr A 21 1 = 2147483647 := by rw [fTr_x.2]; exact h5
  have hg := h1.2.2.2.2.2.2.1
  refine ⟨qSE_F fTr_E (Or.inr (Or.inl rfl)) (by omega) h1 (fTr_x.1 _ (qHl_r hg)) (fTr_x.1 _ (qHl_r2 hg)), qSE_V fTr_E h2 (by omega), e1, ?_⟩
  rw [fTr_E.1.2.1]
  omega
theorem sT_becomes {A : qMem} (h : qNow A) : S_X8_becomes [qA 21, qA 12] (qH0 A) = some (none, qH0 (fTr A)) := by
  have hg := h.1.2.2.2.2.2.2.1
  exact sX8_becomes (Or.inr (Or.inl rfl)) (Or.inl rfl) (by omega) (by unfold qHl at hg; omega)
theorem fMin_T {B : qMem} {k : Int} (h : qTr B k) (n : Nat) (hn : k + n ≤ 200) : qTr (fMin B 21 n) (k + n) := by
  obtain ⟨h1, h2, h3, h4⟩ := h
  have I := fMin_I h1 h2 n (by omega)
  refine ⟨I.1, I.2.1, ?_, ?_⟩
  · rw [fMin_0 (by omega)]
    exact h3
  · rw [I.2.2]
    omega
theorem fMin_x {B : qMem} (n : Nat) : qCu (fMin B 21 n) B := ⟨fun a h => fMin_row (by omega) (by omega) (by omega) (by omega) n, fMin_0 (by omega) n⟩
theorem sT_minutesGo {B : qMem} {k n : Int} (h : qTr B k) (h0 : 0 ≤ n) (hk : k + n ≤ 200) (hk0 : 0 ≤ k) : S_X8_minutesGo [qA 21, qI n] (qH0 B) = some (some (qI (fMin B 21 n.toNat 22 4)), qH0 (fMin B 21 n.toNat)) := by
  obtain ⟨h1, h2, h3, h4⟩ := h
  have hm := h2.1
  exact sX8_minutesGo h1 h2 h0 (by omega) (by omega)
theorem sX11_yieldAsIs {A : qMem} (h : qNow A) : S_X11_yieldAsIs [qA 0] (qH0 A) = some (some (qI (fMin (fTr A) 21 30 22 4)), qH0 (fMin (fTr A) 21 30)) := by
  have s1 := sT_becomes h
  have s2 : S_X8_minutesGo [qA 21, qI 30] (qH0 (fTr A)) = some (some (qI (fMin (fTr A) 21 30 22 4)), qH0 (fMin (fTr A) 21 30)) := sT_minutesGo (fTr_T h) (by omega) (by omega) (by omega)
  simp (disch := first | assumption | omega) only [E_X11_yieldAsIs, B_X11_yieldAsIs_0, B_X11_yieldAsIs_11, B_X11_yieldAsIs_20, not_true_eq_false, not_false_eq_true, if_true, if_false, qlk, qtk, qif_t, qif_f, qbd_some, Option.toList_some, Option.toList_none, List.cons_append, List.nil_append, List.append_nil, s1, s2]
/-! the reference in a trial -/
def qMN (N A : qMem) : Prop := qRS N A 12 ∧ N 82 27 = -1 ∧ N 82 29 = 99999 ∧ N 82 30 = 9999
def qMx (N M : qMem) : Prop := (∀ a : Int, ¬ a = 82 → ¬ a = 83 → ¬ a = 86 → ¬ a = 87 → ¬ a = 88 → ¬ a = 99 → ¬ a = 100 → ¬ a = 101 → ¬ a = 102 → ¬ a = 103 → N a = M a) ∧ (∀ k : Int, ¬ k = 1 → ¬ k = 2 → ¬ k = 27 → ¬ k = 29 → ¬ k = 30 → ¬ k = 31 → ¬ k = 32 → N 82 k = M 82 k)
theorem qMx_r {M : qMem} : qMx M M := ⟨fun _ _ _ _ _ _ _ _ _ _ _ => rfl, fun _ _ _ _ _ _ _ _ => rfl⟩
theorem qMx_t {L N M : qMem} (h1 : qMx L N) (h2 : qMx N M) : qMx L M := ⟨fun a b c d e f g h i j k => (h1.1 a b c d e f g h i j k).trans (h2.1 a b c d e f g h i j k), fun k a b c d e f g => (h1.2 k a b c d e f g).trans (h2.2 k a b c d e f g)⟩
theorem qMx_f {N M : qMem} (h : qTf N M) : qMx N M := ⟨fun a b c d e f g _ _ _ _ => h.1 a b c d e f g, fun k a b c d e _ _ => h.2 k a b c d e⟩
def qMT (N A B : qMem) : Prop := qRS N B 21 ∧ qKept N A ∧ N 82 29 = 2000000000 ∧ N 82 30 = 2000000000
theorem sT_save {N A : qMem} (h : qMN N A) (hA : qNow A) : ∃ N', S_X12_save [qA 82] (qH0 N) = some (none, qH0 N') ∧ qMT N' A (fTr A) ∧ N' 82 27 = -1 ∧ qMx N' N := by
  obtain ⟨N', q1, q2, q3, q4, q5, q6, q7⟩ := sX12_save h.1 h.2.1
  have hg := hA.1.2.2.2.2.2.2.1
  refine ⟨N', q1, ⟨qRS_E q2 fTr_E (fTr_x.1 _ (qHl_r hg)) (fTr_x.1 _ (qHl_r2 hg)), q3, q4, q5⟩, by rw [q7 27 (by omega) (by omega) (by omega) (by omega)]; exact h.2.1, fun a a1 _ _ _ _ _ a2 a3 a4 a5 => q6 a a1 a2 a3 a4 a5, fun k _ _ _ k1 k2 k3 k4 => q7 k k1 k2 k3 k4⟩
theorem sT_goMinutes {N A B : qMem} {k n : Int} (h : qMT N A B) (hT : qTr B k) (h0 : 0 ≤ n) (hk : k + n ≤ 200) (hk0 : 0 ≤ k) : ∃ N', S_X12_goMinutes [qA 82, qI n] (qH0 N) = some (none, qH0 N') ∧ qMT N' A (fMin B 21 n.toNat) ∧ qMf N' N := by
  obtain ⟨t1, t2, t3, t4⟩ := hT
  have hm := t2.1
  have hC : qCap N B 21 n := ⟨Or.inr ⟨by rw [h.2.2.1]; omega, by omega⟩, by rw [h.2.2.1]; omega, by rw [h.2.2.2]; omega, by rw [h.2.2.2]; omega⟩
  obtain ⟨N', q1, q2, q3⟩ := sX12_goMinutes t1 t2 h.1 h0 hC (by omega) (by omega)
  exact ⟨N', q1, ⟨q2, qKept_f h.2.1 (qTf_m q3), by rw [q3.2 29 (by omega)]; exact h.2.2.1, by rw [q3.2 30 (by omega)]; exact h.2.2.2⟩, q3⟩
theorem sT_goMinute {N A B : qMem} {k : Int} (h : qMT N A B) (hT : qTr B k) (hk : k + 1 ≤ 200) (hk0 : 0 ≤ k) : ∃ N', S_X12_goMinute [qA 82] (qH0 N) = some (none, qH0 N') ∧ qMT N' A (fMin B 21 1) ∧ qMf N' N := by
  obtain ⟨t1, t2, t3, t4⟩ := hT
  have hm := t2.1
  have hC : qCap N B 21 1 := ⟨Or.inr ⟨by rw [h.2.2.1]; omega, by omega⟩, by rw [h.2.2.1]; omega, by rw [h.2.2.2]; omega, by rw [h.2.2.2]; omega⟩
  obtain ⟨N', q1, q2, q3⟩ := sX12_goMinute t1 t2 h.1 hC (by omega)
  exact ⟨N', q1, ⟨q2, qKept_f h.2.1 (qTf_m q3), by rw [q3.2 29 (by omega)]; exact h.2.2.1, by rw [q3.2 30 (by omega)]; exact h.2.2.2⟩, q3⟩
theorem sT_putBack {N A B : qMem} (h : qMT N A B) : ∃ N', S_X12_putBack [qA 82] (qH0 N) = some (none, qH0 N') ∧ qMN N' A ∧ qTf N' N := by
  obtain ⟨N', q1, q2, q3, q4, q5, q6⟩ := sX12_putBack h.2.1
  exact ⟨N', q1, ⟨q2, q5, q3, q4⟩, q6⟩
theorem sX12_yieldThen {N A B : qMem} {k n : Int} (h : qMT N A B) (hT : qTr B k) (h0 : 0 ≤ n) (hk : k + n ≤ 200) (hk0 : 0 ≤ k) : ∃ N', S_X12_yieldThen [qA 82, qI n] (qH0 N) = some (some (qI (fMin B 21 n.toNat 22 4)), qH0 N') ∧ qMN N' A ∧ qMx N' N := by
  obtain ⟨N1, q1, q2, q3⟩ := sT_goMinutes h hT h0 hk hk0
  obtain ⟨N2, r1, r2, r3⟩ := sT_putBack q2
  have e : N1 83 4 = fMin B 21 n.toNat 22 4 := q2.1.2.2.1 4 (by omega) (by omega)
  refine ⟨N2, ?_, r2, qMx_t (qMx_f r3) (qMx_f (qTf_m q3))⟩
  simp (disch := first | assumption | omega) only [E_X12_yieldThen, B_X12_yieldThen_0, B_X12_yieldThen_5, B_X12_yieldThen_16, not_true_eq_false, not_false_eq_true, if_true, if_false, qlk, qtk, qif_t, qif_f, qbd_some, Option.toList_some, Option.toList_none, List.cons_append, List.nil_append, List.append_nil, q1, r1, e]
theorem sX12_yield0 {N A : qMem} (h : qMN N A) (hA : qNow A) : ∃ N', S_X12_yield0 [qA 82] (qH0 N) = some (some (qI (fMin (fTr A) 21 30 22 4)), qH0 N') ∧ qMN N' A ∧ qMx N' N := by
  obtain ⟨N1, q1, q2, q3, q4⟩ := sT_save h hA
  obtain ⟨N2, r1, r2, r3⟩ := sX12_yieldThen (n := 30) q2 (fTr_T hA) (by omega) (by omega) (by omega)
  have r1' : S_X12_yieldThen [qA 82, qI 30] (qH0 N1) = some (some (qI (fMin (fTr A) 21 30 22 4)), qH0 N2) := r1
  refine ⟨N2, ?_, r2, qMx_t r3 q4⟩
  simp (disch := first | assumption | omega) only [E_X12_yield0, B_X12_yield0_0, B_X12_yield0_4, B_X12_yield0_10, not_true_eq_false, not_false_eq_true, if_true, if_false, qlk, qtk, qif_t, qif_f, qbd_some, Option.toList_some, Option.toList_none, List.cons_append, List.nil_append, List.append_nil, q1, r1']
