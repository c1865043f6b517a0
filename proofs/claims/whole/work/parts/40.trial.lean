/-! trials -/
def qNow (A : qMem) : Prop := qSF A 12 ∧ qSV A 12 0 ∧ A 12 1 = 99999 ∧ A 12 11 ≤ 9999 ∧ A 21 1 = 2147483647
def fTr (A : qMem) : qMem := fBec A 21 12
def qTr (B : qMem) (k : Int) : Prop := qSF B 21 ∧ qSV B 21 0 ∧ B 21 1 = 2147483647 ∧ B 21 11 ≤ 9999 + k
/-- what a trial may write -/
def qIn (a k : Int) : Prop := (a = 21 ∧ 10 ≤ k ∧ k ≤ 13) ∨ (a = 22 ∧ 0 ≤ k ∧ k < 5) ∨ (((23 ≤ a ∧ a ≤ 27) ∨ a = 29) ∧ 0 ≤ k ∧ k < 6) ∨ (a = 28 ∧ 0 ≤ k ∧ k < 24)
/-- but for the trial alike -/
def qCu (N M : qMem) : Prop := ∀ a k : Int, ¬ qIn a k → N a k = M a k
theorem qCu_r {M : qMem} : qCu M M := fun _ _ _ => rfl
theorem qCu_t {L N M : qMem} (h1 : qCu L N) (h2 : qCu N M) : qCu L M := fun a k h => (h1 a k h).trans (h2 a k h)
theorem qCu_row {N M : qMem} {a : Int} (h : qCu N M) (ha : a < 21 ∨ 29 < a) : N a = M a := funext (fun k => h a k (by unfold qIn; omega))
theorem qCu_1 {N M : qMem} (h : qCu N M) : N 21 1 = M 21 1 := h 21 1 (by unfold qIn; omega)
theorem qCu_up {M : qMem} {a k v : Int} (h : qIn a k) : qCu (qup M a k v) M := fun a' k' h' => qup_ne (fun q => h' (by rw [q.1, q.2]; exact h))
theorem qcp_out {M : qMem} {a sp d dp n a' k' : Int} (h : ¬ (a' = d ∧ dp ≤ k' ∧ k' < dp + n)) : qcp M a sp d dp n a' k' = M a' k' := if_neg h
theorem fTr_x {A : qMem} : qCu (fTr A) A := fun a k h => by
  unfold qIn at h
  unfold fTr fBec
  rw [qup_ne (by omega), qup_ne (by omega), qup_ne (by omega), qup_ne (by omega), qcp_out (by omega), qcp_out (by omega), qcp_out (by omega), qcp_out (by omega), qcp_out (by omega), qcp_out (by omega), qcp_out (by omega), qcp_out (by omega)]
theorem fTr_E {A : qMem} : qSE (fTr A) 21 A 12 := fBec_E (Or.inr (Or.inl rfl)) (Or.inl rfl) (by omega)
theorem qHl_r {g : Int} (h : qHl g) : g < 21 ∨ 29 < g := by unfold qHl at h; omega
theorem qHl_r2 {g : Int} (h : qHl g) : g + 2 < 21 ∨ 29 < g + 2 := by unfold qHl at h; omega
theorem fTr_T {A : qMem} (h : qNow A) : qTr (fTr A) 0 := by
  obtain ⟨h1, h2, h3, h4, h5⟩ := h
  have e1 : fTr A 21 1 = 2147483647 := by rw [qCu_1 fTr_x]; exact h5
  have hg := h1.2.2.2.2.2.2.1
  refine ⟨qSE_F fTr_E (Or.inr (Or.inl rfl)) (by omega) h1 (qCu_row fTr_x (qHl_r hg)) (qCu_row fTr_x (qHl_r2 hg)), qSE_V fTr_E h2 (by omega), e1, ?_⟩
  rw [fTr_E.1.2.1]
  omega
theorem sT_becomes {A : qMem} (h : qNow A) : S_X8_becomes [qA 21, qA 12] (qH0 A) = some (none, qH0 (fTr A)) := by
  have hg := h.1.2.2.2.2.2.2.1
  exact sX8_becomes (Or.inr (Or.inl rfl)) (Or.inl rfl) (by omega) (by unfold qHl at hg; omega)
theorem fMin_T {B : qMem} {k : Int} (h : qTr B k) (n : Nat) (hn : k + n ≤ 200) : qTr (fMin B 21 n) (k + n) := by
  obtain ⟨h1, h2, h3, h4⟩ := h
  have I := fMin_I h1 h2 n (by omega)
  refine ⟨I.1, I.2.1, ?_, ?_⟩
  · rw [fMin_0 (by omega)]
    exact h3
  · rw [I.2.2]
    omega
theorem fWorks_x {B : qMem} {p j : Int} (hF : qSF B 21) (h1 : 0 ≤ p) (h2 : p < 6) : qCu (fWorks B 21 p) B := by
  have hw := (hF.2.2.2.2.1 p h1 h2).2.2.1
  have hw' : 0 ≤ B 25 p ∧ B 25 p ≤ 3 := hw
  unfold fWorks
  split
  · refine qCu_t (qCu_up ?_) (qCu_t (qCu_up ?_) (qCu_up ?_))
    · show qIn 26 p
      unfold qIn
      omega
    · show qIn 22 (B 25 p + 1)
      unfold qIn
      omega
    · show qIn 22 (B 25 p)
      unfold qIn
      omega
  · refine qCu_up ?_
    show qIn 27 p
    unfold qIn
    omega
theorem fPp_x {B : qMem} (hF : qSF B 21) (hV : qSV B 21 0) : ∀ j : Nat, (j : Int) ≤ 6 → qCu (fPp B 21 j) B
  | 0, _ => qCu_r
  | j + 1, hj => by
    have ih := fPp_x hF hV j (by omega)
    have I := fPp_I hF hV j (by omega)
    unfold fPp
    split
    · exact qCu_t (fWorks_x (j := 0) I.1 (by omega) (by omega)) ih
    · exact ih
theorem fMi_x {B : qMem} (hF : qSF B 21) (hV : qSV B 21 0) : qCu (fMi B 21) B := by
  have hn := hF.2.1
  unfold fMi
  refine qCu_t (qCu_up (by unfold qIn; omega)) (qCu_t (qCu_up ?_) (fPp_x hF hV _ (by omega)))
  show qIn 22 0
  unfold qIn
  omega
theorem fMin_x {B : qMem} {k : Int} (h : qTr B k) : ∀ n : Nat, k + n ≤ 200 → qCu (fMin B 21 n) B
  | 0, _ => qCu_r
  | n + 1, hn => by
    have hT := fMin_T h n (by omega)
    exact qCu_t (fMi_x hT.1 hT.2.1) (fMin_x h n (by omega))
theorem qNow_u {N M : qMem} (h : qNow M) (u : qCu N M) : qNow N := by
  obtain ⟨h1, h2, h3, h4, h5⟩ := h
  have hg := h1.2.2.2.2.2.2.1
  have r := fun (a : Int) (ha : a < 21 ∨ 29 < a) => qCu_row u ha
  refine ⟨qSF_row h1 (by rw [r 12 (by omega)]) (by rw [r 12 (by omega)]) (by rw [r 12 (by omega)]) (by rw [r 12 (by omega)]) (r 14 (by omega)) (r 15 (by omega)) (r 16 (by omega)) (r 19 (by omega)) (r 20 (by omega)) (r _ (qHl_r hg)) (r _ (qHl_r2 hg)), ?_, by rw [r 12 (by omega)]; exact h3, by rw [r 12 (by omega)]; exact h4, by rw [qCu_1 u]; exact h5⟩
  have e13 : N (12 + 1) = M (12 + 1) := r 13 (by omega)
  have e17 : N (12 + 5) = M (12 + 5) := r 17 (by omega)
  have e18 : N (12 + 6) = M (12 + 6) := r 18 (by omega)
  unfold qSV
  rw [r 12 (by omega), e13, e17, e18]
  exact h2
theorem fTr_u {N M : qMem} (u : qCu N M) : fTr N = fTr M := by
  funext a k
  by_cases c : qIn a k
  · have E1 := fTr_E (A := N)
    have E2 := fTr_E (A := M)
    have r := fun (a : Int) (ha : a < 21 ∨ 29 < a) => qCu_row u ha
    unfold qIn at c
    rcases c with ⟨rfl, c1, c2⟩ | ⟨rfl, c1, c2⟩ | ⟨c0, c1, c2⟩ | ⟨rfl, c1, c2⟩
    · have e : k = 10 ∨ k = 11 ∨ k = 12 ∨ k = 13 := by omega
      rcases e with rfl | rfl | rfl | rfl
      · rw [E1.1.1, E2.1.1, r 12 (by omega)]
      · rw [E1.1.2.1, E2.1.2.1, r 12 (by omega)]
      · rw [E1.1.2.2.1, E2.1.2.2.1, r 12 (by omega)]
      · rw [E1.1.2.2.2, E2.1.2.2.2, r 12 (by omega)]
    · exact (E1.2.1 k c1 c2).trans ((congrFun (r 13 (by omega)) k).trans (E2.2.1 k c1 c2).symm)
    · have F1 := E1.2.2.1 k c1 c2
      have F2 := E2.2.2.1 k c1 c2
      have e : a = 23 ∨ a = 24 ∨ a = 25 ∨ a = 26 ∨ a = 27 ∨ a = 29 := by omega
      rcases e with rfl | rfl | rfl | rfl | rfl | rfl
      · exact F1.1.trans ((congrFun (r 14 (by omega)) k).trans F2.1.symm)
      · exact F1.2.1.trans ((congrFun (r 15 (by omega)) k).trans F2.2.1.symm)
      · exact F1.2.2.1.trans ((congrFun (r 16 (by omega)) k).trans F2.2.2.1.symm)
      · exact F1.2.2.2.1.trans ((congrFun (r 17 (by omega)) k).trans F2.2.2.2.1.symm)
      · exact F1.2.2.2.2.1.trans ((congrFun (r 18 (by omega)) k).trans F2.2.2.2.2.1.symm)
      · exact F1.2.2.2.2.2.trans ((congrFun (r 20 (by omega)) k).trans F2.2.2.2.2.2.symm)
    · exact (E1.2.2.2 k c1 c2).trans ((congrFun (r 19 (by omega)) k).trans (E2.2.2.2 k c1 c2).symm)
  · rw [fTr_x a k c, fTr_x a k c, u a k c]
theorem sT_minutesGo {B : qMem} {k n : Int} (h : qTr B k) (h0 : 0 ≤ n) (hk : k + n ≤ 200) (hk0 : 0 ≤ k) : S_X8_minutesGo [qA 21, qI n] (qH0 B) = some (some (qI (fMin B 21 n.toNat 22 4)), qH0 (fMin B 21 n.toNat)) := by
  obtain ⟨h1, h2, h3, h4⟩ := h
  have hm := h2.1
  exact sX8_minutesGo h1 h2 h0 (by omega) (by omega)
theorem sX11_yieldAsIs {A : qMem} (h : qNow A) : S_X11_yieldAsIs [qA 0] (qH0 A) = some (some (qI (fMin (fTr A) 21 30 22 4)), qH0 (fMin (fTr A) 21 30)) := by
  have s1 := sT_becomes h
  have s2 : S_X8_minutesGo [qA 21, qI 30] (qH0 (fTr A)) = some (some (qI (fMin (fTr A) 21 30 22 4)), qH0 (fMin (fTr A) 21 30)) := sT_minutesGo (fTr_T h) (by omega) (by omega) (by omega)
  simp (disch := first | assumption | omega) only [E_X11_yieldAsIs, B_X11_yieldAsIs_0, B_X11_yieldAsIs_11, B_X11_yieldAsIs_20, not_true_eq_false, not_false_eq_true, if_true, if_false, qlk, qtk, qif_t, qif_f, qbd_some, Option.toList_some, Option.toList_none, List.cons_append, List.nil_append, List.append_nil, s1, s2]
/-! the reference in a trial -/
def qMN (N A : qMem) : Prop := qRS N A 12 ∧ N 82 27 = -1 ∧ N 82 29 = 99999 ∧ N 82 30 = 9999
def qMx (N M : qMem) : Prop := (∀ a : Int, ¬ a = 82 → ¬ a = 83 → ¬ a = 86 → ¬ a = 87 → ¬ a = 88 → ¬ a = 99 → ¬ a = 100 → ¬ a = 101 → ¬ a = 102 → ¬ a = 103 → N a = M a) ∧ (∀ k : Int, ¬ k = 1 → ¬ k = 2 → ¬ k = 27 → ¬ k = 29 → ¬ k = 30 → ¬ k = 31 → ¬ k = 32 → N 82 k = M 82 k)
theorem qMx_r {M : qMem} : qMx M M := ⟨fun _ _ _ _ _ _ _ _ _ _ _ => rfl, fun _ _ _ _ _ _ _ _ => rfl⟩
theorem qMx_t {L N M : qMem} (h1 : qMx L N) (h2 : qMx N M) : qMx L M := ⟨fun a b c d e f g h i j k => (h1.1 a b c d e f g h i j k).trans (h2.1 a b c d e f g h i j k), fun k a b c d e f g => (h1.2 k a b c d e f g).trans (h2.2 k a b c d e f g)⟩
theorem qMx_f {N M : qMem} (h : qTf N M) : qMx N M := ⟨fun a b c d e f g _ _ _ _ => h.1 a b c d e f g, fun k a b c d e _ _ => h.2 k a b c d e⟩
def qMT (N A B : qMem) : Prop := qRS N B 21 ∧ qKept N A ∧ N 82 29 = 2000000000 ∧ N 82 30 = 2000000000
theorem sT_save {N A : qMem} (h : qMN N A) (hA : qNow A) : ∃ N', S_X12_save [qA 82] (qH0 N) = some (none, qH0 N') ∧ qMT N' A (fTr A) ∧ N' 82 27 = -1 ∧ qMx N' N := by
  obtain ⟨N', q1, q2, q3, q4, q5, q6, q7⟩ := sX12_save h.1 h.2.1
  have hg := hA.1.2.2.2.2.2.2.1
  refine ⟨N', q1, ⟨qRS_E q2 fTr_E (qCu_row fTr_x (qHl_r hg)) (qCu_row fTr_x (qHl_r2 hg)), q3, q4, q5⟩, by rw [q7 27 (by omega) (by omega) (by omega) (by omega)]; exact h.2.1, fun a a1 _ _ _ _ _ a2 a3 a4 a5 => q6 a a1 a2 a3 a4 a5, fun k _ _ _ k1 k2 k3 k4 => q7 k k1 k2 k3 k4⟩
theorem sT_goMinutes {N A B : qMem} {k n : Int} (h : qMT N A B) (hT : qTr B k) (h0 : 0 ≤ n) (hk : k + n ≤ 200) (hk0 : 0 ≤ k) : ∃ N', S_X12_goMinutes [qA 82, qI n] (qH0 N) = some (none, qH0 N') ∧ qMT N' A (fMin B 21 n.toNat) ∧ qMf N' N := by
  obtain ⟨t1, t2, t3, t4⟩ := hT
  have hm := t2.1
  have hC : qCap N B 21 n := ⟨Or.inr ⟨by rw [h.2.2.1]; omega, by omega⟩, by rw [h.2.2.1]; omega, by rw [h.2.2.2]; omega, by rw [h.2.2.2]; omega⟩
  obtain ⟨N', q1, q2, q3⟩ := sX12_goMinutes t1 t2 h.1 h0 hC (by omega) (by omega)
  exact ⟨N', q1, ⟨q2, qKept_f h.2.1 (qTf_m q3), by rw [q3.2 29 (by omega)]; exact h.2.2.1, by rw [q3.2 30 (by omega)]; exact h.2.2.2⟩, q3⟩
theorem sT_goMinute {N A B : qMem} {k : Int} (h : qMT N A B) (hT : qTr B k) (hk : k + 1 ≤ 200) (hk0 : 0 ≤ k) : ∃ N', S_X12_goMinute [qA 82] (qH0 N) = some (none, qH0 N') ∧ qMT N' A (fMin B 21 1) ∧ qMf N' N := by
  obtain ⟨t1, t2, t3, t4⟩ := hT
  have hm := t2.1
  have hC : qCap N B 21 1 := ⟨Or.inr ⟨by rw [h.2.2.1]; omega, by omega⟩, by rw [h.2.2.1]; omega, by rw [h.2.2.2]; omega, by rw [h.2.2.2]; omega⟩
  obtain ⟨N', q1, q2, q3⟩ := sX12_goMinute t1 t2 h.1 hC (by omega)
  exact ⟨N', q1, ⟨q2, qKept_f h.2.1 (qTf_m q3), by rw [q3.2 29 (by omega)]; exact h.2.2.1, by rw [q3.2 30 (by omega)]; exact h.2.2.2⟩, q3⟩
theorem sT_putBack {N A B : qMem} (h : qMT N A B) : ∃ N', S_X12_putBack [qA 82] (qH0 N) = some (none, qH0 N') ∧ qMN N' A ∧ qTf N' N := by
  obtain ⟨N', q1, q2, q3, q4, q5, q6⟩ := sX12_putBack h.2.1
  exact ⟨N', q1, ⟨q2, q5, q3, q4⟩, q6⟩
theorem sX12_yieldThen {N A B : qMem} {k n : Int} (h : qMT N A B) (hT : qTr B k) (h0 : 0 ≤ n) (hk : k + n ≤ 200) (hk0 : 0 ≤ k) : ∃ N', S_X12_yieldThen [qA 82, qI n] (qH0 N) = some (some (qI (fMin B 21 n.toNat 22 4)), qH0 N') ∧ qMN N' A ∧ qMx N' N := by
  obtain ⟨N1, q1, q2, q3⟩ := sT_goMinutes h hT h0 hk hk0
  obtain ⟨N2, r1, r2, r3⟩ := sT_putBack q2
  have e : N1 83 4 = fMin B 21 n.toNat 22 4 := q2.1.2.2.1 4 (by omega) (by omega)
  refine ⟨N2, ?_, r2, qMx_t (qMx_f r3) (qMx_f (qTf_m q3))⟩
  simp (disch := first | assumption | omega) only [E_X12_yieldThen, B_X12_yieldThen_0, B_X12_yieldThen_5, B_X12_yieldThen_16, not_true_eq_false, not_false_eq_true, if_true, if_false, qlk, qtk, qif_t, qif_f, qbd_some, Option.toList_some, Option.toList_none, List.cons_append, List.nil_append, List.append_nil, q1, r1, e]
theorem sX12_yield0 {N A : qMem} (h : qMN N A) (hA : qNow A) : ∃ N', S_X12_yield0 [qA 82] (qH0 N) = some (some (qI (fMin (fTr A) 21 30 22 4)), qH0 N') ∧ qMN N' A ∧ qMx N' N := by
  obtain ⟨N1, q1, q2, q3, q4⟩ := sT_save h hA
  obtain ⟨N2, r1, r2, r3⟩ := sX12_yieldThen (n := 30) q2 (fTr_T hA) (by omega) (by omega) (by omega)
  have r1' : S_X12_yieldThen [qA 82, qI 30] (qH0 N1) = some (some (qI (fMin (fTr A) 21 30 22 4)), qH0 N2) := r1
  refine ⟨N2, ?_, r2, qMx_t r3 q4⟩
  simp (disch := first | assumption | omega) only [E_X12_yield0, B_X12_yield0_0, B_X12_yield0_4, B_X12_yield0_10, not_true_eq_false, not_false_eq_true, if_true, if_false, qlk, qtk, qif_t, qif_f, qbd_some, Option.toList_some, Option.toList_none, List.cons_append, List.nil_append, List.append_nil, q1, r1']
