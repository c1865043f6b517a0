/-! the reference: small ones -/
theorem sX12_in_y {M : qMem} {a b c : Int} (h : b ≤ a ∧ a ≤ c) : S_X12_in [qA 82, qI a, qI b, qI c] (qH0 M) = some (some (qI 1), qH0 M) := by
  simp (disch := first | assumption | omega) only [E_X12_in, B_X12_in_0, B_X12_in_5, B_X12_in_10, B_X12_in_14, B_X12_in_15, not_true_eq_false, not_false_eq_true, if_true, if_false, qlk, qtk, qif_t, qif_f, qbd_some, Option.toList_some, Option.toList_none, List.cons_append, List.nil_append, List.append_nil]
theorem sX12_in_n {M : qMem} {a b c : Int} (h : ¬ (b ≤ a ∧ a ≤ c)) : S_X12_in [qA 82, qI a, qI b, qI c] (qH0 M) = some (some (qI 0), qH0 M) := by
  by_cases h1 : a < b
  · simp (disch := first | assumption | omega) only [E_X12_in, B_X12_in_0, B_X12_in_5, B_X12_in_10, B_X12_in_14, B_X12_in_15, not_true_eq_false, not_false_eq_true, if_true, if_false, qlk, qtk, qif_t, qif_f, qbd_some, Option.toList_some, Option.toList_none, List.cons_append, List.nil_append, List.append_nil]
  · simp (disch := first | assumption | omega) only [E_X12_in, B_X12_in_0, B_X12_in_5, B_X12_in_10, B_X12_in_14, B_X12_in_15, not_true_eq_false, not_false_eq_true, if_true, if_false, qlk, qtk, qif_t, qif_f, qbd_some, Option.toList_some, Option.toList_none, List.cons_append, List.nil_append, List.append_nil]
theorem sX12_least {M : qMem} {a b : Int} : S_X12_least [qA 82, qI a, qI b] (qH0 M) = some (some (qI (min a b)), qH0 M) := by
  by_cases h : b ≤ a
  · have e : min a b = b := by omega
    rw [e]
    simp (disch := first | assumption | omega) only [E_X12_least, B_X12_least_0, B_X12_least_5, B_X12_least_9, B_X12_least_10, not_true_eq_false, not_false_eq_true, if_true, if_false, qlk, qtk, qif_t, qif_f, qbd_some, Option.toList_some, Option.toList_none, List.cons_append, List.nil_append, List.append_nil]
  · have e : min a b = a := by omega
    rw [e]
    simp (disch := first | assumption | omega) only [E_X12_least, B_X12_least_0, B_X12_least_5, B_X12_least_9, B_X12_least_10, not_true_eq_false, not_false_eq_true, if_true, if_false, qlk, qtk, qif_t, qif_f, qbd_some, Option.toList_some, Option.toList_none, List.cons_append, List.nil_append, List.append_nil]
def qBit (a p : Int) : Int := a / 2 ^ p.toNat % 2
theorem kand_1 {a : Int} (h1 : 0 ≤ a) (h2 : a ≤ 2147483647) : kand a 1 = a % 2 := by
  obtain ⟨n, rfl⟩ := Int.eq_ofNat_of_zero_le h1
  have e := kand_nat (a := n) (b := 1) (by omega) (by omega)
  rw [Nat.and_two_pow_sub_one_eq_mod n 1] at e
  exact e.trans (by omega)
theorem kbit {a p : Int} (h1 : 0 ≤ a) (h2 : a < 64) (h3 : 0 ≤ p) (h4 : p < 6) : kand (kshr a p) 1 = qBit a p := by
  have e : p = 0 ∨ p = 1 ∨ p = 2 ∨ p = 3 ∨ p = 4 ∨ p = 5 := by omega
  unfold qBit
  rcases e with rfl | rfl | rfl | rfl | rfl | rfl
  · rw [kshr_of (k := 0) (by decide) (by omega) h1 (by omega), kand_1 (by omega) (by omega)]
    rfl
  · rw [kshr_of (k := 1) (by decide) (by omega) h1 (by omega), kand_1 (by omega) (by omega)]
    rfl
  · rw [kshr_of (k := 2) (by decide) (by omega) h1 (by omega), kand_1 (by omega) (by omega)]
    rfl
  · rw [kshr_of (k := 3) (by decide) (by omega) h1 (by omega), kand_1 (by omega) (by omega)]
    rfl
  · rw [kshr_of (k := 4) (by decide) (by omega) h1 (by omega), kand_1 (by omega) (by omega)]
    rfl
  · rw [kshr_of (k := 5) (by decide) (by omega) h1 (by omega), kand_1 (by omega) (by omega)]
    rfl
theorem sX12_has {M : qMem} {a p v : Int} (h1 : 0 ≤ a) (h2 : a < 64) (h3 : 0 ≤ p) (h4 : p < 6) (hv : v = 0 ∨ v = 1) (h : qBit a p = v) : S_X12_has [qA 82, qI a, qI p] (qH0 M) = some (some (qI v), qH0 M) := by
  have e := kbit h1 h2 h3 h4
  rcases hv with rfl | rfl
  · simp (disch := first | assumption | omega) only [E_X12_has, B_X12_has_0, B_X12_has_9, B_X12_has_13, B_X12_has_14, not_true_eq_false, not_false_eq_true, if_true, if_false, qlk, qtk, qif_t, qif_f, qbd_some, Option.toList_some, Option.toList_none, List.cons_append, List.nil_append, List.append_nil, e, h]
  · simp (disch := first | assumption | omega) only [E_X12_has, B_X12_has_0, B_X12_has_9, B_X12_has_13, B_X12_has_14, not_true_eq_false, not_false_eq_true, if_true, if_false, qlk, qtk, qif_t, qif_f, qbd_some, Option.toList_some, Option.toList_none, List.cons_append, List.nil_append, List.append_nil, e, h]
theorem sX12_isPerson_y {M : qMem} {a : Int} (hn : 0 ≤ M 82 0) (hn6 : M 82 0 ≤ 6) (h : 0 ≤ a ∧ a < M 82 0) : S_X12_isPerson [qA 82, qI a] (qH0 M) = some (some (qI 1), qH0 M) := by
  have e : ksub (M 82 0) 1 = M 82 0 - 1 := ksub_eq (by omega) (by omega)
  simp (disch := first | assumption | omega) only [E_X12_isPerson, B_X12_isPerson_0, B_X12_isPerson_12, not_true_eq_false, not_false_eq_true, if_true, if_false, qlk, qtk, qif_t, qif_f, qbd_some, Option.toList_some, Option.toList_none, List.cons_append, List.nil_append, List.append_nil, e, sX12_in_y]
theorem sX12_isPerson_n {M : qMem} {a : Int} (hn : 0 ≤ M 82 0) (hn6 : M 82 0 ≤ 6) (h : ¬ (0 ≤ a ∧ a < M 82 0)) : S_X12_isPerson [qA 82, qI a] (qH0 M) = some (some (qI 0), qH0 M) := by
  have e : ksub (M 82 0) 1 = M 82 0 - 1 := ksub_eq (by omega) (by omega)
  simp (disch := first | assumption | omega) only [E_X12_isPerson, B_X12_isPerson_0, B_X12_isPerson_12, not_true_eq_false, not_false_eq_true, if_true, if_false, qlk, qtk, qif_t, qif_f, qbd_some, Option.toList_some, Option.toList_none, List.cons_append, List.nil_append, List.append_nil, e, sX12_in_n]
theorem sX12_isWork_y {M : qMem} {a : Int} (h : 0 ≤ a ∧ a < 4) : S_X12_isWork [qA 82, qI a] (qH0 M) = some (some (qI 1), qH0 M) := by
  simp (disch := first | assumption | omega) only [E_X12_isWork, B_X12_isWork_0, B_X12_isWork_7, not_true_eq_false, not_false_eq_true, if_true, if_false, qlk, qtk, qif_t, qif_f, qbd_some, Option.toList_some, Option.toList_none, List.cons_append, List.nil_append, List.append_nil, sX12_in_y]
theorem sX12_isWork_n {M : qMem} {a : Int} (h : ¬ (0 ≤ a ∧ a < 4)) : S_X12_isWork [qA 82, qI a] (qH0 M) = some (some (qI 0), qH0 M) := by
  simp (disch := first | assumption | omega) only [E_X12_isWork, B_X12_isWork_0, B_X12_isWork_7, not_true_eq_false, not_false_eq_true, if_true, if_false, qlk, qtk, qif_t, qif_f, qbd_some, Option.toList_some, Option.toList_none, List.cons_append, List.nil_append, List.append_nil, sX12_in_n]
theorem sX12_isHeap_y {M : qMem} {a : Int} (h : 0 ≤ a ∧ a < 5) : S_X12_isHeap [qA 82, qI a] (qH0 M) = some (some (qI 1), qH0 M) := by
  simp (disch := first | assumption | omega) only [E_X12_isHeap, B_X12_isHeap_0, B_X12_isHeap_7, not_true_eq_false, not_false_eq_true, if_true, if_false, qlk, qtk, qif_t, qif_f, qbd_some, Option.toList_some, Option.toList_none, List.cons_append, List.nil_append, List.append_nil, sX12_in_y]
theorem sX12_isHeap_n {M : qMem} {a : Int} (h : ¬ (0 ≤ a ∧ a < 5)) : S_X12_isHeap [qA 82, qI a] (qH0 M) = some (some (qI 0), qH0 M) := by
  simp (disch := first | assumption | omega) only [E_X12_isHeap, B_X12_isHeap_0, B_X12_isHeap_7, not_true_eq_false, not_false_eq_true, if_true, if_false, qlk, qtk, qif_t, qif_f, qbd_some, Option.toList_some, Option.toList_none, List.cons_append, List.nil_append, List.append_nil, sX12_in_n]
theorem sX12_isLetters_y {M : qMem} {a : Int} (h : 0 ≤ a ∧ a ≤ 9999) : S_X12_isLetters [qA 82, qI a] (qH0 M) = some (some (qI 1), qH0 M) := by
  simp (disch := first | assumption | omega) only [E_X12_isLetters, B_X12_isLetters_0, B_X12_isLetters_9, not_true_eq_false, not_false_eq_true, if_true, if_false, qlk, qtk, qif_t, qif_f, qbd_some, Option.toList_some, Option.toList_none, List.cons_append, List.nil_append, List.append_nil, sX12_in_y]
theorem sX12_isLetters_n {M : qMem} {a : Int} (h : ¬ (0 ≤ a ∧ a ≤ 9999)) : S_X12_isLetters [qA 82, qI a] (qH0 M) = some (some (qI 0), qH0 M) := by
  simp (disch := first | assumption | omega) only [E_X12_isLetters, B_X12_isLetters_0, B_X12_isLetters_9, not_true_eq_false, not_false_eq_true, if_true, if_false, qlk, qtk, qif_t, qif_f, qbd_some, Option.toList_some, Option.toList_none, List.cons_append, List.nil_append, List.append_nil, sX12_in_n]
theorem sX12_isMinutes_y {M : qMem} {a : Int} (h : 0 ≤ a ∧ a ≤ 60) : S_X12_isMinutes [qA 82, qI a] (qH0 M) = some (some (qI 1), qH0 M) := by
  simp (disch := first | assumption | omega) only [E_X12_isMinutes, B_X12_isMinutes_0, B_X12_isMinutes_8, not_true_eq_false, not_false_eq_true, if_true, if_false, qlk, qtk, qif_t, qif_f, qbd_some, Option.toList_some, Option.toList_none, List.cons_append, List.nil_append, List.append_nil, sX12_in_y]
theorem sX12_isMinutes_n {M : qMem} {a : Int} (h : ¬ (0 ≤ a ∧ a ≤ 60)) : S_X12_isMinutes [qA 82, qI a] (qH0 M) = some (some (qI 0), qH0 M) := by
  simp (disch := first | assumption | omega) only [E_X12_isMinutes, B_X12_isMinutes_0, B_X12_isMinutes_8, not_true_eq_false, not_false_eq_true, if_true, if_false, qlk, qtk, qif_t, qif_f, qbd_some, Option.toList_some, Option.toList_none, List.cons_append, List.nil_append, List.append_nil, sX12_in_n]
theorem sX12_isTape_y {M : qMem} {a : Int} (h : 0 ≤ a ∧ a < 6) : S_X12_isTape [qA 82, qI a] (qH0 M) = some (some (qI 1), qH0 M) := by
  simp (disch := first | assumption | omega) only [E_X12_isTape, B_X12_isTape_0, B_X12_isTape_7, not_true_eq_false, not_false_eq_true, if_true, if_false, qlk, qtk, qif_t, qif_f, qbd_some, Option.toList_some, Option.toList_none, List.cons_append, List.nil_append, List.append_nil, sX12_in_y]
theorem sX12_isTape_n {M : qMem} {a : Int} (h : ¬ (0 ≤ a ∧ a < 6)) : S_X12_isTape [qA 82, qI a] (qH0 M) = some (some (qI 0), qH0 M) := by
  simp (disch := first | assumption | omega) only [E_X12_isTape, B_X12_isTape_0, B_X12_isTape_7, not_true_eq_false, not_false_eq_true, if_true, if_false, qlk, qtk, qif_t, qif_f, qbd_some, Option.toList_some, Option.toList_none, List.cons_append, List.nil_append, List.append_nil, sX12_in_n]
/-! the reference's hall beside the class's -/
def qLet (f : Int) : Int := if f = 0 then 112 else if f = 1 then 107 else if f = 2 then 118 else if f = 3 then 119 else if f = 4 then 100 else 109
def qTk (t x : Int) : Prop := (t = -33 ∧ x = 33) ∨ (t = -38 ∧ x = 38) ∨ (t = -124 ∧ x = 124) ∨
  ∃ f s n : Int, (0 ≤ f ∧ f < 6) ∧ (0 ≤ s ∧ s < 3) ∧ (0 ≤ n ∧ n ≤ 99) ∧ t = 1000 * f + 100 * s + n ∧ x = qLet f + 256 * (60 + s) + 65536 * n
def qDs (t : Int) (d : Nat) : Option Nat := if t = -33 then (if 1 ≤ d then some d else none) else if t < 0 then (if 2 ≤ d then some (d - 1) else none) else some (d + 1)
def qDp (M : qMem) (s : Int) : Nat → Option Nat
  | 0 => some 0
  | k + 1 => (qDp M s k).bind (qDs (M 96 (s + k)))
def qCl (M A : qMem) (c g : Int) (p q : Nat) : Prop := (0 ≤ M 92 c ∧ M 92 c ≤ 3) ∧ (0 ≤ M 93 c ∧ M 93 c ≤ 99) ∧ q ≤ 100 ∧
  (M 92 c ≤ 1 → ∃ len : Nat, 0 ≤ M 94 c ∧ M 95 c = M 94 c + len ∧ M 95 c ≤ 600 ∧ q = p + len + 1 ∧ (∀ k : Nat, k < len → qTk (M 96 (M 94 c + k)) (A (g + 2) ((p + k : Nat) : Int))) ∧ A (g + 2) ((p + len : Nat) : Int) = (if M 92 c = 0 then 98 else 115) + 65536 * M 93 c ∧ qDp M (M 94 c) len = some 1) ∧
  (¬ M 92 c ≤ 1 → q = p)
def fLast (M : qMem) (w d b : Int) : Nat → Int
  | 0 => d
  | i + 1 => if M 92 (b + i) = w then M 93 (b + i) else fLast M w d b i
/-- the reference's hall f says what the class's hall g says -/
def qHR (M A : qMem) (f g : Int) : Prop := ∃ (n : Nat) (P : Nat → Nat), M 91 f = n ∧ n ≤ 10 ∧ P 0 = 0 ∧ (P n : Int) = A g 3 ∧ (∀ i : Nat, i < n → qCl M A (10 * f + i) g (P i) (P (i + 1))) ∧ A g 4 = max 1 (fLast M 2 50 (10 * f) n) ∧ A g 5 = fLast M 3 0 (10 * f) n
def qHS (M A : qMem) (g : Int) : Prop := (M 82 11 = -1 ∧ g = 9 ∧ A 9 3 = 0 ∧ A 9 4 = 50 ∧ A 9 5 = 0) ∨ (0 ≤ M 82 11 ∧ M 82 11 < 6 ∧ g = 53 + 3 * M 82 11 ∧ qHR M A (M 82 11) g)
/-- how many clauses the reference's hall has -/
def fCn (M : qMem) : Nat := if M 82 11 < 0 then 0 else (M 91 (M 82 11)).toNat
def fCb (M : qMem) : Int := if M 82 11 < 0 then 0 else 10 * M 82 11
theorem qHS_n {M A : qMem} {g : Int} (h : qHS M A g) : fCn M ≤ 10 ∧ 0 ≤ fCb M ∧ fCb M ≤ 50 := by
  unfold fCn fCb
  rcases h with ⟨h, _⟩ | ⟨h1, h2, _, n, P, h3, h4, _⟩
  · rw [if_pos (by omega), if_pos (by omega)]
    omega
  · rw [if_neg (by omega), if_neg (by omega)]
    omega
theorem sX12_begin {M A : qMem} {g : Int} (h : qHS M A g) : S_X12_begin [qA 82] (qH0 M) = some (some (qI (fCb M)), qH0 M) := by
  unfold fCb
  rcases h with ⟨h, _⟩ | ⟨h1, h2, _⟩
  · rw [if_pos (by omega)]
    simp (disch := first | assumption | omega) only [E_X12_begin, B_X12_begin_0, B_X12_begin_7, B_X12_begin_11, B_X12_begin_18, not_true_eq_false, not_false_eq_true, if_true, if_false, qlk, qtk, qif_t, qif_f, qbd_some, Option.toList_some, Option.toList_none, List.cons_append, List.nil_append, List.append_nil]
  · rw [if_neg (by omega)]
    simp (disch := first | assumption | omega) only [E_X12_begin, B_X12_begin_0, B_X12_begin_7, B_X12_begin_11, B_X12_begin_18, kadd_eq, ksub_eq, kmul_eq, qup_self, qup_ne, not_true_eq_false, not_false_eq_true, if_true, if_false, qlk, qtk, qif_t, qif_f, qbd_some, Option.toList_some, Option.toList_none, List.cons_append, List.nil_append, List.append_nil]
theorem sX12_behind {M A : qMem} {g : Int} (h : qHS M A g) : S_X12_behind [qA 82] (qH0 M) = some (some (qI (fCb M + fCn M)), qH0 M) := by
  unfold fCb fCn
  rcases h with ⟨h, _⟩ | ⟨h1, h2, _, n, P, h3, h4, _⟩
  · rw [if_pos (by omega), if_pos (by omega)]
    simp (disch := first | assumption | omega) only [E_X12_behind, B_X12_behind_0, B_X12_behind_7, B_X12_behind_11, B_X12_behind_28, not_true_eq_false, not_false_eq_true, if_true, if_false, qlk, qtk, qif_t, qif_f, qbd_some, Option.toList_some, Option.toList_none, List.cons_append, List.nil_append, List.append_nil]
    rfl
  · rw [if_neg (by omega), if_neg (by omega)]
    have e : ((M 91 (M 82 11)).toNat : Int) = M 91 (M 82 11) := by omega
    rw [e]
    simp (disch := first | assumption | omega) only [E_X12_behind, B_X12_behind_0, B_X12_behind_7, B_X12_behind_11, B_X12_behind_28, kadd_eq, ksub_eq, kmul_eq, qup_self, qup_ne, not_true_eq_false, not_false_eq_true, if_true, if_false, qlk, qtk, qif_t, qif_f, qbd_some, Option.toList_some, Option.toList_none, List.cons_append, List.nil_append, List.append_nil]
theorem lX12_lastOf {M A : qMem} {g w d : Int} (h : qHS M A g) : ∀ e i : Nat, i + e = fCn M →
    qlim C_X12_lastOf (8, [some (qA 82), some (qI w), some (qI d), some (qI (fLast M w d (fCb M) i)), some (qI (fCb M + i))], [], qH0 M) = some (some (qI (fLast M w d (fCb M) (i + e))), qH0 M)
  | 0, i, hi => by
    have hn := qHS_n h
    rw [B_X12_lastOf_8, sX12_behind h, qbd_some]
    simp (disch := first | assumption | omega) only [B_X12_lastOf_14, B_X12_lastOf_46, not_true_eq_false, not_false_eq_true, if_true, if_false, qlk, qtk, qif_t, qif_f, qbd_some, Option.toList_some, Option.toList_none, List.cons_append, List.nil_append, List.append_nil]
    rfl
  | e + 1, i, hi => by
    have hn := qHS_n h
    have ih := lX12_lastOf (w := w) (d := d) h e (i + 1) (by omega)
    have e3 : i + (e + 1) = i + 1 + e := by omega
    have e1 : kadd (fCb M + (i : Int)) 1 = fCb M + ((i + 1 : Nat) : Int) := by rw [kadd_eq (by omega) (by omega)]; omega
    have e4 : fLast M w d (fCb M) (i + 1) = if M 92 (fCb M + i) = w then M 93 (fCb M + i) else fLast M w d (fCb M) i := rfl
    rw [e3, ← ih, B_X12_lastOf_8, sX12_behind h, qbd_some, e4]
    by_cases c : M 92 (fCb M + (i : Int)) = w
    · rw [if_pos c]
      simp (disch := first | assumption | omega) only [B_X12_lastOf_14, B_X12_lastOf_17, B_X12_lastOf_28, B_X12_lastOf_39, not_true_eq_false, not_false_eq_true, if_true, if_false, qlk, qtk, qif_t, qif_f, qbd_some, Option.toList_some, Option.toList_none, List.cons_append, List.nil_append, List.append_nil, e1]
    · rw [if_neg c]
      simp (disch := first | assumption | omega) only [B_X12_lastOf_14, B_X12_lastOf_17, B_X12_lastOf_38, B_X12_lastOf_39, not_true_eq_false, not_false_eq_true, if_true, if_false, qlk, qtk, qif_t, qif_f, qbd_some, Option.toList_some, Option.toList_none, List.cons_append, List.nil_append, List.append_nil, e1]
theorem sX12_lastOf {M A : qMem} {g w d : Int} (h : qHS M A g) : S_X12_lastOf [qA 82, qI w, qI d] (qH0 M) = some (some (qI (fLast M w d (fCb M) (fCn M))), qH0 M) := by
  have l := lX12_lastOf (w := w) (d := d) h (fCn M) 0 (by omega)
  rw [Nat.zero_add] at l
  have e : fCb M + ((0 : Nat) : Int) = fCb M := by omega
  rw [e] at l
  rw [E_X12_lastOf, B_X12_lastOf_0, sX12_begin h, qbd_some]
  show qlim C_X12_lastOf (6, [some (qA 82), some (qI w), some (qI d), some (qI d), none], [qI (fCb M)], qH0 M) = _
  rw [B_X12_lastOf_6]
  exact l
theorem sX12_post {M A : qMem} {g : Int} (h : qHS M A g) : S_X12_lastOf [qA 82, qI 3, qI 0] (qH0 M) = some (some (qI (A g 5)), qH0 M) := by
  rw [sX12_lastOf h]
  unfold fCb fCn
  rcases h with ⟨h, rfl, h3, h4, h5⟩ | ⟨h1, h2, hg, n, P, h3, h4, h5, h6, h7, h8, h9⟩
  · rw [if_pos (by omega), if_pos (by omega), h5]
    rfl
  · rw [if_neg (by omega), if_neg (by omega), h9, h3]
    rfl
theorem sX12_room {M A : qMem} {g r : Int} (h : qHS M A g) (hr : r = if 0 ≤ M 82 27 then M 82 27 else A g 4) (h1 : 1 ≤ r) : S_X12_room [qA 82] (qH0 M) = some (some (qI r), qH0 M) := by
  by_cases c : 0 ≤ M 82 27
  · rw [if_pos c] at hr
    rw [E_X12_room]
    subst hr
    simp (disch := first | assumption | omega) only [B_X12_room_0, B_X12_room_7, B_X12_room_21, B_X12_room_27, B_X12_room_31, B_X12_room_32, not_true_eq_false, not_false_eq_true, if_true, if_false, qlk, qtk, qif_t, qif_f, qbd_some, Option.toList_some, Option.toList_none, List.cons_append, List.nil_append, List.append_nil]
  · rw [if_neg c] at hr
    have L := sX12_lastOf (w := 2) (d := 50) h
    have e : r = max 1 (fLast M 2 50 (fCb M) (fCn M)) := by
      rw [hr]
      unfold fCb fCn
      rcases h with ⟨h, rfl, h3, h4, h5⟩ | ⟨h1, h2, hg, n, P, h3, h4, h5, h6, h7, h8, h9⟩
      · rw [if_pos (by omega), if_pos (by omega), h4]
        rfl
      · rw [if_neg (by omega), if_neg (by omega), h8, h3]
        rfl
    rw [E_X12_room]
    by_cases c2 : 1 ≤ fLast M 2 50 (fCb M) (fCn M)
    · have e2 : r = fLast M 2 50 (fCb M) (fCn M) := by omega
      rw [e2]
      simp (disch := first | assumption | omega) only [B_X12_room_0, B_X12_room_14, B_X12_room_21, B_X12_room_27, B_X12_room_31, B_X12_room_32, not_true_eq_false, not_false_eq_true, if_true, if_false, qlk, qtk, qif_t, qif_f, qbd_some, Option.toList_some, Option.toList_none, List.cons_append, List.nil_append, List.append_nil, L]
    · have e2 : r = 1 := by omega
      rw [e2]
      simp (disch := first | assumption | omega) only [B_X12_room_0, B_X12_room_14, B_X12_room_21, B_X12_room_27, B_X12_room_31, B_X12_room_32, not_true_eq_false, not_false_eq_true, if_true, if_false, qlk, qtk, qif_t, qif_f, qbd_some, Option.toList_some, Option.toList_none, List.cons_append, List.nil_append, List.append_nil, L]
