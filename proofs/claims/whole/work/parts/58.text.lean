/-! the text (class): signs, words, numbers, tests -/
theorem sJ_char {h : qH} {j k : Nat} (hj : j < 5) (hk : k < (fWl j).length) : S_J0_charAt_5068e [qA (-2 - j), qI k] h = some (some (qI ((fWl j).getD k 0)), h) := by
  have e : j = 0 ∨ j = 1 ∨ j = 2 ∨ j = 3 ∨ j = 4 := by omega
  rcases e with rfl | rfl | rfl | rfl | rfl
  · have hk' : k < 5 := hk
    have e : k = 0 ∨ k = 1 ∨ k = 2 ∨ k = 3 ∨ k = 4 := by omega
    rcases e with rfl | rfl | rfl | rfl | rfl
    · exact sJ_at_0_0
    · exact sJ_at_0_1
    · exact sJ_at_0_2
    · exact sJ_at_0_3
    · exact sJ_at_0_4
  · have hk' : k < 5 := hk
    have e : k = 0 ∨ k = 1 ∨ k = 2 ∨ k = 3 ∨ k = 4 := by omega
    rcases e with rfl | rfl | rfl | rfl | rfl
    · exact sJ_at_1_0
    · exact sJ_at_1_1
    · exact sJ_at_1_2
    · exact sJ_at_1_3
    · exact sJ_at_1_4
  · have hk' : k < 4 := hk
    have e : k = 0 ∨ k = 1 ∨ k = 2 ∨ k = 3 := by omega
    rcases e with rfl | rfl | rfl | rfl
    · exact sJ_at_2_0
    · exact sJ_at_2_1
    · exact sJ_at_2_2
    · exact sJ_at_2_3
  · have hk' : k < 4 := hk
    have e : k = 0 ∨ k = 1 ∨ k = 2 ∨ k = 3 := by omega
    rcases e with rfl | rfl | rfl | rfl
    · exact sJ_at_3_0
    · exact sJ_at_3_1
    · exact sJ_at_3_2
    · exact sJ_at_3_3
  · have hk' : k < 0 := hk
    omega
/-- the hall g has the text t of n signs -/
def qTc (M : qMem) (g n : Int) (t : Int → Int) : Prop := qHl g ∧ M g 2 = n ∧ (0 ≤ n ∧ n ≤ 100) ∧ (∀ i : Int, 0 ≤ i → i < n → M (g + 1) i = t i ∧ 0 ≤ t i ∧ t i ≤ 127) ∧ (∀ i : Int, n ≤ i → t i = -1)
theorem qTc_lt {M : qMem} {g n i : Int} {t : Int → Int} (h : qTc M g n t) (hi : ¬ t i = -1) : i < n := by
  by_cases c : i < n
  · exact c
  · exact absurd (h.2.2.2.2 i (by omega)) hi
theorem qTc_row {M M' : qMem} {g n : Int} {t : Int → Int} (h : qTc M g n t) (h2 : M' g 2 = M g 2) (h1 : M' (g + 1) = M (g + 1)) : qTc M' g n t :=
  ⟨h.1, h2.trans h.2.1, h.2.2.1, fun i a b => by rw [h1]; exact h.2.2.2.1 i a b, h.2.2.2.2⟩
theorem qTc_6 {M : qMem} {g n v : Int} {t : Int → Int} (h : qTc M g n t) : qTc (qup M g 6 v) g n t := qTc_row h (qup_ne (by omega)) (qup_row (by omega))
theorem sX3_next {M : qMem} {g n : Int} {t : Int → Int} (h : qTc M g n t) (h0 : 0 ≤ M g 6) : S_X3_next [qA g] (qH0 M) = some (some (qI (t (M g 6))), qH0 M) := by
  obtain ⟨hg, h2, hn, h3, h4⟩ := h
  by_cases c : M g 2 ≤ M g 6
  · have e := h4 (M g 6) (by omega)
    rw [e]
    simp (disch := first | assumption | omega) only [E_X3_next, B_X3_next_0, B_X3_next_11, B_X3_next_23, B_X3_next_24, not_true_eq_false, not_false_eq_true, if_true, if_false, qlk, qtk, qif_t, qif_f, qbd_some, Option.toList_some, Option.toList_none, List.cons_append, List.nil_append, List.append_nil]
  · have e := (h3 (M g 6) h0 (by omega)).1
    rw [← e]
    simp (disch := first | assumption | omega) only [E_X3_next, B_X3_next_0, B_X3_next_11, B_X3_next_23, B_X3_next_24, not_true_eq_false, not_false_eq_true, if_true, if_false, qlk, qtk, qif_t, qif_f, qbd_some, Option.toList_some, Option.toList_none, List.cons_append, List.nil_append, List.append_nil]
theorem sX3_sign_y {M : qMem} {g n c : Int} {t : Int → Int} (h : qTc M g n t) (h0 : 0 ≤ M g 6) (hc : t (M g 6) = c) (hc0 : ¬ c = -1) : S_X3_takesSign [qA g, qI c] (qH0 M) = some (some (qI 1), qH0 (qup M g 6 (M g 6 + 1))) := by
  have s := sX3_next h h0
  have hl := qTc_lt h (i := M g 6) (by omega)
  have hn := h.2.2.1
  have hg := h.1
  have e : kadd (M g 6) 1 = M g 6 + 1 := kadd_eq (by omega) (by omega)
  simp (disch := first | assumption | omega) only [E_X3_takesSign, B_X3_takesSign_0, B_X3_takesSign_4, B_X3_takesSign_8, B_X3_takesSign_10, not_true_eq_false, not_false_eq_true, if_true, if_false, qlk, qtk, qif_t, qif_f, qbd_some, Option.toList_some, Option.toList_none, List.cons_append, List.nil_append, List.append_nil, s, e]
theorem sX3_sign_n {M : qMem} {g n c : Int} {t : Int → Int} (h : qTc M g n t) (h0 : 0 ≤ M g 6) (hc : ¬ t (M g 6) = c) : S_X3_takesSign [qA g, qI c] (qH0 M) = some (some (qI 0), qH0 M) := by
  have s := sX3_next h h0
  have hg := h.1
  simp (disch := first | assumption | omega) only [E_X3_takesSign, B_X3_takesSign_0, B_X3_takesSign_4, B_X3_takesSign_8, B_X3_takesSign_10, not_true_eq_false, not_false_eq_true, if_true, if_false, qlk, qtk, qif_t, qif_f, qbd_some, Option.toList_some, Option.toList_none, List.cons_append, List.nil_append, List.append_nil, s]
/-- how far a word goes, and whether it is all there -/
def fWm (t : Int → Int) : List Int → Int → Int × Int
  | [], i => (i, 1)
  | w :: ws, i => if t i = w then fWm t ws (i + 1) else (i, 0)
theorem fWm_01 {t : Int → Int} : ∀ (ws : List Int) (i : Int), ((fWm t ws i).2 = 0 ∨ (fWm t ws i).2 = 1) ∧ i ≤ (fWm t ws i).1
  | [], i => ⟨Or.inr rfl, Int.le_refl _⟩
  | w :: ws, i => by
    have ih := fWm_01 (t := t) ws (i + 1)
    unfold fWm
    split
    · exact ⟨ih.1, by omega⟩
    · exact ⟨Or.inl rfl, Int.le_refl _⟩
theorem fWl_pos : ∀ j : Nat, j < 5 → ∀ w ∈ fWl j, 0 ≤ w := by decide
theorem lX3_word {g n : Int} {t : Int → Int} {j : Nat} (hj : j < 5) : ∀ (ws : List Int) (k : Nat) (M : qMem), (fWl j).drop k = ws → k ≤ 5 → qTc M g n t → 0 ≤ M g 6 →
    qlim C_X3_takesWord (2, [some (qA g), some (qA (-2 - j)), some (qI k)], [], qH0 M) = some (some (qI (if (fWm t ws (M g 6)).2 = 1 then (if j = 4 then 0 else 1) else 0)), qH0 (qup M g 6 (fWm t ws (M g 6)).1))
  | [], k, M, hw, hk, h, h0 => by
    have hl : (fWl j).length ≤ k := List.drop_eq_nil_iff.mp hw
    have hg := h.1
    refine (qlim_n (n := 2) (c' := (4, [some (qA g), some (qA (-2 - j)), some (qI k)], [qA (-2 - j), qI k], qH0 M)) rfl).trans ?_
    rw [qlim_callx (n := 0) (As := []) (rest := [qI k]) rfl rfl rfl (Nat.zero_le _) (Nat.le_of_ble_eq_true rfl) (by omega), sJ_length hj, qbd_some]
    refine (qlim_n (n := 1) (c' := ((if ((fWl j).length : Int) ≤ k then 30 else 10), [some (qA g), some (qA (-2 - j)), some (qI k)], [], qH0 M)) rfl).trans ?_
    rw [if_pos (by omega)]
    refine (qlim_n (n := 1) (c' := (31, [some (qA g), some (qA (-2 - j)), some (qI k)], [qA (-2 - j)], qH0 M)) rfl).trans ?_
    rw [qlim_callx (n := 0) (As := []) (rest := []) rfl rfl rfl (Nat.zero_le _) (Nat.zero_le _) (by omega), sJ_empty hj, qbd_some]
    have e1 : fWm t [] (M g 6) = (M g 6, 1) := rfl
    rw [e1]
    dsimp only
    rw [if_pos rfl, qup_id]
    by_cases c : j = 4
    · rw [if_pos c, if_pos c]
      exact (qlim_n (n := 2) (c' := (42, [some (qA g), some (qA (-2 - j)), some (qI k)], [qI 0], qH0 M)) rfl).trans (qlim_ret rfl)
    · rw [if_neg c, if_neg c]
      exact (qlim_n (n := 3) (c' := (42, [some (qA g), some (qA (-2 - j)), some (qI k)], [qI 1], qH0 M)) rfl).trans (qlim_ret rfl)
  | w :: ws, k, M, hw, hk, h, h0 => by
    have hl : k < (fWl j).length := by
      by_cases c : k < (fWl j).length
      · exact c
      · rw [List.drop_eq_nil_of_le (by omega)] at hw
        cases hw
    have hl5 : (fWl j).length ≤ 5 := by
      have e : j = 0 ∨ j = 1 ∨ j = 2 ∨ j = 3 ∨ j = 4 := by omega
      rcases e with rfl | rfl | rfl | rfl | rfl <;> decide
    have hc := List.drop_eq_getElem_cons hl
    rw [hw] at hc
    injection hc with hc1 hc2
    have ew : (fWl j).getD k 0 = w := by
      rw [List.getD_eq_getElem?_getD, List.getElem?_eq_getElem hl, hc1]
      rfl
    have w0 : 0 ≤ w := fWl_pos j hj w (by rw [hc1]; exact List.getElem_mem hl)
    have hg := h.1
    have e1 : kadd (k : Int) 1 = ((k + 1 : Nat) : Int) := by rw [kadd_eq (by omega) (by omega)]; omega
    refine (qlim_n (n := 2) (c' := (4, [some (qA g), some (qA (-2 - j)), some (qI k)], [qA (-2 - j), qI k], qH0 M)) rfl).trans ?_
    rw [qlim_callx (n := 0) (As := []) (rest := [qI k]) rfl rfl rfl (Nat.zero_le _) (Nat.le_of_ble_eq_true rfl) (by omega), sJ_length hj, qbd_some]
    refine (qlim_n (n := 1) (c' := ((if ((fWl j).length : Int) ≤ k then 30 else 10), [some (qA g), some (qA (-2 - j)), some (qI k)], [], qH0 M)) rfl).trans ?_
    rw [if_neg (by omega)]
    refine (qlim_n (n := 3) (c' := (13, [some (qA g), some (qA (-2 - j)), some (qI k)], [qI k, qA (-2 - j), qA g], qH0 M)) rfl).trans ?_
    rw [qlim_callx (n := 1) (As := [qI k]) (rest := [qA g]) rfl rfl rfl (Nat.le_of_ble_eq_true rfl) (Nat.le_of_ble_eq_true rfl) (by omega), sJ_char hj hl, qbd_some, ew]
    show qlim C_X3_takesWord (16, [some (qA g), some (qA (-2 - j)), some (qI k)], [qI w, qA g], qH0 M) = _
    have e2 : fWm t (w :: ws) (M g 6) = if t (M g 6) = w then fWm t ws (M g 6 + 1) else (M g 6, 0) := rfl
    rw [qlim_callv (n := 1) (As := [qI w]) (rest := []) (f := S_X3_takesSign) rfl rfl rfl (Nat.le_of_ble_eq_true rfl) (Nat.zero_le _) (by rw [(qHl_ty hg)]; rfl)]
    by_cases c : t (M g 6) = w
    · have hl2 := qTc_lt h (i := M g 6) (by omega)
      have ih := lX3_word hj ws (k + 1) (qup M g 6 (M g 6 + 1)) (hc2.symm ▸ rfl) (by omega) (qTc_6 h) (by rw [qup_self]; omega)
      rw [qup_self, qup_qup] at ih
      rw [sX3_sign_y h h0 c (by omega), qbd_some, e2, if_pos c, ← ih]
      refine (qlim_n (n := 1) (c' := (24, [some (qA g), some (qA (-2 - j)), some (qI k)], [], qH0 (qup M g 6 (M g 6 + 1)))) rfl).trans ?_
      exact (qlim_n (n := 2) (c' := (2, [some (qA g), some (qA (-2 - j)), some (qI (kadd k 1))], [], qH0 (qup M g 6 (M g 6 + 1)))) rfl).trans (by rw [e1])
    · rw [sX3_sign_n h h0 c, qbd_some, e2, if_neg c]
      dsimp only
      rw [if_neg (by omega), qup_id]
      exact (qlim_n (n := 2) (c' := (23, [some (qA g), some (qA (-2 - j)), some (qI k)], [qI 0], qH0 M)) rfl).trans (qlim_ret rfl)
theorem sX3_word {M : qMem} {g n : Int} {t : Int → Int} {j : Nat} (hj : j < 5) (h : qTc M g n t) (h0 : 0 ≤ M g 6) : S_X3_takesWord [qA g, qA (-2 - j)] (qH0 M) =
    some (some (qI (if (fWm t (fWl j) (M g 6)).2 = 1 then (if j = 4 then 0 else 1) else 0)), qH0 (qup M g 6 (fWm t (fWl j) (M g 6)).1)) := by
  rw [← lX3_word hj (fWl j) 0 M rfl (by omega) h h0]
  exact (qM_at (Nat.le_of_ble_eq_true rfl) rfl).trans (qlim_n (n := 2) rfl)
def fWo (l : Int) : Nat := if l = 98 then 0 else if l = 115 then 1 else if l = 104 then 2 else if l = 112 then 3 else 4
theorem sX3_wordOf {M : qMem} {l : Int} : S_X3_wordOf [qI l] (qH0 M) = some (some (qA (-2 - (fWo l : Nat))), qH0 M) := by
  have st : S_X3_wordOf [qI l] (qH0 M) = qlim C_X3_wordOf (qlk [(98, 44), (104, 50), (112, 53), (115, 47)] 56 l, [some (qI l)], [], qH0 M) := (qM_at (Nat.le_of_ble_eq_true rfl) rfl).trans (qlim_n (n := 2) rfl)
  rw [st]
  unfold fWo
  by_cases c1 : l = 98
  · subst c1
    exact (qlim_n (n := 1) rfl).trans (qlim_ret rfl)
  · by_cases c2 : l = 115
    · subst c2
      exact (qlim_n (n := 1) rfl).trans (qlim_ret rfl)
    · by_cases c3 : l = 104
      · subst c3
        exact (qlim_n (n := 1) rfl).trans (qlim_ret rfl)
      · by_cases c4 : l = 112
        · subst c4
          exact (qlim_n (n := 1) rfl).trans (qlim_ret rfl)
        · rw [if_neg c1, if_neg c2, if_neg c3, if_neg c4]
          simp only [qlk, c1, c2, c3, c4, if_false]
          exact (qlim_n (n := 1) rfl).trans (qlim_ret rfl)
