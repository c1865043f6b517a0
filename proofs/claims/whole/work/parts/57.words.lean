/-! the words (class): strings read sign by sign -/
theorem qlim_callx {C : List (Nat × qOp)} {pc n : Nat} {ls : qLs} {st As rest : List qV} {o : Int} {h : qH} {f : qSem} (h1 : qft C pc = some (qo_callx f n)) (h2 : st.drop n = qA o :: rest) (h3 : (st.take n).reverse = As) (h4 : n ≤ st.length) (h5 : (rest.map qcat).sum ≤ 8) (h6 : -6 ≤ o ∧ o ≤ -2) :
    qlim C (pc, ls, st, h) = qbd (f (qA o :: As) h) (fun r h' => qlim C (pc + 3, ls, r.toList ++ rest, h')) := by
  have e : qst C (pc, ls, st, h) = (match f (qA o :: As) h with
      | some (r, h') => .inl (pc + 3, ls, r.toList ++ rest, h')
      | none => .inr none) := by
    unfold qst
    show (match qft C pc with | some op => op (pc, ls, st, h) | none => .inr none) = _
    rw [h1]
    show qo_callx f n (pc, ls, st, h) = _
    unfold qo_callx
    dsimp only
    rw [h2, h3]
    dsimp only
    rw [if_pos ⟨⟨h4, h5⟩, h6⟩]
    cases f (qA o :: As) h with
    | none => rfl
    | some q => rfl
  rw [qlim_eq, e]
  cases f (qA o :: As) h with
  | none => rfl
  | some q => rfl
def fWl : Nat → List Int
  | 0 => [98, 114, 105, 115, 107]
  | 1 => [115, 108, 97, 99, 107]
  | 2 => [104, 101, 97, 112]
  | 3 => [112, 111, 115, 116]
  | _ => []
theorem sJ_chk3 {h : qH} {k n : Int} (h1 : 0 ≤ k) (h2 : k < n) : S_J3_checkIndex_8e157 [qI k, qI n, qA (-12)] h = some (some (qI k), h) := by
  refine (qM_at (Nat.le_of_ble_eq_true rfl) rfl).trans ?_
  refine (qlim_n (n := 2) (c' := ((if k < 0 then 9 else 4), [some (qI k), some (qI n), some (qA (-12))], [], h)) rfl).trans ?_
  rw [if_neg (by omega)]
  refine (qlim_n (n := 3) (c' := ((if k < n then 16 else 9), [some (qI k), some (qI n), some (qA (-12))], [], h)) rfl).trans ?_
  rw [if_pos h2]
  exact (qlim_n (n := 1) (c' := (17, [some (qI k), some (qI n), some (qA (-12))], [qI k], h)) rfl).trans (qlim_ret rfl)
theorem sJ_chk {h : qH} {k n : Int} (h1 : 0 ≤ k) (h2 : k < n) : S_J0_checkIndex_df160 [qI k, qI n] h = some (none, h) := by
  refine (qM_at (Nat.le_of_ble_eq_true rfl) rfl).trans ?_
  refine (qlim_n (n := 3) (c' := (5, [some (qI k), some (qI n)], [qA (-12), qI n, qI k], h)) rfl).trans ?_
  rw [qlim_calls (n := 3) (As := [qI k, qI n, qA (-12)]) (rest := []) rfl rfl rfl (Nat.le_of_ble_eq_true rfl) (Nat.le_of_ble_eq_true rfl), sJ_chk3 h1 h2, qbd_some]
  exact (qlim_n (n := 1) (c' := (9, [some (qI k), some (qI n)], [], h)) rfl).trans (qlim_ret rfl)
theorem sJ_latin {h : qH} {a : Int} (h1 : -6 ≤ a ∧ a ≤ -2) : S_J0_isLatin1_aae02 [qA a] h = some (some (qI 1), h) := by
  have e : a = -2 ∨ a = -3 ∨ a = -4 ∨ a = -5 ∨ a = -6 := by omega
  rcases e with rfl | rfl | rfl | rfl | rfl <;>
  exact (qM_at (Nat.le_of_ble_eq_true rfl) rfl).trans ((qlim_n (n := 7) rfl).trans (qlim_ret rfl))
theorem sJ_coder {h : qH} {a : Int} (h1 : -6 ≤ a ∧ a ≤ -2) : S_J0_coder_7d493 [qA a] h = some (some (qI 0), h) := by
  have e : a = -2 ∨ a = -3 ∨ a = -4 ∨ a = -5 ∨ a = -6 := by omega
  rcases e with rfl | rfl | rfl | rfl | rfl <;>
  exact (qM_at (Nat.le_of_ble_eq_true rfl) rfl).trans ((qlim_n (n := 5) rfl).trans (qlim_ret rfl))
theorem sJ_length {h : qH} {j : Nat} (hj : j < 5) : S_J0_length_8abf5 [qA (-2 - j)] h = some (some (qI (fWl j).length), h) := by
  have e : j = 0 ∨ j = 1 ∨ j = 2 ∨ j = 3 ∨ j = 4 := by omega
  rcases e with rfl | rfl | rfl | rfl | rfl
  · refine (qM_at (Nat.le_of_ble_eq_true rfl) rfl).trans ?_
    refine (qlim_n (n := 4) (c' := (6, [some (qA (-2))], [qA (-2), qI 5], h)) rfl).trans ?_
    rw [qlim_callx (n := 0) (As := []) (rest := [qI 5]) rfl rfl rfl (Nat.zero_le _) (Nat.le_of_ble_eq_true rfl) (by decide), sJ_coder (by decide), qbd_some]
    exact (qlim_n (n := 1) (c' := (10, [some (qA (-2))], [qI 5], h)) rfl).trans (qlim_ret rfl)
  · refine (qM_at (Nat.le_of_ble_eq_true rfl) rfl).trans ?_
    refine (qlim_n (n := 4) (c' := (6, [some (qA (-3))], [qA (-3), qI 5], h)) rfl).trans ?_
    rw [qlim_callx (n := 0) (As := []) (rest := [qI 5]) rfl rfl rfl (Nat.zero_le _) (Nat.le_of_ble_eq_true rfl) (by decide), sJ_coder (by decide), qbd_some]
    exact (qlim_n (n := 1) (c' := (10, [some (qA (-3))], [qI 5], h)) rfl).trans (qlim_ret rfl)
  · refine (qM_at (Nat.le_of_ble_eq_true rfl) rfl).trans ?_
    refine (qlim_n (n := 4) (c' := (6, [some (qA (-4))], [qA (-4), qI 4], h)) rfl).trans ?_
    rw [qlim_callx (n := 0) (As := []) (rest := [qI 4]) rfl rfl rfl (Nat.zero_le _) (Nat.le_of_ble_eq_true rfl) (by decide), sJ_coder (by decide), qbd_some]
    exact (qlim_n (n := 1) (c' := (10, [some (qA (-4))], [qI 4], h)) rfl).trans (qlim_ret rfl)
  · refine (qM_at (Nat.le_of_ble_eq_true rfl) rfl).trans ?_
    refine (qlim_n (n := 4) (c' := (6, [some (qA (-5))], [qA (-5), qI 4], h)) rfl).trans ?_
    rw [qlim_callx (n := 0) (As := []) (rest := [qI 4]) rfl rfl rfl (Nat.zero_le _) (Nat.le_of_ble_eq_true rfl) (by decide), sJ_coder (by decide), qbd_some]
    exact (qlim_n (n := 1) (c' := (10, [some (qA (-5))], [qI 4], h)) rfl).trans (qlim_ret rfl)
  · refine (qM_at (Nat.le_of_ble_eq_true rfl) rfl).trans ?_
    refine (qlim_n (n := 4) (c' := (6, [some (qA (-6))], [qA (-6), qI 0], h)) rfl).trans ?_
    rw [qlim_callx (n := 0) (As := []) (rest := [qI 0]) rfl rfl rfl (Nat.zero_le _) (Nat.le_of_ble_eq_true rfl) (by decide), sJ_coder (by decide), qbd_some]
    exact (qlim_n (n := 1) (c' := (10, [some (qA (-6))], [qI 0], h)) rfl).trans (qlim_ret rfl)
theorem sJ_empty {h : qH} {j : Nat} (hj : j < 5) : S_J0_isEmpty_aae02 [qA (-2 - j)] h = some (some (qI (if j = 4 then 1 else 0)), h) := by
  have e : j = 0 ∨ j = 1 ∨ j = 2 ∨ j = 3 ∨ j = 4 := by omega
  rcases e with rfl | rfl | rfl | rfl | rfl
  · exact (qM_at (Nat.le_of_ble_eq_true rfl) rfl).trans ((qlim_n (n := 5) rfl).trans (qlim_ret rfl))
  · exact (qM_at (Nat.le_of_ble_eq_true rfl) rfl).trans ((qlim_n (n := 5) rfl).trans (qlim_ret rfl))
  · exact (qM_at (Nat.le_of_ble_eq_true rfl) rfl).trans ((qlim_n (n := 5) rfl).trans (qlim_ret rfl))
  · exact (qM_at (Nat.le_of_ble_eq_true rfl) rfl).trans ((qlim_n (n := 5) rfl).trans (qlim_ret rfl))
  · exact (qM_at (Nat.le_of_ble_eq_true rfl) rfl).trans ((qlim_n (n := 6) rfl).trans (qlim_ret rfl))
theorem sJ_at1_0_0 {h : qH} : S_J1_charAt_3b067 [qA (-20), qI 0] h = some (some (qI 98), h) := by
  refine (qM_at (Nat.le_of_ble_eq_true rfl) rfl).trans ?_
  refine (qlim_n (n := 3) (c' := (3, [some (qA (-20)), some (qI 0)], [qI 5, qI 0], h)) rfl).trans ?_
  rw [qlim_calls (n := 2) (As := [qI 0, qI 5]) (rest := []) rfl rfl rfl (Nat.le_of_ble_eq_true rfl) (Nat.zero_le _), sJ_chk (by omega) (by omega), qbd_some]
  exact (qlim_n (n := 6) (c' := (14, [some (qA (-20)), some (qI 0)], [qI 98], h)) rfl).trans (qlim_ret rfl)
theorem sJ_at_0_0 {h : qH} : S_J0_charAt_5068e [qA (-2), qI 0] h = some (some (qI 98), h) := by
  refine (qM_at (Nat.le_of_ble_eq_true rfl) rfl).trans ?_
  refine (qlim_n (n := 1) (c' := (1, [some (qA (-2)), some (qI 0)], [qA (-2)], h)) rfl).trans ?_
  rw [qlim_callx (n := 0) (As := []) (rest := []) rfl rfl rfl (Nat.zero_le _) (Nat.zero_le _) (by decide), sJ_latin (by decide), qbd_some]
  refine (qlim_n (n := 4) (c' := (12, [some (qA (-2)), some (qI 0)], [qI 0, qA (-20)], h)) rfl).trans ?_
  rw [qlim_calls (n := 2) (As := [qA (-20), qI 0]) (rest := []) rfl rfl rfl (Nat.le_of_ble_eq_true rfl) (Nat.zero_le _), sJ_at1_0_0, qbd_some]
  exact qlim_ret rfl
theorem sJ_at1_0_1 {h : qH} : S_J1_charAt_3b067 [qA (-20), qI 1] h = some (some (qI 114), h) := by
  refine (qM_at (Nat.le_of_ble_eq_true rfl) rfl).trans ?_
  refine (qlim_n (n := 3) (c' := (3, [some (qA (-20)), some (qI 1)], [qI 5, qI 1], h)) rfl).trans ?_
  rw [qlim_calls (n := 2) (As := [qI 1, qI 5]) (rest := []) rfl rfl rfl (Nat.le_of_ble_eq_true rfl) (Nat.zero_le _), sJ_chk (by omega) (by omega), qbd_some]
  exact (qlim_n (n := 6) (c' := (14, [some (qA (-20)), some (qI 1)], [qI 114], h)) rfl).trans (qlim_ret rfl)
theorem sJ_at_0_1 {h : qH} : S_J0_charAt_5068e [qA (-2), qI 1] h = some (some (qI 114), h) := by
  refine (qM_at (Nat.le_of_ble_eq_true rfl) rfl).trans ?_
  refine (qlim_n (n := 1) (c' := (1, [some (qA (-2)), some (qI 1)], [qA (-2)], h)) rfl).trans ?_
  rw [qlim_callx (n := 0) (As := []) (rest := []) rfl rfl rfl (Nat.zero_le _) (Nat.zero_le _) (by decide), sJ_latin (by decide), qbd_some]
  refine (qlim_n (n := 4) (c' := (12, [some (qA (-2)), some (qI 1)], [qI 1, qA (-20)], h)) rfl).trans ?_
  rw [qlim_calls (n := 2) (As := [qA (-20), qI 1]) (rest := []) rfl rfl rfl (Nat.le_of_ble_eq_true rfl) (Nat.zero_le _), sJ_at1_0_1, qbd_some]
  exact qlim_ret rfl
theorem sJ_at1_0_2 {h : qH} : S_J1_charAt_3b067 [qA (-20), qI 2] h = some (some (qI 105), h) := by
  refine (qM_at (Nat.le_of_ble_eq_true rfl) rfl).trans ?_
  refine (qlim_n (n := 3) (c' := (3, [some (qA (-20)), some (qI 2)], [qI 5, qI 2], h)) rfl).trans ?_
  rw [qlim_calls (n := 2) (As := [qI 2, qI 5]) (rest := []) rfl rfl rfl (Nat.le_of_ble_eq_true rfl) (Nat.zero_le _), sJ_chk (by omega) (by omega), qbd_some]
  exact (qlim_n (n := 6) (c' := (14, [some (qA (-20)), some (qI 2)], [qI 105], h)) rfl).trans (qlim_ret rfl)
theorem sJ_at_0_2 {h : qH} : S_J0_charAt_5068e [qA (-2), qI 2] h = some (some (qI 105), h) := by
  refine (qM_at (Nat.le_of_ble_eq_true rfl) rfl).trans ?_
  refine (qlim_n (n := 1) (c' := (1, [some (qA (-2)), some (qI 2)], [qA (-2)], h)) rfl).trans ?_
  rw [qlim_callx (n := 0) (As := []) (rest := []) rfl rfl rfl (Nat.zero_le _) (Nat.zero_le _) (by decide), sJ_latin (by decide), qbd_some]
  refine (qlim_n (n := 4) (c' := (12, [some (qA (-2)), some (qI 2)], [qI 2, qA (-20)], h)) rfl).trans ?_
  rw [qlim_calls (n := 2) (As := [qA (-20), qI 2]) (rest := []) rfl rfl rfl (Nat.le_of_ble_eq_true rfl) (Nat.zero_le _), sJ_at1_0_2, qbd_some]
  exact qlim_ret rfl
theorem sJ_at1_0_3 {h : qH} : S_J1_charAt_3b067 [qA (-20), qI 3] h = some (some (qI 115), h) := by
  refine (qM_at (Nat.le_of_ble_eq_true rfl) rfl).trans ?_
  refine (qlim_n (n := 3) (c' := (3, [some (qA (-20)), some (qI 3)], [qI 5, qI 3], h)) rfl).trans ?_
  rw [qlim_calls (n := 2) (As := [qI 3, qI 5]) (rest := []) rfl rfl rfl (Nat.le_of_ble_eq_true rfl) (Nat.zero_le _), sJ_chk (by omega) (by omega), qbd_some]
  exact (qlim_n (n := 6) (c' := (14, [some (qA (-20)), some (qI 3)], [qI 115], h)) rfl).trans (qlim_ret rfl)
theorem sJ_at_0_3 {h : qH} : S_J0_charAt_5068e [qA (-2), qI 3] h = some (some (qI 115), h) := by
  refine (qM_at (Nat.le_of_ble_eq_true rfl) rfl).trans ?_
  refine (qlim_n (n := 1) (c' := (1, [some (qA (-2)), some (qI 3)], [qA (-2)], h)) rfl).trans ?_
  rw [qlim_callx (n := 0) (As := []) (rest := []) rfl rfl rfl (Nat.zero_le _) (Nat.zero_le _) (by decide), sJ_latin (by decide), qbd_some]
  refine (qlim_n (n := 4) (c' := (12, [some (qA (-2)), some (qI 3)], [qI 3, qA (-20)], h)) rfl).trans ?_
  rw [qlim_calls (n := 2) (As := [qA (-20), qI 3]) (rest := []) rfl rfl rfl (Nat.le_of_ble_eq_true rfl) (Nat.zero_le _), sJ_at1_0_3, qbd_some]
  exact qlim_ret rfl
theorem sJ_at1_0_4 {h : qH} : S_J1_charAt_3b067 [qA (-20), qI 4] h = some (some (qI 107), h) := by
  refine (qM_at (Nat.le_of_ble_eq_true rfl) rfl).trans ?_
  refine (qlim_n (n := 3) (c' := (3, [some (qA (-20)), some (qI 4)], [qI 5, qI 4], h)) rfl).trans ?_
  rw [qlim_calls (n := 2) (As := [qI 4, qI 5]) (rest := []) rfl rfl rfl (Nat.le_of_ble_eq_true rfl) (Nat.zero_le _), sJ_chk (by omega) (by omega), qbd_some]
  exact (qlim_n (n := 6) (c' := (14, [some (qA (-20)), some (qI 4)], [qI 107], h)) rfl).trans (qlim_ret rfl)
theorem sJ_at_0_4 {h : qH} : S_J0_charAt_5068e [qA (-2), qI 4] h = some (some (qI 107), h) := by
  refine (qM_at (Nat.le_of_ble_eq_true rfl) rfl).trans ?_
  refine (qlim_n (n := 1) (c' := (1, [some (qA (-2)), some (qI 4)], [qA (-2)], h)) rfl).trans ?_
  rw [qlim_callx (n := 0) (As := []) (rest := []) rfl rfl rfl (Nat.zero_le _) (Nat.zero_le _) (by decide), sJ_latin (by decide), qbd_some]
  refine (qlim_n (n := 4) (c' := (12, [some (qA (-2)), some (qI 4)], [qI 4, qA (-20)], h)) rfl).trans ?_
  rw [qlim_calls (n := 2) (As := [qA (-20), qI 4]) (rest := []) rfl rfl rfl (Nat.le_of_ble_eq_true rfl) (Nat.zero_le _), sJ_at1_0_4, qbd_some]
  exact qlim_ret rfl
theorem sJ_at1_1_0 {h : qH} : S_J1_charAt_3b067 [qA (-21), qI 0] h = some (some (qI 115), h) := by
  refine (qM_at (Nat.le_of_ble_eq_true rfl) rfl).trans ?_
  refine (qlim_n (n := 3) (c' := (3, [some (qA (-21)), some (qI 0)], [qI 5, qI 0], h)) rfl).trans ?_
  rw [qlim_calls (n := 2) (As := [qI 0, qI 5]) (rest := []) rfl rfl rfl (Nat.le_of_ble_eq_true rfl) (Nat.zero_le _), sJ_chk (by omega) (by omega), qbd_some]
  exact (qlim_n (n := 6) (c' := (14, [some (qA (-21)), some (qI 0)], [qI 115], h)) rfl).trans (qlim_ret rfl)
theorem sJ_at_1_0 {h : qH} : S_J0_charAt_5068e [qA (-3), qI 0] h = some (some (qI 115), h) := by
  refine (qM_at (Nat.le_of_ble_eq_true rfl) rfl).trans ?_
  refine (qlim_n (n := 1) (c' := (1, [some (qA (-3)), some (qI 0)], [qA (-3)], h)) rfl).trans ?_
  rw [qlim_callx (n := 0) (As := []) (rest := []) rfl rfl rfl (Nat.zero_le _) (Nat.zero_le _) (by decide), sJ_latin (by decide), qbd_some]
  refine (qlim_n (n := 4) (c' := (12, [some (qA (-3)), some (qI 0)], [qI 0, qA (-21)], h)) rfl).trans ?_
  rw [qlim_calls (n := 2) (As := [qA (-21), qI 0]) (rest := []) rfl rfl rfl (Nat.le_of_ble_eq_true rfl) (Nat.zero_le _), sJ_at1_1_0, qbd_some]
  exact qlim_ret rfl
theorem sJ_at1_1_1 {h : qH} : S_J1_charAt_3b067 [qA (-21), qI 1] h = some (some (qI 108), h) := by
  refine (qM_at (Nat.le_of_ble_eq_true rfl) rfl).trans ?_
  refine (qlim_n (n := 3) (c' := (3, [some (qA (-21)), some (qI 1)], [qI 5, qI 1], h)) rfl).trans ?_
  rw [qlim_calls (n := 2) (As := [qI 1, qI 5]) (rest := []) rfl rfl rfl (Nat.le_of_ble_eq_true rfl) (Nat.zero_le _), sJ_chk (by omega) (by omega), qbd_some]
  exact (qlim_n (n := 6) (c' := (14, [some (qA (-21)), some (qI 1)], [qI 108], h)) rfl).trans (qlim_ret rfl)
theorem sJ_at_1_1 {h : qH} : S_J0_charAt_5068e [qA (-3), qI 1] h = some (some (qI 108), h) := by
  refine (qM_at (Nat.le_of_ble_eq_true rfl) rfl).trans ?_
  refine (qlim_n (n := 1) (c' := (1, [some (qA (-3)), some (qI 1)], [qA (-3)], h)) rfl).trans ?_
  rw [qlim_callx (n := 0) (As := []) (rest := []) rfl rfl rfl (Nat.zero_le _) (Nat.zero_le _) (by decide), sJ_latin (by decide), qbd_some]
  refine (qlim_n (n := 4) (c' := (12, [some (qA (-3)), some (qI 1)], [qI 1, qA (-21)], h)) rfl).trans ?_
  rw [qlim_calls (n := 2) (As := [qA (-21), qI 1]) (rest := []) rfl rfl rfl (Nat.le_of_ble_eq_true rfl) (Nat.zero_le _), sJ_at1_1_1, qbd_some]
  exact qlim_ret rfl
theorem sJ_at1_1_2 {h : qH} : S_J1_charAt_3b067 [qA (-21), qI 2] h = some (some (qI 97), h) := by
  refine (qM_at (Nat.le_of_ble_eq_true rfl) rfl).trans ?_
  refine (qlim_n (n := 3) (c' := (3, [some (qA (-21)), some (qI 2)], [qI 5, qI 2], h)) rfl).trans ?_
  rw [qlim_calls (n := 2) (As := [qI 2, qI 5]) (rest := []) rfl rfl rfl (Nat.le_of_ble_eq_true rfl) (Nat.zero_le _), sJ_chk (by omega) (by omega), qbd_some]
  exact (qlim_n (n := 6) (c' := (14, [some (qA (-21)), some (qI 2)], [qI 97], h)) rfl).trans (qlim_ret rfl)
theorem sJ_at_1_2 {h : qH} : S_J0_charAt_5068e [qA (-3), qI 2] h = some (some (qI 97), h) := by
  refine (qM_at (Nat.le_of_ble_eq_true rfl) rfl).trans ?_
  refine (qlim_n (n := 1) (c' := (1, [some (qA (-3)), some (qI 2)], [qA (-3)], h)) rfl).trans ?_
  rw [qlim_callx (n := 0) (As := []) (rest := []) rfl rfl rfl (Nat.zero_le _) (Nat.zero_le _) (by decide), sJ_latin (by decide), qbd_some]
  refine (qlim_n (n := 4) (c' := (12, [some (qA (-3)), some (qI 2)], [qI 2, qA (-21)], h)) rfl).trans ?_
  rw [qlim_calls (n := 2) (As := [qA (-21), qI 2]) (rest := []) rfl rfl rfl (Nat.le_of_ble_eq_true rfl) (Nat.zero_le _), sJ_at1_1_2, qbd_some]
  exact qlim_ret rfl
theorem sJ_at1_1_3 {h : qH} : S_J1_charAt_3b067 [qA (-21), qI 3] h = some (some (qI 99), h) := by
  refine (qM_at (Nat.le_of_ble_eq_true rfl) rfl).trans ?_
  refine (qlim_n (n := 3) (c' := (3, [some (qA (-21)), some (qI 3)], [qI 5, qI 3], h)) rfl).trans ?_
  rw [qlim_calls (n := 2) (As := [qI 3, qI 5]) (rest := []) rfl rfl rfl (Nat.le_of_ble_eq_true rfl) (Nat.zero_le _), sJ_chk (by omega) (by omega), qbd_some]
  exact (qlim_n (n := 6) (c' := (14, [some (qA (-21)), some (qI 3)], [qI 99], h)) rfl).trans (qlim_ret rfl)
theorem sJ_at_1_3 {h : qH} : S_J0_charAt_5068e [qA (-3), qI 3] h = some (some (qI 99), h) := by
  refine (qM_at (Nat.le_of_ble_eq_true rfl) rfl).trans ?_
  refine (qlim_n (n := 1) (c' := (1, [some (qA (-3)), some (qI 3)], [qA (-3)], h)) rfl).trans ?_
  rw [qlim_callx (n := 0) (As := []) (rest := []) rfl rfl rfl (Nat.zero_le _) (Nat.zero_le _) (by decide), sJ_latin (by decide), qbd_some]
  refine (qlim_n (n := 4) (c' := (12, [some (qA (-3)), some (qI 3)], [qI 3, qA (-21)], h)) rfl).trans ?_
  rw [qlim_calls (n := 2) (As := [qA (-21), qI 3]) (rest := []) rfl rfl rfl (Nat.le_of_ble_eq_true rfl) (Nat.zero_le _), sJ_at1_1_3, qbd_some]
  exact qlim_ret rfl
theorem sJ_at1_1_4 {h : qH} : S_J1_charAt_3b067 [qA (-21), qI 4] h = some (some (qI 107), h) := by
  refine (qM_at (Nat.le_of_ble_eq_true rfl) rfl).trans ?_
  refine (qlim_n (n := 3) (c' := (3, [some (qA (-21)), some (qI 4)], [qI 5, qI 4], h)) rfl).trans ?_
  rw [qlim_calls (n := 2) (As := [qI 4, qI 5]) (rest := []) rfl rfl rfl (Nat.le_of_ble_eq_true rfl) (Nat.zero_le _), sJ_chk (by omega) (by omega), qbd_some]
  exact (qlim_n (n := 6) (c' := (14, [some (qA (-21)), some (qI 4)], [qI 107], h)) rfl).trans (qlim_ret rfl)
theorem sJ_at_1_4 {h : qH} : S_J0_charAt_5068e [qA (-3), qI 4] h = some (some (qI 107), h) := by
  refine (qM_at (Nat.le_of_ble_eq_true rfl) rfl).trans ?_
  refine (qlim_n (n := 1) (c' := (1, [some (qA (-3)), some (qI 4)], [qA (-3)], h)) rfl).trans ?_
  rw [qlim_callx (n := 0) (As := []) (rest := []) rfl rfl rfl (Nat.zero_le _) (Nat.zero_le _) (by decide), sJ_latin (by decide), qbd_some]
  refine (qlim_n (n := 4) (c' := (12, [some (qA (-3)), some (qI 4)], [qI 4, qA (-21)], h)) rfl).trans ?_
  rw [qlim_calls (n := 2) (As := [qA (-21), qI 4]) (rest := []) rfl rfl rfl (Nat.le_of_ble_eq_true rfl) (Nat.zero_le _), sJ_at1_1_4, qbd_some]
  exact qlim_ret rfl
theorem sJ_at1_2_0 {h : qH} : S_J1_charAt_3b067 [qA (-22), qI 0] h = some (some (qI 104), h) := by
  refine (qM_at (Nat.le_of_ble_eq_true rfl) rfl).trans ?_
  refine (qlim_n (n := 3) (c' := (3, [some (qA (-22)), some (qI 0)], [qI 4, qI 0], h)) rfl).trans ?_
  rw [qlim_calls (n := 2) (As := [qI 0, qI 4]) (rest := []) rfl rfl rfl (Nat.le_of_ble_eq_true rfl) (Nat.zero_le _), sJ_chk (by omega) (by omega), qbd_some]
  exact (qlim_n (n := 6) (c' := (14, [some (qA (-22)), some (qI 0)], [qI 104], h)) rfl).trans (qlim_ret rfl)
theorem sJ_at_2_0 {h : qH} : S_J0_charAt_5068e [qA (-4), qI 0] h = some (some (qI 104), h) := by
  refine (qM_at (Nat.le_of_ble_eq_true rfl) rfl).trans ?_
  refine (qlim_n (n := 1) (c' := (1, [some (qA (-4)), some (qI 0)], [qA (-4)], h)) rfl).trans ?_
  rw [qlim_callx (n := 0) (As := []) (rest := []) rfl rfl rfl (Nat.zero_le _) (Nat.zero_le _) (by decide), sJ_latin (by decide), qbd_some]
  refine (qlim_n (n := 4) (c' := (12, [some (qA (-4)), some (qI 0)], [qI 0, qA (-22)], h)) rfl).trans ?_
  rw [qlim_calls (n := 2) (As := [qA (-22), qI 0]) (rest := []) rfl rfl rfl (Nat.le_of_ble_eq_true rfl) (Nat.zero_le _), sJ_at1_2_0, qbd_some]
  exact qlim_ret rfl
theorem sJ_at1_2_1 {h : qH} : S_J1_charAt_3b067 [qA (-22), qI 1] h = some (some (qI 101), h) := by
  refine (qM_at (Nat.le_of_ble_eq_true rfl) rfl).trans ?_
  refine (qlim_n (n := 3) (c' := (3, [some (qA (-22)), some (qI 1)], [qI 4, qI 1], h)) rfl).trans ?_
  rw [qlim_calls (n := 2) (As := [qI 1, qI 4]) (rest := []) rfl rfl rfl (Nat.le_of_ble_eq_true rfl) (Nat.zero_le _), sJ_chk (by omega) (by omega), qbd_some]
  exact (qlim_n (n := 6) (c' := (14, [some (qA (-22)), some (qI 1)], [qI 101], h)) rfl).trans (qlim_ret rfl)
theorem sJ_at_2_1 {h : qH} : S_J0_charAt_5068e [qA (-4), qI 1] h = some (some (qI 101), h) := by
  refine (qM_at (Nat.le_of_ble_eq_true rfl) rfl).trans ?_
  refine (qlim_n (n := 1) (c' := (1, [some (qA (-4)), some (qI 1)], [qA (-4)], h)) rfl).trans ?_
  rw [qlim_callx (n := 0) (As := []) (rest := []) rfl rfl rfl (Nat.zero_le _) (Nat.zero_le _) (by decide), sJ_latin (by decide), qbd_some]
  refine (qlim_n (n := 4) (c' := (12, [some (qA (-4)), some (qI 1)], [qI 1, qA (-22)], h)) rfl).trans ?_
  rw [qlim_calls (n := 2) (As := [qA (-22), qI 1]) (rest := []) rfl rfl rfl (Nat.le_of_ble_eq_true rfl) (Nat.zero_le _), sJ_at1_2_1, qbd_some]
  exact qlim_ret rfl
theorem sJ_at1_2_2 {h : qH} : S_J1_charAt_3b067 [qA (-22), qI 2] h = some (some (qI 97), h) := by
  refine (qM_at (Nat.le_of_ble_eq_true rfl) rfl).trans ?_
  refine (qlim_n (n := 3) (c' := (3, [some (qA (-22)), some (qI 2)], [qI 4, qI 2], h)) rfl).trans ?_
  rw [qlim_calls (n := 2) (As := [qI 2, qI 4]) (rest := []) rfl rfl rfl (Nat.le_of_ble_eq_true rfl) (Nat.zero_le _), sJ_chk (by omega) (by omega), qbd_some]
  exact (qlim_n (n := 6) (c' := (14, [some (qA (-22)), some (qI 2)], [qI 97], h)) rfl).trans (qlim_ret rfl)
theorem sJ_at_2_2 {h : qH} : S_J0_charAt_5068e [qA (-4), qI 2] h = some (some (qI 97), h) := by
  refine (qM_at (Nat.le_of_ble_eq_true rfl) rfl).trans ?_
  refine (qlim_n (n := 1) (c' := (1, [some (qA (-4)), some (qI 2)], [qA (-4)], h)) rfl).trans ?_
  rw [qlim_callx (n := 0) (As := []) (rest := []) rfl rfl rfl (Nat.zero_le _) (Nat.zero_le _) (by decide), sJ_latin (by decide), qbd_some]
  refine (qlim_n (n := 4) (c' := (12, [some (qA (-4)), some (qI 2)], [qI 2, qA (-22)], h)) rfl).trans ?_
  rw [qlim_calls (n := 2) (As := [qA (-22), qI 2]) (rest := []) rfl rfl rfl (Nat.le_of_ble_eq_true rfl) (Nat.zero_le _), sJ_at1_2_2, qbd_some]
  exact qlim_ret rfl
theorem sJ_at1_2_3 {h : qH} : S_J1_charAt_3b067 [qA (-22), qI 3] h = some (some (qI 112), h) := by
  refine (qM_at (Nat.le_of_ble_eq_true rfl) rfl).trans ?_
  refine (qlim_n (n := 3) (c' := (3, [some (qA (-22)), some (qI 3)], [qI 4, qI 3], h)) rfl).trans ?_
  rw [qlim_calls (n := 2) (As := [qI 3, qI 4]) (rest := []) rfl rfl rfl (Nat.le_of_ble_eq_true rfl) (Nat.zero_le _), sJ_chk (by omega) (by omega), qbd_some]
  exact (qlim_n (n := 6) (c' := (14, [some (qA (-22)), some (qI 3)], [qI 112], h)) rfl).trans (qlim_ret rfl)
theorem sJ_at_2_3 {h : qH} : S_J0_charAt_5068e [qA (-4), qI 3] h = some (some (qI 112), h) := by
  refine (qM_at (Nat.le_of_ble_eq_true rfl) rfl).trans ?_
  refine (qlim_n (n := 1) (c' := (1, [some (qA (-4)), some (qI 3)], [qA (-4)], h)) rfl).trans ?_
  rw [qlim_callx (n := 0) (As := []) (rest := []) rfl rfl rfl (Nat.zero_le _) (Nat.zero_le _) (by decide), sJ_latin (by decide), qbd_some]
  refine (qlim_n (n := 4) (c' := (12, [some (qA (-4)), some (qI 3)], [qI 3, qA (-22)], h)) rfl).trans ?_
  rw [qlim_calls (n := 2) (As := [qA (-22), qI 3]) (rest := []) rfl rfl rfl (Nat.le_of_ble_eq_true rfl) (Nat.zero_le _), sJ_at1_2_3, qbd_some]
  exact qlim_ret rfl
theorem sJ_at1_3_0 {h : qH} : S_J1_charAt_3b067 [qA (-23), qI 0] h = some (some (qI 112), h) := by
  refine (qM_at (Nat.le_of_ble_eq_true rfl) rfl).trans ?_
  refine (qlim_n (n := 3) (c' := (3, [some (qA (-23)), some (qI 0)], [qI 4, qI 0], h)) rfl).trans ?_
  rw [qlim_calls (n := 2) (As := [qI 0, qI 4]) (rest := []) rfl rfl rfl (Nat.le_of_ble_eq_true rfl) (Nat.zero_le _), sJ_chk (by omega) (by omega), qbd_some]
  exact (qlim_n (n := 6) (c' := (14, [some (qA (-23)), some (qI 0)], [qI 112], h)) rfl).trans (qlim_ret rfl)
theorem sJ_at_3_0 {h : qH} : S_J0_charAt_5068e [qA (-5), qI 0] h = some (some (qI 112), h) := by
  refine (qM_at (Nat.le_of_ble_eq_true rfl) rfl).trans ?_
  refine (qlim_n (n := 1) (c' := (1, [some (qA (-5)), some (qI 0)], [qA (-5)], h)) rfl).trans ?_
  rw [qlim_callx (n := 0) (As := []) (rest := []) rfl rfl rfl (Nat.zero_le _) (Nat.zero_le _) (by decide), sJ_latin (by decide), qbd_some]
  refine (qlim_n (n := 4) (c' := (12, [some (qA (-5)), some (qI 0)], [qI 0, qA (-23)], h)) rfl).trans ?_
  rw [qlim_calls (n := 2) (As := [qA (-23), qI 0]) (rest := []) rfl rfl rfl (Nat.le_of_ble_eq_true rfl) (Nat.zero_le _), sJ_at1_3_0, qbd_some]
  exact qlim_ret rfl
theorem sJ_at1_3_1 {h : qH} : S_J1_charAt_3b067 [qA (-23), qI 1] h = some (some (qI 111), h) := by
  refine (qM_at (Nat.le_of_ble_eq_true rfl) rfl).trans ?_
  refine (qlim_n (n := 3) (c' := (3, [some (qA (-23)), some (qI 1)], [qI 4, qI 1], h)) rfl).trans ?_
  rw [qlim_calls (n := 2) (As := [qI 1, qI 4]) (rest := []) rfl rfl rfl (Nat.le_of_ble_eq_true rfl) (Nat.zero_le _), sJ_chk (by omega) (by omega), qbd_some]
  exact (qlim_n (n := 6) (c' := (14, [some (qA (-23)), some (qI 1)], [qI 111], h)) rfl).trans (qlim_ret rfl)
theorem sJ_at_3_1 {h : qH} : S_J0_charAt_5068e [qA (-5), qI 1] h = some (some (qI 111), h) := by
  refine (qM_at (Nat.le_of_ble_eq_true rfl) rfl).trans ?_
  refine (qlim_n (n := 1) (c' := (1, [some (qA (-5)), some (qI 1)], [qA (-5)], h)) rfl).trans ?_
  rw [qlim_callx (n := 0) (As := []) (rest := []) rfl rfl rfl (Nat.zero_le _) (Nat.zero_le _) (by decide), sJ_latin (by decide), qbd_some]
  refine (qlim_n (n := 4) (c' := (12, [some (qA (-5)), some (qI 1)], [qI 1, qA (-23)], h)) rfl).trans ?_
  rw [qlim_calls (n := 2) (As := [qA (-23), qI 1]) (rest := []) rfl rfl rfl (Nat.le_of_ble_eq_true rfl) (Nat.zero_le _), sJ_at1_3_1, qbd_some]
  exact qlim_ret rfl
theorem sJ_at1_3_2 {h : qH} : S_J1_charAt_3b067 [qA (-23), qI 2] h = some (some (qI 115), h) := by
  refine (qM_at (Nat.le_of_ble_eq_true rfl) rfl).trans ?_
  refine (qlim_n (n := 3) (c' := (3, [some (qA (-23)), some (qI 2)], [qI 4, qI 2], h)) rfl).trans ?_
  rw [qlim_calls (n := 2) (As := [qI 2, qI 4]) (rest := []) rfl rfl rfl (Nat.le_of_ble_eq_true rfl) (Nat.zero_le _), sJ_chk (by omega) (by omega), qbd_some]
  exact (qlim_n (n := 6) (c' := (14, [some (qA (-23)), some (qI 2)], [qI 115], h)) rfl).trans (qlim_ret rfl)
theorem sJ_at_3_2 {h : qH} : S_J0_charAt_5068e [qA (-5), qI 2] h = some (some (qI 115), h) := by
  refine (qM_at (Nat.le_of_ble_eq_true rfl) rfl).trans ?_
  refine (qlim_n (n := 1) (c' := (1, [some (qA (-5)), some (qI 2)], [qA (-5)], h)) rfl).trans ?_
  rw [qlim_callx (n := 0) (As := []) (rest := []) rfl rfl rfl (Nat.zero_le _) (Nat.zero_le _) (by decide), sJ_latin (by decide), qbd_some]
  refine (qlim_n (n := 4) (c' := (12, [some (qA (-5)), some (qI 2)], [qI 2, qA (-23)], h)) rfl).trans ?_
  rw [qlim_calls (n := 2) (As := [qA (-23), qI 2]) (rest := []) rfl rfl rfl (Nat.le_of_ble_eq_true rfl) (Nat.zero_le _), sJ_at1_3_2, qbd_some]
  exact qlim_ret rfl
theorem sJ_at1_3_3 {h : qH} : S_J1_charAt_3b067 [qA (-23), qI 3] h = some (some (qI 116), h) := by
  refine (qM_at (Nat.le_of_ble_eq_true rfl) rfl).trans ?_
  refine (qlim_n (n := 3) (c' := (3, [some (qA (-23)), some (qI 3)], [qI 4, qI 3], h)) rfl).trans ?_
  rw [qlim_calls (n := 2) (As := [qI 3, qI 4]) (rest := []) rfl rfl rfl (Nat.le_of_ble_eq_true rfl) (Nat.zero_le _), sJ_chk (by omega) (by omega), qbd_some]
  exact (qlim_n (n := 6) (c' := (14, [some (qA (-23)), some (qI 3)], [qI 116], h)) rfl).trans (qlim_ret rfl)
theorem sJ_at_3_3 {h : qH} : S_J0_charAt_5068e [qA (-5), qI 3] h = some (some (qI 116), h) := by
  refine (qM_at (Nat.le_of_ble_eq_true rfl) rfl).trans ?_
  refine (qlim_n (n := 1) (c' := (1, [some (qA (-5)), some (qI 3)], [qA (-5)], h)) rfl).trans ?_
  rw [qlim_callx (n := 0) (As := []) (rest := []) rfl rfl rfl (Nat.zero_le _) (Nat.zero_le _) (by decide), sJ_latin (by decide), qbd_some]
  refine (qlim_n (n := 4) (c' := (12, [some (qA (-5)), some (qI 3)], [qI 3, qA (-23)], h)) rfl).trans ?_
  rw [qlim_calls (n := 2) (As := [qA (-23), qI 3]) (rest := []) rfl rfl rfl (Nat.le_of_ble_eq_true rfl) (Nat.zero_le _), sJ_at1_3_3, qbd_some]
  exact qlim_ret rfl
