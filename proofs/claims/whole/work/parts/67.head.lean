/-! the text: how a clause begins, both sides -/
def fHd (t : Int → Int) (i : Int) : Int × Int := if fWo (t i) = 4 then (0, i) else if (fWm t (fWl (fWo (t i))) i).2 = 1 then (if t (fWm t (fWl (fWo (t i))) i).1 = 32 then (1, (fWm t (fWl (fWo (t i))) i).1 + 1) else (0, (fWm t (fWl (fWo (t i))) i).1)) else (0, (fWm t (fWl (fWo (t i))) i).1)
theorem fWo_5 {l : Int} : fWo l < 5 := by
  unfold fWo
  split
  · omega
  · split
    · omega
    · split
      · omega
      · split <;> omega
theorem fWm_le {M : qMem} {g n : Int} {t : Int → Int} (h : qTc M g n t) : ∀ (ws : List Int) (i : Int), (∀ w ∈ ws, 0 ≤ w) → i ≤ n → (fWm t ws i).1 ≤ n
  | [], i, _, hi => hi
  | w :: ws, i, hw, hi => by
    unfold fWm
    split
    · rename_i c
      have w0 := hw w (List.mem_cons_self ..)
      have hl := qTc_lt h (i := i) (by omega)
      exact fWm_le h ws (i + 1) (fun v hv => hw v (List.mem_cons_of_mem _ hv)) (by omega)
    · exact hi
theorem fHd_le {M : qMem} {g n i : Int} {t : Int → Int} (h : qTc M g n t) (hi : i ≤ n) : i ≤ (fHd t i).2 ∧ (fHd t i).2 ≤ n ∧ ((fHd t i).1 = 0 ∨ ((fHd t i).1 = 1 ∧ i + 1 ≤ (fHd t i).2 ∧ fWo (t i) < 4)) := by
  have a := fWm_01 (t := t) (fWl (fWo (t i))) i
  have b := fWm_le h (fWl (fWo (t i))) i (fWl_pos _ fWo_5) hi
  have c := fWo_5 (l := t i)
  unfold fHd
  split
  · exact ⟨Int.le_refl _, hi, Or.inl rfl⟩
  · split
    · split
      · rename_i d
        have e := qTc_lt h (i := (fWm t (fWl (fWo (t i))) i).1) (by omega)
        exact ⟨by dsimp only; omega, by dsimp only; omega, Or.inr ⟨rfl, by dsimp only; omega, by omega⟩⟩
      · exact ⟨a.2, b, Or.inl rfl⟩
    · exact ⟨a.2, b, Or.inl rfl⟩
theorem lX3_head {M : qMem} {g n x1 x2 k : Int} {t : Int → Int} {x4 x5 : Option qV} (h : qTc M g n t) (h0 : 0 ≤ M g 6 ∧ M g 6 ≤ n) :
    qlim C_X3_takesText (74, [some (qA g), some (qA x1), some (qI x2), some (qI k), x4, x5], [], qH0 M) = if (fHd t (M g 6)).1 = 0 then some (some (qI 0), qH0 (qup M g 6 (fHd t (M g 6)).2))
      else qlim C_X3_takesText (103, [some (qA g), some (qA x1), some (qI x2), some (qI k), some (qI (t (M g 6))), x5], [], qH0 (qup M g 6 (fHd t (M g 6)).2)) := by
  have hg := h.1
  have s := sX3_next h h0.1
  have w := sX3_word (j := fWo (t (M g 6))) fWo_5 h h0.1
  have a := fWm_01 (t := t) (fWl (fWo (t (M g 6)))) (M g 6)
  have T1 := qTc_6 (v := (fWm t (fWl (fWo (t (M g 6)))) (M g 6)).1) h
  have run : ∀ v : Int, S_X3_takesWord [qA g, qA (-2 - (fWo (t (M g 6)) : Nat))] (qH0 M) = some (some (qI v), qH0 (qup M g 6 (fWm t (fWl (fWo (t (M g 6)))) (M g 6)).1)) →
      qlim C_X3_takesText (74, [some (qA g), some (qA x1), some (qI x2), some (qI k), x4, x5], [], qH0 M) = qlim C_X3_takesText ((if v = 0 then 101 else 92), [some (qA g), some (qA x1), some (qI x2), some (qI k), some (qI (t (M g 6))), x5], [], qH0 (qup M g 6 (fWm t (fWl (fWo (t (M g 6)))) (M g 6)).1)) := fun v hv => by
    rw [B_X3_takesText_74 hg, s, qbd_some]
    show qlim C_X3_takesText (78, [some (qA g), some (qA x1), some (qI x2), some (qI k), x4, x5], [qI (t (M g 6))], qH0 M) = _
    rw [B_X3_takesText_78 hg, sX3_wordOf, qbd_some]
    show qlim C_X3_takesText (86, [some (qA g), some (qA x1), some (qI x2), some (qI k), some (qI (t (M g 6))), x5], [qA (-2 - (fWo (t (M g 6)) : Nat)), qA g], qH0 M) = _
    rw [B_X3_takesText_86 hg, hv, qbd_some]
    show qlim C_X3_takesText (89, [some (qA g), some (qA x1), some (qI x2), some (qI k), some (qI (t (M g 6))), x5], [qI v], qH0 (qup M g 6 (fWm t (fWl (fWo (t (M g 6)))) (M g 6)).1)) = _
    rw [B_X3_takesText_89 hg]
  have R := run _ w
  by_cases c4 : fWo (t (M g 6)) = 4
  · have e0 : (if (fWm t (fWl (fWo (t (M g 6)))) (M g 6)).2 = 1 then (if fWo (t (M g 6)) = 4 then (0 : Int) else 1) else 0) = 0 := by
      rw [if_pos c4]
      split <;> rfl
    have e1 : (fWm t (fWl (fWo (t (M g 6)))) (M g 6)).1 = M g 6 := by
      rw [c4]
      rfl
    have eh : fHd t (M g 6) = (0, M g 6) := by
      unfold fHd
      rw [if_pos c4]
    rw [e0, e1] at R
    rw [R, eh, qif_t rfl, B_X3_takesText_101 hg]
    rfl
  · by_cases c1 : (fWm t (fWl (fWo (t (M g 6)))) (M g 6)).2 = 1
    · rw [if_pos c1, if_neg c4] at R
      rw [R, qif_f (by omega), B_X3_takesText_92 hg]
      by_cases c2 : t (fWm t (fWl (fWo (t (M g 6)))) (M g 6)).1 = 32
      · have s2 := sX3_sign_y T1 (by rw [qup_self]; omega) (c := 32) (by rw [qup_self]; exact c2) (by omega)
        rw [qup_self, qup_qup] at s2
        have eh : fHd t (M g 6) = (1, (fWm t (fWl (fWo (t (M g 6)))) (M g 6)).1 + 1) := by
          unfold fHd
          rw [if_neg c4, if_pos c1, if_pos c2]
        rw [s2, qbd_some, eh]
        show qlim C_X3_takesText (98, [some (qA g), some (qA x1), some (qI x2), some (qI k), some (qI (t (M g 6))), x5], [qI 1], _) = _
        rw [B_X3_takesText_98 hg, qif_t (by omega)]
        rfl
      · have s2 := sX3_sign_n T1 (by rw [qup_self]; omega) (c := 32) (by rw [qup_self]; exact c2)
        have eh : fHd t (M g 6) = (0, (fWm t (fWl (fWo (t (M g 6)))) (M g 6)).1) := by
          unfold fHd
          rw [if_neg c4, if_pos c1, if_neg c2]
        rw [s2, qbd_some, eh]
        show qlim C_X3_takesText (98, [some (qA g), some (qA x1), some (qI x2), some (qI k), some (qI (t (M g 6))), x5], [qI 0], _) = _
        rw [B_X3_takesText_98 hg, qif_f (by omega), B_X3_takesText_101 hg]
        rfl
    · have eh : fHd t (M g 6) = (0, (fWm t (fWl (fWo (t (M g 6)))) (M g 6)).1) := by
        unfold fHd
        rw [if_neg c4, if_neg c1]
      rw [if_neg c1] at R
      rw [R, eh, qif_t rfl, B_X3_takesText_101 hg]
      rfl
/-- the reference's letters -/
def fLe : List Int := [98, 114, 105, 115, 107, 115, 108, 97, 99, 107, 104, 101, 97, 112, 112, 111, 115, 116]
def qLe (N : qMem) : Prop := ∀ k : Nat, k < 18 → N 98 k = fLe.getD k 0
def fWf (j : Nat) : Nat := if j = 0 then 0 else if j = 1 then 5 else if j = 2 then 10 else 14
theorem fWf_le : ∀ j : Nat, j < 4 → ∀ k : Nat, k < (fWl j).length → fWf j + k < 18 ∧ fLe.getD (fWf j + k) 0 = (fWl j).getD k 0 := by decide
theorem fWl_5 : ∀ j : Nat, j < 5 → (fWl j).length ≤ 5 := by decide
theorem lX12_word {n : Int} {t : Int → Int} {j : Nat} (hj : j < 4) : ∀ (ws : List Int) (k : Nat) (N : qMem), (fWl j).drop k = ws → k ≤ 5 → qTm N n t → qLe N → 0 ≤ N 82 13 →
    qlim C_X12_takesWord (2, [some (qA 82), some (qI (fWf j)), some (qI (fWl j).length), some (qI k)], [], qH0 N) =
      if (fWm t ws (N 82 13)).2 = 1 then (if t (fWm t ws (N 82 13)).1 = 32 then some (some (qI 1), qH0 (qup N 82 13 ((fWm t ws (N 82 13)).1 + 1))) else some (some (qI 0), qH0 (qup N 82 13 (fWm t ws (N 82 13)).1))) else some (some (qI 0), qH0 (qup N 82 13 (fWm t ws (N 82 13)).1))
  | [], k, N, hw, hk, h, hL, h0 => by
    have hl : (fWl j).length ≤ k := List.drop_eq_nil_iff.mp hw
    have e1 : fWm t [] (N 82 13) = (N 82 13, 1) := rfl
    rw [e1]
    dsimp only
    rw [if_pos rfl, qup_id]
    by_cases c : t (N 82 13) = 32
    · have s := sX12_takes_y h h0 c (by omega)
      rw [if_pos c]
      simp (disch := first | assumption | omega) only [B_X12_takesWord_2, B_X12_takesWord_30, B_X12_takesWord_36, not_true_eq_false, not_false_eq_true, if_true, if_false, qlk, qtk, qif_t, qif_f, qbd_some, Option.toList_some, Option.toList_none, List.cons_append, List.nil_append, List.append_nil, s]
    · have s := sX12_takes_n h h0 (c := 32) c
      rw [if_neg c]
      simp (disch := first | assumption | omega) only [B_X12_takesWord_2, B_X12_takesWord_30, B_X12_takesWord_36, not_true_eq_false, not_false_eq_true, if_true, if_false, qlk, qtk, qif_t, qif_f, qbd_some, Option.toList_some, Option.toList_none, List.cons_append, List.nil_append, List.append_nil, s]
  | w :: ws, k, N, hw, hk, h, hL, h0 => by
    have hl : k < (fWl j).length := by
      by_cases c : k < (fWl j).length
      · exact c
      · rw [List.drop_eq_nil_of_le (by omega)] at hw
        cases hw
    have hl5 := fWl_5 j (by omega)
    have hc := List.drop_eq_getElem_cons hl
    rw [hw] at hc
    injection hc with hc1 hc2
    have ew : (fWl j).getD k 0 = w := by
      rw [List.getD_eq_getElem?_getD, List.getElem?_eq_getElem hl, hc1]
      rfl
    have w0 : 0 ≤ w := fWl_pos j (by omega) w (by rw [hc1]; exact List.getElem_mem hl)
    have le := fWf_le j hj k hl
    have ek : kadd (fWf j : Int) (k : Int) = ((fWf j + k : Nat) : Int) := by rw [kadd_eq (by omega) (by omega)]; omega
    have e98 : N 98 ((fWf j + k : Nat) : Int) = w := by rw [hL _ le.1, le.2, ew]
    have e1 : kadd (k : Int) 1 = ((k + 1 : Nat) : Int) := by rw [kadd_eq (by omega) (by omega)]; omega
    have e2 : fWm t (w :: ws) (N 82 13) = if t (N 82 13) = w then fWm t ws (N 82 13 + 1) else (N 82 13, 0) := rfl
    rw [B_X12_takesWord_2, qif_f (by omega), B_X12_takesWord_7 (by rw [ek]; omega) (by rw [ek]; omega), ek, e98, e2]
    by_cases c : t (N 82 13) = w
    · have s := sX12_takes_y h h0 c (by omega)
      have hl2 := qTm_lt h (i := N 82 13) (by omega)
      have ih := lX12_word hj ws (k + 1) (qup N 82 13 (N 82 13 + 1)) (hc2.symm ▸ rfl) (by omega) (qTm_up h (by omega)) (fun i hi => by rw [qup_ne (by omega)]; exact hL i hi) (by rw [qup_self]; omega)
      rw [qup_self, qup_qup, qup_qup] at ih
      rw [s, qbd_some, if_pos c, ← ih]
      show qlim C_X12_takesWord (19, [some (qA 82), some (qI (fWf j)), some (qI (fWl j).length), some (qI k)], [qI 1], qH0 (qup N 82 13 (N 82 13 + 1))) = _
      simp (disch := first | assumption | omega) only [B_X12_takesWord_19, B_X12_takesWord_24, not_true_eq_false, not_false_eq_true, if_true, if_false, qlk, qtk, qif_t, qif_f, qbd_some, Option.toList_some, Option.toList_none, List.cons_append, List.nil_append, List.append_nil, e1]
    · have s := sX12_takes_n h h0 c
      rw [s, qbd_some, if_neg c]
      dsimp only
      rw [if_neg (by omega), qup_id]
      show qlim C_X12_takesWord (19, [some (qA 82), some (qI (fWf j)), some (qI (fWl j).length), some (qI k)], [qI 0], qH0 N) = _
      simp (disch := first | assumption | omega) only [B_X12_takesWord_19, B_X12_takesWord_22, not_true_eq_false, not_false_eq_true, if_true, if_false, qlk, qtk, qif_t, qif_f, qbd_some, Option.toList_some, Option.toList_none, List.cons_append, List.nil_append, List.append_nil]
/-- what kind of clause the reference writes down -/
def fWk (l : Int) : Int := if fWo l = 4 then 3 else fWo l
theorem sX12_head {N : qMem} {n c : Int} {t : Int → Int} (h : qTm N n t) (hL : qLe N) (h0 : 0 ≤ N 82 13) (hc : 0 ≤ c ∧ c < 60) :
    S_X12_takesHead [qA 82, qI c] (qH0 N) = some (some (qI (fHd t (N 82 13)).1), qH0 (qup (qup N 92 c (fWk (t (N 82 13)))) 82 13 (fHd t (N 82 13)).2)) := by
  have s := sX12_next h h0
  have hL' : ∀ w : Int, qLe (qup N 92 c w) := fun w k hk => by rw [qup_ne (by omega)]; exact hL k hk
  have h' : ∀ w : Int, qTm (qup N 92 c w) n t := fun w => ⟨by rw [qup_ne (by omega)]; exact h.1, h.2.1, fun i a b => by rw [qup_ne (by omega)]; exact h.2.2.1 i a b, h.2.2.2⟩
  have x13 : ∀ w : Int, qup N 92 c w 82 13 = N 82 13 := fun w => qup_ne (by omega)
  have W : ∀ (j : Nat) (w : Int), j < 4 → S_X12_takesWord [qA 82, qI (fWf j), qI (fWl j).length] (qH0 (qup N 92 c w)) = if (fWm t (fWl j) (N 82 13)).2 = 1 then (if t (fWm t (fWl j) (N 82 13)).1 = 32 then some (some (qI 1), qH0 (qup (qup N 92 c w) 82 13 ((fWm t (fWl j) (N 82 13)).1 + 1))) else some (some (qI 0), qH0 (qup (qup N 92 c w) 82 13 (fWm t (fWl j) (N 82 13)).1))) else some (some (qI 0), qH0 (qup (qup N 92 c w) 82 13 (fWm t (fWl j) (N 82 13)).1)) := fun j w hj => by
    have L := lX12_word hj (fWl j) 0 (qup N 92 c w) rfl (by omega) (h' w) (hL' w) (by rw [x13]; exact h0)
    rw [x13] at L
    rw [E_X12_takesWord, B_X12_takesWord_0]
    exact L
  have fin : ∀ j : Nat, j < 4 → fWo (t (N 82 13)) = j → S_X12_takesWord [qA 82, qI (fWf j), qI (fWl j).length] (qH0 (qup N 92 c (j : Int))) = some (some (qI (fHd t (N 82 13)).1), qH0 (qup (qup N 92 c (fWk (t (N 82 13)))) 82 13 (fHd t (N 82 13)).2)) := fun j hj e => by
    have ek : fWk (t (N 82 13)) = j := by
      unfold fWk
      rw [e, if_neg (by omega)]
    rw [W j _ hj, ek]
    unfold fHd
    rw [e, if_neg (c := j = 4) (by omega)]
    by_cases c1 : (fWm t (fWl j) (N 82 13)).2 = 1
    · rw [if_pos c1, if_pos c1]
      by_cases c2 : t (fWm t (fWl j) (N 82 13)).1 = 32
      · rw [if_pos c2, if_pos c2]
      · rw [if_neg c2, if_neg c2]
    · rw [if_neg c1, if_neg c1]
  have bit : ∀ r : Int, (fHd t r).1 = 0 ∨ (fHd t r).1 = 1 := fun r => by
    unfold fHd
    split
    · exact Or.inl rfl
    · split
      · split
        · exact Or.inr rfl
        · exact Or.inl rfl
      · exact Or.inl rfl
  have b := bit (N 82 13)
  have hc1 := hc.1
  have hc2 := hc.2
  have start : S_X12_takesHead [qA 82, qI c] (qH0 N) = qlim C_X12_takesHead (qlk [(98, 40), (104, 68), (115, 54)] 83 (t (N 82 13)), [some (qA 82), some (qI c)], [], qH0 N) := by
    rw [E_X12_takesHead, B_X12_takesHead_0, s, qbd_some]
    exact B_X12_takesHead_4
  rw [start]
  by_cases c1 : t (N 82 13) = 98
  · have F := fin 0 (by omega) (by unfold fWo; rw [if_pos c1])
    have F' : S_X12_takesWord [qA 82, qI 0, qI 5] (qH0 (qup N 92 c 0)) = _ := F
    have e : qlk [(98, 40), (104, 68), (115, 54)] 83 (t (N 82 13)) = 40 := by rw [c1]; rfl
    rw [e, B_X12_takesHead_40 hc1 hc2, F', qbd_some]
    exact B_X12_takesHead_53 b
  · by_cases c2 : t (N 82 13) = 115
    · have F := fin 1 (by omega) (by unfold fWo; rw [if_neg c1, if_pos c2])
      have F' : S_X12_takesWord [qA 82, qI 5, qI 5] (qH0 (qup N 92 c 1)) = _ := F
      have e : qlk [(98, 40), (104, 68), (115, 54)] 83 (t (N 82 13)) = 54 := by rw [c2]; rfl
      rw [e, B_X12_takesHead_54 hc1 hc2, F', qbd_some]
      exact B_X12_takesHead_67 b
    · by_cases c3 : t (N 82 13) = 104
      · have F := fin 2 (by omega) (by unfold fWo; rw [if_neg c1, if_neg c2, if_pos c3])
        have F' : S_X12_takesWord [qA 82, qI 10, qI 4] (qH0 (qup N 92 c 2)) = _ := F
        have e : qlk [(98, 40), (104, 68), (115, 54)] 83 (t (N 82 13)) = 68 := by rw [c3]; rfl
        rw [e, B_X12_takesHead_68 hc1 hc2, F', qbd_some]
        exact B_X12_takesHead_82 b
      · have e : qlk [(98, 40), (104, 68), (115, 54)] 83 (t (N 82 13)) = 83 := by
          unfold qlk
          rw [if_neg c1]
          unfold qlk
          rw [if_neg c3]
          unfold qlk
          rw [if_neg c2]
          rfl
        by_cases c4 : t (N 82 13) = 112
        · have F := fin 3 (by omega) (by unfold fWo; rw [if_neg c1, if_neg c2, if_neg c3, if_pos c4])
          have F' : S_X12_takesWord [qA 82, qI 14, qI 4] (qH0 (qup N 92 c 3)) = _ := F
          rw [e, B_X12_takesHead_83 hc1 hc2, F', qbd_some]
          exact B_X12_takesHead_97 b
        · have eo : fWo (t (N 82 13)) = 4 := by
            unfold fWo
            rw [if_neg c1, if_neg c2, if_neg c3, if_neg c4]
          have ek : fWk (t (N 82 13)) = 3 := by
            unfold fWk
            rw [if_pos eo]
          have eh : fHd t (N 82 13) = (0, N 82 13) := by
            unfold fHd
            rw [if_pos eo]
          have em : fWm t (fWl 3) (N 82 13) = (N 82 13, 0) := by
            show (if t (N 82 13) = 112 then _ else (N 82 13, (0 : Int))) = _
            rw [if_neg c4]
          have F := W 3 3 (by omega)
          rw [em] at F
          dsimp only at F
          rw [if_neg (by omega)] at F
          have F' : S_X12_takesWord [qA 82, qI 14, qI 4] (qH0 (qup N 92 c 3)) = _ := F
          rw [e, B_X12_takesHead_83 hc1 hc2, F', qbd_some, ek, eh]
          exact B_X12_takesHead_97 (Or.inl rfl)
