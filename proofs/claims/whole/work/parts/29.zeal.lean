/-! zeal (the class) -/
def fVal (M : qMem) (o p l : Int) : Int :=
  if l = 112 then p else if l = 107 then M (o + 2) p else if l = 118 then M (o + 3) p else if l = 119 then M (o + 4) p
  else if l = 100 then M (o + 5) p / 10 else M o 11 % 10
def fTrue (M : qMem) (o p x : Int) : Bool :=
  if x / 256 % 256 = 60 then decide (fVal M o p (x % 256) < x / 65536) else if x / 256 % 256 = 62 then decide (x / 65536 < fVal M o p (x % 256))
  else decide (fVal M o p (x % 256) = x / 65536)
def qZS (M : qMem) (o p : Int) : Prop := qSt o ∧ (0 ≤ p ∧ p < 6) ∧ (0 ≤ M o 11 ∧ M o 11 ≤ 100000) ∧ (0 ≤ M (o + 5) p ∧ M (o + 5) p ≤ 1000000000)
theorem lX3_isTrue {M : qMem} {o p x v : Int} (h : qZS M o p) (h1 : 0 ≤ x) (h2 : x ≤ 2147483647) : qlim C_X3_isTrue (112, [some (qI x), some (qA o), some (qI p), some (qI v), none], [], qH0 M) =
    some (some (qI (if (if x / 256 % 256 = 60 then decide (v < x / 65536) else if x / 256 % 256 = 62 then decide (x / 65536 < v) else decide (v = x / 65536)) = true then 1 else 0)), qH0 M) := by
  obtain ⟨ho, hp, hm, hd⟩ := h
  have hl : qRw 39 := Or.inl rfl
  have e1 : kand (kshr x 8) 255 = x / 256 % 256 := by rw [kshr_8 h1 h2, kand_255 (by omega) (by omega)]
  have e2 : kshr x 16 = x / 65536 := kshr_16 h1 h2
  rw [B_X3_isTrue_112 ho, e1, e2]
  by_cases c1 : x / 256 % 256 = 60
  · rw [if_pos c1]
    by_cases c2 : v < x / 65536
    · rw [decide_eq_true c2]
      simp (disch := first | assumption | omega) only [B_X3_isTrue_152, B_X3_isTrue_158, B_X3_isTrue_162, B_X3_isTrue_163, not_true_eq_false, not_false_eq_true, if_true, if_false, qlk, qtk, qif_t, qif_f, qbd_some, Option.toList_some, Option.toList_none, List.cons_append, List.nil_append, List.append_nil, c1, if_true]
    · rw [decide_eq_false c2]
      simp (disch := first | assumption | omega) only [B_X3_isTrue_152, B_X3_isTrue_158, B_X3_isTrue_162, B_X3_isTrue_163, not_true_eq_false, not_false_eq_true, if_true, if_false, qlk, qtk, qif_t, qif_f, qbd_some, Option.toList_some, Option.toList_none, List.cons_append, List.nil_append, List.append_nil, c1, if_false, Bool.false_eq_true]
  · rw [if_neg c1]
    by_cases c3 : x / 256 % 256 = 62
    · rw [if_pos c3]
      by_cases c2 : x / 65536 < v
      · rw [decide_eq_true c2]
        simp (disch := first | assumption | omega) only [B_X3_isTrue_164, B_X3_isTrue_170, B_X3_isTrue_174, B_X3_isTrue_175, not_true_eq_false, not_false_eq_true, if_true, if_false, qlk, qtk, qif_t, qif_f, qbd_some, Option.toList_some, Option.toList_none, List.cons_append, List.nil_append, List.append_nil, c3, if_true]
      · rw [decide_eq_false c2]
        simp (disch := first | assumption | omega) only [B_X3_isTrue_164, B_X3_isTrue_170, B_X3_isTrue_174, B_X3_isTrue_175, not_true_eq_false, not_false_eq_true, if_true, if_false, qlk, qtk, qif_t, qif_f, qbd_some, Option.toList_some, Option.toList_none, List.cons_append, List.nil_append, List.append_nil, c3, if_false, Bool.false_eq_true]
    · rw [if_neg c3]
      by_cases c2 : v = x / 65536
      · rw [decide_eq_true c2]
        simp (disch := first | assumption | omega) only [B_X3_isTrue_176, B_X3_isTrue_182, B_X3_isTrue_186, B_X3_isTrue_187, not_true_eq_false, not_false_eq_true, if_true, if_false, qlk, qtk, qif_t, qif_f, qbd_some, Option.toList_some, Option.toList_none, List.cons_append, List.nil_append, List.append_nil, if_true]
      · rw [decide_eq_false c2]
        simp (disch := first | assumption | omega) only [B_X3_isTrue_176, B_X3_isTrue_182, B_X3_isTrue_186, B_X3_isTrue_187, not_true_eq_false, not_false_eq_true, if_true, if_false, qlk, qtk, qif_t, qif_f, qbd_some, Option.toList_some, Option.toList_none, List.cons_append, List.nil_append, List.append_nil, if_false, Bool.false_eq_true]
theorem sX3_isTrue {M : qMem} {o p x : Int} (h : qZS M o p) (h1 : 0 ≤ x) (h2 : x ≤ 2147483647) : S_X3_isTrue [qI x, qA o, qI p] (qH0 M) = some (some (qI (if fTrue M o p x = true then 1 else 0)), qH0 M) := by
  have L := fun v => lX3_isTrue (v := v) h h1 h2
  unfold fTrue
  rw [← L (fVal M o p (x % 256))]
  obtain ⟨ho, hp, hm, hd⟩ := h
  have e0 : kand x 255 = x % 256 := kand_255 h1 h2
  have e1 : kdiv (M (o + 5) p) 10 = M (o + 5) p / 10 := kdiv_eq hd.1 (by omega) (by omega) (by omega)
  have e2 : krem (M o 11) 10 = M o 11 % 10 := krem_eq hm.1 (by omega) (by omega) (by omega)
  rw [E_X3_isTrue, B_X3_isTrue_0 ho, e0]
  unfold fVal
  by_cases c1 : x % 256 = 100
  · simp (disch := first | assumption | omega) only [B_X3_isTrue_56, B_X3_isTrue_61, B_X3_isTrue_71, B_X3_isTrue_81, B_X3_isTrue_91, B_X3_isTrue_104, not_true_eq_false, not_false_eq_true, if_true, if_false, qlk, qtk, qif_t, qif_f, qbd_some, Option.toList_some, Option.toList_none, List.cons_append, List.nil_append, List.append_nil, c1, e1, e2, Int.reduceEq, if_true, if_false]
  · by_cases c2 : x % 256 = 107
    · simp (disch := first | assumption | omega) only [B_X3_isTrue_56, B_X3_isTrue_61, B_X3_isTrue_71, B_X3_isTrue_81, B_X3_isTrue_91, B_X3_isTrue_104, not_true_eq_false, not_false_eq_true, if_true, if_false, qlk, qtk, qif_t, qif_f, qbd_some, Option.toList_some, Option.toList_none, List.cons_append, List.nil_append, List.append_nil, c2, e1, e2, Int.reduceEq, if_true, if_false]
    · by_cases c3 : x % 256 = 112
      · simp (disch := first | assumption | omega) only [B_X3_isTrue_56, B_X3_isTrue_61, B_X3_isTrue_71, B_X3_isTrue_81, B_X3_isTrue_91, B_X3_isTrue_104, not_true_eq_false, not_false_eq_true, if_true, if_false, qlk, qtk, qif_t, qif_f, qbd_some, Option.toList_some, Option.toList_none, List.cons_append, List.nil_append, List.append_nil, c3, e1, e2, Int.reduceEq, if_true, if_false]
      · by_cases c4 : x % 256 = 118
        · simp (disch := first | assumption | omega) only [B_X3_isTrue_56, B_X3_isTrue_61, B_X3_isTrue_71, B_X3_isTrue_81, B_X3_isTrue_91, B_X3_isTrue_104, not_true_eq_false, not_false_eq_true, if_true, if_false, qlk, qtk, qif_t, qif_f, qbd_some, Option.toList_some, Option.toList_none, List.cons_append, List.nil_append, List.append_nil, c4, e1, e2, Int.reduceEq, if_true, if_false]
        · by_cases c5 : x % 256 = 119
          · simp (disch := first | assumption | omega) only [B_X3_isTrue_56, B_X3_isTrue_61, B_X3_isTrue_71, B_X3_isTrue_81, B_X3_isTrue_91, B_X3_isTrue_104, not_true_eq_false, not_false_eq_true, if_true, if_false, qlk, qtk, qif_t, qif_f, qbd_some, Option.toList_some, Option.toList_none, List.cons_append, List.nil_append, List.append_nil, c5, e1, e2, Int.reduceEq, if_true, if_false]
          · simp (disch := first | assumption | omega) only [B_X3_isTrue_56, B_X3_isTrue_61, B_X3_isTrue_71, B_X3_isTrue_81, B_X3_isTrue_91, B_X3_isTrue_104, not_true_eq_false, not_false_eq_true, if_true, if_false, qlk, qtk, qif_t, qif_f, qbd_some, Option.toList_some, Option.toList_none, List.cons_append, List.nil_append, List.append_nil, c1, c2, c3, c4, c5, e1, e2, if_true, if_false]
def fZst (M : qMem) (o p : Int) (s : Int × Nat) (x : Int) : Int × Nat :=
  if x % 256 = 33 then (s.1, s.2 / 2 * 2 + (1 - s.2 % 2))
  else if x % 256 = 38 then (s.1, if s.2 % 2 = 0 then s.2 / 2 / 2 * 2 else s.2 / 2)
  else if x % 256 = 98 then (if s.2 % 2 = 0 then s.1 else s.1 + x / 65536, s.2)
  else if x % 256 = 115 then (if s.2 % 2 = 0 then s.1 else s.1 - x / 65536, s.2)
  else if x % 256 = 124 then (s.1, if s.2 % 2 = 0 then s.2 / 2 else s.2 / 2 / 2 * 2 + 1)
  else (s.1, 2 * s.2 + (if fTrue M o p x = true then 1 else 0))
def fZs (M : qMem) (g o p : Int) : Nat → Int × Nat
  | 0 => (3, 0)
  | i + 1 => fZst M o p (fZs M g o p i) (M (g + 2) i)
def fZeal (M : qMem) (g o p : Int) : Int := (fZs M g o p (M g 3).toNat).1
def qTst (x : Int) : Prop := ¬ x % 256 = 33 ∧ ¬ x % 256 = 38 ∧ ¬ x % 256 = 98 ∧ ¬ x % 256 = 115 ∧ ¬ x % 256 = 124
def fTc (M : qMem) (g : Int) : Nat → Nat
  | 0 => 0
  | i + 1 => if M (g + 2) i % 256 = 33 ∨ M (g + 2) i % 256 = 38 ∨ M (g + 2) i % 256 = 98 ∨ M (g + 2) i % 256 = 115 ∨ M (g + 2) i % 256 = 124 then fTc M g i else fTc M g i + 1
theorem fTc_s {M : qMem} {g : Int} {i : Nat} (h : M (g + 2) i % 256 = 33 ∨ M (g + 2) i % 256 = 38 ∨ M (g + 2) i % 256 = 98 ∨ M (g + 2) i % 256 = 115 ∨ M (g + 2) i % 256 = 124) : fTc M g (i + 1) = fTc M g i := if_pos h
theorem fTc_t {M : qMem} {g : Int} {i : Nat} (h : ¬ (M (g + 2) i % 256 = 33 ∨ M (g + 2) i % 256 = 38 ∨ M (g + 2) i % 256 = 98 ∨ M (g + 2) i % 256 = 115 ∨ M (g + 2) i % 256 = 124)) : fTc M g (i + 1) = fTc M g i + 1 := if_neg h
theorem fTc_mono {M : qMem} {g : Int} {i : Nat} : ∀ d : Nat, fTc M g i ≤ fTc M g (i + d)
  | 0 => Nat.le_refl _
  | d + 1 => by
    have h := fTc_mono (M := M) (g := g) (i := i) d
    by_cases hc : M (g + 2) (i + d : Nat) % 256 = 33 ∨ M (g + 2) (i + d : Nat) % 256 = 38 ∨ M (g + 2) (i + d : Nat) % 256 = 98 ∨ M (g + 2) (i + d : Nat) % 256 = 115 ∨ M (g + 2) (i + d : Nat) % 256 = 124
    · exact Nat.le_trans h (Nat.le_of_eq (fTc_s hc).symm)
    · exact Nat.le_trans h (Nat.le_trans (Nat.le_succ _) (Nat.le_of_eq (fTc_t hc).symm))
/-- what the hall g holds is sound -/
def qHI (M : qMem) (g : Int) : Prop := qHl g ∧ (0 ≤ M g 3 ∧ M g 3 ≤ 100) ∧ (1 ≤ M g 4 ∧ M g 4 ≤ 99) ∧ (0 ≤ M g 5 ∧ M g 5 ≤ 99) ∧ (∀ k : Int, 0 ≤ k → k < M g 3 → 0 ≤ M (g + 2) k ∧ M (g + 2) k < 6553600) ∧ fTc M g (M g 3).toNat ≤ 60
theorem fZs_lo {M : qMem} {g o p : Int} (h : qHI M g) : ∀ i : Nat, (i : Int) ≤ M g 3 → (3 - 100 * i ≤ (fZs M g o p i).1 ∧ (fZs M g o p i).1 ≤ 3 + 100 * i) ∧ (fZs M g o p i).2 < 2 ^ (fTc M g i + 1)
  | 0, _ => ⟨⟨by show (3 : Int) - 100 * 0 ≤ 3; omega, by show (3 : Int) ≤ 3 + 100 * 0; omega⟩, by show 0 < 2 ^ (0 + 1); omega⟩
  | i + 1, hi => by
    obtain ⟨hz, ht⟩ := fZs_lo (o := o) (p := p) h i (by omega)
    have hx := h.2.2.2.2.1 i (by omega) (by omega)
    show (_ ≤ (fZst M o p (fZs M g o p i) (M (g + 2) i)).1 ∧ (fZst M o p (fZs M g o p i) (M (g + 2) i)).1 ≤ _) ∧ (fZst M o p (fZs M g o p i) (M (g + 2) i)).2 < _
    generalize fZs M g o p i = s at hz ht ⊢
    obtain ⟨z, t⟩ := s
    have e2 : 2 ^ (fTc M g i + 1) = 2 * 2 ^ fTc M g i := by rw [Nat.pow_succ]; omega
    have e3 : 2 ^ (fTc M g i + 1 + 1) = 2 * (2 * 2 ^ fTc M g i) := by rw [Nat.pow_succ, Nat.pow_succ]; omega
    dsimp only at hz ht
    rw [e2] at ht
    unfold fZst
    dsimp only
    by_cases c1 : M (g + 2) i % 256 = 33
    · rw [if_pos c1, fTc_s (by omega), e2]
      dsimp only
      omega
    · rw [if_neg c1]
      by_cases c2 : M (g + 2) i % 256 = 38
      · rw [if_pos c2, fTc_s (by omega), e2]
        dsimp only
        split <;> omega
      · rw [if_neg c2]
        by_cases c3 : M (g + 2) i % 256 = 98
        · rw [if_pos c3, fTc_s (by omega), e2]
          dsimp only
          split <;> omega
        · rw [if_neg c3]
          by_cases c4 : M (g + 2) i % 256 = 115
          · rw [if_pos c4, fTc_s (by omega), e2]
            dsimp only
            split <;> omega
          · rw [if_neg c4]
            by_cases c5 : M (g + 2) i % 256 = 124
            · rw [if_pos c5, fTc_s (by omega), e2]
              dsimp only
              split <;> omega
            · rw [if_neg c5, fTc_t (by omega), e3]
              dsimp only
              split <;> omega
theorem lX3_zealOf {M : qMem} {g o p : Int} (h : qHI M g) (hs : qZS M o p) : ∀ (d i : Nat) (w : Option qV), ((i + d : Nat) : Int) = M g 3 →
    qlim C_X3_zealOf (8, [some (qA g), some (qA o), some (qI p), some (qI (fZs M g o p i).1), some (qJ ((fZs M g o p i).2 : Nat)), none, some (qI i), w], [], qH0 M) = some (some (qI (fZs M g o p (i + d)).1), qH0 M)
  | 0, i, w, hi => by
    rw [B_X3_zealOf_8 h.1 hs.1, qif_t (by omega), B_X3_zealOf_237 h.1 hs.1]
    rfl
  | d + 1, i, w, hi => by
    have hb := fZs_lo (o := o) (p := p) h i (by omega)
    have hm := fTc_mono (M := M) (g := g) (i := i) (d + 1)
    have hx := h.2.2.2.2.1 i (by omega) (by omega)
    have htc := h.2.2.2.2.2
    have hM := h.2.1
    have e0 : (M g 3).toNat = i + (d + 1) := by omega
    rw [e0] at htc
    have hp2 : 2 ^ (fTc M g i + 1) ≤ 2 ^ 61 := Nat.pow_le_pow_right (by omega) (by omega)
    have ih := fun w => lX3_zealOf h hs d (i + 1) w (by omega)
    have e3 : i + (d + 1) = i + 1 + d := by omega
    have e4 : fZs M g o p (i + 1) = fZst M o p (fZs M g o p i) (M (g + 2) i) := rfl
    have e5 : kadd (i : Int) 1 = ((i + 1 : Nat) : Int) := by rw [kadd_eq (by omega) (by omega)]; omega
    have sT := sX3_isTrue (x := M (g + 2) i) hs hx.1 (by omega)
    rw [e4] at ih
    rw [e3]
    generalize fZs M g o p (i + 1 + d) = res at ih ⊢
    generalize fZs M g o p i = s at hb ih ⊢
    obtain ⟨z, t⟩ := s
    dsimp only at hb ⊢
    have hz := hb.1
    have ht : t < 2305843009213693952 := Nat.lt_of_lt_of_le hb.2 hp2
    have hg := h.1
    have ho := hs.1
    have x0 : (0 : Int) ≤ i := by omega
    have x1 : (i : Int) < 100 := by have := h.2.1; omega
    have k1 : kand (M (g + 2) i) 255 = M (g + 2) i % 256 := kand_255 hx.1 (by omega)
    have k2 : kshr (M (g + 2) i) 16 = M (g + 2) i / 65536 := kshr_16 hx.1 (by omega)
    have k3 : kadd z (M (g + 2) i / 65536) = z + M (g + 2) i / 65536 := kadd_eq (by omega) (by omega)
    have k4 : ksub z (M (g + 2) i / 65536) = z - M (g + 2) i / 65536 := ksub_eq (by omega) (by omega)
    have k5 : kadd z 0 = z := by rw [kadd_eq (by omega) (by omega)]; omega
    have k6 : ksub z 0 = z := by rw [ksub_eq (by omega) (by omega)]; omega
    have j1 : jand (t : Int) 1 = ((t % 2 : Nat) : Int) := jand_1 (by omega)
    have j2 := jcmp_0 (n := t % 2) (by omega)
    have j3 : jxor (t : Int) 1 = _ := jxor_1 (by omega)
    have j4 : jushr (t : Int) 1 = _ := jushr_1 (by omega)
    have j5 : jand ((t / 2 : Nat) : Int) (-2) = _ := jand_m2 (by omega)
    have j6 : jor ((t / 2 : Nat) : Int) 1 = _ := jor_1 (by omega)
    have j7 : jshl (t : Int) 1 = _ := jshl_1 (by omega)
    rw [B_X3_zealOf_8 hg ho, qif_f (by omega), B_X3_zealOf_17 hg ho]
    unfold fZst at ih
    dsimp only at ih
    by_cases b1 : t % 2 = 0
    · simp only [b1, if_true, if_false] at ih
      rw [j1, qif_t (by rw [j2]; exact b1), B_X3_zealOf_30 hg ho, B_X3_zealOf_31 hg ho x0 x1, k1]
      by_cases c1 : M (g + 2) i % 256 = 33
      · simp only [c1, if_true, if_false, Int.reduceEq] at ih
        simp (disch := first | assumption | omega) only [B_X3_zealOf_96, B_X3_zealOf_231, not_true_eq_false, not_false_eq_true, if_true, if_false, qlk, qtk, qif_t, qif_f, qbd_some, Option.toList_some, Option.toList_none, List.cons_append, List.nil_append, List.append_nil, c1, b1, j3, e5, ih, Int.reduceEq]
      · skip
        by_cases c2 : M (g + 2) i % 256 = 38
        · simp only [c2, if_true, if_false, Int.reduceEq] at ih
          simp (disch := first | assumption | omega) only [B_X3_zealOf_105, B_X3_zealOf_117, B_X3_zealOf_125, B_X3_zealOf_231, not_true_eq_false, not_false_eq_true, if_true, if_false, qlk, qtk, qif_t, qif_f, qbd_some, Option.toList_some, Option.toList_none, List.cons_append, List.nil_append, List.append_nil, c2, b1, j4, j5, e5, ih, Int.reduceEq]
        · skip
          by_cases c3 : M (g + 2) i % 256 = 98
          · simp only [c3, if_true, if_false, Int.reduceEq] at ih
            simp (disch := first | assumption | omega) only [B_X3_zealOf_153, B_X3_zealOf_172, B_X3_zealOf_173, B_X3_zealOf_231, not_true_eq_false, not_false_eq_true, if_true, if_false, qlk, qtk, qif_t, qif_f, qbd_some, Option.toList_some, Option.toList_none, List.cons_append, List.nil_append, List.append_nil, c3, b1, k5, k2, k3, e5, ih, Int.reduceEq]
          · skip
            by_cases c4 : M (g + 2) i % 256 = 115
            · simp only [c4, if_true, if_false, Int.reduceEq] at ih
              simp (disch := first | assumption | omega) only [B_X3_zealOf_178, B_X3_zealOf_197, B_X3_zealOf_198, B_X3_zealOf_231, not_true_eq_false, not_false_eq_true, if_true, if_false, qlk, qtk, qif_t, qif_f, qbd_some, Option.toList_some, Option.toList_none, List.cons_append, List.nil_append, List.append_nil, c4, b1, k6, k2, k4, e5, ih, Int.reduceEq]
            · skip
              by_cases c5 : M (g + 2) i % 256 = 124
              · simp only [c5, if_true, if_false, Int.reduceEq] at ih
                simp (disch := first | assumption | omega) only [B_X3_zealOf_130, B_X3_zealOf_144, B_X3_zealOf_148, B_X3_zealOf_231, not_true_eq_false, not_false_eq_true, if_true, if_false, qlk, qtk, qif_t, qif_f, qbd_some, Option.toList_some, Option.toList_none, List.cons_append, List.nil_append, List.append_nil, c5, b1, j4, j6, e5, ih, Int.reduceEq]
              · skip
                simp only [c1, c2, c3, c4, c5, if_false] at ih
                simp (disch := first | assumption | omega) only [B_X3_zealOf_203, not_true_eq_false, not_false_eq_true, if_true, if_false, qlk, qtk, qif_t, qif_f, qbd_some, Option.toList_some, Option.toList_none, List.cons_append, List.nil_append, List.append_nil, c1, c2, c3, c4, c5, sT]
                cases hT : fTrue M o p (M (g + 2) i)
                · simp only [hT, if_true, if_false, Bool.false_eq_true] at ih ⊢
                  have j8 : jor ((2 * t : Nat) : Int) (ki2l 0) = _ := jor_b (b := 0) (by omega) (by omega)
                  simp (disch := first | assumption | omega) only [B_X3_zealOf_219, B_X3_zealOf_226, B_X3_zealOf_227, B_X3_zealOf_231, not_true_eq_false, not_false_eq_true, if_true, if_false, qlk, qtk, qif_t, qif_f, qbd_some, Option.toList_some, Option.toList_none, List.cons_append, List.nil_append, List.append_nil, j7, j8, e5, ih, Int.reduceEq]
                · simp only [hT, if_true, if_false, Bool.false_eq_true] at ih ⊢
                  have j8 : jor ((2 * t : Nat) : Int) (ki2l 1) = _ := jor_b (b := 1) (by omega) (by omega)
                  simp (disch := first | assumption | omega) only [B_X3_zealOf_219, B_X3_zealOf_222, B_X3_zealOf_227, B_X3_zealOf_231, not_true_eq_false, not_false_eq_true, if_true, if_false, qlk, qtk, qif_t, qif_f, qbd_some, Option.toList_some, Option.toList_none, List.cons_append, List.nil_append, List.append_nil, j7, j8, e5, ih, Int.reduceEq]
    · simp only [b1, if_true, if_false] at ih
      rw [j1, qif_f (by rw [j2]; exact b1), B_X3_zealOf_26 hg ho, B_X3_zealOf_31 hg ho x0 x1, k1]
      by_cases c1 : M (g + 2) i % 256 = 33
      · simp only [c1, if_true, if_false, Int.reduceEq] at ih
        simp (disch := first | assumption | omega) only [B_X3_zealOf_96, B_X3_zealOf_231, not_true_eq_false, not_false_eq_true, if_true, if_false, qlk, qtk, qif_t, qif_f, qbd_some, Option.toList_some, Option.toList_none, List.cons_append, List.nil_append, List.append_nil, c1, b1, j3, e5, ih, Int.reduceEq]
      · skip
        by_cases c2 : M (g + 2) i % 256 = 38
        · simp only [c2, if_true, if_false, Int.reduceEq] at ih
          simp (disch := first | assumption | omega) only [B_X3_zealOf_105, B_X3_zealOf_110, B_X3_zealOf_125, B_X3_zealOf_231, not_true_eq_false, not_false_eq_true, if_true, if_false, qlk, qtk, qif_t, qif_f, qbd_some, Option.toList_some, Option.toList_none, List.cons_append, List.nil_append, List.append_nil, c2, b1, j4, j5, e5, ih, Int.reduceEq]
        · skip
          by_cases c3 : M (g + 2) i % 256 = 98
          · simp only [c3, if_true, if_false, Int.reduceEq] at ih
            simp (disch := first | assumption | omega) only [B_X3_zealOf_153, B_X3_zealOf_159, B_X3_zealOf_173, B_X3_zealOf_231, not_true_eq_false, not_false_eq_true, if_true, if_false, qlk, qtk, qif_t, qif_f, qbd_some, Option.toList_some, Option.toList_none, List.cons_append, List.nil_append, List.append_nil, c3, b1, k5, k2, k3, e5, ih, Int.reduceEq]
          · skip
            by_cases c4 : M (g + 2) i % 256 = 115
            · simp only [c4, if_true, if_false, Int.reduceEq] at ih
              simp (disch := first | assumption | omega) only [B_X3_zealOf_178, B_X3_zealOf_184, B_X3_zealOf_198, B_X3_zealOf_231, not_true_eq_false, not_false_eq_true, if_true, if_false, qlk, qtk, qif_t, qif_f, qbd_some, Option.toList_some, Option.toList_none, List.cons_append, List.nil_append, List.append_nil, c4, b1, k6, k2, k4, e5, ih, Int.reduceEq]
            · skip
              by_cases c5 : M (g + 2) i % 256 = 124
              · simp only [c5, if_true, if_false, Int.reduceEq] at ih
                simp (disch := first | assumption | omega) only [B_X3_zealOf_130, B_X3_zealOf_135, B_X3_zealOf_148, B_X3_zealOf_231, not_true_eq_false, not_false_eq_true, if_true, if_false, qlk, qtk, qif_t, qif_f, qbd_some, Option.toList_some, Option.toList_none, List.cons_append, List.nil_append, List.append_nil, c5, b1, j4, j6, e5, ih, Int.reduceEq]
              · skip
                simp only [c1, c2, c3, c4, c5, if_false] at ih
                simp (disch := first | assumption | omega) only [B_X3_zealOf_203, not_true_eq_false, not_false_eq_true, if_true, if_false, qlk, qtk, qif_t, qif_f, qbd_some, Option.toList_some, Option.toList_none, List.cons_append, List.nil_append, List.append_nil, c1, c2, c3, c4, c5, sT]
                cases hT : fTrue M o p (M (g + 2) i)
                · simp only [hT, if_true, if_false, Bool.false_eq_true] at ih ⊢
                  have j8 : jor ((2 * t : Nat) : Int) (ki2l 0) = _ := jor_b (b := 0) (by omega) (by omega)
                  simp (disch := first | assumption | omega) only [B_X3_zealOf_219, B_X3_zealOf_226, B_X3_zealOf_227, B_X3_zealOf_231, not_true_eq_false, not_false_eq_true, if_true, if_false, qlk, qtk, qif_t, qif_f, qbd_some, Option.toList_some, Option.toList_none, List.cons_append, List.nil_append, List.append_nil, j7, j8, e5, ih, Int.reduceEq]
                · simp only [hT, if_true, if_false, Bool.false_eq_true] at ih ⊢
                  have j8 : jor ((2 * t : Nat) : Int) (ki2l 1) = _ := jor_b (b := 1) (by omega) (by omega)
                  simp (disch := first | assumption | omega) only [B_X3_zealOf_219, B_X3_zealOf_222, B_X3_zealOf_227, B_X3_zealOf_231, not_true_eq_false, not_false_eq_true, if_true, if_false, qlk, qtk, qif_t, qif_f, qbd_some, Option.toList_some, Option.toList_none, List.cons_append, List.nil_append, List.append_nil, j7, j8, e5, ih, Int.reduceEq]
