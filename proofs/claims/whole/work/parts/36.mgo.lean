/-! a pace, a person's minute (the reference) -/
theorem qHR_rowA {M A B : qMem} {f g : Int} (h : qHR M A f g) (h1 : B g = A g) (h2 : B (g + 2) = A (g + 2)) : qHR M B f g := by
  obtain ⟨n, P, a1, a2, a3, a4, a5, a6, a7⟩ := h
  refine ⟨n, P, a1, a2, a3, by rw [h1]; exact a4, fun i hi => ?_, by rw [h1]; exact a6, by rw [h1]; exact a7⟩
  have := a5 i hi
  unfold qCl at this ⊢
  rw [h2]
  exact this
theorem qHS_rowA {M A B : qMem} {g : Int} (h : qHS M A g) (h1 : B g = A g) (h2 : B (g + 2) = A (g + 2)) : qHS M B g := by
  rcases h with ⟨a1, rfl, a3, a4, a5⟩ | ⟨a1, a2, a3, a4⟩
  · exact Or.inl ⟨a1, rfl, by rw [h1]; exact a3, by rw [h1]; exact a4, by rw [h1]; exact a5⟩
  · exact Or.inr ⟨a1, a2, a3, qHR_rowA a4 h1 h2⟩
theorem lX12_alike {M A : qMem} {o p : Int} (h : qRS M A o) (hp : 0 ≤ p ∧ p < 6) (hn : 0 ≤ A o 10 ∧ A o 10 ≤ 6) (hg : ∀ q : Int, 0 ≤ q → q < 6 → A (o + 8) q = 0 ∨ A (o + 8) q = 1) : ∀ d k : Nat, ((k + d : Nat) : Int) = A o 10 →
    qlim C_X12_alike (4, [some (qA 82), some (qI p), some (qI (fAlike A o p k)), some (qI k)], [], qH0 M) = some (some (qI (fAlike A o p (k + d))), qH0 M)
  | 0, k, hk => by
    have h0 := h.1.1
    rw [B_X12_alike_4, qif_t (by omega), B_X12_alike_58]
    rfl
  | d + 1, k, hk => by
    have h0 := h.1.1
    have ih := lX12_alike h hp hn hg d (k + 1) (by omega)
    have hb := fAlike_lo (M := A) (o := o) (p := p) k
    have e1 : kadd (k : Int) 1 = ((k + 1 : Nat) : Int) := by rw [kadd_eq (by omega) (by omega)]; omega
    have e2 : kadd (fAlike A o p k) 1 = fAlike A o p k + 1 := kadd_eq (by omega) (by omega)
    have e5 : kadd (fAlike A o p k) 0 = fAlike A o p k := by rw [kadd_eq (by omega) (by omega)]; omega
    have e3 : k + (d + 1) = k + 1 + d := by omega
    have e4 : fAlike A o p (k + 1) = if ¬ (k : Int) = p ∧ A (o + 8) k = 0 ∧ A (o + 4) k = A (o + 4) p then fAlike A o p k + 1 else fAlike A o p k := rfl
    have hq := h.2.2.2.1 k (by omega) (by omega)
    have hqp := h.2.2.2.1 p hp.1 hp.2
    have hgk := hg k (by omega) (by omega)
    have sH := sX12_has (M := M) h.2.1.1 h.2.1.2 (show (0 : Int) ≤ k by omega) (by omega) hgk hq.2.2.2.2.2
    rw [e3, ← ih, B_X12_alike_4, qif_f (by omega), B_X12_alike_12]
    by_cases h1 : (k : Int) = p
    · rw [qif_t h1, B_X12_alike_49, B_X12_alike_50, e1, e5, e4, if_neg (by omega)]
    · rw [qif_f h1, B_X12_alike_18, sH, qbd_some]
      by_cases h2 : A (o + 8) k = 0
      · by_cases h3 : A (o + 4) k = A (o + 4) p
        · have h4 : M 86 k = M 86 p := by rw [hq.2.2.1, hqp.2.2.1]; exact h3
          rw [e4, if_pos ⟨h1, h2, h3⟩]
          simp (disch := first | assumption | omega) only [B_X12_alike_27, B_X12_alike_30, B_X12_alike_45, B_X12_alike_50, not_true_eq_false, not_false_eq_true, if_true, if_false, qlk, qtk, qif_t, qif_f, qbd_some, Option.toList_some, Option.toList_none, List.cons_append, List.nil_append, List.append_nil, e1, e2]
        · have h4 : ¬ M 86 k = M 86 p := by rw [hq.2.2.1, hqp.2.2.1]; exact h3
          rw [e4, if_neg (fun q => h3 q.2.2)]
          simp (disch := first | assumption | omega) only [B_X12_alike_27, B_X12_alike_30, B_X12_alike_49, B_X12_alike_50, not_true_eq_false, not_false_eq_true, if_true, if_false, qlk, qtk, qif_t, qif_f, qbd_some, Option.toList_some, Option.toList_none, List.cons_append, List.nil_append, List.append_nil, e1, e5]
      · rw [e4, if_neg (fun q => h2 q.2.1)]
        simp (disch := first | assumption | omega) only [B_X12_alike_27, B_X12_alike_49, B_X12_alike_50, not_true_eq_false, not_false_eq_true, if_true, if_false, qlk, qtk, qif_t, qif_f, qbd_some, Option.toList_some, Option.toList_none, List.cons_append, List.nil_append, List.append_nil, e1, e5]
theorem sX12_alike {M A : qMem} {o p : Int} (h : qRS M A o) (hp : 0 ≤ p ∧ p < 6) (hn : 0 ≤ A o 10 ∧ A o 10 ≤ 6) (hg : ∀ q : Int, 0 ≤ q → q < 6 → A (o + 8) q = 0 ∨ A (o + 8) q = 1) : S_X12_alike [qA 82, qI p] (qH0 M) = some (some (qI (fAlike A o p (A o 10).toNat)), qH0 M) := by
  have l := lX12_alike h hp hn hg (A o 10).toNat 0 (by omega)
  rw [Nat.zero_add] at l
  rw [E_X12_alike, B_X12_alike_0]
  exact l
theorem sX12_plainPace {M A : qMem} {o p : Int} (h : qRS M A o) (hP : qPS A o p (fZeal A (A o 13) o p)) (hk : 0 ≤ A (o + 2) p ∧ A (o + 2) p ≤ 6) (hg : qHI A (A o 13)) (hgo : ∀ q : Int, 0 ≤ q → q < 6 → A (o + 8) q = 0 ∨ A (o + 8) q = 1) : ∃ N, S_X12_plainPace [qA 82, qI p] (qH0 M) = some (some (qI (fPl A o p (fZeal A (A o 13) o p) (A (o + 2) p))), qH0 N) ∧ qAw N M := by
  have hs : qZS A o p := ⟨hP.1, hP.2.1, hP.2.2.2.1, hP.2.2.2.2.2.1⟩
  obtain ⟨N, q1, q2⟩ := sX12_zeal h hs hg
  refine ⟨N, ?_, q2⟩
  have hN := qRS_aw h q2
  obtain ⟨ho, hp, hn, hm, hv, hd, hr, hz⟩ := hP
  have sA := sX12_alike hN hp hn hgo
  have hb := fAlike_lo (M := A) (o := o) (p := p) (A o 10).toNat
  have hq := hN.2.2.2.1 p hp.1 hp.2
  have hm1 := hN.1.2
  rw [E_X12_plainPace, B_X12_plainPace_0, q1, qbd_some]
  generalize fZeal A (A o 13) o p = z at hz ⊢
  obtain ⟨p1, p2⟩ := hp
  have e1 : kdiv (N 87 p) 20 = A (o + 5) p / 20 := by rw [hq.2.2.2.1]; exact kdiv_eq hd.1 (by omega) (by omega) (by omega)
  have e2 : kdiv (N 85 p) 2 = A (o + 3) p / 2 := by rw [hq.2.1]; exact kdiv_eq hv.1 (by omega) (by omega) (by omega)
  have e3 : ksub z (A (o + 5) p / 20) = z - A (o + 5) p / 20 := ksub_eq (by omega) (by omega)
  have e4 : kadd z (A (o + 3) p / 2) = z + A (o + 3) p / 2 := kadd_eq (by omega) (by omega)
  have e5 : ksub z (fAlike A o p (A o 10).toNat) = fTalk A o p z := ksub_eq (by omega) (by omega)
  have e6 : kadd (z + A (o + 3) p / 2) 2 = z + A (o + 3) p / 2 + 2 := kadd_eq (by omega) (by omega)
  have e7 : kadd (z + A (o + 3) p / 2) 0 = z + A (o + 3) p / 2 := by rw [kadd_eq (by omega) (by omega)]; omega
  have e8 : kadd (N 85 p) 1 = A (o + 3) p + 1 := by rw [hq.2.1]; exact kadd_eq (by omega) (by omega)
  have e9 : kadd (kmul 4 p) (krem (N 82 1) 4) = 4 * p + A o 11 % 4 := by
    rw [hm1, kmul_eq (by omega) (by omega), krem_eq hm.1 (by omega) (by omega) (by omega), kadd_eq (by omega) (by omega)]
  have hR := hr (4 * p + A o 11 % 4) (by omega) (by omega)
  have e10 : N 89 (4 * p + A o 11 % 4) = A (o + 7) (4 * p + A o 11 % 4) := hN.2.2.2.2.1 _ (by omega) (by omega)
  have e11 : kadd (fTalk A o p z) (A (o + 7) (4 * p + A o 11 % 4)) = fTalk A o p z + A (o + 7) (4 * p + A o 11 % 4) := by
    have : fTalk A o p z = z - fAlike A o p (A o 10).toNat := rfl
    exact kadd_eq (by omega) (by omega)
  have hk84 : N 84 p = A (o + 2) p := hq.1
  have hw86 : N 86 p = A (o + 4) p := hq.2.2.1
  have T : ∀ y : Int, y = fDry A o p z → qlim C_X12_plainPace (31, [some (qA 82), some (qI p), some (qI z), none], [qI y], qH0 N) = some (some (qI (fPl A o p z (A (o + 2) p))), qH0 N) := by
    intro y hy
    rw [B_X12_plainPace_31 p1 p2, hk84]
    have e : A (o + 2) p = 0 ∨ A (o + 2) p = 1 ∨ A (o + 2) p = 2 ∨ A (o + 2) p = 3 ∨ A (o + 2) p = 4 ∨ A (o + 2) p = 5 ∨ A (o + 2) p = 6 := by omega
    rcases e with e | e | e | e | e | e | e <;> rw [e]
    · simp (disch := first | assumption | omega) only [B_X12_plainPace_162, not_true_eq_false, not_false_eq_true, if_true, if_false, qlk, qtk, qif_t, qif_f, qbd_some, Option.toList_some, Option.toList_none, List.cons_append, List.nil_append, List.append_nil, Int.reduceEq, Int.reduceAdd]
      rfl
    · simp (disch := first | assumption | omega) only [B_X12_plainPace_76, not_true_eq_false, not_false_eq_true, if_true, if_false, qlk, qtk, qif_t, qif_f, qbd_some, Option.toList_some, Option.toList_none, List.cons_append, List.nil_append, List.append_nil, Int.reduceEq, Int.reduceAdd, e2, e4]
      rfl
    · simp (disch := first | assumption | omega) only [B_X12_plainPace_87, not_true_eq_false, not_false_eq_true, if_true, if_false, qlk, qtk, qif_t, qif_f, qbd_some, Option.toList_some, Option.toList_none, List.cons_append, List.nil_append, List.append_nil, Int.reduceEq, Int.reduceAdd, hy]
      rfl
    · simp (disch := first | assumption | omega) only [B_X12_plainPace_89, B_X12_plainPace_95, not_true_eq_false, not_false_eq_true, if_true, if_false, qlk, qtk, qif_t, qif_f, qbd_some, Option.toList_some, Option.toList_none, List.cons_append, List.nil_append, List.append_nil, Int.reduceEq, Int.reduceAdd, sA, e5]
      rfl
    · by_cases c : A (o + 4) p = 2
      · simp (disch := first | assumption | omega) only [B_X12_plainPace_97, B_X12_plainPace_117, B_X12_plainPace_122, not_true_eq_false, not_false_eq_true, if_true, if_false, qlk, qtk, qif_t, qif_f, qbd_some, Option.toList_some, Option.toList_none, List.cons_append, List.nil_append, List.append_nil, Int.reduceEq, Int.reduceAdd, hw86, c, e2, e4, e6]
        simp only [fPl, c, Int.reduceEq, if_true, if_false]
      · simp (disch := first | assumption | omega) only [B_X12_plainPace_97, B_X12_plainPace_121, B_X12_plainPace_122, not_true_eq_false, not_false_eq_true, if_true, if_false, qlk, qtk, qif_t, qif_f, qbd_some, Option.toList_some, Option.toList_none, List.cons_append, List.nil_append, List.append_nil, Int.reduceEq, Int.reduceAdd, hw86, c, e2, e4, e7]
        simp only [fPl, c, Int.reduceEq, if_true, if_false]
    · simp (disch := first | assumption | omega) only [B_X12_plainPace_124, B_X12_plainPace_137, not_true_eq_false, not_false_eq_true, if_true, if_false, qlk, qtk, qif_t, qif_f, qbd_some, Option.toList_some, Option.toList_none, List.cons_append, List.nil_append, List.append_nil, Int.reduceEq, Int.reduceAdd, sX12_least, e8, hy]
      rfl
    · simp (disch := first | assumption | omega) only [B_X12_plainPace_138, B_X12_plainPace_144, not_true_eq_false, not_false_eq_true, if_true, if_false, qlk, qtk, qif_t, qif_f, qbd_some, Option.toList_some, Option.toList_none, List.cons_append, List.nil_append, List.append_nil, Int.reduceEq, Int.reduceAdd, sA, e5, e9, e10, e11]
      rfl
  show qlim C_X12_plainPace (5, [some (qA 82), some (qI p), none, none], [qI z], qH0 N) = _
  rw [B_X12_plainPace_5 p1 p2, hw86]
  by_cases c : A (o + 4) p = 2
  · rw [qif_f (by omega), B_X12_plainPace_16 p1 p2, e1, e3]
    exact T _ (by unfold fDry; rw [if_pos c])
  · rw [qif_t c, B_X12_plainPace_30]
    exact T _ (by unfold fDry; rw [if_neg c])
theorem sX12_pace {M A : qMem} {o p j : Int} (h : qRS M A o) (hF : qSF A o) (hV : qSV A o j) (h1 : 0 ≤ p) (h2 : p < 6) : ∃ N, S_X12_pace [qA 82, qI p] (qH0 M) = some (some (qI (fPace A o p)), qH0 N) ∧ qAw N M := by
  have hd := qSV_d hV h1 h2
  have hz := fZeal_lo (o := o) (p := p) hF.2.2.2.2.2.2
  have hP : qPS A o p (fZeal A (A o 13) o p) := ⟨hF.1, ⟨h1, h2⟩, hF.2.1, ⟨hV.1.1, by have := hV.1; omega⟩, by have := (hF.2.2.2.2.1 p h1 h2).2.1; omega, ⟨hd.1.1, by omega⟩, hF.2.2.2.2.2.1, by omega⟩
  obtain ⟨N, q1, q2⟩ := sX12_plainPace h hP (hF.2.2.2.2.1 p h1 h2).1 hF.2.2.2.2.2.2 (fun q a b => (hF.2.2.2.2.1 q a b).2.2.2)
  refine ⟨N, ?_, q2⟩
  unfold fPace
  generalize fPl A o p (fZeal A (A o 13) o p) (A (o + 2) p) = y at q1 ⊢
  by_cases c : 0 ≤ y
  · have e : max 0 y = y := by omega
    rw [e]
    simp (disch := first | assumption | omega) only [E_X12_pace, B_X12_pace_0, B_X12_pace_5, B_X12_pace_10, B_X12_pace_14, B_X12_pace_15, not_true_eq_false, not_false_eq_true, if_true, if_false, qlk, qtk, qif_t, qif_f, qbd_some, Option.toList_some, Option.toList_none, List.cons_append, List.nil_append, List.append_nil, q1]
  · have e : max 0 y = 0 := by omega
    rw [e]
    simp (disch := first | assumption | omega) only [E_X12_pace, B_X12_pace_0, B_X12_pace_5, B_X12_pace_10, B_X12_pace_14, B_X12_pace_15, not_true_eq_false, not_false_eq_true, if_true, if_false, qlk, qtk, qif_t, qif_f, qbd_some, Option.toList_some, Option.toList_none, List.cons_append, List.nil_append, List.append_nil, q1]
