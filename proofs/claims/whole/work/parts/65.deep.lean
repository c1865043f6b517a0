/-! the text: ! and ( ), both sides -/
theorem sim_paren_no {g n d : Int} {t : Int → Int} {M M2 : qMem} (hT : qTc M g n t) (h6 : 0 ≤ M g 6) (hb : t (M g 6) = 40) (hd : 0 ≤ d ∧ d < 4) (h : qNo 1 g n (d + 1) t KE (qup M g 6 (M g 6 + 1)) M2) : qNo 1 g n d t KO M M2 := by
  intro j c B N hl hk
  obtain ⟨P, p1, p2, p3, p4, p5, p6, p7, p8⟩ := qOpen_start hT h6 hb (Or.inr rfl) hd hl
  rw [if_neg (by omega)] at p2
  obtain ⟨N2, q1, q2, q3, q4⟩ := h 0 c B P p2 (Or.inr (by rw [p7]; exact ⟨rfl, by omega, by omega⟩))
  exact ⟨N2, p1.trans q1, qFr_t q2 p3, q3, fun k hk => by rw [q4 k (by omega), p6]⟩
theorem sim_bang_no {g n d : Int} {t : Int → Int} {M M2 M3 : qMem} (hT : qTc M g n t) (h6 : 0 ≤ M g 6) (hb : t (M g 6) = 33) (hd : 0 ≤ d ∧ d < 4) (h : qNo 1 g n (d + 1) t KO (qup M g 6 (M g 6 + 1)) M2) (he : M3 g 6 = M2 g 6) : qNo 1 g n d t KO M M3 := by
  intro j c B N hl hk
  obtain ⟨P, p1, p2, p3, p4, p5, p6, p7, p8⟩ := qOpen_start hT h6 hb (Or.inl rfl) hd hl
  obtain ⟨N2, q1, q2, q3, q4⟩ := h _ c B P p2 (Or.inr trivial)
  exact ⟨N2, p1.trans q1, qFr_t q2 p3, q3.trans he.symm, fun k hk => by rw [q4 k (by omega), p6]⟩
theorem sim_paren_bad {g n d : Int} {t : Int → Int} {M M2 : qMem} (hT : qTc M g n t) (h6 : 0 ≤ M g 6) (h3 : 0 ≤ M g 3 ∧ M g 3 ≤ M g 6) (hb : t (M g 6) = 40) (hd : 0 ≤ d ∧ d < 4) (hg2 : qGo g n M2 (qup M g 6 (M g 6 + 1))) (hX : XE (t (M2 g 6))) (hc : ¬ t (M2 g 6) = 41) (h : qYes 1 1 g n (d + 1) t KE (qup M g 6 (M g 6 + 1)) M2) : qNo 1 g n d t KO M M2 := by
  intro j c B N hl hk
  obtain ⟨P, p1, p2, p3, p4, p5, p6, p7, p8⟩ := qOpen_start hT h6 hb (Or.inr rfl) hd hl
  rw [if_neg (by omega)] at p2
  obtain ⟨m, ⟨a1, a2, a3, a4⟩, a5⟩ := h
  obtain ⟨N2, q1, q2, q3, q4, q5, q6, q7, q8, q9, q10, q11⟩ := a5 0 c B P p2 (Or.inr (by rw [p7]; exact ⟨rfl, by omega, by omega⟩))
  have hlt := qTc_lt hT (i := M g 6) (by omega)
  have hn := hT.2.2.1
  have w := qRl_w hl (by omega)
  have g26 := hg2.2.1
  have t2 : N2 97 (N2 82 24 - 1) = 40 := by
    have e : N2 82 24 - 1 = P 82 24 - 1 := by omega
    rw [e, q7 _ (by omega), p7]
  have l2 := hl.2.1
  rw [qup_self] at g26
  refine ⟨_, p1.trans (q1.trans (rE_bad (qTm_fr (qTm_fr hl.1 p3) q2) (by omega) (by rw [q3]; exact hX) (by rw [q3]; exact hc) hl.2.2.2.1 (by omega) (by omega))), qFr_up (qFr_t q2 p3) (by omega), by rw [qup_ne (by omega)]; exact q3, fun k hk => ?_⟩
  rw [qup_ne (by omega), q8 k (by omega), p6]
theorem sim_paren_yes {g n d : Int} {t : Int → Int} {M M2 : qMem} (hT : qTc M g n t) (h6 : 0 ≤ M g 6) (h3 : 0 ≤ M g 3 ∧ M g 3 ≤ M g 6) (hb : t (M g 6) = 40) (hd : 0 ≤ d ∧ d < 4) (hg2 : qGo g n M2 (qup M g 6 (M g 6 + 1))) (hX : XE (t (M2 g 6))) (hc : t (M2 g 6) = 41) (h : qYes 1 1 g n (d + 1) t KE (qup M g 6 (M g 6 + 1)) M2) : qYes 1 1 g n d t KO M (qup M2 g 6 (M2 g 6 + 1)) := by
  have hlt := qTc_lt hT (i := M g 6) (by omega)
  have hn := hT.2.2.1
  have hg := hT.1
  have x3 : qup M g 6 (M g 6 + 1) g 3 = M g 3 := qup_ne (by omega)
  have x6 : qup M g 6 (M g 6 + 1) g 6 = M g 6 + 1 := qup_self
  have y3 : qup M2 g 6 (M2 g 6 + 1) g 3 = M2 g 3 := qup_ne (by omega)
  have y6 : qup M2 g 6 (M2 g 6 + 1) g 6 = M2 g 6 + 1 := qup_self
  have yk : ∀ k : Int, qup M2 g 6 (M2 g 6 + 1) (g + 2) k = M2 (g + 2) k := fun k => qup_ne (by omega)
  have f1 : fTc (qup M g 6 (M g 6 + 1)) g (M g 3).toNat = fTc M g (M g 3).toNat := fTc_eq _ (fun k hk => qup_ne (by omega))
  have f2 : fTc (qup M2 g 6 (M2 g 6 + 1)) g (M2 g 3).toNat = fTc M2 g (M2 g 3).toNat := fTc_eq _ (fun k hk => yk _)
  have g26 := hg2.2.1
  obtain ⟨m, ⟨a1, a2, a3, a4⟩, a5⟩ := h
  rw [x3] at a1 a3 a4
  rw [f1] at a4
  rw [x6] at a2 g26
  refine ⟨m, ⟨by omega, by omega, fun k k1 k2 => by rw [yk]; exact a3 k k1 (by omega), by rw [y3, f2]; exact a4⟩, fun j c B N hl hk => ?_⟩
  obtain ⟨P, p1, p2, p3, p4, p5, p6, p7, p8⟩ := qOpen_start hT h6 hb (Or.inr rfl) hd hl
  rw [if_neg (by omega)] at p2
  obtain ⟨N2, q1, q2, q3, q4, q5, q6, q7, q8, q9, q10, q11⟩ := a5 0 c B P p2 (Or.inr (by rw [p7]; exact ⟨rfl, by omega, by omega⟩))
  have w := qRl_w hl (by omega)
  obtain ⟨l1, l2, l3, l4, ⟨l51, l52, l53⟩, l6, l7⟩ := hl
  have p25 := p2.2.2.1
  have t2 : N2 97 (N2 82 24 - 1) = 40 := by
    have e : N2 82 24 - 1 = P 82 24 - 1 := by omega
    rw [e, q7 _ (by omega), p7]
  have ew : N2 82 24 - 1 = N 82 24 := by omega
  have r97 : ∀ k : Int, k < N 82 24 → N2 97 k = N 97 k := fun k hk => by rw [q7 k (by omega), p8 k hk]
  obtain ⟨N3, r1, r2, r3, r4, r5, r6, r7, r8, r9⟩ := rE_close (j := j) (qTm_fr (qTm_fr l1 p3) q2) (by omega) (by rw [q3]; exact hc) l4 (by omega) t2 (by omega) (by omega) ⟨by omega, fun k a b => by rw [r97 k (by omega)]; exact l52 k (by omega) (by omega), by
    rcases l53 with z | z
    · exact Or.inl (by omega)
    · by_cases z0 : N 82 24 = j
      · exact Or.inl (by omega)
      · refine Or.inr ?_
        rw [ew, r97 _ (by omega)]
        exact z⟩
  refine ⟨N3, p1.trans (q1.trans r1), qFr_t r2 (qFr_t q2 p3), by omega, by omega, by omega, by omega, fun k hk => by rw [r3, r97 k (by omega)], fun k hk => by rw [r9 k (by omega), q8 k (by omega), p6], fun k hk => ?_, fun k hk => ?_, fun x => ?_⟩
  · have q := q9 k hk
    rw [x3, p5] at q
    rw [r9 _ (by omega), yk]
    exact q
  · exact r8 _ (by omega) (by omega)
  · have q := q11 x
    rw [p5] at q
    rw [qDr_row m (fun i hi => r9 _ (by omega))]
    exact q
theorem sim_bang_yes {g n d : Int} {t : Int → Int} {M M2 : qMem} (hT : qTc M g n t) (h6 : 0 ≤ M g 6) (h3 : 0 ≤ M g 3 ∧ M g 3 ≤ M g 6) (hb : t (M g 6) = 33) (hd : 0 ≤ d ∧ d < 4) (hg2 : qGo g n M2 (qup M g 6 (M g 6 + 1))) (h : qYes 1 1 g n (d + 1) t KO (qup M g 6 (M g 6 + 1)) M2) :
    qYes 1 1 g n d t KO M (qup (qup M2 (g + 2) (M2 g 3) 33) g 3 (M2 g 3 + 1)) ∧ M2 g 3 < 100 := by
  have hlt := qTc_lt hT (i := M g 6) (by omega)
  have hn := hT.2.2.1
  have hg := hT.1
  have x3 : qup M g 6 (M g 6 + 1) g 3 = M g 3 := qup_ne (by omega)
  have x6 : qup M g 6 (M g 6 + 1) g 6 = M g 6 + 1 := qup_self
  have y3 : qup (qup M2 (g + 2) (M2 g 3) 33) g 3 (M2 g 3 + 1) g 3 = M2 g 3 + 1 := qup_self
  have y6 : qup (qup M2 (g + 2) (M2 g 3) 33) g 3 (M2 g 3 + 1) g 6 = M2 g 6 := by rw [qup_ne (by omega), qup_ne (by omega)]
  have yb : qup (qup M2 (g + 2) (M2 g 3) 33) g 3 (M2 g 3 + 1) (g + 2) (M2 g 3) = 33 := by rw [qup_ne (by omega), qup_self]
  have yk : ∀ k : Int, ¬ k = M2 g 3 → qup (qup M2 (g + 2) (M2 g 3) 33) g 3 (M2 g 3 + 1) (g + 2) k = M2 (g + 2) k := fun k hk => by rw [qup_ne (by omega), qup_ne (by omega)]
  have f1 : fTc (qup M g 6 (M g 6 + 1)) g (M g 3).toNat = fTc M g (M g 3).toNat := fTc_eq _ (fun k hk => qup_ne (by omega))
  have g26 := hg2.2.1
  obtain ⟨m, ⟨a1, a2, a3, a4⟩, a5⟩ := h
  rw [x3] at a1 a3 a4
  rw [f1] at a4
  rw [x6] at a2 g26
  refine ⟨⟨m + 1, ⟨by omega, by omega, fun k k1 k2 => ?_, ?_⟩, fun j c B N hl hk => ?_⟩, by omega⟩
  · by_cases ck : k = M2 g 3
    · subst ck
      rw [yb]
      omega
    · rw [yk k ck]
      exact a3 k k1 (by omega)
  · have e1 : (M2 g 3 + 1).toNat = (M2 g 3).toNat + 1 := by omega
    have e2 : ((M2 g 3).toNat : Int) = M2 g 3 := by omega
    rw [y3, e1, fTc_s (by rw [e2, yb]; omega)]
    have e3 : fTc (qup (qup M2 (g + 2) (M2 g 3) 33) g 3 (M2 g 3 + 1)) g (M2 g 3).toNat = fTc M2 g (M2 g 3).toNat := fTc_eq _ (fun k hk => yk _ (by omega))
    rw [e3]
    omega
  · obtain ⟨P, p1, p2, p3, p4, p5, p6, p7, p8⟩ := qOpen_start hT h6 hb (Or.inl rfl) hd hl
    rw [if_pos rfl] at p2
    obtain ⟨N2, q1, q2, q3, q4, q5, q6, q7, q8, q9, q10, q11⟩ := a5 (j + 1) c B P p2 (Or.inr trivial)
    have w := qRl_w hl (by omega)
    have p25 := p2.2.2.1
    have l3 := hl.2.2.1
    refine ⟨N2, p1.trans q1, qFr_t q2 p3, by omega, by omega, by omega, by omega, fun k hk => by rw [q7 k (by omega), p8 k (by omega)], fun k hk => by rw [q8 k (by omega), p6], fun k hk => ?_, fun k hk => ?_, fun x => ?_⟩
    · by_cases ck : k < m
      · have q := q9 k ck
        rw [x3, p5] at q
        rw [yk _ (by omega)]
        exact q
      · have ek : k = m := by omega
        subst ek
        have q := q10 0 (by omega)
        have e1 : P 82 23 + (k : Int) + ((0 : Nat) : Int) = N 82 23 + k := by omega
        have e2 : M g 3 + (k : Int) = M2 g 3 := by omega
        rw [e1] at q
        rw [e2, q, yb]
        unfold qTk
        omega
    · have q := q10 (k + 1) (by omega)
      have e1 : P 82 23 + (m : Int) + ((k + 1 : Nat) : Int) = N 82 23 + ((m + 1 : Nat) : Int) + k := by omega
      rw [e1] at q
      exact q
    · have q := q11 x
      rw [p5] at q
      rw [qDr_add q 1]
      have q2' := q10 0 (by omega)
      have e1 : P 82 23 + (m : Int) + ((0 : Nat) : Int) = N 82 23 + m := by omega
      rw [e1] at q2'
      refine qDr_1 q2' ?_
      unfold qDs
      rw [if_pos rfl, if_pos (by omega)]
theorem sim_one {F1 F2 : qSem} {d : Int} (hd : 0 ≤ d ∧ d ≤ 4) (hF2 : d < 4 → qSmm F2 (d + 1) KE XE) (hF1 : d < 4 → qSmm F1 (d + 1) KO XO) : qSmm (qM 4 (C_X3_takesOne F2 F1)) d KO XO := by
  intro g n t M hT h6 h3
  have hn := hT.2.2.1
  have hg := hT.1
  have s := sX3_next hT h6.1
  by_cases c1 : t (M g 6) = 33 ∨ t (M g 6) = 40
  · have hlt := qTc_lt hT (i := M g 6) (by omega)
    by_cases c2 : d < 4
    · have e1 : kadd (M g 6) 1 = M g 6 + 1 := kadd_eq (by omega) (by omega)
      have e2 : kadd d 1 = d + 1 := kadd_eq (by omega) (by omega)
      have gg1 := qGo_6 (n := n) (v := M g 6 + 1) (M := M) (g := g) (by omega) (by omega) (by omega)
      have x3 : qup M g 6 (M g 6 + 1) g 3 = M g 3 := qup_ne (by omega)
      have x6 : qup M g 6 (M g 6 + 1) g 6 = M g 6 + 1 := qup_self
      by_cases c3 : t (M g 6) = 40
      · obtain ⟨v, M2, r1, r2, r3⟩ := hF2 c2 g n t (qup M g 6 (M g 6 + 1)) (qTc_6 hT) (by omega) (by omega)
        have T2 := qTc_go (qTc_6 (v := M g 6 + 1) hT) r2
        have r26 := r2.2
        rw [x3, x6] at r26
        rcases r3 with ⟨rfl, hX, hY⟩ | ⟨rfl, hN⟩
        · by_cases c4 : t (M2 g 6) = 41
          · have s2 := sX3_sign_y T2 (by omega) c4 (by omega)
            have hl2 := qTc_lt T2 (i := M2 g 6) (by omega)
            refine ⟨1, qup M2 g 6 (M2 g 6 + 1), ?_, qGo_t (qGo_6 (by omega) (by omega) (by omega)) (qGo_t r2 gg1), Or.inl ⟨rfl, trivial, sim_paren_yes hT h6.1 h3 c3 (by omega) r2 hX c4 hY⟩⟩
            simp (disch := first | assumption | omega) only [B_X3_takesOne_0, B_X3_takesOne_4, B_X3_takesOne_11, B_X3_takesOne_22, B_X3_takesOne_29, B_X3_takesOne_45, B_X3_takesOne_52, B_X3_takesOne_55, B_X3_takesOne_61, B_X3_takesOne_64, B_X3_takesOne_69, not_true_eq_false, not_false_eq_true, if_true, if_false, qlk, qtk, qif_t, qif_f, qbd_some, Option.toList_some, Option.toList_none, List.cons_append, List.nil_append, List.append_nil, E_X3_takesOne, s, c3, e1, e2, r1, s2, Int.reduceEq]
          · have s2 := sX3_sign_n T2 (by omega) c4
            refine ⟨0, M2, ?_, qGo_t r2 gg1, Or.inr ⟨rfl, sim_paren_bad hT h6.1 h3 c3 (by omega) r2 hX c4 hY⟩⟩
            simp (disch := first | assumption | omega) only [B_X3_takesOne_0, B_X3_takesOne_4, B_X3_takesOne_11, B_X3_takesOne_22, B_X3_takesOne_29, B_X3_takesOne_45, B_X3_takesOne_52, B_X3_takesOne_55, B_X3_takesOne_61, B_X3_takesOne_68, B_X3_takesOne_69, not_true_eq_false, not_false_eq_true, if_true, if_false, qlk, qtk, qif_t, qif_f, qbd_some, Option.toList_some, Option.toList_none, List.cons_append, List.nil_append, List.append_nil, E_X3_takesOne, s, c3, e1, e2, r1, s2, Int.reduceEq]
        · refine ⟨0, M2, ?_, qGo_t r2 gg1, Or.inr ⟨rfl, sim_paren_no hT h6.1 c3 (by omega) hN⟩⟩
          simp (disch := first | assumption | omega) only [B_X3_takesOne_0, B_X3_takesOne_4, B_X3_takesOne_11, B_X3_takesOne_22, B_X3_takesOne_29, B_X3_takesOne_45, B_X3_takesOne_52, B_X3_takesOne_68, B_X3_takesOne_69, not_true_eq_false, not_false_eq_true, if_true, if_false, qlk, qtk, qif_t, qif_f, qbd_some, Option.toList_some, Option.toList_none, List.cons_append, List.nil_append, List.append_nil, E_X3_takesOne, s, c3, e1, e2, r1, Int.reduceEq]
      · have c4 : t (M g 6) = 33 := by omega
        obtain ⟨v, M2, r1, r2, r3⟩ := hF1 c2 g n t (qup M g 6 (M g 6 + 1)) (qTc_6 hT) (by omega) (by omega)
        have r26 := r2.2
        rw [x3, x6] at r26
        rcases r3 with ⟨rfl, hX, hY⟩ | ⟨rfl, hN⟩
        · have B := sim_bang_yes hT h6.1 h3 c4 (by omega) r2 hY
          have a := sX3_adds (M := M2) (x := 33) hg (by omega) B.2
          refine ⟨1, _, ?_, qGo_t (qGo_a hg (by omega) B.2) (qGo_t r2 gg1), Or.inl ⟨rfl, trivial, B.1⟩⟩
          simp (disch := first | assumption | omega) only [B_X3_takesOne_0, B_X3_takesOne_4, B_X3_takesOne_22, B_X3_takesOne_29, B_X3_takesOne_70, B_X3_takesOne_77, B_X3_takesOne_84, not_true_eq_false, not_false_eq_true, if_true, if_false, qlk, qtk, qif_t, qif_f, qbd_some, Option.toList_some, Option.toList_none, List.cons_append, List.nil_append, List.append_nil, E_X3_takesOne, s, c4, e1, e2, r1, a, Int.reduceEq]
        · by_cases c5 : M2 g 3 < 100
          · have a := sX3_adds (M := M2) (x := 33) hg (by omega) c5
            refine ⟨0, qup (qup M2 (g + 2) (M2 g 3) 33) g 3 (M2 g 3 + 1), ?_, qGo_t (qGo_a hg (by omega) c5) (qGo_t r2 gg1), Or.inr ⟨rfl, sim_bang_no hT h6.1 c4 (by omega) hN (by rw [qup_ne (by omega), qup_ne (by omega)])⟩⟩
            simp (disch := first | assumption | omega) only [B_X3_takesOne_0, B_X3_takesOne_4, B_X3_takesOne_22, B_X3_takesOne_29, B_X3_takesOne_70, B_X3_takesOne_77, B_X3_takesOne_84, not_true_eq_false, not_false_eq_true, if_true, if_false, qlk, qtk, qif_t, qif_f, qbd_some, Option.toList_some, Option.toList_none, List.cons_append, List.nil_append, List.append_nil, E_X3_takesOne, s, c4, e1, e2, r1, a, Int.reduceEq]
          · have a := sX3_adds_full (M := M2) (x := 33) hg (by omega)
            refine ⟨0, M2, ?_, qGo_t r2 gg1, Or.inr ⟨rfl, sim_bang_no hT h6.1 c4 (by omega) hN rfl⟩⟩
            simp (disch := first | assumption | omega) only [B_X3_takesOne_0, B_X3_takesOne_4, B_X3_takesOne_22, B_X3_takesOne_29, B_X3_takesOne_70, B_X3_takesOne_77, B_X3_takesOne_84, not_true_eq_false, not_false_eq_true, if_true, if_false, qlk, qtk, qif_t, qif_f, qbd_some, Option.toList_some, Option.toList_none, List.cons_append, List.nil_append, List.append_nil, E_X3_takesOne, s, c4, e1, e2, r1, a, Int.reduceEq]
    · refine ⟨0, M, ?_, qGo_r h6.2 (by omega), Or.inr ⟨rfl, fun j c B N hl hk => ?_⟩⟩
      · rcases c1 with c1 | c1
        · simp (disch := first | assumption | omega) only [B_X3_takesOne_0, B_X3_takesOne_4, B_X3_takesOne_22, B_X3_takesOne_27, not_true_eq_false, not_false_eq_true, if_true, if_false, qlk, qtk, qif_t, qif_f, qbd_some, Option.toList_some, Option.toList_none, List.cons_append, List.nil_append, List.append_nil, E_X3_takesOne, s, c1, Int.reduceEq]
        · simp (disch := first | assumption | omega) only [B_X3_takesOne_0, B_X3_takesOne_4, B_X3_takesOne_11, B_X3_takesOne_22, B_X3_takesOne_27, not_true_eq_false, not_false_eq_true, if_true, if_false, qlk, qtk, qif_t, qif_f, qbd_some, Option.toList_some, Option.toList_none, List.cons_append, List.nil_append, List.append_nil, E_X3_takesOne, s, c1, Int.reduceEq]
      · have l2 := hl.2.1
        have l3 := hl.2.2.1
        exact ⟨N, rE_deep hl.1 (by omega) rfl (by rw [l2]; exact c1) (by omega), qFr_r, l2, fun k hk => rfl⟩
  · obtain ⟨v, M', r1, r2, r3⟩ := sim_test (d := d) hT h6 h3 (by omega) hd
    refine ⟨v, M', ?_, r2, r3⟩
    have hv : v = 0 ∨ v = 1 := by
      rcases r3 with z | z
      · exact Or.inr z.1
      · exact Or.inl z.1
    simp (disch := first | assumption | omega) only [B_X3_takesOne_0, B_X3_takesOne_4, B_X3_takesOne_11, B_X3_takesOne_17, B_X3_takesOne_21, not_true_eq_false, not_false_eq_true, if_true, if_false, qlk, qtk, qif_t, qif_f, qbd_some, Option.toList_some, Option.toList_none, List.cons_append, List.nil_append, List.append_nil, E_X3_takesOne, s, r1]
