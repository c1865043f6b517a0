/-! the text: & and |, both sides; all depths -/
theorem KB_o : qKo 38 KB := ⟨fun _ _ h => h.1, fun _ h => ⟨h.2, fun _ => rfl⟩⟩
theorem KE_o : qKo 124 KE := ⟨fun _ _ h => h.1, fun _ h => ⟨h.2.1, fun z => absurd z h.2.2⟩⟩
theorem qYes_mono {w e : Nat} {g n d : Int} {t : Int → Int} {K K' : Nat → Int → Prop} {M M' : qMem} (hm : ∀ (j : Nat) (x : Int), K' j x → K j x) (h : qYes w e g n d t K M M') : qYes w e g n d t K' M M' := by
  obtain ⟨m, a, b⟩ := h
  exact ⟨m, a, fun j c B N hl hk => b j c B N hl (hk.imp id (hm _ _))⟩
theorem qNo_mono {w : Nat} {g n d : Int} {t : Int → Int} {K K' : Nat → Int → Prop} {M M' : qMem} (hm : ∀ (j : Nat) (x : Int), K' j x → K j x) (h : qNo w g n d t K M M') : qNo w g n d t K' M M' :=
  fun j c B N hl hk => h j c B N hl (hk.imp id (hm _ _))
theorem qYes_r {g n d : Int} {t : Int → Int} {M : qMem} {K : Nat → Int → Prop} (hj : ∀ (j : Nat) (x : Int), K j x → j = 0) : qYes 0 0 g n d t K M M := by
  refine ⟨0, ⟨by omega, by omega, fun k k1 k2 => by omega, by omega⟩, fun j c B N hl hk => ?_⟩
  have z := qRl_0 hl hk hj
  subst z
  exact ⟨N, rfl, qFr_r, hl.2.1, by omega, by omega, by omega, fun k hk => rfl, fun k hk => rfl, fun k hk => by omega, fun k hk => by omega, fun x => rfl⟩
theorem lBoth {F : qSem} {d : Int} (hF : qSmm F d KO XO) (hd : 0 ≤ d ∧ d ≤ 4) : ∀ (k : Nat) (g n : Int) (t : Int → Int) (M : qMem) (x : Int), qTc M g n t → (0 ≤ M g 6 ∧ M g 6 ≤ n) → n - M g 6 ≤ k → (0 ≤ x ∧ x ≤ M g 6) → (0 ≤ M g 3 ∧ M g 3 ≤ M g 6) → XO (t (M g 6)) →
    qSm 0 0 g n d t KB XB M (qlim (C_X3_takesBoth F) (12, [some (qA g), some (qI d), some (qI x)], [], qH0 M)) := by
  intro k
  induction k with
  | zero =>
    intro g n t M x hT h6 hk hx h3 hX
    have hg := hT.1
    have e : t (M g 6) = -1 := hT.2.2.2.2 _ (by omega)
    refine ⟨1, M, ?_, qGo_r h6.2 (by have := hT.2.2.1; omega), Or.inl ⟨rfl, (by unfold XB; omega), qYes_r KB_o.1⟩⟩
    have s := sX3_sign_n hT h6.1 (c := 38) (by omega)
    by_cases c : 100 ≤ x
    · simp (disch := first | assumption | omega) only [B_X3_takesBoth_12, B_X3_takesBoth_49, not_true_eq_false, not_false_eq_true, if_true, if_false, qlk, qtk, qif_t, qif_f, qbd_some, Option.toList_some, Option.toList_none, List.cons_append, List.nil_append, List.append_nil]
    · simp (disch := first | assumption | omega) only [B_X3_takesBoth_12, B_X3_takesBoth_18, B_X3_takesBoth_24, B_X3_takesBoth_49, not_true_eq_false, not_false_eq_true, if_true, if_false, qlk, qtk, qif_t, qif_f, qbd_some, Option.toList_some, Option.toList_none, List.cons_append, List.nil_append, List.append_nil, s]
  | succ k ih =>
    intro g n t M x hT h6 hk hx h3 hX
    have hg := hT.1
    have hn := hT.2.2.1
    by_cases c : 100 ≤ x
    · have e : t (M g 6) = -1 := hT.2.2.2.2 _ (by omega)
      refine ⟨1, M, ?_, qGo_r h6.2 (by omega), Or.inl ⟨rfl, (by unfold XB; omega), qYes_r KB_o.1⟩⟩
      simp (disch := first | assumption | omega) only [B_X3_takesBoth_12, B_X3_takesBoth_49, not_true_eq_false, not_false_eq_true, if_true, if_false, qlk, qtk, qif_t, qif_f, qbd_some, Option.toList_some, Option.toList_none, List.cons_append, List.nil_append, List.append_nil]
    · by_cases cb : t (M g 6) = 38
      · have hlt := qTc_lt hT (i := M g 6) (by omega)
        have s := sX3_sign_y hT h6.1 cb (by omega)
        have gg1 := qGo_6 (n := n) (v := M g 6 + 1) (M := M) (g := g) (by omega) (by omega) (by omega)
        have x3 : qup M g 6 (M g 6 + 1) g 3 = M g 3 := qup_ne (by omega)
        have x6 : qup M g 6 (M g 6 + 1) g 6 = M g 6 + 1 := qup_self
        have e1 : kadd x 1 = x + 1 := kadd_eq (by omega) (by omega)
        obtain ⟨v, M2, r1, r2, r3⟩ := hF g n t (qup M g 6 (M g 6 + 1)) (qTc_6 hT) (by omega) (by omega)
        have r26 := r2.2
        rw [x3, x6] at r26
        rcases r3 with ⟨rfl, hX2, hY⟩ | ⟨rfl, hN⟩
        · obtain ⟨y1, y2, y3, y4⟩ := qOp_yes (K := KB) (K1 := KO) hT h6.1 h3 cb (by omega) KB_o trivial r2 (fun q => by omega) hY
          have a := sX3_adds (M := M2) (x := 38) hg (by omega) y3
          have z3 : qup (qup M2 (g + 2) (M2 g 3) 38) g 3 (M2 g 3 + 1) g 3 = M2 g 3 + 1 := qup_self
          have z6 : qup (qup M2 (g + 2) (M2 g 3) 38) g 3 (M2 g 3 + 1) g 6 = M2 g 6 := by rw [qup_ne (by omega), qup_ne (by omega)]
          obtain ⟨v', M', q1, q2, q3⟩ := ih g n t (qup (qup M2 (g + 2) (M2 g 3) 38) g 3 (M2 g 3 + 1)) (x + 1) (qTc_go hT y2) (by omega) (by omega) (by omega) (by omega) (by rw [z6]; exact hX2)
          refine ⟨v', M', ?_, qGo_t q2 y2, ?_⟩
          · rw [← q1]
            simp (disch := first | assumption | omega) only [B_X3_takesBoth_12, B_X3_takesBoth_18, B_X3_takesBoth_24, B_X3_takesBoth_27, B_X3_takesBoth_32, B_X3_takesBoth_37, B_X3_takesBoth_43, not_true_eq_false, not_false_eq_true, if_true, if_false, qlk, qtk, qif_t, qif_f, qbd_some, Option.toList_some, Option.toList_none, List.cons_append, List.nil_append, List.append_nil, s, r1, a, e1]
          · rcases q3 with ⟨z, zX, zY⟩ | ⟨z, zN⟩
            · exact Or.inl ⟨z, zX, qYes_t KB_o.1 y1 zY y2 q2 h3.1⟩
            · exact Or.inr ⟨z, qYes_no KB_o.1 y1 zN⟩
        · refine ⟨0, M2, ?_, qGo_t r2 gg1, Or.inr ⟨rfl, qOp_no hT h6.1 cb (by omega) KB_o trivial hN⟩⟩
          simp (disch := first | assumption | omega) only [B_X3_takesBoth_12, B_X3_takesBoth_18, B_X3_takesBoth_24, B_X3_takesBoth_27, B_X3_takesBoth_32, B_X3_takesBoth_35, not_true_eq_false, not_false_eq_true, if_true, if_false, qlk, qtk, qif_t, qif_f, qbd_some, Option.toList_some, Option.toList_none, List.cons_append, List.nil_append, List.append_nil, s, r1]
      · refine ⟨1, M, ?_, qGo_r h6.2 (by omega), Or.inl ⟨rfl, cb, qYes_r KB_o.1⟩⟩
        have s := sX3_sign_n hT h6.1 (c := 38) cb
        simp (disch := first | assumption | omega) only [B_X3_takesBoth_12, B_X3_takesBoth_18, B_X3_takesBoth_24, B_X3_takesBoth_49, not_true_eq_false, not_false_eq_true, if_true, if_false, qlk, qtk, qif_t, qif_f, qbd_some, Option.toList_some, Option.toList_none, List.cons_append, List.nil_append, List.append_nil, s]
theorem sim_both {F : qSem} {d : Int} (hd : 0 ≤ d ∧ d ≤ 4) (hF : qSmm F d KO XO) : qSmm (qM 3 (C_X3_takesBoth F)) d KB XB := by
  intro g n t M hT h6 h3
  have hg := hT.1
  have hn := hT.2.2.1
  obtain ⟨v, M1, r1, r2, r3⟩ := hF g n t M hT h6 h3
  have r26 := r2.2
  rcases r3 with ⟨rfl, hX, hY⟩ | ⟨rfl, hN⟩
  · have hm : M1 g 3 ≤ M1 g 6 := by
      obtain ⟨m, ⟨a1, a2, _⟩, _⟩ := hY
      omega
    obtain ⟨v', M', q1, q2, q3⟩ := lBoth hF hd (n - M1 g 6).toNat g n t M1 0 (qTc_go hT r2) (by omega) (by omega) (by omega) (by omega) hX
    have hY' : qYes 1 1 g n d t KB M M1 := qYes_mono (fun _ _ _ => trivial) hY
    refine ⟨v', M', ?_, qGo_t q2 r2, ?_⟩
    · rw [← q1]
      simp (disch := first | assumption | omega) only [B_X3_takesBoth_0, B_X3_takesBoth_5, B_X3_takesBoth_10, not_true_eq_false, not_false_eq_true, if_true, if_false, qlk, qtk, qif_t, qif_f, qbd_some, Option.toList_some, Option.toList_none, List.cons_append, List.nil_append, List.append_nil, E_X3_takesBoth, r1]
    · rcases q3 with ⟨z, zX, zY⟩ | ⟨z, zN⟩
      · exact Or.inl ⟨z, zX, qYes_t KB_o.1 hY' zY r2 q2 h3.1⟩
      · exact Or.inr ⟨z, qYes_no KB_o.1 hY' zN⟩
  · refine ⟨0, M1, ?_, r2, Or.inr ⟨rfl, qNo_mono (fun _ _ _ => trivial) hN⟩⟩
    simp (disch := first | assumption | omega) only [B_X3_takesBoth_0, B_X3_takesBoth_5, B_X3_takesBoth_8, not_true_eq_false, not_false_eq_true, if_true, if_false, qlk, qtk, qif_t, qif_f, qbd_some, Option.toList_some, Option.toList_none, List.cons_append, List.nil_append, List.append_nil, E_X3_takesBoth, r1]
theorem lEither {F : qSem} {d : Int} (hF : qSmm F d KB XB) (hd : 0 ≤ d ∧ d ≤ 4) : ∀ (k : Nat) (g n : Int) (t : Int → Int) (M : qMem) (x : Int), qTc M g n t → (0 ≤ M g 6 ∧ M g 6 ≤ n) → n - M g 6 ≤ k → (0 ≤ x ∧ x ≤ M g 6) → (0 ≤ M g 3 ∧ M g 3 ≤ M g 6) → XB (t (M g 6)) →
    qSm 0 0 g n d t KE XE M (qlim (C_X3_takesEither F) (12, [some (qA g), some (qI d), some (qI x)], [], qH0 M)) := by
  intro k
  induction k with
  | zero =>
    intro g n t M x hT h6 hk hx h3 hX
    have hg := hT.1
    have e : t (M g 6) = -1 := hT.2.2.2.2 _ (by omega)
    refine ⟨1, M, ?_, qGo_r h6.2 (by have := hT.2.2.1; omega), Or.inl ⟨rfl, (by unfold XE; omega), qYes_r KE_o.1⟩⟩
    have s := sX3_sign_n hT h6.1 (c := 124) (by omega)
    by_cases c : 100 ≤ x
    · simp (disch := first | assumption | omega) only [B_X3_takesEither_12, B_X3_takesEither_49, not_true_eq_false, not_false_eq_true, if_true, if_false, qlk, qtk, qif_t, qif_f, qbd_some, Option.toList_some, Option.toList_none, List.cons_append, List.nil_append, List.append_nil]
    · simp (disch := first | assumption | omega) only [B_X3_takesEither_12, B_X3_takesEither_18, B_X3_takesEither_24, B_X3_takesEither_49, not_true_eq_false, not_false_eq_true, if_true, if_false, qlk, qtk, qif_t, qif_f, qbd_some, Option.toList_some, Option.toList_none, List.cons_append, List.nil_append, List.append_nil, s]
  | succ k ih =>
    intro g n t M x hT h6 hk hx h3 hX
    have hg := hT.1
    have hn := hT.2.2.1
    by_cases c : 100 ≤ x
    · have e : t (M g 6) = -1 := hT.2.2.2.2 _ (by omega)
      refine ⟨1, M, ?_, qGo_r h6.2 (by omega), Or.inl ⟨rfl, (by unfold XE; omega), qYes_r KE_o.1⟩⟩
      simp (disch := first | assumption | omega) only [B_X3_takesEither_12, B_X3_takesEither_49, not_true_eq_false, not_false_eq_true, if_true, if_false, qlk, qtk, qif_t, qif_f, qbd_some, Option.toList_some, Option.toList_none, List.cons_append, List.nil_append, List.append_nil]
    · by_cases cb : t (M g 6) = 124
      · have hlt := qTc_lt hT (i := M g 6) (by omega)
        have s := sX3_sign_y hT h6.1 cb (by omega)
        have gg1 := qGo_6 (n := n) (v := M g 6 + 1) (M := M) (g := g) (by omega) (by omega) (by omega)
        have x3 : qup M g 6 (M g 6 + 1) g 3 = M g 3 := qup_ne (by omega)
        have x6 : qup M g 6 (M g 6 + 1) g 6 = M g 6 + 1 := qup_self
        have e1 : kadd x 1 = x + 1 := kadd_eq (by omega) (by omega)
        obtain ⟨v, M2, r1, r2, r3⟩ := hF g n t (qup M g 6 (M g 6 + 1)) (qTc_6 hT) (by omega) (by omega)
        have r26 := r2.2
        rw [x3, x6] at r26
        rcases r3 with ⟨rfl, hX2, hY⟩ | ⟨rfl, hN⟩
        · obtain ⟨y1, y2, y3, y4⟩ := qOp_yes (K := KE) (K1 := KB) hT h6.1 h3 cb (by omega) KE_o ⟨rfl, by omega⟩ r2 (fun _ => hX2) hY
          have a := sX3_adds (M := M2) (x := 124) hg (by omega) y3
          have z3 : qup (qup M2 (g + 2) (M2 g 3) 124) g 3 (M2 g 3 + 1) g 3 = M2 g 3 + 1 := qup_self
          have z6 : qup (qup M2 (g + 2) (M2 g 3) 124) g 3 (M2 g 3 + 1) g 6 = M2 g 6 := by rw [qup_ne (by omega), qup_ne (by omega)]
          obtain ⟨v', M', q1, q2, q3⟩ := ih g n t (qup (qup M2 (g + 2) (M2 g 3) 124) g 3 (M2 g 3 + 1)) (x + 1) (qTc_go hT y2) (by omega) (by omega) (by omega) (by omega) (by rw [z6]; exact hX2)
          refine ⟨v', M', ?_, qGo_t q2 y2, ?_⟩
          · rw [← q1]
            simp (disch := first | assumption | omega) only [B_X3_takesEither_12, B_X3_takesEither_18, B_X3_takesEither_24, B_X3_takesEither_27, B_X3_takesEither_32, B_X3_takesEither_37, B_X3_takesEither_43, not_true_eq_false, not_false_eq_true, if_true, if_false, qlk, qtk, qif_t, qif_f, qbd_some, Option.toList_some, Option.toList_none, List.cons_append, List.nil_append, List.append_nil, s, r1, a, e1]
          · rcases q3 with ⟨z, zX, zY⟩ | ⟨z, zN⟩
            · exact Or.inl ⟨z, zX, qYes_t KE_o.1 y1 zY y2 q2 h3.1⟩
            · exact Or.inr ⟨z, qYes_no KE_o.1 y1 zN⟩
        · refine ⟨0, M2, ?_, qGo_t r2 gg1, Or.inr ⟨rfl, qOp_no hT h6.1 cb (by omega) KE_o ⟨rfl, by omega⟩ hN⟩⟩
          simp (disch := first | assumption | omega) only [B_X3_takesEither_12, B_X3_takesEither_18, B_X3_takesEither_24, B_X3_takesEither_27, B_X3_takesEither_32, B_X3_takesEither_35, not_true_eq_false, not_false_eq_true, if_true, if_false, qlk, qtk, qif_t, qif_f, qbd_some, Option.toList_some, Option.toList_none, List.cons_append, List.nil_append, List.append_nil, s, r1]
      · refine ⟨1, M, ?_, qGo_r h6.2 (by omega), Or.inl ⟨rfl, ⟨hX, cb⟩, qYes_r KE_o.1⟩⟩
        have s := sX3_sign_n hT h6.1 (c := 124) cb
        simp (disch := first | assumption | omega) only [B_X3_takesEither_12, B_X3_takesEither_18, B_X3_takesEither_24, B_X3_takesEither_49, not_true_eq_false, not_false_eq_true, if_true, if_false, qlk, qtk, qif_t, qif_f, qbd_some, Option.toList_some, Option.toList_none, List.cons_append, List.nil_append, List.append_nil, s]
theorem sim_either {F : qSem} {d : Int} (hd : 0 ≤ d ∧ d ≤ 4) (hF : qSmm F d KB XB) : qSmm (qM 3 (C_X3_takesEither F)) d KE XE := by
  intro g n t M hT h6 h3
  have hg := hT.1
  have hn := hT.2.2.1
  obtain ⟨v, M1, r1, r2, r3⟩ := hF g n t M hT h6 h3
  have r26 := r2.2
  rcases r3 with ⟨rfl, hX, hY⟩ | ⟨rfl, hN⟩
  · have hm : M1 g 3 ≤ M1 g 6 := by
      obtain ⟨m, ⟨a1, a2, _⟩, _⟩ := hY
      omega
    obtain ⟨v', M', q1, q2, q3⟩ := lEither hF hd (n - M1 g 6).toNat g n t M1 0 (qTc_go hT r2) (by omega) (by omega) (by omega) (by omega) hX
    have hY' : qYes 1 1 g n d t KE M M1 := qYes_mono (fun _ _ h => ⟨h.1, h.2.1⟩) hY
    refine ⟨v', M', ?_, qGo_t q2 r2, ?_⟩
    · rw [← q1]
      simp (disch := first | assumption | omega) only [B_X3_takesEither_0, B_X3_takesEither_5, B_X3_takesEither_10, not_true_eq_false, not_false_eq_true, if_true, if_false, qlk, qtk, qif_t, qif_f, qbd_some, Option.toList_some, Option.toList_none, List.cons_append, List.nil_append, List.append_nil, E_X3_takesEither, r1]
    · rcases q3 with ⟨z, zX, zY⟩ | ⟨z, zN⟩
      · exact Or.inl ⟨z, zX, qYes_t KE_o.1 hY' zY r2 q2 h3.1⟩
      · exact Or.inr ⟨z, qYes_no KE_o.1 hY' zN⟩
  · refine ⟨0, M1, ?_, r2, Or.inr ⟨rfl, qNo_mono (fun _ _ h => ⟨h.1, h.2.1⟩) hN⟩⟩
    simp (disch := first | assumption | omega) only [B_X3_takesEither_0, B_X3_takesEither_5, B_X3_takesEither_8, not_true_eq_false, not_false_eq_true, if_true, if_false, qlk, qtk, qif_t, qif_f, qbd_some, Option.toList_some, Option.toList_none, List.cons_append, List.nil_append, List.append_nil, E_X3_takesEither, r1]
theorem sim_all : ∀ (e : Nat) (d : Int), 0 ≤ d → d + e = 4 → qSmm (qone (e + 1)) d KO XO
  | 0, d, h0, he => by
    rw [qone_succ]
    exact sim_one (by omega) (fun z => by omega) (fun z => by omega)
  | e + 1, d, h0, he => by
    have ih := sim_all e (d + 1) (by omega) (by omega)
    rw [qone_succ]
    exact sim_one (by omega) (fun z => sim_either (by omega) (sim_both (by omega) ih)) (fun z => ih)
theorem sim_E : qSmm S_X3_takesEither 0 KE XE := sim_either (by omega) (sim_both (by omega) (sim_all 4 0 (by omega) (by omega)))
