/-! evening, feed -/
theorem step_evening {M : qMem} {x p : Int} (h : qInv M) : qStep S_X11_evening S_X12_evening [qI x, qI p] M := by
  have h6 := h.1.1.2.1
  have n0 : M 82 0 = M 12 10 := h.2.1.1.1.1
  obtain ⟨⟨S1, S1'⟩, S2, S3, S4⟩ := iEvn h
  by_cases c : x = -1
  · subst c
    have z : qEvn (qup (qup M 41 3 0) 82 41 0) 41 41 107 108 (M 12 10) := by
      refine ⟨⟨by rw [qup_ne (by omega), qup_ne (by omega)]; exact S1, by rw [qup_ne (by omega), qup_ne (by omega)]; exact S1'⟩, ?_, ?_, fun i a b => ?_⟩
      · rw [qup_ne (by omega), qup_self]
        omega
      · rw [qup_self, qup_ne (by omega), qup_self]
      · rw [qup_ne (by omega), qup_self] at b
        omega
    refine ⟨qI 0, qup M 41 3 0, qup (qup M 41 3 0) 82 41 0, ?_, ?_, qInv_evn h (qAg_up (qAg_up qAg_r (by unfold Eev; omega)) (by unfold Eev; omega)) z⟩
    · simp (disch := first | assumption | omega) only [B_X11_evening_0, B_X11_evening_5, E_X11_evening, B_X11_evening_0, B_X11_evening_5, B_X11_evening_15, B_X11_evening_20, B_X11_evening_23, B_X11_evening_27, B_X11_evening_32, B_X11_evening_35, B_X11_evening_37, B_X11_evening_47, not_true_eq_false, not_false_eq_true, if_true, if_false, qlk, qtk, qif_t, qif_f, qbd_some, Option.toList_some, Option.toList_none, List.cons_append, List.nil_append, List.append_nil, Int.reduceNeg]
    · simp (disch := first | assumption | omega) only [B_X12_evening_0, B_X12_evening_5, E_X12_evening, B_X12_evening_0, B_X12_evening_5, B_X12_evening_12, B_X12_evening_19, B_X12_evening_22, B_X12_evening_26, B_X12_evening_31, B_X12_evening_34, B_X12_evening_36, B_X12_evening_45, B_X12_evening_48, B_X12_evening_70, B_X12_evening_74, B_X12_evening_75, not_true_eq_false, not_false_eq_true, if_true, if_false, qlk, qtk, qif_t, qif_f, qbd_some, Option.toList_some, Option.toList_none, List.cons_append, List.nil_append, List.append_nil, Int.reduceNeg]
  · by_cases cx : 0 ≤ x ∧ x ≤ 5
    · have x1 := sX11_isIn_y (M := M) cx
      by_cases cp : x = 0 ∨ (0 ≤ p ∧ p < M 12 10)
      · have run1 : S_X11_evening [qA 0, qI x, qI p] (qH0 M) = qlim C_X11_evening (37, [some (qA 0), some (qI x), some (qI p)], [], qH0 M) := by
          rw [E_X11_evening]
          by_cases cz : x = 0
          · simp (disch := first | assumption | omega) only [B_X11_evening_0, B_X11_evening_15, B_X11_evening_20, B_X11_evening_23, not_true_eq_false, not_false_eq_true, if_true, if_false, qlk, qtk, qif_t, qif_f, qbd_some, Option.toList_some, Option.toList_none, List.cons_append, List.nil_append, List.append_nil, x1]
          · have P1 := sX11_isPerson_y (M := M) (cp.resolve_left cz)
            simp (disch := first | assumption | omega) only [B_X11_evening_0, B_X11_evening_15, B_X11_evening_20, B_X11_evening_23, B_X11_evening_27, B_X11_evening_32, not_true_eq_false, not_false_eq_true, if_true, if_false, qlk, qtk, qif_t, qif_f, qbd_some, Option.toList_some, Option.toList_none, List.cons_append, List.nil_append, List.append_nil, x1, P1]
        have run2 : ∀ N : qMem, N 82 0 = M 82 0 → S_X12_evening [qA 82, qI x, qI p] (qH0 N) = qlim C_X12_evening (36, [some (qA 82), some (qI x), some (qI p)], [], qH0 N) := fun N hN => by
          have x2 := sX12_in_y (M := N) cx
          rw [E_X12_evening]
          by_cases cz : x = 0
          · simp (disch := first | assumption | omega) only [B_X12_evening_0, B_X12_evening_12, B_X12_evening_19, B_X12_evening_22, not_true_eq_false, not_false_eq_true, if_true, if_false, qlk, qtk, qif_t, qif_f, qbd_some, Option.toList_some, Option.toList_none, List.cons_append, List.nil_append, List.append_nil, x2]
          · have P2 := sX12_isPerson_y (M := N) (a := p) (by omega) (by omega) (by omega)
            simp (disch := first | assumption | omega) only [B_X12_evening_0, B_X12_evening_12, B_X12_evening_19, B_X12_evening_22, B_X12_evening_26, B_X12_evening_31, not_true_eq_false, not_false_eq_true, if_true, if_false, qlk, qtk, qif_t, qif_f, qbd_some, Option.toList_some, Option.toList_none, List.cons_append, List.nil_append, List.append_nil, x2, P2]
        by_cases cf : M 41 3 < 10
        · have s1 := sX6_add2 (M := M) (r := 41) (a := x) (b := p) (c := 0) (m := 10) (n := 20) (Or.inr (Or.inl rfl)) rfl S1 S1' (by omega) (by omega) S2.1 cf
          obtain ⟨s, hs⟩ : ∃ s, M 41 3 = s := ⟨_, rfl⟩
          rw [hs] at s1 S2 S3 S4 cf
          obtain ⟨Q, hQ⟩ : ∃ Q : qMem, Q = qup (qup (qup M 42 (2 * s) x) 42 (2 * s + 1) p) 41 3 (s + 1) := ⟨_, rfl⟩
          have s1' : S_X6_add [qA 41, qI x, qI p, qI 0] (qH0 M) = some (some (qI (s + 1)), qH0 Q) := by rw [hQ]; exact s1
          have q41 : Q 82 41 = s := by rw [hQ, qup_ne (by omega), qup_ne (by omega), qup_ne (by omega)]; exact S3
          have q0 : Q 82 0 = M 82 0 := by rw [hQ, qup_ne (by omega), qup_ne (by omega), qup_ne (by omega)]
          obtain ⟨V, hV⟩ : ∃ V : qMem, V = qup (qup (qup Q 107 s x) 108 s (if x ≤ 0 then 0 else p)) 82 41 (s + 1) := ⟨_, rfl⟩
          have s2 : S_X12_evening [qA 82, qI x, qI p] (qH0 Q) = some (some (qI (s + 1)), qH0 V) := by
            have e1 : kadd s 1 = s + 1 := kadd_eq (by omega) (by omega)
            have t1 : qup Q 107 s x 82 41 = s := by rw [qup_ne (by omega), q41]
            have t2 : ∀ v : Int, qup (qup Q 107 s x) 108 s v 82 41 = s := fun v => by rw [qup_ne (by omega), t1]
            rw [run2 Q q0, hV, B_X12_evening_36, qif_t (by omega), B_X12_evening_48 (by omega) (by omega), q41, t1]
            by_cases cz : x ≤ 0
            · rw [qif_t cz, if_pos cz, B_X12_evening_74, B_X12_evening_75 (by omega) (by omega), t2, e1, qup_self]
            · rw [qif_f cz, if_neg cz, B_X12_evening_70, B_X12_evening_75 (by omega) (by omega), t2, e1, qup_self]
          have v42 : ∀ k : Int, V 42 k = if k = 2 * s then x else if k = 2 * s + 1 then p else M 42 k := fun k => by
            rw [hV, qup_ne (by omega), qup_ne (by omega), qup_ne (by omega), hQ, qup_ne (by omega)]
            by_cases k1 : k = 2 * s
            · rw [if_pos k1, k1, qup_ne (by omega), qup_self]
            · rw [if_neg k1]
              by_cases k2 : k = 2 * s + 1
              · rw [if_pos k2, k2, qup_self]
              · rw [if_neg k2, qup_ne (by omega), qup_ne (by omega)]
          have v41 : ∀ k : Int, V 41 k = if k = 3 then s + 1 else M 41 k := fun k => by
            rw [hV, qup_ne (by omega), qup_ne (by omega), qup_ne (by omega), hQ]
            by_cases k1 : k = 3
            · rw [if_pos k1, k1, qup_self]
            · rw [if_neg k1, qup_ne (by omega), qup_ne (by omega), qup_ne (by omega)]
          have u : qAg Eev V M := by
            rw [hV, hQ]
            exact qAg_up (qAg_up (qAg_up (qAg_up (qAg_up (qAg_up qAg_r (by unfold Eev; omega)) (by unfold Eev; omega)) (by unfold Eev; omega)) (by unfold Eev; omega)) (by unfold Eev; omega)) (by unfold Eev; omega)
          have v107 : ∀ k : Int, V 107 k = if k = s then x else M 107 k := fun k => by
            rw [hV, qup_ne (by omega), qup_ne (by omega)]
            by_cases k1 : k = s
            · rw [if_pos k1, k1, qup_self]
            · rw [if_neg k1, qup_ne (by omega), hQ, qup_ne (by omega), qup_ne (by omega), qup_ne (by omega)]
          have v108 : ∀ k : Int, V 108 k = if k = s then (if x ≤ 0 then 0 else p) else M 108 k := fun k => by
            rw [hV, qup_ne (by omega)]
            by_cases k1 : k = s
            · rw [if_pos k1, k1, qup_self]
            · rw [if_neg k1, qup_ne (by omega), qup_ne (by omega), hQ, qup_ne (by omega), qup_ne (by omega), qup_ne (by omega)]
          have z : qEvn V 41 41 107 108 (M 12 10) := by
            have e41 : V 82 41 = s + 1 := by rw [hV, qup_self]
            have e3 : V 41 3 = s + 1 := by rw [v41, if_pos rfl]
            refine ⟨⟨by rw [v41, if_neg (by omega)]; exact S1, by rw [v41, if_neg (by omega)]; exact S1'⟩, by omega, by omega, fun i a b => ?_⟩
            have g0 : V (41 + 1) (2 * i) = if 2 * i = 2 * s then x else if 2 * i = 2 * s + 1 then p else M 42 (2 * i) := v42 _
            have g1 : V (41 + 1) (2 * i + 1) = if 2 * i + 1 = 2 * s then x else if 2 * i + 1 = 2 * s + 1 then p else M 42 (2 * i + 1) := v42 _
            rw [g0, g1, v107, v108]
            by_cases ci : i = s
            · rw [if_pos (c := i = s) ci, if_pos (c := i = s) ci, if_pos (c := 2 * i = 2 * s) (by omega), if_neg (c := 2 * i + 1 = 2 * s) (by omega), if_pos (c := 2 * i + 1 = 2 * s + 1) (by omega)]
              exact ⟨cx, rfl, fun cz => ⟨cp.resolve_left cz, by rw [if_neg (by omega)]⟩⟩
            · rw [if_neg (c := i = s) ci, if_neg (c := i = s) ci, if_neg (c := 2 * i = 2 * s) (by omega), if_neg (c := 2 * i = 2 * s + 1) (by omega), if_neg (c := 2 * i + 1 = 2 * s) (by omega), if_neg (c := 2 * i + 1 = 2 * s + 1) (by omega)]
              exact S4 i a (by omega)
          refine ⟨qI (s + 1), Q, V, ?_, s2, qInv_evn h u z⟩
          rw [run1]
          simp (disch := first | assumption | omega) only [B_X11_evening_37, B_X11_evening_47, not_true_eq_false, not_false_eq_true, if_true, if_false, qlk, qtk, qif_t, qif_f, qbd_some, Option.toList_some, Option.toList_none, List.cons_append, List.nil_append, List.append_nil, s1']
        · have s1 := sX6_add_full (M := M) (r := 41) (a := x) (b := p) (c := 0) (Or.inr (Or.inl rfl)) (by omega)
          have f : M 82 41 = 10 := by omega
          refine qStep_r (v := qI (-4)) h ?_ ?_
          · rw [run1]
            simp (disch := first | assumption | omega) only [B_X11_evening_37, B_X11_evening_47, not_true_eq_false, not_false_eq_true, if_true, if_false, qlk, qtk, qif_t, qif_f, qbd_some, Option.toList_some, Option.toList_none, List.cons_append, List.nil_append, List.append_nil, s1]
          · rw [run2 M rfl]
            simp (disch := first | assumption | omega) only [B_X12_evening_36, B_X12_evening_45, not_true_eq_false, not_false_eq_true, if_true, if_false, qlk, qtk, qif_t, qif_f, qbd_some, Option.toList_some, Option.toList_none, List.cons_append, List.nil_append, List.append_nil, f]
      · have P1 := sX11_isPerson_n (M := M) (a := p) (by omega)
        have P2 := sX12_isPerson_n (M := M) (a := p) (by omega) (by omega) (by omega)
        have x2 := sX12_in_y (M := M) cx
        refine qStep_r (v := qI (-1)) h ?_ ?_
        · rw [E_X11_evening]
          simp (disch := first | assumption | omega) only [B_X11_evening_0, B_X11_evening_15, B_X11_evening_20, B_X11_evening_23, B_X11_evening_27, B_X11_evening_32, B_X11_evening_35, not_true_eq_false, not_false_eq_true, if_true, if_false, qlk, qtk, qif_t, qif_f, qbd_some, Option.toList_some, Option.toList_none, List.cons_append, List.nil_append, List.append_nil, x1, P1]
        · rw [E_X12_evening]
          simp (disch := first | assumption | omega) only [B_X12_evening_0, B_X12_evening_12, B_X12_evening_19, B_X12_evening_22, B_X12_evening_26, B_X12_evening_31, B_X12_evening_34, not_true_eq_false, not_false_eq_true, if_true, if_false, qlk, qtk, qif_t, qif_f, qbd_some, Option.toList_some, Option.toList_none, List.cons_append, List.nil_append, List.append_nil, x2, P2]
    · have x1 := sX11_isIn_n (M := M) cx
      have x2 := sX12_in_n (M := M) cx
      refine qStep_r (v := qI (-1)) h ?_ ?_
      · rw [E_X11_evening]
        simp (disch := first | assumption | omega) only [B_X11_evening_0, B_X11_evening_15, B_X11_evening_20, B_X11_evening_35, not_true_eq_false, not_false_eq_true, if_true, if_false, qlk, qtk, qif_t, qif_f, qbd_some, Option.toList_some, Option.toList_none, List.cons_append, List.nil_append, List.append_nil, x1]
      · rw [E_X12_evening]
        simp (disch := first | assumption | omega) only [B_X12_evening_0, B_X12_evening_12, B_X12_evening_19, B_X12_evening_34, not_true_eq_false, not_false_eq_true, if_true, if_false, qlk, qtk, qif_t, qif_f, qbd_some, Option.toList_some, Option.toList_none, List.cons_append, List.nil_append, List.append_nil, x2]
theorem ki2b_d : ∀ v : Fin 128, ki2b (v.val : Int) = (v.val : Int) := by decide +kernel
theorem ki2b_eq {x : Int} (h : 0 ≤ x ∧ x ≤ 127) : ki2b x = x := by
  obtain ⟨n, rfl⟩ := Int.eq_ofNat_of_zero_le h.1
  exact ki2b_d ⟨n, by omega⟩
theorem step_feed {M : qMem} {x : Int} (h : qInv M) : qStep S_X11_feed S_X12_feed [qI x] M := by
  obtain ⟨T1, T2, T3⟩ := iTxt h
  by_cases cx : 0 ≤ x ∧ x ≤ 127
  · have x1 := sX11_isIn_y (M := M) cx
    by_cases cf : M 0 11 < 100
    · obtain ⟨s, hs⟩ : ∃ s, M 0 11 = s := ⟨_, rfl⟩
      rw [hs] at T1 T2 T3 cf
      have eb := ki2b_eq cx
      have e1 : kadd s 1 = s + 1 := kadd_eq (by omega) (by omega)
      obtain ⟨Q, hQ⟩ : ∃ Q : qMem, Q = qup (qup M 51 s x) 0 11 (s + 1) := ⟨_, rfl⟩
      have q12 : Q 82 12 = s := by rw [hQ, qup_ne (by omega), qup_ne (by omega)]; exact T1
      obtain ⟨V, hV⟩ : ∃ V : qMem, V = qup (qup Q 90 s x) 82 12 (s + 1) := ⟨_, rfl⟩
      have s1 : S_X11_feed [qA 0, qI x] (qH0 M) = some (some (qI (s + 1)), qH0 Q) := by
        have t1 : qup M 51 s x 0 11 = s := by rw [qup_ne (by omega), hs]
        have k := B_X11_feed_24 (M := M) (x1 := x) (by omega) (by omega) (by omega) (by omega)
        rw [hs, eb, t1, e1, qup_self, ← hQ] at k
        rw [← k, E_X11_feed]
        have cf' : M 0 11 < 100 := by omega
        simp (disch := first | assumption | omega) only [B_X11_feed_0, B_X11_feed_6, B_X11_feed_12, not_true_eq_false, not_false_eq_true, if_true, if_false, qlk, qtk, qif_t, qif_f, qbd_some, Option.toList_some, Option.toList_none, List.cons_append, List.nil_append, List.append_nil, x1]
      have s2 : S_X12_feed [qA 82, qI x] (qH0 Q) = some (some (qI (s + 1)), qH0 V) := by
        have x2 := sX12_in_y (M := Q) cx
        have t1 : qup Q 90 s x 82 12 = s := by rw [qup_ne (by omega), q12]
        have k := B_X12_feed_26 (M := Q) (x1 := x) (by omega) (by omega)
        rw [q12, t1, e1, qup_self, ← hV] at k
        rw [← k, E_X12_feed]
        simp (disch := first | assumption | omega) only [B_X12_feed_0, B_X12_feed_8, B_X12_feed_14, not_true_eq_false, not_false_eq_true, if_true, if_false, qlk, qtk, qif_t, qif_f, qbd_some, Option.toList_some, Option.toList_none, List.cons_append, List.nil_append, List.append_nil, x2]
      have u : qAg Etx V M := by
        rw [hV, hQ]
        exact qAg_up (qAg_up (qAg_up (qAg_up qAg_r (by unfold Etx; omega)) (by unfold Etx; omega)) (by unfold Etx; omega)) (by unfold Etx; omega)
      have z : qTxt V := by
        have e12 : V 82 12 = s + 1 := by rw [hV, qup_self]
        have e11 : V 0 11 = s + 1 := by rw [hV, qup_ne (by omega), qup_ne (by omega), hQ, qup_self]
        refine ⟨by omega, by omega, fun i a b => ?_⟩
        rw [hV, qup_ne (a := 82) (a' := 90) (by omega), qup_ne (a := 82) (a' := 51) (by omega), qup_ne (a := 90) (a' := 51) (by omega), hQ, qup_ne (a := 0) (a' := 51) (by omega)]
        by_cases ci : i = s
        · rw [ci, qup_self, qup_self]
          exact ⟨rfl, cx⟩
        · rw [qup_ne (by omega), qup_ne (by omega), qup_ne (by omega), qup_ne (by omega)]
          exact T3 i a (by omega)
      exact ⟨qI (s + 1), Q, V, s1, s2, qInv_txt h u z⟩
    · have x2 := sX12_in_y (M := M) cx
      have f : M 82 12 = 100 := by omega
      refine qStep_r (v := qI (-4)) h ?_ ?_
      · rw [E_X11_feed]
        simp (disch := first | assumption | omega) only [B_X11_feed_0, B_X11_feed_6, B_X11_feed_12, B_X11_feed_21, not_true_eq_false, not_false_eq_true, if_true, if_false, qlk, qtk, qif_t, qif_f, qbd_some, Option.toList_some, Option.toList_none, List.cons_append, List.nil_append, List.append_nil, x1]
      · rw [E_X12_feed]
        simp (disch := first | assumption | omega) only [B_X12_feed_0, B_X12_feed_8, B_X12_feed_14, B_X12_feed_23, not_true_eq_false, not_false_eq_true, if_true, if_false, qlk, qtk, qif_t, qif_f, qbd_some, Option.toList_some, Option.toList_none, List.cons_append, List.nil_append, List.append_nil, x2, f]
  · have x1 := sX11_isIn_n (M := M) cx
    have x2 := sX12_in_n (M := M) cx
    refine qStep_r (v := qI (-2)) h ?_ ?_
    · rw [E_X11_feed]
      simp (disch := first | assumption | omega) only [B_X11_feed_0, B_X11_feed_6, B_X11_feed_9, not_true_eq_false, not_false_eq_true, if_true, if_false, qlk, qtk, qif_t, qif_f, qbd_some, Option.toList_some, Option.toList_none, List.cons_append, List.nil_append, List.append_nil, x1]
    · rw [E_X12_feed]
      simp (disch := first | assumption | omega) only [B_X12_feed_0, B_X12_feed_8, B_X12_feed_11, not_true_eq_false, not_false_eq_true, if_true, if_false, qlk, qtk, qif_t, qif_f, qbd_some, Option.toList_some, Option.toList_none, List.cons_append, List.nil_append, List.append_nil, x2]
