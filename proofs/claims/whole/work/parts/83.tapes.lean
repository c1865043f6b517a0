/-! tapes -/
def fIt (s v : Int) : Int := if s = 0 then ki2l (ki2b (kl2i v)) else if s = 1 then ki2l (ki2s (kl2i v)) else if s = 2 then ki2l (kl2i v) else if s = 4 then (if jcmp v 0 = 0 then 0 else 1) else v
theorem sX11_asItem {M : qMem} {s v : Int} (hs : 0 ≤ s ∧ s ≤ 4) : S_X11_asItem [qI s, qJ v] (qH0 M) = some (some (qJ (fIt s v)), qH0 M) := by
  have e : s = 0 ∨ s = 1 ∨ s = 2 ∨ s = 3 ∨ s = 4 := by omega
  rw [E_X11_asItem, B_X11_asItem_0]
  rcases e with rfl | rfl | rfl | rfl | rfl
  · exact B_X11_asItem_36
  · exact B_X11_asItem_41
  · exact B_X11_asItem_46
  · exact B_X11_asItem_62
  · refine B_X11_asItem_50.trans ?_
    have e4 : fIt 4 v = if jcmp v 0 = 0 then 0 else 1 := rfl
    rw [e4]
    by_cases c : jcmp v 0 = 0
    · rw [qif_t c, if_pos c, B_X11_asItem_60, B_X11_asItem_61]
    · rw [qif_f c, if_neg c, B_X11_asItem_56, B_X11_asItem_61]
theorem sX12_narrow {M : qMem} {s v : Int} (hs : 0 ≤ s ∧ s ≤ 4) : S_X12_narrow [qA 82, qI s, qJ v] (qH0 M) = some (some (qJ (fIt s v)), qH0 M) := by
  have e : s = 0 ∨ s = 1 ∨ s = 2 ∨ s = 3 ∨ s = 4 := by omega
  rw [E_X12_narrow, B_X12_narrow_0]
  rcases e with rfl | rfl | rfl | rfl | rfl
  · rw [qif_f (by omega), B_X12_narrow_4]
    exact B_X12_narrow_54
  · rw [qif_t (by omega), B_X12_narrow_11, qif_f (by omega), B_X12_narrow_16]
    exact B_X12_narrow_54
  · rw [qif_t (by omega), B_X12_narrow_11, qif_t (by omega), B_X12_narrow_23, qif_f (by omega), B_X12_narrow_28]
    exact B_X12_narrow_54
  · rw [qif_t (by omega), B_X12_narrow_11, qif_t (by omega), B_X12_narrow_23, qif_t (by omega), B_X12_narrow_34, qif_t (by omega), B_X12_narrow_53]
    exact B_X12_narrow_54
  · have e4 : fIt 4 v = if jcmp v 0 = 0 then 0 else 1 := rfl
    rw [qif_t (by omega), B_X12_narrow_11, qif_t (by omega), B_X12_narrow_23, qif_t (by omega), B_X12_narrow_34, qif_f (by omega), B_X12_narrow_39, e4]
    by_cases c : jcmp v 0 = 0
    · rw [qif_t c, if_pos c, B_X12_narrow_49, B_X12_narrow_54]
    · rw [qif_f c, if_neg c, B_X12_narrow_45, B_X12_narrow_54]
theorem step_item {M : qMem} {x i v : Int} (h : qInv M) : qStep S_X11_item S_X12_item [qI x, qI i, qJ v] M := by
  have T := iTps h
  by_cases c : 0 ≤ x ∧ x < 6
  · have x0 := c.1
    have x6 := c.2
    obtain ⟨t1, t2, t3⟩ := T x c.1 c.2
    have P1 := sX11_isTape_y (M := M) c
    by_cases d : 0 ≤ M 73 x
    · obtain ⟨u1, u2, u3⟩ := t3 d
      by_cases ci : 0 ≤ i ∧ i < M 74 x
      · obtain ⟨w, hw⟩ : ∃ w, fIt (M 73 x) v = w := ⟨_, rfl⟩
        have s1 := sX11_asItem (M := M) (s := M 73 x) (v := v) (by omega)
        rw [hw] at s1
        have st1 : S_X11_item [qA 0, qI x, qI i, qJ v] (qH0 M) = some (some (qI 1), qH0 (qup M (76 + x) i w)) := by
          have k := B_X11_item_56 (M := M) (x1 := x) (x2 := i) (x3 := v) (s1 := i) (s2 := w) (qG75t x0 x6) ci.1 (by omega)
          rw [qG75 x0 x6] at k
          rw [← k, E_X11_item]
          simp (disch := first | assumption | omega) only [B_X11_item_0, B_X11_item_4, B_X11_item_9, B_X11_item_22, B_X11_item_26, B_X11_item_39, not_true_eq_false, not_false_eq_true, if_true, if_false, qlk, qtk, qif_t, qif_f, qbd_some, Option.toList_some, Option.toList_none, List.cons_append, List.nil_append, List.append_nil, P1, s1]
          rw [qG75 x0 x6]
        have r : ∀ a k : Int, ¬ (76 ≤ a ∧ a ≤ 81) → qup M (76 + x) i w a k = M a k := fun a k ha => qup_ne (by omega)
        have P2 := sX12_isTape_y (M := qup M (76 + x) i w) c
        have s2 := sX12_narrow (M := qup M (76 + x) i w) (s := M 73 x) (v := v) (by omega)
        rw [hw] at s2
        have e1 : ksub (qup M (76 + x) i w 127 x) 1 = M 74 x - 1 := by rw [r 127 x (by omega), u1, ksub_eq (by omega) (by omega)]
        have e2 : kadd (kmul 60 x) i = 60 * x + i := by rw [kmul_eq (by omega) (by omega), kadd_eq (by omega) (by omega)]
        have e126 : qup M (76 + x) i w 126 x = M 73 x := by rw [r 126 x (by omega), t1]
        have st2 : S_X12_item [qA 82, qI x, qI i, qJ v] (qH0 (qup M (76 + x) i w)) = some (some (qI 1), qH0 (qup (qup M (76 + x) i w) 128 (60 * x + i) w)) := by
          have k := B_X12_item_63 (M := qup M (76 + x) i w) (x1 := x) (x2 := i) (x3 := v) (s1 := 60 * x + i) (s2 := w) (by omega) (by omega)
          rw [← k, E_X12_item]
          simp (disch := first | assumption | omega) only [B_X12_item_0, B_X12_item_5, B_X12_item_10, B_X12_item_22, B_X12_item_36, B_X12_item_42, not_true_eq_false, not_false_eq_true, if_true, if_false, qlk, qtk, qif_t, qif_f, qbd_some, Option.toList_some, Option.toList_none, List.cons_append, List.nil_append, List.append_nil, P2, e126, e1, sX12_in_y, s2, e2]
        refine ⟨qI 1, _, _, st1, st2, qInv_tps h (qAg_up (qAg_up qAg_r (by unfold Etp; omega)) (by unfold Etp; omega)) ?_⟩
        intro y y0 y6
        have Y := T y y0 y6
        rw [qup_ne (a' := 126) (by omega), qup_ne (a' := 126) (by omega), qup_ne (a' := 73) (by omega), qup_ne (a' := 73) (by omega), qup_ne (a' := 127) (by omega), qup_ne (a' := 127) (by omega), qup_ne (a' := 74) (by omega), qup_ne (a' := 74) (by omega)]
        refine ⟨Y.1, Y.2.1, fun q => ⟨(Y.2.2 q).1, (Y.2.2 q).2.1, fun k k0 k1 => ?_⟩⟩
        have Yk := (Y.2.2 q).2.2 k k0 k1
        have Y60 := (Y.2.2 q).2.1
        by_cases cy : y = x ∧ k = i
        · obtain ⟨rfl, rfl⟩ := cy
          rw [qup_self, qup_ne (by omega), qup_self]
        · rw [qup_ne (by omega), qup_ne (by omega), qup_ne (by omega), qup_ne (by omega)]
          exact Yk
      · have P2 := sX12_isTape_y (M := M) c
        have e1 : ksub (M 127 x) 1 = M 74 x - 1 := by rw [u1, ksub_eq (by omega) (by omega)]
        refine qStep_r (v := qI (-13)) h ?_ ?_
        · rw [E_X11_item]
          by_cases c2 : i < 0
          · simp (disch := first | assumption | omega) only [B_X11_item_0, B_X11_item_4, B_X11_item_9, B_X11_item_22, B_X11_item_36, not_true_eq_false, not_false_eq_true, if_true, if_false, qlk, qtk, qif_t, qif_f, qbd_some, Option.toList_some, Option.toList_none, List.cons_append, List.nil_append, List.append_nil, P1]
          · simp (disch := first | assumption | omega) only [B_X11_item_0, B_X11_item_4, B_X11_item_9, B_X11_item_22, B_X11_item_26, B_X11_item_36, not_true_eq_false, not_false_eq_true, if_true, if_false, qlk, qtk, qif_t, qif_f, qbd_some, Option.toList_some, Option.toList_none, List.cons_append, List.nil_append, List.append_nil, P1]
        · rw [E_X12_item]
          simp (disch := first | assumption | omega) only [B_X12_item_0, B_X12_item_5, B_X12_item_10, B_X12_item_22, B_X12_item_36, B_X12_item_39, not_true_eq_false, not_false_eq_true, if_true, if_false, qlk, qtk, qif_t, qif_f, qbd_some, Option.toList_some, Option.toList_none, List.cons_append, List.nil_append, List.append_nil, P2, e1, sX12_in_n]
    · have P2 := sX12_isTape_y (M := M) c
      refine qStep_r (v := qI (-11)) h ?_ ?_
      · rw [E_X11_item]
        simp (disch := first | assumption | omega) only [B_X11_item_0, B_X11_item_4, B_X11_item_9, B_X11_item_19, not_true_eq_false, not_false_eq_true, if_true, if_false, qlk, qtk, qif_t, qif_f, qbd_some, Option.toList_some, Option.toList_none, List.cons_append, List.nil_append, List.append_nil, P1]
      · rw [E_X12_item]
        simp (disch := first | assumption | omega) only [B_X12_item_0, B_X12_item_5, B_X12_item_10, B_X12_item_19, not_true_eq_false, not_false_eq_true, if_true, if_false, qlk, qtk, qif_t, qif_f, qbd_some, Option.toList_some, Option.toList_none, List.cons_append, List.nil_append, List.append_nil, P2]
  · have P1 := sX11_isTape_n (M := M) c
    have P2 := sX12_isTape_n (M := M) c
    refine qStep_r (v := qI (-1)) h ?_ ?_
    · rw [E_X11_item]
      simp (disch := first | assumption | omega) only [B_X11_item_0, B_X11_item_4, B_X11_item_7, not_true_eq_false, not_false_eq_true, if_true, if_false, qlk, qtk, qif_t, qif_f, qbd_some, Option.toList_some, Option.toList_none, List.cons_append, List.nil_append, List.append_nil, P1]
    · rw [E_X12_item]
      simp (disch := first | assumption | omega) only [B_X12_item_0, B_X12_item_5, B_X12_item_8, not_true_eq_false, not_false_eq_true, if_true, if_false, qlk, qtk, qif_t, qif_f, qbd_some, Option.toList_some, Option.toList_none, List.cons_append, List.nil_append, List.append_nil, P2]
/-! a tape is made -/
theorem lX11_tape {x s n : Int} (x0 : 0 ≤ x) (x6 : x < 6) (hn : n ≤ 60) : ∀ (d i : Nat) (N : qMem), ((i + d : Nat) : Int) = n → (∀ k : Int, 0 ≤ k → k < i → N (76 + x) k = 0) →
    ∃ N', qlim C_X11_tape (64, [some (qA 0), some (qI x), some (qI s), some (qI n), some (qI i)], [], qH0 N) = some (some (qI 1), qH0 N') ∧ (∀ a : Int, ¬ a = 76 + x → N' a = N a) ∧ (∀ k : Int, 0 ≤ k → k < n → N' (76 + x) k = 0)
  | 0, i, N, hi, hz => ⟨N, by simp (disch := first | assumption | omega) only [B_X11_tape_64, B_X11_tape_86, not_true_eq_false, not_false_eq_true, if_true, if_false, qlk, qtk, qif_t, qif_f, qbd_some, Option.toList_some, Option.toList_none, List.cons_append, List.nil_append, List.append_nil], fun _ _ => rfl, fun k a b => hz k a (by omega)⟩
  | d + 1, i, N, hi, hz => by
    have e1 : kadd (i : Int) 1 = ((i + 1 : Nat) : Int) := by rw [kadd_eq (by omega) (by omega)]; omega
    obtain ⟨N', q1, q2, q3⟩ := lX11_tape (s := s) x0 x6 hn d (i + 1) (qup N (76 + x) i 0) (by omega) (fun k a b => by
      by_cases c : k = i
      · rw [c, qup_self]
      · rw [qup_ne (by omega)]
        exact hz k a (by omega))
    refine ⟨N', ?_, fun a ha => by rw [q2 a ha, qup_row ha], q3⟩
    have k := B_X11_tape_70 (M := N) (x1 := x) (x2 := s) (x3 := n) (x4 := i) x0 x6 (qG75t x0 x6) (by omega) (by omega)
    rw [qG75 x0 x6, e1] at k
    rw [B_X11_tape_64, qif_f (by omega), k]
    exact q1
theorem lX12_tape {x s n : Int} (x0 : 0 ≤ x) (x6 : x < 6) : ∀ (d i : Nat) (N : qMem), i + d = 60 → (∀ k : Int, 0 ≤ k → k < i → N 128 (60 * x + k) = 0) →
    ∃ N', qlim C_X12_tape (69, [some (qA 82), some (qI x), some (qI s), some (qI n), some (qI i)], [], qH0 N) = some (some (qI 1), qH0 N') ∧ (∀ a k : Int, ¬ (a = 128 ∧ 60 * x ≤ k ∧ k < 60 * x + 60) → N' a k = N a k) ∧ (∀ k : Int, 0 ≤ k → k < 60 → N' 128 (60 * x + k) = 0)
  | 0, i, N, hi, hz => ⟨N, by simp (disch := first | assumption | omega) only [B_X12_tape_69, B_X12_tape_95, not_true_eq_false, not_false_eq_true, if_true, if_false, qlk, qtk, qif_t, qif_f, qbd_some, Option.toList_some, Option.toList_none, List.cons_append, List.nil_append, List.append_nil], fun _ _ _ => rfl, fun k a b => hz k a (by omega)⟩
  | d + 1, i, N, hi, hz => by
    have e1 : kadd (i : Int) 1 = ((i + 1 : Nat) : Int) := by rw [kadd_eq (by omega) (by omega)]; omega
    have e2 : kadd (kmul 60 x) i = 60 * x + i := by rw [kmul_eq (by omega) (by omega), kadd_eq (by omega) (by omega)]
    obtain ⟨N', q1, q2, q3⟩ := lX12_tape (s := s) (n := n) x0 x6 d (i + 1) (qup N 128 (60 * x + i) 0) (by omega) (fun k a b => by
      by_cases c : k = i
      · rw [c, qup_self]
      · rw [qup_ne (by omega)]
        exact hz k a (by omega))
    refine ⟨N', ?_, fun a k ha => by rw [q2 a k ha, qup_ne (by omega)], q3⟩
    rw [B_X12_tape_69, qif_f (by omega), B_X12_tape_76 (by rw [e2]; omega) (by rw [e2]; omega), e2, e1]
    exact q1
theorem step_tape {M : qMem} {x s n : Int} (h : qInv M) : qStep S_X11_tape S_X12_tape [qI x, qI s, qI n] M := by
  have T := iTps h
  by_cases c : 0 ≤ x ∧ x < 6
  · have x0 := c.1
    have x6 := c.2
    have P1 := sX11_isTape_y (M := M) c
    by_cases cm : s = -1
    · subst cm
      have st1 : S_X11_tape [qA 0, qI x, qI (-1), qI n] (qH0 M) = some (some (qI 1), qH0 (qup M 73 x (-1))) := by
        rw [E_X11_tape]
        simp (disch := first | assumption | omega) only [B_X11_tape_0, B_X11_tape_4, B_X11_tape_9, B_X11_tape_14, not_true_eq_false, not_false_eq_true, if_true, if_false, qlk, qtk, qif_t, qif_f, qbd_some, Option.toList_some, Option.toList_none, List.cons_append, List.nil_append, List.append_nil, P1, Int.reduceNeg]
      have P2 := sX12_isTape_y (M := qup M 73 x (-1)) c
      have a2 := sX12_in_y (M := qup M 73 x (-1)) (a := -1) (b := -1) (c := 4) (by omega)
      obtain ⟨V, q1, q2, q3⟩ := lX12_tape (s := -1) (n := n) x0 x6 60 0 (qup (qup (qup M 73 x (-1)) 126 x (-1)) 127 x 0) (by omega) (fun k a b => by omega)
      have st2 : S_X12_tape [qA 82, qI x, qI (-1), qI n] (qH0 (qup M 73 x (-1))) = some (some (qI 1), qH0 V) := by
        rw [← q1, E_X12_tape]
        simp (disch := first | assumption | omega) only [B_X12_tape_0, B_X12_tape_5, B_X12_tape_10, B_X12_tape_17, B_X12_tape_20, B_X12_tape_33, B_X12_tape_44, B_X12_tape_60, B_X12_tape_65, not_true_eq_false, not_false_eq_true, if_true, if_false, qlk, qtk, qif_t, qif_f, qbd_some, Option.toList_some, Option.toList_none, List.cons_append, List.nil_append, List.append_nil, P2, a2, Int.reduceNeg]
        rfl
      have r : ∀ a k : Int, ¬ (a = 128 ∧ 60 * x ≤ k ∧ k < 60 * x + 60) → ¬ (a = 73 ∧ k = x) → ¬ (a = 126 ∧ k = x) → ¬ (a = 127 ∧ k = x) → V a k = M a k := fun a k c1 c2 c3 c4 => by rw [q2 a k c1, qup_ne c4, qup_ne c3, qup_ne c2]
      have r73 : V 73 x = -1 := by rw [q2 _ _ (by omega), qup_ne (by omega), qup_ne (by omega), qup_self]
      have r126 : V 126 x = -1 := by rw [q2 _ _ (by omega), qup_ne (by omega), qup_self]
      refine ⟨qI 1, _, V, st1, st2, qInv_tps h (fun a k q => r a k (by unfold Etp at q; omega) (by unfold Etp at q; omega) (by unfold Etp at q; omega) (by unfold Etp at q; omega)) ?_⟩
      intro y y0 y6
      by_cases cy : y = x
      · subst cy
        exact ⟨by rw [r126, r73], by omega, fun q => by omega⟩
      · have Y := T y y0 y6
        rw [r 126 y (by omega) (by omega) (by omega) (by omega), r 73 y (by omega) (by omega) (by omega) (by omega), r 127 y (by omega) (by omega) (by omega) (by omega), r 74 y (by omega) (by omega) (by omega) (by omega)]
        refine ⟨Y.1, Y.2.1, fun q => ⟨(Y.2.2 q).1, (Y.2.2 q).2.1, fun k k0 k1 => ?_⟩⟩
        have Y60 := (Y.2.2 q).2.1
        rw [r 128 _ (by omega) (by omega) (by omega) (by omega), r (76 + y) k (by omega) (by omega) (by omega) (by omega)]
        exact (Y.2.2 q).2.2 k k0 k1
    · by_cases cs : 0 ≤ s ∧ s ≤ 4
      · have a1 := sX11_isIn_y (M := M) cs
        have b2 := fun N : qMem => sX12_in_y (M := N) (a := s) (b := -1) (c := 4) (by omega)
        by_cases cn : n ≤ 60
        · by_cases cn0 : 0 ≤ n
          · obtain ⟨Q, w1, w2, w3⟩ := lX11_tape (s := s) x0 x6 cn n.toNat 0 (qup (qup M 73 x s) 74 x n) (by omega) (fun k a b => by omega)
            have st1 : S_X11_tape [qA 0, qI x, qI s, qI n] (qH0 M) = some (some (qI 1), qH0 Q) := by
              rw [← w1, E_X11_tape]
              simp (disch := first | assumption | omega) only [B_X11_tape_0, B_X11_tape_4, B_X11_tape_9, B_X11_tape_23, B_X11_tape_28, B_X11_tape_31, B_X11_tape_40, B_X11_tape_47, not_true_eq_false, not_false_eq_true, if_true, if_false, qlk, qtk, qif_t, qif_f, qbd_some, Option.toList_some, Option.toList_none, List.cons_append, List.nil_append, List.append_nil, P1, a1]
              rfl
            have P2 := sX12_isTape_y (M := Q) c
            obtain ⟨V, q1, q2, q3⟩ := lX12_tape (s := s) (n := n) x0 x6 60 0 (qup (qup Q 126 x s) 127 x n) (by omega) (fun k a b => by omega)
            have st2 : S_X12_tape [qA 82, qI x, qI s, qI n] (qH0 Q) = some (some (qI 1), qH0 V) := by
              have b2' := b2 Q
              rw [← q1, E_X12_tape]
              simp (disch := first | assumption | omega) only [B_X12_tape_0, B_X12_tape_5, B_X12_tape_10, B_X12_tape_17, B_X12_tape_20, B_X12_tape_24, B_X12_tape_33, B_X12_tape_37, B_X12_tape_44, B_X12_tape_64, B_X12_tape_65, not_true_eq_false, not_false_eq_true, if_true, if_false, qlk, qtk, qif_t, qif_f, qbd_some, Option.toList_some, Option.toList_none, List.cons_append, List.nil_append, List.append_nil, P2, b2']
              rfl
            have r : ∀ a k : Int, ¬ a = 76 + x → ¬ (a = 128 ∧ 60 * x ≤ k ∧ k < 60 * x + 60) → ¬ (a = 73 ∧ k = x) → ¬ (a = 74 ∧ k = x) → ¬ (a = 126 ∧ k = x) → ¬ (a = 127 ∧ k = x) → V a k = M a k := fun a k c0 c1 c2 c3 c4 c5 => by rw [q2 a k c1, qup_ne c5, qup_ne c4, w2 a c0, qup_ne c3, qup_ne c2]
            have r73 : V 73 x = s := by rw [q2 _ _ (by omega), qup_ne (by omega), qup_ne (by omega), w2 73 (by omega), qup_ne (by omega), qup_self]
            have r74 : V 74 x = n := by rw [q2 _ _ (by omega), qup_ne (by omega), qup_ne (by omega), w2 74 (by omega), qup_self]
            have r126 : V 126 x = s := by rw [q2 _ _ (by omega), qup_ne (by omega), qup_self]
            have r127 : V 127 x = n := by rw [q2 _ _ (by omega), qup_self]
            refine ⟨qI 1, Q, V, st1, st2, qInv_tps h (fun a k q => r a k (by unfold Etp at q; omega) (by unfold Etp at q; omega) (by unfold Etp at q; omega) (by unfold Etp at q; omega) (by unfold Etp at q; omega) (by unfold Etp at q; omega)) ?_⟩
            intro y y0 y6
            by_cases cy : y = x
            · subst cy
              refine ⟨by rw [r126, r73], by omega, fun q => ⟨by rw [r127, r74], by omega, fun k k0 k1 => ?_⟩⟩
              rw [q3 k k0 (by omega), q2 _ _ (by omega), qup_ne (by omega), qup_ne (by omega), w3 k k0 (by omega)]
            · have Y := T y y0 y6
              rw [r 126 y (by omega) (by omega) (by omega) (by omega) (by omega) (by omega), r 73 y (by omega) (by omega) (by omega) (by omega) (by omega) (by omega), r 127 y (by omega) (by omega) (by omega) (by omega) (by omega) (by omega), r 74 y (by omega) (by omega) (by omega) (by omega) (by omega) (by omega)]
              refine ⟨Y.1, Y.2.1, fun q => ⟨(Y.2.2 q).1, (Y.2.2 q).2.1, fun k k0 k1 => ?_⟩⟩
              have Y60 := (Y.2.2 q).2.1
              rw [r 128 _ (by omega) (by omega) (by omega) (by omega) (by omega) (by omega), r (76 + y) k (by omega) (by omega) (by omega) (by omega) (by omega) (by omega)]
              exact (Y.2.2 q).2.2 k k0 k1
          · have P2 := sX12_isTape_y (M := M) c
            have b2' := b2 M
            refine qStep_r (v := qI (-14)) h ?_ ?_
            · rw [E_X11_tape]
              simp (disch := first | assumption | omega) only [B_X11_tape_0, B_X11_tape_4, B_X11_tape_9, B_X11_tape_23, B_X11_tape_28, B_X11_tape_31, B_X11_tape_40, B_X11_tape_44, not_true_eq_false, not_false_eq_true, if_true, if_false, qlk, qtk, qif_t, qif_f, qbd_some, Option.toList_some, Option.toList_none, List.cons_append, List.nil_append, List.append_nil, P1, a1]
            · rw [E_X12_tape]
              simp (disch := first | assumption | omega) only [B_X12_tape_0, B_X12_tape_5, B_X12_tape_10, B_X12_tape_17, B_X12_tape_20, B_X12_tape_24, B_X12_tape_33, B_X12_tape_37, B_X12_tape_41, not_true_eq_false, not_false_eq_true, if_true, if_false, qlk, qtk, qif_t, qif_f, qbd_some, Option.toList_some, Option.toList_none, List.cons_append, List.nil_append, List.append_nil, P2, b2']
        · have P2 := sX12_isTape_y (M := M) c
          have b2' := b2 M
          refine qStep_r (v := qI (-2)) h ?_ ?_
          · rw [E_X11_tape]
            simp (disch := first | assumption | omega) only [B_X11_tape_0, B_X11_tape_4, B_X11_tape_9, B_X11_tape_23, B_X11_tape_28, B_X11_tape_31, B_X11_tape_37, not_true_eq_false, not_false_eq_true, if_true, if_false, qlk, qtk, qif_t, qif_f, qbd_some, Option.toList_some, Option.toList_none, List.cons_append, List.nil_append, List.append_nil, P1, a1]
          · rw [E_X12_tape]
            simp (disch := first | assumption | omega) only [B_X12_tape_0, B_X12_tape_5, B_X12_tape_10, B_X12_tape_17, B_X12_tape_20, B_X12_tape_24, B_X12_tape_30, not_true_eq_false, not_false_eq_true, if_true, if_false, qlk, qtk, qif_t, qif_f, qbd_some, Option.toList_some, Option.toList_none, List.cons_append, List.nil_append, List.append_nil, P2, b2']
      · have a1 := sX11_isIn_n (M := M) cs
        have P2 := sX12_isTape_y (M := M) c
        have b2' := sX12_in_n (M := M) (a := s) (b := -1) (c := 4) (by omega)
        refine qStep_r (v := qI (-2)) h ?_ ?_
        · rw [E_X11_tape]
          simp (disch := first | assumption | omega) only [B_X11_tape_0, B_X11_tape_4, B_X11_tape_9, B_X11_tape_23, B_X11_tape_28, B_X11_tape_37, not_true_eq_false, not_false_eq_true, if_true, if_false, qlk, qtk, qif_t, qif_f, qbd_some, Option.toList_some, Option.toList_none, List.cons_append, List.nil_append, List.append_nil, P1, a1]
        · rw [E_X12_tape]
          simp (disch := first | assumption | omega) only [B_X12_tape_0, B_X12_tape_5, B_X12_tape_10, B_X12_tape_17, B_X12_tape_30, not_true_eq_false, not_false_eq_true, if_true, if_false, qlk, qtk, qif_t, qif_f, qbd_some, Option.toList_some, Option.toList_none, List.cons_append, List.nil_append, List.append_nil, P2, b2']
  · have P1 := sX11_isTape_n (M := M) c
    have P2 := sX12_isTape_n (M := M) c
    refine qStep_r (v := qI (-1)) h ?_ ?_
    · rw [E_X11_tape]
      simp (disch := first | assumption | omega) only [B_X11_tape_0, B_X11_tape_4, B_X11_tape_7, not_true_eq_false, not_false_eq_true, if_true, if_false, qlk, qtk, qif_t, qif_f, qbd_some, Option.toList_some, Option.toList_none, List.cons_append, List.nil_append, List.append_nil, P1]
    · rw [E_X12_tape]
      simp (disch := first | assumption | omega) only [B_X12_tape_0, B_X12_tape_5, B_X12_tape_8, not_true_eq_false, not_false_eq_true, if_true, if_false, qlk, qtk, qif_t, qif_f, qbd_some, Option.toList_some, Option.toList_none, List.cons_append, List.nil_append, List.append_nil, P2]
