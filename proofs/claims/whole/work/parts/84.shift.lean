/-! shift -/
theorem lX12_aside {x i y j n : Int} (x0 : 0 ≤ x) (x6 : x < 6) (i0 : 0 ≤ i) (hin : i + n ≤ 60) : ∀ (d k : Nat) (N : qMem), ((k + d : Nat) : Int) = n → ∃ N', qlim C_X12_shift (104, [some (qA 82), some (qI x), some (qI i), some (qI y), some (qI j), some (qI n), some (qI k)], [], qH0 N) = qlim C_X12_shift (141, [some (qA 82), some (qI x), some (qI i), some (qI y), some (qI j), some (qI n), some (qI 0)], [], qH0 N') ∧
      (∀ a : Int, ¬ a = 129 → N' a = N a) ∧ (∀ m : Int, (k : Int) ≤ m → m < n → N' 129 m = N 128 (60 * x + i + m)) ∧ (∀ m : Int, m < (k : Int) → N' 129 m = N 129 m)
  | 0, k, N, hk => ⟨N, by rw [B_X12_shift_104, qif_t (by omega), B_X12_shift_138], fun _ _ => rfl, fun m a b => by omega, fun m _ => rfl⟩
  | d + 1, k, N, hk => by
    have e1 : kadd (k : Int) 1 = ((k + 1 : Nat) : Int) := by rw [kadd_eq (by omega) (by omega)]; omega
    have e2 : kadd (kadd (kmul 60 x) i) k = 60 * x + i + k := by rw [kmul_eq (by omega) (by omega), kadd_eq (a := 60 * x) (by omega) (by omega), kadd_eq (by omega) (by omega)]
    obtain ⟨N', q1, q2, q3, q4⟩ := lX12_aside (y := y) (j := j) x0 x6 i0 hin d (k + 1) (qup N 129 k (N 128 (60 * x + i + k))) (by omega)
    refine ⟨N', ?_, fun a ha => by rw [q2 a ha, qup_row ha], fun m a b => ?_, fun m a => by rw [q4 m (by omega), qup_ne (by omega)]⟩
    · rw [B_X12_shift_104, qif_f (by omega), B_X12_shift_111 (by rw [e2]; omega) (by rw [e2]; omega) (by omega) (by omega), e2, e1]
      exact q1
    · by_cases c : m = k
      · rw [c, q4 _ (by omega), qup_self]
      · rw [q3 m (by omega) b, qup_ne (by omega)]
theorem lX12_back {x i y j n : Int} (y0 : 0 ≤ y) (y6 : y < 6) (j0 : 0 ≤ j) (hjn : j + n ≤ 60) : ∀ (d k : Nat) (N : qMem), ((k + d : Nat) : Int) = n → ∃ N', qlim C_X12_shift (141, [some (qA 82), some (qI x), some (qI i), some (qI y), some (qI j), some (qI n), some (qI k)], [], qH0 N) = some (some (qI n), qH0 N') ∧
      (∀ a m : Int, ¬ (a = 128 ∧ 60 * y + j + k ≤ m ∧ m < 60 * y + j + n) → N' a m = N a m) ∧ (∀ m : Int, (k : Int) ≤ m → m < n → N' 128 (60 * y + j + m) = N 129 m)
  | 0, k, N, hk => ⟨N, by rw [B_X12_shift_141, qif_t (by omega), B_X12_shift_176], fun _ _ _ => rfl, fun m a b => by omega⟩
  | d + 1, k, N, hk => by
    have e1 : kadd (k : Int) 1 = ((k + 1 : Nat) : Int) := by rw [kadd_eq (by omega) (by omega)]; omega
    have e2 : kadd (kadd (kmul 60 y) j) k = 60 * y + j + k := by rw [kmul_eq (by omega) (by omega), kadd_eq (a := 60 * y) (by omega) (by omega), kadd_eq (by omega) (by omega)]
    obtain ⟨N', q1, q2, q3⟩ := lX12_back (x := x) (i := i) y0 y6 j0 hjn d (k + 1) (qup N 128 (60 * y + j + k) (N 129 k)) (by omega)
    refine ⟨N', ?_, fun a m ha => by rw [q2 a m (by omega), qup_ne (by omega)], fun m a b => ?_⟩
    · rw [B_X12_shift_141, qif_f (by omega), B_X12_shift_148 (by omega) (by omega) (by rw [e2]; omega) (by rw [e2]; omega), e2, e1]
      exact q1
    · by_cases c : m = k
      · rw [c, q2 _ _ (by omega), qup_self]
      · rw [q3 m (by omega) b, qup_ne (by omega)]
theorem step_shift {M : qMem} {x i y j n : Int} (h : qInv M) (hi : i ≤ 2147483647) (hj : j ≤ 2147483647) (hn : n ≤ 2147483647) : qStep S_X11_shift S_X12_shift [qI x, qI i, qI y, qI j, qI n] M := by
  have T := iTps h
  by_cases c : 0 ≤ x ∧ x < 6
  · have x0 := c.1
    have x6 := c.2
    have P1 := sX11_isTape_y (M := M) c
    by_cases c' : 0 ≤ y ∧ y < 6
    · have y0 := c'.1
      have y6 := c'.2
      have P1' := sX11_isTape_y (M := M) c'
      obtain ⟨t1, t2, t3⟩ := T x c.1 c.2
      obtain ⟨t1', t2', t3'⟩ := T y c'.1 c'.2
      by_cases d : 0 ≤ M 73 x ∧ 0 ≤ M 73 y
      · have d1 := d.1
        have d2 := d.2
        obtain ⟨u1, u2, u3⟩ := t3 d.1
        obtain ⟨u1', u2', u3'⟩ := t3' d.2
        have P2 := sX12_isTape_y (M := M) c
        have P2' := sX12_isTape_y (M := M) c'
        by_cases ds : M 73 x = M 73 y
        · have ds' : M 126 x = M 126 y := by omega
          by_cases g : (0 ≤ n ∧ 0 ≤ i ∧ 0 ≤ j) ∧ i + n ≤ M 74 x ∧ j + n ≤ M 74 y
          · obtain ⟨⟨n0, i0, j0⟩, g1, g2⟩ := g
            have e1 : ksub (M 74 x) i = M 74 x - i := ksub_eq (by omega) (by omega)
            have e2 : ksub (M 74 y) j = M 74 y - j := ksub_eq (by omega) (by omega)
            have k1 := B_X11_shift_101 (M := M) (x1 := x) (x2 := i) (x3 := y) (x4 := j) (x5 := n) x0 x6 y0 y6 (qG75t x0 x6) (qG75t y0 y6) i0 j0 n0 (by omega) (by omega)
            rw [qG75 x0 x6, qG75 y0 y6] at k1
            obtain ⟨Q, hQ⟩ : ∃ Q : qMem, Q = qcp M (76 + x) i (76 + y) j n := ⟨_, rfl⟩
            rw [← hQ] at k1
            have st1 : S_X11_shift [qA 0, qI x, qI i, qI y, qI j, qI n] (qH0 M) = some (some (qI n), qH0 Q) := by
              rw [← k1, E_X11_shift]
              simp (disch := first | assumption | omega) only [B_X11_shift_0, B_X11_shift_4, B_X11_shift_7, B_X11_shift_11, B_X11_shift_16, B_X11_shift_26, B_X11_shift_39, B_X11_shift_57, B_X11_shift_62, B_X11_shift_66, B_X11_shift_71, B_X11_shift_84, not_true_eq_false, not_false_eq_true, if_true, if_false, qlk, qtk, qif_t, qif_f, qbd_some, Option.toList_some, Option.toList_none, List.cons_append, List.nil_append, List.append_nil, P1, P1', e1, e2]
            have r : ∀ a k : Int, ¬ (a = 76 + y ∧ j ≤ k ∧ k < j + n) → Q a k = M a k := fun a k ha => by rw [hQ, qcp_out ha]
            have rd : ∀ m : Int, 0 ≤ m → m < n → Q (76 + y) (j + m) = M (76 + x) (i + m) := fun m a b => by
              rw [hQ]
              unfold qcp
              rw [if_pos (by omega)]
              congr 1
              omega
            obtain ⟨W, w1, w2, w3, w4⟩ := lX12_aside (y := y) (j := j) (n := n) x0 x6 i0 (by omega) n.toNat 0 Q (by omega)
            obtain ⟨V, v1, v2, v3⟩ := lX12_back (x := x) (i := i) (n := n) y0 y6 j0 (by omega) n.toNat 0 W (by omega)
            have st2 : S_X12_shift [qA 82, qI x, qI i, qI y, qI j, qI n] (qH0 Q) = some (some (qI n), qH0 V) := by
              have P3 := sX12_isTape_y (M := Q) c
              have P3' := sX12_isTape_y (M := Q) c'
              have f1 : Q 126 x = M 73 x := by rw [r _ _ (by omega), t1]
              have f2 : Q 126 y = M 73 y := by rw [r _ _ (by omega), t1']
              have f3 : ksub (Q 127 x) n = M 74 x - n := by rw [r _ _ (by omega), u1, ksub_eq (by omega) (by omega)]
              have f4 : ksub (Q 127 y) n = M 74 y - n := by rw [r _ _ (by omega), u1', ksub_eq (by omega) (by omega)]
              have z0 : ((0 : Nat) : Int) = 0 := rfl
              rw [z0] at w1 v1
              rw [← v1, ← w1, E_X12_shift]
              simp (disch := first | assumption | omega) only [B_X12_shift_0, B_X12_shift_5, B_X12_shift_8, B_X12_shift_13, B_X12_shift_18, B_X12_shift_27, B_X12_shift_39, B_X12_shift_57, B_X12_shift_62, B_X12_shift_66, B_X12_shift_71, B_X12_shift_84, B_X12_shift_101, not_true_eq_false, not_false_eq_true, if_true, if_false, qlk, qtk, qif_t, qif_f, qbd_some, Option.toList_some, Option.toList_none, List.cons_append, List.nil_append, List.append_nil, P3, P3', f1, f2, f3, f4]
            have rV : ∀ a k : Int, ¬ (a = 76 + y ∧ j ≤ k ∧ k < j + n) → ¬ a = 129 → ¬ (a = 128 ∧ 60 * y + j ≤ k ∧ k < 60 * y + j + n) → V a k = M a k := fun a k c1 c2 c3 => by rw [v2 a k (by omega), w2 a c2, r a k c1]
            refine ⟨qI n, Q, V, st1, st2, qInv_tps h (fun a k q => rV a k (by unfold Etp at q; omega) (by unfold Etp at q; omega) (by unfold Etp at q; omega)) ?_⟩
            intro z z0 z6
            have Z := T z z0 z6
            rw [rV 126 z (by omega) (by omega) (by omega), rV 73 z (by omega) (by omega) (by omega), rV 127 z (by omega) (by omega) (by omega), rV 74 z (by omega) (by omega) (by omega)]
            refine ⟨Z.1, Z.2.1, fun q => ⟨(Z.2.2 q).1, (Z.2.2 q).2.1, fun k k0 k1' => ?_⟩⟩
            have Z60 := (Z.2.2 q).2.1
            have Zk := (Z.2.2 q).2.2 k k0 k1'
            by_cases cz : z = y ∧ j ≤ k ∧ k < j + n
            · obtain ⟨rfl, z1, z2⟩ := cz
              have m0 : k = j + (k - j) := by omega
              have b1 : V 128 (60 * z + k) = W 129 (k - j) := by
                have q := v3 (k - j) (by omega) (by omega)
                have e : 60 * z + j + (k - j) = 60 * z + k := by omega
                rw [e] at q
                exact q
              have b2 : W 129 (k - j) = M 128 (60 * x + (i + (k - j))) := by
                rw [w3 (k - j) (by omega) (by omega), r _ _ (by omega)]
                congr 1
                omega
              have b3 : V (76 + z) k = Q (76 + z) k := by rw [v2 _ _ (by omega), w2 _ (by omega)]
              have b4 : Q (76 + z) k = M (76 + x) (i + (k - j)) := by
                have q := rd (k - j) (by omega) (by omega)
                have e : j + (k - j) = k := by omega
                rw [e] at q
                exact q
              rw [b1, b2, b3, b4]
              exact u3 _ (by omega) (by omega)
            · rw [rV 128 _ (by omega) (by omega) (by omega), rV (76 + z) k (by omega) (by omega) (by omega)]
              exact Zk
          · have run1 : S_X11_shift [qA 0, qI x, qI i, qI y, qI j, qI n] (qH0 M) = qlim C_X11_shift (57, [some (qA 0), some (qI x), some (qI i), some (qI y), some (qI j), some (qI n)], [], qH0 M) := by
              rw [E_X11_shift]
              simp (disch := first | assumption | omega) only [B_X11_shift_0, B_X11_shift_4, B_X11_shift_7, B_X11_shift_11, B_X11_shift_16, B_X11_shift_26, B_X11_shift_39, not_true_eq_false, not_false_eq_true, if_true, if_false, qlk, qtk, qif_t, qif_f, qbd_some, Option.toList_some, Option.toList_none, List.cons_append, List.nil_append, List.append_nil, P1, P1']
            have run2 : S_X12_shift [qA 82, qI x, qI i, qI y, qI j, qI n] (qH0 M) = qlim C_X12_shift (57, [some (qA 82), some (qI x), some (qI i), some (qI y), some (qI j), some (qI n), none], [], qH0 M) := by
              rw [E_X12_shift]
              simp (disch := first | assumption | omega) only [B_X12_shift_0, B_X12_shift_5, B_X12_shift_8, B_X12_shift_13, B_X12_shift_18, B_X12_shift_27, B_X12_shift_39, not_true_eq_false, not_false_eq_true, if_true, if_false, qlk, qtk, qif_t, qif_f, qbd_some, Option.toList_some, Option.toList_none, List.cons_append, List.nil_append, List.append_nil, P2, P2']
            refine qStep_r (v := qI (-13)) h ?_ ?_
            · rw [run1]
              by_cases g1 : n < 0
              · simp (disch := first | assumption | omega) only [B_X11_shift_57, B_X11_shift_98, not_true_eq_false, not_false_eq_true, if_true, if_false, qlk, qtk, qif_t, qif_f, qbd_some, Option.toList_some, Option.toList_none, List.cons_append, List.nil_append, List.append_nil]
              · by_cases g2 : i < 0
                · simp (disch := first | assumption | omega) only [B_X11_shift_57, B_X11_shift_62, B_X11_shift_98, not_true_eq_false, not_false_eq_true, if_true, if_false, qlk, qtk, qif_t, qif_f, qbd_some, Option.toList_some, Option.toList_none, List.cons_append, List.nil_append, List.append_nil]
                · by_cases g3 : j < 0
                  · simp (disch := first | assumption | omega) only [B_X11_shift_57, B_X11_shift_62, B_X11_shift_66, B_X11_shift_98, not_true_eq_false, not_false_eq_true, if_true, if_false, qlk, qtk, qif_t, qif_f, qbd_some, Option.toList_some, Option.toList_none, List.cons_append, List.nil_append, List.append_nil]
                  · have e1 : ksub (M 74 x) i = M 74 x - i := ksub_eq (by omega) (by omega)
                    have e2 : ksub (M 74 y) j = M 74 y - j := ksub_eq (by omega) (by omega)
                    by_cases g4 : M 74 x - i < n
                    · simp (disch := first | assumption | omega) only [B_X11_shift_57, B_X11_shift_62, B_X11_shift_66, B_X11_shift_71, B_X11_shift_98, not_true_eq_false, not_false_eq_true, if_true, if_false, qlk, qtk, qif_t, qif_f, qbd_some, Option.toList_some, Option.toList_none, List.cons_append, List.nil_append, List.append_nil, e1, e2]
                    · simp (disch := first | assumption | omega) only [B_X11_shift_57, B_X11_shift_62, B_X11_shift_66, B_X11_shift_71, B_X11_shift_84, B_X11_shift_98, not_true_eq_false, not_false_eq_true, if_true, if_false, qlk, qtk, qif_t, qif_f, qbd_some, Option.toList_some, Option.toList_none, List.cons_append, List.nil_append, List.append_nil, e1, e2]
            · rw [run2]
              by_cases g1 : n < 0
              · simp (disch := first | assumption | omega) only [B_X12_shift_57, B_X12_shift_98, not_true_eq_false, not_false_eq_true, if_true, if_false, qlk, qtk, qif_t, qif_f, qbd_some, Option.toList_some, Option.toList_none, List.cons_append, List.nil_append, List.append_nil]
              · by_cases g2 : i < 0
                · simp (disch := first | assumption | omega) only [B_X12_shift_57, B_X12_shift_62, B_X12_shift_98, not_true_eq_false, not_false_eq_true, if_true, if_false, qlk, qtk, qif_t, qif_f, qbd_some, Option.toList_some, Option.toList_none, List.cons_append, List.nil_append, List.append_nil]
                · by_cases g3 : j < 0
                  · simp (disch := first | assumption | omega) only [B_X12_shift_57, B_X12_shift_62, B_X12_shift_66, B_X12_shift_98, not_true_eq_false, not_false_eq_true, if_true, if_false, qlk, qtk, qif_t, qif_f, qbd_some, Option.toList_some, Option.toList_none, List.cons_append, List.nil_append, List.append_nil]
                  · have e1 : ksub (M 127 x) n = M 74 x - n := by rw [u1, ksub_eq (by omega) (by omega)]
                    have e2 : ksub (M 127 y) n = M 74 y - n := by rw [u1', ksub_eq (by omega) (by omega)]
                    by_cases g4 : M 74 x - n < i
                    · simp (disch := first | assumption | omega) only [B_X12_shift_57, B_X12_shift_62, B_X12_shift_66, B_X12_shift_71, B_X12_shift_98, not_true_eq_false, not_false_eq_true, if_true, if_false, qlk, qtk, qif_t, qif_f, qbd_some, Option.toList_some, Option.toList_none, List.cons_append, List.nil_append, List.append_nil, e1, e2]
                    · simp (disch := first | assumption | omega) only [B_X12_shift_57, B_X12_shift_62, B_X12_shift_66, B_X12_shift_71, B_X12_shift_84, B_X12_shift_98, not_true_eq_false, not_false_eq_true, if_true, if_false, qlk, qtk, qif_t, qif_f, qbd_some, Option.toList_some, Option.toList_none, List.cons_append, List.nil_append, List.append_nil, e1, e2]
        · have ds' : ¬ M 126 x = M 126 y := by omega
          refine qStep_r (v := qI (-12)) h ?_ ?_
          · rw [E_X11_shift]
            simp (disch := first | assumption | omega) only [B_X11_shift_0, B_X11_shift_4, B_X11_shift_7, B_X11_shift_11, B_X11_shift_16, B_X11_shift_26, B_X11_shift_39, B_X11_shift_54, not_true_eq_false, not_false_eq_true, if_true, if_false, qlk, qtk, qif_t, qif_f, qbd_some, Option.toList_some, Option.toList_none, List.cons_append, List.nil_append, List.append_nil, P1, P1']
          · rw [E_X12_shift]
            simp (disch := first | assumption | omega) only [B_X12_shift_0, B_X12_shift_5, B_X12_shift_8, B_X12_shift_13, B_X12_shift_18, B_X12_shift_27, B_X12_shift_39, B_X12_shift_54, not_true_eq_false, not_false_eq_true, if_true, if_false, qlk, qtk, qif_t, qif_f, qbd_some, Option.toList_some, Option.toList_none, List.cons_append, List.nil_append, List.append_nil, P2, P2']
      · have P2 := sX12_isTape_y (M := M) c
        have P2' := sX12_isTape_y (M := M) c'
        refine qStep_r (v := qI (-11)) h ?_ ?_
        · rw [E_X11_shift]
          by_cases d1 : 0 ≤ M 73 x
          · simp (disch := first | assumption | omega) only [B_X11_shift_0, B_X11_shift_4, B_X11_shift_7, B_X11_shift_11, B_X11_shift_16, B_X11_shift_26, B_X11_shift_36, not_true_eq_false, not_false_eq_true, if_true, if_false, qlk, qtk, qif_t, qif_f, qbd_some, Option.toList_some, Option.toList_none, List.cons_append, List.nil_append, List.append_nil, P1, P1']
          · simp (disch := first | assumption | omega) only [B_X11_shift_0, B_X11_shift_4, B_X11_shift_7, B_X11_shift_11, B_X11_shift_16, B_X11_shift_36, not_true_eq_false, not_false_eq_true, if_true, if_false, qlk, qtk, qif_t, qif_f, qbd_some, Option.toList_some, Option.toList_none, List.cons_append, List.nil_append, List.append_nil, P1, P1']
        · rw [E_X12_shift]
          by_cases d1 : 0 ≤ M 73 x
          · simp (disch := first | assumption | omega) only [B_X12_shift_0, B_X12_shift_5, B_X12_shift_8, B_X12_shift_13, B_X12_shift_18, B_X12_shift_27, B_X12_shift_36, not_true_eq_false, not_false_eq_true, if_true, if_false, qlk, qtk, qif_t, qif_f, qbd_some, Option.toList_some, Option.toList_none, List.cons_append, List.nil_append, List.append_nil, P2, P2']
          · simp (disch := first | assumption | omega) only [B_X12_shift_0, B_X12_shift_5, B_X12_shift_8, B_X12_shift_13, B_X12_shift_18, B_X12_shift_36, not_true_eq_false, not_false_eq_true, if_true, if_false, qlk, qtk, qif_t, qif_f, qbd_some, Option.toList_some, Option.toList_none, List.cons_append, List.nil_append, List.append_nil, P2, P2']
    · have P1' := sX11_isTape_n (M := M) c'
      have P2 := sX12_isTape_y (M := M) c
      have P2' := sX12_isTape_n (M := M) c'
      refine qStep_r (v := qI (-1)) h ?_ ?_
      · rw [E_X11_shift]
        simp (disch := first | assumption | omega) only [B_X11_shift_0, B_X11_shift_4, B_X11_shift_7, B_X11_shift_11, B_X11_shift_14, not_true_eq_false, not_false_eq_true, if_true, if_false, qlk, qtk, qif_t, qif_f, qbd_some, Option.toList_some, Option.toList_none, List.cons_append, List.nil_append, List.append_nil, P1, P1']
      · rw [E_X12_shift]
        simp (disch := first | assumption | omega) only [B_X12_shift_0, B_X12_shift_5, B_X12_shift_8, B_X12_shift_13, B_X12_shift_16, not_true_eq_false, not_false_eq_true, if_true, if_false, qlk, qtk, qif_t, qif_f, qbd_some, Option.toList_some, Option.toList_none, List.cons_append, List.nil_append, List.append_nil, P2, P2']
  · have P1 := sX11_isTape_n (M := M) c
    have P2 := sX12_isTape_n (M := M) c
    refine qStep_r (v := qI (-1)) h ?_ ?_
    · rw [E_X11_shift]
      simp (disch := first | assumption | omega) only [B_X11_shift_0, B_X11_shift_4, B_X11_shift_14, not_true_eq_false, not_false_eq_true, if_true, if_false, qlk, qtk, qif_t, qif_f, qbd_some, Option.toList_some, Option.toList_none, List.cons_append, List.nil_append, List.append_nil, P1]
    · rw [E_X12_shift]
      simp (disch := first | assumption | omega) only [B_X12_shift_0, B_X12_shift_5, B_X12_shift_16, not_true_eq_false, not_false_eq_true, if_true, if_false, qlk, qtk, qif_t, qif_f, qbd_some, Option.toList_some, Option.toList_none, List.cons_append, List.nil_append, List.append_nil, P2]
