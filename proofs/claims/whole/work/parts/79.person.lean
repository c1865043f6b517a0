/-! row, person, pass -/
theorem qSF_rows {M : qMem} {o k v : Int} (h : qSF M o) (hv : 0 ≤ v ∧ v ≤ 9) : qSF (qup M (o + 7) k v) o := by
  have g := qSF_g h
  have gc := g.1 7 (by omega) (by omega)
  have hh := qHI_row (M' := qup M (o + 7) k v) h.2.2.2.2.2.2 (qup_row gc.1) (qup_row gc.2)
  unfold qSF
  rw [qup_row (a' := o) (by omega), qup_row (a' := o + 2) (by omega), qup_row (a' := o + 3) (by omega), qup_row (a' := o + 4) (by omega), qup_row (a' := o + 8) (by omega)]
  refine ⟨h.1, h.2.1, h.2.2.1, h.2.2.2.1, h.2.2.2.2.1, fun q a b => ?_, hh⟩
  by_cases d : q = k
  · subst d
    rw [qup_self]
    exact hv
  · rw [qup_ne (by omega)]
    exact h.2.2.2.2.2.1 q a b
theorem qRS_rows {N B : qMem} {o p w : Int} (h : qRS N B o) (hF : qSF B o) : qRS (qup N 89 p w) (qup B (o + 7) p w) o := by
  have g := (qSF_g hF).1 7 (by omega) (by omega)
  have hS := qHS_rowA (B := qup B (o + 7) p w) (qHS_row (N := qup N 89 p w) h.2.2.2.2.2.1 (by rw [qup_row (by omega)]) (qup_row (by omega)) (qup_row (by omega)) (qup_row (by omega)) (qup_row (by omega)) (qup_row (by omega)) (qup_row (by omega))) (qup_row g.1) (qup_row g.2)
  unfold qRS
  rw [qup_row (a := 89) (a' := 82) (by omega), qup_row (a := o + 7) (a' := o) (by omega), qup_row (a := o + 7) (a' := B o 13) g.1]
  refine ⟨h.1, h.2.1, fun k a b => ?_, fun q a b => ?_, fun k a b => ?_, hS, h.2.2.2.2.2.2⟩
  · rw [qup_ne (a := 89) (by omega), qup_ne (a := o + 7) (by omega)]
    exact h.2.2.1 k a b
  · have hq := h.2.2.2.1 q a b
    rw [qup_ne (a := 89) (a' := 84) (by omega), qup_ne (a := 89) (a' := 85) (by omega), qup_ne (a := 89) (a' := 86) (by omega), qup_ne (a := 89) (a' := 87) (by omega), qup_ne (a := 89) (a' := 88) (by omega), qup_ne (a := o + 7) (a' := o + 2) (by omega), qup_ne (a := o + 7) (a' := o + 3) (by omega), qup_ne (a := o + 7) (a' := o + 4) (by omega), qup_ne (a := o + 7) (a' := o + 5) (by omega), qup_ne (a := o + 7) (a' := o + 6) (by omega), qup_ne (a := o + 7) (a' := o + 8) (by omega)]
    exact hq
  · by_cases c : k = p
    · subst c
      rw [qup_self, qup_self]
    · rw [qup_ne (by omega), qup_ne (by omega)]
      exact h.2.2.2.2.1 k a b
theorem step_row {M : qMem} {p i w : Int} (h : qInv M) : qStep S_X11_row S_X12_row [qI p, qI i, qI w] M := by
  have h6 := h.1.1.2.1
  have n0 := h.2.1.1.1.1
  by_cases c : 0 ≤ p ∧ p < M 12 10
  · have P1 := sX11_isPerson_y (M := M) c
    have p0 := c.1
    have p6 : p < 6 := by omega
    by_cases ci : 0 ≤ i ∧ i ≤ 3
    · by_cases cw : 0 ≤ w ∧ w ≤ 9
      · have e1 : M 84 p = M 14 p := (h.2.1.1.2.2.2.1 p c.1 p6).1
        have k1 : kadd (kmul p 4) i = 4 * p + i := by rw [kmul_eq (by omega) (by omega), kadd_eq (by omega) (by omega)]; omega
        have k2 : kadd (kmul 4 p) i = 4 * p + i := by rw [kmul_eq (by omega) (by omega), kadd_eq (by omega) (by omega)]
        by_cases ck : M 14 p = 6
        · have n1 : qNow (qup M 19 (4 * p + i) w) := ⟨qSF_rows (o := 12) h.1.1 cw, qSV_row h.1.2.1 (qup_ne (by omega)) (qup_ne (by omega)) (qup_row (by omega)) (qup_row (by omega)) (qup_row (by omega)), by rw [qup_ne (by omega)]; exact h.1.2.2.1, by rw [qup_ne (by omega)]; exact h.1.2.2.2.1, by rw [qup_ne (by omega)]; exact h.1.2.2.2.2⟩
          have m1 : qMN (qup M 19 (4 * p + i) w) M := qMN_n h.2.1 (qAg_up qAg_r (by unfold D2; omega))
          have r : qMN (qup (qup M 19 (4 * p + i) w) 89 (4 * p + i) w) (qup M 19 (4 * p + i) w) := ⟨qRS_rows (o := 12) m1.1 h.1.1, by rw [qup_ne (by omega)]; exact m1.2.1, by rw [qup_ne (by omega)]; exact m1.2.2.1, by rw [qup_ne (by omega)]; exact m1.2.2.2⟩
          have e : qup M 19 (4 * p + i) w 89 (4 * p + i) = M 19 (4 * p + i) := by rw [qup_ne (by omega)]; exact h.2.1.1.2.2.2.2.1 _ (by omega) (by omega)
          have e0 : qup M 19 (4 * p + i) w 82 0 = M 82 0 := qup_ne (by omega)
          have e84 : qup M 19 (4 * p + i) w 84 p = 6 := by rw [qup_ne (by omega), e1]; exact ck
          have P2 := sX12_isPerson_y (M := qup M 19 (4 * p + i) w) (a := p) (by omega) (by omega) (by omega)
          have z : qZ (qup (qup M 19 (4 * p + i) w) 89 (4 * p + i) w) 12 := by
            have zz := (iZ h).1
            intro q q1 q2
            have e10 : qup (qup M 19 (4 * p + i) w) 89 (4 * p + i) w 12 10 = M 12 10 := by rw [qup_ne (by omega), qup_ne (by omega)]
            have Z := zz q (by omega) q2
            refine ⟨?_, ?_, ?_, fun j j0 j1 => ?_⟩
            · rw [qup_ne (by omega), qup_ne (by omega)]
              exact Z.1
            · rw [qup_ne (by omega), qup_ne (by omega)]
              exact Z.2.1
            · rw [qup_ne (by omega), qup_ne (by omega)]
              exact Z.2.2.1
            · rw [qup_ne (by omega), qup_ne (by omega)]
              exact Z.2.2.2 j j0 j1
          refine ⟨qI (M 19 (4 * p + i)), qup M 19 (4 * p + i) w, qup (qup M 19 (4 * p + i) w) 89 (4 * p + i) w, ?_, ?_, qInv_edit n1 r (qAg_up qAg_r (by unfold D1; omega)) (qRest_z h.2.2 (qAg_up (qAg_up qAg_r (by unfold DZ; omega)) (by unfold DZ; omega)) (by rw [qup_ne (by omega), qup_ne (by omega)]; omega) z)⟩
          · have k := B_X11_row_47 (M := M) (x1 := p) (x2 := i) (x3 := w) (by rw [k1]; omega) (by rw [k1]; omega)
            rw [k1] at k
            rw [← k, E_X11_row]
            simp (disch := first | assumption | omega) only [B_X11_row_0, B_X11_row_5, B_X11_row_8, B_X11_row_13, B_X11_row_18, B_X11_row_24, B_X11_row_30, not_true_eq_false, not_false_eq_true, if_true, if_false, qlk, qtk, qif_t, qif_f, qbd_some, Option.toList_some, Option.toList_none, List.cons_append, List.nil_append, List.append_nil, P1, sX11_isIn_y, ck]
          · have k := B_X12_row_48 (M := qup M 19 (4 * p + i) w) (x1 := p) (x2 := i) (x3 := w) (by rw [k2]; omega) (by rw [k2]; omega)
            rw [k2, e] at k
            rw [← k, E_X12_row]
            simp (disch := first | assumption | omega) only [B_X12_row_0, B_X12_row_5, B_X12_row_8, B_X12_row_15, B_X12_row_20, B_X12_row_28, B_X12_row_34, not_true_eq_false, not_false_eq_true, if_true, if_false, qlk, qtk, qif_t, qif_f, qbd_some, Option.toList_some, Option.toList_none, List.cons_append, List.nil_append, List.append_nil, P2, sX12_in_y, e84]
        · have P2 := sX12_isPerson_y (M := M) (a := p) (by omega) (by omega) (by omega)
          have ck2 : ¬ M 84 p = 6 := by omega
          refine qStep_r (v := qI (-3)) h ?_ ?_
          · rw [E_X11_row]
            simp (disch := first | assumption | omega) only [B_X11_row_0, B_X11_row_5, B_X11_row_8, B_X11_row_13, B_X11_row_18, B_X11_row_24, B_X11_row_30, B_X11_row_44, not_true_eq_false, not_false_eq_true, if_true, if_false, qlk, qtk, qif_t, qif_f, qbd_some, Option.toList_some, Option.toList_none, List.cons_append, List.nil_append, List.append_nil, P1, sX11_isIn_y]
          · rw [E_X12_row]
            simp (disch := first | assumption | omega) only [B_X12_row_0, B_X12_row_5, B_X12_row_8, B_X12_row_15, B_X12_row_20, B_X12_row_28, B_X12_row_34, B_X12_row_45, not_true_eq_false, not_false_eq_true, if_true, if_false, qlk, qtk, qif_t, qif_f, qbd_some, Option.toList_some, Option.toList_none, List.cons_append, List.nil_append, List.append_nil, P2, sX12_in_y]
      · have P2 := sX12_isPerson_y (M := M) (a := p) (by omega) (by omega) (by omega)
        have a1 := sX11_isIn_n (M := M) cw
        have a2 := sX12_in_n (M := M) cw
        have b1 := sX11_isIn_y (M := M) ci
        have b2 := sX12_in_y (M := M) ci
        refine qStep_r (v := qI (-2)) h ?_ ?_
        · rw [E_X11_row]
          simp (disch := first | assumption | omega) only [B_X11_row_0, B_X11_row_5, B_X11_row_8, B_X11_row_13, B_X11_row_18, B_X11_row_24, B_X11_row_27, not_true_eq_false, not_false_eq_true, if_true, if_false, qlk, qtk, qif_t, qif_f, qbd_some, Option.toList_some, Option.toList_none, List.cons_append, List.nil_append, List.append_nil, P1, a1, b1]
        · rw [E_X12_row]
          simp (disch := first | assumption | omega) only [B_X12_row_0, B_X12_row_5, B_X12_row_8, B_X12_row_15, B_X12_row_20, B_X12_row_28, B_X12_row_31, not_true_eq_false, not_false_eq_true, if_true, if_false, qlk, qtk, qif_t, qif_f, qbd_some, Option.toList_some, Option.toList_none, List.cons_append, List.nil_append, List.append_nil, P2, a2, b2]
    · have P2 := sX12_isPerson_y (M := M) (a := p) (by omega) (by omega) (by omega)
      have b1 := sX11_isIn_n (M := M) ci
      have b2 := sX12_in_n (M := M) ci
      refine qStep_r (v := qI (-1)) h ?_ ?_
      · rw [E_X11_row]
        simp (disch := first | assumption | omega) only [B_X11_row_0, B_X11_row_5, B_X11_row_8, B_X11_row_13, B_X11_row_16, not_true_eq_false, not_false_eq_true, if_true, if_false, qlk, qtk, qif_t, qif_f, qbd_some, Option.toList_some, Option.toList_none, List.cons_append, List.nil_append, List.append_nil, P1, b1]
      · rw [E_X12_row]
        simp (disch := first | assumption | omega) only [B_X12_row_0, B_X12_row_5, B_X12_row_8, B_X12_row_15, B_X12_row_18, not_true_eq_false, not_false_eq_true, if_true, if_false, qlk, qtk, qif_t, qif_f, qbd_some, Option.toList_some, Option.toList_none, List.cons_append, List.nil_append, List.append_nil, P2, b2]
  · have P1 := sX11_isPerson_n (M := M) c
    have P2 := sX12_isPerson_n (M := M) (a := p) (by omega) (by omega) (by omega)
    refine qStep_r (v := qI (-1)) h ?_ ?_
    · simp (disch := first | assumption | omega) only [E_X11_row, B_X11_row_0, B_X11_row_5, B_X11_row_8, B_X11_row_13, B_X11_row_16, B_X11_row_18, B_X11_row_24, B_X11_row_27, B_X11_row_30, B_X11_row_44, B_X11_row_47, not_true_eq_false, not_false_eq_true, if_true, if_false, qlk, qtk, qif_t, qif_f, qbd_some, Option.toList_some, Option.toList_none, List.cons_append, List.nil_append, List.append_nil, P1]
    · simp (disch := first | assumption | omega) only [E_X12_row, B_X12_row_0, B_X12_row_5, B_X12_row_8, B_X12_row_15, B_X12_row_18, B_X12_row_20, B_X12_row_28, B_X12_row_31, B_X12_row_34, B_X12_row_45, B_X12_row_48, not_true_eq_false, not_false_eq_true, if_true, if_false, qlk, qtk, qif_t, qif_f, qbd_some, Option.toList_some, Option.toList_none, List.cons_append, List.nil_append, List.append_nil, P2]
/-! pass -/
theorem fPp_z {M : qMem} {o : Int} (ho : qSt o) {p : Int} : ∀ j : Nat, (j : Int) ≤ p → fPp M o j (o + 5) p = M (o + 5) p ∧ fPp M o j (o + 6) p = M (o + 6) p
  | 0, _ => ⟨rfl, rfl⟩
  | j + 1, hj => by
    have ih := fPp_z (M := M) ho j (p := p) (by omega)
    show (if M (o + 8) j = 0 then fWorks (fPp M o j) o j else fPp M o j) (o + 5) p = _ ∧ (if M (o + 8) j = 0 then fWorks (fPp M o j) o j else fPp M o j) (o + 6) p = _
    split
    · unfold fWorks
      split
      · rw [qup_ne (by omega), qup_ne (by omega), qup_ne (by omega), qup_ne (by omega), qup_ne (by omega), qup_ne (by omega)]
        exact ih
      · rw [qup_ne (by omega), qup_ne (by omega)]
        exact ih
    · exact ih
theorem fMin_z {M : qMem} {o p : Int} (ho : qSt o) (h0 : 0 ≤ M o 10) (hp : M o 10 ≤ p) : ∀ n : Nat, fMin M o n (o + 5) p = M (o + 5) p ∧ fMin M o n (o + 6) p = M (o + 6) p
  | 0 => ⟨rfl, rfl⟩
  | n + 1 => by
    have ih := fMin_z ho h0 hp n
    have e10 : fMin M o n o 10 = M o 10 := fMin_0 (by omega) n
    show fMi (fMin M o n) o (o + 5) p = _ ∧ fMi (fMin M o n) o (o + 6) p = _
    generalize fMin M o n = B at ih e10
    have z := fPp_z (M := B) ho (B o 10).toNat (p := p) (by omega)
    unfold fMi
    rw [qup_ne (by omega), qup_ne (by omega), qup_ne (by omega), qup_ne (by omega)]
    exact ⟨z.1.trans ih.1, z.2.trans ih.2⟩
theorem step_pass {M : qMem} {n : Int} (h : qInv M) : qStep S_X11_pass S_X12_pass [qI n] M := by
  by_cases c : 0 ≤ n ∧ n ≤ 60
  · by_cases d : M 12 11 + n ≤ 9999
    · have h1 := h.1
      have hm := h1.2.1.1
      have I := fMin_I h1.1 h1.2.1 n.toNat (by omega)
      have row : ∀ a : Int, ¬ a = 12 → ¬ a = 13 → ¬ a = 17 → ¬ a = 18 → fMin M 12 n.toNat a = M a := fun a a1 a2 a3 a4 => fMin_row a1 (by omega) (by omega) (by omega) _
      have r0 : ∀ k : Int, ¬ k = 11 → fMin M 12 n.toNat 12 k = M 12 k := fun k hk => fMin_0 hk _
      have zz : ∀ p : Int, M 12 10 ≤ p → fMin M 12 n.toNat 17 p = M 17 p ∧ fMin M 12 n.toNat 18 p = M 18 p := fun p hp => fMin_z (o := 12) h1.1.1 h1.1.2.1.1 hp n.toNat
      have e11 : fMin M 12 n.toNat 12 11 = M 12 11 + n := by rw [I.2.2]; omega
      have s1 := sX11_pass h1 c d
      obtain ⟨N', s2, q2, q3⟩ := sX12_pass (N := fMin M 12 n.toNat) (qMN_n h.2.1 (fun a k q => by rw [row a (by unfold D2 at q; omega) (by unfold D2 at q; omega) (by unfold D2 at q; omega) (by unfold D2 at q; omega)])) h1 c d
      have n1 : qNow (fMin M 12 n.toNat) := ⟨I.1, I.2.1, by rw [r0 1 (by omega)]; exact h1.2.2.1, by rw [e11]; exact d, by rw [row 21 (by omega) (by omega) (by omega) (by omega)]; exact h1.2.2.2.2⟩
      have u1 : qAg D1 N' (fMin M 12 n.toNat) := qAg_mx q3 (fun a k q => by unfold D1 at q; omega)
      have u2 : qAg DZ N' M := qAg_t (qAg_mx q3 (fun a k q => by unfold DZ at q; omega)) (fun a k q => by
        by_cases c12 : a = 12
        · subst c12
          exact r0 k (by unfold DZ at q; omega)
        · rw [row a c12 (by unfold DZ at q; omega) (by unfold DZ at q; omega) (by unfold DZ at q; omega)])
      have w : ∀ a : Int, 12 ≤ a ∧ a ≤ 20 → N' a = fMin M 12 n.toNat a := fun a ha => q3.1 a (by omega) (by omega) (by omega) (by omega) (by omega) (by omega) (by omega) (by omega) (by omega) (by omega)
      have z : qZ N' 12 := by
        have Z := (iZ h).1
        intro p p1 p2
        have e5 : N' (12 + 5) = fMin M 12 n.toNat 17 := w 17 (by omega)
        have e6 : N' (12 + 6) = fMin M 12 n.toNat 18 := w 18 (by omega)
        have e7 : N' (12 + 7) = fMin M 12 n.toNat 19 := w 19 (by omega)
        have e8 : N' (12 + 8) = fMin M 12 n.toNat 20 := w 20 (by omega)
        rw [w 12 (by omega), r0 10 (by omega)] at p1
        have zp := Z p p1 p2
        have zq := zz p p1
        rw [e5, e6, e7, e8, zq.1, zq.2, row 19 (by omega) (by omega) (by omega) (by omega), row 20 (by omega) (by omega) (by omega) (by omega)]
        exact zp
      exact ⟨_, _, N', s1, s2, qInv_edit n1 q2 u1 (qRest_z h.2.2 u2 (by rw [w 12 (by omega), r0 10 (by omega)]; omega) z)⟩
    · exact qStep_r h (sX11_pass_state h.1 c d) (sX12_pass_state h.2.1 h.1 c d)
  · exact qStep_r h (sX11_pass_bad c) (sX12_pass_bad c)
