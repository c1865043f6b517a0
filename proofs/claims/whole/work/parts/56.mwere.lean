/-! were, can (reference) -/
theorem qup_qup {M : qMem} {a k v w : Int} : qup (qup M a k v) a k w = qup M a k w := by
  funext a' k'
  by_cases c : a' = a ∧ k' = k
  · obtain ⟨rfl, rfl⟩ := c
    rw [qup_self, qup_self]
  · rw [qup_ne c, qup_ne c, qup_ne c]
theorem qup_id {M : qMem} {a k : Int} : qup M a k (M a k) = M := by
  funext a' k'
  by_cases c : a' = a ∧ k' = k
  · obtain ⟨rfl, rfl⟩ := c
    rw [qup_self]
  · rw [qup_ne c]
theorem qMx_up {N M : qMem} {a k v : Int} (h : qMx N M) (ha : ¬ a = 82) : qMx (qup N a k v) (qup M a k v) := by
  refine ⟨fun a' b1 b2 b3 b4 b5 b6 b7 b8 b9 b10 => ?_, fun k' b1 b2 b3 b4 b5 b6 b7 => ?_⟩
  · funext k'
    have e := congrFun (h.1 a' b1 b2 b3 b4 b5 b6 b7 b8 b9 b10) k'
    unfold qup
    rw [e]
  · rw [qup_ne (by omega), qup_ne (by omega)]
    exact h.2 k' b1 b2 b3 b4 b5 b6 b7
theorem qRS_heap {N B : qMem} {o p w : Int} (h : qRS N B o) (hF : qSF B o) : qRS (qup N 83 p w) (qup B (o + 1) p w) o := by
  have g := (qSF_g hF).1 1 (by omega) (by omega)
  have hS := qHS_rowA (B := qup B (o + 1) p w) (qHS_row (N := qup N 83 p w) h.2.2.2.2.2.1 (by rw [qup_row (by omega)]) (qup_row (by omega)) (qup_row (by omega)) (qup_row (by omega)) (qup_row (by omega)) (qup_row (by omega)) (qup_row (by omega))) (qup_row g.1) (qup_row g.2)
  unfold qRS
  rw [qup_row (a := 83) (a' := 82) (by omega), qup_row (a := o + 1) (a' := o) (by omega), qup_row (a := o + 1) (a' := B o 13) g.1]
  refine ⟨h.1, h.2.1, fun k a b => ?_, fun q a b => ?_, fun k a b => ?_, hS, h.2.2.2.2.2.2⟩
  · by_cases c : k = p
    · subst c
      rw [qup_self, qup_self]
    · rw [qup_ne (by omega), qup_ne (by omega)]
      exact h.2.2.1 k a b
  · have hq := h.2.2.2.1 q a b
    rw [qup_ne (a := 83) (a' := 84) (by omega), qup_ne (a := 83) (a' := 85) (by omega), qup_ne (a := 83) (a' := 86) (by omega), qup_ne (a := 83) (a' := 87) (by omega), qup_ne (a := 83) (a' := 88) (by omega), qup_ne (a := o + 1) (a' := o + 2) (by omega), qup_ne (a := o + 1) (a' := o + 3) (by omega), qup_ne (a := o + 1) (a' := o + 4) (by omega), qup_ne (a := o + 1) (a' := o + 5) (by omega), qup_ne (a := o + 1) (a' := o + 6) (by omega), qup_ne (a := o + 1) (a' := o + 8) (by omega)]
    exact hq
  · rw [qup_ne (a := 83) (by omega), qup_ne (a := o + 1) (by omega)]
    exact h.2.2.2.2.1 k a b
theorem qRS_v {N B : qMem} {o p w : Int} (h : qRS N B o) (hF : qSF B o) : qRS (qup N 85 p w) (qup B (o + 3) p w) o := by
  have g := (qSF_g hF).1 3 (by omega) (by omega)
  have hS := qHS_rowA (B := qup B (o + 3) p w) (qHS_row (N := qup N 85 p w) h.2.2.2.2.2.1 (by rw [qup_row (by omega)]) (qup_row (by omega)) (qup_row (by omega)) (qup_row (by omega)) (qup_row (by omega)) (qup_row (by omega)) (qup_row (by omega))) (qup_row g.1) (qup_row g.2)
  unfold qRS
  rw [qup_row (a := 85) (a' := 82) (by omega), qup_row (a := o + 3) (a' := o) (by omega), qup_row (a := o + 3) (a' := B o 13) g.1]
  refine ⟨h.1, h.2.1, fun k a b => ?_, fun q a b => ?_, fun k a b => ?_, hS, h.2.2.2.2.2.2⟩
  · rw [qup_ne (a := 85) (by omega), qup_ne (a := o + 3) (by omega)]
    exact h.2.2.1 k a b
  · have hq := h.2.2.2.1 q a b
    rw [qup_ne (a := 85) (a' := 84) (by omega), qup_ne (a := 85) (a' := 86) (by omega), qup_ne (a := 85) (a' := 87) (by omega), qup_ne (a := 85) (a' := 88) (by omega), qup_ne (a := o + 3) (a' := o + 2) (by omega), qup_ne (a := o + 3) (a' := o + 4) (by omega), qup_ne (a := o + 3) (a' := o + 5) (by omega), qup_ne (a := o + 3) (a' := o + 6) (by omega), qup_ne (a := o + 3) (a' := o + 8) (by omega)]
    refine ⟨hq.1, ?_, hq.2.2⟩
    by_cases c : q = p
    · subst c
      rw [qup_self, qup_self]
    · rw [qup_ne (by omega), qup_ne (by omega)]
      exact hq.2.1
  · rw [qup_ne (a := 85) (by omega), qup_ne (a := o + 3) (by omega)]
    exact h.2.2.2.2.1 k a b
def qCr (c : Int) : Int := if c = 13 then 83 else 85
theorem qMN_y {N A : qMem} {c h j n : Int} (hN : qMN N (qup A c h j)) (hj : qNow (qup A c h j)) (hc : c = 13 ∨ c = 15) : qMN (qup N (qCr c) h n) (qup A c h n) := by
  rcases hc with rfl | rfl
  · have ec : qCr 13 = 83 := rfl
    rw [ec]
    have q := qRS_heap (o := 12) (p := h) (w := n) hN.1 hj.1
    have e : qup (qup A 13 h j) (12 + 1) h n = qup A 13 h n := qup_qup
    rw [e] at q
    exact ⟨q, by rw [qup_row (by omega)]; exact hN.2.1, by rw [qup_row (by omega)]; exact hN.2.2.1, by rw [qup_row (by omega)]; exact hN.2.2.2⟩
  · have ec : qCr 15 = 85 := rfl
    rw [ec]
    have q := qRS_v (o := 12) (p := h) (w := n) hN.1 hj.1
    have e : qup (qup A 15 h j) (12 + 3) h n = qup A 15 h n := qup_qup
    rw [e] at q
    exact ⟨q, by rw [qup_row (by omega)]; exact hN.2.1, by rw [qup_row (by omega)]; exact hN.2.2.1, by rw [qup_row (by omega)]; exact hN.2.2.2⟩
theorem qSnR_q {N M A : qMem} {a h w : Int} (hR : qSnR M A) (hx : qMx (qup N a h w) M) (ha : a = 83 ∨ a = 85) : qSnR N A := by
  have q := qSnR_x hR hx
  unfold qSnR at q ⊢
  rw [qup_row (a' := 82) (by omega), qup_row (a' := 104) (by omega), qup_row (a' := 105) (by omega), qup_row (a' := 106) (by omega)] at q
  exact q
theorem lX12_y {N M A : qMem} {c h j n w : Int} (hA : qNow A) (hS : qSn A) (hj : qTy A c h j) (hn : qTy A c h n) (hN : qMN N (qup A c h j)) (hR : qSnR M A) (hx : qMx (qup N (qCr c) h w) M) :
    ∃ N', S_X12_isSeen [qA 82] (qH0 (qup N (qCr c) h n)) = some (some (qI (fSb A (qup (fTr A) (c + 9) h n))), qH0 N') ∧ qMN N' (qup A c h n) ∧ qMx (qup N' (qCr c) h w) M := by
  have hc : c = 13 ∨ c = 15 := by
    unfold qTy at hn
    omega
  have hcr : qCr c = 83 ∨ qCr c = 85 := by
    unfold qCr
    split <;> omega
  have N1 := qMN_y (n := n) hN (qNow_y hA hj) hc
  have e : qup (qup N (qCr c) h n) (qCr c) h w = qup N (qCr c) h w := qup_qup
  have R1 : qSnR (qup N (qCr c) h n) A := qSnR_q (w := w) hR (by rw [e]; exact hx) hcr
  obtain ⟨N', v, q1, q2, q3, q4⟩ := sX12_isSeen (qNow_y hA hn) hS (qTr_y hA hn) (qTs1_y hA hn) N1 R1
  have ev := fSb_of q4
  refine ⟨N', by rw [← ev]; exact q1, q2, ?_⟩
  have u := qMx_up (a := qCr c) (k := h) (v := w) q3 (by omega)
  rw [e] at u
  exact qMx_t u hx
theorem lX12_were {M A : qMem} {h w z : Int} (hA : qNow A) (hS : qSn A) (h0 : 0 ≤ h) (h1 : h < 5) (hR : qSnR M A) : ∀ (j : Nat) (N : qMem) (m f y : Int), j ≤ 41 → (0 ≤ m ∧ m + j ≤ 100) → (0 ≤ y ∧ y ≤ 9999) → qMN N (qup A 13 h y) → qMx (qup N 83 h z) M →
    ∃ N', qlim C_X12_were (38, [some (qA 82), some (qI h), some (qI w), some (qI z), some (qI m), some (qI f), some (qI (j - 1))], [], qH0 N) = qlim C_X12_were (74, [some (qA 82), some (qI h), some (qI w), some (qI z), some (qI (m + (fU (fP A 13 h) j).1)), some (qI (if (fU (fP A 13 h) j).1 = 0 then f else (fU (fP A 13 h) j).2)), some (qI (-1))], [], qH0 N') ∧
      (∃ y : Int, (0 ≤ y ∧ y ≤ 9999) ∧ qMN N' (qup A 13 h y)) ∧ qMx (qup N' 83 h z) M
  | 0, N, m, f, y, _, hm, hy, hN, hx => by
    refine ⟨N, ?_, ⟨y, hy, hN⟩, hx⟩
    have e0 : (fU (fP A 13 h) 0).1 = 0 := rfl
    have e1 : ((0 : Nat) : Int) - 1 = -1 := by omega
    rw [e0, if_pos rfl, e1, Int.add_zero, B_X12_were_38, qif_t (by omega)]
  | j + 1, N, m, f, y, hj, hm, hy, hN, hx => by
    have ej : ((j + 1 : Nat) : Int) - 1 = j := by omega
    rw [ej]
    have e1 : kadd (j : Int) (-1) = (j : Int) - 1 := by rw [kadd_eq (by omega) (by omega)]; omega
    have hl := fU_lo (P := fP A 13 h) j
    have y1 : qTy A 13 h y := Or.inl ⟨rfl, ⟨h0, h1⟩, hy⟩
    have y2 : qTy A 13 h j := Or.inl ⟨rfl, ⟨h0, h1⟩, by omega⟩
    obtain ⟨N1, a1, a2, a3⟩ := lX12_y (w := z) hA hS y1 y2 hN hR hx
    have a1' : S_X12_isSeen [qA 82] (qH0 (qup N 83 h (j : Int))) = some (some (qI (fP A 13 h j)), qH0 N1) := a1
    have e4 : fU (fP A 13 h) (j + 1) = if fP A 13 h j = 0 then fU (fP A 13 h) j else ((fU (fP A 13 h) j).1 + 1, if (fU (fP A 13 h) j).1 = 0 then (j : Int) else (fU (fP A 13 h) j).2) := rfl
    rw [B_X12_were_38, qif_f (by omega), B_X12_were_43 h0 h1, a1', qbd_some]
    by_cases c : fP A 13 h j = 0
    · obtain ⟨N', q1, q2⟩ := lX12_were (w := w) (z := z) hA hS h0 h1 hR j N1 m f j (by omega) (by omega) (by omega) a2 a3
      refine ⟨N', ?_, q2⟩
      rw [if_pos c] at e4
      rw [e4, ← q1]
      simp (disch := first | assumption | omega) only [B_X12_were_55, B_X12_were_58, B_X12_were_68, not_true_eq_false, not_false_eq_true, if_true, if_false, qlk, qtk, qif_t, qif_f, qbd_some, Option.toList_some, Option.toList_none, List.cons_append, List.nil_append, List.append_nil, e1]
    · obtain ⟨N', q1, q2⟩ := lX12_were (w := w) (z := z) hA hS h0 h1 hR j N1 (m + 1) j j (by omega) (by omega) (by omega) a2 a3
      refine ⟨N', ?_, q2⟩
      have e5 : kadd m 1 = m + 1 := kadd_eq (by omega) (by omega)
      rw [if_neg c] at e4
      have e6 : m + ((fU (fP A 13 h) j).1 + 1) = m + 1 + (fU (fP A 13 h) j).1 := by omega
      rw [e4]
      dsimp only
      rw [if_neg (c := (fU (fP A 13 h) j).1 + 1 = 0) (by omega), e6, ← q1]
      simp (disch := first | assumption | omega) only [B_X12_were_55, B_X12_were_61, B_X12_were_68, not_true_eq_false, not_false_eq_true, if_true, if_false, qlk, qtk, qif_t, qif_f, qbd_some, Option.toList_some, Option.toList_none, List.cons_append, List.nil_append, List.append_nil, e1, e5]
theorem fUv_2 {A : qMem} {c h w : Int} {j : Nat} : (if w = 0 then 0 + (fU (fP A c h) j).1 else if (fU (fP A c h) j).1 = 0 then -5 else (fU (fP A c h) j).2) = fUv A c h w j := by
  unfold fUv
  by_cases cw : w = 0
  · rw [if_pos cw, if_pos cw]
    omega
  · rw [if_neg cw, if_neg cw]
    by_cases c2 : (fU (fP A c h) j).1 = 0
    · rw [if_pos c2, fU_z j c2]
    · rw [if_neg c2]
theorem sX12_were {N A : qMem} {h w : Int} (hA : qNow A) (hS : qSn A) (h0 : 0 ≤ h) (h1 : h < 5) (hw : 0 ≤ w ∧ w ≤ 1) (hN : qMN N A) (hR : qSnR N A) : ∃ N', S_X12_were [qA 82, qI h, qI w] (qH0 N) = some (some (qI (fUv A 13 h w 41)), qH0 N') ∧ qMN N' A ∧ qMx N' N := by
  have ez : N 83 h = A 13 h := hN.1.2.2.1 h h0 h1
  have hv := hA.2.1.2.1 h h0 h1
  have hv' : 0 ≤ A 13 h ∧ A 13 h ≤ 9999 := hv
  have eA : qup A 13 h (A 13 h) = A := qup_id
  have eN : qup N 83 h (A 13 h) = N := by rw [← ez]; exact qup_id
  obtain ⟨N1, q1, ⟨y, hy, q2⟩, q3⟩ := lX12_were (w := w) (z := A 13 h) hA hS h0 h1 hR 41 N 0 (-5) (A 13 h) (by omega) (by omega) hv' (by rw [eA]; exact hN) (by rw [eN]; exact qMx_r)
  have q4 := qMN_y (n := A 13 h) q2 (qNow_y hA (Or.inl ⟨rfl, ⟨h0, h1⟩, hy⟩)) (Or.inl rfl)
  rw [eA] at q4
  refine ⟨qup N1 83 h (A 13 h), ?_, q4, q3⟩
  have e40 : ((41 : Nat) : Int) - 1 = 40 := rfl
  rw [e40] at q1
  rw [← fUv_2]
  have run : S_X12_were [qA 82, qI h, qI w] (qH0 N) = qlim C_X12_were (38, [some (qA 82), some (qI h), some (qI w), some (qI (A 13 h)), some (qI 0), some (qI (-5)), some (qI 40)], [], qH0 N) := by
    rw [E_X12_were]
    simp (disch := first | assumption | omega) only [B_X12_were_0, B_X12_were_5, B_X12_were_8, B_X12_were_15, B_X12_were_20, not_true_eq_false, not_false_eq_true, if_true, if_false, qlk, qtk, qif_t, qif_f, qbd_some, Option.toList_some, Option.toList_none, List.cons_append, List.nil_append, List.append_nil, sX12_isHeap_y, sX12_in_y, ez]
  rw [run, q1]
  by_cases cw : w = 0
  · rw [if_pos cw]
    simp (disch := first | assumption | omega) only [B_X12_were_74, B_X12_were_85, B_X12_were_92, not_true_eq_false, not_false_eq_true, if_true, if_false, qlk, qtk, qif_t, qif_f, qbd_some, Option.toList_some, Option.toList_none, List.cons_append, List.nil_append, List.append_nil]
  · rw [if_neg cw]
    simp (disch := first | assumption | omega) only [B_X12_were_74, B_X12_were_90, B_X12_were_92, not_true_eq_false, not_false_eq_true, if_true, if_false, qlk, qtk, qif_t, qif_f, qbd_some, Option.toList_some, Option.toList_none, List.cons_append, List.nil_append, List.append_nil]
theorem sX12_were_n {N : qMem} {h w : Int} (hb : ¬ ((0 ≤ h ∧ h < 5) ∧ (0 ≤ w ∧ w ≤ 1))) : S_X12_were [qA 82, qI h, qI w] (qH0 N) = some (some (qI (-1)), qH0 N) := by
  by_cases c : 0 ≤ h ∧ h < 5
  · have c2 : ¬ (0 ≤ w ∧ w ≤ 1) := fun q => hb ⟨c, q⟩
    simp (disch := first | assumption | omega) only [E_X12_were, B_X12_were_0, B_X12_were_5, B_X12_were_8, B_X12_were_15, B_X12_were_18, B_X12_were_20, B_X12_were_38, B_X12_were_43, B_X12_were_55, B_X12_were_58, B_X12_were_61, B_X12_were_68, B_X12_were_74, B_X12_were_85, B_X12_were_90, B_X12_were_92, not_true_eq_false, not_false_eq_true, if_true, if_false, qlk, qtk, qif_t, qif_f, qbd_some, Option.toList_some, Option.toList_none, List.cons_append, List.nil_append, List.append_nil, sX12_isHeap_y, sX12_in_n]
  · simp (disch := first | assumption | omega) only [E_X12_were, B_X12_were_0, B_X12_were_5, B_X12_were_8, B_X12_were_15, B_X12_were_18, B_X12_were_20, B_X12_were_38, B_X12_were_43, B_X12_were_55, B_X12_were_58, B_X12_were_61, B_X12_were_68, B_X12_were_74, B_X12_were_85, B_X12_were_90, B_X12_were_92, not_true_eq_false, not_false_eq_true, if_true, if_false, qlk, qtk, qif_t, qif_f, qbd_some, Option.toList_some, Option.toList_none, List.cons_append, List.nil_append, List.append_nil, sX12_isHeap_n]
theorem lX12_can {M A : qMem} {h w z : Int} (hA : qNow A) (hS : qSn A) (h0 : 0 ≤ h) (h1 : h < 6) (hR : qSnR M A) : ∀ (j : Nat) (N : qMem) (m f y : Int), j ≤ 10 → (0 ≤ m ∧ m + j ≤ 100) → (0 ≤ y ∧ y ≤ 9) → qMN N (qup A 15 h y) → qMx (qup N 85 h z) M →
    ∃ N', qlim C_X12_can (38, [some (qA 82), some (qI h), some (qI w), some (qI z), some (qI m), some (qI f), some (qI (j - 1))], [], qH0 N) = qlim C_X12_can (74, [some (qA 82), some (qI h), some (qI w), some (qI z), some (qI (m + (fU (fP A 15 h) j).1)), some (qI (if (fU (fP A 15 h) j).1 = 0 then f else (fU (fP A 15 h) j).2)), some (qI (-1))], [], qH0 N') ∧
      (∃ y : Int, (0 ≤ y ∧ y ≤ 9) ∧ qMN N' (qup A 15 h y)) ∧ qMx (qup N' 85 h z) M
  | 0, N, m, f, y, _, hm, hy, hN, hx => by
    refine ⟨N, ?_, ⟨y, hy, hN⟩, hx⟩
    have e0 : (fU (fP A 15 h) 0).1 = 0 := rfl
    have e1 : ((0 : Nat) : Int) - 1 = -1 := by omega
    rw [e0, if_pos rfl, e1, Int.add_zero, B_X12_can_38, qif_t (by omega)]
  | j + 1, N, m, f, y, hj, hm, hy, hN, hx => by
    have ej : ((j + 1 : Nat) : Int) - 1 = j := by omega
    rw [ej]
    have e1 : kadd (j : Int) (-1) = (j : Int) - 1 := by rw [kadd_eq (by omega) (by omega)]; omega
    have hl := fU_lo (P := fP A 15 h) j
    have y1 : qTy A 15 h y := Or.inr ⟨rfl, ⟨h0, h1⟩, hy⟩
    have y2 : qTy A 15 h j := Or.inr ⟨rfl, ⟨h0, h1⟩, by omega⟩
    obtain ⟨N1, a1, a2, a3⟩ := lX12_y (w := z) hA hS y1 y2 hN hR hx
    have a1' : S_X12_isSeen [qA 82] (qH0 (qup N 85 h (j : Int))) = some (some (qI (fP A 15 h j)), qH0 N1) := a1
    have e4 : fU (fP A 15 h) (j + 1) = if fP A 15 h j = 0 then fU (fP A 15 h) j else ((fU (fP A 15 h) j).1 + 1, if (fU (fP A 15 h) j).1 = 0 then (j : Int) else (fU (fP A 15 h) j).2) := rfl
    rw [B_X12_can_38, qif_f (by omega), B_X12_can_43 h0 h1, a1', qbd_some]
    by_cases c : fP A 15 h j = 0
    · obtain ⟨N', q1, q2⟩ := lX12_can (w := w) (z := z) hA hS h0 h1 hR j N1 m f j (by omega) (by omega) (by omega) a2 a3
      refine ⟨N', ?_, q2⟩
      rw [if_pos c] at e4
      rw [e4, ← q1]
      simp (disch := first | assumption | omega) only [B_X12_can_55, B_X12_can_58, B_X12_can_68, not_true_eq_false, not_false_eq_true, if_true, if_false, qlk, qtk, qif_t, qif_f, qbd_some, Option.toList_some, Option.toList_none, List.cons_append, List.nil_append, List.append_nil, e1]
    · obtain ⟨N', q1, q2⟩ := lX12_can (w := w) (z := z) hA hS h0 h1 hR j N1 (m + 1) j j (by omega) (by omega) (by omega) a2 a3
      refine ⟨N', ?_, q2⟩
      have e5 : kadd m 1 = m + 1 := kadd_eq (by omega) (by omega)
      rw [if_neg c] at e4
      have e6 : m + ((fU (fP A 15 h) j).1 + 1) = m + 1 + (fU (fP A 15 h) j).1 := by omega
      rw [e4]
      dsimp only
      rw [if_neg (c := (fU (fP A 15 h) j).1 + 1 = 0) (by omega), e6, ← q1]
      simp (disch := first | assumption | omega) only [B_X12_can_55, B_X12_can_61, B_X12_can_68, not_true_eq_false, not_false_eq_true, if_true, if_false, qlk, qtk, qif_t, qif_f, qbd_some, Option.toList_some, Option.toList_none, List.cons_append, List.nil_append, List.append_nil, e1, e5]
theorem sX12_can {N A : qMem} {h w : Int} (hA : qNow A) (hS : qSn A) (h0 : 0 ≤ h) (hp : h < A 12 10) (hw : 0 ≤ w ∧ w ≤ 1) (hN : qMN N A) (hR : qSnR N A) : ∃ N', S_X12_can [qA 82, qI h, qI w] (qH0 N) = some (some (qI (fUv A 15 h w 10)), qH0 N') ∧ qMN N' A ∧ qMx N' N := by
  have h6 := hA.1.2.1.2
  have hn6 := hA.1.2.1.1
  have h1 : h < 6 := by omega
  have ez : N 85 h = A 15 h := (hN.1.2.2.2.1 h h0 h1).2.1
  have hv' : 0 ≤ A 15 h ∧ A 15 h ≤ 9 := (hA.1.2.2.2.2.1 h h0 h1).2.1
  have en : N 82 0 = A 12 10 := hN.1.1.1
  have eA : qup A 15 h (A 15 h) = A := qup_id
  have eN : qup N 85 h (A 15 h) = N := by rw [← ez]; exact qup_id
  obtain ⟨N1, q1, ⟨y, hy, q2⟩, q3⟩ := lX12_can (w := w) (z := A 15 h) hA hS h0 h1 hR 10 N 0 (-5) (A 15 h) (by omega) (by omega) hv' (by rw [eA]; exact hN) (by rw [eN]; exact qMx_r)
  have q4 := qMN_y (n := A 15 h) q2 (qNow_y hA (Or.inr ⟨rfl, ⟨h0, h1⟩, hy⟩)) (Or.inr rfl)
  rw [eA] at q4
  refine ⟨qup N1 85 h (A 15 h), ?_, q4, q3⟩
  have e9 : ((10 : Nat) : Int) - 1 = 9 := rfl
  rw [e9] at q1
  rw [← fUv_2]
  have run : S_X12_can [qA 82, qI h, qI w] (qH0 N) = qlim C_X12_can (38, [some (qA 82), some (qI h), some (qI w), some (qI (A 15 h)), some (qI 0), some (qI (-5)), some (qI 9)], [], qH0 N) := by
    rw [E_X12_can]
    simp (disch := first | assumption | omega) only [B_X12_can_0, B_X12_can_5, B_X12_can_8, B_X12_can_15, B_X12_can_20, not_true_eq_false, not_false_eq_true, if_true, if_false, qlk, qtk, qif_t, qif_f, qbd_some, Option.toList_some, Option.toList_none, List.cons_append, List.nil_append, List.append_nil, sX12_isPerson_y, sX12_in_y, ez]
  rw [run, q1]
  by_cases cw : w = 0
  · rw [if_pos cw]
    simp (disch := first | assumption | omega) only [B_X12_can_74, B_X12_can_85, B_X12_can_92, not_true_eq_false, not_false_eq_true, if_true, if_false, qlk, qtk, qif_t, qif_f, qbd_some, Option.toList_some, Option.toList_none, List.cons_append, List.nil_append, List.append_nil]
  · rw [if_neg cw]
    simp (disch := first | assumption | omega) only [B_X12_can_74, B_X12_can_90, B_X12_can_92, not_true_eq_false, not_false_eq_true, if_true, if_false, qlk, qtk, qif_t, qif_f, qbd_some, Option.toList_some, Option.toList_none, List.cons_append, List.nil_append, List.append_nil]
theorem sX12_can_n {N A : qMem} {h w : Int} (hA : qNow A) (hN : qMN N A) (hb : ¬ ((0 ≤ h ∧ h < A 12 10) ∧ (0 ≤ w ∧ w ≤ 1))) : S_X12_can [qA 82, qI h, qI w] (qH0 N) = some (some (qI (-1)), qH0 N) := by
  have h6 := hA.1.2.1.2
  have hn6 := hA.1.2.1.1
  have en : N 82 0 = A 12 10 := hN.1.1.1
  by_cases c : 0 ≤ h ∧ h < A 12 10
  · have c2 : ¬ (0 ≤ w ∧ w ≤ 1) := fun q => hb ⟨c, q⟩
    simp (disch := first | assumption | omega) only [E_X12_can, B_X12_can_0, B_X12_can_5, B_X12_can_8, B_X12_can_15, B_X12_can_18, B_X12_can_20, B_X12_can_38, B_X12_can_43, B_X12_can_55, B_X12_can_58, B_X12_can_61, B_X12_can_68, B_X12_can_74, B_X12_can_85, B_X12_can_90, B_X12_can_92, not_true_eq_false, not_false_eq_true, if_true, if_false, qlk, qtk, qif_t, qif_f, qbd_some, Option.toList_some, Option.toList_none, List.cons_append, List.nil_append, List.append_nil, sX12_isPerson_y, sX12_in_n]
  · simp (disch := first | assumption | omega) only [E_X12_can, B_X12_can_0, B_X12_can_5, B_X12_can_8, B_X12_can_15, B_X12_can_18, B_X12_can_20, B_X12_can_38, B_X12_can_43, B_X12_can_55, B_X12_can_58, B_X12_can_61, B_X12_can_68, B_X12_can_74, B_X12_can_85, B_X12_can_90, B_X12_can_92, not_true_eq_false, not_false_eq_true, if_true, if_false, qlk, qtk, qif_t, qif_f, qbd_some, Option.toList_some, Option.toList_none, List.cons_append, List.nil_append, List.append_nil, sX12_isPerson_n]
