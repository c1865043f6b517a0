/-! a state becomes another (the class) -/
theorem qcp_n2 {M : qMem} {a sp d dp n a' k' : Int} (h : ¬ a' = d) : qcp M a sp d dp n a' k' = M a' k' := if_neg (fun q => h q.1)
theorem qcp_row {M : qMem} {a sp d dp n a' : Int} (h : ¬ a' = d) : qcp M a sp d dp n a' = M a' := funext (fun _ => qcp_n2 h)
theorem qcp_in {M : qMem} {a d n k' : Int} (h0 : 0 ≤ k') (h1 : k' < n) : qcp M a 0 d 0 n d k' = M a k' := by
  unfold qcp
  rw [if_pos (by omega)]
  congr 1
  omega
def fBec (M : qMem) (o o2 : Int) : qMem :=
  qup (qup (qup (qup (qcp (qcp (qcp (qcp (qcp (qcp (qcp (qcp M (o2 + 1) 0 (o + 1) 0 5) (o2 + 2) 0 (o + 2) 0 6) (o2 + 3) 0 (o + 3) 0 6) (o2 + 4) 0 (o + 4) 0 6) (o2 + 5) 0 (o + 5) 0 6) (o2 + 6) 0 (o + 6) 0 6) (o2 + 7) 0 (o + 7) 0 24) (o2 + 8) 0 (o + 8) 0 6) o 10 (M o2 10)) o 11 (M o2 11)) o 12 (M o2 12)) o 13 (M o2 13)
theorem sX8_becomes {M : qMem} {o o2 : Int} (ho : qSt o) (ho2 : qSt o2) (hn : ¬ o = o2) (hg : 0 ≤ M o2 13) : S_X8_becomes [qA o, qA o2] (qH0 M) = some (none, qH0 (fBec M o o2)) := by
  have q1 := ho
  have q2 := ho2
  unfold qSt at q1 q2
  have n0 : ¬ o2 = o := by omega
  have n1 : ¬ o2 = o + 1 := by omega
  have n2 : ¬ o2 = o + 2 := by omega
  have n3 : ¬ o2 = o + 3 := by omega
  have n4 : ¬ o2 = o + 4 := by omega
  have n5 : ¬ o2 = o + 5 := by omega
  have n6 : ¬ o2 = o + 6 := by omega
  have n7 : ¬ o2 = o + 7 := by omega
  have n8 : ¬ o2 = o + 8 := by omega
  rw [E_X8_becomes, B_X8_becomes_0 ho ho2]
  · simp (disch := first | assumption | exact not_and_of_not_left _ n0) only [qup_ne, qcp_n2]
    rfl
  · simp (disch := first | assumption | exact not_and_of_not_left _ n0) only [qup_ne, qcp_n2]
    exact hg
theorem fBec_row {M : qMem} {o o2 a : Int} (h : a < o ∨ o + 8 < a) : fBec M o o2 a = M a := by
  unfold fBec
  rw [qup_row (by omega), qup_row (by omega), qup_row (by omega), qup_row (by omega), qcp_row (by omega), qcp_row (by omega), qcp_row (by omega), qcp_row (by omega), qcp_row (by omega), qcp_row (by omega), qcp_row (by omega), qcp_row (by omega)]
theorem fBec_1 {M : qMem} {o o2 k : Int} (h : k < 10 ∨ 13 < k) : fBec M o o2 o k = M o k := by
  unfold fBec
  rw [qup_ne (by omega), qup_ne (by omega), qup_ne (by omega), qup_ne (by omega), qcp_n2 (by omega), qcp_n2 (by omega), qcp_n2 (by omega), qcp_n2 (by omega), qcp_n2 (by omega), qcp_n2 (by omega), qcp_n2 (by omega), qcp_n2 (by omega)]
/-- two states hold the same -/
def qSE (A : qMem) (o : Int) (B : qMem) (o2 : Int) : Prop := (A o 10 = B o2 10 ∧ A o 11 = B o2 11 ∧ A o 12 = B o2 12 ∧ A o 13 = B o2 13) ∧ (∀ k : Int, 0 ≤ k → k < 5 → A (o + 1) k = B (o2 + 1) k) ∧
  (∀ p : Int, 0 ≤ p → p < 6 → A (o + 2) p = B (o2 + 2) p ∧ A (o + 3) p = B (o2 + 3) p ∧ A (o + 4) p = B (o2 + 4) p ∧ A (o + 5) p = B (o2 + 5) p ∧ A (o + 6) p = B (o2 + 6) p ∧ A (o + 8) p = B (o2 + 8) p) ∧
  (∀ k : Int, 0 ≤ k → k < 24 → A (o + 7) k = B (o2 + 7) k)
theorem fBec_E {M : qMem} {o o2 : Int} (ho : qSt o) (ho2 : qSt o2) (hn : ¬ o = o2) : qSE (fBec M o o2) o M o2 := by
  unfold qSt at ho ho2
  refine ⟨⟨?_, ?_, ?_, ?_⟩, fun k k1 k2 => ?_, fun p p1 p2 => ⟨?_, ?_, ?_, ?_, ?_, ?_⟩, fun k k1 k2 => ?_⟩
  · unfold fBec
    rw [qup_ne (by omega), qup_ne (by omega), qup_ne (by omega), qup_self]
  · unfold fBec
    rw [qup_ne (by omega), qup_ne (by omega), qup_self]
  · unfold fBec
    rw [qup_ne (by omega), qup_self]
  · unfold fBec
    rw [qup_self]
  · unfold fBec
    rw [qup_ne (by omega), qup_ne (by omega), qup_ne (by omega), qup_ne (by omega), qcp_n2 (by omega), qcp_n2 (by omega), qcp_n2 (by omega), qcp_n2 (by omega), qcp_n2 (by omega), qcp_n2 (by omega), qcp_n2 (by omega), qcp_in k1 k2]
  · unfold fBec
    rw [qup_ne (by omega), qup_ne (by omega), qup_ne (by omega), qup_ne (by omega), qcp_n2 (by omega), qcp_n2 (by omega), qcp_n2 (by omega), qcp_n2 (by omega), qcp_n2 (by omega), qcp_n2 (by omega), qcp_in p1 p2, qcp_n2 (by omega)]
  · unfold fBec
    rw [qup_ne (by omega), qup_ne (by omega), qup_ne (by omega), qup_ne (by omega), qcp_n2 (by omega), qcp_n2 (by omega), qcp_n2 (by omega), qcp_n2 (by omega), qcp_n2 (by omega), qcp_in p1 p2, qcp_n2 (by omega), qcp_n2 (by omega)]
  · unfold fBec
    rw [qup_ne (by omega), qup_ne (by omega), qup_ne (by omega), qup_ne (by omega), qcp_n2 (by omega), qcp_n2 (by omega), qcp_n2 (by omega), qcp_n2 (by omega), qcp_in p1 p2, qcp_n2 (by omega), qcp_n2 (by omega), qcp_n2 (by omega)]
  · unfold fBec
    rw [qup_ne (by omega), qup_ne (by omega), qup_ne (by omega), qup_ne (by omega), qcp_n2 (by omega), qcp_n2 (by omega), qcp_n2 (by omega), qcp_in p1 p2, qcp_n2 (by omega), qcp_n2 (by omega), qcp_n2 (by omega), qcp_n2 (by omega)]
  · unfold fBec
    rw [qup_ne (by omega), qup_ne (by omega), qup_ne (by omega), qup_ne (by omega), qcp_n2 (by omega), qcp_n2 (by omega), qcp_in p1 p2, qcp_n2 (by omega), qcp_n2 (by omega), qcp_n2 (by omega), qcp_n2 (by omega), qcp_n2 (by omega)]
  · unfold fBec
    rw [qup_ne (by omega), qup_ne (by omega), qup_ne (by omega), qup_ne (by omega), qcp_in p1 p2, qcp_n2 (by omega), qcp_n2 (by omega), qcp_n2 (by omega), qcp_n2 (by omega), qcp_n2 (by omega), qcp_n2 (by omega), qcp_n2 (by omega)]
  · unfold fBec
    rw [qup_ne (by omega), qup_ne (by omega), qup_ne (by omega), qup_ne (by omega), qcp_n2 (by omega), qcp_in k1 k2, qcp_n2 (by omega), qcp_n2 (by omega), qcp_n2 (by omega), qcp_n2 (by omega), qcp_n2 (by omega), qcp_n2 (by omega)]
theorem qSE_F {A B : qMem} {o o2 : Int} (h : qSE A o B o2) (ho : qSt o) (hc : 99999 ≤ A o 1 ∧ A o 1 ≤ 2147483647) (hB : qSF B o2) (g1 : A (B o2 13) = B (B o2 13)) (g2 : A (B o2 13 + 2) = B (B o2 13 + 2)) : qSF A o := by
  obtain ⟨⟨h10, h11, h12, h13⟩, h1, hp, h7⟩ := h
  have hh := qHI_row hB.2.2.2.2.2.2 g1 g2
  refine ⟨ho, by rw [h10]; exact hB.2.1, by rw [h12]; exact hB.2.2.1, hc, fun p p1 p2 => ?_, fun k k1 k2 => ?_, by rw [h13]; exact hh⟩
  · have hq := hp p p1 p2
    rw [hq.1, hq.2.1, hq.2.2.1, hq.2.2.2.2.2]
    exact hB.2.2.2.2.1 p p1 p2
  · rw [h7 k k1 k2]
    exact hB.2.2.2.2.2.1 k k1 k2
theorem qSE_V {A B : qMem} {o o2 j : Int} (h : qSE A o B o2) (hB : qSV B o2 j) (hc : B o2 1 ≤ A o 1) : qSV A o j := by
  obtain ⟨⟨h10, h11, h12, h13⟩, h1, hp, h7⟩ := h
  refine ⟨by rw [h11]; exact hB.1, fun k k1 k2 => by rw [h1 k k1 k2]; exact hB.2.1 k k1 k2, fun p p1 p2 => ?_⟩
  have hq := hp p p1 p2
  have hb := hB.2.2 p p1 p2
  rw [h11, hq.2.2.2.1, hq.2.2.2.2.1]
  exact ⟨hb.1, hb.2.1, by omega⟩
