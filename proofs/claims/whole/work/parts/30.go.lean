/-! a pace, a person's minute, minutes (the class) -/
theorem sX3_zealOf {M : qMem} {g o p : Int} (h : qHI M g) (hs : qZS M o p) : S_X3_zealOf [qA g, qA o, qI p] (qH0 M) = some (some (qI (fZeal M g o p)), qH0 M) := by
  have l := lX3_zealOf h hs (M g 3).toNat 0 none (by have := h.2.1; omega)
  rw [Nat.zero_add] at l
  rw [E_X3_zealOf, B_X3_zealOf_0 h.1 hs.1]
  exact l
theorem fZeal_lo {M : qMem} {g o p : Int} (h : qHI M g) : -10000 ≤ fZeal M g o p ∧ fZeal M g o p ≤ 10003 := by
  have := fZs_lo (o := o) (p := p) h (M g 3).toNat (by have := h.2.1; omega)
  have hm := h.2.1
  unfold fZeal
  omega
def fPace (M : qMem) (o p : Int) : Int := max 0 (fPl M o p (fZeal M (M o 13) o p) (M (o + 2) p))
def fN (M : qMem) (o p : Int) : Int :=
  if 0 < min (M (o + 1) (M (o + 4) p)) ((if M (o + 4) p = 3 then 9999 else M o 12) - M (o + 1) (M (o + 4) p + 1)) then
    min (min (M (o + 1) (M (o + 4) p)) ((if M (o + 4) p = 3 then 9999 else M o 12) - M (o + 1) (M (o + 4) p + 1))) (fPace M o p)
  else min (M (o + 1) (M (o + 4) p)) ((if M (o + 4) p = 3 then 9999 else M o 12) - M (o + 1) (M (o + 4) p + 1))
def fWorks (M : qMem) (o p : Int) : qMem :=
  if 0 < fN M o p then qup (qup (qup M (o + 1) (M (o + 4) p) (M (o + 1) (M (o + 4) p) - fN M o p)) (o + 1) (M (o + 4) p + 1) (M (o + 1) (M (o + 4) p + 1) + fN M o p)) (o + 5) p (min (M (o + 5) p + fN M o p) (M o 1))
  else qup M (o + 6) p (M (o + 6) p + 1)
/-- what stays in a minute -/
def qSF (M : qMem) (o : Int) : Prop := qSt o ∧ (0 ≤ M o 10 ∧ M o 10 ≤ 6) ∧ (1 ≤ M o 12 ∧ M o 12 ≤ 99) ∧ (99999 ≤ M o 1 ∧ M o 1 ≤ 2147483647) ∧
  (∀ p : Int, 0 ≤ p → p < 6 → (0 ≤ M (o + 2) p ∧ M (o + 2) p ≤ 6) ∧ (0 ≤ M (o + 3) p ∧ M (o + 3) p ≤ 9) ∧ (0 ≤ M (o + 4) p ∧ M (o + 4) p ≤ 3) ∧ (M (o + 8) p = 0 ∨ M (o + 8) p = 1)) ∧
  (∀ k : Int, 0 ≤ k → k < 24 → 0 ≤ M (o + 7) k ∧ M (o + 7) k ≤ 9) ∧ qHI M (M o 13)
/-- what a minute changes; those below j have had it -/
def qSV (M : qMem) (o j : Int) : Prop := (0 ≤ M o 11 ∧ M o 11 ≤ 10200) ∧ (∀ k : Int, 0 ≤ k → k < 5 → 0 ≤ M (o + 1) k ∧ M (o + 1) k ≤ 9999) ∧
  (∀ p : Int, 0 ≤ p → p < 6 → (0 ≤ M (o + 5) p ∧ M (o + 5) p ≤ 9999 * (M o 11 + if p < j then 1 else 0)) ∧ (0 ≤ M (o + 6) p ∧ M (o + 6) p ≤ M o 11 + if p < j then 1 else 0) ∧ M (o + 5) p ≤ M o 1)
theorem qSV_d {M : qMem} {o j p : Int} (h : qSV M o j) (h1 : 0 ≤ p) (h2 : p < 6) : (0 ≤ M (o + 5) p ∧ M (o + 5) p ≤ 102000000) ∧ (0 ≤ M (o + 6) p ∧ M (o + 6) p ≤ 10201) := by
  obtain ⟨hm, _, h3⟩ := h
  have h4 := h3 p h1 h2
  split at h4 <;> omega
theorem sX8_paceOf {M : qMem} {o p j : Int} (hF : qSF M o) (hV : qSV M o j) (h1 : 0 ≤ p) (h2 : p < 6) : S_X8_paceOf [qA o, qI p] (qH0 M) = some (some (qI (fPace M o p)), qH0 M) := by
  have hd := qSV_d hV h1 h2
  have hz := fZeal_lo (o := o) (p := p) hF.2.2.2.2.2.2
  have hP : qPS M o p (fZeal M (M o 13) o p) := ⟨hF.1, ⟨h1, h2⟩, hF.2.1, ⟨hV.1.1, by have := hV.1; omega⟩, by have := (hF.2.2.2.2.1 p h1 h2).2.1; omega, ⟨hd.1.1, by omega⟩, hF.2.2.2.2.2.1, by omega⟩
  have hZ : qZS M o p := ⟨hF.1, ⟨h1, h2⟩, hP.2.2.2.1, ⟨hd.1.1, by omega⟩⟩
  have hk := (hF.2.2.2.2.1 p h1 h2).1
  have ho := hF.1
  rw [E_X8_paceOf, B_X8_paceOf_0 ho h1 h2 hk.1 (by omega) (qHl_ty hF.2.2.2.2.2.2.1), sX3_zealOf hF.2.2.2.2.2.2 hZ, qbd_some]
  show qlim C_X8_paceOf (23, [some (qA o), some (qI p)], [qI (fZeal M (M o 13) o p), qI p, qA o, qA (qG0 1 (M (o + 2) p)), qI 0], qH0 M) = _
  unfold fPace
  generalize fZeal M (M o 13) o p = z at hP ⊢
  have e : M (o + 2) p = 0 ∨ M (o + 2) p = 1 ∨ M (o + 2) p = 2 ∨ M (o + 2) p = 3 ∨ M (o + 2) p = 4 ∨ M (o + 2) p = 5 ∨ M (o + 2) p = 6 := by omega
  rcases e with e | e | e | e | e | e | e <;> rw [e]
  · have g : qG0 1 0 = 2 := by decide
    rw [g, B_X8_paceOf_23 ho (f := S_X4_pace) rfl, sX4_pace hP, qbd_some]
    exact B_X8_paceOf_26 ho
  · have g : qG0 1 1 = 3 := by decide
    rw [g, B_X8_paceOf_23 ho (f := S_X5_pace) rfl, sX5_pace hP, qbd_some]
    exact B_X8_paceOf_26 ho
  · have g : qG0 1 2 = 4 := by decide
    rw [g, B_X8_paceOf_23 ho (f := S_X2_pace) rfl, sX2_pace hP, qbd_some]
    exact B_X8_paceOf_26 ho
  · have g : qG0 1 3 = 5 := by decide
    rw [g, B_X8_paceOf_23 ho (f := S_X9_pace) rfl, sX9_pace hP, qbd_some]
    exact B_X8_paceOf_26 ho
  · have g : qG0 1 4 = 6 := by decide
    rw [g, B_X8_paceOf_23 ho (f := S_X7_pace) rfl, sX7_pace hP, qbd_some]
    exact B_X8_paceOf_26 ho
  · have g : qG0 1 5 = 7 := by decide
    rw [g, B_X8_paceOf_23 ho (f := S_X1_pace) rfl, sX1_pace hP, qbd_some]
    exact B_X8_paceOf_26 ho
  · have g : qG0 1 6 = 8 := by decide
    rw [g, B_X8_paceOf_23 ho (f := S_X10_pace) rfl, sX10_pace hP, qbd_some]
    exact B_X8_paceOf_26 ho
theorem fPace_lo {M : qMem} {o p : Int} : 0 ≤ fPace M o p := by unfold fPace; omega
theorem fN_lo {M : qMem} {o p j : Int} (hF : qSF M o) (hV : qSV M o j) (h1 : 0 ≤ p) (h2 : p < 6) : -9999 ≤ fN M o p ∧ fN M o p ≤ M (o + 1) (M (o + 4) p) ∧ (0 < fN M o p → M (o + 1) (M (o + 4) p + 1) + fN M o p ≤ 9999) := by
  have hw := (hF.2.2.2.2.1 p h1 h2).2.2.1
  have ha := hV.2.1 (M (o + 4) p) (by omega) (by omega)
  have hb := hV.2.1 (M (o + 4) p + 1) (by omega) (by omega)
  have hr := hF.2.2.1
  have hp := fPace_lo (M := M) (o := o) (p := p)
  unfold fN
  split <;> split <;> omega
theorem sX8_works {M : qMem} {o p j : Int} (hF : qSF M o) (hV : qSV M o j) (h1 : 0 ≤ p) (h2 : p < 6) : S_X8_works [qA o, qI p] (qH0 M) = some (none, qH0 (fWorks M o p)) := by
  have hw := (hF.2.2.2.2.1 p h1 h2).2.2.1
  have ha := hV.2.1 (M (o + 4) p) (by omega) (by omega)
  have hb := hV.2.1 (M (o + 4) p + 1) (by omega) (by omega)
  have hr := hF.2.2.1
  have hN := fN_lo hF hV h1 h2
  have hd := qSV_d hV h1 h2
  have sP := sX8_paceOf hF hV h1 h2
  have ho := hF.1
  have e1 : kadd (M (o + 4) p) 1 = M (o + 4) p + 1 := kadd_eq (by omega) (by omega)
  have e2 : kadd (M (o + 6) p) 1 = M (o + 6) p + 1 := kadd_eq (by omega) (by omega)
  -- behind the amount
  have T : ∀ x4 : Int, qlim C_X8_works (65, [some (qA o), some (qI p), some (qI (M (o + 4) p)), some (qI (M (o + 4) p + 1)), some (qI x4), some (qI (fN M o p))], [], qH0 M) = some (none, qH0 (fWorks M o p)) := by
    intro x4
    rw [B_X8_works_65 ho]
    unfold fWorks
    by_cases c : 0 < fN M o p
    · rw [if_pos c, if_pos c, B_X8_works_81 ho (by omega) (by omega) (by omega) (by omega) h1 h2]
      have k1 : ksub (M (o + 1) (M (o + 4) p)) (fN M o p) = M (o + 1) (M (o + 4) p) - fN M o p := ksub_eq (by omega) (by omega)
      have k2 : kadd (M (o + 1) (M (o + 4) p + 1)) (fN M o p) = M (o + 1) (M (o + 4) p + 1) + fN M o p := kadd_eq (by omega) (by omega)
      have k3 : kadd (M (o + 5) p) (fN M o p) = M (o + 5) p + fN M o p := kadd_eq (by omega) (by omega)
      rw [k1, qup_ne (a' := o + 1) (k' := M (o + 4) p + 1) (by omega), k2, qup_ne (a' := o + 5) (by omega), qup_ne (a' := o + 5) (by omega), k3, qup_ne (a' := o) (by omega), qup_ne (a' := o) (by omega)]
    · rw [if_neg c, if_neg c, B_X8_works_70 ho h1 h2, e2]
  -- the amount
  have U : ∀ f : Int, f = (if M (o + 4) p = 3 then 9999 else M o 12) → qlim C_X8_works (26, [some (qA o), some (qI p), some (qI (M (o + 4) p)), some (qI (M (o + 4) p + 1)), none, none], [qI f], qH0 M) = some (none, qH0 (fWorks M o p)) := by
    intro f hf
    have hf2 : 1 ≤ f ∧ f ≤ 9999 := by rw [hf]; split <;> omega
    have k1 : ksub f (M (o + 1) (M (o + 4) p + 1)) = f - M (o + 1) (M (o + 4) p + 1) := ksub_eq (by omega) (by omega)
    rw [B_X8_works_26 ho (by omega) (by omega) (by omega) (by omega), k1]
    have eN : fN M o p = if 0 < min (M (o + 1) (M (o + 4) p)) (f - M (o + 1) (M (o + 4) p + 1)) then min (min (M (o + 1) (M (o + 4) p)) (f - M (o + 1) (M (o + 4) p + 1))) (fPace M o p) else min (M (o + 1) (M (o + 4) p)) (f - M (o + 1) (M (o + 4) p + 1)) := by rw [hf]; rfl
    by_cases c : 0 < min (M (o + 1) (M (o + 4) p)) (f - M (o + 1) (M (o + 4) p + 1))
    · rw [if_pos c] at eN
      rw [qif_f (by omega), B_X8_works_53 ho, sP, qbd_some]
      have := T (f - M (o + 1) (M (o + 4) p + 1))
      rw [eN] at this
      exact (B_X8_works_60 ho).trans this
    · rw [if_neg c] at eN
      have := T (f - M (o + 1) (M (o + 4) p + 1))
      rw [eN] at this
      rw [qif_t (by omega)]
      exact this
  rw [E_X8_works, B_X8_works_0 ho h1 h2, e1]
  by_cases c : M (o + 4) p = 3
  · rw [qif_f (by omega), B_X8_works_16 ho]
    exact U 9999 (by rw [if_pos c])
  · rw [qif_t (by omega), B_X8_works_22 ho]
    exact U (M o 12) (by rw [if_neg c])
