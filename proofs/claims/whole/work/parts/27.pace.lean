/-! paces of the kinds (the class) -/
def fAlike (M : qMem) (o p : Int) : Nat → Int
  | 0 => 0
  | n + 1 => if ¬ (n : Int) = p ∧ M (o + 8) n = 0 ∧ M (o + 4) n = M (o + 4) p then fAlike M o p n + 1 else fAlike M o p n
theorem fAlike_lo {M : qMem} {o p : Int} : ∀ n : Nat, 0 ≤ fAlike M o p n ∧ fAlike M o p n ≤ n
  | 0 => ⟨Int.le_refl _, Int.le_refl _⟩
  | n + 1 => by
    have h := fAlike_lo (M := M) (o := o) (p := p) n
    unfold fAlike
    split <;> omega
def fDry (M : qMem) (o p z : Int) : Int := if M (o + 4) p = 2 then z - M (o + 5) p / 20 else z
def fTalk (M : qMem) (o p z : Int) : Int := z - fAlike M o p (M o 10).toNat
def fPl (M : qMem) (o p z k : Int) : Int :=
  if k = 0 then z else if k = 1 then z + M (o + 3) p / 2 else if k = 2 then fDry M o p z else if k = 3 then fTalk M o p z
  else if k = 4 then (if M (o + 4) p = 2 then z + M (o + 3) p / 2 + 2 else z + M (o + 3) p / 2)
  else if k = 5 then min (fDry M o p z) (M (o + 3) p + 1) else fTalk M o p z + M (o + 7) (4 * p + M o 11 % 4)
/-- what a pace asks of the state -/
def qPS (M : qMem) (o p z : Int) : Prop := qSt o ∧ (0 ≤ p ∧ p < 6) ∧ (0 ≤ M o 10 ∧ M o 10 ≤ 6) ∧ (0 ≤ M o 11 ∧ M o 11 ≤ 100000) ∧ (0 ≤ M (o + 3) p ∧ M (o + 3) p ≤ 100) ∧ (0 ≤ M (o + 5) p ∧ M (o + 5) p ≤ 1000000000) ∧ (∀ k : Int, 0 ≤ k → k < 24 → 0 ≤ M (o + 7) k ∧ M (o + 7) k ≤ 9) ∧ (-100000 ≤ z ∧ z ≤ 100000)
theorem sX4_pace {M : qMem} {o p z : Int} (h : qPS M o p z) : S_X4_pace [qA 2, qA o, qI p, qI z] (qH0 M) = some (some (qI (fPl M o p z 0)), qH0 M) := by
  rw [E_X4_pace, B_X4_pace_0 h.1]
  rfl
theorem sX5_pace {M : qMem} {t o p z : Int} (h : qPS M o p z) : S_X5_pace [qA t, qA o, qI p, qI z] (qH0 M) = some (some (qI (z + M (o + 3) p / 2)), qH0 M) := by
  obtain ⟨ho, hp, hn, hm, hv, hd, hr, hz⟩ := h
  have e : kdiv (M (o + 3) p) 2 = M (o + 3) p / 2 := kdiv_eq hv.1 (by omega) (by omega) (by omega)
  have e2 : kadd z (M (o + 3) p / 2) = z + M (o + 3) p / 2 := kadd_eq (by omega) (by omega)
  rw [E_X5_pace, B_X5_pace_0 ho hp.1 hp.2, e, e2]
theorem sX2_pace {M : qMem} {t o p z : Int} (h : qPS M o p z) : S_X2_pace [qA t, qA o, qI p, qI z] (qH0 M) = some (some (qI (fDry M o p z)), qH0 M) := by
  obtain ⟨ho, hp, hn, hm, hv, hd, hr, hz⟩ := h
  have e : kdiv (M (o + 5) p) 20 = M (o + 5) p / 20 := kdiv_eq hd.1 (by omega) (by omega) (by omega)
  have e2 : ksub z (M (o + 5) p / 20) = z - M (o + 5) p / 20 := ksub_eq (by omega) (by omega)
  rw [E_X2_pace, B_X2_pace_0 ho hp.1 hp.2]
  unfold fDry
  by_cases h2 : M (o + 4) p = 2
  · rw [qif_f (by omega), B_X2_pace_10 ho hp.1 hp.2, B_X2_pace_25 ho, e, e2, if_pos h2]
  · rw [qif_t h2, B_X2_pace_24 ho, B_X2_pace_25 ho, if_neg h2]
theorem lX9_pace {M : qMem} {t o p z : Int} (h : qPS M o p z) : ∀ d k : Nat, ((k + d : Nat) : Int) = M o 10 →
    qlim C_X9_pace (6, [some (qA t), some (qA o), some (qI p), some (qI z), some (qI (z - fAlike M o p k)), some (qI k)], [], qH0 M) = some (some (qI (z - fAlike M o p (k + d))), qH0 M)
  | 0, k, hk => by
    have ho := h.1
    rw [B_X9_pace_6 ho, qif_t (by omega), B_X9_pace_56 ho]
    rfl
  | d + 1, k, hk => by
    have ih := lX9_pace (t := t) h d (k + 1) (by omega)
    have hb := fAlike_lo (M := M) (o := o) (p := p) k
    obtain ⟨ho, hp, hn, hm, hv, hd, hr, hz⟩ := h
    have e1 : kadd (k : Int) 1 = ((k + 1 : Nat) : Int) := by rw [kadd_eq (by omega) (by omega)]; omega
    have e2 : kadd (z - fAlike M o p k) (-1) = z - (fAlike M o p k + 1) := by rw [kadd_eq (by omega) (by omega)]; omega
    have e3 : k + (d + 1) = k + 1 + d := by omega
    have e4 : fAlike M o p (k + 1) = if ¬ (k : Int) = p ∧ M (o + 8) k = 0 ∧ M (o + 4) k = M (o + 4) p then fAlike M o p k + 1 else fAlike M o p k := rfl
    rw [e3, ← ih, B_X9_pace_6 ho, qif_f (by omega), B_X9_pace_15 ho]
    by_cases h1 : (k : Int) = p
    · rw [qif_t h1, B_X9_pace_50 ho, e1, e4, if_neg (by omega)]
    · rw [qif_f h1, B_X9_pace_21 ho (by omega) (by omega)]
      by_cases h2 : M (o + 8) k = 0
      · rw [qif_f (by omega), B_X9_pace_31 ho (by omega) (by omega) hp.1 hp.2]
        by_cases h3 : M (o + 4) k = M (o + 4) p
        · rw [qif_f (by omega), B_X9_pace_47 ho, B_X9_pace_50 ho, e1, e2, e4, if_pos ⟨h1, h2, h3⟩]
        · rw [qif_t h3, B_X9_pace_50 ho, e1, e4, if_neg (fun q => h3 q.2.2)]
      · rw [qif_t h2, B_X9_pace_50 ho, e1, e4, if_neg (fun q => h2 q.2.1)]
theorem sX9_pace {M : qMem} {t o p z : Int} (h : qPS M o p z) : S_X9_pace [qA t, qA o, qI p, qI z] (qH0 M) = some (some (qI (fTalk M o p z)), qH0 M) := by
  have l := lX9_pace (t := t) h (M o 10).toNat 0 (by have := h.2.2.1; omega)
  have ho := h.1
  have e : (z - fAlike M o p 0) = z := by show z - 0 = z; omega
  rw [e, Nat.zero_add] at l
  rw [E_X9_pace, B_X9_pace_0 ho]
  exact l
theorem sX7_pace {M : qMem} {o p z : Int} (h : qPS M o p z) : S_X7_pace [qA 6, qA o, qI p, qI z] (qH0 M) = some (some (qI (fPl M o p z 4)), qH0 M) := by
  have s := sX5_pace (t := 6) h
  obtain ⟨ho, hp, hn, hm, hv, hd, hr, hz⟩ := h
  rw [E_X7_pace, B_X7_pace_0 ho rfl, s, qbd_some]
  have e2 : kadd (z + M (o + 3) p / 2) 2 = z + M (o + 3) p / 2 + 2 := kadd_eq (by omega) (by omega)
  show qlim C_X7_pace (7, [some (qA 6), some (qA o), some (qI p), some (qI z), none], [qI (z + M (o + 3) p / 2)], qH0 M) = _
  rw [B_X7_pace_7 ho hp.1 hp.2]
  by_cases h2 : M (o + 4) p = 2
  · rw [qif_f (by omega), B_X7_pace_19 ho, B_X7_pace_28 ho, e2]
    simp only [fPl, h2, if_true, Int.reduceEq, if_false]
  · rw [qif_t h2, B_X7_pace_26 ho, B_X7_pace_28 ho]
    simp only [fPl, h2, Int.reduceEq, if_false, if_true]
theorem sX1_pace {M : qMem} {o p z : Int} (h : qPS M o p z) : S_X1_pace [qA 7, qA o, qI p, qI z] (qH0 M) = some (some (qI (fPl M o p z 5)), qH0 M) := by
  have s := sX2_pace (t := 7) h
  obtain ⟨ho, hp, hn, hm, hv, hd, hr, hz⟩ := h
  have e : kadd (M (o + 3) p) 1 = M (o + 3) p + 1 := kadd_eq (by omega) (by omega)
  rw [E_X1_pace, B_X1_pace_0 ho rfl, s, qbd_some]
  show qlim C_X1_pace (7, [some (qA 7), some (qA o), some (qI p), some (qI z)], [qI (fDry M o p z)], qH0 M) = _
  rw [B_X1_pace_7 ho hp.1 hp.2, e]
  rfl
theorem sX10_pace {M : qMem} {o p z : Int} (h : qPS M o p z) : S_X10_pace [qA 8, qA o, qI p, qI z] (qH0 M) = some (some (qI (fPl M o p z 6)), qH0 M) := by
  have s := sX9_pace (t := 8) h
  have hb := fAlike_lo (M := M) (o := o) (p := p) (M o 10).toNat
  obtain ⟨ho, hp, hn, hm, hv, hd, hr, hz⟩ := h
  have e : kadd (kmul p 4) (krem (M o 11) 4) = 4 * p + M o 11 % 4 := by
    rw [kmul_eq (by omega) (by omega), krem_eq hm.1 (by omega) (by omega) (by omega), kadd_eq (by omega) (by omega)]
    omega
  have hq := hr (4 * p + M o 11 % 4) (by omega) (by omega)
  rw [E_X10_pace, B_X10_pace_0 ho rfl, s, qbd_some]
  show qlim C_X10_pace (7, [some (qA 8), some (qA o), some (qI p), some (qI z)], [qI (fTalk M o p z)], qH0 M) = _
  rw [B_X10_pace_7 ho (by rw [e]; omega) (by rw [e]; omega), e, kadd_eq (by unfold fTalk; omega) (by unfold fTalk; omega)]
  rfl
