/-! what a minute keeps; minutes (the class) -/
theorem qup_row {M : qMem} {a k v a' : Int} (h : ¬ a' = a) : qup M a k v a' = M a' := funext (fun _ => qup_ne (fun q => h q.1))
theorem fTc_row {M M' : qMem} {g : Int} (h : M' (g + 2) = M (g + 2)) : ∀ n : Nat, fTc M' g n = fTc M g n
  | 0 => rfl
  | n + 1 => by
    have ih := fTc_row h n
    unfold fTc
    rw [h, ih]
theorem qHI_row {M M' : qMem} {g : Int} (h : qHI M g) (h1 : M' g = M g) (h2 : M' (g + 2) = M (g + 2)) : qHI M' g := by
  unfold qHI at h ⊢
  rw [h1, h2, fTc_row h2]
  exact h
theorem qSF_row {M M' : qMem} {o : Int} (h : qSF M o) (h1 : M' o 1 = M o 1) (h10 : M' o 10 = M o 10) (h12 : M' o 12 = M o 12) (h13 : M' o 13 = M o 13) (a2 : M' (o + 2) = M (o + 2)) (a3 : M' (o + 3) = M (o + 3)) (a4 : M' (o + 4) = M (o + 4)) (a7 : M' (o + 7) = M (o + 7)) (a8 : M' (o + 8) = M (o + 8)) (g1 : M' (M o 13) = M (M o 13)) (g2 : M' (M o 13 + 2) = M (M o 13 + 2)) : qSF M' o := by
  have hh := qHI_row h.2.2.2.2.2.2 g1 g2
  unfold qSF
  rw [h1, h10, h12, h13, a2, a3, a4, a7, a8]
  exact ⟨h.1, h.2.1, h.2.2.1, h.2.2.2.1, h.2.2.2.2.1, h.2.2.2.2.2.1, hh⟩
theorem qSF_g {M : qMem} {o : Int} (h : qSF M o) : (∀ c : Int, 1 ≤ c → c ≤ 8 → ¬ M o 13 = o + c ∧ ¬ M o 13 + 2 = o + c) ∧ ¬ M o 13 = o ∧ ¬ M o 13 + 2 = o := by
  have h1 := h.1
  have h2 := h.2.2.2.2.2.2.1
  unfold qSt at h1
  unfold qHl at h2
  refine ⟨fun c hc hc2 => ?_, ?_, ?_⟩ <;> omega
theorem fWorks_row {M : qMem} {o p a : Int} (h1 : ¬ a = o + 1) (h5 : ¬ a = o + 5) (h6 : ¬ a = o + 6) : fWorks M o p a = M a := by
  unfold fWorks
  split
  · rw [qup_row h5, qup_row h1, qup_row h1]
  · rw [qup_row h6]
theorem fWorks_F {M : qMem} {o p : Int} (h : qSF M o) : qSF (fWorks M o p) o := by
  have g := qSF_g h
  have g1 := g.1 1 (by omega) (by omega)
  have g5 := g.1 5 (by omega) (by omega)
  have g6 := g.1 6 (by omega) (by omega)
  have r0 : fWorks M o p o = M o := fWorks_row (by omega) (by omega) (by omega)
  exact qSF_row h (by rw [r0]) (by rw [r0]) (by rw [r0]) (by rw [r0]) (fWorks_row (by omega) (by omega) (by omega)) (fWorks_row (by omega) (by omega) (by omega)) (fWorks_row (by omega) (by omega) (by omega)) (fWorks_row (by omega) (by omega) (by omega)) (fWorks_row (by omega) (by omega) (by omega)) (fWorks_row g1.1 g5.1 g6.1) (fWorks_row g1.2 g5.2 g6.2)
theorem fWorks_V {M : qMem} {o p : Int} (hF : qSF M o) (hV : qSV M o p) (h1 : 0 ≤ p) (h2 : p < 6) : qSV (fWorks M o p) o (p + 1) := by
  have r0 : fWorks M o p o = M o := fWorks_row (by omega) (by omega) (by omega)
  have hN := fN_lo hF hV h1 h2
  have hw := (hF.2.2.2.2.1 p h1 h2).2.2.1
  have hc := hF.2.2.2.1
  obtain ⟨v1, v2, v3⟩ := hV
  have ha := v2 (M (o + 4) p) (by omega) (by omega)
  have hb := v2 (M (o + 4) p + 1) (by omega) (by omega)
  refine ⟨by rw [r0]; exact v1, fun k k1 k2 => ?_, fun q q1 q2 => ?_⟩
  · have hk := v2 k k1 k2
    unfold fWorks
    split
    · rename_i c
      have hbb := hN.2.2 c
      rw [qup_ne (by omega)]
      by_cases d : k = M (o + 4) p + 1
      · subst d
        rw [qup_self]
        omega
      · rw [qup_ne (by omega)]
        by_cases d2 : k = M (o + 4) p
        · subst d2
          rw [qup_self]
          omega
        · rw [qup_ne (by omega)]
          exact hk
    · rw [qup_ne (by omega)]
      exact hk
  · rw [r0]
    have hq := v3 q q1 q2
    have hm := v1.1
    by_cases d : q = p
    · subst d
      rw [if_neg (Int.lt_irrefl q)] at hq
      rw [if_pos (by omega)]
      unfold fWorks
      split
      · rename_i c
        have n1 := hN.2.1
        rw [qup_self, qup_ne (a' := o + 6) (by omega), qup_ne (a' := o + 6) (by omega), qup_ne (a' := o + 6) (by omega)]
        omega
      · rw [qup_self, qup_ne (a' := o + 5) (by omega)]
        omega
    · have e5 : fWorks M o p (o + 5) q = M (o + 5) q := by
        unfold fWorks
        split
        · rw [qup_ne (by omega), qup_ne (by omega), qup_ne (by omega)]
        · rw [qup_ne (by omega)]
      have e6 : fWorks M o p (o + 6) q = M (o + 6) q := by
        unfold fWorks
        split
        · rw [qup_ne (by omega), qup_ne (by omega), qup_ne (by omega)]
        · rw [qup_ne (by omega)]
      rw [e5, e6]
      by_cases d2 : q < p
      · rw [if_pos d2] at hq
        rw [if_pos (by omega)]
        exact hq
      · rw [if_neg d2] at hq
        rw [if_neg (by omega)]
        exact hq
theorem qSV_s {M : qMem} {o p : Int} (hV : qSV M o p) : qSV M o (p + 1) := by
  obtain ⟨v1, v2, v3⟩ := hV
  refine ⟨v1, v2, fun q q1 q2 => ?_⟩
  have := v3 q q1 q2
  split at this <;> split <;> omega
/-- the people one by one -/
def fPp (M : qMem) (o : Int) : Nat → qMem
  | 0 => M
  | j + 1 => if M (o + 8) j = 0 then fWorks (fPp M o j) o j else fPp M o j
theorem fPp_row {M : qMem} {o a : Int} (h1 : ¬ a = o + 1) (h5 : ¬ a = o + 5) (h6 : ¬ a = o + 6) : ∀ j : Nat, fPp M o j a = M a
  | 0 => rfl
  | j + 1 => by
    have ih := fPp_row h1 h5 h6 (M := M) j
    unfold fPp
    split
    · rw [fWorks_row h1 h5 h6, ih]
    · exact ih
theorem fPp_I {M : qMem} {o : Int} (hF : qSF M o) (hV : qSV M o 0) : ∀ j : Nat, (j : Int) ≤ 6 → qSF (fPp M o j) o ∧ qSV (fPp M o j) o j
  | 0, _ => ⟨hF, hV⟩
  | j + 1, hj => by
    have ih := fPp_I hF hV j (by omega)
    unfold fPp
    split
    · exact ⟨fWorks_F ih.1, by have := fWorks_V ih.1 ih.2 (by omega) (by omega); exact this⟩
    · exact ⟨ih.1, by have := qSV_s ih.2; exact this⟩
/-- a minute -/
def fMi (M : qMem) (o : Int) : qMem :=
  qup (qup (fPp M o (M o 10).toNat) (o + 1) 0 (min (fPp M o (M o 10).toNat (o + 1) 0 + M (M o 13) 5) 9999)) o 11 (M o 11 + 1)
def fMin (M : qMem) (o : Int) : Nat → qMem
  | 0 => M
  | n + 1 => fMi (fMin M o n) o
theorem fMi_row {M : qMem} {o a : Int} (h0 : ¬ a = o) (h1 : ¬ a = o + 1) (h5 : ¬ a = o + 5) (h6 : ¬ a = o + 6) : fMi M o a = M a := by
  unfold fMi
  rw [qup_row h0, qup_row h1, fPp_row h1 h5 h6]
theorem fMi_0 {M : qMem} {o k : Int} (h : ¬ k = 11) : fMi M o o k = M o k := by
  unfold fMi
  rw [qup_ne (by omega), qup_row (by omega), fPp_row (by omega) (by omega) (by omega)]
theorem fMi_11 {M : qMem} {o : Int} : fMi M o o 11 = M o 11 + 1 := by
  unfold fMi
  rw [qup_self]
theorem fMi_F {M : qMem} {o : Int} (h : qSF M o) : qSF (fMi M o) o := by
  have g := qSF_g h
  have g1 := g.1 1 (by omega) (by omega)
  have g5 := g.1 5 (by omega) (by omega)
  have g6 := g.1 6 (by omega) (by omega)
  exact qSF_row h (fMi_0 (by omega)) (fMi_0 (by omega)) (fMi_0 (by omega)) (fMi_0 (by omega)) (fMi_row (by omega) (by omega) (by omega) (by omega)) (fMi_row (by omega) (by omega) (by omega) (by omega)) (fMi_row (by omega) (by omega) (by omega) (by omega)) (fMi_row (by omega) (by omega) (by omega) (by omega)) (fMi_row (by omega) (by omega) (by omega) (by omega)) (fMi_row g.2.1 g1.1 g5.1 g6.1) (fMi_row g.2.2 g1.2 g5.2 g6.2)
theorem fMi_V {M : qMem} {o : Int} (hF : qSF M o) (hV : qSV M o 0) (hm : M o 11 + 1 ≤ 10200) : qSV (fMi M o) o 0 := by
  have hn := hF.2.1
  have hp := (fPp_I hF hV (M o 10).toNat (by omega)).2
  have hg := hF.2.2.2.2.2.2.2.2.2.1
  have r0 : fPp M o (M o 10).toNat o = M o := fPp_row (by omega) (by omega) (by omega) _
  obtain ⟨v1, v2, v3⟩ := hp
  rw [r0] at v1
  refine ⟨by rw [fMi_11]; omega, fun k k1 k2 => ?_, fun q q1 q2 => ?_⟩
  · unfold fMi
    rw [qup_ne (by omega)]
    have h0 := v2 0 (by omega) (by omega)
    by_cases d : k = 0
    · subst d
      rw [qup_self]
      omega
    · rw [qup_ne (by omega)]
      exact v2 k k1 k2
  · have hq := v3 q q1 q2
    rw [r0] at hq
    have e5 : fMi M o (o + 5) q = fPp M o (M o 10).toNat (o + 5) q := by
      unfold fMi
      rw [qup_ne (by omega), qup_ne (by omega)]
    have e6 : fMi M o (o + 6) q = fPp M o (M o 10).toNat (o + 6) q := by
      unfold fMi
      rw [qup_ne (by omega), qup_ne (by omega)]
    rw [fMi_11, e5, e6, if_neg (by omega), fMi_0 (k := 1) (by omega)]
    split at hq <;> omega
theorem fMin_I {M : qMem} {o : Int} (hF : qSF M o) (hV : qSV M o 0) : ∀ n : Nat, M o 11 + n ≤ 10200 → qSF (fMin M o n) o ∧ qSV (fMin M o n) o 0 ∧ fMin M o n o 11 = M o 11 + n
  | 0, _ => ⟨hF, hV, (Int.add_zero _).symm⟩
  | n + 1, hn => by
    have ih := fMin_I hF hV n (by omega)
    refine ⟨fMi_F ih.1, fMi_V ih.1 ih.2.1 (by omega), ?_⟩
    show fMi (fMin M o n) o o 11 = _
    rw [fMi_11]
    omega
theorem fMin_row {M : qMem} {o a : Int} (h0 : ¬ a = o) (h1 : ¬ a = o + 1) (h5 : ¬ a = o + 5) (h6 : ¬ a = o + 6) : ∀ n : Nat, fMin M o n a = M a
  | 0 => rfl
  | n + 1 => (fMi_row h0 h1 h5 h6).trans (fMin_row h0 h1 h5 h6 n)
theorem fMin_0 {M : qMem} {o k : Int} (h : ¬ k = 11) : ∀ n : Nat, fMin M o n o k = M o k
  | 0 => rfl
  | n + 1 => (fMi_0 h).trans (fMin_0 h n)
theorem lX8_people {M : qMem} {o n i : Int} (hF : qSF M o) (hV : qSV M o 0) : ∀ d j : Nat, ((j + d : Nat) : Int) = M o 10 →
    qlim C_X8_minutesGo (9, [some (qA o), some (qI n), some (qI i), some (qI j)], [], qH0 (fPp M o j)) = qlim C_X8_minutesGo (37, [some (qA o), some (qI n), some (qI i), some (qI (M o 10))], [], qH0 (fPp M o (j + d)))
  | 0, j, hj => by
    have ho := hF.1
    have r0 : fPp M o j o = M o := fPp_row (by omega) (by omega) (by omega) _
    rw [B_X8_minutesGo_9 ho, r0, qif_t (by omega)]
    have e : (j : Int) = M o 10 := by omega
    rw [e]
    rfl
  | d + 1, j, hj => by
    have ho := hF.1
    have hn := hF.2.1
    have r0 : fPp M o j o = M o := fPp_row (by omega) (by omega) (by omega) _
    have r8 : fPp M o j (o + 8) = M (o + 8) := fPp_row (by omega) (by omega) (by omega) _
    have I := fPp_I hF hV j (by omega)
    have ih := lX8_people (n := n) (i := i) hF hV d (j + 1) (by omega)
    have e1 : kadd (j : Int) 1 = ((j + 1 : Nat) : Int) := by rw [kadd_eq (by omega) (by omega)]; omega
    have e3 : j + (d + 1) = j + 1 + d := by omega
    have e4 : fPp M o (j + 1) = if M (o + 8) j = 0 then fWorks (fPp M o j) o j else fPp M o j := rfl
    rw [e3, ← ih, B_X8_minutesGo_9 ho, r0, qif_f (by omega), B_X8_minutesGo_17 ho (by omega) (by omega), r8]
    by_cases c : M (o + 8) j = 0
    · rw [qif_f (by omega), B_X8_minutesGo_26 ho, sX8_works I.1 I.2 (by omega) (by omega), qbd_some, e4, if_pos c]
      show qlim C_X8_minutesGo (31, [some (qA o), some (qI n), some (qI i), some (qI j)], [], qH0 (fWorks (fPp M o j) o j)) = _
      rw [B_X8_minutesGo_31 ho, e1]
    · rw [qif_t c, B_X8_minutesGo_31 ho, e1, e4, if_neg c]
theorem lX8_minute {M : qMem} {o n i : Int} {w : Option qV} (hF : qSF M o) (hV : qSV M o 0) (h1 : 0 ≤ i) (h2 : i < n) (h3 : n ≤ 1000) :
    qlim C_X8_minutesGo (2, [some (qA o), some (qI n), some (qI i), w], [], qH0 M) = qlim C_X8_minutesGo (2, [some (qA o), some (qI n), some (qI (i + 1)), some (qI (M o 10))], [], qH0 (fMi M o)) := by
  have ho := hF.1
  have hn := hF.2.1
  have L := lX8_people (n := n) (i := i) hF hV (M o 10).toNat 0 (by omega)
  have hp := fPp_I hF hV (M o 10).toNat (by omega)
  have r0 : fPp M o (M o 10).toNat o = M o := fPp_row (by omega) (by omega) (by omega) _
  have g := qSF_g hF
  have rg : fPp M o (M o 10).toNat (M o 13) = M (M o 13) := fPp_row (g.1 1 (by omega) (by omega)).1 (g.1 5 (by omega) (by omega)).1 (g.1 6 (by omega) (by omega)).1 _
  have hg := hF.2.2.2.2.2.2.2.2.2.1
  have h0 := hp.2.2.1 0 (by omega) (by omega)
  have hm := hV.1
  rw [Nat.zero_add] at L
  rw [B_X8_minutesGo_2 ho, qif_f (by omega), B_X8_minutesGo_7 ho]
  refine L.trans ?_
  rw [B_X8_minutesGo_37 ho (by rw [r0]; exact qHl_ty hF.2.2.2.2.2.2.1), r0, rg, kadd_eq (a := i) (by omega) (by omega), kadd_eq (a := fPp M o (M o 10).toNat (o + 1) 0) (by omega) (by omega), qup_ne (a' := o) (by omega), r0, kadd_eq (a := M o 11) (by omega) (by omega)]
  rfl
theorem lX8_minutes {M : qMem} {o n : Int} (hF : qSF M o) (hV : qSV M o 0) (hn : n ≤ 1000) (hm : M o 11 + n ≤ 10200) : ∀ (d i : Nat) (w : Option qV), ((i + d : Nat) : Int) = n →
    qlim C_X8_minutesGo (2, [some (qA o), some (qI n), some (qI i), w], [], qH0 (fMin M o i)) = some (some (qI (fMin M o (i + d) (o + 1) 4)), qH0 (fMin M o (i + d)))
  | 0, i, w, hi => by
    have ho := hF.1
    rw [B_X8_minutesGo_2 ho, qif_t (by omega), B_X8_minutesGo_79 ho]
    rfl
  | d + 1, i, w, hi => by
    have I := fMin_I hF hV i (by omega)
    have ih := lX8_minutes hF hV hn hm d (i + 1) (some (qI (fMin M o i o 10))) (by omega)
    have e3 : i + (d + 1) = i + 1 + d := by omega
    have e4 : (i : Int) + 1 = ((i + 1 : Nat) : Int) := by omega
    rw [e3, ← ih, lX8_minute I.1 I.2.1 (by omega) (by omega) hn, e4]
    rfl
theorem sX8_minutesGo {M : qMem} {o n : Int} (hF : qSF M o) (hV : qSV M o 0) (h0 : 0 ≤ n) (hn : n ≤ 1000) (hm : M o 11 + n ≤ 10200) : S_X8_minutesGo [qA o, qI n] (qH0 M) = some (some (qI (fMin M o n.toNat (o + 1) 4)), qH0 (fMin M o n.toNat)) := by
  have l := lX8_minutes hF hV hn hm n.toNat 0 none (by omega)
  rw [Nat.zero_add] at l
  rw [E_X8_minutesGo, B_X8_minutesGo_0 hF.1]
  exact l
