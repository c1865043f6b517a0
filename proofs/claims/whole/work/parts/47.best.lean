/-! how large heaps must be, whom one would miss, best (class, reference) -/
def fEt (A : qMem) (n : Int) : qMem := fMin (qup (fTr A) 21 12 n) 21 30
def fEn (A : qMem) (y : Int) : Nat → Nat → Int
  | 0, _ => -5
  | d + 1, n => if y ≤ fEt A n 22 4 then n else fEn A y d (n + 1)
theorem fEt_x {A : qMem} {n : Int} (hA : qNow A) (hn : 1 ≤ n ∧ n ≤ 99) : qCu (fEt A n) A :=
  qCu_t (fMin_x (qTr_room (fTr_T hA) hn) _ (by omega)) (qCu_t (qCu_up (by unfold qIn; omega)) fTr_x)
theorem lX11_en {A : qMem} {y : Int} (hA : qNow A) : ∀ (d n : Nat) (N : qMem), n + d = 21 → 1 ≤ n → qCu N A →
    ∃ N' : qMem, qlim C_X11_enoughRoom (7, [some (qA 0), some (qI y), some (qI n)], [], qH0 N) = some (some (qI (fEn A y d n)), qH0 N') ∧ qCu N' A
  | 0, n, N, hn, h1, u => ⟨N, by simp (disch := first | assumption | omega) only [B_X11_enoughRoom_7, B_X11_enoughRoom_53, not_true_eq_false, not_false_eq_true, if_true, if_false, qlk, qtk, qif_t, qif_f, qbd_some, Option.toList_some, Option.toList_none, List.cons_append, List.nil_append, List.append_nil, fEn], u⟩
  | d + 1, n, N, hn, h1, u => by
    have e1 : kadd (n : Int) 1 = ((n + 1 : Nat) : Int) := by rw [kadd_eq (by omega) (by omega)]; omega
    have s1 := sT_bec hA u
    have s2 : S_X8_minutesGo [qA 21, qI 30] (qH0 (qup (fTr A) 21 12 n)) = some (some (qI (fEt A n 22 4)), qH0 (fEt A n)) := sT_minutesGo (n := 30) (qTr_room (fTr_T hA) (by omega)) (by omega) (by omega) (by omega)
    by_cases c : y ≤ fEt A n 22 4
    · have e : fEn A y (d + 1) n = n := if_pos c
      refine ⟨fEt A n, ?_, fEt_x hA (by omega)⟩
      rw [e]
      simp (disch := first | assumption | omega) only [B_X11_enoughRoom_7, B_X11_enoughRoom_13, B_X11_enoughRoom_24, B_X11_enoughRoom_41, B_X11_enoughRoom_45, not_true_eq_false, not_false_eq_true, if_true, if_false, qlk, qtk, qif_t, qif_f, qbd_some, Option.toList_some, Option.toList_none, List.cons_append, List.nil_append, List.append_nil, s1, s2]
    · have e : fEn A y (d + 1) n = fEn A y d (n + 1) := if_neg c
      obtain ⟨N', q1, q2⟩ := lX11_en (y := y) hA d (n + 1) (fEt A n) (by omega) (by omega) (fEt_x hA (by omega))
      refine ⟨N', ?_, q2⟩
      rw [e, ← q1]
      simp (disch := first | assumption | omega) only [B_X11_enoughRoom_7, B_X11_enoughRoom_13, B_X11_enoughRoom_24, B_X11_enoughRoom_41, B_X11_enoughRoom_47, not_true_eq_false, not_false_eq_true, if_true, if_false, qlk, qtk, qif_t, qif_f, qbd_some, Option.toList_some, Option.toList_none, List.cons_append, List.nil_append, List.append_nil, s1, s2, e1]
theorem sX11_enoughRoom {A : qMem} (hA : qNow A) : ∃ N' : qMem, S_X11_enoughRoom [qA 0] (qH0 A) = some (some (qI (fEn A (fMin (fTr A) 21 30 22 4) 20 1)), qH0 N') ∧ qCu N' A := by
  have s := sX11_yieldAsIs hA
  obtain ⟨N, q1, q2⟩ := lX11_en (y := fMin (fTr A) 21 30 22 4) hA 20 1 (fMin (fTr A) 21 30) (by omega) (by omega) (qCu_t (fMin_x (fTr_T hA) _ (by omega)) fTr_x)
  have z0 : ((1 : Nat) : Int) = 1 := rfl
  rw [z0] at q1
  refine ⟨N, ?_, q2⟩
  rw [← q1]
  simp (disch := first | assumption | omega) only [B_X11_enoughRoom_0, B_X11_enoughRoom_4, not_true_eq_false, not_false_eq_true, if_true, if_false, qlk, qtk, qif_t, qif_f, qbd_some, Option.toList_some, Option.toList_none, List.cons_append, List.nil_append, List.append_nil, E_X11_enoughRoom, s]
theorem lX12_en {A : qMem} {y : Int} (hA : qNow A) : ∀ (d n : Nat) (N : qMem), n + d = 21 → 1 ≤ n → qMN N A →
    ∃ N' : qMem, qlim C_X12_enoughOf (7, [some (qA 82), some (qI y), some (qI n)], [], qH0 N) = some (some (qI (fEn A y d n)), qH0 N') ∧ qMN N' A ∧ qMx N' N
  | 0, n, N, hn, h1, u => ⟨N, by simp (disch := first | assumption | omega) only [B_X12_enoughOf_7, B_X12_enoughOf_40, not_true_eq_false, not_false_eq_true, if_true, if_false, qlk, qtk, qif_t, qif_f, qbd_some, Option.toList_some, Option.toList_none, List.cons_append, List.nil_append, List.append_nil, fEn], u, qMx_r⟩
  | d + 1, n, N, hn, h1, u => by
    have e1 : kadd (n : Int) 1 = ((n + 1 : Nat) : Int) := by rw [kadd_eq (by omega) (by omega)]; omega
    obtain ⟨N1, a1, a2, a3, a4⟩ := sT_save u hA
    obtain ⟨N3, c1, c2, c3⟩ := sX12_yieldThen (n := 30) (qMT_room (n := n) a2 (fTr_T hA).1 (by omega)) (qTr_room (fTr_T hA) (by omega)) (by omega) (by omega) (by omega)
    have c1' : S_X12_yieldThen [qA 82, qI 30] (qH0 (qup N1 82 27 n)) = some (some (qI (fEt A n 22 4)), qH0 N3) := c1
    have hx : qMx N3 N := qMx_t c3 (qMx_t (qMx_f (qTf_up (by omega))) a4)
    by_cases c : y ≤ fEt A n 22 4
    · have e : fEn A y (d + 1) n = n := if_pos c
      refine ⟨N3, ?_, c2, hx⟩
      rw [e]
      simp (disch := first | assumption | omega) only [B_X12_enoughOf_7, B_X12_enoughOf_13, B_X12_enoughOf_17, B_X12_enoughOf_28, B_X12_enoughOf_32, not_true_eq_false, not_false_eq_true, if_true, if_false, qlk, qtk, qif_t, qif_f, qbd_some, Option.toList_some, Option.toList_none, List.cons_append, List.nil_append, List.append_nil, a1, c1']
    · have e : fEn A y (d + 1) n = fEn A y d (n + 1) := if_neg c
      obtain ⟨N', q1, q2, q3⟩ := lX12_en (y := y) hA d (n + 1) N3 (by omega) (by omega) c2
      refine ⟨N', ?_, q2, qMx_t q3 hx⟩
      rw [e, ← q1]
      simp (disch := first | assumption | omega) only [B_X12_enoughOf_7, B_X12_enoughOf_13, B_X12_enoughOf_17, B_X12_enoughOf_28, B_X12_enoughOf_34, not_true_eq_false, not_false_eq_true, if_true, if_false, qlk, qtk, qif_t, qif_f, qbd_some, Option.toList_some, Option.toList_none, List.cons_append, List.nil_append, List.append_nil, a1, c1', e1]
theorem sX12_enoughOf {N A : qMem} (hN : qMN N A) (hA : qNow A) : ∃ N' : qMem, S_X12_enoughOf [qA 82] (qH0 N) = some (some (qI (fEn A (fMin (fTr A) 21 30 22 4) 20 1)), qH0 N') ∧ qMN N' A ∧ qMx N' N := by
  obtain ⟨N1, a1, a2, a3⟩ := sX12_yield0 hN hA
  obtain ⟨N2, q1, q2, q3⟩ := lX12_en (y := fMin (fTr A) 21 30 22 4) hA 20 1 N1 (by omega) (by omega) a2
  have z0 : ((1 : Nat) : Int) = 1 := rfl
  rw [z0] at q1
  refine ⟨N2, ?_, q2, qMx_t q3 a3⟩
  rw [← q1]
  simp (disch := first | assumption | omega) only [B_X12_enoughOf_0, B_X12_enoughOf_4, not_true_eq_false, not_false_eq_true, if_true, if_false, qlk, qtk, qif_t, qif_f, qbd_some, Option.toList_some, Option.toList_none, List.cons_append, List.nil_append, List.append_nil, E_X12_enoughOf, a1]
/-! whom one would miss: (least, who) -/
def fMm (A : qMem) : Nat → Int × Int
  | 0 => (2147483647, -5)
  | p + 1 => if A 20 p = 0 ∧ fBw A p 30 22 4 < (fMm A p).1 then (fBw A p 30 22 4, p) else fMm A p
theorem fBw_lo {A : qMem} {p : Int} (hA : qNow A) : 0 ≤ fBw A p 30 22 4 ∧ fBw A p 30 22 4 ≤ 9999 := (fBw_T (p := p) (n := 30) hA (by omega) (by omega)).2.1.2.1 4 (by omega) (by omega)
theorem fMm_lo {A : qMem} (hA : qNow A) : ∀ p : Nat, (p : Int) ≤ 6 → ((fMm A p).2 = -5 ∧ (fMm A p).1 = 2147483647) ∨ (0 ≤ (fMm A p).2 ∧ (fMm A p).1 ≤ 9999)
  | 0, _ => Or.inl ⟨rfl, rfl⟩
  | p + 1, hp => by
    have ih := fMm_lo hA p (by omega)
    have hb := fBw_lo (p := p) hA
    unfold fMm
    generalize fBw A p 30 22 4 = y at hb ⊢
    split
    · refine Or.inr ⟨?_, ?_⟩
      · dsimp only
        omega
      · dsimp only
        omega
    · exact ih
theorem lX11_mm {A : qMem} (hA : qNow A) : ∀ (d p : Nat) (N : qMem) (x : Option qV), ((p + d : Nat) : Int) = A 12 10 → qCu N A →
    ∃ N' : qMem, qlim C_X11_mostMissed (8, [some (qA 0), some (qI (fMm A p).1), some (qI (fMm A p).2), some (qI p), x], [], qH0 N) = some (some (qI (fMm A (p + d)).2), qH0 N') ∧ qCu N' A
  | 0, p, N, x, hp, u => by
    have r := qCu_row u (a := 12) (by omega)
    exact ⟨N, by simp (disch := first | assumption | omega) only [B_X11_mostMissed_8, B_X11_mostMissed_57, not_true_eq_false, not_false_eq_true, if_true, if_false, qlk, qtk, qif_t, qif_f, qbd_some, Option.toList_some, Option.toList_none, List.cons_append, List.nil_append, List.append_nil, r]; rfl, u⟩
  | d + 1, p, N, x, hp, u => by
    have r := qCu_row u (a := 12) (by omega)
    have r20 := qCu_row u (a := 20) (by omega)
    have h6 := hA.1.2.1
    have e1 : kadd (p : Int) 1 = ((p + 1 : Nat) : Int) := by rw [kadd_eq (by omega) (by omega)]; omega
    have e3 : p + (d + 1) = p + 1 + d := by omega
    have s := sX11_behindWithout (p := p) (n := 30) hA u (by omega) (by omega) (by omega) (by omega)
    have e4 : fMm A (p + 1) = if A 20 p = 0 ∧ fBw A p 30 22 4 < (fMm A p).1 then (fBw A p 30 22 4, (p : Int)) else fMm A p := rfl
    rw [e3]
    by_cases c : A 20 p = 0
    · obtain ⟨N', q1, q2⟩ := lX11_mm hA d (p + 1) (fBw A p 30) (some (qI (fBw A p 30 22 4))) (by omega) (fBw_x hA (by omega) (by omega) (by omega) (by omega))
      refine ⟨N', ?_, q2⟩
      rw [← q1]
      by_cases c2 : fBw A p 30 22 4 < (fMm A p).1
      · rw [if_pos ⟨c, c2⟩] at e4
        rw [e4]
        simp (disch := first | assumption | omega) only [B_X11_mostMissed_8, B_X11_mostMissed_19, B_X11_mostMissed_31, B_X11_mostMissed_38, B_X11_mostMissed_46, B_X11_mostMissed_51, not_true_eq_false, not_false_eq_true, if_true, if_false, qlk, qtk, qif_t, qif_f, qbd_some, Option.toList_some, Option.toList_none, List.cons_append, List.nil_append, List.append_nil, r, r20, s, e1]
      · rw [if_neg (fun q => c2 q.2)] at e4
        rw [e4]
        simp (disch := first | assumption | omega) only [B_X11_mostMissed_8, B_X11_mostMissed_19, B_X11_mostMissed_31, B_X11_mostMissed_38, B_X11_mostMissed_51, not_true_eq_false, not_false_eq_true, if_true, if_false, qlk, qtk, qif_t, qif_f, qbd_some, Option.toList_some, Option.toList_none, List.cons_append, List.nil_append, List.append_nil, r, r20, s, e1]
    · obtain ⟨N', q1, q2⟩ := lX11_mm hA d (p + 1) N x (by omega) u
      refine ⟨N', ?_, q2⟩
      rw [if_neg (fun q => c q.1)] at e4
      rw [← q1, e4]
      simp (disch := first | assumption | omega) only [B_X11_mostMissed_8, B_X11_mostMissed_19, B_X11_mostMissed_51, not_true_eq_false, not_false_eq_true, if_true, if_false, qlk, qtk, qif_t, qif_f, qbd_some, Option.toList_some, Option.toList_none, List.cons_append, List.nil_append, List.append_nil, r, r20, e1]
theorem sX11_mostMissed {A : qMem} (hA : qNow A) : ∃ N' : qMem, S_X11_mostMissed [qA 0] (qH0 A) = some (some (qI (fMm A (A 12 10).toNat).2), qH0 N') ∧ qCu N' A := by
  have h6 := hA.1.2.1
  obtain ⟨N, q1, q2⟩ := lX11_mm hA (A 12 10).toNat 0 A none (by omega) qCu_r
  have e0 : fMm A 0 = (2147483647, -5) := rfl
  have z0 : ((0 : Nat) : Int) = 0 := rfl
  rw [Nat.zero_add, e0, z0] at q1
  refine ⟨N, ?_, q2⟩
  rw [← q1]
  simp (disch := first | assumption | omega) only [B_X11_mostMissed_0, not_true_eq_false, not_false_eq_true, if_true, if_false, qlk, qtk, qif_t, qif_f, qbd_some, Option.toList_some, Option.toList_none, List.cons_append, List.nil_append, List.append_nil, E_X11_mostMissed]
theorem lX12_mm {A : qMem} (hA : qNow A) : ∀ (d p : Nat) (N : qMem) (l : Int) (x : Option qV), ((p + d : Nat) : Int) = A 12 10 → qMN N A → ((fMm A p).2 < 0 ∨ l = (fMm A p).1) →
    ∃ N' : qMem, qlim C_X12_missOf (7, [some (qA 82), some (qI (fMm A p).2), some (qI l), some (qI p), x], [], qH0 N) = some (some (qI (fMm A (p + d)).2), qH0 N') ∧ qMN N' A ∧ qMx N' N
  | 0, p, N, l, x, hp, u, hl => by
    have r := u.1.1.1
    exact ⟨N, by simp (disch := first | assumption | omega) only [B_X12_missOf_7, B_X12_missOf_61, not_true_eq_false, not_false_eq_true, if_true, if_false, qlk, qtk, qif_t, qif_f, qbd_some, Option.toList_some, Option.toList_none, List.cons_append, List.nil_append, List.append_nil, r]; rfl, u, qMx_r⟩
  | d + 1, p, N, l, x, hp, u, hl => by
    have r := u.1.1.1
    have h6 := hA.1.2.1
    have e1 : kadd (p : Int) 1 = ((p + 1 : Nat) : Int) := by rw [kadd_eq (by omega) (by omega)]; omega
    have e3 : p + (d + 1) = p + 1 + d := by omega
    have hq := (u.1.2.2.2.1 p (by omega) (by omega)).2.2.2.2.2
    have hgo : A 20 p = 0 ∨ A 20 p = 1 := (hA.1.2.2.2.2.1 p (by omega) (by omega)).2.2.2
    have sH := sX12_has (M := N) u.1.2.1.1 u.1.2.1.2 (show (0 : Int) ≤ p by omega) (by omega) hgo hq
    have hlo := fMm_lo hA p (by omega)
    have hb := fBw_lo (p := p) hA
    have e4 : fMm A (p + 1) = if A 20 p = 0 ∧ fBw A p 30 22 4 < (fMm A p).1 then (fBw A p 30 22 4, (p : Int)) else fMm A p := rfl
    rw [e3]
    by_cases c : A 20 p = 0
    · obtain ⟨N1, a1, a2, a3⟩ := sX12_without (p := p) u hA (by omega)
      by_cases c2 : fBw A p 30 22 4 < (fMm A p).1
      · rw [if_pos ⟨c, c2⟩] at e4
        obtain ⟨N', q1, q2, q3⟩ := lX12_mm hA d (p + 1) N1 (fBw A p 30 22 4) (some (qI (fBw A p 30 22 4))) (by omega) a2 (Or.inr (by rw [e4]))
        refine ⟨N', ?_, q2, qMx_t q3 a3⟩
        rw [← q1, e4]
        by_cases c3 : (fMm A p).2 < 0
        · simp (disch := first | assumption | omega) only [B_X12_missOf_7, B_X12_missOf_15, B_X12_missOf_24, B_X12_missOf_30, B_X12_missOf_35, B_X12_missOf_50, B_X12_missOf_55, not_true_eq_false, not_false_eq_true, if_true, if_false, qlk, qtk, qif_t, qif_f, qbd_some, Option.toList_some, Option.toList_none, List.cons_append, List.nil_append, List.append_nil, r, sH, c, a1, e1]
        · simp (disch := first | assumption | omega) only [B_X12_missOf_7, B_X12_missOf_15, B_X12_missOf_24, B_X12_missOf_30, B_X12_missOf_35, B_X12_missOf_41, B_X12_missOf_50, B_X12_missOf_55, not_true_eq_false, not_false_eq_true, if_true, if_false, qlk, qtk, qif_t, qif_f, qbd_some, Option.toList_some, Option.toList_none, List.cons_append, List.nil_append, List.append_nil, r, sH, c, a1, e1]
      · rw [if_neg (fun q => c2 q.2)] at e4
        obtain ⟨N', q1, q2, q3⟩ := lX12_mm hA d (p + 1) N1 l (some (qI (fBw A p 30 22 4))) (by omega) a2 (by rw [e4]; exact hl)
        refine ⟨N', ?_, q2, qMx_t q3 a3⟩
        rw [← q1, e4]
        simp (disch := first | assumption | omega) only [B_X12_missOf_7, B_X12_missOf_15, B_X12_missOf_24, B_X12_missOf_30, B_X12_missOf_35, B_X12_missOf_41, B_X12_missOf_47, B_X12_missOf_55, not_true_eq_false, not_false_eq_true, if_true, if_false, qlk, qtk, qif_t, qif_f, qbd_some, Option.toList_some, Option.toList_none, List.cons_append, List.nil_append, List.append_nil, r, sH, c, a1, e1]
    · rw [if_neg (fun q => c q.1)] at e4
      obtain ⟨N', q1, q2, q3⟩ := lX12_mm hA d (p + 1) N l x (by omega) u (by rw [e4]; exact hl)
      refine ⟨N', ?_, q2, q3⟩
      rw [← q1, e4]
      simp (disch := first | assumption | omega) only [B_X12_missOf_7, B_X12_missOf_15, B_X12_missOf_24, B_X12_missOf_27, B_X12_missOf_55, not_true_eq_false, not_false_eq_true, if_true, if_false, qlk, qtk, qif_t, qif_f, qbd_some, Option.toList_some, Option.toList_none, List.cons_append, List.nil_append, List.append_nil, r, sH, e1]
theorem sX12_missOf {N A : qMem} (hN : qMN N A) (hA : qNow A) : ∃ N' : qMem, S_X12_missOf [qA 82] (qH0 N) = some (some (qI (fMm A (A 12 10).toNat).2), qH0 N') ∧ qMN N' A ∧ qMx N' N := by
  have h6 := hA.1.2.1
  obtain ⟨N2, q1, q2, q3⟩ := lX12_mm hA (A 12 10).toNat 0 N 0 none (by omega) hN (Or.inl (by show (-5 : Int) < 0; omega))
  have e0 : fMm A 0 = (2147483647, -5) := rfl
  have z0 : ((0 : Nat) : Int) = 0 := rfl
  rw [Nat.zero_add, e0, z0] at q1
  refine ⟨N2, ?_, q2, q3⟩
  rw [← q1]
  simp (disch := first | assumption | omega) only [B_X12_missOf_0, not_true_eq_false, not_false_eq_true, if_true, if_false, qlk, qtk, qif_t, qif_f, qbd_some, Option.toList_some, Option.toList_none, List.cons_append, List.nil_append, List.append_nil, E_X12_missOf]
def fBest (A : qMem) (w : Int) : Int :=
  if w = 0 then (fMv A (A 12 10).toNat).2 else if w = 1 then (fSv A (A 12 10).toNat).2 else if w = 2 then fEn A (fMin (fTr A) 21 30 22 4) 20 1
  else if w = 3 then (fMm A (A 12 10).toNat).2 else if w = 4 then fMin (fTr A) 21 30 22 4 else -1
theorem sX11_best {A : qMem} {w : Int} (hA : qNow A) : ∃ N' : qMem, S_X11_best [qA 0, qI w] (qH0 A) = some (some (qI (fBest A w)), qH0 N') ∧ qCu N' A := by
  by_cases c0 : w = 0
  · obtain ⟨N, q1, q2⟩ := sX11_bestMove hA
    refine ⟨N, ?_, q2⟩
    have e : fBest A w = (fMv A (A 12 10).toNat).2 := if_pos c0
    rw [e]
    simp (disch := first | assumption | omega) only [B_X11_best_0, B_X11_best_36, B_X11_best_40, not_true_eq_false, not_false_eq_true, if_true, if_false, qlk, qtk, qif_t, qif_f, qbd_some, Option.toList_some, Option.toList_none, List.cons_append, List.nil_append, List.append_nil, E_X11_best, q1]
  · by_cases c1 : w = 1
    · obtain ⟨N, q1, q2⟩ := sX11_bestSwap hA
      refine ⟨N, ?_, q2⟩
      have e : fBest A w = (fSv A (A 12 10).toNat).2 := by unfold fBest; rw [if_neg c0, if_pos c1]
      rw [e]
      simp (disch := first | assumption | omega) only [B_X11_best_0, B_X11_best_41, B_X11_best_45, not_true_eq_false, not_false_eq_true, if_true, if_false, qlk, qtk, qif_t, qif_f, qbd_some, Option.toList_some, Option.toList_none, List.cons_append, List.nil_append, List.append_nil, E_X11_best, q1]
    · by_cases c2 : w = 2
      · obtain ⟨N, q1, q2⟩ := sX11_enoughRoom hA
        refine ⟨N, ?_, q2⟩
        have e : fBest A w = fEn A (fMin (fTr A) 21 30 22 4) 20 1 := by unfold fBest; rw [if_neg c0, if_neg c1, if_pos c2]
        rw [e]
        simp (disch := first | assumption | omega) only [B_X11_best_0, B_X11_best_46, B_X11_best_50, not_true_eq_false, not_false_eq_true, if_true, if_false, qlk, qtk, qif_t, qif_f, qbd_some, Option.toList_some, Option.toList_none, List.cons_append, List.nil_append, List.append_nil, E_X11_best, q1]
      · by_cases c3 : w = 3
        · obtain ⟨N, q1, q2⟩ := sX11_mostMissed hA
          refine ⟨N, ?_, q2⟩
          have e : fBest A w = (fMm A (A 12 10).toNat).2 := by unfold fBest; rw [if_neg c0, if_neg c1, if_neg c2, if_pos c3]
          rw [e]
          simp (disch := first | assumption | omega) only [B_X11_best_0, B_X11_best_51, B_X11_best_55, not_true_eq_false, not_false_eq_true, if_true, if_false, qlk, qtk, qif_t, qif_f, qbd_some, Option.toList_some, Option.toList_none, List.cons_append, List.nil_append, List.append_nil, E_X11_best, q1]
        · by_cases c4 : w = 4
          · have q1 := sX11_yieldAsIs hA
            refine ⟨_, ?_, qCu_t (fMin_x (fTr_T hA) 30 (by omega)) fTr_x⟩
            have e : fBest A w = fMin (fTr A) 21 30 22 4 := by unfold fBest; rw [if_neg c0, if_neg c1, if_neg c2, if_neg c3, if_pos c4]
            rw [e]
            simp (disch := first | assumption | omega) only [B_X11_best_0, B_X11_best_56, B_X11_best_60, not_true_eq_false, not_false_eq_true, if_true, if_false, qlk, qtk, qif_t, qif_f, qbd_some, Option.toList_some, Option.toList_none, List.cons_append, List.nil_append, List.append_nil, E_X11_best, q1]
          · refine ⟨A, ?_, qCu_r⟩
            have e : fBest A w = -1 := by unfold fBest; rw [if_neg c0, if_neg c1, if_neg c2, if_neg c3, if_neg c4]
            rw [e]
            simp (disch := first | assumption | omega) only [B_X11_best_0, B_X11_best_61, not_true_eq_false, not_false_eq_true, if_true, if_false, qlk, qtk, qif_t, qif_f, qbd_some, Option.toList_some, Option.toList_none, List.cons_append, List.nil_append, List.append_nil, E_X11_best]
theorem sX12_best {N A : qMem} {w : Int} (hN : qMN N A) (hA : qNow A) : ∃ N' : qMem, S_X12_best [qA 82, qI w] (qH0 N) = some (some (qI (fBest A w)), qH0 N') ∧ qMN N' A ∧ qMx N' N := by
  by_cases c0 : w = 0
  · obtain ⟨N', q1, q2⟩ := sX12_moveOf hN hA
    refine ⟨N', ?_, q2⟩
    have e : fBest A w = (fMv A (A 12 10).toNat).2 := if_pos c0
    rw [e]
    simp (disch := first | assumption | omega) only [B_X12_best_0, B_X12_best_36, B_X12_best_40, not_true_eq_false, not_false_eq_true, if_true, if_false, qlk, qtk, qif_t, qif_f, qbd_some, Option.toList_some, Option.toList_none, List.cons_append, List.nil_append, List.append_nil, E_X12_best, q1]
  · by_cases c1 : w = 1
    · obtain ⟨N', q1, q2⟩ := sX12_swapOf hN hA
      refine ⟨N', ?_, q2⟩
      have e : fBest A w = (fSv A (A 12 10).toNat).2 := by unfold fBest; rw [if_neg c0, if_pos c1]
      rw [e]
      simp (disch := first | assumption | omega) only [B_X12_best_0, B_X12_best_41, B_X12_best_45, not_true_eq_false, not_false_eq_true, if_true, if_false, qlk, qtk, qif_t, qif_f, qbd_some, Option.toList_some, Option.toList_none, List.cons_append, List.nil_append, List.append_nil, E_X12_best, q1]
    · by_cases c2 : w = 2
      · obtain ⟨N', q1, q2⟩ := sX12_enoughOf hN hA
        refine ⟨N', ?_, q2⟩
        have e : fBest A w = fEn A (fMin (fTr A) 21 30 22 4) 20 1 := by unfold fBest; rw [if_neg c0, if_neg c1, if_pos c2]
        rw [e]
        simp (disch := first | assumption | omega) only [B_X12_best_0, B_X12_best_46, B_X12_best_50, not_true_eq_false, not_false_eq_true, if_true, if_false, qlk, qtk, qif_t, qif_f, qbd_some, Option.toList_some, Option.toList_none, List.cons_append, List.nil_append, List.append_nil, E_X12_best, q1]
      · by_cases c3 : w = 3
        · obtain ⟨N', q1, q2⟩ := sX12_missOf hN hA
          refine ⟨N', ?_, q2⟩
          have e : fBest A w = (fMm A (A 12 10).toNat).2 := by unfold fBest; rw [if_neg c0, if_neg c1, if_neg c2, if_pos c3]
          rw [e]
          simp (disch := first | assumption | omega) only [B_X12_best_0, B_X12_best_51, B_X12_best_55, not_true_eq_false, not_false_eq_true, if_true, if_false, qlk, qtk, qif_t, qif_f, qbd_some, Option.toList_some, Option.toList_none, List.cons_append, List.nil_append, List.append_nil, E_X12_best, q1]
        · by_cases c4 : w = 4
          · obtain ⟨N', q1, q2⟩ := sX12_yield0 hN hA
            refine ⟨N', ?_, q2⟩
            have e : fBest A w = fMin (fTr A) 21 30 22 4 := by unfold fBest; rw [if_neg c0, if_neg c1, if_neg c2, if_neg c3, if_pos c4]
            rw [e]
            simp (disch := first | assumption | omega) only [B_X12_best_0, B_X12_best_56, B_X12_best_60, not_true_eq_false, not_false_eq_true, if_true, if_false, qlk, qtk, qif_t, qif_f, qbd_some, Option.toList_some, Option.toList_none, List.cons_append, List.nil_append, List.append_nil, E_X12_best, q1]
          · refine ⟨N, ?_, hN, qMx_r⟩
            have e : fBest A w = -1 := by unfold fBest; rw [if_neg c0, if_neg c1, if_neg c2, if_neg c3, if_neg c4]
            rw [e]
            simp (disch := first | assumption | omega) only [B_X12_best_0, B_X12_best_61, not_true_eq_false, not_false_eq_true, if_true, if_false, qlk, qtk, qif_t, qif_f, qbd_some, Option.toList_some, Option.toList_none, List.cons_append, List.nil_append, List.append_nil, E_X12_best]
