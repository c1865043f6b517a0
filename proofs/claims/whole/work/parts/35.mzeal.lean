/-! a clause holds; zeal (the reference) -/
theorem qDs_le {t : Int} {d e : Nat} (h : qDs t d = some e) : e ≤ d + 1 := by
  unfold qDs at h
  split at h
  · split at h
    · cases h
      omega
    · cases h
  · split at h
    · split at h
      · cases h
        omega
      · cases h
    · cases h
      omega
theorem qDp_le {M : qMem} {s : Int} : ∀ {k d : Nat}, qDp M s k = some d → d ≤ k
  | 0, d, h => by cases h; exact Nat.le_refl _
  | k + 1, d, h => by
    unfold qDp at h
    cases hk : qDp M s k with
    | none => rw [hk] at h; cases h
    | some y =>
      rw [hk] at h
      have h1 := qDp_le hk
      have h2 := qDs_le h
      omega
theorem qDp_some {M : qMem} {s : Int} {k : Nat} : ∀ e : Nat, ∀ x : Nat, qDp M s (k + e) = some x → ∃ y, qDp M s k = some y
  | 0, x, h => ⟨x, h⟩
  | e + 1, x, h => by
    have h2 : (qDp M s (k + e)).bind (qDs (M 96 (s + (k + e : Nat)))) = some x := h
    cases hk : qDp M s (k + e) with
    | none => rw [hk] at h2; cases h2
    | some y => exact qDp_some e y hk
theorem lTs {M A N : qMem} {o p c i z x : Int} {d d' T0 : Nat} (h : qRS M A o) (hs : qZS A o p) (hN : qAw N M) (hb : qPb N d) (hd : d ≤ 99) (i1 : 0 ≤ i) (i2 : i < 600) (hk : qTk (M 96 i) x) (hD : qDs (M 96 i) d = some d') : qTs M A o p c i N d z T0 x d' := by
  rcases hk with ⟨h1, rfl⟩ | ⟨h1, rfl⟩ | ⟨h1, rfl⟩ | ⟨f, s, n, f1, s1, n1, h1, rfl⟩
  · rw [h1] at hD
    exact lTs_not hN hb hd i1 i2 h1 hD
  · rw [h1] at hD
    exact lTs_and hN hb hd i1 i2 h1 hD
  · rw [h1] at hD
    exact lTs_or hN hb hd i1 i2 h1 hD
  · rw [h1] at hD
    exact lTs_t h hs hN hb hd i1 i2 f1 s1 n1 h1 hD
theorem lX12_holds {M A : qMem} {o p c g s z : Int} {len p0 T0 : Nat} (h : qRS M A o) (hs : qZS A o p) (c1 : 0 ≤ c) (c2 : c < 60) (hf : M 94 c = s) (hs0 : 0 ≤ s) (ht : M 95 c = s + len) (ht2 : s + len ≤ 600) (hl : len ≤ 99) (htk : ∀ k : Nat, k < len → qTk (M 96 (s + k)) (A (g + 2) ((p0 + k : Nat) : Int))) (hdp : qDp M s len = some 1) :
    ∀ (e k : Nat) (N : qMem) (d : Nat) (x5 x6 x7 : Option qV), k + e = len → qAw N M → qPb N d → qDp M s k = some d → fZs A g o p (p0 + k) = (z, vPile N T0 d) →
      ∃ N', qlim C_X12_holds (10, [some (qA 82), some (qI c), some (qI p), some (qI d), some (qI (s + k)), x5, x6, x7], [], qH0 N) = some (some (qI (N' 99 0)), qH0 N') ∧ qAw N' M ∧ (N' 99 0 = 0 ∨ N' 99 0 = 1) ∧ fZs A g o p (p0 + len) = (z, 2 * T0 + (if N' 99 0 = 1 then 1 else 0))
  | 0, k, N, d, x5, x6, x7, hk, hN, hb, hD, hZ => by
    have hkl : k = len := by omega
    subst hkl
    rw [hdp] at hD
    cases hD
    refine ⟨N, ?_, hN, hb 0 (by omega), hZ⟩
    rw [B_X12_holds_10 c1 c2, hN 95 (by omega), ht, qif_t (by omega), B_X12_holds_243 (hb 0 (by omega))]
  | e + 1, k, N, d, x5, x6, x7, hk, hN, hb, hD, hZ => by
    have hd := qDp_le hD
    obtain ⟨d', hD'⟩ := qDp_some (M := M) (s := s) (k := k + 1) e 1 (by rw [show k + 1 + e = len by omega]; exact hdp)
    have hDs : qDs (M 96 (s + k)) d = some d' := by
      have h2 : (qDp M s k).bind (qDs (M 96 (s + k))) = some d' := hD'
      rw [hD] at h2
      exact h2
    obtain ⟨N', w5, w6, w7, r1, r2, r3, r4⟩ := lTs (c := c) (z := z) (T0 := T0) h hs hN hb (by omega) (by omega) (by omega) (htk k (by omega)) hDs x5 x6 x7
    have hZ' : fZs A g o p (p0 + (k + 1)) = (z, vPile N' T0 d') := by
      show fZst A o p (fZs A g o p (p0 + k)) (A (g + 2) ((p0 + k : Nat) : Int)) = _
      rw [hZ]
      exact r4
    obtain ⟨N2, q1, q2⟩ := lX12_holds h hs c1 c2 hf hs0 ht ht2 hl htk hdp e (k + 1) N' d' (some (qI w5)) w6 w7 (by omega) r2 r3 hD' hZ'
    refine ⟨N2, ?_, q2⟩
    have e1 : kadd (s + (k : Int)) 1 = s + ((k + 1 : Nat) : Int) := by rw [kadd_eq (by omega) (by omega)]; omega
    rw [B_X12_holds_10 c1 c2, hN 95 (by omega), ht, qif_f (by omega), r1, B_X12_holds_237, e1]
    exact q1
/-- what the reference's answers of a clause say beside the class's zeal -/
theorem sX12_holds {M A N : qMem} {o p c g : Int} {p0 q : Nat} (h : qRS M A o) (hs : qZS A o p) (c1 : 0 ≤ c) (c2 : c < 60) (hc : qCl M A c g p0 q) (hw : M 92 c ≤ 1) (hN : qAw N M) :
    ∃ (N' : qMem) (b : Int), S_X12_holds [qA 82, qI c, qI p] (qH0 N) = some (some (qI b), qH0 N') ∧ qAw N' M ∧ (b = 0 ∨ b = 1) ∧
      (fZs A g o p q).1 = (if b = 1 then (if M 92 c = 0 then (fZs A g o p p0).1 + M 93 c else (fZs A g o p p0).1 - M 93 c) else (fZs A g o p p0).1) := by
  obtain ⟨len, a1, a2, a3, a4, a5, a6, a7⟩ := hc.2.2.2.1 hw
  have hq := hc.2.2.1
  have hn := hc.2.1
  have hw0 := hc.1
  obtain ⟨N', r1, r2, r3, r4⟩ := lX12_holds (T0 := (fZs A g o p p0).2) (z := (fZs A g o p p0).1) h hs c1 c2 rfl a1 a2 (by omega) (by omega) a5 a7 len 0 N 0 none none none (by omega) hN (fun j hj => absurd hj (Nat.not_lt_zero j)) rfl (by rfl)
  refine ⟨N', N' 99 0, ?_, r2, r3, ?_⟩
  · rw [E_X12_holds, B_X12_holds_0 c1 c2, hN 94 (by omega)]
    have e0 : M 94 c + ((0 : Nat) : Int) = M 94 c := by omega
    rw [e0] at r1
    exact r1
  · have eq : q = p0 + len + 1 := a4
    subst eq
    show (fZst A o p (fZs A g o p (p0 + len)) (A (g + 2) ((p0 + len : Nat) : Int))).1 = _
    rw [r4, a6]
    unfold fZst
    generalize (fZs A g o p p0).1 = z
    generalize (fZs A g o p p0).2 = T
    dsimp only
    by_cases cw : M 92 c = 0
    · rw [if_pos cw, if_neg (by omega), if_neg (by omega), if_pos (by omega), if_pos cw]
      dsimp only
      rcases r3 with hb | hb
      · rw [hb, if_neg (c := (0 : Int) = 1) (by omega), if_pos (by omega), if_neg (by omega)]
      · rw [hb, if_pos (c := (1 : Int) = 1) rfl, if_neg (by omega), if_pos rfl]
        omega
    · rw [if_neg cw, if_neg (by omega), if_neg (by omega), if_neg (by omega), if_pos (by omega), if_neg cw]
      dsimp only
      rcases r3 with hb | hb
      · rw [hb, if_neg (c := (0 : Int) = 1) (by omega), if_pos (by omega), if_neg (by omega)]
      · rw [hb, if_pos (c := (1 : Int) = 1) rfl, if_neg (by omega), if_pos rfl]
        omega
theorem lX12_zeal {M A : qMem} {o p f g : Int} {n : Nat} {P : Nat → Nat} (h : qRS M A o) (hs : qZS A o p) (hg : qHI A g) (f1 : 0 ≤ f) (f2 : f < 6) (ht : M 82 11 = f) (hH : qHS M A g) (hn : M 91 f = n) (hn2 : n ≤ 10) (hP : (P n : Int) = A g 3) (hm : ∀ i : Nat, i ≤ n → P i ≤ P n) (hc : ∀ i : Nat, i < n → qCl M A (10 * f + i) g (P i) (P (i + 1))) :
    ∀ (e i : Nat) (N : qMem), i + e = n → qAw N M →
      ∃ N', qlim C_X12_zeal (7, [some (qA 82), some (qI p), some (qI (fZs A g o p (P i)).1), some (qI (10 * f + i))], [], qH0 N) = some (some (qI (fZs A g o p (P n)).1), qH0 N') ∧ qAw N' M
  | 0, i, N, hi, hN => by
    have hin : i = n := by omega
    subst hin
    refine ⟨N, ?_, hN⟩
    have hH' := qHS_row hH (by rw [hN 82 (by omega)]) (hN 91 (by omega)) (hN 92 (by omega)) (hN 93 (by omega)) (hN 94 (by omega)) (hN 95 (by omega)) (hN 96 (by omega))
    have e1 : fCb N = 10 * f := by unfold fCb; rw [hN 82 (by omega), ht, if_neg (by omega)]
    have e2 : ((fCn N : Nat) : Int) = i := by unfold fCn; rw [hN 82 (by omega), ht, if_neg (by omega), hN 91 (by omega), hn]; omega
    have sB := sX12_behind hH'
    rw [e1, e2] at sB
    rw [B_X12_zeal_7, sB, qbd_some]
    simp (disch := first | assumption | omega) only [B_X12_zeal_12, B_X12_zeal_71, not_true_eq_false, not_false_eq_true, if_true, if_false, qlk, qtk, qif_t, qif_f, qbd_some, Option.toList_some, Option.toList_none, List.cons_append, List.nil_append, List.append_nil]
  | e + 1, i, N, hi, hN => by
    have hH' := qHS_row hH (by rw [hN 82 (by omega)]) (hN 91 (by omega)) (hN 92 (by omega)) (hN 93 (by omega)) (hN 94 (by omega)) (hN 95 (by omega)) (hN 96 (by omega))
    have e1 : fCb N = 10 * f := by unfold fCb; rw [hN 82 (by omega), ht, if_neg (by omega)]
    have e2 : ((fCn N : Nat) : Int) = n := by unfold fCn; rw [hN 82 (by omega), ht, if_neg (by omega), hN 91 (by omega), hn]; omega
    have sB := sX12_behind hH'
    rw [e1, e2] at sB
    have hci := hc i (by omega)
    have hw0 := hci.1
    have hn0 := hci.2.1
    have k1 : kadd (10 * f + (i : Int)) 1 = 10 * f + ((i + 1 : Nat) : Int) := by rw [kadd_eq (by omega) (by omega)]; omega
    have h92 : N 92 = M 92 := hN 92 (by omega)
    have h93 : N 93 = M 93 := hN 93 (by omega)
    have hg3 := hg.2.1
    have hmi := hm i (by omega)
    have hz := (fZs_lo (o := o) (p := p) hg (P i) (by omega)).1
    by_cases cw : M 92 (10 * f + (i : Int)) ≤ 1
    · obtain ⟨N1, b, r1, r2, r3, r4⟩ := sX12_holds h hs (by omega) (by omega) hci cw hN
      have h921 : N1 92 = M 92 := r2 92 (by omega)
      have h931 : N1 93 = M 93 := r2 93 (by omega)
      obtain ⟨N2, q1, q2⟩ := lX12_zeal h hs hg f1 f2 ht hH hn hn2 hP hm hc e (i + 1) N1 (by omega) r2
      refine ⟨N2, ?_, q2⟩
      rw [← q1, r4]
      generalize (fZs A g o p (P i)).1 = z at hz ⊢
      rw [B_X12_zeal_7, sB, qbd_some]
      have w1 : ¬ 1 < N 92 (10 * f + (i : Int)) := by rw [h92]; omega
      rcases r3 with rfl | rfl
      · rw [if_neg (by omega)]
        simp (disch := first | assumption | omega) only [B_X12_zeal_12, B_X12_zeal_15, B_X12_zeal_25, B_X12_zeal_31, B_X12_zeal_34, B_X12_zeal_65, not_true_eq_false, not_false_eq_true, if_true, if_false, qlk, qtk, qif_t, qif_f, qbd_some, Option.toList_some, Option.toList_none, List.cons_append, List.nil_append, List.append_nil, r1, k1]
      · rw [if_pos rfl]
        by_cases cz : M 92 (10 * f + (i : Int)) = 0
        · have k2 : kadd z (M 93 (10 * f + (i : Int))) = z + M 93 (10 * f + (i : Int)) := kadd_eq (by omega) (by omega)
          have w2 : N1 92 (10 * f + (i : Int)) = 0 := by rw [h921]; exact cz
          rw [if_pos cz]
          simp (disch := first | assumption | omega) only [B_X12_zeal_12, B_X12_zeal_15, B_X12_zeal_25, B_X12_zeal_31, B_X12_zeal_37, B_X12_zeal_47, B_X12_zeal_63, B_X12_zeal_65, not_true_eq_false, not_false_eq_true, if_true, if_false, qlk, qtk, qif_t, qif_f, qbd_some, Option.toList_some, Option.toList_none, List.cons_append, List.nil_append, List.append_nil, r1, k1, h931, k2]
        · have k3 : kadd z (kneg (M 93 (10 * f + (i : Int)))) = z - M 93 (10 * f + (i : Int)) := by
            rw [kneg_eq (by omega) (by omega), kadd_eq (by omega) (by omega)]
            omega
          have w2 : ¬ N1 92 (10 * f + (i : Int)) = 0 := by rw [h921]; exact cz
          rw [if_neg cz]
          simp (disch := first | assumption | omega) only [B_X12_zeal_12, B_X12_zeal_15, B_X12_zeal_25, B_X12_zeal_31, B_X12_zeal_37, B_X12_zeal_56, B_X12_zeal_63, B_X12_zeal_65, not_true_eq_false, not_false_eq_true, if_true, if_false, qlk, qtk, qif_t, qif_f, qbd_some, Option.toList_some, Option.toList_none, List.cons_append, List.nil_append, List.append_nil, r1, k1, h931, k3]
    · have ep := hci.2.2.2.2 cw
      obtain ⟨N2, q1, q2⟩ := lX12_zeal h hs hg f1 f2 ht hH hn hn2 hP hm hc e (i + 1) N (by omega) hN
      refine ⟨N2, ?_, q2⟩
      rw [ep] at q1
      rw [← q1]
      have w1 : 1 < N 92 (10 * f + (i : Int)) := by rw [h92]; omega
      rw [B_X12_zeal_7, sB, qbd_some]
      simp (disch := first | assumption | omega) only [B_X12_zeal_12, B_X12_zeal_15, B_X12_zeal_65, not_true_eq_false, not_false_eq_true, if_true, if_false, qlk, qtk, qif_t, qif_f, qbd_some, Option.toList_some, Option.toList_none, List.cons_append, List.nil_append, List.append_nil, k1]
theorem qCl_mono {M A : qMem} {c g : Int} {p q : Nat} (h : qCl M A c g p q) : p ≤ q := by
  by_cases hc : M 92 c ≤ 1
  · obtain ⟨len, _, _, _, h4, _⟩ := h.2.2.2.1 hc
    omega
  · exact Nat.le_of_eq (h.2.2.2.2 hc).symm
theorem qP_mono {M A : qMem} {b g : Int} {n : Nat} {P : Nat → Nat} (hc : ∀ i : Nat, i < n → qCl M A (b + i) g (P i) (P (i + 1))) : ∀ d i : Nat, i + d ≤ n → P i ≤ P (i + d)
  | 0, _, _ => Nat.le_refl _
  | d + 1, i, hi => Nat.le_trans (qP_mono hc d i (by omega)) (qCl_mono (hc (i + d) (by omega)))
theorem sX12_zeal {M A : qMem} {o p : Int} (h : qRS M A o) (hs : qZS A o p) (hg : qHI A (A o 13)) : ∃ N, S_X12_zeal [qA 82, qI p] (qH0 M) = some (some (qI (fZeal A (A o 13) o p)), qH0 N) ∧ qAw N M := by
  have hH := h.2.2.2.2.2.1
  have sB := sX12_begin hH
  have hH0 := hH
  rcases hH with ⟨h1, h2, h3, h4, h5⟩ | ⟨h1, h2, h3, n, P, h4, h5, h6, h7, h8, _⟩
  · refine ⟨M, ?_, qAw_r⟩
    have sE := sX12_behind hH0
    have e1 : fCb M = 0 := by unfold fCb; rw [if_pos (by omega)]
    have e2 : ((fCn M : Nat) : Int) = 0 := by unfold fCn; rw [if_pos (by omega)]; rfl
    rw [e1] at sB sE
    rw [e2] at sE
    have e3 : fZeal A (A o 13) o p = 3 := by unfold fZeal; rw [h2, h3]; rfl
    rw [e3]
    simp (disch := first | assumption | omega) only [B_X12_zeal_0, B_X12_zeal_6, B_X12_zeal_7, B_X12_zeal_12, B_X12_zeal_71, not_true_eq_false, not_false_eq_true, if_true, if_false, qlk, qtk, qif_t, qif_f, qbd_some, Option.toList_some, Option.toList_none, List.cons_append, List.nil_append, List.append_nil, E_X12_zeal, sB, sE]
  · have e1 : fCb M = 10 * M 82 11 := by unfold fCb; rw [if_neg (by omega)]
    rw [e1] at sB
    have e3 : fZeal A (A o 13) o p = (fZs A (A o 13) o p (P n)).1 := by
      unfold fZeal
      rw [← h7]
      rfl
    obtain ⟨N, q1, q2⟩ := lX12_zeal h hs hg h1 h2 rfl hH0 h4 h5 h7 (fun i hi => by have := qP_mono h8 (n - i) i (by omega); rw [show i + (n - i) = n by omega] at this; exact this) h8 n 0 M (by omega) qAw_r
    refine ⟨N, ?_, q2⟩
    rw [e3, ← q1, h6]
    have e0 : 10 * M 82 11 + ((0 : Nat) : Int) = 10 * M 82 11 := by omega
    rw [e0]
    simp (disch := first | assumption | omega) only [B_X12_zeal_0, B_X12_zeal_6, not_true_eq_false, not_false_eq_true, if_true, if_false, qlk, qtk, qif_t, qif_f, qbd_some, Option.toList_some, Option.toList_none, List.cons_append, List.nil_append, List.append_nil, E_X12_zeal, sB]
    rfl
