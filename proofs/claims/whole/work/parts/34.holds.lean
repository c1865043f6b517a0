/-! the reference's state beside the class's; a clause holds -/
def qRS (M A : qMem) (o : Int) : Prop := (M 82 0 = A o 10 ∧ M 82 1 = A o 11) ∧ (0 ≤ M 82 2 ∧ M 82 2 < 64) ∧ (∀ k : Int, 0 ≤ k → k < 5 → M 83 k = A (o + 1) k) ∧
  (∀ p : Int, 0 ≤ p → p < 6 → M 84 p = A (o + 2) p ∧ M 85 p = A (o + 3) p ∧ M 86 p = A (o + 4) p ∧ M 87 p = A (o + 5) p ∧ M 88 p = A (o + 6) p ∧ qBit (M 82 2) p = A (o + 8) p) ∧
  (∀ k : Int, 0 ≤ k → k < 24 → M 89 k = A (o + 7) k) ∧ qHS M A (A o 13) ∧ A o 12 = (if 0 ≤ M 82 27 then M 82 27 else A (A o 13) 4)
/-- but for the row 99 alike -/
def qAw (N M : qMem) : Prop := ∀ a : Int, ¬ a = 99 → N a = M a
theorem qAw_r {M : qMem} : qAw M M := fun _ _ => rfl
theorem qAw_up {N M : qMem} {k v : Int} (h : qAw N M) : qAw (qup N 99 k v) M := fun a ha => (qup_row ha).trans (h a ha)
theorem qDp_row {M N : qMem} {s : Int} (h : N 96 = M 96) : ∀ k : Nat, qDp N s k = qDp M s k
  | 0 => rfl
  | k + 1 => by
    have ih := qDp_row (s := s) h k
    unfold qDp
    rw [ih, h]
theorem fLast_row {M N : qMem} {w d b : Int} (h2 : N 92 = M 92) (h3 : N 93 = M 93) : ∀ k : Nat, fLast N w d b k = fLast M w d b k
  | 0 => rfl
  | k + 1 => by
    have ih := fLast_row (w := w) (d := d) (b := b) h2 h3 k
    unfold fLast
    rw [ih, h2, h3]
theorem qCl_row {M N A : qMem} {c g : Int} {p q : Nat} (h : qCl M A c g p q) (h2 : N 92 = M 92) (h3 : N 93 = M 93) (h4 : N 94 = M 94) (h5 : N 95 = M 95) (h6 : N 96 = M 96) : qCl N A c g p q := by
  unfold qCl at h ⊢
  rw [h2, h3, h4, h5, h6]
  refine ⟨h.1, h.2.1, h.2.2.1, fun hc => ?_, h.2.2.2.2⟩
  obtain ⟨len, a1, a2, a3, a4, a5, a6, a7⟩ := h.2.2.2.1 hc
  exact ⟨len, a1, a2, a3, a4, a5, a6, by rw [qDp_row h6]; exact a7⟩
theorem qHR_row {M N A : qMem} {f g : Int} (h : qHR M A f g) (h1 : N 91 = M 91) (h2 : N 92 = M 92) (h3 : N 93 = M 93) (h4 : N 94 = M 94) (h5 : N 95 = M 95) (h6 : N 96 = M 96) : qHR N A f g := by
  obtain ⟨n, P, a1, a2, a3, a4, a5, a6, a7⟩ := h
  exact ⟨n, P, by rw [h1]; exact a1, a2, a3, a4, fun i hi => qCl_row (a5 i hi) h2 h3 h4 h5 h6, by rw [fLast_row h2 h3]; exact a6, by rw [fLast_row h2 h3]; exact a7⟩
theorem qHS_row {M N A : qMem} {g : Int} (h : qHS M A g) (h0 : N 82 11 = M 82 11) (h1 : N 91 = M 91) (h2 : N 92 = M 92) (h3 : N 93 = M 93) (h4 : N 94 = M 94) (h5 : N 95 = M 95) (h6 : N 96 = M 96) : qHS N A g := by
  unfold qHS at h ⊢
  rw [h0]
  rcases h with h | ⟨a1, a2, a3, a4⟩
  · exact Or.inl h
  · exact Or.inr ⟨a1, a2, a3, qHR_row a4 h1 h2 h3 h4 h5 h6⟩
theorem qRS_aw {M N A : qMem} {o : Int} (h : qRS M A o) (hN : qAw N M) : qRS N A o := by
  have hh := qHS_row h.2.2.2.2.2.1 (by rw [hN 82 (by omega)]) (hN 91 (by omega)) (hN 92 (by omega)) (hN 93 (by omega)) (hN 94 (by omega)) (hN 95 (by omega)) (hN 96 (by omega))
  unfold qRS
  rw [hN 82 (by omega), hN 83 (by omega), hN 84 (by omega), hN 85 (by omega), hN 86 (by omega), hN 87 (by omega), hN 88 (by omega), hN 89 (by omega)]
  exact ⟨h.1, h.2.1, h.2.2.1, h.2.2.2.1, h.2.2.2.2.1, hh, h.2.2.2.2.2.2⟩
theorem sX12_factOf {M A : qMem} {o p f : Int} (h : qRS M A o) (hs : qZS A o p) (h1 : 0 ≤ f) (h2 : f < 6) : S_X12_factOf [qA 82, qI f, qI p] (qH0 M) = some (some (qI (fVal A o p (qLet f))), qH0 M) := by
  obtain ⟨ho, hp, hm, hd⟩ := hs
  have hq := h.2.2.2.1 p hp.1 hp.2
  have e1 : kdiv (M 87 p) 10 = A (o + 5) p / 10 := by rw [hq.2.2.2.1]; exact kdiv_eq hd.1 (by omega) (by omega) (by omega)
  have e2 : krem (M 82 1) 10 = A o 11 % 10 := by rw [h.1.2]; exact krem_eq hm.1 (by omega) (by omega) (by omega)
  have e : f = 0 ∨ f = 1 ∨ f = 2 ∨ f = 3 ∨ f = 4 ∨ f = 5 := by omega
  obtain ⟨p1, p2⟩ := hp
  rcases e with rfl | rfl | rfl | rfl | rfl | rfl
  · simp (disch := first | assumption | omega) only [E_X12_factOf, B_X12_factOf_0, B_X12_factOf_36, B_X12_factOf_38, B_X12_factOf_45, B_X12_factOf_52, B_X12_factOf_59, B_X12_factOf_69, not_true_eq_false, not_false_eq_true, if_true, if_false, qlk, qtk, qif_t, qif_f, qbd_some, Option.toList_some, Option.toList_none, List.cons_append, List.nil_append, List.append_nil, Int.reduceEq, Int.reduceAdd]
    rfl
  · simp (disch := first | assumption | omega) only [E_X12_factOf, B_X12_factOf_0, B_X12_factOf_36, B_X12_factOf_38, B_X12_factOf_45, B_X12_factOf_52, B_X12_factOf_59, B_X12_factOf_69, not_true_eq_false, not_false_eq_true, if_true, if_false, qlk, qtk, qif_t, qif_f, qbd_some, Option.toList_some, Option.toList_none, List.cons_append, List.nil_append, List.append_nil, Int.reduceEq, Int.reduceAdd, hq.1]
    rfl
  · simp (disch := first | assumption | omega) only [E_X12_factOf, B_X12_factOf_0, B_X12_factOf_36, B_X12_factOf_38, B_X12_factOf_45, B_X12_factOf_52, B_X12_factOf_59, B_X12_factOf_69, not_true_eq_false, not_false_eq_true, if_true, if_false, qlk, qtk, qif_t, qif_f, qbd_some, Option.toList_some, Option.toList_none, List.cons_append, List.nil_append, List.append_nil, Int.reduceEq, Int.reduceAdd, hq.2.1]
    rfl
  · simp (disch := first | assumption | omega) only [E_X12_factOf, B_X12_factOf_0, B_X12_factOf_36, B_X12_factOf_38, B_X12_factOf_45, B_X12_factOf_52, B_X12_factOf_59, B_X12_factOf_69, not_true_eq_false, not_false_eq_true, if_true, if_false, qlk, qtk, qif_t, qif_f, qbd_some, Option.toList_some, Option.toList_none, List.cons_append, List.nil_append, List.append_nil, Int.reduceEq, Int.reduceAdd, hq.2.2.1]
    rfl
  · simp (disch := first | assumption | omega) only [E_X12_factOf, B_X12_factOf_0, B_X12_factOf_36, B_X12_factOf_38, B_X12_factOf_45, B_X12_factOf_52, B_X12_factOf_59, B_X12_factOf_69, not_true_eq_false, not_false_eq_true, if_true, if_false, qlk, qtk, qif_t, qif_f, qbd_some, Option.toList_some, Option.toList_none, List.cons_append, List.nil_append, List.append_nil, Int.reduceEq, Int.reduceAdd, e1]
    rfl
  · simp (disch := first | assumption | omega) only [E_X12_factOf, B_X12_factOf_0, B_X12_factOf_36, B_X12_factOf_38, B_X12_factOf_45, B_X12_factOf_52, B_X12_factOf_59, B_X12_factOf_69, not_true_eq_false, not_false_eq_true, if_true, if_false, qlk, qtk, qif_t, qif_f, qbd_some, Option.toList_some, Option.toList_none, List.cons_append, List.nil_append, List.append_nil, Int.reduceEq, Int.reduceAdd, e2]
    rfl
def vPile (N : qMem) (T : Nat) : Nat → Nat
  | 0 => T
  | j + 1 => 2 * vPile N T j + (if N 99 j = 1 then 1 else 0)
theorem vPile_eq {N N' : qMem} {T : Nat} : ∀ d : Nat, (∀ j : Nat, j < d → N' 99 j = N 99 j) → vPile N' T d = vPile N T d
  | 0, _ => rfl
  | d + 1, h => by
    unfold vPile
    rw [vPile_eq d (fun j hj => h j (by omega)), h d (by omega)]
theorem vPile_up {N : qMem} {T d e : Nat} {v : Int} (h : d ≤ e) : vPile (qup N 99 e v) T d = vPile N T d := vPile_eq d (fun j hj => qup_ne (by omega))
def qPb (N : qMem) (d : Nat) : Prop := ∀ j : Nat, j < d → N 99 j = 0 ∨ N 99 j = 1
theorem qPb_up {N : qMem} {d : Nat} {v : Int} (h : qPb N d) (hv : v = 0 ∨ v = 1) : qPb (qup N 99 d v) (d + 1) := fun j hj => by
  by_cases c : j = d
  · subst c
    rw [qup_self]
    exact hv
  · rw [qup_ne (by omega)]
    exact h j (by omega)
theorem fZst_not {A : qMem} {o p z : Int} {T : Nat} : fZst A o p (z, T) 33 = (z, T / 2 * 2 + (1 - T % 2)) := rfl
theorem fZst_and {A : qMem} {o p z : Int} {T : Nat} : fZst A o p (z, T) 38 = (z, if T % 2 = 0 then T / 2 / 2 * 2 else T / 2) := rfl
theorem fZst_or {A : qMem} {o p z : Int} {T : Nat} : fZst A o p (z, T) 124 = (z, if T % 2 = 0 then T / 2 else T / 2 / 2 * 2 + 1) := rfl
theorem qLet_v (f : Int) : qLet f = 112 ∨ qLet f = 107 ∨ qLet f = 118 ∨ qLet f = 119 ∨ qLet f = 100 ∨ qLet f = 109 := by
  unfold qLet
  split
  · omega
  · split
    · omega
    · split
      · omega
      · split
        · omega
        · split <;> omega
theorem fZst_t {A : qMem} {o p z f s n : Int} {T : Nat} (hs : 0 ≤ s ∧ s < 3) (hn : 0 ≤ n ∧ n ≤ 99) : fZst A o p (z, T) (qLet f + 256 * (60 + s) + 65536 * n) = (z, 2 * T + (if (if s = 0 then decide (fVal A o p (qLet f) < n) else if s = 2 then decide (n < fVal A o p (qLet f)) else decide (fVal A o p (qLet f) = n)) = true then 1 else 0)) := by
  have hl := qLet_v f
  generalize qLet f = l at hl ⊢
  have e1 : (l + 256 * (60 + s) + 65536 * n) % 256 = l := by omega
  have e2 : (l + 256 * (60 + s) + 65536 * n) / 256 % 256 = 60 + s := by omega
  have e3 : (l + 256 * (60 + s) + 65536 * n) / 65536 = n := by omega
  have e4 : fTrue A o p (l + 256 * (60 + s) + 65536 * n) = (if s = 0 then decide (fVal A o p l < n) else if s = 2 then decide (n < fVal A o p l) else decide (fVal A o p l = n)) := by
    unfold fTrue
    rw [e1, e2, e3]
    by_cases c : s = 0
    · rw [if_pos (by omega), if_pos c]
    · rw [if_neg (by omega), if_neg c]
      by_cases c2 : s = 2
      · rw [if_pos (by omega), if_pos c2]
      · rw [if_neg (by omega), if_neg c2]
  unfold fZst
  rw [e1, e4, if_neg (by omega), if_neg (by omega), if_neg (by omega), if_neg (by omega), if_neg (by omega)]
/-- what a token's step leaves -/
def qTs (M A : qMem) (o p c i : Int) (N : qMem) (d : Nat) (z : Int) (T0 : Nat) (x : Int) (d' : Nat) : Prop := ∀ x5 x6 x7 : Option qV, ∃ (N' : qMem) (w5 : Int) (w6 w7 : Option qV),
  qlim C_X12_holds (21, [some (qA 82), some (qI c), some (qI p), some (qI d), some (qI i), x5, x6, x7], [], qH0 N) = qlim C_X12_holds (237, [some (qA 82), some (qI c), some (qI p), some (qI d'), some (qI i), some (qI w5), w6, w7], [], qH0 N') ∧
    qAw N' M ∧ qPb N' d' ∧ fZst A o p (z, vPile N T0 d) x = (z, vPile N' T0 d')
theorem lTs_not {M A N : qMem} {o p c i z : Int} {d d' T0 : Nat} (hN : qAw N M) (hb : qPb N d) (hd : d ≤ 99) (i1 : 0 ≤ i) (i2 : i < 600) (hk : M 96 i = -33) (hD : qDs (-33) d = some d') : qTs M A o p c i N d z T0 33 d' := by
  intro x5 x6 x7
  have h1 : 1 ≤ d ∧ d' = d := by
    unfold qDs at hD
    rw [if_pos rfl] at hD
    split at hD
    · exact ⟨by assumption, by cases hD; rfl⟩
    · cases hD
  obtain ⟨h1, rfl⟩ := h1
  obtain ⟨e, rfl⟩ : ∃ e, d' = e + 1 := ⟨d' - 1, by omega⟩
  have k1 : ksub ((e + 1 : Nat) : Int) 1 = (e : Int) := by rw [ksub_eq (by omega) (by omega)]; omega
  have h96 : N 96 i = -33 := by rw [hN 96 (by omega)]; exact hk
  have hbe := hb e (by omega)
  have hbd : qPb N e := fun j hj => hb j (by omega)
  rw [fZst_not]
  rcases hbe with hz | hz
  · refine ⟨qup N 99 e 1, -33, x6, x7, ?_, qAw_up hN, qPb_up hbd (Or.inr rfl), ?_⟩
    · simp (disch := first | assumption | omega) only [B_X12_holds_21, B_X12_holds_37, B_X12_holds_55, B_X12_holds_59, B_X12_holds_60, not_true_eq_false, not_false_eq_true, if_true, if_false, qlk, qtk, qif_t, qif_f, qbd_some, Option.toList_some, Option.toList_none, List.cons_append, List.nil_append, List.append_nil, h96, k1, hz, Int.reduceEq]
    · show (z, (2 * vPile N T0 e + (if N 99 e = 1 then 1 else 0)) / 2 * 2 + (1 - (2 * vPile N T0 e + (if N 99 e = 1 then 1 else 0)) % 2)) = (z, 2 * vPile (qup N 99 e 1) T0 e + (if qup N 99 e 1 99 e = 1 then 1 else 0))
      rw [vPile_up (Nat.le_refl e), qup_self, hz, if_neg (by omega), if_pos rfl]
      refine Prod.ext rfl ?_
      dsimp only
      omega
  · refine ⟨qup N 99 e 0, -33, x6, x7, ?_, qAw_up hN, qPb_up hbd (Or.inl rfl), ?_⟩
    · simp (disch := first | assumption | omega) only [B_X12_holds_21, B_X12_holds_37, B_X12_holds_55, B_X12_holds_59, B_X12_holds_60, not_true_eq_false, not_false_eq_true, if_true, if_false, qlk, qtk, qif_t, qif_f, qbd_some, Option.toList_some, Option.toList_none, List.cons_append, List.nil_append, List.append_nil, h96, k1, hz, Int.reduceEq]
    · show (z, (2 * vPile N T0 e + (if N 99 e = 1 then 1 else 0)) / 2 * 2 + (1 - (2 * vPile N T0 e + (if N 99 e = 1 then 1 else 0)) % 2)) = (z, 2 * vPile (qup N 99 e 0) T0 e + (if qup N 99 e 0 99 e = 1 then 1 else 0))
      rw [vPile_up (Nat.le_refl e), qup_self, hz, if_pos rfl, if_neg (by omega)]
      refine Prod.ext rfl ?_
      dsimp only
      omega
theorem lTs_and {M A N : qMem} {o p c i z : Int} {d d' T0 : Nat} (hN : qAw N M) (hb : qPb N d) (hd : d ≤ 99) (i1 : 0 ≤ i) (i2 : i < 600) (hk : M 96 i = -38) (hD : qDs (-38) d = some d') : qTs M A o p c i N d z T0 38 d' := by
  intro x5 x6 x7
  have h1 : 2 ≤ d ∧ d' = d - 1 := by
    unfold qDs at hD
    rw [if_neg (by decide), if_pos (by decide)] at hD
    split at hD
    · exact ⟨by assumption, by cases hD; rfl⟩
    · cases hD
  obtain ⟨e, rfl⟩ : ∃ e, d = e + 2 := ⟨d - 2, by omega⟩
  have h2 : d' = e + 1 := by omega
  subst h2
  have k0 : kadd ((e + 2 : Nat) : Int) (-1) = ((e + 1 : Nat) : Int) := by rw [kadd_eq (by omega) (by omega)]; omega
  have k1 : ksub ((e + 1 : Nat) : Int) 1 = (e : Int) := by rw [ksub_eq (by omega) (by omega)]; omega
  have h96 : N 96 i = -38 := by rw [hN 96 (by omega)]; exact hk
  have hbe := hb e (by omega)
  have hbf := hb (e + 1) (by omega)
  have hbd : qPb N e := fun j hj => hb j (by omega)
  rw [fZst_and]
  have hv : vPile N T0 (e + 2) = 2 * (2 * vPile N T0 e + (if N 99 e = 1 then 1 else 0)) + (if N 99 ((e + 1 : Nat) : Int) = 1 then 1 else 0) := rfl
  have hv2 : ∀ v : Int, vPile (qup N 99 e v) T0 (e + 1) = 2 * vPile N T0 e + (if v = 1 then 1 else 0) := fun v => by
    show 2 * vPile (qup N 99 e v) T0 e + (if qup N 99 e v 99 e = 1 then 1 else 0) = _
    rw [vPile_up (Nat.le_refl e), qup_self]
  rw [hv]
  rcases hbe with hz | hz
  · refine ⟨qup N 99 e 0, -38, x6, x7, ?_, qAw_up hN, qPb_up hbd (Or.inl rfl), ?_⟩
    · simp (disch := first | assumption | omega) only [B_X12_holds_21, B_X12_holds_64, B_X12_holds_69, B_X12_holds_86, B_X12_holds_97, B_X12_holds_106, B_X12_holds_110, B_X12_holds_139, not_true_eq_false, not_false_eq_true, if_true, if_false, qlk, qtk, qif_t, qif_f, qbd_some, Option.toList_some, Option.toList_none, List.cons_append, List.nil_append, List.append_nil, h96, k0, k1, hz, Int.reduceEq]
    · rw [hv2, hz, if_neg (c := (0 : Int) = 1) (by omega)]
      refine Prod.ext rfl ?_
      dsimp only
      split <;> split <;> omega
  · rcases hbf with hy | hy
    · refine ⟨qup N 99 e 0, -38, x6, x7, ?_, qAw_up hN, qPb_up hbd (Or.inl rfl), ?_⟩
      · simp (disch := first | assumption | omega) only [B_X12_holds_21, B_X12_holds_64, B_X12_holds_69, B_X12_holds_86, B_X12_holds_97, B_X12_holds_106, B_X12_holds_110, B_X12_holds_139, not_true_eq_false, not_false_eq_true, if_true, if_false, qlk, qtk, qif_t, qif_f, qbd_some, Option.toList_some, Option.toList_none, List.cons_append, List.nil_append, List.append_nil, h96, k0, k1, hz, hy, Int.reduceEq]
      · rw [hv2, hz, hy, if_neg (c := (0 : Int) = 1) (by omega), if_pos (c := (1 : Int) = 1) rfl]
        refine Prod.ext rfl ?_
        dsimp only
        split <;> omega
    · refine ⟨qup N 99 e 1, -38, x6, x7, ?_, qAw_up hN, qPb_up hbd (Or.inr rfl), ?_⟩
      · simp (disch := first | assumption | omega) only [B_X12_holds_21, B_X12_holds_64, B_X12_holds_69, B_X12_holds_86, B_X12_holds_97, B_X12_holds_106, B_X12_holds_110, B_X12_holds_139, not_true_eq_false, not_false_eq_true, if_true, if_false, qlk, qtk, qif_t, qif_f, qbd_some, Option.toList_some, Option.toList_none, List.cons_append, List.nil_append, List.append_nil, h96, k0, k1, hz, hy, Int.reduceEq]
      · rw [hv2, hz, hy, if_pos (c := (1 : Int) = 1) rfl]
        refine Prod.ext rfl ?_
        dsimp only
        split <;> omega
theorem lTs_or {M A N : qMem} {o p c i z : Int} {d d' T0 : Nat} (hN : qAw N M) (hb : qPb N d) (hd : d ≤ 99) (i1 : 0 ≤ i) (i2 : i < 600) (hk : M 96 i = -124) (hD : qDs (-124) d = some d') : qTs M A o p c i N d z T0 124 d' := by
  intro x5 x6 x7
  have h1 : 2 ≤ d ∧ d' = d - 1 := by
    unfold qDs at hD
    rw [if_neg (by decide), if_pos (by decide)] at hD
    split at hD
    · exact ⟨by assumption, by cases hD; rfl⟩
    · cases hD
  obtain ⟨e, rfl⟩ : ∃ e, d = e + 2 := ⟨d - 2, by omega⟩
  have h2 : d' = e + 1 := by omega
  subst h2
  have k0 : kadd ((e + 2 : Nat) : Int) (-1) = ((e + 1 : Nat) : Int) := by rw [kadd_eq (by omega) (by omega)]; omega
  have k1 : ksub ((e + 1 : Nat) : Int) 1 = (e : Int) := by rw [ksub_eq (by omega) (by omega)]; omega
  have h96 : N 96 i = -124 := by rw [hN 96 (by omega)]; exact hk
  have hbe := hb e (by omega)
  have hbf := hb (e + 1) (by omega)
  have hbd : qPb N e := fun j hj => hb j (by omega)
  rw [fZst_or]
  have hv : vPile N T0 (e + 2) = 2 * (2 * vPile N T0 e + (if N 99 e = 1 then 1 else 0)) + (if N 99 ((e + 1 : Nat) : Int) = 1 then 1 else 0) := rfl
  have hv2 : ∀ v : Int, vPile (qup N 99 e v) T0 (e + 1) = 2 * vPile N T0 e + (if v = 1 then 1 else 0) := fun v => by
    show 2 * vPile (qup N 99 e v) T0 e + (if qup N 99 e v 99 e = 1 then 1 else 0) = _
    rw [vPile_up (Nat.le_refl e), qup_self]
  rw [hv]
  rcases hbe with hz | hz
  · rcases hbf with hy | hy
    · refine ⟨qup N 99 e 0, -124, x6, x7, ?_, qAw_up hN, qPb_up hbd (Or.inl rfl), ?_⟩
      · simp (disch := first | assumption | omega) only [B_X12_holds_21, B_X12_holds_64, B_X12_holds_69, B_X12_holds_114, B_X12_holds_125, B_X12_holds_134, B_X12_holds_138, B_X12_holds_139, not_true_eq_false, not_false_eq_true, if_true, if_false, qlk, qtk, qif_t, qif_f, qbd_some, Option.toList_some, Option.toList_none, List.cons_append, List.nil_append, List.append_nil, h96, k0, k1, hz, hy, Int.reduceEq]
      · rw [hv2, hz, hy, if_neg (c := (0 : Int) = 1) (by omega)]
        refine Prod.ext rfl ?_
        dsimp only
        split <;> omega
    · refine ⟨qup N 99 e 1, -124, x6, x7, ?_, qAw_up hN, qPb_up hbd (Or.inr rfl), ?_⟩
      · simp (disch := first | assumption | omega) only [B_X12_holds_21, B_X12_holds_64, B_X12_holds_69, B_X12_holds_114, B_X12_holds_125, B_X12_holds_134, B_X12_holds_138, B_X12_holds_139, not_true_eq_false, not_false_eq_true, if_true, if_false, qlk, qtk, qif_t, qif_f, qbd_some, Option.toList_some, Option.toList_none, List.cons_append, List.nil_append, List.append_nil, h96, k0, k1, hz, hy, Int.reduceEq]
      · rw [hv2, hz, hy, if_neg (c := (0 : Int) = 1) (by omega), if_pos (c := (1 : Int) = 1) rfl]
        refine Prod.ext rfl ?_
        dsimp only
        split <;> omega
  · refine ⟨qup N 99 e 1, -124, x6, x7, ?_, qAw_up hN, qPb_up hbd (Or.inr rfl), ?_⟩
    · simp (disch := first | assumption | omega) only [B_X12_holds_21, B_X12_holds_64, B_X12_holds_69, B_X12_holds_114, B_X12_holds_125, B_X12_holds_134, B_X12_holds_138, B_X12_holds_139, not_true_eq_false, not_false_eq_true, if_true, if_false, qlk, qtk, qif_t, qif_f, qbd_some, Option.toList_some, Option.toList_none, List.cons_append, List.nil_append, List.append_nil, h96, k0, k1, hz, Int.reduceEq]
    · rw [hv2, hz, if_pos (c := (1 : Int) = 1) rfl]
      refine Prod.ext rfl ?_
      dsimp only
      split <;> split <;> omega
theorem lTs_t {M A N : qMem} {o p c i z f s n : Int} {d d' T0 : Nat} (h : qRS M A o) (hs : qZS A o p) (hN : qAw N M) (hb : qPb N d) (hd : d ≤ 99) (i1 : 0 ≤ i) (i2 : i < 600) (f1 : 0 ≤ f ∧ f < 6) (s1 : 0 ≤ s ∧ s < 3) (n1 : 0 ≤ n ∧ n ≤ 99) (hk : M 96 i = 1000 * f + 100 * s + n) (hD : qDs (1000 * f + 100 * s + n) d = some d') : qTs M A o p c i N d z T0 (qLet f + 256 * (60 + s) + 65536 * n) d' := by
  intro x5 x6 x7
  have h1 : d' = d + 1 := by
    unfold qDs at hD
    rw [if_neg (by omega), if_neg (by omega)] at hD
    cases hD
    rfl
  subst h1
  have h96 : N 96 i = 1000 * f + 100 * s + n := by rw [hN 96 (by omega)]; exact hk
  have e1 : kdiv (1000 * f + 100 * s + n) 1000 = f := by rw [kdiv_eq (by omega) (by omega) (by omega) (by omega)]; omega
  have e2 : krem (kdiv (1000 * f + 100 * s + n) 100) 10 = s := by rw [kdiv_eq (by omega) (by omega) (by omega) (by omega), krem_eq (by omega) (by omega) (by omega) (by omega)]; omega
  have e3 : krem (1000 * f + 100 * s + n) 100 = n := by rw [krem_eq (by omega) (by omega) (by omega) (by omega)]; omega
  have k1 : kadd (d : Int) 1 = ((d + 1 : Nat) : Int) := by rw [kadd_eq (by omega) (by omega)]; omega
  have F := sX12_factOf (qRS_aw h hN) hs f1.1 f1.2
  rw [fZst_t s1 n1]
  have hv2 : ∀ v : Int, vPile (qup N 99 d v) T0 (d + 1) = 2 * vPile N T0 d + (if v = 1 then 1 else 0) := fun v => by
    show 2 * vPile (qup N 99 d v) T0 d + (if qup N 99 d v 99 d = 1 then 1 else 0) = _
    rw [vPile_up (Nat.le_refl d), qup_self]
  have key : ∀ v : Int, v = 0 ∨ v = 1 → ((if s = 0 then decide (fVal A o p (qLet f) < n) else if s = 2 then decide (n < fVal A o p (qLet f)) else decide (fVal A o p (qLet f) = n)) = true ↔ v = 1) →
      qlim C_X12_holds (21, [some (qA 82), some (qI c), some (qI p), some (qI d), some (qI i), x5, x6, x7], [], qH0 N) = qlim C_X12_holds (233, [some (qA 82), some (qI c), some (qI p), some (qI d), some (qI i), some (qI (1000 * f + 100 * s + n)), some (qI (fVal A o p (qLet f))), some (qI s)], [qI v, qI d, qA 99], qH0 N) →
      ∃ (N' : qMem) (w5 : Int) (w6 w7 : Option qV), qlim C_X12_holds (21, [some (qA 82), some (qI c), some (qI p), some (qI d), some (qI i), x5, x6, x7], [], qH0 N) = qlim C_X12_holds (237, [some (qA 82), some (qI c), some (qI p), some (qI (d + 1 : Nat)), some (qI i), some (qI w5), w6, w7], [], qH0 N') ∧
        qAw N' M ∧ qPb N' (d + 1) ∧ (z, 2 * vPile N T0 d + (if (if s = 0 then decide (fVal A o p (qLet f) < n) else if s = 2 then decide (n < fVal A o p (qLet f)) else decide (fVal A o p (qLet f) = n)) = true then 1 else 0)) = (z, vPile N' T0 (d + 1)) := by
    intro v hv hb2 hrun
    refine ⟨qup N 99 d v, 1000 * f + 100 * s + n, some (qI (fVal A o p (qLet f))), some (qI s), hrun.trans ?_, qAw_up hN, qPb_up hb hv, ?_⟩
    · simp (disch := first | assumption | omega) only [B_X12_holds_233, not_true_eq_false, not_false_eq_true, if_true, if_false, qlk, qtk, qif_t, qif_f, qbd_some, Option.toList_some, Option.toList_none, List.cons_append, List.nil_append, List.append_nil, k1]
    · rw [hv2]
      refine Prod.ext rfl ?_
      dsimp only
      by_cases c : v = 1
      · rw [if_pos c, if_pos (hb2.mpr c)]
      · rw [if_neg c, if_neg (fun q => c (hb2.mp q))]
  have run0 : qlim C_X12_holds (21, [some (qA 82), some (qI c), some (qI p), some (qI d), some (qI i), x5, x6, x7], [], qH0 N) = qlim C_X12_holds ((if ¬ s = 0 then 194 else 176), [some (qA 82), some (qI c), some (qI p), some (qI d), some (qI i), some (qI (1000 * f + 100 * s + n)), some (qI (fVal A o p (qLet f))), some (qI s)], [qI d, qA 99], qH0 N) := by
    simp (disch := first | assumption | omega) only [B_X12_holds_21, B_X12_holds_64, B_X12_holds_143, B_X12_holds_154, not_true_eq_false, not_false_eq_true, if_true, if_false, qlk, qtk, qif_t, qif_f, qbd_some, Option.toList_some, Option.toList_none, List.cons_append, List.nil_append, List.append_nil, h96, e1, e2, F]
  generalize fVal A o p (qLet f) = w at key run0 ⊢
  by_cases c0 : s = 0
  · subst c0
    by_cases c1 : w < n
    · refine key 1 (Or.inr rfl) ?_ (run0.trans ?_)
      · rw [if_pos rfl, decide_eq_true c1]
        exact ⟨fun _ => rfl, fun _ => rfl⟩
      · simp (disch := first | assumption | omega) only [B_X12_holds_176, B_X12_holds_186, B_X12_holds_190, not_true_eq_false, not_false_eq_true, if_true, if_false, qlk, qtk, qif_t, qif_f, qbd_some, Option.toList_some, Option.toList_none, List.cons_append, List.nil_append, List.append_nil, e3]
    · refine key 0 (Or.inl rfl) ?_ (run0.trans ?_)
      · rw [if_pos rfl, decide_eq_false c1]
        exact ⟨fun q => absurd q (by decide), fun q => absurd q (by decide)⟩
      · simp (disch := first | assumption | omega) only [B_X12_holds_176, B_X12_holds_186, B_X12_holds_190, not_true_eq_false, not_false_eq_true, if_true, if_false, qlk, qtk, qif_t, qif_f, qbd_some, Option.toList_some, Option.toList_none, List.cons_append, List.nil_append, List.append_nil, e3]
  · by_cases c2 : s = 2
    · subst c2
      by_cases c1 : n < w
      · refine key 1 (Or.inr rfl) ?_ (run0.trans ?_)
        · rw [if_neg (by omega), if_pos rfl, decide_eq_true c1]
          exact ⟨fun _ => rfl, fun _ => rfl⟩
        · simp (disch := first | assumption | omega) only [B_X12_holds_194, B_X12_holds_218, B_X12_holds_228, B_X12_holds_232, not_true_eq_false, not_false_eq_true, if_true, if_false, qlk, qtk, qif_t, qif_f, qbd_some, Option.toList_some, Option.toList_none, List.cons_append, List.nil_append, List.append_nil, e3]
      · refine key 0 (Or.inl rfl) ?_ (run0.trans ?_)
        · rw [if_neg (by omega), if_pos rfl, decide_eq_false c1]
          exact ⟨fun q => absurd q (by decide), fun q => absurd q (by decide)⟩
        · simp (disch := first | assumption | omega) only [B_X12_holds_194, B_X12_holds_218, B_X12_holds_228, B_X12_holds_232, not_true_eq_false, not_false_eq_true, if_true, if_false, qlk, qtk, qif_t, qif_f, qbd_some, Option.toList_some, Option.toList_none, List.cons_append, List.nil_append, List.append_nil, e3]
    · have c3 : s = 1 := by omega
      subst c3
      by_cases c1 : w = n
      · refine key 1 (Or.inr rfl) ?_ (run0.trans ?_)
        · rw [if_neg (by omega), if_neg (by omega), decide_eq_true c1]
          exact ⟨fun _ => rfl, fun _ => rfl⟩
        · simp (disch := first | assumption | omega) only [B_X12_holds_194, B_X12_holds_200, B_X12_holds_210, B_X12_holds_214, not_true_eq_false, not_false_eq_true, if_true, if_false, qlk, qtk, qif_t, qif_f, qbd_some, Option.toList_some, Option.toList_none, List.cons_append, List.nil_append, List.append_nil, e3]
      · refine key 0 (Or.inl rfl) ?_ (run0.trans ?_)
        · rw [if_neg (by omega), if_neg (by omega), decide_eq_false c1]
          exact ⟨fun q => absurd q (by decide), fun q => absurd q (by decide)⟩
        · simp (disch := first | assumption | omega) only [B_X12_holds_194, B_X12_holds_200, B_X12_holds_210, B_X12_holds_214, not_true_eq_false, not_false_eq_true, if_true, if_false, qlk, qtk, qif_t, qif_f, qbd_some, Option.toList_some, Option.toList_none, List.cons_append, List.nil_append, List.append_nil, e3]
