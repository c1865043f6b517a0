/-! fractions (class, reference) -/
def fG : Nat → Int → Int → Int
  | 0, a, _ => a
  | m + 1, a, b => if b = 0 then a else fG m b (a % b)
theorem fG_lo : ∀ (m : Nat) (a b : Int), 0 ≤ b → b ≤ m → 0 ≤ a → a ≤ 100000 → b ≤ 100000 → (1 ≤ a ∨ 1 ≤ b) → 1 ≤ fG m a b ∧ fG m a b ≤ 100000
  | 0, a, b, h0, h1, h2, h3, h4, h5 => by
    show 1 ≤ a ∧ a ≤ 100000
    omega
  | m + 1, a, b, h0, h1, h2, h3, h4, h5 => by
    unfold fG
    split
    · omega
    · have k1 := Int.emod_nonneg a (b := b) (by omega)
      have k2 := Int.emod_lt_of_pos a (b := b) (by omega)
      exact fG_lo m b (a % b) k1 (by omega) (by omega) h4 (by omega) (Or.inl (by omega))
def fFr (u v part : Int) : Int := ki2l (kdiv (if part = 0 then u else v) (fG 6 u v))
theorem lX11_fr {M : qMem} {u v part : Int} : ∀ (m : Nat) (a b i : Int) (w : Option qV), 0 ≤ b → b ≤ m → 0 ≤ a → a ≤ 100000 → b ≤ 100000 → (1 ≤ a ∨ 1 ≤ b) → 0 ≤ i → i + m ≤ 63 →
    qlim C_X11_partOfFraction (8, [some (qI u), some (qI v), some (qI part), some (qI a), some (qI b), some (qI i), w], [], qH0 M) = some (some (qJ (ki2l (kdiv (if part = 0 then u else v) (fG m a b)))), qH0 M) := by
  have T : ∀ (a b i : Int) (w : Option qV), 1 ≤ a → a ≤ 100000 → qlim C_X11_partOfFraction (39, [some (qI u), some (qI v), some (qI part), some (qI a), some (qI b), some (qI i), w], [], qH0 M) = some (some (qJ (ki2l (kdiv (if part = 0 then u else v) a))), qH0 M) := by
    intro a b i w h1 h2
    have e : max 1 a = a := by omega
    have hz : ¬ Int32.ofInt a = 0 := knz (by omega) (by omega)
    by_cases c : part = 0
    · rw [if_pos c]
      simp (disch := first | assumption | omega) only [B_X11_partOfFraction_39, B_X11_partOfFraction_50, B_X11_partOfFraction_55, not_true_eq_false, not_false_eq_true, if_true, if_false, qlk, qtk, qif_t, qif_f, qbd_some, Option.toList_some, Option.toList_none, List.cons_append, List.nil_append, List.append_nil, e]
    · rw [if_neg c]
      simp (disch := first | assumption | omega) only [B_X11_partOfFraction_39, B_X11_partOfFraction_54, B_X11_partOfFraction_55, not_true_eq_false, not_false_eq_true, if_true, if_false, qlk, qtk, qif_t, qif_f, qbd_some, Option.toList_some, Option.toList_none, List.cons_append, List.nil_append, List.append_nil, e]
  intro m
  induction m with
  | zero =>
    intro a b i w h0 h1 h2 h3 h4 h5 h6 h7
    rw [B_X11_partOfFraction_8, qif_f (by omega), B_X11_partOfFraction_15, qif_t (by omega)]
    exact T a b i w (by omega) h3
  | succ m ih =>
    intro a b i w h0 h1 h2 h3 h4 h5 h6 h7
    rw [B_X11_partOfFraction_8, qif_f (by omega), B_X11_partOfFraction_15]
    unfold fG
    by_cases c : b = 0
    · rw [qif_t c, if_pos c]
      exact T a b i w (by omega) h3
    · have k1 := Int.emod_nonneg a (b := b) (by omega)
      have k2 := Int.emod_lt_of_pos a (b := b) (by omega)
      rw [qif_f c, if_neg c, B_X11_partOfFraction_20 (knz (by omega) (by omega)), krem_eq h2 (by omega) (by omega) (by omega), kadd_eq (by omega) (by omega)]
      exact ih b (a % b) (i + 1) _ k1 (by omega) (by omega) h4 (by omega) (Or.inl (by omega)) (by omega) (by omega)
theorem sX11_fr {M : qMem} {u v part : Int} (hu : 0 ≤ u) (hu2 : u ≤ 100000) (hv : 1 ≤ v) (hv2 : v ≤ 6) : S_X11_partOfFraction [qI u, qI v, qI part] (qH0 M) = some (some (qJ (fFr u v part)), qH0 M) := by
  rw [E_X11_partOfFraction, B_X11_partOfFraction_0]
  exact lX11_fr 6 u v 0 none (by omega) (by omega) hu hu2 (by omega) (Or.inr hv) (by omega) (by omega)
theorem lX12_fr {M : qMem} {u v : Int} : ∀ (m : Nat) (a b : Int) (w : Option qV), 0 ≤ b → b ≤ m → 0 ≤ a → a ≤ 100000 → b ≤ 100000 →
    qlim C_X12_divisor (5, [some (qA 82), some (qI u), some (qI v), some (qI a), some (qI b), w], [], qH0 M) = some (some (qI (fG m a b)), qH0 M)
  | 0, a, b, w, h0, h1, h2, h3, h4 => by
    rw [B_X12_divisor_5, qif_t (by omega), B_X12_divisor_26]
    rfl
  | m + 1, a, b, w, h0, h1, h2, h3, h4 => by
    rw [B_X12_divisor_5]
    unfold fG
    by_cases c : b = 0
    · rw [qif_t c, if_pos c, B_X12_divisor_26]
    · have k1 := Int.emod_nonneg a (b := b) (by omega)
      have k2 := Int.emod_lt_of_pos a (b := b) (by omega)
      rw [qif_f c, if_neg c, B_X12_divisor_10 (knz (by omega) (by omega)), krem_eq h2 (by omega) (by omega) (by omega)]
      exact lX12_fr m b (a % b) _ k1 (by omega) (by omega) h4 (by omega)
theorem sX12_fr {M : qMem} {u v part : Int} (hu : 0 ≤ u) (hu2 : u ≤ 100000) (hv : 1 ≤ v) (hv2 : v ≤ 6) : S_X12_lowest [qA 82, qI u, qI v, qI part] (qH0 M) = some (some (qJ (fFr u v part)), qH0 M) := by
  have s : S_X12_divisor [qA 82, qI u, qI v] (qH0 M) = some (some (qI (fG 6 u v)), qH0 M) := by
    rw [E_X12_divisor, B_X12_divisor_0]
    exact lX12_fr 6 u v none (by omega) (by omega) hu hu2 (by omega)
  have hl := fG_lo 6 u v (by omega) (by omega) hu hu2 (by omega) (Or.inr hv)
  have hz : ¬ Int32.ofInt (fG 6 u v) = 0 := knz (by omega) (by omega)
  unfold fFr
  by_cases c : part = 0
  · rw [if_pos c]
    simp (disch := first | assumption | omega) only [B_X12_lowest_0, B_X12_lowest_6, B_X12_lowest_12, B_X12_lowest_25, not_true_eq_false, not_false_eq_true, if_true, if_false, qlk, qtk, qif_t, qif_f, qbd_some, Option.toList_some, Option.toList_none, List.cons_append, List.nil_append, List.append_nil, E_X12_lowest, s]
  · rw [if_neg c]
    simp (disch := first | assumption | omega) only [B_X12_lowest_0, B_X12_lowest_6, B_X12_lowest_20, B_X12_lowest_25, not_true_eq_false, not_false_eq_true, if_true, if_false, qlk, qtk, qif_t, qif_f, qbd_some, Option.toList_some, Option.toList_none, List.cons_append, List.nil_append, List.append_nil, E_X12_lowest, s]
