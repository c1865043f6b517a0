/-! acts: which bodies run, what they answer -/
def fLg (r a k : Int) : qMem → List Int → qMem
  | M, [] => M
  | M, x :: xs => fLg r a k (qup (qup M r (M a k) x) a k (M a k + 1)) xs
theorem fLg_app {r a k : Int} : ∀ (xs ys : List Int) (M : qMem), fLg r a k M (xs ++ ys) = fLg r a k (fLg r a k M xs) ys
  | [], _, _ => rfl
  | x :: xs, ys, M => fLg_app xs ys _
theorem fLg_o {r a k a' k' : Int} (h1 : ¬ a' = r) (h2 : ¬ (a' = a ∧ k' = k)) : ∀ (xs : List Int) (M : qMem), fLg r a k M xs a' k' = M a' k'
  | [], _ => rfl
  | x :: xs, M => by
    unfold fLg
    rw [fLg_o h1 h2 xs, qup_ne (by omega), qup_ne (by omega)]
theorem fLg_n {r a k : Int} (h : ¬ r = a) : ∀ (xs : List Int) (M : qMem), fLg r a k M xs a k = M a k + xs.length
  | [], M => by
    show M a k = M a k + ((0 : Nat) : Int)
    omega
  | x :: xs, M => by
    unfold fLg
    rw [fLg_n h xs, qup_self, List.length_cons]
    omega
theorem fLg_at {r a k : Int} (h : ¬ r = a) : ∀ (xs : List Int) (M : qMem) (i : Int), i < M a k → fLg r a k M xs r i = M r i
  | [], _, _, _ => rfl
  | x :: xs, M, i, hi => by
    unfold fLg
    rw [fLg_at h xs _ i (by rw [qup_self]; omega), qup_ne (by omega), qup_ne (by omega)]
theorem fLg_in {r a k : Int} (h : ¬ r = a) : ∀ (xs : List Int) (M : qMem) (j : Nat), j < xs.length → fLg r a k M xs r (M a k + j) = xs.getD j 0
  | [], _, j, hj => by cases hj
  | x :: xs, M, j, hj => by
    unfold fLg
    cases j with
    | zero =>
      have e : M a k + ((0 : Nat) : Int) = M a k := by omega
      rw [e, fLg_at h xs _ _ (by rw [qup_self]; omega), qup_ne (by omega), qup_self]
      rfl
    | succ j =>
      have ih := fLg_in (k := k) h xs (qup (qup M r (M a k) x) a k (M a k + 1)) j (by rw [List.length_cons] at hj; omega)
      rw [qup_self] at ih
      have e : M a k + 1 + (j : Int) = M a k + ((j + 1 : Nat) : Int) := by omega
      rw [e] at ih
      exact ih
def aF (k i v x : Int) : Int × List Int := if k = 2 ∨ k = 5 then (kadd (kmul x 3) i, [30, 10]) else if k = 4 then (kneg (kadd x i), [50, 10]) else if k = 6 then (kxor (kadd x i) v, [71, 10]) else (kadd x i, [10])
def aP (k i v x : Int) : Int × List Int := (ksub (aF k i v x).1 v, 11 :: (aF k i v x).2)
def aQ (k i v x : Int) : Int × List Int := (kxor (aP k i v x).1 6, 20 :: (aP k i v x).2)
def aL (k i v x : Int) : Int × List Int := if k = 1 then aQ k i v x else if k = 4 then ((aQ k i v (kadd x 1)).1, 51 :: (aQ k i v (kadd x 1)).2) else if k = 6 then (kadd (aP k i v x).1 (kadd 2 i), 70 :: ((aP k i v x).2 ++ [10])) else aP k i v x
def aT (k i v x : Int) : Int × List Int := (kmul (aL k i v x).1 2, 12 :: (aL k i v x).2)
def aU (k i v x : Int) : Int × List Int := if k = 3 ∨ k = 6 then (kadd (aT k i v x).1 (aL k i v 1).1, 40 :: ((aT k i v x).2 ++ (aL k i v 1).2)) else if k = 5 then ((aT k i v (ksub x i)).1, 60 :: (aT k i v (ksub x i)).2) else aT k i v x
theorem aF_len (k i v x : Int) : (aF k i v x).2.length ≤ 2 := by
  unfold aF
  split
  · exact Nat.le_refl _
  · split
    · exact Nat.le_refl _
    · split
      · exact Nat.le_refl _
      · exact Nat.le_succ _
theorem aP_len (k i v x : Int) : (aP k i v x).2.length ≤ 3 := by
  have := aF_len k i v x
  show (aF k i v x).2.length + 1 ≤ 3
  omega
theorem aQ_len (k i v x : Int) : (aQ k i v x).2.length ≤ 4 := by
  have := aP_len k i v x
  show (aP k i v x).2.length + 1 ≤ 4
  omega
theorem aL_len (k i v x : Int) : (aL k i v x).2.length ≤ 5 := by
  have h1 := aQ_len k i v x
  have h2 := aQ_len k i v (kadd x 1)
  have h3 := aP_len k i v x
  unfold aL
  split
  · omega
  · split
    · show (aQ k i v (kadd x 1)).2.length + 1 ≤ 5
      omega
    · split
      · show ((aP k i v x).2 ++ [10]).length + 1 ≤ 5
        rw [List.length_append]
        show (aP k i v x).2.length + 1 + 1 ≤ 5
        omega
      · omega
theorem aT_len (k i v x : Int) : (aT k i v x).2.length ≤ 6 := by
  have := aL_len k i v x
  show (aL k i v x).2.length + 1 ≤ 6
  omega
theorem aU_len (k i v x : Int) : (aU k i v x).2.length ≤ 12 := by
  have h1 := aT_len k i v x
  have h2 := aT_len k i v (ksub x i)
  have h3 := aL_len k i v 1
  unfold aU
  split
  · show ((aT k i v x).2 ++ (aL k i v 1).2).length + 1 ≤ 12
    rw [List.length_append]
    omega
  · split
    · show (aT k i v (ksub x i)).2.length + 1 ≤ 12
      omega
    · omega
/-- the class: who is asked (t), its number and v, what comes of x, within n bodies -/
def qDc (f : qSem) (t i v : Int) (R : Int → Int × List Int) (n : Nat) : Prop := ∀ (x : Int) (M : qMem), M 71 1 = i → M 71 2 = v → 0 ≤ M 71 3 → M 71 3 + n ≤ 20 → f [qA t, qA 71, qI x] (qH0 M) = some (some (qI (R x).1), qH0 (fLg 72 71 3 M (R x).2))
theorem qDc_1 {M : qMem} {b i v : Int} (h1 : M 71 1 = i) (h2 : M 71 2 = v) (h3 : 0 ≤ M 71 3) (h4 : M 71 3 + 1 ≤ 20) : S_X0_begins [qA 71, qI b] (qH0 M) = some (none, qH0 (fLg 72 71 3 M [b])) ∧ fLg 72 71 3 M [b] 71 1 = i ∧ fLg 72 71 3 M [b] 71 2 = v ∧ fLg 72 71 3 M [b] 71 3 = M 71 3 + 1 :=
  ⟨sX0_begins h3 (by omega), by rw [fLg_o (by omega) (by omega)]; exact h1, by rw [fLg_o (by omega) (by omega)]; exact h2, by rw [fLg_n (by omega)]; rfl⟩
theorem cF0 {t i v : Int} : qDc S_X4_folds t i v (fun x => (kadd x i, [10])) 1 := by
  intro x M h1 h2 h3 h4
  obtain ⟨b1, b2, b3, b4⟩ := qDc_1 (b := 10) h1 h2 h3 (by omega)
  rw [E_X4_folds, B_X4_folds_0, b1, qbd_some]
  show qlim C_X4_folds (6, [some (qA t), some (qA 71), some (qI x)], [], qH0 (fLg 72 71 3 M [10])) = _
  rw [B_X4_folds_6, b2]
theorem cF {M : qMem} {k i v : Int} (hk : 0 ≤ k ∧ k ≤ 6) : ∃ f, qsel [(4, S_X4_folds), (5, S_X4_folds), (2, S_X2_folds), (9, S_X4_folds), (7, S_X7_folds), (1, S_X2_folds), (10, S_X10_folds)] (qty (qH0 M) (k + 2)).1 = some f ∧ qDc f (k + 2) i v (aF k i v) 2 := by
  have w : ∀ t : Int, qDc S_X4_folds t i v (fun x => (kadd x i, [10])) 2 := fun t x M h1 h2 h3 h4 => cF0 x M h1 h2 h3 (by omega)
  have d : ∀ t : Int, (∀ M : qMem, qsel [(2, S_X4_folds), (1, S_X4_folds)] (qty (qH0 M) t).1 = some S_X4_folds) → qDc S_X2_folds t i v (fun x => (kadd (kmul x 3) i, [30, 10])) 2 := fun t ht x M h1 h2 h3 h4 => by
    obtain ⟨b1, b2, b3, b4⟩ := qDc_1 (b := 30) h1 h2 h3 (by omega)
    rw [E_X2_folds, B_X2_folds_0, b1, qbd_some]
    show qlim C_X2_folds (6, [some (qA t), some (qA 71), some (qI x)], [], qH0 (fLg 72 71 3 M [30])) = _
    rw [B_X2_folds_6 (ht _), cF0 (i := i) (v := v) (kmul x 3) _ b2 b3 (by omega) (by omega), qbd_some]
    exact B_X2_folds_14
  have e : k = 0 ∨ k = 1 ∨ k = 2 ∨ k = 3 ∨ k = 4 ∨ k = 5 ∨ k = 6 := by omega
  rcases e with rfl | rfl | rfl | rfl | rfl | rfl | rfl
  · exact ⟨_, rfl, w _⟩
  · exact ⟨_, rfl, w _⟩
  · exact ⟨_, rfl, d _ (fun _ => rfl)⟩
  · exact ⟨_, rfl, w _⟩
  · refine ⟨_, rfl, fun x M h1 h2 h3 h4 => ?_⟩
    obtain ⟨b1, b2, b3, b4⟩ := qDc_1 (b := 50) h1 h2 h3 (by omega)
    rw [E_X7_folds, B_X7_folds_0, b1, qbd_some]
    show qlim C_X7_folds (6, [some (qA (4 + 2)), some (qA 71), some (qI x)], [], qH0 (fLg 72 71 3 M [50])) = _
    rw [B_X7_folds_6 rfl, cF0 (i := i) (v := v) x _ b2 b3 (by omega) (by omega), qbd_some]
    exact B_X7_folds_12
  · exact ⟨_, rfl, d _ (fun _ => rfl)⟩
  · refine ⟨_, rfl, fun x M h1 h2 h3 h4 => ?_⟩
    obtain ⟨b1, b2, b3, b4⟩ := qDc_1 (b := 71) h1 h2 h3 (by omega)
    rw [E_X10_folds, B_X10_folds_0, b1, qbd_some]
    show qlim C_X10_folds (6, [some (qA (6 + 2)), some (qA 71), some (qI x)], [], qH0 (fLg 72 71 3 M [71])) = _
    rw [B_X10_folds_6 rfl, cF0 (i := i) (v := v) x _ b2 b3 (by omega) (by omega), qbd_some]
    show qlim C_X10_folds (12, [some (qA (6 + 2)), some (qA 71), some (qI x)], [qI (kadd x i)], qH0 (fLg 72 71 3 (fLg 72 71 3 M [71]) [10])) = _
    rw [B_X10_folds_12, fLg_o (by omega) (by omega), b3]
    rfl
theorem cP {k i v : Int} (hk : 0 ≤ k ∧ k ≤ 6) : qDc S_X4_licks (k + 2) i v (aP k i v) 3 := by
  intro x M h1 h2 h3 h4
  obtain ⟨b1, b2, b3, b4⟩ := qDc_1 (b := 11) h1 h2 h3 (by omega)
  obtain ⟨f, s, d⟩ := cF (M := fLg 72 71 3 M [11]) (i := i) (v := v) hk
  rw [E_X4_licks, B_X4_licks_0, b1, qbd_some]
  show qlim C_X4_licks (6, [some (qA (k + 2)), some (qA 71), some (qI x)], [], qH0 (fLg 72 71 3 M [11])) = _
  rw [B_X4_licks_6 s, d x _ b2 b3 (by omega) (by omega), qbd_some]
  show qlim C_X4_licks (12, [some (qA (k + 2)), some (qA 71), some (qI x)], [qI (aF k i v x).1], qH0 (fLg 72 71 3 (fLg 72 71 3 M [11]) (aF k i v x).2)) = _
  rw [B_X4_licks_12, fLg_o (by omega) (by omega), b3]
  rfl
theorem cQ {k i v : Int} (hk : k = 1 ∨ k = 4) : qDc S_X5_licks (k + 2) i v (aQ k i v) 4 := by
  intro x M h1 h2 h3 h4
  obtain ⟨b1, b2, b3, b4⟩ := qDc_1 (b := 20) h1 h2 h3 (by omega)
  have s : qsel [(5, S_X4_licks), (7, S_X4_licks)] (qty (qH0 (fLg 72 71 3 M [20])) (k + 2)).1 = some S_X4_licks := by
    rcases hk with rfl | rfl <;> rfl
  rw [E_X5_licks, B_X5_licks_0, b1, qbd_some]
  show qlim C_X5_licks (6, [some (qA (k + 2)), some (qA 71), some (qI x)], [], qH0 (fLg 72 71 3 M [20])) = _
  rw [B_X5_licks_6 s, cP (i := i) (v := v) (by omega) x _ b2 b3 (by omega) (by omega), qbd_some]
  exact B_X5_licks_12
theorem cL {M : qMem} {k i v : Int} (hk : 0 ≤ k ∧ k ≤ 6) : ∃ f, qsel [(4, S_X4_licks), (5, S_X5_licks), (2, S_X4_licks), (9, S_X4_licks), (7, S_X7_licks), (1, S_X4_licks), (10, S_X10_licks)] (qty (qH0 M) (k + 2)).1 = some f ∧ qDc f (k + 2) i v (aL k i v) 5 := by
  have w : ∀ k : Int, (0 ≤ k ∧ k ≤ 6) → (¬ k = 1 ∧ ¬ k = 4 ∧ ¬ k = 6) → qDc S_X4_licks (k + 2) i v (aL k i v) 5 := fun k hk hn x M h1 h2 h3 h4 => by
    have q := cP (i := i) (v := v) hk x M h1 h2 h3 (by omega)
    unfold aL
    rw [if_neg hn.1, if_neg hn.2.1, if_neg hn.2.2]
    exact q
  have e : k = 0 ∨ k = 1 ∨ k = 2 ∨ k = 3 ∨ k = 4 ∨ k = 5 ∨ k = 6 := by omega
  rcases e with rfl | rfl | rfl | rfl | rfl | rfl | rfl
  · exact ⟨_, rfl, w 0 (by omega) (by omega)⟩
  · exact ⟨_, rfl, fun x M h1 h2 h3 h4 => cQ (Or.inl rfl) x M h1 h2 h3 (by omega)⟩
  · exact ⟨_, rfl, w 2 (by omega) (by omega)⟩
  · exact ⟨_, rfl, w 3 (by omega) (by omega)⟩
  · refine ⟨_, rfl, fun x M h1 h2 h3 h4 => ?_⟩
    obtain ⟨b1, b2, b3, b4⟩ := qDc_1 (b := 51) h1 h2 h3 (by omega)
    rw [E_X7_licks, B_X7_licks_0, b1, qbd_some]
    show qlim C_X7_licks (6, [some (qA (4 + 2)), some (qA 71), some (qI x)], [], qH0 (fLg 72 71 3 M [51])) = _
    rw [B_X7_licks_6 rfl, cQ (k := 4) (i := i) (v := v) (Or.inr rfl) (kadd x 1) _ b2 b3 (by omega) (by omega), qbd_some]
    exact B_X7_licks_14
  · exact ⟨_, rfl, w 5 (by omega) (by omega)⟩
  · refine ⟨_, rfl, fun x M h1 h2 h3 h4 => ?_⟩
    obtain ⟨b1, b2, b3, b4⟩ := qDc_1 (b := 70) h1 h2 h3 (by omega)
    have l := aP_len 6 i v x
    rw [E_X10_licks, B_X10_licks_0, b1, qbd_some]
    show qlim C_X10_licks (6, [some (qA (6 + 2)), some (qA 71), some (qI x), none], [], qH0 (fLg 72 71 3 M [70])) = _
    rw [B_X10_licks_6 rfl, cP (k := 6) (i := i) (v := v) (by omega) x _ b2 b3 (by omega) (by omega), qbd_some]
    show qlim C_X10_licks (12, [some (qA (6 + 2)), some (qA 71), some (qI x), none], [qI (aP 6 i v x).1], qH0 (fLg 72 71 3 (fLg 72 71 3 M [70]) (aP 6 i v x).2)) = _
    rw [B_X10_licks_12 rfl, cF0 (i := i) (v := v) 2 _ (by rw [fLg_o (by omega) (by omega)]; exact b2) (by rw [fLg_o (by omega) (by omega)]; exact b3) (by rw [fLg_n (by omega)]; omega) (by rw [fLg_n (by omega)]; omega), qbd_some]
    show qlim C_X10_licks (20, [some (qA (6 + 2)), some (qA 71), some (qI x), some (qI (aP 6 i v x).1)], [qI (kadd 2 i), qI (aP 6 i v x).1], qH0 (fLg 72 71 3 (fLg 72 71 3 (fLg 72 71 3 M [70]) (aP 6 i v x).2) [10])) = _
    rw [B_X10_licks_20, ← fLg_app]
    rfl
theorem cT {k i v : Int} (hk : 0 ≤ k ∧ k ≤ 6) : qDc S_X4_tells (k + 2) i v (aT k i v) 6 := by
  intro x M h1 h2 h3 h4
  obtain ⟨b1, b2, b3, b4⟩ := qDc_1 (b := 12) h1 h2 h3 (by omega)
  obtain ⟨f, s, d⟩ := cL (M := fLg 72 71 3 M [12]) (i := i) (v := v) hk
  rw [E_X4_tells, B_X4_tells_0, b1, qbd_some]
  show qlim C_X4_tells (6, [some (qA (k + 2)), some (qA 71), some (qI x)], [], qH0 (fLg 72 71 3 M [12])) = _
  rw [B_X4_tells_6 s, d x _ b2 b3 (by omega) (by omega), qbd_some]
  exact B_X4_tells_12
theorem cU9 {k i v : Int} (hk : k = 3 ∨ k = 6) : qDc S_X9_tells (k + 2) i v (aU k i v) 12 := by
  intro x M h1 h2 h3 h4
  obtain ⟨b1, b2, b3, b4⟩ := qDc_1 (b := 40) h1 h2 h3 (by omega)
  have l := aT_len k i v x
  have s : qsel [(9, S_X4_tells), (10, S_X4_tells)] (qty (qH0 (fLg 72 71 3 M [40])) (k + 2)).1 = some S_X4_tells := by
    rcases hk with rfl | rfl <;> rfl
  obtain ⟨f, s2, d⟩ : ∃ f, qsel [(9, S_X4_licks), (10, S_X10_licks)] (qty (qH0 (fLg 72 71 3 (fLg 72 71 3 M [40]) (aT k i v x).2)) (k + 2)).1 = some f ∧ qDc f (k + 2) i v (aL k i v) 5 := by
    obtain ⟨f, s2, d⟩ := cL (M := fLg 72 71 3 (fLg 72 71 3 M [40]) (aT k i v x).2) (k := k) (i := i) (v := v) (by omega)
    refine ⟨f, ?_, d⟩
    rw [← s2]
    rcases hk with rfl | rfl <;> rfl
  have ea : aU k i v x = (kadd (aT k i v x).1 (aL k i v 1).1, 40 :: ((aT k i v x).2 ++ (aL k i v 1).2)) := by
    unfold aU
    rw [if_pos hk]
  rw [E_X9_tells, B_X9_tells_0, b1, qbd_some]
  show qlim C_X9_tells (6, [some (qA (k + 2)), some (qA 71), some (qI x), none], [], qH0 (fLg 72 71 3 M [40])) = _
  rw [B_X9_tells_6 s, cT (i := i) (v := v) (by omega) x _ b2 b3 (by omega) (by omega), qbd_some]
  show qlim C_X9_tells (12, [some (qA (k + 2)), some (qA 71), some (qI x), none], [qI (aT k i v x).1], qH0 (fLg 72 71 3 (fLg 72 71 3 M [40]) (aT k i v x).2)) = _
  rw [B_X9_tells_12 s2, d 1 _ (by rw [fLg_o (by omega) (by omega)]; exact b2) (by rw [fLg_o (by omega) (by omega)]; exact b3) (by rw [fLg_n (by omega)]; omega) (by rw [fLg_n (by omega)]; omega), qbd_some]
  show qlim C_X9_tells (20, [some (qA (k + 2)), some (qA 71), some (qI x), some (qI (aT k i v x).1)], [qI (aL k i v 1).1, qI (aT k i v x).1], qH0 (fLg 72 71 3 (fLg 72 71 3 (fLg 72 71 3 M [40]) (aT k i v x).2) (aL k i v 1).2)) = _
  rw [B_X9_tells_20, ← fLg_app, ea]
  rfl
theorem cU {M : qMem} {k i v : Int} (hk : 0 ≤ k ∧ k ≤ 6) : ∃ f, qsel [(4, S_X4_tells), (5, S_X4_tells), (2, S_X4_tells), (9, S_X9_tells), (7, S_X4_tells), (1, S_X1_tells), (10, S_X9_tells)] (qty (qH0 M) (k + 2)).1 = some f ∧ qDc f (k + 2) i v (aU k i v) 12 := by
  have w : ∀ k : Int, (0 ≤ k ∧ k ≤ 6) → (¬ k = 3 ∧ ¬ k = 6 ∧ ¬ k = 5) → qDc S_X4_tells (k + 2) i v (aU k i v) 12 := fun k hk hn x M h1 h2 h3 h4 => by
    have q := cT (i := i) (v := v) hk x M h1 h2 h3 (by omega)
    unfold aU
    rw [if_neg (by omega), if_neg hn.2.2]
    exact q
  have e : k = 0 ∨ k = 1 ∨ k = 2 ∨ k = 3 ∨ k = 4 ∨ k = 5 ∨ k = 6 := by omega
  rcases e with rfl | rfl | rfl | rfl | rfl | rfl | rfl
  · exact ⟨_, rfl, w 0 (by omega) (by omega)⟩
  · exact ⟨_, rfl, w 1 (by omega) (by omega)⟩
  · exact ⟨_, rfl, w 2 (by omega) (by omega)⟩
  · exact ⟨_, rfl, cU9 (Or.inl rfl)⟩
  · exact ⟨_, rfl, w 4 (by omega) (by omega)⟩
  · refine ⟨_, rfl, fun x M h1 h2 h3 h4 => ?_⟩
    obtain ⟨b1, b2, b3, b4⟩ := qDc_1 (b := 60) h1 h2 h3 (by omega)
    rw [E_X1_tells, B_X1_tells_0, b1, qbd_some]
    show qlim C_X1_tells (6, [some (qA (5 + 2)), some (qA 71), some (qI x)], [], qH0 (fLg 72 71 3 M [60])) = _
    rw [B_X1_tells_6 rfl, b2, cT (k := 5) (i := i) (v := v) (by omega) (ksub x i) _ b2 b3 (by omega) (by omega), qbd_some]
    exact B_X1_tells_17
  · exact ⟨_, rfl, cU9 (Or.inr rfl)⟩
