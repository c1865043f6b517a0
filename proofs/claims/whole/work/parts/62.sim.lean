/-! the text: the class's descent beside the reference's stack -/
def qDr (M : qMem) (s : Int) (x : Nat) : Nat → Option Nat
  | 0 => some x
  | k + 1 => (qDr M s x k).bind (qDs (M 96 (s + k)))
theorem qDr_p {M : qMem} {s : Int} : ∀ k : Nat, qDp M s k = qDr M s 0 k
  | 0 => rfl
  | k + 1 => by
    unfold qDp qDr
    rw [qDr_p k]
theorem qDr_row {M N : qMem} {s : Int} {x : Nat} : ∀ k : Nat, (∀ i : Nat, i < k → N 96 (s + i) = M 96 (s + i)) → qDr N s x k = qDr M s x k
  | 0, _ => rfl
  | k + 1, h => by
    unfold qDr
    rw [qDr_row k (fun i hi => h i (by omega)), h k (by omega)]
theorem qDr_add {M : qMem} {s : Int} {x y a : Nat} (h : qDr M s x a = some y) : ∀ b : Nat, qDr M s x (a + b) = qDr M (s + a) y b
  | 0 => h
  | b + 1 => by
    have ih := qDr_add h b
    show (qDr M s x (a + b)).bind (qDs (M 96 (s + ((a + b : Nat) : Int)))) = (qDr M (s + a) y b).bind (qDs (M 96 (s + (a : Int) + b)))
    have e : s + ((a + b : Nat) : Int) = s + a + b := by omega
    rw [ih, e]
theorem qDr_1 {M : qMem} {s v : Int} {x y : Nat} (h : M 96 s = v) (h2 : qDs v x = some y) : qDr M s x 1 = some y := by
  show (some x).bind (qDs (M 96 (s + ((0 : Nat) : Int)))) = some y
  have e : s + ((0 : Nat) : Int) = s := by omega
  rw [e, h]
  exact h2
theorem fTc_eq {M N : qMem} {g : Int} : ∀ i : Nat, (∀ k : Nat, k < i → N (g + 2) k = M (g + 2) k) → fTc N g i = fTc M g i
  | 0, _ => rfl
  | i + 1, h => by
    unfold fTc
    rw [fTc_eq i (fun k hk => h k (by omega)), h i (by omega)]
/-- what the class's reading may change, and how far it may go -/
def qCf (g : Int) (M' M : qMem) : Prop := (∀ a : Int, ¬ a = g → ¬ a = g + 2 → M' a = M a) ∧ (∀ k : Int, ¬ k = 3 → ¬ k = 6 → M' g k = M g k) ∧ (∀ k : Int, k < M g 3 → M' (g + 2) k = M (g + 2) k)
def qGo (g n : Int) (M' M : qMem) : Prop := qCf g M' M ∧ (M g 6 ≤ M' g 6 ∧ M' g 6 ≤ n) ∧ (M g 3 ≤ M' g 3 ∧ M' g 3 ≤ 100)
theorem qGo_t {g n : Int} {L M N : qMem} (h1 : qGo g n L M) (h2 : qGo g n M N) : qGo g n L N := by
  have a := h1.2
  have b := h2.2
  exact ⟨⟨fun a a1 a2 => (h1.1.1 a a1 a2).trans (h2.1.1 a a1 a2), fun k a b => (h1.1.2.1 k a b).trans (h2.1.2.1 k a b), fun k hk => (h1.1.2.2 k (by omega)).trans (h2.1.2.2 k hk)⟩, by omega, by omega⟩
theorem qGo_r {g n : Int} {M : qMem} (h : M g 6 ≤ n) (h2 : M g 3 ≤ 100) : qGo g n M M := ⟨⟨fun _ _ _ => rfl, fun _ _ _ => rfl, fun _ _ => rfl⟩, by omega, by omega⟩
theorem qGo_6 {g n v : Int} {M : qMem} (h : M g 6 ≤ v) (h1 : v ≤ n) (h2 : M g 3 ≤ 100) : qGo g n (qup M g 6 v) M :=
  ⟨⟨fun a a1 _ => qup_row (by omega), fun k _ b => qup_ne (by omega), fun k _ => qup_ne (by omega)⟩, by rw [qup_self]; omega, by rw [qup_ne (by omega)]; omega⟩
theorem qGo_a {g n x : Int} {M : qMem} (hg : qHl g) (h : M g 6 ≤ n) (h2 : M g 3 < 100) : qGo g n (qup (qup M (g + 2) (M g 3) x) g 3 (M g 3 + 1)) M :=
  ⟨⟨fun a a1 a2 => by rw [qup_row (by omega), qup_row (by omega)], fun k a b => by rw [qup_ne (by omega), qup_ne (by omega)], fun k hk => by rw [qup_ne (by omega), qup_ne (by omega)]⟩, by rw [qup_ne (by omega), qup_ne (by omega)]; omega, by rw [qup_self]; omega⟩
theorem qTc_go {g n m : Int} {L M : qMem} {t : Int → Int} (h : qTc M g n t) (f : qGo g m L M) : qTc L g n t :=
  qTc_row h (f.1.2.1 2 (by omega) (by omega)) (f.1.1 _ (by omega) (by omega))
/-- the reference stands where the class stands -/
def qRl (g n d c B : Int) (t : Int → Int) (j : Nat) (M N : qMem) : Prop := qTm N n t ∧ N 82 13 = M g 6 ∧ N 82 25 = d ∧ (0 ≤ c ∧ c < 60) ∧ qTop N j ∧ (j : Int) ≤ d ∧ (0 ≤ B ∧ B ≤ 500 ∧ B ≤ N 82 23 ∧ N 82 23 + N 82 24 ≤ B + N 82 13)
/-- what the reference has done: m signs more, then j times ! -/
def qRx (e : Nat) (c g : Int) (M' M N' N : qMem) (m j : Nat) : Prop := qFr c N' N ∧ N' 82 13 = M' g 6 ∧ N' 82 23 = N 82 23 + m + j ∧ N' 82 24 = N 82 24 - j ∧ N' 82 25 = N 82 25 - j ∧ (∀ k : Int, k < N 82 24 - j → N' 97 k = N 97 k) ∧ (∀ k : Int, k < N 82 23 → N' 96 k = N 96 k) ∧
  (∀ k : Nat, k < m → qTk (N' 96 (N 82 23 + k)) (M' (g + 2) (M g 3 + k))) ∧ (∀ k : Nat, k < j → N' 96 (N 82 23 + m + k) = -33) ∧ (∀ x : Nat, qDr N' (N 82 23) (x + 1 - e) m = some (x + 1))
def qYes (w e : Nat) (g n d : Int) (t : Int → Int) (K : Nat → Int → Prop) (M M' : qMem) : Prop := ∃ m : Nat, (M' g 3 = M g 3 + m ∧ (m : Int) ≤ M' g 6 - M g 6 ∧ (∀ k : Int, M g 3 ≤ k → k < M' g 3 → 0 ≤ M' (g + 2) k ∧ M' (g + 2) k < 6553600) ∧ 2 * fTc M' g (M' g 3).toNat ≤ 2 * fTc M g (M g 3).toNat + m + e) ∧
  ∀ (j : Nat) (c B : Int) (N : qMem), qRl g n d c B t j M N → (N 82 24 = 0 ∨ K j (N 97 (N 82 24 - 1))) → ∃ N', rE c w N = rE c 0 N' ∧ qRx e c g M' M N' N m j
def qNo (w : Nat) (g n d : Int) (t : Int → Int) (K : Nat → Int → Prop) (M M' : qMem) : Prop := ∀ (j : Nat) (c B : Int) (N : qMem), qRl g n d c B t j M N → (N 82 24 = 0 ∨ K j (N 97 (N 82 24 - 1))) →
  ∃ N', rE c w N = some (some (qI 0), qH0 N') ∧ qFr c N' N ∧ N' 82 13 = M' g 6 ∧ (∀ k : Int, k < N 82 23 → N' 96 k = N 96 k)
def qSm (w e : Nat) (g n d : Int) (t : Int → Int) (K : Nat → Int → Prop) (X : Int → Prop) (M : qMem) (R : qRes) : Prop := ∃ (v : Int) (M' : qMem), R = some (some (qI v), qH0 M') ∧ qGo g n M' M ∧
  ((v = 1 ∧ X (t (M' g 6)) ∧ qYes w e g n d t K M M') ∨ (v = 0 ∧ qNo w g n d t K M M'))
def qSmm (F : qSem) (d : Int) (K : Nat → Int → Prop) (X : Int → Prop) : Prop := ∀ (g n : Int) (t : Int → Int) (M : qMem), qTc M g n t → (0 ≤ M g 6 ∧ M g 6 ≤ n) → (0 ≤ M g 3 ∧ M g 3 ≤ M g 6) → qSm 1 1 g n d t K X M (F [qA g, qI d] (qH0 M))
theorem qRl_w {g n d c B : Int} {t : Int → Int} {j : Nat} {M N : qMem} (h : qRl g n d c B t j M N) (hn : M g 6 ≤ n) : 0 ≤ N 82 24 ∧ N 82 24 ≤ N 82 13 ∧ 0 ≤ N 82 23 ∧ N 82 23 + N 82 24 ≤ 600 ∧ N 82 24 ≤ 100 := by
  obtain ⟨h1, h2, h3, h4, h5, h6, h7⟩ := h
  have a := h5.1
  have b := h1.2.1
  omega
/-- the reference behind a piece stands where the class stands -/
theorem qRl_t {e : Nat} {g n d c B : Int} {t : Int → Int} {M M1 N N1 : qMem} {m : Nat} (h : qRl g n d c B t 0 M N) (f : qRx e c g M1 M N1 N m 0) (hm : (m : Int) ≤ M1 g 6 - M g 6) : qRl g n d c B t 0 M1 N1 := by
  obtain ⟨h1, h2, h3, h4, h5, h6, h7⟩ := h
  obtain ⟨f1, f2, f3, f4, f5, f6, f7, f8, f9, f10⟩ := f
  refine ⟨qTm_fr h1 f1, f2, by omega, h4, ⟨by have := h5.1; omega, fun k a b => by omega, ?_⟩, h6, by omega⟩
  rcases h5.2.2 with q | q
  · exact Or.inl (by omega)
  · by_cases z : N 82 24 = 0
    · exact Or.inl (by omega)
    · refine Or.inr (fun r => q ?_)
      rw [← r]
      have e1 : N1 82 24 - ((0 : Nat) : Int) - 1 = N 82 24 - ((0 : Nat) : Int) - 1 := by omega
      rw [e1, f6 _ (by omega)]
theorem qK_t {e : Nat} {c g : Int} {K : Nat → Int → Prop} {M M1 N N1 : qMem} {m : Nat} (hK : N 82 24 = 0 ∨ K 0 (N 97 (N 82 24 - 1))) (f : qRx e c g M1 M N1 N m 0) : N1 82 24 = 0 ∨ K 0 (N1 97 (N1 82 24 - 1)) := by
  obtain ⟨f1, f2, f3, f4, f5, f6, f7, f8, f9, f10⟩ := f
  rcases hK with z | z
  · exact Or.inl (by omega)
  · refine Or.inr ?_
    have e1 : N1 82 24 - 1 = N 82 24 - 1 := by omega
    rw [e1, f6 _ (by omega)]
    exact z
theorem qRl_0 {g n d c B : Int} {t : Int → Int} {j : Nat} {M N : qMem} {K : Nat → Int → Prop} (h : qRl g n d c B t j M N) (hK : N 82 24 = 0 ∨ K j (N 97 (N 82 24 - 1))) (hj : ∀ (j : Nat) (x : Int), K j x → j = 0) : j = 0 := by
  rcases hK with z | z
  · have := h.2.2.2.2.1.1
    omega
  · exact hj _ _ z
/-- a piece, then another -/
theorem qRx_t {e : Nat} {c g : Int} {M M1 M2 N N1 N2 : qMem} {m m2 : Nat} (f : qRx e c g M1 M N1 N m 0) (f2 : qRx 0 c g M2 M1 N2 N1 m2 0) (h1 : M1 g 3 = M g 3 + m) (hg : ∀ k : Int, k < M1 g 3 → M2 (g + 2) k = M1 (g + 2) k) : qRx e c g M2 M N2 N (m + m2) 0 := by
  obtain ⟨f1, f2', f3, f4, f5, f6, f7, f8, f9, f10⟩ := f
  obtain ⟨g1, g2, g3, g4, g5, g6, g7, g8, g9, g10⟩ := f2
  refine ⟨qFr_t g1 f1, g2, by omega, by omega, by omega, fun k hk => by rw [g6 k (by omega), f6 k (by omega)], fun k hk => by rw [g7 k (by omega), f7 k hk], fun k hk => ?_, fun k hk => by omega, fun x => ?_⟩
  · by_cases c : k < m
    · rw [g7 _ (by omega), hg _ (by omega)]
      exact f8 k c
    · have q := g8 (k - m) (by omega)
      have e1 : N1 82 23 + ((k - m : Nat) : Int) = N 82 23 + k := by omega
      have e2 : M1 g 3 + ((k - m : Nat) : Int) = M g 3 + k := by omega
      rw [e1, e2] at q
      exact q
  · have q1 : qDr N2 (N 82 23) (x + 1 - e) m = some (x + 1) := by
      rw [qDr_row m (fun i hi => g7 _ (by omega))]
      exact f10 x
    rw [qDr_add q1 m2]
    have e1 : N 82 23 + (m : Int) = N1 82 23 := by omega
    rw [e1]
    exact g10 x
theorem qYes_t {w e : Nat} {g n d : Int} {t : Int → Int} {K : Nat → Int → Prop} {M M1 M2 : qMem} (hj : ∀ (j : Nat) (x : Int), K j x → j = 0) (h1 : qYes w e g n d t K M M1) (h2 : qYes 0 0 g n d t K M1 M2) (g1 : qGo g n M1 M) (g2 : qGo g n M2 M1) (h0 : 0 ≤ M g 3) : qYes w e g n d t K M M2 := by
  obtain ⟨m, ⟨a1, a2, a3, a4⟩, a5⟩ := h1
  obtain ⟨m2, ⟨b1, b2, b3, b4⟩, b5⟩ := h2
  have hg := g2.1.2.2
  refine ⟨m + m2, ⟨by omega, by omega, fun k k1 k2 => ?_, by omega⟩, fun j c B N hl hK => ?_⟩
  · by_cases c : k < M1 g 3
    · rw [hg k c]
      exact a3 k k1 c
    · exact b3 k (by omega) k2
  · have z := qRl_0 hl hK hj
    subst z
    obtain ⟨N1, q1, q2⟩ := a5 0 c B N hl hK
    obtain ⟨N2, r1, r2⟩ := b5 0 c B N1 (qRl_t hl q2 a2) (qK_t hK q2)
    exact ⟨N2, q1.trans r1, qRx_t q2 r2 a1 hg⟩
theorem qYes_no {w e : Nat} {g n d : Int} {t : Int → Int} {K : Nat → Int → Prop} {M M1 M2 : qMem} (hj : ∀ (j : Nat) (x : Int), K j x → j = 0) (h1 : qYes w e g n d t K M M1) (h2 : qNo 0 g n d t K M1 M2) : qNo w g n d t K M M2 := by
  obtain ⟨m, ⟨a1, a2, a3, a4⟩, a5⟩ := h1
  intro j c B N hl hK
  have z := qRl_0 hl hK hj
  subst z
  obtain ⟨N1, q1, q2⟩ := a5 0 c B N hl hK
  obtain ⟨N2, r1, r2, r3, r4⟩ := h2 0 c B N1 (qRl_t hl q2 a2) (qK_t hK q2)
  refine ⟨N2, q1.trans r1, qFr_t r2 q2.1, r3, fun k hk => ?_⟩
  have e23 := q2.2.2.1
  rw [r4 k (by omega), q2.2.2.2.2.2.2.1 k hk]
