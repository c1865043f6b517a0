/-! the text: signs that join, on both sides -/
theorem rE_op' {N : qMem} {n c b : Int} {t : Int → Int} (h : qTm N n t) (h0 : 0 ≤ N 82 13) (hb : t (N 82 13) = b) (hb2 : b = 38 ∨ b = 124) (hw : 0 ≤ N 82 24 ∧ N 82 24 ≤ 99) (ht : N 82 24 = 0 ∨ (¬ N 97 (N 82 24 - 1) = 38 ∧ (N 97 (N 82 24 - 1) = 124 → b = 38))) :
    ∃ P, rE c 0 N = rE c 1 P ∧ qFr c P N ∧ P 82 13 = N 82 13 + 1 ∧ P 82 24 = N 82 24 + 1 ∧ P 82 25 = N 82 25 ∧ P 82 23 = N 82 23 ∧ P 96 = N 96 ∧ P 97 (N 82 24) = b ∧ (∀ k : Int, k < N 82 24 → P 97 k = N 97 k) := by
  refine ⟨_, rE_op h h0 hb hb2 hw ht, qFr_up (qFr_up (qFr_up qFr_r (by omega)) (by omega)) (by omega), qup_self, ?_, ?_, ?_, ?_, ?_, fun k hk => ?_⟩
  · rw [qup_ne (by omega), qup_self]
  · rw [qup_ne (by omega), qup_ne (by omega), qup_ne (by omega)]
  · rw [qup_ne (by omega), qup_ne (by omega), qup_ne (by omega)]
  · rw [qup_row (by omega), qup_row (by omega), qup_row (by omega)]
  · rw [qup_ne (by omega), qup_ne (by omega), qup_self]
  · rw [qup_ne (by omega), qup_ne (by omega), qup_ne (by omega)]
theorem rE_eager' {N : qMem} {n c b : Int} {t : Int → Int} (h : qTm N n t) (h0 : 0 ≤ N 82 13) (hw : 1 ≤ N 82 24 ∧ N 82 24 ≤ 100) (hs : 0 ≤ N 82 23 ∧ N 82 23 < 600) (hb : N 97 (N 82 24 - 1) = b) (ht : b = 38 ∨ (b = 124 ∧ ¬ t (N 82 13) = 38)) :
    ∃ P, rE c 0 N = rE c 0 P ∧ qFr c P N ∧ P 82 13 = N 82 13 ∧ P 82 24 = N 82 24 - 1 ∧ P 82 25 = N 82 25 ∧ P 82 23 = N 82 23 + 1 ∧ P 97 = N 97 ∧ P 96 (N 82 23) = -b ∧ (∀ k : Int, ¬ k = N 82 23 → P 96 k = N 96 k) := by
  have q := rE_eager (c := c) h h0 hw hs (by rw [hb]; exact ht)
  rw [hb] at q
  refine ⟨_, q, qFr_up (qFr_up (qFr_up qFr_r (by omega)) (by omega)) (by omega), ?_, ?_, ?_, qup_self, ?_, ?_, fun k hk => ?_⟩
  · rw [qup_ne (by omega), qup_ne (by omega), qup_ne (by omega)]
  · rw [qup_ne (by omega), qup_ne (by omega), qup_self]
  · rw [qup_ne (by omega), qup_ne (by omega), qup_ne (by omega)]
  · rw [qup_row (by omega), qup_row (by omega), qup_row (by omega)]
  · rw [qup_ne (by omega), qup_self]
  · rw [qup_ne (by omega), qup_ne (by omega), qup_ne (by omega)]
/-- where a joining sign may be taken -/
def qKo (b : Int) (K : Nat → Int → Prop) : Prop := (∀ (j : Nat) (x : Int), K j x → j = 0) ∧ ∀ x : Int, K 0 x → ¬ x = 38 ∧ (x = 124 → b = 38)
theorem qOp_start {g n d c B b : Int} {t : Int → Int} {K K1 : Nat → Int → Prop} {M N : qMem} (hT : qTc M g n t) (h6 : 0 ≤ M g 6) (hb : t (M g 6) = b) (hb2 : b = 38 ∨ b = 124) (hK : qKo b K) (hl : qRl g n d c B t 0 M N) (hk : N 82 24 = 0 ∨ K 0 (N 97 (N 82 24 - 1))) :
    ∃ P, rE c 0 N = rE c 1 P ∧ qRl g n d c B t 0 (qup M g 6 (M g 6 + 1)) P ∧ qFr c P N ∧ P 82 24 = N 82 24 + 1 ∧ P 82 23 = N 82 23 ∧ P 96 = N 96 ∧ P 97 (P 82 24 - 1) = b ∧ (∀ k : Int, k < N 82 24 → P 97 k = N 97 k) := by
  have hlt := qTc_lt hT (i := M g 6) (by omega)
  have w := qRl_w hl (by omega)
  obtain ⟨h1, h2, h3, h4, h5, h6', h7⟩ := hl
  have hn := h1.2.1
  obtain ⟨P, p1, p2, p3, p4, p5, p6, p7, p8, p9⟩ := rE_op' (c := c) (b := b) h1 (by omega) (by rw [h2]; exact hb) hb2 (by omega) (by
    rcases hk with z | z
    · exact Or.inl z
    · exact Or.inr (hK.2 _ z))
  have e : P 82 24 - 1 = N 82 24 := by omega
  refine ⟨P, p1, ⟨qTm_fr h1 p2, by rw [qup_self]; omega, by omega, h4, ⟨by omega, fun k a b => by omega, Or.inr ?_⟩, h6', by omega⟩, p2, p4, p6, p7, by rw [e]; exact p8, p9⟩
  have e2 : P 82 24 - ((0 : Nat) : Int) - 1 = N 82 24 := by omega
  rw [e2, p8]
  omega
theorem qOp_yes {g n d b : Int} {t : Int → Int} {K K1 : Nat → Int → Prop} {M M2 : qMem} (hT : qTc M g n t) (h6 : 0 ≤ M g 6) (h3 : 0 ≤ M g 3 ∧ M g 3 ≤ M g 6) (hb : t (M g 6) = b) (hb2 : b = 38 ∨ b = 124) (hK : qKo b K) (hK1 : K1 0 b)
    (g2 : qGo g n M2 (qup M g 6 (M g 6 + 1))) (hX : b = 124 → ¬ t (M2 g 6) = 38) (hY : qYes 1 1 g n d t K1 (qup M g 6 (M g 6 + 1)) M2) :
    qYes 0 0 g n d t K M (qup (qup M2 (g + 2) (M2 g 3) b) g 3 (M2 g 3 + 1)) ∧ qGo g n (qup (qup M2 (g + 2) (M2 g 3) b) g 3 (M2 g 3 + 1)) M ∧ M2 g 3 < 100 ∧ M2 g 3 + 1 ≤ M2 g 6 := by
  have hlt := qTc_lt hT (i := M g 6) (by omega)
  have hn := hT.2.2.1
  have g1 := qGo_6 (n := n) (v := M g 6 + 1) (M := M) (g := g) (by omega) (by omega) (by omega)
  have gg := qGo_t g2 g1
  have x3 : qup M g 6 (M g 6 + 1) g 3 = M g 3 := qup_ne (by omega)
  have x6 : qup M g 6 (M g 6 + 1) g 6 = M g 6 + 1 := qup_self
  obtain ⟨m, ⟨a1, a2, a3, a4⟩, a5⟩ := hY
  rw [x3] at a1 a3 a4
  rw [x6] at a2
  have g26 := g2.2.1
  have f1 : fTc (qup M g 6 (M g 6 + 1)) g (M g 3).toNat = fTc M g (M g 3).toNat := fTc_eq _ (fun k hk => qup_ne (by omega))
  rw [f1] at a4
  have hg := hT.1
  have y3 : qup (qup M2 (g + 2) (M2 g 3) b) g 3 (M2 g 3 + 1) g 3 = M2 g 3 + 1 := qup_self
  have y6 : qup (qup M2 (g + 2) (M2 g 3) b) g 3 (M2 g 3 + 1) g 6 = M2 g 6 := by rw [qup_ne (by omega), qup_ne (by omega)]
  have yb : qup (qup M2 (g + 2) (M2 g 3) b) g 3 (M2 g 3 + 1) (g + 2) (M2 g 3) = b := by rw [qup_ne (by omega), qup_self]
  have yk : ∀ k : Int, ¬ k = M2 g 3 → qup (qup M2 (g + 2) (M2 g 3) b) g 3 (M2 g 3 + 1) (g + 2) k = M2 (g + 2) k := fun k hk => by rw [qup_ne (by omega), qup_ne (by omega)]
  refine ⟨⟨m + 1, ⟨by omega, by omega, fun k k1 k2 => ?_, ?_⟩, fun j c B N hl hk => ?_⟩, qGo_t (qGo_a hg (by omega) (by omega)) gg, by omega, by omega⟩
  · by_cases ck : k = M2 g 3
    · subst ck
      rw [yb]
      omega
    · rw [yk k ck]
      exact a3 k k1 (by omega)
  · have e1 : (M2 g 3 + 1).toNat = (M2 g 3).toNat + 1 := by omega
    have e2 : ((M2 g 3).toNat : Int) = M2 g 3 := by omega
    rw [y3, e1, fTc_s (by rw [e2, yb]; omega)]
    have e3 : fTc (qup (qup M2 (g + 2) (M2 g 3) b) g 3 (M2 g 3 + 1)) g (M2 g 3).toNat = fTc M2 g (M2 g 3).toNat := fTc_eq _ (fun k hk => yk _ (by omega))
    rw [e3]
    omega
  · have z := qRl_0 hl hk hK.1
    subst z
    obtain ⟨P, p1, p2, p3, p4, p5, p6, p7, p8⟩ := qOp_start (K1 := K1) hT h6 hb hb2 hK hl hk
    obtain ⟨N2, q1, q2, q3, q4, q5, q6, q7, q8, q9, q10, q11⟩ := a5 0 c B P p2 (Or.inr (by rw [p7]; exact hK1))
    have w := qRl_w hl (by omega)
    have wu := hl.2.2.2.2.2.2
    have w13 := hl.2.1
    have t2 : N2 97 (N2 82 24 - 1) = b := by
      have e : N2 82 24 - 1 = P 82 24 - 1 := by omega
      rw [e, q7 _ (by omega), p7]
    obtain ⟨N3, r1, r2, r3, r4, r5, r6, r7, r8, r9⟩ := rE_eager' (c := c) (b := b) (qTm_fr (qTm_fr hl.1 p3) q2) (by omega) (by omega) (by omega) t2 (by
      rcases hb2 with z | z
      · exact Or.inl z
      · refine Or.inr ⟨z, ?_⟩
        rw [q3]
        exact hX z)
    refine ⟨N3, p1.trans (q1.trans r1), qFr_t r2 (qFr_t q2 p3), by omega, by omega, by omega, by have := hl.2.2.1; have := p2.2.2.1; omega, fun k hk => ?_, fun k hk => ?_, fun k hk => ?_, fun k hk => by omega, fun x => ?_⟩
    · rw [r7, q7 k (by omega), p8 k (by omega)]
    · rw [r9 k (by omega), q8 k (by omega), p6]
    · by_cases ck : k < m
      · have q := q9 k ck
        rw [x3] at q
        rw [r9 _ (by omega), yk _ (by omega)]
        rw [p5] at q
        exact q
      · have ek : k = m := by omega
        subst ek
        have e1 : N 82 23 + (k : Int) = N2 82 23 := by omega
        have e2 : M g 3 + (k : Int) = M2 g 3 := by omega
        rw [e1, e2, r8, yb]
        unfold qTk
        omega
    · have q := q11 (x + 1)
      have e0 : x + 1 + 1 - 1 = x + 1 := by omega
      rw [e0, p5] at q
      have q' : qDr N3 (N 82 23) (x + 1 - 0) m = some (x + 1 + 1) := by
        rw [← q]
        exact qDr_row m (fun i hi => r9 _ (by omega))
      rw [qDr_add q' 1]
      have e1 : N 82 23 + (m : Int) = N2 82 23 := by omega
      rw [e1]
      refine qDr_1 r8 ?_
      unfold qDs
      rw [if_neg (by omega), if_pos (by omega), if_pos (by omega)]
      congr 1
theorem qOp_no {g n d b : Int} {t : Int → Int} {K K1 : Nat → Int → Prop} {M M2 : qMem} (hT : qTc M g n t) (h6 : 0 ≤ M g 6) (hb : t (M g 6) = b) (hb2 : b = 38 ∨ b = 124) (hK : qKo b K) (hK1 : K1 0 b)
    (hY : qNo 1 g n d t K1 (qup M g 6 (M g 6 + 1)) M2) : qNo 0 g n d t K M M2 := by
  intro j c B N hl hk
  have z := qRl_0 hl hk hK.1
  subst z
  obtain ⟨P, p1, p2, p3, p4, p5, p6, p7, p8⟩ := qOp_start (K1 := K1) hT h6 hb hb2 hK hl hk
  obtain ⟨N2, q1, q2, q3, q4⟩ := hY 0 c B P p2 (Or.inr (by rw [p7]; exact hK1))
  exact ⟨N2, p1.trans q1, qFr_t q2 p3, q3, fun k hk => by rw [q4 k (by omega), p6]⟩
