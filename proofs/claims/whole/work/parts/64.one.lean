/-! the text: one piece, both sides -/
def KO (_ : Nat) (_ : Int) : Prop := True
def XO (_ : Int) : Prop := True
def KB (j : Nat) (x : Int) : Prop := j = 0 ∧ ¬ x = 38
def XB (x : Int) : Prop := ¬ x = 38
def KE (j : Nat) (x : Int) : Prop := j = 0 ∧ ¬ x = 38 ∧ ¬ x = 124
def XE (x : Int) : Prop := ¬ x = 38 ∧ ¬ x = 124
theorem rE_open' {N : qMem} {n c b : Int} {t : Int → Int} (h : qTm N n t) (h0 : 0 ≤ N 82 13) (hb : t (N 82 13) = b) (hb2 : b = 33 ∨ b = 40) (hw : 0 ≤ N 82 24 ∧ N 82 24 ≤ 99) (hd : 0 ≤ N 82 25 ∧ N 82 25 < 4) :
    ∃ P, rE c 1 N = rE c 1 P ∧ qFr c P N ∧ P 82 13 = N 82 13 + 1 ∧ P 82 24 = N 82 24 + 1 ∧ P 82 25 = N 82 25 + 1 ∧ P 82 23 = N 82 23 ∧ P 96 = N 96 ∧ P 97 (N 82 24) = b ∧ (∀ k : Int, k < N 82 24 → P 97 k = N 97 k) := by
  refine ⟨_, rE_open h h0 hb hb2 hw hd, qFr_up (qFr_up (qFr_up (qFr_up qFr_r (by omega)) (by omega)) (by omega)) (by omega), qup_self, ?_, ?_, ?_, ?_, ?_, fun k hk => ?_⟩
  · rw [qup_ne (by omega), qup_self]
  · rw [qup_ne (by omega), qup_ne (by omega), qup_ne (by omega), qup_self]
  · rw [qup_ne (by omega), qup_ne (by omega), qup_ne (by omega), qup_ne (by omega)]
  · rw [qup_row (by omega), qup_row (by omega), qup_row (by omega), qup_row (by omega)]
  · rw [qup_ne (by omega), qup_ne (by omega), qup_self]
  · rw [qup_ne (by omega), qup_ne (by omega), qup_ne (by omega), qup_ne (by omega)]
theorem sim_test {g n d : Int} {t : Int → Int} {M : qMem} (hT : qTc M g n t) (h6 : 0 ≤ M g 6 ∧ M g 6 ≤ n) (h3 : 0 ≤ M g 3 ∧ M g 3 ≤ M g 6) (hb : ¬ t (M g 6) = 33 ∧ ¬ t (M g 6) = 40) (hd : 0 ≤ d ∧ d ≤ 4) : qSm 1 1 g n d t KO XO M (S_X3_takesTest [qA g] (qH0 M)) := by
  have hn := hT.2.2.1
  have hg := hT.1
  by_cases c1 : qT1 t (M g 6)
  · have hp := qAsk_p c1
    have hl := qTc_lt hT (i := M g 6) (by omega)
    by_cases c2 : qT2 t (M g 6)
    · have c2' := c2.2
      have hl2 := qTc_lt hT (i := M g 6 + 1) (by omega)
      by_cases c3 : qT3 t (M g 6)
      · have v0 := c3.2
        have lo := fNv_lo (t := t) (i := M g 6 + 2)
        have hi := fNe_le hT (i := M g 6 + 2) (by omega)
        have lo3 := lo.2.2.1 v0
        have y3 : qup (qup (qup M g 6 (fNe t (M g 6 + 2))) (g + 2) (M g 3) (fTp t (M g 6))) g 3 (M g 3 + 1) g 3 = M g 3 + 1 := qup_self
        have y6 : qup (qup (qup M g 6 (fNe t (M g 6 + 2))) (g + 2) (M g 3) (fTp t (M g 6))) g 3 (M g 3 + 1) g 6 = fNe t (M g 6 + 2) := by rw [qup_ne (by omega), qup_ne (by omega), qup_self]
        have yx : qup (qup (qup M g 6 (fNe t (M g 6 + 2))) (g + 2) (M g 3) (fTp t (M g 6))) g 3 (M g 3 + 1) (g + 2) (M g 3) = fTp t (M g 6) := by rw [qup_ne (by omega), qup_self]
        have yk : ∀ k : Int, ¬ k = M g 3 → qup (qup (qup M g 6 (fNe t (M g 6 + 2))) (g + 2) (M g 3) (fTp t (M g 6))) g 3 (M g 3 + 1) (g + 2) k = M (g + 2) k := fun k hk => by rw [qup_ne (by omega), qup_ne (by omega), qup_ne (by omega)]
        have xd : fTp t (M g 6) = t (M g 6) + 256 * t (M g 6 + 1) + 65536 * fNv t (M g 6 + 2) := rfl
        have ap := c2.1
        have ap2 : qAsk (t (M g 6)) := ap
        unfold qAsk at ap2
        refine ⟨1, _, sX3_test hT h6.1 c3 h3.1 (by omega), ⟨⟨fun a a1 a2 => ?_, fun k a b => ?_, fun k hk => yk k (by omega)⟩, by rw [y6]; omega, by rw [y3]; omega⟩, Or.inl ⟨rfl, trivial, 1, ⟨by rw [y3]; rfl, by rw [y6]; omega, fun k k1 k2 => ?_, ?_⟩, fun j c B N hl hk => ?_⟩⟩
        · rw [qup_row (by omega), qup_row (by omega), qup_row (by omega)]
        · rw [qup_ne (by omega), qup_ne (by omega), qup_ne (by omega)]
        · rw [y3] at k2
          have ek : k = M g 3 := by omega
          rw [ek, yx, xd]
          omega
        · have e1 : (M g 3 + 1).toNat = (M g 3).toNat + 1 := by omega
          have e2 : ((M g 3).toNat : Int) = M g 3 := by omega
          rw [y3, e1, fTc_t (by rw [e2, yx, xd]; omega)]
          have e3 : fTc (qup (qup (qup M g 6 (fNe t (M g 6 + 2))) (g + 2) (M g 3) (fTp t (M g 6))) g 3 (M g 3 + 1)) g (M g 3).toNat = fTc M g (M g 3).toNat := fTc_eq _ (fun k hk => yk _ (by omega))
          rw [e3]
          omega
        · have w := qRl_w hl h6.2
          obtain ⟨l1, l2, l3, l4, l5, l6, l7⟩ := hl
          have l51 := l5.1
          obtain ⟨N', q1, q2, q3, q4, q5, q6, q7, q8, q9, q10, q11⟩ := sX12_test (c := c) l1 (by omega) (by rw [l2]; exact c3) l5 (by omega) (by omega) (by omega)
          rw [l2] at q5 q9
          have pc := fPc_y ap
          have qd : fTq t (M g 6) = 1000 * fPc (t (M g 6)) + 100 * (t (M g 6 + 1) - 60) + fNv t (M g 6 + 2) := rfl
          have q0 : 0 ≤ fTq t (M g 6) := by omega
          refine ⟨N', rE_test l1 (by omega) (by rw [l2]; exact hb) q1 (qTm_fr l1 q2) (by omega), q2, by rw [y6, q5], by omega, q6, q7, fun k hk => by rw [q4], q11, fun k hk => ?_, fun k hk => ?_, fun x => ?_⟩
          · have ek : k = 0 := by omega
            subst ek
            have e1 : N 82 23 + ((0 : Nat) : Int) = N 82 23 := by omega
            have e2 : M g 3 + ((0 : Nat) : Int) = M g 3 := by omega
            rw [e1, e2, q9, yx]
            refine Or.inr (Or.inr (Or.inr ⟨fPc (t (M g 6)), t (M g 6 + 1) - 60, fNv t (M g 6 + 2), ⟨pc.1, pc.2.1⟩, by omega, by omega, rfl, ?_⟩))
            rw [pc.2.2, xd]
            omega
          · exact q10 _ (by omega) (by omega)
          · refine qDr_1 q9 ?_
            unfold qDs
            rw [if_neg (by omega), if_neg (by omega)]
            rfl
      · refine ⟨0, _, sX3_test_3 hT h6.1 c2 c3, qGo_6 (by omega) (by omega) (by omega), Or.inr ⟨rfl, fun j c B N hl hk => ?_⟩⟩
        obtain ⟨l1, l2, l3, l4, l5, l6, l7⟩ := hl
        exact ⟨_, rE_test_n l1 (by omega) (by rw [l2]; exact hb) (sX12_test_3 l1 (by omega) (by rw [l2]; exact c2) (by rw [l2]; exact c3)), qFr_up qFr_r (by omega), by rw [qup_self, qup_self]; omega, fun k hk => qup_ne (by omega)⟩
    · refine ⟨0, _, sX3_test_2 hT h6.1 c1 c2, qGo_6 (by omega) (by omega) (by omega), Or.inr ⟨rfl, fun j c B N hl hk => ?_⟩⟩
      obtain ⟨l1, l2, l3, l4, l5, l6, l7⟩ := hl
      exact ⟨_, rE_test_n l1 (by omega) (by rw [l2]; exact hb) (sX12_test_2 l1 (by omega) (by rw [l2]; exact c1) (by rw [l2]; exact c2)), qFr_up qFr_r (by omega), by rw [qup_self, qup_self]; omega, fun k hk => qup_ne (by omega)⟩
  · refine ⟨0, _, sX3_test_1 hT h6.1 c1, qGo_r h6.2 (by omega), Or.inr ⟨rfl, fun j c B N hl hk => ?_⟩⟩
    obtain ⟨l1, l2, l3, l4, l5, l6, l7⟩ := hl
    exact ⟨_, rE_test_n l1 (by omega) (by rw [l2]; exact hb) (sX12_test_1 l1 (by omega) (by rw [l2]; exact c1)), qFr_r, l2, fun k hk => rfl⟩
theorem qOpen_start {g n d c B b : Int} {t : Int → Int} {j : Nat} {M N : qMem} (hT : qTc M g n t) (h6 : 0 ≤ M g 6) (hb : t (M g 6) = b) (hb2 : b = 33 ∨ b = 40) (hd : 0 ≤ d ∧ d < 4) (hl : qRl g n d c B t j M N) :
    ∃ P, rE c 1 N = rE c 1 P ∧ qRl g n (d + 1) c B t (if b = 33 then j + 1 else 0) (qup M g 6 (M g 6 + 1)) P ∧ qFr c P N ∧ P 82 24 = N 82 24 + 1 ∧ P 82 23 = N 82 23 ∧ P 96 = N 96 ∧ P 97 (P 82 24 - 1) = b ∧ (∀ k : Int, k < N 82 24 → P 97 k = N 97 k) := by
  have hlt := qTc_lt hT (i := M g 6) (by omega)
  have w := qRl_w hl (by omega)
  obtain ⟨h1, h2, h3, h4, h5, h6', h7⟩ := hl
  have hn := h1.2.1
  obtain ⟨P, p1, p2, p3, p4, p5, p6, p7, p8, p9⟩ := rE_open' (c := c) (b := b) h1 (by omega) (by rw [h2]; exact hb) hb2 (by omega) (by omega)
  have e : P 82 24 - 1 = N 82 24 := by omega
  refine ⟨P, p1, ⟨qTm_fr h1 p2, by rw [qup_self]; omega, by omega, h4, ?_, ?_, by omega⟩, p2, p4, p6, p7, by rw [e]; exact p8, p9⟩
  · obtain ⟨t1, t2, t3⟩ := h5
    rcases hb2 with rfl | rfl
    · rw [if_pos rfl]
      refine ⟨by omega, fun k a b => ?_, ?_⟩
      · by_cases ck : k = N 82 24
        · subst ck
          exact p8
        · rw [p9 k (by omega)]
          exact t2 k (by omega) (by omega)
      · rcases t3 with z | z
        · exact Or.inl (by omega)
        · by_cases z0 : N 82 24 = j
          · exact Or.inl (by omega)
          · refine Or.inr ?_
            have e2 : P 82 24 - ((j + 1 : Nat) : Int) - 1 = N 82 24 - j - 1 := by omega
            rw [e2, p9 _ (by omega)]
            exact z
    · rw [if_neg (by omega)]
      refine ⟨by omega, fun k a b => by omega, Or.inr ?_⟩
      have e2 : P 82 24 - ((0 : Nat) : Int) - 1 = N 82 24 := by omega
      rw [e2, p8]
      omega
  · rcases hb2 with rfl | rfl
    · rw [if_pos rfl]
      omega
    · rw [if_neg (by omega)]
      omega
