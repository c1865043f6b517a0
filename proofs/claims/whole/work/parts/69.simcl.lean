/-! the text: a clause, class beside reference -/
theorem fWk_cases {l : Int} (h : fWo l < 4) : (l = 98 ∧ fWk l = 0) ∨ (l = 115 ∧ fWk l = 1) ∨ (l = 104 ∧ fWk l = 2) ∨ (l = 112 ∧ fWk l = 3) := by
  unfold fWo at h
  unfold fWk fWo
  split at h
  · rename_i c
    rw [if_pos c]
    exact Or.inl ⟨c, rfl⟩
  · rename_i c1
    split at h
    · rename_i c
      rw [if_neg c1, if_pos c]
      exact Or.inr (Or.inl ⟨c, rfl⟩)
    · rename_i c2
      split at h
      · rename_i c
        rw [if_neg c1, if_neg c2, if_pos c]
        exact Or.inr (Or.inr (Or.inl ⟨c, rfl⟩))
      · rename_i c3
        split at h
        · rename_i c
          rw [if_neg c1, if_neg c2, if_neg c3, if_pos c]
          exact Or.inr (Or.inr (Or.inr ⟨c, rfl⟩))
        · omega
theorem sX12_cl_start' {N : qMem} {n c i : Int} {t : Int → Int} (hi : N 82 13 = i) (h : qTm N n t) (hL : qLe N) (h0 : 0 ≤ i) (hc : 0 ≤ c ∧ c < 60) (hh : (fHd t i).1 = 1) (hv : 0 ≤ fNv t (fHd t i).2) (he : 0 ≤ (fHd t i).2) :
    ∃ P, S_X12_takesClause [qA 82, qI c] (qH0 N) = qlim C_X12_takesClause ((if 2 ≤ fWk (t i) then 54 else 37), [some (qA 82), some (qI c)], [], qH0 P) ∧ qFc c P N ∧ qTm P n t ∧ P 82 13 = fNe t (fHd t i).2 ∧ P 82 23 = N 82 23 ∧ P 92 c = fWk (t i) ∧ P 93 c = fNv t (fHd t i).2 ∧ P 96 = N 96 := by
  subst hi
  exact sX12_cl_start h hL h0 hc hh hv he
theorem sX12_cl_no' {N : qMem} {n c i : Int} {t : Int → Int} (hi : N 82 13 = i) (h : qTm N n t) (hL : qLe N) (h0 : 0 ≤ i) (hc : 0 ≤ c ∧ c < 60) (he : 0 ≤ (fHd t i).2) (hh : (fHd t i).1 = 0 ∨ ((fHd t i).1 = 1 ∧ fNv t (fHd t i).2 < 0)) :
    ∃ P, S_X12_takesClause [qA 82, qI c] (qH0 N) = some (some (qI 0), qH0 P) ∧ qFc c P N ∧ P 82 13 = (fHd t i).2 := by
  subst hi
  exact sX12_cl_no h hL h0 hc he hh
theorem qDp_96 {N M : qMem} {s : Int} (h : N 96 = M 96) : ∀ {k : Nat}, qDp N s k = qDp M s k
  | 0 => rfl
  | k + 1 => by
    unfold qDp
    rw [qDp_96 h, h]
def qClY (g n x1 x2 k : Int) (t : Int → Int) (x4 x5 : Option qV) (M M' : qMem) : Prop := (∃ l v : Int, qlim C_X3_takesText (74, [some (qA g), some (qA x1), some (qI x2), some (qI k), x4, x5], [], qH0 M) = qlim C_X3_takesText (186, [some (qA g), some (qA x1), some (qI x2), some (qI k), some (qI l), some (qI v)], [], qH0 M')) ∧ qCI g M' ∧ M g 6 < M' g 6 ∧
  ∀ (c B : Int) (N : qMem), 0 ≤ c ∧ c < 60 → qRc g n B t M N → ∃ N', S_X12_takesClause [qA 82, qI c] (qH0 N) = some (some (qI 1), qH0 N') ∧ qCy c g B M M' N N'
def qClN (g n x1 x2 k : Int) (t : Int → Int) (x4 x5 : Option qV) (M M' : qMem) : Prop := qlim C_X3_takesText (74, [some (qA g), some (qA x1), some (qI x2), some (qI k), x4, x5], [], qH0 M) = some (some (qI 0), qH0 M') ∧
  ∀ (c B : Int) (N : qMem), 0 ≤ c ∧ c < 60 → qRc g n B t M N → ∃ N', S_X12_takesClause [qA 82, qI c] (qH0 N) = some (some (qI 0), qH0 N') ∧ qFc c N' N ∧ N' 82 13 = M' g 6
theorem sim_clause {g n x1 x2 k : Int} {t : Int → Int} {x4 x5 : Option qV} {M : qMem} (hT : qTc M g n t) (h6 : 0 ≤ M g 6 ∧ M g 6 ≤ n) (hI : qCI g M) : ∃ M', qGc g n M' M ∧ (qClY g n x1 x2 k t x4 x5 M M' ∨ qClN g n x1 x2 k t x4 x5 M M') := by
  have hg := hT.1
  have hn := hT.2.2.1
  have H := lX3_head (x1 := x1) (x2 := x2) (k := k) (x4 := x4) (x5 := x5) hT h6
  have L := fHd_le hT h6.2
  obtain ⟨i3, i4, i5, ir, it⟩ := hI
  have G6 : ∀ e : Int, M g 6 ≤ e → e ≤ n → qGc g n (qup M g 6 e) M := fun e a b => qGc_o (qGo_6 a b (by omega))
  rcases L.2.2 with L0 | ⟨L1, L2, L3⟩
  · refine ⟨qup M g 6 (fHd t (M g 6)).2, G6 _ L.1 L.2.1, Or.inr ⟨by rw [H, if_pos L0], fun c B N hc hR => ?_⟩⟩
    obtain ⟨r1, r2, r3, r4⟩ := hR
    obtain ⟨P, p1, p2, p3⟩ := sX12_cl_no' (c := c) r3 r1 r2 (by omega) hc (by omega) (Or.inl L0)
    exact ⟨P, p1, p2, by rw [qup_self]; exact p3⟩
  · have T1 := qTc_6 (v := (fHd t (M g 6)).2) hT
    have num := sX3_number T1 (by rw [qup_self]; omega)
    rw [qup_self, qup_qup] at num
    have lo := fNv_lo (t := t) (i := (fHd t (M g 6)).2)
    rw [if_neg (by omega)] at H
    have H2 : qlim C_X3_takesText (74, [some (qA g), some (qA x1), some (qI x2), some (qI k), x4, x5], [], qH0 M) = qlim C_X3_takesText ((if 0 ≤ fNv t (fHd t (M g 6)).2 then 116 else 114), [some (qA g), some (qA x1), some (qI x2), some (qI k), some (qI (t (M g 6))), some (qI (fNv t (fHd t (M g 6)).2))], [], qH0 (qup M g 6 (fNe t (fHd t (M g 6)).2))) := by
      rw [H, B_X3_takesText_103 hg, num, qbd_some]
      show qlim C_X3_takesText (107, [some (qA g), some (qA x1), some (qI x2), some (qI k), some (qI (t (M g 6))), x5], [qI (fNv t (fHd t (M g 6)).2)], qH0 (qup M g 6 (fNe t (fHd t (M g 6)).2))) = _
      rw [B_X3_takesText_107 hg]
    have e2n := fNe_le hT (i := (fHd t (M g 6)).2) (by omega)
    by_cases cv : 0 ≤ fNv t (fHd t (M g 6)).2
    · rw [if_pos cv] at H2
      have lo3 := lo.2.2.1 cv
      have K := fWk_cases L3
      have ge2 := G6 (fNe t (fHd t (M g 6)).2) (by omega) e2n
      have y3 : qup M g 6 (fNe t (fHd t (M g 6)).2) g 3 = M g 3 := qup_ne (by omega)
      have y4 : qup M g 6 (fNe t (fHd t (M g 6)).2) g 4 = M g 4 := qup_ne (by omega)
      have y5 : qup M g 6 (fNe t (fHd t (M g 6)).2) g 5 = M g 5 := qup_ne (by omega)
      have y6 : qup M g 6 (fNe t (fHd t (M g 6)).2) g 6 = fNe t (fHd t (M g 6)).2 := qup_self
      by_cases cH : t (M g 6) = 104 ∨ t (M g 6) = 112
      · -- how large heaps may be, how many come
        have ex : ∃ s v, (s = 4 ∨ s = 5) ∧ qlim C_X3_takesText (74, [some (qA g), some (qA x1), some (qI x2), some (qI k), x4, x5], [], qH0 M) = qlim C_X3_takesText (186, [some (qA g), some (qA x1), some (qI x2), some (qI k), some (qI (t (M g 6))), some (qI (fNv t (fHd t (M g 6)).2))], [], qH0 (qup (qup M g 6 (fNe t (fHd t (M g 6)).2)) g s v)) ∧
            ((s = 4 ∧ fWk (t (M g 6)) = 2 ∧ v = max 1 (fNv t (fHd t (M g 6)).2)) ∨ (s = 5 ∧ fWk (t (M g 6)) = 3 ∧ v = fNv t (fHd t (M g 6)).2)) := by
          rcases cH with cH | cH
          · refine ⟨4, max 1 (fNv t (fHd t (M g 6)).2), Or.inl rfl, ?_, Or.inl ⟨rfl, by omega, rfl⟩⟩
            rw [H2, B_X3_takesText_116 hg, qif_f (fun q => q cH), B_X3_takesText_123 hg]
          · refine ⟨5, fNv t (fHd t (M g 6)).2, Or.inr rfl, ?_, Or.inr ⟨rfl, by omega, rfl⟩⟩
            rw [H2, B_X3_takesText_116 hg, qif_t (by omega), B_X3_takesText_136 hg, qif_f (fun q => q cH), B_X3_takesText_143 hg]
        obtain ⟨s, v, hs, run, hsv⟩ := ex
        have z3 : qup (qup M g 6 (fNe t (fHd t (M g 6)).2)) g s v g 3 = M g 3 := by rw [qup_ne (by omega), y3]
        have z6 : qup (qup M g 6 (fNe t (fHd t (M g 6)).2)) g s v g 6 = fNe t (fHd t (M g 6)).2 := by rw [qup_ne (by omega), y6]
        have z4 : qup (qup M g 6 (fNe t (fHd t (M g 6)).2)) g s v g 4 = if s = 4 then v else M g 4 := by
          by_cases q : s = 4
          · subst q
            rw [qup_self, if_pos rfl]
          · rw [qup_ne (by omega), y4, if_neg q]
        have z5 : qup (qup M g 6 (fNe t (fHd t (M g 6)).2)) g s v g 5 = if s = 5 then v else M g 5 := by
          by_cases q : s = 5
          · subst q
            rw [qup_self, if_pos rfl]
          · rw [qup_ne (by omega), y5, if_neg q]
        have zr : ∀ k : Int, qup (qup M g 6 (fNe t (fHd t (M g 6)).2)) g s v (g + 2) k = M (g + 2) k := fun k => by rw [qup_ne (by omega), qup_ne (by omega)]
        have zf : fTc (qup (qup M g 6 (fNe t (fHd t (M g 6)).2)) g s v) g (M g 3).toNat = fTc M g (M g 3).toNat := fTc_eq _ (fun k hk => zr _)
        refine ⟨_, qGc_t (qGc_45 hs (by omega) (by omega)) ge2, Or.inl ⟨⟨_, _, run⟩, ⟨by omega, ?_, ?_, fun k k0 k1 => by rw [zr]; exact ir k k0 (by omega), by rw [z3, zf]; exact it⟩, by omega, fun c B N hc hR => ?_⟩⟩
        · rw [z4]
          split <;> omega
        · rw [z5]
          split <;> omega
        · obtain ⟨r1, r2, r3, r4⟩ := hR
          obtain ⟨P, p1, p2, p3, p4, p5, p6, p7, p8⟩ := sX12_cl_start' (c := c) r3 r1 r2 (by omega) hc L1 cv (by omega)
          refine ⟨P, ?_, p2, by rw [z6]; exact p4, by omega, ⟨by omega, by omega, by omega, fun q => by omega, fun _ => by rw [z3]⟩, ?_, ?_, fun q => by omega⟩
          · rw [p1, qif_t (by omega), B_X12_takesClause_54, B_X12_takesClause_59 (Or.inr rfl)]
          · rw [z4, p6, p7]
            rcases hsv with ⟨q1, q2, q3⟩ | ⟨q1, q2, q3⟩
            · rw [if_pos q1, if_pos q2, q3]
            · rw [if_neg (by omega), if_neg (by omega)]
          · rw [z5, p6, p7]
            rcases hsv with ⟨q1, q2, q3⟩ | ⟨q1, q2, q3⟩
            · rw [if_neg (by omega), if_neg (by omega)]
            · rw [if_pos q1, if_pos q2, q3]
      · -- brisk, slack
        have cW : (t (M g 6) = 98 ∧ fWk (t (M g 6)) = 0) ∨ (t (M g 6) = 115 ∧ fWk (t (M g 6)) = 1) := by omega
        have T2 := qTc_6 (v := fNe t (fHd t (M g 6)).2) hT
        have H3 : qlim C_X3_takesText (74, [some (qA g), some (qA x1), some (qI x2), some (qI k), x4, x5], [], qH0 M) = qlim C_X3_takesText (152, [some (qA g), some (qA x1), some (qI x2), some (qI k), some (qI (t (M g 6))), some (qI (fNv t (fHd t (M g 6)).2))], [], qH0 (qup M g 6 (fNe t (fHd t (M g 6)).2))) := by
          rw [H2, B_X3_takesText_116 hg, qif_t (by omega), B_X3_takesText_136 hg, qif_t (by omega)]
        by_cases cs : t (fNe t (fHd t (M g 6)).2) = 32
        · have s := sX3_sign_y T2 (c := 32) (by omega) (by rw [y6]; exact cs) (by omega)
          have hlt := qTc_lt hT (i := fNe t (fHd t (M g 6)).2) (by omega)
          rw [y6, qup_qup] at s
          have H4 : qlim C_X3_takesText (74, [some (qA g), some (qA x1), some (qI x2), some (qI k), x4, x5], [], qH0 M) = qlim C_X3_takesText (161, [some (qA g), some (qA x1), some (qI x2), some (qI k), some (qI (t (M g 6))), some (qI (fNv t (fHd t (M g 6)).2))], [], qH0 (qup M g 6 (fNe t (fHd t (M g 6)).2 + 1))) := by
            rw [H3, B_X3_takesText_152 hg, s, qbd_some]
            show qlim C_X3_takesText (158, [some (qA g), some (qA x1), some (qI x2), some (qI k), some (qI (t (M g 6))), some (qI (fNv t (fHd t (M g 6)).2))], [qI 1], qH0 (qup M g 6 (fNe t (fHd t (M g 6)).2 + 1))) = _
            rw [B_X3_takesText_158 hg, qif_f (by omega)]
          have T3 := qTc_6 (v := fNe t (fHd t (M g 6)).2 + 1) hT
          have w3 : qup M g 6 (fNe t (fHd t (M g 6)).2 + 1) g 3 = M g 3 := qup_ne (by omega)
          have w6 : qup M g 6 (fNe t (fHd t (M g 6)).2 + 1) g 6 = fNe t (fHd t (M g 6)).2 + 1 := qup_self
          have w4 : qup M g 6 (fNe t (fHd t (M g 6)).2 + 1) g 4 = M g 4 := qup_ne (by omega)
          have w5 : qup M g 6 (fNe t (fHd t (M g 6)).2 + 1) g 5 = M g 5 := qup_ne (by omega)
          have wr : ∀ k : Int, qup M g 6 (fNe t (fHd t (M g 6)).2 + 1) (g + 2) k = M (g + 2) k := fun k => qup_ne (by omega)
          have wf : fTc (qup M g 6 (fNe t (fHd t (M g 6)).2 + 1)) g (M g 3).toNat = fTc M g (M g 3).toNat := fTc_eq _ (fun k hk => wr _)
          have ge3 := G6 (fNe t (fHd t (M g 6)).2 + 1) (by omega) (by omega)
          obtain ⟨v, M4, q1, q2, q3⟩ := sim_E g n t (qup M g 6 (fNe t (fHd t (M g 6)).2 + 1)) T3 (by omega) (by omega)
          have go4 := qGc_t (qGc_o q2) ge3
          have q26 := q2.2
          rw [w6, w3] at q26
          -- the reference up to the loop
          have ref : ∀ (c B : Int) (N : qMem), 0 ≤ c ∧ c < 60 → qRc g n B t M N → ∃ P, S_X12_takesClause [qA 82, qI c] (qH0 N) = qbd (rE c 1 P) (fun r h' => qlim C_X12_takesClause (51, [some (qA 82), some (qI c)], r.toList ++ [], h')) ∧ qFc c P N ∧ qRl g n 0 c B t 0 (qup M g 6 (fNe t (fHd t (M g 6)).2 + 1)) P ∧ P 82 24 = 0 ∧ P 82 23 = N 82 23 ∧ P 92 c = fWk (t (M g 6)) ∧ P 93 c = fNv t (fHd t (M g 6)).2 ∧ P 94 c = N 82 23 ∧ P 96 = N 96 := fun c B N hc hR => by
            obtain ⟨r1, r2, r3, r4⟩ := hR
            obtain ⟨P, p1, p2, p3, p4, p5, p6, p7, p8⟩ := sX12_cl_start' (c := c) r3 r1 r2 (by omega) hc L1 cv (by omega)
            have sp := sX12_takes_y p3 (c := 32) (by omega) (by rw [p4]; exact cs) (by omega)
            rw [p4] at sp
            have u1 : qup (qup (qup P 82 13 (fNe t (fHd t (M g 6)).2 + 1)) 82 24 0) 82 25 0 82 23 = N 82 23 := by rw [qup_ne (by omega), qup_ne (by omega), qup_ne (by omega), p5]
            have tm : qTm (qup (qup (qup (qup P 82 13 (fNe t (fHd t (M g 6)).2 + 1)) 82 24 0) 82 25 0) 94 c (N 82 23)) n t := by
              have a := qTm_up (a := 82) (k := 25) (v := 0) (qTm_up (a := 82) (k := 24) (v := 0) (qTm_up (a := 82) (k := 13) (v := fNe t (fHd t (M g 6)).2 + 1) p3 (by omega)) (by omega)) (by omega)
              exact ⟨by rw [qup_ne (by omega)]; exact a.1, a.2.1, fun i x y => by rw [qup_ne (by omega)]; exact a.2.2.1 i x y, a.2.2.2⟩
            have v24 : qup (qup (qup (qup P 82 13 (fNe t (fHd t (M g 6)).2 + 1)) 82 24 0) 82 25 0) 94 c (N 82 23) 82 24 = 0 := by rw [qup_ne (by omega), qup_ne (by omega), qup_self]
            have v25 : qup (qup (qup (qup P 82 13 (fNe t (fHd t (M g 6)).2 + 1)) 82 24 0) 82 25 0) 94 c (N 82 23) 82 25 = 0 := by rw [qup_ne (by omega), qup_self]
            have v13 : qup (qup (qup (qup P 82 13 (fNe t (fHd t (M g 6)).2 + 1)) 82 24 0) 82 25 0) 94 c (N 82 23) 82 13 = fNe t (fHd t (M g 6)).2 + 1 := by rw [qup_ne (by omega), qup_ne (by omega), qup_ne (by omega), qup_self]
            have v23 : qup (qup (qup (qup P 82 13 (fNe t (fHd t (M g 6)).2 + 1)) 82 24 0) 82 25 0) 94 c (N 82 23) 82 23 = N 82 23 := by rw [qup_ne (by omega), u1]
            refine ⟨_, ?_, qFc_up (qFc_up (qFc_up (qFc_up p2 (by omega)) (by omega)) (by omega)) (by omega), ⟨tm, by rw [v13, w6], v25, hc, ⟨by omega, fun k a b => by omega, Or.inl (by omega)⟩, by omega, by omega⟩, v24, v23, ?_, ?_, qup_self, ?_⟩
            · rw [p1, qif_f (by omega), B_X12_takesClause_37, sp, qbd_some]
              show qlim C_X12_takesClause (43, [some (qA 82), some (qI c)], [qI 1], qH0 (qup P 82 13 (fNe t (fHd t (M g 6)).2 + 1))) = _
              rw [B_X12_takesClause_43, qif_f (by omega), B_X12_takesClause_46, E_X12_takesE, B_X12_takesE_0 hc.1 hc.2, u1]
              rfl
            · rw [qup_ne (by omega), qup_ne (by omega), qup_ne (by omega), qup_ne (by omega), p6]
            · rw [qup_ne (by omega), qup_ne (by omega), qup_ne (by omega), qup_ne (by omega), p7]
            · rw [qup_row (by omega), qup_row (by omega), qup_row (by omega), qup_row (by omega), p8]
          rcases q3 with ⟨rfl, hX, m, ⟨a1, a2, a3, a4⟩, a5⟩ | ⟨rfl, hN⟩
          · rw [w3] at a1 a3 a4
            rw [w6] at a2
            rw [wf] at a4
            have v99 := lo.2.1.2
            have ek : kor (t (M g 6)) (kshl (fNv t (fHd t (M g 6)).2) 16) = t (M g 6) + 65536 * fNv t (fHd t (M g 6)).2 := kor_m (by omega) (by omega)
            have ad := sX3_adds (M := M4) (x := t (M g 6) + 65536 * fNv t (fHd t (M g 6)).2) hg (by omega) (by omega)
            have b4 : M4 g 4 = M g 4 := (q2.1.2.1 4 (by omega) (by omega)).trans w4
            have b5 : M4 g 5 = M g 5 := (q2.1.2.1 5 (by omega) (by omega)).trans w5
            have br : ∀ k : Int, k < M g 3 → M4 (g + 2) k = M (g + 2) k := fun k hk => (q2.1.2.2 k (by omega)).trans (wr k)
            have z3 : qup (qup M4 (g + 2) (M4 g 3) (t (M g 6) + 65536 * fNv t (fHd t (M g 6)).2)) g 3 (M4 g 3 + 1) g 3 = M4 g 3 + 1 := qup_self
            have z6 : qup (qup M4 (g + 2) (M4 g 3) (t (M g 6) + 65536 * fNv t (fHd t (M g 6)).2)) g 3 (M4 g 3 + 1) g 6 = M4 g 6 := by rw [qup_ne (by omega), qup_ne (by omega)]
            have z4 : qup (qup M4 (g + 2) (M4 g 3) (t (M g 6) + 65536 * fNv t (fHd t (M g 6)).2)) g 3 (M4 g 3 + 1) g 4 = M g 4 := by rw [qup_ne (by omega), qup_ne (by omega), b4]
            have z5 : qup (qup M4 (g + 2) (M4 g 3) (t (M g 6) + 65536 * fNv t (fHd t (M g 6)).2)) g 3 (M4 g 3 + 1) g 5 = M g 5 := by rw [qup_ne (by omega), qup_ne (by omega), b5]
            have zx : qup (qup M4 (g + 2) (M4 g 3) (t (M g 6) + 65536 * fNv t (fHd t (M g 6)).2)) g 3 (M4 g 3 + 1) (g + 2) (M4 g 3) = t (M g 6) + 65536 * fNv t (fHd t (M g 6)).2 := by rw [qup_ne (by omega), qup_self]
            have zk : ∀ k : Int, ¬ k = M4 g 3 → qup (qup M4 (g + 2) (M4 g 3) (t (M g 6) + 65536 * fNv t (fHd t (M g 6)).2)) g 3 (M4 g 3 + 1) (g + 2) k = M4 (g + 2) k := fun k hk => by rw [qup_ne (by omega), qup_ne (by omega)]
            refine ⟨qup (qup M4 (g + 2) (M4 g 3) (t (M g 6) + 65536 * fNv t (fHd t (M g 6)).2)) g 3 (M4 g 3 + 1), qGc_t (qGc_o (qGo_a hg (by omega) (by omega))) go4, Or.inl ⟨⟨t (M g 6), fNv t (fHd t (M g 6)).2, ?_⟩, ⟨by omega, by omega, by omega, fun k k0 k1 => ?_, ?_⟩, by omega, fun c B N hc hR => ?_⟩⟩
            · rw [H4, B_X3_takesText_161 hg, q1, qbd_some]
              show qlim C_X3_takesText (166, [some (qA g), some (qA x1), some (qI x2), some (qI k), some (qI (t (M g 6))), some (qI (fNv t (fHd t (M g 6)).2))], [qI 1], qH0 M4) = _
              rw [B_X3_takesText_166 hg, qif_f (by omega), B_X3_takesText_169 hg, ek, ad, qbd_some]
              exact B_X3_takesText_181 hg
            · rw [z3] at k1
              by_cases ck : k = M4 g 3
              · subst ck
                rw [zx]
                omega
              · rw [zk k ck]
                by_cases cm : k < M g 3
                · rw [br k cm]
                  exact ir k k0 cm
                · exact a3 k (by omega) (by omega)
            · have e1 : (M4 g 3 + 1).toNat = (M4 g 3).toNat + 1 := by omega
              have e2 : ((M4 g 3).toNat : Int) = M4 g 3 := by omega
              rw [z3, e1, fTc_s (by rw [e2, zx]; omega)]
              have e3 : fTc (qup (qup M4 (g + 2) (M4 g 3) (t (M g 6) + 65536 * fNv t (fHd t (M g 6)).2)) g 3 (M4 g 3 + 1)) g (M4 g 3).toNat = fTc M4 g (M4 g 3).toNat := fTc_eq _ (fun k hk => zk _ (by omega))
              rw [e3]
              omega
            · have r4 := hR.2.2.2
              have r3 := hR.2.2.1
              obtain ⟨P, p1, p2, p3, p4, p5, p6, p7, p8, p9⟩ := ref c B N hc hR
              obtain ⟨N2, g1, g2, g3, g4, g5, g6, g7, g8, g9, g10, g11⟩ := a5 0 c B P p3 (Or.inl p4)
              have en := rE_end (qTm_fr p3.1 g2) (by omega) (by rw [g3]; exact hX) hc (by omega)
              have x92 : qup N2 95 c (N2 82 23) 92 c = fWk (t (M g 6)) := by rw [qup_ne (by omega), g2.1 92 (by omega) (by omega) (by omega) (by omega), p6]
              have x93 : qup N2 95 c (N2 82 23) 93 c = fNv t (fHd t (M g 6)).2 := by rw [qup_ne (by omega), g2.1 93 (by omega) (by omega) (by omega) (by omega), p7]
              have x94 : qup N2 95 c (N2 82 23) 94 c = N 82 23 := by rw [qup_ne (by omega), g2.1 94 (by omega) (by omega) (by omega) (by omega), p8]
              have x95 : qup N2 95 c (N2 82 23) 95 c = N2 82 23 := qup_self
              have x23 : qup N2 95 c (N2 82 23) 82 23 = N2 82 23 := qup_ne (by omega)
              have x13 : qup N2 95 c (N2 82 23) 82 13 = N2 82 13 := qup_ne (by omega)
              have x96 : qup N2 95 c (N2 82 23) 96 = N2 96 := qup_row (by omega)
              rw [w3] at g9
              refine ⟨qup N2 95 c (N2 82 23), ?_, qFc_up (qFc_fr g2 p2 (fun k hk => g8 k (by omega))) (by omega), by rw [x13, z6, g3], by omega, ⟨by omega, by omega, by omega, fun _ => ⟨m, by omega, by omega, by omega, by omega, fun k hk => ?_, ?_, ?_⟩, fun q => by omega⟩, by rw [z4, x92, if_neg (by omega)], by rw [z5, x92, if_neg (by omega)], fun _ => by omega⟩
              · rw [p1]
                have g1' : rE c 1 P = rE c 0 N2 := g1
                rw [g1', en, qbd_some]
                show qlim C_X12_takesClause (51, [some (qA 82), some (qI c)], [qI 1], qH0 (qup N2 95 c (N2 82 23))) = _
                rw [B_X12_takesClause_51, qif_f (by omega), B_X12_takesClause_54, B_X12_takesClause_59 (Or.inr rfl)]
              · have q := g9 k hk
                have e1 : (((M g 3).toNat + k : Nat) : Int) = M g 3 + k := by omega
                rw [x94, x96, e1, zk _ (by omega), ← p5]
                exact q
              · have e1 : (((M g 3).toNat + m : Nat) : Int) = M4 g 3 := by omega
                rw [e1, zx, x92, x93]
                rcases cW with ⟨q, q'⟩ | ⟨q, q'⟩
                · rw [q', if_pos rfl, q]
                · rw [q', if_neg (by omega), q]
              · have q := g11 0
                rw [x94, qDp_96 x96, qDr_p, ← p5]
                exact q
          · refine ⟨M4, go4, Or.inr ⟨?_, fun c B N hc hR => ?_⟩⟩
            · rw [H4, B_X3_takesText_161 hg, q1, qbd_some]
              show qlim C_X3_takesText (166, [some (qA g), some (qA x1), some (qI x2), some (qI k), some (qI (t (M g 6))), some (qI (fNv t (fHd t (M g 6)).2))], [qI 0], qH0 M4) = _
              rw [B_X3_takesText_166 hg, qif_t rfl, B_X3_takesText_184 hg]
            · obtain ⟨P, p1, p2, p3, p4, p5, p6, p7, p8, p9⟩ := ref c B N hc hR
              obtain ⟨N2, g1, g2, g3, g4⟩ := hN 0 c B P p3 (Or.inl p4)
              refine ⟨N2, ?_, qFc_fr g2 p2 (fun k hk => g4 k (by omega)), g3⟩
              rw [p1]
              have g1' : rE c 1 P = some (some (qI 0), qH0 N2) := g1
              rw [g1', qbd_some]
              show qlim C_X12_takesClause (51, [some (qA 82), some (qI c)], [qI 0], qH0 N2) = _
              rw [B_X12_takesClause_51, qif_t rfl, B_X12_takesClause_58, B_X12_takesClause_59 (Or.inl rfl)]
        · have s := sX3_sign_n T2 (c := 32) (by omega) (by rw [y6]; exact cs)
          refine ⟨_, ge2, Or.inr ⟨?_, fun c B N hc hR => ?_⟩⟩
          · rw [H3, B_X3_takesText_152 hg, s, qbd_some]
            show qlim C_X3_takesText (158, [some (qA g), some (qA x1), some (qI x2), some (qI k), some (qI (t (M g 6))), some (qI (fNv t (fHd t (M g 6)).2))], [qI 0], qH0 (qup M g 6 (fNe t (fHd t (M g 6)).2))) = _
            rw [B_X3_takesText_158 hg, qif_t rfl, B_X3_takesText_184 hg]
          · obtain ⟨r1, r2, r3, r4⟩ := hR
            obtain ⟨P, p1, p2, p3, p4, p5, p6, p7, p8⟩ := sX12_cl_start' (c := c) r3 r1 r2 (by omega) hc L1 cv (by omega)
            have sp := sX12_takes_n p3 (c := 32) (by omega) (by rw [p4]; exact cs)
            refine ⟨P, ?_, p2, by rw [y6]; exact p4⟩
            rw [p1, qif_f (by omega), B_X12_takesClause_37, sp, qbd_some]
            show qlim C_X12_takesClause (43, [some (qA 82), some (qI c)], [qI 0], qH0 P) = _
            rw [B_X12_takesClause_43, qif_t rfl, B_X12_takesClause_58, B_X12_takesClause_59 (Or.inl rfl)]
    · rw [if_neg cv] at H2
      have e2 := lo.2.2.2 (by omega)
      rw [e2] at H2
      refine ⟨qup M g 6 (fHd t (M g 6)).2, G6 _ L.1 L.2.1, Or.inr ⟨by rw [H2, B_X3_takesText_114 hg], fun c B N hc hR => ?_⟩⟩
      obtain ⟨r1, r2, r3, r4⟩ := hR
      obtain ⟨P, p1, p2, p3⟩ := sX12_cl_no' (c := c) r3 r1 r2 (by omega) hc (by omega) (Or.inr ⟨L1, by omega⟩)
      exact ⟨P, p1, p2, by rw [qup_self]; exact p3⟩
