/-! the text: all of it, class beside reference -/
theorem lX3_end {g n x1 x2 k : Int} {t : Int → Int} {x4 x5 : Option qV} {M : qMem} (hT : qTc M g n t) : qlim C_X3_takesText (192, [some (qA g), some (qA x1), some (qI x2), some (qI k), x4, x5], [], qH0 M) = some (some (qI (if M g 6 = n then 1 else 0)), qH0 M) := by
  have hg := hT.1
  have h2 := hT.2.1
  by_cases c : M g 6 = n
  · rw [if_pos c]
    simp (disch := first | assumption | omega) only [B_X3_takesText_192, B_X3_takesText_203, B_X3_takesText_208, not_true_eq_false, not_false_eq_true, if_true, if_false, qlk, qtk, qif_t, qif_f, qbd_some, Option.toList_some, Option.toList_none, List.cons_append, List.nil_append, List.append_nil]
  · rw [if_neg c]
    simp (disch := first | assumption | omega) only [B_X3_takesText_192, B_X3_takesText_207, B_X3_takesText_208, not_true_eq_false, not_false_eq_true, if_true, if_false, qlk, qtk, qif_t, qif_f, qbd_some, Option.toList_some, Option.toList_none, List.cons_append, List.nil_append, List.append_nil]
theorem sim_texts {g n x1 x2 : Int} {t : Int → Int} : ∀ (d k : Nat) (x4 x5 : Option qV) (M : qMem), k + d = 10 → 1 ≤ d → qTc M g n t → (0 ≤ M g 6 ∧ M g 6 ≤ n) → qCI g M →
    ∃ (v : Int) (M' : qMem), qlim C_X3_takesText (74, [some (qA g), some (qA x1), some (qI x2), some (qI k), x4, x5], [], qH0 M) = some (some (qI v), qH0 M') ∧ qGc g n M' M ∧ ((v = 1 ∧ qTxY g n t k M M') ∨ (v = 0 ∧ qTxN g n t k M M'))
  | 0, k, x4, x5, M, hk, hd, hT, h6, hI => by omega
  | d + 1, k, x4, x5, M, hk, hd, hT, h6, hI => by
    have hg := hT.1
    have hn := hT.2.2.1
    obtain ⟨M1, G1, Y | N1⟩ := sim_clause (x1 := x1) (x2 := x2) (k := k) (x4 := x4) (x5 := x5) hT h6 hI
    · obtain ⟨⟨l, v, run⟩, I1, lt, R⟩ := Y
      have e1 : kadd (k : Int) 1 = ((k + 1 : Nat) : Int) := by rw [kadd_eq (by omega) (by omega)]; omega
      have T1 : qTc M1 g n t := qTc_row hT (G1.2.1 2 (by omega) (by omega) (by omega) (by omega)) (G1.1 _ (by omega) (by omega))
      have run2 : qlim C_X3_takesText (74, [some (qA g), some (qA x1), some (qI x2), some (qI k), x4, x5], [], qH0 M) = qlim C_X3_takesText ((if 10 ≤ ((k + 1 : Nat) : Int) then 192 else 61), [some (qA g), some (qA x1), some (qI x2), some (qI ((k + 1 : Nat) : Int)), some (qI l), some (qI v)], [], qH0 M1) := by
        rw [run, B_X3_takesText_186 hg, e1, B_X3_takesText_55 hg]
      have G16 := G1.2.2.2.1
      -- what the reference does behind the clause
      have ref : ∀ (f : Int) (N : qMem), (0 ≤ f ∧ f < 6) → qRc g n (100 * f) t M N → qAcc f g k M N → ∃ N2, qlim C_X12_goesText (15, [some (qA 82), some (qI f), some (qI k)], [], qH0 N) = qlim C_X12_goesText ((if ¬ M1 g 6 = n then 53 else 51), [some (qA 82), some (qI f), some (qI ((k + 1 : Nat) : Int))], [], qH0 N2) ∧ qFt f N2 N ∧ qRc g n (100 * f) t M1 N2 ∧ N2 91 f = ((k + 1 : Nat) : Int) ∧ qAcc f g (k + 1) M1 N2 := fun f N hf hR hA => by
        obtain ⟨N1, s, y⟩ := R (10 * f + k) (100 * f) N (by omega) hR
        obtain ⟨r1, r2, r3, r4⟩ := hR
        have y1 := y.1
        have y2 := y.2.1
        have y3 := y.2.2.1
        have m1 : qTm N1 n t := ⟨by rw [y1.2.2.1 12 (by omega) (by omega) (by omega) (by omega) (by omega)]; exact r1.1, r1.2.1, fun i a b => by rw [y1.1 90 (by omega) (by omega) (by omega) (by omega) (by omega) (by omega) (by omega)]; exact r1.2.2.1 i a b, r1.2.2.2⟩
        have st := sX12_gt hf (by omega) s m1 (by omega)
        rw [y2] at st
        have z23 : qup N1 91 f ((k + 1 : Nat) : Int) 82 23 = N1 82 23 := qup_ne (by omega)
        have z13 : qup N1 91 f ((k + 1 : Nat) : Int) 82 13 = N1 82 13 := qup_ne (by omega)
        refine ⟨_, st, qFt_up (qFt_c y1 (by omega) (by omega)) (by omega), ⟨⟨by rw [qup_ne (by omega)]; exact m1.1, m1.2.1, fun i a b => by rw [qup_ne (by omega)]; exact m1.2.2.1 i a b, m1.2.2.2⟩, fun i hi => ?_, by omega, by omega⟩, qup_self, ?_⟩
        · rw [qup_ne (by omega), y1.1 98 (by omega) (by omega) (by omega) (by omega) (by omega) (by omega) (by omega)]
          exact r2 i hi
        · exact qAcc_eq (qAcc_s hA G1 hI.1.1 (by omega) y) rfl rfl rfl rfl (qup_row (by omega)) (qup_row (by omega)) (qup_row (by omega)) (qup_row (by omega)) (qup_row (by omega)) (qup_ne (by omega))
      by_cases cn : M1 g 6 = n
      · -- read to its end
        have et : t (M1 g 6) = -1 := hT.2.2.2.2 _ (by omega)
        have fin : qlim C_X3_takesText (74, [some (qA g), some (qA x1), some (qI x2), some (qI k), x4, x5], [], qH0 M) = some (some (qI 1), qH0 M1) := by
          rw [run2]
          have L := lX3_end (x1 := x1) (x2 := x2) (k := ((k + 1 : Nat) : Int)) (x4 := some (qI l)) (x5 := some (qI v)) T1
          rw [if_pos cn] at L
          by_cases c10 : 10 ≤ ((k + 1 : Nat) : Int)
          · rw [if_pos c10]
            exact L
          · have s := sX3_sign_n T1 (by omega) (c := 59) (by omega)
            rw [if_neg c10, B_X3_takesText_61 hg, qif_f (by omega), B_X3_takesText_65 hg, s, qbd_some]
            show qlim C_X3_takesText (71, [some (qA g), some (qA x1), some (qI x2), some (qI ((k + 1 : Nat) : Int)), some (qI l), some (qI v)], [qI 0], qH0 M1) = _
            rw [B_X3_takesText_71 hg, qif_t rfl]
            exact L
        refine ⟨1, M1, fin, G1, Or.inl ⟨rfl, I1, fun f N hf hR hA => ?_⟩⟩
        obtain ⟨N2, p1, p2, p3, p4, p5⟩ := ref f N hf hR hA
        have r4 := p3.2.2.2
        have r3 := p3.2.2.1
        exact ⟨N2, by rw [p1, qif_f (fun q => q cn), B_X12_goesText_51], p2, by omega, k + 1, by omega, p4, p5⟩
      · by_cases c10 : 10 ≤ ((k + 1 : Nat) : Int)
        · refine ⟨0, M1, ?_, G1, Or.inr ⟨rfl, fun f N hf hR hA => ?_⟩⟩
          · rw [run2, if_pos c10, lX3_end T1, if_neg cn]
          · obtain ⟨N2, p1, p2, p3, p4, p5⟩ := ref f N hf hR hA
            have ek : ((k + 1 : Nat) : Int) = 10 := by omega
            exact ⟨N2, by rw [p1, qif_t cn, B_X12_goesText_53, qif_t ek, B_X12_goesText_68], p2, p3.2.2.1⟩
        · by_cases cs : t (M1 g 6) = 59
          · have s := sX3_sign_y T1 (by omega) (c := 59) cs (by omega)
            have hlt := qTc_lt hT (i := M1 g 6) (by omega)
            have x3 : qup M1 g 6 (M1 g 6 + 1) g 3 = M1 g 3 := qup_ne (by omega)
            have x4' : qup M1 g 6 (M1 g 6 + 1) g 4 = M1 g 4 := qup_ne (by omega)
            have x5' : qup M1 g 6 (M1 g 6 + 1) g 5 = M1 g 5 := qup_ne (by omega)
            have x6 : qup M1 g 6 (M1 g 6 + 1) g 6 = M1 g 6 + 1 := qup_self
            have xr : qup M1 g 6 (M1 g 6 + 1) (g + 2) = M1 (g + 2) := qup_row (by omega)
            have xf : fTc (qup M1 g 6 (M1 g 6 + 1)) g (M1 g 3).toNat = fTc M1 g (M1 g 3).toNat := fTc_eq _ (fun i hi => by rw [xr])
            have G2 : qGc g n (qup M1 g 6 (M1 g 6 + 1)) M := qGc_t (qGc_o (qGo_6 (by omega) (by omega) (by have := G1.2.2.2.2; omega))) G1
            have I2 : qCI g (qup M1 g 6 (M1 g 6 + 1)) := by
              obtain ⟨i1, i2, i3, i4, i5⟩ := I1
              exact ⟨by omega, by omega, by omega, fun i a b => by rw [xr]; exact i4 i a (by omega), by rw [x3, xf]; exact i5⟩
            obtain ⟨v', M', q1, q2, q3⟩ := sim_texts d (k + 1) (some (qI l)) (some (qI v)) (qup M1 g 6 (M1 g 6 + 1)) (by omega) (by omega) (qTc_6 T1) (by omega) I2
            have fin : qlim C_X3_takesText (74, [some (qA g), some (qA x1), some (qI x2), some (qI k), x4, x5], [], qH0 M) = some (some (qI v'), qH0 M') := by
              rw [run2, if_neg c10, B_X3_takesText_61 hg, qif_f (by omega), B_X3_takesText_65 hg, s, qbd_some]
              show qlim C_X3_takesText (71, [some (qA g), some (qA x1), some (qI x2), some (qI ((k + 1 : Nat) : Int)), some (qI l), some (qI v)], [qI 1], qH0 (qup M1 g 6 (M1 g 6 + 1))) = _
              rw [B_X3_takesText_71 hg, qif_f (by omega)]
              exact q1
            -- the reference takes the ; and goes on
            have ref2 : ∀ (f : Int) (N : qMem), (0 ≤ f ∧ f < 6) → qRc g n (100 * f) t M N → qAcc f g k M N → ∃ N3, qlim C_X12_goesText (15, [some (qA 82), some (qI f), some (qI k)], [], qH0 N) = qlim C_X12_goesText (15, [some (qA 82), some (qI f), some (qI ((k + 1 : Nat) : Int))], [], qH0 N3) ∧ qFt f N3 N ∧ qRc g n (100 * f) t (qup M1 g 6 (M1 g 6 + 1)) N3 ∧ qAcc f g (k + 1) (qup M1 g 6 (M1 g 6 + 1)) N3 := fun f N hf hR hA => by
              obtain ⟨N2, p1, p2, p3, p4, p5⟩ := ref f N hf hR hA
              obtain ⟨r1, r2, r3, r4⟩ := p3
              have s2 := sX12_takes_y r1 (c := 59) (by omega) (by rw [r3]; exact cs) (by omega)
              have z23 : qup N2 82 13 (N2 82 13 + 1) 82 23 = N2 82 23 := qup_ne (by omega)
              have z13 : qup N2 82 13 (N2 82 13 + 1) 82 13 = N2 82 13 + 1 := qup_self
              refine ⟨qup N2 82 13 (N2 82 13 + 1), ?_, qFt_up p2 (by omega), ⟨qTm_up r1 (by omega), fun i hi => by rw [qup_ne (by omega)]; exact r2 i hi, by omega, by omega⟩, qAcc_eq p5 x3 x4' x5' xr (qup_row (by omega)) (qup_row (by omega)) (qup_row (by omega)) (qup_row (by omega)) (qup_row (by omega)) z23⟩
              rw [p1, qif_t cn, B_X12_goesText_53, qif_f (by omega), B_X12_goesText_59, s2, qbd_some]
              show qlim C_X12_goesText (65, [some (qA 82), some (qI f), some (qI ((k + 1 : Nat) : Int))], [qI 1], qH0 (qup N2 82 13 (N2 82 13 + 1))) = _
              rw [B_X12_goesText_65, qif_t (by omega)]
            refine ⟨v', M', fin, qGc_t q2 G2, ?_⟩
            rcases q3 with ⟨z, I3, Y3⟩ | ⟨z, N3⟩
            · refine Or.inl ⟨z, I3, fun f N hf hR hA => ?_⟩
              obtain ⟨N4, p1, p2, p3, p4⟩ := ref2 f N hf hR hA
              obtain ⟨N', w1, w2, w3⟩ := Y3 f N4 hf p3 p4
              exact ⟨N', p1.trans w1, qFt_t w2 p2, w3⟩
            · refine Or.inr ⟨z, fun f N hf hR hA => ?_⟩
              obtain ⟨N4, p1, p2, p3, p4⟩ := ref2 f N hf hR hA
              obtain ⟨N', w1, w2, w3⟩ := N3 f N4 hf p3 p4
              exact ⟨N', p1.trans w1, qFt_t w2 p2, w3⟩
          · have s := sX3_sign_n T1 (by omega) (c := 59) cs
            refine ⟨0, M1, ?_, G1, Or.inr ⟨rfl, fun f N hf hR hA => ?_⟩⟩
            · rw [run2, if_neg c10, B_X3_takesText_61 hg, qif_f (by omega), B_X3_takesText_65 hg, s, qbd_some]
              show qlim C_X3_takesText (71, [some (qA g), some (qA x1), some (qI x2), some (qI ((k + 1 : Nat) : Int)), some (qI l), some (qI v)], [qI 0], qH0 M1) = _
              rw [B_X3_takesText_71 hg, qif_t rfl, lX3_end T1, if_neg cn]
            · obtain ⟨N2, p1, p2, p3, p4, p5⟩ := ref f N hf hR hA
              have s2 := sX12_takes_n p3.1 (c := 59) (by have := p3.2.2.1; omega) (by rw [p3.2.2.1]; exact cs)
              refine ⟨N2, ?_, p2, p3.2.2.1⟩
              rw [p1, qif_t cn, B_X12_goesText_53, qif_f (by omega), B_X12_goesText_59, s2, qbd_some]
              show qlim C_X12_goesText (65, [some (qA 82), some (qI f), some (qI ((k + 1 : Nat) : Int))], [qI 0], qH0 N2) = _
              rw [B_X12_goesText_65, qif_f (by omega), B_X12_goesText_68]
    · obtain ⟨run, R⟩ := N1
      refine ⟨0, M1, run, G1, Or.inr ⟨rfl, fun f N hf hR hA => ?_⟩⟩
      obtain ⟨N1, s, y1, y2⟩ := R (10 * f + k) (100 * f) N (by omega) hR
      have r4 := hR.2.2.2
      exact ⟨N1, sX12_gt_no hf (by omega) s, qFt_c y1 (by omega) (by omega), y2⟩
