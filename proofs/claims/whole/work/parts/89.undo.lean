/-! undo -/
theorem step_undo {M : qMem} (h : qInv M) : qStep S_X11_undo S_X12_undo [] M := by
  have H := iHas h
  by_cases hc : M 0 9 = 0
  · have hc2 : M 82 47 = 0 := by omega
    refine qStep_r (v := qI (-3)) h ?_ ?_
    · rw [E_X11_undo, B_X11_undo_0, qif_f (fun q => q hc), B_X11_undo_7]
    · rw [E_X12_undo, B_X12_undo_0, qif_f (fun q => q hc2), B_X12_undo_7]
  · have hl := iHl h
    have hk := qHk_g hl.2.2.1 hl.1.1.2.2
    obtain ⟨I1, I2, I3, I4, I5, I6⟩ := iImg h
    obtain ⟨A, hA⟩ : ∃ A : qMem, A = fBec M 12 30 := ⟨_, rfl⟩
    have s0 : S_X8_becomes [qA 12, qA 30] (qH0 M) = some (none, qH0 A) := by
      rw [hA]
      exact sX8_becomes (Or.inl rfl) (Or.inr (Or.inr rfl)) (by omega) (by omega)
    have s1 : S_X6_becomes [qA 39, qA 45] (qH0 A) = some (none, qH0 (fRb A 39 45 15)) := sX6_becomes (n := 15) (Or.inl rfl) (Or.inr (Or.inr (Or.inr (Or.inl rfl)))) rfl rfl (by omega)
    have s2 : S_X6_becomes [qA 41, qA 47] (qH0 (fRb A 39 45 15)) = some (none, qH0 (fRb (fRb A 39 45 15) 41 47 20)) := sX6_becomes (n := 20) (Or.inr (Or.inl rfl)) (Or.inr (Or.inr (Or.inr (Or.inr (Or.inl rfl))))) rfl rfl (by omega)
    have s3 : S_X6_becomes [qA 43, qA 49] (qH0 (fRb (fRb A 39 45 15) 41 47 20)) = some (none, qH0 (fRb (fRb (fRb A 39 45 15) 41 47 20) 43 49 16)) := sX6_becomes (n := 16) (Or.inr (Or.inr (Or.inl rfl))) (Or.inr (Or.inr (Or.inr (Or.inr (Or.inr rfl))))) rfl rfl (by omega)
    obtain ⟨Q, hQ⟩ : ∃ Q : qMem, Q = fRb (fRb (fRb A 39 45 15) 41 47 20) 43 49 16 := ⟨_, rfl⟩
    have ar : ∀ a : Int, ¬ (12 ≤ a ∧ a ≤ 20) → A a = M a := fun a ha => by rw [hA, fBec_r (by omega)]
    have qr : ∀ a : Int, ¬ (12 ≤ a ∧ a ≤ 20) → ¬ (39 ≤ a ∧ a ≤ 44) → Q a = M a := fun a a1 a2 => by rw [hQ, fRb_r (by omega) (by omega), fRb_r (by omega) (by omega), fRb_r (by omega) (by omega), ar a a1]
    have q12 : ∀ a : Int, 12 ≤ a ∧ a ≤ 20 → Q a = A a := fun a ha => by rw [hQ, fRb_r (by omega) (by omega), fRb_r (by omega) (by omega), fRb_r (by omega) (by omega)]
    have E : qSE Q 12 M 30 := by
      have e : qSE A 12 M 30 := by
        rw [hA]
        exact fBec_E (Or.inl rfl) (Or.inr (Or.inr rfl)) (by omega)
      unfold qSE at e ⊢
      rw [q12 12 (by omega), q12 (12 + 1) (by omega), q12 (12 + 2) (by omega), q12 (12 + 3) (by omega), q12 (12 + 4) (by omega), q12 (12 + 5) (by omega), q12 (12 + 6) (by omega), q12 (12 + 7) (by omega), q12 (12 + 8) (by omega)]
      exact e
    have q1s : Q 12 1 = M 12 1 := by rw [q12 12 (by omega), hA, fBec_s (by omega)]
    have p39 : Q 39 = fRb A 39 45 15 39 := by rw [hQ, fRb_r (by omega) (by omega), fRb_r (by omega) (by omega)]
    have p40 : Q 40 = fRb A 39 45 15 40 := by rw [hQ, fRb_r (by omega) (by omega), fRb_r (by omega) (by omega)]
    have p41 : Q 41 = fRb (fRb A 39 45 15) 41 47 20 41 := by rw [hQ, fRb_r (by omega) (by omega)]
    have p42 : Q 42 = fRb (fRb A 39 45 15) 41 47 20 42 := by rw [hQ, fRb_r (by omega) (by omega)]
    have p43 : Q 43 = fRb (fRb (fRb A 39 45 15) 41 47 20) 43 49 16 43 := by rw [hQ]
    have p44 : Q 44 = fRb (fRb (fRb A 39 45 15) 41 47 20) 43 49 16 44 := by rw [hQ]
    have t1 : S_X11_undo [qA 0] (qH0 M) = some (some (qI (M 30 10)), qH0 Q) := by
      rw [E_X11_undo, B_X11_undo_0, qif_t hc, B_X11_undo_10, s0, qbd_some]
      show qlim C_X11_undo (21, [some (qA 0)], [], qH0 A) = _
      rw [B_X11_undo_21, s1, qbd_some]
      show qlim C_X11_undo (32, [some (qA 0)], [], qH0 (fRb A 39 45 15)) = _
      rw [B_X11_undo_32, s2, qbd_some]
      show qlim C_X11_undo (43, [some (qA 0)], [], qH0 (fRb (fRb A 39 45 15) 41 47 20)) = _
      rw [B_X11_undo_43, s3, qbd_some]
      show qlim C_X11_undo (54, [some (qA 0)], [], qH0 (fRb (fRb (fRb A 39 45 15) 41 47 20) 43 49 16)) = _
      rw [B_X11_undo_54, ← hQ, E.1.1]
    have r82 : Q 82 = M 82 := qr 82 (by omega) (by omega)
    obtain ⟨V, t2, ⟨c1, c2, c3, c4, c5⟩, ⟨d1, d2, d3, d4, d5, d6, d7⟩, vr, vs⟩ := sX12_undo (M := Q) (by rw [r82]; omega)
    rw [r82] at t2 d1 d2 d3 d4 d5 d6 d7 vs
    rw [I3.1] at t2
    have v : ∀ a : Int, ¬ (12 ≤ a ∧ a ≤ 20) → ¬ (39 ≤ a ∧ a ≤ 44) → ¬ a = 82 → ¬ (83 ≤ a ∧ a ≤ 89) → ¬ (104 ≤ a ∧ a ≤ 110) → V a = M a := fun a a1 a2 a3 a4 a5 => by rw [vr a a3 (by omega) (by omega) (by omega) (by omega) (by omega) (by omega) (by omega) (by omega) (by omega) (by omega) (by omega) (by omega) (by omega) (by omega), qr a a1 a2]
    have w : ∀ a : Int, (12 ≤ a ∧ a ≤ 20) ∨ (39 ≤ a ∧ a ≤ 44) → V a = Q a := fun a ha => vr a (by omega) (by omega) (by omega) (by omega) (by omega) (by omega) (by omega) (by omega) (by omega) (by omega) (by omega) (by omega) (by omega) (by omega) (by omega)
    have u : ∀ a k : Int, ¬ (12 ≤ a ∧ a ≤ 20) → ¬ (39 ≤ a ∧ a ≤ 44) → (a = 82 → ¬ k = 11 ∧ ¬ (0 ≤ k ∧ k ≤ 2) ∧ ¬ k = 37 ∧ ¬ k = 41 ∧ ¬ k = 42) → ¬ (83 ≤ a ∧ a ≤ 89) → ¬ (104 ≤ a ∧ a ≤ 110) → V a k = M a k := fun a k a1 a2 a3 a4 a5 => by
      by_cases c82 : a = 82
      · subst c82
        exact vs k (by omega) (by omega) (by omega) (by omega) (by omega) (by omega) (by omega)
      · rw [v a a1 a2 c82 a4 a5]
    have EV : qSE V 12 M 30 := by
      unfold qSE at E ⊢
      rw [w 12 (by omega), w (12 + 1) (by omega), w (12 + 2) (by omega), w (12 + 3) (by omega), w (12 + 4) (by omega), w (12 + 5) (by omega), w (12 + 6) (by omega), w (12 + 7) (by omega), w (12 + 8) (by omega)]
      exact E
    have v1s : V 12 1 = 99999 := by rw [w 12 (by omega), q1s]; exact h.1.2.2.1
    have EV' := EV
    obtain ⟨⟨x1, x2, x3, x4⟩, x5, x6, x7⟩ := EV
    have hls : qHls V := qHls_g hl.1 (fun a k q => u a k (by unfold D4 at q; omega) (by unfold D4 at q; omega) (by unfold D4 at q; omega) (by unfold D4 at q; omega) (by unfold D4 at q; omega))
    have e13 : V 0 13 = M 0 13 := u 0 13 (by omega) (by omega) (by omega) (by omega) (by omega)
    have hkv : qHk (V 0 13) (V 12 13) (V 82 11) := by
      rw [e13, x4, d1]
      exact hl.2.2.1
    have X : ∀ p : Int, 0 ≤ p → p < 6 → V 14 p = M 32 p ∧ V 15 p = M 33 p ∧ V 16 p = M 34 p ∧ V 17 p = M 35 p ∧ V 18 p = M 36 p ∧ V 20 p = M 38 p := x6
    have N1 : qNow V := by
      refine ⟨⟨Or.inl rfl, by rw [x1]; exact I1.1, by rw [x3]; exact I1.2.1, by rw [v1s]; omega, fun p a b => ?_, fun k a b => ?_, qHI_k hls hkv⟩, qSE_V EV' I2 (by rw [v1s, I1.2.2.1]; omega), v1s, by rw [x2]; exact I1.2.2.2, by rw [u 21 1 (by omega) (by omega) (by omega) (by omega) (by omega)]; exact h.1.2.2.2.2⟩
      · have q := x6 p a b
        rw [q.1, q.2.1, q.2.2.1, q.2.2.2.2.2]
        exact (I5 p a b).1
      · rw [x7 k a b]
        exact (I6 k a b).1
    have N2 : qMN V V := by
      refine ⟨⟨⟨by rw [d2, x1]; exact I3.1, by rw [d3, x2]; exact I3.2.1⟩, by rw [d4]; exact I3.2.2, fun k a b => ?_, fun p a b => ?_, fun k a b => ?_, qHS_k hls rfl hkv, ?_⟩, by rw [u 82 27 (by omega) (by omega) (by omega) (by omega) (by omega)]; exact h.2.1.2.1, by rw [u 82 29 (by omega) (by omega) (by omega) (by omega) (by omega)]; exact h.2.1.2.2.1, by rw [u 82 30 (by omega) (by omega) (by omega) (by omega) (by omega)]; exact h.2.1.2.2.2⟩
      · rw [x5 k a b, (c1 k a b).1, qr 111 (by omega) (by omega)]
        exact I4 k a b
      · have C := c2 p a b
        have q := x6 p a b
        rw [C.1, C.2.1, C.2.2.1, C.2.2.2.1, C.2.2.2.2, qr 112 (by omega) (by omega), qr 113 (by omega) (by omega), qr 114 (by omega) (by omega), qr 115 (by omega) (by omega), qr 116 (by omega) (by omega), q.1, q.2.1, q.2.2.1, q.2.2.2.1, q.2.2.2.2.1, q.2.2.2.2.2, d4]
        exact (I5 p a b).2
      · rw [x7 k a b, c3 k a b, qr 117 (by omega) (by omega)]
        exact (I6 k a b).2
      · rw [u 82 27 (by omega) (by omega) (by omega) (by omega) (by omega), h.2.1.2.1, if_neg (by omega), x3, x4, v (M 30 13) (by omega) (by omega) (by omega) (by omega) (by omega)]
        exact hl.2.2.2
    refine ⟨qI (M 30 10), Q, V, t1, t2, N1, N2, ?_⟩
    refine ⟨?_, ?_, ?_, qImg_g (iImg h) (fun a k q => u a k (by unfold D3 at q; omega) (by unfold D3 at q; omega) (by unfold D3 at q; omega) (by unfold D3 at q; omega) (by unfold D3 at q; omega)),
      ⟨qSeen_g (iImr h).1 (fun a k q => u a k (by unfold DR3 at q; omega) (by unfold DR3 at q; omega) (by unfold DR3 at q; omega) (by unfold DR3 at q; omega) (by unfold DR3 at q; omega)), by rw [v 30 (by omega) (by omega) (by omega) (by omega) (by omega)]; exact qEvn_g (iImr h).2.1 (Int.le_refl _) (fun a k q => u a k (by unfold DR3 at q; omega) (by unfold DR3 at q; omega) (by unfold DR3 at q; omega) (by unfold DR3 at q; omega) (by unfold DR3 at q; omega)), qBok_g (iImr h).2.2 (fun a k q => u a k (by unfold DR3 at q; omega) (by unfold DR3 at q; omega) (by unfold DR3 at q; omega) (by unfold DR3 at q; omega) (by unfold DR3 at q; omega))⟩,
      ⟨fun p a b => ?_, qZ_g (iZ h).2 (by rw [v 30 (by omega) (by omega) (by omega) (by omega) (by omega)]) (v 35 (by omega) (by omega) (by omega) (by omega) (by omega)) (v 36 (by omega) (by omega) (by omega) (by omega) (by omega)) (v 37 (by omega) (by omega) (by omega) (by omega) (by omega)) (v 38 (by omega) (by omega) (by omega) (by omega) (by omega))⟩,
      ⟨hls, hkv, by rw [e13, v 30 (by omega) (by omega) (by omega) (by omega) (by omega), u 82 48 (by omega) (by omega) (by omega) (by omega) (by omega)]; exact hl.2.2.1, by rw [v 30 (by omega) (by omega) (by omega) (by omega) (by omega), v (M 30 13) (by omega) (by omega) (by omega) (by omega) (by omega)]; exact hl.2.2.2⟩,
      qTps_g (iTps h) (fun a k q => u a k (by unfold D5 at q; omega) (by unfold D5 at q; omega) (by unfold D5 at q; omega) (by unfold D5 at q; omega) (by unfold D5 at q; omega)), qAct_g (iAct h) (fun a k q => u a k (by unfold D6 at q; omega) (by unfold D6 at q; omega) (by unfold D6 at q; omega) (by unfold D6 at q; omega) (by unfold D6 at q; omega)), qTxt_g (iTxt h) (fun a k q => u a k (by unfold D7 at q; omega) (by unfold D7 at q; omega) (by unfold D7 at q; omega) (by unfold D7 at q; omega) (by unfold D7 at q; omega)), by rw [u 82 47 (by omega) (by omega) (by omega) (by omega) (by omega), u 0 9 (by omega) (by omega) (by omega) (by omega) (by omega)]; exact H⟩
    · have S := (iSeen h).1
      refine qSeen_cp (r := 45) (s := 52) (a1 := 118) (a2 := 119) (a3 := 120) (iImr h).1 ?_ ?_ ?_ d5 (fun k k0 k1 => ?_) (fun j a b => ?_)
      · rw [w 39 (by omega), p39, fRb_k (by omega), ar 39 (by omega)]
        exact S.1
      · rw [w 39 (by omega), p39, fRb_k (by omega), ar 39 (by omega)]
        exact S.2
      · rw [w 39 (by omega), p39, fRb_3, ar 45 (by omega)]
      · have z : fRb A 39 45 15 40 k = A (45 + 1) k := fRb_c (r := 39) k0 k1
        rw [w (39 + 1) (by omega)]
        have p40' : Q (39 + 1) = fRb A 39 45 15 40 := p40
        rw [p40', z, ar (45 + 1) (by omega)]
      · have C := c1 j a b
        rw [C.2.1, C.2.2.1, C.2.2.2, qr 118 (by omega) (by omega), qr 119 (by omega) (by omega), qr 120 (by omega) (by omega)]
        exact ⟨rfl, rfl, rfl⟩
    · have S := (iEvn h).1
      rw [x1]
      refine qEvn_cp (r := 47) (s := 53) (a1 := 121) (a2 := 122) (iImr h).2.1 ?_ ?_ ?_ d6 (fun k k0 k1 => ?_) (fun j a b => ?_)
      · rw [w 41 (by omega), p41, fRb_k (by omega), fRb_r (by omega) (by omega), ar 41 (by omega)]
        exact S.1
      · rw [w 41 (by omega), p41, fRb_k (by omega), fRb_r (by omega) (by omega), ar 41 (by omega)]
        exact S.2
      · rw [w 41 (by omega), p41, fRb_3, fRb_r (by omega) (by omega), ar 47 (by omega)]
      · have z : fRb (fRb A 39 45 15) 41 47 20 42 k = fRb A 39 45 15 (47 + 1) k := fRb_c (r := 41) k0 k1
        rw [w (41 + 1) (by omega)]
        have p42' : Q (41 + 1) = fRb (fRb A 39 45 15) 41 47 20 42 := p42
        rw [p42', z, fRb_r (by omega) (by omega), ar (47 + 1) (by omega)]
      · have C := c4 j a b
        rw [C.1, C.2, qr 121 (by omega) (by omega), qr 122 (by omega) (by omega)]
        exact ⟨rfl, rfl⟩
    · have S := (iBok h).1
      refine qBok_cp (r := 49) (s := 54) (a1 := 123) (a2 := 124) (iImr h).2.2 ?_ ?_ ?_ d7 (fun k k0 k1 => ?_) (fun j a b => ?_)
      · rw [w 43 (by omega), p43, fRb_k (by omega), fRb_r (by omega) (by omega), fRb_r (by omega) (by omega), ar 43 (by omega)]
        exact S.1
      · rw [w 43 (by omega), p43, fRb_k (by omega), fRb_r (by omega) (by omega), fRb_r (by omega) (by omega), ar 43 (by omega)]
        exact S.2
      · rw [w 43 (by omega), p43, fRb_3, fRb_r (by omega) (by omega), fRb_r (by omega) (by omega), ar 49 (by omega)]
      · have z : fRb (fRb (fRb A 39 45 15) 41 47 20) 43 49 16 44 k = fRb (fRb A 39 45 15) 41 47 20 (49 + 1) k := fRb_c (r := 43) k0 k1
        rw [w (43 + 1) (by omega)]
        have p44' : Q (43 + 1) = fRb (fRb (fRb A 39 45 15) 41 47 20) 43 49 16 44 := p44
        rw [p44', z, fRb_r (by omega) (by omega), fRb_r (by omega) (by omega), ar (49 + 1) (by omega)]
      · have C := c5 j a b
        rw [C.1, C.2, qr 123 (by omega) (by omega), qr 124 (by omega) (by omega)]
        exact ⟨rfl, rfl⟩
    · rw [x1] at a
      have Z := (iZ h).2 p a b
      have q := x6 p (by have := I1.1.1; omega) b
      rw [q.2.2.2.1, q.2.2.2.2.1, q.2.2.2.2.2]
      refine ⟨Z.1, Z.2.1, Z.2.2.1, fun i i0 i1 => ?_⟩
      rw [x7 _ (by have := I1.1.1; omega) (by omega)]
      exact Z.2.2.2 i i0 i1
