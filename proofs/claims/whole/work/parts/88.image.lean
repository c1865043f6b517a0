/-! image -/
theorem sX6_becomes {M : qMem} {r r2 : Int} {n : Nat} (hr : qRw r) (hr2 : qRw r2) (h1 : qty (qH0 M) (r + 1) = (100, n)) (h2 : qty (qH0 M) (r2 + 1) = (100, n)) (hn : n ≤ 20) : S_X6_becomes [qA r, qA r2] (qH0 M) = some (none, qH0 (qup (qcp M (r2 + 1) 0 (r + 1) 0 n) r 3 (M r2 3))) := by
  have e : min (n : Int) (n : Int) = n := by omega
  have k := B_X6_becomes_0 (M := M) hr hr2 h1 (by omega) h2 (by omega) (by omega) (by omega) (by omega)
  have q : qcp M (r2 + 1) 0 (r + 1) 0 n r2 3 = M r2 3 := qcp_n2 (by unfold qRw at hr hr2; omega)
  rw [e, q] at k
  rw [E_X6_becomes]
  exact k
theorem fBec_r {M : qMem} {o o2 a : Int} (h : ¬ (o ≤ a ∧ a ≤ o + 8)) : fBec M o o2 a = M a := by
  unfold fBec
  rw [qup_row (by omega), qup_row (by omega), qup_row (by omega), qup_row (by omega), qcp_row (by omega), qcp_row (by omega), qcp_row (by omega), qcp_row (by omega), qcp_row (by omega), qcp_row (by omega), qcp_row (by omega), qcp_row (by omega)]
theorem fBec_s {M : qMem} {o o2 k : Int} (h : ¬ (10 ≤ k ∧ k ≤ 13)) : fBec M o o2 o k = M o k := by
  unfold fBec
  rw [qup_ne (by omega), qup_ne (by omega), qup_ne (by omega), qup_ne (by omega), qcp_n2 (by omega), qcp_n2 (by omega), qcp_n2 (by omega), qcp_n2 (by omega), qcp_n2 (by omega), qcp_n2 (by omega), qcp_n2 (by omega), qcp_n2 (by omega)]
/-- rows that become other rows -/
def fRb (M : qMem) (r r2 n : Int) : qMem := qup (qcp M (r2 + 1) 0 (r + 1) 0 n) r 3 (M r2 3)
theorem fRb_r {M : qMem} {r r2 n a : Int} (h1 : ¬ a = r) (h2 : ¬ a = r + 1) : fRb M r r2 n a = M a := by
  unfold fRb
  rw [qup_row h1, qcp_row h2]
theorem fRb_3 {M : qMem} {r r2 n : Int} : fRb M r r2 n r 3 = M r2 3 := qup_self
theorem fRb_k {M : qMem} {r r2 n k : Int} (h : ¬ k = 3) : fRb M r r2 n r k = M r k := by
  unfold fRb
  rw [qup_ne (by omega), qcp_n2 (by omega)]
theorem fRb_c {M : qMem} {r r2 n k : Int} (h0 : 0 ≤ k) (h1 : k < n) : fRb M r r2 n (r + 1) k = M (r2 + 1) k := by
  unfold fRb
  rw [qup_ne (by omega), qcp_in h0 h1]
theorem qSeen_cp {M V : qMem} {r s a1 a2 a3 r' s' b1 b2 b3 : Int} (h : qSeen M r s a1 a2 a3) (c0 : V r' 0 = 5) (c1 : V r' 1 = 3) (c3 : V r' 3 = M r 3) (cs : V 82 s' = M 82 s) (cr : ∀ k : Int, 0 ≤ k → k < 15 → V (r' + 1) k = M (r + 1) k) (cb : ∀ j : Int, 0 ≤ j → j < 5 → V b1 j = M a1 j ∧ V b2 j = M a2 j ∧ V b3 j = M a3 j) : qSeen V r' s' b1 b2 b3 := by
  obtain ⟨h1, h2, h3, h4⟩ := h
  refine ⟨⟨c0, c1⟩, by omega, by omega, fun i a b => ?_⟩
  have q := h4 i a (by omega)
  have w := cb i a (by omega)
  rw [cr _ (by omega) (by omega), cr _ (by omega) (by omega), cr _ (by omega) (by omega), w.1, w.2.1, w.2.2]
  exact q
theorem qEvn_cp {M V : qMem} {r s a1 a2 r' s' b1 b2 pp : Int} (h : qEvn M r s a1 a2 pp) (c0 : V r' 0 = 10) (c1 : V r' 1 = 2) (c3 : V r' 3 = M r 3) (cs : V 82 s' = M 82 s) (cr : ∀ k : Int, 0 ≤ k → k < 20 → V (r' + 1) k = M (r + 1) k) (cb : ∀ j : Int, 0 ≤ j → j < 10 → V b1 j = M a1 j ∧ V b2 j = M a2 j) : qEvn V r' s' b1 b2 pp := by
  obtain ⟨h1, h2, h3, h4⟩ := h
  refine ⟨⟨c0, c1⟩, by omega, by omega, fun i a b => ?_⟩
  have q := h4 i a (by omega)
  have w := cb i a (by omega)
  rw [cr _ (by omega) (by omega), cr _ (by omega) (by omega), w.1, w.2]
  exact q
theorem qBok_cp {M V : qMem} {r s a1 a2 r' s' b1 b2 : Int} (h : qBok M r s a1 a2) (c0 : V r' 0 = 8) (c1 : V r' 1 = 2) (c3 : V r' 3 = M r 3) (cs : V 82 s' = M 82 s) (cr : ∀ k : Int, 0 ≤ k → k < 16 → V (r' + 1) k = M (r + 1) k) (cb : ∀ j : Int, 0 ≤ j → j < 8 → V b1 j = M a1 j ∧ V b2 j = M a2 j) : qBok V r' s' b1 b2 := by
  obtain ⟨h1, h2, h3, h4⟩ := h
  refine ⟨⟨c0, c1⟩, by omega, by omega, fun i a b => ?_⟩
  have q := h4 i a (by omega)
  have w := cb i a (by omega)
  rw [cr _ (by omega) (by omega), cr _ (by omega) (by omega), w.1, w.2]
  exact q
theorem qHI_k {M : qMem} {g f : Int} (h : qHls M) (k : qHk (M 0 13) g f) : qHI M g := by
  rcases k with ⟨_, rfl⟩ | ⟨k1, k2, rfl⟩
  · obtain ⟨_, ⟨a, b, c⟩, _⟩ := h
    exact ⟨Or.inl rfl, by omega, by omega, by omega, fun i i0 i1 => by omega, by rw [a]; exact Nat.zero_le _⟩
  · exact (h.2.2.1 f k1 k2).1
theorem qHS_k {M : qMem} {g f : Int} (h : qHls M) (hf : M 82 11 = f) (k : qHk (M 0 13) g f) : qHS M M g := by
  rcases k with ⟨k0, rfl⟩ | ⟨k1, k2, rfl⟩
  · obtain ⟨_, ⟨a, b, c⟩, _⟩ := h
    exact Or.inl ⟨by omega, rfl, a, b, c⟩
  · have c := h.1
    rw [← hf] at k1 k2 ⊢
    exact Or.inr ⟨k1, by omega, rfl, (h.2.2.1 _ k1 k2).2.1⟩
theorem step_image {M : qMem} (h : qInv M) : qStep S_X11_image S_X12_image [] M := by
  have hl := iHl h
  have hk := qHk_g hl.2.1 hl.1.1.2.2
  obtain ⟨A, hA⟩ : ∃ A : qMem, A = fBec M 30 12 := ⟨_, rfl⟩
  have s0 : S_X8_becomes [qA 30, qA 12] (qH0 M) = some (none, qH0 A) := by
    rw [hA]
    exact sX8_becomes (Or.inr (Or.inr rfl)) (Or.inl rfl) (by omega) (by omega)
  have s1 : S_X6_becomes [qA 45, qA 39] (qH0 A) = some (none, qH0 (fRb A 45 39 15)) := sX6_becomes (n := 15) (Or.inr (Or.inr (Or.inr (Or.inl rfl)))) (Or.inl rfl) rfl rfl (by omega)
  have s2 : S_X6_becomes [qA 47, qA 41] (qH0 (fRb A 45 39 15)) = some (none, qH0 (fRb (fRb A 45 39 15) 47 41 20)) := sX6_becomes (n := 20) (Or.inr (Or.inr (Or.inr (Or.inr (Or.inl rfl))))) (Or.inr (Or.inl rfl)) rfl rfl (by omega)
  have s3 : S_X6_becomes [qA 49, qA 43] (qH0 (fRb (fRb A 45 39 15) 47 41 20)) = some (none, qH0 (fRb (fRb (fRb A 45 39 15) 47 41 20) 49 43 16)) := sX6_becomes (n := 16) (Or.inr (Or.inr (Or.inr (Or.inr (Or.inr rfl))))) (Or.inr (Or.inr (Or.inl rfl))) rfl rfl (by omega)
  obtain ⟨Q, hQ⟩ : ∃ Q : qMem, Q = qup (fRb (fRb (fRb A 45 39 15) 47 41 20) 49 43 16) 0 9 1 := ⟨_, rfl⟩
  have ar : ∀ a : Int, ¬ (30 ≤ a ∧ a ≤ 38) → A a = M a := fun a ha => by rw [hA, fBec_r (by omega)]
  have qr : ∀ a : Int, ¬ a = 0 → ¬ (30 ≤ a ∧ a ≤ 38) → ¬ (45 ≤ a ∧ a ≤ 50) → Q a = M a := fun a a0 a1 a2 => by rw [hQ, qup_row a0, fRb_r (by omega) (by omega), fRb_r (by omega) (by omega), fRb_r (by omega) (by omega), ar a a1]
  have q30 : ∀ a : Int, 30 ≤ a ∧ a ≤ 38 → Q a = A a := fun a ha => by rw [hQ, qup_row (by omega), fRb_r (by omega) (by omega), fRb_r (by omega) (by omega), fRb_r (by omega) (by omega)]
  have E : qSE Q 30 M 12 := by
    have e : qSE A 30 M 12 := by
      rw [hA]
      exact fBec_E (Or.inr (Or.inr rfl)) (Or.inl rfl) (by omega)
    unfold qSE at e ⊢
    rw [q30 30 (by omega), q30 (30 + 1) (by omega), q30 (30 + 2) (by omega), q30 (30 + 3) (by omega), q30 (30 + 4) (by omega), q30 (30 + 5) (by omega), q30 (30 + 6) (by omega), q30 (30 + 7) (by omega), q30 (30 + 8) (by omega)]
    exact e
  have q30s : Q 30 1 = M 30 1 := by rw [q30 30 (by omega), hA, fBec_s (by omega)]
  have q0 : ∀ k : Int, ¬ k = 9 → Q 0 k = M 0 k := fun k hk => by rw [hQ, qup_ne (by omega), fRb_r (by omega) (by omega), fRb_r (by omega) (by omega), fRb_r (by omega) (by omega), ar 0 (by omega)]
  have q09 : Q 0 9 = 1 := by rw [hQ, qup_self]
  have p45 : Q 45 = fRb A 45 39 15 45 := by rw [hQ, qup_row (by omega), fRb_r (by omega) (by omega), fRb_r (by omega) (by omega)]
  have p46 : Q 46 = fRb A 45 39 15 46 := by rw [hQ, qup_row (by omega), fRb_r (by omega) (by omega), fRb_r (by omega) (by omega)]
  have p47 : Q 47 = fRb (fRb A 45 39 15) 47 41 20 47 := by rw [hQ, qup_row (by omega), fRb_r (by omega) (by omega)]
  have p48 : Q 48 = fRb (fRb A 45 39 15) 47 41 20 48 := by rw [hQ, qup_row (by omega), fRb_r (by omega) (by omega)]
  have p49 : Q 49 = fRb (fRb (fRb A 45 39 15) 47 41 20) 49 43 16 49 := by rw [hQ, qup_row (by omega)]
  have p50 : Q 50 = fRb (fRb (fRb A 45 39 15) 47 41 20) 49 43 16 50 := by rw [hQ, qup_row (by omega)]
  have t1 : S_X11_image [qA 0] (qH0 M) = some (some (qI (M 12 10)), qH0 Q) := by
    rw [E_X11_image, B_X11_image_0, s0, qbd_some]
    show qlim C_X11_image (11, [some (qA 0)], [], qH0 A) = _
    rw [B_X11_image_11, s1, qbd_some]
    show qlim C_X11_image (22, [some (qA 0)], [], qH0 (fRb A 45 39 15)) = _
    rw [B_X11_image_22, s2, qbd_some]
    show qlim C_X11_image (33, [some (qA 0)], [], qH0 (fRb (fRb A 45 39 15) 47 41 20)) = _
    rw [B_X11_image_33, s3, qbd_some]
    show qlim C_X11_image (44, [some (qA 0)], [], qH0 (fRb (fRb (fRb A 45 39 15) 47 41 20) 49 43 16)) = _
    rw [B_X11_image_44, ← hQ, qr 12 (by omega) (by omega) (by omega)]
  obtain ⟨V, t2, ⟨c1, c2, c3, c4, c5⟩, ⟨d1, d2, d3, d4, d5, d6, d7, d8⟩, vr, vs⟩ := sX12_image (M := Q)
  have R := h.2.1.1
  have m0 : Q 82 0 = M 12 10 := by rw [qr 82 (by omega) (by omega) (by omega)]; exact R.1.1
  rw [m0] at t2
  have r82 : Q 82 = M 82 := qr 82 (by omega) (by omega) (by omega)
  rw [r82] at d2 d3 d4 d5 d6 d7 d8 vs
  have v : ∀ a : Int, ¬ a = 0 → ¬ (30 ≤ a ∧ a ≤ 38) → ¬ (45 ≤ a ∧ a ≤ 50) → ¬ a = 82 → ¬ (111 ≤ a ∧ a ≤ 124) → V a = M a := fun a a0 a1 a2 a3 a4 => by rw [vr a a3 (by omega) (by omega) (by omega) (by omega) (by omega) (by omega) (by omega) (by omega) (by omega) (by omega) (by omega) (by omega) (by omega) (by omega), qr a a0 a1 a2]
  have w : ∀ a : Int, a = 0 ∨ (30 ≤ a ∧ a ≤ 38) ∨ (45 ≤ a ∧ a ≤ 50) → V a = Q a := fun a ha => vr a (by omega) (by omega) (by omega) (by omega) (by omega) (by omega) (by omega) (by omega) (by omega) (by omega) (by omega) (by omega) (by omega) (by omega) (by omega)
  have u : ∀ a k : Int, (¬ a = 0 ∨ ¬ k = 9) → ¬ (30 ≤ a ∧ a ≤ 38) → ¬ (45 ≤ a ∧ a ≤ 50) → (a = 82 → ¬ (47 ≤ k ∧ k ≤ 54)) → ¬ (111 ≤ a ∧ a ≤ 124) → V a k = M a k := fun a k a0 a1 a2 a3 a4 => by
    by_cases c0 : a = 0
    · subst c0
      rw [w 0 (by omega)]
      exact q0 k (by omega)
    · by_cases c82 : a = 82
      · subst c82
        exact vs k (by omega) (by omega) (by omega) (by omega) (by omega) (by omega) (by omega) (by omega)
      · rw [v a c0 a1 a2 c82 a4]
  have g1 : qAg D1 V M := fun a k q => u a k (by unfold D1 at q; omega) (by unfold D1 at q; omega) (by unfold D1 at q; omega) (by unfold D1 at q; omega) (by unfold D1 at q; omega)
  have N1 := qNow_g h.1 g1
  have N2 := qMN_a (qMN_n h.2.1 (fun a k q => u a k (by unfold D2 at q; omega) (by unfold D2 at q; omega) (by unfold D2 at q; omega) (by unfold D2 at q; omega) (by unfold D2 at q; omega))) h.1 g1
  have e10 : V 12 10 = M 12 10 := by rw [v 12 (by omega) (by omega) (by omega) (by omega) (by omega)]
  have EV : qSE V 30 M 12 := by
    unfold qSE at E ⊢
    rw [w 30 (by omega), w (30 + 1) (by omega), w (30 + 2) (by omega), w (30 + 3) (by omega), w (30 + 4) (by omega), w (30 + 5) (by omega), w (30 + 6) (by omega), w (30 + 7) (by omega), w (30 + 8) (by omega)]
    exact E
  have v30s : V 30 1 = M 30 1 := by rw [w 30 (by omega), q30s]
  obtain ⟨I1, I2, I3, I4, I5, I6⟩ := iImg h
  obtain ⟨⟨x1, x2, x3, x4⟩, x5, x6, x7⟩ := EV
  have F := h.1.1
  have hg4 : M 12 12 = M (M 12 13) 4 := by
    have z := R.2.2.2.2.2.2
    rw [h.2.1.2.1, if_neg (by omega)] at z
    exact z
  refine ⟨qI (M 12 10), Q, V, t1, t2, N1, N2, ?_⟩
  refine ⟨qSeen_g (iSeen h) (fun a k q => u a k (by unfold DR3 at q; omega) (by unfold DR3 at q; omega) (by unfold DR3 at q; omega) (by unfold DR3 at q; omega) (by unfold DR3 at q; omega)), by rw [e10]; exact qEvn_g (iEvn h) (Int.le_refl _) (fun a k q => u a k (by unfold DR3 at q; omega) (by unfold DR3 at q; omega) (by unfold DR3 at q; omega) (by unfold DR3 at q; omega) (by unfold DR3 at q; omega)), qBok_g (iBok h) (fun a k q => u a k (by unfold DR3 at q; omega) (by unfold DR3 at q; omega) (by unfold DR3 at q; omega) (by unfold DR3 at q; omega) (by unfold DR3 at q; omega)),
    ⟨⟨by rw [x1]; exact F.2.1, by rw [x3]; exact F.2.2.1, by rw [v30s]; exact I1.2.2.1, by rw [x2]; exact h.1.2.2.2.1⟩, ?_, ⟨by rw [d3, x1]; exact R.1.1, by rw [d4, x2]; exact R.1.2, by rw [d5]; exact R.2.1⟩, fun k a b => ?_, fun p a b => ?_, fun k a b => ?_⟩, ⟨?_, ?_, ?_⟩, ⟨qZ_g (iZ h).1 e10 (v 17 (by omega) (by omega) (by omega) (by omega) (by omega)) (v 18 (by omega) (by omega) (by omega) (by omega) (by omega)) (v 19 (by omega) (by omega) (by omega) (by omega) (by omega)) (v 20 (by omega) (by omega) (by omega) (by omega) (by omega)), fun p a b => ?_⟩,
    ⟨qHls_g hl.1 (fun a k q => u a k (by unfold D4 at q; omega) (by unfold D4 at q; omega) (by unfold D4 at q; omega) (by unfold D4 at q; omega) (by unfold D4 at q; omega)), by rw [u 0 13 (by omega) (by omega) (by omega) (by omega) (by omega), u 12 13 (by omega) (by omega) (by omega) (by omega) (by omega), u 82 11 (by omega) (by omega) (by omega) (by omega) (by omega)]; exact hl.2.1, by rw [u 0 13 (by omega) (by omega) (by omega) (by omega) (by omega), x4, d2]; exact hl.2.1, by rw [x3, x4, v (M 12 13) (by omega) (by omega) (by omega) (by omega) (by omega)]; exact hg4⟩,
    qTps_g (iTps h) (fun a k q => u a k (by unfold D5 at q; omega) (by unfold D5 at q; omega) (by unfold D5 at q; omega) (by unfold D5 at q; omega) (by unfold D5 at q; omega)), qAct_g (iAct h) (fun a k q => u a k (by unfold D6 at q; omega) (by unfold D6 at q; omega) (by unfold D6 at q; omega) (by unfold D6 at q; omega) (by unfold D6 at q; omega)), qTxt_g (iTxt h) (fun a k q => u a k (by unfold D7 at q; omega) (by unfold D7 at q; omega) (by unfold D7 at q; omega) (by unfold D7 at q; omega) (by unfold D7 at q; omega)), by rw [d1, w 0 (by omega), q09], by rw [w 0 (by omega), q09]; omega⟩
  · exact qSE_V ⟨⟨x1, x2, x3, x4⟩, x5, x6, x7⟩ h.1.2.1 (by rw [v30s, I1.2.2.1, h.1.2.2.1]; omega)
  · rw [(c1 k a b).1, qr 83 (by omega) (by omega) (by omega), R.2.2.1 k a b]
    exact (x5 k a b).symm
  · have C := c2 p a b
    have X := x6 p a b
    have Rp := R.2.2.2.1 p a b
    have Fp := F.2.2.2.2.1 p a b
    have X1 : V 32 p = M (12 + 2) p := X.1
    have X2 : V 33 p = M (12 + 3) p := X.2.1
    have X3 : V 34 p = M (12 + 4) p := X.2.2.1
    have X4 : V 35 p = M (12 + 5) p := X.2.2.2.1
    have X5 : V 36 p = M (12 + 6) p := X.2.2.2.2.1
    have X6 : V 38 p = M (12 + 8) p := X.2.2.2.2.2
    rw [C.1, C.2.1, C.2.2.1, C.2.2.2.1, C.2.2.2.2, qr 84 (by omega) (by omega) (by omega), qr 85 (by omega) (by omega) (by omega), qr 86 (by omega) (by omega) (by omega), qr 87 (by omega) (by omega) (by omega), qr 88 (by omega) (by omega) (by omega), X1, X2, X3, X4, X5, X6, d5]
    exact ⟨Fp, Rp⟩
  · have X : V 37 k = M (12 + 7) k := x7 k a b
    rw [c3 k a b, qr 89 (by omega) (by omega) (by omega), X]
    exact ⟨F.2.2.2.2.2.1 k a b, R.2.2.2.2.1 k a b⟩
  · have S := (iImr h).1.1
    refine qSeen_cp (r := 39) (s := 37) (a1 := 104) (a2 := 105) (a3 := 106) (iSeen h) ?_ ?_ ?_ d6 (fun k k0 k1 => ?_) (fun j a b => ?_)
    · rw [w 45 (by omega), p45, fRb_k (by omega), ar 45 (by omega)]
      exact S.1
    · rw [w 45 (by omega), p45, fRb_k (by omega), ar 45 (by omega)]
      exact S.2
    · rw [w 45 (by omega), p45, fRb_3, ar 39 (by omega)]
    · have z : fRb A 45 39 15 46 k = A (39 + 1) k := fRb_c (r := 45) k0 k1
      rw [w (45 + 1) (by omega)]
      have p46' : Q (45 + 1) = fRb A 45 39 15 46 := p46
      rw [p46', z, ar (39 + 1) (by omega)]
    · have C := c1 j a b
      rw [C.2.1, C.2.2.1, C.2.2.2, qr 104 (by omega) (by omega) (by omega), qr 105 (by omega) (by omega) (by omega), qr 106 (by omega) (by omega) (by omega)]
      exact ⟨rfl, rfl, rfl⟩
  · have S := (iImr h).2.1.1
    rw [x1]
    refine qEvn_cp (r := 41) (s := 41) (a1 := 107) (a2 := 108) (iEvn h) ?_ ?_ ?_ d7 (fun k k0 k1 => ?_) (fun j a b => ?_)
    · rw [w 47 (by omega), p47, fRb_k (by omega), fRb_r (by omega) (by omega), ar 47 (by omega)]
      exact S.1
    · rw [w 47 (by omega), p47, fRb_k (by omega), fRb_r (by omega) (by omega), ar 47 (by omega)]
      exact S.2
    · rw [w 47 (by omega), p47, fRb_3, fRb_r (by omega) (by omega), ar 41 (by omega)]
    · have z : fRb (fRb A 45 39 15) 47 41 20 48 k = fRb A 45 39 15 (41 + 1) k := fRb_c (r := 47) k0 k1
      rw [w (47 + 1) (by omega)]
      have p48' : Q (47 + 1) = fRb (fRb A 45 39 15) 47 41 20 48 := p48
      rw [p48', z, fRb_r (by omega) (by omega), ar (41 + 1) (by omega)]
    · have C := c4 j a b
      rw [C.1, C.2, qr 107 (by omega) (by omega) (by omega), qr 108 (by omega) (by omega) (by omega)]
      exact ⟨rfl, rfl⟩
  · have S := (iImr h).2.2.1
    refine qBok_cp (r := 43) (s := 42) (a1 := 109) (a2 := 110) (iBok h) ?_ ?_ ?_ d8 (fun k k0 k1 => ?_) (fun j a b => ?_)
    · rw [w 49 (by omega), p49, fRb_k (by omega), fRb_r (by omega) (by omega), fRb_r (by omega) (by omega), ar 49 (by omega)]
      exact S.1
    · rw [w 49 (by omega), p49, fRb_k (by omega), fRb_r (by omega) (by omega), fRb_r (by omega) (by omega), ar 49 (by omega)]
      exact S.2
    · rw [w 49 (by omega), p49, fRb_3, fRb_r (by omega) (by omega), fRb_r (by omega) (by omega), ar 43 (by omega)]
    · have z : fRb (fRb (fRb A 45 39 15) 47 41 20) 49 43 16 50 k = fRb (fRb A 45 39 15) 47 41 20 (43 + 1) k := fRb_c (r := 49) k0 k1
      rw [w (49 + 1) (by omega)]
      have p50' : Q (49 + 1) = fRb (fRb (fRb A 45 39 15) 47 41 20) 49 43 16 50 := p50
      rw [p50', z, fRb_r (by omega) (by omega), fRb_r (by omega) (by omega), ar (43 + 1) (by omega)]
    · have C := c5 j a b
      rw [C.1, C.2, qr 109 (by omega) (by omega) (by omega), qr 110 (by omega) (by omega) (by omega)]
      exact ⟨rfl, rfl⟩
  · rw [x1] at a
    have hp := F.2.1
    have Z := (iZ h).1 p a b
    have X := x6 p (by omega) b
    rw [X.2.2.2.1, X.2.2.2.2.1, X.2.2.2.2.2]
    refine ⟨Z.1, Z.2.1, Z.2.2.1, fun i i0 i1 => ?_⟩
    rw [x7 _ (by omega) (by omega)]
    exact Z.2.2.2 i i0 i1
