/-! hall -/
theorem qG52 {h : Int} (h0 : 0 ≤ h) (h1 : h < 6) : qG0 52 h = 53 + 3 * h := by
  have e : h = 0 ∨ h = 1 ∨ h = 2 ∨ h = 3 ∨ h = 4 ∨ h = 5 := by omega
  rcases e with rfl | rfl | rfl | rfl | rfl | rfl <;> rfl
theorem qHl_h {h : Int} (h0 : 0 ≤ h) (h1 : h < 6) : qHl (53 + 3 * h) := by
  unfold qHl
  omega
/-- a text is read -/
theorem sX3_text {M : qMem} {h n : Int} (hT : qTxt M) (hn : M 0 11 = n) (h0 : 0 ≤ h) (h1 : h < 6) : ∃ (v : Int) (M' : qMem), S_X3_takesText [qA (53 + 3 * h), qA 51, qI n] (qH0 M) = some (some (qI v), qH0 M') ∧ (∀ a : Int, ¬ a = 53 + 3 * h → ¬ a = 53 + 3 * h + 1 → ¬ a = 53 + 3 * h + 2 → M' a = M a) ∧ (0 ≤ M' (53 + 3 * h) 6 ∧ M' (53 + 3 * h) 6 ≤ 100) ∧
    ((v = 1 ∧ qHI M' (53 + 3 * h) ∧ ∀ (f : Int) (N : qMem), (0 ≤ f ∧ f < 6) → N 82 12 = n → (∀ i : Int, 0 ≤ i → i < n → N 90 i = M 51 i) → qLe N → ∃ N', S_X12_goesText [qA 82, qI f] (qH0 N) = some (some (qI 1), qH0 N') ∧ qFt f N' N ∧ qHR N' M' f (53 + 3 * h) ∧ qHQ N' f) ∨
     (v = 0 ∧ ∀ (f : Int) (N : qMem), (0 ≤ f ∧ f < 6) → N 82 12 = n → (∀ i : Int, 0 ≤ i → i < n → N 90 i = M 51 i) → qLe N → ∃ N', S_X12_goesText [qA 82, qI f] (qH0 N) = some (some (qI 0), qH0 N') ∧ qFt f N' N ∧ N' 82 13 = M' (53 + 3 * h) 6)) := by
  obtain ⟨T1, T2, T3⟩ := hT
  rw [hn] at T1 T2 T3
  have hg := qHl_h h0 h1
  obtain ⟨g, hgd⟩ : ∃ g, 53 + 3 * h = g := ⟨_, rfl⟩
  rw [hgd] at hg ⊢
  have em : min n (min ((100 : Nat) : Int) 100) = n := by omega
  have k := B_X3_takesText_0 (M := M) (g := g) (x1 := 51) (x2 := n) (n_x1 := 100) hg rfl (by omega) (by rw [em, qup_self]; omega) (by rw [em, qup_self]; omega) (by rw [em, qup_self]; omega)
  rw [em, qup_self] at k
  obtain ⟨B, hB⟩ : ∃ B : qMem, B = qup (qup (qup (qup (qcp (qup M g 2 n) 51 0 (g + 1) 0 n) g 6 0) g 3 0) g 4 50) g 5 0 := ⟨_, rfl⟩
  rw [← hB] at k
  have b5 : B g 5 = 0 := by rw [hB, qup_self]
  have b4 : B g 4 = 50 := by rw [hB, qup_ne (by omega), qup_self]
  have b3 : B g 3 = 0 := by rw [hB, qup_ne (by omega), qup_ne (by omega), qup_self]
  have b6 : B g 6 = 0 := by rw [hB, qup_ne (by omega), qup_ne (by omega), qup_ne (by omega), qup_self]
  have b2 : B g 2 = n := by rw [hB, qup_ne (by omega), qup_ne (by omega), qup_ne (by omega), qup_ne (by omega), qcp_n2 (by omega), qup_self]
  have br : ∀ a : Int, ¬ a = g → ¬ a = g + 1 → B a = M a := fun a a1 a2 => by rw [hB, qup_row a1, qup_row a1, qup_row a1, qup_row a1, qcp_row a2, qup_row a1]
  have bt : ∀ i : Int, 0 ≤ i → i < n → B (g + 1) i = M 51 i := fun i i0 i1 => by rw [hB, qup_ne (by omega), qup_ne (by omega), qup_ne (by omega), qup_ne (by omega), qcp_in i0 i1, qup_ne (by omega)]
  obtain ⟨t, ht⟩ : ∃ t : Int → Int, t = fun i => if 0 ≤ i ∧ i < n then M 51 i else -1 := ⟨_, rfl⟩
  have t1 : ∀ i : Int, 0 ≤ i → i < n → t i = M 51 i := fun i i0 i1 => by rw [ht]; exact if_pos ⟨i0, i1⟩
  have t2 : ∀ i : Int, n ≤ i → t i = -1 := fun i hi => by rw [ht]; exact if_neg (fun q => by omega)
  have TC : qTc B g n t := ⟨hg, b2, T2, fun i i0 i1 => by rw [bt i i0 i1, t1 i i0 i1]; exact ⟨rfl, (T3 i i0 i1).2⟩, t2⟩
  have CI : qCI g B := ⟨by omega, by omega, by omega, fun i i0 i1 => by omega, by rw [b3]; exact Int.le_refl _⟩
  obtain ⟨v, M', s1, s2, s3⟩ := sim_texts (x1 := 51) (x2 := n) 10 0 none none B (by omega) (by omega) TC (by omega) CI
  have z0 : ((0 : Nat) : Int) = 0 := rfl
  rw [z0] at s1
  have run : S_X3_takesText [qA g, qA 51, qI n] (qH0 M) = some (some (qI v), qH0 M') := by
    rw [E_X3_takesText, k, B_X3_takesText_55 hg, qif_f (by omega), B_X3_takesText_61 hg, qif_t rfl]
    exact s1
  have G6 := s2.2.2.2.1
  -- the reference begins
  have ref : ∀ (f : Int) (N : qMem), (0 ≤ f ∧ f < 6) → N 82 12 = n → (∀ i : Int, 0 ≤ i → i < n → N 90 i = M 51 i) → qLe N → ∃ P, S_X12_goesText [qA 82, qI f] (qH0 N) = qlim C_X12_goesText (15, [some (qA 82), some (qI f), some (qI ((0 : Nat) : Int))], [], qH0 P) ∧ qFt f P N ∧ qRc g n (100 * f) t B P ∧ qAcc f g 0 B P := fun f N hf n12 n90 nL => by
    have e : kmul 100 f = 100 * f := kmul_eq (by omega) (by omega)
    refine ⟨qup (qup N 82 13 0) 82 23 (100 * f), ?_, qFt_up (qFt_up qFt_r (by omega)) (by omega), ⟨⟨by rw [qup_ne (by omega), qup_ne (by omega)]; exact n12, T2, fun i i0 i1 => by rw [qup_ne (by omega), qup_ne (by omega), n90 i i0 i1, t1 i i0 i1], t2⟩, fun i hi => by rw [qup_ne (by omega), qup_ne (by omega)]; exact nL i hi, by rw [qup_ne (by omega), qup_self, b6], ?_⟩, qAcc_0 b3 b4 b5⟩
    · rw [E_X12_goesText, B_X12_goesText_0, e]
      rfl
    · have q23 : qup (qup N 82 13 0) 82 23 (100 * f) 82 23 = 100 * f := qup_self
      have q13 : qup (qup N 82 13 0) 82 23 (100 * f) 82 13 = 0 := by rw [qup_ne (by omega), qup_self]
      omega
  refine ⟨v, M', run, fun a a1 a2 a3 => by rw [s2.1 a a1 a3, br a a1 a2], by omega, ?_⟩
  rcases s3 with ⟨z, C, Y⟩ | ⟨z, Y⟩
  · refine Or.inl ⟨z, ⟨hg, by have := s2.2.2.2.2; have := C.1; omega, C.2.1, C.2.2.1, C.2.2.2.1, by have := s2.2.2.2.2; have := C.2.2.2.2; omega⟩, fun f N hf n12 n90 nL => ?_⟩
    obtain ⟨P, p1, p2, p3, p4⟩ := ref f N hf n12 n90 nL
    obtain ⟨N', y1, y2, y3, kk, y4, y5, P', a1, a2, a3, a4, a5, a6⟩ := Y f P hf p3 p4
    refine ⟨N', p1.trans y1, qFt_t y2 p2, ⟨kk, P', y5, y4, a1, a2, a3, a4, a5⟩, fun i i0 i1 w => ?_⟩
    obtain ⟨m, rfl⟩ := Int.eq_ofNat_of_zero_le i0
    have q := (a6 m (by omega)).1 w
    omega
  · refine Or.inr ⟨z, fun f N hf n12 n90 nL => ?_⟩
    obtain ⟨P, p1, p2, p3, p4⟩ := ref f N hf n12 n90 nL
    obtain ⟨N', y1, y2, y3⟩ := Y f P hf p3 p4
    exact ⟨N', p1.trans y1, qFt_t y2 p2, y3⟩
/-- what reading a text leaves -/
def DV (a k : Int) : Prop := ¬ (53 ≤ a ∧ a ≤ 70) ∧ ¬ (91 ≤ a ∧ a ≤ 97) ∧ (a = 82 → ¬ (10 ≤ k ∧ k ≤ 14) ∧ ¬ (23 ≤ k ∧ k ≤ 25)) ∧ (a = 0 → ¬ k = 11 ∧ ¬ k = 13) ∧ (a = 12 → ¬ k = 12 ∧ ¬ k = 13)
theorem qInv_hall {M V : qMem} (h : qInv M) (u : qAg DV V M) (hls : qHls V) (tx : qTxt V) (k1 : qHk (V 0 13) (V 12 13) (V 82 11)) (k2 : M 0 13 ≤ V 0 13) (r : 1 ≤ V 12 12 ∧ V 12 12 ≤ 99) (room : V 12 12 = V (V 12 13) 4) (im : V (M 30 13) 4 = M (M 30 13) 4) : qInv V := by
  have hl := iHl h
  have R := h.2.1.1
  have F := h.1.1
  have w := fun (a : Int) (ha : (13 ≤ a ∧ a ≤ 21) ∨ (30 ≤ a ∧ a ≤ 38) ∨ (83 ≤ a ∧ a ≤ 89)) => (funext (fun k => u a k (by unfold DV; omega)) : V a = M a)
  have s12 : ∀ k : Int, ¬ k = 12 → ¬ k = 13 → V 12 k = M 12 k := fun k a b => u 12 k (by unfold DV; omega)
  have s82 : ∀ k : Int, ¬ (10 ≤ k ∧ k ≤ 14) → ¬ (23 ≤ k ∧ k ≤ 25) → V 82 k = M 82 k := fun k a b => u 82 k (by unfold DV; omega)
  have N1 : qNow V := by
    refine ⟨⟨Or.inl rfl, by rw [s12 10 (by omega) (by omega)]; exact F.2.1, r, by rw [s12 1 (by omega) (by omega)]; exact F.2.2.2.1, fun p a b => ?_, fun k a b => by rw [w (12 + 7) (by omega)]; exact F.2.2.2.2.2.1 k a b, qHI_k hls k1⟩, qSV_row h.1.2.1 (s12 11 (by omega) (by omega)) (s12 1 (by omega) (by omega)) (w 13 (by omega)) (w 17 (by omega)) (w 18 (by omega)), by rw [s12 1 (by omega) (by omega)]; exact h.1.2.2.1, by rw [s12 11 (by omega) (by omega)]; exact h.1.2.2.2.1, by rw [w 21 (by omega)]; exact h.1.2.2.2.2⟩
    rw [w (12 + 2) (by omega), w (12 + 3) (by omega), w (12 + 4) (by omega), w (12 + 8) (by omega)]
    exact F.2.2.2.2.1 p a b
  have N2 : qMN V V := by
    refine ⟨⟨⟨by rw [s82 0 (by omega) (by omega), s12 10 (by omega) (by omega)]; exact R.1.1, by rw [s82 1 (by omega) (by omega), s12 11 (by omega) (by omega)]; exact R.1.2⟩, by rw [s82 2 (by omega) (by omega)]; exact R.2.1, fun k a b => ?_, fun p a b => ?_, fun k a b => ?_, qHS_k hls rfl k1, by rw [s82 27 (by omega) (by omega), h.2.1.2.1, if_neg (by omega)]; exact room⟩, by rw [s82 27 (by omega) (by omega)]; exact h.2.1.2.1, by rw [s82 29 (by omega) (by omega)]; exact h.2.1.2.2.1, by rw [s82 30 (by omega) (by omega)]; exact h.2.1.2.2.2⟩
    · rw [w 83 (by omega), w (12 + 1) (by omega)]
      exact R.2.2.1 k a b
    · rw [w 84 (by omega), w 85 (by omega), w 86 (by omega), w 87 (by omega), w 88 (by omega), s82 2 (by omega) (by omega), w (12 + 2) (by omega), w (12 + 3) (by omega), w (12 + 4) (by omega), w (12 + 5) (by omega), w (12 + 6) (by omega), w (12 + 8) (by omega)]
      exact R.2.2.2.1 p a b
    · rw [w 89 (by omega), w (12 + 7) (by omega)]
      exact R.2.2.2.2.1 k a b
  refine ⟨N1, N2, qSeen_g (iSeen h) (qAg_m u (fun a k q => by unfold DR3 at q; unfold DV; omega)), by rw [s12 10 (by omega) (by omega)]; exact qEvn_g (iEvn h) (Int.le_refl _) (qAg_m u (fun a k q => by unfold DR3 at q; unfold DV; omega)), qBok_g (iBok h) (qAg_m u (fun a k q => by unfold DR3 at q; unfold DV; omega)), qImg_g (iImg h) (qAg_m u (fun a k q => by unfold D3 at q; unfold DV; omega)),
    ⟨qSeen_g (iImr h).1 (qAg_m u (fun a k q => by unfold DR3 at q; unfold DV; omega)), by rw [w 30 (by omega)]; exact qEvn_g (iImr h).2.1 (Int.le_refl _) (qAg_m u (fun a k q => by unfold DR3 at q; unfold DV; omega)), qBok_g (iImr h).2.2 (qAg_m u (fun a k q => by unfold DR3 at q; unfold DV; omega))⟩,
    ⟨qZ_g (iZ h).1 (s12 10 (by omega) (by omega)) (w 17 (by omega)) (w 18 (by omega)) (w 19 (by omega)) (w 20 (by omega)), qZ_g (iZ h).2 (by rw [w 30 (by omega)]) (w 35 (by omega)) (w 36 (by omega)) (w 37 (by omega)) (w 38 (by omega))⟩,
    ⟨hls, k1, ?_, by rw [w 30 (by omega), im]; exact hl.2.2.2⟩,
    qTps_g (iTps h) (qAg_m u (fun a k q => by unfold D5 at q; unfold DV; omega)), qAct_g (iAct h) (qAg_m u (fun a k q => by unfold D6 at q; unfold DV; omega)), tx, by rw [s82 47 (by omega) (by omega), u 0 9 (by unfold DV; omega)]; exact iHas h⟩
  rw [w 30 (by omega), s82 48 (by omega) (by omega)]
  have q := hl.2.2.1
  unfold qHk at q ⊢
  omega
theorem qHR_2 {N A V : qMem} {f g : Int} (h : qHR N A f g) (h91 : V 91 = N 91) (h92 : V 92 = N 92) (h93 : V 93 = N 93) (h94 : V 94 = N 94) (h95 : V 95 = N 95) (h96 : V 96 = N 96) (g3 : V g 3 = A g 3) (g4 : V g 4 = A g 4) (g5 : V g 5 = A g 5) (gr : V (g + 2) = A (g + 2)) : qHR V V f g := by
  obtain ⟨n, P, a1, a2, a3, a4, a5, a6, a7⟩ := h
  have fl : ∀ w d : Int, fLast V w d (10 * f) n = fLast N w d (10 * f) n := fun w d => fLast_eq n (fun i hi => ⟨by rw [h92], by rw [h93]⟩)
  exact ⟨n, P, by rw [h91]; exact a1, a2, a3, by rw [g3]; exact a4, fun i hi => qCl_fr (a5 i hi) (by rw [h92]) (by rw [h93]) (by rw [h94]) (by rw [h95]) (fun _ k _ _ => by rw [h96]) (fun k _ => by rw [gr]), by rw [g4, fl]; exact a6, by rw [g5, fl]; exact a7⟩
theorem step_hall {M : qMem} (h : qInv M) : qStep S_X11_hall S_X12_hall [] M := by
  have hl := iHl h
  obtain ⟨hls, hk, hki, hri⟩ := hl
  obtain ⟨⟨l1, l2, l3⟩, l4, l5, l6⟩ := hls
  by_cases c6 : M 0 13 < 6
  · obtain ⟨q, hq⟩ : ∃ q, M 0 13 = q := ⟨_, rfl⟩
    obtain ⟨n, hn⟩ : ∃ n, M 0 11 = n := ⟨_, rfl⟩
    obtain ⟨v, M', s1, s2, s3, s4⟩ := sX3_text (iTxt h) hn (h := q) (by omega) (by omega)
    rw [hq] at l1 l2 l3 l5 hk hki c6
    have hg := qHl_h l2 c6
    obtain ⟨g, hgd⟩ : ∃ g, 53 + 3 * q = g := ⟨_, rfl⟩
    rw [hgd] at s1 s2 s3 s4 hg
    have T := iTxt h
    rw [qTxt, hn] at T
    have run1 : S_X11_hall [qA 0] (qH0 M) = qlim C_X11_hall ((if ¬ v = 0 then 52 else 44), [some (qA 0), some (qA g), some (qI v)], [], qH0 (qup M' 0 11 0)) := by
      have gg : qG0 52 (M 0 13) = g := by rw [hq, qG52 l2 c6, hgd]
      have k := B_X11_hall_12 (M := M) (by omega) (by omega) (by rw [gg]; exact qHl_ty hg)
      rw [gg, hn] at k
      rw [E_X11_hall, B_X11_hall_0, qif_t (by omega), k, s1, qbd_some]
      show qlim C_X11_hall (34, [some (qA 0), some (qA g), none], [qI v], qH0 M') = _
      rw [B_X11_hall_34 hg]
    have old : ∀ (V : qMem), (∀ a : Int, ¬ (53 + 3 * q ≤ a ∧ a ≤ 55 + 3 * q) → 53 ≤ a → a ≤ 70 → V a = M a) → (∀ k : Int, ¬ k = q → V 91 k = M 91 k) → (∀ k : Int, ¬ (10 * q ≤ k ∧ k < 10 * q + 10) → V 92 k = M 92 k ∧ V 93 k = M 93 k ∧ V 94 k = M 94 k ∧ V 95 k = M 95 k) → (∀ k : Int, k < 100 * q → V 96 k = M 96 k) → ∀ f : Int, 0 ≤ f → f < q → qHall V f := fun V a1 a2 a3 a4 f f0 f1 => by
      refine qHall_g (l5 f f0 f1) (fun a k z => ?_)
      unfold DH at z
      by_cases x1 : 53 ≤ a ∧ a ≤ 70
      · rw [a1 a (by omega) (by omega) (by omega)]
      · by_cases x2 : a = 91
        · subst x2
          exact a2 k (by omega)
        · by_cases x3 : a = 96
          · subst x3
            exact a4 k (by omega)
          · have b := a3 k (by omega)
            have e : a = 92 ∨ a = 93 ∨ a = 94 ∨ a = 95 := by omega
            rcases e with rfl | rfl | rfl | rfl
            · exact b.1
            · exact b.2.1
            · exact b.2.2.1
            · exact b.2.2.2
    have gi := qHk_g hki (by omega)
    have gin : ¬ M 30 13 = g ∧ ¬ M 30 13 = g + 1 ∧ ¬ M 30 13 = g + 2 := by
      unfold qHk at hki
      omega
    rcases s4 with ⟨z, sI, sR⟩ | ⟨z, sR⟩
    · -- a hall
      subst z
      have holds := sX8_holds (M := qup M' 0 11 0) (o := 12) (g := g) (Or.inl rfl) hg
      obtain ⟨Q, hQ⟩ : ∃ Q : qMem, Q = qup (qup (qup (qup M' 0 11 0) 12 13 g) 12 12 (qup M' 0 11 0 g 4)) 0 13 (q + 1) := ⟨_, rfl⟩
      have r4 : qup M' 0 11 0 g 4 = M' g 4 := qup_ne (by omega)
      rw [r4] at hQ
      have qr : ∀ a : Int, ¬ a = 0 → ¬ a = 12 → Q a = M' a := fun a a0 a1 => by rw [hQ, qup_row a0, qup_row a1, qup_row a1, qup_row a0]
      have qm : ∀ a : Int, ¬ a = 0 → ¬ a = 12 → ¬ a = g → ¬ a = g + 1 → ¬ a = g + 2 → Q a = M a := fun a a0 a1 a2 a3 a4 => (qr a a0 a1).trans (s2 a a2 a3 a4)
      have q12 : ∀ k : Int, ¬ k = 12 → ¬ k = 13 → Q 12 k = M 12 k := fun k k1 k2 => by rw [hQ, qup_ne (by omega), qup_ne (by omega), qup_ne (by omega), qup_ne (by omega), s2 12 (by omega) (by omega) (by omega)]
      have q0 : ∀ k : Int, ¬ k = 11 → ¬ k = 13 → Q 0 k = M 0 k := fun k k1 k2 => by rw [hQ, qup_ne (by omega), qup_ne (by omega), qup_ne (by omega), qup_ne (by omega), s2 0 (by omega) (by omega) (by omega)]
      have q1213 : Q 12 13 = g := by rw [hQ, qup_ne (by omega), qup_ne (by omega), qup_self]
      have q1212 : Q 12 12 = M' g 4 := by rw [hQ, qup_ne (by omega), qup_self]
      have q011 : Q 0 11 = 0 := by rw [hQ, qup_ne (by omega), qup_ne (by omega), qup_ne (by omega), qup_self]
      have q013 : Q 0 13 = q + 1 := by rw [hQ, qup_self]
      have st1 : S_X11_hall [qA 0] (qH0 M) = some (some (qI q), qH0 Q) := by
        have e13 : qup (qup (qup M' 0 11 0) 12 13 g) 12 12 (M' g 4) 0 13 = q := by rw [qup_ne (by omega), qup_ne (by omega), qup_ne (by omega), s2 0 (by omega) (by omega) (by omega)]; exact hq
        have e1 : kadd q 1 = q + 1 := kadd_eq (by omega) (by omega)
        have e2 : ksub (q + 1) 1 = q := by rw [ksub_eq (by omega) (by omega)]; omega
        rw [run1, qif_t (by omega), B_X11_hall_52 hg, holds, qbd_some, r4]
        show qlim C_X11_hall (60, [some (qA 0), some (qA g), some (qI 1)], [], qH0 (qup (qup (qup M' 0 11 0) 12 13 g) 12 12 (M' g 4))) = _
        rw [B_X11_hall_60 hg, e13, e1, qup_self, e2, hQ]
      obtain ⟨N, t1, t2, t3, t4⟩ := sR q Q ⟨l2, c6⟩ (by rw [qm 82 (by omega) (by omega) (by omega) (by omega) (by omega)]; exact T.1) (fun i a b => by rw [qm 90 (by omega) (by omega) (by omega) (by omega) (by omega)]; exact (T.2.2 i a b).1) (fun k hk => by rw [qm 98 (by omega) (by omega) (by omega) (by omega) (by omega)]; exact l6 k hk)
      obtain ⟨V, hV⟩ : ∃ V : qMem, V = qup (qup (qup N 82 12 0) 82 11 q) 82 10 (q + 1) := ⟨_, rfl⟩
      obtain ⟨f1, f2, f3, f4, f5⟩ := t2
      have n10 : N 82 10 = q := by rw [f4 10 (by omega) (by omega) (by omega) (by omega) (by omega), qm 82 (by omega) (by omega) (by omega) (by omega) (by omega)]; exact l1
      have st2 : S_X12_hall [qA 82] (qH0 Q) = some (some (qI q), qH0 V) := by
        have m10 : Q 82 10 = q := by rw [qm 82 (by omega) (by omega) (by omega) (by omega) (by omega)]; exact l1
        have n10' : qup N 82 12 0 82 10 = q := by rw [qup_ne (by omega)]; exact n10
        have n10'' : qup (qup N 82 12 0) 82 11 q 82 10 = q := by rw [qup_ne (by omega)]; exact n10'
        have e1 : kadd q 1 = q + 1 := kadd_eq (by omega) (by omega)
        rw [E_X12_hall, B_X12_hall_0, qif_t (by omega), B_X12_hall_12, m10, t1, qbd_some]
        show qlim C_X12_hall (20, [some (qA 82), none], [qI 1], qH0 N) = _
        rw [B_X12_hall_20, qif_t (by omega), B_X12_hall_38, n10', n10'', e1, qup_ne (by omega), qup_self, hV]
      have vr : ∀ a : Int, ¬ a = 82 → V a = N a := fun a a0 => by rw [hV, qup_row a0, qup_row a0, qup_row a0]
      have v10 : V 82 10 = q + 1 := by rw [hV, qup_self]
      have v11 : V 82 11 = q := by rw [hV, qup_ne (by omega), qup_self]
      have v12 : V 82 12 = 0 := by rw [hV, qup_ne (by omega), qup_ne (by omega), qup_self]
      have v82 : ∀ k : Int, ¬ (10 ≤ k ∧ k ≤ 14) → ¬ (23 ≤ k ∧ k ≤ 25) → V 82 k = M 82 k := fun k a b => by rw [hV, qup_ne (by omega), qup_ne (by omega), qup_ne (by omega), f4 k (by omega) (by omega) (by omega) (by omega) (by omega), qm 82 (by omega) (by omega) (by omega) (by omega) (by omega)]
      have vq : ∀ a : Int, ¬ a = 82 → ¬ (91 ≤ a ∧ a ≤ 97) → V a = Q a := fun a a0 a1 => by rw [vr a a0, f1 a a0 (by omega) (by omega) (by omega) (by omega) (by omega) (by omega) (by omega)]
      have u : qAg DV V M := fun a k z => by
        unfold DV at z
        by_cases x1 : a = 82
        · subst x1
          exact v82 k (by omega) (by omega)
        · rw [vq a x1 (by omega)]
          by_cases x2 : a = 0
          · subst x2
            exact q0 k (by omega) (by omega)
          · by_cases x3 : a = 12
            · subst x3
              exact q12 k (by omega) (by omega)
            · rw [qm a x2 x3 (by omega) (by omega) (by omega)]
      have gv : V g = M' g := by rw [vq g (by omega) (by omega), qr g (by omega) (by omega)]
      have gv2 : V (g + 2) = M' (g + 2) := by rw [vq (g + 2) (by omega) (by omega), qr (g + 2) (by omega) (by omega)]
      have v013 : V 0 13 = q + 1 := by rw [vq 0 (by omega) (by omega)]; exact q013
      have v1213 : V 12 13 = g := by rw [vq 12 (by omega) (by omega)]; exact q1213
      have v1212 : V 12 12 = M' g 4 := by rw [vq 12 (by omega) (by omega)]; exact q1212
      have hlsV : qHls V := by
        refine ⟨by omega, ?_, fun f f0 f1' => ?_, fun k hk => ?_⟩
        · rw [vq 9 (by omega) (by omega), qm 9 (by omega) (by omega) (by omega) (by omega) (by omega)]
          exact l4
        · by_cases cf : f = q
          · subst cf
            unfold qHall
            rw [hgd]
            refine ⟨qHI_c sI (by rw [gv]) (by rw [gv]) (by rw [gv]) gv2, qHR_2 t3 (vr 91 (by omega)) (vr 92 (by omega)) (vr 93 (by omega)) (vr 94 (by omega)) (vr 95 (by omega)) (vr 96 (by omega)) (by rw [gv]) (by rw [gv]) (by rw [gv]) gv2, ?_⟩
            unfold qHQ
            rw [vr 91 (by omega), vr 92 (by omega), vr 94 (by omega), vr 95 (by omega)]
            exact t4
          · refine old V (fun a a1 a2 a3 => by rw [vq a (by omega) (by omega), qm a (by omega) (by omega) (by omega) (by omega) (by omega)]) (fun k hk => ?_) (fun k hk => ?_) (fun k hk => ?_) f f0 (by omega)
            · rw [vr 91 (by omega), f2 k hk, qm 91 (by omega) (by omega) (by omega) (by omega) (by omega)]
            · have b := f3 k hk
              rw [vr 92 (by omega), vr 93 (by omega), vr 94 (by omega), vr 95 (by omega), b.1, b.2.1, b.2.2.1, b.2.2.2, qm 92 (by omega) (by omega) (by omega) (by omega) (by omega), qm 93 (by omega) (by omega) (by omega) (by omega) (by omega), qm 94 (by omega) (by omega) (by omega) (by omega) (by omega), qm 95 (by omega) (by omega) (by omega) (by omega) (by omega)]
              exact ⟨rfl, rfl, rfl, rfl⟩
            · rw [vr 96 (by omega), f5 k hk, qm 96 (by omega) (by omega) (by omega) (by omega) (by omega)]
        · rw [vq 98 (by omega) (by omega), qm 98 (by omega) (by omega) (by omega) (by omega) (by omega)]
          exact l6 k hk
      refine ⟨qI q, Q, V, st1, st2, qInv_hall h u hlsV ⟨by rw [v12, vq 0 (by omega) (by omega), q011], by rw [vq 0 (by omega) (by omega), q011]; omega, fun i a b => by rw [vq 0 (by omega) (by omega), q011] at b; omega⟩ (by rw [v013, v1213, v11]; exact Or.inr ⟨l2, by omega, hgd.symm⟩) (by omega) (by rw [v1212]; exact sI.2.2.1) (by rw [v1212, v1213, gv]) (by rw [vq (M 30 13) (by omega) (by omega), qm (M 30 13) (by omega) (by omega) (by omega) (by omega) (by omega)])⟩
    · -- no hall
      subst z
      obtain ⟨Q, hQ⟩ : ∃ Q : qMem, Q = qup M' 0 11 0 := ⟨_, rfl⟩
      have qm : ∀ a : Int, ¬ a = 0 → ¬ a = g → ¬ a = g + 1 → ¬ a = g + 2 → Q a = M a := fun a a0 a2 a3 a4 => by rw [hQ, qup_row a0]; exact s2 a a2 a3 a4
      have q0 : ∀ k : Int, ¬ k = 11 → Q 0 k = M 0 k := fun k k1 => by rw [hQ, qup_ne (by omega), s2 0 (by omega) (by omega) (by omega)]
      have q011 : Q 0 11 = 0 := by rw [hQ, qup_self]
      have q6 : Q g 6 = M' g 6 := by rw [hQ, qup_ne (by omega)]
      have st1 : S_X11_hall [qA 0] (qH0 M) = some (some (qI (ksub (-10) (M' g 6))), qH0 Q) := by
        rw [run1, qif_f (fun z => z rfl), B_X11_hall_44 hg, ← hQ, q6]
      obtain ⟨N, t1, t2, t3⟩ := sR q Q ⟨l2, c6⟩ (by rw [qm 82 (by omega) (by omega) (by omega) (by omega)]; exact T.1) (fun i a b => by rw [qm 90 (by omega) (by omega) (by omega) (by omega)]; exact (T.2.2 i a b).1) (fun k hk => by rw [qm 98 (by omega) (by omega) (by omega) (by omega)]; exact l6 k hk)
      obtain ⟨V, hV⟩ : ∃ V : qMem, V = qup N 82 12 0 := ⟨_, rfl⟩
      obtain ⟨f1, f2, f3, f4, f5⟩ := t2
      have st2 : S_X12_hall [qA 82] (qH0 Q) = some (some (qI (ksub (-10) (M' g 6))), qH0 V) := by
        have m10 : Q 82 10 = q := by rw [qm 82 (by omega) (by omega) (by omega) (by omega)]; exact l1
        have n13 : qup N 82 12 0 82 13 = M' g 6 := by rw [qup_ne (by omega)]; exact t3
        rw [E_X12_hall, B_X12_hall_0, qif_t (by omega), B_X12_hall_12, m10, t1, qbd_some]
        show qlim C_X12_hall (20, [some (qA 82), none], [qI 0], qH0 N) = _
        rw [B_X12_hall_20, qif_f (fun z => z rfl), B_X12_hall_30, n13, hV]
      have vr : ∀ a : Int, ¬ a = 82 → V a = N a := fun a a0 => by rw [hV, qup_row a0]
      have v12 : V 82 12 = 0 := by rw [hV, qup_self]
      have v82 : ∀ k : Int, ¬ (12 ≤ k ∧ k ≤ 14) → ¬ (23 ≤ k ∧ k ≤ 25) → V 82 k = M 82 k := fun k a b => by rw [hV, qup_ne (by omega), f4 k (by omega) (by omega) (by omega) (by omega) (by omega), qm 82 (by omega) (by omega) (by omega) (by omega)]
      have vq : ∀ a : Int, ¬ a = 82 → ¬ (91 ≤ a ∧ a ≤ 97) → V a = Q a := fun a a0 a1 => by rw [vr a a0, f1 a a0 (by omega) (by omega) (by omega) (by omega) (by omega) (by omega) (by omega)]
      have u : qAg DV V M := fun a k z => by
        unfold DV at z
        by_cases x1 : a = 82
        · subst x1
          exact v82 k (by omega) (by omega)
        · rw [vq a x1 (by omega)]
          by_cases x2 : a = 0
          · subst x2
            exact q0 k (by omega)
          · rw [qm a x2 (by omega) (by omega) (by omega)]
      have v013 : V 0 13 = q := by rw [vq 0 (by omega) (by omega), q0 13 (by omega)]; exact hq
      have v12r : V 12 = M 12 := by rw [vq 12 (by omega) (by omega), qm 12 (by omega) (by omega) (by omega) (by omega)]
      have v11 : V 82 11 = M 82 11 := v82 11 (by omega) (by omega)
      have gn := qHk_g hk (by omega)
      have gnn : ¬ M 12 13 = g ∧ ¬ M 12 13 = g + 1 ∧ ¬ M 12 13 = g + 2 := by
        unfold qHk at hk
        omega
      have hlsV : qHls V := by
        refine ⟨by rw [v82 10 (by omega) (by omega)]; omega, ?_, fun f f0 f1' => ?_, fun k hk => ?_⟩
        · rw [vq 9 (by omega) (by omega), qm 9 (by omega) (by omega) (by omega) (by omega)]
          exact l4
        · refine old V (fun a a1 a2 a3 => by rw [vq a (by omega) (by omega), qm a (by omega) (by omega) (by omega) (by omega)]) (fun k hk => ?_) (fun k hk => ?_) (fun k hk => ?_) f f0 (by omega)
          · rw [vr 91 (by omega), f2 k hk, qm 91 (by omega) (by omega) (by omega) (by omega)]
          · have b := f3 k hk
            rw [vr 92 (by omega), vr 93 (by omega), vr 94 (by omega), vr 95 (by omega), b.1, b.2.1, b.2.2.1, b.2.2.2, qm 92 (by omega) (by omega) (by omega) (by omega), qm 93 (by omega) (by omega) (by omega) (by omega), qm 94 (by omega) (by omega) (by omega) (by omega), qm 95 (by omega) (by omega) (by omega) (by omega)]
            exact ⟨rfl, rfl, rfl, rfl⟩
          · rw [vr 96 (by omega), f5 k hk, qm 96 (by omega) (by omega) (by omega) (by omega)]
        · rw [vq 98 (by omega) (by omega), qm 98 (by omega) (by omega) (by omega) (by omega)]
          exact l6 k hk
      have rm : M 12 12 = M (M 12 13) 4 := by
        have z := h.2.1.1.2.2.2.2.2.2
        rw [h.2.1.2.1, if_neg (by omega)] at z
        exact z
      refine ⟨qI (ksub (-10) (M' g 6)), Q, V, st1, st2, qInv_hall h u hlsV ⟨by rw [v12, vq 0 (by omega) (by omega), q011], by rw [vq 0 (by omega) (by omega), q011]; omega, fun i a b => by rw [vq 0 (by omega) (by omega), q011] at b; omega⟩ (by rw [v013, v12r, v11]; exact hk) (by omega) (by rw [v12r]; exact h.1.1.2.2.1) (by rw [v12r, vq (M 12 13) (by omega) (by omega), qm (M 12 13) (by omega) (by omega) (by omega) (by omega)]; exact rm) (by rw [vq (M 30 13) (by omega) (by omega), qm (M 30 13) (by omega) (by omega) (by omega) (by omega)])⟩
  · have e6 : M 82 10 = 6 := by omega
    refine qStep_r (v := qI (-4)) h ?_ ?_
    · rw [E_X11_hall, B_X11_hall_0, qif_f c6, B_X11_hall_9]
    · rw [E_X12_hall, B_X12_hall_0, qif_f (fun z => z e6), B_X12_hall_9]
