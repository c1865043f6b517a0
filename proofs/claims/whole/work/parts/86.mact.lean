/-! acts: the reference; the step -/
def qDm (f : qSem) (i k v : Int) (R : Int → Int × List Int) (n : Nat) : Prop := ∀ (x : Int) (N : qMem), N 84 i = k → N 85 i = v → 0 ≤ N 82 69 → N 82 69 + n ≤ 20 → f [qA 82, qI i, qI x] (qH0 N) = some (some (qI (R x).1), qH0 (fLg 125 82 69 N (R x).2))
theorem qDm_1 {N : qMem} {b i k v : Int} (h1 : N 84 i = k) (h2 : N 85 i = v) (h3 : 0 ≤ N 82 69) (h4 : N 82 69 + 1 ≤ 20) : S_X12_body [qA 82, qI b] (qH0 N) = some (none, qH0 (fLg 125 82 69 N [b])) ∧ fLg 125 82 69 N [b] 84 i = k ∧ fLg 125 82 69 N [b] 85 i = v ∧ fLg 125 82 69 N [b] 82 69 = N 82 69 + 1 := by
  refine ⟨?_, by rw [fLg_o (by omega) (by omega)]; exact h1, by rw [fLg_o (by omega) (by omega)]; exact h2, by rw [fLg_n (by omega)]; rfl⟩
  have e : kadd (N 82 69) 1 = N 82 69 + 1 := kadd_eq (by omega) (by omega)
  have e2 : qup N 125 (N 82 69) b 82 69 = N 82 69 := qup_ne (by omega)
  rw [E_X12_body, B_X12_body_0, qif_f (by omega), B_X12_body_9 h3 (by omega), B_X12_body_19, e2, e]
  rfl
section MACT
variable {i k v : Int}
theorem mF0 : qDm S_X12_personFolds i k v (fun x => (kadd x i, [10])) 1 := by
  intro x N h1 h2 h3 h4
  obtain ⟨b1, b2, b3, b4⟩ := qDm_1 (b := 10) h1 h2 h3 (by omega)
  rw [E_X12_personFolds, B_X12_personFolds_0, b1, qbd_some]
  exact B_X12_personFolds_6
theorem mF (i0 : 0 ≤ i) (i6 : i < 6) (hk : 0 ≤ k ∧ k ≤ 6) : qDm S_X12_foldsAct i k v (aF k i v) 2 := by
  intro x N h1 h2 h3 h4
  have st : S_X12_foldsAct [qA 82, qI i, qI x] (qH0 N) = qlim C_X12_foldsAct (qtk [40, 89, 55, 40, 69] 89 2 k, [some (qA 82), some (qI i), some (qI x)], [], qH0 N) := by
    rw [E_X12_foldsAct, B_X12_foldsAct_0 i0 i6, h1]
  have w : qlim C_X12_foldsAct (89, [some (qA 82), some (qI i), some (qI x)], [], qH0 N) = some (some (qI (kadd x i)), qH0 (fLg 125 82 69 N [10])) := by
    rw [B_X12_foldsAct_89, mF0 x N h1 h2 h3 (by omega), qbd_some]
    exact B_X12_foldsAct_95
  have d : qlim C_X12_foldsAct (40, [some (qA 82), some (qI i), some (qI x)], [], qH0 N) = some (some (qI (kadd (kmul x 3) i)), qH0 (fLg 125 82 69 N [30, 10])) := by
    obtain ⟨b1, b2, b3, b4⟩ := qDm_1 (b := 30) h1 h2 h3 (by omega)
    rw [B_X12_foldsAct_40, b1, qbd_some]
    show qlim C_X12_foldsAct (46, [some (qA 82), some (qI i), some (qI x)], [], qH0 (fLg 125 82 69 N [30])) = _
    rw [B_X12_foldsAct_46, mF0 (kmul x 3) _ b2 b3 (by omega) (by omega), qbd_some]
    exact B_X12_foldsAct_54
  rw [st]
  have e : k = 0 ∨ k = 1 ∨ k = 2 ∨ k = 3 ∨ k = 4 ∨ k = 5 ∨ k = 6 := by omega
  rcases e with rfl | rfl | rfl | rfl | rfl | rfl | rfl
  · exact w
  · exact w
  · exact d
  · exact w
  · obtain ⟨b1, b2, b3, b4⟩ := qDm_1 (b := 50) h1 h2 h3 (by omega)
    refine B_X12_foldsAct_55.trans ?_
    rw [b1, qbd_some]
    show qlim C_X12_foldsAct (61, [some (qA 82), some (qI i), some (qI x)], [], qH0 (fLg 125 82 69 N [50])) = _
    rw [B_X12_foldsAct_61, mF0 x _ b2 b3 (by omega) (by omega), qbd_some]
    exact B_X12_foldsAct_67
  · exact d
  · obtain ⟨b1, b2, b3, b4⟩ := qDm_1 (b := 71) h1 h2 h3 (by omega)
    refine B_X12_foldsAct_69.trans ?_
    rw [b1, qbd_some]
    show qlim C_X12_foldsAct (75, [some (qA 82), some (qI i), some (qI x)], [], qH0 (fLg 125 82 69 N [71])) = _
    rw [B_X12_foldsAct_75, mF0 x _ b2 b3 (by omega) (by omega), qbd_some]
    show qlim C_X12_foldsAct (81, [some (qA 82), some (qI i), some (qI x)], [qI (kadd x i)], qH0 (fLg 125 82 69 (fLg 125 82 69 N [71]) [10])) = _
    rw [B_X12_foldsAct_81 i0 i6, fLg_o (by omega) (by omega), b3]
    rfl
theorem mP (i0 : 0 ≤ i) (i6 : i < 6) (hk : 0 ≤ k ∧ k ≤ 6) : qDm S_X12_personLicks i k v (aP k i v) 3 := by
  intro x N h1 h2 h3 h4
  obtain ⟨b1, b2, b3, b4⟩ := qDm_1 (b := 11) h1 h2 h3 (by omega)
  rw [E_X12_personLicks, B_X12_personLicks_0, b1, qbd_some]
  show qlim C_X12_personLicks (6, [some (qA 82), some (qI i), some (qI x)], [], qH0 (fLg 125 82 69 N [11])) = _
  rw [B_X12_personLicks_6, mF i0 i6 hk x _ b2 b3 (by omega) (by omega), qbd_some]
  show qlim C_X12_personLicks (12, [some (qA 82), some (qI i), some (qI x)], [qI (aF k i v x).1], qH0 (fLg 125 82 69 (fLg 125 82 69 N [11]) (aF k i v x).2)) = _
  rw [B_X12_personLicks_12 i0 i6, fLg_o (by omega) (by omega), b3]
  rfl
theorem mQ (i0 : 0 ≤ i) (i6 : i < 6) (hk : 0 ≤ k ∧ k ≤ 6) : qDm S_X12_quickLicks i k v (aQ k i v) 4 := by
  intro x N h1 h2 h3 h4
  obtain ⟨b1, b2, b3, b4⟩ := qDm_1 (b := 20) h1 h2 h3 (by omega)
  rw [E_X12_quickLicks, B_X12_quickLicks_0, b1, qbd_some]
  show qlim C_X12_quickLicks (6, [some (qA 82), some (qI i), some (qI x)], [], qH0 (fLg 125 82 69 N [20])) = _
  rw [B_X12_quickLicks_6, mP i0 i6 hk x _ b2 b3 (by omega) (by omega), qbd_some]
  exact B_X12_quickLicks_12
theorem mL (i0 : 0 ≤ i) (i6 : i < 6) (hk : 0 ≤ k ∧ k ≤ 6) : qDm S_X12_licksAct i k v (aL k i v) 5 := by
  intro x N h1 h2 h3 h4
  have st : S_X12_licksAct [qA 82, qI i, qI x] (qH0 N) = qlim C_X12_licksAct (qlk [(1, 40), (4, 47), (6, 62)] 84 k, [some (qA 82), some (qI i), some (qI x), none], [], qH0 N) := by
    rw [E_X12_licksAct, B_X12_licksAct_0 i0 i6, h1]
  have w : qlim C_X12_licksAct (84, [some (qA 82), some (qI i), some (qI x), none], [], qH0 N) = some (some (qI (aP k i v x).1), qH0 (fLg 125 82 69 N (aP k i v x).2)) := by
    rw [B_X12_licksAct_84, mP i0 i6 hk x N h1 h2 h3 (by omega), qbd_some]
    exact B_X12_licksAct_90
  rw [st]
  have e : k = 0 ∨ k = 1 ∨ k = 2 ∨ k = 3 ∨ k = 4 ∨ k = 5 ∨ k = 6 := by omega
  rcases e with rfl | rfl | rfl | rfl | rfl | rfl | rfl
  · exact w
  · refine B_X12_licksAct_40.trans ?_
    rw [mQ i0 i6 hk x N h1 h2 h3 (by omega), qbd_some]
    exact B_X12_licksAct_46
  · exact w
  · exact w
  · obtain ⟨b1, b2, b3, b4⟩ := qDm_1 (b := 51) h1 h2 h3 (by omega)
    refine B_X12_licksAct_47.trans ?_
    rw [b1, qbd_some]
    show qlim C_X12_licksAct (53, [some (qA 82), some (qI i), some (qI x), none], [], qH0 (fLg 125 82 69 N [51])) = _
    rw [B_X12_licksAct_53, mQ i0 i6 hk (kadd x 1) _ b2 b3 (by omega) (by omega), qbd_some]
    exact B_X12_licksAct_61
  · exact w
  · obtain ⟨b1, b2, b3, b4⟩ := qDm_1 (b := 70) h1 h2 h3 (by omega)
    have l := aP_len 6 i v x
    refine B_X12_licksAct_62.trans ?_
    rw [b1, qbd_some]
    show qlim C_X12_licksAct (68, [some (qA 82), some (qI i), some (qI x), none], [], qH0 (fLg 125 82 69 N [70])) = _
    rw [B_X12_licksAct_68, mP i0 i6 hk x _ b2 b3 (by omega) (by omega), qbd_some]
    show qlim C_X12_licksAct (74, [some (qA 82), some (qI i), some (qI x), none], [qI (aP 6 i v x).1], qH0 (fLg 125 82 69 (fLg 125 82 69 N [70]) (aP 6 i v x).2)) = _
    rw [B_X12_licksAct_74, mF0 (k := 6) (v := v) 2 _ (by rw [fLg_o (by omega) (by omega)]; exact b2) (by rw [fLg_o (by omega) (by omega)]; exact b3) (by rw [fLg_n (by omega)]; omega) (by rw [fLg_n (by omega)]; omega), qbd_some]
    show qlim C_X12_licksAct (82, [some (qA 82), some (qI i), some (qI x), some (qI (aP 6 i v x).1)], [qI (kadd 2 i), qI (aP 6 i v x).1], qH0 (fLg 125 82 69 (fLg 125 82 69 (fLg 125 82 69 N [70]) (aP 6 i v x).2) [10])) = _
    rw [B_X12_licksAct_82, ← fLg_app]
    rfl
theorem mT (i0 : 0 ≤ i) (i6 : i < 6) (hk : 0 ≤ k ∧ k ≤ 6) : qDm S_X12_personTells i k v (aT k i v) 6 := by
  intro x N h1 h2 h3 h4
  obtain ⟨b1, b2, b3, b4⟩ := qDm_1 (b := 12) h1 h2 h3 (by omega)
  rw [E_X12_personTells, B_X12_personTells_0, b1, qbd_some]
  show qlim C_X12_personTells (6, [some (qA 82), some (qI i), some (qI x)], [], qH0 (fLg 125 82 69 N [12])) = _
  rw [B_X12_personTells_6, mL i0 i6 hk x _ b2 b3 (by omega) (by omega), qbd_some]
  exact B_X12_personTells_12
theorem mU (i0 : 0 ≤ i) (i6 : i < 6) (hk : 0 ≤ k ∧ k ≤ 6) : qDm S_X12_tellsAct i k v (aU k i v) 12 := by
  intro x N h1 h2 h3 h4
  have st : S_X12_tellsAct [qA 82, qI i, qI x] (qH0 N) = qlim C_X12_tellsAct (qtk [36, 73, 58, 36] 73 3 k, [some (qA 82), some (qI i), some (qI x), none], [], qH0 N) := by
    rw [E_X12_tellsAct, B_X12_tellsAct_0 i0 i6, h1]
  have w : qlim C_X12_tellsAct (73, [some (qA 82), some (qI i), some (qI x), none], [], qH0 N) = some (some (qI (aT k i v x).1), qH0 (fLg 125 82 69 N (aT k i v x).2)) := by
    rw [B_X12_tellsAct_73, mT i0 i6 hk x N h1 h2 h3 (by omega), qbd_some]
    exact B_X12_tellsAct_79
  have d : qlim C_X12_tellsAct (36, [some (qA 82), some (qI i), some (qI x), none], [], qH0 N) = some (some (qI (kadd (aT k i v x).1 (aL k i v 1).1)), qH0 (fLg 125 82 69 N (40 :: ((aT k i v x).2 ++ (aL k i v 1).2)))) := by
    obtain ⟨b1, b2, b3, b4⟩ := qDm_1 (b := 40) h1 h2 h3 (by omega)
    have l := aT_len k i v x
    rw [B_X12_tellsAct_36, b1, qbd_some]
    show qlim C_X12_tellsAct (42, [some (qA 82), some (qI i), some (qI x), none], [], qH0 (fLg 125 82 69 N [40])) = _
    rw [B_X12_tellsAct_42, mT i0 i6 hk x _ b2 b3 (by omega) (by omega), qbd_some]
    show qlim C_X12_tellsAct (48, [some (qA 82), some (qI i), some (qI x), none], [qI (aT k i v x).1], qH0 (fLg 125 82 69 (fLg 125 82 69 N [40]) (aT k i v x).2)) = _
    rw [B_X12_tellsAct_48, mL (k := k) (v := v) i0 i6 hk 1 _ (by rw [fLg_o (by omega) (by omega)]; exact b2) (by rw [fLg_o (by omega) (by omega)]; exact b3) (by rw [fLg_n (by omega)]; omega) (by rw [fLg_n (by omega)]; omega), qbd_some]
    show qlim C_X12_tellsAct (56, [some (qA 82), some (qI i), some (qI x), some (qI (aT k i v x).1)], [qI (aL k i v 1).1, qI (aT k i v x).1], qH0 (fLg 125 82 69 (fLg 125 82 69 (fLg 125 82 69 N [40]) (aT k i v x).2) (aL k i v 1).2)) = _
    rw [B_X12_tellsAct_56, ← fLg_app]
    rfl
  rw [st]
  have e : k = 0 ∨ k = 1 ∨ k = 2 ∨ k = 3 ∨ k = 4 ∨ k = 5 ∨ k = 6 := by omega
  rcases e with rfl | rfl | rfl | rfl | rfl | rfl | rfl
  · exact w
  · exact w
  · exact w
  · exact d
  · exact w
  · obtain ⟨b1, b2, b3, b4⟩ := qDm_1 (b := 60) h1 h2 h3 (by omega)
    refine B_X12_tellsAct_58.trans ?_
    rw [b1, qbd_some]
    show qlim C_X12_tellsAct (64, [some (qA 82), some (qI i), some (qI x), none], [], qH0 (fLg 125 82 69 N [60])) = _
    rw [B_X12_tellsAct_64, mT i0 i6 hk (ksub x i) _ b2 b3 (by omega) (by omega), qbd_some]
    exact B_X12_tellsAct_72
  · exact d
end MACT
theorem qG1 {k : Int} (hk : 0 ≤ k ∧ k ≤ 6) : qG0 1 k = k + 2 := by
  have e : k = 0 ∨ k = 1 ∨ k = 2 ∨ k = 3 ∨ k = 4 ∨ k = 5 ∨ k = 6 := by omega
  rcases e with rfl | rfl | rfl | rfl | rfl | rfl | rfl <;> rfl
/-- bodies run behind each other in both logs -/
theorem qAct_log {M : qMem} {bs : List Int} (h71 : M 71 3 = 0) (hl : bs.length ≤ 20) : qAct (fLg 125 82 69 (qup (fLg 72 71 3 M bs) 82 69 0) bs) := by
  have e1 : fLg 125 82 69 (qup (fLg 72 71 3 M bs) 82 69 0) bs 82 69 = bs.length := by rw [fLg_n (by omega), qup_self]; omega
  have e2 : fLg 125 82 69 (qup (fLg 72 71 3 M bs) 82 69 0) bs 71 3 = bs.length := by rw [fLg_o (by omega) (by omega), qup_ne (by omega), fLg_n (by omega), h71]; omega
  refine ⟨by omega, by omega, fun i a b => ?_⟩
  rw [e2] at b
  obtain ⟨n, rfl⟩ := Int.eq_ofNat_of_zero_le a
  have i1 := fLg_in (r := 125) (a := 82) (k := 69) (by omega) bs (qup (fLg 72 71 3 M bs) 82 69 0) n (by omega)
  have i2 := fLg_in (r := 72) (a := 71) (k := 3) (by omega) bs M n (by omega)
  rw [qup_self] at i1
  rw [h71] at i2
  have e3 : (0 : Int) + ((n : Nat) : Int) = n := by omega
  rw [e3] at i1 i2
  rw [i1, fLg_o (by omega) (by omega), qup_ne (by omega), i2]
theorem step_act {M : qMem} {p a x : Int} (h : qInv M) : qStep S_X11_act S_X12_act [qI p, qI a, qI x] M := by
  have h6 := h.1.1.2.1
  have n0 : M 82 0 = M 12 10 := h.2.1.1.1.1
  have zero : ∀ Q : qMem, (∀ a k : Int, ¬ (a = 71) → Q a k = M a k) → Q 71 3 = 0 → qInv (qup Q 82 69 0) := fun Q hq h0 => by
    refine qInv_act h (qAg_up (fun a k q => hq a k (by unfold Eac at q; omega)) (by unfold Eac; omega)) ⟨by rw [qup_self, qup_ne (by omega), h0], by rw [qup_ne (by omega), h0]; omega, fun i i0 i1 => ?_⟩
    rw [qup_ne (by omega), h0] at i1
    omega
  by_cases c : 0 ≤ p ∧ p < M 12 10
  · have p0 := c.1
    have p6 : p < 6 := by omega
    have hk := (h.1.1.2.2.2.2.1 p c.1 p6).1
    have hk' : 0 ≤ M 14 p ∧ M 14 p ≤ 6 := hk
    have R := h.2.1.1.2.2.2.1 p c.1 p6
    have r84 : M 84 p = M 14 p := R.1
    have r85 : M 85 p = M 15 p := R.2.1
    have P1 : S_X11_isPerson [qA 0, qI p] (qH0 (qup M 71 3 0)) = some (some (qI 1), qH0 (qup M 71 3 0)) := sX11_isPerson_y (by rw [qup_ne (by omega)]; exact c)
    obtain ⟨Q, hQ⟩ : ∃ Q : qMem, Q = qup (qup (qup M 71 3 0) 71 1 p) 71 2 (M 15 p) := ⟨_, rfl⟩
    have q1 : Q 71 1 = p := by rw [hQ, qup_ne (by omega), qup_self]
    have q2 : Q 71 2 = M 15 p := by rw [hQ, qup_self]
    have q3 : Q 71 3 = 0 := by rw [hQ, qup_ne (by omega), qup_ne (by omega), qup_self]
    have qo : ∀ a k : Int, ¬ (a = 71) → Q a k = M a k := fun a k ha => by rw [hQ, qup_ne (by omega), qup_ne (by omega), qup_ne (by omega)]
    have s1 : S_X11_act [qA 0, qI p, qI a, qI x] (qH0 M) = qlim C_X11_act (qtk [88, 99, 110] 121 0 a, [some (qA 0), some (qI p), some (qI a), some (qI x), some (qA (M 14 p + 2))], [], qH0 Q) := by
      have t15 : qup (qup M 71 3 0) 71 1 p 15 p = M 15 p := by rw [qup_ne (by omega), qup_ne (by omega)]
      have t14 : qup (qup (qup M 71 3 0) 71 1 p) 71 2 (M 15 p) 14 p = M 14 p := by rw [qup_ne (by omega), qup_ne (by omega), qup_ne (by omega)]
      rw [E_X11_act, B_X11_act_0, P1, qbd_some]
      show qlim C_X11_act (13, [some (qA 0), some (qI p), some (qI a), some (qI x), none], [qI 1], qH0 (qup M 71 3 0)) = _
      rw [B_X11_act_13, qif_t (by omega), B_X11_act_18 p0 p6 (by rw [t15, t14]; omega) (by rw [t15, t14]; omega), t15, t14, qG1 hk', hQ]
    -- the reference behind a class's log
    have s2 : ∀ bs : List Int, (0 ≤ a ∧ a ≤ 2) → S_X12_act [qA 82, qI p, qI a, qI x] (qH0 (fLg 72 71 3 Q bs)) = qlim C_X12_act (25, [some (qA 82), some (qI p), some (qI a), some (qI x)], [], qH0 (qup (fLg 72 71 3 Q bs) 82 69 0)) := fun bs ha => by
      have z0 : qup (fLg 72 71 3 Q bs) 82 69 0 82 0 = M 12 10 := by rw [qup_ne (by omega), fLg_o (by omega) (by omega), qo _ _ (by omega)]; exact n0
      have P2 := sX12_isPerson_y (M := qup (fLg 72 71 3 Q bs) 82 69 0) (a := p) (by omega) (by omega) (by omega)
      have a2 := sX12_in_y (M := qup (fLg 72 71 3 Q bs) 82 69 0) ha
      rw [E_X12_act]
      simp (disch := first | assumption | omega) only [B_X12_act_0, B_X12_act_10, B_X12_act_13, B_X12_act_20, not_true_eq_false, not_false_eq_true, if_true, if_false, qlk, qtk, qif_t, qif_f, qbd_some, Option.toList_some, Option.toList_none, List.cons_append, List.nil_append, List.append_nil, P2, a2]
    have r1 : ∀ bs : List Int, qup (fLg 72 71 3 Q bs) 82 69 0 84 p = M 14 p := fun bs => by rw [qup_ne (by omega), fLg_o (by omega) (by omega), qo _ _ (by omega), r84]
    have r2 : ∀ bs : List Int, qup (fLg 72 71 3 Q bs) 82 69 0 85 p = M 15 p := fun bs => by rw [qup_ne (by omega), fLg_o (by omega) (by omega), qo _ _ (by omega), r85]
    have r3 : ∀ bs : List Int, qup (fLg 72 71 3 Q bs) 82 69 0 82 69 = 0 := fun bs => qup_self
    have fin : ∀ (bs : List Int), bs.length ≤ 20 → qInv (fLg 125 82 69 (qup (fLg 72 71 3 Q bs) 82 69 0) bs) := fun bs hl => by
      refine qInv_act h (fun a k q => ?_) (qAct_log q3 hl)
      unfold Eac at q
      rw [fLg_o (by omega) (by omega), qup_ne (by omega), fLg_o (by omega) (by omega), qo _ _ (by omega)]
    by_cases ca : 0 ≤ a ∧ a ≤ 2
    · have e : a = 0 ∨ a = 1 ∨ a = 2 := by omega
      rcases e with rfl | rfl | rfl
      · obtain ⟨f, g1, g2⟩ := cF (M := Q) (k := M 14 p) (i := p) (v := M 15 p) hk'
        have l := aF_len (M 14 p) p (M 15 p) x
        have m := mF (i := p) (k := M 14 p) (v := M 15 p) p0 p6 hk' x _ (r1 (aF (M 14 p) p (M 15 p) x).2) (r2 _) (by rw [r3]; omega) (by rw [r3]; omega)
        refine ⟨qI (aF (M 14 p) p (M 15 p) x).1, fLg 72 71 3 Q (aF (M 14 p) p (M 15 p) x).2, _, ?_, ?_, fin (aF (M 14 p) p (M 15 p) x).2 (by omega)⟩
        · rw [s1]
          refine (B_X11_act_88 g1).trans ?_
          rw [g2 x Q q1 q2 (by omega) (by omega), qbd_some]
          exact B_X11_act_98
        · rw [s2 _ ca, B_X12_act_25, qif_f (by omega), B_X12_act_29, m, qbd_some]
          refine B_X12_act_35.trans B_X12_act_58
      · obtain ⟨f, g1, g2⟩ := cL (M := Q) (k := M 14 p) (i := p) (v := M 15 p) hk'
        have l := aL_len (M 14 p) p (M 15 p) x
        have m := mL (i := p) (k := M 14 p) (v := M 15 p) p0 p6 hk' x _ (r1 (aL (M 14 p) p (M 15 p) x).2) (r2 _) (by rw [r3]; omega) (by rw [r3]; omega)
        refine ⟨qI (aL (M 14 p) p (M 15 p) x).1, fLg 72 71 3 Q (aL (M 14 p) p (M 15 p) x).2, _, ?_, ?_, fin (aL (M 14 p) p (M 15 p) x).2 (by omega)⟩
        · rw [s1]
          refine (B_X11_act_99 g1).trans ?_
          rw [g2 x Q q1 q2 (by omega) (by omega), qbd_some]
          exact B_X11_act_109
        · rw [s2 _ ca, B_X12_act_25, qif_t (by omega), B_X12_act_38, qif_f (by omega), B_X12_act_43, m, qbd_some]
          refine B_X12_act_49.trans B_X12_act_58
      · obtain ⟨f, g1, g2⟩ := cU (M := Q) (k := M 14 p) (i := p) (v := M 15 p) hk'
        have l := aU_len (M 14 p) p (M 15 p) x
        have m := mU (i := p) (k := M 14 p) (v := M 15 p) p0 p6 hk' x _ (r1 (aU (M 14 p) p (M 15 p) x).2) (r2 _) (by rw [r3]; omega) (by rw [r3]; omega)
        refine ⟨qI (aU (M 14 p) p (M 15 p) x).1, fLg 72 71 3 Q (aU (M 14 p) p (M 15 p) x).2, _, ?_, ?_, fin (aU (M 14 p) p (M 15 p) x).2 (by omega)⟩
        · rw [s1]
          refine (B_X11_act_110 g1).trans ?_
          rw [g2 x Q q1 q2 (by omega) (by omega), qbd_some]
          exact B_X11_act_120
        · rw [s2 _ ca, B_X12_act_25, qif_t (by omega), B_X12_act_38, qif_t (by omega), B_X12_act_52, m, qbd_some]
          exact B_X12_act_58
    · have d' : a < 0 ∨ 0 + ((3 : Nat) : Int) ≤ a := by omega
      refine ⟨qI 0, Q, qup Q 82 69 0, ?_, ?_, zero Q qo q3⟩
      · rw [s1, qtk_out _ _ _ d', B_X11_act_121]
      · have z0 : qup Q 82 69 0 82 0 = M 12 10 := by rw [qup_ne (by omega), qo _ _ (by omega)]; exact n0
        have P2 := sX12_isPerson_y (M := qup Q 82 69 0) (a := p) (by omega) (by omega) (by omega)
        have a2 := sX12_in_n (M := qup Q 82 69 0) ca
        rw [E_X12_act]
        simp (disch := first | assumption | omega) only [B_X12_act_0, B_X12_act_10, B_X12_act_13, B_X12_act_20, B_X12_act_23, not_true_eq_false, not_false_eq_true, if_true, if_false, qlk, qtk, qif_t, qif_f, qbd_some, Option.toList_some, Option.toList_none, List.cons_append, List.nil_append, List.append_nil, P2, a2]
  · have P1 : S_X11_isPerson [qA 0, qI p] (qH0 (qup M 71 3 0)) = some (some (qI 0), qH0 (qup M 71 3 0)) := sX11_isPerson_n (by rw [qup_ne (by omega)]; exact c)
    have z0 : qup (qup M 71 3 0) 82 69 0 82 0 = M 12 10 := by rw [qup_ne (by omega), qup_ne (by omega)]; exact n0
    have P2 := sX12_isPerson_n (M := qup (qup M 71 3 0) 82 69 0) (a := p) (by omega) (by omega) (by omega)
    refine ⟨qI 0, qup M 71 3 0, qup (qup M 71 3 0) 82 69 0, ?_, ?_, zero _ (fun a k ha => qup_ne (by omega)) qup_self⟩
    · rw [E_X11_act]
      simp (disch := first | assumption | omega) only [B_X11_act_0, B_X11_act_13, B_X11_act_16, not_true_eq_false, not_false_eq_true, if_true, if_false, qlk, qtk, qif_t, qif_f, qbd_some, Option.toList_some, Option.toList_none, List.cons_append, List.nil_append, List.append_nil, P1]
    · rw [E_X12_act]
      simp (disch := first | assumption | omega) only [B_X12_act_0, B_X12_act_10, B_X12_act_23, not_true_eq_false, not_false_eq_true, if_true, if_false, qlk, qtk, qif_t, qif_f, qbd_some, Option.toList_some, Option.toList_none, List.cons_append, List.nil_append, List.append_nil, P2]
