/-! THE START: what holds before the first call -/
theorem m0_0 (k : Int) : M0 0 k = 0 := qwlk_no (by decide +kernel)
theorem m0_13 (k : Int) : M0 13 k = 0 := qwlk_no (by decide +kernel)
theorem m0_14 (k : Int) : M0 14 k = 0 := qwlk_no (by decide +kernel)
theorem m0_15 (k : Int) : M0 15 k = 0 := qwlk_no (by decide +kernel)
theorem m0_16 (k : Int) : M0 16 k = 0 := qwlk_no (by decide +kernel)
theorem m0_17 (k : Int) : M0 17 k = 0 := qwlk_no (by decide +kernel)
theorem m0_18 (k : Int) : M0 18 k = 0 := qwlk_no (by decide +kernel)
theorem m0_19 (k : Int) : M0 19 k = 0 := qwlk_no (by decide +kernel)
theorem m0_20 (k : Int) : M0 20 k = 0 := qwlk_no (by decide +kernel)
theorem m0_22 (k : Int) : M0 22 k = 0 := qwlk_no (by decide +kernel)
theorem m0_23 (k : Int) : M0 23 k = 0 := qwlk_no (by decide +kernel)
theorem m0_24 (k : Int) : M0 24 k = 0 := qwlk_no (by decide +kernel)
theorem m0_25 (k : Int) : M0 25 k = 0 := qwlk_no (by decide +kernel)
theorem m0_26 (k : Int) : M0 26 k = 0 := qwlk_no (by decide +kernel)
theorem m0_27 (k : Int) : M0 27 k = 0 := qwlk_no (by decide +kernel)
theorem m0_28 (k : Int) : M0 28 k = 0 := qwlk_no (by decide +kernel)
theorem m0_29 (k : Int) : M0 29 k = 0 := qwlk_no (by decide +kernel)
theorem m0_31 (k : Int) : M0 31 k = 0 := qwlk_no (by decide +kernel)
theorem m0_32 (k : Int) : M0 32 k = 0 := qwlk_no (by decide +kernel)
theorem m0_33 (k : Int) : M0 33 k = 0 := qwlk_no (by decide +kernel)
theorem m0_34 (k : Int) : M0 34 k = 0 := qwlk_no (by decide +kernel)
theorem m0_35 (k : Int) : M0 35 k = 0 := qwlk_no (by decide +kernel)
theorem m0_36 (k : Int) : M0 36 k = 0 := qwlk_no (by decide +kernel)
theorem m0_37 (k : Int) : M0 37 k = 0 := qwlk_no (by decide +kernel)
theorem m0_38 (k : Int) : M0 38 k = 0 := qwlk_no (by decide +kernel)
theorem m0_40 (k : Int) : M0 40 k = 0 := qwlk_no (by decide +kernel)
theorem m0_42 (k : Int) : M0 42 k = 0 := qwlk_no (by decide +kernel)
theorem m0_44 (k : Int) : M0 44 k = 0 := qwlk_no (by decide +kernel)
theorem m0_46 (k : Int) : M0 46 k = 0 := qwlk_no (by decide +kernel)
theorem m0_48 (k : Int) : M0 48 k = 0 := qwlk_no (by decide +kernel)
theorem m0_50 (k : Int) : M0 50 k = 0 := qwlk_no (by decide +kernel)
theorem m0_51 (k : Int) : M0 51 k = 0 := qwlk_no (by decide +kernel)
theorem m0_71 (k : Int) : M0 71 k = 0 := qwlk_no (by decide +kernel)
theorem m0_72 (k : Int) : M0 72 k = 0 := qwlk_no (by decide +kernel)
theorem m0_74 (k : Int) : M0 74 k = 0 := qwlk_no (by decide +kernel)
theorem m0_76 (k : Int) : M0 76 k = 0 := qwlk_no (by decide +kernel)
theorem m0_77 (k : Int) : M0 77 k = 0 := qwlk_no (by decide +kernel)
theorem m0_78 (k : Int) : M0 78 k = 0 := qwlk_no (by decide +kernel)
theorem m0_79 (k : Int) : M0 79 k = 0 := qwlk_no (by decide +kernel)
theorem m0_80 (k : Int) : M0 80 k = 0 := qwlk_no (by decide +kernel)
theorem m0_81 (k : Int) : M0 81 k = 0 := qwlk_no (by decide +kernel)
theorem m0_83 (k : Int) : M0 83 k = 0 := qwlk_no (by decide +kernel)
theorem m0_84 (k : Int) : M0 84 k = 0 := qwlk_no (by decide +kernel)
theorem m0_85 (k : Int) : M0 85 k = 0 := qwlk_no (by decide +kernel)
theorem m0_86 (k : Int) : M0 86 k = 0 := qwlk_no (by decide +kernel)
theorem m0_87 (k : Int) : M0 87 k = 0 := qwlk_no (by decide +kernel)
theorem m0_88 (k : Int) : M0 88 k = 0 := qwlk_no (by decide +kernel)
theorem m0_89 (k : Int) : M0 89 k = 0 := qwlk_no (by decide +kernel)
theorem m0_90 (k : Int) : M0 90 k = 0 := qwlk_no (by decide +kernel)
theorem m0_91 (k : Int) : M0 91 k = 0 := qwlk_no (by decide +kernel)
theorem m0_92 (k : Int) : M0 92 k = 0 := qwlk_no (by decide +kernel)
theorem m0_93 (k : Int) : M0 93 k = 0 := qwlk_no (by decide +kernel)
theorem m0_94 (k : Int) : M0 94 k = 0 := qwlk_no (by decide +kernel)
theorem m0_95 (k : Int) : M0 95 k = 0 := qwlk_no (by decide +kernel)
theorem m0_96 (k : Int) : M0 96 k = 0 := qwlk_no (by decide +kernel)
theorem m0_97 (k : Int) : M0 97 k = 0 := qwlk_no (by decide +kernel)
theorem m0_99 (k : Int) : M0 99 k = 0 := qwlk_no (by decide +kernel)
theorem m0_100 (k : Int) : M0 100 k = 0 := qwlk_no (by decide +kernel)
theorem m0_101 (k : Int) : M0 101 k = 0 := qwlk_no (by decide +kernel)
theorem m0_102 (k : Int) : M0 102 k = 0 := qwlk_no (by decide +kernel)
theorem m0_103 (k : Int) : M0 103 k = 0 := qwlk_no (by decide +kernel)
theorem m0_104 (k : Int) : M0 104 k = 0 := qwlk_no (by decide +kernel)
theorem m0_105 (k : Int) : M0 105 k = 0 := qwlk_no (by decide +kernel)
theorem m0_106 (k : Int) : M0 106 k = 0 := qwlk_no (by decide +kernel)
theorem m0_107 (k : Int) : M0 107 k = 0 := qwlk_no (by decide +kernel)
theorem m0_108 (k : Int) : M0 108 k = 0 := qwlk_no (by decide +kernel)
theorem m0_109 (k : Int) : M0 109 k = 0 := qwlk_no (by decide +kernel)
theorem m0_110 (k : Int) : M0 110 k = 0 := qwlk_no (by decide +kernel)
theorem m0_111 (k : Int) : M0 111 k = 0 := qwlk_no (by decide +kernel)
theorem m0_112 (k : Int) : M0 112 k = 0 := qwlk_no (by decide +kernel)
theorem m0_113 (k : Int) : M0 113 k = 0 := qwlk_no (by decide +kernel)
theorem m0_114 (k : Int) : M0 114 k = 0 := qwlk_no (by decide +kernel)
theorem m0_115 (k : Int) : M0 115 k = 0 := qwlk_no (by decide +kernel)
theorem m0_116 (k : Int) : M0 116 k = 0 := qwlk_no (by decide +kernel)
theorem m0_117 (k : Int) : M0 117 k = 0 := qwlk_no (by decide +kernel)
theorem m0_118 (k : Int) : M0 118 k = 0 := qwlk_no (by decide +kernel)
theorem m0_119 (k : Int) : M0 119 k = 0 := qwlk_no (by decide +kernel)
theorem m0_120 (k : Int) : M0 120 k = 0 := qwlk_no (by decide +kernel)
theorem m0_121 (k : Int) : M0 121 k = 0 := qwlk_no (by decide +kernel)
theorem m0_122 (k : Int) : M0 122 k = 0 := qwlk_no (by decide +kernel)
theorem m0_123 (k : Int) : M0 123 k = 0 := qwlk_no (by decide +kernel)
theorem m0_124 (k : Int) : M0 124 k = 0 := qwlk_no (by decide +kernel)
theorem m0_125 (k : Int) : M0 125 k = 0 := qwlk_no (by decide +kernel)
theorem m0_127 (k : Int) : M0 127 k = 0 := qwlk_no (by decide +kernel)
theorem m0_128 (k : Int) : M0 128 k = 0 := qwlk_no (by decide +kernel)
theorem m0_129 (k : Int) : M0 129 k = 0 := qwlk_no (by decide +kernel)
theorem n0_12_1 : M0 12 1 = 99999 := by decide +kernel
theorem n0_12_10 : M0 12 10 = 0 := by decide +kernel
theorem n0_12_11 : M0 12 11 = 0 := by decide +kernel
theorem n0_12_12 : M0 12 12 = 50 := by decide +kernel
theorem n0_12_13 : M0 12 13 = 9 := by decide +kernel
theorem n0_30_1 : M0 30 1 = 99999 := by decide +kernel
theorem n0_30_10 : M0 30 10 = 0 := by decide +kernel
theorem n0_30_11 : M0 30 11 = 0 := by decide +kernel
theorem n0_30_12 : M0 30 12 = 50 := by decide +kernel
theorem n0_30_13 : M0 30 13 = 9 := by decide +kernel
theorem n0_21_1 : M0 21 1 = 2147483647 := by decide +kernel
theorem n0_21_10 : M0 21 10 = 0 := by decide +kernel
theorem n0_21_11 : M0 21 11 = 0 := by decide +kernel
theorem n0_9_3 : M0 9 3 = 0 := by decide +kernel
theorem n0_9_4 : M0 9 4 = 50 := by decide +kernel
theorem n0_9_5 : M0 9 5 = 0 := by decide +kernel
theorem n0_82_0 : M0 82 0 = 0 := by decide +kernel
theorem n0_82_1 : M0 82 1 = 0 := by decide +kernel
theorem n0_82_2 : M0 82 2 = 0 := by decide +kernel
theorem n0_82_10 : M0 82 10 = 0 := by decide +kernel
theorem n0_82_11 : M0 82 11 = (-1) := by decide +kernel
theorem n0_82_12 : M0 82 12 = 0 := by decide +kernel
theorem n0_82_27 : M0 82 27 = (-1) := by decide +kernel
theorem n0_82_29 : M0 82 29 = 99999 := by decide +kernel
theorem n0_82_30 : M0 82 30 = 9999 := by decide +kernel
theorem n0_82_37 : M0 82 37 = 0 := by decide +kernel
theorem n0_82_41 : M0 82 41 = 0 := by decide +kernel
theorem n0_82_42 : M0 82 42 = 0 := by decide +kernel
theorem n0_82_47 : M0 82 47 = 0 := by decide +kernel
theorem n0_82_48 : M0 82 48 = (-1) := by decide +kernel
theorem n0_82_49 : M0 82 49 = 0 := by decide +kernel
theorem n0_82_50 : M0 82 50 = 0 := by decide +kernel
theorem n0_82_51 : M0 82 51 = 0 := by decide +kernel
theorem n0_82_52 : M0 82 52 = 0 := by decide +kernel
theorem n0_82_53 : M0 82 53 = 0 := by decide +kernel
theorem n0_82_54 : M0 82 54 = 0 := by decide +kernel
theorem n0_82_69 : M0 82 69 = 0 := by decide +kernel
theorem n0_39_0 : M0 39 0 = 5 := by decide +kernel
theorem n0_39_1 : M0 39 1 = 3 := by decide +kernel
theorem n0_39_3 : M0 39 3 = 0 := by decide +kernel
theorem n0_41_0 : M0 41 0 = 10 := by decide +kernel
theorem n0_41_1 : M0 41 1 = 2 := by decide +kernel
theorem n0_41_3 : M0 41 3 = 0 := by decide +kernel
theorem n0_43_0 : M0 43 0 = 8 := by decide +kernel
theorem n0_43_1 : M0 43 1 = 2 := by decide +kernel
theorem n0_43_3 : M0 43 3 = 0 := by decide +kernel
theorem n0_45_0 : M0 45 0 = 5 := by decide +kernel
theorem n0_45_1 : M0 45 1 = 3 := by decide +kernel
theorem n0_45_3 : M0 45 3 = 0 := by decide +kernel
theorem n0_47_0 : M0 47 0 = 10 := by decide +kernel
theorem n0_47_1 : M0 47 1 = 2 := by decide +kernel
theorem n0_47_3 : M0 47 3 = 0 := by decide +kernel
theorem n0_49_0 : M0 49 0 = 8 := by decide +kernel
theorem n0_49_1 : M0 49 1 = 2 := by decide +kernel
theorem n0_49_3 : M0 49 3 = 0 := by decide +kernel
theorem m0_73 : ∀ k : Nat, k < 6 → M0 73 (k : Int) = -1 := by decide +kernel
theorem m0_126 : ∀ k : Nat, k < 6 → M0 126 (k : Int) = -1 := by decide +kernel
theorem m0_98 : ∀ k : Nat, k < 18 → M0 98 (k : Int) = fLe.getD k 0 := by decide +kernel
theorem qBit_0 (p : Int) (h0 : 0 ≤ p) (h1 : p < 6) : qBit 0 p = 0 := by
  have : p = 0 ∨ p = 1 ∨ p = 2 ∨ p = 3 ∨ p = 4 ∨ p = 5 := by omega
  rcases this with rfl | rfl | rfl | rfl | rfl | rfl <;> decide
theorem qHI_0 : qHI M0 9 := by
  refine ⟨Or.inl rfl, ?_, ?_, ?_, fun k k0 k1 => ?_, ?_⟩
  · rw [n0_9_3]; omega
  · rw [n0_9_4]; omega
  · rw [n0_9_5]; omega
  · rw [n0_9_3] at k1; omega
  · rw [n0_9_3]
    show fTc M0 9 0 ≤ 60
    unfold fTc
    omega
theorem qSV_0_12 : qSV M0 12 0 := by
  refine ⟨?_, fun k k0 k1 => ?_, fun p p0 p1 => ?_⟩
  · rw [n0_12_11]; omega
  · rw [show (12 : Int) + 1 = 13 from rfl, m0_13]; omega
  · rw [show (12 : Int) + 5 = 17 from rfl, show (12 : Int) + 6 = 18 from rfl, m0_17, m0_18, n0_12_11, n0_12_1, if_neg (by omega)]
    omega
theorem qSV_0_30 : qSV M0 30 0 := by
  refine ⟨?_, fun k k0 k1 => ?_, fun p p0 p1 => ?_⟩
  · rw [n0_30_11]; omega
  · rw [show (30 : Int) + 1 = 31 from rfl, m0_31]; omega
  · rw [show (30 : Int) + 5 = 35 from rfl, show (30 : Int) + 6 = 36 from rfl, m0_35, m0_36, n0_30_11, n0_30_1, if_neg (by omega)]
    omega
theorem qSF_0 : qSF M0 12 := by
  refine ⟨Or.inl rfl, ?_, ?_, ?_, fun p p0 p1 => ?_, fun k k0 k1 => ?_, ?_⟩
  · rw [n0_12_10]; omega
  · rw [n0_12_12]; omega
  · rw [n0_12_1]; omega
  · rw [show (12 : Int) + 2 = 14 from rfl, show (12 : Int) + 3 = 15 from rfl, show (12 : Int) + 4 = 16 from rfl, show (12 : Int) + 8 = 20 from rfl, m0_14, m0_15, m0_16, m0_20]
    omega
  · rw [show (12 : Int) + 7 = 19 from rfl, m0_19]; omega
  · rw [n0_12_13]; exact qHI_0
theorem qNow_0 : qNow M0 := ⟨qSF_0, qSV_0_12, n0_12_1, by rw [n0_12_11]; omega, n0_21_1⟩
theorem qHS_0 : qHS M0 M0 9 := Or.inl ⟨n0_82_11, rfl, n0_9_3, n0_9_4, n0_9_5⟩
theorem qMN_0 : qMN M0 M0 := by
  refine ⟨⟨⟨by rw [n0_82_0, n0_12_10], by rw [n0_82_1, n0_12_11]⟩, by rw [n0_82_2]; omega, fun k k0 k1 => ?_, fun p p0 p1 => ⟨?_, ?_, ?_, ?_, ?_, ?_⟩, fun k k0 k1 => ?_, ?_, ?_⟩, n0_82_27, n0_82_29, n0_82_30⟩
  · rw [show (12 : Int) + 1 = 13 from rfl, m0_83, m0_13]
  · rw [show (12 : Int) + 2 = 14 from rfl, m0_84, m0_14]
  · rw [show (12 : Int) + 3 = 15 from rfl, m0_85, m0_15]
  · rw [show (12 : Int) + 4 = 16 from rfl, m0_86, m0_16]
  · rw [show (12 : Int) + 5 = 17 from rfl, m0_87, m0_17]
  · rw [show (12 : Int) + 6 = 18 from rfl, m0_88, m0_18]
  · rw [show (12 : Int) + 8 = 20 from rfl, n0_82_2, m0_20, qBit_0 p p0 p1]
  · rw [show (12 : Int) + 7 = 19 from rfl, m0_89, m0_19]
  · rw [n0_12_13]; exact qHS_0
  · rw [n0_82_27, if_neg (by omega), n0_12_13, n0_12_12, n0_9_4]
theorem qSeen_0 : qSeen M0 39 37 104 105 106 ∧ qSeen M0 45 52 118 119 120 := by
  refine ⟨⟨⟨n0_39_0, n0_39_1⟩, by rw [n0_39_3]; omega, by rw [n0_82_37, n0_39_3], fun i i0 i1 => ?_⟩, ⟨⟨n0_45_0, n0_45_1⟩, by rw [n0_45_3]; omega, by rw [n0_82_52, n0_45_3], fun i i0 i1 => ?_⟩⟩
  · rw [n0_39_3] at i1; omega
  · rw [n0_45_3] at i1; omega
theorem qEvn_0 : qEvn M0 41 41 107 108 (M0 12 10) ∧ qEvn M0 47 53 121 122 (M0 30 10) := by
  refine ⟨⟨⟨n0_41_0, n0_41_1⟩, by rw [n0_41_3]; omega, by rw [n0_82_41, n0_41_3], fun i i0 i1 => ?_⟩, ⟨⟨n0_47_0, n0_47_1⟩, by rw [n0_47_3]; omega, by rw [n0_82_53, n0_47_3], fun i i0 i1 => ?_⟩⟩
  · rw [n0_41_3] at i1; omega
  · rw [n0_47_3] at i1; omega
theorem qBok_0 : qBok M0 43 42 109 110 ∧ qBok M0 49 54 123 124 := by
  refine ⟨⟨⟨n0_43_0, n0_43_1⟩, by rw [n0_43_3]; omega, by rw [n0_82_42, n0_43_3], fun i i0 i1 => ?_⟩, ⟨⟨n0_49_0, n0_49_1⟩, by rw [n0_49_3]; omega, by rw [n0_82_54, n0_49_3], fun i i0 i1 => ?_⟩⟩
  · rw [n0_43_3] at i1; omega
  · rw [n0_49_3] at i1; omega
theorem qImg_0 : qImg M0 := by
  refine ⟨⟨by rw [n0_30_10]; omega, by rw [n0_30_12]; omega, n0_30_1, by rw [n0_30_11]; omega⟩, qSV_0_30, ⟨by rw [n0_82_49, n0_30_10], by rw [n0_82_50, n0_30_11], by rw [n0_82_51]; omega⟩, fun k k0 k1 => by rw [m0_111, m0_31], fun p p0 p1 => ?_, fun k k0 k1 => ?_⟩
  · rw [m0_32, m0_33, m0_34, m0_35, m0_36, m0_38, m0_112, m0_113, m0_114, m0_115, m0_116, n0_82_51, qBit_0 p p0 p1]
    omega
  · rw [m0_37, m0_117]; omega
theorem qZ_0 : qZ M0 12 ∧ qZ M0 30 := by
  refine ⟨fun p p0 p1 => ⟨m0_17 p, m0_18 p, m0_20 p, fun i _ _ => m0_19 _⟩, fun p p0 p1 => ⟨m0_35 p, m0_36 p, m0_38 p, fun i _ _ => m0_37 _⟩⟩
theorem qHls_0 : qHls M0 := by
  refine ⟨⟨by rw [n0_82_10, m0_0], by rw [m0_0]; omega⟩, ⟨n0_9_3, n0_9_4, n0_9_5⟩, fun f f0 f1 => ?_, fun k hk => m0_98 k hk⟩
  rw [m0_0] at f1
  omega
theorem qTps_0 : qTps M0 := by
  intro x x0 x1
  obtain ⟨n, rfl⟩ := Int.eq_ofNat_of_zero_le x0
  have e1 := m0_73 n (by omega)
  have e2 := m0_126 n (by omega)
  rw [e1, e2]
  refine ⟨rfl, by omega, fun q => ?_⟩
  omega
theorem qAct_0 : qAct M0 := by
  refine ⟨by rw [n0_82_69, m0_71], by rw [m0_71]; omega, fun i i0 i1 => ?_⟩
  rw [m0_71] at i1
  omega
theorem qTxt_0 : qTxt M0 := by
  refine ⟨by rw [n0_82_12, m0_0], by rw [m0_0]; omega, fun i i0 i1 => ?_⟩
  rw [m0_0] at i1
  omega
theorem qInv_0 : qInv M0 := by
  refine ⟨qNow_0, qMN_0, qSeen_0.1, qEvn_0.1, qBok_0.1, qImg_0, ⟨qSeen_0.2, qEvn_0.2, qBok_0.2⟩, qZ_0, ⟨qHls_0, Or.inl ⟨n0_82_11, n0_12_13⟩, Or.inl ⟨n0_82_48, n0_30_13⟩, ?_⟩, qTps_0, qAct_0, qTxt_0, ?_, ?_⟩
  · rw [n0_30_12, n0_30_13, n0_9_4]
  · rw [n0_82_47, m0_0]
  · rw [m0_0]; exact Or.inl rfl
