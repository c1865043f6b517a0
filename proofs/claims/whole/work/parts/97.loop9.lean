set_option maxRecDepth 20000 in
theorem ql_turn {L : Nat} {xs : Nat → Int32} {i t : Nat} {M : qMem} (hL : L ≤ 3072) (hi : i + 6 ≤ L) (h : qInv M) (ht : t = 1322 ∨ t ∈ qTg) : ∃ M2 : qMem, qInv M2 ∧ qlim (C_law L xs) (t, qLl i, [], qH0 M) = qlim (C_law L xs) (18, qLl (i + 6), [], qH0 M2) := by
  rcases ht with rfl | ht
  · exact ⟨M, h, ql_end hi hL⟩
  · unfold qTg at ht
    simp only [List.mem_cons, List.not_mem_nil, or_false] at ht
    rcases ht with rfl | rfl | rfl | rfl | rfl | rfl | rfl | rfl | rfl | rfl | rfl | rfl | rfl | rfl | rfl | rfl | rfl | rfl | rfl | rfl | rfl | rfl | rfl | rfl | rfl | rfl | rfl | rfl | rfl | rfl | rfl | rfl | rfl | rfl | rfl
    · exact lw_c0 hL hi h
    · exact lw_c1 hL hi h
    · exact lw_c2 hL hi h
    · exact lw_c3 hL hi h
    · exact lw_c4 hL hi h
    · exact lw_c5 hL hi h
    · exact lw_c6 hL hi h
    · exact lw_c7 hL hi h
    · exact lw_c8 hL hi h
    · exact lw_c9 hL hi h
    · exact lw_c10 hL hi h
    · exact lw_c11 hL hi h
    · exact lw_c12 hL hi h
    · exact lw_c13 hL hi h
    · exact lw_c14 hL hi h
    · exact lw_c15 hL hi h
    · exact lw_c16 hL hi h
    · exact lw_c17 hL hi h
    · exact lw_c18 hL hi h
    · exact lw_c19 hL hi h
    · exact lw_c20 hL hi h
    · exact lw_c21 hL hi h
    · exact lw_c22 hL hi h
    · exact lw_c23 hL hi h
    · exact lw_c24 hL hi h
    · exact lw_c25 hL hi h
    · exact lw_c26 hL hi h
    · exact lw_c27 hL hi h
    · exact lw_c28 hL hi h
    · exact lw_c29 hL hi h
    · exact lw_c30 hL hi h
    · exact lw_c31 hL hi h
    · exact lw_c32 hL hi h
    · exact lw_c33 hL hi h
    · exact lw_c34 hL hi h
theorem ql_run {L : Nat} {xs : Nat → Int32} (hL : L ≤ 3072) : ∀ (n i : Nat) (M : qMem), qInv M → i ≤ L → L < i + n → ∃ M2 : qMem, qlim (C_law L xs) (18, qLl i, [], qH0 M) = some (some (qI 1), qH0 M2)
  | 0, i, M, h, h1, h2 => by omega
  | n + 1, i, M, h, h1, h2 => by
    rw [ql_head hL h1]
    by_cases c : (L : Int) - 6 < i
    · rw [if_pos c]
      exact ⟨M, ql_done⟩
    · rw [if_neg c]
      obtain ⟨t, ht, e1⟩ := ql_sel (xs := xs) (h := qH0 M) hL (i := i) (by omega)
      obtain ⟨M2, hI, e2⟩ := ql_turn (xs := xs) hL (i := i) (by omega) h ht
      obtain ⟨M3, e3⟩ := ql_run hL n (i + 6) M2 hI (by omega) (by omega)
      exact ⟨M3, e1.trans (e2.trans e3)⟩
theorem ql_law {L : Nat} {xs : Nat → Int32} (hL : L ≤ 3072) : ∃ M2 : qMem, qlim (C_law L xs) (0, [some (qA (-10)), none, none, none], [], hk_0) = some (some (qI 1), qH0 M2) := by
  obtain ⟨M2, e⟩ := ql_run (xs := xs) hL (L + 1) 0 M0 qInv_0 (by omega) (by omega)
  exact ⟨M2, lw_start.trans e⟩
