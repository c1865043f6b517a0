/-! the image (reference): copies to and fro -/
theorem limage_0 {M : qMem} : ∀ (d k : Nat) (N : qMem), k + d = 5 → (∀ j : Int, 0 ≤ j → j < k → N 111 j = M 83 j ∧ N 118 j = M 104 j ∧ N 119 j = M 105 j ∧ N 120 j = M 106 j) → (∀ a : Int, ¬ a = 111 → ¬ a = 118 → ¬ a = 119 → ¬ a = 120 → N a = M a) →
    ∃ N', qlim C_X12_image (63, [some (qA 82), some (qI k)], [], qH0 N) = qlim C_X12_image (124, [some (qA 82), some (qI 0)], [], qH0 N') ∧ (∀ j : Int, 0 ≤ j → j < 5 → N' 111 j = M 83 j ∧ N' 118 j = M 104 j ∧ N' 119 j = M 105 j ∧ N' 120 j = M 106 j) ∧ (∀ a : Int, ¬ a = 111 → ¬ a = 118 → ¬ a = 119 → ¬ a = 120 → N' a = M a)
  | 0, k, N, hk, h1, h2 => ⟨N, by simp (disch := first | assumption | omega) only [B_X12_image_63, B_X12_image_122, not_true_eq_false, not_false_eq_true, if_true, if_false, qlk, qtk, qif_t, qif_f, qbd_some, Option.toList_some, Option.toList_none, List.cons_append, List.nil_append, List.append_nil], fun j a b => h1 j a (by omega), h2⟩
  | d + 1, k, N, hk, h1, h2 => by
    have e1 : kadd (k : Int) 1 = ((k + 1 : Nat) : Int) := by rw [kadd_eq (by omega) (by omega)]; omega
    have f1 : N 83 = M 83 := h2 83 (by omega) (by omega) (by omega) (by omega)
    have f2 : N 104 = M 104 := h2 104 (by omega) (by omega) (by omega) (by omega)
    have f3 : N 105 = M 105 := h2 105 (by omega) (by omega) (by omega) (by omega)
    have f4 : N 106 = M 106 := h2 106 (by omega) (by omega) (by omega) (by omega)
    obtain ⟨N', q1, q2⟩ := limage_0 d (k + 1) (qup (qup (qup (qup N 111 k (M 83 k)) 118 k (M 104 k)) 119 k (M 105 k)) 120 k (M 106 k)) (by omega) (fun j a b => by
      by_cases c : j = k
      · subst c
        refine ⟨?_, ?_, ?_, ?_⟩
        · rw [qup_ne (by omega), qup_ne (by omega), qup_ne (by omega), qup_self]
        · rw [qup_ne (by omega), qup_ne (by omega), qup_self]
        · rw [qup_ne (by omega), qup_self]
        · rw [qup_self]
      · have h := h1 j a (by omega)
        refine ⟨?_, ?_, ?_, ?_⟩
        · rw [qup_ne (by omega), qup_ne (by omega), qup_ne (by omega), qup_ne (by omega)]
          exact h.1
        · rw [qup_ne (by omega), qup_ne (by omega), qup_ne (by omega), qup_ne (by omega)]
          exact h.2.1
        · rw [qup_ne (by omega), qup_ne (by omega), qup_ne (by omega), qup_ne (by omega)]
          exact h.2.2.1
        · rw [qup_ne (by omega), qup_ne (by omega), qup_ne (by omega), qup_ne (by omega)]
          exact h.2.2.2) (fun a a1 a2 a3 a4 => by rw [qup_row a4, qup_row a3, qup_row a2, qup_row a1]; exact h2 a a1 a2 a3 a4)
    refine ⟨N', ?_, q2⟩
    rw [← q1]
    simp (disch := first | assumption | omega) only [B_X12_image_63, B_X12_image_68, qup_self, qup_ne, not_true_eq_false, not_false_eq_true, if_true, if_false, qlk, qtk, qif_t, qif_f, qbd_some, Option.toList_some, Option.toList_none, List.cons_append, List.nil_append, List.append_nil, e1, f1, f2, f3, f4]
theorem limage_1 {M : qMem} : ∀ (d k : Nat) (N : qMem), k + d = 6 → (∀ j : Int, 0 ≤ j → j < k → N 112 j = M 84 j ∧ N 113 j = M 85 j ∧ N 114 j = M 86 j ∧ N 115 j = M 87 j ∧ N 116 j = M 88 j) → (∀ a : Int, ¬ a = 112 → ¬ a = 113 → ¬ a = 114 → ¬ a = 115 → ¬ a = 116 → N a = M a) →
    ∃ N', qlim C_X12_image (124, [some (qA 82), some (qI k)], [], qH0 N) = qlim C_X12_image (198, [some (qA 82), some (qI 0)], [], qH0 N') ∧ (∀ j : Int, 0 ≤ j → j < 6 → N' 112 j = M 84 j ∧ N' 113 j = M 85 j ∧ N' 114 j = M 86 j ∧ N' 115 j = M 87 j ∧ N' 116 j = M 88 j) ∧ (∀ a : Int, ¬ a = 112 → ¬ a = 113 → ¬ a = 114 → ¬ a = 115 → ¬ a = 116 → N' a = M a)
  | 0, k, N, hk, h1, h2 => ⟨N, by simp (disch := first | assumption | omega) only [B_X12_image_124, B_X12_image_196, not_true_eq_false, not_false_eq_true, if_true, if_false, qlk, qtk, qif_t, qif_f, qbd_some, Option.toList_some, Option.toList_none, List.cons_append, List.nil_append, List.append_nil], fun j a b => h1 j a (by omega), h2⟩
  | d + 1, k, N, hk, h1, h2 => by
    have e1 : kadd (k : Int) 1 = ((k + 1 : Nat) : Int) := by rw [kadd_eq (by omega) (by omega)]; omega
    have f1 : N 84 = M 84 := h2 84 (by omega) (by omega) (by omega) (by omega) (by omega)
    have f2 : N 85 = M 85 := h2 85 (by omega) (by omega) (by omega) (by omega) (by omega)
    have f3 : N 86 = M 86 := h2 86 (by omega) (by omega) (by omega) (by omega) (by omega)
    have f4 : N 87 = M 87 := h2 87 (by omega) (by omega) (by omega) (by omega) (by omega)
    have f5 : N 88 = M 88 := h2 88 (by omega) (by omega) (by omega) (by omega) (by omega)
    obtain ⟨N', q1, q2⟩ := limage_1 d (k + 1) (qup (qup (qup (qup (qup N 112 k (M 84 k)) 113 k (M 85 k)) 114 k (M 86 k)) 115 k (M 87 k)) 116 k (M 88 k)) (by omega) (fun j a b => by
      by_cases c : j = k
      · subst c
        refine ⟨?_, ?_, ?_, ?_, ?_⟩
        · rw [qup_ne (by omega), qup_ne (by omega), qup_ne (by omega), qup_ne (by omega), qup_self]
        · rw [qup_ne (by omega), qup_ne (by omega), qup_ne (by omega), qup_self]
        · rw [qup_ne (by omega), qup_ne (by omega), qup_self]
        · rw [qup_ne (by omega), qup_self]
        · rw [qup_self]
      · have h := h1 j a (by omega)
        refine ⟨?_, ?_, ?_, ?_, ?_⟩
        · rw [qup_ne (by omega), qup_ne (by omega), qup_ne (by omega), qup_ne (by omega), qup_ne (by omega)]
          exact h.1
        · rw [qup_ne (by omega), qup_ne (by omega), qup_ne (by omega), qup_ne (by omega), qup_ne (by omega)]
          exact h.2.1
        · rw [qup_ne (by omega), qup_ne (by omega), qup_ne (by omega), qup_ne (by omega), qup_ne (by omega)]
          exact h.2.2.1
        · rw [qup_ne (by omega), qup_ne (by omega), qup_ne (by omega), qup_ne (by omega), qup_ne (by omega)]
          exact h.2.2.2.1
        · rw [qup_ne (by omega), qup_ne (by omega), qup_ne (by omega), qup_ne (by omega), qup_ne (by omega)]
          exact h.2.2.2.2) (fun a a1 a2 a3 a4 a5 => by rw [qup_row a5, qup_row a4, qup_row a3, qup_row a2, qup_row a1]; exact h2 a a1 a2 a3 a4 a5)
    refine ⟨N', ?_, q2⟩
    rw [← q1]
    simp (disch := first | assumption | omega) only [B_X12_image_124, B_X12_image_130, qup_self, qup_ne, not_true_eq_false, not_false_eq_true, if_true, if_false, qlk, qtk, qif_t, qif_f, qbd_some, Option.toList_some, Option.toList_none, List.cons_append, List.nil_append, List.append_nil, e1, f1, f2, f3, f4, f5]
theorem limage_2 {M : qMem} : ∀ (d k : Nat) (N : qMem), k + d = 24 → (∀ j : Int, 0 ≤ j → j < k → N 117 j = M 89 j) → (∀ a : Int, ¬ a = 117 → N a = M a) →
    ∃ N', qlim C_X12_image (198, [some (qA 82), some (qI k)], [], qH0 N) = qlim C_X12_image (224, [some (qA 82), some (qI 0)], [], qH0 N') ∧ (∀ j : Int, 0 ≤ j → j < 24 → N' 117 j = M 89 j) ∧ (∀ a : Int, ¬ a = 117 → N' a = M a)
  | 0, k, N, hk, h1, h2 => ⟨N, by simp (disch := first | assumption | omega) only [B_X12_image_198, B_X12_image_222, not_true_eq_false, not_false_eq_true, if_true, if_false, qlk, qtk, qif_t, qif_f, qbd_some, Option.toList_some, Option.toList_none, List.cons_append, List.nil_append, List.append_nil], fun j a b => h1 j a (by omega), h2⟩
  | d + 1, k, N, hk, h1, h2 => by
    have e1 : kadd (k : Int) 1 = ((k + 1 : Nat) : Int) := by rw [kadd_eq (by omega) (by omega)]; omega
    have f1 : N 89 = M 89 := h2 89 (by omega)
    obtain ⟨N', q1, q2⟩ := limage_2 d (k + 1) (qup N 117 k (M 89 k)) (by omega) (fun j a b => by
      by_cases c : j = k
      · subst c
        rw [qup_self]
      · have h := h1 j a (by omega)
        rw [qup_ne (by omega)]
        exact h) (fun a a1 => by rw [qup_row a1]; exact h2 a a1)
    refine ⟨N', ?_, q2⟩
    rw [← q1]
    simp (disch := first | assumption | omega) only [B_X12_image_198, B_X12_image_204, qup_self, qup_ne, not_true_eq_false, not_false_eq_true, if_true, if_false, qlk, qtk, qif_t, qif_f, qbd_some, Option.toList_some, Option.toList_none, List.cons_append, List.nil_append, List.append_nil, e1, f1]
theorem limage_3 {M : qMem} : ∀ (d k : Nat) (N : qMem), k + d = 10 → (∀ j : Int, 0 ≤ j → j < k → N 121 j = M 107 j ∧ N 122 j = M 108 j) → (∀ a : Int, ¬ a = 121 → ¬ a = 122 → N a = M a) →
    ∃ N', qlim C_X12_image (224, [some (qA 82), some (qI k)], [], qH0 N) = qlim C_X12_image (262, [some (qA 82), some (qI 0)], [], qH0 N') ∧ (∀ j : Int, 0 ≤ j → j < 10 → N' 121 j = M 107 j ∧ N' 122 j = M 108 j) ∧ (∀ a : Int, ¬ a = 121 → ¬ a = 122 → N' a = M a)
  | 0, k, N, hk, h1, h2 => ⟨N, by simp (disch := first | assumption | omega) only [B_X12_image_224, B_X12_image_260, not_true_eq_false, not_false_eq_true, if_true, if_false, qlk, qtk, qif_t, qif_f, qbd_some, Option.toList_some, Option.toList_none, List.cons_append, List.nil_append, List.append_nil], fun j a b => h1 j a (by omega), h2⟩
  | d + 1, k, N, hk, h1, h2 => by
    have e1 : kadd (k : Int) 1 = ((k + 1 : Nat) : Int) := by rw [kadd_eq (by omega) (by omega)]; omega
    have f1 : N 107 = M 107 := h2 107 (by omega) (by omega)
    have f2 : N 108 = M 108 := h2 108 (by omega) (by omega)
    obtain ⟨N', q1, q2⟩ := limage_3 d (k + 1) (qup (qup N 121 k (M 107 k)) 122 k (M 108 k)) (by omega) (fun j a b => by
      by_cases c : j = k
      · subst c
        refine ⟨?_, ?_⟩
        · rw [qup_ne (by omega), qup_self]
        · rw [qup_self]
      · have h := h1 j a (by omega)
        refine ⟨?_, ?_⟩
        · rw [qup_ne (by omega), qup_ne (by omega)]
          exact h.1
        · rw [qup_ne (by omega), qup_ne (by omega)]
          exact h.2) (fun a a1 a2 => by rw [qup_row a2, qup_row a1]; exact h2 a a1 a2)
    refine ⟨N', ?_, q2⟩
    rw [← q1]
    simp (disch := first | assumption | omega) only [B_X12_image_224, B_X12_image_230, qup_self, qup_ne, not_true_eq_false, not_false_eq_true, if_true, if_false, qlk, qtk, qif_t, qif_f, qbd_some, Option.toList_some, Option.toList_none, List.cons_append, List.nil_append, List.append_nil, e1, f1, f2]
theorem limage_4 {M : qMem} : ∀ (d k : Nat) (N : qMem), k + d = 8 → (∀ j : Int, 0 ≤ j → j < k → N 123 j = M 109 j ∧ N 124 j = M 110 j) → (∀ a : Int, ¬ a = 123 → ¬ a = 124 → N a = M a) →
    ∃ N', qlim C_X12_image (262, [some (qA 82), some (qI k)], [], qH0 N) = some (some (qI (N' 82 0)), qH0 N') ∧ (∀ j : Int, 0 ≤ j → j < 8 → N' 123 j = M 109 j ∧ N' 124 j = M 110 j) ∧ (∀ a : Int, ¬ a = 123 → ¬ a = 124 → N' a = M a)
  | 0, k, N, hk, h1, h2 => ⟨N, by simp (disch := first | assumption | omega) only [B_X12_image_262, B_X12_image_298, not_true_eq_false, not_false_eq_true, if_true, if_false, qlk, qtk, qif_t, qif_f, qbd_some, Option.toList_some, Option.toList_none, List.cons_append, List.nil_append, List.append_nil], fun j a b => h1 j a (by omega), h2⟩
  | d + 1, k, N, hk, h1, h2 => by
    have e1 : kadd (k : Int) 1 = ((k + 1 : Nat) : Int) := by rw [kadd_eq (by omega) (by omega)]; omega
    have f1 : N 109 = M 109 := h2 109 (by omega) (by omega)
    have f2 : N 110 = M 110 := h2 110 (by omega) (by omega)
    obtain ⟨N', q1, q2⟩ := limage_4 d (k + 1) (qup (qup N 123 k (M 109 k)) 124 k (M 110 k)) (by omega) (fun j a b => by
      by_cases c : j = k
      · subst c
        refine ⟨?_, ?_⟩
        · rw [qup_ne (by omega), qup_self]
        · rw [qup_self]
      · have h := h1 j a (by omega)
        refine ⟨?_, ?_⟩
        · rw [qup_ne (by omega), qup_ne (by omega)]
          exact h.1
        · rw [qup_ne (by omega), qup_ne (by omega)]
          exact h.2) (fun a a1 a2 => by rw [qup_row a2, qup_row a1]; exact h2 a a1 a2)
    refine ⟨N', ?_, q2⟩
    rw [← q1]
    simp (disch := first | assumption | omega) only [B_X12_image_262, B_X12_image_268, qup_self, qup_ne, not_true_eq_false, not_false_eq_true, if_true, if_false, qlk, qtk, qif_t, qif_f, qbd_some, Option.toList_some, Option.toList_none, List.cons_append, List.nil_append, List.append_nil, e1, f1, f2]
theorem sX12_image {M : qMem} : ∃ V, S_X12_image [qA 82] (qH0 M) = some (some (qI (M 82 0)), qH0 V) ∧ ((∀ j : Int, 0 ≤ j → j < 5 → V 111 j = M 83 j ∧ V 118 j = M 104 j ∧ V 119 j = M 105 j ∧ V 120 j = M 106 j) ∧ (∀ j : Int, 0 ≤ j → j < 6 → V 112 j = M 84 j ∧ V 113 j = M 85 j ∧ V 114 j = M 86 j ∧ V 115 j = M 87 j ∧ V 116 j = M 88 j) ∧ (∀ j : Int, 0 ≤ j → j < 24 → V 117 j = M 89 j) ∧ (∀ j : Int, 0 ≤ j → j < 10 → V 121 j = M 107 j ∧ V 122 j = M 108 j) ∧ (∀ j : Int, 0 ≤ j → j < 8 → V 123 j = M 109 j ∧ V 124 j = M 110 j)) ∧ (V 82 47 = 1 ∧ V 82 48 = M 82 11 ∧ V 82 49 = M 82 0 ∧ V 82 50 = M 82 1 ∧ V 82 51 = M 82 2 ∧ V 82 52 = M 82 37 ∧ V 82 53 = M 82 41 ∧ V 82 54 = M 82 42) ∧ (∀ a : Int, ¬ a = 82 → ¬ a = 111 → ¬ a = 118 → ¬ a = 119 → ¬ a = 120 → ¬ a = 112 → ¬ a = 113 → ¬ a = 114 → ¬ a = 115 → ¬ a = 116 → ¬ a = 117 → ¬ a = 121 → ¬ a = 122 → ¬ a = 123 → ¬ a = 124 → V a = M a) ∧ (∀ k : Int, ¬ k = 47 → ¬ k = 48 → ¬ k = 49 → ¬ k = 50 → ¬ k = 51 → ¬ k = 52 → ¬ k = 53 → ¬ k = 54 → V 82 k = M 82 k) := by
  obtain ⟨B, hB⟩ : ∃ B : qMem, B = qup (qup (qup (qup (qup (qup (qup (qup M 82 47 1) 82 48 (M 82 11)) 82 49 (M 82 0)) 82 50 (M 82 1)) 82 51 (M 82 2)) 82 52 (M 82 37)) 82 53 (M 82 41)) 82 54 (M 82 42) := ⟨_, rfl⟩
  have z0 : ((0 : Nat) : Int) = 0 := rfl
  have hr : ∀ a : Int, ¬ a = 82 → B a = M a := fun a ha => by rw [hB, qup_row ha, qup_row ha, qup_row ha, qup_row ha, qup_row ha, qup_row ha, qup_row ha, qup_row ha]
  obtain ⟨W1, p0, c0, r0⟩ := limage_0 (M := B) 5 0 B rfl (fun j a b => by omega) (fun a _ _ _ _ => rfl)
  rw [z0] at p0
  obtain ⟨W2, p1, c1, r1⟩ := limage_1 (M := W1) 6 0 W1 rfl (fun j a b => by omega) (fun a _ _ _ _ _ => rfl)
  rw [z0] at p1
  obtain ⟨W3, p2, c2, r2⟩ := limage_2 (M := W2) 24 0 W2 rfl (fun j a b => by omega) (fun a _ => rfl)
  rw [z0] at p2
  obtain ⟨W4, p3, c3, r3⟩ := limage_3 (M := W3) 10 0 W3 rfl (fun j a b => by omega) (fun a _ _ => rfl)
  rw [z0] at p3
  obtain ⟨W5, p4, c4, r4⟩ := limage_4 (M := W4) 8 0 W4 rfl (fun j a b => by omega) (fun a _ _ => rfl)
  rw [z0] at p4
  have f82 : W5 82 = B 82 := by rw [r4 82 (by omega) (by omega), r3 82 (by omega) (by omega), r2 82 (by omega), r1 82 (by omega) (by omega) (by omega) (by omega) (by omega), r0 82 (by omega) (by omega) (by omega) (by omega)]
  have v0 : W5 82 0 = M 82 0 := by rw [f82, hB, qup_ne (by omega), qup_ne (by omega), qup_ne (by omega), qup_ne (by omega), qup_ne (by omega), qup_ne (by omega), qup_ne (by omega), qup_ne (by omega)]
  refine ⟨W5, ?_, ⟨?_, ?_, ?_, ?_, ?_⟩, ⟨?_, ?_, ?_, ?_, ?_, ?_, ?_, ?_⟩, fun a a0 a1 a2 a3 a4 a5 a6 a7 a8 a9 a10 a11 a12 a13 a14 => ?_, fun k b0 b1 b2 b3 b4 b5 b6 b7 => ?_⟩
  · rw [E_X12_image]
    have k0 : qlim C_X12_image (0, [some (qA 82), none], [], qH0 M) = qlim C_X12_image (63, [some (qA 82), some (qI 0)], [], qH0 B) := by
      rw [hB]
      simp (disch := first | assumption | omega) only [B_X12_image_0, qup_self, qup_ne, not_true_eq_false, not_false_eq_true, if_true, if_false, qlk, qtk, qif_t, qif_f, qbd_some, Option.toList_some, Option.toList_none, List.cons_append, List.nil_append, List.append_nil]
    rw [k0, p0, p1, p2, p3, p4, v0]
  · intro j a b
    have c := c0 j a b
    exact ⟨by rw [r4 111 (by omega) (by omega), r3 111 (by omega) (by omega), r2 111 (by omega), r1 111 (by omega) (by omega) (by omega) (by omega) (by omega), c.1, hr 83 (by omega)], by rw [r4 118 (by omega) (by omega), r3 118 (by omega) (by omega), r2 118 (by omega), r1 118 (by omega) (by omega) (by omega) (by omega) (by omega), c.2.1, hr 104 (by omega)], by rw [r4 119 (by omega) (by omega), r3 119 (by omega) (by omega), r2 119 (by omega), r1 119 (by omega) (by omega) (by omega) (by omega) (by omega), c.2.2.1, hr 105 (by omega)], by rw [r4 120 (by omega) (by omega), r3 120 (by omega) (by omega), r2 120 (by omega), r1 120 (by omega) (by omega) (by omega) (by omega) (by omega), c.2.2.2, hr 106 (by omega)]⟩
  · intro j a b
    have c := c1 j a b
    exact ⟨by rw [r4 112 (by omega) (by omega), r3 112 (by omega) (by omega), r2 112 (by omega), c.1, r0 84 (by omega) (by omega) (by omega) (by omega), hr 84 (by omega)], by rw [r4 113 (by omega) (by omega), r3 113 (by omega) (by omega), r2 113 (by omega), c.2.1, r0 85 (by omega) (by omega) (by omega) (by omega), hr 85 (by omega)], by rw [r4 114 (by omega) (by omega), r3 114 (by omega) (by omega), r2 114 (by omega), c.2.2.1, r0 86 (by omega) (by omega) (by omega) (by omega), hr 86 (by omega)], by rw [r4 115 (by omega) (by omega), r3 115 (by omega) (by omega), r2 115 (by omega), c.2.2.2.1, r0 87 (by omega) (by omega) (by omega) (by omega), hr 87 (by omega)], by rw [r4 116 (by omega) (by omega), r3 116 (by omega) (by omega), r2 116 (by omega), c.2.2.2.2, r0 88 (by omega) (by omega) (by omega) (by omega), hr 88 (by omega)]⟩
  · intro j a b
    have c := c2 j a b
    exact by rw [r4 117 (by omega) (by omega), r3 117 (by omega) (by omega), c, r1 89 (by omega) (by omega) (by omega) (by omega) (by omega), r0 89 (by omega) (by omega) (by omega) (by omega), hr 89 (by omega)]
  · intro j a b
    have c := c3 j a b
    exact ⟨by rw [r4 121 (by omega) (by omega), c.1, r2 107 (by omega), r1 107 (by omega) (by omega) (by omega) (by omega) (by omega), r0 107 (by omega) (by omega) (by omega) (by omega), hr 107 (by omega)], by rw [r4 122 (by omega) (by omega), c.2, r2 108 (by omega), r1 108 (by omega) (by omega) (by omega) (by omega) (by omega), r0 108 (by omega) (by omega) (by omega) (by omega), hr 108 (by omega)]⟩
  · intro j a b
    have c := c4 j a b
    exact ⟨by rw [c.1, r3 109 (by omega) (by omega), r2 109 (by omega), r1 109 (by omega) (by omega) (by omega) (by omega) (by omega), r0 109 (by omega) (by omega) (by omega) (by omega), hr 109 (by omega)], by rw [c.2, r3 110 (by omega) (by omega), r2 110 (by omega), r1 110 (by omega) (by omega) (by omega) (by omega) (by omega), r0 110 (by omega) (by omega) (by omega) (by omega), hr 110 (by omega)]⟩
  · rw [f82, hB, qup_ne (by omega), qup_ne (by omega), qup_ne (by omega), qup_ne (by omega), qup_ne (by omega), qup_ne (by omega), qup_ne (by omega), qup_self]
  · rw [f82, hB, qup_ne (by omega), qup_ne (by omega), qup_ne (by omega), qup_ne (by omega), qup_ne (by omega), qup_ne (by omega), qup_self]
  · rw [f82, hB, qup_ne (by omega), qup_ne (by omega), qup_ne (by omega), qup_ne (by omega), qup_ne (by omega), qup_self]
  · rw [f82, hB, qup_ne (by omega), qup_ne (by omega), qup_ne (by omega), qup_ne (by omega), qup_self]
  · rw [f82, hB, qup_ne (by omega), qup_ne (by omega), qup_ne (by omega), qup_self]
  · rw [f82, hB, qup_ne (by omega), qup_ne (by omega), qup_self]
  · rw [f82, hB, qup_ne (by omega), qup_self]
  · rw [f82, hB, qup_self]
  · rw [r4 a a13 a14, r3 a a11 a12, r2 a a10, r1 a a5 a6 a7 a8 a9, r0 a a1 a2 a3 a4, hr a a0]
  · rw [f82, hB, qup_ne (by omega), qup_ne (by omega), qup_ne (by omega), qup_ne (by omega), qup_ne (by omega), qup_ne (by omega), qup_ne (by omega), qup_ne (by omega)]
theorem lundo_0 {M : qMem} : ∀ (d k : Nat) (N : qMem), k + d = 5 → (∀ j : Int, 0 ≤ j → j < k → N 83 j = M 111 j ∧ N 104 j = M 118 j ∧ N 105 j = M 119 j ∧ N 106 j = M 120 j) → (∀ a : Int, ¬ a = 83 → ¬ a = 104 → ¬ a = 105 → ¬ a = 106 → N a = M a) →
    ∃ N', qlim C_X12_undo (68, [some (qA 82), some (qI k)], [], qH0 N) = qlim C_X12_undo (129, [some (qA 82), some (qI 0)], [], qH0 N') ∧ (∀ j : Int, 0 ≤ j → j < 5 → N' 83 j = M 111 j ∧ N' 104 j = M 118 j ∧ N' 105 j = M 119 j ∧ N' 106 j = M 120 j) ∧ (∀ a : Int, ¬ a = 83 → ¬ a = 104 → ¬ a = 105 → ¬ a = 106 → N' a = M a)
  | 0, k, N, hk, h1, h2 => ⟨N, by simp (disch := first | assumption | omega) only [B_X12_undo_68, B_X12_undo_127, not_true_eq_false, not_false_eq_true, if_true, if_false, qlk, qtk, qif_t, qif_f, qbd_some, Option.toList_some, Option.toList_none, List.cons_append, List.nil_append, List.append_nil], fun j a b => h1 j a (by omega), h2⟩
  | d + 1, k, N, hk, h1, h2 => by
    have e1 : kadd (k : Int) 1 = ((k + 1 : Nat) : Int) := by rw [kadd_eq (by omega) (by omega)]; omega
    have f1 : N 111 = M 111 := h2 111 (by omega) (by omega) (by omega) (by omega)
    have f2 : N 118 = M 118 := h2 118 (by omega) (by omega) (by omega) (by omega)
    have f3 : N 119 = M 119 := h2 119 (by omega) (by omega) (by omega) (by omega)
    have f4 : N 120 = M 120 := h2 120 (by omega) (by omega) (by omega) (by omega)
    obtain ⟨N', q1, q2⟩ := lundo_0 d (k + 1) (qup (qup (qup (qup N 83 k (M 111 k)) 104 k (M 118 k)) 105 k (M 119 k)) 106 k (M 120 k)) (by omega) (fun j a b => by
      by_cases c : j = k
      · subst c
        refine ⟨?_, ?_, ?_, ?_⟩
        · rw [qup_ne (by omega), qup_ne (by omega), qup_ne (by omega), qup_self]
        · rw [qup_ne (by omega), qup_ne (by omega), qup_self]
        · rw [qup_ne (by omega), qup_self]
        · rw [qup_self]
      · have h := h1 j a (by omega)
        refine ⟨?_, ?_, ?_, ?_⟩
        · rw [qup_ne (by omega), qup_ne (by omega), qup_ne (by omega), qup_ne (by omega)]
          exact h.1
        · rw [qup_ne (by omega), qup_ne (by omega), qup_ne (by omega), qup_ne (by omega)]
          exact h.2.1
        · rw [qup_ne (by omega), qup_ne (by omega), qup_ne (by omega), qup_ne (by omega)]
          exact h.2.2.1
        · rw [qup_ne (by omega), qup_ne (by omega), qup_ne (by omega), qup_ne (by omega)]
          exact h.2.2.2) (fun a a1 a2 a3 a4 => by rw [qup_row a4, qup_row a3, qup_row a2, qup_row a1]; exact h2 a a1 a2 a3 a4)
    refine ⟨N', ?_, q2⟩
    rw [← q1]
    simp (disch := first | assumption | omega) only [B_X12_undo_68, B_X12_undo_73, qup_self, qup_ne, not_true_eq_false, not_false_eq_true, if_true, if_false, qlk, qtk, qif_t, qif_f, qbd_some, Option.toList_some, Option.toList_none, List.cons_append, List.nil_append, List.append_nil, e1, f1, f2, f3, f4]
theorem lundo_1 {M : qMem} : ∀ (d k : Nat) (N : qMem), k + d = 6 → (∀ j : Int, 0 ≤ j → j < k → N 84 j = M 112 j ∧ N 85 j = M 113 j ∧ N 86 j = M 114 j ∧ N 87 j = M 115 j ∧ N 88 j = M 116 j) → (∀ a : Int, ¬ a = 84 → ¬ a = 85 → ¬ a = 86 → ¬ a = 87 → ¬ a = 88 → N a = M a) →
    ∃ N', qlim C_X12_undo (129, [some (qA 82), some (qI k)], [], qH0 N) = qlim C_X12_undo (203, [some (qA 82), some (qI 0)], [], qH0 N') ∧ (∀ j : Int, 0 ≤ j → j < 6 → N' 84 j = M 112 j ∧ N' 85 j = M 113 j ∧ N' 86 j = M 114 j ∧ N' 87 j = M 115 j ∧ N' 88 j = M 116 j) ∧ (∀ a : Int, ¬ a = 84 → ¬ a = 85 → ¬ a = 86 → ¬ a = 87 → ¬ a = 88 → N' a = M a)
  | 0, k, N, hk, h1, h2 => ⟨N, by simp (disch := first | assumption | omega) only [B_X12_undo_129, B_X12_undo_201, not_true_eq_false, not_false_eq_true, if_true, if_false, qlk, qtk, qif_t, qif_f, qbd_some, Option.toList_some, Option.toList_none, List.cons_append, List.nil_append, List.append_nil], fun j a b => h1 j a (by omega), h2⟩
  | d + 1, k, N, hk, h1, h2 => by
    have e1 : kadd (k : Int) 1 = ((k + 1 : Nat) : Int) := by rw [kadd_eq (by omega) (by omega)]; omega
    have f1 : N 112 = M 112 := h2 112 (by omega) (by omega) (by omega) (by omega) (by omega)
    have f2 : N 113 = M 113 := h2 113 (by omega) (by omega) (by omega) (by omega) (by omega)
    have f3 : N 114 = M 114 := h2 114 (by omega) (by omega) (by omega) (by omega) (by omega)
    have f4 : N 115 = M 115 := h2 115 (by omega) (by omega) (by omega) (by omega) (by omega)
    have f5 : N 116 = M 116 := h2 116 (by omega) (by omega) (by omega) (by omega) (by omega)
    obtain ⟨N', q1, q2⟩ := lundo_1 d (k + 1) (qup (qup (qup (qup (qup N 84 k (M 112 k)) 85 k (M 113 k)) 86 k (M 114 k)) 87 k (M 115 k)) 88 k (M 116 k)) (by omega) (fun j a b => by
      by_cases c : j = k
      · subst c
        refine ⟨?_, ?_, ?_, ?_, ?_⟩
        · rw [qup_ne (by omega), qup_ne (by omega), qup_ne (by omega), qup_ne (by omega), qup_self]
        · rw [qup_ne (by omega), qup_ne (by omega), qup_ne (by omega), qup_self]
        · rw [qup_ne (by omega), qup_ne (by omega), qup_self]
        · rw [qup_ne (by omega), qup_self]
        · rw [qup_self]
      · have h := h1 j a (by omega)
        refine ⟨?_, ?_, ?_, ?_, ?_⟩
        · rw [qup_ne (by omega), qup_ne (by omega), qup_ne (by omega), qup_ne (by omega), qup_ne (by omega)]
          exact h.1
        · rw [qup_ne (by omega), qup_ne (by omega), qup_ne (by omega), qup_ne (by omega), qup_ne (by omega)]
          exact h.2.1
        · rw [qup_ne (by omega), qup_ne (by omega), qup_ne (by omega), qup_ne (by omega), qup_ne (by omega)]
          exact h.2.2.1
        · rw [qup_ne (by omega), qup_ne (by omega), qup_ne (by omega), qup_ne (by omega), qup_ne (by omega)]
          exact h.2.2.2.1
        · rw [qup_ne (by omega), qup_ne (by omega), qup_ne (by omega), qup_ne (by omega), qup_ne (by omega)]
          exact h.2.2.2.2) (fun a a1 a2 a3 a4 a5 => by rw [qup_row a5, qup_row a4, qup_row a3, qup_row a2, qup_row a1]; exact h2 a a1 a2 a3 a4 a5)
    refine ⟨N', ?_, q2⟩
    rw [← q1]
    simp (disch := first | assumption | omega) only [B_X12_undo_129, B_X12_undo_135, qup_self, qup_ne, not_true_eq_false, not_false_eq_true, if_true, if_false, qlk, qtk, qif_t, qif_f, qbd_some, Option.toList_some, Option.toList_none, List.cons_append, List.nil_append, List.append_nil, e1, f1, f2, f3, f4, f5]
theorem lundo_2 {M : qMem} : ∀ (d k : Nat) (N : qMem), k + d = 24 → (∀ j : Int, 0 ≤ j → j < k → N 89 j = M 117 j) → (∀ a : Int, ¬ a = 89 → N a = M a) →
    ∃ N', qlim C_X12_undo (203, [some (qA 82), some (qI k)], [], qH0 N) = qlim C_X12_undo (229, [some (qA 82), some (qI 0)], [], qH0 N') ∧ (∀ j : Int, 0 ≤ j → j < 24 → N' 89 j = M 117 j) ∧ (∀ a : Int, ¬ a = 89 → N' a = M a)
  | 0, k, N, hk, h1, h2 => ⟨N, by simp (disch := first | assumption | omega) only [B_X12_undo_203, B_X12_undo_227, not_true_eq_false, not_false_eq_true, if_true, if_false, qlk, qtk, qif_t, qif_f, qbd_some, Option.toList_some, Option.toList_none, List.cons_append, List.nil_append, List.append_nil], fun j a b => h1 j a (by omega), h2⟩
  | d + 1, k, N, hk, h1, h2 => by
    have e1 : kadd (k : Int) 1 = ((k + 1 : Nat) : Int) := by rw [kadd_eq (by omega) (by omega)]; omega
    have f1 : N 117 = M 117 := h2 117 (by omega)
    obtain ⟨N', q1, q2⟩ := lundo_2 d (k + 1) (qup N 89 k (M 117 k)) (by omega) (fun j a b => by
      by_cases c : j = k
      · subst c
        rw [qup_self]
      · have h := h1 j a (by omega)
        rw [qup_ne (by omega)]
        exact h) (fun a a1 => by rw [qup_row a1]; exact h2 a a1)
    refine ⟨N', ?_, q2⟩
    rw [← q1]
    simp (disch := first | assumption | omega) only [B_X12_undo_203, B_X12_undo_209, qup_self, qup_ne, not_true_eq_false, not_false_eq_true, if_true, if_false, qlk, qtk, qif_t, qif_f, qbd_some, Option.toList_some, Option.toList_none, List.cons_append, List.nil_append, List.append_nil, e1, f1]
theorem lundo_3 {M : qMem} : ∀ (d k : Nat) (N : qMem), k + d = 10 → (∀ j : Int, 0 ≤ j → j < k → N 107 j = M 121 j ∧ N 108 j = M 122 j) → (∀ a : Int, ¬ a = 107 → ¬ a = 108 → N a = M a) →
    ∃ N', qlim C_X12_undo (229, [some (qA 82), some (qI k)], [], qH0 N) = qlim C_X12_undo (267, [some (qA 82), some (qI 0)], [], qH0 N') ∧ (∀ j : Int, 0 ≤ j → j < 10 → N' 107 j = M 121 j ∧ N' 108 j = M 122 j) ∧ (∀ a : Int, ¬ a = 107 → ¬ a = 108 → N' a = M a)
  | 0, k, N, hk, h1, h2 => ⟨N, by simp (disch := first | assumption | omega) only [B_X12_undo_229, B_X12_undo_265, not_true_eq_false, not_false_eq_true, if_true, if_false, qlk, qtk, qif_t, qif_f, qbd_some, Option.toList_some, Option.toList_none, List.cons_append, List.nil_append, List.append_nil], fun j a b => h1 j a (by omega), h2⟩
  | d + 1, k, N, hk, h1, h2 => by
    have e1 : kadd (k : Int) 1 = ((k + 1 : Nat) : Int) := by rw [kadd_eq (by omega) (by omega)]; omega
    have f1 : N 121 = M 121 := h2 121 (by omega) (by omega)
    have f2 : N 122 = M 122 := h2 122 (by omega) (by omega)
    obtain ⟨N', q1, q2⟩ := lundo_3 d (k + 1) (qup (qup N 107 k (M 121 k)) 108 k (M 122 k)) (by omega) (fun j a b => by
      by_cases c : j = k
      · subst c
        refine ⟨?_, ?_⟩
        · rw [qup_ne (by omega), qup_self]
        · rw [qup_self]
      · have h := h1 j a (by omega)
        refine ⟨?_, ?_⟩
        · rw [qup_ne (by omega), qup_ne (by omega)]
          exact h.1
        · rw [qup_ne (by omega), qup_ne (by omega)]
          exact h.2) (fun a a1 a2 => by rw [qup_row a2, qup_row a1]; exact h2 a a1 a2)
    refine ⟨N', ?_, q2⟩
    rw [← q1]
    simp (disch := first | assumption | omega) only [B_X12_undo_229, B_X12_undo_235, qup_self, qup_ne, not_true_eq_false, not_false_eq_true, if_true, if_false, qlk, qtk, qif_t, qif_f, qbd_some, Option.toList_some, Option.toList_none, List.cons_append, List.nil_append, List.append_nil, e1, f1, f2]
theorem lundo_4 {M : qMem} : ∀ (d k : Nat) (N : qMem), k + d = 8 → (∀ j : Int, 0 ≤ j → j < k → N 109 j = M 123 j ∧ N 110 j = M 124 j) → (∀ a : Int, ¬ a = 109 → ¬ a = 110 → N a = M a) →
    ∃ N', qlim C_X12_undo (267, [some (qA 82), some (qI k)], [], qH0 N) = some (some (qI (N' 82 0)), qH0 N') ∧ (∀ j : Int, 0 ≤ j → j < 8 → N' 109 j = M 123 j ∧ N' 110 j = M 124 j) ∧ (∀ a : Int, ¬ a = 109 → ¬ a = 110 → N' a = M a)
  | 0, k, N, hk, h1, h2 => ⟨N, by simp (disch := first | assumption | omega) only [B_X12_undo_267, B_X12_undo_303, not_true_eq_false, not_false_eq_true, if_true, if_false, qlk, qtk, qif_t, qif_f, qbd_some, Option.toList_some, Option.toList_none, List.cons_append, List.nil_append, List.append_nil], fun j a b => h1 j a (by omega), h2⟩
  | d + 1, k, N, hk, h1, h2 => by
    have e1 : kadd (k : Int) 1 = ((k + 1 : Nat) : Int) := by rw [kadd_eq (by omega) (by omega)]; omega
    have f1 : N 123 = M 123 := h2 123 (by omega) (by omega)
    have f2 : N 124 = M 124 := h2 124 (by omega) (by omega)
    obtain ⟨N', q1, q2⟩ := lundo_4 d (k + 1) (qup (qup N 109 k (M 123 k)) 110 k (M 124 k)) (by omega) (fun j a b => by
      by_cases c : j = k
      · subst c
        refine ⟨?_, ?_⟩
        · rw [qup_ne (by omega), qup_self]
        · rw [qup_self]
      · have h := h1 j a (by omega)
        refine ⟨?_, ?_⟩
        · rw [qup_ne (by omega), qup_ne (by omega)]
          exact h.1
        · rw [qup_ne (by omega), qup_ne (by omega)]
          exact h.2) (fun a a1 a2 => by rw [qup_row a2, qup_row a1]; exact h2 a a1 a2)
    refine ⟨N', ?_, q2⟩
    rw [← q1]
    simp (disch := first | assumption | omega) only [B_X12_undo_267, B_X12_undo_273, qup_self, qup_ne, not_true_eq_false, not_false_eq_true, if_true, if_false, qlk, qtk, qif_t, qif_f, qbd_some, Option.toList_some, Option.toList_none, List.cons_append, List.nil_append, List.append_nil, e1, f1, f2]
theorem sX12_undo {M : qMem} (h47 : ¬ M 82 47 = 0) : ∃ V, S_X12_undo [qA 82] (qH0 M) = some (some (qI (M 82 49)), qH0 V) ∧ ((∀ j : Int, 0 ≤ j → j < 5 → V 83 j = M 111 j ∧ V 104 j = M 118 j ∧ V 105 j = M 119 j ∧ V 106 j = M 120 j) ∧ (∀ j : Int, 0 ≤ j → j < 6 → V 84 j = M 112 j ∧ V 85 j = M 113 j ∧ V 86 j = M 114 j ∧ V 87 j = M 115 j ∧ V 88 j = M 116 j) ∧ (∀ j : Int, 0 ≤ j → j < 24 → V 89 j = M 117 j) ∧ (∀ j : Int, 0 ≤ j → j < 10 → V 107 j = M 121 j ∧ V 108 j = M 122 j) ∧ (∀ j : Int, 0 ≤ j → j < 8 → V 109 j = M 123 j ∧ V 110 j = M 124 j)) ∧ (V 82 11 = M 82 48 ∧ V 82 0 = M 82 49 ∧ V 82 1 = M 82 50 ∧ V 82 2 = M 82 51 ∧ V 82 37 = M 82 52 ∧ V 82 41 = M 82 53 ∧ V 82 42 = M 82 54) ∧ (∀ a : Int, ¬ a = 82 → ¬ a = 83 → ¬ a = 104 → ¬ a = 105 → ¬ a = 106 → ¬ a = 84 → ¬ a = 85 → ¬ a = 86 → ¬ a = 87 → ¬ a = 88 → ¬ a = 89 → ¬ a = 107 → ¬ a = 108 → ¬ a = 109 → ¬ a = 110 → V a = M a) ∧ (∀ k : Int, ¬ k = 11 → ¬ k = 0 → ¬ k = 1 → ¬ k = 2 → ¬ k = 37 → ¬ k = 41 → ¬ k = 42 → V 82 k = M 82 k) := by
  obtain ⟨B, hB⟩ : ∃ B : qMem, B = qup (qup (qup (qup (qup (qup (qup M 82 11 (M 82 48)) 82 0 (M 82 49)) 82 1 (M 82 50)) 82 2 (M 82 51)) 82 37 (M 82 52)) 82 41 (M 82 53)) 82 42 (M 82 54) := ⟨_, rfl⟩
  have z0 : ((0 : Nat) : Int) = 0 := rfl
  have hr : ∀ a : Int, ¬ a = 82 → B a = M a := fun a ha => by rw [hB, qup_row ha, qup_row ha, qup_row ha, qup_row ha, qup_row ha, qup_row ha, qup_row ha]
  obtain ⟨W1, p0, c0, r0⟩ := lundo_0 (M := B) 5 0 B rfl (fun j a b => by omega) (fun a _ _ _ _ => rfl)
  rw [z0] at p0
  obtain ⟨W2, p1, c1, r1⟩ := lundo_1 (M := W1) 6 0 W1 rfl (fun j a b => by omega) (fun a _ _ _ _ _ => rfl)
  rw [z0] at p1
  obtain ⟨W3, p2, c2, r2⟩ := lundo_2 (M := W2) 24 0 W2 rfl (fun j a b => by omega) (fun a _ => rfl)
  rw [z0] at p2
  obtain ⟨W4, p3, c3, r3⟩ := lundo_3 (M := W3) 10 0 W3 rfl (fun j a b => by omega) (fun a _ _ => rfl)
  rw [z0] at p3
  obtain ⟨W5, p4, c4, r4⟩ := lundo_4 (M := W4) 8 0 W4 rfl (fun j a b => by omega) (fun a _ _ => rfl)
  rw [z0] at p4
  have f82 : W5 82 = B 82 := by rw [r4 82 (by omega) (by omega), r3 82 (by omega) (by omega), r2 82 (by omega), r1 82 (by omega) (by omega) (by omega) (by omega) (by omega), r0 82 (by omega) (by omega) (by omega) (by omega)]
  have v0 : W5 82 0 = M 82 49 := by rw [f82, hB, qup_ne (by omega), qup_ne (by omega), qup_ne (by omega), qup_ne (by omega), qup_ne (by omega), qup_self]
  refine ⟨W5, ?_, ⟨?_, ?_, ?_, ?_, ?_⟩, ⟨?_, ?_, ?_, ?_, ?_, ?_, ?_⟩, fun a a0 a1 a2 a3 a4 a5 a6 a7 a8 a9 a10 a11 a12 a13 a14 => ?_, fun k b0 b1 b2 b3 b4 b5 b6 => ?_⟩
  · rw [E_X12_undo]
    have k0 : qlim C_X12_undo (0, [some (qA 82), none], [], qH0 M) = qlim C_X12_undo (68, [some (qA 82), some (qI 0)], [], qH0 B) := by
      rw [hB, B_X12_undo_0, qif_t h47]
      simp (disch := first | assumption | omega) only [B_X12_undo_10, qup_self, qup_ne, not_true_eq_false, not_false_eq_true, if_true, if_false, qlk, qtk, qif_t, qif_f, qbd_some, Option.toList_some, Option.toList_none, List.cons_append, List.nil_append, List.append_nil]
    rw [k0, p0, p1, p2, p3, p4, v0]
  · intro j a b
    have c := c0 j a b
    exact ⟨by rw [r4 83 (by omega) (by omega), r3 83 (by omega) (by omega), r2 83 (by omega), r1 83 (by omega) (by omega) (by omega) (by omega) (by omega), c.1, hr 111 (by omega)], by rw [r4 104 (by omega) (by omega), r3 104 (by omega) (by omega), r2 104 (by omega), r1 104 (by omega) (by omega) (by omega) (by omega) (by omega), c.2.1, hr 118 (by omega)], by rw [r4 105 (by omega) (by omega), r3 105 (by omega) (by omega), r2 105 (by omega), r1 105 (by omega) (by omega) (by omega) (by omega) (by omega), c.2.2.1, hr 119 (by omega)], by rw [r4 106 (by omega) (by omega), r3 106 (by omega) (by omega), r2 106 (by omega), r1 106 (by omega) (by omega) (by omega) (by omega) (by omega), c.2.2.2, hr 120 (by omega)]⟩
  · intro j a b
    have c := c1 j a b
    exact ⟨by rw [r4 84 (by omega) (by omega), r3 84 (by omega) (by omega), r2 84 (by omega), c.1, r0 112 (by omega) (by omega) (by omega) (by omega), hr 112 (by omega)], by rw [r4 85 (by omega) (by omega), r3 85 (by omega) (by omega), r2 85 (by omega), c.2.1, r0 113 (by omega) (by omega) (by omega) (by omega), hr 113 (by omega)], by rw [r4 86 (by omega) (by omega), r3 86 (by omega) (by omega), r2 86 (by omega), c.2.2.1, r0 114 (by omega) (by omega) (by omega) (by omega), hr 114 (by omega)], by rw [r4 87 (by omega) (by omega), r3 87 (by omega) (by omega), r2 87 (by omega), c.2.2.2.1, r0 115 (by omega) (by omega) (by omega) (by omega), hr 115 (by omega)], by rw [r4 88 (by omega) (by omega), r3 88 (by omega) (by omega), r2 88 (by omega), c.2.2.2.2, r0 116 (by omega) (by omega) (by omega) (by omega), hr 116 (by omega)]⟩
  · intro j a b
    have c := c2 j a b
    exact by rw [r4 89 (by omega) (by omega), r3 89 (by omega) (by omega), c, r1 117 (by omega) (by omega) (by omega) (by omega) (by omega), r0 117 (by omega) (by omega) (by omega) (by omega), hr 117 (by omega)]
  · intro j a b
    have c := c3 j a b
    exact ⟨by rw [r4 107 (by omega) (by omega), c.1, r2 121 (by omega), r1 121 (by omega) (by omega) (by omega) (by omega) (by omega), r0 121 (by omega) (by omega) (by omega) (by omega), hr 121 (by omega)], by rw [r4 108 (by omega) (by omega), c.2, r2 122 (by omega), r1 122 (by omega) (by omega) (by omega) (by omega) (by omega), r0 122 (by omega) (by omega) (by omega) (by omega), hr 122 (by omega)]⟩
  · intro j a b
    have c := c4 j a b
    exact ⟨by rw [c.1, r3 123 (by omega) (by omega), r2 123 (by omega), r1 123 (by omega) (by omega) (by omega) (by omega) (by omega), r0 123 (by omega) (by omega) (by omega) (by omega), hr 123 (by omega)], by rw [c.2, r3 124 (by omega) (by omega), r2 124 (by omega), r1 124 (by omega) (by omega) (by omega) (by omega) (by omega), r0 124 (by omega) (by omega) (by omega) (by omega), hr 124 (by omega)]⟩
  · rw [f82, hB, qup_ne (by omega), qup_ne (by omega), qup_ne (by omega), qup_ne (by omega), qup_ne (by omega), qup_ne (by omega), qup_self]
  · rw [f82, hB, qup_ne (by omega), qup_ne (by omega), qup_ne (by omega), qup_ne (by omega), qup_ne (by omega), qup_self]
  · rw [f82, hB, qup_ne (by omega), qup_ne (by omega), qup_ne (by omega), qup_ne (by omega), qup_self]
  · rw [f82, hB, qup_ne (by omega), qup_ne (by omega), qup_ne (by omega), qup_self]
  · rw [f82, hB, qup_ne (by omega), qup_ne (by omega), qup_self]
  · rw [f82, hB, qup_ne (by omega), qup_self]
  · rw [f82, hB, qup_self]
  · rw [r4 a a13 a14, r3 a a11 a12, r2 a a10, r1 a a5 a6 a7 a8 a9, r0 a a1 a2 a3 a4, hr a a0]
  · rw [f82, hB, qup_ne (by omega), qup_ne (by omega), qup_ne (by omega), qup_ne (by omega), qup_ne (by omega), qup_ne (by omega), qup_ne (by omega)]
