/-! person -/
theorem kclr {x p : Int} (h1 : 0 ≤ x) (h2 : x < 64) (p1 : 0 ≤ p) (p2 : p < 6) : ∃ a : Int, kand x (kxor (kshl 1 p) (-1)) = a ∧ (0 ≤ a ∧ a < 64) ∧ ∀ q : Int, 0 ≤ q → q < 6 → qBit a q = if q = p then 0 else qBit x q := by
  obtain ⟨n, rfl⟩ := Int.eq_ofNat_of_zero_le h1
  obtain ⟨m, rfl⟩ := Int.eq_ofNat_of_zero_le p1
  have K := kbit_and n (by omega) m (by omega)
  refine ⟨((n &&& (63 - 2 ^ m) : Nat) : Int), kbit_n n (by omega) m (by omega), by omega, fun q q1 q2 => ?_⟩
  obtain ⟨j, rfl⟩ := Int.eq_ofNat_of_zero_le q1
  have := K.2 j (by omega)
  rw [qBit_nat, qBit_nat, this]
  by_cases c : j = m
  · subst c
    rw [if_pos rfl, if_pos rfl]
    rfl
  · rw [if_neg c, if_neg (by omega)]
theorem lX12_person {N : qMem} {a b c p : Int} (hp : N 82 0 = p) (p0 : 0 ≤ p) (p6 : p < 6) (hz : ∀ i : Int, 0 ≤ i → i < 4 → N 89 (4 * p + i) = 0) : ∀ (d i : Nat), i + d = 4 →
    qlim C_X12_person (117, [some (qA 82), some (qI a), some (qI b), some (qI c), some (qI i)], [], qH0 N) = some (some (qI p), qH0 (qup N 82 0 (p + 1)))
  | 0, i, hi => by
    have e1 : kadd p 1 = p + 1 := kadd_eq (by omega) (by omega)
    have e2 : ksub (p + 1) 1 = p := by rw [ksub_eq (by omega) (by omega)]; omega
    rw [B_X12_person_117, qif_t (by omega), B_X12_person_144, hp, e1, qup_self, e2]
  | d + 1, i, hi => by
    have e1 : kadd (i : Int) 1 = ((i + 1 : Nat) : Int) := by rw [kadd_eq (by omega) (by omega)]; omega
    have e2 : kadd (kmul 4 p) i = 4 * p + i := by rw [kmul_eq (by omega) (by omega), kadd_eq (by omega) (by omega)]
    have z : qup N 89 (4 * p + i) 0 = N := qup_same (hz i (by omega) (by omega))
    rw [B_X12_person_117, qif_f (by omega), B_X12_person_123 (by rw [hp, e2]; omega) (by rw [hp, e2]; omega), hp, e2, e1, z]
    exact lX12_person hp p0 p6 hz d (i + 1) (by omega)
theorem step_person {M : qMem} {k v w : Int} (h : qInv M) : qStep S_X11_person S_X12_person [qI k, qI v, qI w] M := by
  have h6 := h.1.1.2.1
  have n0 : M 82 0 = M 12 10 := h.2.1.1.1.1
  by_cases ck : 0 ≤ k ∧ k ≤ 6
  · have k1 := sX11_isIn_y (M := M) ck
    have k2 := sX12_in_y (M := M) ck
    by_cases cw : 0 ≤ w ∧ w < 4
    · by_cases cv : 0 ≤ v ∧ v ≤ 9
      · have v1 := sX11_isIn_y (M := M) cv
        have v2 := sX12_in_y (M := M) cv
        by_cases cp : M 12 10 < 6
        · have s1 := sX8_comes (M := M) (o := 12) (k := k) (v := v) (w := w) (Or.inl rfl) h6.1 cp
          obtain ⟨p, hp⟩ : ∃ p, M 12 10 = p := ⟨_, rfl⟩
          rw [hp] at s1 h6 cp n0
          have p0 := h6.1
          obtain ⟨Q, hQ⟩ : ∃ Q : qMem, Q = qup (qup (qup (qup M 14 p k) 15 p v) 16 p w) 12 10 (p + 1) := ⟨_, rfl⟩
          have s1' : S_X8_comes [qA 12, qI k, qI v, qI w] (qH0 M) = some (some (qI p), qH0 Q) := by rw [hQ]; exact s1
          have qr : ∀ a : Int, ¬ a = 12 → ¬ a = 14 → ¬ a = 15 → ¬ a = 16 → Q a = M a := fun a a1 a2 a3 a4 => by rw [hQ, qup_row a1, qup_row a4, qup_row a3, qup_row a2]
          have q12 : ∀ i : Int, ¬ i = 10 → Q 12 i = M 12 i := fun i hi => by rw [hQ, qup_ne (by omega), qup_row (by omega), qup_row (by omega), qup_row (by omega)]
          have q10 : Q 12 10 = p + 1 := by rw [hQ, qup_self]
          have q14 : ∀ i : Int, Q 14 i = if i = p then k else M 14 i := fun i => by
            rw [hQ, qup_ne (by omega), qup_ne (by omega), qup_ne (by omega)]
            by_cases c : i = p
            · subst c
              rw [qup_self, if_pos rfl]
            · rw [qup_ne (by omega), if_neg c]
          have q15 : ∀ i : Int, Q 15 i = if i = p then v else M 15 i := fun i => by
            rw [hQ, qup_ne (by omega), qup_ne (by omega)]
            by_cases c : i = p
            · subst c
              rw [qup_self, if_pos rfl]
            · rw [qup_ne (by omega), if_neg c, qup_ne (by omega)]
          have q16 : ∀ i : Int, Q 16 i = if i = p then w else M 16 i := fun i => by
            rw [hQ, qup_ne (by omega)]
            by_cases c : i = p
            · subst c
              rw [qup_self, if_pos rfl]
            · rw [qup_ne (by omega), if_neg c, qup_ne (by omega), qup_ne (by omega)]
          have h1 := h.1
          have hg := h1.1.2.2.2.2.2.2.1
          unfold qHl at hg
          have n1 : qNow Q := by
            have f := h1.1
            have hh := qHI_row (M' := Q) f.2.2.2.2.2.2 (qr _ (by omega) (by omega) (by omega) (by omega)) (qr _ (by omega) (by omega) (by omega) (by omega))
            refine ⟨⟨f.1, by rw [q10]; omega, by rw [q12 12 (by omega)]; exact f.2.2.1, by rw [q12 1 (by omega)]; exact f.2.2.2.1, fun i a b => ?_, fun i a b => by rw [qr (12 + 7) (by omega) (by omega) (by omega) (by omega)]; exact f.2.2.2.2.2.1 i a b, by rw [q12 13 (by omega)]; exact hh⟩, qSV_row h1.2.1 (q12 11 (by omega)) (q12 1 (by omega)) (qr 13 (by omega) (by omega) (by omega) (by omega)) (qr 17 (by omega) (by omega) (by omega) (by omega)) (qr 18 (by omega) (by omega) (by omega) (by omega)), by rw [q12 1 (by omega)]; exact h1.2.2.1, by rw [q12 11 (by omega)]; exact h1.2.2.2.1, by rw [qr 21 (by omega) (by omega) (by omega) (by omega)]; exact h1.2.2.2.2⟩
            have z := f.2.2.2.2.1 i a b
            have e14 : Q (12 + 2) i = if i = p then k else M 14 i := q14 i
            have e15 : Q (12 + 3) i = if i = p then v else M 15 i := q15 i
            have e16 : Q (12 + 4) i = if i = p then w else M 16 i := q16 i
            have e20 : Q (12 + 8) i = M 20 i := by rw [qr (12 + 8) (by omega) (by omega) (by omega) (by omega)]; rfl
            rw [e14, e15, e16, e20]
            refine ⟨?_, ?_, ?_, z.2.2.2⟩
            · split
              · exact ck
              · exact z.1
            · split
              · exact cv
              · exact z.2.1
            · split
              · omega
              · exact z.2.2.1
          -- the reference
          have Z := (iZ h).1 p (by omega) cp
          have z17 : M 17 p = 0 := Z.1
          have z18 : M 18 p = 0 := Z.2.1
          have z20 : M 20 p = 0 := Z.2.2.1
          have z19 : ∀ i : Int, 0 ≤ i → i < 4 → M 19 (4 * p + i) = 0 := Z.2.2.2
          have R := h.2.1.1
          have Rp := R.2.2.2.1 p p0 cp
          have r87 : M 87 p = M 17 p := Rp.2.2.2.1
          have r88 : M 88 p = M 18 p := Rp.2.2.2.2.1
          obtain ⟨x, x1, x2, x3⟩ := kclr R.2.1.1 R.2.1.2 p0 cp
          have Q0 : Q 82 0 = p := by rw [qr 82 (by omega) (by omega) (by omega) (by omega)]; exact n0
          have Q2 : Q 82 2 = M 82 2 := by rw [qr 82 (by omega) (by omega) (by omega) (by omega)]
          have e87 : qup (qup (qup (qup Q 84 p k) 85 p v) 86 p w) 87 p 0 = qup (qup (qup Q 84 p k) 85 p v) 86 p w := qup_same (by rw [qup_ne (by omega), qup_ne (by omega), qup_ne (by omega), qr 87 (by omega) (by omega) (by omega) (by omega), r87, z17])
          have e88 : qup (qup (qup (qup Q 84 p k) 85 p v) 86 p w) 88 p 0 = qup (qup (qup Q 84 p k) 85 p v) 86 p w := qup_same (by rw [qup_ne (by omega), qup_ne (by omega), qup_ne (by omega), qr 88 (by omega) (by omega) (by omega) (by omega), r88, z18])
          obtain ⟨W, hW⟩ : ∃ W : qMem, W = qup (qup (qup (qup Q 84 p k) 85 p v) 86 p w) 82 2 x := ⟨_, rfl⟩
          have w0 : W 82 0 = p := by rw [hW, qup_ne (by omega), qup_ne (by omega), qup_ne (by omega), qup_ne (by omega)]; exact Q0
          have w89 : ∀ i : Int, 0 ≤ i → i < 4 → W 89 (4 * p + i) = 0 := fun i i0 i4 => by
            rw [hW, qup_ne (by omega), qup_ne (by omega), qup_ne (by omega), qup_ne (by omega), qr 89 (by omega) (by omega) (by omega) (by omega), R.2.2.2.2.1 _ (by omega) (by omega)]
            exact z19 i i0 i4
          have L := lX12_person (a := k) (b := v) (c := w) w0 p0 cp w89 4 0 rfl
          obtain ⟨V, hV⟩ : ∃ V : qMem, V = qup W 82 0 (p + 1) := ⟨_, rfl⟩
          rw [← hV] at L
          have s2 : S_X12_person [qA 82, qI k, qI v, qI w] (qH0 Q) = some (some (qI p), qH0 V) := by
            have k2' := sX12_in_y (M := Q) ck
            have v2' := sX12_in_y (M := Q) cv
            have L' : qlim C_X12_person (117, [some (qA 82), some (qI k), some (qI v), some (qI w), some (qI 0)], [], qH0 (qup (qup (qup (qup Q 84 p k) 85 p v) 86 p w) 82 2 x)) = some (some (qI p), qH0 V) := by rw [← hW]; exact L
            rw [← L', E_X12_person]
            have t1 : qup Q 84 p k 82 0 = p := by rw [qup_ne (by omega), Q0]
            have t2 : qup (qup Q 84 p k) 85 p v 82 0 = p := by rw [qup_ne (by omega), t1]
            have t3 : qup (qup (qup Q 84 p k) 85 p v) 86 p w 82 0 = p := by rw [qup_ne (by omega), t2]
            have t4 : qup (qup (qup Q 84 p k) 85 p v) 86 p w 82 2 = M 82 2 := by rw [qup_ne (by omega), qup_ne (by omega), qup_ne (by omega), Q2]
            simp (disch := first | assumption | omega) only [B_X12_person_0, B_X12_person_8, B_X12_person_11, B_X12_person_16, B_X12_person_21, B_X12_person_29, B_X12_person_35, not_true_eq_false, not_false_eq_true, if_true, if_false, qlk, qtk, qif_t, qif_f, qbd_some, Option.toList_some, Option.toList_none, List.cons_append, List.nil_append, List.append_nil, k2', v2', sX12_isWork_y]
            rw [B_X12_person_47 (by rw [Q0]; omega) (by rw [Q0]; omega) (by rw [Q0, t1]; omega) (by rw [Q0, t1]; omega) (by rw [Q0, t1, t2]; omega) (by rw [Q0, t1, t2]; omega) (by rw [Q0, t1, t2, t3]; omega) (by rw [Q0, t1, t2, t3]; omega) (by rw [Q0, t1, t2, t3, e87, t3]; omega) (by rw [Q0, t1, t2, t3, e87, t3]; omega)]
            rw [Q0, t1, t2, t3, e87, t3, e88, t3, t4, x1]
          have vr : ∀ a : Int, ¬ a = 82 → ¬ a = 84 → ¬ a = 85 → ¬ a = 86 → V a = Q a := fun a a1 a2 a3 a4 => by rw [hV, qup_row a1, hW, qup_row a1, qup_row a4, qup_row a3, qup_row a2]
          have v82 : ∀ i : Int, ¬ i = 0 → ¬ i = 2 → V 82 i = M 82 i := fun i i1 i2 => by rw [hV, qup_ne (by omega), hW, qup_ne (by omega), qup_row (by omega), qup_row (by omega), qup_row (by omega), qr 82 (by omega) (by omega) (by omega) (by omega)]
          have v0 : V 82 0 = p + 1 := by rw [hV, qup_self]
          have v2 : V 82 2 = x := by rw [hV, qup_ne (by omega), hW, qup_self]
          have v84 : ∀ i : Int, V 84 i = if i = p then k else M 84 i := fun i => by
            rw [hV, qup_ne (by omega), hW, qup_ne (by omega), qup_ne (by omega), qup_ne (by omega)]
            by_cases c : i = p
            · subst c
              rw [qup_self, if_pos rfl]
            · rw [qup_ne (by omega), if_neg c, qr 84 (by omega) (by omega) (by omega) (by omega)]
          have v85 : ∀ i : Int, V 85 i = if i = p then v else M 85 i := fun i => by
            rw [hV, qup_ne (by omega), hW, qup_ne (by omega), qup_ne (by omega)]
            by_cases c : i = p
            · subst c
              rw [qup_self, if_pos rfl]
            · rw [qup_ne (by omega), if_neg c, qup_ne (by omega), qr 85 (by omega) (by omega) (by omega) (by omega)]
          have v86 : ∀ i : Int, V 86 i = if i = p then w else M 86 i := fun i => by
            rw [hV, qup_ne (by omega), hW, qup_ne (by omega)]
            by_cases c : i = p
            · subst c
              rw [qup_self, if_pos rfl]
            · rw [qup_ne (by omega), if_neg c, qup_ne (by omega), qup_ne (by omega), qr 86 (by omega) (by omega) (by omega) (by omega)]
          have vq : ∀ a : Int, ¬ a = 12 → ¬ a = 14 → ¬ a = 15 → ¬ a = 16 → ¬ a = 82 → ¬ a = 84 → ¬ a = 85 → ¬ a = 86 → V a = M a := fun a a1 a2 a3 a4 a5 a6 a7 a8 => (vr a a5 a6 a7 a8).trans (qr a a1 a2 a3 a4)
          have mn : qMN V Q := by
            have hS := qHS_rowA (B := Q) (qHS_row (N := V) R.2.2.2.2.2.1 (v82 11 (by omega) (by omega)) (vq 91 (by omega) (by omega) (by omega) (by omega) (by omega) (by omega) (by omega) (by omega)) (vq 92 (by omega) (by omega) (by omega) (by omega) (by omega) (by omega) (by omega) (by omega)) (vq 93 (by omega) (by omega) (by omega) (by omega) (by omega) (by omega) (by omega) (by omega)) (vq 94 (by omega) (by omega) (by omega) (by omega) (by omega) (by omega) (by omega) (by omega)) (vq 95 (by omega) (by omega) (by omega) (by omega) (by omega) (by omega) (by omega) (by omega)) (vq 96 (by omega) (by omega) (by omega) (by omega) (by omega) (by omega) (by omega) (by omega))) (qr _ (by omega) (by omega) (by omega) (by omega)) (qr _ (by omega) (by omega) (by omega) (by omega))
            refine ⟨⟨⟨by rw [v0, q10], by rw [v82 1 (by omega) (by omega), q12 11 (by omega)]; exact R.1.2⟩, by rw [v2]; exact x2, fun i a b => ?_, fun i a b => ?_, fun i a b => ?_, by rw [q12 13 (by omega)]; exact hS, ?_⟩, by rw [v82 27 (by omega) (by omega)]; exact h.2.1.2.1, by rw [v82 29 (by omega) (by omega)]; exact h.2.1.2.2.1, by rw [v82 30 (by omega) (by omega)]; exact h.2.1.2.2.2⟩
            · rw [vq 83 (by omega) (by omega) (by omega) (by omega) (by omega) (by omega) (by omega) (by omega), qr (12 + 1) (by omega) (by omega) (by omega) (by omega)]
              exact R.2.2.1 i a b
            · have q := R.2.2.2.1 i a b
              have e14 : Q (12 + 2) i = if i = p then k else M 14 i := q14 i
              have e15 : Q (12 + 3) i = if i = p then v else M 15 i := q15 i
              have e16 : Q (12 + 4) i = if i = p then w else M 16 i := q16 i
              rw [v84, v85, v86, e14, e15, e16, v2, x3 i a b, vq 87 (by omega) (by omega) (by omega) (by omega) (by omega) (by omega) (by omega) (by omega), vq 88 (by omega) (by omega) (by omega) (by omega) (by omega) (by omega) (by omega) (by omega), qr (12 + 5) (by omega) (by omega) (by omega) (by omega), qr (12 + 6) (by omega) (by omega) (by omega) (by omega), qr (12 + 8) (by omega) (by omega) (by omega) (by omega)]
              by_cases c : i = p
              · exact ⟨by rw [if_pos c, if_pos c], by rw [if_pos c, if_pos c], by rw [if_pos c, if_pos c], q.2.2.2.1, q.2.2.2.2.1, by rw [if_pos c, c]; exact z20.symm⟩
              · rw [if_neg c, if_neg c, if_neg c, if_neg c, if_neg c, if_neg c, if_neg c]
                exact q
            · rw [vq 89 (by omega) (by omega) (by omega) (by omega) (by omega) (by omega) (by omega) (by omega), qr (12 + 7) (by omega) (by omega) (by omega) (by omega)]
              exact R.2.2.2.2.1 i a b
            · rw [q12 12 (by omega), q12 13 (by omega), v82 27 (by omega) (by omega), qr _ (by omega) (by omega) (by omega) (by omega)]
              exact R.2.2.2.2.2.2
          have u1 : qAg D1 V Q := fun a i q => by rw [vr a (by unfold D1 at q; omega) (by unfold D1 at q; omega) (by unfold D1 at q; omega) (by unfold D1 at q; omega)]
          have u2 : qAg DZ V M := fun a i q => by
            by_cases c82 : a = 82
            · subst c82
              exact v82 i (by unfold DZ at q; omega) (by unfold DZ at q; omega)
            · by_cases c12 : a = 12
              · subst c12
                rw [vr 12 (by omega) (by omega) (by omega) (by omega)]
                exact q12 i (by unfold DZ at q; omega)
              · rw [vq a c12 (by unfold DZ at q; omega) (by unfold DZ at q; omega) (by unfold DZ at q; omega) c82 (by unfold DZ at q; omega) (by unfold DZ at q; omega) (by unfold DZ at q; omega)]
          have V10 : V 12 10 = p + 1 := by rw [vr 12 (by omega) (by omega) (by omega) (by omega)]; exact q10
          have z : qZ V 12 := by
            intro i i1 i2
            rw [V10] at i1
            have zi := (iZ h).1 i (by omega) i2
            rw [vq (12 + 5) (by omega) (by omega) (by omega) (by omega) (by omega) (by omega) (by omega) (by omega), vq (12 + 6) (by omega) (by omega) (by omega) (by omega) (by omega) (by omega) (by omega) (by omega), vq (12 + 7) (by omega) (by omega) (by omega) (by omega) (by omega) (by omega) (by omega) (by omega), vq (12 + 8) (by omega) (by omega) (by omega) (by omega) (by omega) (by omega) (by omega) (by omega)]
            exact zi
          refine ⟨qI p, Q, V, ?_, s2, qInv_edit n1 mn u1 (qRest_z h.2.2 u2 (by omega) z)⟩
          rw [E_X11_person]
          have cp' : M 12 10 < 6 := by omega
          simp (disch := first | assumption | omega) only [B_X11_person_0, B_X11_person_6, B_X11_person_9, B_X11_person_13, B_X11_person_18, B_X11_person_24, B_X11_person_30, B_X11_person_45, B_X11_person_55, not_true_eq_false, not_false_eq_true, if_true, if_false, qlk, qtk, qif_t, qif_f, qbd_some, Option.toList_some, Option.toList_none, List.cons_append, List.nil_append, List.append_nil, k1, v1, sX11_isWork_y, s1']
        · have n0' : M 82 0 = 6 := by omega
          refine qStep_r (v := qI (-4)) h ?_ ?_
          · rw [E_X11_person]
            simp (disch := first | assumption | omega) only [B_X11_person_0, B_X11_person_6, B_X11_person_9, B_X11_person_13, B_X11_person_18, B_X11_person_24, B_X11_person_30, B_X11_person_42, not_true_eq_false, not_false_eq_true, if_true, if_false, qlk, qtk, qif_t, qif_f, qbd_some, Option.toList_some, Option.toList_none, List.cons_append, List.nil_append, List.append_nil, k1, v1, sX11_isWork_y]
          · rw [E_X12_person]
            simp (disch := first | assumption | omega) only [B_X12_person_0, B_X12_person_8, B_X12_person_11, B_X12_person_16, B_X12_person_21, B_X12_person_29, B_X12_person_35, B_X12_person_44, not_true_eq_false, not_false_eq_true, if_true, if_false, qlk, qtk, qif_t, qif_f, qbd_some, Option.toList_some, Option.toList_none, List.cons_append, List.nil_append, List.append_nil, k2, v2, sX12_isWork_y, n0']
      · have v1 := sX11_isIn_n (M := M) cv
        have v2 := sX12_in_n (M := M) cv
        refine qStep_r (v := qI (-2)) h ?_ ?_
        · rw [E_X11_person]
          simp (disch := first | assumption | omega) only [B_X11_person_0, B_X11_person_6, B_X11_person_9, B_X11_person_13, B_X11_person_18, B_X11_person_24, B_X11_person_27, not_true_eq_false, not_false_eq_true, if_true, if_false, qlk, qtk, qif_t, qif_f, qbd_some, Option.toList_some, Option.toList_none, List.cons_append, List.nil_append, List.append_nil, k1, v1, sX11_isWork_y]
        · rw [E_X12_person]
          simp (disch := first | assumption | omega) only [B_X12_person_0, B_X12_person_8, B_X12_person_11, B_X12_person_16, B_X12_person_21, B_X12_person_29, B_X12_person_32, not_true_eq_false, not_false_eq_true, if_true, if_false, qlk, qtk, qif_t, qif_f, qbd_some, Option.toList_some, Option.toList_none, List.cons_append, List.nil_append, List.append_nil, k2, v2, sX12_isWork_y]
    · refine qStep_r (v := qI (-1)) h ?_ ?_
      · rw [E_X11_person]
        simp (disch := first | assumption | omega) only [B_X11_person_0, B_X11_person_6, B_X11_person_9, B_X11_person_13, B_X11_person_16, not_true_eq_false, not_false_eq_true, if_true, if_false, qlk, qtk, qif_t, qif_f, qbd_some, Option.toList_some, Option.toList_none, List.cons_append, List.nil_append, List.append_nil, k1, sX11_isWork_n]
      · rw [E_X12_person]
        simp (disch := first | assumption | omega) only [B_X12_person_0, B_X12_person_8, B_X12_person_11, B_X12_person_16, B_X12_person_19, not_true_eq_false, not_false_eq_true, if_true, if_false, qlk, qtk, qif_t, qif_f, qbd_some, Option.toList_some, Option.toList_none, List.cons_append, List.nil_append, List.append_nil, k2, sX12_isWork_n]
  · have k1 := sX11_isIn_n (M := M) ck
    have k2 := sX12_in_n (M := M) ck
    refine qStep_r (v := qI (-1)) h ?_ ?_
    · rw [E_X11_person]
      simp (disch := first | assumption | omega) only [B_X11_person_0, B_X11_person_6, B_X11_person_16, not_true_eq_false, not_false_eq_true, if_true, if_false, qlk, qtk, qif_t, qif_f, qbd_some, Option.toList_some, Option.toList_none, List.cons_append, List.nil_append, List.append_nil, k1]
    · rw [E_X12_person]
      simp (disch := first | assumption | omega) only [B_X12_person_0, B_X12_person_8, B_X12_person_19, not_true_eq_false, not_false_eq_true, if_true, if_false, qlk, qtk, qif_t, qif_f, qbd_some, Option.toList_some, Option.toList_none, List.cons_append, List.nil_append, List.append_nil, k2]
