/-! THE LAW'S LOOP -/
noncomputable def C_law (L : Nat) (xs : Nat → Int32) : List (Nat × qOp) := (16, qo_sw) :: (CL_0 L xs ++ (CL_1 L xs ++ (CL_2 L xs ++ (CL_3 L xs ++ (CL_4 L xs ++ (CL_5 L xs ++ (CL_6 L xs ++ (CL_7 L xs ++ (CL_8 L xs ++ (CL_9 L xs))))))))))
theorem K_law {X : qX} {l : Launch} {b L : Nat} {xs : Nat → Int32} {nm : String} (hL : L ≤ 3072) : ∀ q ∈ C_law L xs, qOkS X l b L xs 31 cL_law 4 RL nm (some .boolean) q.1 q.2 := qconsS (qOkS_of (qk_sw dL_law_16)) (List.forall_mem_append.mpr ⟨KL_0 hL, (List.forall_mem_append.mpr ⟨KL_1 hL, (List.forall_mem_append.mpr ⟨KL_2 hL, (List.forall_mem_append.mpr ⟨KL_3 hL, (List.forall_mem_append.mpr ⟨KL_4 hL, (List.forall_mem_append.mpr ⟨KL_5 hL, (List.forall_mem_append.mpr ⟨KL_6 hL, (List.forall_mem_append.mpr ⟨KL_7 hL, (List.forall_mem_append.mpr ⟨KL_8 hL, (KL_9 hL)⟩)⟩)⟩)⟩)⟩)⟩)⟩)⟩)⟩)
def qx (xs : Nat → Int32) (j : Nat) : Int := (xs j).toInt
def qLl (i : Nat) : qLs := [some (qA (-10)), some (qA 0), some (qA 82), some (qI (i : Int))]
set_option maxRecDepth 20000 in
theorem lw_made {L : Nat} {xs : Nat → Int32} : qlim (C_law L xs) (0, [some (qA (-10)), none, none, none], [], hk_0) = qlim (C_law L xs) (16, [some (qA (-10)), some (qA 0), some (qA 82), none], [], hk_333) := by
  refine Eq.trans (b := qlim (C_law L xs) (3, [some (qA (-10)), none, none, none], [qA 0], hk_1)) (qs_new rfl (by decide +kernel)) ?_
  refine (qlim_n (n := 1) (c' := (4, [some (qA (-10)), none, none, none], [qA 0, qA 0], hk_1)) rfl).trans ?_
  refine Eq.trans (b := qlim (C_law L xs) (7, [some (qA (-10)), none, none, none], [qA 0], hk_186)) (qlim_callc (ci := 11) (nn := 18) rfl rfl rfl (by decide) (by decide) (by decide +kernel) rfl cs_34) ?_
  refine (qlim_n (n := 1) (c' := (8, [some (qA (-10)), some (qA 0), none, none], [], hk_186)) rfl).trans ?_
  refine Eq.trans (b := qlim (C_law L xs) (11, [some (qA (-10)), some (qA 0), none, none], [qA 82], hk_187)) (qs_new rfl (by decide +kernel)) ?_
  refine (qlim_n (n := 1) (c' := (12, [some (qA (-10)), some (qA 0), none, none], [qA 82, qA 82], hk_187)) rfl).trans ?_
  refine Eq.trans (b := qlim (C_law L xs) (15, [some (qA (-10)), some (qA 0), none, none], [qA 82], hk_333)) (qlim_callc (ci := 12) (nn := 75) rfl rfl rfl (by decide) (by decide) (by decide +kernel) rfl cs_35) ?_
  refine (qlim_n (n := 1) (c' := (16, [some (qA (-10)), some (qA 0), some (qA 82), none], [], hk_333)) rfl).trans ?_
  rfl
set_option maxRecDepth 20000 in
theorem lw_start {L : Nat} {xs : Nat → Int32} : qlim (C_law L xs) (0, [some (qA (-10)), none, none, none], [], hk_0) = qlim (C_law L xs) (18, qLl 0, [], qH0 M0) := by
  refine lw_made.trans ?_
  have e : qst (C_law L xs) (16, [some (qA (-10)), some (qA 0), some (qA 82), none], [], hk_333) = .inl (17, [some (qA (-10)), some (qA 0), some (qA 82), none], [qI 0], qH0 M0) := by
    show qo_sw (16, [some (qA (-10)), some (qA 0), some (qA 82), none], [], hk_333) = _
    unfold qo_sw
    rw [if_pos rfl]
  refine (qlim_s e).trans ?_
  exact qlim_n (n := 1) (c' := (18, qLl 0, [], qH0 M0)) rfl
theorem ql_arg {C : List (Nat × qOp)} {pc j L i : Nat} {xs : Nat → Int32} {z : Int} {st : List qV} {h : qH} (h0 : qft C pc = some (qo_aload 0 1)) (h1 : qft C (pc + 1) = some (qo_iload 3 1)) (h2 : qft C (pc + 1 + 1) = some (qo_ci z 1)) (h3 : qft C (pc + 1 + 1 + 1) = some qo_iadd) (h4 : qft C (pc + 1 + 1 + 1 + 1) = some (qo_sld L xs)) (hz : z = (j : Int)) (hi : i + 6 ≤ L) (hj : j < 6) (hL : L ≤ 3072) :
    qlim C (pc, qLl i, st, h) = qlim C (pc + 1 + 1 + 1 + 1 + 1, qLl i, qI (qx xs (i + j)) :: st, h) := by
  subst hz
  refine (qs_of (c := (pc, qLl i, st, h)) h0 (c' := (pc + 1, qLl i, qA (-10) :: st, h)) rfl).trans ?_
  refine (qs_of (c := (pc + 1, qLl i, qA (-10) :: st, h)) h1 (c' := (pc + 1 + 1, qLl i, qI i :: qA (-10) :: st, h)) rfl).trans ?_
  refine (qs_of (c := (pc + 1 + 1, qLl i, qI i :: qA (-10) :: st, h)) h2 (c' := (pc + 1 + 1 + 1, qLl i, qI j :: qI i :: qA (-10) :: st, h)) rfl).trans ?_
  refine (qs_of (c := (pc + 1 + 1 + 1, qLl i, qI j :: qI i :: qA (-10) :: st, h)) h3 (c' := (pc + 1 + 1 + 1 + 1, qLl i, qI (kadd i j) :: qA (-10) :: st, h)) rfl).trans ?_
  have e : kadd (i : Int) (j : Int) = ((i + j : Nat) : Int) := by rw [kadd_eq (by omega) (by omega)]; omega
  rw [e]
  exact qs_of (c := (pc + 1 + 1 + 1 + 1, qLl i, qI ((i + j : Nat) : Int) :: qA (-10) :: st, h)) h4 (if_pos ⟨rfl, by omega, by omega⟩)
theorem ql_bool {C : List (Nat × qOp)} {pc : Nat} {ls : qLs} {x : Int} {st : List qV} {h : qH} (h0 : qft C pc = some (qo_ifeq (pc + 7))) (h1 : qft C (pc + 3) = some (qo_ci 1 1)) (h2 : qft C (pc + 3 + 1) = some (qo_goto (pc + 8))) (h3 : qft C (pc + 7) = some (qo_ci 0 1)) : qlim C (pc, ls, qI x :: st, h) = qlim C (pc + 8, ls, qI (if x = 0 then 0 else 1) :: st, h) := by
  by_cases e : x = 0
  · rw [if_pos e]
    refine (qs_of (c := (pc, ls, qI x :: st, h)) h0 (c' := (pc + 7, ls, st, h)) (by show Sum.inl (if x = 0 then pc + 7 else pc + 3, ls, st, h) = _; rw [if_pos e])).trans ?_
    exact qs_of (c := (pc + 7, ls, st, h)) h3 rfl
  · rw [if_neg e]
    refine (qs_of (c := (pc, ls, qI x :: st, h)) h0 (c' := (pc + 3, ls, st, h)) (by show Sum.inl (if x = 0 then pc + 7 else pc + 3, ls, st, h) = _; rw [if_neg e])).trans ?_
    refine (qs_of (c := (pc + 3, ls, st, h)) h1 (c' := (pc + 3 + 1, ls, qI 1 :: st, h)) rfl).trans ?_
    exact qs_of (c := (pc + 3 + 1, ls, qI 1 :: st, h)) h2 rfl
theorem ql_01 (x : Int) : (if x = 0 then (0 : Int) else 1) = 0 ∨ (if x = 0 then (0 : Int) else 1) = 1 := by
  by_cases e : x = 0
  · rw [if_pos e]; exact Or.inl rfl
  · rw [if_neg e]; exact Or.inr rfl
theorem qs_iceq_t {C : List (Nat × qOp)} {pc t : Nat} {ls : qLs} {z : Int} {st : List qV} {h : qH} (h0 : qft C pc = some (qo_iceq t)) : qlim C (pc, ls, qI z :: qI z :: st, h) = qlim C (t, ls, st, h) :=
  qs_of (c := (pc, ls, qI z :: qI z :: st, h)) h0 (by show Sum.inl (if z = z then t else pc + 3, ls, st, h) = _; rw [if_pos rfl])
theorem qs_ifeq_t {C : List (Nat × qOp)} {pc t : Nat} {ls : qLs} {st : List qV} {h : qH} (h0 : qft C pc = some (qo_ifeq t)) : qlim C (pc, ls, qI 0 :: st, h) = qlim C (t, ls, st, h) :=
  qs_of (c := (pc, ls, qI 0 :: st, h)) h0 rfl
theorem qs_lcmp_t {C : List (Nat × qOp)} {pc : Nat} {ls : qLs} {z : Int} {st : List qV} {h : qH} (h0 : qft C pc = some qo_lcmp) : qlim C (pc, ls, qJ z :: qJ z :: st, h) = qlim C (pc + 1, ls, qI 0 :: st, h) := by
  have e : (lg_cmp (Int64.ofInt z) (Int64.ofInt z)).toInt = 0 := by
    unfold lg_cmp
    simp
  refine qs_of (c := (pc, ls, qJ z :: qJ z :: st, h)) h0 ?_
  show Sum.inl (pc + 1, ls, qI (lg_cmp (Int64.ofInt z) (Int64.ofInt z)).toInt :: st, h) = _
  rw [e]
set_option maxRecDepth 20000 in
theorem ql_end {L : Nat} {xs : Nat → Int32} {i : Nat} {h : qH} (hi : i + 6 ≤ L) (hL : L ≤ 3072) : qlim (C_law L xs) (1322, qLl i, [], h) = qlim (C_law L xs) (18, qLl (i + 6), [], h) := by
  have e : kadd (i : Int) 6 = ((i + 6 : Nat) : Int) := by rw [kadd_eq (by omega) (by omega)]; omega
  refine (qlim_n (n := 2) (c' := (18, [some (qA (-10)), some (qA 0), some (qA 82), some (qI (kadd (i : Int) 6))], [], h)) rfl).trans ?_
  rw [e]
  rfl
set_option maxRecDepth 20000 in
theorem ql_done {L : Nat} {xs : Nat → Int32} {i : Nat} {h : qH} : qlim (C_law L xs) (1328, qLl i, [], h) = some (some (qI 1), h) := by
  refine (qlim_n (n := 1) (c' := (1329, qLl i, [qI 1], h)) rfl).trans ?_
  exact qlim_r rfl
theorem qtk_mem {td : Nat} : ∀ (tl : List Nat) (lo a : Int), qtk tl td lo a = td ∨ qtk tl td lo a ∈ tl
  | [], _, _ => Or.inl rfl
  | t :: r, lo, a => by
    unfold qtk
    by_cases e : a = lo
    · rw [if_pos e]; exact Or.inr List.mem_cons_self
    · rw [if_neg e]
      rcases qtk_mem r (lo + 1) a with q | q
      · exact Or.inl q
      · exact Or.inr (List.mem_cons_of_mem _ q)
def qTg : List Nat := [188, 231, 264, 297, 346, 389, 422, 445, 458, 481, 504, 537, 560, 583, 616, 639, 682, 715, 748, 792, 826, 859, 882, 915, 928, 961, 974, 987, 1030, 1053, 1086, 1109, 1152, 1225, 1259]
set_option maxRecDepth 20000 in
theorem ql_head {L : Nat} {xs : Nat → Int32} {i : Nat} {h : qH} (hL : L ≤ 3072) (hi : i ≤ L) : qlim (C_law L xs) (18, qLl i, [], h) = qlim (C_law L xs) ((if (L : Int) - 6 < i then 1328 else 27), qLl i, [], h) := by
  have e : ksub (L : Int) 6 = (L : Int) - 6 := ksub_eq (by omega) (by omega)
  refine (qlim_n (n := 5) (c' := (24, qLl i, [qI (ksub (L : Int) 6), qI i], h)) rfl).trans ?_
  rw [e]
  exact qlim_n (n := 1) (c' := ((if (L : Int) - 6 < i then 1328 else 27), qLl i, [], h)) rfl
set_option maxRecDepth 20000 in
theorem ql_sel {L : Nat} {xs : Nat → Int32} {i : Nat} {h : qH} (hL : L ≤ 3072) (hi : i + 6 ≤ L) : ∃ t : Nat, (t = 1322 ∨ t ∈ qTg) ∧ qlim (C_law L xs) (27, qLl i, [], h) = qlim (C_law L xs) (t, qLl i, [], h) := by
  refine ⟨qtk qTg 1322 0 (kand (qx xs i) 63), qtk_mem _ _ _, ?_⟩
  refine (qlim_n (n := 2) (c' := (29, qLl i, [qI i, qA (-10)], h)) rfl).trans ?_
  refine Eq.trans (b := qlim (C_law L xs) (30, qLl i, [qI (qx xs i)], h)) (qs_of (c := (29, qLl i, [qI i, qA (-10)], h)) (op := qo_sld L xs) rfl (if_pos ⟨rfl, by omega, by omega⟩)) ?_
  exact qlim_n (n := 3) (c' := (qtk qTg 1322 0 (kand (qx xs i) 63), qLl i, [], h)) rfl
