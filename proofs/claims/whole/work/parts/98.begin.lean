/-! WHAT HOLDS WHEN THE LAW IS ENTERED -/
theorem lw_cls {args : Array Value} {s : State} (hts : ∀ w ∈ qT, w.before args s = true) : ∃ D : va_G, ∀ (c : Nat) (q : vw_C), vwCl[c]? = some q → u_Kn s q.1 q.2.1 q.2.2 (D.1 c) (D.2 c) := by
  have h : ∀ c : Nat, ∃ x : ClassId × (Nat → Nat), ∀ q : vw_C, vwCl[c]? = some q → u_Kn s q.1 q.2.1 q.2.2 x.1 x.2 := by
    intro c
    match c with
    | 0 =>
      obtain ⟨a, d, k⟩ := u_known hts inT0 (hts _ tw_291)
      exact ⟨(a, d), fun q hq => by
        have hq : some (RX0, TX0, 4) = some q := hq
        cases hq
        exact k⟩
    | 1 =>
      obtain ⟨a, d, k⟩ := u_known hts inT1 (hts _ tw_142)
      exact ⟨(a, d), fun q hq => by
        have hq : some (RX1, TX1, 0) = some q := hq
        cases hq
        exact k⟩
    | 2 =>
      obtain ⟨a, d, k⟩ := u_known hts inT2 (hts _ tw_121)
      exact ⟨(a, d), fun q hq => by
        have hq : some (RX2, TX2, 0) = some q := hq
        cases hq
        exact k⟩
    | 3 =>
      obtain ⟨a, d, k⟩ := u_known hts inT3 (hts _ tw_156)
      exact ⟨(a, d), fun q hq => by
        have hq : some (RX3, TX3, 7) = some q := hq
        cases hq
        exact k⟩
    | 4 =>
      obtain ⟨a, d, k⟩ := u_known hts inT4 (hts _ tw_107)
      exact ⟨(a, d), fun q hq => by
        have hq : some (RX4, TX4, 0) = some q := hq
        cases hq
        exact k⟩
    | 5 =>
      obtain ⟨a, d, k⟩ := u_known hts inT5 (hts _ tw_114)
      exact ⟨(a, d), fun q hq => by
        have hq : some (RX5, TX5, 0) = some q := hq
        cases hq
        exact k⟩
    | 6 =>
      obtain ⟨a, d, k⟩ := u_known hts inT6 (hts _ tw_270)
      exact ⟨(a, d), fun q hq => by
        have hq : some (RX6, TX6, 4) = some q := hq
        cases hq
        exact k⟩
    | 7 =>
      obtain ⟨a, d, k⟩ := u_known hts inT7 (hts _ tw_135)
      exact ⟨(a, d), fun q hq => by
        have hq : some (RX7, TX7, 0) = some q := hq
        cases hq
        exact k⟩
    | 8 =>
      obtain ⟨a, d, k⟩ := u_known hts inT8 (hts _ tw_190)
      exact ⟨(a, d), fun q hq => by
        have hq : some (RX8, TX8, 14) = some q := hq
        cases hq
        exact k⟩
    | 9 =>
      obtain ⟨a, d, k⟩ := u_known hts inT9 (hts _ tw_128)
      exact ⟨(a, d), fun q hq => by
        have hq : some (RX9, TX9, 0) = some q := hq
        cases hq
        exact k⟩
    | 10 =>
      obtain ⟨a, d, k⟩ := u_known hts inT10 (hts _ tw_149)
      exact ⟨(a, d), fun q hq => by
        have hq : some (RX10, TX10, 0) = some q := hq
        cases hq
        exact k⟩
    | 11 =>
      obtain ⟨a, d, k⟩ := u_known hts inT11 (hts _ tw_98)
      exact ⟨(a, d), fun q hq => by
        have hq : some (RX11, TX11, 18) = some q := hq
        cases hq
        exact k⟩
    | 12 =>
      obtain ⟨a, d, k⟩ := u_known hts inT12 (hts _ tw_846)
      exact ⟨(a, d), fun q hq => by
        have hq : some (RX12, TX12, 75) = some q := hq
        cases hq
        exact k⟩
    | n + 13 => exact ⟨(0, fun _ => 0), fun q hq => by
        have hl : n + 13 < 13 := (List.getElem?_eq_some_iff.mp hq).1
        omega⟩
  obtain ⟨f, hf⟩ := Classical.axiomOfChoice h
  exact ⟨(fun c => (f c).1, fun c => (f c).2), hf⟩
theorem lw_arP {args : Array Value} {s : State} {ty : FieldType} (h : (Cond.arrayClass ty).before args s = true) : ∃ cA : ClassId, ArrOfT s cA ty ∧ s.vm.findClass ("[" ++ ty.toString) = some cA := by
  obtain ⟨cA, kA, comp, h1, h2, h3⟩ := Cond.arrayClass_spec h
  exact ⟨cA, fun N z => ⟨(fun k h => by cases h), kA, h2, comp, h3⟩, h1⟩
theorem lw_arO {args : Array Value} {s : State} {C : String} (h : (Cond.arrayOver (.object C)).before args s = true) : ∃ cA : ClassId, ArrOfT s cA (.object C) ∧ va_RA s cA (.object C) := by
  obtain ⟨comp, cA, kA, h1, h2, h3, h4, h5⟩ := Cond.arrayOver_spec h
  exact ⟨cA, fun N z => ⟨(fun k h => by cases h), kA, h3, comp, h4⟩, kA, comp, h3, h4, h1, h5⟩
theorem lw_arA {args : Array Value} {s : State} {t : FieldType} (h : (Cond.arrayOver (.array t)).before args s = true) : ∃ cA : ClassId, ArrOfT s cA (.array t) ∧ va_RA s cA (.array t) := by
  obtain ⟨comp, cA, kA, h1, h3, h4, h5⟩ := qm_over h
  exact ⟨cA, fun N z => ⟨(fun k h => by cases h), kA, h3, comp, h4⟩, h5⟩
theorem lw_ext {args : Array Value} {s : State} (hts : ∀ w ∈ lw_tbl, w.before args s = true) : ∀ w ∈ qEx, va_Nw w s := by
  intro w hw
  obtain ⟨h1, h2⟩ := List.mem_filter.mp hw
  have h3 := hts w h1
  cases w with
  | methodLinkNest a b d f => exact va_Nw.of rfl h3
  | castable a b => exact va_Nw.of rfl h3
  | arrayOver ty => exact h3
  | _ => cases h2
theorem lw_qT {args : Array Value} {s : State} (hts : ∀ w ∈ lw_tbl, w.before args s = true) : ∀ w ∈ qT, w.before args s = true := fun w hw => hts w (List.mem_filter.mp hw).1
theorem lw_arr {args : Array Value} {s : State} (hts : ∀ w ∈ lw_tbl, w.before args s = true) : ∃ dA : Nat → ClassId, ∀ (n : Nat) (ad : Int → Option Nat) (D : va_G) (k : Nat) (q : ClassId × FieldType), (qtys (n, ad, D, dA))[k]? = some q → ArrOfT s q.1 q.2 ∧ va_RA s q.1 q.2 := by
  have hq := lw_qT hts
  have hx := lw_ext hts
  obtain ⟨c0, a0, b0⟩ := lw_arP (hq _ tw_188)
  obtain ⟨c1, a1, b1⟩ := lw_arP (hq _ tw_187)
  obtain ⟨c2, a2, b2⟩ := lw_arP (hq _ tw_267)
  obtain ⟨c3, a3, b3⟩ := lw_arP (hq _ tw_372)
  obtain ⟨c4, a4, b4⟩ := lw_arO (hx _ tw_106)
  obtain ⟨c5, a5, b5⟩ := lw_arO (hx _ tw_289)
  obtain ⟨c6, a6, b6⟩ := lw_arA (hx _ tw_316)
  refine ⟨fun t => if t = 100 then c0 else if t = 101 then c1 else if t = 102 then c2 else if t = 103 then c3 else if t = 104 then c4 else if t = 105 then c5 else c6, fun n ad D k q hk => ?_⟩
  match k with
  | 0 =>
    have hk : some (c0, FieldType.int) = some q := hk
    cases hk
    exact ⟨a0, b0⟩
  | 1 =>
    have hk : some (c1, FieldType.byte) = some q := hk
    cases hk
    exact ⟨a1, b1⟩
  | 2 =>
    have hk : some (c2, FieldType.boolean) = some q := hk
    cases hk
    exact ⟨a2, b2⟩
  | 3 =>
    have hk : some (c3, FieldType.long) = some q := hk
    cases hk
    exact ⟨a3, b3⟩
  | 4 =>
    have hk : some (c4, FieldType.object RX4) = some q := hk
    cases hk
    exact ⟨a4, b4⟩
  | 5 =>
    have hk : some (c5, FieldType.object RX3) = some q := hk
    cases hk
    exact ⟨a5, b5⟩
  | 6 =>
    have hk : some (c6, FieldType.array .long) = some q := hk
    cases hk
    exact ⟨a6, b6⟩
  | n + 7 =>
    have hl : n + 7 < 7 := (List.getElem?_eq_some_iff.mp hk).1
    omega
def lw_tm (i : Nat) : Term := .string RX3 (qST.getD i (0, "")).1
theorem lw_i5 {i : Nat} (h : i < 5) : i = 0 ∨ i = 1 ∨ i = 2 ∨ i = 3 ∨ i = 4 := by omega
theorem lw_words {args : Array Value} {s : State} (h : (Jvm.Cond.and given_1 narrow_1).before args s = true) (hts : ∀ w ∈ lw_tbl, w.before args s = true) (A : Nat → Prop) (hA : ∀ a : Nat, a < s.heap.size → ¬ A a) :
    ∃ adK adV : Nat → Nat, vk_S 5 qSL qSB adK adV A s s.heap ∧ ∀ (i : Nat) (q : Nat × String), qST[i]? = some q → vk_R RX3 q.1 q.2 (adK i) s := by
  have hs := flat_of_before _ h
  obtain ⟨adK, adV, h1, h2⟩ := vk_Sof (args := args) (s := s) (N := 5) (tm := lw_tm) (len := qSL) (byt := qSB) (A := A) (by decide)
    (fun i hi => by rcases lw_i5 hi with rfl | rfl | rfl | rfl | rfl <;> exact hs _ (by decide +kernel))
    (fun i hi => by rcases lw_i5 hi with rfl | rfl | rfl | rfl | rfl <;> exact hs _ (by decide +kernel))
    (fun i hi => by rcases lw_i5 hi with rfl | rfl | rfl | rfl | rfl <;> exact hs _ (by decide +kernel))
    (fun i hi => by rcases lw_i5 hi with rfl | rfl | rfl | rfl | rfl <;> exact hs _ (by decide +kernel))
    (by
      have h1 : ∀ i : Nat, i < 5 → ∀ j : Nat, j < qSL.getD i 0 → Cond.eq (.elem (.field (lw_tm i) "java/lang/String" "value" "[B") (.int (Int32.ofNat j))) (.int ((qSB.getD i []).getD j 0)) ∈ flatC (Jvm.Cond.and given_1 narrow_1) := by decide +kernel
      exact fun i hi j hj => hs _ (h1 i hi j hj))
    (by
      have h1 : ∀ i : Nat, i < 5 → ∀ j : Nat, j < 5 → i ≠ j → Cond.not (Cond.eq (lw_tm i) (lw_tm j)) ∈ flatC (Jvm.Cond.and given_1 narrow_1) ∨ Cond.not (Cond.eq (lw_tm j) (lw_tm i)) ∈ flatC (Jvm.Cond.and given_1 narrow_1) := by decide +kernel
      exact fun i j hi hj hij => (h1 i hi j hj hij).imp (hs _) (hs _)) hA
  refine ⟨adK, adV, h1, fun i q hq => ?_⟩
  match i with
  | 0 =>
    have hq : some (99, "brisk") = some q := hq
    cases hq
    exact vk_R.of (hts (.stringRef RX3 99 "brisk") (List.mem_of_getElem? (i := 486) (by decide +kernel))) (h2 0 (by decide))
  | 1 =>
    have hq : some (101, "slack") = some q := hq
    cases hq
    exact vk_R.of (hts (.stringRef RX3 101 "slack") (List.mem_of_getElem? (i := 487) (by decide +kernel))) (h2 1 (by decide))
  | 2 =>
    have hq : some (103, "heap") = some q := hq
    cases hq
    exact vk_R.of (hts (.stringRef RX3 103 "heap") (List.mem_of_getElem? (i := 488) (by decide +kernel))) (h2 2 (by decide))
  | 3 =>
    have hq : some (105, "post") = some q := hq
    cases hq
    exact vk_R.of (hts (.stringRef RX3 105 "post") (List.mem_of_getElem? (i := 489) (by decide +kernel))) (h2 3 (by decide))
  | 4 =>
    have hq : some (106, "") = some q := hq
    cases hq
    exact vk_R.of (hts (.stringRef RX3 106 "") (List.mem_of_getElem? (i := 490) (by decide +kernel))) (h2 4 (by decide))
  | n + 5 =>
    have hl : n + 5 < 5 := (List.getElem?_eq_some_iff.mp hq).1
    omega
theorem lw_table {args : Array Value} {s : State} (h : (Jvm.Cond.and given_1 narrow_1).before args s = true) (hts : ∀ w ∈ lw_tbl, w.before args s = true) (A : Nat → Prop) (hA : ∀ a : Nat, a < s.heap.size → ¬ A a) :
    ∃ t : Nat, va_Z RX11 "KIND_ABOVE" "[I" (.ref t) A s s.heap ∧ va_T .int t 7 (fun j => .int (Int32.ofInt (qKT.getD j 0))) A s s.heap := by
  have hs := flat_of_before _ h
  have h1 : ∀ j : Nat, j < 7 → Cond.eq (.elem (.static RX11 "KIND_ABOVE" "[I") (.int (Int32.ofNat j))) (.int (Int32.ofInt (qKT.getD j 0))) ∈ flatC (Jvm.Cond.and given_1 narrow_1) := by decide +kernel
  obtain ⟨t, h2, h3⟩ := va_Tof (args := args) (s := s) (tm := .static RX11 "KIND_ABOVE" "[I") (ty := .int) (N := 7) (f := fun j => .int (Int32.ofInt (qKT.getD j 0))) (A := A) (by decide) (hs _ (by decide +kernel))
    (va_eqt (z := Int32.ofNat 7) (hs (Cond.eq (.length (.static RX11 "KIND_ABOVE" "[I")) (.int (Int32.ofNat 7))) (by decide +kernel))) (fun j hj => va_eqt (hs _ (h1 j hj))) hA
  exact ⟨t, va_Zref (hts (.laysStatic RX11 "KIND_ABOVE" "[I") (List.mem_of_getElem? (i := 820) (by decide +kernel))) (hts (.initialized RX11) (List.mem_of_getElem? (i := 78) (by decide +kernel))) h2 hA, h3⟩
theorem lw_form {args : Array Value} {s : State} (h : (Jvm.Cond.and given_1 narrow_1).before args s = true) (hts : ∀ w ∈ lw_tbl, w.before args s = true) (A : Nat → Prop) (hA : ∀ a : Nat, a < s.heap.size → ¬ A a) :
    ∃ fm : Option Nat, va_Z "jdk/internal/util/Preconditions" "SIOOBE_FORMATTER" "Ljava/util/function/BiFunction;" (va_rf fm) A s s.heap := by
  have hs := flat_of_before _ h
  rcases va_Zqof (hts (.laysStatic "jdk/internal/util/Preconditions" "SIOOBE_FORMATTER" "Ljava/util/function/BiFunction;") (List.mem_of_getElem? (i := 520) (by decide +kernel))) (hts (.initialized "jdk/internal/util/Preconditions") (List.mem_of_getElem? (i := 95) (by decide +kernel))) (hs _ (by decide +kernel)) hA with h1 | ⟨t, h1⟩
  · exact ⟨none, h1⟩
  · exact ⟨some t, h1⟩
theorem lw_comp {args : Array Value} {s : State} (h : (Jvm.Cond.and given_1 narrow_1).before args s = true) (hts : ∀ w ∈ lw_tbl, w.before args s = true) (A : Nat → Prop) (hA : ∀ a : Nat, a < s.heap.size → ¬ A a) :
    va_Z "java/lang/String" "COMPACT_STRINGS" "Z" (.int 1) A s s.heap := by
  have hs := flat_of_before _ h
  exact va_Zof (hts (.laysStatic "java/lang/String" "COMPACT_STRINGS" "Z") (List.mem_of_getElem? (i := 504) (by decide +kernel))) (hts (.initialized "java/lang/String") (List.mem_of_getElem? (i := 93) (by decide +kernel))) (va_eqi (hs _ (by decide +kernel))) hA
/-- the addresses outside -/
def lw_ad (b t : Nat) (fm : Option Nat) (adK adV : Nat → Nat) (z : Int) : Option Nat :=
  if z = -10 then some b else if z = -11 then some t else if z = -12 then fm else if -6 ≤ z ∧ z ≤ -2 then some (adK (-2 - z).toNat) else if -24 ≤ z ∧ z ≤ -20 then some (adV (-20 - z).toNat) else none
theorem lw_X {args : Array Value} {s : State} {b L : Nat} {xs : Nat → Int32} (h : (Jvm.Cond.and given_1 narrow_1).before args s = true) (hts : ∀ w ∈ lw_tbl, w.before args s = true) (hb : b < s.heap.size) (hx : va_X b L xs s s.heap) :
    ∃ X : qX, X.1 = s.heap.size ∧ qK X s ∧ qB X s s.heap ∧ qScr X s b L xs := by
  have hA : ∀ a : Nat, a < s.heap.size → ¬ (fun q : Nat => s.heap.size ≤ q) a := fun a ha hq => by
    have hq : s.heap.size ≤ a := hq
    omega
  obtain ⟨D, hD⟩ := lw_cls (lw_qT hts)
  obtain ⟨dA, hd⟩ := lw_arr hts
  obtain ⟨adK, adV, w1, w2⟩ := lw_words h hts _ hA
  obtain ⟨t, t1, t2⟩ := lw_table h hts _ hA
  obtain ⟨fm, f1⟩ := lw_form h hts _ hA
  have c1 := lw_comp h hts _ hA
  refine ⟨(s.heap.size, lw_ad b t fm adK adV, D, dA), rfl, ⟨⟨hD, fun k q hq => hd _ _ _ k q hq⟩, lw_ext hts⟩, ⟨Nat.le_refl _, ⟨adK, adV, fun i hi => ?_, w1, w2⟩, c1, f1, t1, t, rfl, t2⟩, rfl, hb, hb, hx⟩
  show lw_ad b t fm adK adV (-2 - i) = some (adK i) ∧ lw_ad b t fm adK adV (-20 - i) = some (adV i)
  unfold lw_ad
  constructor
  · rw [if_neg (by omega), if_neg (by omega), if_neg (by omega), if_pos (by omega)]
    congr 2
    omega
  · rw [if_neg (by omega), if_neg (by omega), if_neg (by omega), if_neg (by omega), if_pos (by omega)]
    congr 2
    omega
