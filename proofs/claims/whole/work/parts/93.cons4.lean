/-! what the constructors wrote -/
def qwlk : List (Int × Int × Int) → Int → Int → Int
  | [], _, _ => 0
  | (a', k', v) :: r, a, k => if a = a' ∧ k = k' then v else qwlk r a k
theorem qwlk_ne {a' k' v a k : Int} {r : List (Int × Int × Int)} (h : ¬ a = a') : qwlk ((a', k', v) :: r) a k = qwlk r a k := if_neg (fun q => h q.1)
theorem qwlk_no {a k : Int} : ∀ {r : List (Int × Int × Int)}, (r.all (fun w => decide (¬ w.1 = a))) = true → qwlk r a k = 0
  | [], _ => rfl
  | (a', k', v) :: r, h => by
    rw [List.all_cons, Bool.and_eq_true] at h
    have h1 : ¬ a' = a := of_decide_eq_true h.1
    rw [qwlk_ne (fun q => h1 q.symm)]
    exact qwlk_no h.2
/-- where there are cells, the numbers are those of the list -/
def qWr (h : qH) (wl : List (Int × Int × Int)) : Prop := ∀ (id : Nat) (tn : Nat × Nat), h.1.1[id]? = some tn → ∀ k : Nat, k < tn.2 → h.2 id k = qwlk wl id k
theorem qWr_add {h : qH} {wl wl' : List (Int × Int × Int)} {z : Int} {t m : Nat} (hw : ∀ a k : Int, 0 ≤ a → a < z → qwlk wl' a k = qwlk wl a k) (h1 : qWr h wl) (hz : (h.1.1.length : Int) = z) (hd : ∀ k : Nat, k < m → (if t < 100 ∧ qkind t k = 3 then (-1 : Int) else 0) = qwlk wl' z k) : qWr (qadz z (t, m) h) wl' := by
  intro id tn hi k hk
  have hi : (h.1.1 ++ [(t, m)])[id]? = some tn := hi
  show (if (id : Int) = z then (if t < 100 ∧ qkind t (k : Int).toNat = 3 then (-1 : Int) else 0) else h.2 id k) = qwlk wl' id k
  by_cases e : (id : Int) = z
  · have e2 : id = h.1.1.length := by omega
    rw [if_pos e, e, Int.toNat_natCast]
    rw [e2, List.getElem?_append_right (Nat.le_refl _), Nat.sub_self] at hi
    cases hi
    exact hd k hk
  · have hl : id < (h.1.1 ++ [(t, m)]).length := (List.getElem?_eq_some_iff.mp hi).1
    rw [List.length_append] at hl
    have hl : id < h.1.1.length + 1 := hl
    rw [if_neg e]
    rw [List.getElem?_append_left (by omega)] at hi
    rw [hw id k (by omega) (by omega)]
    exact h1 id tn hi k hk
theorem qWr_addA {h : qH} {wl : List (Int × Int × Int)} {z : Int} {t m : Nat} (h1 : qWr h wl) (ht : 100 ≤ t) (hz : (h.1.1.length : Int) = z ∧ (wl.all (fun w => decide (¬ w.1 = z))) = true) : qWr (qadz z (t, m) h) wl :=
  qWr_add (fun _ _ _ _ => rfl) h1 hz.1 (fun k _ => by rw [if_neg (by omega), qwlk_no hz.2])
theorem qWr_addO {h : qH} {wl wl' : List (Int × Int × Int)} {z : Int} {t m : Nat} (hw : ∀ a k : Int, 0 ≤ a → a < z → qwlk wl' a k = qwlk wl a k) (h1 : qWr h wl) (hz : (h.1.1.length : Int) = z) (hd : ∀ k : Nat, k < m → (if t < 100 ∧ qkind t k = 3 then (-1 : Int) else 0) = qwlk wl' z k) : qWr (qadz z (t, m) h) wl' := qWr_add hw h1 hz hd
theorem qWr_put {h : qH} {wl : List (Int × Int × Int)} {a k v : Int} (h1 : qWr h wl) : qWr (h.1, qup h.2 a k v) ((a, k, v) :: wl) := by
  intro id tn hi j hj
  show (if (id : Int) = a ∧ (j : Int) = k then v else h.2 id j) = if (id : Int) = a ∧ (j : Int) = k then v else qwlk wl id j
  rw [h1 id tn hi j hj]
theorem qWr_mna {h : qH} {wl : List (Int × Int × Int)} {z : Int} {n m : Nat} (h1 : qWr h wl) (hz : (h.1.1.length : Int) = z ∧ (wl.all (fun w => decide (w.1 < z))) = true) : qWr (qmnz z n m h) wl := by
  intro id tn hi k hk
  have hi : (h.1.1 ++ (106, n) :: List.replicate n (103, m))[id]? = some tn := hi
  show (if z ≤ (id : Int) then (0 : Int) else h.2 id k) = qwlk wl id k
  by_cases e : z ≤ (id : Int)
  · rw [if_pos e]
    refine (qwlk_no ?_).symm
    have h2 := hz.2
    rw [List.all_eq_true] at h2 ⊢
    intro w hw
    have h3 := of_decide_eq_true (h2 w hw)
    exact decide_eq_true (by omega)
  · rw [if_neg e]
    rw [List.getElem?_append_left (by omega)] at hi
    exact h1 id tn hi k hk
def wk_0 : List (Int × Int × Int) := []
theorem wr_0 : qWr hk_0 wk_0 := fun _ _ _ _ _ => rfl
def wk_1 : List (Int × Int × Int) := (9, 4, 50) :: wk_0
def wk_2 : List (Int × Int × Int) := (12, 13, -1) :: wk_1
def wk_3 : List (Int × Int × Int) := (12, 1, 99999) :: wk_2
def wk_4 : List (Int × Int × Int) := (12, 13, 9) :: wk_3
def wk_5 : List (Int × Int × Int) := (12, 12, 50) :: wk_4
def wk_6 : List (Int × Int × Int) := (21, 13, -1) :: wk_5
def wk_7 : List (Int × Int × Int) := (21, 1, 2147483647) :: wk_6
def wk_8 : List (Int × Int × Int) := (21, 13, 9) :: wk_7
def wk_9 : List (Int × Int × Int) := (21, 12, 50) :: wk_8
def wk_10 : List (Int × Int × Int) := (30, 13, -1) :: wk_9
def wk_11 : List (Int × Int × Int) := (30, 1, 99999) :: wk_10
def wk_12 : List (Int × Int × Int) := (30, 13, 9) :: wk_11
def wk_13 : List (Int × Int × Int) := (30, 12, 50) :: wk_12
def wk_14 : List (Int × Int × Int) := (39, 0, 5) :: wk_13
def wk_15 : List (Int × Int × Int) := (39, 1, 3) :: wk_14
def wk_16 : List (Int × Int × Int) := (41, 0, 10) :: wk_15
def wk_17 : List (Int × Int × Int) := (41, 1, 2) :: wk_16
def wk_18 : List (Int × Int × Int) := (43, 0, 8) :: wk_17
def wk_19 : List (Int × Int × Int) := (43, 1, 2) :: wk_18
def wk_20 : List (Int × Int × Int) := (45, 0, 5) :: wk_19
def wk_21 : List (Int × Int × Int) := (45, 1, 3) :: wk_20
def wk_22 : List (Int × Int × Int) := (47, 0, 10) :: wk_21
def wk_23 : List (Int × Int × Int) := (47, 1, 2) :: wk_22
def wk_24 : List (Int × Int × Int) := (49, 0, 8) :: wk_23
def wk_25 : List (Int × Int × Int) := (49, 1, 2) :: wk_24
def wk_26 : List (Int × Int × Int) := (53, 4, 50) :: wk_25
def wk_27 : List (Int × Int × Int) := (56, 4, 50) :: wk_26
def wk_28 : List (Int × Int × Int) := (59, 4, 50) :: wk_27
def wk_29 : List (Int × Int × Int) := (62, 4, 50) :: wk_28
def wk_30 : List (Int × Int × Int) := (65, 4, 50) :: wk_29
def wk_31 : List (Int × Int × Int) := (68, 4, 50) :: wk_30
def wk_32 : List (Int × Int × Int) := (73, 0, -1) :: wk_31
def wk_33 : List (Int × Int × Int) := (73, 1, -1) :: wk_32
def wk_34 : List (Int × Int × Int) := (73, 2, -1) :: wk_33
def wk_35 : List (Int × Int × Int) := (73, 3, -1) :: wk_34
def wk_36 : List (Int × Int × Int) := (73, 4, -1) :: wk_35
def wk_37 : List (Int × Int × Int) := (73, 5, -1) :: wk_36
def wk_38 : List (Int × Int × Int) := (82, 0, 0) :: wk_37
def wk_39 : List (Int × Int × Int) := (82, 1, 0) :: wk_38
def wk_40 : List (Int × Int × Int) := (82, 2, 0) :: wk_39
def wk_41 : List (Int × Int × Int) := (82, 10, 0) :: wk_40
def wk_42 : List (Int × Int × Int) := (82, 11, -1) :: wk_41
def wk_43 : List (Int × Int × Int) := (82, 12, 0) :: wk_42
def wk_44 : List (Int × Int × Int) := (82, 13, 0) :: wk_43
def wk_45 : List (Int × Int × Int) := (82, 14, 0) :: wk_44
def wk_46 : List (Int × Int × Int) := (82, 23, 0) :: wk_45
def wk_47 : List (Int × Int × Int) := (82, 24, 0) :: wk_46
def wk_48 : List (Int × Int × Int) := (82, 25, 0) :: wk_47
def wk_49 : List (Int × Int × Int) := (98, 0, 98) :: wk_48
def wk_50 : List (Int × Int × Int) := (98, 1, 114) :: wk_49
def wk_51 : List (Int × Int × Int) := (98, 2, 105) :: wk_50
def wk_52 : List (Int × Int × Int) := (98, 3, 115) :: wk_51
def wk_53 : List (Int × Int × Int) := (98, 4, 107) :: wk_52
def wk_54 : List (Int × Int × Int) := (98, 5, 115) :: wk_53
def wk_55 : List (Int × Int × Int) := (98, 6, 108) :: wk_54
def wk_56 : List (Int × Int × Int) := (98, 7, 97) :: wk_55
def wk_57 : List (Int × Int × Int) := (98, 8, 99) :: wk_56
def wk_58 : List (Int × Int × Int) := (98, 9, 107) :: wk_57
def wk_59 : List (Int × Int × Int) := (98, 10, 104) :: wk_58
def wk_60 : List (Int × Int × Int) := (98, 11, 101) :: wk_59
def wk_61 : List (Int × Int × Int) := (98, 12, 97) :: wk_60
def wk_62 : List (Int × Int × Int) := (98, 13, 112) :: wk_61
def wk_63 : List (Int × Int × Int) := (98, 14, 112) :: wk_62
def wk_64 : List (Int × Int × Int) := (98, 15, 111) :: wk_63
def wk_65 : List (Int × Int × Int) := (98, 16, 115) :: wk_64
def wk_66 : List (Int × Int × Int) := (98, 17, 116) :: wk_65
def wk_67 : List (Int × Int × Int) := (82, 27, -1) :: wk_66
def wk_68 : List (Int × Int × Int) := (82, 29, 99999) :: wk_67
def wk_69 : List (Int × Int × Int) := (82, 30, 9999) :: wk_68
def wk_70 : List (Int × Int × Int) := (82, 31, 0) :: wk_69
def wk_71 : List (Int × Int × Int) := (82, 32, 0) :: wk_70
def wk_72 : List (Int × Int × Int) := (82, 37, 0) :: wk_71
def wk_73 : List (Int × Int × Int) := (82, 41, 0) :: wk_72
def wk_74 : List (Int × Int × Int) := (82, 42, 0) :: wk_73
def wk_75 : List (Int × Int × Int) := (82, 47, 0) :: wk_74
def wk_76 : List (Int × Int × Int) := (82, 48, -1) :: wk_75
def wk_77 : List (Int × Int × Int) := (82, 49, 0) :: wk_76
def wk_78 : List (Int × Int × Int) := (82, 50, 0) :: wk_77
def wk_79 : List (Int × Int × Int) := (82, 51, 0) :: wk_78
def wk_80 : List (Int × Int × Int) := (82, 52, 0) :: wk_79
def wk_81 : List (Int × Int × Int) := (82, 53, 0) :: wk_80
def wk_82 : List (Int × Int × Int) := (82, 54, 0) :: wk_81
def wk_83 : List (Int × Int × Int) := (82, 69, 0) :: wk_82
def wk_84 : List (Int × Int × Int) := (126, 0, -1) :: wk_83
def wk_85 : List (Int × Int × Int) := (126, 1, -1) :: wk_84
def wk_86 : List (Int × Int × Int) := (126, 2, -1) :: wk_85
def wk_87 : List (Int × Int × Int) := (126, 3, -1) :: wk_86
def wk_88 : List (Int × Int × Int) := (126, 4, -1) :: wk_87
def wk_89 : List (Int × Int × Int) := (126, 5, -1) :: wk_88
theorem wr_1 : qWr hk_1 (wk_0) := qWr_addO (wl := wk_0) (fun _ _ _ _ => rfl) wr_0 (by decide +kernel) (by decide +kernel)
theorem wr_2 : qWr hk_2 (wk_0) := qWr_addA wr_1 (by decide) (by decide +kernel)
theorem wr_3 : qWr hk_3 (wk_0) := qWr_addO (wl := wk_0) (fun _ _ _ _ => rfl) wr_2 (by decide +kernel) (by decide +kernel)
theorem wr_4 : qWr hk_4 (wk_0) := wr_3
theorem wr_5 : qWr hk_5 (wk_0) := qWr_addO (wl := wk_0) (fun _ _ _ _ => rfl) wr_4 (by decide +kernel) (by decide +kernel)
theorem wr_6 : qWr hk_6 (wk_0) := wr_5
theorem wr_7 : qWr hk_7 (wk_0) := qWr_addO (wl := wk_0) (fun _ _ _ _ => rfl) wr_6 (by decide +kernel) (by decide +kernel)
theorem wr_8 : qWr hk_8 (wk_0) := wr_7
theorem wr_9 : qWr hk_9 (wk_0) := qWr_addO (wl := wk_0) (fun _ _ _ _ => rfl) wr_8 (by decide +kernel) (by decide +kernel)
theorem wr_10 : qWr hk_10 (wk_0) := wr_9
theorem wr_11 : qWr hk_11 (wk_0) := qWr_addO (wl := wk_0) (fun _ _ _ _ => rfl) wr_10 (by decide +kernel) (by decide +kernel)
theorem wr_12 : qWr hk_12 (wk_0) := wr_11
theorem wr_13 : qWr hk_13 (wk_0) := qWr_addO (wl := wk_0) (fun _ _ _ _ => rfl) wr_12 (by decide +kernel) (by decide +kernel)
theorem wr_14 : qWr hk_14 (wk_0) := wr_13
theorem wr_15 : qWr hk_15 (wk_0) := qWr_addO (wl := wk_0) (fun _ _ _ _ => rfl) wr_14 (by decide +kernel) (by decide +kernel)
theorem wr_16 : qWr hk_16 (wk_0) := wr_15
theorem wr_17 : qWr hk_17 (wk_0) := qWr_addO (wl := wk_0) (fun _ _ _ _ => rfl) wr_16 (by decide +kernel) (by decide +kernel)
theorem wr_18 : qWr hk_18 (wk_0) := qWr_addA wr_17 (by decide) (by decide +kernel)
theorem wr_19 : qWr hk_19 (wk_0) := wr_18
theorem wr_20 : qWr hk_20 (wk_0) := qWr_addA wr_19 (by decide) (by decide +kernel)
theorem wr_21 : qWr hk_21 (wk_0) := wr_20
theorem wr_22 : qWr hk_22 (wk_1) := qWr_put wr_21
theorem wr_23 : qWr hk_23 (wk_2) := qWr_addO (wl := wk_1) (fun a k h1 h2 => qwlk_ne (fun e => absurd e (Int.ne_of_lt h2))) wr_22 (by decide +kernel) (by decide +kernel)
theorem wr_24 : qWr hk_24 (wk_2) := wr_23
theorem wr_25 : qWr hk_25 (wk_3) := qWr_put wr_24
theorem wr_26 : qWr hk_26 (wk_4) := qWr_put wr_25
theorem wr_27 : qWr hk_27 (wk_5) := qWr_put wr_26
theorem wr_28 : qWr hk_28 (wk_5) := qWr_addA wr_27 (by decide) (by decide +kernel)
theorem wr_29 : qWr hk_29 (wk_5) := wr_28
theorem wr_30 : qWr hk_30 (wk_5) := qWr_addA wr_29 (by decide) (by decide +kernel)
theorem wr_31 : qWr hk_31 (wk_5) := wr_30
theorem wr_32 : qWr hk_32 (wk_5) := qWr_addA wr_31 (by decide) (by decide +kernel)
theorem wr_33 : qWr hk_33 (wk_5) := wr_32
theorem wr_34 : qWr hk_34 (wk_5) := qWr_addA wr_33 (by decide) (by decide +kernel)
theorem wr_35 : qWr hk_35 (wk_5) := wr_34
theorem wr_36 : qWr hk_36 (wk_5) := qWr_addA wr_35 (by decide) (by decide +kernel)
theorem wr_37 : qWr hk_37 (wk_5) := wr_36
theorem wr_38 : qWr hk_38 (wk_5) := qWr_addA wr_37 (by decide) (by decide +kernel)
theorem wr_39 : qWr hk_39 (wk_5) := wr_38
theorem wr_40 : qWr hk_40 (wk_5) := qWr_addA wr_39 (by decide) (by decide +kernel)
theorem wr_41 : qWr hk_41 (wk_5) := wr_40
theorem wr_42 : qWr hk_42 (wk_5) := qWr_addA wr_41 (by decide) (by decide +kernel)
theorem wr_43 : qWr hk_43 (wk_5) := wr_42
theorem wr_44 : qWr hk_44 (wk_5) := wr_43
theorem wr_45 : qWr hk_45 (wk_6) := qWr_addO (wl := wk_5) (fun a k h1 h2 => qwlk_ne (fun e => absurd e (Int.ne_of_lt h2))) wr_44 (by decide +kernel) (by decide +kernel)
theorem wr_46 : qWr hk_46 (wk_6) := wr_45
theorem wr_47 : qWr hk_47 (wk_7) := qWr_put wr_46
theorem wr_48 : qWr hk_48 (wk_8) := qWr_put wr_47
theorem wr_49 : qWr hk_49 (wk_9) := qWr_put wr_48
theorem wr_50 : qWr hk_50 (wk_9) := qWr_addA wr_49 (by decide) (by decide +kernel)
theorem wr_51 : qWr hk_51 (wk_9) := wr_50
theorem wr_52 : qWr hk_52 (wk_9) := qWr_addA wr_51 (by decide) (by decide +kernel)
theorem wr_53 : qWr hk_53 (wk_9) := wr_52
theorem wr_54 : qWr hk_54 (wk_9) := qWr_addA wr_53 (by decide) (by decide +kernel)
theorem wr_55 : qWr hk_55 (wk_9) := wr_54
theorem wr_56 : qWr hk_56 (wk_9) := qWr_addA wr_55 (by decide) (by decide +kernel)
theorem wr_57 : qWr hk_57 (wk_9) := wr_56
theorem wr_58 : qWr hk_58 (wk_9) := qWr_addA wr_57 (by decide) (by decide +kernel)
theorem wr_59 : qWr hk_59 (wk_9) := wr_58
theorem wr_60 : qWr hk_60 (wk_9) := qWr_addA wr_59 (by decide) (by decide +kernel)
theorem wr_61 : qWr hk_61 (wk_9) := wr_60
theorem wr_62 : qWr hk_62 (wk_9) := qWr_addA wr_61 (by decide) (by decide +kernel)
theorem wr_63 : qWr hk_63 (wk_9) := wr_62
theorem wr_64 : qWr hk_64 (wk_9) := qWr_addA wr_63 (by decide) (by decide +kernel)
theorem wr_65 : qWr hk_65 (wk_9) := wr_64
theorem wr_66 : qWr hk_66 (wk_9) := wr_65
theorem wr_67 : qWr hk_67 (wk_10) := qWr_addO (wl := wk_9) (fun a k h1 h2 => qwlk_ne (fun e => absurd e (Int.ne_of_lt h2))) wr_66 (by decide +kernel) (by decide +kernel)
theorem wr_68 : qWr hk_68 (wk_10) := wr_67
theorem wr_69 : qWr hk_69 (wk_11) := qWr_put wr_68
theorem wr_70 : qWr hk_70 (wk_12) := qWr_put wr_69
theorem wr_71 : qWr hk_71 (wk_13) := qWr_put wr_70
theorem wr_72 : qWr hk_72 (wk_13) := qWr_addA wr_71 (by decide) (by decide +kernel)
theorem wr_73 : qWr hk_73 (wk_13) := wr_72
theorem wr_74 : qWr hk_74 (wk_13) := qWr_addA wr_73 (by decide) (by decide +kernel)
theorem wr_75 : qWr hk_75 (wk_13) := wr_74
theorem wr_76 : qWr hk_76 (wk_13) := qWr_addA wr_75 (by decide) (by decide +kernel)
theorem wr_77 : qWr hk_77 (wk_13) := wr_76
theorem wr_78 : qWr hk_78 (wk_13) := qWr_addA wr_77 (by decide) (by decide +kernel)
theorem wr_79 : qWr hk_79 (wk_13) := wr_78
theorem wr_80 : qWr hk_80 (wk_13) := qWr_addA wr_79 (by decide) (by decide +kernel)
theorem wr_81 : qWr hk_81 (wk_13) := wr_80
theorem wr_82 : qWr hk_82 (wk_13) := qWr_addA wr_81 (by decide) (by decide +kernel)
theorem wr_83 : qWr hk_83 (wk_13) := wr_82
theorem wr_84 : qWr hk_84 (wk_13) := qWr_addA wr_83 (by decide) (by decide +kernel)
theorem wr_85 : qWr hk_85 (wk_13) := wr_84
theorem wr_86 : qWr hk_86 (wk_13) := qWr_addA wr_85 (by decide) (by decide +kernel)
theorem wr_87 : qWr hk_87 (wk_13) := wr_86
theorem wr_88 : qWr hk_88 (wk_13) := wr_87
theorem wr_89 : qWr hk_89 (wk_13) := qWr_addO (wl := wk_13) (fun _ _ _ _ => rfl) wr_88 (by decide +kernel) (by decide +kernel)
theorem wr_90 : qWr hk_90 (wk_14) := qWr_put wr_89
theorem wr_91 : qWr hk_91 (wk_15) := qWr_put wr_90
theorem wr_92 : qWr hk_92 (wk_15) := qWr_addA wr_91 (by decide) (by decide +kernel)
theorem wr_93 : qWr hk_93 (wk_15) := wr_92
theorem wr_94 : qWr hk_94 (wk_15) := wr_93
theorem wr_95 : qWr hk_95 (wk_15) := qWr_addO (wl := wk_15) (fun _ _ _ _ => rfl) wr_94 (by decide +kernel) (by decide +kernel)
theorem wr_96 : qWr hk_96 (wk_16) := qWr_put wr_95
theorem wr_97 : qWr hk_97 (wk_17) := qWr_put wr_96
theorem wr_98 : qWr hk_98 (wk_17) := qWr_addA wr_97 (by decide) (by decide +kernel)
theorem wr_99 : qWr hk_99 (wk_17) := wr_98
theorem wr_100 : qWr hk_100 (wk_17) := wr_99
theorem wr_101 : qWr hk_101 (wk_17) := qWr_addO (wl := wk_17) (fun _ _ _ _ => rfl) wr_100 (by decide +kernel) (by decide +kernel)
theorem wr_102 : qWr hk_102 (wk_18) := qWr_put wr_101
theorem wr_103 : qWr hk_103 (wk_19) := qWr_put wr_102
theorem wr_104 : qWr hk_104 (wk_19) := qWr_addA wr_103 (by decide) (by decide +kernel)
theorem wr_105 : qWr hk_105 (wk_19) := wr_104
theorem wr_106 : qWr hk_106 (wk_19) := wr_105
theorem wr_107 : qWr hk_107 (wk_19) := qWr_addO (wl := wk_19) (fun _ _ _ _ => rfl) wr_106 (by decide +kernel) (by decide +kernel)
theorem wr_108 : qWr hk_108 (wk_20) := qWr_put wr_107
theorem wr_109 : qWr hk_109 (wk_21) := qWr_put wr_108
theorem wr_110 : qWr hk_110 (wk_21) := qWr_addA wr_109 (by decide) (by decide +kernel)
theorem wr_111 : qWr hk_111 (wk_21) := wr_110
theorem wr_112 : qWr hk_112 (wk_21) := wr_111
theorem wr_113 : qWr hk_113 (wk_21) := qWr_addO (wl := wk_21) (fun _ _ _ _ => rfl) wr_112 (by decide +kernel) (by decide +kernel)
theorem wr_114 : qWr hk_114 (wk_22) := qWr_put wr_113
theorem wr_115 : qWr hk_115 (wk_23) := qWr_put wr_114
theorem wr_116 : qWr hk_116 (wk_23) := qWr_addA wr_115 (by decide) (by decide +kernel)
theorem wr_117 : qWr hk_117 (wk_23) := wr_116
theorem wr_118 : qWr hk_118 (wk_23) := wr_117
theorem wr_119 : qWr hk_119 (wk_23) := qWr_addO (wl := wk_23) (fun _ _ _ _ => rfl) wr_118 (by decide +kernel) (by decide +kernel)
theorem wr_120 : qWr hk_120 (wk_24) := qWr_put wr_119
theorem wr_121 : qWr hk_121 (wk_25) := qWr_put wr_120
theorem wr_122 : qWr hk_122 (wk_25) := qWr_addA wr_121 (by decide) (by decide +kernel)
theorem wr_123 : qWr hk_123 (wk_25) := wr_122
theorem wr_124 : qWr hk_124 (wk_25) := wr_123
theorem wr_125 : qWr hk_125 (wk_25) := qWr_addA wr_124 (by decide) (by decide +kernel)
theorem wr_126 : qWr hk_126 (wk_25) := wr_125
theorem wr_127 : qWr hk_127 (wk_25) := qWr_addA wr_126 (by decide) (by decide +kernel)
theorem wr_128 : qWr hk_128 (wk_25) := wr_127
theorem wr_129 : qWr hk_129 (wk_25) := qWr_addO (wl := wk_25) (fun _ _ _ _ => rfl) wr_128 (by decide +kernel) (by decide +kernel)
theorem wr_130 : qWr hk_130 (wk_25) := qWr_addA wr_129 (by decide) (by decide +kernel)
theorem wr_131 : qWr hk_131 (wk_25) := wr_130
theorem wr_132 : qWr hk_132 (wk_25) := qWr_addA wr_131 (by decide) (by decide +kernel)
theorem wr_133 : qWr hk_133 (wk_25) := wr_132
theorem wr_134 : qWr hk_134 (wk_26) := qWr_put wr_133
theorem wr_135 : qWr hk_135 (wk_26) := wr_134
theorem wr_136 : qWr hk_136 (wk_26) := qWr_addO (wl := wk_26) (fun _ _ _ _ => rfl) wr_135 (by decide +kernel) (by decide +kernel)
theorem wr_137 : qWr hk_137 (wk_26) := qWr_addA wr_136 (by decide) (by decide +kernel)
theorem wr_138 : qWr hk_138 (wk_26) := wr_137
theorem wr_139 : qWr hk_139 (wk_26) := qWr_addA wr_138 (by decide) (by decide +kernel)
theorem wr_140 : qWr hk_140 (wk_26) := wr_139
theorem wr_141 : qWr hk_141 (wk_27) := qWr_put wr_140
theorem wr_142 : qWr hk_142 (wk_27) := wr_141
theorem wr_143 : qWr hk_143 (wk_27) := qWr_addO (wl := wk_27) (fun _ _ _ _ => rfl) wr_142 (by decide +kernel) (by decide +kernel)
theorem wr_144 : qWr hk_144 (wk_27) := qWr_addA wr_143 (by decide) (by decide +kernel)
theorem wr_145 : qWr hk_145 (wk_27) := wr_144
theorem wr_146 : qWr hk_146 (wk_27) := qWr_addA wr_145 (by decide) (by decide +kernel)
theorem wr_147 : qWr hk_147 (wk_27) := wr_146
theorem wr_148 : qWr hk_148 (wk_28) := qWr_put wr_147
theorem wr_149 : qWr hk_149 (wk_28) := wr_148
theorem wr_150 : qWr hk_150 (wk_28) := qWr_addO (wl := wk_28) (fun _ _ _ _ => rfl) wr_149 (by decide +kernel) (by decide +kernel)
theorem wr_151 : qWr hk_151 (wk_28) := qWr_addA wr_150 (by decide) (by decide +kernel)
theorem wr_152 : qWr hk_152 (wk_28) := wr_151
theorem wr_153 : qWr hk_153 (wk_28) := qWr_addA wr_152 (by decide) (by decide +kernel)
theorem wr_154 : qWr hk_154 (wk_28) := wr_153
theorem wr_155 : qWr hk_155 (wk_29) := qWr_put wr_154
theorem wr_156 : qWr hk_156 (wk_29) := wr_155
theorem wr_157 : qWr hk_157 (wk_29) := qWr_addO (wl := wk_29) (fun _ _ _ _ => rfl) wr_156 (by decide +kernel) (by decide +kernel)
theorem wr_158 : qWr hk_158 (wk_29) := qWr_addA wr_157 (by decide) (by decide +kernel)
theorem wr_159 : qWr hk_159 (wk_29) := wr_158
theorem wr_160 : qWr hk_160 (wk_29) := qWr_addA wr_159 (by decide) (by decide +kernel)
theorem wr_161 : qWr hk_161 (wk_29) := wr_160
theorem wr_162 : qWr hk_162 (wk_30) := qWr_put wr_161
theorem wr_163 : qWr hk_163 (wk_30) := wr_162
theorem wr_164 : qWr hk_164 (wk_30) := qWr_addO (wl := wk_30) (fun _ _ _ _ => rfl) wr_163 (by decide +kernel) (by decide +kernel)
theorem wr_165 : qWr hk_165 (wk_30) := qWr_addA wr_164 (by decide) (by decide +kernel)
theorem wr_166 : qWr hk_166 (wk_30) := wr_165
theorem wr_167 : qWr hk_167 (wk_30) := qWr_addA wr_166 (by decide) (by decide +kernel)
theorem wr_168 : qWr hk_168 (wk_30) := wr_167
theorem wr_169 : qWr hk_169 (wk_31) := qWr_put wr_168
theorem wr_170 : qWr hk_170 (wk_31) := wr_169
theorem wr_171 : qWr hk_171 (wk_31) := qWr_addO (wl := wk_31) (fun _ _ _ _ => rfl) wr_170 (by decide +kernel) (by decide +kernel)
theorem wr_172 : qWr hk_172 (wk_31) := qWr_addA wr_171 (by decide) (by decide +kernel)
theorem wr_173 : qWr hk_173 (wk_31) := wr_172
theorem wr_174 : qWr hk_174 (wk_31) := wr_173
theorem wr_175 : qWr hk_175 (wk_31) := qWr_addA wr_174 (by decide) (by decide +kernel)
theorem wr_176 : qWr hk_176 (wk_31) := wr_175
theorem wr_177 : qWr hk_177 (wk_31) := qWr_addA wr_176 (by decide) (by decide +kernel)
theorem wr_178 : qWr hk_178 (wk_31) := wr_177
theorem wr_179 : qWr hk_179 (wk_32) := qWr_put wr_178
theorem wr_180 : qWr hk_180 (wk_33) := qWr_put wr_179
theorem wr_181 : qWr hk_181 (wk_34) := qWr_put wr_180
theorem wr_182 : qWr hk_182 (wk_35) := qWr_put wr_181
theorem wr_183 : qWr hk_183 (wk_36) := qWr_put wr_182
theorem wr_184 : qWr hk_184 (wk_37) := qWr_put wr_183
theorem wr_185 : qWr hk_185 (wk_37) := qWr_mna wr_184 (by decide +kernel)
theorem wr_186 : qWr hk_186 (wk_37) := wr_185
theorem wr_187 : qWr hk_187 (wk_37) := qWr_addO (wl := wk_37) (fun _ _ _ _ => rfl) wr_186 (by decide +kernel) (by decide +kernel)
theorem wr_188 : qWr hk_188 (wk_38) := qWr_put wr_187
theorem wr_189 : qWr hk_189 (wk_39) := qWr_put wr_188
theorem wr_190 : qWr hk_190 (wk_40) := qWr_put wr_189
theorem wr_191 : qWr hk_191 (wk_40) := qWr_addA wr_190 (by decide) (by decide +kernel)
theorem wr_192 : qWr hk_192 (wk_40) := wr_191
theorem wr_193 : qWr hk_193 (wk_40) := qWr_addA wr_192 (by decide) (by decide +kernel)
theorem wr_194 : qWr hk_194 (wk_40) := wr_193
theorem wr_195 : qWr hk_195 (wk_40) := qWr_addA wr_194 (by decide) (by decide +kernel)
theorem wr_196 : qWr hk_196 (wk_40) := wr_195
theorem wr_197 : qWr hk_197 (wk_40) := qWr_addA wr_196 (by decide) (by decide +kernel)
theorem wr_198 : qWr hk_198 (wk_40) := wr_197
theorem wr_199 : qWr hk_199 (wk_40) := qWr_addA wr_198 (by decide) (by decide +kernel)
theorem wr_200 : qWr hk_200 (wk_40) := wr_199
theorem wr_201 : qWr hk_201 (wk_40) := qWr_addA wr_200 (by decide) (by decide +kernel)
theorem wr_202 : qWr hk_202 (wk_40) := wr_201
theorem wr_203 : qWr hk_203 (wk_40) := qWr_addA wr_202 (by decide) (by decide +kernel)
theorem wr_204 : qWr hk_204 (wk_40) := wr_203
theorem wr_205 : qWr hk_205 (wk_41) := qWr_put wr_204
theorem wr_206 : qWr hk_206 (wk_42) := qWr_put wr_205
theorem wr_207 : qWr hk_207 (wk_43) := qWr_put wr_206
theorem wr_208 : qWr hk_208 (wk_44) := qWr_put wr_207
theorem wr_209 : qWr hk_209 (wk_45) := qWr_put wr_208
theorem wr_210 : qWr hk_210 (wk_45) := qWr_addA wr_209 (by decide) (by decide +kernel)
theorem wr_211 : qWr hk_211 (wk_45) := wr_210
theorem wr_212 : qWr hk_212 (wk_45) := qWr_addA wr_211 (by decide) (by decide +kernel)
theorem wr_213 : qWr hk_213 (wk_45) := wr_212
theorem wr_214 : qWr hk_214 (wk_45) := qWr_addA wr_213 (by decide) (by decide +kernel)
theorem wr_215 : qWr hk_215 (wk_45) := wr_214
theorem wr_216 : qWr hk_216 (wk_45) := qWr_addA wr_215 (by decide) (by decide +kernel)
theorem wr_217 : qWr hk_217 (wk_45) := wr_216
theorem wr_218 : qWr hk_218 (wk_45) := qWr_addA wr_217 (by decide) (by decide +kernel)
theorem wr_219 : qWr hk_219 (wk_45) := wr_218
theorem wr_220 : qWr hk_220 (wk_45) := qWr_addA wr_219 (by decide) (by decide +kernel)
theorem wr_221 : qWr hk_221 (wk_45) := wr_220
theorem wr_222 : qWr hk_222 (wk_45) := qWr_addA wr_221 (by decide) (by decide +kernel)
theorem wr_223 : qWr hk_223 (wk_45) := wr_222
theorem wr_224 : qWr hk_224 (wk_45) := qWr_addA wr_223 (by decide) (by decide +kernel)
theorem wr_225 : qWr hk_225 (wk_45) := wr_224
theorem wr_226 : qWr hk_226 (wk_46) := qWr_put wr_225
theorem wr_227 : qWr hk_227 (wk_47) := qWr_put wr_226
theorem wr_228 : qWr hk_228 (wk_48) := qWr_put wr_227
theorem wr_229 : qWr hk_229 (wk_48) := qWr_addA wr_228 (by decide) (by decide +kernel)
theorem wr_230 : qWr hk_230 (wk_49) := qWr_put wr_229
theorem wr_231 : qWr hk_231 (wk_50) := qWr_put wr_230
theorem wr_232 : qWr hk_232 (wk_51) := qWr_put wr_231
theorem wr_233 : qWr hk_233 (wk_52) := qWr_put wr_232
theorem wr_234 : qWr hk_234 (wk_53) := qWr_put wr_233
theorem wr_235 : qWr hk_235 (wk_54) := qWr_put wr_234
theorem wr_236 : qWr hk_236 (wk_55) := qWr_put wr_235
theorem wr_237 : qWr hk_237 (wk_56) := qWr_put wr_236
theorem wr_238 : qWr hk_238 (wk_57) := qWr_put wr_237
theorem wr_239 : qWr hk_239 (wk_58) := qWr_put wr_238
theorem wr_240 : qWr hk_240 (wk_59) := qWr_put wr_239
theorem wr_241 : qWr hk_241 (wk_60) := qWr_put wr_240
theorem wr_242 : qWr hk_242 (wk_61) := qWr_put wr_241
theorem wr_243 : qWr hk_243 (wk_62) := qWr_put wr_242
theorem wr_244 : qWr hk_244 (wk_63) := qWr_put wr_243
theorem wr_245 : qWr hk_245 (wk_64) := qWr_put wr_244
theorem wr_246 : qWr hk_246 (wk_65) := qWr_put wr_245
theorem wr_247 : qWr hk_247 (wk_66) := qWr_put wr_246
theorem wr_248 : qWr hk_248 (wk_66) := wr_247
theorem wr_249 : qWr hk_249 (wk_67) := qWr_put wr_248
theorem wr_250 : qWr hk_250 (wk_67) := qWr_addA wr_249 (by decide) (by decide +kernel)
theorem wr_251 : qWr hk_251 (wk_67) := wr_250
theorem wr_252 : qWr hk_252 (wk_68) := qWr_put wr_251
theorem wr_253 : qWr hk_253 (wk_69) := qWr_put wr_252
theorem wr_254 : qWr hk_254 (wk_70) := qWr_put wr_253
theorem wr_255 : qWr hk_255 (wk_71) := qWr_put wr_254
theorem wr_256 : qWr hk_256 (wk_71) := qWr_addA wr_255 (by decide) (by decide +kernel)
theorem wr_257 : qWr hk_257 (wk_71) := wr_256
theorem wr_258 : qWr hk_258 (wk_71) := qWr_addA wr_257 (by decide) (by decide +kernel)
theorem wr_259 : qWr hk_259 (wk_71) := wr_258
theorem wr_260 : qWr hk_260 (wk_71) := qWr_addA wr_259 (by decide) (by decide +kernel)
theorem wr_261 : qWr hk_261 (wk_71) := wr_260
theorem wr_262 : qWr hk_262 (wk_71) := qWr_addA wr_261 (by decide) (by decide +kernel)
theorem wr_263 : qWr hk_263 (wk_71) := wr_262
theorem wr_264 : qWr hk_264 (wk_72) := qWr_put wr_263
theorem wr_265 : qWr hk_265 (wk_72) := qWr_addA wr_264 (by decide) (by decide +kernel)
theorem wr_266 : qWr hk_266 (wk_72) := wr_265
theorem wr_267 : qWr hk_267 (wk_72) := qWr_addA wr_266 (by decide) (by decide +kernel)
theorem wr_268 : qWr hk_268 (wk_72) := wr_267
theorem wr_269 : qWr hk_269 (wk_72) := qWr_addA wr_268 (by decide) (by decide +kernel)
theorem wr_270 : qWr hk_270 (wk_72) := wr_269
theorem wr_271 : qWr hk_271 (wk_73) := qWr_put wr_270
theorem wr_272 : qWr hk_272 (wk_74) := qWr_put wr_271
theorem wr_273 : qWr hk_273 (wk_74) := qWr_addA wr_272 (by decide) (by decide +kernel)
theorem wr_274 : qWr hk_274 (wk_74) := wr_273
theorem wr_275 : qWr hk_275 (wk_74) := qWr_addA wr_274 (by decide) (by decide +kernel)
theorem wr_276 : qWr hk_276 (wk_74) := wr_275
theorem wr_277 : qWr hk_277 (wk_74) := qWr_addA wr_276 (by decide) (by decide +kernel)
theorem wr_278 : qWr hk_278 (wk_74) := wr_277
theorem wr_279 : qWr hk_279 (wk_74) := qWr_addA wr_278 (by decide) (by decide +kernel)
theorem wr_280 : qWr hk_280 (wk_74) := wr_279
theorem wr_281 : qWr hk_281 (wk_75) := qWr_put wr_280
theorem wr_282 : qWr hk_282 (wk_76) := qWr_put wr_281
theorem wr_283 : qWr hk_283 (wk_77) := qWr_put wr_282
theorem wr_284 : qWr hk_284 (wk_78) := qWr_put wr_283
theorem wr_285 : qWr hk_285 (wk_79) := qWr_put wr_284
theorem wr_286 : qWr hk_286 (wk_80) := qWr_put wr_285
theorem wr_287 : qWr hk_287 (wk_81) := qWr_put wr_286
theorem wr_288 : qWr hk_288 (wk_82) := qWr_put wr_287
theorem wr_289 : qWr hk_289 (wk_82) := qWr_addA wr_288 (by decide) (by decide +kernel)
theorem wr_290 : qWr hk_290 (wk_82) := wr_289
theorem wr_291 : qWr hk_291 (wk_82) := qWr_addA wr_290 (by decide) (by decide +kernel)
theorem wr_292 : qWr hk_292 (wk_82) := wr_291
theorem wr_293 : qWr hk_293 (wk_82) := qWr_addA wr_292 (by decide) (by decide +kernel)
theorem wr_294 : qWr hk_294 (wk_82) := wr_293
theorem wr_295 : qWr hk_295 (wk_82) := qWr_addA wr_294 (by decide) (by decide +kernel)
theorem wr_296 : qWr hk_296 (wk_82) := wr_295
theorem wr_297 : qWr hk_297 (wk_82) := qWr_addA wr_296 (by decide) (by decide +kernel)
theorem wr_298 : qWr hk_298 (wk_82) := wr_297
theorem wr_299 : qWr hk_299 (wk_82) := qWr_addA wr_298 (by decide) (by decide +kernel)
theorem wr_300 : qWr hk_300 (wk_82) := wr_299
theorem wr_301 : qWr hk_301 (wk_82) := qWr_addA wr_300 (by decide) (by decide +kernel)
theorem wr_302 : qWr hk_302 (wk_82) := wr_301
theorem wr_303 : qWr hk_303 (wk_82) := qWr_addA wr_302 (by decide) (by decide +kernel)
theorem wr_304 : qWr hk_304 (wk_82) := wr_303
theorem wr_305 : qWr hk_305 (wk_82) := qWr_addA wr_304 (by decide) (by decide +kernel)
theorem wr_306 : qWr hk_306 (wk_82) := wr_305
theorem wr_307 : qWr hk_307 (wk_82) := qWr_addA wr_306 (by decide) (by decide +kernel)
theorem wr_308 : qWr hk_308 (wk_82) := wr_307
theorem wr_309 : qWr hk_309 (wk_82) := qWr_addA wr_308 (by decide) (by decide +kernel)
theorem wr_310 : qWr hk_310 (wk_82) := wr_309
theorem wr_311 : qWr hk_311 (wk_82) := qWr_addA wr_310 (by decide) (by decide +kernel)
theorem wr_312 : qWr hk_312 (wk_82) := wr_311
theorem wr_313 : qWr hk_313 (wk_82) := qWr_addA wr_312 (by decide) (by decide +kernel)
theorem wr_314 : qWr hk_314 (wk_82) := wr_313
theorem wr_315 : qWr hk_315 (wk_82) := qWr_addA wr_314 (by decide) (by decide +kernel)
theorem wr_316 : qWr hk_316 (wk_82) := wr_315
theorem wr_317 : qWr hk_317 (wk_83) := qWr_put wr_316
theorem wr_318 : qWr hk_318 (wk_83) := qWr_addA wr_317 (by decide) (by decide +kernel)
theorem wr_319 : qWr hk_319 (wk_83) := wr_318
theorem wr_320 : qWr hk_320 (wk_83) := qWr_addA wr_319 (by decide) (by decide +kernel)
theorem wr_321 : qWr hk_321 (wk_84) := qWr_put wr_320
theorem wr_322 : qWr hk_322 (wk_85) := qWr_put wr_321
theorem wr_323 : qWr hk_323 (wk_86) := qWr_put wr_322
theorem wr_324 : qWr hk_324 (wk_87) := qWr_put wr_323
theorem wr_325 : qWr hk_325 (wk_88) := qWr_put wr_324
theorem wr_326 : qWr hk_326 (wk_89) := qWr_put wr_325
theorem wr_327 : qWr hk_327 (wk_89) := wr_326
theorem wr_328 : qWr hk_328 (wk_89) := qWr_addA wr_327 (by decide) (by decide +kernel)
theorem wr_329 : qWr hk_329 (wk_89) := wr_328
theorem wr_330 : qWr hk_330 (wk_89) := qWr_addA wr_329 (by decide) (by decide +kernel)
theorem wr_331 : qWr hk_331 (wk_89) := wr_330
theorem wr_332 : qWr hk_332 (wk_89) := qWr_addA wr_331 (by decide) (by decide +kernel)
theorem wr_333 : qWr hk_333 (wk_89) := wr_332
def M0 : qMem := qwlk wk_89
theorem hk_T : hk_333.1.1 = qT0 := by decide +kernel
theorem wr_M0 : qWr hk_333 (wk_89) := wr_333
