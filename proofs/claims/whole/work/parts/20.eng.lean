/-! THE HEAP BEHIND THE CONSTRUCTORS; BLOCKS OF OPERATIONS -/
def qT0 : List (Nat × Nat) := [(11, 18), (104, 7), (4, 0), (5, 0), (2, 0), (9, 0), (7, 0), (1, 0), (10, 0), (3, 7), (101, 100), (100, 100), (8, 14), (100, 5), (100, 6), (100, 6), (100, 6), (100, 6), (100, 6), (100, 24), (102, 6), (8, 14), (100, 5), (100, 6), (100, 6), (100, 6), (100, 6), (100, 6), (100, 24), (102, 6), (8, 14), (100, 5), (100, 6), (100, 6), (100, 6), (100, 6), (100, 6), (100, 24), (102, 6), (6, 4), (100, 15), (6, 4), (100, 20), (6, 4), (100, 16), (6, 4), (100, 15), (6, 4), (100, 20), (6, 4), (100, 16), (101, 100), (105, 6), (3, 7), (101, 100), (100, 100), (3, 7), (101, 100), (100, 100), (3, 7), (101, 100), (100, 100), (3, 7), (101, 100), (100, 100), (3, 7), (101, 100), (100, 100), (3, 7), (101, 100), (100, 100), (0, 4), (100, 20), (100, 6), (100, 6), (106, 6), (103, 60), (103, 60), (103, 60), (103, 60), (103, 60), (103, 60), (12, 75), (100, 5), (100, 6), (100, 6), (100, 6), (100, 6), (100, 6), (100, 24), (100, 100), (100, 6), (100, 60), (100, 60), (100, 60), (100, 60), (100, 600), (100, 101), (100, 18), (102, 100), (100, 5), (100, 6), (100, 6), (100, 6), (100, 5), (100, 5), (100, 5), (100, 10), (100, 10), (100, 8), (100, 8), (100, 5), (100, 6), (100, 6), (100, 6), (100, 6), (100, 6), (100, 24), (100, 5), (100, 5), (100, 5), (100, 10), (100, 10), (100, 8), (100, 8), (100, 20), (100, 6), (100, 6), (103, 360), (103, 60)]
def qGt : List (List Int) := [[12, 21, 30, 39, 41, 43, 45, 47, 49, (-1), 51, (-1), 52, (-1), 71, 73, 74, 75], [2, 3, 4, 5, 6, 7, 8], [], [], [], [], [], [], [], [10, 11], [], [], [1, (-1), 13, 14, 15, 16, 17, 18, 19, 20], [], [], [], [], [], [], [], [], [1, (-1), 22, 23, 24, 25, 26, 27, 28, 29], [], [], [], [], [], [], [], [], [1, (-1), 31, 32, 33, 34, 35, 36, 37, 38], [], [], [], [], [], [], [], [], [(-1), (-1), 40], [], [(-1), (-1), 42], [], [(-1), (-1), 44], [], [(-1), (-1), 46], [], [(-1), (-1), 48], [], [(-1), (-1), 50], [], [], [53, 56, 59, 62, 65, 68], [54, 55], [], [], [57, 58], [], [], [60, 61], [], [], [63, 64], [], [], [66, 67], [], [], [69, 70], [], [], [72], [], [], [], [76, 77, 78, 79, 80, 81], [], [], [], [], [], [], [(-1), (-1), (-1), 83, 84, 85, 86, 87, 88, 89, (-1), (-1), (-1), (-1), (-1), 90, 91, 92, 93, 94, 95, 96, 97, (-1), (-1), (-1), 98, (-1), 99, (-1), (-1), (-1), (-1), 100, 101, 102, 103, (-1), 104, 105, 106, (-1), (-1), 107, 108, 109, 110, (-1), (-1), (-1), (-1), (-1), (-1), (-1), (-1), 111, 112, 113, 114, 115, 116, 117, 118, 119, 120, 121, 122, 123, 124, (-1), 125, 126, 127, 128, 129], [], [], [], [], [], [], [], [], [], [], [], [], [], [], [], [], [], [], [], [], [], [], [], [], [], [], [], [], [], [], [], [], [], [], [], [], [], [], [], [], [], [], [], [], [], [], []]
def qG0 : qMem := fun a k => if a < 0 ∨ k < 0 then -1 else (qGt.getD a.toNat []).getD k.toNat (-1)
def qH0 (M : qMem) : qH := ((qT0, qG0), M)
def qstn (C : List (Nat × qOp)) : Nat → qCfg → Option qCfg
  | 0, c => some c
  | n + 1, c => match qst C c with
    | .inl c' => qstn C n c'
    | .inr _ => none
theorem qlim_n {C : List (Nat × qOp)} : ∀ {n : Nat} {c c' : qCfg}, qstn C n c = some c' → qlim C c = qlim C c'
  | 0, c, c', h => by cases h; rfl
  | n + 1, c, c', h => by
    unfold qstn at h
    cases hs : qst C c with
    | inl c2 => rw [hs] at h; rw [qlim_s hs]; exact qlim_n h
    | inr r => rw [hs] at h; cases h
def qbd (r : qRes) (f : Option qV → qH → qRes) : qRes := match r with
  | some (v, h) => f v h
  | none => none
theorem qbd_some {v : Option qV} {h : qH} {f : Option qV → qH → qRes} : qbd (some (v, h)) f = f v h := rfl
theorem qlim_callv {C : List (Nat × qOp)} {pc n : Nat} {ls : qLs} {st As rest : List qV} {o : Int} {h : qH} {fs : List (Nat × qSem)} {f : qSem} (h1 : qft C pc = some (qo_callv fs n)) (h2 : st.drop n = qA o :: rest) (h3 : (st.take n).reverse = As) (h4 : n ≤ st.length) (h5 : (rest.map qcat).sum ≤ 8) (h6 : qsel fs (qty h o).1 = some f) :
    qlim C (pc, ls, st, h) = qbd (f (qA o :: As) h) (fun r h' => qlim C (pc + 3, ls, r.toList ++ rest, h')) := by
  have e : qst C (pc, ls, st, h) = (match f (qA o :: As) h with
      | some (r, h') => .inl (pc + 3, ls, r.toList ++ rest, h')
      | none => .inr none) := by
    unfold qst
    show (match qft C pc with | some op => op (pc, ls, st, h) | none => .inr none) = _
    rw [h1]
    show qo_callv fs n (pc, ls, st, h) = _
    unfold qo_callv
    dsimp only
    rw [h2, h3]
    dsimp only
    rw [if_pos ⟨h4, h5⟩, h6]
    dsimp only
    cases f (qA o :: As) h with
    | none => rfl
    | some q => rfl
  rw [qlim_eq, e]
  cases f (qA o :: As) h with
  | none => rfl
  | some q => rfl
theorem qlim_calls {C : List (Nat × qOp)} {pc n : Nat} {ls : qLs} {st As : List qV} {h : qH} {f : qSem} (h1 : qft C pc = some (qo_calls f n)) (h3 : (st.take n).reverse = As) (h4 : n ≤ st.length) (h5 : ((st.drop n).map qcat).sum ≤ 8) :
    qlim C (pc, ls, st, h) = qbd (f As h) (fun r h' => qlim C (pc + 3, ls, r.toList ++ st.drop n, h')) := by
  have e : qst C (pc, ls, st, h) = (match f As h with
      | some (r, h') => .inl (pc + 3, ls, r.toList ++ st.drop n, h')
      | none => .inr none) := by
    unfold qst
    show (match qft C pc with | some op => op (pc, ls, st, h) | none => .inr none) = _
    rw [h1]
    show qo_calls f n (pc, ls, st, h) = _
    unfold qo_calls
    dsimp only
    rw [if_pos ⟨h4, h5⟩, h3]
    cases f As h with
    | none => rfl
    | some q => rfl
  rw [qlim_eq, e]
  cases f As h with
  | none => rfl
  | some q => rfl
theorem qlim_ret {C : List (Nat × qOp)} {c : qCfg} {r : qRes} (h : qst C c = .inr r) : qlim C c = r := qlim_r h
theorem qM_at {nL : Nat} {C : List (Nat × qOp)} {as : List qV} {h : qH} {ls : qLs} (hl : (qent as).length ≤ nL) (he : qpad nL (qent as) = ls) : qM nL C as h = qlim C (0, ls, [], h) := by
  unfold qM
  rw [if_pos hl, he]
/-! numbers -/
def kadd (a b : Int) : Int := (Int32.ofInt a + Int32.ofInt b).toInt
def ksub (a b : Int) : Int := (Int32.ofInt a - Int32.ofInt b).toInt
def kmul (a b : Int) : Int := (Int32.ofInt a * Int32.ofInt b).toInt
theorem kadd_w (a b : Int) : kadd a b = (a + b).bmod (2 ^ 32) := by
  unfold kadd
  rw [← Int32.ofInt_add, Int32.toInt_ofInt]
theorem kadd_eq {a b : Int} (h1 : -2147483648 ≤ a + b) (h2 : a + b ≤ 2147483647) : kadd a b = a + b := by
  rw [kadd_w]
  exact Int.bmod_eq_of_le (by omega) (by omega)
theorem ksub_w (a b : Int) : ksub a b = (a - b).bmod (2 ^ 32) := by
  unfold ksub
  rw [← Int32.ofInt_sub, Int32.toInt_ofInt]
theorem ksub_eq {a b : Int} (h1 : -2147483648 ≤ a - b) (h2 : a - b ≤ 2147483647) : ksub a b = a - b := by
  rw [ksub_w]
  exact Int.bmod_eq_of_le (by omega) (by omega)
theorem kmul_w (a b : Int) : kmul a b = (a * b).bmod (2 ^ 32) := by
  unfold kmul
  rw [← Int32.ofInt_mul, Int32.toInt_ofInt]
theorem kmul_eq {a b : Int} (h1 : -2147483648 ≤ a * b) (h2 : a * b ≤ 2147483647) : kmul a b = a * b := by
  rw [kmul_w]
  exact Int.bmod_eq_of_le (by omega) (by omega)
