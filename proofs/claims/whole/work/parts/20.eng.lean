/-! THE HEAP BEHIND THE CONSTRUCTORS; BLOCKS OF OPERATIONS -/
def qT0 : List (Nat × Nat) := [(11, 18), (104, 7), (4, 0), (5, 0), (2, 0), (9, 0), (7, 0), (1, 0), (10, 0), (3, 7), (101, 100), (100, 100), (8, 14), (100, 5), (100, 6), (100, 6), (100, 6), (100, 6), (100, 6), (100, 24), (102, 6), (8, 14), (100, 5), (100, 6), (100, 6), (100, 6), (100, 6), (100, 6), (100, 24), (102, 6), (8, 14), (100, 5), (100, 6), (100, 6), (100, 6), (100, 6), (100, 6), (100, 24), (102, 6), (6, 4), (100, 15), (6, 4), (100, 20), (6, 4), (100, 16), (6, 4), (100, 15), (6, 4), (100, 20), (6, 4), (100, 16), (101, 100), (105, 6), (3, 7), (101, 100), (100, 100), (3, 7), (101, 100), (100, 100), (3, 7), (101, 100), (100, 100), (3, 7), (101, 100), (100, 100), (3, 7), (101, 100), (100, 100), (3, 7), (101, 100), (100, 100), (0, 4), (100, 20), (100, 6), (100, 6), (106, 6), (103, 60), (103, 60), (103, 60), (103, 60), (103, 60), (103, 60), (12, 75), (100, 5), (100, 6), (100, 6), (100, 6), (100, 6), (100, 6), (100, 24), (100, 100), (100, 6), (100, 60), (100, 60), (100, 60), (100, 60), (100, 600), (100, 101), (100, 18), (102, 100), (100, 5), (100, 6), (100, 6), (100, 6), (100, 5), (100, 5), (100, 5), (100, 10), (100, 10), (100, 8), (100, 8), (100, 5), (100, 6), (100, 6), (100, 6), (100, 6), (100, 6), (100, 24), (100, 5), (100, 5), (100, 5), (100, 10), (100, 10), (100, 8), (100, 8), (100, 20), (100, 6), (100, 6), (103, 360), (103, 60)]
def qGt : List (List Int) := [[12, 21, 30, 39, 41, 43, 45, 47, 49, (-1), 51, (-1), 52, (-1), 71, 73, 74, 75], [2, 3, 4, 5, 6, 7, 8], [], [], [], [], [], [], [], [10, 11], [], [], [1, (-1), 13, 14, 15, 16, 17, 18, 19, 20], [], [], [], [], [], [], [], [], [1, (-1), 22, 23, 24, 25, 26, 27, 28, 29], [], [], [], [], [], [], [], [], [1, (-1), 31, 32, 33, 34, 35, 36, 37, 38], [], [], [], [], [], [], [], [], [(-1), (-1), 40], [], [(-1), (-1), 42], [], [(-1), (-1), 44], [], [(-1), (-1), 46], [], [(-1), (-1), 48], [], [(-1), (-1), 50], [], [], [53, 56, 59, 62, 65, 68], [54, 55], [], [], [57, 58], [], [], [60, 61], [], [], [63, 64], [], [], [66, 67], [], [], [69, 70], [], [], [72], [], [], [], [76, 77, 78, 79, 80, 81], [], [], [], [], [], [], [(-1), (-1), (-1), 83, 84, 85, 86, 87, 88, 89, (-1), (-1), (-1), (-1), (-1), 90, 91, 92, 93, 94, 95, 96, 97, (-1), (-1), (-1), 98, (-1), 99, (-1), (-1), (-1), (-1), 100, 101, 102, 103, (-1), 104, 105, 106, (-1), (-1), 107, 108, 109, 110, (-1), (-1), (-1), (-1), (-1), (-1), (-1), (-1), 111, 112, 113, 114, 115, 116, 117, 118, 119, 120, 121, 122, 123, 124, (-1), 125, 126, 127, 128, 129], [], [], [], [], [], [], [], [], [], [], [], [], [], [], [], [], [], [], [], [], [], [], [], [], [], [], [], [], [], [], [], [], [], [], [], [], [], [], [], [], [], [], [], [], [], [], []]
def qG0 : qMem := fun a k => if a < 0 ∨ k < 0 then -1 else (qGt.getD a.toNat []).getD k.toNat (-1)
def qH0 (M : qMem) : qH := ((qT0, qG0), M)
def qstn (C : List (Nat × qOp)) : Nat → qCfg → Option qCfg
  | 0, c => some c
  | n + 1, c => match qst C c with
    | .inl c' => qstn C n c'
    | .inr _ => none
theorem qlim_n {C : List (Nat × qOp)} : ∀ {n : Nat} {c c' : qCfg}, qstn C n c = some c' → qlim C c = qlim C c'
  | 0, c, c', h => by cases h; rfl
  | n + 1, c, c', h => by
    unfold qstn at h
    cases hs : qst C c with
    | inl c2 => rw [hs] at h; rw [qlim_s hs]; exact qlim_n h
    | inr r => rw [hs] at h; cases h
def qbd (r : qRes) (f : Option qV → qH → qRes) : qRes := match r with
  | some (v, h) => f v h
  | none => none
theorem qbd_some {v : Option qV} {h : qH} {f : Option qV → qH → qRes} : qbd (some (v, h)) f = f v h := rfl
theorem qlim_callv {C : List (Nat × qOp)} {pc n : Nat} {ls : qLs} {st As rest : List qV} {o : Int} {h : qH} {fs : List (Nat × qSem)} {f : qSem} (h1 : qft C pc = some (qo_callv fs n)) (h2 : st.drop n = qA o :: rest) (h3 : (st.take n).reverse = As) (h4 : n ≤ st.length) (h5 : (rest.map qcat).sum ≤ 8) (h6 : qsel fs (qty h o).1 = some f) :
    qlim C (pc, ls, st, h) = qbd (f (qA o :: As) h) (fun r h' => qlim C (pc + 3, ls, r.toList ++ rest, h')) := by
  have e : qst C (pc, ls, st, h) = (match f (qA o :: As) h with
      | some (r, h') => .inl (pc + 3, ls, r.toList ++ rest, h')
      | none => .inr none) := by
    unfold qst
    show (match qft C pc with | some op => op (pc, ls, st, h) | none => .inr none) = _
    rw [h1]
    show qo_callv fs n (pc, ls, st, h) = _
    unfold qo_callv
    dsimp only
    rw [h2, h3]
    dsimp only
    rw [if_pos ⟨h4, h5⟩, h6]
    dsimp only
    cases f (qA o :: As) h with
    | none => rfl
    | some q => rfl
  rw [qlim_eq, e]
  cases f (qA o :: As) h with
  | none => rfl
  | some q => rfl
theorem qlim_calls {C : List (Nat × qOp)} {pc n : Nat} {ls : qLs} {st As rest : List qV} {h : qH} {f : qSem} (h1 : qft C pc = some (qo_calls f n)) (h2 : st.drop n = rest) (h3 : (st.take n).reverse = As) (h4 : n ≤ st.length) (h5 : (rest.map qcat).sum ≤ 8) :
    qlim C (pc, ls, st, h) = qbd (f As h) (fun r h' => qlim C (pc + 3, ls, r.toList ++ rest, h')) := by
  have e : qst C (pc, ls, st, h) = (match f As h with
      | some (r, h') => .inl (pc + 3, ls, r.toList ++ rest, h')
      | none => .inr none) := by
    unfold qst
    show (match qft C pc with | some op => op (pc, ls, st, h) | none => .inr none) = _
    rw [h1]
    show qo_calls f n (pc, ls, st, h) = _
    unfold qo_calls
    dsimp only
    rw [h2, if_pos ⟨h4, h5⟩, h3]
    cases f As h with
    | none => rfl
    | some q => rfl
  rw [qlim_eq, e]
  cases f As h with
  | none => rfl
  | some q => rfl
theorem qlim_ret {C : List (Nat × qOp)} {c : qCfg} {r : qRes} (h : qst C c = .inr r) : qlim C c = r := qlim_r h
theorem qM_at {nL : Nat} {C : List (Nat × qOp)} {as : List qV} {h : qH} {ls : qLs} (hl : (qent as).length ≤ nL) (he : qpad nL (qent as) = ls) : qM nL C as h = qlim C (0, ls, [], h) := by
  unfold qM
  rw [if_pos hl, he]
/-! numbers -/
def kadd (a b : Int) : Int := (Int32.ofInt a + Int32.ofInt b).toInt
def ksub (a b : Int) : Int := (Int32.ofInt a - Int32.ofInt b).toInt
def kmul (a b : Int) : Int := (Int32.ofInt a * Int32.ofInt b).toInt
theorem kadd_w (a b : Int) : kadd a b = (a + b).bmod (2 ^ 32) := by
  unfold kadd
  rw [← Int32.ofInt_add, Int32.toInt_ofInt]
theorem kadd_eq {a b : Int} (h1 : -2147483648 ≤ a + b) (h2 : a + b ≤ 2147483647) : kadd a b = a + b := by
  rw [kadd_w]
  exact Int.bmod_eq_of_le (by omega) (by omega)
theorem ksub_w (a b : Int) : ksub a b = (a - b).bmod (2 ^ 32) := by
  unfold ksub
  rw [← Int32.ofInt_sub, Int32.toInt_ofInt]
theorem ksub_eq {a b : Int} (h1 : -2147483648 ≤ a - b) (h2 : a - b ≤ 2147483647) : ksub a b = a - b := by
  rw [ksub_w]
  exact Int.bmod_eq_of_le (by omega) (by omega)
theorem kmul_w (a b : Int) : kmul a b = (a * b).bmod (2 ^ 32) := by
  unfold kmul
  rw [← Int32.ofInt_mul, Int32.toInt_ofInt]
theorem kmul_eq {a b : Int} (h1 : -2147483648 ≤ a * b) (h2 : a * b ≤ 2147483647) : kmul a b = a * b := by
  rw [kmul_w]
  exact Int.bmod_eq_of_le (by omega) (by omega)
def kand (a b : Int) : Int := (Int32.ofInt a &&& Int32.ofInt b).toInt
def kor (a b : Int) : Int := (Int32.ofInt a ||| Int32.ofInt b).toInt
def kxor (a b : Int) : Int := (Int32.ofInt a ^^^ Int32.ofInt b).toInt
def kshl (a b : Int) : Int := (Int32.ofInt a <<< (Int32.ofInt b &&& 31)).toInt
def kshr (a b : Int) : Int := (Int32.ofInt a >>> (Int32.ofInt b &&& 31)).toInt
def kdiv (a b : Int) : Int := (Int32.ofInt a / Int32.ofInt b).toInt
def krem (a b : Int) : Int := (Int32.ofInt a - Int32.ofInt a / Int32.ofInt b * Int32.ofInt b).toInt
def jand (a b : Int) : Int := (Int64.ofInt a &&& Int64.ofInt b).toInt
def jor (a b : Int) : Int := (Int64.ofInt a ||| Int64.ofInt b).toInt
def jxor (a b : Int) : Int := (Int64.ofInt a ^^^ Int64.ofInt b).toInt
def jshl (a b : Int) : Int := (Int64.ofInt a <<< ((Int32.ofInt b).toInt64 &&& 63)).toInt
def jushr (a b : Int) : Int := ((Int64.ofInt a).toUInt64 >>> ((Int32.ofInt b).toInt64.toUInt64 &&& Int64.toUInt64 63)).toInt64.toInt
def jcmp (a b : Int) : Int := (lg_cmp (Int64.ofInt a) (Int64.ofInt b)).toInt
def kneg (a : Int) : Int := (- Int32.ofInt a).toInt
def ki2b (a : Int) : Int := (Int32.ofInt a).toInt8.toInt32.toInt
def ki2s (a : Int) : Int := (Int32.ofInt a).toInt16.toInt32.toInt
def ki2c (a : Int) : Int := ((Int32.ofInt a).toUInt32 % 65536).toInt32.toInt
def kl2i (a : Int) : Int := (Int64.ofInt a).toInt32.toInt
def ki2l (a : Int) : Int := (Int32.ofInt a).toInt64.toInt
/-! steps that ask something -/
section QSTEP
variable {C : List (Nat × qOp)} {pc : Nat} {ls : qLs} {st : List qV} {h : qH} {a k v z : Int} {ci kk n : Nat}
theorem qs_of {op : qOp} {c' : qCfg} {c : qCfg} (h1 : qft C c.1 = some op) (h2 : op c = .inl c') : qlim C c = qlim C c' := qlim_s (by unfold qst; rw [h1]; exact h2)
theorem qs_getI (h1 : qft C pc = some (qo_getI ci kk)) (h2 : qty h a = (ci, n)) (h3 : kk < n) : qlim C (pc, ls, qA a :: st, h) = qlim C (pc + 3, ls, qI (h.2 a kk) :: st, h) := qs_of h1 (if_pos (by rw [h2]; exact ⟨rfl, h3⟩))
theorem qs_getD (h1 : qft C pc = some (qo_getD ci kk)) (h2 : qty h a = (ci, n)) (h3 : kk < n) : qlim C (pc, ls, qA a :: st, h) = qlim C (pc + 3, ls, qA (h.2 a kk) :: st, h) := qs_of h1 (if_pos (by rw [h2]; exact ⟨rfl, h3⟩))
theorem qs_getR (h1 : qft C pc = some (qo_getR ci kk)) (h2 : qty h a = (ci, n)) (h3 : kk < n) (hz : h.1.2 a kk = z) : qlim C (pc, ls, qA a :: st, h) = qlim C (pc + 3, ls, qA z :: st, h) := by
  subst hz
  exact qs_of h1 (if_pos (by rw [h2]; exact ⟨rfl, h3⟩))
theorem qs_putI (h1 : qft C pc = some (qo_putI ci kk)) (h2 : qty h a = (ci, n)) (h3 : kk < n) : qlim C (pc, ls, qI v :: qA a :: st, h) = qlim C (pc + 3, ls, st, (h.1, qup h.2 a kk v)) := qs_of h1 (if_pos (by rw [h2]; exact ⟨rfl, h3⟩))
theorem qs_putZ (h1 : qft C pc = some (qo_putZ ci kk)) (h2 : qty h a = (ci, n)) (h3 : kk < n) (h4 : v = 0 ∨ v = 1) : qlim C (pc, ls, qI v :: qA a :: st, h) = qlim C (pc + 3, ls, st, (h.1, qup h.2 a kk v)) := qs_of h1 (if_pos (by rw [h2]; exact ⟨rfl, h3, h4⟩))
theorem qs_putD (h1 : qft C pc = some (qo_putD ci kk)) (h2 : qty h a = (ci, n)) (h3 : kk < n) (h4 : 0 ≤ v) : qlim C (pc, ls, qA v :: qA a :: st, h) = qlim C (pc + 3, ls, st, (h.1, qup h.2 a kk v)) := qs_of h1 (if_pos (by rw [h2]; exact ⟨rfl, h3, h4⟩))
theorem qs_iaload (h1 : qft C pc = some qo_iaload) (h2 : qty h a = (100, n)) (h3 : 0 ≤ k) (h4 : k < n) : qlim C (pc, ls, qI k :: qA a :: st, h) = qlim C (pc + 1, ls, qI (h.2 a k) :: st, h) := qs_of h1 (if_pos (by rw [h2]; exact ⟨rfl, h3, h4⟩))
theorem qs_baload (h1 : qft C pc = some qo_baload) (h2 : qty h a = (101, n)) (h3 : 0 ≤ k) (h4 : k < n) : qlim C (pc, ls, qI k :: qA a :: st, h) = qlim C (pc + 1, ls, qI (h.2 a k) :: st, h) := qs_of h1 (if_pos (by rw [h2]; exact ⟨rfl, h3, h4⟩))
theorem qs_zaload (h1 : qft C pc = some qo_zaload) (h2 : qty h a = (102, n)) (h3 : 0 ≤ k) (h4 : k < n) : qlim C (pc, ls, qI k :: qA a :: st, h) = qlim C (pc + 1, ls, qI (h.2 a k) :: st, h) := qs_of h1 (if_pos (by rw [h2]; exact ⟨rfl, h3, h4⟩))
theorem qs_laload (h1 : qft C pc = some qo_laload) (h2 : qty h a = (103, n)) (h3 : 0 ≤ k) (h4 : k < n) : qlim C (pc, ls, qI k :: qA a :: st, h) = qlim C (pc + 1, ls, qJ (h.2 a k) :: st, h) := qs_of h1 (if_pos (by rw [h2]; exact ⟨rfl, h3, h4⟩))
theorem qs_aaload {t : Nat} (h1 : qft C pc = some qo_aaload) (h2 : qty h a = (t, n)) (ht : 103 < t ∧ t ≤ 106) (h3 : 0 ≤ k) (h4 : k < n) : qlim C (pc, ls, qI k :: qA a :: st, h) = qlim C (pc + 1, ls, qA (h.1.2 a k) :: st, h) := qs_of h1 (if_pos (by rw [h2]; exact ⟨ht, h3, h4⟩))
theorem qs_iastore (h1 : qft C pc = some qo_iastore) (h2 : qty h a = (100, n)) (h3 : 0 ≤ k) (h4 : k < n) : qlim C (pc, ls, qI v :: qI k :: qA a :: st, h) = qlim C (pc + 1, ls, st, (h.1, qup h.2 a k v)) := qs_of h1 (if_pos (by rw [h2]; exact ⟨rfl, h3, h4⟩))
theorem qs_bastore (h1 : qft C pc = some qo_bastore) (h2 : qty h a = (101, n)) (h3 : 0 ≤ k) (h4 : k < n) (h5 : -128 ≤ v) (h6 : v ≤ 127) : qlim C (pc, ls, qI v :: qI k :: qA a :: st, h) = qlim C (pc + 1, ls, st, (h.1, qup h.2 a k v)) := qs_of h1 (if_pos (by rw [h2]; exact ⟨rfl, h3, h4, h5, h6⟩))
theorem qs_zastore (h1 : qft C pc = some qo_zastore) (h2 : qty h a = (102, n)) (h3 : 0 ≤ k) (h4 : k < n) (h5 : v = 0 ∨ v = 1) : qlim C (pc, ls, qI v :: qI k :: qA a :: st, h) = qlim C (pc + 1, ls, st, (h.1, qup h.2 a k v)) := qs_of h1 (if_pos (by rw [h2]; exact ⟨rfl, h3, h4, h5⟩))
theorem qs_lastore (h1 : qft C pc = some qo_lastore) (h2 : qty h a = (103, n)) (h3 : 0 ≤ k) (h4 : k < n) : qlim C (pc, ls, qJ v :: qI k :: qA a :: st, h) = qlim C (pc + 1, ls, st, (h.1, qup h.2 a k v)) := qs_of h1 (if_pos (by rw [h2]; exact ⟨rfl, h3, h4⟩))
theorem qs_alen (h1 : qft C pc = some qo_alen) (h2 : qty h a = (ci, n)) (h3 : 100 ≤ ci ∧ ci ≤ 106) (h4 : n ≤ 2147483647) : qlim C (pc, ls, qA a :: st, h) = qlim C (pc + 1, ls, qI n :: st, h) := qs_of h1 ((if_pos (by rw [h2]; exact ⟨h3.1, h3.2, h4⟩)).trans (by rw [h2]))
theorem qs_tld (h1 : qft C pc = some qo_tld) (h3 : 0 ≤ k) (h4 : k < 7) : qlim C (pc, ls, qI k :: qA (-11) :: st, h) = qlim C (pc + 1, ls, qI (qKT.getD k.toNat 0) :: st, h) := qs_of h1 (if_pos ⟨rfl, h3, h4⟩)
theorem qs_idiv (h1 : qft C pc = some qo_idiv) (h2 : ¬ Int32.ofInt v = 0) : qlim C (pc, ls, qI v :: qI k :: st, h) = qlim C (pc + 1, ls, qI (kdiv k v) :: st, h) := by
  refine qs_of h1 ?_
  show (match (if Int32.ofInt v = 0 then none else some (qI (Int32.ofInt k / Int32.ofInt v).toInt :: st)) with | some st' => Sum.inl (pc + 1, ls, st', h) | none => .inr none) = _
  rw [if_neg h2]
  rfl
theorem qs_irem (h1 : qft C pc = some qo_irem) (h2 : ¬ Int32.ofInt v = 0) : qlim C (pc, ls, qI v :: qI k :: st, h) = qlim C (pc + 1, ls, qI (krem k v) :: st, h) := by
  refine qs_of h1 ?_
  show (match (if Int32.ofInt v = 0 then none else some (qI (Int32.ofInt k - Int32.ofInt k / Int32.ofInt v * Int32.ofInt v).toInt :: st)) with | some st' => Sum.inl (pc + 1, ls, st', h) | none => .inr none) = _
  rw [if_neg h2]
  rfl
theorem qs_copy {t nd : Nat} {d sp dp m : Int} (h1 : qft C pc = some (qo_copy t)) (h2 : qty h a = (t, n)) (h3 : qty h d = (t, nd)) (h4 : 0 ≤ sp) (h5 : 0 ≤ dp) (h6 : 0 ≤ m) (h7 : sp + m ≤ n) (h8 : dp + m ≤ nd) (h9 : (st.map qcat).sum ≤ 8) : qlim C (pc, ls, qI m :: qI dp :: qA d :: qI sp :: qA a :: st, h) = qlim C (pc + 3, ls, st, (h.1, qcp h.2 a sp d dp m)) := qs_of h1 (if_pos (by rw [h2, h3]; exact ⟨⟨rfl, rfl⟩, ⟨h4, h5, h6⟩, ⟨h7, h8⟩, h9⟩))
theorem qs_copyl {t nd : Nat} {d sp dp m : Int} (h1 : qft C pc = some (qo_copyl t)) (h2 : qty h a = (t, n)) (h3 : qty h d = (t, nd)) (h4 : 0 ≤ sp) (h5 : 0 ≤ dp) (h6 : 0 ≤ m) (h7 : sp + m ≤ n) (h8 : dp + m ≤ nd) (h9 : (st.map qcat).sum ≤ 8) : qlim C (pc, ls, qI m :: qI dp :: qA d :: qI sp :: qA a :: st, h) = qlim C (pc + 3, ls, st, (h.1, qcp h.2 a sp d dp m)) := qs_of h1 (if_pos (by rw [h2, h3]; exact ⟨⟨rfl, rfl⟩, ⟨h4, h5, h6⟩, ⟨h7, h8⟩, h9⟩))
theorem qs_retZ (h1 : qft C pc = some (qo_ret (some .boolean) 1)) (h2 : v = 0 ∨ v = 1) : qlim C (pc, ls, [qI v], h) = some (some (qI v), h) := by
  apply qlim_r
  unfold qst
  show (match qft C pc with | some op => op (pc, ls, [qI v], h) | none => .inr none) = _
  rw [h1]
  rcases h2 with rfl | rfl <;> rfl
end QSTEP
/-! who is who -/
def qSt (o : Int) : Prop := o = 12 ∨ o = 21 ∨ o = 30
def qHl (g : Int) : Prop := g = 9 ∨ g = 53 ∨ g = 56 ∨ g = 59 ∨ g = 62 ∨ g = 65 ∨ g = 68
def qRw (r : Int) : Prop := r = 39 ∨ r = 41 ∨ r = 43 ∨ r = 45 ∨ r = 47 ∨ r = 49
theorem qSt_ty {M : qMem} {o : Int} (h : qSt o) : qty (qH0 M) o = (8, 14) := by rcases h with rfl | rfl | rfl <;> rfl
theorem qSt_g0 {o : Int} (h : qSt o) : qG0 o 0 = 1 := by rcases h with rfl | rfl | rfl <;> rfl
theorem qSt_g2 {o : Int} (h : qSt o) : qG0 o 2 = o + 1 := by rcases h with rfl | rfl | rfl <;> rfl
theorem qSt_t1 {M : qMem} {o : Int} (h : qSt o) : qty (qH0 M) (o + 1) = (100, 5) := by rcases h with rfl | rfl | rfl <;> rfl
theorem qSt_g3 {o : Int} (h : qSt o) : qG0 o 3 = o + 2 := by rcases h with rfl | rfl | rfl <;> rfl
theorem qSt_t2 {M : qMem} {o : Int} (h : qSt o) : qty (qH0 M) (o + 2) = (100, 6) := by rcases h with rfl | rfl | rfl <;> rfl
theorem qSt_g4 {o : Int} (h : qSt o) : qG0 o 4 = o + 3 := by rcases h with rfl | rfl | rfl <;> rfl
theorem qSt_t3 {M : qMem} {o : Int} (h : qSt o) : qty (qH0 M) (o + 3) = (100, 6) := by rcases h with rfl | rfl | rfl <;> rfl
theorem qSt_g5 {o : Int} (h : qSt o) : qG0 o 5 = o + 4 := by rcases h with rfl | rfl | rfl <;> rfl
theorem qSt_t4 {M : qMem} {o : Int} (h : qSt o) : qty (qH0 M) (o + 4) = (100, 6) := by rcases h with rfl | rfl | rfl <;> rfl
theorem qSt_g6 {o : Int} (h : qSt o) : qG0 o 6 = o + 5 := by rcases h with rfl | rfl | rfl <;> rfl
theorem qSt_t5 {M : qMem} {o : Int} (h : qSt o) : qty (qH0 M) (o + 5) = (100, 6) := by rcases h with rfl | rfl | rfl <;> rfl
theorem qSt_g7 {o : Int} (h : qSt o) : qG0 o 7 = o + 6 := by rcases h with rfl | rfl | rfl <;> rfl
theorem qSt_t6 {M : qMem} {o : Int} (h : qSt o) : qty (qH0 M) (o + 6) = (100, 6) := by rcases h with rfl | rfl | rfl <;> rfl
theorem qSt_g8 {o : Int} (h : qSt o) : qG0 o 8 = o + 7 := by rcases h with rfl | rfl | rfl <;> rfl
theorem qSt_t7 {M : qMem} {o : Int} (h : qSt o) : qty (qH0 M) (o + 7) = (100, 24) := by rcases h with rfl | rfl | rfl <;> rfl
theorem qSt_g9 {o : Int} (h : qSt o) : qG0 o 9 = o + 8 := by rcases h with rfl | rfl | rfl <;> rfl
theorem qSt_t8 {M : qMem} {o : Int} (h : qSt o) : qty (qH0 M) (o + 8) = (102, 6) := by rcases h with rfl | rfl | rfl <;> rfl
theorem qHl_ty {M : qMem} {o : Int} (h : qHl o) : qty (qH0 M) o = (3, 7) := by rcases h with rfl | rfl | rfl | rfl | rfl | rfl | rfl <;> rfl
theorem qHl_g0 {o : Int} (h : qHl o) : qG0 o 0 = o + 1 := by rcases h with rfl | rfl | rfl | rfl | rfl | rfl | rfl <;> rfl
theorem qHl_t1 {M : qMem} {o : Int} (h : qHl o) : qty (qH0 M) (o + 1) = (101, 100) := by rcases h with rfl | rfl | rfl | rfl | rfl | rfl | rfl <;> rfl
theorem qHl_g1 {o : Int} (h : qHl o) : qG0 o 1 = o + 2 := by rcases h with rfl | rfl | rfl | rfl | rfl | rfl | rfl <;> rfl
theorem qHl_t2 {M : qMem} {o : Int} (h : qHl o) : qty (qH0 M) (o + 2) = (100, 100) := by rcases h with rfl | rfl | rfl | rfl | rfl | rfl | rfl <;> rfl
theorem qRw_ty {M : qMem} {o : Int} (h : qRw o) : qty (qH0 M) o = (6, 4) := by rcases h with rfl | rfl | rfl | rfl | rfl | rfl <;> rfl
theorem qRw_g2 {o : Int} (h : qRw o) : qG0 o 2 = o + 1 := by rcases h with rfl | rfl | rfl | rfl | rfl | rfl <;> rfl
