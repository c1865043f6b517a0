/-! AN ABSTRACT MACHINE. Numbers are Int, cells are numbered 0, 1, .. from base on; a method's code is a list of operations;
    what it answers is proved of the bytecode once for all (qrun_met). -/
abbrev qV : Type := Int ⊕ (Int ⊕ Int)
abbrev qI (z : Int) : qV := Sum.inl z
abbrev qJ (z : Int) : qV := Sum.inr (Sum.inl z)
abbrev qA (z : Int) : qV := Sum.inr (Sum.inr z)
abbrev qMem : Type := Int → Int → Int
/-- ((the cells' kinds and sizes, the references that stay), the numbers) -/
abbrev qH : Type := (List (Nat × Nat) × qMem) × qMem
abbrev qLs : Type := List (Option qV)
abbrev qCfg : Type := Nat × qLs × List qV × qH
abbrev qRes : Type := Option (Option qV × qH)
abbrev qOp : Type := qCfg → qCfg ⊕ qRes
abbrev qSem : Type := List qV → qH → qRes
/-- base, addresses of cells outside, class numbers, array classes -/
abbrev qX : Type := Nat × (Int → Option Nat) × va_G × (Nat → ClassId)
def qcat : qV → Nat
  | .inr (.inl _) => 2
  | _ => 1
def qo (X : qX) (z : Int) : Option Nat := if z = -1 then none else if 0 ≤ z then some (X.1 + z.toNat) else X.2.1 z
def qr (X : qX) (z : Int) : Value := va_rf (qo X z)
def qc (X : qX) : qV → Value
  | .inl z => .int (Int32.ofInt z)
  | .inr (.inl z) => .long (Int64.ofInt z)
  | .inr (.inr z) => qr X z
def qok : qV → Prop
  | .inl z => -2147483648 ≤ z ∧ z ≤ 2147483647
  | .inr (.inl z) => -9223372036854775808 ≤ z ∧ z ≤ 9223372036854775807
  | .inr (.inr _) => True
def qkind (t k : Nat) : Nat := match vwCl[t]? with
  | some (_, T, _) => if (T k).2.2.1 = "I" ∨ (T k).2.2.1 = "Z" then 0 else if (T k).2.2.2 = true then 2 else 3
  | none => 0
def qsv (X : qX) (h : qH) (t id k : Nat) : Value := if qkind t k = 0 then .int (Int32.ofInt (h.2 id k)) else if qkind t k = 2 then qr X (h.1.2 id k) else qr X (h.2 id k)
def qe (X : qX) (h : qH) (id : Nat) (tn : Nat × Nat) : va_E :=
  if tn.1 < 100 then .inr (tn.1, (List.range tn.2).map (fun k => qsv X h tn.1 id k))
  else if tn.1 < 103 then .inl (X.2.2.2 tn.1, tn.2, .inl (fun j => Int32.ofInt (h.2 id j)))
  else if tn.1 = 103 then .inl (X.2.2.2 tn.1, tn.2, .inr (.inl (fun j => Int64.ofInt (h.2 id j))))
  else .inl (X.2.2.2 tn.1, tn.2, .inr (.inr (.inr (.inr (fun j => qo X (h.1.2 id j))))))
def qW (X : qX) (h : qH) : va_W := (List.range h.1.1.length).map (fun id => (X.1 + id, qe X h id (h.1.1.getD id (0, 0))))
/-- what a number in a cell of kind t may be -/
def qrg (t k : Nat) (z : Int) : Prop :=
  if t = 103 then -9223372036854775808 ≤ z ∧ z ≤ 9223372036854775807
  else if t = 101 then -128 ≤ z ∧ z ≤ 127
  else if t = 102 then 0 ≤ z ∧ z ≤ 1
  else if 103 < t then True
  else if t < 100 ∧ qkind t k ≠ 0 then True
  else -2147483648 ≤ z ∧ z ≤ 2147483647
def qRg (h : qH) : Prop := ∀ (id : Nat) (tn : Nat × Nat), h.1.1[id]? = some tn → ∀ k : Nat, k < tn.2 → qrg tn.1 k (h.2 id k)
def qP (X : qX) (h : qH) (H : Heap) : Prop := H.size = X.1 + h.1.1.length ∧ va_P X.2.2.1 vwCl (qW X h) H ∧ qRg h
def qslots (h : qH) : Nat := (h.1.1.map (fun q => q.2)).sum
def qle (h h' : qH) : Prop := h.1.1.length ≤ h'.1.1.length ∧ qslots h ≤ qslots h'
def qn (h0 h : qH) : Nat := h.1.1.length - h0.1.1.length
def qs (h0 h : qH) : Nat := qslots h - qslots h0
def qup (M : qMem) (a k v : Int) : qMem := fun a' k' => if a' = a ∧ k' = k then v else M a' k'
/-- kind and size of the cell a -/
def qty (h : qH) (a : Int) : Nat × Nat := if a < 0 then (999, 0) else h.1.1.getD a.toNat (999, 0)
theorem qle_rf (h : qH) : qle h h := ⟨Nat.le_refl _, Nat.le_refl _⟩
theorem qle_tr {a b d : qH} (h1 : qle a b) (h2 : qle b d) : qle a d := ⟨Nat.le_trans h1.1 h2.1, Nat.le_trans h1.2 h2.2⟩
theorem qle_eq {a b : qH} (h : b.1.1 = a.1.1) : qle a b := by
  constructor
  · rw [h]; exact Nat.le_refl _
  · unfold qslots; rw [h]; exact Nat.le_refl _
theorem qup_self {M : qMem} {a k v : Int} : qup M a k v a k = v := by simp [qup]
theorem qup_ne {M : qMem} {a k v a' k' : Int} (h : ¬ (a' = a ∧ k' = k)) : qup M a k v a' k' = M a' k' := if_neg h
theorem qcat_c (X : qX) (v : qV) : (qc X v).category = qcat v := by
  rcases v with z | z | z
  · rfl
  · rfl
  · show (qr X z).category = 1
    unfold qr
    cases qo X z <;> rfl
theorem qcat_sum (X : qX) (st : List qV) : ((st.map (qc X)).map (fun v => v.category)).sum = (st.map qcat).sum := by
  rw [List.map_map]
  congr 1
  apply List.map_congr_left
  intro v _
  exact qcat_c X v
theorem qr_of {X : qX} {z : Int} (h : 0 ≤ z) : qr X z = .ref (X.1 + z.toNat) := by
  unfold qr qo
  rw [if_neg (by omega), if_pos h]
  rfl
theorem qo_of {X : qX} {z : Int} (h : 0 ≤ z) : qo X z = some (X.1 + z.toNat) := by
  unfold qo
  rw [if_neg (by omega), if_pos h]
theorem qty_get {h : qH} {a : Int} {t n : Nat} (hq : qty h a = (t, n)) (ht : t ≠ 999) : 0 ≤ a ∧ h.1.1[a.toNat]? = some (t, n) := by
  unfold qty at hq
  split at hq
  · cases hq
    exact absurd rfl ht
  · refine ⟨by omega, ?_⟩
    rw [List.getD_eq_getElem?_getD] at hq
    cases hg : h.1.1[a.toNat]? with
    | none =>
      rw [hg] at hq
      cases hq
      exact absurd rfl ht
    | some q =>
      rw [hg] at hq
      exact congrArg some hq
theorem qW_get {X : qX} {h : qH} {id : Nat} {tn : Nat × Nat} (ht : h.1.1[id]? = some tn) : (qW X h)[id]? = some (X.1 + id, qe X h id tn) := by
  have hl := (List.getElem?_eq_some_iff.mp ht).1
  unfold qW
  rw [List.getElem?_map, List.getElem?_range hl]
  show some (X.1 + id, qe X h id (h.1.1.getD id (0, 0))) = _
  rw [List.getD_eq_getElem?_getD, ht]
  rfl
theorem qW_none {X : qX} {h : qH} {id : Nat} (ht : h.1.1[id]? = none) : (qW X h)[id]? = none := by
  have hl := List.getElem?_eq_none_iff.mp ht
  unfold qW
  rw [List.getElem?_map, List.getElem?_eq_none (by rw [List.length_range]; exact hl)]
  rfl
theorem qW_at {X : qX} {h : qH} {i : Nat} {p : Nat × va_E} (hp : (qW X h)[i]? = some p) : p.1 = X.1 + i := by
  cases ht : h.1.1[i]? with
  | none => rw [qW_none ht] at hp; cases hp
  | some tn => rw [qW_get ht] at hp; cases hp; rfl
theorem qD (X : qX) (h : qH) : va_D (fun q : Nat => X.1 ≤ q) (qW X h) := by
  refine ⟨fun i j p q hi hj e => ?_, fun k q hk => ?_⟩
  · have h1 := qW_at hi
    have h2 := qW_at hj
    omega
  · have h1 := qW_at hk
    show X.1 ≤ q.1
    omega
theorem qW_set {X : qX} {h h' : qH} {id : Nat} {tn : Nat × Nat} {e : va_E} (ht : h.1.1[id]? = some tn) (hT : h'.1.1 = h.1.1) (he : e = qe X h' id tn)
    (ho : ∀ (j : Nat) (tm : Nat × Nat), j ≠ id → h.1.1[j]? = some tm → qe X h' j tm = qe X h j tm) : (qW X h).set id (X.1 + id, e) = qW X h' := by
  apply List.ext_getElem?
  intro j
  by_cases hj : j = id
  · subst hj
    rw [List.getElem?_set_self ((List.getElem?_eq_some_iff.mp (qW_get (X := X) ht)).1), qW_get (h := h') (by rw [hT]; exact ht), he]
  · rw [List.getElem?_set_ne (Ne.symm hj)]
    cases hm : h.1.1[j]? with
    | none => rw [qW_none hm, qW_none (by rw [hT]; exact hm)]
    | some tm => rw [qW_get hm, qW_get (h := h') (by rw [hT]; exact hm), ho j tm hj hm]
/-- cells other than the one that is written stay -/
theorem qe_up {X : qX} {T : List (Nat × Nat) × qMem} {M : qMem} {a : Int} {k v : Int} {j : Nat} {tm : Nat × Nat} (hj : (j : Int) ≠ a) : qe X (T, qup M a k v) j tm = qe X (T, M) j tm := by
  have e : ∀ i : Int, qup M a k v j i = M j i := fun i => qup_ne (fun q => hj q.1)
  unfold qe qsv
  simp only [e]
theorem qRg_up {T : List (Nat × Nat) × qMem} {M : qMem} {id : Nat} {tn : Nat × Nat} {k : Nat} {v : Int} (h : qRg (T, M)) (ht : T.1[id]? = some tn) (hv : qrg tn.1 k v) : qRg (T, qup M id k v) := by
  intro j tm hj i hi
  show qrg tm.1 i (qup M id k v j i)
  by_cases e : (j : Int) = id ∧ (i : Int) = k
  · have e1 : j = id := by omega
    have e2 : i = k := by omega
    subst e1; subst e2
    cases ht.symm.trans hj
    rw [qup_self]
    exact hv
  · rw [qup_ne e]
    exact h j tm hj i hi
theorem qint_of {z : Int} (h : -2147483648 ≤ z ∧ z ≤ 2147483647) : (Int32.ofInt z).toInt = z := Int32.toInt_ofInt_of_le (by omega) (by omega)
theorem qlong_of {z : Int} (h : -9223372036854775808 ≤ z ∧ z ≤ 9223372036854775807) : (Int64.ofInt z).toInt = z := Int64.toInt_ofInt_of_le (by omega) (by omega)
theorem qint_rg (x : Int32) : -2147483648 ≤ x.toInt ∧ x.toInt ≤ 2147483647 := ⟨by have := Int32.le_toInt x; omega, by have := Int32.toInt_lt x; omega⟩
theorem qlong_rg (x : Int64) : -9223372036854775808 ≤ x.toInt ∧ x.toInt ≤ 9223372036854775807 := ⟨by have := Int64.le_toInt x; omega, by have := Int64.toInt_lt x; omega⟩
theorem qint_ix {z : Int} {n : Nat} (h0 : 0 ≤ z) (h1 : z < n) (hz : -2147483648 ≤ z ∧ z ≤ 2147483647) : vp_in (Int32.ofInt z) n := by
  rw [vp_in_iff, qint_of hz]
  exact ⟨h0, h1⟩
theorem qint_cl {z : Int} (h0 : 0 ≤ z) (hz : -2147483648 ≤ z ∧ z ≤ 2147483647) : (Int32.ofInt z).toNatClampNeg = z.toNat := Int32.toNatClampNeg_ofInt_of_le (by omega) (by omega)
theorem qint_nn {z : Int} (h0 : 0 ≤ z) (hz : -2147483648 ≤ z ∧ z ≤ 2147483647) : ¬ Int32.ofInt z < 0 := by
  rw [Int32.lt_iff_toInt_lt, qint_of hz]
  show ¬ z < 0
  omega
