/-! STORES INTO LOCALS, BRANCHES -/
/-- no long begins just ahead of i -/
def qfree (ls : qLs) : Nat → Bool
  | 0 => true
  | j + 1 => match ls[j]? with
    | some (some (.inr (.inl _))) => false
    | _ => true
/-- the locals as the kit lists them -/
def qla (X : qX) (ls : qLs) : List (Nat × Value) := (List.range ls.length).filterMap (fun i => match ls[i]? with
  | some (some v) => some (i, qc X v)
  | _ => none)
theorem qla_in {X : qX} {ls : qLs} {i : Nat} {v : qV} (h : ls[i]? = some (some v)) : (i, qc X v) ∈ qla X ls := by
  refine List.mem_filterMap.mpr ⟨i, List.mem_range.mpr (List.getElem?_eq_some_iff.mp h).1, ?_⟩
  rw [h]
theorem qla_of {X : qX} {ls : qLs} {q : Nat × Value} (h : q ∈ qla X ls) : ∃ v, ls[q.1]? = some (some v) ∧ q.2 = qc X v := by
  obtain ⟨i, -, hi⟩ := List.mem_filterMap.mp h
  split at hi
  · rename_i v hv
    cases hi
    exact ⟨v, hv, rfl⟩
  · cases hi
theorem qL_has {X : qX} {nL : Nat} {ls : qLs} {lsc : Array Slot} (h : qL X nL ls lsc) : lv_has lsc nL (qla X ls) := by
  refine ⟨h.1, h.2.1, fun q hq => ?_⟩
  obtain ⟨v, hv, e⟩ := qla_of hq
  rw [e]
  exact (h.2.2.2 _ v hv).2
/-- what a store of one slot leaves -/
theorem qL_set1 {X : qX} {nL : Nat} {ls : qLs} {lsc : Array Slot} {i : Nat} {v : qV} (h : qL X nL ls lsc) (hi : i < nL) (hv : qok v) (hf : qfree ls i = true)
    {ls' : Array Slot} (h' : lv_has ls' nL ((i, qc X v) :: (qla X ls).filter (fun q => !(q.1 == i) && !(q.1 + 1 == i && q.2.category == 2)))) : qL X nL (ls.set i (some v)) ls' := by
  refine ⟨h'.1, h'.2.1, by rw [List.length_set]; exact h.2.2.1, fun j w hj => ?_⟩
  by_cases e : j = i
  · subst e
    rw [List.getElem?_set_self (by rw [h.2.2.1]; exact hi)] at hj
    cases hj
    exact ⟨hv, h'.2.2 (j, qc X v) List.mem_cons_self⟩
  · rw [List.getElem?_set_ne (Ne.symm e)] at hj
    refine ⟨(h.2.2.2 j w hj).1, h'.2.2 (j, qc X w) (List.mem_cons_of_mem _ (List.mem_filter.mpr ⟨qla_in hj, ?_⟩))⟩
    have n2 : ¬ (j + 1 = i ∧ (qc X w).category = 2) := by
      rintro ⟨q1, q2⟩
      subst q1
      rw [qcat_c] at q2
      have hf : (match ls[j]? with | some (some (.inr (.inl _))) => false | _ => true) = true := hf
      rw [hj] at hf
      rcases w with z | z | z
      · cases q2
      · cases hf
      · cases q2
    simp only [Bool.and_eq_true, Bool.not_eq_true', beq_eq_false_iff_ne, ne_eq, Bool.and_eq_false_iff]
    refine ⟨e, ?_⟩
    by_cases q1 : j + 1 = i
    · exact Or.inr (fun q2 => n2 ⟨q1, q2⟩)
    · exact Or.inl q1
theorem qL_set2 {X : qX} {nL : Nat} {ls : qLs} {lsc : Array Slot} {i : Nat} {v : qV} (h : qL X nL ls lsc) (hi : i + 1 < nL) (hv : qok v) (hf : qfree ls i = true)
    {ls' : Array Slot} (h' : lv_has ls' nL ((i, qc X v) :: (qla X ls).filter (fun q => !(q.1 == i) && (!(q.1 == i + 1) && !(q.1 + 1 == i && q.2.category == 2))))) : qL X nL ((ls.set i (some v)).set (i + 1) none) ls' := by
  refine ⟨h'.1, h'.2.1, by rw [List.length_set, List.length_set]; exact h.2.2.1, fun j w hj => ?_⟩
  by_cases e1 : j = i + 1
  · subst e1
    rw [List.getElem?_set_self (by rw [List.length_set, h.2.2.1]; exact hi)] at hj
    cases hj
  · rw [List.getElem?_set_ne (Ne.symm e1)] at hj
    by_cases e : j = i
    · subst e
      rw [List.getElem?_set_self (by rw [h.2.2.1]; omega)] at hj
      cases hj
      exact ⟨hv, h'.2.2 (j, qc X v) List.mem_cons_self⟩
    · rw [List.getElem?_set_ne (Ne.symm e)] at hj
      refine ⟨(h.2.2.2 j w hj).1, h'.2.2 (j, qc X w) (List.mem_cons_of_mem _ (List.mem_filter.mpr ⟨qla_in hj, ?_⟩))⟩
      have n2 : ¬ (j + 1 = i ∧ (qc X w).category = 2) := by
        rintro ⟨q1, q2⟩
        subst q1
        rw [qcat_c] at q2
        have hf : (match ls[j]? with | some (some (.inr (.inl _))) => false | _ => true) = true := hf
        rw [hj] at hf
        rcases w with z | z | z
        · cases q2
        · cases hf
        · cases q2
      simp only [Bool.and_eq_true, Bool.not_eq_true', beq_eq_false_iff_ne, ne_eq, Bool.and_eq_false_iff]
      refine ⟨e, e1, ?_⟩
      by_cases q1 : j + 1 = i
      · exact Or.inr (fun q2 => n2 ⟨q1, q2⟩)
      · exact Or.inl q1
def qo_istore (i n : Nat) : qOp := fun c => match c with
  | (pc, ls, .inl z :: r, h) => if qfree ls i = true ∧ i < ls.length then .inl (pc + n, ls.set i (some (qI z)), r, h) else .inr none
  | _ => .inr none
theorem qk_istore {X : qX} {l : Launch} {K : Nat} {cc : ByteArray} {nL : Nat} {own nm : String} {rt : Option FieldType} {pc : Nat} {i : Nat} (hd : decode cc pc = .ok (.istore i, 2)) : qOk X l K cc nL own nm rt pc (qo_istore i 2) := by
  intro ls st h
  unfold qo_istore
  constructor
  · intro cfg' hc
    split at hc
    · rename_i pc2 ls2 z r hh heq
      cases heq
      split at hc
      · rename_i hcnd
        cases hc
        refine ⟨qle_rf _, ?_⟩
        intro p e R s m args below meth c Q h0 hx hR hle hk H locs lsc hP hS hL hst hle'
        exact lv_istore hx.1 hx.2.1 hd (qL_has hL) (by rw [← hL.2.2.1]; exact hcnd.2) rfl (fun ls2 h2 => hk H locs ls2 hP hS (qL_set1 hL (by rw [← hL.2.2.1]; exact hcnd.2) (hst _ List.mem_cons_self) hcnd.1 h2) (fun v hv => hst v (List.mem_cons_of_mem _ hv)) hle')
      · cases hc
    · cases hc
  · intro r h' hc
    split at hc
    · split at hc
      · cases hc
      · cases hc
    · cases hc
theorem qk_istore_n {X : qX} {l : Launch} {K : Nat} {cc : ByteArray} {nL : Nat} {own nm : String} {rt : Option FieldType} {pc : Nat} {i : Nat} {kk : Fin 4} (hd : decode cc pc = .ok (.istore_n kk, 1)) (hi : (kk : Nat) = i) : qOk X l K cc nL own nm rt pc (qo_istore i 1) := by
  intro ls st h
  unfold qo_istore
  constructor
  · intro cfg' hc
    split at hc
    · rename_i pc2 ls2 z r hh heq
      cases heq
      split at hc
      · rename_i hcnd
        cases hc
        refine ⟨qle_rf _, ?_⟩
        intro p e R s m args below meth c Q h0 hx hR hle hk H locs lsc hP hS hL hst hle'
        exact lv_istore_n hx.1 hx.2.1 hd hi (qL_has hL) (by rw [← hL.2.2.1]; exact hcnd.2) rfl (fun ls2 h2 => hk H locs ls2 hP hS (qL_set1 hL (by rw [← hL.2.2.1]; exact hcnd.2) (hst _ List.mem_cons_self) hcnd.1 h2) (fun v hv => hst v (List.mem_cons_of_mem _ hv)) hle')
      · cases hc
    · cases hc
  · intro r h' hc
    split at hc
    · split at hc
      · cases hc
      · cases hc
    · cases hc
def qo_lstore (i n : Nat) : qOp := fun c => match c with
  | (pc, ls, .inr (.inl z) :: r, h) => if qfree ls i = true ∧ i + 1 < ls.length then .inl (pc + n, (ls.set i (some (qJ z))).set (i + 1) none, r, h) else .inr none
  | _ => .inr none
theorem qk_lstore {X : qX} {l : Launch} {K : Nat} {cc : ByteArray} {nL : Nat} {own nm : String} {rt : Option FieldType} {pc : Nat} {i : Nat} (hd : decode cc pc = .ok (.lstore i, 2)) : qOk X l K cc nL own nm rt pc (qo_lstore i 2) := by
  intro ls st h
  unfold qo_lstore
  constructor
  · intro cfg' hc
    split at hc
    · rename_i pc2 ls2 z r hh heq
      cases heq
      split at hc
      · rename_i hcnd
        cases hc
        refine ⟨qle_rf _, ?_⟩
        intro p e R s m args below meth c Q h0 hx hR hle hk H locs lsc hP hS hL hst hle'
        exact lv_lstore hx.1 hx.2.1 hd (qL_has hL) (by rw [← hL.2.2.1]; exact hcnd.2) rfl (fun ls2 h2 => hk H locs ls2 hP hS (qL_set2 hL (by rw [← hL.2.2.1]; exact hcnd.2) (hst _ List.mem_cons_self) hcnd.1 h2) (fun v hv => hst v (List.mem_cons_of_mem _ hv)) hle')
      · cases hc
    · cases hc
  · intro r h' hc
    split at hc
    · split at hc
      · cases hc
      · cases hc
    · cases hc
theorem qk_lstore_n {X : qX} {l : Launch} {K : Nat} {cc : ByteArray} {nL : Nat} {own nm : String} {rt : Option FieldType} {pc : Nat} {i : Nat} {kk : Fin 4} (hd : decode cc pc = .ok (.lstore_n kk, 1)) (hi : (kk : Nat) = i) : qOk X l K cc nL own nm rt pc (qo_lstore i 1) := by
  intro ls st h
  unfold qo_lstore
  constructor
  · intro cfg' hc
    split at hc
    · rename_i pc2 ls2 z r hh heq
      cases heq
      split at hc
      · rename_i hcnd
        cases hc
        refine ⟨qle_rf _, ?_⟩
        intro p e R s m args below meth c Q h0 hx hR hle hk H locs lsc hP hS hL hst hle'
        exact lv_lstore_n hx.1 hx.2.1 hd hi (qL_has hL) (by rw [← hL.2.2.1]; exact hcnd.2) rfl (fun ls2 h2 => hk H locs ls2 hP hS (qL_set2 hL (by rw [← hL.2.2.1]; exact hcnd.2) (hst _ List.mem_cons_self) hcnd.1 h2) (fun v hv => hst v (List.mem_cons_of_mem _ hv)) hle')
      · cases hc
    · cases hc
  · intro r h' hc
    split at hc
    · split at hc
      · cases hc
      · cases hc
    · cases hc
def qo_astore (i n : Nat) : qOp := fun c => match c with
  | (pc, ls, .inr (.inr z) :: r, h) => if qfree ls i = true ∧ i < ls.length then .inl (pc + n, ls.set i (some (qA z)), r, h) else .inr none
  | _ => .inr none
theorem qk_astore {X : qX} {l : Launch} {K : Nat} {cc : ByteArray} {nL : Nat} {own nm : String} {rt : Option FieldType} {pc : Nat} {i : Nat} (hd : decode cc pc = .ok (.astore i, 2)) : qOk X l K cc nL own nm rt pc (qo_astore i 2) := by
  intro ls st h
  unfold qo_astore
  constructor
  · intro cfg' hc
    split at hc
    · rename_i pc2 ls2 z r hh heq
      cases heq
      split at hc
      · rename_i hcnd
        cases hc
        refine ⟨qle_rf _, ?_⟩
        intro p e R s m args below meth c Q h0 hx hR hle hk H locs lsc hP hS hL hst hle'
        have hv0 := hst _ List.mem_cons_self
        rcases hq : qo X z with _ | q
        · have e9 : qc X (qA z) = .null := by show qr X z = _; unfold qr; rw [hq]; rfl
          show W p l e R s m args below meth c H locs _ _ Q (F0 m pc lsc (qc X (qA z) :: r.map (qc X)))
          rw [e9]
          exact lv_astoreN hx.1 hx.2.1 hd (qL_has hL) (by rw [← hL.2.2.1]; exact hcnd.2) rfl (fun ls2 h2 => hk H locs ls2 hP hS (qL_set1 hL (by rw [← hL.2.2.1]; exact hcnd.2) hv0 hcnd.1 (by rw [e9]; exact h2)) (fun v hv => hst v (List.mem_cons_of_mem _ hv)) hle')
        · have e9 : qc X (qA z) = .ref q := by show qr X z = _; unfold qr; rw [hq]; rfl
          show W p l e R s m args below meth c H locs _ _ Q (F0 m pc lsc (qc X (qA z) :: r.map (qc X)))
          rw [e9]
          exact lv_astore hx.1 hx.2.1 hd (qL_has hL) (by rw [← hL.2.2.1]; exact hcnd.2) rfl (fun ls2 h2 => hk H locs ls2 hP hS (qL_set1 hL (by rw [← hL.2.2.1]; exact hcnd.2) hv0 hcnd.1 (by rw [e9]; exact h2)) (fun v hv => hst v (List.mem_cons_of_mem _ hv)) hle')
      · cases hc
    · cases hc
  · intro r h' hc
    split at hc
    · split at hc
      · cases hc
      · cases hc
    · cases hc
theorem qk_astore_n {X : qX} {l : Launch} {K : Nat} {cc : ByteArray} {nL : Nat} {own nm : String} {rt : Option FieldType} {pc : Nat} {i : Nat} {kk : Fin 4} (hd : decode cc pc = .ok (.astore_n kk, 1)) (hi : (kk : Nat) = i) : qOk X l K cc nL own nm rt pc (qo_astore i 1) := by
  intro ls st h
  unfold qo_astore
  constructor
  · intro cfg' hc
    split at hc
    · rename_i pc2 ls2 z r hh heq
      cases heq
      split at hc
      · rename_i hcnd
        cases hc
        refine ⟨qle_rf _, ?_⟩
        intro p e R s m args below meth c Q h0 hx hR hle hk H locs lsc hP hS hL hst hle'
        have hv0 := hst _ List.mem_cons_self
        rcases hq : qo X z with _ | q
        · have e9 : qc X (qA z) = .null := by show qr X z = _; unfold qr; rw [hq]; rfl
          show W p l e R s m args below meth c H locs _ _ Q (F0 m pc lsc (qc X (qA z) :: r.map (qc X)))
          rw [e9]
          exact lv_astore_nN hx.1 hx.2.1 hd hi (qL_has hL) (by rw [← hL.2.2.1]; exact hcnd.2) rfl (fun ls2 h2 => hk H locs ls2 hP hS (qL_set1 hL (by rw [← hL.2.2.1]; exact hcnd.2) hv0 hcnd.1 (by rw [e9]; exact h2)) (fun v hv => hst v (List.mem_cons_of_mem _ hv)) hle')
        · have e9 : qc X (qA z) = .ref q := by show qr X z = _; unfold qr; rw [hq]; rfl
          show W p l e R s m args below meth c H locs _ _ Q (F0 m pc lsc (qc X (qA z) :: r.map (qc X)))
          rw [e9]
          exact lv_astore_n hx.1 hx.2.1 hd hi (qL_has hL) (by rw [← hL.2.2.1]; exact hcnd.2) rfl (fun ls2 h2 => hk H locs ls2 hP hS (qL_set1 hL (by rw [← hL.2.2.1]; exact hcnd.2) hv0 hcnd.1 (by rw [e9]; exact h2)) (fun v hv => hst v (List.mem_cons_of_mem _ hv)) hle')
      · cases hc
    · cases hc
  · intro r h' hc
    split at hc
    · split at hc
      · cases hc
      · cases hc
    · cases hc
def qo_iinc (i : Nat) (d : Int) : qOp := fun c => match c with
  | (pc, ls, st, h) => match ls[i]? with
    | some (some (.inl z)) => if qfree ls i = true ∧ i < ls.length then .inl (pc + 3, ls.set i (some (qI (Int32.ofInt z + Int32.ofInt d).toInt)), st, h) else .inr none
    | _ => .inr none
theorem qk_iinc {X : qX} {l : Launch} {K : Nat} {cc : ByteArray} {nL : Nat} {own nm : String} {rt : Option FieldType} {pc : Nat} {i : Nat} {d : Int} (hd : decode cc pc = .ok (.iinc i d, 3)) : qOk X l K cc nL own nm rt pc (qo_iinc i d) := by
  intro ls st h
  unfold qo_iinc
  dsimp only
  constructor
  · intro cfg' hc
    split at hc
    · rename_i z hz
      split at hc
      · rename_i hcnd
        cases hc
        refine ⟨qle_rf _, ?_⟩
        intro p e R s m args below meth c Q h0 hx hR hle hk H locs lsc hP hS hL hst hle'
        obtain ⟨k9, hk9⟩ := List.getElem?_of_mem (qla_in (X := X) hz)
        refine lv_iinc (v := Int32.ofInt z + Int32.ofInt d) hx.1 hx.2.1 hd (qL_has hL) hk9 rfl (by rw [← hL.2.2.1]; exact hcnd.2) rfl (fun ls2 h2 => hk H locs ls2 hP hS (qL_set1 (v := qI (Int32.ofInt z + Int32.ofInt d).toInt) hL (by rw [← hL.2.2.1]; exact hcnd.2) (qint_rg _) hcnd.1 ?_) hst hle')
        have e9 : qc X (qI (Int32.ofInt z + Int32.ofInt d).toInt) = .int (Int32.ofInt z + Int32.ofInt d) := congrArg Value.int (Int32.ofInt_toInt _)
        rw [e9]
        exact h2
      · cases hc
    · cases hc
  · intro r h' hc
    split at hc
    · split at hc
      · cases hc
      · cases hc
    · cases hc
def qo_goto (t : Nat) : qOp := fun c => .inl (t, c.2.1, c.2.2.1, c.2.2.2)
theorem qk_goto {X : qX} {l : Launch} {K : Nat} {cc : ByteArray} {nL : Nat} {own nm : String} {rt : Option FieldType} {pc : Nat} {off : Int} {t : Nat} (hd : decode cc pc = .ok (.goto off, 3)) (ht : (pc : Int) + off = (t : Int)) : qOk X l K cc nL own nm rt pc (qo_goto t) := by
  intro ls st h
  constructor
  · intro cfg' hc
    cases hc
    refine ⟨qle_rf _, ?_⟩
    intro p e R s m args below meth c Q h0 hx hR hle hk H locs lsc hP hS hL hst hle'
    exact lv_goto hx.1 hx.2.1 hd ht (hk H locs lsc hP hS hL hst hle')
  · intro r h' hc
    cases hc
theorem qq_eq {a b : Int} (ha : -2147483648 ≤ a ∧ a ≤ 2147483647) (hb : -2147483648 ≤ b ∧ b ≤ 2147483647) : Int32.ofInt a = Int32.ofInt b ↔ a = b := by
  constructor
  · intro h
    have := congrArg Int32.toInt h
    rw [qint_of ha, qint_of hb] at this
    exact this
  · intro h; rw [h]
theorem qq_lt {a b : Int} (ha : -2147483648 ≤ a ∧ a ≤ 2147483647) (hb : -2147483648 ≤ b ∧ b ≤ 2147483647) : Int32.ofInt a < Int32.ofInt b ↔ a < b := by
  rw [Int32.lt_iff_toInt_lt, qint_of ha, qint_of hb]
theorem qq_le {a b : Int} (ha : -2147483648 ≤ a ∧ a ≤ 2147483647) (hb : -2147483648 ≤ b ∧ b ≤ 2147483647) : Int32.ofInt a ≤ Int32.ofInt b ↔ a ≤ b := by
  rw [Int32.le_iff_toInt_le, qint_of ha, qint_of hb]
theorem qq_0 : (-2147483648 : Int) ≤ 0 ∧ (0 : Int) ≤ 2147483647 := by omega
theorem qite {A B : Prop} [Decidable A] [Decidable B] (h : A ↔ B) {α : Type} (x y : α) : (if A then x else y) = (if B then x else y) := by
  by_cases hA : A
  · rw [if_pos hA, if_pos (h.mp hA)]
  · rw [if_neg hA, if_neg (fun q => hA (h.mpr q))]
def qo_ifeq (t : Nat) : qOp := fun c => match c with
  | (pc, ls, .inl a :: r, h) => .inl (if a = 0 then t else pc + 3, ls, r, h)
  | _ => .inr none
theorem qk_ifeq {X : qX} {l : Launch} {K : Nat} {cc : ByteArray} {nL : Nat} {own nm : String} {rt : Option FieldType} {pc : Nat} {off : Int} {t : Nat} (hd : decode cc pc = .ok (.ifCond .eq off, 3)) (ht : (pc : Int) + off = (t : Int)) : qOk X l K cc nL own nm rt pc (qo_ifeq t) := by
  intro ls st h
  unfold qo_ifeq
  constructor
  · intro cfg' hc
    split at hc
    · rename_i heq
      cases heq
      cases hc
      refine ⟨qle_rf _, ?_⟩
      intro p e R s m args below meth c Q h0 hx hR hle hk H locs lsc hP hS hL hst hle'
      rename_i a r
      have ha : -2147483648 ≤ a ∧ a ≤ 2147483647 := hst (qI a) List.mem_cons_self
      have hiff := qq_eq ha qq_0
      refine lv_if_eq hx.1 hx.2.1 hd ht (fun hq => ?_) (fun hq => ?_)
      · have k := hk H locs lsc hP hS hL (fun v hv => hst v (by simp [hv])) hle'
        dsimp only at k
        rw [if_pos (hiff.mp hq)] at k
        exact k
      · have k := hk H locs lsc hP hS hL (fun v hv => hst v (by simp [hv])) hle'
        dsimp only at k
        rw [if_neg (by first | exact fun z => hq (hiff.mpr z) | exact fun z => (hiff.mpr z) hq)] at k
        exact k
    · cases hc
  · intro r h' hc
    split at hc
    · cases hc
    · cases hc
def qo_ifne (t : Nat) : qOp := fun c => match c with
  | (pc, ls, .inl a :: r, h) => .inl (if ¬ a = 0 then t else pc + 3, ls, r, h)
  | _ => .inr none
theorem qk_ifne {X : qX} {l : Launch} {K : Nat} {cc : ByteArray} {nL : Nat} {own nm : String} {rt : Option FieldType} {pc : Nat} {off : Int} {t : Nat} (hd : decode cc pc = .ok (.ifCond .ne off, 3)) (ht : (pc : Int) + off = (t : Int)) : qOk X l K cc nL own nm rt pc (qo_ifne t) := by
  intro ls st h
  unfold qo_ifne
  constructor
  · intro cfg' hc
    split at hc
    · rename_i heq
      cases heq
      cases hc
      refine ⟨qle_rf _, ?_⟩
      intro p e R s m args below meth c Q h0 hx hR hle hk H locs lsc hP hS hL hst hle'
      rename_i a r
      have ha : -2147483648 ≤ a ∧ a ≤ 2147483647 := hst (qI a) List.mem_cons_self
      have hiff := not_congr (qq_eq ha qq_0)
      refine lv_if_ne hx.1 hx.2.1 hd ht (fun hq => ?_) (fun hq => ?_)
      · have k := hk H locs lsc hP hS hL (fun v hv => hst v (by simp [hv])) hle'
        dsimp only at k
        rw [if_pos (hiff.mp hq)] at k
        exact k
      · have k := hk H locs lsc hP hS hL (fun v hv => hst v (by simp [hv])) hle'
        dsimp only at k
        rw [if_neg (by first | exact fun z => hq (hiff.mpr z) | exact fun z => (hiff.mpr z) hq)] at k
        exact k
    · cases hc
  · intro r h' hc
    split at hc
    · cases hc
    · cases hc
def qo_iflt (t : Nat) : qOp := fun c => match c with
  | (pc, ls, .inl a :: r, h) => .inl (if a < 0 then t else pc + 3, ls, r, h)
  | _ => .inr none
theorem qk_iflt {X : qX} {l : Launch} {K : Nat} {cc : ByteArray} {nL : Nat} {own nm : String} {rt : Option FieldType} {pc : Nat} {off : Int} {t : Nat} (hd : decode cc pc = .ok (.ifCond .lt off, 3)) (ht : (pc : Int) + off = (t : Int)) : qOk X l K cc nL own nm rt pc (qo_iflt t) := by
  intro ls st h
  unfold qo_iflt
  constructor
  · intro cfg' hc
    split at hc
    · rename_i heq
      cases heq
      cases hc
      refine ⟨qle_rf _, ?_⟩
      intro p e R s m args below meth c Q h0 hx hR hle hk H locs lsc hP hS hL hst hle'
      rename_i a r
      have ha : -2147483648 ≤ a ∧ a ≤ 2147483647 := hst (qI a) List.mem_cons_self
      have hiff := qq_lt ha qq_0
      refine lv_if_lt hx.1 hx.2.1 hd ht (fun hq => ?_) (fun hq => ?_)
      · have k := hk H locs lsc hP hS hL (fun v hv => hst v (by simp [hv])) hle'
        dsimp only at k
        rw [if_pos (hiff.mp hq)] at k
        exact k
      · have k := hk H locs lsc hP hS hL (fun v hv => hst v (by simp [hv])) hle'
        dsimp only at k
        rw [if_neg (by first | exact fun z => hq (hiff.mpr z) | exact fun z => (hiff.mpr z) hq)] at k
        exact k
    · cases hc
  · intro r h' hc
    split at hc
    · cases hc
    · cases hc
def qo_ifge (t : Nat) : qOp := fun c => match c with
  | (pc, ls, .inl a :: r, h) => .inl (if 0 ≤ a then t else pc + 3, ls, r, h)
  | _ => .inr none
theorem qk_ifge {X : qX} {l : Launch} {K : Nat} {cc : ByteArray} {nL : Nat} {own nm : String} {rt : Option FieldType} {pc : Nat} {off : Int} {t : Nat} (hd : decode cc pc = .ok (.ifCond .ge off, 3)) (ht : (pc : Int) + off = (t : Int)) : qOk X l K cc nL own nm rt pc (qo_ifge t) := by
  intro ls st h
  unfold qo_ifge
  constructor
  · intro cfg' hc
    split at hc
    · rename_i heq
      cases heq
      cases hc
      refine ⟨qle_rf _, ?_⟩
      intro p e R s m args below meth c Q h0 hx hR hle hk H locs lsc hP hS hL hst hle'
      rename_i a r
      have ha : -2147483648 ≤ a ∧ a ≤ 2147483647 := hst (qI a) List.mem_cons_self
      have hiff := qq_le qq_0 ha
      refine lv_if_ge hx.1 hx.2.1 hd ht (fun hq => ?_) (fun hq => ?_)
      · have k := hk H locs lsc hP hS hL (fun v hv => hst v (by simp [hv])) hle'
        dsimp only at k
        rw [if_pos (hiff.mp hq)] at k
        exact k
      · have k := hk H locs lsc hP hS hL (fun v hv => hst v (by simp [hv])) hle'
        dsimp only at k
        rw [if_neg (by first | exact fun z => hq (hiff.mpr z) | exact fun z => (hiff.mpr z) hq)] at k
        exact k
    · cases hc
  · intro r h' hc
    split at hc
    · cases hc
    · cases hc
def qo_ifgt (t : Nat) : qOp := fun c => match c with
  | (pc, ls, .inl a :: r, h) => .inl (if 0 < a then t else pc + 3, ls, r, h)
  | _ => .inr none
theorem qk_ifgt {X : qX} {l : Launch} {K : Nat} {cc : ByteArray} {nL : Nat} {own nm : String} {rt : Option FieldType} {pc : Nat} {off : Int} {t : Nat} (hd : decode cc pc = .ok (.ifCond .gt off, 3)) (ht : (pc : Int) + off = (t : Int)) : qOk X l K cc nL own nm rt pc (qo_ifgt t) := by
  intro ls st h
  unfold qo_ifgt
  constructor
  · intro cfg' hc
    split at hc
    · rename_i heq
      cases heq
      cases hc
      refine ⟨qle_rf _, ?_⟩
      intro p e R s m args below meth c Q h0 hx hR hle hk H locs lsc hP hS hL hst hle'
      rename_i a r
      have ha : -2147483648 ≤ a ∧ a ≤ 2147483647 := hst (qI a) List.mem_cons_self
      have hiff := qq_lt qq_0 ha
      refine lv_if_gt hx.1 hx.2.1 hd ht (fun hq => ?_) (fun hq => ?_)
      · have k := hk H locs lsc hP hS hL (fun v hv => hst v (by simp [hv])) hle'
        dsimp only at k
        rw [if_pos (hiff.mp hq)] at k
        exact k
      · have k := hk H locs lsc hP hS hL (fun v hv => hst v (by simp [hv])) hle'
        dsimp only at k
        rw [if_neg (by first | exact fun z => hq (hiff.mpr z) | exact fun z => (hiff.mpr z) hq)] at k
        exact k
    · cases hc
  · intro r h' hc
    split at hc
    · cases hc
    · cases hc
def qo_ifle (t : Nat) : qOp := fun c => match c with
  | (pc, ls, .inl a :: r, h) => .inl (if a ≤ 0 then t else pc + 3, ls, r, h)
  | _ => .inr none
theorem qk_ifle {X : qX} {l : Launch} {K : Nat} {cc : ByteArray} {nL : Nat} {own nm : String} {rt : Option FieldType} {pc : Nat} {off : Int} {t : Nat} (hd : decode cc pc = .ok (.ifCond .le off, 3)) (ht : (pc : Int) + off = (t : Int)) : qOk X l K cc nL own nm rt pc (qo_ifle t) := by
  intro ls st h
  unfold qo_ifle
  constructor
  · intro cfg' hc
    split at hc
    · rename_i heq
      cases heq
      cases hc
      refine ⟨qle_rf _, ?_⟩
      intro p e R s m args below meth c Q h0 hx hR hle hk H locs lsc hP hS hL hst hle'
      rename_i a r
      have ha : -2147483648 ≤ a ∧ a ≤ 2147483647 := hst (qI a) List.mem_cons_self
      have hiff := qq_le ha qq_0
      refine lv_if_le hx.1 hx.2.1 hd ht (fun hq => ?_) (fun hq => ?_)
      · have k := hk H locs lsc hP hS hL (fun v hv => hst v (by simp [hv])) hle'
        dsimp only at k
        rw [if_pos (hiff.mp hq)] at k
        exact k
      · have k := hk H locs lsc hP hS hL (fun v hv => hst v (by simp [hv])) hle'
        dsimp only at k
        rw [if_neg (by first | exact fun z => hq (hiff.mpr z) | exact fun z => (hiff.mpr z) hq)] at k
        exact k
    · cases hc
  · intro r h' hc
    split at hc
    · cases hc
    · cases hc
def qo_iceq (t : Nat) : qOp := fun c => match c with
  | (pc, ls, .inl b :: .inl a :: r, h) => .inl (if a = b then t else pc + 3, ls, r, h)
  | _ => .inr none
theorem qk_iceq {X : qX} {l : Launch} {K : Nat} {cc : ByteArray} {nL : Nat} {own nm : String} {rt : Option FieldType} {pc : Nat} {off : Int} {t : Nat} (hd : decode cc pc = .ok (.if_icmp .eq off, 3)) (ht : (pc : Int) + off = (t : Int)) : qOk X l K cc nL own nm rt pc (qo_iceq t) := by
  intro ls st h
  unfold qo_iceq
  constructor
  · intro cfg' hc
    split at hc
    · rename_i heq
      cases heq
      cases hc
      refine ⟨qle_rf _, ?_⟩
      intro p e R s m args below meth c Q h0 hx hR hle hk H locs lsc hP hS hL hst hle'
      rename_i b a r
      have ha : -2147483648 ≤ a ∧ a ≤ 2147483647 := hst (qI a) (List.mem_cons_of_mem _ List.mem_cons_self)
      have hb : -2147483648 ≤ b ∧ b ≤ 2147483647 := hst (qI b) List.mem_cons_self
      have hiff := qq_eq ha hb
      refine lv_icmp_eq hx.1 hx.2.1 hd ht (fun hq => ?_) (fun hq => ?_)
      · have k := hk H locs lsc hP hS hL (fun v hv => hst v (by simp [hv])) hle'
        dsimp only at k
        rw [if_pos (hiff.mp hq)] at k
        exact k
      · have k := hk H locs lsc hP hS hL (fun v hv => hst v (by simp [hv])) hle'
        dsimp only at k
        rw [if_neg (by first | exact fun z => hq (hiff.mpr z) | exact fun z => (hiff.mpr z) hq)] at k
        exact k
    · cases hc
  · intro r h' hc
    split at hc
    · cases hc
    · cases hc
def qo_icne (t : Nat) : qOp := fun c => match c with
  | (pc, ls, .inl b :: .inl a :: r, h) => .inl (if ¬ a = b then t else pc + 3, ls, r, h)
  | _ => .inr none
theorem qk_icne {X : qX} {l : Launch} {K : Nat} {cc : ByteArray} {nL : Nat} {own nm : String} {rt : Option FieldType} {pc : Nat} {off : Int} {t : Nat} (hd : decode cc pc = .ok (.if_icmp .ne off, 3)) (ht : (pc : Int) + off = (t : Int)) : qOk X l K cc nL own nm rt pc (qo_icne t) := by
  intro ls st h
  unfold qo_icne
  constructor
  · intro cfg' hc
    split at hc
    · rename_i heq
      cases heq
      cases hc
      refine ⟨qle_rf _, ?_⟩
      intro p e R s m args below meth c Q h0 hx hR hle hk H locs lsc hP hS hL hst hle'
      rename_i b a r
      have ha : -2147483648 ≤ a ∧ a ≤ 2147483647 := hst (qI a) (List.mem_cons_of_mem _ List.mem_cons_self)
      have hb : -2147483648 ≤ b ∧ b ≤ 2147483647 := hst (qI b) List.mem_cons_self
      have hiff := not_congr (qq_eq ha hb)
      refine lv_icmp_ne hx.1 hx.2.1 hd ht (fun hq => ?_) (fun hq => ?_)
      · have k := hk H locs lsc hP hS hL (fun v hv => hst v (by simp [hv])) hle'
        dsimp only at k
        rw [if_pos (hiff.mp hq)] at k
        exact k
      · have k := hk H locs lsc hP hS hL (fun v hv => hst v (by simp [hv])) hle'
        dsimp only at k
        rw [if_neg (by first | exact fun z => hq (hiff.mpr z) | exact fun z => (hiff.mpr z) hq)] at k
        exact k
    · cases hc
  · intro r h' hc
    split at hc
    · cases hc
    · cases hc
def qo_iclt (t : Nat) : qOp := fun c => match c with
  | (pc, ls, .inl b :: .inl a :: r, h) => .inl (if a < b then t else pc + 3, ls, r, h)
  | _ => .inr none
theorem qk_iclt {X : qX} {l : Launch} {K : Nat} {cc : ByteArray} {nL : Nat} {own nm : String} {rt : Option FieldType} {pc : Nat} {off : Int} {t : Nat} (hd : decode cc pc = .ok (.if_icmp .lt off, 3)) (ht : (pc : Int) + off = (t : Int)) : qOk X l K cc nL own nm rt pc (qo_iclt t) := by
  intro ls st h
  unfold qo_iclt
  constructor
  · intro cfg' hc
    split at hc
    · rename_i heq
      cases heq
      cases hc
      refine ⟨qle_rf _, ?_⟩
      intro p e R s m args below meth c Q h0 hx hR hle hk H locs lsc hP hS hL hst hle'
      rename_i b a r
      have ha : -2147483648 ≤ a ∧ a ≤ 2147483647 := hst (qI a) (List.mem_cons_of_mem _ List.mem_cons_self)
      have hb : -2147483648 ≤ b ∧ b ≤ 2147483647 := hst (qI b) List.mem_cons_self
      have hiff := qq_lt ha hb
      refine lv_icmp_lt hx.1 hx.2.1 hd ht (fun hq => ?_) (fun hq => ?_)
      · have k := hk H locs lsc hP hS hL (fun v hv => hst v (by simp [hv])) hle'
        dsimp only at k
        rw [if_pos (hiff.mp hq)] at k
        exact k
      · have k := hk H locs lsc hP hS hL (fun v hv => hst v (by simp [hv])) hle'
        dsimp only at k
        rw [if_neg (by first | exact fun z => hq (hiff.mpr z) | exact fun z => (hiff.mpr z) hq)] at k
        exact k
    · cases hc
  · intro r h' hc
    split at hc
    · cases hc
    · cases hc
def qo_icge (t : Nat) : qOp := fun c => match c with
  | (pc, ls, .inl b :: .inl a :: r, h) => .inl (if b ≤ a then t else pc + 3, ls, r, h)
  | _ => .inr none
theorem qk_icge {X : qX} {l : Launch} {K : Nat} {cc : ByteArray} {nL : Nat} {own nm : String} {rt : Option FieldType} {pc : Nat} {off : Int} {t : Nat} (hd : decode cc pc = .ok (.if_icmp .ge off, 3)) (ht : (pc : Int) + off = (t : Int)) : qOk X l K cc nL own nm rt pc (qo_icge t) := by
  intro ls st h
  unfold qo_icge
  constructor
  · intro cfg' hc
    split at hc
    · rename_i heq
      cases heq
      cases hc
      refine ⟨qle_rf _, ?_⟩
      intro p e R s m args below meth c Q h0 hx hR hle hk H locs lsc hP hS hL hst hle'
      rename_i b a r
      have ha : -2147483648 ≤ a ∧ a ≤ 2147483647 := hst (qI a) (List.mem_cons_of_mem _ List.mem_cons_self)
      have hb : -2147483648 ≤ b ∧ b ≤ 2147483647 := hst (qI b) List.mem_cons_self
      have hiff := qq_le hb ha
      refine lv_icmp_ge hx.1 hx.2.1 hd ht (fun hq => ?_) (fun hq => ?_)
      · have k := hk H locs lsc hP hS hL (fun v hv => hst v (by simp [hv])) hle'
        dsimp only at k
        rw [if_pos (hiff.mp hq)] at k
        exact k
      · have k := hk H locs lsc hP hS hL (fun v hv => hst v (by simp [hv])) hle'
        dsimp only at k
        rw [if_neg (by first | exact fun z => hq (hiff.mpr z) | exact fun z => (hiff.mpr z) hq)] at k
        exact k
    · cases hc
  · intro r h' hc
    split at hc
    · cases hc
    · cases hc
def qo_icgt (t : Nat) : qOp := fun c => match c with
  | (pc, ls, .inl b :: .inl a :: r, h) => .inl (if b < a then t else pc + 3, ls, r, h)
  | _ => .inr none
theorem qk_icgt {X : qX} {l : Launch} {K : Nat} {cc : ByteArray} {nL : Nat} {own nm : String} {rt : Option FieldType} {pc : Nat} {off : Int} {t : Nat} (hd : decode cc pc = .ok (.if_icmp .gt off, 3)) (ht : (pc : Int) + off = (t : Int)) : qOk X l K cc nL own nm rt pc (qo_icgt t) := by
  intro ls st h
  unfold qo_icgt
  constructor
  · intro cfg' hc
    split at hc
    · rename_i heq
      cases heq
      cases hc
      refine ⟨qle_rf _, ?_⟩
      intro p e R s m args below meth c Q h0 hx hR hle hk H locs lsc hP hS hL hst hle'
      rename_i b a r
      have ha : -2147483648 ≤ a ∧ a ≤ 2147483647 := hst (qI a) (List.mem_cons_of_mem _ List.mem_cons_self)
      have hb : -2147483648 ≤ b ∧ b ≤ 2147483647 := hst (qI b) List.mem_cons_self
      have hiff := qq_lt hb ha
      refine lv_icmp_gt hx.1 hx.2.1 hd ht (fun hq => ?_) (fun hq => ?_)
      · have k := hk H locs lsc hP hS hL (fun v hv => hst v (by simp [hv])) hle'
        dsimp only at k
        rw [if_pos (hiff.mp hq)] at k
        exact k
      · have k := hk H locs lsc hP hS hL (fun v hv => hst v (by simp [hv])) hle'
        dsimp only at k
        rw [if_neg (by first | exact fun z => hq (hiff.mpr z) | exact fun z => (hiff.mpr z) hq)] at k
        exact k
    · cases hc
  · intro r h' hc
    split at hc
    · cases hc
    · cases hc
def qo_icle (t : Nat) : qOp := fun c => match c with
  | (pc, ls, .inl b :: .inl a :: r, h) => .inl (if a ≤ b then t else pc + 3, ls, r, h)
  | _ => .inr none
theorem qk_icle {X : qX} {l : Launch} {K : Nat} {cc : ByteArray} {nL : Nat} {own nm : String} {rt : Option FieldType} {pc : Nat} {off : Int} {t : Nat} (hd : decode cc pc = .ok (.if_icmp .le off, 3)) (ht : (pc : Int) + off = (t : Int)) : qOk X l K cc nL own nm rt pc (qo_icle t) := by
  intro ls st h
  unfold qo_icle
  constructor
  · intro cfg' hc
    split at hc
    · rename_i heq
      cases heq
      cases hc
      refine ⟨qle_rf _, ?_⟩
      intro p e R s m args below meth c Q h0 hx hR hle hk H locs lsc hP hS hL hst hle'
      rename_i b a r
      have ha : -2147483648 ≤ a ∧ a ≤ 2147483647 := hst (qI a) (List.mem_cons_of_mem _ List.mem_cons_self)
      have hb : -2147483648 ≤ b ∧ b ≤ 2147483647 := hst (qI b) List.mem_cons_self
      have hiff := qq_le ha hb
      refine lv_icmp_le hx.1 hx.2.1 hd ht (fun hq => ?_) (fun hq => ?_)
      · have k := hk H locs lsc hP hS hL (fun v hv => hst v (by simp [hv])) hle'
        dsimp only at k
        rw [if_pos (hiff.mp hq)] at k
        exact k
      · have k := hk H locs lsc hP hS hL (fun v hv => hst v (by simp [hv])) hle'
        dsimp only at k
        rw [if_neg (by first | exact fun z => hq (hiff.mpr z) | exact fun z => (hiff.mpr z) hq)] at k
        exact k
    · cases hc
  · intro r h' hc
    split at hc
    · cases hc
    · cases hc
def qlk : List (Int × Nat) → Nat → Int → Nat
  | [], d, _ => d
  | (k, t) :: r, d, a => if a = k then t else qlk r d a
theorem qlk_ok {pc td : Nat} {dflt : Int} (hd : (pc : Int) + dflt = (td : Int)) : ∀ (ps : List (Int × Int)) (tl : List (Int × Nat)), ps.map (fun q => (q.1, (pc : Int) + q.2)) = tl.map (fun q => (q.1, (q.2 : Int))) → ∀ a : Int, (pc : Int) + Op.lookupswitch.offset ps dflt a = (qlk tl td a : Int)
  | [], [], _, a => hd
  | [], _ :: _, h, _ => by cases h
  | _ :: _, [], h, _ => by cases h
  | (k, o) :: ps, (k2, t) :: tl, h, a => by
    rw [List.map_cons, List.map_cons] at h
    obtain ⟨h1, h2⟩ := List.cons.inj h
    have e1 : k = k2 := congrArg Prod.fst h1
    have e2 : (pc : Int) + o = (t : Int) := congrArg Prod.snd h1
    subst e1
    rw [Op.lookupswitch.offset_cons]
    unfold qlk
    by_cases e : a = k
    · rw [if_pos e, if_pos e.symm]
      exact e2
    · rw [if_neg e, if_neg (fun q => e q.symm)]
      exact qlk_ok hd ps tl h2 a
def qo_lsw (tl : List (Int × Nat)) (td : Nat) : qOp := fun c => match c with
  | (pc, ls, .inl a :: r, h) => .inl (qlk tl td a, ls, r, h)
  | _ => .inr none
theorem qk_lsw {X : qX} {l : Launch} {K : Nat} {cc : ByteArray} {nL : Nat} {own nm : String} {rt : Option FieldType} {pc : Nat} {dflt : Int} {ps : Array (Int × Int)} {len td : Nat} {tl : List (Int × Nat)} (hd : decode cc pc = .ok (.lookupswitch dflt ps, len)) (hp : (ps.toList.zip (ps.toList.drop 1)).all (fun (a, next) => a.1 < next.1) = true) (h1 : (pc : Int) + dflt = (td : Int)) (h2 : ps.toList.map (fun q => (q.1, (pc : Int) + q.2)) = tl.map (fun q => (q.1, (q.2 : Int)))) : qOk X l K cc nL own nm rt pc (qo_lsw tl td) := by
  intro ls st h
  unfold qo_lsw
  constructor
  · intro cfg' hc
    split at hc
    · rename_i a r hh heq
      cases heq
      cases hc
      refine ⟨qle_rf _, ?_⟩
      intro p e R s m args below meth c Q h0 hx hR hle hk H locs lsc hP hS hL hst hle'
      have ha : -2147483648 ≤ a ∧ a ≤ 2147483647 := hst (qI a) List.mem_cons_self
      exact lv_lookup hx.1 hx.2.1 hd hp rfl (by rw [qint_of ha]; exact qlk_ok h1 _ _ h2 a) (hk H locs lsc hP hS hL (fun v hv => hst v (List.mem_cons_of_mem _ hv)) hle')
    · cases hc
  · intro r h' hc
    split at hc
    · cases hc
    · cases hc
/-- a table's branches, from lo on -/
def qtk : List Nat → Nat → Int → Int → Nat
  | [], d, _, _ => d
  | t :: r, d, lo, a => if a = lo then t else qtk r d (lo + 1) a
theorem qtk_out {td : Nat} : ∀ (tl : List Nat) (lo a : Int), (a < lo ∨ lo + tl.length ≤ a) → qtk tl td lo a = td
  | [], _, _, _ => rfl
  | t :: tl, lo, a, h => by
    unfold qtk
    rw [List.length_cons] at h
    rw [if_neg (by omega)]
    exact qtk_out tl (lo + 1) a (by omega)
theorem qtk_in {td : Nat} : ∀ (tl : List Nat) (lo a : Int) (t : Nat), lo ≤ a → tl[(a - lo).toNat]? = some t → qtk tl td lo a = t
  | [], lo, a, t, _, h => by simp at h
  | t0 :: tl, lo, a, t, h1, h => by
    unfold qtk
    by_cases e : a = lo
    · rw [if_pos e]
      subst e
      rw [show (a - a).toNat = 0 by omega] at h
      exact Option.some.inj h
    · rw [if_neg e]
      refine qtk_in tl (lo + 1) a t (by omega) ?_
      rw [show (a - lo).toNat = (a - (lo + 1)).toNat + 1 by omega, List.getElem?_cons_succ] at h
      exact h
def qo_tsw (lo : Int) (tl : List Nat) (td : Nat) : qOp := fun c => match c with
  | (pc, ls, .inl a :: r, h) => .inl (qtk tl td lo a, ls, r, h)
  | _ => .inr none
theorem qk_tsw {X : qX} {l : Launch} {K : Nat} {cc : ByteArray} {nL : Nat} {own nm : String} {rt : Option FieldType} {pc : Nat} {dflt lo hi : Int} {offs : Array Int} {len td : Nat} {tl : List Nat} (hd : decode cc pc = .ok (.tableswitch dflt lo hi offs, len)) (h1 : (pc : Int) + dflt = (td : Int)) (h2 : offs.toList.map (fun q => (pc : Int) + q) = tl.map (fun (q : Nat) => (q : Int))) (h3 : hi = lo + tl.length - 1) : qOk X l K cc nL own nm rt pc (qo_tsw lo tl td) := by
  intro ls st h
  unfold qo_tsw
  constructor
  · intro cfg' hc
    split at hc
    · rename_i a r hh heq
      cases heq
      cases hc
      refine ⟨qle_rf _, ?_⟩
      intro p e R s m args below meth c Q h0 hx hR hle hk H locs lsc hP hS hL hst hle'
      have ha : -2147483648 ≤ a ∧ a ≤ 2147483647 := hst (qI a) List.mem_cons_self
      have k := hk H locs lsc hP hS hL (fun v hv => hst v (List.mem_cons_of_mem _ hv)) hle'
      dsimp only at k
      by_cases ho : a < lo ∨ hi < a
      · rw [qtk_out tl lo a (by omega)] at k
        exact lv_tableOut hx.1 hx.2.1 hd (by rw [qint_of ha]; exact ho) h1 k
      · have hlen : (a - lo).toNat < tl.length := by omega
        have ht : tl[(a - lo).toNat]? = some tl[(a - lo).toNat] := List.getElem?_eq_getElem hlen
        rw [qtk_in tl lo a _ (by omega) ht] at k
        have e2 : (offs.toList.map (fun q => (pc : Int) + q))[(a - lo).toNat]? = some ((tl[(a - lo).toNat] : Nat) : Int) := by
          rw [h2, List.getElem?_map, ht]
          rfl
        rw [List.getElem?_map] at e2
        cases hoo : offs.toList[(a - lo).toNat]? with
        | none => rw [hoo] at e2; cases e2
        | some off =>
          rw [hoo] at e2
          have e3 : (pc : Int) + off = ((tl[(a - lo).toNat] : Nat) : Int) := Option.some.inj e2
          exact lv_tableIn hx.1 hx.2.1 hd (by rw [qint_of ha]; omega) (by rw [qint_of ha]; omega) (by rw [qint_of ha, ← Array.getElem?_toList]; exact hoo) e3 k
    · cases hc
  · intro r h' hc
    split at hc
    · cases hc
    · cases hc
