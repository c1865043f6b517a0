/-! WHAT LIES OUTSIDE: a table, the words' texts; new T[n][m] -/
def qf_i2c : qF := fun ls st => match st with
  | .inl a :: r => some (qI ((Int32.ofInt a).toUInt32 % 65536).toInt32.toInt :: r)
  | _ => none
def qo_i2c : qOp := qos qf_i2c 1
theorem qk_i2c {X : qX} {l : Launch} {K : Nat} {cc : ByteArray} {nL : Nat} {own nm : String} {rt : Option FieldType} {pc : Nat} (hd : decode cc pc = .ok (.i2c, 1)) : qOk X l K cc nL own nm rt pc qo_i2c := by
  apply qos_ok
  intro ls st st' h hst hls
  unfold qf_i2c at h
  split at h
  · rename_i a r
    cases h
    refine ⟨fun v hv => ?_, fun p e R s m args below meth c Q H locs cells slots lsc hcx hL k => ?_⟩
    · rcases List.mem_cons.mp hv with rfl | hv
      · exact qint_rg _
      · exact hst v (List.mem_cons_of_mem _ hv)
    · refine lv_i2c hcx.1 hcx.2.1 hd rfl ?_
      have k : W p l e R s m args below meth c H locs cells slots Q (F0 m (pc + 1) lsc (.int (Int32.ofInt ((Int32.ofInt a).toUInt32 % 65536).toInt32.toInt) :: r.map (qc X))) := k
      rw [Int32.ofInt_toInt] at k
      exact k
  · cases h
/-- operations that look below base: a push that needs the standing facts -/
def qo_push (v : qV) (n : Nat) : qOp := fun c => .inl (c.1 + n, c.2.1, v :: c.2.2.1, c.2.2.2)
theorem qk_push {X : qX} {l : Launch} {K : Nat} {cc : ByteArray} {nL : Nat} {own nm : String} {rt : Option FieldType} {pc : Nat} {v : qV} {n : Nat} (hv : qok v) (hrow : ∀ (p : Program) (e : Env) (R : Room) (s : State) (m : MethodId) (args : Array Value) (below : List Frame) (meth : Method) (c : Code) (Q : State → Prop) (H : Heap) (locs : List Loc) (cells slots : Nat) (lsc : Array Slot) (rest : List Value), qCx X p R s m args meth c K cc nL own nm → va_S (fun q : Nat => X.1 ≤ q) s.heap H locs → W p l e R s m args below meth c H locs cells slots Q (F0 m (pc + n) lsc (qc X v :: rest)) → W p l e R s m args below meth c H locs cells slots Q (F0 m pc lsc rest)) : qOk X l K cc nL own nm rt pc (qo_push v n) := by
  intro ls st h
  constructor
  · intro cfg' hcg
    cases hcg
    refine ⟨qle_rf _, ?_⟩
    intro p e R s m args below meth c Q h0 hx hR hle hk H locs lsc hP hS hL hst hle'
    exact hrow p e R s m args below meth c Q H locs _ _ lsc _ hx hS (hk H locs lsc hP hS hL (fun w hw => by
      rcases List.mem_cons.mp hw with rfl | hw
      · exact hv
      · exact hst w hw) hle')
  · intro r h' hcg
    cases hcg
theorem qk_gstat {X : qX} {l : Launch} {K : Nat} {cc : ByteArray} {nL : Nat} {own nm : String} {rt : Option FieldType} {pc : Nat} {ix : Nat} {C n d : String} {v : qV} (hv : qok v) (hz : ∀ (U : State) (H : Heap), qB X U H → va_Z C n d (qc X v) (fun q : Nat => X.1 ≤ q) U H) (w1 : Cond.fieldLink own ix C n d ∈ qT) (hd : decode cc pc = .ok (.getstatic ix, 3)) : qOk X l K cc nL own nm rt pc (qo_push v 3) :=
  qk_push hv (fun p e R s m args below meth c Q H locs cells slots lsc rest hx hS k => va_gets hx.1 hx.2.1 (hz _ _ hx.2.2.2.2.2.2.1) hS hx.2.2.2.1 (hx.2.2.2.2.1 _ w1) (fun _ q => q) hd k)
theorem qz_compact {X : qX} {U : State} {H : Heap} (h : qB X U H) : va_Z "java/lang/String" "COMPACT_STRINGS" "Z" (qc X (qI 1)) (fun q : Nat => X.1 ≤ q) U H := h.2.2.1
theorem qz_format {X : qX} {U : State} {H : Heap} (h : qB X U H) : va_Z "jdk/internal/util/Preconditions" "SIOOBE_FORMATTER" "Ljava/util/function/BiFunction;" (qc X (qA (-12))) (fun q : Nat => X.1 ≤ q) U H := h.2.2.2.1
theorem qz_kinds {X : qX} {U : State} {H : Heap} (h : qB X U H) : va_Z RX11 "KIND_ABOVE" "[I" (qc X (qA (-11))) (fun q : Nat => X.1 ≤ q) U H := h.2.2.2.2.1
theorem qk_ldcs {X : qX} {l : Launch} {K : Nat} {cc : ByteArray} {nL : Nat} {own nm : String} {rt : Option FieldType} {pc : Nat} {ix i : Nat} {tx : String} (hi : qST[i]? = some (ix, tx)) (hown : own = RX3) (hd : decode cc pc = .ok (.ldc ix, 2)) : qOk X l K cc nL own nm rt pc (qo_push (qA (-2 - i)) 2) := by
  refine qk_push trivial (fun p e R s m args below meth c Q H locs cells slots lsc rest hx hS k => ?_)
  obtain ⟨-, ⟨adK, adV, b1, b2, b3⟩, -⟩ := hx.2.2.2.2.2.2.1
  have hi5 : i < 5 := (List.getElem?_eq_some_iff.mp hi).1
  have e9 : qc X (qA (-2 - i)) = .ref (adK i) := by
    show qr X _ = _
    unfold qr qo
    rw [if_neg (by omega), if_neg (by omega), (b1 i hi5).1]
    rfl
  rw [e9] at k
  exact va_ldcS hx.1 hx.2.1 hx.2.2.2.1 (by rw [hown]; exact b3 i _ hi) hd k
/-- the table of kinds -/
def qo_tld : qOp := fun c => match c with
  | (pc, ls, .inl k :: .inr (.inr a) :: r, h) => if a = -11 ∧ 0 ≤ k ∧ k < 7 then .inl (pc + 1, ls, qI (qKT.getD k.toNat 0) :: r, h) else .inr none
  | _ => .inr none
theorem qKT_ok : ∀ k : Nat, k < 7 → -2147483648 ≤ qKT.getD k 0 ∧ qKT.getD k 0 ≤ 2147483647 := by decide
theorem qk_tld {X : qX} {l : Launch} {K : Nat} {cc : ByteArray} {nL : Nat} {own nm : String} {rt : Option FieldType} {pc : Nat} (hd : decode cc pc = .ok (.iaload, 1)) : qOk X l K cc nL own nm rt pc qo_tld := by
  intro ls st h
  unfold qo_tld
  constructor
  · intro cfg' hcg
    split at hcg
    · rename_i heq
      cases heq
      split at hcg
      · rename_i hcnd
        cases hcg
        refine ⟨qle_rf _, ?_⟩
        intro p e R s m args below meth c Q h0 hx hR hle hk H locs lsc hP hS hL hst hle'
        rename_i k a r
        obtain ⟨rfl, hk0, hk1⟩ := hcnd
        have hko : -2147483648 ≤ k ∧ k ≤ 2147483647 := by omega
        obtain ⟨-, -, -, -, -, t, ht, hT⟩ := hx.2.2.2.2.2.2.1
        have e9 : qr X (-11) = .ref t := by
          unfold qr qo
          rw [if_neg (by omega), if_neg (by omega), ht]
          rfl
        show W p l e R s m args below meth c H locs _ _ Q (F0 m pc lsc (.int (Int32.ofInt k) :: qr X (-11) :: r.map (qc X)))
        rw [e9]
        refine va_ti hx.1 hx.2.1 hT hS (qint_ix hk0 hk1 hko) (v := .int (Int32.ofInt (qKT.getD k.toNat 0))) (by rw [qint_cl hk0 hko]) hd ?_
        exact hk H locs lsc hP hS hL (fun v hv => by
          rcases List.mem_cons.mp hv with rfl | hv
          · exact qKT_ok _ (by omega)
          · exact hst v (by simp [hv])) hle'
      · cases hcg
    · cases hcg
  · intro r h' hcg
    split at hcg
    · split at hcg
      · cases hcg
      · cases hcg
    · cases hcg
/-- a word's bytes, its coder -/
def qo_xval : qOp := fun c => match c with
  | (pc, ls, .inr (.inr a) :: r, h) => if -6 ≤ a ∧ a ≤ -2 then .inl (pc + 3, ls, qA (a - 18) :: r, h) else .inr none
  | _ => .inr none
def qo_xcod : qOp := fun c => match c with
  | (pc, ls, .inr (.inr a) :: r, h) => if -6 ≤ a ∧ a ≤ -2 then .inl (pc + 3, ls, qI 0 :: r, h) else .inr none
  | _ => .inr none
def qo_xlen : qOp := fun c => match c with
  | (pc, ls, .inr (.inr a) :: r, h) => if -24 ≤ a ∧ a ≤ -20 then .inl (pc + 1, ls, qI (qSL.getD (-20 - a).toNat 0 : Nat) :: r, h) else .inr none
  | _ => .inr none
def qo_xbal : qOp := fun c => match c with
  | (pc, ls, .inl k :: .inr (.inr a) :: r, h) => if (-24 ≤ a ∧ a ≤ -20) ∧ 0 ≤ k ∧ k < (qSL.getD (-20 - a).toNat 0 : Nat) then .inl (pc + 1, ls, qI ((qSB.getD (-20 - a).toNat []).getD k.toNat 0).toInt :: r, h) else .inr none
  | _ => .inr none
theorem qk_xval {X : qX} {l : Launch} {K : Nat} {cc : ByteArray} {nL : Nat} {own nm : String} {rt : Option FieldType} {pc : Nat} {ix : Nat} (w1 : Cond.fieldLink own ix "java/lang/String" "value" "[B" ∈ qT) (hd : decode cc pc = .ok (.getfield ix, 3)) : qOk X l K cc nL own nm rt pc qo_xval := by
  intro ls st h
  unfold qo_xval
  constructor
  · intro cfg' hcg
    split at hcg
    · rename_i heq
      cases heq
      split at hcg
      · rename_i hcnd
        cases hcg
        refine ⟨qle_rf _, ?_⟩
        intro p e R s m args below meth c Q h0 hx hR hle hk H locs lsc hP hS hL hst hle'
        rename_i a r
        obtain ⟨-, ⟨adK, adV, b1, b2, b3⟩, -⟩ := hx.2.2.2.2.2.2.1
        obtain ⟨i, hi, rfl⟩ : ∃ i : Nat, i < 5 ∧ a = -2 - i := ⟨(-2 - a).toNat, by omega, by omega⟩
        have eK : qr X (-2 - i) = .ref (adK i) := by
          unfold qr qo
          rw [if_neg (by omega), if_neg (by omega), (b1 i hi).1]
          rfl
        have eV : qr X (-20 - i) = .ref (adV i) := by
          unfold qr qo
          rw [if_neg (by omega), if_neg (by omega), (b1 i hi).2]
          rfl
        show W p l e R s m args below meth c H locs _ _ Q (F0 m pc lsc (qr X (-2 - i) :: r.map (qc X)))
        rw [eK]
        have k9 := hk H locs lsc hP hS hL (fun v hv => by
          rcases List.mem_cons.mp hv with rfl | hv
          · trivial
          · exact hst v (by simp [hv])) hle'
        have k9 : W p l e R s m args below meth c H locs _ _ Q (F0 m (pc + 3) lsc (qr X (-2 - (i : Int) - 18) :: r.map (qc X))) := k9
        rw [show (-2 - (i : Int) - 18) = -20 - i by omega, eV] at k9
        exact vk_getf hx.1 hx.2.1 (b2.1 i hi).2.2.1 hS hx.2.2.2.1 (hx.2.2.2.2.1 _ w1) (fun _ q => q) hd k9
      · cases hcg
    · cases hcg
  · intro r h' hcg
    split at hcg
    · split at hcg
      · cases hcg
      · cases hcg
    · cases hcg
theorem qk_xcod {X : qX} {l : Launch} {K : Nat} {cc : ByteArray} {nL : Nat} {own nm : String} {rt : Option FieldType} {pc : Nat} {ix : Nat} (w1 : Cond.fieldLink own ix "java/lang/String" "coder" "B" ∈ qT) (hd : decode cc pc = .ok (.getfield ix, 3)) : qOk X l K cc nL own nm rt pc qo_xcod := by
  intro ls st h
  unfold qo_xcod
  constructor
  · intro cfg' hcg
    split at hcg
    · rename_i heq
      cases heq
      split at hcg
      · rename_i hcnd
        cases hcg
        refine ⟨qle_rf _, ?_⟩
        intro p e R s m args below meth c Q h0 hx hR hle hk H locs lsc hP hS hL hst hle'
        rename_i a r
        obtain ⟨-, ⟨adK, adV, b1, b2, b3⟩, -⟩ := hx.2.2.2.2.2.2.1
        obtain ⟨i, hi, rfl⟩ : ∃ i : Nat, i < 5 ∧ a = -2 - i := ⟨(-2 - a).toNat, by omega, by omega⟩
        have eK : qr X (-2 - i) = .ref (adK i) := by
          unfold qr qo
          rw [if_neg (by omega), if_neg (by omega), (b1 i hi).1]
          rfl
        have eV : qr X (-20 - i) = .ref (adV i) := by
          unfold qr qo
          rw [if_neg (by omega), if_neg (by omega), (b1 i hi).2]
          rfl
        show W p l e R s m args below meth c H locs _ _ Q (F0 m pc lsc (qr X (-2 - i) :: r.map (qc X)))
        rw [eK]
        have k9 := hk H locs lsc hP hS hL (fun v hv => by
          rcases List.mem_cons.mp hv with rfl | hv
          · exact qq_0
          · exact hst v (by simp [hv])) hle'
        exact vk_getf hx.1 hx.2.1 (b2.1 i hi).2.1 hS hx.2.2.2.1 (hx.2.2.2.2.1 _ w1) (fun _ q => q) hd k9
      · cases hcg
    · cases hcg
  · intro r h' hcg
    split at hcg
    · split at hcg
      · cases hcg
      · cases hcg
    · cases hcg
theorem qk_xlen {X : qX} {l : Launch} {K : Nat} {cc : ByteArray} {nL : Nat} {own nm : String} {rt : Option FieldType} {pc : Nat} (hd : decode cc pc = .ok (.arraylength, 1)) : qOk X l K cc nL own nm rt pc qo_xlen := by
  intro ls st h
  unfold qo_xlen
  constructor
  · intro cfg' hcg
    split at hcg
    · rename_i heq
      cases heq
      split at hcg
      · rename_i hcnd
        cases hcg
        refine ⟨qle_rf _, ?_⟩
        intro p e R s m args below meth c Q h0 hx hR hle hk H locs lsc hP hS hL hst hle'
        rename_i a r
        obtain ⟨-, ⟨adK, adV, b1, b2, b3⟩, -⟩ := hx.2.2.2.2.2.2.1
        obtain ⟨i, hi, rfl⟩ : ∃ i : Nat, i < 5 ∧ a = -20 - i := ⟨(-20 - a).toNat, by omega, by omega⟩
        have eK : qr X (-2 - i) = .ref (adK i) := by
          unfold qr qo
          rw [if_neg (by omega), if_neg (by omega), (b1 i hi).1]
          rfl
        have eV : qr X (-20 - i) = .ref (adV i) := by
          unfold qr qo
          rw [if_neg (by omega), if_neg (by omega), (b1 i hi).2]
          rfl
        show W p l e R s m args below meth c H locs _ _ Q (F0 m pc lsc (qr X (-20 - i) :: r.map (qc X)))
        rw [eV]
        have hl : qSL.getD i 0 ≤ 5 := by
          have : ∀ i : Nat, i < 5 → qSL.getD i 0 ≤ 5 := by decide
          exact this i hi
        have k9 := hk H locs lsc hP hS hL (fun v hv => by
          rcases List.mem_cons.mp hv with rfl | hv
          · show -2147483648 ≤ ((qSL.getD (-20 - (-20 - (i : Int))).toNat 0 : Nat) : Int) ∧ ((qSL.getD (-20 - (-20 - (i : Int))).toNat 0 : Nat) : Int) ≤ 2147483647
            rw [show (-20 - (-20 - (i : Int))).toNat = i by omega]
            omega
          · exact hst v (by simp [hv])) hle'
        have k9 : W p l e R s m args below meth c H locs _ _ Q (F0 m (pc + 1) lsc (.int (Int32.ofInt ((qSL.getD (-20 - (-20 - (i : Int))).toNat 0 : Nat) : Int)) :: r.map (qc X))) := k9
        rw [show (-20 - (-20 - (i : Int))).toNat = i by omega] at k9
        exact va_tlen hx.1 hx.2.1 (b2.1 i hi).2.2.2 hS (Int32.ofInt_eq_ofNat).symm hd k9
      · cases hcg
    · cases hcg
  · intro r h' hcg
    split at hcg
    · split at hcg
      · cases hcg
      · cases hcg
    · cases hcg
theorem qk_xbal {X : qX} {l : Launch} {K : Nat} {cc : ByteArray} {nL : Nat} {own nm : String} {rt : Option FieldType} {pc : Nat} (hd : decode cc pc = .ok (.baload, 1)) : qOk X l K cc nL own nm rt pc qo_xbal := by
  intro ls st h
  unfold qo_xbal
  constructor
  · intro cfg' hcg
    split at hcg
    · rename_i heq
      cases heq
      split at hcg
      · rename_i hcnd
        cases hcg
        refine ⟨qle_rf _, ?_⟩
        intro p e R s m args below meth c Q h0 hx hR hle hk H locs lsc hP hS hL hst hle'
        rename_i k a r
        obtain ⟨-, ⟨adK, adV, b1, b2, b3⟩, -⟩ := hx.2.2.2.2.2.2.1
        obtain ⟨i, hi, rfl⟩ : ∃ i : Nat, i < 5 ∧ a = -20 - i := ⟨(-20 - a).toNat, by have := hcnd.1; omega, by have := hcnd.1; omega⟩
        have eK : qr X (-2 - i) = .ref (adK i) := by
          unfold qr qo
          rw [if_neg (by omega), if_neg (by omega), (b1 i hi).1]
          rfl
        have eV : qr X (-20 - i) = .ref (adV i) := by
          unfold qr qo
          rw [if_neg (by omega), if_neg (by omega), (b1 i hi).2]
          rfl
        obtain ⟨hca, hk0, hk1⟩ := hcnd
        rw [show (-20 - (-20 - (i : Int))).toNat = i by omega] at hk1
        have hl : qSL.getD i 0 ≤ 5 := by
          have : ∀ i : Nat, i < 5 → qSL.getD i 0 ≤ 5 := by decide
          exact this i hi
        have hko : -2147483648 ≤ k ∧ k ≤ 2147483647 := by omega
        show W p l e R s m args below meth c H locs _ _ Q (F0 m pc lsc (.int (Int32.ofInt k) :: qr X (-20 - i) :: r.map (qc X)))
        rw [eV]
        refine va_tb hx.1 hx.2.1 (b2.1 i hi).2.2.2 hS (qint_ix hk0 hk1 hko) (v := .int ((qSB.getD i []).getD k.toNat 0)) (by rw [qint_cl hk0 hko]) hd ?_
        have k9 := hk H locs lsc hP hS hL (fun v hv => by
          rcases List.mem_cons.mp hv with rfl | hv
          · exact qint_rg _
          · exact hst v (by simp [hv])) hle'
        have k9 : W p l e R s m args below meth c H locs _ _ Q (F0 m (pc + 1) lsc (.int (Int32.ofInt ((qSB.getD (-20 - (-20 - (i : Int))).toNat []).getD k.toNat 0).toInt) :: r.map (qc X))) := k9
        rw [show (-20 - (-20 - (i : Int))).toNat = i by omega, Int32.ofInt_toInt] at k9
        exact k9
      · cases hcg
    · cases hcg
  · intro r h' hcg
    split at hcg
    · split at hcg
      · cases hcg
      · cases hcg
    · cases hcg
/-- a call on one of the words -/
def qo_callx (f : qSem) (n : Nat) : qOp := fun c => match c.2.2.1.drop n with
  | .inr (.inr o) :: rest => if (n ≤ c.2.2.1.length ∧ (rest.map qcat).sum ≤ 8) ∧ -6 ≤ o ∧ o ≤ -2 then (match f (qA o :: (c.2.2.1.take n).reverse) c.2.2.2 with
      | some (r, h') => .inl (c.1 + 3, c.2.1, r.toList ++ rest, h')
      | none => .inr none) else .inr none
  | _ => .inr none
theorem qk_callx {X : qX} {l : Launch} {K : Nat} {cc : ByteArray} {nL : Nat} {own nm : String} {rt : Option FieldType} {pc : Nat} {ix n k mL : Nat} {y : MethodName} {bs : ByteArray} {rt2 : Option FieldType} {f : qSem} (hf : qMet X l k y bs mL rt2 f) (hk : k + 1 ≤ K) (hm : mL ≤ 41)
    (w1 : Cond.methodLink own ix y ∈ qT) (w2 : Cond.instanceMethod y ∈ qT) (w3 : Cond.selects "java/lang/String" y y ∈ qT) (w4 : Cond.code y bs mL rt2 ∈ qT) (w5 : Cond.initialized y.cls ∈ qT) (hy : qNoMH y) (hpar : qPar y n) (hd : decode cc pc = .ok (.invokevirtual ix, 3)) : qOk X l K cc nL own nm rt pc (qo_callx f n) := by
  intro ls st h
  unfold qo_callx
  dsimp only
  constructor
  · intro cfg' hcg
    split at hcg
    · rename_i o rest hdrop
      split at hcg
      · rename_i hcnd
        split at hcg
        · rename_i r h' hff
          cases hcg
          obtain ⟨hcnd, hcx⟩ := hcnd
          have hst0 : st = st.take n ++ (qA o :: rest) := by rw [← hdrop, List.take_append_drop]
          have hlen : (st.take n).reverse.length = n := by rw [List.length_reverse, List.length_take]; omega
          have hmono := hf.1 _ _ _ _ hff
          refine ⟨hmono, ?_⟩
          intro p e R s m args below meth c Q h0 hx hR hle hk9 H locs lsc hP hS hL hst hle'
          dsimp only at hR hP hL hst hle' ⊢
          have hokA : ∀ v ∈ (st.take n).reverse, qok v := fun v hv => hst v (List.mem_of_mem_take (List.mem_reverse.mp hv))
          have hokR : ∀ v ∈ rest, qok v := fun v hv => hst v (by rw [hst0]; exact List.mem_append_right _ (List.mem_cons_of_mem _ hv))
          have e1 : qn h0 h + qn h h' = qn h0 h' := by
            have := hle.1
            have := hmono.1
            unfold qn
            omega
          have e2 : qs h0 h + qs h h' = qs h0 h' := by
            have := hle.2
            have := hmono.2
            unfold qs
            omega
          have g3 := hf.2 (qA o :: (st.take n).reverse) h r h' (fun v hv => by
            rcases List.mem_cons.mp hv with rfl | hv
            · trivial
            · exact hokA v hv) hff
          have hts := hx.2.2.2.2.1
          have hfr : (qrm k h h').frames + 1 ≤ R.frames := Nat.le_trans hk hx.2.2.2.2.2.2.2.1
          have hlo : 8 + (mL + 11) + (qrm k h h').locals ≤ R.locals := by
            have := hx.2.2.2.2.2.2.2.2.1
            show 8 + (mL + 11) + 60 * k ≤ R.locals
            omega
          have hBB := hx.2.2.2.2.2.2.1
          obtain ⟨-, ⟨adK, adV, b1, b2, b3⟩, -⟩ := hx.2.2.2.2.2.2.1
          obtain ⟨i, hi, rfl⟩ : ∃ i : Nat, i < 5 ∧ o = -2 - i := ⟨(-2 - o).toNat, by omega, by omega⟩
          have eK : qr X (-2 - i) = .ref (adK i) := by
            unfold qr qo
            rw [if_neg (by omega), if_neg (by omega), (b1 i hi).1]
            rfl
          have ea : ((qA (-2 - i) :: (st.take n).reverse).map (qc X)) = Value.ref (adK i) :: ((st.take n).reverse).map (qc X) := by rw [List.map_cons]; exact congrArg (· :: _) eK
          have hpre := fun U hU hW => qpre_at (as := qA (-2 - i) :: (st.take n).reverse) hx.2.2.2.2.2.1 hBB hP hS U hU hW
          have est : st.map (qc X) = ((st.take n).reverse.map (qc X)).reverse ++ qr X (-2 - i) :: rest.map (qc X) := by
            rw [List.map_reverse, List.reverse_reverse]
            calc st.map (qc X) = (st.take n ++ (qA (-2 - i) :: rest)).map (qc X) := by rw [← hst0]
              _ = _ := by rw [List.map_append]; rfl
          rw [ea] at hpre
          have hrun : va_Run p l e R s m args below meth c H locs (qn h0 h) (qs h0 h) (qn h h') (qs h h') (F0 m pc lsc (((st.take n).reverse.map (qc X)).reverse ++ .ref (adK i) :: rest.map (qc X))) (rest.map (qc X)) (qPost X r h' (Value.ref (adK i) :: ((st.take n).reverse).map (qc X)).toArray) (fun q : Nat => X.1 ≤ q) :=
            va_runV (Ts := qT) (C := "java/lang/String") ⟨hx.1, hx.2.1, hx.2.2.1, hx.2.2.2.1, hts⟩ g3 ⟨⟨rfl, rfl, hfr, hlo, pay_in hts (qws_good w4), List.mem_cons_self, hts _ w4, hts _ w5, hy, qPar_of hpar, hts _ w1⟩, hts _ w2, hts _ w3⟩
              ⟨qPre_blind, vk_recv b2 hi hS, hpre⟩ rfl (by rw [List.length_map]; exact hlen) hL.1 rfl (by rw [qcat_sum]; show 2 * 0 + _ ≤ 8; omega) hd ⟨by rw [e1]; exact hR.1, by rw [e2]; exact hR.2⟩
          rw [est, eK]
          refine qcall hrun hS fun H1 locs1 g2 hP1 hS1 => ?_
          rw [e1, e2, qtoList, ← List.map_append]
          exact hk9 H1 locs1 lsc hP1 hS1 hL (fun v hv => by
            rcases List.mem_append.mp hv with hv | hv
            · cases r with
              | none => cases hv
              | some w =>
                rcases List.mem_cons.mp hv with rfl | hv
                · exact g2 _ rfl
                · cases hv
            · exact hokR v hv) (qle_tr hle hmono)
        · cases hcg
      · cases hcg
    · cases hcg
  · intro r h' hcg
    split at hcg
    · split at hcg
      · split at hcg
        · cases hcg
        · cases hcg
      · cases hcg
    · cases hcg
