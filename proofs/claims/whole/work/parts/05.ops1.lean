/-! OPERATIONS ON THE STACK ALONE -/
abbrev qF : Type := qLs → List qV → Option (List qV)
def qos (f : qF) (n : Nat) : qOp := fun c => match f c.2.1 c.2.2.1 with
  | some st' => .inl (c.1 + n, c.2.1, st', c.2.2.2)
  | none => .inr none
def qRow (X : qX) (l : Launch) (K : Nat) (cc : ByteArray) (nL : Nat) (own nm : String) (pc n : Nat) (f : qF) : Prop :=
  ∀ (ls : qLs) (st st' : List qV), f ls st = some st' → (∀ v ∈ st, qok v) → (∀ (i : Nat) (v : qV), ls[i]? = some (some v) → qok v) → (∀ v ∈ st', qok v) ∧
    ∀ (p : Program) (e : Env) (R : Room) (s : State) (m : MethodId) (args : Array Value) (below : List Frame) (meth : Method) (c : Code) (Q : State → Prop) (H : Heap) (locs : List Loc) (cells slots : Nat) (lsc : Array Slot), qCx X p R s m args meth c K cc nL own nm → qL X nL ls lsc →
      W p l e R s m args below meth c H locs cells slots Q (F0 m (pc + n) lsc (st'.map (qc X))) → W p l e R s m args below meth c H locs cells slots Q (F0 m pc lsc (st.map (qc X)))
theorem qos_ok {X : qX} {l : Launch} {K : Nat} {cc : ByteArray} {nL : Nat} {own nm : String} {rt : Option FieldType} {pc n : Nat} {f : qF} (h : qRow X l K cc nL own nm pc n f) : qOk X l K cc nL own nm rt pc (qos f n) := by
  intro ls st h0
  constructor
  · intro cfg' hc
    unfold qos at hc
    dsimp only at hc
    cases hf : f ls st with
    | none => rw [hf] at hc; cases hc
    | some st' =>
      rw [hf] at hc
      cases hc
      refine ⟨qle_rf _, ?_⟩
      intro p e R s m args below meth c Q hh hcx hR hle hk H locs lsc hP hS hL hst hle'
      obtain ⟨r1, r2⟩ := h ls st st' hf hst (fun i v hv => (hL.2.2.2 i v hv).1)
      exact r2 p e R s m args below meth c Q H locs _ _ lsc hcx hL (hk H locs lsc hP hS hL r1 hle')
  · intro r h' hc
    unfold qos at hc
    dsimp only at hc
    cases hf : f ls st with
    | none => rw [hf] at hc; cases hc
    | some st' => rw [hf] at hc; cases hc
def qfb (g : Int32 → Int32 → Int32) : qF := fun _ st => match st with
  | .inl b :: .inl a :: r => some (qI (g (Int32.ofInt a) (Int32.ofInt b)).toInt :: r)
  | _ => none
theorem qfb_row {X : qX} {l : Launch} {K : Nat} {cc : ByteArray} {nL : Nat} {own nm : String} {rt : Option FieldType} {pc : Nat} {g : Int32 → Int32 → Int32} (hg : ∀ (p : Program) (e : Env) (R : Room) (s : State) (m : MethodId) (args : Array Value) (below : List Frame) (meth : Method) (c : Code) (Q : State → Prop) (H : Heap) (locs : List Loc) (cells slots : Nat) (lsc : Array Slot) (x y : Int32) (rest : List Value), p.tables.exec = Jvm.exec → c.code = cc → W p l e R s m args below meth c H locs cells slots Q (F0 m (pc + 1) lsc (.int (g x y) :: rest)) → W p l e R s m args below meth c H locs cells slots Q (F0 m pc lsc (.int y :: .int x :: rest))) : qOk X l K cc nL own nm rt pc (qos (qfb g) 1) := by
  apply qos_ok
  intro ls st st' h hst hls
  unfold qfb at h
  split at h
  · rename_i b a r
    cases h
    refine ⟨fun v hv => ?_, fun p e R s m args below meth c Q H locs cells slots lsc hcx hL k => ?_⟩
    · rcases List.mem_cons.mp hv with rfl | hv
      · exact qint_rg _
      · exact hst v (List.mem_cons_of_mem _ (List.mem_cons_of_mem _ hv))
    · refine hg p e R s m args below meth c Q H locs cells slots lsc _ _ _ hcx.1 hcx.2.1 ?_
      have k : W p l e R s m args below meth c H locs cells slots Q (F0 m (pc + 1) lsc (.int (Int32.ofInt (g (Int32.ofInt a) (Int32.ofInt b)).toInt) :: r.map (qc X))) := k
      rw [Int32.ofInt_toInt] at k
      exact k
  · cases h
def qo_iadd : qOp := qos (qfb (fun x y => x + y)) 1
theorem qk_iadd {X : qX} {l : Launch} {K : Nat} {cc : ByteArray} {nL : Nat} {own nm : String} {rt : Option FieldType} {pc : Nat} (hd : decode cc pc = .ok (.iadd, 1)) : qOk X l K cc nL own nm rt pc qo_iadd := qfb_row (fun p e R s m args below meth c Q H locs cells slots lsc x y rest hx hb k => lv_iadd hx hb hd k)
def qo_isub : qOp := qos (qfb (fun x y => x - y)) 1
theorem qk_isub {X : qX} {l : Launch} {K : Nat} {cc : ByteArray} {nL : Nat} {own nm : String} {rt : Option FieldType} {pc : Nat} (hd : decode cc pc = .ok (.isub, 1)) : qOk X l K cc nL own nm rt pc qo_isub := qfb_row (fun p e R s m args below meth c Q H locs cells slots lsc x y rest hx hb k => lv_isub hx hb hd k)
def qo_imul : qOp := qos (qfb (fun x y => x * y)) 1
theorem qk_imul {X : qX} {l : Launch} {K : Nat} {cc : ByteArray} {nL : Nat} {own nm : String} {rt : Option FieldType} {pc : Nat} (hd : decode cc pc = .ok (.imul, 1)) : qOk X l K cc nL own nm rt pc qo_imul := qfb_row (fun p e R s m args below meth c Q H locs cells slots lsc x y rest hx hb k => lv_imul hx hb hd k)
def qo_iand : qOp := qos (qfb (fun x y => x &&& y)) 1
theorem qk_iand {X : qX} {l : Launch} {K : Nat} {cc : ByteArray} {nL : Nat} {own nm : String} {rt : Option FieldType} {pc : Nat} (hd : decode cc pc = .ok (.iand, 1)) : qOk X l K cc nL own nm rt pc qo_iand := qfb_row (fun p e R s m args below meth c Q H locs cells slots lsc x y rest hx hb k => lv_iand hx hb hd k)
def qo_ior : qOp := qos (qfb (fun x y => x ||| y)) 1
theorem qk_ior {X : qX} {l : Launch} {K : Nat} {cc : ByteArray} {nL : Nat} {own nm : String} {rt : Option FieldType} {pc : Nat} (hd : decode cc pc = .ok (.ior, 1)) : qOk X l K cc nL own nm rt pc qo_ior := qfb_row (fun p e R s m args below meth c Q H locs cells slots lsc x y rest hx hb k => lv_ior hx hb hd k)
def qo_ixor : qOp := qos (qfb (fun x y => x ^^^ y)) 1
theorem qk_ixor {X : qX} {l : Launch} {K : Nat} {cc : ByteArray} {nL : Nat} {own nm : String} {rt : Option FieldType} {pc : Nat} (hd : decode cc pc = .ok (.ixor, 1)) : qOk X l K cc nL own nm rt pc qo_ixor := qfb_row (fun p e R s m args below meth c Q H locs cells slots lsc x y rest hx hb k => lv_ixor hx hb hd k)
def qo_ishl : qOp := qos (qfb (fun x y => x <<< (y &&& 31))) 1
theorem qk_ishl {X : qX} {l : Launch} {K : Nat} {cc : ByteArray} {nL : Nat} {own nm : String} {rt : Option FieldType} {pc : Nat} (hd : decode cc pc = .ok (.ishl, 1)) : qOk X l K cc nL own nm rt pc qo_ishl := qfb_row (fun p e R s m args below meth c Q H locs cells slots lsc x y rest hx hb k => lv_ishl hx hb hd k)
def qo_ishr : qOp := qos (qfb (fun x y => x >>> (y &&& 31))) 1
theorem qk_ishr {X : qX} {l : Launch} {K : Nat} {cc : ByteArray} {nL : Nat} {own nm : String} {rt : Option FieldType} {pc : Nat} (hd : decode cc pc = .ok (.ishr, 1)) : qOk X l K cc nL own nm rt pc qo_ishr := qfb_row (fun p e R s m args below meth c Q H locs cells slots lsc x y rest hx hb k => lv_ishr hx hb hd k)
def qf_idiv : qF := fun _ st => match st with
  | .inl b :: .inl a :: r => if Int32.ofInt b = 0 then none else some (qI ((fun x y => x / y) (Int32.ofInt a) (Int32.ofInt b)).toInt :: r)
  | _ => none
def qo_idiv : qOp := qos qf_idiv 1
theorem qk_idiv {X : qX} {l : Launch} {K : Nat} {cc : ByteArray} {nL : Nat} {own nm : String} {rt : Option FieldType} {pc : Nat} (hd : decode cc pc = .ok (.idiv, 1)) : qOk X l K cc nL own nm rt pc qo_idiv := by
  apply qos_ok
  intro ls st st' h hst hls
  unfold qf_idiv at h
  split at h
  · rename_i b a r
    split at h
    · cases h
    · rename_i hb0
      cases h
      refine ⟨fun v hv => ?_, fun p e R s m args below meth c Q H locs cells slots lsc hcx hL k => ?_⟩
      · rcases List.mem_cons.mp hv with rfl | hv
        · exact qint_rg _
        · exact hst v (List.mem_cons_of_mem _ (List.mem_cons_of_mem _ hv))
      · refine lv_idiv hcx.1 hcx.2.1 hd hb0 ?_
        have k : W p l e R s m args below meth c H locs cells slots Q (F0 m (pc + 1) lsc (.int (Int32.ofInt ((fun x y => x / y) (Int32.ofInt a) (Int32.ofInt b)).toInt) :: r.map (qc X))) := k
        rw [Int32.ofInt_toInt] at k
        exact k
  · cases h
def qf_irem : qF := fun _ st => match st with
  | .inl b :: .inl a :: r => if Int32.ofInt b = 0 then none else some (qI ((fun x y => x - x / y * y) (Int32.ofInt a) (Int32.ofInt b)).toInt :: r)
  | _ => none
def qo_irem : qOp := qos qf_irem 1
theorem qk_irem {X : qX} {l : Launch} {K : Nat} {cc : ByteArray} {nL : Nat} {own nm : String} {rt : Option FieldType} {pc : Nat} (hd : decode cc pc = .ok (.irem, 1)) : qOk X l K cc nL own nm rt pc qo_irem := by
  apply qos_ok
  intro ls st st' h hst hls
  unfold qf_irem at h
  split at h
  · rename_i b a r
    split at h
    · cases h
    · rename_i hb0
      cases h
      refine ⟨fun v hv => ?_, fun p e R s m args below meth c Q H locs cells slots lsc hcx hL k => ?_⟩
      · rcases List.mem_cons.mp hv with rfl | hv
        · exact qint_rg _
        · exact hst v (List.mem_cons_of_mem _ (List.mem_cons_of_mem _ hv))
      · refine lv_irem hcx.1 hcx.2.1 hd hb0 ?_
        have k : W p l e R s m args below meth c H locs cells slots Q (F0 m (pc + 1) lsc (.int (Int32.ofInt ((fun x y => x - x / y * y) (Int32.ofInt a) (Int32.ofInt b)).toInt) :: r.map (qc X))) := k
        rw [Int32.ofInt_toInt] at k
        exact k
  · cases h
def qfbl (g : Int64 → Int64 → Int64) : qF := fun _ st => match st with
  | .inr (.inl b) :: .inr (.inl a) :: r => some (qJ (g (Int64.ofInt a) (Int64.ofInt b)).toInt :: r)
  | _ => none
theorem qfbl_row {X : qX} {l : Launch} {K : Nat} {cc : ByteArray} {nL : Nat} {own nm : String} {rt : Option FieldType} {pc : Nat} {g : Int64 → Int64 → Int64} (hg : ∀ (p : Program) (e : Env) (R : Room) (s : State) (m : MethodId) (args : Array Value) (below : List Frame) (meth : Method) (c : Code) (Q : State → Prop) (H : Heap) (locs : List Loc) (cells slots : Nat) (lsc : Array Slot) (x y : Int64) (rest : List Value), p.tables.exec = Jvm.exec → c.code = cc → W p l e R s m args below meth c H locs cells slots Q (F0 m (pc + 1) lsc (.long (g x y) :: rest)) → W p l e R s m args below meth c H locs cells slots Q (F0 m pc lsc (.long y :: .long x :: rest))) : qOk X l K cc nL own nm rt pc (qos (qfbl g) 1) := by
  apply qos_ok
  intro ls st st' h hst hls
  unfold qfbl at h
  split at h
  · rename_i b a r
    cases h
    refine ⟨fun v hv => ?_, fun p e R s m args below meth c Q H locs cells slots lsc hcx hL k => ?_⟩
    · rcases List.mem_cons.mp hv with rfl | hv
      · exact qlong_rg _
      · exact hst v (List.mem_cons_of_mem _ (List.mem_cons_of_mem _ hv))
    · refine hg p e R s m args below meth c Q H locs cells slots lsc _ _ _ hcx.1 hcx.2.1 ?_
      have k : W p l e R s m args below meth c H locs cells slots Q (F0 m (pc + 1) lsc (.long (Int64.ofInt (g (Int64.ofInt a) (Int64.ofInt b)).toInt) :: r.map (qc X))) := k
      rw [Int64.ofInt_toInt] at k
      exact k
  · cases h
def qo_land : qOp := qos (qfbl (fun x y => x &&& y)) 1
theorem qk_land {X : qX} {l : Launch} {K : Nat} {cc : ByteArray} {nL : Nat} {own nm : String} {rt : Option FieldType} {pc : Nat} (hd : decode cc pc = .ok (.land, 1)) : qOk X l K cc nL own nm rt pc qo_land := qfbl_row (fun p e R s m args below meth c Q H locs cells slots lsc x y rest hx hb k => lv_land hx hb hd k)
def qo_lor : qOp := qos (qfbl (fun x y => x ||| y)) 1
theorem qk_lor {X : qX} {l : Launch} {K : Nat} {cc : ByteArray} {nL : Nat} {own nm : String} {rt : Option FieldType} {pc : Nat} (hd : decode cc pc = .ok (.lor, 1)) : qOk X l K cc nL own nm rt pc qo_lor := qfbl_row (fun p e R s m args below meth c Q H locs cells slots lsc x y rest hx hb k => lv_lor hx hb hd k)
def qo_lxor : qOp := qos (qfbl (fun x y => x ^^^ y)) 1
theorem qk_lxor {X : qX} {l : Launch} {K : Nat} {cc : ByteArray} {nL : Nat} {own nm : String} {rt : Option FieldType} {pc : Nat} (hd : decode cc pc = .ok (.lxor, 1)) : qOk X l K cc nL own nm rt pc qo_lxor := qfbl_row (fun p e R s m args below meth c Q H locs cells slots lsc x y rest hx hb k => lv_lxor hx hb hd k)
def qf_ineg : qF := fun ls st => match st with
  | .inl a :: r => some (qI (- Int32.ofInt a).toInt :: r)
  | _ => none
def qo_ineg : qOp := qos (qf_ineg) 1
theorem qk_ineg {X : qX} {l : Launch} {K : Nat} {cc : ByteArray} {nL : Nat} {own nm : String} {rt : Option FieldType} {pc : Nat} (hd : decode cc pc = .ok (.ineg, 1)) : qOk X l K cc nL own nm rt pc (qo_ineg) := by
  apply qos_ok
  intro ls st st' h hst hls
  unfold qf_ineg at h
  split at h
  · rename_i a r
    cases h
    refine ⟨fun v hv => ?_, fun p e R s m args below meth c Q H locs cells slots lsc hcx hL k => ?_⟩
    · rcases List.mem_cons.mp hv with rfl | hv
      · exact qint_rg _
      · exact hst v (List.mem_cons_of_mem _ (hv))
    · refine lv_ineg hcx.1 hcx.2.1 hd ?_
      have k : W p l e R s m args below meth c H locs cells slots Q (F0 m (pc + 1) lsc (.int (Int32.ofInt (- Int32.ofInt a).toInt) :: r.map (qc X))) := k
      rw [Int32.ofInt_toInt] at k
      exact k
  · cases h
def qf_i2b : qF := fun ls st => match st with
  | .inl a :: r => some (qI (Int32.ofInt a).toInt8.toInt32.toInt :: r)
  | _ => none
def qo_i2b : qOp := qos (qf_i2b) 1
theorem qk_i2b {X : qX} {l : Launch} {K : Nat} {cc : ByteArray} {nL : Nat} {own nm : String} {rt : Option FieldType} {pc : Nat} (hd : decode cc pc = .ok (.i2b, 1)) : qOk X l K cc nL own nm rt pc (qo_i2b) := by
  apply qos_ok
  intro ls st st' h hst hls
  unfold qf_i2b at h
  split at h
  · rename_i a r
    cases h
    refine ⟨fun v hv => ?_, fun p e R s m args below meth c Q H locs cells slots lsc hcx hL k => ?_⟩
    · rcases List.mem_cons.mp hv with rfl | hv
      · exact qint_rg _
      · exact hst v (List.mem_cons_of_mem _ (hv))
    · refine lv_i2b hcx.1 hcx.2.1 hd rfl ?_
      have k : W p l e R s m args below meth c H locs cells slots Q (F0 m (pc + 1) lsc (.int (Int32.ofInt (Int32.ofInt a).toInt8.toInt32.toInt) :: r.map (qc X))) := k
      rw [Int32.ofInt_toInt] at k
      exact k
  · cases h
def qf_i2s : qF := fun ls st => match st with
  | .inl a :: r => some (qI (Int32.ofInt a).toInt16.toInt32.toInt :: r)
  | _ => none
def qo_i2s : qOp := qos (qf_i2s) 1
theorem qk_i2s {X : qX} {l : Launch} {K : Nat} {cc : ByteArray} {nL : Nat} {own nm : String} {rt : Option FieldType} {pc : Nat} (hd : decode cc pc = .ok (.i2s, 1)) : qOk X l K cc nL own nm rt pc (qo_i2s) := by
  apply qos_ok
  intro ls st st' h hst hls
  unfold qf_i2s at h
  split at h
  · rename_i a r
    cases h
    refine ⟨fun v hv => ?_, fun p e R s m args below meth c Q H locs cells slots lsc hcx hL k => ?_⟩
    · rcases List.mem_cons.mp hv with rfl | hv
      · exact qint_rg _
      · exact hst v (List.mem_cons_of_mem _ (hv))
    · refine lv_i2s hcx.1 hcx.2.1 hd rfl ?_
      have k : W p l e R s m args below meth c H locs cells slots Q (F0 m (pc + 1) lsc (.int (Int32.ofInt (Int32.ofInt a).toInt16.toInt32.toInt) :: r.map (qc X))) := k
      rw [Int32.ofInt_toInt] at k
      exact k
  · cases h
def qf_l2i : qF := fun ls st => match st with
  | .inr (.inl a) :: r => some (qI (Int64.ofInt a).toInt32.toInt :: r)
  | _ => none
def qo_l2i : qOp := qos (qf_l2i) 1
theorem qk_l2i {X : qX} {l : Launch} {K : Nat} {cc : ByteArray} {nL : Nat} {own nm : String} {rt : Option FieldType} {pc : Nat} (hd : decode cc pc = .ok (.l2i, 1)) : qOk X l K cc nL own nm rt pc (qo_l2i) := by
  apply qos_ok
  intro ls st st' h hst hls
  unfold qf_l2i at h
  split at h
  · rename_i a r
    cases h
    refine ⟨fun v hv => ?_, fun p e R s m args below meth c Q H locs cells slots lsc hcx hL k => ?_⟩
    · rcases List.mem_cons.mp hv with rfl | hv
      · exact qint_rg _
      · exact hst v (List.mem_cons_of_mem _ (hv))
    · refine lv_l2i hcx.1 hcx.2.1 hd rfl ?_
      have k : W p l e R s m args below meth c H locs cells slots Q (F0 m (pc + 1) lsc (.int (Int32.ofInt (Int64.ofInt a).toInt32.toInt) :: r.map (qc X))) := k
      rw [Int32.ofInt_toInt] at k
      exact k
  · cases h
def qf_i2l : qF := fun ls st => match st with
  | .inl a :: r => some (qJ (Int32.ofInt a).toInt64.toInt :: r)
  | _ => none
def qo_i2l : qOp := qos (qf_i2l) 1
theorem qk_i2l {X : qX} {l : Launch} {K : Nat} {cc : ByteArray} {nL : Nat} {own nm : String} {rt : Option FieldType} {pc : Nat} (hd : decode cc pc = .ok (.i2l, 1)) : qOk X l K cc nL own nm rt pc (qo_i2l) := by
  apply qos_ok
  intro ls st st' h hst hls
  unfold qf_i2l at h
  split at h
  · rename_i a r
    cases h
    refine ⟨fun v hv => ?_, fun p e R s m args below meth c Q H locs cells slots lsc hcx hL k => ?_⟩
    · rcases List.mem_cons.mp hv with rfl | hv
      · exact qlong_rg _
      · exact hst v (List.mem_cons_of_mem _ (hv))
    · refine lv_i2l hcx.1 hcx.2.1 hd rfl ?_
      have k : W p l e R s m args below meth c H locs cells slots Q (F0 m (pc + 1) lsc (.long (Int64.ofInt (Int32.ofInt a).toInt64.toInt) :: r.map (qc X))) := k
      rw [Int64.ofInt_toInt] at k
      exact k
  · cases h
def qf_lshl : qF := fun ls st => match st with
  | .inl b :: .inr (.inl a) :: r => some (qJ ((Int64.ofInt a <<< ((Int32.ofInt b).toInt64 &&& 63))).toInt :: r)
  | _ => none
def qo_lshl : qOp := qos (qf_lshl) 1
theorem qk_lshl {X : qX} {l : Launch} {K : Nat} {cc : ByteArray} {nL : Nat} {own nm : String} {rt : Option FieldType} {pc : Nat} (hd : decode cc pc = .ok (.lshl, 1)) : qOk X l K cc nL own nm rt pc (qo_lshl) := by
  apply qos_ok
  intro ls st st' h hst hls
  unfold qf_lshl at h
  split at h
  · rename_i b a r
    cases h
    refine ⟨fun v hv => ?_, fun p e R s m args below meth c Q H locs cells slots lsc hcx hL k => ?_⟩
    · rcases List.mem_cons.mp hv with rfl | hv
      · exact qlong_rg _
      · exact hst v (List.mem_cons_of_mem _ (List.mem_cons_of_mem _ (hv)))
    · refine lv_lshl hcx.1 hcx.2.1 hd rfl ?_
      have k : W p l e R s m args below meth c H locs cells slots Q (F0 m (pc + 1) lsc (.long (Int64.ofInt ((Int64.ofInt a <<< ((Int32.ofInt b).toInt64 &&& 63))).toInt) :: r.map (qc X))) := k
      rw [Int64.ofInt_toInt] at k
      exact k
  · cases h
def qf_lushr : qF := fun ls st => match st with
  | .inl b :: .inr (.inl a) :: r => some (qJ (((Int64.ofInt a).toUInt64 >>> ((Int32.ofInt b).toInt64.toUInt64 &&& Int64.toUInt64 63)).toInt64).toInt :: r)
  | _ => none
def qo_lushr : qOp := qos (qf_lushr) 1
theorem qk_lushr {X : qX} {l : Launch} {K : Nat} {cc : ByteArray} {nL : Nat} {own nm : String} {rt : Option FieldType} {pc : Nat} (hd : decode cc pc = .ok (.lushr, 1)) : qOk X l K cc nL own nm rt pc (qo_lushr) := by
  apply qos_ok
  intro ls st st' h hst hls
  unfold qf_lushr at h
  split at h
  · rename_i b a r
    cases h
    refine ⟨fun v hv => ?_, fun p e R s m args below meth c Q H locs cells slots lsc hcx hL k => ?_⟩
    · rcases List.mem_cons.mp hv with rfl | hv
      · exact qlong_rg _
      · exact hst v (List.mem_cons_of_mem _ (List.mem_cons_of_mem _ (hv)))
    · refine lv_lushr hcx.1 hcx.2.1 hd rfl ?_
      have k : W p l e R s m args below meth c H locs cells slots Q (F0 m (pc + 1) lsc (.long (Int64.ofInt (((Int64.ofInt a).toUInt64 >>> ((Int32.ofInt b).toInt64.toUInt64 &&& Int64.toUInt64 63)).toInt64).toInt) :: r.map (qc X))) := k
      rw [Int64.ofInt_toInt] at k
      exact k
  · cases h
def qf_lcmp : qF := fun ls st => match st with
  | .inr (.inl b) :: .inr (.inl a) :: r => some (qI (lg_cmp (Int64.ofInt a) (Int64.ofInt b)).toInt :: r)
  | _ => none
def qo_lcmp : qOp := qos (qf_lcmp) 1
theorem qk_lcmp {X : qX} {l : Launch} {K : Nat} {cc : ByteArray} {nL : Nat} {own nm : String} {rt : Option FieldType} {pc : Nat} (hd : decode cc pc = .ok (.lcmp, 1)) : qOk X l K cc nL own nm rt pc (qo_lcmp) := by
  apply qos_ok
  intro ls st st' h hst hls
  unfold qf_lcmp at h
  split at h
  · rename_i b a r
    cases h
    refine ⟨fun v hv => ?_, fun p e R s m args below meth c Q H locs cells slots lsc hcx hL k => ?_⟩
    · rcases List.mem_cons.mp hv with rfl | hv
      · exact qint_rg _
      · exact hst v (List.mem_cons_of_mem _ (List.mem_cons_of_mem _ (hv)))
    · refine W.lcmp hcx.1 hcx.2.1 hd ?_
      have k : W p l e R s m args below meth c H locs cells slots Q (F0 m (pc + 1) lsc (.int (Int32.ofInt (lg_cmp (Int64.ofInt a) (Int64.ofInt b)).toInt) :: r.map (qc X))) := k
      rw [Int32.ofInt_toInt] at k
      exact k
  · cases h
def qf_dup : qF := fun _ st => match st with
  | v :: r => if qcat v = 1 then some (v :: v :: r) else none
  | _ => none
def qo_dup : qOp := qos qf_dup 1
theorem qk_dup {X : qX} {l : Launch} {K : Nat} {cc : ByteArray} {nL : Nat} {own nm : String} {rt : Option FieldType} {pc : Nat} (hd : decode cc pc = .ok (.dup, 1)) : qOk X l K cc nL own nm rt pc qo_dup := by
  apply qos_ok
  intro ls st st' h hst hls
  unfold qf_dup at h
  split at h
  · rename_i v r
    split at h
    · rename_i hc
      cases h
      refine ⟨fun w hw => ?_, fun p e R s m args below meth c Q H locs cells slots lsc hcx hL k => ?_⟩
      · rcases List.mem_cons.mp hw with rfl | hw
        · exact hst _ List.mem_cons_self
        · exact hst w hw
      · exact lv_dup hcx.1 hcx.2.1 hd (by rw [qcat_c]; exact hc) k
    · cases h
  · cases h
def qf_pop : qF := fun _ st => match st with
  | v :: r => if qcat v = 1 then some r else none
  | _ => none
def qo_pop : qOp := qos qf_pop 1
theorem qk_pop {X : qX} {l : Launch} {K : Nat} {cc : ByteArray} {nL : Nat} {own nm : String} {rt : Option FieldType} {pc : Nat} (hd : decode cc pc = .ok (.pop, 1)) : qOk X l K cc nL own nm rt pc qo_pop := by
  apply qos_ok
  intro ls st st' h hst hls
  unfold qf_pop at h
  split at h
  · rename_i v r
    split at h
    · rename_i hc
      cases h
      exact ⟨fun w hw => hst w (List.mem_cons_of_mem _ hw), fun p e R s m args below meth c Q H locs cells slots lsc hcx hL k => lv_pop hcx.1 hcx.2.1 hd (by rw [qcat_c]; exact hc) k⟩
    · cases h
  · cases h
def qf_dup2 : qF := fun _ st => match st with
  | v :: w :: r => if qcat v = 1 ∧ qcat w = 1 then some (v :: w :: v :: w :: r) else none
  | _ => none
def qo_dup2 : qOp := qos qf_dup2 1
theorem qk_dup2 {X : qX} {l : Launch} {K : Nat} {cc : ByteArray} {nL : Nat} {own nm : String} {rt : Option FieldType} {pc : Nat} (hd : decode cc pc = .ok (.dup2, 1)) : qOk X l K cc nL own nm rt pc qo_dup2 := by
  apply qos_ok
  intro ls st st' h hst hls
  unfold qf_dup2 at h
  split at h
  · rename_i v w r
    split at h
    · rename_i hc
      cases h
      refine ⟨fun u hu => ?_, fun p e R s m args below meth c Q H locs cells slots lsc hcx hL k => ?_⟩
      · rcases List.mem_cons.mp hu with rfl | hu
        · exact hst _ List.mem_cons_self
        · rcases List.mem_cons.mp hu with rfl | hu
          · exact hst _ (List.mem_cons_of_mem _ List.mem_cons_self)
          · exact hst u hu
      · exact lv_dup2_11 hcx.1 hcx.2.1 hd (by rw [qcat_c]; exact hc.1) (by rw [qcat_c]; exact hc.2) k
    · cases h
  · cases h
def qf_ci (z : Int) : qF := fun _ st => some (qI z :: st)
def qo_ci (z : Int) (n : Nat) : qOp := qos (qf_ci z) n
def qf_cl (z : Int) : qF := fun _ st => some (qJ z :: st)
def qo_cl (z : Int) (n : Nat) : qOp := qos (qf_cl z) n
theorem qk_iconst {X : qX} {l : Launch} {K : Nat} {cc : ByteArray} {nL : Nat} {own nm : String} {rt : Option FieldType} {pc : Nat} {z : Int} (hd : decode cc pc = .ok (.iconst z, 1)) (hr : -2147483648 ≤ z ∧ z ≤ 2147483647) : qOk X l K cc nL own nm rt pc (qo_ci z 1) := by
  apply qos_ok
  intro ls st st' h hst hls
  cases h
  refine ⟨fun v hv => ?_, fun p e R s m args below meth c Q H locs cells slots lsc hcx hL k => ?_⟩
  · rcases List.mem_cons.mp hv with rfl | hv
    · exact hr
    · exact hst v hv
  · exact lv_iconst hcx.1 hcx.2.1 hd rfl k
theorem qk_bipush {X : qX} {l : Launch} {K : Nat} {cc : ByteArray} {nL : Nat} {own nm : String} {rt : Option FieldType} {pc : Nat} {z : Int} (hd : decode cc pc = .ok (.bipush z, 2)) (hz : (Int8.ofInt z).toInt32 = Int32.ofInt z) (hr : -2147483648 ≤ z ∧ z ≤ 2147483647) : qOk X l K cc nL own nm rt pc (qo_ci z 2) := by
  apply qos_ok
  intro ls st st' h hst hls
  cases h
  refine ⟨fun v hv => ?_, fun p e R s m args below meth c Q H locs cells slots lsc hcx hL k => ?_⟩
  · rcases List.mem_cons.mp hv with rfl | hv
    · exact hr
    · exact hst v hv
  · exact lv_bipush hcx.1 hcx.2.1 hd hz k
theorem qk_sipush {X : qX} {l : Launch} {K : Nat} {cc : ByteArray} {nL : Nat} {own nm : String} {rt : Option FieldType} {pc : Nat} {z : Int} (hd : decode cc pc = .ok (.sipush z, 3)) (hz : (Int16.ofInt z).toInt32 = Int32.ofInt z) (hr : -2147483648 ≤ z ∧ z ≤ 2147483647) : qOk X l K cc nL own nm rt pc (qo_ci z 3) := by
  apply qos_ok
  intro ls st st' h hst hls
  cases h
  refine ⟨fun v hv => ?_, fun p e R s m args below meth c Q H locs cells slots lsc hcx hL k => ?_⟩
  · rcases List.mem_cons.mp hv with rfl | hv
    · exact hr
    · exact hst v hv
  · exact lv_sipush hcx.1 hcx.2.1 hd hz k
theorem qk_lconst {X : qX} {l : Launch} {K : Nat} {cc : ByteArray} {nL : Nat} {own nm : String} {rt : Option FieldType} {pc : Nat} {z : Int} {k0 : Fin 2} (hd : decode cc pc = .ok (.lconst k0, 1)) (hz : Int64.ofNat (k0 : Nat) = Int64.ofInt z) (hr : -9223372036854775808 ≤ z ∧ z ≤ 9223372036854775807) : qOk X l K cc nL own nm rt pc (qo_cl z 1) := by
  apply qos_ok
  intro ls st st' h hst hls
  cases h
  refine ⟨fun v hv => ?_, fun p e R s m args below meth c Q H locs cells slots lsc hcx hL k => ?_⟩
  · rcases List.mem_cons.mp hv with rfl | hv
    · exact hr
    · exact hst v hv
  · exact lv_lconst hcx.1 hcx.2.1 hd hz k
theorem qk_ldc {X : qX} {l : Launch} {K : Nat} {cc : ByteArray} {nL : Nat} {own nm : String} {rt : Option FieldType} {pc : Nat} {z : Int} {ix : Nat} (hd : decode cc pc = .ok (.ldc ix, 2)) (hw : Cond.constant own ix (Int32.ofInt z) ∈ qT) (hr : -2147483648 ≤ z ∧ z ≤ 2147483647) : qOk X l K cc nL own nm rt pc (qo_ci z 2) := by
  apply qos_ok
  intro ls st st' h hst hls
  cases h
  refine ⟨fun v hv => ?_, fun p e R s m args below meth c Q H locs cells slots lsc hcx hL k => ?_⟩
  · rcases List.mem_cons.mp hv with rfl | hv
    · exact hr
    · exact hst v hv
  · exact lv_ldc hcx.1 hcx.2.1 (own := own) (v := Int32.ofInt z) hcx.2.2.2.1 (hcx.2.2.2.2.1 _ hw) hd k
theorem qk_ldcw {X : qX} {l : Launch} {K : Nat} {cc : ByteArray} {nL : Nat} {own nm : String} {rt : Option FieldType} {pc : Nat} {z : Int} {ix : Nat} (hd : decode cc pc = .ok (.ldc_w ix, 3)) (hw : Cond.constant own ix (Int32.ofInt z) ∈ qT) (hr : -2147483648 ≤ z ∧ z ≤ 2147483647) : qOk X l K cc nL own nm rt pc (qo_ci z 3) := by
  apply qos_ok
  intro ls st st' h hst hls
  cases h
  refine ⟨fun v hv => ?_, fun p e R s m args below meth c Q H locs cells slots lsc hcx hL k => ?_⟩
  · rcases List.mem_cons.mp hv with rfl | hv
    · exact hr
    · exact hst v hv
  · exact lv_ldcw hcx.1 hcx.2.1 (own := own) (v := Int32.ofInt z) hcx.2.2.2.1 (hcx.2.2.2.2.1 _ hw) hd k
theorem qk_ldc2 {X : qX} {l : Launch} {K : Nat} {cc : ByteArray} {nL : Nat} {own nm : String} {rt : Option FieldType} {pc : Nat} {z : Int} {ix : Nat} (hd : decode cc pc = .ok (.ldc2_w ix, 3)) (hw : Cond.constantLong own ix (Int64.ofInt z) ∈ qT) (hr : -9223372036854775808 ≤ z ∧ z ≤ 9223372036854775807) : qOk X l K cc nL own nm rt pc (qo_cl z 3) := by
  apply qos_ok
  intro ls st st' h hst hls
  cases h
  refine ⟨fun v hv => ?_, fun p e R s m args below meth c Q H locs cells slots lsc hcx hL k => ?_⟩
  · rcases List.mem_cons.mp hv with rfl | hv
    · exact hr
    · exact hst v hv
  · exact lv_ldc2 hcx.1 hcx.2.1 (own := own) (v := Int64.ofInt z) hcx.2.2.2.1 (hcx.2.2.2.2.1 _ hw) hd k
def qf_iload (i : Nat) : qF := fun ls st => match ls[i]? with
  | some (some (.inl z)) => some (qI z :: st)
  | _ => none
def qo_iload (i n : Nat) : qOp := qos (qf_iload i) n
theorem qk_iload {X : qX} {l : Launch} {K : Nat} {cc : ByteArray} {nL : Nat} {own nm : String} {rt : Option FieldType} {pc : Nat} {i : Nat} (hd : decode cc pc = .ok (.iload i, 2)) : qOk X l K cc nL own nm rt pc (qo_iload i 2) := by
  apply qos_ok
  intro ls st st' h hst hls
  unfold qf_iload at h
  split at h
  · rename_i z hz
    cases h
    refine ⟨fun v hv => ?_, fun p e R s m args below meth c Q H locs cells slots lsc hcx hL k => ?_⟩
    · rcases List.mem_cons.mp hv with rfl | hv
      · exact hls i _ hz
      · exact hst v hv
    · have hl := (hL.2.2.2 i _ hz).2
      exact lv_iload hcx.1 hcx.2.1 hd hl k
  · cases h
theorem qk_iload_n {X : qX} {l : Launch} {K : Nat} {cc : ByteArray} {nL : Nat} {own nm : String} {rt : Option FieldType} {pc : Nat} {i : Nat} {kk : Fin 4} (hd : decode cc pc = .ok (.iload_n kk, 1)) (hi : (kk : Nat) = i) : qOk X l K cc nL own nm rt pc (qo_iload i 1) := by
  apply qos_ok
  intro ls st st' h hst hls
  unfold qf_iload at h
  split at h
  · rename_i z hz
    cases h
    refine ⟨fun v hv => ?_, fun p e R s m args below meth c Q H locs cells slots lsc hcx hL k => ?_⟩
    · rcases List.mem_cons.mp hv with rfl | hv
      · exact hls i _ hz
      · exact hst v hv
    · have hl := (hL.2.2.2 i _ hz).2
      exact lv_iload_n hcx.1 hcx.2.1 hd hi hl k
  · cases h
def qf_lload (i : Nat) : qF := fun ls st => match ls[i]? with
  | some (some (.inr (.inl z))) => some (qJ z :: st)
  | _ => none
def qo_lload (i n : Nat) : qOp := qos (qf_lload i) n
theorem qk_lload {X : qX} {l : Launch} {K : Nat} {cc : ByteArray} {nL : Nat} {own nm : String} {rt : Option FieldType} {pc : Nat} {i : Nat} (hd : decode cc pc = .ok (.lload i, 2)) : qOk X l K cc nL own nm rt pc (qo_lload i 2) := by
  apply qos_ok
  intro ls st st' h hst hls
  unfold qf_lload at h
  split at h
  · rename_i z hz
    cases h
    refine ⟨fun v hv => ?_, fun p e R s m args below meth c Q H locs cells slots lsc hcx hL k => ?_⟩
    · rcases List.mem_cons.mp hv with rfl | hv
      · exact hls i _ hz
      · exact hst v hv
    · have hl := (hL.2.2.2 i _ hz).2
      exact lv_lload hcx.1 hcx.2.1 hd hl k
  · cases h
theorem qk_lload_n {X : qX} {l : Launch} {K : Nat} {cc : ByteArray} {nL : Nat} {own nm : String} {rt : Option FieldType} {pc : Nat} {i : Nat} {kk : Fin 4} (hd : decode cc pc = .ok (.lload_n kk, 1)) (hi : (kk : Nat) = i) : qOk X l K cc nL own nm rt pc (qo_lload i 1) := by
  apply qos_ok
  intro ls st st' h hst hls
  unfold qf_lload at h
  split at h
  · rename_i z hz
    cases h
    refine ⟨fun v hv => ?_, fun p e R s m args below meth c Q H locs cells slots lsc hcx hL k => ?_⟩
    · rcases List.mem_cons.mp hv with rfl | hv
      · exact hls i _ hz
      · exact hst v hv
    · have hl := (hL.2.2.2 i _ hz).2
      exact lv_lload_n hcx.1 hcx.2.1 hd hi hl k
  · cases h
def qf_aload (i : Nat) : qF := fun ls st => match ls[i]? with
  | some (some (.inr (.inr z))) => some (qA z :: st)
  | _ => none
def qo_aload (i n : Nat) : qOp := qos (qf_aload i) n
theorem qk_aload {X : qX} {l : Launch} {K : Nat} {cc : ByteArray} {nL : Nat} {own nm : String} {rt : Option FieldType} {pc : Nat} {i : Nat} (hd : decode cc pc = .ok (.aload i, 2)) : qOk X l K cc nL own nm rt pc (qo_aload i 2) := by
  apply qos_ok
  intro ls st st' h hst hls
  unfold qf_aload at h
  split at h
  · rename_i z hz
    cases h
    refine ⟨fun v hv => ?_, fun p e R s m args below meth c Q H locs cells slots lsc hcx hL k => ?_⟩
    · rcases List.mem_cons.mp hv with rfl | hv
      · exact hls i _ hz
      · exact hst v hv
    · have hl := (hL.2.2.2 i _ hz).2
      rcases hq : qo X z with _ | q
      · have e9 : qc X (qA z) = .null := by show qr X z = _; unfold qr; rw [hq]; rfl
        have k : W p l e R s m args below meth c H locs cells slots Q (F0 m (pc + 2) lsc (qc X (qA z) :: st.map (qc X))) := k
        rw [e9] at hl k
        exact lv_aloadN hcx.1 hcx.2.1 hd hl k
      · have e9 : qc X (qA z) = .ref q := by show qr X z = _; unfold qr; rw [hq]; rfl
        have k : W p l e R s m args below meth c H locs cells slots Q (F0 m (pc + 2) lsc (qc X (qA z) :: st.map (qc X))) := k
        rw [e9] at hl k
        exact lv_aload hcx.1 hcx.2.1 hd hl k
  · cases h
theorem qk_aload_n {X : qX} {l : Launch} {K : Nat} {cc : ByteArray} {nL : Nat} {own nm : String} {rt : Option FieldType} {pc : Nat} {i : Nat} {kk : Fin 4} (hd : decode cc pc = .ok (.aload_n kk, 1)) (hi : (kk : Nat) = i) : qOk X l K cc nL own nm rt pc (qo_aload i 1) := by
  apply qos_ok
  intro ls st st' h hst hls
  unfold qf_aload at h
  split at h
  · rename_i z hz
    cases h
    refine ⟨fun v hv => ?_, fun p e R s m args below meth c Q H locs cells slots lsc hcx hL k => ?_⟩
    · rcases List.mem_cons.mp hv with rfl | hv
      · exact hls i _ hz
      · exact hst v hv
    · have hl := (hL.2.2.2 i _ hz).2
      rcases hq : qo X z with _ | q
      · have e9 : qc X (qA z) = .null := by show qr X z = _; unfold qr; rw [hq]; rfl
        have k : W p l e R s m args below meth c H locs cells slots Q (F0 m (pc + 1) lsc (qc X (qA z) :: st.map (qc X))) := k
        rw [e9] at hl k
        exact lv_aload_nN hcx.1 hcx.2.1 hd hi hl k
      · have e9 : qc X (qA z) = .ref q := by show qr X z = _; unfold qr; rw [hq]; rfl
        have k : W p l e R s m args below meth c H locs cells slots Q (F0 m (pc + 1) lsc (qc X (qA z) :: st.map (qc X))) := k
        rw [e9] at hl k
        exact lv_aload_n hcx.1 hcx.2.1 hd hi hl k
  · cases h
