/-! OPERATIONS OF THE LAW: the script is the cell of reference -10 -/
section QSC
variable {p : Program} {l : Launch} {e : Env} {R : Room} {s : State} {m : MethodId} {args : Array Value} {below : List Frame} {meth : Method} {c : Code} {Q : State → Prop}
/-- the script: cell b, L ints xs -/
def qScr (X : qX) (s : State) (b L : Nat) (xs : Nat → Int32) : Prop := X.2.1 (-10) = some b ∧ b < X.1 ∧ b < s.heap.size ∧ va_X b L xs s s.heap
def qOkS (X : qX) (l : Launch) (b L : Nat) (xs : Nat → Int32) (K : Nat) (cc : ByteArray) (nL : Nat) (own nm : String) (rt : Option FieldType) (pc : Nat) (op : qOp) : Prop :=
  ∀ (ls : qLs) (st : List qV) (h : qH),
    (∀ cfg', op (pc, ls, st, h) = .inl cfg' → qle h cfg'.2.2.2 ∧
      ∀ (p : Program) (e : Env) (R : Room) (s : State) (m : MethodId) (args : Array Value) (below : List Frame) (meth : Method) (c : Code) (Q : State → Prop) (h0 : qH),
        qScr X s b L xs → qCx X p R s m args meth c K cc nL own nm → qn h0 cfg'.2.2.2 ≤ R.cells ∧ qs h0 cfg'.2.2.2 ≤ R.slots → qle h0 h →
        qSim X p l e R s m args below meth c Q nL h0 cfg' → qSim X p l e R s m args below meth c Q nL h0 (pc, ls, st, h)) ∧
    (∀ r h', op (pc, ls, st, h) = .inr (some (r, h')) → qle h h' ∧
      ∀ (p : Program) (e : Env) (R : Room) (s : State) (m : MethodId) (args : Array Value) (below : List Frame) (meth : Method) (c : Code) (Q : State → Prop) (h0 : qH),
        qScr X s b L xs → qCx X p R s m args meth c K cc nL own nm → qle h0 h →
        qRt X p l e R s m args below meth c Q cc rt h0 r h' → qSim X p l e R s m args below meth c Q nL h0 (pc, ls, st, h))
theorem qOkS_of {X : qX} {b L : Nat} {xs : Nat → Int32} {K : Nat} {cc : ByteArray} {nL : Nat} {own nm : String} {rt : Option FieldType} {pc : Nat} {op : qOp} (h : qOk X l K cc nL own nm rt pc op) : qOkS X l b L xs K cc nL own nm rt pc op := fun ls st h1 =>
  ⟨fun cfg' q => ⟨((h ls st h1).1 cfg' q).1, fun p e R s m args below meth c Q h0 _ a1 a2 a3 a4 => ((h ls st h1).1 cfg' q).2 p e R s m args below meth c Q h0 a1 a2 a3 a4⟩,
   fun r h' q => ⟨((h ls st h1).2 r h' q).1, fun p e R s m args below meth c Q h0 _ a1 a2 a3 => ((h ls st h1).2 r h' q).2 p e R s m args below meth c Q h0 a1 a2 a3⟩⟩
theorem qnilS {X : qX} {b L : Nat} {xs : Nat → Int32} {K : Nat} {cc : ByteArray} {nL : Nat} {own nm : String} {rt : Option FieldType} : ∀ q ∈ ([] : List (Nat × qOp)), qOkS X l b L xs K cc nL own nm rt q.1 q.2 := fun _ h => absurd h List.not_mem_nil
theorem qconsS {X : qX} {b L : Nat} {xs : Nat → Int32} {K : Nat} {cc : ByteArray} {nL : Nat} {own nm : String} {rt : Option FieldType} {pc : Nat} {op : qOp} {C : List (Nat × qOp)} (h : qOkS X l b L xs K cc nL own nm rt pc op) (t : ∀ q ∈ C, qOkS X l b L xs K cc nL own nm rt q.1 q.2) : ∀ q ∈ (pc, op) :: C, qOkS X l b L xs K cc nL own nm rt q.1 q.2 := by
  intro q hq
  rcases List.mem_cons.mp hq with rfl | hq
  · exact h
  · exact t q hq
theorem qrunS_le {X : qX} {b L : Nat} {xs : Nat → Int32} {K : Nat} {cc : ByteArray} {nL : Nat} {own nm : String} {rt : Option FieldType} {C : List (Nat × qOp)} (hC : ∀ q ∈ C, qOkS X l b L xs K cc nL own nm rt q.1 q.2) {n : Nat} : ∀ {cfg : qCfg} {r : Option qV} {h' : qH}, qrun C n cfg = some (r, h') → qle cfg.2.2.2 h' := by
  induction n with
  | zero => intro cfg r h' h; cases h
  | succ n ih =>
    intro cfg r h' h
    rw [qrun_succ] at h
    obtain ⟨pc, ls, st, hh⟩ := cfg
    cases hs : qst C (pc, ls, st, hh) with
    | inl cfg' =>
      rw [hs] at h
      have h2 := ih h
      unfold qst at hs
      cases hf : qft C pc with
      | none => rw [hf] at hs; cases hs
      | some op =>
        rw [hf] at hs
        exact qle_tr ((hC _ (qft_mem hf) ls st hh).1 cfg' hs).1 h2
    | inr r' =>
      rw [hs] at h
      have h : r' = some (r, h') := h
      subst h
      unfold qst at hs
      cases hf : qft C pc with
      | none => rw [hf] at hs; cases hs
      | some op =>
        rw [hf] at hs
        exact ((hC _ (qft_mem hf) ls st hh).2 r h' hs).1
theorem qrunS_sim {X : qX} {b L : Nat} {xs : Nat → Int32} {K : Nat} {cc : ByteArray} {nL : Nat} {own nm : String} {rt : Option FieldType} {C : List (Nat × qOp)} (hC : ∀ q ∈ C, qOkS X l b L xs K cc nL own nm rt q.1 q.2) {h0 : qH} (hsc : qScr X s b L xs) (hcx : qCx X p R s m args meth c K cc nL own nm) {r : Option qV} {h' : qH} (hR : qn h0 h' ≤ R.cells ∧ qs h0 h' ≤ R.slots) (hrt : qRt X p l e R s m args below meth c Q cc rt h0 r h') {n : Nat} :
    ∀ {cfg : qCfg}, qle h0 cfg.2.2.2 → qrun C n cfg = some (r, h') → qSim X p l e R s m args below meth c Q nL h0 cfg := by
  induction n with
  | zero => intro cfg hl h; cases h
  | succ n ih =>
    intro cfg hl h
    rw [qrun_succ] at h
    obtain ⟨pc, ls, st, hh⟩ := cfg
    cases hs : qst C (pc, ls, st, hh) with
    | inl cfg' =>
      rw [hs] at h
      have h2 := qrunS_le hC h
      unfold qst at hs
      cases hf : qft C pc with
      | none => rw [hf] at hs; cases hs
      | some op =>
        rw [hf] at hs
        obtain ⟨g1, g2⟩ := (hC _ (qft_mem hf) ls st hh).1 cfg' hs
        have hm := qn_mono (h0 := h0) h2
        exact g2 p e R s m args below meth c Q h0 hsc hcx ⟨Nat.le_trans hm.1 hR.1, Nat.le_trans hm.2 hR.2⟩ hl (ih (qle_tr hl g1) h)
    | inr r' =>
      rw [hs] at h
      have h : r' = some (r, h') := h
      subst h
      unfold qst at hs
      cases hf : qft C pc with
      | none => rw [hf] at hs; cases hs
      | some op =>
        rw [hf] at hs
        exact ((hC _ (qft_mem hf) ls st hh).2 r h' hs).2 p e R s m args below meth c Q h0 hsc hcx hl hrt
/-- one int of the script -/
def qo_sld (L : Nat) (xs : Nat → Int32) : qOp := fun c => match c with
  | (pc, ls, .inl k :: .inr (.inr a) :: r, h) => if a = -10 ∧ 0 ≤ k ∧ k < L then .inl (pc + 1, ls, qI (xs k.toNat).toInt :: r, h) else .inr none
  | _ => .inr none
theorem qk_sld {X : qX} {b L : Nat} {xs : Nat → Int32} {K : Nat} {cc : ByteArray} {nL : Nat} {own nm : String} {rt : Option FieldType} {pc : Nat} (hL : L ≤ 3072) (hd : decode cc pc = .ok (.iaload, 1)) : qOkS X l b L xs K cc nL own nm rt pc (qo_sld L xs) := by
  intro ls st h
  unfold qo_sld
  constructor
  · intro cfg' hcg
    split at hcg
    · rename_i heq
      cases heq
      split at hcg
      · rename_i hcnd
        cases hcg
        refine ⟨qle_rf _, ?_⟩
        intro p e R s m args below meth c Q h0 hsc hx hR hle hk H locs lsc hP hS hL2 hst hle'
        rename_i k a r
        obtain ⟨rfl, hk0, hk1⟩ := hcnd
        have hko : -2147483648 ≤ k ∧ k ≤ 2147483647 := by omega
        obtain ⟨s1, s2, s3, s4⟩ := hsc
        have e9 : qr X (-10) = .ref b := by
          unfold qr qo
          rw [if_neg (by omega), if_neg (by omega), s1]
          rfl
        show W p l e R s m args below meth c H locs _ _ Q (F0 m pc lsc (.int (Int32.ofInt k) :: qr X (-10) :: r.map (qc X)))
        rw [e9]
        refine va_sld hx.1 hx.2.1 s4 s3 (by show ¬ X.1 ≤ b; omega) hS (qint_ix hk0 hk1 hko) hd ?_
        rw [qint_cl hk0 hko]
        have k2 := hk H locs lsc hP hS hL2 (fun v hv => by
          rcases List.mem_cons.mp hv with rfl | hv
          · exact qint_rg _
          · exact hst v (by simp [hv])) hle'
        have k2 : W p l e R s m args below meth c H locs _ _ Q (F0 m (pc + 1) lsc (.int (Int32.ofInt (xs k.toNat).toInt) :: r.map (qc X))) := k2
        rw [Int32.ofInt_toInt] at k2
        exact k2
      · cases hcg
    · cases hcg
  · intro r h' hcg
    split at hcg
    · split at hcg
      · cases hcg
      · cases hcg
    · cases hcg
def qo_slen (L : Nat) : qOp := fun c => match c with
  | (pc, ls, .inr (.inr a) :: r, h) => if a = -10 then .inl (pc + 1, ls, qI L :: r, h) else .inr none
  | _ => .inr none
theorem qk_slen {X : qX} {b L : Nat} {xs : Nat → Int32} {K : Nat} {cc : ByteArray} {nL : Nat} {own nm : String} {rt : Option FieldType} {pc : Nat} (hL : L ≤ 3072) (hd : decode cc pc = .ok (.arraylength, 1)) : qOkS X l b L xs K cc nL own nm rt pc (qo_slen L) := by
  intro ls st h
  unfold qo_slen
  constructor
  · intro cfg' hcg
    split at hcg
    · rename_i heq
      cases heq
      split at hcg
      · rename_i hcnd
        cases hcg
        refine ⟨qle_rf _, ?_⟩
        intro p e R s m args below meth c Q h0 hsc hx hR hle hk H locs lsc hP hS hL2 hst hle'
        rename_i a r
        subst hcnd
        obtain ⟨s1, s2, s3, s4⟩ := hsc
        have e9 : qr X (-10) = .ref b := by
          unfold qr qo
          rw [if_neg (by omega), if_neg (by omega), s1]
          rfl
        show W p l e R s m args below meth c H locs _ _ Q (F0 m pc lsc (qr X (-10) :: r.map (qc X)))
        rw [e9]
        refine va_slen hx.1 hx.2.1 s4 s3 (by show ¬ X.1 ≤ b; omega) hS hd ?_
        have k2 := hk H locs lsc hP hS hL2 (fun v hv => by
          rcases List.mem_cons.mp hv with rfl | hv
          · show -2147483648 ≤ (L : Int) ∧ (L : Int) ≤ 2147483647
            omega
          · exact hst v (by simp [hv])) hle'
        have k2 : W p l e R s m args below meth c H locs _ _ Q (F0 m (pc + 1) lsc (.int (Int32.ofInt (L : Int)) :: r.map (qc X))) := k2
        exact k2
      · cases hcg
    · cases hcg
  · intro r h' hcg
    split at hcg
    · split at hcg
      · cases hcg
      · cases hcg
    · cases hcg
end QSC
