/-! new long[n][k] AT THE MODEL: the state behind i rows in closed form; one row; all rows; the instruction -/
section QM
/-- the outer row at a: its first i places refer to the i rows that stand behind it -/
def qmO (a : Nat) (c : ClassId) (N i : Nat) : Cell := arrV c N (fun j => va_rf (if j < i then some (a + 1 + j) else none))
def qmI (c : ClassId) (M : Nat) (z : Value) : Cell := arrV c M (fun _ => z)
def qmS (T : State) (cA cI : ClassId) (N M : Nat) (z : Value) (i : Nat) : State :=
  { T with heap := T.heap.push (qmO T.heap.size cA N i) ++ Array.replicate i (qmI cI M z), slotsUsed := T.slotsUsed + N + i * M }
theorem qmO_next (a : Nat) (c : ClassId) (N i : Nat) : (qmO a c N i).setSlot i (.ref (a + 1 + i)) = qmO a c N (i + 1) := by
  unfold qmO
  rw [arrV_store]
  refine congrArg (arrV c N) (funext fun j => ?_)
  show (if j = i then Value.ref (a + 1 + i) else va_rf (if j < i then some (a + 1 + j) else none)) = _
  rcases Nat.lt_trichotomy j i with h | h | h
  · rw [if_neg (by omega), if_pos h, if_pos (by omega)]
  · rw [if_pos h, if_pos (by omega), h]
    rfl
  · rw [if_neg (by omega), if_neg (by omega), if_neg (by omega)]
theorem qmA_next {α : Type} (A : Array α) (o o' z : α) (i : Nat) : ((A.push o ++ Array.replicate i z).push z).setIfInBounds A.size o' = A.push o' ++ Array.replicate (i + 1) z := by
  apply Array.ext_getElem?
  intro x
  simp only [Array.getElem?_setIfInBounds, Array.getElem?_push, Array.getElem?_append, Array.getElem?_replicate, Array.size_push, Array.size_append, Array.size_replicate]
  (repeat' split) <;> first | rfl | omega
section
variable {T : State} {cA cI : ClassId} {N M : Nat} {z : Value}
theorem qmS_size (i : Nat) : (qmS T cA cI N M z i).heap.size = T.heap.size + 1 + i := by
  show (T.heap.push _ ++ Array.replicate i _).size = _
  rw [Array.size_append, Array.size_push, Array.size_replicate]
theorem qmS_old (i : Nat) {x : Nat} (h : x < T.heap.size) : (qmS T cA cI N M z i).heap[x]? = T.heap[x]? := by
  show (T.heap.push _ ++ Array.replicate i _)[x]? = _
  rw [Array.getElem?_append_left (by rw [Array.size_push]; omega), Array.getElem?_push, if_neg (by omega)]
theorem qmS_top (i : Nat) : (qmS T cA cI N M z i).heap[T.heap.size]? = some (qmO T.heap.size cA N i) := by
  show (T.heap.push _ ++ Array.replicate i _)[T.heap.size]? = _
  rw [Array.getElem?_append_left (by rw [Array.size_push]; omega), Array.getElem?_push, if_pos rfl]
theorem qmS_row (i j : Nat) (h : j < i) : (qmS T cA cI N M z i).heap[T.heap.size + 1 + j]? = some (qmI cI M z) := by
  show (T.heap.push _ ++ Array.replicate i _)[T.heap.size + 1 + j]? = _
  rw [Array.getElem?_append_right (by rw [Array.size_push]; omega), Array.getElem?_replicate, Array.size_push, if_pos (by omega)]
theorem qmS_zero : T.pushCell (qmO T.heap.size cA N 0) = qmS T cA cI N M z 0 := by
  show ({ T with heap := T.heap.push (qmO T.heap.size cA N 0), slotsUsed := T.slotsUsed + (qmO T.heap.size cA N 0).slots.size } : State) = { T with heap := T.heap.push (qmO T.heap.size cA N 0) ++ Array.replicate 0 (qmI cI M z), slotsUsed := T.slotsUsed + N + 0 * M }
  rw [show (qmO T.heap.size cA N 0).slots.size = N from arrV_size _ _ _, Array.replicate_zero, Array.append_empty, Nat.zero_mul, Nat.add_zero]
theorem qmS_next (i : Nat) : ((qmS T cA cI N M z i).pushCell (qmI cI M z)).setCell T.heap.size (qmO T.heap.size cA N (i + 1)) = qmS T cA cI N M z (i + 1) := by
  show ({ T with heap := ((T.heap.push (qmO T.heap.size cA N i) ++ Array.replicate i (qmI cI M z)).push (qmI cI M z)).setIfInBounds T.heap.size (qmO T.heap.size cA N (i + 1)), slotsUsed := T.slotsUsed + N + i * M + (qmI cI M z).slots.size } : State) = { T with heap := T.heap.push (qmO T.heap.size cA N (i + 1)) ++ Array.replicate (i + 1) (qmI cI M z), slotsUsed := T.slotsUsed + N + (i + 1) * M }
  rw [qmA_next, show (qmI cI M z).slots.size = M from arrV_size _ _ _, Nat.succ_mul, Nat.add_assoc (T.slotsUsed + N)]
end
theorem qmS_stand {p : Program} {l : Launch} {e : Env} {R : Room} {s : State} {m : MethodId} {args : Array Value} {below : List Frame} {meth : Method} {c : Code} {T : State} {locs : List Loc} {cells slots : Nat} (X : Stand p l e R s m args below meth c T locs cells slots) (cA cI : ClassId) (N M : Nat) (z : Value) :
    ∀ i : Nat, Stand p l e R s m args below meth c (qmS T cA cI N M z i) locs (cells + 1 + i) (slots + N + i * M)
  | 0 => by
    have h := X.pushed (qmO T.heap.size cA N 0)
    rw [qmS_zero (cI := cI) (M := M) (z := z), show (qmO T.heap.size cA N 0).slots.size = N from arrV_size _ _ _] at h
    rw [Nat.zero_mul]
    exact h
  | i + 1 => by
    have h := (qmS_stand X cA cI N M z i).pushed (qmI cI M z)
    have ht : ((qmS T cA cI N M z i).pushCell (qmI cI M z)).heap[T.heap.size]? = some (qmO T.heap.size cA N i) := by
      have hlt : T.heap.size < (qmS T cA cI N M z i).heap.size := by rw [qmS_size]; omega
      rw [State.heap_pushCell_of_lt (h := hlt)]
      exact qmS_top i
    have h2 := (h.stored ht i (.ref (T.heap.size + 1 + i))).dropFresh (fun x hx => by
      rw [List.mem_singleton.mp hx]
      exact X.heapGrown)
    rw [qmO_next, qmS_next, show (qmI cI M z).slots.size = M from arrV_size _ _ _] at h2
    rw [Nat.succ_mul, ← Nat.add_assoc (slots + N)]
    exact h2
/-- a loop that goes from S 0 to S N, a state a round -/
theorem qm_loop {E : CtlPost} {e : Env} {f : Nat → PUnit → Sem (ForInStep PUnit)} {S : Nat → State} {N : Nat}
    (hf : ∀ j : Nat, j < N → ∀ (d : Bool) (acts : List Action) (Q : ForInStep PUnit → Pre), (∀ (d' : Bool) (acts' : List Action), Q (.yield PUnit.unit) d' acts' (S (j + 1))) → wp (f j PUnit.unit) Q E e d acts (S j)) :
    ∀ (k i : Nat), i + k = N → ∀ (d : Bool) (acts : List Action) (Q : PUnit → Pre), (∀ (d' : Bool) (acts' : List Action), Q PUnit.unit d' acts' (S N)) → wp (forIn (List.range' i k 1) PUnit.unit f) Q E e d acts (S i)
  | 0, i, h, d, acts, Q, hq => by
    rw [show i = N by omega]
    simp only [List.range'_zero, List.forIn_nil, wp_pure']
    exact hq d acts
  | k + 1, i, h, d, acts, Q, hq => by
    rw [List.range'_succ]
    simp only [List.forIn_cons, wp_bind']
    exact hf i (by omega) d acts _ fun d' acts' => qm_loop hf k (i + 1) (by omega) d' acts' Q hq
section
variable {E : CtlPost} {e : Env} {d : Bool} {acts : List Action}
theorem qm_one {U : State} {cI c2 : ClassId} {kI : Class} {t : FieldType} {x : Int32} {Q : Addr → Pre} (hI : U.vm.classes[cI]? = some kI) (hkI : kI.kind = .array c2 t) (hx : ¬ x < 0) (b1 : ¬ x.toNatClampNeg > e.platform.arrayLengthLimit) (b2 : ¬ x.toNatClampNeg * componentBytes t > e.platform.maxHeapBytes)
    (hf : fits t (defaultValue t) = true) (r1 : U.heap.size < e.platform.maxCells) (r2 : U.slotsUsed + x.toNatClampNeg ≤ e.platform.maxSlots) (hq : ∀ acts' : List Action, Q U.heap.size d acts' (U.pushCell (qmI cI x.toNatClampNeg (defaultValue t)))) :
    wp (multianewarray.make cI [x]) Q E e d acts U := by
  rw [multianewarray.make]
  simp only [wp_bind', W.ite, hx, if_false, wp_pure', W.theClass]
  refine ⟨kI, hI, ?_⟩
  rw [hkI]
  refine W.newArray_of hI hkI b1 b2 r1 r2 hf (fun acts' => ?_)
  rw [arrV_new]
  exact hq acts'
theorem qm_make {T : State} {cA cI c2 : ClassId} {kA kI : Class} {t : FieldType} {n x : Int32} {Q : Addr → Pre} (hA : T.vm.classes[cA]? = some kA) (hkA : kA.kind = .array cI (.array t)) (hI : T.vm.classes[cI]? = some kI) (hkI : kI.kind = .array c2 t) (hn : ¬ n < 0) (hx : ¬ x < 0)
    (a1 : ¬ n.toNatClampNeg > e.platform.arrayLengthLimit) (a2 : ¬ n.toNatClampNeg * componentBytes (.array t) > e.platform.maxHeapBytes) (b1 : ¬ x.toNatClampNeg > e.platform.arrayLengthLimit) (b2 : ¬ x.toNatClampNeg * componentBytes t > e.platform.maxHeapBytes)
    (hf : fits t (defaultValue t) = true) (r1 : T.heap.size + 1 + n.toNatClampNeg ≤ e.platform.maxCells) (r2 : T.slotsUsed + n.toNatClampNeg + n.toNatClampNeg * x.toNatClampNeg ≤ e.platform.maxSlots)
    (hq : ∀ (d' : Bool) (acts' : List Action), Q T.heap.size d' acts' (qmS T cA cI n.toNatClampNeg x.toNatClampNeg (defaultValue t) n.toNatClampNeg)) :
    wp (multianewarray.make cA [n, x]) Q E e d acts T := by
  rw [multianewarray.make]
  simp only [wp_bind', W.ite, hn, if_false, wp_pure', W.theClass]
  refine ⟨kA, hA, ?_⟩
  rw [hkA]
  simp only [wp_bind']
  refine W.newArray_of hA hkA a1 a2 (by omega) (by omega) rfl (fun acts1 => ?_)
  rw [arrV_new, show arrV cA n.toNatClampNeg (fun _ => Value.null) = qmO T.heap.size cA n.toNatClampNeg 0 from rfl, qmS_zero (cI := cI) (M := x.toNatClampNeg) (z := defaultValue t)]
  have h0 : ([x].find? (fun y => decide (y < 0))) = none := by simp [hx]
  simp only [h0, wp_bind', wp_pure', ite_self]
  rw [Std.Legacy.Range.forIn_eq_forIn_range']
  refine qm_loop (S := qmS T cA cI n.toNatClampNeg x.toNatClampNeg (defaultValue t)) (N := n.toNatClampNeg) ?_ _ 0 (by simp [Std.Legacy.Range.size]) _ _ _ hq
  intro j hj d1 acts1 Q1 hQ1
  have hm : j * x.toNatClampNeg + x.toNatClampNeg ≤ n.toNatClampNeg * x.toNatClampNeg := by
    have h := Nat.mul_le_mul_right x.toNatClampNeg (show j + 1 ≤ n.toNatClampNeg from hj)
    rwa [Nat.succ_mul] at h
  simp only [wp_bind']
  refine qm_one (U := qmS T cA cI n.toNatClampNeg x.toNatClampNeg (defaultValue t) j) hI hkI hx b1 b2 hf (by rw [qmS_size]; omega) (by show T.slotsUsed + n.toNatClampNeg + j * x.toNatClampNeg + _ ≤ _; omega) (fun acts2 => ?_)
  simp only [W.writeLoc, wp_bind', wp_pure']
  refine ⟨qmO T.heap.size cA n.toNatClampNeg j, ?_, ?_, ?_, ?_, ?_⟩
  · have hlt : T.heap.size < (qmS T cA cI n.toNatClampNeg x.toNatClampNeg (defaultValue t) j).heap.size := by rw [qmS_size]; omega
    rw [State.heap_pushCell_of_lt (h := hlt)]
    exact qmS_top j
  · show VmData.none ≠ VmData.unknown
    simp
  · rw [show (qmO T.heap.size cA n.toNatClampNeg j).slots.size = n.toNatClampNeg from arrV_size _ _ _]
    exact hj
  · have hv : (qmS T cA cI n.toNatClampNeg x.toNatClampNeg (defaultValue t) j).vm.classes[cA]? = some kA := hA
    simp [State.fitsSlot, State.slotType?, hv, hkA, qmO, arrV, fits]
  · rw [qmS_size, qmO_next, qmS_next]
    exact hQ1 _ _
end
/-- what the tables say of an array of arrays -/
theorem qm_over {t : FieldType} {A : Array Value} {U : State} (h : (Cond.arrayOver (.array t)).before A U = true) : ∃ (cI cA : ClassId) (kA : Class), U.vm.findClass (FieldType.array t).toString = some cI ∧ U.vm.classes[cA]? = some kA ∧ kA.kind = .array cI (.array t) ∧ U.vm.findClass ("[" ++ (FieldType.array t).toString) = some cA := by
  rw [qAO_val, beq_iff_eq] at h
  obtain ⟨cI, h1, h⟩ := Option.bind_eq_some_iff.mp h
  obtain ⟨cA, h2, h⟩ := Option.bind_eq_some_iff.mp h
  obtain ⟨kA, h3, h⟩ := Option.map_eq_some_iff.mp h
  obtain ⟨hlt, hp, -⟩ := Array.findIdx?_eq_some_iff_getElem.mp h2
  have h4 : U.vm.classes[cA] = kA := Option.some.inj ((Array.getElem?_eq_getElem hlt).symm.trans h3)
  rw [h4] at hp
  cases hk : kA.kind with
  | array c9 ty =>
    rw [hk] at h hp
    simp only [Bool.and_eq_true, decide_eq_true_eq] at h
    simp only [beq_iff_eq] at hp
    exact ⟨cI, cA, kA, h1, h3, by rw [hk, hp, h.1], h.2⟩
  | _ =>
    rw [hk] at h
    cases h
theorem qm_ins {p : Program} {l : Launch} {e : Env} {R : Room} {s : State} {m : MethodId} {args : Array Value} {below : List Frame} {meth : Method} {c : Code} {T : State} {locs : List Loc} {cells slots : Nat} (X : Stand p l e R s m args below meth c T locs cells slots) (hexec : p.tables.exec = Jvm.exec) {own : String} {ix : Nat} {t : FieldType}
    (hown : s.vm.findClass own = some m.cls) (w1 : (Cond.classLink own ix ("[" ++ (FieldType.array t).toString)).before args s = true) {cA cI c2 : ClassId} {kA kI : Class} (fA : s.vm.findClass ("[" ++ (FieldType.array t).toString) = some cA) (hA : s.vm.classes[cA]? = some kA) (hkA : kA.kind = .array cI (.array t)) (hI : s.vm.classes[cI]? = some kI) (hkI : kI.kind = .array c2 t)
    {g : JFrame} (hg : g.method = m) (hd : decode c.code g.pc = .ok (.multianewarray ix 2, 4)) {n k : Int32} {rest : List Value} (hst : g.stack = .int k :: .int n :: rest) (hn : ¬ n < 0) (hk : ¬ k < 0) (b1 : n.toNatClampNeg ≤ 1000) (b2 : k.toNatClampNeg ≤ 1000) (hcb : componentBytes t ≤ 8) (hf : fits t (defaultValue t) = true)
    (r1 : cells + (1 + n.toNatClampNeg) ≤ R.cells) (r2 : slots + (n.toNatClampNeg + n.toNatClampNeg * k.toNatClampNeg) ≤ R.slots) :
    ∃ vm₁ : Vm, Stand p l e R s m args below meth c (qmS (T.setVm vm₁) cA cI n.toNatClampNeg k.toNatClampNeg (defaultValue t) n.toNatClampNeg) locs (cells + 1 + n.toNatClampNeg) (slots + n.toNatClampNeg + n.toNatClampNeg * k.toNatClampNeg) ∧
      ∀ tg, Steps p.tables e below ((qmS (T.setVm vm₁) cA cI n.toNatClampNeg k.toNatClampNeg (defaultValue t) n.toNatClampNeg).setTop { g with pc := g.pc + 4, stack := .ref T.heap.size :: rest }) tg → Steps p.tables e below (T.setTop g) tg := by
  subst hg
  obtain ⟨c0, hc0, hl⟩ := Cond.classLink_spec hown w1 e.platform (by rw [X.admits.platform])
  have hc : c0 = cA := Option.some.inj (hc0.symm.trans fA)
  subst hc
  obtain ⟨hgive, hwarm, -⟩ := State.classEntry (e := e) X.warmed hl
  generalize T.vm.noted g.method.cls ix (.cls c0) = vm₁ at hgive hwarm
  have XV := X.noted hwarm
  have XF := qmS_stand XV c0 cI n.toNatClampNeg k.toNatClampNeg (defaultValue t) n.toNatClampNeg
  refine ⟨vm₁, XF, fun tg htg => ?_⟩
  obtain ⟨kA', hA', eA⟩ := hwarm.alike.2.2 _ _ hA
  obtain ⟨kI', hI', eI⟩ := hwarm.alike.2.2 _ _ hI
  obtain ⟨q1, q2⟩ := X.roomAbove r1 r2
  have l1 := Launch.admits_arrayLengthLimit X.admits
  have l2 := Launch.admits_maxHeapBytes X.admits
  have l3 : k.toNatClampNeg * componentBytes t ≤ 8000 := Nat.mul_le_mul b2 hcb
  jvm_step X.here [hexec, hd]
  simp only [multianewarray.sem, wp_bind', W.resolveClassAt_links (State.method?_setTop g X.here.top) hgive]
  rw [W.popN, if_neg (by decide)]
  refine ⟨g, State.topJava?_setTop' (s := T.setVm vm₁) g X.here.top, [.int n, .int k], rest, rfl, hst, ?_⟩
  have e0 : ((T.setTop g).setVm vm₁).setTop { g with stack := rest } = (T.setVm vm₁).setTop { g with stack := rest } := by
    show ((T.setVm vm₁).setTop g).setTop _ = _
    rw [State.setTop_setTop]
  rw [e0]
  simp only [List.mapM_cons, List.mapM_nil, wp_bind', wp_pure']
  refine qm_make (T := (T.setVm vm₁).setTop { g with stack := rest }) hA' (by rw [eA]; exact hkA) hI' (by rw [eI]; exact hkI) hn hk (by rw [l1]; omega) (by rw [l2]; show ¬ n.toNatClampNeg * 4 > _; omega) (by rw [l1]; omega) (by rw [l2]; omega) hf (by show T.heap.size + 1 + _ ≤ _; omega) (by show T.slotsUsed + _ + _ ≤ _; omega) (fun d' acts' => ?_)
  rw [show qmS ((T.setVm vm₁).setTop { g with stack := rest }) c0 cI n.toNatClampNeg k.toNatClampNeg (defaultValue t) n.toNatClampNeg = (qmS (T.setVm vm₁) c0 cI n.toNatClampNeg k.toNatClampNeg (defaultValue t) n.toNatClampNeg).setTop { g with stack := rest } from rfl]
  simp only [wp_bind', W.mark, W.pushRef, State.topJava?_setTop' _ XF.here.top, Option.some.injEq, exists_eq_left', State.setTop_setTop]
  intro acts
  simp [jvm, XF.here.top]
  exact htg
end QM
