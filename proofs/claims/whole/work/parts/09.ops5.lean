/-! CALLS, RETURNS, THE CONTRACT OF A METHOD -/
theorem qB_move {X : qX} {s U : State} {H H1 : Heap} (hW : s.WarmedH U.vm) (h : qB X s H) (hz : H.size ≤ H1.size) (hq : ∀ q : Nat, q < H.size → ¬ X.1 ≤ q → H1[q]? = H[q]?) : qB X U H1 := by
  obtain ⟨h1, ⟨adK, adV, b1, b2, b3⟩, h3, h4, h5, t, h6, h7⟩ := h
  have hA := hW.alike
  exact ⟨Nat.le_trans h1 hz, ⟨adK, adV, b1, (b2.moved hA).kept hq, fun i q hi => vk_R.warm hW (b3 i q hi)⟩, (h3.moved hA).kept hq, (h4.moved hA).kept hq, (h5.moved hA).kept hq, t, h6, (h7.moved hA).kept hq⟩
theorem qB_same {X : qX} {u U : State} {H : Heap} (hv : u.vm = U.vm) (h : qB X u H) : qB X U H := by
  obtain ⟨h1, ⟨adK, adV, b1, b2, b3⟩, h3, h4, h5, t, h6, h7⟩ := h
  have hA : u.vm.Alike U.vm := by rw [hv]; exact Vm.Alike.refl _
  exact ⟨h1, ⟨adK, adV, b1, b2.moved hA, fun i q hi => vk_R.same hv.symm (b3 i q hi)⟩, h3.moved hA, h4.moved hA, h5.moved hA, t, h6, h7.moved hA⟩
theorem qB_le {X : qX} {U : State} {H : Heap} (h : qB X U H) : X.1 ≤ H.size := h.1
def qPre (X : qX) (as : List qV) (h : qH) : Array Value → State → Prop := fun v U => v = (as.map (qc X)).toArray ∧ qP X h U.heap ∧ qK X U ∧ qB X U U.heap
def qPost (X : qX) (r : Option qV) (h' : qH) : Array Value → State → Outcome → State → Prop := fun _ st o t => o = .returned (r.map (qc X)) ∧ qP X h' t.heap ∧ qK X t ∧ qB X t t.heap ∧ va_F (fun q : Nat => X.1 ≤ q) st t ∧ ∀ v, r = some v → qok v
theorem qPre_blind {X : qX} {as : List qV} {h : qH} : FrameBlind (qPre X as h) := by
  intro a U g mk hq
  exact ⟨hq.1, hq.2.1, qK_same (u := U) rfl hq.2.2.1, qB_same (u := U) rfl hq.2.2.2⟩
def qrm (k : Nat) (h h' : qH) : Room := { frames := k, cells := qn h h', slots := qs h h', locals := 60 * k }
def qws (y : MethodName) (bs : ByteArray) (mL : Nat) (rt : Option FieldType) : List Cond := Cond.code y bs mL rt :: qT
def qMono (f : qSem) : Prop := ∀ (as : List qV) (h : qH) (r : Option qV) (h' : qH), f as h = some (r, h') → qle h h'
/-- the contract of a method: what f answers, the machine does -/
def qMet (X : qX) (l : Launch) (k : Nat) (y : MethodName) (bs : ByteArray) (mL : Nat) (rt : Option FieldType) (f : qSem) : Prop :=
  qMono f ∧ ∀ (as : List qV) (h : qH) (r : Option qV) (h' : qH), (∀ v ∈ as, qok v) → f as h = some (r, h') →
    Met l y (qws y bs mL rt) (qrm k h h') (qPre X as h) (qPost X r h') (qn h h') (qs h h') (fun q : Nat => X.1 ≤ q)
theorem qws_good {y : MethodName} {bs : ByteArray} {mL : Nat} {rt : Option FieldType} (hw : Cond.code y bs mL rt ∈ qT) : GoodIn qT (qws y bs mL rt) := by
  intro w h
  rcases List.mem_cons.mp h with rfl | h
  · exact qT_good _ hw
  · exact qT_good _ h
theorem qpre_at {X : qX} {s : State} {H : Heap} {locs : List Loc} {as : List qV} {h : qH} (hK : qK X s) (hB : qB X s s.heap) (hP : qP X h H) (hS : va_S (fun q : Nat => X.1 ≤ q) s.heap H locs) (U : State) (hU : U.heap = H) (hW : s.WarmedH U.vm) : qPre X as h ((as.map (qc X)).toArray) U :=
  ⟨rfl, by rw [hU]; exact hP, qK_move hW hK, by rw [hU]; exact qB_move hW hB hS.1 hS.2.1⟩
section QC
variable {p : Program} {l : Launch} {e : Env} {R : Room} {s : State} {m : MethodId} {args : Array Value} {below : List Frame} {meth : Method} {c : Code} {Q : State → Prop} {H : Heap} {locs : List Loc} {cells slots mc ms : Nat} {lsc : Array Slot} {rest st0 : List Value} {pc : Nat} {X : qX}
theorem qcall {r : Option qV} {h' : qH} {a : Array Value} (hr : va_Run p l e R s m args below meth c H locs cells slots mc ms (F0 m pc lsc st0) rest (qPost X r h' a) (fun q : Nat => X.1 ≤ q)) (hS : va_S (fun q : Nat => X.1 ≤ q) s.heap H locs)
    (kk : ∀ (H1 : Heap) (locs1 : List Loc), (∀ v, r = some v → qok v) → qP X h' H1 → va_S (fun q : Nat => X.1 ≤ q) s.heap H1 locs1 → W p l e R s m args below meth c H1 locs1 (cells + mc) (slots + ms) Q (F0 m (pc + 3) lsc ((r.map (qc X)).toList ++ rest))) : W p l e R s m args below meth c H locs cells slots Q (F0 m pc lsc st0) := by
  intro T hT Xs
  obtain ⟨v, st₀, t, T', L, h0, X', hL, e1, e2, ⟨hv, hP, -, -, ⟨hz, hk⟩, hokr⟩, st⟩ := hr T hT Xs
  cases hv
  rw [h0] at hz hk
  obtain ⟨t2, a1, b1⟩ := kk T'.heap (locs ++ L) hokr (by rw [e1]; exact hP) ⟨Nat.le_trans hS.1 (by rw [e1]; exact hz), fun q h1 h2 => by rw [e1, hk q (Nat.lt_of_lt_of_le h1 hS.1) h2]; exact hS.2.1 q h1 h2, fun q hq => by
    rcases List.mem_append.mp hq with h | h
    · exact hS.2.2 q h
    · exact hL q h⟩ T' rfl X'
  exact ⟨t2, st t2 a1, b1⟩
end QC
theorem qtoList {X : qX} (r : Option qV) : (r.map (qc X)).toList = r.toList.map (qc X) := by cases r <;> rfl
/-- a method called on an object of class ci -/
def qRunV (X : qX) (l : Launch) (K : Nat) (cc : ByteArray) (nL : Nat) (own nm : String) (ins : Nat → Instr) (ix n ci : Nat) (f : qSem) : Prop :=
  qMono f ∧ ∀ (p : Program) (e : Env) (R : Room) (s : State) (m : MethodId) (args : Array Value) (below : List Frame) (meth : Method) (c : Code) (H : Heap) (locs : List Loc) (cells slots pc : Nat) (lsc : Array Slot) (o : Int) (As : List qV) (rest : List Value) (h : qH) (r : Option qV) (h' : qH),
    qCx X p R s m args meth c K cc nL own nm → decode cc pc = .ok (ins ix, 3) → qP X h H → va_S (fun q : Nat => X.1 ≤ q) s.heap H locs → lsc.size = nL → (qty h o).1 = ci → As.length = n → (∀ v ∈ As, qok v) → f (qA o :: As) h = some (r, h') → (rest.map fun v => v.category).sum ≤ 8 → cells + qn h h' ≤ R.cells ∧ slots + qs h h' ≤ R.slots →
    va_Run p l e R s m args below meth c H locs cells slots (qn h h') (qs h h') (F0 m pc lsc ((As.map (qc X)).reverse ++ qr X o :: rest)) rest (qPost X r h' ((qA o :: As).map (qc X)).toArray) (fun q : Nat => X.1 ≤ q)
abbrev qPar (y : MethodName) (n : Nat) : Prop := (parseMethodDescriptor y.desc).map (fun d => d.parameters.length) = some n
theorem qPar_of {y : MethodName} {n : Nat} (h : qPar y n) : ∀ sig, parseMethodDescriptor y.desc = some sig → n = sig.parameters.length := by
  intro sig hs
  have h : (parseMethodDescriptor y.desc).map (fun d => d.parameters.length) = some n := h
  rw [hs] at h
  exact (Option.some.inj h).symm
def qNoMH (y : MethodName) : Prop := y.cls ≠ "java/lang/invoke/MethodHandle" ∧ y.cls ≠ "java/lang/invoke/VarHandle"
theorem qrecv {X : qX} {s : State} {h : qH} {H : Heap} {o : Int} {ci : Nat} {C : String} {T : u_T} {N : Nat} (hK : qK X s) (hP : qP X h H) (hq : (qty h o).1 = ci) (hci : ci < 100) (hc : vwCl[ci]? = some (C, T, N)) : ∃ cell : Cell, H[X.1 + o.toNat]? = some cell ∧ cell.vm.isStatics = false ∧ s.vm.findClass C = some cell.cls := by
  obtain ⟨h0, ht⟩ := qty_get (show qty h o = (ci, (qty h o).2) by rw [← hq]) (by omega)
  have he := qW_get (X := X) ht
  rw [qe_obj hci] at he
  exact va_recv hK.1 hP.2.1 hc he
theorem qrunV {X : qX} {l : Launch} {K : Nat} {cc : ByteArray} {nL : Nat} {own nm : String} {ix n ci k mL : Nat} {C : String} {T : u_T} {N : Nat} {y : MethodName} {bs : ByteArray} {rt : Option FieldType} {f : qSem} (hf : qMet X l k y bs mL rt f) (hk : k + 1 ≤ K) (hm : mL ≤ 41) (hci : ci < 100) (hc : vwCl[ci]? = some (C, T, N))
    (w1 : Cond.methodLink own ix y ∈ qT) (w2 : Cond.instanceMethod y ∈ qT) (w3 : Cond.selects C y y ∈ qT) (w4 : Cond.code y bs mL rt ∈ qT) (w5 : Cond.initialized y.cls ∈ qT) (hy : qNoMH y) (hpar : qPar y n) : qRunV X l K cc nL own nm (fun i => .invokevirtual i) ix n ci f := by
  refine ⟨hf.1, ?_⟩
  intro p e R s m args below meth c H locs cells slots pc lsc o As rest h r h' hx hd hP hS hls hq hn hok hff hcat hR
  obtain ⟨h0, ht⟩ := qty_get (show qty h o = (ci, (qty h o).2) by rw [← hq]) (by omega)
  have g3 := hf.2 (qA o :: As) h r h' (fun v hv => by rcases List.mem_cons.mp hv with rfl | hv; exact trivial; exact hok v hv) hff
  have hts := hx.2.2.2.2.1
  have hfr : (qrm k h h').frames + 1 ≤ R.frames := Nat.le_trans hk hx.2.2.2.2.2.2.2.1
  have hlo : 8 + (mL + 11) + (qrm k h h').locals ≤ R.locals := by
    have := hx.2.2.2.2.2.2.2.2.1
    show 8 + (mL + 11) + 60 * k ≤ R.locals
    omega
  have ea : ((qA o :: As).map (qc X)) = Value.ref (X.1 + o.toNat) :: As.map (qc X) := by rw [List.map_cons]; exact congrArg (· :: _) (qr_of h0)
  have hpre := fun U hU hW => qpre_at (as := qA o :: As) hx.2.2.2.2.2.1 hx.2.2.2.2.2.2.1 hP hS U hU hW
  rw [ea] at hpre ⊢
  rw [qr_of h0]
  exact va_runV (Ts := qT) (C := C) ⟨hx.1, hx.2.1, hx.2.2.1, hx.2.2.2.1, hts⟩ g3 ⟨⟨rfl, rfl, hfr, hlo, pay_in hts (qws_good w4), List.mem_cons_self, hts _ w4, hts _ w5, hy, qPar_of hpar, hts _ w1⟩, hts _ w2, hts _ w3⟩
    ⟨qPre_blind, qrecv hx.2.2.2.2.2.1 hP hq hci hc, hpre⟩ rfl (by rw [List.length_map]; exact hn) hls rfl (by show 2 * 0 + _ ≤ 8; omega) hd hR
/-- the class selects another's method, or the reference names one that is inherited -/
theorem qrunU {X : qX} {l : Launch} {K : Nat} {cc : ByteArray} {nL : Nat} {own nm owner : String} {ix n ci k mL : Nat} {C : String} {T : u_T} {N : Nat} {x y : MethodName} {bs b0 : ByteArray} {m0 : Nat} {rt r0 : Option FieldType} {f : qSem} (hf : qMet X l k y bs mL rt f) (hk : k + 1 ≤ K) (hm : mL ≤ 41) (hci : ci < 100) (hc : vwCl[ci]? = some (C, T, N))
    (w1 : Cond.methodLink own ix x ∈ qT) (w2 : Cond.instanceMethod y ∈ qT) (w3 : Cond.selects C x y ∈ qT) (w4 : Cond.code y bs mL rt ∈ qT) (w5 : Cond.initialized y.cls ∈ qT) (w6 : Cond.sameMethod x.cls owner x.name x.desc ∈ qT) (w7 : Cond.instanceMethod ⟨owner, x.name, x.desc⟩ ∈ qT) (w8 : Cond.code ⟨owner, x.name, x.desc⟩ b0 m0 r0 ∈ qT) (hy : owner ≠ "java/lang/invoke/MethodHandle" ∧ owner ≠ "java/lang/invoke/VarHandle") (hpar : qPar x n) : qRunV X l K cc nL own nm (fun i => .invokevirtual i) ix n ci f := by
  refine ⟨hf.1, ?_⟩
  intro p e R s m args below meth c H locs cells slots pc lsc o As rest h r h' hx hd hP hS hls hq hn hok hff hcat hR
  obtain ⟨h0, ht⟩ := qty_get (show qty h o = (ci, (qty h o).2) by rw [← hq]) (by omega)
  have g3 := hf.2 (qA o :: As) h r h' (fun v hv => by rcases List.mem_cons.mp hv with rfl | hv; exact trivial; exact hok v hv) hff
  have hts := hx.2.2.2.2.1
  have hfr : (qrm k h h').frames + 1 ≤ R.frames := Nat.le_trans hk hx.2.2.2.2.2.2.2.1
  have hlo : 8 + (mL + 11) + (qrm k h h').locals ≤ R.locals := by
    have := hx.2.2.2.2.2.2.2.2.1
    show 8 + (mL + 11) + 60 * k ≤ R.locals
    omega
  have ea : ((qA o :: As).map (qc X)) = Value.ref (X.1 + o.toNat) :: As.map (qc X) := by rw [List.map_cons]; exact congrArg (· :: _) (qr_of h0)
  have hpre := fun U hU hW => qpre_at (as := qA o :: As) hx.2.2.2.2.2.1 hx.2.2.2.2.2.2.1 hP hS U hU hW
  rw [ea] at hpre ⊢
  rw [qr_of h0]
  exact va_runU (Ts := qT) (C := C) (owner := owner) ⟨hx.1, hx.2.1, hx.2.2.1, hx.2.2.2.1, hts⟩ g3 ⟨⟨rfl, rfl, hfr, hlo, pay_in hts (qws_good w4), List.mem_cons_self⟩, hts _ w4, hts _ w5, hy, qPar_of hpar, hts _ w1, hts _ w6, va_Decl.of (hts _ w7) (hts _ w8), hts _ w3, hts _ w2⟩
    ⟨qPre_blind, qrecv hx.2.2.2.2.2.1 hP hq hci hc, hpre⟩ rfl (by rw [List.length_map]; exact hn) hls rfl (by show 2 * 0 + _ ≤ 8; omega) hd hR
/-- super.method(..) -/
theorem qrunSU {X : qX} {l : Launch} {K : Nat} {cc : ByteArray} {nL : Nat} {own nm : String} {ix n ci k mL : Nat} {C : String} {T : u_T} {N : Nat} {y : MethodName} {bs : ByteArray} {rt : Option FieldType} {f : qSem} (hf : qMet X l k y bs mL rt f) (hk : k + 1 ≤ K) (hm : mL ≤ 41) (hci : ci < 100) (hc : vwCl[ci]? = some (C, T, N))
    (w1 : Cond.methodLink own ix y ∈ qT) (w2 : Cond.instanceMethod y ∈ qT) (w3 : Cond.superclass own y.cls ∈ qT) (w4 : Cond.code y bs mL rt ∈ qT) (w5 : Cond.initialized y.cls ∈ qT) (w6 : Cond.sameMethod y.cls y.cls y.name y.desc ∈ qT) (hno : y.name ≠ "<init>") (hpar : qPar y n) : qRunV X l K cc nL own nm (fun i => .invokespecial i) ix n ci f := by
  refine ⟨hf.1, ?_⟩
  intro p e R s m args below meth c H locs cells slots pc lsc o As rest h r h' hx hd hP hS hls hq hn hok hff hcat hR
  obtain ⟨h0, ht⟩ := qty_get (show qty h o = (ci, (qty h o).2) by rw [← hq]) (by omega)
  have g3 := hf.2 (qA o :: As) h r h' (fun v hv => by rcases List.mem_cons.mp hv with rfl | hv; exact trivial; exact hok v hv) hff
  have hts := hx.2.2.2.2.1
  have hfr : (qrm k h h').frames + 1 ≤ R.frames := Nat.le_trans hk hx.2.2.2.2.2.2.2.1
  have hlo : 8 + (mL + 11) + (qrm k h h').locals ≤ R.locals := by
    have := hx.2.2.2.2.2.2.2.2.1
    show 8 + (mL + 11) + 60 * k ≤ R.locals
    omega
  have ea : ((qA o :: As).map (qc X)) = Value.ref (X.1 + o.toNat) :: As.map (qc X) := by rw [List.map_cons]; exact congrArg (· :: _) (qr_of h0)
  have hpre := fun U hU hW => qpre_at (as := qA o :: As) hx.2.2.2.2.2.1 hx.2.2.2.2.2.2.1 hP hS U hU hW
  rw [ea] at hpre ⊢
  rw [qr_of h0]
  exact va_runSU (Ts := qT) (C := C) (hx.2.2.2.2.2.1.1.1 ci _ hc).2 ⟨hx.1, hx.2.1, hx.2.2.1, hx.2.2.2.1, hts⟩ g3 ⟨⟨rfl, rfl, hfr, hlo, pay_in hts (qws_good w4), List.mem_cons_self⟩, hts _ w1, hts _ w6, hts _ w3, hts _ w2, hts _ w5, hts _ w4, hno, qPar_of hpar⟩
    ⟨qPre_blind, qrecv hx.2.2.2.2.2.1 hP hq hci hc, hpre⟩ rfl (by rw [List.length_map]; exact hn) hls rfl (by show 2 * 0 + _ ≤ 8; omega) hd hR
/-- a constructor -/
theorem qrunI {X : qX} {l : Launch} {K : Nat} {cc : ByteArray} {nL : Nat} {own nm : String} {ix n ci k mL : Nat} {y : MethodName} {bs : ByteArray} {f : qSem} (hf : qMet X l k y bs mL none f) (hk : k + 1 ≤ K) (hm : mL ≤ 41) (hci : ci < 100)
    (w1 : Cond.methodLink own ix y ∈ qT) (w2 : Cond.instanceMethod y ∈ qT) (w4 : Cond.code y bs mL none ∈ qT) (w5 : Cond.initialized y.cls ∈ qT) (hy1 : y.name = "<init>") (hy : qNoMH y) (hpar : qPar y n) : qRunV X l K cc nL own nm (fun i => .invokespecial i) ix n ci f := by
  refine ⟨hf.1, ?_⟩
  intro p e R s m args below meth c H locs cells slots pc lsc o As rest h r h' hx hd hP hS hls hq hn hok hff hcat hR
  obtain ⟨h0, ht⟩ := qty_get (show qty h o = (ci, (qty h o).2) by rw [← hq]) (by omega)
  have g3 := hf.2 (qA o :: As) h r h' (fun v hv => by rcases List.mem_cons.mp hv with rfl | hv; exact trivial; exact hok v hv) hff
  have hts := hx.2.2.2.2.1
  have hfr : (qrm k h h').frames + 1 ≤ R.frames := Nat.le_trans hk hx.2.2.2.2.2.2.2.1
  have hlo : 8 + (mL + 11) + (qrm k h h').locals ≤ R.locals := by
    have := hx.2.2.2.2.2.2.2.2.1
    show 8 + (mL + 11) + 60 * k ≤ R.locals
    omega
  have ea : ((qA o :: As).map (qc X)) = Value.ref (X.1 + o.toNat) :: As.map (qc X) := by rw [List.map_cons]; exact congrArg (· :: _) (qr_of h0)
  have hpre := fun U hU hW => qpre_at (as := qA o :: As) hx.2.2.2.2.2.1 hx.2.2.2.2.2.2.1 hP hS U hU hW
  rw [ea] at hpre ⊢
  rw [qr_of h0]
  exact va_runI (Ts := qT) ⟨hx.1, hx.2.1, hx.2.2.1, hx.2.2.2.1, hts⟩ g3 ⟨⟨rfl, rfl, hfr, hlo, pay_in hts (qws_good w4), List.mem_cons_self, hts _ w4, hts _ w5, hy, qPar_of hpar, hts _ w1⟩, hy1, hts _ w2⟩
    ⟨qPre_blind, hpre⟩ rfl (by rw [List.length_map]; exact hn) hls rfl (by show 2 * 0 + _ ≤ 8; omega) hd hR
/-- a nest mate's constructor -/
theorem qrunIN {X : qX} {l : Launch} {K : Nat} {cc : ByteArray} {nL : Nat} {own nm host : String} {ix n ci k mL : Nat} {y : MethodName} {bs : ByteArray} {f : qSem} (hf : qMet X l k y bs mL none f) (hk : k + 1 ≤ K) (hm : mL ≤ 41) (hci : ci < 100)
    (w1 : Cond.methodLinkNest own ix y host ∈ qEx) (w2 : Cond.instanceMethod y ∈ qT) (w4 : Cond.code y bs mL none ∈ qT) (w5 : Cond.initialized y.cls ∈ qT) (hy1 : y.name = "<init>") (hy : qNoMH y) (hpar : qPar y n) : qRunV X l K cc nL own nm (fun i => .invokespecial i) ix n ci f := by
  refine ⟨hf.1, ?_⟩
  intro p e R s m args below meth c H locs cells slots pc lsc o As rest h r h' hx hd hP hS hls hq hn hok hff hcat hR
  obtain ⟨h0, ht⟩ := qty_get (show qty h o = (ci, (qty h o).2) by rw [← hq]) (by omega)
  have g3 := hf.2 (qA o :: As) h r h' (fun v hv => by rcases List.mem_cons.mp hv with rfl | hv; exact trivial; exact hok v hv) hff
  have hts := hx.2.2.2.2.1
  have hfr : (qrm k h h').frames + 1 ≤ R.frames := Nat.le_trans hk hx.2.2.2.2.2.2.2.1
  have hlo : 8 + (mL + 11) + (qrm k h h').locals ≤ R.locals := by
    have := hx.2.2.2.2.2.2.2.2.1
    show 8 + (mL + 11) + 60 * k ≤ R.locals
    omega
  have ea : ((qA o :: As).map (qc X)) = Value.ref (X.1 + o.toNat) :: As.map (qc X) := by rw [List.map_cons]; exact congrArg (· :: _) (qr_of h0)
  have hpre := fun U hU hW => qpre_at (as := qA o :: As) hx.2.2.2.2.2.1 hx.2.2.2.2.2.2.1 hP hS U hU hW
  rw [ea] at hpre ⊢
  rw [qr_of h0]
  exact va_runIN (Ts := qT) (host := host) ⟨hx.1, hx.2.1, hx.2.2.1, hx.2.2.2.1, hts⟩ g3 ⟨⟨⟨rfl, rfl, hfr, hlo, pay_in hts (qws_good w4), List.mem_cons_self⟩, hts _ w4, hts _ w5, hy, qPar_of hpar, va_Nw.use rfl (hx.2.2.2.2.2.1.2 _ w1)⟩, hy1, hts _ w2⟩
    ⟨qPre_blind, hpre⟩ rfl (by rw [List.length_map]; exact hn) hls rfl (by show 2 * 0 + _ ≤ 8; omega) hd hR
/-- which method an object of class ci runs -/
def qsel : List (Nat × qSem) → Nat → Option qSem
  | [], _ => none
  | (k, f) :: r, ci => if ci = k then some f else qsel r ci
theorem qsel_mem {fs : List (Nat × qSem)} {ci : Nat} {f : qSem} (h : qsel fs ci = some f) : (ci, f) ∈ fs := by
  induction fs with
  | nil => cases h
  | cons q r ih =>
    obtain ⟨k, g⟩ := q
    unfold qsel at h
    split at h
    · rename_i e
      cases h
      subst e
      exact List.mem_cons_self
    · exact List.mem_cons_of_mem _ (ih h)
/-- a call on an object; n: its arguments, less the object -/
def qo_callv (fs : List (Nat × qSem)) (n : Nat) : qOp := fun c => match c.2.2.1.drop n with
  | .inr (.inr o) :: rest => if n ≤ c.2.2.1.length ∧ (rest.map qcat).sum ≤ 8 then (match qsel fs (qty c.2.2.2 o).1 with
    | some f => (match f (qA o :: (c.2.2.1.take n).reverse) c.2.2.2 with
      | some (r, h') => .inl (c.1 + 3, c.2.1, r.toList ++ rest, h')
      | none => .inr none)
    | none => .inr none) else .inr none
  | _ => .inr none
theorem qk_callv {X : qX} {l : Launch} {K : Nat} {cc : ByteArray} {nL : Nat} {own nm : String} {rt : Option FieldType} {pc : Nat} {ins : Nat → Instr} {ix n : Nat} {fs : List (Nat × qSem)} (hfs : ∀ q ∈ fs, qRunV X l K cc nL own nm ins ix n q.1 q.2) (hd : decode cc pc = .ok (ins ix, 3)) : qOk X l K cc nL own nm rt pc (qo_callv fs n) := by
  intro ls st h
  unfold qo_callv
  dsimp only
  constructor
  · intro cfg' hcg
    split at hcg
    · rename_i o rest hdrop
      split at hcg
      · rename_i hcnd
        split at hcg
        · rename_i f hsel
          split at hcg
          · rename_i r h' hff
            cases hcg
            have hrun := hfs _ (qsel_mem hsel)
            have hst0 : st = st.take n ++ (qA o :: rest) := by rw [← hdrop, List.take_append_drop]
            have hlen : (st.take n).reverse.length = n := by rw [List.length_reverse, List.length_take]; omega
            have hmono := hrun.1 _ _ _ _ hff
            refine ⟨hmono, ?_⟩
            intro p e R s m args below meth c Q h0 hx hR hle hk H locs lsc hP hS hL hst hle'
            dsimp only at hR hP hL hst hle' ⊢
            have hokA : ∀ v ∈ (st.take n).reverse, qok v := fun v hv => hst v (List.mem_of_mem_take (List.mem_reverse.mp hv))
            have hokR : ∀ v ∈ rest, qok v := fun v hv => hst v (by rw [hst0]; exact List.mem_append_right _ (List.mem_cons_of_mem _ hv))
            have hmn := qn_mono (h0 := h0) hmono
            have e1 : qn h0 h + qn h h' = qn h0 h' := by
              have := hle.1
              have := hmono.1
              unfold qn
              omega
            have e2 : qs h0 h + qs h h' = qs h0 h' := by
              have := hle.2
              have := hmono.2
              unfold qs
              omega
            have g3 := hrun.2 p e R s m args below meth c H locs (qn h0 h) (qs h0 h) pc lsc o (st.take n).reverse (rest.map (qc X)) h r h' hx hd hP hS hL.1 rfl hlen hokA hff (by rw [qcat_sum]; exact hcnd.2) ⟨by rw [e1]; exact hR.1, by rw [e2]; exact hR.2⟩
            have est : st.map (qc X) = ((st.take n).reverse.map (qc X)).reverse ++ qr X o :: rest.map (qc X) := by
              rw [List.map_reverse, List.reverse_reverse]
              calc st.map (qc X) = (st.take n ++ (qA o :: rest)).map (qc X) := by rw [← hst0]
                _ = _ := by rw [List.map_append]; rfl
            rw [est]
            refine qcall g3 hS fun H1 locs1 g2 hP1 hS1 => ?_
            rw [e1, e2, qtoList, ← List.map_append]
            exact hk H1 locs1 lsc hP1 hS1 hL (fun v hv => by
              rcases List.mem_append.mp hv with hv | hv
              · cases r with
                | none => cases hv
                | some w =>
                  rcases List.mem_cons.mp hv with rfl | hv
                  · exact g2 _ rfl
                  · cases hv
              · exact hokR v hv) (qle_tr hle hmono)
          · cases hcg
        · cases hcg
      · cases hcg
    · cases hcg
  · intro r h' hcg
    split at hcg
    · split at hcg
      · split at hcg
        · split at hcg
          · cases hcg
          · cases hcg
        · cases hcg
      · cases hcg
    · cases hcg
def qRunS (X : qX) (l : Launch) (K : Nat) (cc : ByteArray) (nL : Nat) (own nm : String) (ix n : Nat) (f : qSem) : Prop :=
  qMono f ∧ ∀ (p : Program) (e : Env) (R : Room) (s : State) (m : MethodId) (args : Array Value) (below : List Frame) (meth : Method) (c : Code) (H : Heap) (locs : List Loc) (cells slots pc : Nat) (lsc : Array Slot) (As : List qV) (rest : List Value) (h : qH) (r : Option qV) (h' : qH),
    qCx X p R s m args meth c K cc nL own nm → decode cc pc = .ok (.invokestatic ix, 3) → qP X h H → va_S (fun q : Nat => X.1 ≤ q) s.heap H locs → lsc.size = nL → As.length = n → (∀ v ∈ As, qok v) → f As h = some (r, h') → (rest.map fun v => v.category).sum ≤ 8 → cells + qn h h' ≤ R.cells ∧ slots + qs h h' ≤ R.slots →
    va_Run p l e R s m args below meth c H locs cells slots (qn h h') (qs h h') (F0 m pc lsc ((As.map (qc X)).reverse ++ rest)) rest (qPost X r h' (As.map (qc X)).toArray) (fun q : Nat => X.1 ≤ q)
theorem qrunS {X : qX} {l : Launch} {K : Nat} {cc : ByteArray} {nL : Nat} {own nm : String} {ix n k mL : Nat} {y : MethodName} {bs : ByteArray} {rt : Option FieldType} {f : qSem} (hf : qMet X l k y bs mL rt f) (hk : k + 1 ≤ K) (hm : mL ≤ 41)
    (w1 : Cond.methodLink own ix y ∈ qT) (w3 : Cond.static y ∈ qT) (w4 : Cond.code y bs mL rt ∈ qT) (w5 : Cond.initialized y.cls ∈ qT) (hy : qNoMH y) (hpar : qPar y n) : qRunS X l K cc nL own nm ix n f := by
  refine ⟨hf.1, ?_⟩
  intro p e R s m args below meth c H locs cells slots pc lsc As rest h r h' hx hd hP hS hls hn hok hff hcat hR
  have g3 := hf.2 As h r h' hok hff
  have hts := hx.2.2.2.2.1
  have hfr : (qrm k h h').frames + 1 ≤ R.frames := Nat.le_trans hk hx.2.2.2.2.2.2.2.1
  have hlo : 8 + (mL + 11) + (qrm k h h').locals ≤ R.locals := by
    have := hx.2.2.2.2.2.2.2.2.1
    show 8 + (mL + 11) + 60 * k ≤ R.locals
    omega
  have hpre := fun U hU hW => qpre_at (as := As) hx.2.2.2.2.2.1 hx.2.2.2.2.2.2.1 hP hS U hU hW
  exact va_runS (Ts := qT) ⟨hx.1, hx.2.1, hx.2.2.1, hx.2.2.2.1, hts⟩ g3 ⟨⟨rfl, rfl, hfr, hlo, pay_in hts (qws_good w4), List.mem_cons_self, hts _ w4, hts _ w5, hy, qPar_of hpar, hts _ w1⟩, hts _ w3⟩
    ⟨qPre_blind, hpre⟩ rfl (by rw [List.length_map]; exact hn) hls rfl (by show 2 * 0 + _ ≤ 8; omega) hd hR
def qo_calls (f : qSem) (n : Nat) : qOp := fun c => if n ≤ c.2.2.1.length ∧ ((c.2.2.1.drop n).map qcat).sum ≤ 8 then (match f (c.2.2.1.take n).reverse c.2.2.2 with
      | some (r, h') => .inl (c.1 + 3, c.2.1, r.toList ++ c.2.2.1.drop n, h')
      | none => .inr none) else .inr none
theorem qk_calls {X : qX} {l : Launch} {K : Nat} {cc : ByteArray} {nL : Nat} {own nm : String} {rt : Option FieldType} {pc : Nat} {ix n : Nat} {f : qSem} (hrun : qRunS X l K cc nL own nm ix n f) (hd : decode cc pc = .ok (.invokestatic ix, 3)) : qOk X l K cc nL own nm rt pc (qo_calls f n) := by
  intro ls st h
  unfold qo_calls
  dsimp only
  constructor
  · intro cfg' hcg
    split at hcg
    · rename_i hcnd
      split at hcg
      · rename_i r h' hff
        cases hcg
        have hlen : (st.take n).reverse.length = n := by rw [List.length_reverse, List.length_take]; omega
        have hmono := hrun.1 _ _ _ _ hff
        refine ⟨hmono, ?_⟩
        intro p e R s m args below meth c Q h0 hx hR hle hk H locs lsc hP hS hL hst hle'
        dsimp only at hR hP hL hst hle' ⊢
        have hokA : ∀ v ∈ (st.take n).reverse, qok v := fun v hv => hst v (List.mem_of_mem_take (List.mem_reverse.mp hv))
        have hokR : ∀ v ∈ st.drop n, qok v := fun v hv => hst v (List.mem_of_mem_drop hv)
        have e1 : qn h0 h + qn h h' = qn h0 h' := by
          have := hle.1
          have := hmono.1
          unfold qn
          omega
        have e2 : qs h0 h + qs h h' = qs h0 h' := by
          have := hle.2
          have := hmono.2
          unfold qs
          omega
        have g3 := hrun.2 p e R s m args below meth c H locs (qn h0 h) (qs h0 h) pc lsc (st.take n).reverse ((st.drop n).map (qc X)) h r h' hx hd hP hS hL.1 hlen hokA hff (by rw [qcat_sum]; exact hcnd.2) ⟨by rw [e1]; exact hR.1, by rw [e2]; exact hR.2⟩
        have est : st.map (qc X) = ((st.take n).reverse.map (qc X)).reverse ++ (st.drop n).map (qc X) := by
          rw [List.map_reverse, List.reverse_reverse, ← List.map_append, List.take_append_drop]
        rw [est]
        refine qcall g3 hS fun H1 locs1 g2 hP1 hS1 => ?_
        rw [e1, e2, qtoList, ← List.map_append]
        exact hk H1 locs1 lsc hP1 hS1 hL (fun v hv => by
          rcases List.mem_append.mp hv with hv | hv
          · cases r with
            | none => cases hv
            | some w =>
              rcases List.mem_cons.mp hv with rfl | hv
              · exact g2 _ rfl
              · cases hv
          · exact hokR v hv) (qle_tr hle hmono)
      · cases hcg
    · cases hcg
  · intro r h' hcg
    split at hcg
    · split at hcg
      · cases hcg
      · cases hcg
    · cases hcg
/-! returns -/
def qo_ret (rt : Option FieldType) (k : Nat) : qOp := fun c => match k, c.2.2.1 with
  | 0, [] => if qchk rt none = true then .inr (some (none, c.2.2.2)) else .inr none
  | 1, [.inl z] => if qchk rt (some (qI z)) = true then .inr (some (some (qI z), c.2.2.2)) else .inr none
  | 2, [.inr (.inl z)] => if qchk rt (some (qJ z)) = true then .inr (some (some (qJ z), c.2.2.2)) else .inr none
  | 3, [.inr (.inr z)] => if qchk rt (some (qA z)) = true then .inr (some (some (qA z), c.2.2.2)) else .inr none
  | _, _ => .inr none
theorem qk_ret {X : qX} {l : Launch} {K : Nat} {cc : ByteArray} {nL : Nat} {own nm : String} {rt : Option FieldType} {pc : Nat} {k : Nat} {i : Instr} (hd : decode cc pc = .ok (i, 1)) (hk : (k = 0 ∧ i = .return_) ∨ (k = 1 ∧ i = .ireturn) ∨ (k = 2 ∧ i = .lreturn) ∨ (k = 3 ∧ i = .areturn)) : qOk X l K cc nL own nm rt pc (qo_ret rt k) := by
  intro ls st h
  unfold qo_ret
  dsimp only
  constructor
  · intro cfg' hcg
    split at hcg <;> (first | (split at hcg <;> cases hcg) | cases hcg)
  · intro r h' hcg
    have fin : ∀ (r : Option qV), qri r i → st = r.toList → qchk rt r = true → ∀ (p : Program) (e : Env) (R : Room) (s : State) (m : MethodId) (args : Array Value) (below : List Frame) (meth : Method) (c : Code) (Q : State → Prop) (h0 : qH), qCx X p R s m args meth c K cc nL own nm → qle h0 h →
        qRt X p l e R s m args below meth c Q cc rt h0 r h → qSim X p l e R s m args below meth c Q nL h0 (pc, ls, st, h) := by
      intro r hi hs hc p e R s m args below meth c Q h0 hx hle hrt H locs lsc hP hS hL hst hle'
      dsimp only at hP hst ⊢
      subst hs
      exact hrt hc (fun v hv => hst v (by rw [hv]; exact List.mem_cons_self)) pc i H locs lsc hd hi hP hS hle
    split at hcg
    · split at hcg
      · rename_i hc
        cases hcg
        exact ⟨qle_rf _, fin none (by rcases hk with q | q | q | q <;> first | exact q.2 | (exact absurd q.1 (by decide))) rfl hc⟩
      · cases hcg
    · split at hcg
      · rename_i hc
        cases hcg
        exact ⟨qle_rf _, fin (some (qI _)) (by rcases hk with q | q | q | q <;> first | exact q.2 | (exact absurd q.1 (by decide))) rfl hc⟩
      · cases hcg
    · split at hcg
      · rename_i hc
        cases hcg
        exact ⟨qle_rf _, fin (some (qJ _)) (by rcases hk with q | q | q | q <;> first | exact q.2 | (exact absurd q.1 (by decide))) rfl hc⟩
      · cases hcg
    · split at hcg
      · rename_i hc
        cases hcg
        exact ⟨qle_rf _, fin (some (qA _)) (by rcases hk with q | q | q | q <;> first | exact q.2 | (exact absurd q.1 (by decide))) rfl hc⟩
      · cases hcg
    · cases hcg
