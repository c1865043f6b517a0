/-! STANDING FACTS, SIMULATION, RUNS -/
def qtys (X : qX) : List (ClassId × FieldType) := [(X.2.2.2 100, .int), (X.2.2.2 101, .byte), (X.2.2.2 102, .boolean), (X.2.2.2 103, .long), (X.2.2.2 104, .object RX4), (X.2.2.2 105, .object RX3), (X.2.2.2 106, .array .long)]
def qT : List Cond := lw_tbl.filter goodWord
theorem qT_good : GoodIn qT qT := fun w h => ⟨h, good_of_word (List.mem_filter.mp h).2⟩
theorem qT_in {w : Cond} (i : Nat) (h : lw_tbl[i]? = some w) (hg : goodWord w = true) : w ∈ qT := List.mem_filter.mpr ⟨List.mem_of_getElem? h, hg⟩
theorem qT_mem {w : Cond} (h : w ∈ lw_tbl) (hg : goodWord w = true) : w ∈ qT := List.mem_filter.mpr ⟨h, hg⟩
/-- words that the kit keeps apart: nest mates' constructors, arrays of references, what is a Person -/
def qExW : Cond → Bool
  | .methodLinkNest _ _ _ _ => true
  | .arrayOver _ => true
  | .castable _ _ => true
  | _ => false
def qEx : List Cond := lw_tbl.filter qExW
theorem qEx_in {w : Cond} (i : Nat) (h : lw_tbl[i]? = some w) (hg : qExW w = true) : w ∈ qEx := List.mem_filter.mpr ⟨List.mem_of_getElem? h, hg⟩
def qK (X : qX) (U : State) : Prop := va_K X.2.2.1 vwCl (qtys X) U ∧ ∀ w ∈ qEx, va_Nw w U
def qFi (vm : Vm) (comp : ClassId) : Option Nat := vm.classes.findIdx? fun (x : Class) => match x.kind with | .array component _ => component == comp | _ => false
def qFv (vm : Vm) (t : FieldType) (c : Nat) : Option Bool := (vm.classes[c]?).map fun (k : Class) => match k.kind with
  | .array _ ty => decide (ty = .array t) && decide (vm.findClass ("[" ++ (FieldType.array t).toString) = some c)
  | _ => false
theorem qAO_val {t : FieldType} {A : Array Value} {U : State} : (Cond.arrayOver (.array t)).before A U = (((U.vm.findClass (FieldType.array t).toString).bind fun comp => (qFi U.vm comp).bind fun c => qFv U.vm t c) == some true) := rfl
theorem qFi_move {vm vm' : Vm} (h : vm.Alike vm') (comp : ClassId) : qFi vm' comp = qFi vm comp := by
  have h1 : qFi vm'.bare comp = qFi vm' comp := va_idx_bare vm' comp
  have h2 : qFi vm.bare comp = qFi vm comp := va_idx_bare vm comp
  rw [← h1, ← h2]
  first | rw [h.bare_eq] | rw [← h.bare_eq]
theorem qFv_move {vm vm' : Vm} (h : vm.Alike vm') {t : FieldType} {c : Nat} (hv : qFv vm t c = some true) : qFv vm' t c = some true := by
  unfold qFv at hv ⊢
  cases hk : vm.classes[c]? with
  | none => rw [hk] at hv; cases hv
  | some k =>
    obtain ⟨k', hk', he⟩ := h.2.2 _ _ hk
    have hkind : k'.kind = k.kind := by rw [he]
    rw [hk] at hv
    rw [hk']
    simp only [Option.map_some, hkind, h.findClass] at hv ⊢
    exact hv
theorem qAO_move {ty : FieldType} {u U : State} (hvm : u.vm.Alike U.vm) (h : (Cond.arrayOver ty).before #[] u = true) : (Cond.arrayOver ty).before #[] U = true := by
  cases ty with
  | object n => exact va_AO.moved hvm h
  | array t =>
    rw [qAO_val] at h ⊢
    rw [hvm.findClass]
    cases hc : u.vm.findClass (FieldType.array t).toString with
    | none => rw [hc] at h; cases h
    | some comp =>
      rw [hc] at h
      rw [Option.bind_some] at h ⊢
      rw [qFi_move hvm]
      cases hx : qFi u.vm comp with
      | none => rw [hx] at h; cases h
      | some c =>
        rw [hx, Option.bind_some] at h
        rw [Option.bind_some, qFv_move hvm (by simpa using h)]
        rfl
  | _ => cases h
theorem qEx_move {w : Cond} (hw : qExW w = true) {s U : State} (hW : s.WarmedH U.vm) (h : va_Nw w s) : va_Nw w U := by
  cases w with
  | methodLinkNest a b d f => exact va_Nw.warmM hW h
  | castable a b => exact va_Nw.warmC hW h
  | arrayOver ty => exact qAO_move hW.alike h
  | _ => cases hw
theorem qEx_same {w : Cond} (hw : qExW w = true) {u U : State} (hv : u.vm = U.vm) (h : va_Nw w u) : va_Nw w U := by
  cases w with
  | methodLinkNest a b d f => exact va_Nw.same rfl hv h
  | castable a b => exact va_Nw.same rfl hv h
  | arrayOver ty => exact qAO_move (by rw [hv]; exact Vm.Alike.refl _) h
  | _ => cases hw
theorem qK_move {X : qX} {s U : State} (hW : s.WarmedH U.vm) (h : qK X s) : qK X U := ⟨va_K.moved hW.alike h.1, fun w hw => qEx_move (List.mem_filter.mp hw).2 hW (h.2 w hw)⟩
theorem qK_same {X : qX} {u U : State} (hv : u.vm = U.vm) (h : qK X u) : qK X U := ⟨va_K.moved (by rw [hv]; exact Vm.Alike.refl _) h.1, fun w hw => qEx_same (List.mem_filter.mp hw).2 hv (h.2 w hw)⟩
/-- what lies below base and is read: the table of kinds, the words' texts -/
def qSL : List Nat := [5, 5, 4, 4, 0]
def qSB : List (List Int32) := [[98, 114, 105, 115, 107], [115, 108, 97, 99, 107], [104, 101, 97, 112], [112, 111, 115, 116], []]
def qST : List (Nat × String) := [(99, "brisk"), (101, "slack"), (103, "heap"), (105, "post"), (106, "")]
def qKT : List Int := [-1, 0, 0, 0, 1, 2, 3]
def qBs (X : qX) (adK adV : Nat → Nat) (U : State) (H : Heap) : Prop :=
  (∀ i : Nat, i < 5 → X.2.1 (-2 - i) = some (adK i) ∧ X.2.1 (-20 - i) = some (adV i)) ∧ vk_S 5 qSL qSB adK adV (fun q : Nat => X.1 ≤ q) U H ∧ ∀ (i : Nat) (q : Nat × String), qST[i]? = some q → vk_R RX3 q.1 q.2 (adK i) U
def qB (X : qX) (U : State) (H : Heap) : Prop := X.1 ≤ H.size ∧ (∃ adK adV : Nat → Nat, qBs X adK adV U H) ∧
  va_Z "java/lang/String" "COMPACT_STRINGS" "Z" (.int 1) (fun q : Nat => X.1 ≤ q) U H ∧ va_Z "jdk/internal/util/Preconditions" "SIOOBE_FORMATTER" "Ljava/util/function/BiFunction;" (qr X (-12)) (fun q : Nat => X.1 ≤ q) U H ∧
  va_Z RX11 "KIND_ABOVE" "[I" (qr X (-11)) (fun q : Nat => X.1 ≤ q) U H ∧ ∃ t : Nat, X.2.1 (-11) = some t ∧ va_T .int t 7 (fun j => .int (Int32.ofInt (qKT.getD j 0))) (fun q : Nat => X.1 ≤ q) U H
/-- the locals -/
def qL (X : qX) (nL : Nat) (ls : qLs) (lsc : Array Slot) : Prop := lsc.size = nL ∧ lv_wf lsc ∧ ls.length = nL ∧ ∀ (i : Nat) (v : qV), ls[i]? = some (some v) → qok v ∧ lsc[i]? = some (.val (qc X v))
section QS
variable {p : Program} {l : Launch} {e : Env} {R : Room} {s : State} {m : MethodId} {args : Array Value} {below : List Frame} {meth : Method} {c : Code} {Q : State → Prop}
def qCx (X : qX) (p : Program) (R : Room) (s : State) (m : MethodId) (args : Array Value) (meth : Method) (c : Code) (K : Nat) (cc : ByteArray) (nL : Nat) (own nm : String) : Prop :=
  p.tables.exec = Jvm.exec ∧ c.code = cc ∧ c.maxLocals = nL ∧ s.vm.findClass own = some m.cls ∧ (∀ w ∈ qT, w.before args s = true) ∧ qK X s ∧ qB X s s.heap ∧ K ≤ R.frames ∧ 60 * K ≤ R.locals ∧ meth.name = nm
def qSim (X : qX) (p : Program) (l : Launch) (e : Env) (R : Room) (s : State) (m : MethodId) (args : Array Value) (below : List Frame) (meth : Method) (c : Code) (Q : State → Prop) (nL : Nat) (h0 : qH) (cfg : qCfg) : Prop :=
  ∀ (H : Heap) (locs : List Loc) (lsc : Array Slot), qP X cfg.2.2.2 H → va_S (fun q : Nat => X.1 ≤ q) s.heap H locs → qL X nL cfg.2.1 lsc → (∀ v ∈ cfg.2.2.1, qok v) → qle h0 cfg.2.2.2 →
    W p l e R s m args below meth c H locs (qn h0 cfg.2.2.2) (qs h0 cfg.2.2.2) Q (F0 m cfg.1 lsc (cfg.2.2.1.map (qc X)))
/-- how a method ends with r -/
def qri (r : Option qV) (i : Instr) : Prop := match r with
  | none => i = .return_
  | some (.inl _) => i = .ireturn
  | some (.inr (.inl _)) => i = .lreturn
  | some (.inr (.inr _)) => i = .areturn
/-- an answer fits its type -/
def qchk : Option FieldType → Option qV → Bool
  | none, none => true
  | some .int, some (.inl _) => true
  | some .boolean, some (.inl z) => z == 0 || z == 1
  | some .char, some (.inl z) => decide (0 ≤ z ∧ z ≤ 65535)
  | some .byte, some (.inl z) => decide (-128 ≤ z ∧ z ≤ 127)
  | some .long, some (.inr (.inl _)) => true
  | some (.object _), some (.inr (.inr _)) => true
  | _, _ => false
def qRt (X : qX) (p : Program) (l : Launch) (e : Env) (R : Room) (s : State) (m : MethodId) (args : Array Value) (below : List Frame) (meth : Method) (c : Code) (Q : State → Prop) (cc : ByteArray) (rt : Option FieldType) (h0 : qH) (r : Option qV) (h : qH) : Prop :=
  qchk rt r = true → (∀ v, r = some v → qok v) → ∀ (pc : Nat) (i : Instr) (H : Heap) (locs : List Loc) (lsc : Array Slot), decode cc pc = .ok (i, 1) → qri r i → qP X h H → va_S (fun q : Nat => X.1 ≤ q) s.heap H locs → qle h0 h →
    W p l e R s m args below meth c H locs (qn h0 h) (qs h0 h) Q (F0 m pc lsc (r.toList.map (qc X)))
/-- an operation says what the machine does at pc -/
def qOk (X : qX) (l : Launch) (K : Nat) (cc : ByteArray) (nL : Nat) (own nm : String) (rt : Option FieldType) (pc : Nat) (op : qOp) : Prop :=
  ∀ (ls : qLs) (st : List qV) (h : qH),
    (∀ cfg', op (pc, ls, st, h) = .inl cfg' → qle h cfg'.2.2.2 ∧
      ∀ (p : Program) (e : Env) (R : Room) (s : State) (m : MethodId) (args : Array Value) (below : List Frame) (meth : Method) (c : Code) (Q : State → Prop) (h0 : qH),
        qCx X p R s m args meth c K cc nL own nm → qn h0 cfg'.2.2.2 ≤ R.cells ∧ qs h0 cfg'.2.2.2 ≤ R.slots → qle h0 h →
        qSim X p l e R s m args below meth c Q nL h0 cfg' → qSim X p l e R s m args below meth c Q nL h0 (pc, ls, st, h)) ∧
    (∀ r h', op (pc, ls, st, h) = .inr (some (r, h')) → qle h h' ∧
      ∀ (p : Program) (e : Env) (R : Room) (s : State) (m : MethodId) (args : Array Value) (below : List Frame) (meth : Method) (c : Code) (Q : State → Prop) (h0 : qH),
        qCx X p R s m args meth c K cc nL own nm → qle h0 h →
        qRt X p l e R s m args below meth c Q cc rt h0 r h' → qSim X p l e R s m args below meth c Q nL h0 (pc, ls, st, h))
end QS
def qft (C : List (Nat × qOp)) (pc : Nat) : Option qOp := match C with
  | [] => none
  | q :: r => if q.1 = pc then some q.2 else qft r pc
def qst (C : List (Nat × qOp)) (cfg : qCfg) : qCfg ⊕ qRes := match qft C cfg.1 with
  | some op => op cfg
  | none => .inr none
def qrun (C : List (Nat × qOp)) : Nat → qCfg → qRes
  | 0, _ => none
  | n + 1, cfg => match qst C cfg with
    | .inl cfg' => qrun C n cfg'
    | .inr r => r
theorem qft_mem {C : List (Nat × qOp)} {pc : Nat} {op : qOp} (h : qft C pc = some op) : (pc, op) ∈ C := by
  induction C with
  | nil => cases h
  | cons q r ih =>
    unfold qft at h
    split at h
    · rename_i e
      cases h
      subst e
      exact List.mem_cons_self
    · exact List.mem_cons_of_mem _ (ih h)
theorem qrun_succ {C : List (Nat × qOp)} {n : Nat} {cfg : qCfg} : qrun C (n + 1) cfg = match qst C cfg with
    | .inl cfg' => qrun C n cfg'
    | .inr r => r := rfl
theorem qrun_mono {C : List (Nat × qOp)} {n : Nat} : ∀ {cfg : qCfg} {x : Option qV × qH}, qrun C n cfg = some x → ∀ k, n ≤ k → qrun C k cfg = some x := by
  induction n with
  | zero => intro cfg x h; cases h
  | succ n ih =>
    intro cfg x h k hk
    obtain ⟨j, rfl⟩ : ∃ j, k = j + 1 := ⟨k - 1, by omega⟩
    rw [qrun_succ] at h ⊢
    cases hs : qst C cfg with
    | inl cfg' => rw [hs] at h; exact ih h j (by omega)
    | inr r => rw [hs] at h; exact h
theorem qlim_ex (C : List (Nat × qOp)) (cfg : qCfg) : ∃ o : qRes, ∀ x, o = some x ↔ ∃ n, qrun C n cfg = some x := by
  by_cases hh : ∃ x n, qrun C n cfg = some x
  · obtain ⟨x, n, h⟩ := hh
    refine ⟨some x, fun y => ⟨fun e => ⟨n, by rw [h, e]⟩, fun ⟨k, hk⟩ => ?_⟩⟩
    have h1 := qrun_mono h (max n k) (Nat.le_max_left _ _)
    have h2 := qrun_mono hk (max n k) (Nat.le_max_right _ _)
    rw [← h1, h2]
  · exact ⟨none, fun y => ⟨fun e => (by cases e), fun ⟨k, hk⟩ => absurd ⟨y, k, hk⟩ hh⟩⟩
noncomputable def qlim (C : List (Nat × qOp)) (cfg : qCfg) : qRes := Classical.choose (qlim_ex C cfg)
theorem qlim_iff {C : List (Nat × qOp)} {cfg : qCfg} {x : Option qV × qH} : qlim C cfg = some x ↔ ∃ n, qrun C n cfg = some x := Classical.choose_spec (qlim_ex C cfg) x
theorem qlim_ext {C : List (Nat × qOp)} {cfg : qCfg} {o : qRes} (h : ∀ x, o = some x ↔ ∃ n, qrun C n cfg = some x) : qlim C cfg = o := by
  cases ho : o with
  | some x => exact qlim_iff.mpr ((h x).mp ho)
  | none =>
    cases hl : qlim C cfg with
    | none => rfl
    | some y =>
      have := (h y).mpr (qlim_iff.mp hl)
      rw [ho] at this
      cases this
theorem qlim_eq (C : List (Nat × qOp)) (cfg : qCfg) : qlim C cfg = match qst C cfg with
    | .inl cfg' => qlim C cfg'
    | .inr r => r := by
  apply qlim_ext
  intro x
  cases hs : qst C cfg with
  | inl cfg' =>
    show qlim C cfg' = some x ↔ _
    rw [qlim_iff]
    constructor
    · rintro ⟨n, h⟩
      exact ⟨n + 1, by rw [qrun_succ, hs]; exact h⟩
    · rintro ⟨n, h⟩
      cases n with
      | zero => cases h
      | succ n => rw [qrun_succ, hs] at h; exact ⟨n, h⟩
  | inr r =>
    show r = some x ↔ _
    constructor
    · intro h
      exact ⟨1, by rw [qrun_succ, hs]; exact h⟩
    · rintro ⟨n, h⟩
      cases n with
      | zero => cases h
      | succ n => rw [qrun_succ, hs] at h; exact h
/-- one step, by rfl -/
theorem qlim_s {C : List (Nat × qOp)} {cfg cfg' : qCfg} (h : qst C cfg = .inl cfg') : qlim C cfg = qlim C cfg' := by rw [qlim_eq, h]
theorem qlim_r {C : List (Nat × qOp)} {cfg : qCfg} {r : qRes} (h : qst C cfg = .inr r) : qlim C cfg = r := by rw [qlim_eq, h]
theorem qn_mono {h0 h h' : qH} (hl : qle h h') : qn h0 h ≤ qn h0 h' ∧ qs h0 h ≤ qs h0 h' := by
  unfold qn qs
  have := hl.1
  have := hl.2
  omega
section QR
variable {p : Program} {l : Launch} {e : Env} {R : Room} {s : State} {m : MethodId} {args : Array Value} {below : List Frame} {meth : Method} {c : Code} {Q : State → Prop}
/-- growth along a run -/
theorem qrun_le {X : qX} {K : Nat} {cc : ByteArray} {nL : Nat} {own nm : String} {rt : Option FieldType} {C : List (Nat × qOp)} (hC : ∀ q ∈ C, qOk X l K cc nL own nm rt q.1 q.2) {n : Nat} : ∀ {cfg : qCfg} {r : Option qV} {h' : qH}, qrun C n cfg = some (r, h') → qle cfg.2.2.2 h' := by
  induction n with
  | zero => intro cfg r h' h; cases h
  | succ n ih =>
    intro cfg r h' h
    rw [qrun_succ] at h
    obtain ⟨pc, ls, st, hh⟩ := cfg
    cases hs : qst C (pc, ls, st, hh) with
    | inl cfg' =>
      rw [hs] at h
      have h2 := ih h
      unfold qst at hs
      cases hf : qft C pc with
      | none => rw [hf] at hs; cases hs
      | some op =>
        rw [hf] at hs
        exact qle_tr ((hC _ (qft_mem hf) ls st hh).1 cfg' hs).1 h2
    | inr r' =>
      rw [hs] at h
      have h : r' = some (r, h') := h
      subst h
      unfold qst at hs
      cases hf : qft C pc with
      | none => rw [hf] at hs; cases hs
      | some op =>
        rw [hf] at hs
        exact ((hC _ (qft_mem hf) ls st hh).2 r h' hs).1
theorem qrun_sim {X : qX} {K : Nat} {cc : ByteArray} {nL : Nat} {own nm : String} {rt : Option FieldType} {C : List (Nat × qOp)} (hC : ∀ q ∈ C, qOk X l K cc nL own nm rt q.1 q.2) {h0 : qH} (hcx : qCx X p R s m args meth c K cc nL own nm) {r : Option qV} {h' : qH} (hR : qn h0 h' ≤ R.cells ∧ qs h0 h' ≤ R.slots) (hrt : qRt X p l e R s m args below meth c Q cc rt h0 r h') {n : Nat} :
    ∀ {cfg : qCfg}, qle h0 cfg.2.2.2 → qrun C n cfg = some (r, h') → qSim X p l e R s m args below meth c Q nL h0 cfg := by
  induction n with
  | zero => intro cfg hl h; cases h
  | succ n ih =>
    intro cfg hl h
    rw [qrun_succ] at h
    obtain ⟨pc, ls, st, hh⟩ := cfg
    cases hs : qst C (pc, ls, st, hh) with
    | inl cfg' =>
      rw [hs] at h
      have h2 := qrun_le hC h
      unfold qst at hs
      cases hf : qft C pc with
      | none => rw [hf] at hs; cases hs
      | some op =>
        rw [hf] at hs
        obtain ⟨g1, g2⟩ := (hC _ (qft_mem hf) ls st hh).1 cfg' hs
        have hm := qn_mono (h0 := h0) h2
        exact g2 p e R s m args below meth c Q h0 hcx ⟨Nat.le_trans hm.1 hR.1, Nat.le_trans hm.2 hR.2⟩ hl (ih (qle_tr hl g1) h)
    | inr r' =>
      rw [hs] at h
      have h : r' = some (r, h') := h
      subst h
      unfold qst at hs
      cases hf : qft C pc with
      | none => rw [hf] at hs; cases hs
      | some op =>
        rw [hf] at hs
        exact ((hC _ (qft_mem hf) ls st hh).2 r h' hs).2 p e R s m args below meth c Q h0 hcx hl hrt
end QR
