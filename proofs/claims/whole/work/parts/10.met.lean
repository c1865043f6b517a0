/-! A METHOD'S CONTRACT OUT OF ITS OPERATIONS -/
def qent : List qV → qLs
  | [] => []
  | v :: r => if qcat v = 2 then some v :: none :: qent r else some v :: qent r
def qpad (n : Nat) (ls : qLs) : qLs := ls ++ List.replicate (n - ls.length) none
theorem qent_args {X : qX} : ∀ (as : List qV) (i off : Nat) (v : qV), (qent as)[i]? = some (some v) → (off + i, qc X v) ∈ lv_args off (as.map (qc X))
  | [], i, off, v, h => by simp [qent] at h
  | w :: r, i, off, v, h => by
    unfold qent at h
    rw [List.map_cons]
    unfold lv_args
    rw [qcat_c]
    by_cases hc : qcat w = 2
    · rw [if_pos hc] at h ⊢
      match i, h with
      | 0, h =>
        cases h
        exact List.mem_cons_self
      | 1, h => cases h
      | i + 2, h =>
        have h1 := qent_args (X := X) r i (off + 2) v h
        rw [show off + 2 + i = off + (i + 2) by omega] at h1
        exact List.mem_cons_of_mem _ h1
    · rw [if_neg hc] at h ⊢
      match i, h with
      | 0, h =>
        cases h
        exact List.mem_cons_self
      | i + 1, h =>
        have h1 := qent_args (X := X) r i (off + 1) v h
        rw [show off + 1 + i = off + (i + 1) by omega] at h1
        exact List.mem_cons_of_mem _ h1
theorem qent_mem : ∀ (as : List qV) (v : qV), some v ∈ qent as → v ∈ as
  | [], v, h => by cases h
  | w :: r, v, h => by
    unfold qent at h
    split at h
    · rcases List.mem_cons.mp h with h | h
      · cases h; exact List.mem_cons_self
      · rcases List.mem_cons.mp h with h | h
        · cases h
        · exact List.mem_cons_of_mem _ (qent_mem r v h)
    · rcases List.mem_cons.mp h with h | h
      · cases h; exact List.mem_cons_self
      · exact List.mem_cons_of_mem _ (qent_mem r v h)
theorem qent_len {X : qX} : ∀ as : List qV, (lg_sl (as.map (qc X))).length = (qent as).length
  | [] => rfl
  | w :: r => by
    have ih := qent_len (X := X) r
    unfold lg_sl at ih ⊢
    unfold qent
    rw [List.map_cons, List.flatMap_cons, List.length_append, ih, qcat_c]
    split
    · simp; omega
    · simp; omega
theorem qpad_len {n : Nat} {ls : qLs} (h : ls.length ≤ n) : (qpad n ls).length = n := by
  unfold qpad
  rw [List.length_append, List.length_replicate]
  omega
theorem qpad_get {n i : Nat} {ls : qLs} {v : qV} (h : (qpad n ls)[i]? = some (some v)) : ls[i]? = some (some v) := by
  unfold qpad at h
  by_cases hi : i < ls.length
  · rw [List.getElem?_append_left hi] at h
    exact h
  · rw [List.getElem?_append_right (by omega)] at h
    rw [List.getElem?_replicate] at h
    split at h <;> cases h
theorem qL_entry {X : qX} {nL : Nat} {as : List qV} (hl : (qent as).length ≤ nL) (hok : ∀ v ∈ as, qok v) :
    qL X nL (qpad nL (qent as)) ((lg_sl (as.map (qc X)) ++ List.replicate (nL - (lg_sl (as.map (qc X))).length) Slot.unset).toArray) := by
  have h := lv_entry (as.map (qc X)) (n := nL) (by rw [qent_len]; exact hl)
  refine ⟨h.1, h.2.1, qpad_len hl, fun i v hv => ?_⟩
  have hv := qpad_get hv
  have h1 := qent_args (X := X) as i 0 v hv
  rw [Nat.zero_add] at h1
  exact ⟨hok v (qent_mem as v (List.mem_of_getElem? hv)), h.2.2 _ h1⟩
/-- what a list of operations answers -/
noncomputable def qM (nL : Nat) (C : List (Nat × qOp)) : qSem := fun as h => if (qent as).length ≤ nL then qlim C (0, qpad nL (qent as), [], h) else none
theorem qM_mono {X : qX} {l : Launch} {K : Nat} {cc : ByteArray} {nL : Nat} {own nm : String} {rt : Option FieldType} {C : List (Nat × qOp)} (hC : ∀ q ∈ C, qOk X l K cc nL own nm rt q.1 q.2) : qMono (qM nL C) := by
  intro as h r h' hf
  unfold qM at hf
  split at hf
  · obtain ⟨n, hn⟩ := qlim_iff.mp hf
    exact qrun_le hC hn
  · cases hf
theorem qchk_n {rt : Option FieldType} (h : qchk rt none = true) : rt = none := by
  cases rt with
  | none => rfl
  | some t => cases t <;> cases h
theorem qnarC {z : Int} (h : 0 ≤ z ∧ z ≤ 65535) : narrow .char (.int (Int32.ofInt z)) = .int (Int32.ofInt z) := by
  show Value.int (Int32.ofInt z).toUInt32.toUInt16.toUInt32.toInt32 = _
  obtain ⟨n, rfl⟩ := Int.eq_ofNat_of_zero_le h.1
  congr 1
  apply Int32.toBitVec_inj.mp
  show ((BitVec.ofInt 32 (n : Int)).setWidth 16).setWidth 32 = BitVec.ofInt 32 (n : Int)
  rw [BitVec.ofInt_natCast]
  apply BitVec.eq_of_toNat_eq
  rw [BitVec.toNat_setWidth, BitVec.toNat_setWidth, BitVec.toNat_ofNat]
  omega
theorem qchk_i {rt : Option FieldType} {z : Int} (h : qchk rt (some (.inl z)) = true) : rt = some .int ∨ ∃ ty, rt = some ty ∧ narrow ty (.int (Int32.ofInt z)) = .int (Int32.ofInt z) := by
  cases rt with
  | none => cases h
  | some t =>
    cases t with
    | int => exact Or.inl rfl
    | boolean =>
      have h : (z == 0 || z == 1) = true := h
      have h : z = 0 ∨ z = 1 := by simpa using h
      exact Or.inr ⟨_, rfl, by rcases h with rfl | rfl <;> rfl⟩
    | char =>
      have h : decide (0 ≤ z ∧ z ≤ 65535) = true := h
      have h : 0 ≤ z ∧ z ≤ 65535 := by simpa using h
      exact Or.inr ⟨_, rfl, qnarC h⟩
    | byte =>
      have h : decide (-128 ≤ z ∧ z ≤ 127) = true := h
      have h : -128 ≤ z ∧ z ≤ 127 := by simpa using h
      exact Or.inr ⟨_, rfl, qnarB h⟩
    | _ => cases h
theorem qchk_l {rt : Option FieldType} {z : Int} (h : qchk rt (some (.inr (.inl z))) = true) : rt = some .long := by
  cases rt with
  | none => cases h
  | some t =>
    cases t with
    | long => rfl
    | _ => cases h
theorem qchk_a {rt : Option FieldType} {z : Int} (h : qchk rt (some (.inr (.inr z))) = true) : ∃ C2, rt = some (.object C2) := by
  cases rt with
  | none => cases h
  | some t =>
    cases t with
    | object C2 => exact ⟨C2, rfl⟩
    | _ => cases h
theorem qmet_of {X : qX} {l : Launch} {K : Nat} {cc : ByteArray} {nL : Nat} {own nm : String} {rt : Option FieldType} {C : List (Nat × qOp)} {y : MethodName} (hC : ∀ q ∈ C, qOk X l K cc nL own nm rt q.1 q.2) (hy : plainName y.cls = true) (e1 : y.cls = own) (e2 : y.name = nm) : qMet X l K y cc nL rt (qM nL C) := by
  refine ⟨qM_mono hC, fun as h r h' hok hf => ?_⟩
  unfold qM at hf
  split at hf
  case isFalse => cases hf
  rename_i hlen
  obtain ⟨n, hn⟩ := qlim_iff.mp hf
  refine Met.ofW (cc := cc) (maxL := nL) (ret := rt) hy rfl ?_
  intro p e s m args below meth c s₁ B hml hv
  obtain ⟨rfl, hP, hK, hB⟩ := hv
  have hts := atoms_spec (ws := qws y cc nL rt) B.pre
  have hown : s.vm.findClass own = some m.cls := e1 ▸ findClass_of_methodNamed B.named
  have hname : meth.name = nm := e2 ▸ (name_of_methodNamed B.named B.method).1
  have hx : qCx X p (headSpec (qws y cc nL rt) (qrm K h h')).room s m ((as.map (qc X)).toArray) meth c K cc nL own nm :=
    ⟨B.exec, B.bytes, hml, hown, fun w hw => hts w (List.mem_cons_of_mem _ hw), hK, hB, Nat.le_refl _, Nat.le_refl _, hname⟩
  have hS : va_S (fun q : Nat => X.1 ≤ q) s.heap s.heap [] := va_S.rf
  have hlocks := B.notSynchronized
  have hr := B.returns
  have hrt : qRt X p l e (headSpec (qws y cc nL rt) (qrm K h h')).room s m ((as.map (qc X)).toArray) below meth c (MQ below (qPost X r h') ((as.map (qc X)).toArray) s (qn h h') (qs h h') (fun q : Nat => X.1 ≤ q)) cc rt h r h' := by
    intro hchk hokr pc i H locs lsc hd hi hP1 hS1 hle
    have post : ∀ t : State, t.heap = H → s.WarmedH t.vm → qPost X r h' ((as.map (qc X)).toArray) s (.returned (r.map (qc X))) t := fun t ht hW =>
      ⟨rfl, by rw [ht]; exact hP1, qK_move hW hK, by rw [ht]; exact qB_move hW hB hS1.1 hS1.2.1, hS1.F ht, hokr⟩
    rcases r with _ | (z | z | z)
    · have e3 := qchk_n hchk
      rw [e3] at hr
      have hi : i = .return_ := hi
      subst hi
      exact W.vret B.exec B.bytes hr post hS1.2.2 hd hlocks
    · have hi : i = .ireturn := hi
      subst hi
      rcases qchk_i hchk with e3 | ⟨ty, e3, hz⟩
      · rw [e3] at hr
        exact W.iret B.exec B.bytes hr post hS1.2.2 hd hlocks
      · rw [e3] at hr
        exact W.zret B.exec B.bytes hr hz post hS1.2.2 hd hlocks
    · have e3 := qchk_l hchk
      rw [e3] at hr
      have hi : i = .lreturn := hi
      subst hi
      exact W.lret B.exec B.bytes hr post hS1.2.2 hd hlocks
    · obtain ⟨C2, e3⟩ := qchk_a hchk
      rw [e3] at hr
      have hi : i = .areturn := hi
      subst hi
      refine W.aret B.exec B.bytes hr (Or.inl ⟨C2, rfl⟩) ?_ post hS1.2.2 hd hlocks
      show qr X z = .null ∨ ∃ a, qr X z = .ref a
      unfold qr
      cases hq : qo X z with
      | none => exact Or.inl rfl
      | some a => exact Or.inr ⟨a, rfl⟩
  have hsim := qrun_sim hC hx (h0 := h) ⟨Nat.le_refl _, Nat.le_refl _⟩ hrt (cfg := (0, qpad nL (qent as), [], h)) (qle_rf _) hn
  have h1 := hsim s.heap [] _ hP hS (qL_entry hlen hok) (fun v hv => by cases hv) (qle_rf _)
  rw [lg_entry_eq]
  have e8 : qn h h = 0 := Nat.sub_self _
  have e9 : qs h h = 0 := Nat.sub_self _
  dsimp only at h1
  rw [e8, e9] at h1
  exact h1
