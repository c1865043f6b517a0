/-! NEW CELLS, ARRAYS OF REFERENCES -/
def qadd (h : qH) (tn : Nat × Nat) : qH := ((h.1.1 ++ [tn], fun a k => if a = (h.1.1.length : Int) then -1 else h.1.2 a k), fun a k => if a = (h.1.1.length : Int) then (if tn.1 < 100 ∧ qkind tn.1 k.toNat = 3 then -1 else 0) else h.2 a k)
theorem qadd_len (h : qH) (tn : Nat × Nat) : (qadd h tn).1.1.length = h.1.1.length + 1 := by simp [qadd]
theorem qadd_slots (h : qH) (tn : Nat × Nat) : qslots (qadd h tn) = qslots h + tn.2 := by simp [qadd, qslots]
theorem qle_add (h : qH) (tn : Nat × Nat) : qle h (qadd h tn) := ⟨by rw [qadd_len]; omega, by rw [qadd_slots]; omega⟩
theorem qn_add {h0 h : qH} (tn : Nat × Nat) (hl : qle h0 h) : qn h0 (qadd h tn) = qn h0 h + 1 := by
  unfold qn
  rw [qadd_len]
  have := hl.1
  omega
theorem qs_add {h0 h : qH} (tn : Nat × Nat) (hl : qle h0 h) : qs h0 (qadd h tn) = qs h0 h + tn.2 := by
  unfold qs
  rw [qadd_slots]
  have := hl.2
  omega
theorem qe_add {X : qX} {h : qH} {tn tm : Nat × Nat} {j : Nat} (hj : j ≠ h.1.1.length) : qe X (qadd h tn) j tm = qe X h j tm := by
  have e1 : ∀ i : Int, (qadd h tn).1.2 (j : Nat) i = h.1.2 (j : Nat) i := fun i => if_neg (by omega)
  have e2 : ∀ i : Int, (qadd h tn).2 (j : Nat) i = h.2 (j : Nat) i := fun i => if_neg (by omega)
  unfold qe qsv
  simp only [e1, e2]
theorem qadd_get {h : qH} {tn : Nat × Nat} : (qadd h tn).1.1[h.1.1.length]? = some tn := by simp [qadd]
theorem qadd_old {h : qH} {tn : Nat × Nat} {j : Nat} (hj : j < h.1.1.length) : (qadd h tn).1.1[j]? = h.1.1[j]? := by
  show (h.1.1 ++ [tn])[j]? = _
  rw [List.getElem?_append_left hj]
theorem qP_add {X : qX} {h : qH} {H H1 : Heap} {tn : Nat × Nat} (hP : qP X h H) (hat : va_at X.2.2.1 vwCl (X.1 + h.1.1.length, qe X (qadd h tn) h.1.1.length tn) H1) (z : H1.size = H.size + 1) (oq : ∀ q : Nat, q < H.size → H1[q]? = H[q]?) : qP X (qadd h tn) H1 := by
  refine ⟨by rw [z, qadd_len, hP.1]; omega, ?_, ?_⟩
  · intro i q hq
    rcases Nat.lt_trichotomy i h.1.1.length with hi | hi | hi
    · have ht : h.1.1[i]? = some h.1.1[i] := List.getElem?_eq_getElem hi
      rw [qW_get (tn := h.1.1[i]) (by rw [qadd_old hi]; exact ht)] at hq
      cases hq
      rw [qe_add (by omega)]
      have h1 := hP.2.1 i _ (qW_get ht)
      exact h1.kept (oq _ (by show X.1 + i < H.size; rw [hP.1]; omega))
    · subst hi
      rw [qW_get qadd_get] at hq
      cases hq
      exact hat
    · rw [qW_none (List.getElem?_eq_none (by rw [qadd_len]; omega))] at hq
      cases hq
  · intro i tm hi k hk
    rcases Nat.lt_trichotomy i h.1.1.length with hl | hl | hl
    · rw [qadd_old hl] at hi
      have := hP.2.2 i tm hi k hk
      rw [show (qadd h tn).2 (i : Nat) k = h.2 (i : Nat) k from if_neg (by omega)]
      exact this
    · subst hl
      rw [qadd_get] at hi
      cases hi
      rw [show (qadd h tn).2 (h.1.1.length : Nat) k = (if tn.1 < 100 ∧ qkind tn.1 (k : Int).toNat = 3 then -1 else 0) from if_pos rfl]
      split
      · rename_i hc
        have hc2 : qkind tn.1 k = 3 := hc.2
        exact qrg_free hc.1 (by rw [hc2]; decide)
      · unfold qrg
        split
        · omega
        · split
          · omega
          · split
            · omega
            · split
              · trivial
              · split
                · trivial
                · omega
    · rw [List.getElem?_eq_none (by rw [qadd_len]; omega)] at hi
      cases hi
theorem qkind_or (t k : Nat) : qkind t k = 0 ∨ qkind t k = 2 ∨ qkind t k = 3 := by
  unfold qkind
  split
  · split
    · exact Or.inl rfl
    · split
      · exact Or.inr (Or.inl rfl)
      · exact Or.inr (Or.inr rfl)
  · exact Or.inl rfl
def qo_new (ci n : Nat) : qOp := fun c => .inl (c.1 + 3, c.2.1, qA (c.2.2.2.1.1.length : Nat) :: c.2.2.1, qadd c.2.2.2 (ci, n))
theorem qk_new {X : qX} {l : Launch} {K : Nat} {cc : ByteArray} {nL : Nat} {own nm : String} {rt : Option FieldType} {pc : Nat} {ix ci N : Nat} {C : String} {T : u_T} {ty0 : Nat → FieldType} (hc : vwCl[ci]? = some (C, T, N)) (hci : ci < 100) (hin : ∀ w ∈ u_ws C T N, w ∈ qT) (hty : ∀ k, k < N → parseFieldDescriptor (T k).2.2.1 = some (ty0 k)) (h1 : Cond.classLink own ix C ∈ qT) (h2 : Cond.instantiable C N ∈ qT) (h3 : Cond.initialized C ∈ qT)
    (hdf : ∀ j, j < N → defaultValue (ty0 j) = if qkind ci j = 0 then .int 0 else .null) (hd : decode cc pc = .ok (.new ix, 3)) : qOk X l K cc nL own nm rt pc (qo_new ci N) := by
  intro ls st h
  constructor
  · intro cfg' hcg
    cases hcg
    refine ⟨qle_add _ _, ?_⟩
    intro p e R s m args below meth c Q h0 hx hR hle hk H locs lsc hP hS hL hst hle'
    have hts := hx.2.2.2.2.1
    have hKn := hx.2.2.2.2.2.1.1.1 ci _ hc
    dsimp only at hR hle' hP hL hst ⊢
    rw [qn_add _ hle, qs_add _ hle] at hR
    refine W.newcK hx.1 hx.2.1 hx.2.2.2.1 (hts _ h1) (hts _ h2) (hts _ h3) rfl hd hR.1 hR.2 hKn.2.1 hP.1 fun H1 kC hkC e1 z1 o1 => ?_
    have hP1 : qP X (qadd h (ci, N)) H1 := by
      refine qP_add hP ?_ (by rw [z1, hP.1]) (fun q hq => o1 q (by rw [← hP.1]; exact hq))
      rw [qe_obj hci]
      refine ⟨_, hc, (u_born ty0 hts hin hKn hkC e1 hty).to (fun j hj => ?_)⟩
      unfold vp_V
      rw [List.getD_eq_getElem?_getD, qfs_get hj, hdf j hj]
      show _ = qsv X (qadd h (ci, N)) ci h.1.1.length j
      unfold qsv
      rw [show (qadd h (ci, N)).2 (h.1.1.length : Nat) j = (if ci < 100 ∧ qkind ci (j : Int).toNat = 3 then -1 else 0) from if_pos rfl, show (qadd h (ci, N)).1.2 (h.1.1.length : Nat) j = -1 from if_pos rfl]
      rw [show ((j : Int).toNat) = j from rfl]
      rcases qkind_or ci j with q | q | q <;> simp [q, hci, qr, qo, va_rf]
    have k9 := hk H1 locs lsc hP1 ⟨Nat.le_trans hS.1 (by rw [z1, hP.1]; omega), fun q g1 g2 => (o1 q (by rw [← hP.1]; exact Nat.lt_of_lt_of_le g1 hS.1)).trans (hS.2.1 q g1 g2), hS.2.2⟩ hL (fun v hv => ?_) (qle_tr hle (qle_add _ _))
    · dsimp only at k9
      rw [qn_add _ hle, qs_add _ hle] at k9
      have e9 : qc X (qA (h.1.1.length : Nat)) = .ref (X.1 + h.1.1.length) := qr_of (by omega)
      rw [List.map_cons, e9] at k9
      exact k9
    · rcases List.mem_cons.mp hv with rfl | hv
      · trivial
      · exact hst v hv
  · intro r h' hcg
    cases hcg
def qo_newa (t : Nat) : qOp := fun c => match c with
  | (pc, ls, .inl n :: r, h) => if 0 ≤ n ∧ n ≤ 1000000 then .inl (pc + 2, ls, qA (h.1.1.length : Nat) :: r, qadd h (t, n.toNat)) else .inr none
  | _ => .inr none
theorem qk_newa {X : qX} {l : Launch} {K : Nat} {cc : ByteArray} {nL : Nat} {own nm : String} {rt : Option FieldType} {pc : Nat} {t : Nat} {atype : ArrayType} {ty : FieldType} (hty : newarray.typeOf atype = ty) (ht : (t = 100 ∧ ty = .int) ∨ (t = 101 ∧ ty = .byte) ∨ (t = 102 ∧ ty = .boolean) ∨ (t = 103 ∧ ty = .long)) (hw : Cond.arrayClass ty ∈ qT) (hd : decode cc pc = .ok (.newarray atype, 2)) : qOk X l K cc nL own nm rt pc (qo_newa t) := by
  intro ls st h
  unfold qo_newa
  constructor
  · intro cfg' hcg
    split at hcg
    · rename_i heq
      cases heq
      split at hcg
      · rename_i hcnd
        cases hcg
        refine ⟨qle_add _ _, ?_⟩
        intro p e R s m args below meth c Q h0 hx hR hle hk H locs lsc hP hS hL hst hle'
        rename_i n r
        subst hty
        have hn : -2147483648 ≤ n ∧ n ≤ 2147483647 := by omega
        have hts := hx.2.2.2.2.1
        dsimp only at hR hle' hP hL hst ⊢
        rw [qn_add _ hle, qs_add _ hle] at hR
        have hbytes : n.toNat * componentBytes (newarray.typeOf atype) ≤ 536870912 := by
          have hb : componentBytes (newarray.typeOf atype) ≤ 8 := by cases atype <;> decide
          have : n.toNat * componentBytes (newarray.typeOf atype) ≤ n.toNat * 8 := Nat.mul_le_mul_left _ hb
          omega
        refine va_newaK hx.1 hx.2.1 (hts _ hw) rfl hd rfl (qint_nn hcnd.1 hn) (qint_cl hcnd.1 hn) hbytes hR.1 hR.2 hP.1 fun H1 cA e1 z1 o1 hAr hNm => ?_
        have hcA : cA = X.2.2.2 t := by
          rcases ht with ⟨rfl, e2⟩ | ⟨rfl, e2⟩ | ⟨rfl, e2⟩ | ⟨rfl, e2⟩
          · have := (hx.2.2.2.2.2.1.1.2 0 _ rfl).2
            rw [e2] at hNm
            exact Option.some.inj (hNm.symm.trans this)
          · have := (hx.2.2.2.2.2.1.1.2 1 _ rfl).2
            rw [e2] at hNm
            exact Option.some.inj (hNm.symm.trans this)
          · have := (hx.2.2.2.2.2.1.1.2 2 _ rfl).2
            rw [e2] at hNm
            exact Option.some.inj (hNm.symm.trans this)
          · have := (hx.2.2.2.2.2.1.1.2 3 _ rfl).2
            rw [e2] at hNm
            exact Option.some.inj (hNm.symm.trans this)
        have z0 : ∀ j : Nat, (qadd h (t, n.toNat)).2 (h.1.1.length : Nat) j = 0 := by
          intro j
          rw [show (qadd h (t, n.toNat)).2 (h.1.1.length : Nat) j = (if t < 100 ∧ qkind t (j : Int).toNat = 3 then -1 else 0) from if_pos rfl]
          rw [if_neg (by omega)]
        have hP1 : qP X (qadd h (t, n.toNat)) H1 := by
          refine qP_add hP ?_ (by rw [z1, hP.1]) (fun q hq => o1 q (by rw [← hP.1]; exact hq))
          subst hcA
          rcases ht with ⟨rfl, e2⟩ | ⟨rfl, e2⟩ | ⟨rfl, e2⟩ | ⟨rfl, e2⟩
          · rw [qe_int (by decide) (by decide)]
            rw [e2] at e1
            refine e1.trans (congrArg some ?_)
            show _ = arrV (X.2.2.2 100) n.toNat (fun j => Value.int (Int32.ofInt ((qadd h (100, n.toNat)).2 (h.1.1.length : Nat) j)))
            congr 1
            funext j
            rw [z0 j]
            rfl
          · rw [qe_int (by decide) (by decide)]
            rw [e2] at e1
            refine e1.trans (congrArg some ?_)
            show _ = arrV (X.2.2.2 101) n.toNat (fun j => Value.int (Int32.ofInt ((qadd h (101, n.toNat)).2 (h.1.1.length : Nat) j)))
            congr 1
            funext j
            rw [z0 j]
            rfl
          · rw [qe_int (by decide) (by decide)]
            rw [e2] at e1
            refine e1.trans (congrArg some ?_)
            show _ = arrV (X.2.2.2 102) n.toNat (fun j => Value.int (Int32.ofInt ((qadd h (102, n.toNat)).2 (h.1.1.length : Nat) j)))
            congr 1
            funext j
            rw [z0 j]
            rfl
          · rw [qe_long]
            rw [e2] at e1
            refine e1.trans (congrArg some ?_)
            show _ = arrV (X.2.2.2 103) n.toNat (fun j => Value.long (Int64.ofInt ((qadd h (103, n.toNat)).2 (h.1.1.length : Nat) j)))
            congr 1
            funext j
            rw [z0 j]
            rfl
        have k9 := hk H1 locs lsc hP1 ⟨Nat.le_trans hS.1 (by rw [z1, hP.1]; omega), fun q g1 g2 => (o1 q (by rw [← hP.1]; exact Nat.lt_of_lt_of_le g1 hS.1)).trans (hS.2.1 q g1 g2), hS.2.2⟩ hL (fun v hv => ?_) (qle_tr hle (qle_add _ _))
        · dsimp only at k9
          rw [qn_add _ hle, qs_add _ hle] at k9
          have e9 : qc X (qA (h.1.1.length : Nat)) = .ref (X.1 + h.1.1.length) := qr_of (by omega)
          rw [List.map_cons, e9] at k9
          exact k9
        · rcases List.mem_cons.mp hv with rfl | hv
          · trivial
          · exact hst v (List.mem_cons_of_mem _ hv)
      · cases hcg
    · cases hcg
  · intro r h' hcg
    split at hcg
    · split at hcg
      · cases hcg
      · cases hcg
    · cases hcg
def qo_anew (t : Nat) : qOp := fun c => match c with
  | (pc, ls, .inl n :: r, h) => if 0 ≤ n ∧ n ≤ 1000000 then .inl (pc + 3, ls, qA (h.1.1.length : Nat) :: r, qadd h (t, n.toNat)) else .inr none
  | _ => .inr none
theorem qk_anew {X : qX} {l : Launch} {K : Nat} {cc : ByteArray} {nL : Nat} {own nm : String} {rt : Option FieldType} {pc : Nat} {t ix : Nat} {C : String} (ht : (t = 104 ∧ C = RX4) ∨ (t = 105 ∧ C = RX3)) (hw : Cond.classLink own ix C ∈ qT) (hov : Cond.arrayOver (.object C) ∈ qEx) (hd : decode cc pc = .ok (.anewarray ix, 3)) : qOk X l K cc nL own nm rt pc (qo_anew t) := by
  intro ls st h
  unfold qo_anew
  constructor
  · intro cfg' hcg
    split at hcg
    · rename_i heq
      cases heq
      split at hcg
      · rename_i hcnd
        cases hcg
        refine ⟨qle_add _ _, ?_⟩
        intro p e R s m args below meth c Q h0 hx hR hle hk H locs lsc hP hS hL hst hle'
        rename_i n r
        have hn : -2147483648 ≤ n ∧ n ≤ 2147483647 := by omega
        have hts := hx.2.2.2.2.1
        dsimp only at hR hle' hP hL hst ⊢
        rw [qn_add _ hle, qs_add _ hle] at hR
        have hcl := qint_cl hcnd.1 hn
        refine W.anew hx.1 hx.2.1 hx.2.2.2.1 (hts _ hw) (va_AO.use (hx.2.2.2.2.2.1.2 _ hov)) rfl hd rfl (qint_nn hcnd.1 hn) (by rw [hcl]; omega) hR.1 (by rw [hcl]; exact hR.2) fun cA kA comp f1 f2 f3 f4 => ?_
        rw [hcl]
        generalize hH1 : H.push ({ cls := cA, slots := Array.replicate n.toNat .null, vm := .none } : Cell) = H1
        have z1 : H1.size = H.size + 1 := by rw [← hH1, Array.size_push]
        have e1 : H1[H.size]? = some (arrV cA n.toNat (fun _ => .null)) := by rw [← hH1, Array.getElem?_push_size, ← arrV_new]
        have o1 : ∀ q : Nat, q < H.size → H1[q]? = H[q]? := fun q hq => by rw [← hH1, Array.getElem?_push, if_neg (Nat.ne_of_lt hq)]
        have hcA : cA = X.2.2.2 t := by
          rcases ht with ⟨rfl, rfl⟩ | ⟨rfl, rfl⟩
          · obtain ⟨_, _, _, _, _, g4⟩ := (hx.2.2.2.2.2.1.1.2 4 _ rfl).2
            exact Option.some.inj (f1.symm.trans g4)
          · obtain ⟨_, _, _, _, _, g4⟩ := (hx.2.2.2.2.2.1.1.2 5 _ rfl).2
            exact Option.some.inj (f1.symm.trans g4)
        have hP1 : qP X (qadd h (t, n.toNat)) H1 := by
          refine qP_add hP ?_ z1 o1
          subst hcA
          rw [qe_ref (by omega)]
          show H1[X.1 + h.1.1.length]? = some (arrV (X.2.2.2 t) n.toNat (fun j => va_rf (qo X ((qadd h (t, n.toNat)).1.2 (h.1.1.length : Nat) j))))
          rw [← hP.1]
          refine e1.trans (congrArg some ?_)
          congr 1
          funext j
          rw [show (qadd h (t, n.toNat)).1.2 (h.1.1.length : Nat) j = -1 from if_pos rfl]
          rfl
        have k9 := hk H1 locs lsc hP1 ⟨Nat.le_trans hS.1 (by rw [z1]; omega), fun q g1 g2 => (o1 q (Nat.lt_of_lt_of_le g1 hS.1)).trans (hS.2.1 q g1 g2), hS.2.2⟩ hL (fun v hv => ?_) (qle_tr hle (qle_add _ _))
        · dsimp only at k9
          rw [qn_add _ hle, qs_add _ hle] at k9
          have e9 : qc X (qA (h.1.1.length : Nat)) = .ref H.size := by rw [hP.1]; exact qr_of (by omega)
          rw [List.map_cons, e9] at k9
          exact k9
        · rcases List.mem_cons.mp hv with rfl | hv
          · trivial
          · exact hst v (List.mem_cons_of_mem _ hv)
      · cases hcg
    · cases hcg
  · intro r h' hcg
    split at hcg
    · split at hcg
      · cases hcg
      · cases hcg
    · cases hcg
def qo_aaload : qOp := fun c => match c with
  | (pc, ls, .inl k :: .inr (.inr a) :: r, h) => if (103 < (qty h a).1 ∧ (qty h a).1 ≤ 106) ∧ 0 ≤ k ∧ k < (qty h a).2 then .inl (pc + 1, ls, qA (h.1.2 a k) :: r, h) else .inr none
  | _ => .inr none
theorem qk_aaload {X : qX} {l : Launch} {K : Nat} {cc : ByteArray} {nL : Nat} {own nm : String} {rt : Option FieldType} {pc : Nat} (hd : decode cc pc = .ok (.aaload, 1)) : qOk X l K cc nL own nm rt pc qo_aaload := by
  intro ls st h
  unfold qo_aaload
  constructor
  · intro cfg' hcg
    split at hcg
    · rename_i heq
      cases heq
      split at hcg
      · rename_i hcnd
        cases hcg
        refine ⟨qle_rf _, ?_⟩
        intro p e R s m args below meth c Q h0 hx hR hle hk H locs lsc hP hS hL hst hle'
        rename_i k a r
        generalize hg : qty h a = tn at hcnd hk ⊢
        obtain ⟨t, n⟩ := tn
        dsimp only at hcnd
        obtain ⟨ha, ht⟩ := qty_get hg (by omega)
        have hko : -2147483648 ≤ k ∧ k ≤ 2147483647 := hst (qI k) List.mem_cons_self
        show W p l e R s m args below meth c H locs _ _ Q (F0 m pc lsc (.int (Int32.ofInt k) :: qr X a :: r.map (qc X)))
        rw [qr_of ha]
        have he := qW_get (X := X) ht
        rw [qe_ref hcnd.1.1] at he
        have hcell : H[X.1 + a.toNat]? = some (arrV (X.2.2.2 t) n (fun j => va_rf (qo X (h.1.2 (a.toNat : Nat) j)))) := hP.2.1 a.toNat _ he
        have htys : ∃ ty, (qtys X)[t - 100]? = some (X.2.2.2 t, ty) ∧ ty.isReference = true := by
          rcases (show t = 104 ∨ t = 105 ∨ t = 106 by omega) with rfl | rfl | rfl
          · exact ⟨_, rfl, rfl⟩
          · exact ⟨_, rfl, rfl⟩
          · exact ⟨_, rfl, rfl⟩
        obtain ⟨ty, hty, hrf⟩ := htys
        have hin := qint_ix hcnd.2.1 hcnd.2.2 hko
        refine W.aald (v := qr X (h.1.2 a k)) (ty := ty) hx.1 hx.2.1 hcell ((hx.2.2.2.2.2.1.1.2 (t - 100) _ hty).1 _ _) hrf (fun q => by cases q) (by rw [arrV_size]; exact hin) ?_ rfl rfl hd (hk H locs lsc hP hS hL (fun v hv => ?_) hle')
        · rw [qint_cl hcnd.2.1 hko, arrV_read _ _ (by omega), qnat hcnd.2.1, qnat ha]
          rfl
        · rcases List.mem_cons.mp hv with rfl | hv
          · trivial
          · exact hst v (List.mem_cons_of_mem _ (List.mem_cons_of_mem _ hv))
      · cases hcg
    · cases hcg
  · intro r h' hcg
    split at hcg
    · split at hcg
      · cases hcg
      · cases hcg
    · cases hcg
/-- classes whose objects fit into an array of kind t -/
def qfitA (t ci : Nat) : Prop := (t = 105 ∧ ci = 3) ∨ (t = 104 ∧ ci = 4) ∨ (t = 104 ∧ ci < 13 ∧ ∃ q : vw_C, vwCl[ci]? = some q ∧ Cond.castable q.1 RX4 ∈ qEx)
def qo_aastore (t : Nat) (cs : List Nat) : qOp := fun c => match c with
  | (pc, ls, .inr (.inr z) :: .inl k :: .inr (.inr a) :: r, h) => if (qty h a).1 = t ∧ 0 ≤ k ∧ k < (qty h a).2 ∧ (qty h z).1 ∈ cs then .inl (pc + 1, ls, r, ((h.1.1, qup h.1.2 a k z), h.2)) else .inr none
  | _ => .inr none
theorem qk_aastore {X : qX} {l : Launch} {K : Nat} {cc : ByteArray} {nL : Nat} {own nm : String} {rt : Option FieldType} {pc : Nat} {t : Nat} {cs : List Nat} (ht : t = 104 ∨ t = 105) (hcs : ∀ ci ∈ cs, qfitA t ci) (hd : decode cc pc = .ok (.aastore, 1)) : qOk X l K cc nL own nm rt pc (qo_aastore t cs) := by
  intro ls st h
  unfold qo_aastore
  constructor
  · intro cfg' hcg
    split at hcg
    · rename_i heq
      cases heq
      split at hcg
      · rename_i hcnd
        cases hcg
        refine ⟨qle_eq rfl, ?_⟩
        intro p e R s m args below meth c Q h0 hx hR hle hk H locs lsc hP hS hL hst hle'
        rename_i z k a r
        have hq : qty h a = (t, (qty h a).2) := by rw [← hcnd.1]
        obtain ⟨ha, hta⟩ := qty_get hq (by omega)
        have hfit := hcs _ hcnd.2.2.2
        have hci : (qty h z).1 < 100 := by rcases hfit with q | q | q <;> omega
        have hqz : qty h z = ((qty h z).1, (qty h z).2) := rfl
        obtain ⟨hz, htz⟩ := qty_get hqz (by omega)
        have hko : -2147483648 ≤ k ∧ k ≤ 2147483647 := hst (qI k) (List.mem_cons_of_mem _ List.mem_cons_self)
        have hk0 := hcnd.2.1
        have hk1 := hcnd.2.2.1
        show W p l e R s m args below meth c H locs _ _ Q (F0 m pc lsc (qr X z :: .int (Int32.ofInt k) :: qr X a :: r.map (qc X)))
        rw [qr_of ha, qr_of hz]
        have he := qW_get (X := X) hta
        rw [qe_ref (by omega)] at he
        have hez := qW_get (X := X) htz
        rw [qe_obj hci] at hez
        have hcell : H[X.1 + a.toNat]? = some (arrV (X.2.2.2 t) (qty h a).2 (fun j => va_rf (qo X (h.1.2 (a.toNat : Nat) j)))) := hP.2.1 a.toNat _ he
        obtain ⟨rz, hrz, cellV, g1, g2, g3, -⟩ := hP.2.1 z.toNat _ hez
        have hK := hx.2.2.2.2.2.1.1
        have hcls := (hK.1 (qty h z).1 rz hrz).2
        obtain ⟨kz, hkz, -⟩ := hcls.2
        have hE : ∃ (E : String) (kA : Class) (comp : ClassId) (kE : Class), s.vm.classes[X.2.2.2 t]? = some kA ∧ kA.kind = .array comp (.object E) ∧ s.vm.classes[comp]? = some kE ∧ s.vm.assignable (X.2.2.1.1 (qty h z).1) comp = true := by
          rcases hfit with ⟨h1, h2⟩ | ⟨h1, h2⟩ | ⟨h1, h2, q, hq1, hq2⟩
          · rw [h1]
            obtain ⟨kA, comp, k1, k2, k3, -⟩ := (hK.2 5 _ rfl).2
            have hc3 := hK.1 3 _ rfl
            have e9 : comp = X.2.2.1.1 3 := Option.some.inj (k3.symm.trans hc3.2.1)
            rw [h2]
            obtain ⟨kE, hkE, -⟩ := hc3.2.2
            exact ⟨_, kA, comp, kE, k1, k2, by rw [e9]; exact hkE, by rw [e9]; exact va_assign hc3.2⟩
          · rw [h1]
            obtain ⟨kA, comp, k1, k2, k3, -⟩ := (hK.2 4 _ rfl).2
            have hc3 := hK.1 4 _ rfl
            have e9 : comp = X.2.2.1.1 4 := Option.some.inj (k3.symm.trans hc3.2.1)
            rw [h2]
            obtain ⟨kE, hkE, -⟩ := hc3.2.2
            exact ⟨_, kA, comp, kE, k1, k2, by rw [e9]; exact hkE, by rw [e9]; exact va_assign hc3.2⟩
          · rw [h1]
            obtain ⟨kA, comp, k1, k2, k3, -⟩ := (hK.2 4 _ rfl).2
            have hc3 := hK.1 4 _ rfl
            obtain ⟨kE, hkE, -⟩ := hc3.2.2
            have e9 : comp = X.2.2.1.1 4 := Option.some.inj (k3.symm.trans hc3.2.1)
            obtain ⟨c0, t0, f1, f2, f3⟩ := Cond.castable_spec (hx.2.2.2.2.2.1.2 _ hq2)
            have hqq : rz = q := Option.some.inj (hrz.symm.trans hq1)
            subst hqq
            have e1 : c0 = X.2.2.1.1 (qty h z).1 := Option.some.inj (f1.symm.trans hcls.1)
            have e2 : t0 = comp := Option.some.inj (f2.symm.trans k3)
            exact ⟨_, kA, comp, kE, k1, k2, by rw [e9]; exact hkE, by rw [← e1, ← e2]; exact f3⟩
        obtain ⟨E, kA, comp, kE, k1, k2, k3, k4⟩ := hE
        have hin := qint_ix hk0 hk1 hko
        refine W.aast hx.1 hx.2.1 hcell (fun q h => by cases h) (fun h => by cases h) k1 k2 rfl k3 ⟨qint_nn hk0 hko, by rw [arrV_size, qint_cl hk0 hko]; omega⟩ g1 (fun q h => by rw [g3] at h; cases h) (by rw [g2]; exact hkz) (by rw [g2]; exact k4) rfl rfl hd fun H1 e1 z1 o1 => ?_
        rw [qint_cl hk0 hko] at e1
        refine hk H1 _ lsc (qP_put (h' := ((h.1.1, qup h.1.2 a k z), h.2)) hP hta rfl (fun j tm hj hm => qe_upG (fun q => hj (by omega))) ?_ z1 o1 hP.2.2) (hS.put z1 o1 (by show X.1 ≤ X.1 + a.toNat; omega)) hL (fun v hv => hst v (List.mem_cons_of_mem _ (List.mem_cons_of_mem _ (List.mem_cons_of_mem _ hv)))) hle'
        rw [qe_ref (by omega)]
        show H1[X.1 + a.toNat]? = some (arrV (X.2.2.2 t) (qty h a).2 (fun j => va_rf (qo X (qup h.1.2 a k z (a.toNat : Nat) j))))
        rw [e1, arrV_store]
        congr 2
        funext j
        unfold updV
        show _ = va_rf (qo X (qup h.1.2 a k z (a.toNat : Nat) j))
        rw [qnat ha]
        by_cases hj : j = k.toNat
        · subst hj
          rw [if_pos rfl, qnat hk0, qup_self, qo_of hz]
          rfl
        · rw [if_neg hj, qup_ne (fun q => hj (by have := q.2; omega))]
      · cases hcg
    · cases hcg
  · intro r h' hcg
    split at hcg
    · split at hcg
      · cases hcg
      · cases hcg
    · cases hcg
