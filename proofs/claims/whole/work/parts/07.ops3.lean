/-! FIELDS AND ARRAYS -/
theorem qP_put {X : qX} {h h' : qH} {H H1 : Heap} {id : Nat} {tn : Nat × Nat} (hP : qP X h H) (ht : h.1.1[id]? = some tn) (hT : h'.1.1 = h.1.1)
    (ho : ∀ (j : Nat) (tm : Nat × Nat), j ≠ id → h.1.1[j]? = some tm → qe X h' j tm = qe X h j tm) (hat : va_at X.2.2.1 vwCl (X.1 + id, qe X h' id tn) H1) (z : H1.size = H.size) (oq : ∀ q : Nat, q ≠ X.1 + id → H1[q]? = H[q]?) (hrg : qRg h') : qP X h' H1 := by
  refine ⟨by rw [z, hT]; exact hP.1, ?_, hrg⟩
  have h1 := hP.2.1.set (qD X h) (qW_get ht) hat oq
  rw [qW_set ht hT rfl ho] at h1
  exact h1
theorem qe_obj {X : qX} {h : qH} {id t n : Nat} (ht : t < 100) : qe X h id (t, n) = .inr (t, (List.range n).map (fun k => qsv X h t id k)) := by
  unfold qe
  rw [if_pos ht]
theorem qe_int {X : qX} {h : qH} {id t n : Nat} (h1 : 100 ≤ t) (h2 : t < 103) : qe X h id (t, n) = .inl (X.2.2.2 t, n, .inl (fun j => Int32.ofInt (h.2 id j))) := by
  unfold qe
  rw [if_neg (by show ¬ t < 100; omega), if_pos h2]
theorem qe_long {X : qX} {h : qH} {id n : Nat} : qe X h id (103, n) = .inl (X.2.2.2 103, n, .inr (.inl (fun j => Int64.ofInt (h.2 id j)))) := rfl
theorem qe_ref {X : qX} {h : qH} {id t n : Nat} (h1 : 103 < t) : qe X h id (t, n) = .inl (X.2.2.2 t, n, .inr (.inr (.inr (.inr (fun j => qo X (h.1.2 id j)))))) := by
  unfold qe
  rw [if_neg (by show ¬ t < 100; omega), if_neg (by show ¬ t < 103; omega), if_neg (by show ¬ t = 103; omega)]
theorem qfs_get {X : qX} {h : qH} {t id n k : Nat} (hk : k < n) : ((List.range n).map (fun k => qsv X h t id k))[k]? = some (qsv X h t id k) := by
  rw [List.getElem?_map, List.getElem?_range hk]
  rfl
theorem qrg_int {t k : Nat} {z : Int} (h : qrg t k z) (ht : t = 100 ∨ t = 101 ∨ t = 102) : -2147483648 ≤ z ∧ z ≤ 2147483647 := by
  rcases ht with rfl | rfl | rfl
  · exact h
  · have h : -128 ≤ z ∧ z ≤ 127 := h
    omega
  · have h : 0 ≤ z ∧ z ≤ 1 := h
    omega
theorem qrg_fld {t k : Nat} {z : Int} (h : qrg t k z) (ht : t < 100) (hk : qkind t k = 0) : -2147483648 ≤ z ∧ z ≤ 2147483647 := by
  unfold qrg at h
  rw [if_neg (by omega), if_neg (by omega), if_neg (by omega), if_neg (by omega), if_neg (fun q => q.2 hk)] at h
  exact h
theorem qrg_of_fld {t k : Nat} {z : Int} (h : -2147483648 ≤ z ∧ z ≤ 2147483647) (ht : t ≤ 100) : qrg t k z := by
  unfold qrg
  rw [if_neg (by omega), if_neg (by omega), if_neg (by omega), if_neg (by omega)]
  split
  · trivial
  · exact h
theorem qrg_free {t k : Nat} {z : Int} (ht : t < 100) (hk : qkind t k ≠ 0) : qrg t k z := by
  unfold qrg
  rw [if_neg (by omega), if_neg (by omega), if_neg (by omega), if_neg (by omega), if_pos ⟨ht, hk⟩]
  trivial
theorem qnat {a : Int} (h : 0 ≤ a) : ((a.toNat : Nat) : Int) = a := Int.toNat_of_nonneg h
/-- a field: class number ci, slot k -/
def qFd (own ref : String) (ix ci k : Nat) (C : String) (T : u_T) (N : Nat) : Prop := vwCl[ci]? = some (C, T, N) ∧ (∀ w ∈ u_ws C T N, w ∈ qT) ∧ k < N ∧ ci < 100 ∧ Cond.fieldLink own ix ref (T k).2.1 (T k).2.2.1 ∈ qT ∧ (T k).1 = ref
section QG
variable {p : Program} {l : Launch} {e : Env} {R : Room} {s : State} {m : MethodId} {args : Array Value} {below : List Frame} {meth : Method} {c : Code} {Q : State → Prop} {H : Heap} {locs : List Loc} {cells slots : Nat} {lsc : Array Slot} {rest : List Value}
variable {X : qX} {K : Nat} {cc : ByteArray} {nL : Nat} {own nm ref : String} {pc ix ci k n : Nat} {C : String} {T : u_T} {N : Nat} {h : qH} {a : Int}
theorem qgetW (hx : qCx X p R s m args meth c K cc nL own nm) (hF : qFd own ref ix ci k C T N) (hd : decode cc pc = .ok (.getfield ix, 3)) (hP : qP X h H) (hq : qty h a = (ci, n)) (hk : k < n)
    (kk : W p l e R s m args below meth c H locs cells slots Q (F0 m (pc + 3) lsc (qsv X h ci a.toNat k :: rest))) : W p l e R s m args below meth c H locs cells slots Q (F0 m pc lsc (qr X a :: rest)) := by
  obtain ⟨h0, ht⟩ := qty_get hq (by have := hF.2.2.2.1; omega)
  rw [qr_of h0]
  have he := qW_get (X := X) ht
  rw [qe_obj hF.2.2.2.1] at he
  exact va_get hx.1 hx.2.1 hx.2.2.2.2.1 hF.2.1 hx.2.2.2.1 hx.2.2.2.2.2.1.1 hP.2.1 a.toNat he hF.1 k hF.2.2.1 (hx.2.2.2.2.1 _ hF.2.2.2.2.1) (by rw [hF.2.2.2.2.2]; exact fun _ q => q) (qfs_get hk) hd kk
/-- a field is written, final or not -/
theorem qputW {h' : qH} {v : Value} {ty : FieldType} (hx : qCx X p R s m args meth c K cc nL own nm) (hF : qFd own ref ix ci k C T N) (ty0 : Nat → FieldType) (hty : ∀ k, k < N → parseFieldDescriptor (T k).2.2.1 = some (ty0 k)) (hnm : ∀ a, a < N → ∀ b, b < N → a ≠ b → (T a).2.1 ≠ (T b).2.1)
    (hfin : (T k).2.2.2 = false ∨ ((T k).2.2.2 = true ∧ nm = "<init>" ∧ ref = own)) (hd : decode cc pc = .ok (.putfield ix, 3)) (hP : qP X h H) (hS : va_S (fun q : Nat => X.1 ≤ q) s.heap H locs) (hq : qty h a = (ci, n)) (hk : k < n)
    (hpd : parseFieldDescriptor (T k).2.2.1 = some ty) (hn : narrow ty v = v) (hfit : fits ty v = true) (hT : h'.1.1 = h.1.1)
    (ho : ∀ (j : Nat) (tm : Nat × Nat), j ≠ a.toNat → h.1.1[j]? = some tm → qe X h' j tm = qe X h j tm) (hv : v = qsv X h' ci a.toNat k) (hvs : ∀ j, j ≠ k → qsv X h' ci a.toNat j = qsv X h ci a.toNat j) (hrg : qRg h')
    (kk : ∀ (H1 : Heap) (locs1 : List Loc), qP X h' H1 → va_S (fun q : Nat => X.1 ≤ q) s.heap H1 locs1 → W p l e R s m args below meth c H1 locs1 cells slots Q (F0 m (pc + 3) lsc rest)) : W p l e R s m args below meth c H locs cells slots Q (F0 m pc lsc (v :: qr X a :: rest)) := by
  obtain ⟨h0, ht⟩ := qty_get hq (by have := hF.2.2.2.1; omega)
  rw [qr_of h0]
  obtain ⟨hc, hin, hkN, hci, hlk, hrf⟩ := hF
  have he := qW_get (X := X) ht
  rw [qe_obj hci] at he
  have hK := hx.2.2.2.2.2.1.1
  have hts := hx.2.2.2.2.1
  have hown := hx.2.2.2.1
  have hap := va_apart (own := own) hts hin ty0 hty hnm hK hc
  obtain ⟨r, h1, cell, q1, q2, q3, q4⟩ := hP.2.1 a.toNat _ he
  have hr : r = (C, T, N) := Option.some.inj (h1.symm.trans hc)
  subst hr
  obtain ⟨hSl, hfc, kC, hkC, hkind⟩ := hK.1 ci _ hc
  obtain ⟨cf, kf, fi, f, hi, hsl⟩ := hSl k hkN
  have hlays := u_lays hts hin hkN
  have hst := (u_facts hfc hkC hlays hi).1
  have hi2 : s.fieldFound? ref (T k).2.1 (T k).2.2.1 = some (cf, kf, fi, f) := by rw [← hrf]; exact hi
  have done : ∀ (H1 : Heap), H1[X.1 + a.toNat]? = some (cell.setSlot f.slot v) → H1.size = H.size → (∀ q : Nat, q ≠ X.1 + a.toNat → H1[q]? = H[q]?) → W p l e R s m args below meth c H1 (locs ++ [⟨X.1 + a.toNat, f.slot⟩]) cells slots Q (F0 m (pc + 3) lsc rest) := by
    intro H1 e1 e2 e3
    refine kk H1 _ (qP_put hP ht hT ho ?_ e2 e3 hrg) (hS.put e2 e3 (by show X.1 ≤ X.1 + a.toNat; omega))
    rw [qe_obj hci]
    rw [hsl] at e1
    refine ⟨_, hc, t_OB.to (V := updV (vp_V ((List.range n).map (fun k => qsv X h ci a.toNat k))) k v) ⟨_, e1, q2, q3, t_set q4 hap hkN v⟩ (fun j hj => ?_)⟩
    unfold updV vp_V
    by_cases e9 : j = k
    · subst e9
      rw [if_pos rfl, List.getD_eq_getElem?_getD, qfs_get hk, hv]
      rfl
    · rw [if_neg e9, List.getD_eq_getElem?_getD, List.getD_eq_getElem?_getD]
      by_cases hjn : j < n
      · rw [qfs_get hjn, qfs_get hjn, hvs j e9]
      · rw [List.getElem?_eq_none (by rw [List.length_map, List.length_range]; omega), List.getElem?_eq_none (by rw [List.length_map, List.length_range]; omega)]
  rcases hfin with hf | ⟨hf, hnm2, hro⟩
  · have hlay := hts _ (hin _ (u_in_lay hkN))
    unfold u_lay at hlay
    rw [if_neg (by rw [hf]; decide)] at hlay
    have h6 := u_store hfc hkC hkind hlay hi hpd hn hfit
    exact W.putK hx.1 hx.2.1 (f := f) ⟨hown, hts _ hlk, ⟨_, _, _, hi2⟩, hst⟩ (by rw [q2]; exact h6) q1 q3 (by rw [hsl]; exact k2_hasslot (q4 k hkN)) rfl rfl hd done
  · have hlay := hts _ (hin _ (u_in_lay hkN))
    unfold u_lay at hlay
    rw [if_pos hf] at hlay
    have hcf : m.cls = cf := by
      obtain ⟨_, _, c', _, _, _, -, -, hf', -, -, -, hown2, -⟩ := Cond.laysFinal_spec hlay
      have e1 : c' = cf := by have := hi.symm.trans hf'; simp at this; exact this.1.symm
      rw [hrf, hro] at hown2
      rw [← e1]
      exact Option.some.inj (hown.symm.trans hown2)
    have h6 := u_fits hfc hkC hkind (Or.inr hlay) hi hpd hn hfit
    exact W.putFinK hx.1 hx.2.1 hown (hts _ hlk) hi2 hst hcf (by rw [hx.2.2.2.2.2.2.2.2.2]; exact hnm2) (by rw [q2]; exact h6) q1 q3 (by rw [hsl]; exact k2_hasslot (q4 k hkN)) rfl rfl hd done
end QG
def qo_getI (ci k : Nat) : qOp := fun c => match c with
  | (pc, ls, .inr (.inr a) :: r, h) => if (qty h a).1 = ci ∧ k < (qty h a).2 then .inl (pc + 3, ls, qI (h.2 a k) :: r, h) else .inr none
  | _ => .inr none
theorem qk_getI {X : qX} {l : Launch} {K : Nat} {cc : ByteArray} {nL : Nat} {own nm : String} {rt : Option FieldType} {pc : Nat} {ix ci k : Nat} {ref C : String} {T : u_T} {N : Nat} (hF : qFd own ref ix ci k C T N) (hkd : qkind ci k = 0) (hd : decode cc pc = .ok (.getfield ix, 3)) : qOk X l K cc nL own nm rt pc (qo_getI ci k) := by
  intro ls st h
  unfold qo_getI
  constructor
  · intro cfg' hc
    split at hc
    · rename_i heq
      cases heq
      split at hc
      · rename_i hcnd
        cases hc
        refine ⟨qle_eq rfl, ?_⟩
        intro p e R s m args below meth c Q h0 hx hR hle hk H locs lsc hP hS hL hst hle'
        rename_i a r
        have hq : qty h a = (ci, (qty h a).2) := by rw [← hcnd.1]
        obtain ⟨ha, ht⟩ := qty_get hq (by have := hF.2.2.2.1; omega)
        refine qgetW hx hF hd hP hq hcnd.2 ?_
        have k9 := hk H locs lsc hP hS hL (fun v hv => ?_) hle'
        · have e9 : qsv X h ci a.toNat k = qc X (qI (h.2 a k)) := by
            unfold qsv
            rw [hkd, qnat ha]
            rfl
          rw [e9]
          exact k9
        · rcases List.mem_cons.mp hv with rfl | hv
          · have := qrg_fld (hP.2.2 a.toNat _ ht k hcnd.2) hF.2.2.2.1 hkd
            rw [qnat ha] at this
            exact this
          · exact hst v (List.mem_cons_of_mem _ hv)
      · cases hc
    · cases hc
  · intro r h' hc
    split at hc
    · split at hc
      · cases hc
      · cases hc
    · cases hc
def qo_getR (ci k : Nat) : qOp := fun c => match c with
  | (pc, ls, .inr (.inr a) :: r, h) => if (qty h a).1 = ci ∧ k < (qty h a).2 then .inl (pc + 3, ls, qA (h.1.2 a k) :: r, h) else .inr none
  | _ => .inr none
theorem qk_getR {X : qX} {l : Launch} {K : Nat} {cc : ByteArray} {nL : Nat} {own nm : String} {rt : Option FieldType} {pc : Nat} {ix ci k : Nat} {ref C : String} {T : u_T} {N : Nat} (hF : qFd own ref ix ci k C T N) (hkd : qkind ci k = 2) (hd : decode cc pc = .ok (.getfield ix, 3)) : qOk X l K cc nL own nm rt pc (qo_getR ci k) := by
  intro ls st h
  unfold qo_getR
  constructor
  · intro cfg' hc
    split at hc
    · rename_i heq
      cases heq
      split at hc
      · rename_i hcnd
        cases hc
        refine ⟨qle_eq rfl, ?_⟩
        intro p e R s m args below meth c Q h0 hx hR hle hk H locs lsc hP hS hL hst hle'
        rename_i a r
        have hq : qty h a = (ci, (qty h a).2) := by rw [← hcnd.1]
        obtain ⟨ha, ht⟩ := qty_get hq (by have := hF.2.2.2.1; omega)
        refine qgetW hx hF hd hP hq hcnd.2 ?_
        have k9 := hk H locs lsc hP hS hL (fun v hv => ?_) hle'
        · have e9 : qsv X h ci a.toNat k = qc X (qA (h.1.2 a k)) := by
            unfold qsv
            rw [hkd, qnat ha]
            rfl
          rw [e9]
          exact k9
        · rcases List.mem_cons.mp hv with rfl | hv
          · trivial
          · exact hst v (List.mem_cons_of_mem _ hv)
      · cases hc
    · cases hc
  · intro r h' hc
    split at hc
    · split at hc
      · cases hc
      · cases hc
    · cases hc
def qo_getD (ci k : Nat) : qOp := fun c => match c with
  | (pc, ls, .inr (.inr a) :: r, h) => if (qty h a).1 = ci ∧ k < (qty h a).2 then .inl (pc + 3, ls, qA (h.2 a k) :: r, h) else .inr none
  | _ => .inr none
theorem qk_getD {X : qX} {l : Launch} {K : Nat} {cc : ByteArray} {nL : Nat} {own nm : String} {rt : Option FieldType} {pc : Nat} {ix ci k : Nat} {ref C : String} {T : u_T} {N : Nat} (hF : qFd own ref ix ci k C T N) (hkd : qkind ci k = 3) (hd : decode cc pc = .ok (.getfield ix, 3)) : qOk X l K cc nL own nm rt pc (qo_getD ci k) := by
  intro ls st h
  unfold qo_getD
  constructor
  · intro cfg' hc
    split at hc
    · rename_i heq
      cases heq
      split at hc
      · rename_i hcnd
        cases hc
        refine ⟨qle_eq rfl, ?_⟩
        intro p e R s m args below meth c Q h0 hx hR hle hk H locs lsc hP hS hL hst hle'
        rename_i a r
        have hq : qty h a = (ci, (qty h a).2) := by rw [← hcnd.1]
        obtain ⟨ha, ht⟩ := qty_get hq (by have := hF.2.2.2.1; omega)
        refine qgetW hx hF hd hP hq hcnd.2 ?_
        have k9 := hk H locs lsc hP hS hL (fun v hv => ?_) hle'
        · have e9 : qsv X h ci a.toNat k = qc X (qA (h.2 a k)) := by
            unfold qsv
            rw [hkd, qnat ha]
            rfl
          rw [e9]
          exact k9
        · rcases List.mem_cons.mp hv with rfl | hv
          · trivial
          · exact hst v (List.mem_cons_of_mem _ hv)
      · cases hc
    · cases hc
  · intro r h' hc
    split at hc
    · split at hc
      · cases hc
      · cases hc
    · cases hc
def qo_putI (ci k : Nat) : qOp := fun c => match c with
  | (pc, ls, .inl z :: .inr (.inr a) :: r, h) => if (qty h a).1 = ci ∧ k < (qty h a).2 then .inl (pc + 3, ls, r, (h.1, qup h.2 a k z)) else .inr none
  | _ => .inr none
theorem qk_putI {X : qX} {l : Launch} {K : Nat} {cc : ByteArray} {nL : Nat} {own nm : String} {rt : Option FieldType} {pc : Nat} {ix ci k : Nat} {ref C : String} {T : u_T} {N : Nat} {ty : FieldType} {ty0 : Nat → FieldType} (hF : qFd own ref ix ci k C T N) (hty : ∀ k, k < N → parseFieldDescriptor (T k).2.2.1 = some (ty0 k)) (hnm : ∀ a, a < N → ∀ b, b < N → a ≠ b → (T a).2.1 ≠ (T b).2.1) (hfin : (T k).2.2.2 = false ∨ ((T k).2.2.2 = true ∧ nm = "<init>" ∧ ref = own)) (hkd : qkind ci k = 0) (hpd : parseFieldDescriptor (T k).2.2.1 = some .int) (hd : decode cc pc = .ok (.putfield ix, 3)) : qOk X l K cc nL own nm rt pc (qo_putI ci k) := by
  intro ls st h
  unfold qo_putI
  constructor
  · intro cfg' hc
    split at hc
    · rename_i heq
      cases heq
      split at hc
      · rename_i hcnd
        cases hc
        refine ⟨qle_eq rfl, ?_⟩
        intro p e R s m args below meth c Q h0 hx hR hle hk H locs lsc hP hS hL hst hle'
        rename_i z a r
        have hq : qty h a = (ci, (qty h a).2) := by rw [← hcnd.1]
        obtain ⟨ha, ht⟩ := qty_get hq (by have := hF.2.2.2.1; omega)
        have hzok := hst _ List.mem_cons_self
        show W p l e R s m args below meth c H locs _ _ Q (F0 m pc lsc (.int (Int32.ofInt z) :: qr X a :: r.map (qc X)))
        refine qputW (h' := (h.1, qup h.2 a k z)) hx hF ty0 hty hnm hfin hd hP hS hq hcnd.2 hpd rfl rfl rfl ?_ ?_ ?_ ?_ (fun H1 locs1 hP1 hS1 => hk H1 locs1 lsc hP1 hS1 hL (fun v hv => hst v (List.mem_cons_of_mem _ (List.mem_cons_of_mem _ hv))) hle')
        · intro j tm hj hm
          exact qe_up (fun q => hj (by omega))
        · unfold qsv
          rw [hkd, qnat ha]
          show Value.int _ = Value.int (Int32.ofInt (qup h.2 a k z a k))
          rw [qup_self]
        · intro j hj
          unfold qsv
          have e1 : ∀ (M : qMem) (v : Int), qup M a k v (a.toNat : Nat) (j : Nat) = M (a.toNat : Nat) (j : Nat) := fun M v => qup_ne (fun q => hj (by have := q.2; omega))
          simp only [e1]
        · have := qRg_up (id := a.toNat) (k := k) (v := z) hP.2.2 ht (qrg_of_fld hzok (by have := hF.2.2.2.1; omega))
          rw [qnat ha] at this
          exact this
      · cases hc
    · cases hc
  · intro r h' hc
    split at hc
    · split at hc
      · cases hc
      · cases hc
    · cases hc
def qo_putZ (ci k : Nat) : qOp := fun c => match c with
  | (pc, ls, .inl z :: .inr (.inr a) :: r, h) => if (qty h a).1 = ci ∧ k < (qty h a).2 ∧ (z = 0 ∨ z = 1) then .inl (pc + 3, ls, r, (h.1, qup h.2 a k z)) else .inr none
  | _ => .inr none
theorem qk_putZ {X : qX} {l : Launch} {K : Nat} {cc : ByteArray} {nL : Nat} {own nm : String} {rt : Option FieldType} {pc : Nat} {ix ci k : Nat} {ref C : String} {T : u_T} {N : Nat} {ty : FieldType} {ty0 : Nat → FieldType} (hF : qFd own ref ix ci k C T N) (hty : ∀ k, k < N → parseFieldDescriptor (T k).2.2.1 = some (ty0 k)) (hnm : ∀ a, a < N → ∀ b, b < N → a ≠ b → (T a).2.1 ≠ (T b).2.1) (hfin : (T k).2.2.2 = false ∨ ((T k).2.2.2 = true ∧ nm = "<init>" ∧ ref = own)) (hkd : qkind ci k = 0) (hpd : parseFieldDescriptor (T k).2.2.1 = some .boolean) (hd : decode cc pc = .ok (.putfield ix, 3)) : qOk X l K cc nL own nm rt pc (qo_putZ ci k) := by
  intro ls st h
  unfold qo_putZ
  constructor
  · intro cfg' hc
    split at hc
    · rename_i heq
      cases heq
      split at hc
      · rename_i hcnd
        cases hc
        refine ⟨qle_eq rfl, ?_⟩
        intro p e R s m args below meth c Q h0 hx hR hle hk H locs lsc hP hS hL hst hle'
        rename_i z a r
        have hq : qty h a = (ci, (qty h a).2) := by rw [← hcnd.1]
        obtain ⟨ha, ht⟩ := qty_get hq (by have := hF.2.2.2.1; omega)
        have hzok := hst _ List.mem_cons_self
        show W p l e R s m args below meth c H locs _ _ Q (F0 m pc lsc (.int (Int32.ofInt z) :: qr X a :: r.map (qc X)))
        refine qputW (h' := (h.1, qup h.2 a k z)) hx hF ty0 hty hnm hfin hd hP hS hq hcnd.2.1 hpd (by rcases hcnd.2.2 with rfl | rfl <;> rfl) (by rcases hcnd.2.2 with rfl | rfl <;> rfl) rfl ?_ ?_ ?_ ?_ (fun H1 locs1 hP1 hS1 => hk H1 locs1 lsc hP1 hS1 hL (fun v hv => hst v (List.mem_cons_of_mem _ (List.mem_cons_of_mem _ hv))) hle')
        · intro j tm hj hm
          exact qe_up (fun q => hj (by omega))
        · unfold qsv
          rw [hkd, qnat ha]
          show Value.int _ = Value.int (Int32.ofInt (qup h.2 a k z a k))
          rw [qup_self]
        · intro j hj
          unfold qsv
          have e1 : ∀ (M : qMem) (v : Int), qup M a k v (a.toNat : Nat) (j : Nat) = M (a.toNat : Nat) (j : Nat) := fun M v => qup_ne (fun q => hj (by have := q.2; omega))
          simp only [e1]
        · have := qRg_up (id := a.toNat) (k := k) (v := z) hP.2.2 ht (qrg_of_fld hzok (by have := hF.2.2.2.1; omega))
          rw [qnat ha] at this
          exact this
      · cases hc
    · cases hc
  · intro r h' hc
    split at hc
    · split at hc
      · cases hc
      · cases hc
    · cases hc
def qo_putD (ci k : Nat) : qOp := fun c => match c with
  | (pc, ls, .inr (.inr z) :: .inr (.inr a) :: r, h) => if (qty h a).1 = ci ∧ k < (qty h a).2 ∧ 0 ≤ z then .inl (pc + 3, ls, r, (h.1, qup h.2 a k z)) else .inr none
  | _ => .inr none
theorem qk_putD {X : qX} {l : Launch} {K : Nat} {cc : ByteArray} {nL : Nat} {own nm : String} {rt : Option FieldType} {pc : Nat} {ix ci k : Nat} {ref C : String} {T : u_T} {N : Nat} {ty : FieldType} {ty0 : Nat → FieldType} (hF : qFd own ref ix ci k C T N) (hty : ∀ k, k < N → parseFieldDescriptor (T k).2.2.1 = some (ty0 k)) (hnm : ∀ a, a < N → ∀ b, b < N → a ≠ b → (T a).2.1 ≠ (T b).2.1) (hfin : (T k).2.2.2 = false ∨ ((T k).2.2.2 = true ∧ nm = "<init>" ∧ ref = own)) (hkd : qkind ci k = 3) (hpd : parseFieldDescriptor (T k).2.2.1 = some ty) (href : (∃ C2, ty = .object C2) ∨ ∃ t2, ty = .array t2) (hd : decode cc pc = .ok (.putfield ix, 3)) : qOk X l K cc nL own nm rt pc (qo_putD ci k) := by
  intro ls st h
  unfold qo_putD
  constructor
  · intro cfg' hc
    split at hc
    · rename_i heq
      cases heq
      split at hc
      · rename_i hcnd
        cases hc
        refine ⟨qle_eq rfl, ?_⟩
        intro p e R s m args below meth c Q h0 hx hR hle hk H locs lsc hP hS hL hst hle'
        rename_i z a r
        have hq : qty h a = (ci, (qty h a).2) := by rw [← hcnd.1]
        obtain ⟨ha, ht⟩ := qty_get hq (by have := hF.2.2.2.1; omega)
        have hzok := hst _ List.mem_cons_self
        show W p l e R s m args below meth c H locs _ _ Q (F0 m pc lsc (qr X z :: qr X a :: r.map (qc X)))
        refine qputW (h' := (h.1, qup h.2 a k z)) hx hF ty0 hty hnm hfin hd hP hS hq hcnd.2.1 hpd (by rw [qr_of hcnd.2.2]; rcases href with ⟨C2, rfl⟩ | ⟨t2, rfl⟩ <;> rfl) (by rw [qr_of hcnd.2.2]; rcases href with ⟨C2, rfl⟩ | ⟨t2, rfl⟩ <;> rfl) rfl ?_ ?_ ?_ ?_ (fun H1 locs1 hP1 hS1 => hk H1 locs1 lsc hP1 hS1 hL (fun v hv => hst v (List.mem_cons_of_mem _ (List.mem_cons_of_mem _ hv))) hle')
        · intro j tm hj hm
          exact qe_up (fun q => hj (by omega))
        · unfold qsv
          rw [hkd, qnat ha]
          show qr X z = qr X (qup h.2 a k z a k)
          rw [qup_self]
        · intro j hj
          unfold qsv
          have e1 : ∀ (M : qMem) (v : Int), qup M a k v (a.toNat : Nat) (j : Nat) = M (a.toNat : Nat) (j : Nat) := fun M v => qup_ne (fun q => hj (by have := q.2; omega))
          simp only [e1]
        · have := qRg_up (id := a.toNat) (k := k) (v := z) hP.2.2 ht (qrg_free hF.2.2.2.1 (by rw [hkd]; decide))
          rw [qnat ha] at this
          exact this
      · cases hc
    · cases hc
  · intro r h' hc
    split at hc
    · split at hc
      · cases hc
      · cases hc
    · cases hc
theorem qe_upG {X : qX} {T : List (Nat × Nat)} {G M : qMem} {a k v : Int} {j : Nat} {tm : Nat × Nat} (hj : (j : Int) ≠ a) : qe X ((T, qup G a k v), M) j tm = qe X ((T, G), M) j tm := by
  have e : ∀ i : Int, qup G a k v j i = G j i := fun i => qup_ne (fun q => hj q.1)
  unfold qe qsv
  simp only [e]
def qo_putR (ci k : Nat) : qOp := fun c => match c with
  | (pc, ls, .inr (.inr z) :: .inr (.inr a) :: r, h) => if (qty h a).1 = ci ∧ k < (qty h a).2 ∧ 0 ≤ z then .inl (pc + 3, ls, r, ((h.1.1, qup h.1.2 a k z), h.2)) else .inr none
  | _ => .inr none
theorem qk_putR {X : qX} {l : Launch} {K : Nat} {cc : ByteArray} {nL : Nat} {own nm : String} {rt : Option FieldType} {pc : Nat} {ix ci k : Nat} {ref C : String} {T : u_T} {N : Nat} {ty : FieldType} {ty0 : Nat → FieldType} (hF : qFd own ref ix ci k C T N) (hty : ∀ k, k < N → parseFieldDescriptor (T k).2.2.1 = some (ty0 k)) (hnm : ∀ a, a < N → ∀ b, b < N → a ≠ b → (T a).2.1 ≠ (T b).2.1) (hfin : (T k).2.2.2 = false ∨ ((T k).2.2.2 = true ∧ nm = "<init>" ∧ ref = own)) (hkd : qkind ci k = 2) (hpd : parseFieldDescriptor (T k).2.2.1 = some ty) (href : (∃ C2, ty = .object C2) ∨ ∃ t2, ty = .array t2) (hd : decode cc pc = .ok (.putfield ix, 3)) : qOk X l K cc nL own nm rt pc (qo_putR ci k) := by
  intro ls st h
  unfold qo_putR
  constructor
  · intro cfg' hc
    split at hc
    · rename_i heq
      cases heq
      split at hc
      · rename_i hcnd
        cases hc
        refine ⟨qle_eq rfl, ?_⟩
        intro p e R s m args below meth c Q h0 hx hR hle hk H locs lsc hP hS hL hst hle'
        rename_i z a r
        have hq : qty h a = (ci, (qty h a).2) := by rw [← hcnd.1]
        obtain ⟨ha, ht⟩ := qty_get hq (by have := hF.2.2.2.1; omega)
        have hzok := hst _ List.mem_cons_self
        show W p l e R s m args below meth c H locs _ _ Q (F0 m pc lsc (qr X z :: qr X a :: r.map (qc X)))
        refine qputW (h' := ((h.1.1, qup h.1.2 a k z), h.2)) hx hF ty0 hty hnm hfin hd hP hS hq hcnd.2.1 hpd (by rw [qr_of hcnd.2.2]; rcases href with ⟨C2, rfl⟩ | ⟨t2, rfl⟩ <;> rfl) (by rw [qr_of hcnd.2.2]; rcases href with ⟨C2, rfl⟩ | ⟨t2, rfl⟩ <;> rfl) rfl ?_ ?_ ?_ ?_ (fun H1 locs1 hP1 hS1 => hk H1 locs1 lsc hP1 hS1 hL (fun v hv => hst v (List.mem_cons_of_mem _ (List.mem_cons_of_mem _ hv))) hle')
        · intro j tm hj hm
          exact qe_upG (fun q => hj (by omega))
        · unfold qsv
          rw [hkd, qnat ha]
          show qr X z = qr X (qup h.1.2 a k z a k)
          rw [qup_self]
        · intro j hj
          unfold qsv
          have e1 : ∀ (M : qMem) (v : Int), qup M a k v (a.toNat : Nat) (j : Nat) = M (a.toNat : Nat) (j : Nat) := fun M v => qup_ne (fun q => hj (by have := q.2; omega))
          simp only [e1]
        · exact hP.2.2
      · cases hc
    · cases hc
  · intro r h' hc
    split at hc
    · split at hc
      · cases hc
      · cases hc
    · cases hc
def qo_iaload : qOp := fun c => match c with
  | (pc, ls, .inl k :: .inr (.inr a) :: r, h) => if (qty h a).1 = 100 ∧ 0 ≤ k ∧ k < (qty h a).2 then .inl (pc + 1, ls, qI (h.2 a k) :: r, h) else .inr none
  | _ => .inr none
theorem qk_iaload {X : qX} {l : Launch} {K : Nat} {cc : ByteArray} {nL : Nat} {own nm : String} {rt : Option FieldType} {pc : Nat} (hd : decode cc pc = .ok (.iaload, 1)) : qOk X l K cc nL own nm rt pc (qo_iaload) := by
  intro ls st h
  unfold qo_iaload
  constructor
  · intro cfg' hc
    split at hc
    · rename_i heq
      cases heq
      split at hc
      · rename_i hcnd
        cases hc
        refine ⟨qle_eq rfl, ?_⟩
        intro p e R s m args below meth c Q h0 hx hR hle hk H locs lsc hP hS hL hst hle'
        rename_i k a r
        have hq : qty h a = (100, (qty h a).2) := by rw [← hcnd.1]
        obtain ⟨ha, ht⟩ := qty_get hq (by decide)
        have hko : -2147483648 ≤ k ∧ k ≤ 2147483647 := hst (qI k) List.mem_cons_self
        have hkn : k.toNat < (qty h a).2 := by have := hcnd.2.2; omega
        show W p l e R s m args below meth c H locs _ _ Q (F0 m pc lsc (.int (Int32.ofInt k) :: qr X a :: r.map (qc X)))
        rw [qr_of ha]
        have he := qW_get (X := X) ht
        refine va_iald hx.1 hx.2.1 hx.2.2.2.2.2.1.1 hP.2.1 a.toNat 0 he rfl (qint_ix hcnd.2.1 hcnd.2.2 hko) hd ?_
        rw [qint_cl hcnd.2.1 hko, qnat hcnd.2.1, qnat ha]
        refine hk H locs lsc hP hS hL (fun v hv => ?_) hle'
        rcases List.mem_cons.mp hv with rfl | hv
        · have := hP.2.2 a.toNat _ ht k.toNat hkn
          rw [qnat ha, qnat hcnd.2.1] at this
          exact qrg_int this (Or.inl rfl)
        · exact hst v (List.mem_cons_of_mem _ (List.mem_cons_of_mem _ hv))
      · cases hc
    · cases hc
  · intro r h' hc
    split at hc
    · split at hc
      · cases hc
      · cases hc
    · cases hc
def qo_baload : qOp := fun c => match c with
  | (pc, ls, .inl k :: .inr (.inr a) :: r, h) => if (qty h a).1 = 101 ∧ 0 ≤ k ∧ k < (qty h a).2 then .inl (pc + 1, ls, qI (h.2 a k) :: r, h) else .inr none
  | _ => .inr none
theorem qk_baload {X : qX} {l : Launch} {K : Nat} {cc : ByteArray} {nL : Nat} {own nm : String} {rt : Option FieldType} {pc : Nat} (hd : decode cc pc = .ok (.baload, 1)) : qOk X l K cc nL own nm rt pc (qo_baload) := by
  intro ls st h
  unfold qo_baload
  constructor
  · intro cfg' hc
    split at hc
    · rename_i heq
      cases heq
      split at hc
      · rename_i hcnd
        cases hc
        refine ⟨qle_eq rfl, ?_⟩
        intro p e R s m args below meth c Q h0 hx hR hle hk H locs lsc hP hS hL hst hle'
        rename_i k a r
        have hq : qty h a = (101, (qty h a).2) := by rw [← hcnd.1]
        obtain ⟨ha, ht⟩ := qty_get hq (by decide)
        have hko : -2147483648 ≤ k ∧ k ≤ 2147483647 := hst (qI k) List.mem_cons_self
        have hkn : k.toNat < (qty h a).2 := by have := hcnd.2.2; omega
        show W p l e R s m args below meth c H locs _ _ Q (F0 m pc lsc (.int (Int32.ofInt k) :: qr X a :: r.map (qc X)))
        rw [qr_of ha]
        have he := qW_get (X := X) ht
        refine va_bald hx.1 hx.2.1 hx.2.2.2.2.2.1.1 hP.2.1 a.toNat 1 he rfl (qint_ix hcnd.2.1 hcnd.2.2 hko) hd ?_
        rw [qint_cl hcnd.2.1 hko, qnat hcnd.2.1, qnat ha]
        refine hk H locs lsc hP hS hL (fun v hv => ?_) hle'
        rcases List.mem_cons.mp hv with rfl | hv
        · have := hP.2.2 a.toNat _ ht k.toNat hkn
          rw [qnat ha, qnat hcnd.2.1] at this
          exact qrg_int this (Or.inr (Or.inl rfl))
        · exact hst v (List.mem_cons_of_mem _ (List.mem_cons_of_mem _ hv))
      · cases hc
    · cases hc
  · intro r h' hc
    split at hc
    · split at hc
      · cases hc
      · cases hc
    · cases hc
def qo_zaload : qOp := fun c => match c with
  | (pc, ls, .inl k :: .inr (.inr a) :: r, h) => if (qty h a).1 = 102 ∧ 0 ≤ k ∧ k < (qty h a).2 then .inl (pc + 1, ls, qI (h.2 a k) :: r, h) else .inr none
  | _ => .inr none
theorem qk_zaload {X : qX} {l : Launch} {K : Nat} {cc : ByteArray} {nL : Nat} {own nm : String} {rt : Option FieldType} {pc : Nat} (hd : decode cc pc = .ok (.baload, 1)) : qOk X l K cc nL own nm rt pc (qo_zaload) := by
  intro ls st h
  unfold qo_zaload
  constructor
  · intro cfg' hc
    split at hc
    · rename_i heq
      cases heq
      split at hc
      · rename_i hcnd
        cases hc
        refine ⟨qle_eq rfl, ?_⟩
        intro p e R s m args below meth c Q h0 hx hR hle hk H locs lsc hP hS hL hst hle'
        rename_i k a r
        have hq : qty h a = (102, (qty h a).2) := by rw [← hcnd.1]
        obtain ⟨ha, ht⟩ := qty_get hq (by decide)
        have hko : -2147483648 ≤ k ∧ k ≤ 2147483647 := hst (qI k) List.mem_cons_self
        have hkn : k.toNat < (qty h a).2 := by have := hcnd.2.2; omega
        show W p l e R s m args below meth c H locs _ _ Q (F0 m pc lsc (.int (Int32.ofInt k) :: qr X a :: r.map (qc X)))
        rw [qr_of ha]
        have he := qW_get (X := X) ht
        refine va_zald hx.1 hx.2.1 hx.2.2.2.2.2.1.1 hP.2.1 a.toNat 2 he rfl (qint_ix hcnd.2.1 hcnd.2.2 hko) hd ?_
        rw [qint_cl hcnd.2.1 hko, qnat hcnd.2.1, qnat ha]
        refine hk H locs lsc hP hS hL (fun v hv => ?_) hle'
        rcases List.mem_cons.mp hv with rfl | hv
        · have := hP.2.2 a.toNat _ ht k.toNat hkn
          rw [qnat ha, qnat hcnd.2.1] at this
          exact qrg_int this (Or.inr (Or.inr rfl))
        · exact hst v (List.mem_cons_of_mem _ (List.mem_cons_of_mem _ hv))
      · cases hc
    · cases hc
  · intro r h' hc
    split at hc
    · split at hc
      · cases hc
      · cases hc
    · cases hc
def qo_laload : qOp := fun c => match c with
  | (pc, ls, .inl k :: .inr (.inr a) :: r, h) => if (qty h a).1 = 103 ∧ 0 ≤ k ∧ k < (qty h a).2 then .inl (pc + 1, ls, qJ (h.2 a k) :: r, h) else .inr none
  | _ => .inr none
theorem qk_laload {X : qX} {l : Launch} {K : Nat} {cc : ByteArray} {nL : Nat} {own nm : String} {rt : Option FieldType} {pc : Nat} (hd : decode cc pc = .ok (.laload, 1)) : qOk X l K cc nL own nm rt pc (qo_laload) := by
  intro ls st h
  unfold qo_laload
  constructor
  · intro cfg' hc
    split at hc
    · rename_i heq
      cases heq
      split at hc
      · rename_i hcnd
        cases hc
        refine ⟨qle_eq rfl, ?_⟩
        intro p e R s m args below meth c Q h0 hx hR hle hk H locs lsc hP hS hL hst hle'
        rename_i k a r
        have hq : qty h a = (103, (qty h a).2) := by rw [← hcnd.1]
        obtain ⟨ha, ht⟩ := qty_get hq (by decide)
        have hko : -2147483648 ≤ k ∧ k ≤ 2147483647 := hst (qI k) List.mem_cons_self
        have hkn : k.toNat < (qty h a).2 := by have := hcnd.2.2; omega
        show W p l e R s m args below meth c H locs _ _ Q (F0 m pc lsc (.int (Int32.ofInt k) :: qr X a :: r.map (qc X)))
        rw [qr_of ha]
        have he := qW_get (X := X) ht
        refine va_lald hx.1 hx.2.1 hx.2.2.2.2.2.1.1 hP.2.1 a.toNat 3 he rfl (qint_ix hcnd.2.1 hcnd.2.2 hko) hd ?_
        rw [qint_cl hcnd.2.1 hko, qnat hcnd.2.1, qnat ha]
        refine hk H locs lsc hP hS hL (fun v hv => ?_) hle'
        rcases List.mem_cons.mp hv with rfl | hv
        · have := hP.2.2 a.toNat _ ht k.toNat hkn
          rw [qnat ha, qnat hcnd.2.1] at this
          exact this
        · exact hst v (List.mem_cons_of_mem _ (List.mem_cons_of_mem _ hv))
      · cases hc
    · cases hc
  · intro r h' hc
    split at hc
    · split at hc
      · cases hc
      · cases hc
    · cases hc
def qo_iastore : qOp := fun c => match c with
  | (pc, ls, .inl z :: .inl k :: .inr (.inr a) :: r, h) => if (qty h a).1 = 100 ∧ 0 ≤ k ∧ k < (qty h a).2 then .inl (pc + 1, ls, r, (h.1, qup h.2 a k z)) else .inr none
  | _ => .inr none
theorem qk_iastore {X : qX} {l : Launch} {K : Nat} {cc : ByteArray} {nL : Nat} {own nm : String} {rt : Option FieldType} {pc : Nat} (hd : decode cc pc = .ok (.iastore, 1)) : qOk X l K cc nL own nm rt pc (qo_iastore) := by
  intro ls st h
  unfold qo_iastore
  constructor
  · intro cfg' hc
    split at hc
    · rename_i heq
      cases heq
      split at hc
      · rename_i hcnd
        cases hc
        refine ⟨qle_eq rfl, ?_⟩
        intro p e R s m args below meth c Q h0 hx hR hle hk H locs lsc hP hS hL hst hle'
        rename_i z k a r
        have hq : qty h a = (100, (qty h a).2) := by rw [← hcnd.1]
        obtain ⟨ha, ht⟩ := qty_get hq (by decide)
        have hzok := hst _ List.mem_cons_self
        have hko : -2147483648 ≤ k ∧ k ≤ 2147483647 := hst (qI k) (List.mem_cons_of_mem _ List.mem_cons_self)
        have hk1 : k < (qty h a).2 := hcnd.2.2
        have hk0 : 0 ≤ k := hcnd.2.1
        have hkn : k.toNat < (qty h a).2 := by omega
        show W p l e R s m args below meth c H locs _ _ Q (F0 m pc lsc (.int (Int32.ofInt z) :: .int (Int32.ofInt k) :: qr X a :: r.map (qc X)))
        rw [qr_of ha]
        have he := qW_get (X := X) ht
        have hcell : H[X.1 + a.toNat]? = some (vp_cell (X.2.2.2 100) ((qty h a).2, .inl (fun j => Int32.ofInt (h.2 (a.toNat : Nat) j)))) := hP.2.1 a.toNat _ he
        refine W.iast hx.1 hx.2.1 hcell ((hx.2.2.2.2.2.1.1.2 0 _ rfl).1 _ _) (fun q => by cases q) (by show ¬ (_ < 0 ∨ (arrV _ _ _).slots.size ≤ _); rw [arrV_size]; exact qint_ix hk0 hk1 hko) rfl rfl hd fun H1 e1 z1 o1 => ?_
        rw [qint_cl hk0 hko] at e1
        refine hk H1 _ lsc (qP_put (h' := (h.1, qup h.2 a k z)) hP ht rfl (fun j tm hj hm => qe_up (fun q => hj (by omega))) ?_ z1 o1 ?_) (hS.put z1 o1 (by show X.1 ≤ X.1 + a.toNat; omega)) hL (fun v hv => hst v (List.mem_cons_of_mem _ (List.mem_cons_of_mem _ (List.mem_cons_of_mem _ hv)))) hle'
        · show H1[X.1 + a.toNat]? = some (vp_cell _ _)
          rw [e1]
          rw [vp_cell_i, vp_cell_i, arrV_store]
          congr 2
          funext j
          unfold updV
          show _ = Value.int (Int32.ofInt (qup h.2 a k z (a.toNat : Nat) j))
          rw [qnat ha]
          by_cases hj : j = k.toNat
          · subst hj
            rw [if_pos rfl, qnat hk0, qup_self]
          · rw [if_neg hj, qup_ne (fun q => hj (by have := q.2; omega))]
        · have := qRg_up (id := a.toNat) (k := k.toNat) (v := z) hP.2.2 ht (qrg_of_fld hzok (Nat.le_refl 100))
          rw [qnat ha, qnat hk0] at this
          exact this
      · cases hc
    · cases hc
  · intro r h' hc
    split at hc
    · split at hc
      · cases hc
      · cases hc
    · cases hc
theorem qnarB {z : Int} (h : -128 ≤ z ∧ z ≤ 127) : narrow .byte (.int (Int32.ofInt z)) = .int (Int32.ofInt z) := by
  show Value.int (Int32.ofInt z).toInt8.toInt32 = _
  congr 1
  apply Int32.toInt_inj.mp
  rw [Int8.toInt_toInt32, Int32.toInt_toInt8, qint_of (by omega), Int.bmod_eq_of_le (by omega) (by omega)]
def qo_bastore : qOp := fun c => match c with
  | (pc, ls, .inl z :: .inl k :: .inr (.inr a) :: r, h) => if (qty h a).1 = 101 ∧ 0 ≤ k ∧ k < (qty h a).2 ∧ -128 ≤ z ∧ z ≤ 127 then .inl (pc + 1, ls, r, (h.1, qup h.2 a k z)) else .inr none
  | _ => .inr none
theorem qk_bastore {X : qX} {l : Launch} {K : Nat} {cc : ByteArray} {nL : Nat} {own nm : String} {rt : Option FieldType} {pc : Nat} (hd : decode cc pc = .ok (.bastore, 1)) : qOk X l K cc nL own nm rt pc (qo_bastore) := by
  intro ls st h
  unfold qo_bastore
  constructor
  · intro cfg' hc
    split at hc
    · rename_i heq
      cases heq
      split at hc
      · rename_i hcnd
        cases hc
        refine ⟨qle_eq rfl, ?_⟩
        intro p e R s m args below meth c Q h0 hx hR hle hk H locs lsc hP hS hL hst hle'
        rename_i z k a r
        have hq : qty h a = (101, (qty h a).2) := by rw [← hcnd.1]
        obtain ⟨ha, ht⟩ := qty_get hq (by decide)
        have hzok := hst _ List.mem_cons_self
        have hko : -2147483648 ≤ k ∧ k ≤ 2147483647 := hst (qI k) (List.mem_cons_of_mem _ List.mem_cons_self)
        have hk1 : k < (qty h a).2 := hcnd.2.2.1
        have hk0 : 0 ≤ k := hcnd.2.1
        have hkn : k.toNat < (qty h a).2 := by omega
        show W p l e R s m args below meth c H locs _ _ Q (F0 m pc lsc (.int (Int32.ofInt z) :: .int (Int32.ofInt k) :: qr X a :: r.map (qc X)))
        rw [qr_of ha]
        have he := qW_get (X := X) ht
        have hcell : H[X.1 + a.toNat]? = some (vp_cell (X.2.2.2 101) ((qty h a).2, .inl (fun j => Int32.ofInt (h.2 (a.toNat : Nat) j)))) := hP.2.1 a.toNat _ he
        refine W.bast hx.1 hx.2.1 hcell ((hx.2.2.2.2.2.1.1.2 1 _ rfl).1 _ _) (fun q => by cases q) (by show ¬ (_ < 0 ∨ (arrV _ _ _).slots.size ≤ _); rw [arrV_size]; exact qint_ix hk0 hk1 hko) rfl rfl hd fun H1 e1 z1 o1 => ?_
        rw [qint_cl hk0 hko] at e1
        refine hk H1 _ lsc (qP_put (h' := (h.1, qup h.2 a k z)) hP ht rfl (fun j tm hj hm => qe_up (fun q => hj (by omega))) ?_ z1 o1 ?_) (hS.put z1 o1 (by show X.1 ≤ X.1 + a.toNat; omega)) hL (fun v hv => hst v (List.mem_cons_of_mem _ (List.mem_cons_of_mem _ (List.mem_cons_of_mem _ hv)))) hle'
        · show H1[X.1 + a.toNat]? = some (vp_cell _ _)
          rw [e1, show narrow .byte (.int (Int32.ofInt z)) = .int (Int32.ofInt z) from qnarB hcnd.2.2.2]
          rw [vp_cell_i, vp_cell_i, arrV_store]
          congr 2
          funext j
          unfold updV
          show _ = Value.int (Int32.ofInt (qup h.2 a k z (a.toNat : Nat) j))
          rw [qnat ha]
          by_cases hj : j = k.toNat
          · subst hj
            rw [if_pos rfl, qnat hk0, qup_self]
          · rw [if_neg hj, qup_ne (fun q => hj (by have := q.2; omega))]
        · have := qRg_up (id := a.toNat) (k := k.toNat) (v := z) hP.2.2 ht (hcnd.2.2.2)
          rw [qnat ha, qnat hk0] at this
          exact this
      · cases hc
    · cases hc
  · intro r h' hc
    split at hc
    · split at hc
      · cases hc
      · cases hc
    · cases hc
def qo_zastore : qOp := fun c => match c with
  | (pc, ls, .inl z :: .inl k :: .inr (.inr a) :: r, h) => if (qty h a).1 = 102 ∧ 0 ≤ k ∧ k < (qty h a).2 ∧ (z = 0 ∨ z = 1) then .inl (pc + 1, ls, r, (h.1, qup h.2 a k z)) else .inr none
  | _ => .inr none
theorem qk_zastore {X : qX} {l : Launch} {K : Nat} {cc : ByteArray} {nL : Nat} {own nm : String} {rt : Option FieldType} {pc : Nat} (hd : decode cc pc = .ok (.bastore, 1)) : qOk X l K cc nL own nm rt pc (qo_zastore) := by
  intro ls st h
  unfold qo_zastore
  constructor
  · intro cfg' hc
    split at hc
    · rename_i heq
      cases heq
      split at hc
      · rename_i hcnd
        cases hc
        refine ⟨qle_eq rfl, ?_⟩
        intro p e R s m args below meth c Q h0 hx hR hle hk H locs lsc hP hS hL hst hle'
        rename_i z k a r
        have hq : qty h a = (102, (qty h a).2) := by rw [← hcnd.1]
        obtain ⟨ha, ht⟩ := qty_get hq (by decide)
        have hzok := hst _ List.mem_cons_self
        have hko : -2147483648 ≤ k ∧ k ≤ 2147483647 := hst (qI k) (List.mem_cons_of_mem _ List.mem_cons_self)
        have hk1 : k < (qty h a).2 := hcnd.2.2.1
        have hk0 : 0 ≤ k := hcnd.2.1
        have hkn : k.toNat < (qty h a).2 := by omega
        show W p l e R s m args below meth c H locs _ _ Q (F0 m pc lsc (.int (Int32.ofInt z) :: .int (Int32.ofInt k) :: qr X a :: r.map (qc X)))
        rw [qr_of ha]
        have he := qW_get (X := X) ht
        have hcell : H[X.1 + a.toNat]? = some (vp_cell (X.2.2.2 102) ((qty h a).2, .inl (fun j => Int32.ofInt (h.2 (a.toNat : Nat) j)))) := hP.2.1 a.toNat _ he
        refine W.zast hx.1 hx.2.1 hcell ((hx.2.2.2.2.2.1.1.2 2 _ rfl).1 _ _) (fun q => by cases q) (by show ¬ (_ < 0 ∨ (arrV _ _ _).slots.size ≤ _); rw [arrV_size]; exact qint_ix hk0 hk1 hko) rfl rfl hd fun H1 e1 z1 o1 => ?_
        rw [qint_cl hk0 hko] at e1
        refine hk H1 _ lsc (qP_put (h' := (h.1, qup h.2 a k z)) hP ht rfl (fun j tm hj hm => qe_up (fun q => hj (by omega))) ?_ z1 o1 ?_) (hS.put z1 o1 (by show X.1 ≤ X.1 + a.toNat; omega)) hL (fun v hv => hst v (List.mem_cons_of_mem _ (List.mem_cons_of_mem _ (List.mem_cons_of_mem _ hv)))) hle'
        · show H1[X.1 + a.toNat]? = some (vp_cell _ _)
          rw [e1, show narrow .boolean (.int (Int32.ofInt z)) = .int (Int32.ofInt z) by (rcases hcnd.2.2.2 with rfl | rfl <;> rfl)]
          rw [vp_cell_i, vp_cell_i, arrV_store]
          congr 2
          funext j
          unfold updV
          show _ = Value.int (Int32.ofInt (qup h.2 a k z (a.toNat : Nat) j))
          rw [qnat ha]
          by_cases hj : j = k.toNat
          · subst hj
            rw [if_pos rfl, qnat hk0, qup_self]
          · rw [if_neg hj, qup_ne (fun q => hj (by have := q.2; omega))]
        · have := qRg_up (id := a.toNat) (k := k.toNat) (v := z) hP.2.2 ht (show (0 : Int) ≤ z ∧ z ≤ 1 by rcases hcnd.2.2.2 with rfl | rfl <;> omega)
          rw [qnat ha, qnat hk0] at this
          exact this
      · cases hc
    · cases hc
  · intro r h' hc
    split at hc
    · split at hc
      · cases hc
      · cases hc
    · cases hc
def qo_lastore : qOp := fun c => match c with
  | (pc, ls, .inr (.inl z) :: .inl k :: .inr (.inr a) :: r, h) => if (qty h a).1 = 103 ∧ 0 ≤ k ∧ k < (qty h a).2 then .inl (pc + 1, ls, r, (h.1, qup h.2 a k z)) else .inr none
  | _ => .inr none
theorem qk_lastore {X : qX} {l : Launch} {K : Nat} {cc : ByteArray} {nL : Nat} {own nm : String} {rt : Option FieldType} {pc : Nat} (hd : decode cc pc = .ok (.lastore, 1)) : qOk X l K cc nL own nm rt pc (qo_lastore) := by
  intro ls st h
  unfold qo_lastore
  constructor
  · intro cfg' hc
    split at hc
    · rename_i heq
      cases heq
      split at hc
      · rename_i hcnd
        cases hc
        refine ⟨qle_eq rfl, ?_⟩
        intro p e R s m args below meth c Q h0 hx hR hle hk H locs lsc hP hS hL hst hle'
        rename_i z k a r
        have hq : qty h a = (103, (qty h a).2) := by rw [← hcnd.1]
        obtain ⟨ha, ht⟩ := qty_get hq (by decide)
        have hzok := hst _ List.mem_cons_self
        have hko : -2147483648 ≤ k ∧ k ≤ 2147483647 := hst (qI k) (List.mem_cons_of_mem _ List.mem_cons_self)
        have hk1 : k < (qty h a).2 := hcnd.2.2
        have hk0 : 0 ≤ k := hcnd.2.1
        have hkn : k.toNat < (qty h a).2 := by omega
        show W p l e R s m args below meth c H locs _ _ Q (F0 m pc lsc (.long (Int64.ofInt z) :: .int (Int32.ofInt k) :: qr X a :: r.map (qc X)))
        rw [qr_of ha]
        have he := qW_get (X := X) ht
        have hcell : H[X.1 + a.toNat]? = some (vp_cell (X.2.2.2 103) ((qty h a).2, .inr (.inl (fun j => Int64.ofInt (h.2 (a.toNat : Nat) j))))) := hP.2.1 a.toNat _ he
        refine W.last hx.1 hx.2.1 hcell ((hx.2.2.2.2.2.1.1.2 3 _ rfl).1 _ _) (fun q => by cases q) (by show ¬ (_ < 0 ∨ (arrV _ _ _).slots.size ≤ _); rw [arrV_size]; exact qint_ix hk0 hk1 hko) rfl rfl hd fun H1 e1 z1 o1 => ?_
        rw [qint_cl hk0 hko] at e1
        refine hk H1 _ lsc (qP_put (h' := (h.1, qup h.2 a k z)) hP ht rfl (fun j tm hj hm => qe_up (fun q => hj (by omega))) ?_ z1 o1 ?_) (hS.put z1 o1 (by show X.1 ≤ X.1 + a.toNat; omega)) hL (fun v hv => hst v (List.mem_cons_of_mem _ (List.mem_cons_of_mem _ (List.mem_cons_of_mem _ hv)))) hle'
        · show H1[X.1 + a.toNat]? = some (vp_cell _ _)
          rw [e1]
          rw [vp_cell_l, vp_cell_l, arrV_store]
          congr 2
          funext j
          unfold updV
          show _ = Value.long (Int64.ofInt (qup h.2 a k z (a.toNat : Nat) j))
          rw [qnat ha]
          by_cases hj : j = k.toNat
          · subst hj
            rw [if_pos rfl, qnat hk0, qup_self]
          · rw [if_neg hj, qup_ne (fun q => hj (by have := q.2; omega))]
        · have := qRg_up (id := a.toNat) (k := k.toNat) (v := z) hP.2.2 ht (hzok)
          rw [qnat ha, qnat hk0] at this
          exact this
      · cases hc
    · cases hc
  · intro r h' hc
    split at hc
    · split at hc
      · cases hc
      · cases hc
    · cases hc
def qo_alen : qOp := fun c => match c with
  | (pc, ls, .inr (.inr a) :: r, h) => if 100 ≤ (qty h a).1 ∧ (qty h a).1 ≤ 106 ∧ (qty h a).2 ≤ 2147483647 then .inl (pc + 1, ls, qI (qty h a).2 :: r, h) else .inr none
  | _ => .inr none
theorem qk_alen {X : qX} {l : Launch} {K : Nat} {cc : ByteArray} {nL : Nat} {own nm : String} {rt : Option FieldType} {pc : Nat} (hd : decode cc pc = .ok (.arraylength, 1)) : qOk X l K cc nL own nm rt pc qo_alen := by
  intro ls st h
  unfold qo_alen
  constructor
  · intro cfg' hc
    split at hc
    · rename_i heq
      cases heq
      split at hc
      · rename_i hcnd
        cases hc
        refine ⟨qle_eq rfl, ?_⟩
        intro p e R s m args below meth c Q h0 hx hR hle hk H locs lsc hP hS hL hst hle'
        rename_i a r
        generalize hg : qty h a = tn at hcnd hk ⊢
        obtain ⟨t, n⟩ := tn
        dsimp only at hcnd
        obtain ⟨ha, ht⟩ := qty_get hg (by omega)
        show W p l e R s m args below meth c H locs _ _ Q (F0 m pc lsc (qr X a :: r.map (qc X)))
        rw [qr_of ha]
        have he := qW_get (X := X) ht
        have k9 := hk H locs lsc hP hS hL (fun v hv => ?_) hle'
        · obtain ⟨x, hx9⟩ : ∃ x : vp_A, qe X h a.toNat (t, n) = .inl (X.2.2.2 t, x) ∧ x.1 = n := by
            rcases (show t < 103 ∨ t = 103 ∨ 103 < t by omega) with q | q | q
            · exact ⟨_, qe_int hcnd.1 q, rfl⟩
            · subst q; exact ⟨_, qe_long, rfl⟩
            · exact ⟨_, qe_ref q, rfl⟩
          rw [hx9.1] at he
          have htys : ∃ ty, (qtys X)[t - 100]? = some (X.2.2.2 t, ty) := by
            obtain ⟨j, rfl⟩ : ∃ j, t = 100 + j := ⟨t - 100, by omega⟩
            have hj : j ≤ 6 := by omega
            rw [show 100 + j - 100 = j by omega]
            match j, hj with
            | 0, _ => exact ⟨_, rfl⟩
            | 1, _ => exact ⟨_, rfl⟩
            | 2, _ => exact ⟨_, rfl⟩
            | 3, _ => exact ⟨_, rfl⟩
            | 4, _ => exact ⟨_, rfl⟩
            | 5, _ => exact ⟨_, rfl⟩
            | 6, _ => exact ⟨_, rfl⟩
          obtain ⟨ty, hty⟩ := htys
          refine va_alen hx.1 hx.2.1 hx.2.2.2.2.2.1.1 hP.2.1 a.toNat (t - 100) he hty (v := Int32.ofInt n) ?_ hd k9
          rw [hx9.2, Int32.ofInt_eq_ofNat]
        · rcases List.mem_cons.mp hv with rfl | hv
          · show -2147483648 ≤ (n : Int) ∧ (n : Int) ≤ 2147483647
            omega
          · exact hst v (List.mem_cons_of_mem _ hv)
      · cases hc
    · cases hc
  · intro r h' hc
    split at hc
    · split at hc
      · cases hc
      · cases hc
    · cases hc
