/-! Object.<init>, Math, System.arraycopy, what lies outside -/
def qo_oinit : qOp := fun c => match c with
  | (pc, ls, .inr (.inr a) :: r, h) => if 0 ≤ a ∧ (r.map qcat).sum ≤ 8 then .inl (pc + 3, ls, r, h) else .inr none
  | _ => .inr none
theorem qk_oinit {X : qX} {l : Launch} {K : Nat} {cc : ByteArray} {nL : Nat} {own nm : String} {rt : Option FieldType} {pc : Nat} {ix : Nat} (hK : 1 ≤ K) (w1 : Cond.methodLink own ix objectInit ∈ qT) (w2 : Cond.instanceMethod objectInit ∈ qT) (w3 : Cond.code objectInit ⟨#[0xb1]⟩ 1 none ∈ qT) (hd : decode cc pc = .ok (.invokespecial ix, 3)) : qOk X l K cc nL own nm rt pc qo_oinit := by
  intro ls st h
  unfold qo_oinit
  constructor
  · intro cfg' hcg
    split at hcg
    · rename_i heq
      cases heq
      split at hcg
      · rename_i hcnd
        cases hcg
        refine ⟨qle_rf _, ?_⟩
        intro p e R s m args below meth c Q h0 hx hR hle hk H locs lsc hP hS hL hst hle'
        rename_i a r
        have hts := hx.2.2.2.2.1
        have hfr := hx.2.2.2.2.2.2.2.1
        have hlo := hx.2.2.2.2.2.2.2.2.1
        show W p l e R s m args below meth c H locs _ _ Q (F0 m pc lsc (qr X a :: r.map (qc X)))
        rw [qr_of hcnd.1]
        exact W.objInit hx.1 hx.2.1 hx.2.2.2.1 (hts _ w1) (hts _ w2) (hts _ w3) rfl (by rw [hx.2.2.1]; exact hL.1) rfl hd (Nat.le_trans hK hfr) (by rw [qcat_sum]; have := hcnd.2; show 2 * 0 + _ + 12 ≤ _; omega)
          (hk H locs lsc hP hS hL (fun v hv => hst v (List.mem_cons_of_mem _ hv)) hle')
      · cases hcg
    · cases hcg
  · intro r h' hcg
    split at hcg
    · split at hcg
      · cases hcg
      · cases hcg
    · cases hcg
def qo_mmin : qOp := fun c => match c with
  | (pc, ls, .inl b :: .inl a :: r, h) => if (r.map qcat).sum ≤ 8 then .inl (pc + 3, ls, qI (min a b) :: r, h) else .inr none
  | _ => .inr none
theorem qk_mmin {X : qX} {l : Launch} {K : Nat} {cc : ByteArray} {nL : Nat} {own nm : String} {rt : Option FieldType} {pc : Nat} {ix : Nat} (hK : 1 ≤ K) (w1 : Cond.methodLink own ix Lib.Math.min.name ∈ qT) (w2 : Cond.static Lib.Math.min.name ∈ qT) (w3 : Cond.initialized "java/lang/Math" ∈ qT) (w4 : Cond.code Lib.Math.min.name Lib.Math.min.code 2 (some .int) ∈ qT) (hd : decode cc pc = .ok (.invokestatic ix, 3)) : qOk X l K cc nL own nm rt pc qo_mmin := by
  intro ls st h
  unfold qo_mmin
  constructor
  · intro cfg' hcg
    split at hcg
    · rename_i heq
      cases heq
      split at hcg
      · rename_i hcnd
        cases hcg
        refine ⟨qle_rf _, ?_⟩
        intro p e R s m args below meth c Q h0 hx hR hle hk H locs lsc hP hS hL hst hle'
        rename_i b a r
        have hts := hx.2.2.2.2.1
        have hfr := hx.2.2.2.2.2.2.2.1
        have hlo := hx.2.2.2.2.2.2.2.2.1
        have hb : -2147483648 ≤ b ∧ b ≤ 2147483647 := hst (qI b) List.mem_cons_self
        have ha : -2147483648 ≤ a ∧ a ≤ 2147483647 := hst (qI a) (List.mem_cons_of_mem _ List.mem_cons_self)
        have hok : qok (qI (min a b)) := by
          show -2147483648 ≤ min a b ∧ min a b ≤ 2147483647
          omega
        refine va_mmin hx.1 hx.2.1 (by rw [hx.2.2.1]; exact hL.1.symm) hx.2.2.2.1 (hts _ w1) (hts _ w2) (hts _ w3) (hts _ w4) (Nat.le_trans hK hfr) (by rw [qcat_sum]; omega) hR.1 hR.2 hd ?_
        have k9 := hk H locs lsc hP hS hL (fun v hv => by
          rcases List.mem_cons.mp hv with rfl | hv
          · exact hok
          · exact hst v (List.mem_cons_of_mem _ (List.mem_cons_of_mem _ hv))) hle'
        have e9 : (if Int32.ofInt b < Int32.ofInt a then Int32.ofInt b else Int32.ofInt a) = Int32.ofInt (min a b) := by
          by_cases hq : b < a
          · rw [if_pos ((qq_lt hb ha).mpr hq)]
            congr 1
            omega
          · rw [if_neg (fun z => hq ((qq_lt hb ha).mp z))]
            congr 1
            omega
        rw [e9]
        exact k9
      · cases hcg
    · cases hcg
  · intro r h' hcg
    split at hcg
    · split at hcg
      · cases hcg
      · cases hcg
    · cases hcg
def qo_mmax : qOp := fun c => match c with
  | (pc, ls, .inl b :: .inl a :: r, h) => if (r.map qcat).sum ≤ 8 then .inl (pc + 3, ls, qI (max a b) :: r, h) else .inr none
  | _ => .inr none
theorem qk_mmax {X : qX} {l : Launch} {K : Nat} {cc : ByteArray} {nL : Nat} {own nm : String} {rt : Option FieldType} {pc : Nat} {ix : Nat} (hK : 1 ≤ K) (w1 : Cond.methodLink own ix Lib.Math.max.name ∈ qT) (w2 : Cond.static Lib.Math.max.name ∈ qT) (w3 : Cond.initialized "java/lang/Math" ∈ qT) (w4 : Cond.code Lib.Math.max.name Lib.Math.max.code 2 (some .int) ∈ qT) (hd : decode cc pc = .ok (.invokestatic ix, 3)) : qOk X l K cc nL own nm rt pc qo_mmax := by
  intro ls st h
  unfold qo_mmax
  constructor
  · intro cfg' hcg
    split at hcg
    · rename_i heq
      cases heq
      split at hcg
      · rename_i hcnd
        cases hcg
        refine ⟨qle_rf _, ?_⟩
        intro p e R s m args below meth c Q h0 hx hR hle hk H locs lsc hP hS hL hst hle'
        rename_i b a r
        have hts := hx.2.2.2.2.1
        have hfr := hx.2.2.2.2.2.2.2.1
        have hlo := hx.2.2.2.2.2.2.2.2.1
        have hb : -2147483648 ≤ b ∧ b ≤ 2147483647 := hst (qI b) List.mem_cons_self
        have ha : -2147483648 ≤ a ∧ a ≤ 2147483647 := hst (qI a) (List.mem_cons_of_mem _ List.mem_cons_self)
        have hok : qok (qI (max a b)) := by
          show -2147483648 ≤ max a b ∧ max a b ≤ 2147483647
          omega
        refine va_mmax hx.1 hx.2.1 (by rw [hx.2.2.1]; exact hL.1.symm) hx.2.2.2.1 (hts _ w1) (hts _ w2) (hts _ w3) (hts _ w4) (Nat.le_trans hK hfr) (by rw [qcat_sum]; omega) hR.1 hR.2 hd ?_
        have k9 := hk H locs lsc hP hS hL (fun v hv => by
          rcases List.mem_cons.mp hv with rfl | hv
          · exact hok
          · exact hst v (List.mem_cons_of_mem _ (List.mem_cons_of_mem _ hv))) hle'
        have e9 : (if Int32.ofInt a < Int32.ofInt b then Int32.ofInt b else Int32.ofInt a) = Int32.ofInt (max a b) := by
          by_cases hq : a < b
          · rw [if_pos ((qq_lt ha hb).mpr hq)]
            congr 1
            omega
          · rw [if_neg (fun z => hq ((qq_lt ha hb).mp z))]
            congr 1
            omega
        rw [e9]
        exact k9
      · cases hcg
    · cases hcg
  · intro r h' hcg
    split at hcg
    · split at hcg
      · cases hcg
      · cases hcg
    · cases hcg
/-- n numbers of the row a, from sp on, come to the row d, from dp on -/
def qcp (M : qMem) (a sp d dp n : Int) : qMem := fun a' k => if a' = d ∧ dp ≤ k ∧ k < dp + n then M a (sp + (k - dp)) else M a' k
theorem qcp_ne {M : qMem} {a sp d dp n a' k : Int} (h : a' ≠ d) : qcp M a sp d dp n a' k = M a' k := if_neg (fun q => h q.1)
theorem qe_cp {X : qX} {T : List (Nat × Nat) × qMem} {M : qMem} {a sp d dp n : Int} {j : Nat} {tm : Nat × Nat} (hj : (j : Int) ≠ d) : qe X (T, qcp M a sp d dp n) j tm = qe X (T, M) j tm := by
  have e : ∀ i : Int, qcp M a sp d dp n j i = M j i := fun i => qcp_ne hj
  unfold qe qsv
  simp only [e]
theorem qint_cl2 {z : Int} (h0 : 0 ≤ z) (hz : -2147483648 ≤ z ∧ z ≤ 2147483647) : (Int32.ofInt z).toInt = z := qint_of hz
def qo_copy (t : Nat) : qOp := fun c => match c with
  | (pc, ls, .inl n :: .inl dp :: .inr (.inr d) :: .inl sp :: .inr (.inr a) :: r, h) => if ((qty h a).1 = t ∧ (qty h d).1 = t) ∧ (0 ≤ sp ∧ 0 ≤ dp ∧ 0 ≤ n) ∧ (sp + n ≤ (qty h a).2 ∧ dp + n ≤ (qty h d).2) ∧ (r.map qcat).sum ≤ 8 then .inl (pc + 3, ls, r, (h.1, qcp h.2 a sp d dp n)) else .inr none
  | _ => .inr none
theorem qk_copy {X : qX} {l : Launch} {K : Nat} {cc : ByteArray} {nL : Nat} {own nm : String} {rt : Option FieldType} {pc : Nat} {ix t : Nat} (ht : 100 ≤ t ∧ t < 103) (hK : 1 ≤ K) (w1 : Cond.methodLink own ix arraycopyName ∈ qT) (w2 : Cond.native arraycopyName ∈ qT) (w3 : Cond.static arraycopyName ∈ qT) (w4 : Cond.initialized "java/lang/System" ∈ qT) (hd : decode cc pc = .ok (.invokestatic ix, 3)) : qOk X l K cc nL own nm rt pc (qo_copy t) := by
  intro ls st h
  unfold qo_copy
  constructor
  · intro cfg' hcg
    split at hcg
    · rename_i heq
      cases heq
      split at hcg
      · rename_i hcnd
        cases hcg
        refine ⟨qle_eq rfl, ?_⟩
        intro p e R s m args below meth c Q h0 hx hR hle hk H locs lsc hP hS hL hst hle'
        rename_i n dp d sp a r
        obtain ⟨⟨ht1, ht2⟩, ⟨hs0, hd0, hn0⟩, ⟨hs1, hd1⟩, hcat⟩ := hcnd
        have hts := hx.2.2.2.2.1
        have hfr := hx.2.2.2.2.2.2.2.1
        have hlo := hx.2.2.2.2.2.2.2.2.1
        have hno : -2147483648 ≤ n ∧ n ≤ 2147483647 := hst (qI n) (by simp)
        have hdo : -2147483648 ≤ dp ∧ dp ≤ 2147483647 := hst (qI dp) (by simp)
        have hso : -2147483648 ≤ sp ∧ sp ≤ 2147483647 := hst (qI sp) (by simp)
        have hqa : qty h a = (t, (qty h a).2) := by rw [← ht1]
        have hqd : qty h d = (t, (qty h d).2) := by rw [← ht2]
        obtain ⟨ha, hta⟩ := qty_get hqa (by omega)
        obtain ⟨hdd, htd⟩ := qty_get hqd (by omega)
        generalize hna : (qty h a).2 = na at hta hs1
        generalize hnd : (qty h d).2 = nd at htd hd1
        have hea := qW_get (X := X) hta
        have hed := qW_get (X := X) htd
        have fe : ∀ (g : qH) (id nn : Nat), qe X g id (t, nn) = .inl (X.2.2.2 t, nn, .inl (fun j => Int32.ofInt (g.2 id j))) := fun g id nn => qe_int ht.1 ht.2
        rw [fe] at hea hed
        have hc0 : H[X.1 + a.toNat]? = some (vp_cell (X.2.2.2 t) (na, .inl (fun j => Int32.ofInt (h.2 (a.toNat : Nat) j)))) := hP.2.1 a.toNat _ hea
        have hc1 : H[X.1 + d.toNat]? = some (vp_cell (X.2.2.2 t) (nd, .inl (fun j => Int32.ofInt (h.2 (d.toNat : Nat) j)))) := hP.2.1 d.toNat _ hed
        have htys : ∃ ty, (qtys X)[t - 100]? = some (X.2.2.2 t, ty) ∧ refKind ty = false ∧ ∀ z, qrg t 0 z → fits ty (Value.int (Int32.ofInt z)) = true := by
          rcases (show t = 100 ∨ t = 101 ∨ t = 102 by omega) with rfl | rfl | rfl
          · exact ⟨_, rfl, rfl, fun z hz => rfl⟩
          · refine ⟨_, rfl, rfl, fun z hz => ?_⟩
            have hz : -128 ≤ z ∧ z ≤ 127 := hz
            show (decide ((-128 : Int32) ≤ Int32.ofInt z) && decide (Int32.ofInt z ≤ (127 : Int32))) = true
            rw [Bool.and_eq_true, decide_eq_true_eq, decide_eq_true_eq, Int32.le_iff_toInt_le, Int32.le_iff_toInt_le, qint_of (by omega)]
            exact hz
          · refine ⟨_, rfl, rfl, fun z hz => ?_⟩
            have hz : 0 ≤ z ∧ z ≤ 1 := hz
            rcases (show z = 0 ∨ z = 1 by omega) with rfl | rfl <;> rfl
        obtain ⟨ty, hty, hprim, hfit⟩ := htys
        have hK9 := hx.2.2.2.2.2.1.1
        obtain ⟨-, k0, hk0, cm0, hkk0⟩ := (hK9.2 (t - 100) _ hty).1 na (fun j => Value.int (Int32.ofInt (h.2 (a.toNat : Nat) j)))
        obtain ⟨-, k1, hk1, cm1, hkk1⟩ := (hK9.2 (t - 100) _ hty).1 nd (fun j => Value.int (Int32.ofInt (h.2 (d.toNat : Nat) j)))
        have hrgs : ∀ i : Nat, i < n.toNat → qrg t 0 (h.2 (a.toNat : Nat) ((sp.toNat + i : Nat) : Int)) := by
          intro i hi
          have := hP.2.2 a.toNat _ hta (sp.toNat + i) (by omega)
          rcases (show t = 100 ∨ t = 101 ∨ t = 102 by omega) with rfl | rfl | rfl
          · exact this
          · exact this
          · exact this
        show W p l e R s m args below meth c H locs _ _ Q (F0 m pc lsc (.int (Int32.ofInt n) :: .int (Int32.ofInt dp) :: qr X d :: .int (Int32.ofInt sp) :: qr X a :: r.map (qc X)))
        rw [qr_of ha, qr_of hdd]
        intro T hT Xs
        obtain ⟨vm', X', step⟩ := Xs.arraycopy hx.1 hx.2.2.2.1 (hts _ w1) (hts _ w2) (hts _ w3) (hts _ w4) (src := X.1 + a.toNat) (dst := X.1 + d.toNat) (cs := vp_cell (X.2.2.2 t) (na, .inl (fun j => Int32.ofInt (h.2 (a.toNat : Nat) j)))) (cd := vp_cell (X.2.2.2 t) (nd, .inl (fun j => Int32.ofInt (h.2 (d.toNat : Nat) j)))) (srcPos := Int32.ofInt sp) (destPos := Int32.ofInt dp) (n := Int32.ofInt n) (by rw [hT]; exact hc0) (by rw [hT]; exact hc1)
          (fun _ q => by cases q) (fun _ q => by cases q) (fun q => by cases q) (fun q => by cases q) hk0 hk1 hkk0 hkk1 (by simp [hprim]) (qint_nn hs0 hso) (qint_nn hd0 hdo) (qint_nn hn0 hno)
          (by rw [qint_of hso, qint_of hno]; show ¬ _ > ((arrV (X.2.2.2 t) na (fun j => Value.int (Int32.ofInt (h.2 (a.toNat : Nat) j)))).slots.size : Int); rw [arrV_size]; omega)
          (by rw [qint_of hdo, qint_of hno]; show ¬ _ > ((arrV (X.2.2.2 t) nd (fun j => Value.int (Int32.ofInt (h.2 (d.toNat : Nat) j)))).slots.size : Int); rw [arrV_size]; omega)
          (fun vm₁ _ i hi => by
            rw [qint_cl hs0 hso]
            rw [qint_cl hn0 hno] at hi
            have e9 : (vp_cell (X.2.2.2 t) (na, .inl (fun j => Int32.ofInt (h.2 (a.toNat : Nat) j)))).slots.getD (sp.toNat + i) .null = Value.int (Int32.ofInt (h.2 (a.toNat : Nat) ((sp.toNat + i : Nat) : Int))) := by
              show (arrV (X.2.2.2 t) na (fun j => Value.int (Int32.ofInt (h.2 (a.toNat : Nat) j)))).slots.getD _ _ = _
              rw [Array.getD_eq_getD_getElem?, arrV_read _ _ (by omega)]
              rfl
            rw [e9]
            exact ⟨hfit _ (hrgs i hi), trivial⟩)
          (g := F0 m pc lsc (.int (Int32.ofInt n) :: .int (Int32.ofInt dp) :: .ref (X.1 + d.toNat) :: .int (Int32.ofInt sp) :: .ref (X.1 + a.toNat) :: r.map (qc X))) rfl (by rw [hx.2.2.1]; exact hL.1) (rest := r.map (qc X)) rfl (by rw [hx.2.1]; exact hd) (Nat.le_trans hK hfr)
          (by rw [qcat_sum]; have e7 : nativeFrameWords "java/lang/System" "arraycopy" 5 = 7 := by decide
              rw [e7]; show 2 * 0 + _ + (7 + 11) ≤ _; omega)
        have e1 : copied (vp_cell (X.2.2.2 t) (na, .inl (fun j => Int32.ofInt (h.2 (a.toNat : Nat) j)))) (vp_cell (X.2.2.2 t) (nd, .inl (fun j => Int32.ofInt (h.2 (d.toNat : Nat) j)))) (Int32.ofInt sp) (Int32.ofInt dp) (Int32.ofInt n) = vp_cell (X.2.2.2 t) (nd, .inl (va_cpy (fun j => Int32.ofInt (h.2 (a.toNat : Nat) j)) (fun j => Int32.ofInt (h.2 (d.toNat : Nat) j)) (Int32.ofInt sp).toNatClampNeg (Int32.ofInt dp).toNatClampNeg (Int32.ofInt n).toNatClampNeg)) := va_copied (fun z => Value.int z) (X.2.2.2 t) (X.2.2.2 t) (n0 := na) (n1 := nd) (fun j => Int32.ofInt (h.2 (a.toNat : Nat) j)) (fun j => Int32.ofInt (h.2 (d.toNat : Nat) j)) (by rw [qint_cl hs0 hso, qint_cl hn0 hno]; omega)
        rw [e1, qint_cl hs0 hso, qint_cl hn0 hno, qint_cl hd0 hdo] at X' step
        have hl : X.1 + d.toNat < H.size := (Array.getElem?_eq_some_iff.mp hc1).1
        have ecell : vp_cell (X.2.2.2 t) (nd, .inl (va_cpy (fun (j : Nat) => Int32.ofInt (h.2 (a.toNat : Nat) j)) (fun (j : Nat) => Int32.ofInt (h.2 (d.toNat : Nat) j)) sp.toNat dp.toNat n.toNat)) = vp_cell (X.2.2.2 t) (nd, .inl (fun j => Int32.ofInt (qcp h.2 a sp d dp n (d.toNat : Nat) j))) := by
          rw [vp_cell_i, vp_cell_i]
          congr 1
          funext j
          unfold va_cpy qcp
          rw [qnat hdd, qnat ha]
          by_cases hq : dp.toNat ≤ j ∧ j < dp.toNat + n.toNat
          · rw [if_pos hq, if_pos ⟨rfl, by omega, by omega⟩]
            show Value.int (Int32.ofInt (h.2 a ((sp.toNat + (j - dp.toNat) : Nat) : Int))) = _
            rw [show ((sp.toNat + (j - dp.toNat) : Nat) : Int) = sp + ((j : Int) - dp) by omega]
          · rw [if_neg hq, if_neg (fun q => hq (by omega))]
        rw [ecell] at X' step
        generalize hcell : vp_cell (X.2.2.2 t) (nd, .inl (fun (j : Nat) => Int32.ofInt (qcp h.2 a sp d dp n (d.toNat : Nat) j))) = newc at X' step
        have hheap : ((T.setVm vm').setCell (X.1 + d.toNat) newc).heap = H.setIfInBounds (X.1 + d.toNat) newc := by rw [← hT]; rfl
        have oq : ∀ q : Nat, q ≠ X.1 + d.toNat → (H.setIfInBounds (X.1 + d.toNat) newc)[q]? = H[q]? := fun q hq => by simp [Array.getElem?_setIfInBounds, Ne.symm hq]
        have hP1 : qP X (h.1, qcp h.2 a sp d dp n) (H.setIfInBounds (X.1 + d.toNat) newc) := by
          refine qP_put hP htd rfl (fun j tm hj hm => qe_cp (fun q => hj (by omega))) ?_ (by simp) oq ?_
          · rw [fe]
            show (H.setIfInBounds (X.1 + d.toNat) newc)[X.1 + d.toNat]? = some (vp_cell (X.2.2.2 t) (nd, .inl (fun (j : Nat) => Int32.ofInt (qcp h.2 a sp d dp n (d.toNat : Nat) j))))
            rw [hcell]
            simp [Array.getElem?_setIfInBounds, hl]
          · intro j tm hj i hi
            show qrg tm.1 i (qcp h.2 a sp d dp n j i)
            by_cases hq : (j : Int) = d ∧ dp ≤ (i : Int) ∧ (i : Int) < dp + n
            · have ej : j = d.toNat := by omega
              subst ej
              cases htd.symm.trans hj
              unfold qcp
              rw [if_pos hq]
              have := hrgs (i - dp.toNat) (by omega)
              rw [qnat ha] at this
              rw [show ((sp.toNat + (i - dp.toNat) : Nat) : Int) = sp + ((i : Int) - dp) by omega] at this
              rcases (show t = 100 ∨ t = 101 ∨ t = 102 by omega) with rfl | rfl | rfl
              · exact this
              · exact this
              · exact this
            · rw [show qcp h.2 a sp d dp n j i = h.2 j i from if_neg hq]
              exact hP.2.2 j tm hj i hi
        have k9 := hk (H.setIfInBounds (X.1 + d.toNat) newc) _ lsc hP1 ⟨by simp; exact hS.1, fun q g1 g2 => by
            rw [oq q (fun e => g2 (by rw [e]; show X.1 ≤ X.1 + d.toNat; omega))]
            exact hS.2.1 q g1 g2, fun q hq => by
            rcases List.mem_append.mp hq with g | g
            · exact hS.2.2 q g
            · obtain ⟨z, -, hz⟩ := List.mem_map.mp g
              rw [← hz]
              show X.1 ≤ X.1 + d.toNat
              omega⟩ hL (fun v hv => hst v (by simp [hv])) hle' _ hheap X'
        obtain ⟨t9, a1, b1⟩ := k9
        exact ⟨t9, step t9 a1, b1⟩
      · cases hcg
    · cases hcg
  · intro r h' hcg
    split at hcg
    · split at hcg
      · cases hcg
      · cases hcg
    · cases hcg
def qo_copyl (t : Nat) : qOp := fun c => match c with
  | (pc, ls, .inl n :: .inl dp :: .inr (.inr d) :: .inl sp :: .inr (.inr a) :: r, h) => if ((qty h a).1 = t ∧ (qty h d).1 = t) ∧ (0 ≤ sp ∧ 0 ≤ dp ∧ 0 ≤ n) ∧ (sp + n ≤ (qty h a).2 ∧ dp + n ≤ (qty h d).2) ∧ (r.map qcat).sum ≤ 8 then .inl (pc + 3, ls, r, (h.1, qcp h.2 a sp d dp n)) else .inr none
  | _ => .inr none
theorem qk_copyl {X : qX} {l : Launch} {K : Nat} {cc : ByteArray} {nL : Nat} {own nm : String} {rt : Option FieldType} {pc : Nat} {ix t : Nat} (ht : t = 103) (hK : 1 ≤ K) (w1 : Cond.methodLink own ix arraycopyName ∈ qT) (w2 : Cond.native arraycopyName ∈ qT) (w3 : Cond.static arraycopyName ∈ qT) (w4 : Cond.initialized "java/lang/System" ∈ qT) (hd : decode cc pc = .ok (.invokestatic ix, 3)) : qOk X l K cc nL own nm rt pc (qo_copyl t) := by
  intro ls st h
  unfold qo_copyl
  constructor
  · intro cfg' hcg
    split at hcg
    · rename_i heq
      cases heq
      split at hcg
      · rename_i hcnd
        cases hcg
        refine ⟨qle_eq rfl, ?_⟩
        intro p e R s m args below meth c Q h0 hx hR hle hk H locs lsc hP hS hL hst hle'
        rename_i n dp d sp a r
        obtain ⟨⟨ht1, ht2⟩, ⟨hs0, hd0, hn0⟩, ⟨hs1, hd1⟩, hcat⟩ := hcnd
        have hts := hx.2.2.2.2.1
        have hfr := hx.2.2.2.2.2.2.2.1
        have hlo := hx.2.2.2.2.2.2.2.2.1
        have hno : -2147483648 ≤ n ∧ n ≤ 2147483647 := hst (qI n) (by simp)
        have hdo : -2147483648 ≤ dp ∧ dp ≤ 2147483647 := hst (qI dp) (by simp)
        have hso : -2147483648 ≤ sp ∧ sp ≤ 2147483647 := hst (qI sp) (by simp)
        have hqa : qty h a = (t, (qty h a).2) := by rw [← ht1]
        have hqd : qty h d = (t, (qty h d).2) := by rw [← ht2]
        obtain ⟨ha, hta⟩ := qty_get hqa (by omega)
        obtain ⟨hdd, htd⟩ := qty_get hqd (by omega)
        generalize hna : (qty h a).2 = na at hta hs1
        generalize hnd : (qty h d).2 = nd at htd hd1
        have hea := qW_get (X := X) hta
        have hed := qW_get (X := X) htd
        have fe : ∀ (g : qH) (id nn : Nat), qe X g id (t, nn) = .inl (X.2.2.2 t, nn, .inr (.inl (fun j => Int64.ofInt (g.2 id j)))) := fun g id nn => by subst ht; exact qe_long
        rw [fe] at hea hed
        have hc0 : H[X.1 + a.toNat]? = some (vp_cell (X.2.2.2 t) (na, .inr (.inl (fun j => Int64.ofInt (h.2 (a.toNat : Nat) j))))) := hP.2.1 a.toNat _ hea
        have hc1 : H[X.1 + d.toNat]? = some (vp_cell (X.2.2.2 t) (nd, .inr (.inl (fun j => Int64.ofInt (h.2 (d.toNat : Nat) j))))) := hP.2.1 d.toNat _ hed
        have htys : ∃ ty, (qtys X)[t - 100]? = some (X.2.2.2 t, ty) ∧ refKind ty = false ∧ ∀ z, qrg t 0 z → fits ty (Value.long (Int64.ofInt z)) = true := by
          subst ht; exact ⟨_, rfl, rfl, fun z hz => rfl⟩
        obtain ⟨ty, hty, hprim, hfit⟩ := htys
        have hK9 := hx.2.2.2.2.2.1.1
        obtain ⟨-, k0, hk0, cm0, hkk0⟩ := (hK9.2 (t - 100) _ hty).1 na (fun j => Value.long (Int64.ofInt (h.2 (a.toNat : Nat) j)))
        obtain ⟨-, k1, hk1, cm1, hkk1⟩ := (hK9.2 (t - 100) _ hty).1 nd (fun j => Value.long (Int64.ofInt (h.2 (d.toNat : Nat) j)))
        have hrgs : ∀ i : Nat, i < n.toNat → qrg t 0 (h.2 (a.toNat : Nat) ((sp.toNat + i : Nat) : Int)) := by
          intro i hi
          have := hP.2.2 a.toNat _ hta (sp.toNat + i) (by omega)
          subst ht; exact this
        show W p l e R s m args below meth c H locs _ _ Q (F0 m pc lsc (.int (Int32.ofInt n) :: .int (Int32.ofInt dp) :: qr X d :: .int (Int32.ofInt sp) :: qr X a :: r.map (qc X)))
        rw [qr_of ha, qr_of hdd]
        intro T hT Xs
        obtain ⟨vm', X', step⟩ := Xs.arraycopy hx.1 hx.2.2.2.1 (hts _ w1) (hts _ w2) (hts _ w3) (hts _ w4) (src := X.1 + a.toNat) (dst := X.1 + d.toNat) (cs := vp_cell (X.2.2.2 t) (na, .inr (.inl (fun j => Int64.ofInt (h.2 (a.toNat : Nat) j))))) (cd := vp_cell (X.2.2.2 t) (nd, .inr (.inl (fun j => Int64.ofInt (h.2 (d.toNat : Nat) j))))) (srcPos := Int32.ofInt sp) (destPos := Int32.ofInt dp) (n := Int32.ofInt n) (by rw [hT]; exact hc0) (by rw [hT]; exact hc1)
          (fun _ q => by cases q) (fun _ q => by cases q) (fun q => by cases q) (fun q => by cases q) hk0 hk1 hkk0 hkk1 (by simp [hprim]) (qint_nn hs0 hso) (qint_nn hd0 hdo) (qint_nn hn0 hno)
          (by rw [qint_of hso, qint_of hno]; show ¬ _ > ((arrV (X.2.2.2 t) na (fun j => Value.long (Int64.ofInt (h.2 (a.toNat : Nat) j)))).slots.size : Int); rw [arrV_size]; omega)
          (by rw [qint_of hdo, qint_of hno]; show ¬ _ > ((arrV (X.2.2.2 t) nd (fun j => Value.long (Int64.ofInt (h.2 (d.toNat : Nat) j)))).slots.size : Int); rw [arrV_size]; omega)
          (fun vm₁ _ i hi => by
            rw [qint_cl hs0 hso]
            rw [qint_cl hn0 hno] at hi
            have e9 : (vp_cell (X.2.2.2 t) (na, .inr (.inl (fun j => Int64.ofInt (h.2 (a.toNat : Nat) j))))).slots.getD (sp.toNat + i) .null = Value.long (Int64.ofInt (h.2 (a.toNat : Nat) ((sp.toNat + i : Nat) : Int))) := by
              show (arrV (X.2.2.2 t) na (fun j => Value.long (Int64.ofInt (h.2 (a.toNat : Nat) j)))).slots.getD _ _ = _
              rw [Array.getD_eq_getD_getElem?, arrV_read _ _ (by omega)]
              rfl
            rw [e9]
            exact ⟨hfit _ (hrgs i hi), trivial⟩)
          (g := F0 m pc lsc (.int (Int32.ofInt n) :: .int (Int32.ofInt dp) :: .ref (X.1 + d.toNat) :: .int (Int32.ofInt sp) :: .ref (X.1 + a.toNat) :: r.map (qc X))) rfl (by rw [hx.2.2.1]; exact hL.1) (rest := r.map (qc X)) rfl (by rw [hx.2.1]; exact hd) (Nat.le_trans hK hfr)
          (by rw [qcat_sum]; have e7 : nativeFrameWords "java/lang/System" "arraycopy" 5 = 7 := by decide
              rw [e7]; show 2 * 0 + _ + (7 + 11) ≤ _; omega)
        have e1 : copied (vp_cell (X.2.2.2 t) (na, .inr (.inl (fun j => Int64.ofInt (h.2 (a.toNat : Nat) j))))) (vp_cell (X.2.2.2 t) (nd, .inr (.inl (fun j => Int64.ofInt (h.2 (d.toNat : Nat) j))))) (Int32.ofInt sp) (Int32.ofInt dp) (Int32.ofInt n) = vp_cell (X.2.2.2 t) (nd, .inr (.inl (va_cpy (fun j => Int64.ofInt (h.2 (a.toNat : Nat) j)) (fun j => Int64.ofInt (h.2 (d.toNat : Nat) j)) (Int32.ofInt sp).toNatClampNeg (Int32.ofInt dp).toNatClampNeg (Int32.ofInt n).toNatClampNeg))) := va_copied (fun z => Value.long z) (X.2.2.2 t) (X.2.2.2 t) (n0 := na) (n1 := nd) (fun j => Int64.ofInt (h.2 (a.toNat : Nat) j)) (fun j => Int64.ofInt (h.2 (d.toNat : Nat) j)) (by rw [qint_cl hs0 hso, qint_cl hn0 hno]; omega)
        rw [e1, qint_cl hs0 hso, qint_cl hn0 hno, qint_cl hd0 hdo] at X' step
        have hl : X.1 + d.toNat < H.size := (Array.getElem?_eq_some_iff.mp hc1).1
        have ecell : vp_cell (X.2.2.2 t) (nd, .inr (.inl (va_cpy (fun (j : Nat) => Int64.ofInt (h.2 (a.toNat : Nat) j)) (fun (j : Nat) => Int64.ofInt (h.2 (d.toNat : Nat) j)) sp.toNat dp.toNat n.toNat))) = vp_cell (X.2.2.2 t) (nd, .inr (.inl (fun j => Int64.ofInt (qcp h.2 a sp d dp n (d.toNat : Nat) j)))) := by
          rw [vp_cell_l, vp_cell_l]
          congr 1
          funext j
          unfold va_cpy qcp
          rw [qnat hdd, qnat ha]
          by_cases hq : dp.toNat ≤ j ∧ j < dp.toNat + n.toNat
          · rw [if_pos hq, if_pos ⟨rfl, by omega, by omega⟩]
            show Value.long (Int64.ofInt (h.2 a ((sp.toNat + (j - dp.toNat) : Nat) : Int))) = _
            rw [show ((sp.toNat + (j - dp.toNat) : Nat) : Int) = sp + ((j : Int) - dp) by omega]
          · rw [if_neg hq, if_neg (fun q => hq (by omega))]
        rw [ecell] at X' step
        generalize hcell : vp_cell (X.2.2.2 t) (nd, .inr (.inl (fun (j : Nat) => Int64.ofInt (qcp h.2 a sp d dp n (d.toNat : Nat) j)))) = newc at X' step
        have hheap : ((T.setVm vm').setCell (X.1 + d.toNat) newc).heap = H.setIfInBounds (X.1 + d.toNat) newc := by rw [← hT]; rfl
        have oq : ∀ q : Nat, q ≠ X.1 + d.toNat → (H.setIfInBounds (X.1 + d.toNat) newc)[q]? = H[q]? := fun q hq => by simp [Array.getElem?_setIfInBounds, Ne.symm hq]
        have hP1 : qP X (h.1, qcp h.2 a sp d dp n) (H.setIfInBounds (X.1 + d.toNat) newc) := by
          refine qP_put hP htd rfl (fun j tm hj hm => qe_cp (fun q => hj (by omega))) ?_ (by simp) oq ?_
          · rw [fe]
            show (H.setIfInBounds (X.1 + d.toNat) newc)[X.1 + d.toNat]? = some (vp_cell (X.2.2.2 t) (nd, .inr (.inl (fun (j : Nat) => Int64.ofInt (qcp h.2 a sp d dp n (d.toNat : Nat) j)))))
            rw [hcell]
            simp [Array.getElem?_setIfInBounds, hl]
          · intro j tm hj i hi
            show qrg tm.1 i (qcp h.2 a sp d dp n j i)
            by_cases hq : (j : Int) = d ∧ dp ≤ (i : Int) ∧ (i : Int) < dp + n
            · have ej : j = d.toNat := by omega
              subst ej
              cases htd.symm.trans hj
              unfold qcp
              rw [if_pos hq]
              have := hrgs (i - dp.toNat) (by omega)
              rw [qnat ha] at this
              rw [show ((sp.toNat + (i - dp.toNat) : Nat) : Int) = sp + ((i : Int) - dp) by omega] at this
              subst ht; exact this
            · rw [show qcp h.2 a sp d dp n j i = h.2 j i from if_neg hq]
              exact hP.2.2 j tm hj i hi
        have k9 := hk (H.setIfInBounds (X.1 + d.toNat) newc) _ lsc hP1 ⟨by simp; exact hS.1, fun q g1 g2 => by
            rw [oq q (fun e => g2 (by rw [e]; show X.1 ≤ X.1 + d.toNat; omega))]
            exact hS.2.1 q g1 g2, fun q hq => by
            rcases List.mem_append.mp hq with g | g
            · exact hS.2.2 q g
            · obtain ⟨z, -, hz⟩ := List.mem_map.mp g
              rw [← hz]
              show X.1 ≤ X.1 + d.toNat
              omega⟩ hL (fun v hv => hst v (by simp [hv])) hle' _ hheap X'
        obtain ⟨t9, a1, b1⟩ := k9
        exact ⟨t9, step t9 a1, b1⟩
      · cases hcg
    · cases hcg
  · intro r h' hcg
    split at hcg
    · split at hcg
      · cases hcg
      · cases hcg
    · cases hcg
