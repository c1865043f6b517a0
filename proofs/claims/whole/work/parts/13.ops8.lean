/-! super.method(..) that the class above inherits itself; new long[n][m]; the script -/
theorem qsub {vm : Vm} {c d : ClassId} {k : Class} (hk : vm.classes[c]? = some k) (hs : k.super = some d) {kd : Class} (hd : vm.classes[d]? = some kd) (hlt : 1 ≤ vm.classes.size) : vm.isSubclass c d = true := by
  unfold Vm.isSubclass
  obtain ⟨n, hn⟩ : ∃ n, vm.classes.size = n + 1 := ⟨vm.classes.size - 1, by omega⟩
  rw [hn]
  simp [Vm.isSubclassAux, hk, hs]
theorem qrunSUi {X : qX} {l : Launch} {K : Nat} {cc : ByteArray} {nL : Nat} {own nm owner : String} {ix n ci k mL : Nat} {C : String} {T : u_T} {N : Nat} {x : MethodName} {bs : ByteArray} {rt : Option FieldType} {f : qSem} (hf : qMet X l k ⟨owner, x.name, x.desc⟩ bs mL rt f) (hk : k + 1 ≤ K) (hm : mL ≤ 41) (hci : ci < 100) (hc : vwCl[ci]? = some (C, T, N))
    (w1 : Cond.methodLink own ix x ∈ qT) (w2 : Cond.instanceMethod ⟨owner, x.name, x.desc⟩ ∈ qT) (w3 : Cond.superclass own x.cls ∈ qT) (w3b : Cond.superclass x.cls owner ∈ qT) (w4 : Cond.code ⟨owner, x.name, x.desc⟩ bs mL rt ∈ qT) (w5 : Cond.initialized owner ∈ qT) (w6 : Cond.sameMethod x.cls owner x.name x.desc ∈ qT) (hno : x.name ≠ "<init>") (hpar : qPar x n) : qRunV X l K cc nL own nm (fun i => .invokespecial i) ix n ci f := by
  refine ⟨hf.1, ?_⟩
  intro p e R s m args below meth c H locs cells slots pc lsc o As rest h r h' hx hd hP hS hls hq hn hok hff hcat hR
  obtain ⟨h0, ht⟩ := qty_get (show qty h o = (ci, (qty h o).2) by rw [← hq]) (by omega)
  have g3 := hf.2 (qA o :: As) h r h' (fun v hv => by rcases List.mem_cons.mp hv with rfl | hv; exact trivial; exact hok v hv) hff
  have hts := hx.2.2.2.2.1
  have hfr : (qrm k h h').frames + 1 ≤ R.frames := Nat.le_trans hk hx.2.2.2.2.2.2.2.1
  have hlo : 8 + (mL + 11) + (qrm k h h').locals ≤ R.locals := by
    have := hx.2.2.2.2.2.2.2.2.1
    show 8 + (mL + 11) + 60 * k ≤ R.locals
    omega
  have ea : ((qA o :: As).map (qc X)) = Value.ref (X.1 + o.toNat) :: As.map (qc X) := by rw [List.map_cons]; exact congrArg (· :: _) (qr_of h0)
  have hpre := fun U hU hW => qpre_at (as := qA o :: As) hx.2.2.2.2.2.1 hx.2.2.2.2.2.2.1 hP hS U hU hW
  rw [ea] at hpre ⊢
  rw [qr_of h0]
  have hK := hx.2.2.2.2.2.1
  obtain ⟨cellB, hcB, hoB, hclB⟩ := qrecv hK hP hq hci hc
  obtain ⟨hfc, kB, hkB, -⟩ := (hK.1.1 ci _ hc).2
  have ecl : X.2.2.1.1 ci = cellB.cls := Option.some.inj (hfc.symm.trans hclB)
  rw [ecl] at hkB
  have hKb : Back l R p e below s args ⟨owner, x.name, x.desc⟩ 3 8 (PreOf R (qn h h') (qs h h') (qPre X (qA o :: As) h)) (PostOf (qPost X r h') (qn h h') (qs h h') (fun q : Nat => X.1 ≤ q)) :=
    back_of (bytes := bs) (maxL := mL) (ret := rt) g3 qPre_blind rfl rfl hfr hlo (pay_in hts (qws_good w4)) List.mem_cons_self (fun a' U hW => word_at hW (Or.inl (by first | rfl | simp [Cond.onTables, Cond.keeps, Cond.steady])) (hts _ w5))
  obtain ⟨mk, methM, hnamed, hmethM, hstM, habM⟩ := Cond.instanceMethod_spec (hts _ w2)
  obtain ⟨methM', cM, hmethM', -, -, -, -, -, -, hsigM⟩ := Cond.code_spec hnamed (hts _ w4)
  cases hmethM.symm.trans hmethM'
  obtain ⟨ps, dk, kp, hps, hdk, hkp, hsuper, -, -, hnid⟩ := Cond.superclass_spec hx.2.2.2.1 (hts _ w3)
  obtain ⟨ps2, dk2, kp2, hps2, hdk2, hkp2, hsuper2, -, -, -⟩ := Cond.superclass_spec hps (hts _ w3b)
  have hpm : ps2 = mk.cls := Option.some.inj (hps2.symm.trans (findClass_of_methodNamed hnamed))
  have hsub : s.vm.isSubclass ps mk.cls = true := by
    rw [← hpm]
    exact qsub hdk2 hsuper2 hkp2 (by have := (Array.getElem?_eq_some_iff.mp hdk2).1; omega)
  intro T9 hT Xs
  obtain ⟨vm₁, X₁, hstep₁⟩ := Xs.invokespecialUp hx.1 hx.2.2.2.1 (hts _ w1) (hts _ w6) hnamed hmethM hstM habM hno hdk hnid hps hsuper hsub (a := X.1 + o.toNat) (cell := cellB) (by rw [hT]; exact hcB)
    (fun z q => by rw [q] at hoB; cases hoB) hkB (g := F0 m pc lsc ((As.map (qc X)).reverse ++ .ref (X.1 + o.toNat) :: rest)) rfl (argsL := As.map (qc X)) (rest := rest) (by rw [List.length_map, hn]; exact qPar_of hpar _ hsigM) rfl (by rw [hx.2.1]; exact hd)
  obtain ⟨v, ⟨U', l2, c2, s2⟩, X', ⟨g', mk2, t, L, e1, e2, hqq, h1, hL, h2, h3⟩, hsteps⟩ := hKb m meth c ⟨T9.setVm vm₁, locs, cells, slots⟩ { (F0 m pc lsc ((As.map (qc X)).reverse ++ .ref (X.1 + o.toNat) :: rest)) with stack := rest } (.invokespecial ix) mk (Value.ref (X.1 + o.toNat) :: As.map (qc X)).toArray X₁ rfl (hls.trans hx.2.2.1.symm) (by rw [hx.2.1]; exact hd) (by show 2 * 0 + (rest.map fun v => v.category).sum ≤ 8; omega) (X₁.named hnamed) ⟨hR.1, hR.2, hpre (T9.setVm vm₁) hT X₁.warmed⟩
  dsimp only [Pt.U, Pt.locs, Pt.cells, Pt.slots] at X' e1 e2 h1 h2 h3 hsteps
  subst h1; subst h2; subst h3
  exact ⟨v, (T9.setVm vm₁).calling g' mk2 (Value.ref (X.1 + o.toNat) :: As.map (qc X)).toArray, t, U', L, hT, X', hL, e1, e2, hqq, fun target q => hstep₁ _ (by rw [doInvoke_state]; exact hsteps.trans q)⟩
/-- new long[n][k] -/
def qmna (h : qH) (n k : Nat) : qH := ((h.1.1 ++ (106, n) :: List.replicate n (103, k), fun a j => if a = (h.1.1.length : Int) then (if 0 ≤ j ∧ j < n then h.1.1.length + 1 + j else -1) else if (h.1.1.length : Int) < a then -1 else h.1.2 a j), fun a j => if (h.1.1.length : Int) ≤ a then 0 else h.2 a j)
theorem qmna_len (h : qH) (n k : Nat) : (qmna h n k).1.1.length = h.1.1.length + (1 + n) := by simp [qmna]; omega
theorem qsum_rep (n k : Nat) : (List.map (fun q : Nat × Nat => q.2) (List.replicate n (103, k))).sum = n * k := by
  induction n with
  | zero => simp
  | succ n ih => rw [List.replicate_succ, List.map_cons, List.sum_cons, ih, Nat.succ_mul]; omega
theorem qmna_slots (h : qH) (n k : Nat) : qslots (qmna h n k) = qslots h + (n + n * k) := by
  unfold qslots
  show (List.map (fun q : Nat × Nat => q.2) (h.1.1 ++ (106, n) :: List.replicate n (103, k))).sum = _
  rw [List.map_append, List.map_cons, List.sum_append, List.sum_cons, qsum_rep]
theorem qle_mna (h : qH) (n k : Nat) : qle h (qmna h n k) := ⟨by rw [qmna_len]; omega, by rw [qmna_slots]; omega⟩
def qo_mna : qOp := fun c => match c with
  | (pc, ls, .inl k :: .inl n :: r, h) => if (0 ≤ n ∧ n ≤ 1000) ∧ 0 ≤ k ∧ k ≤ 1000 then .inl (pc + 4, ls, qA (h.1.1.length : Nat) :: r, qmna h n.toNat k.toNat) else .inr none
  | _ => .inr none
theorem qk_mna {X : qX} {l : Launch} {K : Nat} {cc : ByteArray} {nL : Nat} {own nm : String} {rt : Option FieldType} {pc : Nat} {ix : Nat} (w1 : Cond.classLink own ix "[[J" ∈ qT) (w2 : Cond.arrayOver (.array .long) ∈ qEx) (w3 : Cond.arrayClass .long ∈ qT) (hd : decode cc pc = .ok (.multianewarray ix 2, 4)) : qOk X l K cc nL own nm rt pc qo_mna := by
  intro ls st h
  unfold qo_mna
  constructor
  · intro cfg' hcg
    split at hcg
    · rename_i heq
      cases heq
      split at hcg
      · rename_i hcnd
        cases hcg
        refine ⟨qle_mna _ _ _, ?_⟩
        intro p e R s m args below meth c Q h0 hx hR hle hk H locs lsc hP hS hL hst hle'
        rename_i k n r
        obtain ⟨⟨hn0, hn1⟩, hk0, hk1⟩ := hcnd
        have hno : -2147483648 ≤ n ∧ n ≤ 2147483647 := by omega
        have hko : -2147483648 ≤ k ∧ k ≤ 2147483647 := by omega
        have hts := hx.2.2.2.2.1
        have e1 : qn h0 (qmna h n.toNat k.toNat) = qn h0 h + 1 + n.toNat := by
          unfold qn
          rw [qmna_len]
          have := hle.1
          omega
        have e2 : qs h0 (qmna h n.toNat k.toNat) = qs h0 h + n.toNat + n.toNat * k.toNat := by
          unfold qs
          rw [qmna_slots]
          have := hle.2
          omega
        dsimp only at hR hle' hP hL hst ⊢
        rw [e1, e2] at hR
        intro T hT Xs
        have hcn := qint_cl hn0 hno
        have hck := qint_cl hk0 hko
        have wO := qm_over (show (Cond.arrayOver (.array .long)).before args s = true from hx.2.2.2.2.2.1.2 _ w2)
        obtain ⟨comp, cA, kA, fC, hA9, kA9, fA⟩ := wO
        obtain ⟨comp8, kI, c2, fC8, hI9, kI9⟩ := Cond.arrayClass_spec (hts _ w3)
        have e8 : comp8 = comp := Option.some.inj (fC8.symm.trans fC)
        subst e8
        obtain ⟨vm₁, X', step⟩ := qm_ins Xs hx.1 hx.2.2.2.1 (t := .long) (n := Int32.ofInt n) (k := Int32.ofInt k) (hts _ w1) fA hA9 kA9 hI9 kI9 (g := F0 m pc lsc (.int (Int32.ofInt k) :: .int (Int32.ofInt n) :: r.map (qc X))) rfl (by rw [hx.2.1]; exact hd) rfl (qint_nn hn0 hno) (qint_nn hk0 hko)
          (by rw [hcn]; omega) (by rw [hck]; omega) (by decide) rfl (by rw [hcn]; omega) (by rw [hcn, hck]; omega)
        rw [hcn, hck] at X' step
        have hTh : (T.setVm vm₁).heap = H := hT
        have f1 := qmS_size (T := T.setVm vm₁) (cA := cA) (cI := comp8) (N := n.toNat) (M := k.toNat) (z := defaultValue .long) n.toNat
        have f2 := qmS_top (T := T.setVm vm₁) (cA := cA) (cI := comp8) (N := n.toNat) (M := k.toNat) (z := defaultValue .long) n.toNat
        have f3 := fun x hx9 => qmS_old (T := T.setVm vm₁) (cA := cA) (cI := comp8) (N := n.toNat) (M := k.toNat) (z := defaultValue .long) n.toNat (x := x) hx9
        have f4 := fun j hj => qmS_row (T := T.setVm vm₁) (cA := cA) (cI := comp8) (N := n.toNat) (M := k.toNat) (z := defaultValue .long) n.toNat j hj
        generalize qmS (T.setVm vm₁) cA comp8 n.toNat k.toNat (defaultValue .long) n.toNat = F at X' step f1 f2 f3 f4
        rw [hTh] at f1 f2 f3 f4
        have hold : ∀ x : Nat, x < H.size → F.heap[x]? = H[x]? := f3
        have hrow : ∀ j : Nat, j < n.toNat → F.heap[H.size + 1 + j]? = some (arrV comp8 k.toNat (fun _ => .long 0)) := f4
        have f2 : F.heap[H.size]? = some (arrV cA n.toNat (fun j => va_rf (if j < n.toNat then some (H.size + 1 + j) else none))) := f2
        have hcA : cA = X.2.2.2 106 := by
          have := (hx.2.2.2.2.2.1.1.2 6 _ rfl).2
          exact Option.some.inj (fA.symm.trans this)
        have hcC : comp8 = X.2.2.2 103 := by
          have := (hx.2.2.2.2.2.1.1.2 3 _ rfl).2
          exact Option.some.inj (fC.symm.trans this)
        have hP1 : qP X (qmna h n.toNat k.toNat) F.heap := by
          refine ⟨by rw [f1, qmna_len, hP.1]; omega, ?_, ?_⟩
          · intro i q hq
            rcases Nat.lt_trichotomy i h.1.1.length with hi | hi | hi
            · have ht : h.1.1[i]? = some h.1.1[i] := List.getElem?_eq_getElem hi
              have ht2 : (qmna h n.toNat k.toNat).1.1[i]? = some h.1.1[i] := by
                show (h.1.1 ++ (106, n.toNat) :: List.replicate n.toNat (103, k.toNat))[i]? = _
                rw [List.getElem?_append_left hi]
                exact ht
              rw [qW_get ht2] at hq
              cases hq
              have e8 : ∀ tm, qe X (qmna h n.toNat k.toNat) i tm = qe X h i tm := by
                intro tm
                have g1 : ∀ j : Int, (qmna h n.toNat k.toNat).1.2 (i : Nat) j = h.1.2 (i : Nat) j := fun j => by
                  show (if ((i : Nat) : Int) = (h.1.1.length : Int) then _ else if (h.1.1.length : Int) < ((i : Nat) : Int) then _ else _) = _
                  rw [if_neg (by omega), if_neg (by omega)]
                have g2 : ∀ j : Int, (qmna h n.toNat k.toNat).2 (i : Nat) j = h.2 (i : Nat) j := fun j => if_neg (by omega)
                unfold qe qsv
                simp only [g1, g2]
              rw [e8]
              exact (hP.2.1 i _ (qW_get ht)).kept (hold _ (by show X.1 + i < H.size; rw [hP.1]; omega))
            · subst hi
              have ht2 : (qmna h n.toNat k.toNat).1.1[h.1.1.length]? = some (106, n.toNat) := by
                show (h.1.1 ++ (106, n.toNat) :: List.replicate n.toNat (103, k.toNat))[h.1.1.length]? = _
                rw [List.getElem?_append_right (Nat.le_refl _), Nat.sub_self]
                rfl
              rw [qW_get ht2] at hq
              cases hq
              rw [qe_ref (by decide)]
              show F.heap[X.1 + h.1.1.length]? = some (arrV (X.2.2.2 106) n.toNat (fun j => va_rf (qo X ((qmna h n.toNat k.toNat).1.2 (h.1.1.length : Nat) j))))
              rw [← hP.1, f2, hcA]
              refine congrArg (fun f => some (arrV (X.2.2.2 106) n.toNat f)) (funext fun j => ?_)
              rw [show (qmna h n.toNat k.toNat).1.2 (h.1.1.length : Nat) j = (if 0 ≤ (j : Int) ∧ (j : Int) < n.toNat then (h.1.1.length : Int) + 1 + j else -1) from if_pos rfl]
              by_cases hj : j < n.toNat
              · rw [if_pos hj, if_pos ⟨by omega, by omega⟩, qo_of (by omega)]
                congr 2
                rw [hP.1]
                omega
              · rw [if_neg hj, if_neg (by omega)]
                rfl
            · by_cases hi2 : i < h.1.1.length + (1 + n.toNat)
              · have ht2 : (qmna h n.toNat k.toNat).1.1[i]? = some (103, k.toNat) := by
                  show (h.1.1 ++ (106, n.toNat) :: List.replicate n.toNat (103, k.toNat))[i]? = _
                  rw [List.getElem?_append_right (by omega)]
                  obtain ⟨j, hj⟩ : ∃ j, i - h.1.1.length = j + 1 := ⟨i - h.1.1.length - 1, by omega⟩
                  rw [hj, List.getElem?_cons_succ, List.getElem?_replicate, if_pos (by omega)]
                rw [qW_get ht2] at hq
                cases hq
                rw [qe_long]
                show F.heap[X.1 + i]? = some (arrV (X.2.2.2 103) k.toNat (fun j => .long (Int64.ofInt ((qmna h n.toNat k.toNat).2 (i : Nat) j))))
                have e7 := hrow (i - h.1.1.length - 1) (by omega)
                rw [show H.size + 1 + (i - h.1.1.length - 1) = X.1 + i by rw [hP.1]; omega] at e7
                rw [e7, hcC]
                refine congrArg (fun f => some (arrV (X.2.2.2 103) k.toNat f)) (funext fun j => ?_)
                rw [show (qmna h n.toNat k.toNat).2 (i : Nat) j = 0 from if_pos (by omega)]
                rfl
              · rw [qW_none (List.getElem?_eq_none (by rw [qmna_len]; omega))] at hq
                cases hq
          · intro i tm hi j hj
            by_cases hl : i < h.1.1.length
            · rw [show (qmna h n.toNat k.toNat).1.1[i]? = h.1.1[i]? by
                show (h.1.1 ++ (106, n.toNat) :: List.replicate n.toNat (103, k.toNat))[i]? = _
                rw [List.getElem?_append_left hl]] at hi
              rw [show (qmna h n.toNat k.toNat).2 (i : Nat) j = h.2 (i : Nat) j from if_neg (by omega)]
              exact hP.2.2 i tm hi j hj
            · rw [show (qmna h n.toNat k.toNat).2 (i : Nat) j = 0 from if_pos (by omega)]
              unfold qrg
              split
              · omega
              · split
                · omega
                · split
                  · omega
                  · split
                    · trivial
                    · split
                      · trivial
                      · omega
        obtain ⟨t9, a1, b1⟩ := hk F.heap locs lsc hP1 ⟨Nat.le_trans hS.1 (by rw [f1]; omega), fun q g1 g2 => (hold q (Nat.lt_of_lt_of_le g1 hS.1)).trans (hS.2.1 q g1 g2), hS.2.2⟩ hL (fun v hv => by
          rcases List.mem_cons.mp hv with rfl | hv
          · trivial
          · exact hst v (by simp [hv])) (qle_tr hle (qle_mna _ _ _)) F rfl (by rw [e1, e2]; exact X')
        refine ⟨t9, step t9 ?_, b1⟩
        have e9 : qc X (qA (h.1.1.length : Nat)) = .ref T.heap.size := by rw [hT, hP.1]; exact qr_of (by omega)
        rw [List.map_cons, e9] at a1
        exact a1
      · cases hcg
    · cases hcg
  · intro r h' hcg
    split at hcg
    · split at hcg
      · cases hcg
      · cases hcg
    · cases hcg
