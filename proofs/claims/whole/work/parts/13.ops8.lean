/-! super.method(..) that the class above inherits itself; new long[n][m]; the script -/
theorem qsub {vm : Vm} {c d : ClassId} {k : Class} (hk : vm.classes[c]? = some k) (hs : k.super = some d) {kd : Class} (hd : vm.classes[d]? = some kd) (hlt : 1 ≤ vm.classes.size) : vm.isSubclass c d = true := by
  unfold Vm.isSubclass
  obtain ⟨n, hn⟩ : ∃ n, vm.classes.size = n + 1 := ⟨vm.classes.size - 1, by omega⟩
  rw [hn]
  simp [Vm.isSubclassAux, hk, hs]
theorem qrunSUi {X : qX} {l : Launch} {K : Nat} {cc : ByteArray} {nL : Nat} {own nm owner : String} {ix n ci k mL : Nat} {C : String} {T : u_T} {N : Nat} {x : MethodName} {bs : ByteArray} {rt : Option FieldType} {f : qSem} (hf : qMet X l k ⟨owner, x.name, x.desc⟩ bs mL rt f) (hk : k + 1 ≤ K) (hm : mL ≤ 41) (hci : ci < 100) (hc : vwCl[ci]? = some (C, T, N))
    (w1 : Cond.methodLink own ix x ∈ qT) (w2 : Cond.instanceMethod ⟨owner, x.name, x.desc⟩ ∈ qT) (w3 : Cond.superclass own x.cls ∈ qT) (w3b : Cond.superclass x.cls owner ∈ qT) (w4 : Cond.code ⟨owner, x.name, x.desc⟩ bs mL rt ∈ qT) (w5 : Cond.initialized owner ∈ qT) (w6 : Cond.sameMethod x.cls owner x.name x.desc ∈ qT) (hno : x.name ≠ "<init>") (hpar : qPar x n) : qRunV X l K cc nL own nm (fun i => .invokespecial i) ix n ci f := by
  refine ⟨hf.1, ?_⟩
  intro p e R s m args below meth c H locs cells slots pc lsc o As rest h r h' hx hd hP hS hls hq hn hok hff hcat hR
  obtain ⟨h0, ht⟩ := qty_get (show qty h o = (ci, (qty h o).2) by rw [← hq]) (by omega)
  have g3 := hf.2 (qA o :: As) h r h' (fun v hv => by rcases List.mem_cons.mp hv with rfl | hv; exact trivial; exact hok v hv) hff
  have hts := hx.2.2.2.2.1
  have hfr : (qrm k h h').frames + 1 ≤ R.frames := Nat.le_trans hk hx.2.2.2.2.2.2.2.1
  have hlo : 8 + (mL + 11) + (qrm k h h').locals ≤ R.locals := by
    have := hx.2.2.2.2.2.2.2.2.1
    show 8 + (mL + 11) + 60 * k ≤ R.locals
    omega
  have ea : ((qA o :: As).map (qc X)) = Value.ref (X.1 + o.toNat) :: As.map (qc X) := by rw [List.map_cons]; exact congrArg (· :: _) (qr_of h0)
  have hpre := fun U hU hW => qpre_at (as := qA o :: As) hx.2.2.2.2.2.1 hx.2.2.2.2.2.2.1 hP hS U hU hW
  rw [ea] at hpre ⊢
  rw [qr_of h0]
  have hK := hx.2.2.2.2.2.1
  obtain ⟨cellB, hcB, hoB, hclB⟩ := qrecv hK hP hq hci hc
  obtain ⟨hfc, kB, hkB, -⟩ := (hK.1.1 ci _ hc).2
  have ecl : X.2.2.1.1 ci = cellB.cls := Option.some.inj (hfc.symm.trans hclB)
  rw [ecl] at hkB
  have hKb : Back l R p e below s args ⟨owner, x.name, x.desc⟩ 3 8 (PreOf R (qn h h') (qs h h') (qPre X (qA o :: As) h)) (PostOf (qPost X r h') (qn h h') (qs h h') (fun q : Nat => X.1 ≤ q)) :=
    back_of (bytes := bs) (maxL := mL) (ret := rt) g3 qPre_blind rfl rfl hfr hlo (pay_in hts (qws_good w4)) List.mem_cons_self (fun a' U hW => word_at hW (Or.inl (by first | rfl | simp [Cond.onTables, Cond.keeps, Cond.steady])) (hts _ w5))
  obtain ⟨mk, methM, hnamed, hmethM, hstM, habM⟩ := Cond.instanceMethod_spec (hts _ w2)
  obtain ⟨methM', cM, hmethM', -, -, -, -, -, -, hsigM⟩ := Cond.code_spec hnamed (hts _ w4)
  cases hmethM.symm.trans hmethM'
  obtain ⟨ps, dk, kp, hps, hdk, hkp, hsuper, -, -, hnid⟩ := Cond.superclass_spec hx.2.2.2.1 (hts _ w3)
  obtain ⟨ps2, dk2, kp2, hps2, hdk2, hkp2, hsuper2, -, -, -⟩ := Cond.superclass_spec hps (hts _ w3b)
  have hpm : ps2 = mk.cls := Option.some.inj (hps2.symm.trans (findClass_of_methodNamed hnamed))
  have hsub : s.vm.isSubclass ps mk.cls = true := by
    rw [← hpm]
    exact qsub hdk2 hsuper2 hkp2 (by have := (Array.getElem?_eq_some_iff.mp hdk2).1; omega)
  intro T9 hT Xs
  obtain ⟨vm₁, X₁, hstep₁⟩ := Xs.invokespecialUp hx.1 hx.2.2.2.1 (hts _ w1) (hts _ w6) hnamed hmethM hstM habM hno hdk hnid hps hsuper hsub (a := X.1 + o.toNat) (cell := cellB) (by rw [hT]; exact hcB)
    (fun z q => by rw [q] at hoB; cases hoB) hkB (g := F0 m pc lsc ((As.map (qc X)).reverse ++ .ref (X.1 + o.toNat) :: rest)) rfl (argsL := As.map (qc X)) (rest := rest) (by rw [List.length_map, hn]; exact qPar_of hpar _ hsigM) rfl (by rw [hx.2.1]; exact hd)
  obtain ⟨v, ⟨U', l2, c2, s2⟩, X', ⟨g', mk2, t, L, e1, e2, hqq, h1, hL, h2, h3⟩, hsteps⟩ := hKb m meth c ⟨T9.setVm vm₁, locs, cells, slots⟩ { (F0 m pc lsc ((As.map (qc X)).reverse ++ .ref (X.1 + o.toNat) :: rest)) with stack := rest } (.invokespecial ix) mk (Value.ref (X.1 + o.toNat) :: As.map (qc X)).toArray X₁ rfl (hls.trans hx.2.2.1.symm) (by rw [hx.2.1]; exact hd) (by show 2 * 0 + (rest.map fun v => v.category).sum ≤ 8; omega) (X₁.named hnamed) ⟨hR.1, hR.2, hpre (T9.setVm vm₁) hT X₁.warmed⟩
  dsimp only [Pt.U, Pt.locs, Pt.cells, Pt.slots] at X' e1 e2 h1 h2 h3 hsteps
  subst h1; subst h2; subst h3
  exact ⟨v, (T9.setVm vm₁).calling g' mk2 (Value.ref (X.1 + o.toNat) :: As.map (qc X)).toArray, t, U', L, hT, X', hL, e1, e2, hqq, fun target q => hstep₁ _ (by rw [doInvoke_state]; exact hsteps.trans q)⟩
