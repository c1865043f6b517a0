/-! FROM THE HEAP AS IT WAS MADE TO THE HEAP AS IT IS TOLD OF -/
theorem qarr_congr {c : ClassId} {n : Nat} {f g : Nat → Value} (h : ∀ j : Nat, j < n → f j = g j) : arrV c n f = arrV c n g := by
  unfold arrV
  rw [show (fun j : Fin n => f j.val) = (fun j : Fin n => g j.val) from funext fun j => h _ j.isLt]
theorem qe_cong {X : qX} {h h' : qH} {id : Nat} {tn : Nat × Nat} {H : Heap} (hG : ∀ k : Nat, k < tn.2 → tn.1 < 100 ∨ 103 < tn.1 → h'.1.2 id k = h.1.2 id k) (hM : ∀ k : Nat, k < tn.2 → h'.2 id k = h.2 id k) (ha : va_at X.2.2.1 vwCl (X.1 + id, qe X h id tn) H) : va_at X.2.2.1 vwCl (X.1 + id, qe X h' id tn) H := by
  unfold qe at ha ⊢
  by_cases h1 : tn.1 < 100
  · rw [if_pos h1] at ha ⊢
    have e : (List.range tn.2).map (fun k => qsv X h' tn.1 id k) = (List.range tn.2).map (fun k => qsv X h tn.1 id k) := by
      apply List.map_congr_left
      intro k hk
      have hk : k < tn.2 := List.mem_range.mp hk
      unfold qsv
      rw [hG k hk (Or.inl h1), hM k hk]
    rw [e]
    exact ha
  · rw [if_neg h1] at ha ⊢
    by_cases h2 : tn.1 < 103
    · rw [if_pos h2] at ha ⊢
      have ha : H[X.1 + id]? = some (arrV (X.2.2.2 tn.1) tn.2 (fun j => .int (Int32.ofInt (h.2 id j)))) := ha
      show H[X.1 + id]? = some (arrV (X.2.2.2 tn.1) tn.2 (fun j => .int (Int32.ofInt (h'.2 id j))))
      rw [ha]
      exact congrArg some (qarr_congr (fun j hj => by rw [hM j hj]))
    · rw [if_neg h2] at ha ⊢
      by_cases h3 : tn.1 = 103
      · rw [if_pos h3] at ha ⊢
        have ha : H[X.1 + id]? = some (arrV (X.2.2.2 tn.1) tn.2 (fun j => .long (Int64.ofInt (h.2 id j)))) := ha
        show H[X.1 + id]? = some (arrV (X.2.2.2 tn.1) tn.2 (fun j => .long (Int64.ofInt (h'.2 id j))))
        rw [ha]
        exact congrArg some (qarr_congr (fun j hj => by rw [hM j hj]))
      · rw [if_neg h3] at ha ⊢
        have ha : H[X.1 + id]? = some (arrV (X.2.2.2 tn.1) tn.2 (fun j => va_rf (qo X (h.1.2 id j)))) := ha
        show H[X.1 + id]? = some (arrV (X.2.2.2 tn.1) tn.2 (fun j => va_rf (qo X (h'.1.2 id j))))
        rw [ha]
        exact congrArg some (qarr_congr (fun j hj => by rw [hG j hj (Or.inr (by omega))]))
theorem qP_cong {X : qX} {h h' : qH} {H : Heap} (hT : h'.1.1 = h.1.1) (hG : ∀ (id : Nat) (tn : Nat × Nat), h.1.1[id]? = some tn → ∀ k : Nat, k < tn.2 → tn.1 < 100 ∨ 103 < tn.1 → h'.1.2 id k = h.1.2 id k) (hM : ∀ (id : Nat) (tn : Nat × Nat), h.1.1[id]? = some tn → ∀ k : Nat, k < tn.2 → h'.2 id k = h.2 id k) (hP : qP X h H) : qP X h' H := by
  obtain ⟨h1, h2, h3⟩ := hP
  refine ⟨by rw [hT]; exact h1, fun id q hq => ?_, fun id tn hi k hk => ?_⟩
  · cases ht : h'.1.1[id]? with
    | none => rw [qW_none ht] at hq; cases hq
    | some tn =>
      rw [qW_get ht] at hq
      cases hq
      have ht' : h.1.1[id]? = some tn := by rw [← hT]; exact ht
      exact qe_cong (hG id tn ht') (hM id tn ht') (h2 id _ (qW_get ht'))
  · have hi' : h.1.1[id]? = some tn := by rw [← hT]; exact hi
    rw [hM id tn hi' k hk]
    exact h3 id tn hi' k hk
def qagb (h h' : qH) : Bool := (List.range h.1.1.length).all fun id => (let tn := h.1.1.getD id (0, 0); (tn.1 < 100 || 103 < tn.1) == false || (List.range tn.2).all fun k => decide (h'.1.2 id k = h.1.2 id k))
theorem qagb_ok {h h' : qH} (hb : qagb h h' = true) : ∀ (id : Nat) (tn : Nat × Nat), h.1.1[id]? = some tn → ∀ k : Nat, k < tn.2 → tn.1 < 100 ∨ 103 < tn.1 → h'.1.2 id k = h.1.2 id k := by
  intro id tn hi k hk ht
  unfold qagb at hb
  have hl := (List.getElem?_eq_some_iff.mp hi).1
  have h1 := List.all_eq_true.mp hb id (List.mem_range.mpr hl)
  have e : h.1.1.getD id (0, 0) = tn := by rw [List.getD_eq_getElem?_getD, hi]; rfl
  rw [e] at h1
  dsimp only at h1
  rw [Bool.or_eq_true] at h1
  rcases h1 with h1 | h1
  · have h2 : (decide (tn.1 < 100) || decide (103 < tn.1)) = true := by
      rw [Bool.or_eq_true]
      rcases ht with ht | ht
      · exact Or.inl (decide_eq_true ht)
      · exact Or.inr (decide_eq_true ht)
    rw [h2] at h1
    cases h1
  · exact of_decide_eq_true (List.all_eq_true.mp h1 k (List.mem_range.mpr hk))
theorem hk_G : qagb hk_333 (qH0 M0) = true := by decide +kernel
noncomputable def qo_sw : qOp := fun c => @ite _ (c.2.2.2 = hk_333) (Classical.propDecidable _) (.inl (c.1 + 1, c.2.1, qI 0 :: c.2.2.1, qH0 M0)) (.inr none)
theorem qk_sw {X : qX} {l : Launch} {K : Nat} {cc : ByteArray} {nL : Nat} {own nm : String} {rt : Option FieldType} {pc : Nat} (hd : decode cc pc = .ok (.iconst 0, 1)) : qOk X l K cc nL own nm rt pc qo_sw := by
  intro ls st h
  unfold qo_sw
  dsimp only
  by_cases e : h = hk_333
  · subst e
    rw [if_pos rfl]
    have hT : (qH0 M0).1.1 = hk_333.1.1 := hk_T.symm
    constructor
    · intro cfg' hc
      cases hc
      refine ⟨qle_eq hT, ?_⟩
      intro p e R s m args below meth c Q h0 hx hR hle hk H locs lsc hP hS hL hst hle'
      have e1 : qn h0 (qH0 M0) = qn h0 hk_333 := by unfold qn; rw [hT]
      have e2 : qs h0 (qH0 M0) = qs h0 hk_333 := by unfold qs qslots; rw [hT]
      have k2 := hk H locs lsc (qP_cong hT (qagb_ok hk_G) (fun id tn hi k q => (wr_M0 id tn hi k q).symm) hP) hS hL (fun v hv => by
        rcases List.mem_cons.mp hv with rfl | hv
        · show (-2147483648 : Int) ≤ 0 ∧ (0 : Int) ≤ 2147483647
          omega
        · exact hst v hv) (qle_tr hle' (qle_eq hT))
      dsimp only at k2 ⊢
      rw [e1, e2] at k2
      exact lv_iconst hx.1 hx.2.1 hd rfl k2
    · intro r h' hc
      cases hc
  · rw [if_neg e]
    constructor
    · intro cfg' hc
      cases hc
    · intro r h' hc
      cases hc
