/-! what holds, but for one thing -/
def Ese (a k : Int) : Prop := ¬ (a = 39 ∨ a = 40 ∨ (a = 82 ∧ k = 37) ∨ (104 ≤ a ∧ a ≤ 106))
theorem qInv_seen {N M : qMem} (h : qInv M) (u : qAg Ese N M) (z : qSeen N 39 37 104 105 106) : qInv N := by
  obtain ⟨i1, i2, h1, h2, h3, h4, ⟨h5, h6, h7⟩, ⟨h8, h9⟩, ⟨h10, h11, h12, h13⟩, h14, h15, h16, h17⟩ := h
  have w := fun (a : Int) (ha : a = 9 ∨ (12 ≤ a ∧ a ≤ 20) ∨ (30 ≤ a ∧ a ≤ 38) ∨ (45 ≤ a ∧ a ≤ 50) ∨ (53 ≤ a ∧ a ≤ 70)) => (funext (fun k => u a k (by unfold Ese; omega)) : N a = M a)
  have c := h10.1
  have g := qHk_g h12 c.2.2
  have N1 := qNow_g i1 (qAg_m u (fun a k q => by unfold D1 at q; unfold Ese; omega))
  refine ⟨N1, qMN_a (qMN_n i2 (qAg_m u (fun a k q => by unfold D2 at q; unfold Ese; omega))) i1 (qAg_m u (fun a k q => by unfold D1 at q; unfold Ese; omega)), ?_⟩
  refine ⟨z, by rw [w 12 (by omega)]; exact qEvn_g h2 (Int.le_refl _) (qAg_m u (fun a k q => by unfold DR3 at q; unfold Ese; omega)), qBok_g h3 (qAg_m u (fun a k q => by unfold DR3 at q; unfold Ese; omega)), qImg_g h4 (qAg_m u (fun a k q => by unfold D3 at q; unfold Ese; omega)),
    ⟨qSeen_g h5 (qAg_m u (fun a k q => by unfold DR3 at q; unfold Ese; omega)), by rw [w 30 (by omega)]; exact qEvn_g h6 (Int.le_refl _) (qAg_m u (fun a k q => by unfold DR3 at q; unfold Ese; omega)), qBok_g h7 (qAg_m u (fun a k q => by unfold DR3 at q; unfold Ese; omega))⟩,
    ⟨qZ_g h8 (by rw [w 12 (by omega)]) (w 17 (by omega)) (w 18 (by omega)) (w 19 (by omega)) (w 20 (by omega)), qZ_g h9 (by rw [w 30 (by omega)]) (w 35 (by omega)) (w 36 (by omega)) (w 37 (by omega)) (w 38 (by omega))⟩,
    ⟨qHls_g h10 (qAg_m u (fun a k q => by unfold D4 at q; unfold Ese; omega)), by rw [u 0 13 (by unfold Ese; omega), w 12 (by omega), u 82 11 (by unfold Ese; omega)]; exact h11, by rw [u 0 13 (by unfold Ese; omega), w 30 (by omega), u 82 48 (by unfold Ese; omega)]; exact h12, by rw [w 30 (by omega), w (M 30 13) (by omega)]; exact h13⟩,
    qTps_g h14 (qAg_m u (fun a k q => by unfold D5 at q; unfold Ese; omega)), qAct_g h15 (qAg_m u (fun a k q => by unfold D6 at q; unfold Ese; omega)), qTxt_g h16 (qAg_m u (fun a k q => by unfold D7 at q; unfold Ese; omega)), by rw [u 82 47 (by unfold Ese; omega), u 0 9 (by unfold Ese; omega)]; exact h17⟩
def Eev (a k : Int) : Prop := ¬ (a = 41 ∨ a = 42 ∨ (a = 82 ∧ k = 41) ∨ (107 ≤ a ∧ a ≤ 108))
theorem qInv_evn {N M : qMem} (h : qInv M) (u : qAg Eev N M) (z : qEvn N 41 41 107 108 (M 12 10)) : qInv N := by
  obtain ⟨i1, i2, h1, h2, h3, h4, ⟨h5, h6, h7⟩, ⟨h8, h9⟩, ⟨h10, h11, h12, h13⟩, h14, h15, h16, h17⟩ := h
  have w := fun (a : Int) (ha : a = 9 ∨ (12 ≤ a ∧ a ≤ 20) ∨ (30 ≤ a ∧ a ≤ 38) ∨ (45 ≤ a ∧ a ≤ 50) ∨ (53 ≤ a ∧ a ≤ 70)) => (funext (fun k => u a k (by unfold Eev; omega)) : N a = M a)
  have c := h10.1
  have g := qHk_g h12 c.2.2
  have N1 := qNow_g i1 (qAg_m u (fun a k q => by unfold D1 at q; unfold Eev; omega))
  refine ⟨N1, qMN_a (qMN_n i2 (qAg_m u (fun a k q => by unfold D2 at q; unfold Eev; omega))) i1 (qAg_m u (fun a k q => by unfold D1 at q; unfold Eev; omega)), ?_⟩
  refine ⟨qSeen_g h1 (qAg_m u (fun a k q => by unfold DR3 at q; unfold Eev; omega)), by rw [w 12 (by omega)]; exact z, qBok_g h3 (qAg_m u (fun a k q => by unfold DR3 at q; unfold Eev; omega)), qImg_g h4 (qAg_m u (fun a k q => by unfold D3 at q; unfold Eev; omega)),
    ⟨qSeen_g h5 (qAg_m u (fun a k q => by unfold DR3 at q; unfold Eev; omega)), by rw [w 30 (by omega)]; exact qEvn_g h6 (Int.le_refl _) (qAg_m u (fun a k q => by unfold DR3 at q; unfold Eev; omega)), qBok_g h7 (qAg_m u (fun a k q => by unfold DR3 at q; unfold Eev; omega))⟩,
    ⟨qZ_g h8 (by rw [w 12 (by omega)]) (w 17 (by omega)) (w 18 (by omega)) (w 19 (by omega)) (w 20 (by omega)), qZ_g h9 (by rw [w 30 (by omega)]) (w 35 (by omega)) (w 36 (by omega)) (w 37 (by omega)) (w 38 (by omega))⟩,
    ⟨qHls_g h10 (qAg_m u (fun a k q => by unfold D4 at q; unfold Eev; omega)), by rw [u 0 13 (by unfold Eev; omega), w 12 (by omega), u 82 11 (by unfold Eev; omega)]; exact h11, by rw [u 0 13 (by unfold Eev; omega), w 30 (by omega), u 82 48 (by unfold Eev; omega)]; exact h12, by rw [w 30 (by omega), w (M 30 13) (by omega)]; exact h13⟩,
    qTps_g h14 (qAg_m u (fun a k q => by unfold D5 at q; unfold Eev; omega)), qAct_g h15 (qAg_m u (fun a k q => by unfold D6 at q; unfold Eev; omega)), qTxt_g h16 (qAg_m u (fun a k q => by unfold D7 at q; unfold Eev; omega)), by rw [u 82 47 (by unfold Eev; omega), u 0 9 (by unfold Eev; omega)]; exact h17⟩
def Ebk (a k : Int) : Prop := ¬ (a = 43 ∨ a = 44 ∨ (a = 82 ∧ k = 42) ∨ (109 ≤ a ∧ a ≤ 110))
theorem qInv_bok {N M : qMem} (h : qInv M) (u : qAg Ebk N M) (z : qBok N 43 42 109 110) : qInv N := by
  obtain ⟨i1, i2, h1, h2, h3, h4, ⟨h5, h6, h7⟩, ⟨h8, h9⟩, ⟨h10, h11, h12, h13⟩, h14, h15, h16, h17⟩ := h
  have w := fun (a : Int) (ha : a = 9 ∨ (12 ≤ a ∧ a ≤ 20) ∨ (30 ≤ a ∧ a ≤ 38) ∨ (45 ≤ a ∧ a ≤ 50) ∨ (53 ≤ a ∧ a ≤ 70)) => (funext (fun k => u a k (by unfold Ebk; omega)) : N a = M a)
  have c := h10.1
  have g := qHk_g h12 c.2.2
  have N1 := qNow_g i1 (qAg_m u (fun a k q => by unfold D1 at q; unfold Ebk; omega))
  refine ⟨N1, qMN_a (qMN_n i2 (qAg_m u (fun a k q => by unfold D2 at q; unfold Ebk; omega))) i1 (qAg_m u (fun a k q => by unfold D1 at q; unfold Ebk; omega)), ?_⟩
  refine ⟨qSeen_g h1 (qAg_m u (fun a k q => by unfold DR3 at q; unfold Ebk; omega)), by rw [w 12 (by omega)]; exact qEvn_g h2 (Int.le_refl _) (qAg_m u (fun a k q => by unfold DR3 at q; unfold Ebk; omega)), z, qImg_g h4 (qAg_m u (fun a k q => by unfold D3 at q; unfold Ebk; omega)),
    ⟨qSeen_g h5 (qAg_m u (fun a k q => by unfold DR3 at q; unfold Ebk; omega)), by rw [w 30 (by omega)]; exact qEvn_g h6 (Int.le_refl _) (qAg_m u (fun a k q => by unfold DR3 at q; unfold Ebk; omega)), qBok_g h7 (qAg_m u (fun a k q => by unfold DR3 at q; unfold Ebk; omega))⟩,
    ⟨qZ_g h8 (by rw [w 12 (by omega)]) (w 17 (by omega)) (w 18 (by omega)) (w 19 (by omega)) (w 20 (by omega)), qZ_g h9 (by rw [w 30 (by omega)]) (w 35 (by omega)) (w 36 (by omega)) (w 37 (by omega)) (w 38 (by omega))⟩,
    ⟨qHls_g h10 (qAg_m u (fun a k q => by unfold D4 at q; unfold Ebk; omega)), by rw [u 0 13 (by unfold Ebk; omega), w 12 (by omega), u 82 11 (by unfold Ebk; omega)]; exact h11, by rw [u 0 13 (by unfold Ebk; omega), w 30 (by omega), u 82 48 (by unfold Ebk; omega)]; exact h12, by rw [w 30 (by omega), w (M 30 13) (by omega)]; exact h13⟩,
    qTps_g h14 (qAg_m u (fun a k q => by unfold D5 at q; unfold Ebk; omega)), qAct_g h15 (qAg_m u (fun a k q => by unfold D6 at q; unfold Ebk; omega)), qTxt_g h16 (qAg_m u (fun a k q => by unfold D7 at q; unfold Ebk; omega)), by rw [u 82 47 (by unfold Ebk; omega), u 0 9 (by unfold Ebk; omega)]; exact h17⟩
def Etp (a k : Int) : Prop := ¬ (a = 73 ∨ a = 74 ∨ (76 ≤ a ∧ a ≤ 81) ∨ (126 ≤ a ∧ a ≤ 129))
theorem qInv_tps {N M : qMem} (h : qInv M) (u : qAg Etp N M) (z : qTps N) : qInv N := by
  obtain ⟨i1, i2, h1, h2, h3, h4, ⟨h5, h6, h7⟩, ⟨h8, h9⟩, ⟨h10, h11, h12, h13⟩, h14, h15, h16, h17⟩ := h
  have w := fun (a : Int) (ha : a = 9 ∨ (12 ≤ a ∧ a ≤ 20) ∨ (30 ≤ a ∧ a ≤ 38) ∨ (45 ≤ a ∧ a ≤ 50) ∨ (53 ≤ a ∧ a ≤ 70)) => (funext (fun k => u a k (by unfold Etp; omega)) : N a = M a)
  have c := h10.1
  have g := qHk_g h12 c.2.2
  have N1 := qNow_g i1 (qAg_m u (fun a k q => by unfold D1 at q; unfold Etp; omega))
  refine ⟨N1, qMN_a (qMN_n i2 (qAg_m u (fun a k q => by unfold D2 at q; unfold Etp; omega))) i1 (qAg_m u (fun a k q => by unfold D1 at q; unfold Etp; omega)), ?_⟩
  refine ⟨qSeen_g h1 (qAg_m u (fun a k q => by unfold DR3 at q; unfold Etp; omega)), by rw [w 12 (by omega)]; exact qEvn_g h2 (Int.le_refl _) (qAg_m u (fun a k q => by unfold DR3 at q; unfold Etp; omega)), qBok_g h3 (qAg_m u (fun a k q => by unfold DR3 at q; unfold Etp; omega)), qImg_g h4 (qAg_m u (fun a k q => by unfold D3 at q; unfold Etp; omega)),
    ⟨qSeen_g h5 (qAg_m u (fun a k q => by unfold DR3 at q; unfold Etp; omega)), by rw [w 30 (by omega)]; exact qEvn_g h6 (Int.le_refl _) (qAg_m u (fun a k q => by unfold DR3 at q; unfold Etp; omega)), qBok_g h7 (qAg_m u (fun a k q => by unfold DR3 at q; unfold Etp; omega))⟩,
    ⟨qZ_g h8 (by rw [w 12 (by omega)]) (w 17 (by omega)) (w 18 (by omega)) (w 19 (by omega)) (w 20 (by omega)), qZ_g h9 (by rw [w 30 (by omega)]) (w 35 (by omega)) (w 36 (by omega)) (w 37 (by omega)) (w 38 (by omega))⟩,
    ⟨qHls_g h10 (qAg_m u (fun a k q => by unfold D4 at q; unfold Etp; omega)), by rw [u 0 13 (by unfold Etp; omega), w 12 (by omega), u 82 11 (by unfold Etp; omega)]; exact h11, by rw [u 0 13 (by unfold Etp; omega), w 30 (by omega), u 82 48 (by unfold Etp; omega)]; exact h12, by rw [w 30 (by omega), w (M 30 13) (by omega)]; exact h13⟩,
    z, qAct_g h15 (qAg_m u (fun a k q => by unfold D6 at q; unfold Etp; omega)), qTxt_g h16 (qAg_m u (fun a k q => by unfold D7 at q; unfold Etp; omega)), by rw [u 82 47 (by unfold Etp; omega), u 0 9 (by unfold Etp; omega)]; exact h17⟩
def Eac (a k : Int) : Prop := ¬ ((a = 82 ∧ k = 69) ∨ a = 71 ∨ a = 72 ∨ a = 125)
theorem qInv_act {N M : qMem} (h : qInv M) (u : qAg Eac N M) (z : qAct N) : qInv N := by
  obtain ⟨i1, i2, h1, h2, h3, h4, ⟨h5, h6, h7⟩, ⟨h8, h9⟩, ⟨h10, h11, h12, h13⟩, h14, h15, h16, h17⟩ := h
  have w := fun (a : Int) (ha : a = 9 ∨ (12 ≤ a ∧ a ≤ 20) ∨ (30 ≤ a ∧ a ≤ 38) ∨ (45 ≤ a ∧ a ≤ 50) ∨ (53 ≤ a ∧ a ≤ 70)) => (funext (fun k => u a k (by unfold Eac; omega)) : N a = M a)
  have c := h10.1
  have g := qHk_g h12 c.2.2
  have N1 := qNow_g i1 (qAg_m u (fun a k q => by unfold D1 at q; unfold Eac; omega))
  refine ⟨N1, qMN_a (qMN_n i2 (qAg_m u (fun a k q => by unfold D2 at q; unfold Eac; omega))) i1 (qAg_m u (fun a k q => by unfold D1 at q; unfold Eac; omega)), ?_⟩
  refine ⟨qSeen_g h1 (qAg_m u (fun a k q => by unfold DR3 at q; unfold Eac; omega)), by rw [w 12 (by omega)]; exact qEvn_g h2 (Int.le_refl _) (qAg_m u (fun a k q => by unfold DR3 at q; unfold Eac; omega)), qBok_g h3 (qAg_m u (fun a k q => by unfold DR3 at q; unfold Eac; omega)), qImg_g h4 (qAg_m u (fun a k q => by unfold D3 at q; unfold Eac; omega)),
    ⟨qSeen_g h5 (qAg_m u (fun a k q => by unfold DR3 at q; unfold Eac; omega)), by rw [w 30 (by omega)]; exact qEvn_g h6 (Int.le_refl _) (qAg_m u (fun a k q => by unfold DR3 at q; unfold Eac; omega)), qBok_g h7 (qAg_m u (fun a k q => by unfold DR3 at q; unfold Eac; omega))⟩,
    ⟨qZ_g h8 (by rw [w 12 (by omega)]) (w 17 (by omega)) (w 18 (by omega)) (w 19 (by omega)) (w 20 (by omega)), qZ_g h9 (by rw [w 30 (by omega)]) (w 35 (by omega)) (w 36 (by omega)) (w 37 (by omega)) (w 38 (by omega))⟩,
    ⟨qHls_g h10 (qAg_m u (fun a k q => by unfold D4 at q; unfold Eac; omega)), by rw [u 0 13 (by unfold Eac; omega), w 12 (by omega), u 82 11 (by unfold Eac; omega)]; exact h11, by rw [u 0 13 (by unfold Eac; omega), w 30 (by omega), u 82 48 (by unfold Eac; omega)]; exact h12, by rw [w 30 (by omega), w (M 30 13) (by omega)]; exact h13⟩,
    qTps_g h14 (qAg_m u (fun a k q => by unfold D5 at q; unfold Eac; omega)), z, qTxt_g h16 (qAg_m u (fun a k q => by unfold D7 at q; unfold Eac; omega)), by rw [u 82 47 (by unfold Eac; omega), u 0 9 (by unfold Eac; omega)]; exact h17⟩
def Etx (a k : Int) : Prop := ¬ ((a = 82 ∧ k = 12) ∨ (a = 0 ∧ k = 11) ∨ a = 51 ∨ a = 90)
theorem qInv_txt {N M : qMem} (h : qInv M) (u : qAg Etx N M) (z : qTxt N) : qInv N := by
  obtain ⟨i1, i2, h1, h2, h3, h4, ⟨h5, h6, h7⟩, ⟨h8, h9⟩, ⟨h10, h11, h12, h13⟩, h14, h15, h16, h17⟩ := h
  have w := fun (a : Int) (ha : a = 9 ∨ (12 ≤ a ∧ a ≤ 20) ∨ (30 ≤ a ∧ a ≤ 38) ∨ (45 ≤ a ∧ a ≤ 50) ∨ (53 ≤ a ∧ a ≤ 70)) => (funext (fun k => u a k (by unfold Etx; omega)) : N a = M a)
  have c := h10.1
  have g := qHk_g h12 c.2.2
  have N1 := qNow_g i1 (qAg_m u (fun a k q => by unfold D1 at q; unfold Etx; omega))
  refine ⟨N1, qMN_a (qMN_n i2 (qAg_m u (fun a k q => by unfold D2 at q; unfold Etx; omega))) i1 (qAg_m u (fun a k q => by unfold D1 at q; unfold Etx; omega)), ?_⟩
  refine ⟨qSeen_g h1 (qAg_m u (fun a k q => by unfold DR3 at q; unfold Etx; omega)), by rw [w 12 (by omega)]; exact qEvn_g h2 (Int.le_refl _) (qAg_m u (fun a k q => by unfold DR3 at q; unfold Etx; omega)), qBok_g h3 (qAg_m u (fun a k q => by unfold DR3 at q; unfold Etx; omega)), qImg_g h4 (qAg_m u (fun a k q => by unfold D3 at q; unfold Etx; omega)),
    ⟨qSeen_g h5 (qAg_m u (fun a k q => by unfold DR3 at q; unfold Etx; omega)), by rw [w 30 (by omega)]; exact qEvn_g h6 (Int.le_refl _) (qAg_m u (fun a k q => by unfold DR3 at q; unfold Etx; omega)), qBok_g h7 (qAg_m u (fun a k q => by unfold DR3 at q; unfold Etx; omega))⟩,
    ⟨qZ_g h8 (by rw [w 12 (by omega)]) (w 17 (by omega)) (w 18 (by omega)) (w 19 (by omega)) (w 20 (by omega)), qZ_g h9 (by rw [w 30 (by omega)]) (w 35 (by omega)) (w 36 (by omega)) (w 37 (by omega)) (w 38 (by omega))⟩,
    ⟨qHls_g h10 (qAg_m u (fun a k q => by unfold D4 at q; unfold Etx; omega)), by rw [u 0 13 (by unfold Etx; omega), w 12 (by omega), u 82 11 (by unfold Etx; omega)]; exact h11, by rw [u 0 13 (by unfold Etx; omega), w 30 (by omega), u 82 48 (by unfold Etx; omega)]; exact h12, by rw [w 30 (by omega), w (M 30 13) (by omega)]; exact h13⟩,
    qTps_g h14 (qAg_m u (fun a k q => by unfold D5 at q; unfold Etx; omega)), qAct_g h15 (qAg_m u (fun a k q => by unfold D6 at q; unfold Etx; omega)), z, by rw [u 82 47 (by unfold Etx; omega), u 0 9 (by unfold Etx; omega)]; exact h17⟩
/-- what an edit of the state now leaves -/
def DZ (a k : Int) : Prop := ¬ (13 ≤ a ∧ a ≤ 20) ∧ ¬ (21 ≤ a ∧ a ≤ 29) ∧ ¬ (83 ≤ a ∧ a ≤ 89) ∧ ¬ a = 97 ∧ ¬ (99 ≤ a ∧ a ≤ 103) ∧ (a = 12 → k = 13) ∧ (a = 82 → ¬ k = 0 ∧ ¬ k = 1 ∧ ¬ k = 2 ∧ ¬ k = 27 ∧ ¬ (29 ≤ k ∧ k ≤ 32) ∧ ¬ k = 13 ∧ ¬ k = 14 ∧ ¬ (23 ≤ k ∧ k ≤ 25))
theorem qRest_z {N M : qMem} (h : qRest M) (u : qAg DZ N M) (hp : M 12 10 ≤ N 12 10) (z : qZ N 12) : qRest N := by
  obtain ⟨h1, h2, h3, h4, ⟨h5, h6, h7⟩, ⟨h8, h9⟩, ⟨h10, h11, h12, h13⟩, h14, h15, h16, h17⟩ := h
  have w := fun (a : Int) (ha : 30 ≤ a ∧ a ≤ 38) => (funext (fun k => u a k (by unfold DZ; omega)) : N a = M a)
  have e13 : N 12 13 = M 12 13 := u 12 13 (by unfold DZ; omega)
  have c := h10.1
  have g := qHk_g h12 c.2.2
  refine ⟨qSeen_g h1 (qAg_m u (fun a k q => by unfold DR3 at q; unfold DZ; omega)), qEvn_g h2 hp (qAg_m u (fun a k q => by unfold DR3 at q; unfold DZ; omega)), qBok_g h3 (qAg_m u (fun a k q => by unfold DR3 at q; unfold DZ; omega)), qImg_g h4 (qAg_m u (fun a k q => by unfold D3 at q; unfold DZ; omega)),
    ⟨qSeen_g h5 (qAg_m u (fun a k q => by unfold DR3 at q; unfold DZ; omega)), by rw [w 30 (by omega)]; exact qEvn_g h6 (Int.le_refl _) (qAg_m u (fun a k q => by unfold DR3 at q; unfold DZ; omega)), qBok_g h7 (qAg_m u (fun a k q => by unfold DR3 at q; unfold DZ; omega))⟩,
    ⟨z, qZ_g h9 (by rw [w 30 (by omega)]) (w 35 (by omega)) (w 36 (by omega)) (w 37 (by omega)) (w 38 (by omega))⟩,
    ⟨qHls_g h10 (qAg_m u (fun a k q => by unfold D4 at q; unfold DZ; omega)), by rw [u 0 13 (by unfold DZ; omega), e13, u 82 11 (by unfold DZ; omega)]; exact h11, by rw [u 0 13 (by unfold DZ; omega), w 30 (by omega), u 82 48 (by unfold DZ; omega)]; exact h12, by rw [w 30 (by omega), u (M 30 13) 4 (by unfold DZ; omega)]; exact h13⟩,
    qTps_g h14 (qAg_m u (fun a k q => by unfold D5 at q; unfold DZ; omega)), qAct_g h15 (qAg_m u (fun a k q => by unfold D6 at q; unfold DZ; omega)), qTxt_g h16 (qAg_m u (fun a k q => by unfold D7 at q; unfold DZ; omega)), by rw [u 82 47 (by unfold DZ; omega), u 0 9 (by unfold DZ; omega)]; exact h17⟩
