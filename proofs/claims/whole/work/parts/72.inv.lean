/-! what holds between two calls -/
def qAg (D : Int → Int → Prop) (N M : qMem) : Prop := ∀ a k : Int, D a k → N a k = M a k
theorem qAg_t {D : Int → Int → Prop} {L N M : qMem} (h1 : qAg D L N) (h2 : qAg D N M) : qAg D L M := fun a k h => (h1 a k h).trans (h2 a k h)
theorem qAg_m {D E : Int → Int → Prop} {N M : qMem} (h : qAg D N M) (hm : ∀ a k : Int, E a k → D a k) : qAg E N M := fun a k q => h a k (hm a k q)
theorem qAg_up {D : Int → Int → Prop} {N M : qMem} {a k v : Int} (h : qAg D N M) (hn : ¬ D a k) : qAg D (qup N a k v) M := fun a' k' q => by
  rw [qup_ne (fun z => hn (by rw [← z.1, ← z.2]; exact q))]
  exact h a' k' q
theorem qAg_r {D : Int → Int → Prop} {M : qMem} : qAg D M M := fun _ _ _ => rfl
/-- cells of the class's state now -/
def D1 (a k : Int) : Prop := (a = 12 ∧ (k = 1 ∨ (10 ≤ k ∧ k ≤ 13))) ∨ (13 ≤ a ∧ a ≤ 20) ∨ (a = 21 ∧ k = 1) ∨ a = 9 ∨ a = 11 ∨ (53 ≤ a ∧ a ≤ 70)
/-- cells of the reference's state now -/
def D2 (a k : Int) : Prop := (a = 82 ∧ (k = 0 ∨ k = 1 ∨ k = 2 ∨ k = 11 ∨ k = 27 ∨ k = 29 ∨ k = 30)) ∨ (83 ≤ a ∧ a ≤ 89) ∨ (91 ≤ a ∧ a ≤ 96)
theorem qNow_g {N M : qMem} (h : qNow M) (u : qAg D1 N M) : qNow N := by
  obtain ⟨h1, h2, h3, h4, h5⟩ := h
  have hg := h1.2.2.2.2.2.2.1
  have r := fun (a : Int) (ha : (13 ≤ a ∧ a ≤ 20) ∨ a = 9 ∨ a = 11 ∨ (53 ≤ a ∧ a ≤ 70)) => (funext (fun k => u a k (by unfold D1; omega)) : N a = M a)
  have s := fun (k : Int) (hk : k = 1 ∨ (10 ≤ k ∧ k ≤ 13)) => u 12 k (by unfold D1; omega)
  unfold qHl at hg
  refine ⟨qSF_row h1 (s 1 (by omega)) (s 10 (by omega)) (s 12 (by omega)) (s 13 (by omega)) (r 14 (by omega)) (r 15 (by omega)) (r 16 (by omega)) (r 19 (by omega)) (r 20 (by omega)) (r _ (by omega)) (r _ (by omega)), qSV_row h2 (s 11 (by omega)) (s 1 (by omega)) (r 13 (by omega)) (r 17 (by omega)) (r 18 (by omega)), by rw [s 1 (by omega)]; exact h3, by rw [s 11 (by omega)]; exact h4, by rw [u 21 1 (by unfold D1; omega)]; exact h5⟩
theorem qMN_n {N M A : qMem} (h : qMN M A) (u : qAg D2 N M) : qMN N A := by
  obtain ⟨h1, h2, h3, h4⟩ := h
  have r := fun (a : Int) (ha : (83 ≤ a ∧ a ≤ 89) ∨ (91 ≤ a ∧ a ≤ 96)) => (funext (fun k => u a k (by unfold D2; omega)) : N a = M a)
  have s := fun (k : Int) (hk : k = 0 ∨ k = 1 ∨ k = 2 ∨ k = 11 ∨ k = 27 ∨ k = 29 ∨ k = 30) => u 82 k (by unfold D2; omega)
  have hS := qHS_row h1.2.2.2.2.2.1 (s 11 (by omega)) (r 91 (by omega)) (r 92 (by omega)) (r 93 (by omega)) (r 94 (by omega)) (r 95 (by omega)) (r 96 (by omega))
  unfold qMN qRS
  rw [s 0 (by omega), s 1 (by omega), s 2 (by omega), s 27 (by omega), s 29 (by omega), s 30 (by omega), r 83 (by omega), r 84 (by omega), r 85 (by omega), r 86 (by omega), r 87 (by omega), r 88 (by omega), r 89 (by omega)]
  exact ⟨⟨h1.1, h1.2.1, h1.2.2.1, h1.2.2.2.1, h1.2.2.2.2.1, hS, h1.2.2.2.2.2.2⟩, h2, h3, h4⟩
theorem qMN_a {N A B : qMem} (h : qMN N A) (hA : qNow A) (u : qAg D1 B A) : qMN N B := by
  obtain ⟨h1, h2⟩ := h
  have hg := hA.1.2.2.2.2.2.2.1
  have r := fun (a : Int) (ha : (13 ≤ a ∧ a ≤ 20) ∨ a = 9 ∨ a = 11 ∨ (53 ≤ a ∧ a ≤ 70)) => (funext (fun k => u a k (by unfold D1; omega)) : B a = A a)
  have s := fun (k : Int) (hk : k = 1 ∨ (10 ≤ k ∧ k ≤ 13)) => u 12 k (by unfold D1; omega)
  unfold qHl at hg
  have hS := qHS_rowA (B := B) h1.2.2.2.2.2.1 (r _ (by omega)) (r _ (by omega))
  have r13 : B (12 + 1) = A (12 + 1) := r 13 (by omega)
  have r14 : B (12 + 2) = A (12 + 2) := r 14 (by omega)
  have r15 : B (12 + 3) = A (12 + 3) := r 15 (by omega)
  have r16 : B (12 + 4) = A (12 + 4) := r 16 (by omega)
  have r17 : B (12 + 5) = A (12 + 5) := r 17 (by omega)
  have r18 : B (12 + 6) = A (12 + 6) := r 18 (by omega)
  have r19 : B (12 + 7) = A (12 + 7) := r 19 (by omega)
  have r20 : B (12 + 8) = A (12 + 8) := r 20 (by omega)
  refine ⟨?_, h2⟩
  unfold qRS
  rw [s 10 (by omega), s 11 (by omega), s 12 (by omega), s 13 (by omega), r (A 12 13) (by omega), r13, r14, r15, r16, r17, r18, r19, r20]
  exact ⟨h1.1, h1.2.1, h1.2.2.1, h1.2.2.2.1, h1.2.2.2.2.1, hS, h1.2.2.2.2.2.2⟩
/-! rows told by hand, class and reference -/
def qSeen (M : qMem) (r s a1 a2 a3 : Int) : Prop := (M r 0 = 5 ∧ M r 1 = 3) ∧ (0 ≤ M r 3 ∧ M r 3 ≤ 5) ∧ M 82 s = M r 3 ∧ ∀ i : Int, 0 ≤ i → i < M r 3 → (0 ≤ M (r + 1) (3 * i) ∧ M (r + 1) (3 * i) < 5) ∧ (0 ≤ M (r + 1) (3 * i + 2) ∧ M (r + 1) (3 * i + 2) ≤ 20) ∧ M a1 i = M (r + 1) (3 * i) ∧ M a2 i = M (r + 1) (3 * i + 1) ∧ M a3 i = M (r + 1) (3 * i + 2)
def qEvn (M : qMem) (r s a1 a2 pp : Int) : Prop := (M r 0 = 10 ∧ M r 1 = 2) ∧ (0 ≤ M r 3 ∧ M r 3 ≤ 10) ∧ M 82 s = M r 3 ∧ ∀ i : Int, 0 ≤ i → i < M r 3 → (0 ≤ M (r + 1) (2 * i) ∧ M (r + 1) (2 * i) ≤ 5) ∧ M a1 i = M (r + 1) (2 * i) ∧ (¬ M (r + 1) (2 * i) = 0 → (0 ≤ M (r + 1) (2 * i + 1) ∧ M (r + 1) (2 * i + 1) < pp) ∧ M a2 i = M (r + 1) (2 * i + 1))
def qBok (M : qMem) (r s a1 a2 : Int) : Prop := (M r 0 = 8 ∧ M r 1 = 2) ∧ (0 ≤ M r 3 ∧ M r 3 ≤ 8) ∧ M 82 s = M r 3 ∧ ∀ i : Int, 0 ≤ i → i < M r 3 → (0 ≤ M (r + 1) (2 * i) ∧ M (r + 1) (2 * i) < 5) ∧ M a1 i = M (r + 1) (2 * i) ∧ M a2 i = M (r + 1) (2 * i + 1)
def DR3 (r s a1 a2 a3 a k : Int) : Prop := a = r ∨ a = r + 1 ∨ (a = 82 ∧ k = s) ∨ a = a1 ∨ a = a2 ∨ a = a3
theorem qSeen_g {N M : qMem} {r s a1 a2 a3 : Int} (h : qSeen M r s a1 a2 a3) (u : qAg (DR3 r s a1 a2 a3) N M) : qSeen N r s a1 a2 a3 := by
  have w := fun (a : Int) (ha : a = r ∨ a = r + 1 ∨ a = a1 ∨ a = a2 ∨ a = a3) => (funext (fun k => u a k (by unfold DR3; omega)) : N a = M a)
  unfold qSeen
  rw [w r (by omega), w (r + 1) (by omega), w a1 (by omega), w a2 (by omega), w a3 (by omega), u 82 s (by unfold DR3; omega)]
  exact h
theorem qEvn_g {N M : qMem} {r s a1 a2 pp qq : Int} (h : qEvn M r s a1 a2 pp) (hp : pp ≤ qq) (u : qAg (DR3 r s a1 a2 a2) N M) : qEvn N r s a1 a2 qq := by
  have w := fun (a : Int) (ha : a = r ∨ a = r + 1 ∨ a = a1 ∨ a = a2) => (funext (fun k => u a k (by unfold DR3; omega)) : N a = M a)
  unfold qEvn
  rw [w r (by omega), w (r + 1) (by omega), w a1 (by omega), w a2 (by omega), u 82 s (by unfold DR3; omega)]
  exact ⟨h.1, h.2.1, h.2.2.1, fun i a b => ⟨(h.2.2.2 i a b).1, (h.2.2.2 i a b).2.1, fun c => by have := (h.2.2.2 i a b).2.2 c; omega⟩⟩
theorem qBok_g {N M : qMem} {r s a1 a2 : Int} (h : qBok M r s a1 a2) (u : qAg (DR3 r s a1 a2 a2) N M) : qBok N r s a1 a2 := by
  have w := fun (a : Int) (ha : a = r ∨ a = r + 1 ∨ a = a1 ∨ a = a2) => (funext (fun k => u a k (by unfold DR3; omega)) : N a = M a)
  unfold qBok
  rw [w r (by omega), w (r + 1) (by omega), w a1 (by omega), w a2 (by omega), u 82 s (by unfold DR3; omega)]
  exact h
theorem qSeen_S {M : qMem} (h : qSeen M 39 37 104 105 106) : qSn M ∧ qSnR M M :=
  ⟨⟨h.1, h.2.1, fun i a b => ⟨(h.2.2.2 i a b).1, (h.2.2.2 i a b).2.1⟩⟩, h.2.2.1, fun i a b => (h.2.2.2 i a b).2.2⟩
theorem qEvn_S {M : qMem} (h : qEvn M 41 41 107 108 (M 12 10)) : qEv M ∧ qEvR M M :=
  ⟨⟨h.1, h.2.1, fun i a b => ⟨(h.2.2.2 i a b).1, fun c => ((h.2.2.2 i a b).2.2 c).1⟩⟩, h.2.2.1, fun i a b => ⟨(h.2.2.2 i a b).2.1, fun c => ((h.2.2.2 i a b).2.2 c).2⟩⟩
/-! the image -/
def qImg (M : qMem) : Prop := ((0 ≤ M 30 10 ∧ M 30 10 ≤ 6) ∧ (1 ≤ M 30 12 ∧ M 30 12 ≤ 99) ∧ M 30 1 = 99999 ∧ M 30 11 ≤ 9999) ∧ qSV M 30 0 ∧ (M 82 49 = M 30 10 ∧ M 82 50 = M 30 11 ∧ 0 ≤ M 82 51 ∧ M 82 51 < 64) ∧
  (∀ k : Int, 0 ≤ k → k < 5 → M 111 k = M 31 k) ∧
  (∀ p : Int, 0 ≤ p → p < 6 → ((0 ≤ M 32 p ∧ M 32 p ≤ 6) ∧ (0 ≤ M 33 p ∧ M 33 p ≤ 9) ∧ (0 ≤ M 34 p ∧ M 34 p ≤ 3) ∧ (M 38 p = 0 ∨ M 38 p = 1)) ∧ M 112 p = M 32 p ∧ M 113 p = M 33 p ∧ M 114 p = M 34 p ∧ M 115 p = M 35 p ∧ M 116 p = M 36 p ∧ qBit (M 82 51) p = M 38 p) ∧
  (∀ k : Int, 0 ≤ k → k < 24 → (0 ≤ M 37 k ∧ M 37 k ≤ 9) ∧ M 117 k = M 37 k)
def D3 (a k : Int) : Prop := (30 ≤ a ∧ a ≤ 38) ∨ (111 ≤ a ∧ a ≤ 117) ∨ (a = 82 ∧ 49 ≤ k ∧ k ≤ 51)
theorem qImg_g {N M : qMem} (h : qImg M) (u : qAg D3 N M) : qImg N := by
  have w := fun (a : Int) (ha : (30 ≤ a ∧ a ≤ 38) ∨ (111 ≤ a ∧ a ≤ 117)) => (funext (fun k => u a k (by unfold D3; omega)) : N a = M a)
  have hV : qSV N 30 0 := qSV_row h.2.1 (by rw [w 30 (by omega)]) (by rw [w 30 (by omega)]) (w 31 (by omega)) (w 35 (by omega)) (w 36 (by omega))
  have h' := h
  unfold qImg at h' ⊢
  rw [w 30 (by omega), w 31 (by omega), w 32 (by omega), w 33 (by omega), w 34 (by omega), w 35 (by omega), w 36 (by omega), w 37 (by omega), w 38 (by omega), w 111 (by omega), w 112 (by omega), w 113 (by omega), w 114 (by omega), w 115 (by omega), w 116 (by omega), w 117 (by omega), u 82 49 (by unfold D3; omega), u 82 50 (by unfold D3; omega), u 82 51 (by unfold D3; omega)]
  exact ⟨h'.1, hV, h'.2.2⟩
/-- nothing is told of nobody -/
def qZ (M : qMem) (o : Int) : Prop := ∀ p : Int, M o 10 ≤ p → p < 6 → M (o + 5) p = 0 ∧ M (o + 6) p = 0 ∧ M (o + 8) p = 0 ∧ ∀ i : Int, 0 ≤ i → i < 4 → M (o + 7) (4 * p + i) = 0
theorem qZ_g {N M : qMem} {o : Int} (h : qZ M o) (h10 : N o 10 = M o 10) (h5 : N (o + 5) = M (o + 5)) (h6 : N (o + 6) = M (o + 6)) (h7 : N (o + 7) = M (o + 7)) (h8 : N (o + 8) = M (o + 8)) : qZ N o := by
  unfold qZ
  rw [h10, h5, h6, h7, h8]
  exact h
/-! halls -/
def qHQ (M : qMem) (f : Int) : Prop := ∀ i : Int, 0 ≤ i → i < M 91 f → M 92 (10 * f + i) ≤ 1 → 100 * f ≤ M 94 (10 * f + i) ∧ M 95 (10 * f + i) ≤ 100 * f + 100
def qHk (c g f : Int) : Prop := (f = -1 ∧ g = 9) ∨ (0 ≤ f ∧ f < c ∧ g = 53 + 3 * f)
def qHall (M : qMem) (f : Int) : Prop := qHI M (53 + 3 * f) ∧ qHR M M f (53 + 3 * f) ∧ qHQ M f
def DH (f a k : Int) : Prop := (a = 53 + 3 * f ∧ 3 ≤ k ∧ k ≤ 5) ∨ a = 55 + 3 * f ∨ (a = 91 ∧ k = f) ∨ ((92 ≤ a ∧ a ≤ 95) ∧ 10 * f ≤ k ∧ k < 10 * f + 10) ∨ (a = 96 ∧ 100 * f ≤ k ∧ k < 100 * f + 100)
theorem qHI_c {M N : qMem} {g : Int} (h : qHI M g) (h3 : N g 3 = M g 3) (h4 : N g 4 = M g 4) (h5 : N g 5 = M g 5) (hr : N (g + 2) = M (g + 2)) : qHI N g := by
  unfold qHI at h ⊢
  rw [h3, h4, h5, hr, fTc_row hr]
  exact h
theorem qHR_c {M N : qMem} {f g : Int} (h : qHR M M f g) (hQ : qHQ M f) (h3 : N g 3 = M g 3) (h4 : N g 4 = M g 4) (h5 : N g 5 = M g 5) (hr : N (g + 2) = M (g + 2)) (h91 : N 91 f = M 91 f) (hc : ∀ i : Int, 0 ≤ i → i < 10 → N 92 (10 * f + i) = M 92 (10 * f + i) ∧ N 93 (10 * f + i) = M 93 (10 * f + i) ∧ N 94 (10 * f + i) = M 94 (10 * f + i) ∧ N 95 (10 * f + i) = M 95 (10 * f + i)) (h96 : ∀ k : Int, 100 * f ≤ k → k < 100 * f + 100 → N 96 k = M 96 k) : qHR N N f g ∧ qHQ N f := by
  obtain ⟨n, P, a1, a2, a3, a4, a5, a6, a7⟩ := h
  have fl : ∀ w d : Int, fLast N w d (10 * f) n = fLast M w d (10 * f) n := fun w d => fLast_eq n (fun i hi => ⟨(hc i (by omega) (by omega)).1, (hc i (by omega) (by omega)).2.1⟩)
  refine ⟨⟨n, P, h91.trans a1, a2, a3, by rw [h3]; exact a4, fun i hi => ?_, by rw [h4, fl]; exact a6, by rw [h5, fl]; exact a7⟩, fun i i0 i1 z => ?_⟩
  · have c := hc i (by omega) (by omega)
    exact qCl_fr (a5 i hi) c.1 c.2.1 c.2.2.1 c.2.2.2 (fun z k k1 k2 => by have := hQ i (by omega) (by omega) z; exact h96 k (by omega) (by omega)) (fun k _ => by rw [hr])
  · have c := hc i i0 (by omega)
    rw [c.1] at z
    rw [c.2.2.1, c.2.2.2]
    exact hQ i i0 (by omega) z
theorem qHall_g {N M : qMem} {f : Int} (h : qHall M f) (u : qAg (DH f) N M) : qHall N f := by
  obtain ⟨h1, h2, h3⟩ := h
  have e3 : N (53 + 3 * f) 3 = M (53 + 3 * f) 3 := u _ _ (by unfold DH; omega)
  have e4 : N (53 + 3 * f) 4 = M (53 + 3 * f) 4 := u _ _ (by unfold DH; omega)
  have e5 : N (53 + 3 * f) 5 = M (53 + 3 * f) 5 := u _ _ (by unfold DH; omega)
  have er : N (53 + 3 * f + 2) = M (53 + 3 * f + 2) := funext (fun k => u _ k (by unfold DH; omega))
  exact ⟨qHI_c h1 e3 e4 e5 er, qHR_c h2 h3 e3 e4 e5 er (u _ _ (by unfold DH; omega)) (fun i a b => ⟨u _ _ (by unfold DH; omega), u _ _ (by unfold DH; omega), u _ _ (by unfold DH; omega), u _ _ (by unfold DH; omega)⟩) (fun k a b => u _ _ (by unfold DH; omega))⟩
def qHls (M : qMem) : Prop := (M 82 10 = M 0 13 ∧ 0 ≤ M 0 13 ∧ M 0 13 ≤ 6) ∧ (M 9 3 = 0 ∧ M 9 4 = 50 ∧ M 9 5 = 0) ∧ (∀ f : Int, 0 ≤ f → f < M 0 13 → qHall M f) ∧ qLe M
def D4 (a k : Int) : Prop := (a = 82 ∧ k = 10) ∨ (a = 0 ∧ k = 13) ∨ a = 9 ∨ (53 ≤ a ∧ a ≤ 70) ∨ (91 ≤ a ∧ a ≤ 96) ∨ a = 98
theorem qHls_g {N M : qMem} (h : qHls M) (u : qAg D4 N M) : qHls N := by
  obtain ⟨h1, h2, h3, h4⟩ := h
  have e13 : N 0 13 = M 0 13 := u _ _ (by unfold D4; omega)
  refine ⟨by rw [u 82 10 (by unfold D4; omega), e13]; exact h1, by rw [u 9 3 (by unfold D4; omega), u 9 4 (by unfold D4; omega), u 9 5 (by unfold D4; omega)]; exact h2, fun f a b => qHall_g (h3 f a (by omega)) (qAg_m u (fun x y z => by unfold DH at z; unfold D4; omega)), fun k hk => by rw [u 98 _ (by unfold D4; omega)]; exact h4 k hk⟩
/-! tapes, acts, signs -/
def qTps (M : qMem) : Prop := ∀ x : Int, 0 ≤ x → x < 6 → M 126 x = M 73 x ∧ (-1 ≤ M 73 x ∧ M 73 x ≤ 4) ∧ (0 ≤ M 73 x → M 127 x = M 74 x ∧ (0 ≤ M 74 x ∧ M 74 x ≤ 60) ∧ ∀ i : Int, 0 ≤ i → i < M 74 x → M 128 (60 * x + i) = M (76 + x) i)
def D5 (a _k : Int) : Prop := a = 73 ∨ a = 74 ∨ (76 ≤ a ∧ a ≤ 81) ∨ (126 ≤ a ∧ a ≤ 128)
theorem qTps_g {N M : qMem} (h : qTps M) (u : qAg D5 N M) : qTps N := by
  intro x h0 h1
  have w := fun (a : Int) (ha : a = 73 ∨ a = 74 ∨ (76 ≤ a ∧ a ≤ 81) ∨ (126 ≤ a ∧ a ≤ 128)) => (funext (fun k => u a k (by unfold D5; omega)) : N a = M a)
  rw [w 126 (by omega), w 73 (by omega), w 127 (by omega), w 74 (by omega), w 128 (by omega), w (76 + x) (by omega)]
  exact h x h0 h1
def qAct (M : qMem) : Prop := M 82 69 = M 71 3 ∧ (0 ≤ M 71 3 ∧ M 71 3 ≤ 20) ∧ ∀ i : Int, 0 ≤ i → i < M 71 3 → M 125 i = M 72 i
def D6 (a k : Int) : Prop := (a = 82 ∧ k = 69) ∨ a = 71 ∨ a = 72 ∨ a = 125
theorem qAct_g {N M : qMem} (h : qAct M) (u : qAg D6 N M) : qAct N := by
  have w := fun (a : Int) (ha : a = 71 ∨ a = 72 ∨ a = 125) => (funext (fun k => u a k (by unfold D6; omega)) : N a = M a)
  unfold qAct
  rw [w 71 (by omega), w 72 (by omega), w 125 (by omega), u 82 69 (by unfold D6; omega)]
  exact h
def qTxt (M : qMem) : Prop := M 82 12 = M 0 11 ∧ (0 ≤ M 0 11 ∧ M 0 11 ≤ 100) ∧ ∀ i : Int, 0 ≤ i → i < M 0 11 → M 90 i = M 51 i ∧ 0 ≤ M 51 i ∧ M 51 i ≤ 127
def D7 (a k : Int) : Prop := (a = 82 ∧ k = 12) ∨ (a = 0 ∧ k = 11) ∨ a = 51 ∨ a = 90
theorem qTxt_g {N M : qMem} (h : qTxt M) (u : qAg D7 N M) : qTxt N := by
  have w := fun (a : Int) (ha : a = 51 ∨ a = 90) => (funext (fun k => u a k (by unfold D7; omega)) : N a = M a)
  unfold qTxt
  rw [w 51 (by omega), w 90 (by omega), u 82 12 (by unfold D7; omega), u 0 11 (by unfold D7; omega)]
  exact h
