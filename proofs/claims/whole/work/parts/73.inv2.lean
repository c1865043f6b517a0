/-! what holds between two calls: all of it; calls that only try -/
def qRest (M : qMem) : Prop := qSeen M 39 37 104 105 106 ∧ qEvn M 41 41 107 108 (M 12 10) ∧ qBok M 43 42 109 110 ∧ qImg M ∧ (qSeen M 45 52 118 119 120 ∧ qEvn M 47 53 121 122 (M 30 10) ∧ qBok M 49 54 123 124) ∧ (qZ M 12 ∧ qZ M 30) ∧
  (qHls M ∧ qHk (M 0 13) (M 12 13) (M 82 11) ∧ qHk (M 0 13) (M 30 13) (M 82 48) ∧ M 30 12 = M (M 30 13) 4) ∧ qTps M ∧ qAct M ∧ qTxt M ∧ (M 82 47 = M 0 9 ∧ (M 0 9 = 0 ∨ M 0 9 = 1))
def qInv (M : qMem) : Prop := qNow M ∧ qMN M M ∧ qRest M
def DR (a k : Int) : Prop := ¬ (13 ≤ a ∧ a ≤ 16) ∧ ¬ (21 ≤ a ∧ a ≤ 29) ∧ ¬ (83 ≤ a ∧ a ≤ 89) ∧ ¬ a = 97 ∧ ¬ (99 ≤ a ∧ a ≤ 103) ∧ (a = 12 → k = 10 ∨ k = 13) ∧ (a = 82 → ¬ k = 0 ∧ ¬ k = 1 ∧ ¬ k = 2 ∧ ¬ k = 27 ∧ ¬ (29 ≤ k ∧ k ≤ 32) ∧ ¬ k = 13 ∧ ¬ k = 14 ∧ ¬ (23 ≤ k ∧ k ≤ 25))
theorem qHk_g {c g f : Int} (h : qHk c g f) (hc : c ≤ 6) : g = 9 ∨ (53 ≤ g ∧ g ≤ 68) := by unfold qHk at h; omega
theorem qRest_g {N M : qMem} (h : qRest M) (u : qAg DR N M) : qRest N := by
  obtain ⟨h1, h2, h3, h4, ⟨h5, h6, h7⟩, ⟨h8, h9⟩, ⟨h10, h11, h12, h13⟩, h14, h15, h16, h17⟩ := h
  have w := fun (a : Int) (ha : (17 ≤ a ∧ a ≤ 20) ∨ (30 ≤ a ∧ a ≤ 38)) => (funext (fun k => u a k (by unfold DR; omega)) : N a = M a)
  have e10 : N 12 10 = M 12 10 := u 12 10 (by unfold DR; omega)
  have e13 : N 12 13 = M 12 13 := u 12 13 (by unfold DR; omega)
  have c := h10.1
  have g := qHk_g h12 c.2.2
  refine ⟨qSeen_g h1 (qAg_m u (fun a k q => by unfold DR3 at q; unfold DR; omega)), by rw [e10]; exact qEvn_g h2 (Int.le_refl _) (qAg_m u (fun a k q => by unfold DR3 at q; unfold DR; omega)), qBok_g h3 (qAg_m u (fun a k q => by unfold DR3 at q; unfold DR; omega)), qImg_g h4 (qAg_m u (fun a k q => by unfold D3 at q; unfold DR; omega)),
    ⟨qSeen_g h5 (qAg_m u (fun a k q => by unfold DR3 at q; unfold DR; omega)), by rw [w 30 (by omega)]; exact qEvn_g h6 (Int.le_refl _) (qAg_m u (fun a k q => by unfold DR3 at q; unfold DR; omega)), qBok_g h7 (qAg_m u (fun a k q => by unfold DR3 at q; unfold DR; omega))⟩,
    ⟨qZ_g h8 e10 (w 17 (by omega)) (w 18 (by omega)) (w 19 (by omega)) (w 20 (by omega)), qZ_g h9 (by rw [w 30 (by omega)]) (w 35 (by omega)) (w 36 (by omega)) (w 37 (by omega)) (w 38 (by omega))⟩,
    ⟨qHls_g h10 (qAg_m u (fun a k q => by unfold D4 at q; unfold DR; omega)), by rw [u 0 13 (by unfold DR; omega), e13, u 82 11 (by unfold DR; omega)]; exact h11, by rw [u 0 13 (by unfold DR; omega), w 30 (by omega), u 82 48 (by unfold DR; omega)]; exact h12, by rw [w 30 (by omega), u (M 30 13) 4 (by unfold DR; omega)]; exact h13⟩,
    qTps_g h14 (qAg_m u (fun a k q => by unfold D5 at q; unfold DR; omega)), qAct_g h15 (qAg_m u (fun a k q => by unfold D6 at q; unfold DR; omega)), qTxt_g h16 (qAg_m u (fun a k q => by unfold D7 at q; unfold DR; omega)), by rw [u 82 47 (by unfold DR; omega), u 0 9 (by unfold DR; omega)]; exact h17⟩
theorem qAg_cu {D : Int → Int → Prop} {N M : qMem} (u : qCu N M) (h : ∀ a k : Int, D a k → ¬ (21 ≤ a ∧ a ≤ 29) ∨ (a = 21 ∧ k = 1)) : qAg D N M := fun a k q => u a k (by have := h a k q; unfold qIn; omega)
theorem qAg_mx {D : Int → Int → Prop} {N M : qMem} (x : qMx N M) (h : ∀ a k : Int, D a k → (¬ a = 82 ∧ ¬ a = 83 ∧ ¬ (86 ≤ a ∧ a ≤ 88) ∧ ¬ (99 ≤ a ∧ a ≤ 103)) ∨ (a = 82 ∧ ¬ k = 1 ∧ ¬ k = 2 ∧ ¬ k = 27 ∧ ¬ (29 ≤ k ∧ k ≤ 32))) : qAg D N M := fun a k q => by
  rcases h a k q with z | z
  · rw [x.1 a (by omega) (by omega) (by omega) (by omega) (by omega) (by omega) (by omega) (by omega) (by omega) (by omega)]
  · rw [z.1]
    exact x.2 k (by omega) (by omega) (by omega) (by omega) (by omega) (by omega) (by omega)
/-- the two calls answer alike, and all holds behind them -/
def qStep (f1 f2 : qSem) (as : List qV) (M : qMem) : Prop := ∃ (v : qV) (M1 M2 : qMem), f1 (qA 0 :: as) (qH0 M) = some (some v, qH0 M1) ∧ f2 (qA 82 :: as) (qH0 M1) = some (some v, qH0 M2) ∧ qInv M2
theorem qInv_x {M M1 M2 : qMem} (h : qInv M) (u : qCu M1 M) (n : qMN M2 M1) (x : qMx M2 M1) : qInv M2 := by
  obtain ⟨h1, h2, h3⟩ := h
  have a1 : qAg D1 M2 M1 := qAg_mx x (fun a k q => by unfold D1 at q; omega)
  have b1 : qAg D1 M1 M := qAg_cu u (fun a k q => by unfold D1 at q; omega)
  have N1 := qNow_g h1 b1
  exact ⟨qNow_g N1 a1, qMN_a n N1 a1, qRest_g h3 (qAg_t (qAg_mx x (fun a k q => by unfold DR at q; omega)) (qAg_cu u (fun a k q => by unfold DR at q; omega)))⟩
theorem qInv_u {M M1 : qMem} (h : qInv M) (u : qCu M1 M) : qInv M1 ∧ qMN M1 M := by
  obtain ⟨h1, h2, h3⟩ := h
  have b1 : qAg D1 M1 M := qAg_cu u (fun a k q => by unfold D1 at q; omega)
  have n1 := qMN_n h2 (qAg_cu u (fun a k q => by unfold D2 at q; omega))
  exact ⟨⟨qNow_g h1 b1, qMN_a n1 h1 b1, qRest_g h3 (qAg_cu u (fun a k q => by unfold DR at q; omega))⟩, n1⟩
/-- a call that only tries -/
theorem qStep_t {f1 f2 : qSem} {as : List qV} {M : qMem} {v : qV} (h : qInv M) (s1 : ∃ M1, f1 (qA 0 :: as) (qH0 M) = some (some v, qH0 M1) ∧ qCu M1 M) (s2 : ∀ N : qMem, qInv N → qMN N M → qCu N M → ∃ N', f2 (qA 82 :: as) (qH0 N) = some (some v, qH0 N') ∧ qMN N' M ∧ qMx N' N) : qStep f1 f2 as M := by
  obtain ⟨M1, a1, a2⟩ := s1
  obtain ⟨i1, n1⟩ := qInv_u h a2
  obtain ⟨M2, b1, b2, b3⟩ := s2 M1 i1 n1 a2
  exact ⟨v, M1, M2, a1, b1, qInv_x h a2 (qMN_a b2 h.1 (qAg_cu a2 (fun a k q => by unfold D1 at q; omega))) b3⟩
theorem qStep_r {f1 f2 : qSem} {as : List qV} {M : qMem} {v : qV} (h : qInv M) (s1 : f1 (qA 0 :: as) (qH0 M) = some (some v, qH0 M)) (s2 : f2 (qA 82 :: as) (qH0 M) = some (some v, qH0 M)) : qStep f1 f2 as M := ⟨v, M, M, s1, s2, h⟩
/-! the calls that only try -/
theorem qSnR_u {N M : qMem} (h : qSnR M M) (u : qCu N M) : qSnR N M := by
  unfold qSnR
  rw [qCu_row u (a := 82) (by omega), qCu_row u (a := 104) (by omega), qCu_row u (a := 105) (by omega), qCu_row u (a := 106) (by omega)]
  exact h
theorem qEvR_u {N M : qMem} (h : qEvR M M) (u : qCu N M) : qEvR N M := by
  unfold qEvR
  rw [qCu_row u (a := 82) (by omega), qCu_row u (a := 107) (by omega), qCu_row u (a := 108) (by omega)]
  exact h
theorem step_on {M : qMem} {n w : Int} (h : qInv M) (hw : w ≤ 2147483647) : qStep S_X11_on S_X12_on [qI n, qI w] M := by
  by_cases c : fOnV M w
  · by_cases d : 0 ≤ n ∧ n ≤ 60
    · exact qStep_t h ⟨_, sX11_on h.1 hw c d, qCu_t (fMin_x (fTr_T h.1) n.toNat (by omega)) fTr_x⟩ (fun N _ m _ => sX12_on m h.1 c d)
    · exact qStep_r h (sX11_on_bad h.1 hw c d) (sX12_on_bad h.2.1 h.1 c d)
  · exact qStep_r h (sX11_on_none h.1 hw c) (sX12_on_none h.2.1 h.1 c)
theorem step_ready {M : qMem} {q : Int} (h : qInv M) : qStep S_X11_ready S_X12_ready [qI q] M := by
  by_cases c : 0 ≤ q ∧ q ≤ 9999
  · exact qStep_t h (sX11_ready h.1 c) (fun N _ m _ => sX12_ready m h.1 c)
  · exact qStep_r h (sX11_ready_bad c) (sX12_ready_bad c)
theorem step_best {M : qMem} {w : Int} (h : qInv M) : qStep S_X11_best S_X12_best [qI w] M := qStep_t h (sX11_best h.1) (fun N _ m _ => sX12_best m h.1)
theorem step_when {M : qMem} {p w : Int} (h : qInv M) : qStep S_X11_when S_X12_when [qI p, qI w] M := by
  by_cases c : (0 ≤ p ∧ p < M 12 10) ∧ (0 ≤ w ∧ w < 4)
  · exact qStep_t h (sX11_when h.1 c.1 c.2) (fun N _ m _ => sX12_when m h.1 c.1 c.2)
  · exact qStep_r h (sX11_when_n c) (sX12_when_n h.2.1 h.1 c)
theorem step_without {M : qMem} {p : Int} (h : qInv M) : qStep S_X11_without S_X12_without [qI p] M := by
  by_cases c : 0 ≤ p ∧ p < M 12 10
  · exact qStep_t h ⟨_, sX11_without h.1 c, fBw_x (n := 30) h.1 (by omega) (by omega) c.1 (by have := h.1.1.2.1.2; omega)⟩ (fun N _ m _ => sX12_without m h.1 c)
  · exact qStep_r h (sX11_without_n c) (sX12_without_n h.2.1 h.1 c)
theorem step_were {M : qMem} {p w : Int} (h : qInv M) : qStep S_X11_were S_X12_were [qI p, qI w] M := by
  by_cases c : (0 ≤ p ∧ p < 5) ∧ (0 ≤ w ∧ w ≤ 1)
  · exact qStep_t h (sX11_were h.1 (qSeen_S h.2.2.1).1 c.1.1 c.1.2 c.2) (fun N i m u => sX12_were h.1 (qSeen_S h.2.2.1).1 c.1.1 c.1.2 c.2 m (qSnR_u (qSeen_S h.2.2.1).2 u))
  · exact qStep_r h (sX11_were_n c) (sX12_were_n c)
theorem step_can {M : qMem} {p w : Int} (h : qInv M) : qStep S_X11_can S_X12_can [qI p, qI w] M := by
  by_cases c : (0 ≤ p ∧ p < M 12 10) ∧ (0 ≤ w ∧ w ≤ 1)
  · exact qStep_t h (sX11_can h.1 (qSeen_S h.2.2.1).1 c.1.1 c.1.2 c.2) (fun N i m u => sX12_can h.1 (qSeen_S h.2.2.1).1 c.1.1 c.1.2 c.2 m (qSnR_u (qSeen_S h.2.2.1).2 u))
  · exact qStep_r h (sX11_can_n c) (sX12_can_n h.1 h.2.1 c)
theorem step_odds {M : qMem} {n q part : Int} (h : qInv M) : qStep S_X11_odds S_X12_odds [qI n, qI q, qI part] M := by
  by_cases c : fOdV M n q part
  · exact qStep_t h (sX11_odds h.1 c) (fun N _ m _ => sX12_odds m h.1 c)
  · exact qStep_r h (sX11_odds_n c) (sX12_odds_n h.2.1 c)
theorem step_mean {M : qMem} {n part : Int} (h : qInv M) : qStep S_X11_mean S_X12_mean [qI n, qI part] M := by
  by_cases c : fMeV M n part
  · exact qStep_t h (sX11_mean h.1 c) (fun N _ m _ => sX12_mean m h.1 c)
  · exact qStep_r h (sX11_mean_n c) (sX12_mean_n h.2.1 c)
theorem step_ends {M : qMem} {w : Int} (h : qInv M) : qStep S_X11_ends S_X12_ends [qI w] M := by
  by_cases c : 0 ≤ w ∧ w ≤ 1
  · exact qStep_t h (sX11_ends h.1 (qEvn_S h.2.2.2.1).1 c) (fun N i m u => sX12_ends m h.1 (qEvn_S h.2.2.2.1).1 (qEvR_u (qEvn_S h.2.2.2.1).2 u) c)
  · exact qStep_r h (sX11_ends_n c) (sX12_ends_n c)
