/-! the text: clause by clause, class beside reference -/
def qFt (f : Int) (N' N : qMem) : Prop := (∀ a : Int, ¬ a = 82 → ¬ a = 91 → ¬ a = 92 → ¬ a = 93 → ¬ a = 94 → ¬ a = 95 → ¬ a = 96 → ¬ a = 97 → N' a = N a) ∧ (∀ k : Int, ¬ k = f → N' 91 k = N 91 k) ∧ (∀ k : Int, ¬ (10 * f ≤ k ∧ k < 10 * f + 10) → N' 92 k = N 92 k ∧ N' 93 k = N 93 k ∧ N' 94 k = N 94 k ∧ N' 95 k = N 95 k) ∧ (∀ k : Int, ¬ k = 13 → ¬ k = 14 → ¬ k = 23 → ¬ k = 24 → ¬ k = 25 → N' 82 k = N 82 k) ∧ (∀ k : Int, k < 100 * f → N' 96 k = N 96 k)
theorem qFt_t {f : Int} {L N M : qMem} (h1 : qFt f L N) (h2 : qFt f N M) : qFt f L M := by
  obtain ⟨a1, a2, a3, a4, a5⟩ := h1
  obtain ⟨b1, b2, b3, b4, b5⟩ := h2
  refine ⟨fun a x1 x2 x3 x4 x5 x6 x7 x8 => (a1 a x1 x2 x3 x4 x5 x6 x7 x8).trans (b1 a x1 x2 x3 x4 x5 x6 x7 x8), fun k x => (a2 k x).trans (b2 k x), fun k x => ?_, fun k x1 x2 x3 x4 x5 => (a4 k x1 x2 x3 x4 x5).trans (b4 k x1 x2 x3 x4 x5), fun k x => (a5 k x).trans (b5 k x)⟩
  have p := a3 k x
  have q := b3 k x
  exact ⟨p.1.trans q.1, p.2.1.trans q.2.1, p.2.2.1.trans q.2.2.1, p.2.2.2.trans q.2.2.2⟩
theorem qFt_c {f c : Int} {N M : qMem} (h : qFc c N M) (hc : 10 * f ≤ c ∧ c < 10 * f + 10) (h23 : 100 * f ≤ M 82 23) : qFt f N M := by
  obtain ⟨a1, a2, a3, a4⟩ := h
  exact ⟨fun a x1 x2 x3 x4 x5 x6 x7 x8 => a1 a x1 x3 x4 x5 x6 x7 x8, fun k x => by rw [a1 91 (by omega) (by omega) (by omega) (by omega) (by omega) (by omega) (by omega)], fun k x => a2 k (by omega), a3, fun k x => a4 k (by omega)⟩
theorem qFt_up {f a k v : Int} {N M : qMem} (h : qFt f N M) (ha : (a = 91 ∧ k = f) ∨ (a = 82 ∧ (k = 13 ∨ k = 14 ∨ k = 23 ∨ k = 24 ∨ k = 25))) : qFt f (qup N a k v) M := by
  obtain ⟨a1, a2, a3, a4, a5⟩ := h
  refine ⟨fun a x1 x2 x3 x4 x5 x6 x7 x8 => by rw [qup_row (by omega)]; exact a1 a x1 x2 x3 x4 x5 x6 x7 x8, fun k x => by rw [qup_ne (by omega)]; exact a2 k x, fun k x => ?_, fun k x1 x2 x3 x4 x5 => by rw [qup_ne (by omega)]; exact a4 k x1 x2 x3 x4 x5, fun k x => by rw [qup_ne (by omega)]; exact a5 k x⟩
  rw [qup_ne (by omega), qup_ne (by omega), qup_ne (by omega), qup_ne (by omega)]
  exact a3 k x
theorem qFt_r {f : Int} {N : qMem} : qFt f N N := ⟨fun _ _ _ _ _ _ _ _ _ => rfl, fun _ _ => rfl, fun _ _ => ⟨rfl, rfl, rfl, rfl⟩, fun _ _ _ _ _ _ => rfl, fun _ _ => rfl⟩
/-- k clauses are read alike -/
def qAcc (f g : Int) (k : Nat) (M N : qMem) : Prop := ∃ P : Nat → Nat, P 0 = 0 ∧ (P k : Int) = M g 3 ∧ (∀ i : Nat, i < k → qCl N M (10 * f + i) g (P i) (P (i + 1))) ∧ M g 4 = max 1 (fLast N 2 50 (10 * f) k) ∧ M g 5 = fLast N 3 0 (10 * f) k ∧
  (∀ i : Nat, i < k → (N 92 (10 * f + i) ≤ 1 → 100 * f ≤ N 94 (10 * f + i) ∧ N 95 (10 * f + i) ≤ N 82 23) ∧ (P (i + 1) : Int) ≤ M g 3)
theorem qDp_in {M N : qMem} {s : Int} : ∀ k : Nat, (∀ i : Nat, i < k → N 96 (s + i) = M 96 (s + i)) → qDp N s k = qDp M s k
  | 0, _ => rfl
  | k + 1, h => by
    unfold qDp
    rw [qDp_in k (fun i hi => h i (by omega)), h k (by omega)]
theorem qCl_fr {M M' N N' : qMem} {c g : Int} {p q : Nat} (h : qCl N M c g p q) (h92 : N' 92 c = N 92 c) (h93 : N' 93 c = N 93 c) (h94 : N' 94 c = N 94 c) (h95 : N' 95 c = N 95 c) (h96 : N 92 c ≤ 1 → ∀ k : Int, N 94 c ≤ k → k < N 95 c → N' 96 k = N 96 k) (hM : ∀ k : Int, k < q → M' (g + 2) k = M (g + 2) k) : qCl N' M' c g p q := by
  unfold qCl
  rw [h92, h93, h94, h95]
  refine ⟨h.1, h.2.1, h.2.2.1, fun z => ?_, h.2.2.2.2⟩
  obtain ⟨len, a1, a2, a3, a4, a5, a6, a7⟩ := h.2.2.2.1 z
  have h96' := h96 z
  refine ⟨len, a1, a2, a3, a4, fun k hk => ?_, ?_, ?_⟩
  · rw [h96' _ (by omega) (by omega), hM _ (by omega)]
    exact a5 k hk
  · rw [hM _ (by omega)]
    exact a6
  · rw [qDp_in len (fun i hi => h96' _ (by omega) (by omega))]
    exact a7
theorem fLast_eq {M N : qMem} {w d b : Int} : ∀ k : Nat, (∀ i : Nat, i < k → N 92 (b + i) = M 92 (b + i) ∧ N 93 (b + i) = M 93 (b + i)) → fLast N w d b k = fLast M w d b k
  | 0, _ => rfl
  | k + 1, h => by
    unfold fLast
    rw [fLast_eq k (fun i hi => h i (by omega)), (h k (by omega)).1, (h k (by omega)).2]
theorem qAcc_0 {f g : Int} {M N : qMem} (h3 : M g 3 = 0) (h4 : M g 4 = 50) (h5 : M g 5 = 0) : qAcc f g 0 M N :=
  ⟨fun _ => 0, rfl, by rw [h3]; rfl, fun i hi => by omega, by rw [h4]; rfl, by rw [h5]; rfl, fun i hi => by omega⟩
theorem qAcc_eq {f g : Int} {k : Nat} {M M' N N' : qMem} (h : qAcc f g k M N) (m3 : M' g 3 = M g 3) (m4 : M' g 4 = M g 4) (m5 : M' g 5 = M g 5) (mr : M' (g + 2) = M (g + 2)) (n92 : N' 92 = N 92) (n93 : N' 93 = N 93) (n94 : N' 94 = N 94) (n95 : N' 95 = N 95) (n96 : N' 96 = N 96) (n23 : N' 82 23 = N 82 23) : qAcc f g k M' N' := by
  obtain ⟨P, a1, a2, a3, a4, a5, a6⟩ := h
  refine ⟨P, a1, by rw [m3]; exact a2, fun i hi => qCl_fr (a3 i hi) (by rw [n92]) (by rw [n93]) (by rw [n94]) (by rw [n95]) (fun _ k _ _ => by rw [n96]) (fun k _ => by rw [mr]), ?_, ?_, fun i hi => ?_⟩
  · rw [m4, a4, fLast_eq (M := N) (N := N') k (fun i hi => ⟨by rw [n92], by rw [n93]⟩)]
  · rw [m5, a5, fLast_eq (M := N) (N := N') k (fun i hi => ⟨by rw [n92], by rw [n93]⟩)]
  · rw [n92, n94, n95, n23, m3]
    exact a6 i hi
theorem qAcc_s {f g n : Int} {k : Nat} {M M' N N' : qMem} (h : qAcc f g k M N) (hM : qGc g n M' M) (h3 : 0 ≤ M g 3) (hB : 100 * f ≤ N 82 23) (hy : qCy (10 * f + k) g (100 * f) M M' N N') : qAcc f g (k + 1) M' N' := by
  obtain ⟨P, a1, a2, a3, a4, a5, a6⟩ := h
  obtain ⟨y1, y2, y3, y4, y5, y6, y7⟩ := hy
  obtain ⟨c1, c2, c3, c4⟩ := y1
  obtain ⟨g1, g2, g3, g4, g5⟩ := hM
  have fr : ∀ i : Nat, i < k → N' 92 (10 * f + i) = N 92 (10 * f + i) ∧ N' 93 (10 * f + i) = N 93 (10 * f + i) ∧ N' 94 (10 * f + i) = N 94 (10 * f + i) ∧ N' 95 (10 * f + i) = N 95 (10 * f + i) := fun i hi => c2 _ (by omega)
  have fl : ∀ w d : Int, fLast N' w d (10 * f) (k + 1) = if N' 92 (10 * f + k) = w then N' 93 (10 * f + k) else fLast N w d (10 * f) k := fun w d => by
    show (if N' 92 (10 * f + k) = w then N' 93 (10 * f + k) else fLast N' w d (10 * f) k) = _
    rw [fLast_eq (M := N) (N := N') k (fun i hi => ⟨(fr i hi).1, (fr i hi).2.1⟩)]
  have ePk : (M g 3).toNat = P k := by omega
  refine ⟨fun i => if i ≤ k then P i else (M' g 3).toNat, by dsimp only; rw [if_pos (by omega)]; exact a1, by dsimp only; rw [if_neg (by omega)]; omega, fun i hi => ?_, ?_, ?_, fun i hi => ?_⟩
  · dsimp only
    by_cases ci : i < k
    · have F := fr i ci
      have B6 := a6 i ci
      rw [if_pos (by omega), if_pos (by omega)]
      exact qCl_fr (a3 i ci) F.1 F.2.1 F.2.2.1 F.2.2.2 (fun z k' k1 k2 => c4 k' (by have := (B6.1 z).2; omega)) (fun k' hk => g3 k' (by omega))
    · have ei : i = k := by omega
      subst ei
      rw [if_pos (by omega), if_neg (by omega), ← ePk]
      exact y4
  · rw [fl, y5]
    split
    · rfl
    · exact a4
  · rw [fl, y6]
    split
    · rfl
    · exact a5
  · dsimp only
    by_cases ci : i < k
    · have F := fr i ci
      have B6 := a6 i ci
      rw [F.1, F.2.2.1, F.2.2.2, if_pos (by omega)]
      exact ⟨fun z => ⟨(B6.1 z).1, by have := (B6.1 z).2; omega⟩, by omega⟩
    · have ei : i = k := by omega
      subst ei
      rw [if_neg (by omega)]
      exact ⟨fun z => ⟨by have := (y7 z).1; omega, (y7 z).2⟩, by omega⟩
def qTxY (g n : Int) (t : Int → Int) (k : Nat) (M M' : qMem) : Prop := qCI g M' ∧ ∀ (f : Int) (N : qMem), (0 ≤ f ∧ f < 6) → qRc g n (100 * f) t M N → qAcc f g k M N →
  ∃ N', qlim C_X12_goesText (15, [some (qA 82), some (qI f), some (qI k)], [], qH0 N) = some (some (qI 1), qH0 N') ∧ qFt f N' N ∧ N' 82 23 ≤ 100 * f + 100 ∧ ∃ kk : Nat, kk ≤ 10 ∧ N' 91 f = kk ∧ qAcc f g kk M' N'
def qTxN (g n : Int) (t : Int → Int) (k : Nat) (M M' : qMem) : Prop := ∀ (f : Int) (N : qMem), (0 ≤ f ∧ f < 6) → qRc g n (100 * f) t M N → qAcc f g k M N →
  ∃ N', qlim C_X12_goesText (15, [some (qA 82), some (qI f), some (qI k)], [], qH0 N) = some (some (qI 0), qH0 N') ∧ qFt f N' N ∧ N' 82 13 = M' g 6
/-- the reference behind a clause -/
theorem sX12_gt {f n : Int} {k : Nat} {t : Int → Int} {N N1 : qMem} (hf : 0 ≤ f ∧ f < 6) (hk : k < 10) (hs : S_X12_takesClause [qA 82, qI (10 * f + k)] (qH0 N) = some (some (qI 1), qH0 N1)) (hm : qTm N1 n t) (h0 : 0 ≤ N1 82 13) :
    qlim C_X12_goesText (15, [some (qA 82), some (qI f), some (qI k)], [], qH0 N) = qlim C_X12_goesText ((if ¬ N1 82 13 = n then 53 else 51), [some (qA 82), some (qI f), some (qI ((k + 1 : Nat) : Int))], [], qH0 (qup N1 91 f ((k + 1 : Nat) : Int))) := by
  have e1 : kadd (k : Int) 1 = ((k + 1 : Nat) : Int) := by rw [kadd_eq (by omega) (by omega)]; omega
  have e2 : kadd (kmul 10 f) k = 10 * f + k := by rw [kmul_eq (by omega) (by omega), kadd_eq (by omega) (by omega)]
  rw [B_X12_goesText_15, e2, hs, qbd_some]
  show qlim C_X12_goesText (25, [some (qA 82), some (qI f), some (qI k)], [qI 1], qH0 N1) = _
  rw [B_X12_goesText_25, qif_t (by omega), B_X12_goesText_30 hf.1 hf.2, e1, qup_ne (by omega), qup_ne (by omega), hm.1]
theorem sX12_gt_no {f : Int} {k : Nat} {N N1 : qMem} (hf : 0 ≤ f ∧ f < 6) (hk : k < 10) (hs : S_X12_takesClause [qA 82, qI (10 * f + k)] (qH0 N) = some (some (qI 0), qH0 N1)) :
    qlim C_X12_goesText (15, [some (qA 82), some (qI f), some (qI k)], [], qH0 N) = some (some (qI 0), qH0 N1) := by
  have e2 : kadd (kmul 10 f) k = 10 * f + k := by rw [kmul_eq (by omega) (by omega), kadd_eq (by omega) (by omega)]
  rw [B_X12_goesText_15, e2, hs, qbd_some]
  show qlim C_X12_goesText (25, [some (qA 82), some (qI f), some (qI k)], [qI 0], qH0 N1) = _
  rw [B_X12_goesText_25, qif_f (by omega), B_X12_goesText_28]
