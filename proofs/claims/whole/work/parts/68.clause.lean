/-! the text: a clause, both sides -/
def qGc (g n : Int) (M' M : qMem) : Prop := (∀ a : Int, ¬ a = g → ¬ a = g + 2 → M' a = M a) ∧ (∀ k : Int, ¬ k = 3 → ¬ k = 4 → ¬ k = 5 → ¬ k = 6 → M' g k = M g k) ∧ (∀ k : Int, k < M g 3 → M' (g + 2) k = M (g + 2) k) ∧ (M g 6 ≤ M' g 6 ∧ M' g 6 ≤ n) ∧ (M g 3 ≤ M' g 3 ∧ M' g 3 ≤ 100)
theorem qGc_t {g n : Int} {L M N : qMem} (h1 : qGc g n L M) (h2 : qGc g n M N) : qGc g n L N := by
  obtain ⟨a1, a2, a3, a4, a5⟩ := h1
  obtain ⟨b1, b2, b3, b4, b5⟩ := h2
  exact ⟨fun a x y => (a1 a x y).trans (b1 a x y), fun k x y z w => (a2 k x y z w).trans (b2 k x y z w), fun k hk => (a3 k (by omega)).trans (b3 k hk), by omega, by omega⟩
theorem qGc_o {g n : Int} {M' M : qMem} (h : qGo g n M' M) : qGc g n M' M := ⟨h.1.1, fun k a _ _ b => h.1.2.1 k a b, h.1.2.2, h.2.1, h.2.2⟩
theorem qGc_45 {g n k v : Int} {M : qMem} (hk : k = 4 ∨ k = 5) (h6 : M g 6 ≤ n) (h3 : M g 3 ≤ 100) : qGc g n (qup M g k v) M :=
  ⟨fun a x _ => qup_row (by omega), fun k' _ _ _ _ => qup_ne (by omega), fun k' _ => qup_ne (by omega), by rw [qup_ne (by omega)]; omega, by rw [qup_ne (by omega)]; omega⟩
def qCI (g : Int) (M : qMem) : Prop := (0 ≤ M g 3 ∧ M g 3 ≤ M g 6) ∧ (1 ≤ M g 4 ∧ M g 4 ≤ 99) ∧ (0 ≤ M g 5 ∧ M g 5 ≤ 99) ∧ (∀ k : Int, 0 ≤ k → k < M g 3 → 0 ≤ M (g + 2) k ∧ M (g + 2) k < 6553600) ∧ 2 * (fTc M g (M g 3).toNat : Int) ≤ M g 3
def qRc (g n B : Int) (t : Int → Int) (M N : qMem) : Prop := qTm N n t ∧ qLe N ∧ N 82 13 = M g 6 ∧ (0 ≤ B ∧ B ≤ 500 ∧ B ≤ N 82 23 ∧ N 82 23 ≤ B + N 82 13)
def qFc (c : Int) (N' N : qMem) : Prop := (∀ a : Int, ¬ a = 82 → ¬ a = 92 → ¬ a = 93 → ¬ a = 94 → ¬ a = 95 → ¬ a = 96 → ¬ a = 97 → N' a = N a) ∧ (∀ k : Int, ¬ k = c → N' 92 k = N 92 k ∧ N' 93 k = N 93 k ∧ N' 94 k = N 94 k ∧ N' 95 k = N 95 k) ∧ (∀ k : Int, ¬ k = 13 → ¬ k = 14 → ¬ k = 23 → ¬ k = 24 → ¬ k = 25 → N' 82 k = N 82 k) ∧ (∀ k : Int, k < N 82 23 → N' 96 k = N 96 k)
theorem qFc_up {c a k v : Int} {N' N : qMem} (h : qFc c N' N) (ha : (a = 82 ∧ (k = 13 ∨ k = 14 ∨ k = 23 ∨ k = 24 ∨ k = 25)) ∨ ((a = 92 ∨ a = 93 ∨ a = 94 ∨ a = 95) ∧ k = c)) : qFc c (qup N' a k v) N := by
  obtain ⟨h1, h2, h3, h4⟩ := h
  refine ⟨fun a' a1 a2 a3 a4 a5 a6 a7 => by rw [qup_row (by omega)]; exact h1 a' a1 a2 a3 a4 a5 a6 a7, fun k' hk => ?_, fun k' b1 b2 b3 b4 b5 => by rw [qup_ne (by omega)]; exact h3 k' b1 b2 b3 b4 b5, fun k' hk => by rw [qup_ne (by omega)]; exact h4 k' hk⟩
  rw [qup_ne (by omega), qup_ne (by omega), qup_ne (by omega), qup_ne (by omega)]
  exact h2 k' hk
theorem qFc_r {c : Int} {N : qMem} : qFc c N N := ⟨fun _ _ _ _ _ _ _ _ => rfl, fun _ _ => ⟨rfl, rfl, rfl, rfl⟩, fun _ _ _ _ _ _ => rfl, fun _ _ => rfl⟩
theorem qFc_fr {c : Int} {L N M : qMem} (f : qFr c L N) (h : qFc c N M) (h96 : ∀ k : Int, k < M 82 23 → L 96 k = N 96 k) : qFc c L M := by
  obtain ⟨h1, h2, h3, h4⟩ := h
  refine ⟨fun a a1 a2 a3 a4 a5 a6 a7 => by rw [f.1 a a1 a5 a6 a7]; exact h1 a a1 a2 a3 a4 a5 a6 a7, fun k hk => ?_, fun k b1 b2 b3 b4 b5 => by rw [f.2.2 k b1 b2 b3 b4 b5]; exact h3 k b1 b2 b3 b4 b5, fun k hk => by rw [h96 k hk]; exact h4 k hk⟩
  rw [f.1 92 (by omega) (by omega) (by omega) (by omega), f.1 93 (by omega) (by omega) (by omega) (by omega), f.1 94 (by omega) (by omega) (by omega) (by omega), f.2.1 k hk]
  exact h2 k hk
def qCy (c g B : Int) (M M' N N' : qMem) : Prop := qFc c N' N ∧ N' 82 13 = M' g 6 ∧ (N 82 23 ≤ N' 82 23 ∧ N' 82 23 ≤ B + N' 82 13) ∧ qCl N' M' c g (M g 3).toNat (M' g 3).toNat ∧ M' g 4 = (if N' 92 c = 2 then max 1 (N' 93 c) else M g 4) ∧ M' g 5 = (if N' 92 c = 3 then N' 93 c else M g 5) ∧ (N' 92 c ≤ 1 → N 82 23 ≤ N' 94 c ∧ N' 95 c ≤ N' 82 23)
/-- the reference behind a clause's head and number -/
theorem sX12_cl_start {N : qMem} {n c : Int} {t : Int → Int} (h : qTm N n t) (hL : qLe N) (h0 : 0 ≤ N 82 13) (hc : 0 ≤ c ∧ c < 60) (hh : (fHd t (N 82 13)).1 = 1) (hv : 0 ≤ fNv t (fHd t (N 82 13)).2) (he : 0 ≤ (fHd t (N 82 13)).2) :
    ∃ P, S_X12_takesClause [qA 82, qI c] (qH0 N) = qlim C_X12_takesClause ((if 2 ≤ fWk (t (N 82 13)) then 54 else 37), [some (qA 82), some (qI c)], [], qH0 P) ∧ qFc c P N ∧ qTm P n t ∧ P 82 13 = fNe t (fHd t (N 82 13)).2 ∧ P 82 23 = N 82 23 ∧ P 92 c = fWk (t (N 82 13)) ∧ P 93 c = fNv t (fHd t (N 82 13)).2 ∧ P 96 = N 96 := by
  have a := sX12_head (c := c) h hL h0 hc
  have h1 : qTm (qup (qup N 92 c (fWk (t (N 82 13)))) 82 13 (fHd t (N 82 13)).2) n t := qTm_up ⟨by rw [qup_ne (by omega)]; exact h.1, h.2.1, fun i a b => by rw [qup_ne (by omega)]; exact h.2.2.1 i a b, h.2.2.2⟩ (by omega)
  obtain ⟨P, p1, p2, p3, p4⟩ := sX12_number h1 (by rw [qup_self]; exact he) (by rw [qup_self]; exact hv)
  rw [qup_self] at p2 p3
  have hc1 := hc.1
  have hc2 := hc.2
  have r92 : P 92 = qup N 92 c (fWk (t (N 82 13))) 92 := funext (fun k => by rw [p4 92 k (by omega), qup_ne (by omega)])
  have ra : ∀ b : Int, ¬ b = 82 → ¬ b = 92 → P b = N b := fun b b1 b2 => funext (fun k => by rw [p4 b k (by omega), qup_ne (by omega), qup_ne (by omega)])
  have r82 : ∀ k : Int, ¬ k = 13 → ¬ k = 14 → P 82 k = N 82 k := fun k b1 b2 => by rw [p4 82 k (by omega), qup_ne (by omega), qup_ne (by omega)]
  have x92 : qup P 93 c (fNv t (fHd t (N 82 13)).2) 92 c = fWk (t (N 82 13)) := by rw [qup_ne (by omega), r92, qup_self]
  refine ⟨qup P 93 c (fNv t (fHd t (N 82 13)).2), ?_, ?_, ?_, ?_, ?_, x92, qup_self, ?_⟩
  · rw [E_X12_takesClause, B_X12_takesClause_0, a, qbd_some, hh]
    show qlim C_X12_takesClause (5, [some (qA 82), some (qI c)], [qI 1], qH0 (qup (qup N 92 c (fWk (t (N 82 13)))) 82 13 (fHd t (N 82 13)).2)) = _
    rw [B_X12_takesClause_5, qif_f (by omega), B_X12_takesClause_8, p1, qbd_some]
    show qlim C_X12_takesClause (12, [some (qA 82), some (qI c)], [qI 1], qH0 P) = _
    rw [B_X12_takesClause_12, qif_t (by omega), B_X12_takesClause_17 hc1 hc2, p3, x92]
  · refine qFc_up ⟨fun b b1 b2 b3 b4 b5 b6 b7 => ra b b1 b2, fun k hk => ⟨by rw [r92, qup_ne (by omega)], by rw [ra 93 (by omega) (by omega)], by rw [ra 94 (by omega) (by omega)], by rw [ra 95 (by omega) (by omega)]⟩, fun k b1 b2 _ _ _ => r82 k b1 b2, fun k hk => by rw [ra 96 (by omega) (by omega)]⟩ (by omega)
  · exact ⟨by rw [qup_ne (by omega), r82 12 (by omega) (by omega)]; exact h.1, h.2.1, fun i a b => by rw [qup_ne (by omega), ra 90 (by omega) (by omega)]; exact h.2.2.1 i a b, h.2.2.2⟩
  · rw [qup_ne (by omega), p2]
  · rw [qup_ne (by omega), r82 23 (by omega) (by omega)]
  · rw [qup_row (by omega), ra 96 (by omega) (by omega)]
theorem sX12_cl_no {N : qMem} {n c : Int} {t : Int → Int} (h : qTm N n t) (hL : qLe N) (h0 : 0 ≤ N 82 13) (hc : 0 ≤ c ∧ c < 60) (he : 0 ≤ (fHd t (N 82 13)).2) (hh : (fHd t (N 82 13)).1 = 0 ∨ ((fHd t (N 82 13)).1 = 1 ∧ fNv t (fHd t (N 82 13)).2 < 0)) :
    ∃ P, S_X12_takesClause [qA 82, qI c] (qH0 N) = some (some (qI 0), qH0 P) ∧ qFc c P N ∧ P 82 13 = (fHd t (N 82 13)).2 := by
  have a := sX12_head (c := c) h hL h0 hc
  refine ⟨qup (qup N 92 c (fWk (t (N 82 13)))) 82 13 (fHd t (N 82 13)).2, ?_, qFc_up (qFc_up qFc_r (by omega)) (by omega), qup_self⟩
  rw [E_X12_takesClause, B_X12_takesClause_0, a, qbd_some]
  show qlim C_X12_takesClause (5, [some (qA 82), some (qI c)], [qI (fHd t (N 82 13)).1], qH0 (qup (qup N 92 c (fWk (t (N 82 13)))) 82 13 (fHd t (N 82 13)).2)) = _
  rcases hh with z | ⟨z, v⟩
  · rw [z, B_X12_takesClause_5, qif_t rfl, B_X12_takesClause_15]
  · have h1 : qTm (qup (qup N 92 c (fWk (t (N 82 13)))) 82 13 (fHd t (N 82 13)).2) n t := qTm_up ⟨by rw [qup_ne (by omega)]; exact h.1, h.2.1, fun i a b => by rw [qup_ne (by omega)]; exact h.2.2.1 i a b, h.2.2.2⟩ (by omega)
    have b := sX12_number_n h1 (by rw [qup_self]; exact he) (by rw [qup_self]; exact v)
    rw [z, B_X12_takesClause_5, qif_f (by omega), B_X12_takesClause_8, b, qbd_some]
    show qlim C_X12_takesClause (12, [some (qA 82), some (qI c)], [qI 0], _) = _
    rw [B_X12_takesClause_12, qif_f (by omega), B_X12_takesClause_15]
