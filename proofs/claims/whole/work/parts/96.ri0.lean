/-! WHAT A CALL ANSWERS HAS ITS TYPE -/
def qNr (rt : Option FieldType) (op : qOp) : Prop := ∀ (pc : Nat) (ls : qLs) (st : List qV) (h : qH) (r : Option qV) (h' : qH), op (pc, ls, st, h) = .inr (some (r, h')) → qchk rt r = true
theorem qNr_os {rt : Option FieldType} {f : qF} {n : Nat} : qNr rt (qos f n) := by
  intro pc ls st h r h' e
  unfold qos at e
  dsimp only at e
  cases hf : f ls st with
  | none => rw [hf] at e; cases e
  | some st' => rw [hf] at e; cases e
theorem qNr_ret {rt : Option FieldType} {k : Nat} : qNr rt (qo_ret rt k) := by
  intro pc ls st h r h' e
  unfold qo_ret at e
  dsimp only at e
  split at e
  · split at e
    · rename_i hc
      cases e
      exact hc
    · cases e
  · split at e
    · rename_i hc
      cases e
      exact hc
    · cases e
  · split at e
    · rename_i hc
      cases e
      exact hc
    · cases e
  · split at e
    · rename_i hc
      cases e
      exact hc
    · cases e
  · cases e
theorem qconsR {rt : Option FieldType} {pc : Nat} {op : qOp} {C : List (Nat × qOp)} (h : qNr rt op) (t : ∀ q ∈ C, qNr rt q.2) : ∀ q ∈ (pc, op) :: C, qNr rt q.2 := by
  intro q hq
  rcases List.mem_cons.mp hq with rfl | hq
  · exact h
  · exact t q hq
theorem qnilR {rt : Option FieldType} : ∀ q ∈ ([] : List (Nat × qOp)), qNr rt q.2 := fun _ h => absurd h List.not_mem_nil
theorem qrun_R {rt : Option FieldType} {C : List (Nat × qOp)} (hC : ∀ q ∈ C, qNr rt q.2) {n : Nat} : ∀ {cfg : qCfg} {r : Option qV} {h' : qH}, qrun C n cfg = some (r, h') → qchk rt r = true := by
  induction n with
  | zero => intro cfg r h' h; cases h
  | succ n ih =>
    intro cfg r h' h
    rw [qrun_succ] at h
    obtain ⟨pc, ls, st, hh⟩ := cfg
    cases hs : qst C (pc, ls, st, hh) with
    | inl cfg' => rw [hs] at h; exact ih h
    | inr r' =>
      rw [hs] at h
      have h : r' = some (r, h') := h
      subst h
      unfold qst at hs
      cases hf : qft C pc with
      | none => rw [hf] at hs; cases hs
      | some op => rw [hf] at hs; exact hC _ (qft_mem hf) pc ls st hh r h' hs
theorem qM_R {nL : Nat} {rt : Option FieldType} {C : List (Nat × qOp)} (hC : ∀ q ∈ C, qNr rt q.2) {as : List qV} {h h' : qH} {r : Option qV} (e : qM nL C as h = some (r, h')) : qchk rt r = true := by
  unfold qM at e
  split at e
  · obtain ⟨n, hn⟩ := qlim_iff.mp e
    exact qrun_R hC hn
  · cases e
theorem qchk_int {v : qV} (h : qchk (some .int) (some v) = true) : ∃ z : Int, v = qI z := by
  rcases v with z | z | z
  · exact ⟨z, rfl⟩
  · cases h
  · cases h
theorem qchk_lng {v : qV} (h : qchk (some .long) (some v) = true) : ∃ z : Int, v = qJ z := by
  rcases v with z | z | z
  · cases h
  · exact ⟨z, rfl⟩
  · cases h
theorem nr_aaload {rt : Option FieldType}  : qNr rt (qo_aaload) := by
  intro pc ls st h r h' e
  unfold qo_aaload at e
  try dsimp only at e
  repeat' (first | cases e | split at e)
theorem nr_alen {rt : Option FieldType}  : qNr rt (qo_alen) := by
  intro pc ls st h r h' e
  unfold qo_alen at e
  try dsimp only at e
  repeat' (first | cases e | split at e)
theorem nr_astore {rt : Option FieldType} {i n : Nat} : qNr rt (qo_astore i n) := by
  intro pc ls st h r h' e
  unfold qo_astore at e
  try dsimp only at e
  repeat' (first | cases e | split at e)
theorem nr_bastore {rt : Option FieldType}  : qNr rt (qo_bastore) := by
  intro pc ls st h r h' e
  unfold qo_bastore at e
  try dsimp only at e
  repeat' (first | cases e | split at e)
theorem nr_calls {rt : Option FieldType} {f : qSem} {n : Nat} : qNr rt (qo_calls f n) := by
  intro pc ls st h r h' e
  unfold qo_calls at e
  try dsimp only at e
  repeat' (first | cases e | split at e)
theorem nr_callv {rt : Option FieldType} {fs : List (Nat × qSem)} {n : Nat} : qNr rt (qo_callv fs n) := by
  intro pc ls st h r h' e
  unfold qo_callv at e
  try dsimp only at e
  repeat' (first | cases e | split at e)
theorem nr_copyl {rt : Option FieldType} {t : Nat} : qNr rt (qo_copyl t) := by
  intro pc ls st h r h' e
  unfold qo_copyl at e
  try dsimp only at e
  repeat' (first | cases e | split at e)
theorem nr_getD {rt : Option FieldType} {i k : Nat} : qNr rt (qo_getD i k) := by
  intro pc ls st h r h' e
  unfold qo_getD at e
  try dsimp only at e
  repeat' (first | cases e | split at e)
theorem nr_getI {rt : Option FieldType} {i k : Nat} : qNr rt (qo_getI i k) := by
  intro pc ls st h r h' e
  unfold qo_getI at e
  try dsimp only at e
  repeat' (first | cases e | split at e)
theorem nr_getR {rt : Option FieldType} {i k : Nat} : qNr rt (qo_getR i k) := by
  intro pc ls st h r h' e
  unfold qo_getR at e
  try dsimp only at e
  repeat' (first | cases e | split at e)
theorem nr_goto {rt : Option FieldType} {t : Nat} : qNr rt (qo_goto t) := by
  intro pc ls st h r h' e
  unfold qo_goto at e
  try dsimp only at e
  repeat' (first | cases e | split at e)
theorem nr_iaload {rt : Option FieldType}  : qNr rt (qo_iaload) := by
  intro pc ls st h r h' e
  unfold qo_iaload at e
  try dsimp only at e
  repeat' (first | cases e | split at e)
theorem nr_iastore {rt : Option FieldType}  : qNr rt (qo_iastore) := by
  intro pc ls st h r h' e
  unfold qo_iastore at e
  try dsimp only at e
  repeat' (first | cases e | split at e)
theorem nr_iceq {rt : Option FieldType} {t : Nat} : qNr rt (qo_iceq t) := by
  intro pc ls st h r h' e
  unfold qo_iceq at e
  try dsimp only at e
  repeat' (first | cases e | split at e)
theorem nr_icge {rt : Option FieldType} {t : Nat} : qNr rt (qo_icge t) := by
  intro pc ls st h r h' e
  unfold qo_icge at e
  try dsimp only at e
  repeat' (first | cases e | split at e)
theorem nr_icgt {rt : Option FieldType} {t : Nat} : qNr rt (qo_icgt t) := by
  intro pc ls st h r h' e
  unfold qo_icgt at e
  try dsimp only at e
  repeat' (first | cases e | split at e)
theorem nr_icle {rt : Option FieldType} {t : Nat} : qNr rt (qo_icle t) := by
  intro pc ls st h r h' e
  unfold qo_icle at e
  try dsimp only at e
  repeat' (first | cases e | split at e)
theorem nr_iclt {rt : Option FieldType} {t : Nat} : qNr rt (qo_iclt t) := by
  intro pc ls st h r h' e
  unfold qo_iclt at e
  try dsimp only at e
  repeat' (first | cases e | split at e)
theorem nr_icne {rt : Option FieldType} {t : Nat} : qNr rt (qo_icne t) := by
  intro pc ls st h r h' e
  unfold qo_icne at e
  try dsimp only at e
  repeat' (first | cases e | split at e)
theorem nr_ifeq {rt : Option FieldType} {t : Nat} : qNr rt (qo_ifeq t) := by
  intro pc ls st h r h' e
  unfold qo_ifeq at e
  try dsimp only at e
  repeat' (first | cases e | split at e)
theorem nr_ifge {rt : Option FieldType} {t : Nat} : qNr rt (qo_ifge t) := by
  intro pc ls st h r h' e
  unfold qo_ifge at e
  try dsimp only at e
  repeat' (first | cases e | split at e)
theorem nr_iflt {rt : Option FieldType} {t : Nat} : qNr rt (qo_iflt t) := by
  intro pc ls st h r h' e
  unfold qo_iflt at e
  try dsimp only at e
  repeat' (first | cases e | split at e)
theorem nr_ifne {rt : Option FieldType} {t : Nat} : qNr rt (qo_ifne t) := by
  intro pc ls st h r h' e
  unfold qo_ifne at e
  try dsimp only at e
  repeat' (first | cases e | split at e)
theorem nr_iinc {rt : Option FieldType} {i : Nat} {d : Int} : qNr rt (qo_iinc i d) := by
  intro pc ls st h r h' e
  unfold qo_iinc at e
  try dsimp only at e
  repeat' (first | cases e | split at e)
theorem nr_istore {rt : Option FieldType} {i n : Nat} : qNr rt (qo_istore i n) := by
  intro pc ls st h r h' e
  unfold qo_istore at e
  try dsimp only at e
  repeat' (first | cases e | split at e)
theorem nr_laload {rt : Option FieldType}  : qNr rt (qo_laload) := by
  intro pc ls st h r h' e
  unfold qo_laload at e
  try dsimp only at e
  repeat' (first | cases e | split at e)
theorem nr_lastore {rt : Option FieldType}  : qNr rt (qo_lastore) := by
  intro pc ls st h r h' e
  unfold qo_lastore at e
  try dsimp only at e
  repeat' (first | cases e | split at e)
theorem nr_push {rt : Option FieldType} {v : qV} {n : Nat} : qNr rt (qo_push v n) := by
  intro pc ls st h r h' e
  unfold qo_push at e
  try dsimp only at e
  repeat' (first | cases e | split at e)
theorem nr_putI {rt : Option FieldType} {i k : Nat} : qNr rt (qo_putI i k) := by
  intro pc ls st h r h' e
  unfold qo_putI at e
  try dsimp only at e
  repeat' (first | cases e | split at e)
theorem nr_putZ {rt : Option FieldType} {i k : Nat} : qNr rt (qo_putZ i k) := by
  intro pc ls st h r h' e
  unfold qo_putZ at e
  try dsimp only at e
  repeat' (first | cases e | split at e)
theorem nr_tld {rt : Option FieldType}  : qNr rt (qo_tld) := by
  intro pc ls st h r h' e
  unfold qo_tld at e
  try dsimp only at e
  repeat' (first | cases e | split at e)
theorem nr_tsw {rt : Option FieldType} {lo : Int} {tl : List Nat} {td : Nat} : qNr rt (qo_tsw lo tl td) := by
  intro pc ls st h r h' e
  unfold qo_tsw at e
  try dsimp only at e
  repeat' (first | cases e | split at e)
theorem nr_zaload {rt : Option FieldType}  : qNr rt (qo_zaload) := by
  intro pc ls st h r h' e
  unfold qo_zaload at e
  try dsimp only at e
  repeat' (first | cases e | split at e)
theorem nr_zastore {rt : Option FieldType}  : qNr rt (qo_zastore) := by
  intro pc ls st h r h' e
  unfold qo_zastore at e
  try dsimp only at e
  repeat' (first | cases e | split at e)
