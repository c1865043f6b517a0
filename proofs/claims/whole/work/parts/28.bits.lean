/-! bits -/
theorem k32nat {n : Nat} (h : n < 2147483648) : (Int32.ofInt (n : Int)).toBitVec.toNat = n := by
  show (BitVec.ofInt 32 (n : Int)).toNat = n
  rw [BitVec.toNat_ofInt]
  omega
theorem k32of {x : Int32} {n : Nat} (h1 : x.toBitVec.toNat = n) (h2 : n < 2147483648) : x.toInt = n := by
  show x.toBitVec.toInt = n
  rw [BitVec.toInt_eq_toNat_of_lt (by omega), h1]
theorem k64nat {n : Nat} (h : n < 9223372036854775808) : (Int64.ofInt (n : Int)).toBitVec.toNat = n := by
  show (BitVec.ofInt 64 (n : Int)).toNat = n
  rw [BitVec.toNat_ofInt]
  omega
theorem k64of {x : Int64} {n : Nat} (h1 : x.toBitVec.toNat = n) (h2 : n < 9223372036854775808) : x.toInt = n := by
  show x.toBitVec.toInt = n
  rw [BitVec.toInt_eq_toNat_of_lt (by omega), h1]
theorem kand_nat {a b : Nat} (ha : a < 2147483648) (hb : b < 2147483648) : kand a b = ((a &&& b : Nat) : Int) := by
  apply k32of
  · show ((Int32.ofInt (a : Int)).toBitVec &&& (Int32.ofInt (b : Int)).toBitVec).toNat = _
    rw [BitVec.toNat_and, k32nat ha, k32nat hb]
  · exact Nat.lt_of_le_of_lt Nat.and_le_left ha
theorem kor_nat {a b : Nat} (ha : a < 2147483648) (hb : b < 2147483648) : kor a b = ((a ||| b : Nat) : Int) := by
  apply k32of
  · show ((Int32.ofInt (a : Int)).toBitVec ||| (Int32.ofInt (b : Int)).toBitVec).toNat = _
    rw [BitVec.toNat_or, k32nat ha, k32nat hb]
  · exact Nat.or_lt_two_pow (n := 31) ha hb
theorem kand_255 {a : Int} (h1 : 0 ≤ a) (h2 : a ≤ 2147483647) : kand a 255 = a % 256 := by
  obtain ⟨n, rfl⟩ := Int.eq_ofNat_of_zero_le h1
  have e := kand_nat (a := n) (b := 255) (by omega) (by omega)
  rw [Nat.and_two_pow_sub_one_eq_mod n 8] at e
  exact e.trans (by omega)
theorem kshr_of {a : Int} {k : Nat} {s : Int} (hs : (Int32.ofInt s &&& 31).toBitVec.smod 32 = BitVec.ofNat 32 k) (hk : k < 32) (h1 : 0 ≤ a) (h2 : a ≤ 2147483647) : kshr a s = a / 2 ^ k := by
  show (BitVec.sshiftRight' (Int32.ofInt a).toBitVec ((Int32.ofInt s &&& 31).toBitVec.smod 32)).toInt = _
  rw [hs]
  show (BitVec.sshiftRight (Int32.ofInt a).toBitVec (BitVec.ofNat 32 k).toNat).toInt = _
  rw [BitVec.toInt_sshiftRight, BitVec.toNat_ofNat, Nat.mod_eq_of_lt (by omega), Int.shiftRight_eq_div_pow]
  have e : (Int32.ofInt a).toBitVec.toInt = a := k32 (by omega) h2
  rw [e]
  rfl
theorem kshr_8 {a : Int} (h1 : 0 ≤ a) (h2 : a ≤ 2147483647) : kshr a 8 = a / 256 := kshr_of (k := 8) (by decide) (by omega) h1 h2
theorem kshr_16 {a : Int} (h1 : 0 ≤ a) (h2 : a ≤ 2147483647) : kshr a 16 = a / 65536 := kshr_of (k := 16) (by decide) (by omega) h1 h2
theorem jand_nat {a b : Nat} (ha : a < 9223372036854775808) (hb : b < 9223372036854775808) : jand a b = ((a &&& b : Nat) : Int) := by
  apply k64of
  · show ((Int64.ofInt (a : Int)).toBitVec &&& (Int64.ofInt (b : Int)).toBitVec).toNat = _
    rw [BitVec.toNat_and, k64nat ha, k64nat hb]
  · exact Nat.lt_of_le_of_lt Nat.and_le_left ha
theorem jor_nat {a b : Nat} (ha : a < 9223372036854775808) (hb : b < 9223372036854775808) : jor a b = ((a ||| b : Nat) : Int) := by
  apply k64of
  · show ((Int64.ofInt (a : Int)).toBitVec ||| (Int64.ofInt (b : Int)).toBitVec).toNat = _
    rw [BitVec.toNat_or, k64nat ha, k64nat hb]
  · exact Nat.or_lt_two_pow (n := 63) ha hb
theorem jxor_nat {a b : Nat} (ha : a < 9223372036854775808) (hb : b < 9223372036854775808) : jxor a b = ((a ^^^ b : Nat) : Int) := by
  apply k64of
  · show ((Int64.ofInt (a : Int)).toBitVec ^^^ (Int64.ofInt (b : Int)).toBitVec).toNat = _
    rw [BitVec.toNat_xor, k64nat ha, k64nat hb]
  · exact Nat.xor_lt_two_pow (n := 63) ha hb
theorem jand_1 {n : Nat} (h : n < 9223372036854775808) : jand n 1 = ((n % 2 : Nat) : Int) := by
  have e := jand_nat (a := n) (b := 1) h (by omega)
  rw [Nat.and_two_pow_sub_one_eq_mod n 1] at e
  exact e
theorem jxor_1 {n : Nat} (h : n < 9223372036854775808) : jxor n 1 = ((n / 2 * 2 + (1 - n % 2) : Nat) : Int) := by
  have e := jxor_nat (a := n) (b := 1) h (by omega)
  have e1 : (n ^^^ 1) / 2 = n / 2 := by rw [Nat.xor_div_two]; exact Nat.xor_zero _
  have e2 := Nat.xor_mod_two_eq_one (a := n) (b := 1)
  exact e.trans (by omega)
theorem jor_1 {n : Nat} (h : n < 9223372036854775808) : jor n 1 = ((n / 2 * 2 + 1 : Nat) : Int) := by
  have e := jor_nat (a := n) (b := 1) h (by omega)
  have e1 : (n ||| 1) / 2 = n / 2 := by rw [Nat.or_div_two]; exact Nat.or_zero _
  have e2 : (n ||| 1) % 2 = 1 := Nat.or_mod_two_eq_one.mpr (Or.inr rfl)
  exact e.trans (by omega)
theorem jor_b {n b : Nat} (h : 2 * n < 9223372036854775808) (hb : b < 2) : jor (2 * n : Nat) (ki2l b) = ((2 * n + b : Nat) : Int) := by
  have e0 : b = 0 ∨ b = 1 := by omega
  rcases e0 with rfl | rfl
  · have e := jor_nat (a := 2 * n) (b := 0) h (by omega)
    rw [Nat.or_zero] at e
    exact e
  · have e := jor_1 (n := 2 * n) h
    exact e.trans (by omega)
theorem jand_m2 {n : Nat} (h : n < 9223372036854775808) : jand n (-2) = ((n / 2 * 2 : Nat) : Int) := by
  apply k64of
  · show ((Int64.ofInt (n : Int)).toBitVec &&& (Int64.ofInt (-2)).toBitVec).toNat = _
    rw [BitVec.toNat_and, k64nat h]
    have e : (Int64.ofInt (-2)).toBitVec.toNat = 18446744073709551614 := by decide
    rw [e]
    have e1 : (n &&& 18446744073709551614) / 2 = n / 2 := by
      rw [Nat.and_div_two]
      show n / 2 &&& (2 ^ 63 - 1) = n / 2
      rw [Nat.and_two_pow_sub_one_eq_mod]
      omega
    have e2 : (n &&& 18446744073709551614) % 2 = 0 := by
      have := Nat.and_mod_two_eq_one (a := n) (b := 18446744073709551614)
      omega
    omega
  · omega
theorem jushr_1 {n : Nat} (h : n < 9223372036854775808) : jushr n 1 = ((n / 2 : Nat) : Int) := by
  apply k64of
  · show (BitVec.ushiftRight (Int64.ofInt (n : Int)).toBitVec 1).toNat = _
    show ((Int64.ofInt (n : Int)).toBitVec >>> 1).toNat = _
    rw [BitVec.toNat_ushiftRight, k64nat h, Nat.shiftRight_eq_div_pow]
  · omega
theorem jshl_1 {n : Nat} (h : n < 4611686018427387904) : jshl n 1 = ((2 * n : Nat) : Int) := by
  apply k64of
  · show ((Int64.ofInt (n : Int)).toBitVec <<< 1).toNat = _
    rw [BitVec.toNat_shiftLeft, k64nat (by omega), Nat.shiftLeft_eq]
    omega
  · omega
theorem jcmp_0 {n : Nat} (h : n < 9223372036854775808) : (jcmp n 0 = 0) = (n = 0) := by
  have e : (Int64.ofInt (n : Int)).toInt = n := k64of (k64nat h) h
  have e0 : (Int64.ofInt 0).toInt = 0 := rfl
  unfold jcmp lg_cmp
  simp only [Int64.lt_iff_toInt_lt, e, e0]
  by_cases hn : n = 0
  · subst hn
    simp
  · rw [if_pos (by omega)]
    simp only [hn]
    decide
