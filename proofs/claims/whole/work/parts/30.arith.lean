/-! longs as whole numbers -/
theorem qL_rng (x : Int64) : -9223372036854775808 ≤ x.toInt ∧ x.toInt < 9223372036854775808 := by
  have h1 := Int64.le_toInt x
  have h2 := Int64.toInt_lt x
  omega
theorem qI_rng (x : Int32) : -2147483648 ≤ x.toInt ∧ x.toInt < 2147483648 := by
  have h1 := Int32.le_toInt x
  have h2 := Int32.toInt_lt x
  omega
theorem qL_bm {z : Int} (h1 : -9223372036854775808 ≤ z) (h2 : z < 9223372036854775808) : z.bmod (2 ^ 64) = z := by
  rw [Int.bmod_eq_of_le (by omega) (by omega)]
theorem qL_add {x y : Int64} (h1 : -9223372036854775808 ≤ x.toInt + y.toInt) (h2 : x.toInt + y.toInt < 9223372036854775808) : (x + y).toInt = x.toInt + y.toInt := by
  rw [Int64.toInt_add, qL_bm h1 h2]
theorem qL_sub {x y : Int64} (h1 : -9223372036854775808 ≤ x.toInt - y.toInt) (h2 : x.toInt - y.toInt < 9223372036854775808) : (x - y).toInt = x.toInt - y.toInt := by
  rw [Int64.toInt_sub, qL_bm h1 h2]
theorem qL_mul {x y : Int64} (h1 : -9223372036854775808 ≤ x.toInt * y.toInt) (h2 : x.toInt * y.toInt < 9223372036854775808) : (x * y).toInt = x.toInt * y.toInt := by
  rw [Int64.toInt_mul, qL_bm h1 h2]
theorem qL_neg {x : Int64} (h : x.toInt ≠ -9223372036854775808) : (-x).toInt = -x.toInt := by
  have := qL_rng x
  rw [Int64.toInt_neg, qL_bm (by omega) (by omega)]
theorem qL_lt {x y : Int64} : x < y ↔ x.toInt < y.toInt := Int64.lt_iff_toInt_lt
theorem qL_le {x y : Int64} : x ≤ y ↔ x.toInt ≤ y.toInt := Int64.le_iff_toInt_le
theorem qL_eq {x y : Int64} : x = y ↔ x.toInt = y.toInt := ⟨fun h => by rw [h], fun h => Int64.toInt_inj.1 h⟩
theorem qI_lt {x y : Int32} : x < y ↔ x.toInt < y.toInt := Int32.lt_iff_toInt_lt
theorem qI_le {x y : Int32} : x ≤ y ↔ x.toInt ≤ y.toInt := Int32.le_iff_toInt_le
theorem qI_eq {x y : Int32} : x = y ↔ x.toInt = y.toInt := ⟨fun h => by rw [h], fun h => Int32.toInt_inj.1 h⟩
theorem qL_div {x y : Int64} (h : ¬ (x.toInt = -9223372036854775808 ∧ y.toInt = -1)) : (x / y).toInt = x.toInt.tdiv y.toInt := by
  have hx := qL_rng x
  have hy := qL_rng y
  rw [Int64.toInt_div]
  have h3 : (x.toInt.tdiv y.toInt).natAbs = x.toInt.natAbs / y.toInt.natAbs := Int.natAbs_tdiv _ _
  have h4 : x.toInt.natAbs / y.toInt.natAbs ≤ x.toInt.natAbs := Nat.div_le_self _ _
  by_cases hm : x.toInt = -9223372036854775808
  · have h5 : y.toInt ≠ -1 := fun q => h ⟨hm, q⟩
    by_cases h1 : y.toInt = 1
    · rw [h1, Int.tdiv_one]; exact qL_bm hx.1 hx.2
    · have h6 : x.toInt.natAbs / y.toInt.natAbs ≤ x.toInt.natAbs / 2 ∨ y.toInt.natAbs = 0 := by
        by_cases h0 : y.toInt.natAbs = 0
        · exact Or.inr h0
        · exact Or.inl (Nat.div_le_div_left (by omega) (by omega))
      have h7 : (x.toInt.tdiv y.toInt).natAbs ≤ 4611686018427387904 := by
        rcases h6 with q | q
        · omega
        · rw [h3, q, Nat.div_zero]; omega
      exact qL_bm (by omega) (by omega)
  · exact qL_bm (by omega) (by omega)
theorem qL_sh {x : Int64} {k : Nat} (s : Int32) (hs : ((s.toInt64 &&& 63).toBitVec.smod 64).toNat = k) : (jshrL x s).toInt = x.toInt / (2 : Int) ^ k := by
  unfold jshrL
  show (x >>> (s.toInt64 &&& 63)).toBitVec.toInt = _
  rw [Int64.toBitVec_shiftRight, BitVec.sshiftRight_eq', hs, BitVec.toInt_sshiftRight, Int.shiftRight_eq_div_pow]
  rfl
theorem qL_sh20 (x : Int64) : (jshrL x 20).toInt = x.toInt / 1048576 := qL_sh (k := 20) 20 (by decide)
theorem qL_sh32 (x : Int64) : (jshrL x 32).toInt = x.toInt / 4294967296 := qL_sh (k := 32) 32 (by decide)
theorem qL_sh24 (x : Int64) : (jshrL x 24).toInt = x.toInt / 16777216 := qL_sh (k := 24) 24 (by decide)
theorem qL_sh23 (x : Int64) : (jshrL x 23).toInt = x.toInt / 8388608 := qL_sh (k := 23) 23 (by decide)
theorem qL_sh4 (x : Int64) : (jshrL x 4).toInt = x.toInt / 16 := qL_sh (k := 4) 4 (by decide)
theorem qL_sh1 (x : Int64) : (jshrL x 1).toInt = x.toInt / 2 := qL_sh (k := 1) 1 (by decide)
theorem qL_ofI (x : Int32) : x.toInt64.toInt = x.toInt := Int32.toInt_toInt64 x
theorem qL_nat (x : Int64) : x.toInt = if 2 * x.toBitVec.toNat < 2 ^ 64 then (x.toBitVec.toNat : Int) else x.toBitVec.toNat - (2 ^ 64 : Nat) := BitVec.toInt_eq_toNat_cond _
/-- the bits of a SHUT in one long -/
theorem q_pack_nat (a b : Int64) : ((jshlL a 32) ||| (b &&& 4294967295)).toBitVec.toNat = (a.toBitVec.toNat % 4294967296) * 4294967296 + b.toBitVec.toNat % 4294967296 := by
  have h1 : (jshlL a 32).toBitVec.toNat = a.toBitVec.toNat * 4294967296 % 18446744073709551616 := by
    unfold jshlL
    rw [Int64.toBitVec_shiftLeft, BitVec.shiftLeft_eq', show (((32 : Int32).toInt64 &&& 63).toBitVec.smod 64).toNat = 32 by decide, BitVec.toNat_shiftLeft, Nat.shiftLeft_eq]
  have h2 : (b &&& 4294967295).toBitVec.toNat = b.toBitVec.toNat % 4294967296 := by
    rw [Int64.toBitVec_and, BitVec.toNat_and, show (4294967295 : Int64).toBitVec.toNat = 2 ^ 32 - 1 by decide, Nat.and_two_pow_sub_one_eq_mod]
  rw [Int64.toBitVec_or, BitVec.toNat_or, h1, h2]
  have h3 : a.toBitVec.toNat * 4294967296 % 18446744073709551616 = (a.toBitVec.toNat % 4294967296) <<< 32 := by
    rw [Nat.shiftLeft_eq]; omega
  rw [h3, ← Nat.shiftLeft_add_eq_or_of_lt (by omega), Nat.shiftLeft_eq]
theorem q_low {a b : Int64} (h1 : -2147483648 ≤ a.toInt) (h2 : a.toInt ≤ 2147483647) : (fX5_lowOf ((jshlL a 32) ||| (b &&& 4294967295))) = a := by
  have e : fX5_lowOf ((jshlL a 32) ||| (b &&& 4294967295)) = jshrL ((jshlL a 32) ||| (b &&& 4294967295)) 32 := rfl
  rw [e, qL_eq, qL_sh32, qL_nat, q_pack_nat]
  have h3 := qL_nat a
  have h4 : a.toBitVec.toNat < 2 ^ 64 := BitVec.isLt _
  split at h3 <;> split <;> omega
theorem q_high {a b : Int64} (h1 : -2147483648 ≤ b.toInt) (h2 : b.toInt ≤ 2147483647) : (fX5_highOf ((jshlL a 32) ||| (b &&& 4294967295))) = b := by
  have e : fX5_highOf ((jshlL a 32) ||| (b &&& 4294967295)) = Int32.toInt64 (Int64.toInt32 ((jshlL a 32) ||| (b &&& 4294967295))) := rfl
  rw [e, qL_eq, Int32.toInt_toInt64, Int64.toInt_toInt32, qL_nat, q_pack_nat]
  have h3 := qL_nat b
  have h4 : b.toBitVec.toNat < 2 ^ 64 := BitVec.isLt _
  rw [Int.bmod_def]
  split at h3 <;> split <;> split <;> omega
