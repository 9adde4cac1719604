/-! divisions down and up -/
def dn (x y : Int) : Int := if 0 < y then x / y else (-x) / (-y)
def up (x y : Int) : Int := -(dn (-x) y)
theorem q_ediv {x y t : Int} (hy : 0 < y) (h1 : t * y ≤ x) (h2 : x < t * y + y) : x / y = t := by
  have a : t ≤ x / y := (Int.le_ediv_iff_mul_le hy).mpr h1
  have b : x / y < t + 1 := (Int.ediv_lt_iff_lt_mul hy).mpr (by rw [Int.add_mul, Int.one_mul]; omega)
  omega
/-- the whole quotient towards 0 and its rest, of either sign -/
theorem q_tdm (x : Int) {y : Int} (hy : y ≠ 0) : x.tdiv y * y + x.tmod y = x ∧ (x.tmod y).natAbs < y.natAbs ∧ (0 ≤ x → 0 ≤ x.tmod y) ∧ (x ≤ 0 → x.tmod y ≤ 0) := by
  refine ⟨Int.tdiv_mul_add_tmod .., ?_, fun h => Int.tmod_nonneg _ h, fun h => ?_⟩
  · rw [Int.natAbs_tmod]
    exact Nat.mod_lt _ (by omega)
  · have h2 := Int.tmod_nonneg y (show 0 ≤ -x by omega)
    rw [Int.neg_tmod] at h2
    omega
theorem dn_of {x y t m : Int} (hy : y ≠ 0) (e : t * y + m = x) (hm : m.natAbs < y.natAbs) : dn x y = if m = 0 then t else if (0 < m ↔ 0 < y) then t else t - 1 := by
  unfold dn
  by_cases hp : 0 < y
  · rw [if_pos hp]
    split
    · exact q_ediv hp (by omega) (by omega)
    · split
      · exact q_ediv hp (by omega) (by omega)
      · refine q_ediv hp ?_ ?_
        · rw [Int.sub_mul, Int.one_mul]; omega
        · rw [Int.sub_mul, Int.one_mul]; omega
  · rw [if_neg hp]
    have hq : 0 < -y := by omega
    have e2 : t * (-y) = -(t * y) := Int.mul_neg _ _
    split
    · exact q_ediv hq (by omega) (by omega)
    · split
      · exact q_ediv hq (by omega) (by omega)
      · refine q_ediv hq ?_ ?_
        · rw [Int.sub_mul, Int.one_mul]; omega
        · rw [Int.sub_mul, Int.one_mul]; omega
theorem up_of {x y t m : Int} (hy : y ≠ 0) (e : t * y + m = x) (hm : m.natAbs < y.natAbs) : up x y = if m = 0 then t else if (0 < m ↔ 0 < y) then t + 1 else t := by
  unfold up
  have e2 : (-t) * y = -(t * y) := Int.neg_mul _ _
  rw [dn_of hy (t := -t) (m := -m) (by omega) (by omega)]
  split <;> split <;> (try split) <;> (try split) <;> omega
theorem q_no {x y : Int64} (hx : -4611686018427387904 ≤ x.toInt ∧ x.toInt ≤ 4611686018427387904) : ¬ (x.toInt = -9223372036854775808 ∧ y.toInt = -1) := by omega
theorem q_tb {x y : Int} (hx : -4611686018427387904 ≤ x ∧ x ≤ 4611686018427387904) : -4611686018427387904 ≤ x.tdiv y ∧ x.tdiv y ≤ 4611686018427387904 := by
  have h : (x.tdiv y).natAbs = x.natAbs / y.natAbs := Int.natAbs_tdiv _ _
  have h2 : x.natAbs / y.natAbs ≤ x.natAbs := Nat.div_le_self _ _
  omega
theorem q0L : (0 : Int64).toInt = 0 := by decide
theorem q1L : (1 : Int64).toInt = 1 := by decide
theorem m_down {x y : Int64} (hy : y.toInt ≠ 0) (hx : -4611686018427387904 ≤ x.toInt ∧ x.toInt ≤ 4611686018427387904) : ∃ r, fX9_down x y = some r ∧ r.toInt = dn x.toInt y.toInt := by
  have no := q_no (y := y) hx
  have d := qL_div no
  have m := jremL_toInt no
  obtain ⟨e, hm, hp, hn⟩ := q_tdm x.toInt hy
  have tb := q_tb (y := y.toInt) hx
  have y0 : ¬ y = 0 := fun q => hy (by rw [q]; exact q0L)
  rw [dn_of hy e hm]
  have s1 : (x / y - 1).toInt = x.toInt.tdiv y.toInt - 1 := by rw [qL_sub (by rw [d, q1L]; omega) (by rw [d, q1L]; omega), d, q1L]
  show ∃ r, fX9_down_0 x y = some r ∧ _
  simp only [fX9_down_0, nm, zg_pos y0]
  by_cases h0 : jremL x y = 0
  · rw [if_pos h0]
    rw [qL_eq, m, q0L] at h0
    exact ⟨_, rfl, by rw [if_pos h0, d]⟩
  · rw [if_neg h0]
    rw [qL_eq, m, q0L] at h0
    rw [if_neg h0]
    by_cases h1 : (0 : Int64) ≤ x
    · rw [if_pos h1]
      rw [qL_le, q0L] at h1
      have := hp h1
      by_cases h2 : (0 : Int64) ≤ y
      · rw [if_pos h2]
        rw [qL_le, q0L] at h2
        exact ⟨_, rfl, by rw [if_pos (by omega), d]⟩
      · rw [if_neg h2]
        rw [qL_le, q0L] at h2
        exact ⟨_, rfl, by rw [if_neg (by omega)]; exact s1⟩
    · rw [if_neg h1]
      rw [qL_le, q0L] at h1
      have := hn (by omega)
      by_cases h2 : (0 : Int64) ≤ y
      · rw [if_pos h2]
        rw [qL_le, q0L] at h2
        exact ⟨_, rfl, by rw [if_neg (by omega)]; exact s1⟩
      · rw [if_neg h2]
        rw [qL_le, q0L] at h2
        exact ⟨_, rfl, by rw [if_pos (by omega), d]⟩
theorem m_up {x y : Int64} (hy : y.toInt ≠ 0) (hx : -4611686018427387904 ≤ x.toInt ∧ x.toInt ≤ 4611686018427387904) : ∃ r, fX9_up x y = some r ∧ r.toInt = up x.toInt y.toInt := by
  have no := q_no (y := y) hx
  have d := qL_div no
  have m := jremL_toInt no
  obtain ⟨e, hm, hp, hn⟩ := q_tdm x.toInt hy
  have tb := q_tb (y := y.toInt) hx
  have y0 : ¬ y = 0 := fun q => hy (by rw [q]; exact q0L)
  rw [up_of hy e hm]
  have s1 : (x / y + 1).toInt = x.toInt.tdiv y.toInt + 1 := by rw [qL_add (by rw [d, q1L]; omega) (by rw [d, q1L]; omega), d, q1L]
  show ∃ r, fX9_up_0 x y = some r ∧ _
  simp only [fX9_up_0, nm, zg_pos y0]
  by_cases h0 : jremL x y = 0
  · rw [if_pos h0]
    rw [qL_eq, m, q0L] at h0
    exact ⟨_, rfl, by rw [if_pos h0, d]⟩
  · rw [if_neg h0]
    rw [qL_eq, m, q0L] at h0
    rw [if_neg h0]
    by_cases h1 : (0 : Int64) ≤ x
    · rw [if_pos h1]
      rw [qL_le, q0L] at h1
      have := hp h1
      by_cases h2 : (0 : Int64) ≤ y
      · rw [if_pos h2]
        rw [qL_le, q0L] at h2
        exact ⟨_, rfl, by rw [if_pos (by omega)]; exact s1⟩
      · rw [if_neg h2]
        rw [qL_le, q0L] at h2
        exact ⟨_, rfl, by rw [if_neg (by omega), d]⟩
    · rw [if_neg h1]
      rw [qL_le, q0L] at h1
      have := hn (by omega)
      by_cases h2 : (0 : Int64) ≤ y
      · rw [if_pos h2]
        rw [qL_le, q0L] at h2
        exact ⟨_, rfl, by rw [if_neg (by omega), d]⟩
      · rw [if_neg h2]
        rw [qL_le, q0L] at h2
        exact ⟨_, rfl, by rw [if_pos (by omega)]; exact s1⟩
theorem x_xor (x y : Int64) : (0 : Int64) ≤ x ^^^ y ↔ (0 ≤ x.toInt ↔ 0 ≤ y.toInt) := by
  rw [qL_le, q0L]
  have f : ∀ z : Int64, 0 ≤ z.toInt ↔ z.toBitVec.msb = false := fun z => by
    have h := BitVec.msb_eq_toInt (x := z.toBitVec)
    rw [h]
    show 0 ≤ z.toBitVec.toInt ↔ _
    simp
  rw [f, f, f, Int64.toBitVec_xor, BitVec.msb_xor]
  cases x.toBitVec.msb <;> cases y.toBitVec.msb <;> simp
theorem x_fdiv {x y : Int64} (hy : y.toInt ≠ 0) (hx : -4611686018427387904 ≤ x.toInt ∧ x.toInt ≤ 4611686018427387904) : ∃ r, fJ9_floorDiv_f86c9 x y = some r ∧ r.toInt = dn x.toInt y.toInt := by
  have no := q_no (y := y) hx
  have d := qL_div no
  obtain ⟨e, hm, hp, hn⟩ := q_tdm x.toInt hy
  have tb := q_tb (y := y.toInt) hx
  have y0 : ¬ y = 0 := fun q => hy (by rw [q]; exact q0L)
  rw [dn_of hy e hm]
  have s1 : (x / y - 1).toInt = x.toInt.tdiv y.toInt - 1 := by rw [qL_sub (by rw [d, q1L]; omega) (by rw [d, q1L]; omega), d, q1L]
  have pm : (x / y * y).toInt = x.toInt.tdiv y.toInt * y.toInt := by
    have h2 : (x.toInt.tmod y.toInt).natAbs ≤ x.toInt.natAbs := by
      rw [Int.natAbs_tmod]
      exact Nat.mod_le _ _
    have h3 : -4611686018427387904 ≤ x.toInt.tdiv y.toInt * y.toInt ∧ x.toInt.tdiv y.toInt * y.toInt ≤ 4611686018427387904 := by
      rcases Int.le_total 0 x.toInt with q | q
      · have := hp q; omega
      · have := hn q; omega
    rw [qL_mul (by rw [d]; omega) (by rw [d]; omega), d]
  show ∃ r, fJ9_floorDiv_f86c9_0 x y = some r ∧ _
  simp only [fJ9_floorDiv_f86c9_0, nm, zg_pos y0]
  by_cases h1 : (0 : Int64) ≤ x ^^^ y
  · rw [if_pos h1]
    rw [x_xor] at h1
    refine ⟨_, rfl, ?_⟩
    rw [d]
    split
    · rfl
    · rw [if_pos ?_]
      rcases Int.le_total 0 x.toInt with q | q
      · have := hp q; omega
      · have := hn q; omega
  · rw [if_neg h1]
    rw [x_xor] at h1
    by_cases h2 : x / y * y = x
    · rw [if_pos h2]
      rw [qL_eq, pm] at h2
      exact ⟨_, rfl, by rw [if_pos (by omega), d]⟩
    · rw [if_neg h2]
      rw [qL_eq, pm] at h2
      refine ⟨_, rfl, ?_⟩
      rw [s1, if_neg (by omega), if_neg ?_]
      rcases Int.le_total 0 x.toInt with q | q
      · have := hp q; omega
      · have := hn q; omega
theorem dn_pos {x y : Int} (h : 0 < y) : dn x y = x / y := if_pos h
theorem up_pos {x y : Int} (h : 0 < y) : up x y = -((-x) / y) := by unfold up; rw [dn_pos h]
