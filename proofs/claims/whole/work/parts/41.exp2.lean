/-! E on both sides -/
theorem nm_eq {α β : Type} (e : α) (f : α → β) : nm e f = f e := id (Eq.refl _)
theorem bd1_some {α γ : Type} (a : α) (f : α → Option γ) : bd1 (some a) f = f a := id (Eq.refl _)
theorem bd2_some {α β γ : Type} (a : α) (b : β) (f : α → β → Option γ) : bd2 (some (a, b)) f = f a b := id (Eq.refl _)
theorem l_mulN {x y : Int64} {n m : Nat} (hx : x.toInt = (n : Nat)) (hy : y.toInt = (m : Nat)) (h : n * m < 9223372036854775808) : (x * y).toInt = ((n * m : Nat) : Int) := by
  have e : (n : Int) * (m : Int) = ((n * m : Nat) : Int) := (Int.natCast_mul _ _).symm
  rw [qL_mul (by rw [hx, hy, e]; omega) (by rw [hx, hy, e]; omega), hx, hy, e]
theorem l_addN {x y : Int64} {n m : Nat} (hx : x.toInt = (n : Nat)) (hy : y.toInt = (m : Nat)) (h : n + m < 9223372036854775808) : (x + y).toInt = ((n + m : Nat) : Int) := by
  rw [qL_add (by rw [hx, hy]; omega) (by rw [hx, hy]; omega), hx, hy]; omega
theorem l_divN {x y : Int64} {n m : Nat} (hx : x.toInt = (n : Nat)) (hy : y.toInt = (m : Nat)) : (x / y).toInt = ((n / m : Nat) : Int) := by
  rw [qL_div (by rw [hx]; omega), hx, hy]
  exact (Int.ofNat_tdiv n m).symm
theorem eDiv_f (x y : Nat) : eDiv false x y = x / y := by unfold eDiv; rw [if_neg (by decide)]
theorem eDiv_t (x y : Nat) : eDiv true x y = (x + y - 1) / y := by unfold eDiv cdiv; rw [if_pos rfl]
theorem eDiv_le {ups : Bool} {x y b : Nat} (hy : 0 < y) (h : x ≤ b * y) : eDiv ups x y ≤ b := by
  cases ups with
  | false => rw [eDiv_f]; exact Nat.div_le_of_le_mul (by rw [Nat.mul_comm]; exact h)
  | true => rw [eDiv_t]; exact Nat.lt_succ_iff.mp ((Nat.div_lt_iff_lt_mul hy).mpr (by rw [Nat.succ_mul]; omega))
def spare (ups : Bool) : Nat := if ups then 16777215 else 0
theorem x_sh24 {ups : Bool} {z s : Int64} {n : Nat} (hz : z.toInt = (n : Nat)) (hs : s.toInt = (spare ups : Nat)) (h : n < 9223372036837998592) : (jshrL (z + s) 24).toInt = ((eDiv ups n 16777216 : Nat) : Int) := by
  have b : spare ups ≤ 16777215 := by unfold spare; split <;> omega
  rw [qL_sh24, l_addN hz hs (by omega)]
  cases ups with
  | false =>
    rw [eDiv_f]
    have : spare false = 0 := rfl
    omega
  | true =>
    rw [eDiv_t]
    have : spare true = 16777215 := rfl
    omega
theorem x_by {ups : Bool} {z k : Int64} {n m : Nat} (hz : z.toInt = (n : Nat)) (hk : k.toInt = (m : Nat)) (h : n < 4611686018427387904) (hm : 1 ≤ m ∧ m ≤ 4611686018427387904) : (if ups then (((z + k) - 1) / k) else z / k).toInt = ((eDiv ups n m : Nat) : Int) := by
  cases ups with
  | false => rw [if_neg (by decide), l_divN hz hk, eDiv_f]
  | true =>
    rw [if_pos rfl, eDiv_t]
    refine l_divN ?_ hk
    rw [qL_sub (by rw [l_addN hz hk (by omega), q1L]; omega) (by rw [l_addN hz hk (by omega), q1L]; omega), l_addN hz hk (by omega), q1L]
    omega
theorem m_cut {ups : Bool} {u : Int32} (hu : ups = true ↔ ¬ u = 0) {z k : Int64} {n m : Nat} (hz : z.toInt = (n : Nat)) (hk : k.toInt = (m : Nat)) (h : n ≤ 4611686018427387904) (hm : 1 ≤ m) : ∃ r, fX9_cut z k u = some r ∧ r.toInt = ((eDiv ups n m : Nat) : Int) := by
  have k0 : k.toInt ≠ 0 := by omega
  have hb : -4611686018427387904 ≤ z.toInt ∧ z.toInt ≤ 4611686018427387904 := by omega
  show ∃ r, fX9_cut_0 z k u = some r ∧ _
  unfold fX9_cut_0
  cases ups with
  | false =>
    have hu0 : u = 0 := Classical.byContradiction fun q => by have := hu.mpr q; cases this
    obtain ⟨r, h1, h2⟩ := m_down k0 hb
    refine ⟨r, by rw [if_pos hu0, h1]; rfl, ?_⟩
    rw [h2, dn_pos (by omega), eDiv_f, hz, hk]
    exact (Int.natCast_ediv n m).symm
  | true =>
    obtain ⟨r, h1, h2⟩ := m_up k0 hb
    refine ⟨r, by rw [if_neg (hu.mp rfl), h1]; rfl, ?_⟩
    rw [h2, up_pos (by omega), eDiv_t, hz, hk]
    have e1 : ((n + m - 1) / m : Nat) * m ≤ n + m - 1 := Nat.div_mul_le_self _ _
    have e2 : n + m - 1 < ((n + m - 1) / m : Nat) * m + m := by
      have := Nat.lt_div_mul_add (a := n + m - 1) (b := m) (by omega)
      omega
    have e3 : (-(n : Int)) / (m : Int) = -(((n + m - 1) / m : Nat) : Int) := by
      refine q_ediv (by omega) ?_ ?_
      · rw [Int.neg_mul, ← Int.natCast_mul]; omega
      · rw [Int.neg_mul, ← Int.natCast_mul]; omega
    rw [e3]; omega
