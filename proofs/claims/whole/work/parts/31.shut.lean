/-! SHUTS as pairs of whole numbers; a HOLE is none -/
abbrev qSh : Type := Option (Int × Int)
def sOf (a b : Int) : qSh := if -2147483648 ≤ a ∧ a ≤ 2147483647 ∧ -2147483648 ≤ b ∧ b ≤ 2147483647 then some (a, b) else none
/-- the packed long f stands for s -/
def xS (f : Int64) (s : qSh) : Prop := match s with
  | none => f = 4294967296
  | some q => f ≠ 4294967296 ∧ (fX5_lowOf f).toInt = q.1 ∧ (fX5_highOf f).toInt = q.2 ∧ -2147483648 ≤ q.1 ∧ q.1 ≤ q.2 ∧ q.2 ≤ 2147483647
theorem x_of {x y : Int64} (h : x.toInt ≤ y.toInt) : xS (fX5_of x y) (sOf x.toInt y.toInt) := by
  show xS (fX5_of_0 x y) _
  unfold fX5_of_0
  have e1 : (-2147483648 : Int64).toInt = -2147483648 := by decide
  have e2 : (2147483647 : Int64).toInt = 2147483647 := by decide
  by_cases h1 : x < (-2147483648 : Int64)
  · rw [if_pos h1]
    rw [qL_lt, e1] at h1
    rw [sOf, if_neg (by omega)]
    rfl
  rw [if_neg h1]
  rw [qL_lt, e1] at h1
  by_cases h2 : (2147483647 : Int64) < y
  · rw [if_pos h2]
    rw [qL_lt, e2] at h2
    rw [sOf, if_neg (by omega)]
    rfl
  rw [if_neg h2, if_pos (qL_le.mpr h)]
  rw [qL_lt, e2] at h2
  have h3 : -2147483648 ≤ x.toInt := by omega
  have h4 : x.toInt ≤ 2147483647 := by omega
  have h5 : -2147483648 ≤ y.toInt := by omega
  have h6 : y.toInt ≤ 2147483647 := by omega
  rw [sOf, if_pos ⟨h3, h4, h5, h6⟩]
  have l := q_low (b := y) h3 h4
  have u := q_high (a := x) h5 h6
  refine ⟨fun e => ?_, by rw [l], by rw [u], h3, h, h6⟩
  rw [e] at l u
  have l1 : fX5_lowOf (4294967296 : Int64) = 1 := by show jshrL (4294967296 : Int64) 32 = 1; decide
  have u1 : fX5_highOf (4294967296 : Int64) = 0 := by show Int32.toInt64 (Int64.toInt32 (4294967296 : Int64)) = 0; decide
  rw [l1] at l
  rw [u1] at u
  rw [← l, ← u] at h
  exact absurd h (by decide)
theorem xS.eq {f : Int64} {s t : qSh} (h : xS f s) (e : s = t) : xS f t := e ▸ h
/-- the Model's low, high and hole stand for s -/
def mS (σ : zSt) (s : qSh) : Prop := match s with
  | none => gi σ 61 21 = 1
  | some q => gi σ 61 21 = 0 ∧ (gl σ 61 19).toInt = q.1 ∧ (gl σ 61 20).toInt = q.2
/-- all but low, high, hole and isOver is the same -/
def mEq (σ τ : zSt) : Prop := (∀ c k, (c ≠ 61 ∨ (k ≠ 21 ∧ k ≠ 22)) → gi τ c k = gi σ c k) ∧ ∀ c k, (c ≠ 61 ∨ (k ≠ 19 ∧ k ≠ 20)) → gl τ c k = gl σ c k
theorem mEq.rf {σ : zSt} : mEq σ σ := ⟨fun _ _ _ => rfl, fun _ _ _ => rfl⟩
theorem mEq.tr {a b c : zSt} (h : mEq a b) (h2 : mEq b c) : mEq a c := ⟨fun q k hk => (h2.1 q k hk).trans (h.1 q k hk), fun q k hk => (h2.2 q k hk).trans (h.2 q k hk)⟩
theorem gi_si (σ : zSt) (c k : Nat) (v : Int32) (c' k' : Nat) : gi (si σ c k v) c' k' = if c' = c ∧ k' = k then v else gi σ c' k' := rfl
theorem gl_si (σ : zSt) (c k : Nat) (v : Int32) (c' k' : Nat) : gl (si σ c k v) c' k' = gl σ c' k' := rfl
theorem gl_sl (σ : zSt) (c k : Nat) (v : Int64) (c' k' : Nat) : gl (sl σ c k v) c' k' = if c' = c ∧ k' = k then v else gl σ c' k' := rfl
theorem gi_sl (σ : zSt) (c k : Nat) (v : Int64) (c' k' : Nat) : gi (sl σ c k v) c' k' = gi σ c' k' := rfl
theorem m_is (a b : Int64) (σ : zSt) : ∃ τ, fX9_is a b σ = some τ ∧ mS τ (sOf a.toInt b.toInt) ∧ mEq σ τ ∧ gl τ 61 19 = a ∧ gl τ 61 20 = b ∧ gi τ 61 22 = gi σ 61 22 := by
  have key : ∀ h : Int32, mEq σ (si (sl (sl σ 61 19 a) 61 20 b) 61 21 h) := fun h => by
    refine ⟨fun c k q => ?_, fun c k q => ?_⟩
    · rw [gi_si, gi_sl, gi_sl, if_neg (by omega)]
    · rw [gl_si, gl_sl, gl_sl, if_neg (by omega), if_neg (by omega)]
  have lo : ∀ h : Int32, gl (si (sl (sl σ 61 19 a) 61 20 b) 61 21 h) 61 19 = a := fun h => by rw [gl_si, gl_sl, gl_sl]; rfl
  have hi : ∀ h : Int32, gl (si (sl (sl σ 61 19 a) 61 20 b) 61 21 h) 61 20 = b := fun h => by rw [gl_si, gl_sl]; rfl
  have ho : ∀ h : Int32, gi (si (sl (sl σ 61 19 a) 61 20 b) 61 21 h) 61 21 = h := fun h => by rw [gi_si]; rfl
  have ov : ∀ h : Int32, gi (si (sl (sl σ 61 19 a) 61 20 b) 61 21 h) 61 22 = gi σ 61 22 := fun h => by rw [gi_si, gi_sl, gi_sl]; rfl
  have e1 : (-2147483648 : Int64).toInt = -2147483648 := by decide
  have e2 : (2147483647 : Int64).toInt = 2147483647 := by decide
  have bad : ¬ (-2147483648 ≤ a.toInt ∧ a.toInt ≤ 2147483647 ∧ -2147483648 ≤ b.toInt ∧ b.toInt ≤ 2147483647) → mS (si (sl (sl σ 61 19 a) 61 20 b) 61 21 1) (sOf a.toInt b.toInt) := fun q => by
    rw [sOf, if_neg q]
    exact ho 1
  show ∃ τ, fX9_is_0 a b σ = some τ ∧ _
  unfold fX9_is_0
  by_cases h1 : a < (-2147483648 : Int64)
  · rw [if_pos h1]
    rw [qL_lt, e1] at h1
    exact ⟨_, rfl, bad (by omega), key 1, lo 1, hi 1, ov 1⟩
  rw [if_neg h1]
  rw [qL_lt, e1] at h1
  by_cases h2 : (2147483647 : Int64) < a
  · rw [if_pos h2]
    rw [qL_lt, e2] at h2
    exact ⟨_, rfl, bad (by omega), key 1, lo 1, hi 1, ov 1⟩
  rw [if_neg h2]
  rw [qL_lt, e2] at h2
  by_cases h3 : b < (-2147483648 : Int64)
  · rw [if_pos h3]
    rw [qL_lt, e1] at h3
    exact ⟨_, rfl, bad (by omega), key 1, lo 1, hi 1, ov 1⟩
  rw [if_neg h3]
  rw [qL_lt, e1] at h3
  by_cases h4 : b ≤ (2147483647 : Int64)
  · rw [if_pos h4]
    rw [qL_le, e2] at h4
    refine ⟨_, rfl, ?_, key 0, lo 0, hi 0, ov 0⟩
    rw [sOf, if_pos (by omega)]
    exact ⟨ho 0, by rw [lo 0], by rw [hi 0]⟩
  · rw [if_neg h4]
    rw [qL_le, e2] at h4
    exact ⟨_, rfl, bad (by omega), key 1, lo 1, hi 1, ov 1⟩
theorem m_isHole (σ : zSt) : ∃ τ, fX9_isHole σ = some τ ∧ mS τ none ∧ mEq σ τ := by
  refine ⟨_, rfl, ?_, fun c k q => ?_, fun c k q => rfl⟩
  · show gi (si σ 61 21 1) 61 21 = 1
    rw [gi_si]; rfl
  · rw [gi_si, if_neg (by omega)]
/-! down and up -/
theorem jremL_toInt {x y : Int64} (h : ¬ (x.toInt = -9223372036854775808 ∧ y.toInt = -1)) : (jremL x y).toInt = x.toInt.tmod y.toInt := by
  have hx := qL_rng x
  have hy := qL_rng y
  have d := qL_div h
  unfold jremL
  have e : x.toInt.tdiv y.toInt * y.toInt + x.toInt.tmod y.toInt = x.toInt := Int.tdiv_mul_add_tmod ..
  have m1 : (x.toInt.tmod y.toInt).natAbs = x.toInt.natAbs % y.toInt.natAbs := Int.natAbs_tmod _ _
  have m2 : x.toInt.natAbs % y.toInt.natAbs ≤ x.toInt.natAbs := Nat.mod_le _ _
  have q1 : (x.toInt.tdiv y.toInt * y.toInt).natAbs ≤ x.toInt.natAbs := by
    rw [Int.natAbs_mul, Int.natAbs_tdiv]
    exact Nat.div_mul_le_self _ _
  have r2 : -9223372036854775808 ≤ x.toInt.tdiv y.toInt * y.toInt ∧ x.toInt.tdiv y.toInt * y.toInt < 9223372036854775808 := by
    rcases Int.le_total 0 x.toInt with hp | hp
    · exact ⟨by omega, by omega⟩
    · have : x.toInt.tmod y.toInt ≤ 0 := by
        have h2 := Int.tmod_nonneg y.toInt (show 0 ≤ -x.toInt by omega)
        rw [Int.neg_tmod] at h2
        omega
      exact ⟨by omega, by
        have : x.toInt.tdiv y.toInt * y.toInt = x.toInt - x.toInt.tmod y.toInt := by omega
        omega⟩
  have m : (x / y * y).toInt = x.toInt.tdiv y.toInt * y.toInt := by
    rw [qL_mul (by rw [d]; exact r2.1) (by rw [d]; exact r2.2), d]
  rw [qL_sub (by rw [m]; omega) (by rw [m]; omega), m]
  omega
