theorem sOf_in {a b : Int} (h1 : -2147483648 ≤ a) (h2 : a ≤ b) (h3 : b ≤ 2147483647) : sOf a b = some (a, b) := by
  rw [sOf, if_pos (by omega)]
theorem x_size {f : Int64} {s : qSh} (hf : xS f s) : xS (fX5_size f) (sSize s) := by
  cases s with
  | none =>
    show xS (fX5_size_0 f) none
    unfold fX5_size_0
    rw [if_pos (show f = 4294967296 from hf)]
    exact hf
  | some q =>
    have ht := x_turned hf
    have hf0 := hf
    obtain ⟨f0, f1, f2, f3, f4, f5⟩ := hf
    show xS (fX5_size_0 f) (if 0 ≤ q.1 then sOf q.1 q.2 else if q.2 ≤ 0 then sOf (-q.2) (-q.1) else sOf 0 (max (-q.1) q.2))
    unfold fX5_size_0 nm
    rw [if_neg f0]
    by_cases h1 : fX5_lowOf f < (0 : Int64)
    · rw [if_pos h1]
      rw [qL_lt, q0L, f1] at h1
      rw [if_neg (show ¬ 0 ≤ q.1 by omega)]
      by_cases h2 : (0 : Int64) < fX5_highOf f
      · rw [if_pos h2]
        rw [qL_lt, q0L, f2] at h2
        rw [if_neg (show ¬ q.2 ≤ 0 by omega)]
        have n1 : (-(fX5_lowOf f)).toInt = -q.1 := by rw [qL_neg (by omega), f1]
        have m1 : (if fX5_highOf f < -fX5_lowOf f then -fX5_lowOf f else fX5_highOf f).toInt = max (-q.1) q.2 := by
          by_cases h3 : fX5_highOf f < -fX5_lowOf f
          · rw [if_pos h3, n1]; rw [qL_lt, n1, f2] at h3; omega
          · rw [if_neg h3, f2]; rw [qL_lt, n1, f2] at h3; omega
        exact (x_of (x := 0) (by rw [m1, q0L]; omega)).eq (by rw [m1, q0L])
      · rw [if_neg h2]
        rw [qL_lt, q0L, f2] at h2
        rw [if_pos (show q.2 ≤ 0 by omega)]
        exact ht
    · rw [if_neg h1]
      rw [qL_lt, q0L, f1] at h1
      rw [if_pos (show 0 ≤ q.1 by omega), sOf_in f3 f4 f5]
      exact hf0
theorem m_size {a b : Int64} {σ : zSt} (ha : -2147483648 ≤ a.toInt ∧ a.toInt ≤ b.toInt) (hb : b.toInt ≤ 2147483647) : ∃ τ, fX9_size_ a b σ = some τ ∧ mS τ (sSize (some (a.toInt, b.toInt))) ∧ mEq σ τ := by
  show ∃ τ, fX9_size__0 a b σ = some τ ∧ mS τ (if 0 ≤ a.toInt then sOf a.toInt b.toInt else if b.toInt ≤ 0 then sOf (-b.toInt) (-a.toInt) else sOf 0 (max (-a.toInt) b.toInt)) ∧ _
  have n1 : (-a).toInt = -a.toInt := qL_neg (by omega)
  have n2 : (-b).toInt = -b.toInt := qL_neg (by omega)
  unfold fX9_size__0
  by_cases h1 : a < (0 : Int64)
  · rw [if_pos h1]
    rw [qL_lt, q0L] at h1
    rw [if_neg (show ¬ 0 ≤ a.toInt by omega)]
    by_cases h2 : (0 : Int64) < b
    · rw [if_pos h2]
      rw [qL_lt, q0L] at h2
      rw [if_neg (show ¬ b.toInt ≤ 0 by omega)]
      obtain ⟨τ, t1, t2, t3, -⟩ := m_is 0 (fX9_more (-a) b) σ
      rw [m_more, n1, q0L] at t2
      exact ⟨τ, by simp only [t1, bd1], t2, t3⟩
    · rw [if_neg h2]
      rw [qL_lt, q0L] at h2
      rw [if_pos (show b.toInt ≤ 0 by omega)]
      obtain ⟨τ, t1, t2, t3, -⟩ := m_is (-b) (-a) σ
      rw [n1, n2] at t2
      exact ⟨τ, by simp only [t1, bd1], t2, t3⟩
  · rw [if_neg h1]
    rw [qL_lt, q0L] at h1
    rw [if_pos (show 0 ≤ a.toInt by omega)]
    obtain ⟨τ, t1, t2, t3, -⟩ := m_is a b σ
    exact ⟨τ, by simp only [t1, bd1], t2, t3⟩
theorem x_lesser {f g : Int64} {s t : qSh} (hf : xS f s) (hg : xS g t) : xS (fX5_lesser f g) (sLesser s t) := by
  refine x_two hf hg (fun h => by show fX5_lesser_0 f g = _; unfold fX5_lesser_0; rw [if_neg h]) (fun h q r e1 e2 => ?_) (fun u => by cases u <;> exact ⟨rfl, rfl⟩)
  subst e1; subst e2
  obtain ⟨-, f1, f2, f3, f4, f5⟩ := hf
  obtain ⟨-, g1, g2, g3, g4, g5⟩ := hg
  show xS (fX5_lesser_0 f g) _
  unfold fX5_lesser_0 nm
  rw [if_pos h]
  exact (x_of (by simp only [x_min, f1, f2, g1, g2]; omega)).eq (by simp only [x_min, f1, f2, g1, g2]; rfl)
theorem x_greater {f g : Int64} {s t : qSh} (hf : xS f s) (hg : xS g t) : xS (fX5_greater f g) (sGreater s t) := by
  refine x_two hf hg (fun h => by show fX5_greater_0 f g = _; unfold fX5_greater_0; rw [if_neg h]) (fun h q r e1 e2 => ?_) (fun u => by cases u <;> exact ⟨rfl, rfl⟩)
  subst e1; subst e2
  obtain ⟨-, f1, f2, f3, f4, f5⟩ := hf
  obtain ⟨-, g1, g2, g3, g4, g5⟩ := hg
  show xS (fX5_greater_0 f g) _
  unfold fX5_greater_0 nm
  rw [if_pos h]
  exact (x_of (by simp only [x_max, f1, f2, g1, g2]; omega)).eq (by simp only [x_max, f1, f2, g1, g2]; rfl)
theorem x_together {f g : Int64} {s t : qSh} (hf : xS f s) (hg : xS g t) : xS (fX5_together f g) (sTog s t) := by
  refine x_two hf hg (fun h => by show fX5_together_0 f g = _; unfold fX5_together_0; rw [if_neg h]) (fun h q r e1 e2 => ?_) (fun u => by cases u <;> exact ⟨rfl, rfl⟩)
  subst e1; subst e2
  obtain ⟨-, f1, f2, f3, f4, f5⟩ := hf
  obtain ⟨-, g1, g2, g3, g4, g5⟩ := hg
  show xS (fX5_together_0 f g) _
  unfold fX5_together_0 nm
  rw [if_pos h]
  exact (x_of (by simp only [x_min, x_max, f1, f2, g1, g2]; omega)).eq (by simp only [x_min, x_max, f1, f2, g1, g2]; rfl)
theorem x_apart {f g : Int64} {q r : Int × Int} (hf : xS f (some q)) (hg : xS g (some r)) : fX5_isApart f g = if q.2 ≤ r.1 then 1 else 0 := by
  show fX5_isApart_0 f g = _
  unfold fX5_isApart_0
  obtain ⟨-, f1, f2, -⟩ := hf
  obtain ⟨-, g1, g2, -⟩ := hg
  by_cases h : fX5_lowOf g < fX5_highOf f
  · rw [if_pos h]; rw [qL_lt, g1, f2] at h; rw [if_neg (by omega)]
  · rw [if_neg h]; rw [qL_lt, g1, f2] at h; rw [if_pos (by omega)]
/-! growing -/
def gr (ups : Bool) (s : Int) : Nat → Option Int
  | 0 => if 2147483648 < s then none else some s
  | k + 1 => match gr ups s k with
    | none => none
    | some m => if 2147483648 < (if ups then up (m * s) 1048576 else m * s / 1048576) then none else some (if ups then up (m * s) 1048576 else m * s / 1048576)
theorem gr_bd {ups : Bool} {s : Int} (hs : 0 ≤ s) : ∀ (k : Nat) {m : Int}, gr ups s k = some m → 0 ≤ m ∧ m ≤ 2147483648 := by
  intro k
  induction k with
  | zero =>
    intro m h
    rw [gr] at h
    split at h
    · cases h
    · cases h; omega
  | succ k ih =>
    intro m h
    rw [gr] at h
    cases hk : gr ups s k with
    | none => rw [hk] at h; cases h
    | some z =>
      rw [hk] at h
      dsimp only at h
      have hz := ih hk
      have hp : 0 ≤ z * s := Int.mul_nonneg hz.1 hs
      have hv0 : 0 ≤ (if ups then up (z * s) 1048576 else z * s / 1048576) := by
        split
        · rw [up_pos (by omega)]; omega
        · omega
      generalize (if ups then up (z * s) 1048576 else z * s / 1048576) = v at h hv0
      by_cases hc : 2147483648 < v
      · rw [if_pos hc] at h; cases h
      · rw [if_neg hc] at h; cases h; exact ⟨hv0, by omega⟩
theorem gr_none {ups : Bool} {s : Int} {k : Nat} (h : gr ups s k = none) : ∀ i, gr ups s (k + i) = none := by
  intro i
  induction i with
  | zero => exact h
  | succ i ih => rw [← Nat.add_assoc, gr, ih]
theorem zFU_ge (n : Nat) (h : n ≤ 2 ^ 40) : ∃ m, zFU = m + n := ⟨2 ^ 40 - n, by unfold zFU; omega⟩
theorem e31L : (2147483648 : Int64).toInt = 2147483648 := by decide
theorem e20L : (1048576 : Int64).toInt = 1048576 := by decide
theorem x_gdOver {s v2 v4 v6 : Int64} {F : Nat} (h : 2147483648 < v4.toInt) : fX5_grownDown_L6 (F + 1) s v2 v4 v6 = some 1099511627776 := by
  show fX5_grownDown_6 _ s v2 v4 v6 = _
  unfold fX5_grownDown_6
  have h1 : ¬ v4 ≤ (2147483648 : Int64) := by rw [qL_le, e31L]; omega
  have h2 : (2147483648 : Int64) < v4 := by rw [qL_lt, e31L]; omega
  rw [if_neg h1, if_pos h2]
  split <;> rfl
theorem x_gd {s v2 : Int64} (hs : 0 ≤ s.toInt ∧ s.toInt ≤ 2147483648) : ∀ (j k : Nat) (v4 v6 : Int64) (F : Nat), j < F → v2.toInt = k + 1 + j → v6.toInt = k + 1 → gr false s.toInt k = some v4.toInt → ∃ r, fX5_grownDown_L6 F s v2 v4 v6 = some r ∧ r.toInt = (gr false s.toInt (k + j)).getD 1099511627776 := by
  intro j
  induction j with
  | zero =>
    intro k v4 v6 F hF h2 h6 h4
    obtain ⟨F, rfl⟩ : ∃ G, F = G + 1 := ⟨F - 1, by omega⟩
    refine ⟨v4, ?_, by rw [Nat.add_zero, h4]; rfl⟩
    show fX5_grownDown_6 _ s v2 v4 v6 = _
    unfold fX5_grownDown_6
    have b := gr_bd hs.1 k h4
    rw [if_pos (qL_le.mpr (by omega)), if_pos (by rw [qL_le, e31L]; omega)]
  | succ j ih =>
    intro k v4 v6 F hF h2 h6 h4
    obtain ⟨F, rfl⟩ : ∃ G, F = G + 1 := ⟨F - 1, by omega⟩
    have b := gr_bd hs.1 k h4
    have hp := q_prod (a := v4.toInt) (c := s.toInt) (by omega) (by omega)
    have hm : 0 ≤ v4.toInt * s.toInt := Int.mul_nonneg b.1 hs.1
    have e0 := qL_prod (a := v4) (c := s) (by omega) (by omega)
    have rg := qL_rng v2
    have e : (jshrL (v4 * s) 20).toInt = v4.toInt * s.toInt / 1048576 := by rw [qL_sh20, e0]
    have e6 : (v6 + 1).toInt = ((k + 1 : Nat) : Int) + 1 := by rw [qL_add (by rw [q1L]; omega) (by rw [q1L]; omega), q1L, h6]; omega
    show ∃ r, fX5_grownDown_6 (fX5_grownDown_L6 F) s v2 v4 v6 = some r ∧ _
    unfold fX5_grownDown_6 nm
    rw [if_neg (show ¬ v2 ≤ v6 by rw [qL_le]; omega), if_neg (show ¬ (2147483648 : Int64) < v4 by rw [qL_lt, e31L]; omega)]
    dsimp only
    generalize jshrL (v4 * s) 20 = w at e ⊢
    have ek : k + (j + 1) = (k + 1) + j := by omega
    by_cases hov : 2147483648 < w.toInt
    · have hn : gr false s.toInt (k + 1) = none := by
        rw [gr, h4]
        dsimp only
        rw [if_pos (by first | (rw [if_neg (by decide), ← e]; exact hov) | (rw [if_pos rfl, ← e]; exact hov))]
      obtain ⟨F, rfl⟩ : ∃ G, F = G + 1 := ⟨F - 1, by omega⟩
      refine ⟨_, x_gdOver hov, ?_⟩
      rw [ek, gr_none hn j]
      decide
    · have hn : gr false s.toInt (k + 1) = some w.toInt := by
        rw [gr, h4]
        dsimp only
        first
        | rw [if_neg (show ¬ (false = true) by decide), ← e, if_neg hov]
        | rw [if_pos rfl, ← e, if_neg hov]
      rw [ek]
      exact ih (k + 1) w (v6 + 1) F (by omega) (by omega) (by rw [e6]) hn
theorem x_grownDown {s n : Int64} (hs : 0 ≤ s.toInt ∧ s.toInt ≤ 2147483648) {j : Nat} (hj : j ≤ 100) (hn : n.toInt = j + 1) : ∃ r, fX5_grownDown s n = some r ∧ r.toInt = (gr false s.toInt j).getD 1099511627776 := by
  obtain ⟨m, hm⟩ := zFU_ge (j + 1) (by omega)
  have h := x_gd (v2 := n) hs j 0 s 1 zFU (by omega) (by omega) (by rw [q1L]; omega) (by rw [gr, if_neg (by omega)])
  rw [Nat.zero_add] at h
  exact h
theorem x_guOver {s v2 v4 v6 : Int64} {F : Nat} (h : 2147483648 < v4.toInt) : fX5_grownUp_L6 (F + 1) s v2 v4 v6 = some 1099511627776 := by
  show fX5_grownUp_6 _ s v2 v4 v6 = _
  unfold fX5_grownUp_6
  have h1 : ¬ v4 ≤ (2147483648 : Int64) := by rw [qL_le, e31L]; omega
  have h2 : (2147483648 : Int64) < v4 := by rw [qL_lt, e31L]; omega
  rw [if_neg h1, if_pos h2]
  split <;> rfl
theorem x_gu {s v2 : Int64} (hs : 0 ≤ s.toInt ∧ s.toInt ≤ 2147483648) : ∀ (j k : Nat) (v4 v6 : Int64) (F : Nat), j < F → v2.toInt = k + 1 + j → v6.toInt = k + 1 → gr true s.toInt k = some v4.toInt → ∃ r, fX5_grownUp_L6 F s v2 v4 v6 = some r ∧ r.toInt = (gr true s.toInt (k + j)).getD 1099511627776 := by
  intro j
  induction j with
  | zero =>
    intro k v4 v6 F hF h2 h6 h4
    obtain ⟨F, rfl⟩ : ∃ G, F = G + 1 := ⟨F - 1, by omega⟩
    refine ⟨v4, ?_, by rw [Nat.add_zero, h4]; rfl⟩
    show fX5_grownUp_6 _ s v2 v4 v6 = _
    unfold fX5_grownUp_6
    have b := gr_bd hs.1 k h4
    rw [if_pos (qL_le.mpr (by omega)), if_pos (by rw [qL_le, e31L]; omega)]
  | succ j ih =>
    intro k v4 v6 F hF h2 h6 h4
    obtain ⟨F, rfl⟩ : ∃ G, F = G + 1 := ⟨F - 1, by omega⟩
    have b := gr_bd hs.1 k h4
    have hp := q_prod (a := v4.toInt) (c := s.toInt) (by omega) (by omega)
    have hm : 0 ≤ v4.toInt * s.toInt := Int.mul_nonneg b.1 hs.1
    have e0 := qL_prod (a := v4) (c := s) (by omega) (by omega)
    have rg := qL_rng v2
    have e : (jshrL (((v4 * s) + 1048576) - 1) 20).toInt = up (v4.toInt * s.toInt) 1048576 := by rw [qL_sh20, qL_sub (by rw [qL_add (by rw [e0, e20L]; omega) (by rw [e0, e20L]; omega), e0, e20L, q1L]; omega) (by rw [qL_add (by rw [e0, e20L]; omega) (by rw [e0, e20L]; omega), e0, e20L, q1L]; omega), qL_add (by rw [e0, e20L]; omega) (by rw [e0, e20L]; omega), e0, e20L, q1L, up_pos (by omega)]; omega
    have e6 : (v6 + 1).toInt = ((k + 1 : Nat) : Int) + 1 := by rw [qL_add (by rw [q1L]; omega) (by rw [q1L]; omega), q1L, h6]; omega
    show ∃ r, fX5_grownUp_6 (fX5_grownUp_L6 F) s v2 v4 v6 = some r ∧ _
    unfold fX5_grownUp_6 nm
    rw [if_neg (show ¬ v2 ≤ v6 by rw [qL_le]; omega), if_neg (show ¬ (2147483648 : Int64) < v4 by rw [qL_lt, e31L]; omega)]
    dsimp only
    generalize jshrL (((v4 * s) + 1048576) - 1) 20 = w at e ⊢
    have ek : k + (j + 1) = (k + 1) + j := by omega
    by_cases hov : 2147483648 < w.toInt
    · have hn : gr true s.toInt (k + 1) = none := by
        rw [gr, h4]
        dsimp only
        rw [if_pos (by first | (rw [if_neg (by decide), ← e]; exact hov) | (rw [if_pos rfl, ← e]; exact hov))]
      obtain ⟨F, rfl⟩ : ∃ G, F = G + 1 := ⟨F - 1, by omega⟩
      refine ⟨_, x_guOver hov, ?_⟩
      rw [ek, gr_none hn j]
      decide
    · have hn : gr true s.toInt (k + 1) = some w.toInt := by
        rw [gr, h4]
        dsimp only
        first
        | rw [if_neg (show ¬ (false = true) by decide), ← e, if_neg hov]
        | rw [if_pos rfl, ← e, if_neg hov]
      rw [ek]
      exact ih (k + 1) w (v6 + 1) F (by omega) (by omega) (by rw [e6]) hn
theorem x_grownUp {s n : Int64} (hs : 0 ≤ s.toInt ∧ s.toInt ≤ 2147483648) {j : Nat} (hj : j ≤ 100) (hn : n.toInt = j + 1) : ∃ r, fX5_grownUp s n = some r ∧ r.toInt = (gr true s.toInt j).getD 1099511627776 := by
  obtain ⟨m, hm⟩ := zFU_ge (j + 1) (by omega)
  have h := x_gu (v2 := n) hs j 0 s 1 zFU (by omega) (by omega) (by rw [q1L]; omega) (by rw [gr, if_neg (by omega)])
  rw [Nat.zero_add] at h
  exact h
