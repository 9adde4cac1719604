noncomputable def sRoot : qSh → qSh
  | none => none
  | some q => if q.1 < 0 then none else sOf (rt (q.1 * 1048576).toNat : Int) (if rt (q.2 * 1048576).toNat * rt (q.2 * 1048576).toNat = (q.2 * 1048576).toNat then (rt (q.2 * 1048576).toNat : Int) else (rt (q.2 * 1048576).toNat : Int) + 1)
theorem rt_sq {v : Nat} (hv : v < 2 ^ 54) : (Int64.ofNat (rt v) * Int64.ofNat (rt v)).toInt = (rt v * rt v : Nat) := by
  obtain ⟨h1, h2, h3⟩ := rt_ok hv
  have e : ((rt v : Nat) : Int) * ((rt v : Nat) : Int) = ((rt v * rt v : Nat) : Int) := (Int.natCast_mul _ _).symm
  rw [qL_mul (by rw [lNt (by omega)]; omega) (by rw [lNt (by omega)]; omega), lNt (by omega), e]
theorem rd_of {ρ : Int64} {v : Nat} (hv : v < 2 ^ 54) (e : ρ = Int64.ofNat (rt v)) : ∃ n : Nat, n = rt v ∧ ρ.toInt = n ∧ (ρ * ρ).toInt = (n * n : Nat) ∧ n * n ≤ v ∧ n < 134217728 := by
  obtain ⟨h1, -, h3⟩ := rt_ok hv
  refine ⟨rt v, rfl, ?_, ?_, h1, h3⟩
  · rw [e]; exact lNt (Nat.lt_trans h3 (by decide))
  · rw [e]; exact rt_sq hv
theorem x_rd {x : Int64} (h : 0 ≤ x.toInt ∧ x.toInt < 18014398509481984) : ∃ (ρ : Int64) (n : Nat), fX5_rootDown x = some ρ ∧ n = rt x.toInt.toNat ∧ ρ.toInt = n ∧ (ρ * ρ).toInt = (n * n : Nat) ∧ n * n ≤ x.toInt.toNat ∧ n < 134217728 := by
  obtain ⟨n, hn⟩ := rd_of (v := x.toInt.toNat) (by omega) rfl
  exact ⟨_, n, x_rootDown h, hn⟩
theorem m_rd {x : Int64} (h : 0 ≤ x.toInt ∧ x.toInt < 18014398509481984) : ∃ (ρ : Int64) (n : Nat), fX9_rootDown x = some ρ ∧ n = rt x.toInt.toNat ∧ ρ.toInt = n ∧ (ρ * ρ).toInt = (n * n : Nat) ∧ n * n ≤ x.toInt.toNat ∧ n < 134217728 := by
  obtain ⟨n, hn⟩ := rd_of (v := x.toInt.toNat) (by omega) rfl
  exact ⟨_, n, m_rootDown h, hn⟩
theorem x_root {f : Int64} {s : qSh} (hf : xS f s) : ∃ r, fX5_root f = some r ∧ xS r (sRoot s) := by
  cases s with
  | none =>
    refine ⟨_, ?_, hf⟩
    show fX5_root_0 f = some f
    unfold fX5_root_0
    rw [if_pos (show f = 4294967296 from hf), show f = 4294967296 from hf]
  | some q =>
  obtain ⟨f0, f1, f2, f3, f4, f5⟩ := hf
  show ∃ r, fX5_root_0 f = some r ∧ xS r (if q.1 < 0 then none else _)
  unfold fX5_root_0 nm
  rw [if_neg f0]
  by_cases h0 : (0 : Int64) ≤ fX5_lowOf f
  · rw [if_pos h0]
    rw [qL_le, q0L, f1] at h0
    rw [if_neg (show ¬ q.1 < 0 by omega)]
    have A := qL_shl20 (x := fX5_lowOf f) (by omega)
    have B := qL_shl20 (x := fX5_highOf f) (by omega)
    rw [f1] at A
    rw [f2] at B
    generalize jshlL (fX5_lowOf f) 20 = a at A ⊢
    generalize jshlL (fX5_highOf f) 20 = b at B ⊢
    dsimp only
    obtain ⟨ra, na, a1, a2, a3, -, -, a6⟩ := x_rd (x := a) (by omega)
    obtain ⟨rb, nb, b1, b2, b3, b4, b5, b6⟩ := x_rd (x := b) (by omega)
    rw [A] at a2
    rw [B] at b2 b5
    have mo := rt_mono (v := (q.1 * 1048576).toNat) (w := (q.2 * 1048576).toNat) (by omega) (by omega) (by omega)
    rw [← a2, ← b2] at mo
    rw [← a2, ← b2, a1, b1]
    dsimp only [bd1]
    generalize rb * rb = sq at b4 ⊢
    generalize nb * nb = nn at b4 b5 ⊢
    by_cases hs : b ≤ sq
    · rw [if_pos hs]
      rw [qL_le, B, b4] at hs
      rw [if_pos (show nn = (q.2 * 1048576).toNat by omega)]
      exact ⟨_, rfl, (x_of (by rw [a3, b3]; omega)).eq (by rw [a3, b3])⟩
    · rw [if_neg hs]
      rw [qL_le, B, b4] at hs
      rw [if_neg (show ¬ nn = (q.2 * 1048576).toNat by omega)]
      have l1 : (rb + 1).toInt = (nb : Int) + 1 := by rw [qL_add (by rw [b3, q1L]; omega) (by rw [b3, q1L]; omega), b3, q1L]
      exact ⟨_, rfl, (x_of (by rw [a3, l1]; omega)).eq (by rw [a3, l1])⟩
  · rw [if_neg h0]
    rw [qL_le, q0L, f1] at h0
    rw [if_pos (show q.1 < 0 by omega)]
    exact ⟨_, rfl, rfl⟩
theorem m_root {a b : Int64} {σ : zSt} (ha : -2147483648 ≤ a.toInt ∧ a.toInt ≤ b.toInt) (hb : b.toInt ≤ 2147483647) : ∃ τ, fX9_root a b σ = some τ ∧ mS τ (sRoot (some (a.toInt, b.toInt))) ∧ mEq σ τ := by
  show ∃ τ, fX9_root_0 a b σ = some τ ∧ mS τ (if a.toInt < 0 then none else _) ∧ _
  unfold fX9_root_0
  by_cases h0 : (0 : Int64) ≤ a
  · rw [if_pos h0]
    rw [qL_le, q0L] at h0
    rw [if_neg (show ¬ a.toInt < 0 by omega)]
    have A : (a * 1048576).toInt = a.toInt * 1048576 := by rw [qL_mul (by rw [e20L]; omega) (by rw [e20L]; omega), e20L]
    have B : (b * 1048576).toInt = b.toInt * 1048576 := by rw [qL_mul (by rw [e20L]; omega) (by rw [e20L]; omega), e20L]
    generalize a * 1048576 = c at A ⊢
    generalize b * 1048576 = d at B ⊢
    obtain ⟨ra, na, a1, a2, a3, -, -, a6⟩ := m_rd (x := c) (by omega)
    obtain ⟨rb, nb, b1, b2, b3, b4, b5, b6⟩ := m_rd (x := d) (by omega)
    rw [A] at a2
    rw [B] at b2 b5
    dsimp only
    rw [← a2, ← b2, a1, b1]
    dsimp only [bd1]
    generalize rb * rb = sq at b4 ⊢
    generalize nb * nb = nn at b4 b5 ⊢
    by_cases hs : sq = d
    · rw [if_pos hs]
      rw [qL_eq, B, b4] at hs
      obtain ⟨τ, t1, t2, t3, -⟩ := m_is ra rb σ
      rw [if_pos (show nn = (b.toInt * 1048576).toNat by omega)]
      rw [a3, b3] at t2
      exact ⟨τ, by simp only [t1], t2, t3⟩
    · rw [if_neg hs]
      rw [qL_eq, B, b4] at hs
      have l1 : (rb + 1).toInt = (nb : Int) + 1 := by rw [qL_add (by rw [b3, q1L]; omega) (by rw [b3, q1L]; omega), b3, q1L]
      obtain ⟨τ, t1, t2, t3, -⟩ := m_is ra (rb + 1) σ
      rw [if_neg (show ¬ nn = (b.toInt * 1048576).toNat by omega)]
      rw [a3, l1] at t2
      exact ⟨τ, by simp only [t1], t2, t3⟩
  · rw [if_neg h0]
    rw [qL_le, q0L] at h0
    rw [if_pos (show a.toInt < 0 by omega)]
    obtain ⟨τ, t1, t2, t3⟩ := m_isHole σ
    exact ⟨τ, by simp only [t1, bd1], t2, t3⟩
