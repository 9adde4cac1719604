theorem x_noz {f : Int64} {q : Int × Int} (h : xS f (some q)) : (fX5_hasNoZero f = 0 ↔ (q.1 ≤ 0 ∧ 0 ≤ q.2)) ∧ (¬ fX5_hasNoZero f = 0 → fX5_hasNoZero f = 1) := by
  obtain ⟨f0, f1, f2, f3, f4, f5⟩ := h
  have e : fX5_hasNoZero f = (if (0 : Int64) < fX5_lowOf f then (1 : Int32) else if (0 : Int64) ≤ fX5_highOf f then 0 else 1) := by
    show fX5_hasNoZero_0 f = _
    unfold fX5_hasNoZero_0
    rw [if_neg f0]
  rw [e]
  by_cases h1 : (0 : Int64) < fX5_lowOf f
  · rw [if_pos h1]
    rw [qL_lt, q0L, f1] at h1
    exact ⟨⟨fun h => absurd h (by decide), fun h => by omega⟩, fun _ => rfl⟩
  · rw [if_neg h1]
    rw [qL_lt, q0L, f1] at h1
    by_cases h2 : (0 : Int64) ≤ fX5_highOf f
    · rw [if_pos h2]
      rw [qL_le, q0L, f2] at h2
      exact ⟨⟨fun _ => ⟨by omega, h2⟩, fun _ => rfl⟩, fun h => absurd rfl h⟩
    · rw [if_neg h2]
      rw [qL_le, q0L, f2] at h2
      exact ⟨⟨fun h => absurd h (by decide), fun h => by omega⟩, fun _ => rfl⟩
theorem q_sm {x : Int} (h : -2147483648 ≤ x ∧ x ≤ 2147483648) : -4611686018427387904 ≤ x * 1048576 ∧ x * 1048576 ≤ 4611686018427387904 := by omega
theorem x_over {f g : Int64} {s t : qSh} (hf : xS f s) (hg : xS g t) : ∃ r, fX5_over f g = some r ∧ xS r (sOver s t) := by
  cases s with
  | none =>
    refine ⟨4294967296, ?_, rfl⟩
    show fX5_over_0 f g = _
    unfold fX5_over_0
    rw [if_neg (x_none (Or.inl hf))]
  | some q =>
  cases t with
  | none =>
    refine ⟨4294967296, ?_, rfl⟩
    show fX5_over_0 f g = _
    unfold fX5_over_0
    rw [if_neg (x_none (Or.inr hg))]
  | some r =>
  have hn := x_noz hg
  have h0 := x_some hf.1 hg.1
  obtain ⟨-, f1, f2, f3, f4, f5⟩ := hf
  obtain ⟨-, g1, g2, g3, g4, g5⟩ := hg
  show ∃ z, fX5_over_0 f g = some z ∧ xS z (if r.1 ≤ 0 ∧ 0 ≤ r.2 then none else _)
  unfold fX5_over_0 nm
  rw [if_pos h0]
  by_cases hz : fX5_hasNoZero g = 0
  · rw [if_pos hz, if_pos (hn.1.mp hz)]
    exact ⟨_, rfl, rfl⟩
  rw [if_neg hz, if_neg (fun q => hz (hn.1.mpr q))]
  have hz2 : ¬ (r.1 ≤ 0 ∧ 0 ≤ r.2) := fun q => hz (hn.1.mpr q)
  have A := qL_shl20 (x := fX5_lowOf f) (by omega)
  have B := qL_shl20 (x := fX5_highOf f) (by omega)
  rw [f1] at A
  rw [f2] at B
  generalize jshlL (fX5_lowOf f) 20 = a at A ⊢
  generalize jshlL (fX5_highOf f) 20 = b at B ⊢
  generalize fX5_lowOf g = c at g1 ⊢
  generalize fX5_highOf g = d at g2 ⊢
  dsimp only
  have c0 : ¬ c = 0 := fun e => by rw [e, q0L] at g1; omega
  have d0 : ¬ d = 0 := fun e => by rw [e, q0L] at g2; omega
  rw [if_neg c0, if_neg d0]
  have bA := q_sm (x := q.1) (by omega)
  have bB := q_sm (x := q.2) (by omega)
  have nA : (-a).toInt = -(q.1 * 1048576) := by rw [qL_neg (by omega), A]
  have nB : (-b).toInt = -(q.2 * 1048576) := by rw [qL_neg (by omega), B]
  have C0 : r.1 ≠ 0 := by omega
  have D0 : r.2 ≠ 0 := by omega
  obtain ⟨r1, h1, e1⟩ := x_fdiv (x := a) (y := c) (by rw [g1]; exact C0) (by rw [A]; exact bA)
  obtain ⟨r2, h2, e2⟩ := x_fdiv (x := a) (y := d) (by rw [g2]; exact D0) (by rw [A]; exact bA)
  obtain ⟨r3, h3, e3⟩ := x_fdiv (x := b) (y := c) (by rw [g1]; exact C0) (by rw [B]; exact bB)
  obtain ⟨r4, h4, e4⟩ := x_fdiv (x := b) (y := d) (by rw [g2]; exact D0) (by rw [B]; exact bB)
  obtain ⟨u1, k1, v1⟩ := x_fdiv (x := -a) (y := c) (by rw [g1]; exact C0) (by rw [nA]; omega)
  obtain ⟨u2, k2, v2⟩ := x_fdiv (x := -a) (y := d) (by rw [g2]; exact D0) (by rw [nA]; omega)
  obtain ⟨u3, k3, v3⟩ := x_fdiv (x := -b) (y := c) (by rw [g1]; exact C0) (by rw [nB]; omega)
  obtain ⟨u4, k4, v4⟩ := x_fdiv (x := -b) (y := d) (by rw [g2]; exact D0) (by rw [nB]; omega)
  rw [A, g1] at e1
  rw [A, g2] at e2
  rw [B, g1] at e3
  rw [B, g2] at e4
  rw [nA, g1] at v1
  rw [nA, g2] at v2
  rw [nB, g1] at v3
  rw [nB, g2] at v4
  simp only [h1, h2, h3, h4, k1, k2, k3, k4, bd1]
  refine ⟨_, rfl, ?_⟩
  have m1 : (if (if r4 < r3 then r4 else r3) < (if r2 < r1 then r2 else r1) then (if r4 < r3 then r4 else r3) else (if r2 < r1 then r2 else r1)).toInt = min4 (dn (q.1 * 1048576) r.1) (dn (q.1 * 1048576) r.2) (dn (q.2 * 1048576) r.1) (dn (q.2 * 1048576) r.2) := by
    simp only [x_min, e1, e2, e3, e4, min4]
  have m2 : (if (if u4 < u3 then u4 else u3) < (if u2 < u1 then u2 else u1) then (if u4 < u3 then u4 else u3) else (if u2 < u1 then u2 else u1)).toInt = min4 (dn (-(q.1 * 1048576)) r.1) (dn (-(q.1 * 1048576)) r.2) (dn (-(q.2 * 1048576)) r.1) (dn (-(q.2 * 1048576)) r.2) := by
    simp only [x_min, v1, v2, v3, v4, min4]
  have w1 := dn_bd (-(q.1 * 1048576)) C0
  have w2 := dn_bd (-(q.1 * 1048576)) D0
  have w3 := dn_bd (-(q.2 * 1048576)) C0
  have w4 := dn_bd (-(q.2 * 1048576)) D0
  have m3 : (-(if (if u4 < u3 then u4 else u3) < (if u2 < u1 then u2 else u1) then (if u4 < u3 then u4 else u3) else (if u2 < u1 then u2 else u1))).toInt = max4 (up (q.1 * 1048576) r.1) (up (q.1 * 1048576) r.2) (up (q.2 * 1048576) r.1) (up (q.2 * 1048576) r.2) := by
    rw [qL_neg (by rw [m2]; unfold min4; omega), m2]
    unfold min4 max4 up
    omega
  have z1 := dn_le_up (q.1 * 1048576) C0
  refine (x_of ?_).eq ?_
  · rw [m1, m3]
    unfold min4 max4
    omega
  · rw [m1, m3]
theorem m_by {a b c d : Int64} {σ : zSt} (ha : -2147483648 ≤ a.toInt ∧ a.toInt ≤ 2147483647) (hb : -2147483648 ≤ b.toInt ∧ b.toInt ≤ 2147483647) (hcd : c.toInt ≤ d.toInt) : ∃ τ, fX9_by a b c d σ = some τ ∧ mS τ (sOver (some (a.toInt, b.toInt)) (some (c.toInt, d.toInt))) ∧ mEq σ τ := by
  show ∃ τ, fX9_by_0 a b c d σ = some τ ∧ mS τ (if c.toInt ≤ 0 ∧ 0 ≤ d.toInt then none else _) ∧ _
  have core : ¬ (c.toInt ≤ 0 ∧ 0 ≤ d.toInt) → c.toInt ≠ 0 ∧ d.toInt ≠ 0 → ∃ τ, fX9_by_19 a b c d σ = some τ ∧ mS τ (sOf (min4 (dn (a.toInt * 1048576) c.toInt) (dn (a.toInt * 1048576) d.toInt) (dn (b.toInt * 1048576) c.toInt) (dn (b.toInt * 1048576) d.toInt)) (max4 (up (a.toInt * 1048576) c.toInt) (up (a.toInt * 1048576) d.toInt) (up (b.toInt * 1048576) c.toInt) (up (b.toInt * 1048576) d.toInt))) ∧ mEq σ τ := by
    intro hz ⟨C0, D0⟩
    have e20 : (1048576 : Int64).toInt = 1048576 := by decide
    have A : (a * 1048576).toInt = a.toInt * 1048576 := by rw [qL_mul (by rw [e20]; omega) (by rw [e20]; omega), e20]
    have B : (b * 1048576).toInt = b.toInt * 1048576 := by rw [qL_mul (by rw [e20]; omega) (by rw [e20]; omega), e20]
    have bA := q_sm (x := a.toInt) (by omega)
    have bB := q_sm (x := b.toInt) (by omega)
    obtain ⟨r1, h1, e1⟩ := m_down (x := a * 1048576) (y := c) C0 (by rw [A]; exact bA)
    obtain ⟨r2, h2, e2⟩ := m_down (x := a * 1048576) (y := d) D0 (by rw [A]; exact bA)
    obtain ⟨r3, h3, e3⟩ := m_down (x := b * 1048576) (y := c) C0 (by rw [B]; exact bB)
    obtain ⟨r4, h4, e4⟩ := m_down (x := b * 1048576) (y := d) D0 (by rw [B]; exact bB)
    obtain ⟨u1, k1, v1⟩ := m_up (x := a * 1048576) (y := c) C0 (by rw [A]; exact bA)
    obtain ⟨u2, k2, v2⟩ := m_up (x := a * 1048576) (y := d) D0 (by rw [A]; exact bA)
    obtain ⟨u3, k3, v3⟩ := m_up (x := b * 1048576) (y := c) C0 (by rw [B]; exact bB)
    obtain ⟨u4, k4, v4⟩ := m_up (x := b * 1048576) (y := d) D0 (by rw [B]; exact bB)
    rw [A] at e1 e2 v1 v2
    rw [B] at e3 e4 v3 v4
    obtain ⟨τ, t1, t2, t3, -⟩ := m_is (fX9_less (fX9_less r1 r2) (fX9_less r3 r4)) (fX9_more (fX9_more u1 u2) (fX9_more u3 u4)) σ
    refine ⟨τ, ?_, ?_, t3⟩
    · simp only [fX9_by_19, nm, h1, h2, h3, h4, k1, k2, k3, k4, t1, bd1]
    · simp only [m_less, m_more, e1, e2, e3, e4, v1, v2, v3, v4] at t2
      exact t2
  unfold fX9_by_0
  by_cases h1 : (0 : Int64) < c
  · rw [if_pos h1]
    rw [qL_lt, q0L] at h1
    rw [if_neg (by omega)]
    exact core (by omega) ⟨by omega, by omega⟩
  · rw [if_neg h1]
    rw [qL_lt, q0L] at h1
    by_cases h2 : d < (0 : Int64)
    · rw [if_pos h2]
      rw [qL_lt, q0L] at h2
      rw [if_neg (by omega)]
      exact core (by omega) ⟨by omega, by omega⟩
    · rw [if_neg h2]
      rw [qL_lt, q0L] at h2
      rw [if_pos (by omega)]
      obtain ⟨τ, t1, t2, t3⟩ := m_isHole σ
      exact ⟨τ, by simp only [t1, bd1], t2, t3⟩
