theorem m_log {a b : Int64} {σ : zSt} : ∃ τ, fX9_log a b σ = some τ ∧ mS τ (sLog (some (a.toInt, b.toInt))) ∧ mEq σ τ := by
  show ∃ τ, fX9_log_0 a b σ = some τ ∧ mS τ (if a.toInt ≤ 0 then none else sOf (hvR (eP true a.toInt)) (lTop (hvR (eP false (b.toInt - 1))))) ∧ _
  unfold fX9_log_0
  by_cases h : 0 < a.toInt
  · rw [if_pos (show (0 : Int64) < a by rw [qL_lt, q0L]; exact h), if_neg (show ¬ a.toInt ≤ 0 by omega)]
    obtain ⟨l, l1, l2⟩ := m_halved hu1 (v := a) (V := a.toInt) (by rw [if_pos rfl])
    obtain ⟨m, m1, m2⟩ := m_halved hu0 (v := b) (V := b.toInt - 1) (by rw [if_neg (by decide)])
    have k := hvR_spec (eP false (b.toInt - 1))
    rw [l1, bd1_some, m1, bd1_some]
    unfold lTop
    by_cases hm : m = (7994000 : Int64)
    · rw [if_pos hm]
      rw [qL_eq, m2, e7994] at hm
      rw [if_pos hm]
      obtain ⟨τ, t1, t2, t3, -⟩ := m_is l 7995393 σ
      have e93 : (7995393 : Int64).toInt = 7995393 := by decide
      rw [l2, e93] at t2
      exact ⟨τ, by rw [t1]; rfl, t2, t3⟩
    · rw [if_neg hm]
      rw [qL_eq, m2, e7994] at hm
      rw [if_neg hm]
      have a2 : (m + 1).toInt = hvR (eP false (b.toInt - 1)) + 1 := by rw [qL_add (by rw [m2, q1L]; omega) (by rw [m2, q1L]; omega), m2, q1L]
      obtain ⟨τ, t1, t2, t3, -⟩ := m_is l (m + 1) σ
      rw [l2, a2] at t2
      exact ⟨τ, by rw [t1]; rfl, t2, t3⟩
  · rw [if_neg (show ¬ (0 : Int64) < a by rw [qL_lt, q0L]; exact h), if_pos (show a.toInt ≤ 0 by omega)]
    obtain ⟨τ, t1, t2, t3⟩ := m_isHole σ
    exact ⟨τ, by rw [t1]; rfl, t2, t3⟩
