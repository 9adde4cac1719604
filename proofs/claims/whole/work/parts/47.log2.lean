theorem e2L : (2 : Int64).toInt = 2 := by decide
theorem m_hv {ups : Bool} {u : Int32} (hu : ups = true ↔ ¬ u = 0) {v : Int64} {V : Int} (hV : V = if ups then v.toInt else v.toInt - 1) : ∀ (n : Nat) (l g : Int64) (F : Nat), n < F → g.toInt - l.toInt < 2 ^ n → -14680064 ≤ l.toInt → g.toInt ≤ 7994000 → -14680065 ≤ g.toInt → l.toInt ≤ 7994001 → ∃ r : Int64, fX9_halved_L9 F v u l g = some r ∧ r.toInt = hv (eP ups V) n l.toInt g.toInt := by
  intro n
  induction n with
  | zero =>
    intro l g F hF hn h1 h2 h3 h4
    rw [Int.pow_zero] at hn
    obtain ⟨F, rfl⟩ : ∃ G, F = G + 1 := ⟨F - 1, by omega⟩
    show ∃ r, fX9_halved_9 _ v u l g = some r ∧ _
    unfold fX9_halved_9
    rw [if_pos (show g ≤ l by rw [qL_le]; omega)]
    exact ⟨l, rfl, by rw [hv]⟩
  | succ n ih =>
    intro l g F hF hn h1 h2 h3 h4
    rw [Int.pow_succ] at hn
    obtain ⟨F, rfl⟩ : ∃ G, F = G + 1 := ⟨F - 1, by omega⟩
    show ∃ r, fX9_halved_9 _ v u l g = some r ∧ _
    unfold fX9_halved_9
    by_cases h : l.toInt < g.toInt
    · rw [if_neg (show ¬ g ≤ l by rw [qL_le]; omega), hv_lt h]
      have a1 : (l + g).toInt = l.toInt + g.toInt := qL_add (by omega) (by omega)
      have a2 : (l + g + 1).toInt = l.toInt + g.toInt + 1 := by rw [qL_add (by rw [a1, q1L]; omega) (by rw [a1, q1L]; omega), a1, q1L]
      obtain ⟨p, p1, p2⟩ := m_down (x := l + g + 1) (y := 2) (by decide) (by omega)
      rw [e2L, dn_pos (by omega), a2] at p2
      obtain ⟨r, r1, r2⟩ := m_raised hu (p := p) (by omega)
      rw [p2] at r2
      have a4 : (p - 1).toInt = (l.toInt + g.toInt + 1) / 2 - 1 := by rw [qL_sub (by rw [p2, q1L]; omega) (by rw [p2, q1L]; omega), p2, q1L]
      have goL : ∃ t : Int64, fX9_halved_L9 F v u l (p - 1) = some t ∧ t.toInt = hv (eP ups V) n l.toInt ((l.toInt + g.toInt + 1) / 2 - 1) := by
        obtain ⟨t, t1, t2⟩ := ih l (p - 1) F (by omega) (by omega) h1 (by omega) (by omega) h4
        exact ⟨t, t1, by rw [t2, a4]⟩
      have goG : ∃ t : Int64, fX9_halved_L9 F v u p g = some t ∧ t.toInt = hv (eP ups V) n ((l.toInt + g.toInt + 1) / 2) g.toInt := by
        obtain ⟨t, t1, t2⟩ := ih p g F (by omega) (by omega) (by omega) h2 h3 (by omega)
        exact ⟨t, t1, by rw [t2, p2]⟩
      rw [p1, bd1_some]
      cases ups with
      | false =>
        have hu0 : u = 0 := Classical.byContradiction fun q => by have := hu.mpr q; cases this
        subst hu0
        rw [if_neg (by decide)] at hV
        rw [if_pos rfl, r1, bd1_some]
        by_cases hv0 : v ≤ r
        · rw [if_pos hv0]
          rw [qL_le, r2] at hv0
          rw [if_neg (by rw [eP, decide_eq_true_iff]; omega)]
          exact goL
        · rw [if_neg hv0]
          rw [qL_le, r2] at hv0
          rw [if_pos (by rw [eP, decide_eq_true_iff]; omega)]
          exact goG
      | true =>
        have u1 : ¬ u = 0 := hu.mp rfl
        rw [if_pos rfl] at hV
        obtain ⟨r', r1', r2'⟩ := m_raised hu1 (p := p) (by omega)
        rw [p2] at r2'
        rw [if_neg u1, r1', bd1_some]
        by_cases hv0 : v < r'
        · rw [if_pos hv0]
          rw [qL_lt, r2'] at hv0
          rw [if_neg (by rw [eP, decide_eq_true_iff]; omega)]
          exact goL
        · rw [if_neg hv0]
          rw [qL_lt, r2'] at hv0
          rw [if_pos (by rw [eP, decide_eq_true_iff]; omega)]
          exact goG
    · rw [if_pos (show g ≤ l by rw [qL_le]; omega), hv_ge h]
      exact ⟨l, rfl, rfl⟩
theorem m_halved {ups : Bool} {u : Int32} (hu : ups = true ↔ ¬ u = 0) {v : Int64} {V : Int} (hV : V = if ups then v.toInt else v.toInt - 1) : ∃ r : Int64, fX9_halved v u = some r ∧ r.toInt = hvR (eP ups V) := by
  obtain ⟨m, hm⟩ := zFU_ge 50 (by omega)
  rw [hvR_eq]
  exact m_hv hu hV 40 (-14680064) 7994000 zFU (by omega) (by decide) (by decide) (by decide) (by decide) (by decide)
noncomputable def lTop (m : Int) : Int := if m = 7994000 then 7995393 else m + 1
noncomputable def sLog : qSh → qSh
  | none => none
  | some q => if q.1 ≤ 0 then none else sOf (hvR (eP true q.1)) (lTop (hvR (eP false (q.2 - 1))))
theorem l_le {a b : Int} (h : a ≤ b) : hvR (eP true a) ≤ lTop (hvR (eP false (b - 1))) := by
  obtain ⟨h1, h2, h3, -⟩ := hvR_spec (eP true a)
  obtain ⟨k1, k2, -, k4⟩ := hvR_spec (eP false (b - 1))
  generalize hvR (eP true a) = l at *
  generalize hvR (eP false (b - 1)) = m at *
  unfold lTop
  split
  · omega
  · rcases k4 with k4 | k4
    · omega
    · by_cases hl : l ≤ m + 1
      · exact hl
      · rcases h3 with h3 | h3
        · omega
        · have h5 := eE_lt (p := m + 1) (q := l) (by omega) h2
          unfold eP at h3 k4
          rw [decide_eq_true_iff] at h3
          rw [decide_eq_false_iff_not] at k4
          omega
theorem x_log {f : Int64} {s : qSh} (hf : xS f s) : ∃ r, fX4_log f = some r ∧ xS r (sLog s) := by
  show ∃ r, fX4_log_0 f = some r ∧ _
  unfold fX4_log_0
  cases s with
  | none => exact ⟨_, if_pos hf, rfl⟩
  | some q =>
    obtain ⟨f0, f1, f2, f3, f4, f5⟩ := hf
    rw [if_neg f0]
    show ∃ r, _ = some r ∧ xS r (if q.1 ≤ 0 then none else sOf (hvR (eP true q.1)) (lTop (hvR (eP false (q.2 - 1)))))
    by_cases h : 0 < q.1
    · rw [if_pos (show (0 : Int64) < fX5_lowOf f by rw [qL_lt, q0L, f1]; exact h), if_neg (show ¬ q.1 ≤ 0 by omega)]
      have a1 : (fX5_highOf f - 1).toInt = q.2 - 1 := by rw [qL_sub (by rw [f2, q1L]; omega) (by rw [f2, q1L]; omega), f2, q1L]
      obtain ⟨m, m1, m2⟩ := x_halved hu0 (fX5_highOf f - 1)
      obtain ⟨l, l1, l2⟩ := x_halved hu1 (fX5_lowOf f)
      rw [a1] at m2
      rw [f1] at l2
      have hl := l_le f4
      have k := hvR_spec (eP false (q.2 - 1))
      rw [m1, bd1_some, l1, bd1_some]
      unfold lTop at hl ⊢
      by_cases hm : m = (7994000 : Int64)
      · rw [if_pos hm]
        rw [qL_eq, m2, e7994] at hm
        rw [if_pos hm] at hl ⊢
        refine ⟨_, rfl, ?_⟩
        have e93 : (7995393 : Int64).toInt = 7995393 := by decide
        have := x_of (x := l) (y := 7995393) (by rw [l2, e93]; omega)
        rw [l2, e93] at this
        exact this
      · rw [if_neg hm]
        rw [qL_eq, m2, e7994] at hm
        rw [if_neg hm] at hl ⊢
        refine ⟨_, rfl, ?_⟩
        have a2 : (m + 1).toInt = hvR (eP false (q.2 - 1)) + 1 := by rw [qL_add (by rw [m2, q1L]; omega) (by rw [m2, q1L]; omega), m2, q1L]
        have := x_of (x := l) (y := m + 1) (by rw [l2, a2]; omega)
        rw [l2, a2] at this
        exact this
    · rw [if_neg (show ¬ (0 : Int64) < fX5_lowOf f by rw [qL_lt, q0L, f1]; exact h), if_pos (show q.1 ≤ 0 by omega)]
      exact ⟨_, rfl, rfl⟩
