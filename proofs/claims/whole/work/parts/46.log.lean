/-! exp and log of SHUTS -/
noncomputable def sExp : qSh → qSh
  | none => none
  | some q => if 7994000 < q.2 then none else sOf (eE false q.1 : Nat) (eE true q.2 : Nat)
theorem hu0 : (false = true ↔ ¬ (0 : Int32) = 0) := by decide
theorem hu1 : (true = true ↔ ¬ (1 : Int32) = 0) := by decide
theorem e7994 : (7994000 : Int64).toInt = 7994000 := by decide
theorem x_exp {f : Int64} {s : qSh} (hf : xS f s) : ∃ r, fX4_exp f = some r ∧ xS r (sExp s) := by
  show ∃ r, fX4_exp_0 f = some r ∧ _
  unfold fX4_exp_0
  cases s with
  | none => exact ⟨_, if_pos hf, rfl⟩
  | some q =>
    obtain ⟨f0, f1, f2, f3, f4, f5⟩ := hf
    rw [if_neg f0]
    show ∃ r, _ = some r ∧ xS r (if 7994000 < q.2 then none else sOf (eE false q.1 : Nat) (eE true q.2 : Nat))
    by_cases h : q.2 ≤ 7994000
    · rw [if_pos (show fX5_highOf f ≤ (7994000 : Int64) by rw [qL_le, e7994, f2]; exact h), if_neg (by omega)]
      obtain ⟨a, a1, a2⟩ := x_raised hu0 (p := fX5_lowOf f) (by omega)
      obtain ⟨b, b1, b2⟩ := x_raised hu1 (p := fX5_highOf f) (by omega)
      rw [a1, bd1_some, b1, bd1_some]
      refine ⟨_, rfl, ?_⟩
      rw [f1] at a2
      rw [f2] at b2
      have hl := eE_lt f4 h
      have := x_of (x := a) (y := b) (by rw [a2, b2]; omega)
      rw [a2, b2] at this
      exact this
    · rw [if_neg (show ¬ fX5_highOf f ≤ (7994000 : Int64) by rw [qL_le, e7994, f2]; exact h), if_pos (by omega)]
      exact ⟨_, rfl, rfl⟩
theorem m_exp {a b : Int64} {σ : zSt} (hab : a.toInt ≤ b.toInt) : ∃ τ, fX9_exp a b σ = some τ ∧ mS τ (sExp (some (a.toInt, b.toInt))) ∧ mEq σ τ := by
  show ∃ τ, fX9_exp_0 a b σ = some τ ∧ mS τ (if 7994000 < b.toInt then none else sOf (eE false a.toInt : Nat) (eE true b.toInt : Nat)) ∧ _
  unfold fX9_exp_0
  by_cases h : b.toInt ≤ 7994000
  · rw [if_pos (show b ≤ (7994000 : Int64) by rw [qL_le, e7994]; exact h), if_neg (show ¬ 7994000 < b.toInt by omega)]
    obtain ⟨l, a1, a2⟩ := m_raised hu0 (p := a) (by omega)
    obtain ⟨m, b1, b2⟩ := m_raised hu1 (p := b) h
    rw [a1, bd1_some, b1, bd1_some]
    obtain ⟨τ, t1, t2, t3, -⟩ := m_is l m σ
    rw [a2, b2] at t2
    exact ⟨τ, by rw [t1]; rfl, t2, t3⟩
  · rw [if_neg (show ¬ b ≤ (7994000 : Int64) by rw [qL_le, e7994]; exact h), if_pos (show 7994000 < b.toInt by omega)]
    obtain ⟨τ, t1, t2, t3⟩ := m_isHole σ
    exact ⟨τ, by rw [t1]; rfl, t2, t3⟩
/-- HALVING -/
def hv (P : Int → Bool) : Nat → Int → Int → Int
  | 0, l, _ => l
  | n + 1, l, g => if l < g then (if P ((l + g + 1) / 2) then hv P n ((l + g + 1) / 2) g else hv P n l ((l + g + 1) / 2 - 1)) else l
theorem hv_lt {P : Int → Bool} {n : Nat} {l g : Int} (h : l < g) : hv P (n + 1) l g = if P ((l + g + 1) / 2) then hv P n ((l + g + 1) / 2) g else hv P n l ((l + g + 1) / 2 - 1) := by rw [hv, if_pos h]
theorem hv_ge {P : Int → Bool} {n : Nat} {l g : Int} (h : ¬ l < g) : hv P n l g = l := by
  cases n with
  | zero => rw [hv]
  | succ n => rw [hv, if_neg h]
theorem hv_spec {P : Int → Bool} {l0 g0 : Int} : ∀ (n : Nat) (l g : Int), l0 ≤ l → g ≤ g0 → l ≤ g → g - l < 2 ^ n → (l = l0 ∨ P l = true) → (g = g0 ∨ P (g + 1) = false) → l0 ≤ hv P n l g ∧ hv P n l g ≤ g0 ∧ (hv P n l g = l0 ∨ P (hv P n l g) = true) ∧ (hv P n l g = g0 ∨ P (hv P n l g + 1) = false) := by
  intro n
  induction n with
  | zero =>
    intro l g h1 h2 h3 h4 h5 h6
    rw [Int.pow_zero] at h4
    obtain rfl : l = g := by omega
    rw [hv]
    exact ⟨h1, h2, h5, h6⟩
  | succ n ih =>
    intro l g h1 h2 h3 h4 h5 h6
    rw [Int.pow_succ] at h4
    by_cases h : l < g
    · rw [hv_lt h]
      cases hP : P ((l + g + 1) / 2) with
      | true => rw [if_pos rfl]; exact ih _ _ (by omega) h2 (by omega) (by omega) (Or.inr hP) h6
      | false => rw [if_neg (by decide)]; exact ih _ _ h1 (by omega) (by omega) (by omega) h5 (Or.inr (by rw [Int.sub_add_cancel]; exact hP))
    · obtain rfl : l = g := by omega
      rw [hv_ge h]
      exact ⟨h1, h2, h5, h6⟩
theorem hvR_ex (P : Int → Bool) : ∃ r, r = hv P 40 (-14680064) 7994000 := ⟨_, rfl⟩
noncomputable def hvR (P : Int → Bool) : Int := Classical.choose (hvR_ex P)
theorem hvR_eq (P : Int → Bool) : hvR P = hv P 40 (-14680064) 7994000 := Classical.choose_spec (hvR_ex P)
theorem hvR_spec (P : Int → Bool) : -14680064 ≤ hvR P ∧ hvR P ≤ 7994000 ∧ (hvR P = -14680064 ∨ P (hvR P) = true) ∧ (hvR P = 7994000 ∨ P (hvR P + 1) = false) := by
  rw [hvR_eq]
  exact hv_spec 40 _ _ (by omega) (by omega) (by omega) (by decide) (Or.inl rfl) (Or.inl rfl)
noncomputable def eP (ups : Bool) (v p : Int) : Bool := decide ((eE ups p : Int) ≤ v)
theorem x_hv {ups : Bool} {u : Int32} (hu : ups = true ↔ ¬ u = 0) {v : Int64} : ∀ (n : Nat) (l g : Int64) (i : Int32) (F : Nat), n < F → n ≤ 40 → i.toInt = 40 - n → -14680064 ≤ l.toInt → g.toInt ≤ 7994000 → -14680065 ≤ g.toInt → l.toInt ≤ 7994001 → ∃ r : Int64, fX4_halved_L12 F v u l g i = some r ∧ r.toInt = hv (eP ups v.toInt) n l.toInt g.toInt := by
  intro n
  induction n with
  | zero =>
    intro l g i F hF hn hi h1 h2 h3 h4
    obtain ⟨F, rfl⟩ : ∃ G, F = G + 1 := ⟨F - 1, by omega⟩
    show ∃ r, fX4_halved_12 _ v u l g i = some r ∧ _
    unfold fX4_halved_12
    rw [if_pos (show (40 : Int32) ≤ i by rw [qI_le]; show 40 ≤ _; omega)]
    exact ⟨l, rfl, by rw [hv]⟩
  | succ n ih =>
    intro l g i F hF hn hi h1 h2 h3 h4
    obtain ⟨F, rfl⟩ : ∃ G, F = G + 1 := ⟨F - 1, by omega⟩
    show ∃ r, fX4_halved_12 _ v u l g i = some r ∧ _
    unfold fX4_halved_12
    rw [if_neg (show ¬ (40 : Int32) ≤ i by rw [qI_le]; show ¬ 40 ≤ _; omega)]
    by_cases h : l.toInt < g.toInt
    · rw [if_neg (show ¬ g ≤ l by rw [qL_le]; omega), hv_lt h]
      have a1 : (l + g).toInt = l.toInt + g.toInt := qL_add (by omega) (by omega)
      have a2 : (l + g + 1).toInt = l.toInt + g.toInt + 1 := by rw [qL_add (by rw [a1, q1L]; omega) (by rw [a1, q1L]; omega), a1, q1L]
      have a3 : (jshrL (l + g + 1) 1).toInt = (l.toInt + g.toInt + 1) / 2 := by rw [qL_sh1, a2]
      obtain ⟨r, r1, r2⟩ := x_raised hu (p := jshrL (l + g + 1) 1) (by omega)
      rw [a3] at r2
      have i1 : (i + 1).toInt = 40 - (n : Int) := by rw [qI_add (by rw [q1I]; omega) (by rw [q1I]; omega), q1I]; omega
      simp only [nm_eq, r1, bd1_some]
      by_cases hv0 : v < r
      · rw [if_pos hv0]
        rw [qL_lt, r2] at hv0
        rw [if_neg (by rw [eP, decide_eq_true_iff]; omega)]
        have a4 : (jshrL (l + g + 1) 1 - 1).toInt = (l.toInt + g.toInt + 1) / 2 - 1 := by rw [qL_sub (by rw [a3, q1L]; omega) (by rw [a3, q1L]; omega), a3, q1L]
        obtain ⟨t, t1, t2⟩ := ih l (jshrL (l + g + 1) 1 - 1) (i + 1) F (by omega) (by omega) i1 h1 (by omega) (by omega) h4
        exact ⟨t, t1, by rw [t2, a4]⟩
      · rw [if_neg hv0]
        rw [qL_lt, r2] at hv0
        rw [if_pos (by rw [eP, decide_eq_true_iff]; omega)]
        obtain ⟨t, t1, t2⟩ := ih (jshrL (l + g + 1) 1) g (i + 1) F (by omega) (by omega) i1 (by omega) h2 h3 (by omega)
        exact ⟨t, t1, by rw [t2, a3]⟩
    · rw [if_pos (show g ≤ l by rw [qL_le]; omega), hv_ge h]
      exact ⟨l, rfl, rfl⟩
theorem x_halved {ups : Bool} {u : Int32} (hu : ups = true ↔ ¬ u = 0) (v : Int64) : ∃ r : Int64, fX4_halved v u = some r ∧ r.toInt = hvR (eP ups v.toInt) := by
  obtain ⟨m, hm⟩ := zFU_ge 50 (by omega)
  rw [hvR_eq]
  exact x_hv hu 40 (-14680064) 7994000 0 zFU (by omega) (by omega) (by decide) (by decide) (by decide) (by decide) (by decide)
