theorem qI_add {x y : Int32} (h1 : -2147483648 ≤ x.toInt + y.toInt) (h2 : x.toInt + y.toInt < 2147483648) : (x + y).toInt = x.toInt + y.toInt := by
  rw [Int32.toInt_add, Int.bmod_eq_of_le (by omega) (by omega)]
theorem qI_sub {x y : Int32} (h1 : -2147483648 ≤ x.toInt - y.toInt) (h2 : x.toInt - y.toInt < 2147483648) : (x - y).toInt = x.toInt - y.toInt := by
  rw [Int32.toInt_sub, Int.bmod_eq_of_le (by omega) (by omega)]
theorem q1I : (1 : Int32).toInt = 1 := by decide
theorem q0I : (0 : Int32).toInt = 0 := by decide
theorem mEq_22 (σ : zSt) (v : Int32) : mEq σ (si σ 61 22 v) := ⟨fun c k h => by rw [gi_si, if_neg (by omega)], fun _ _ _ => rfl⟩
theorem gi_22 (σ : zSt) (v : Int32) : gi (si σ 61 22 v) 61 22 = v := by rw [gi_si]; rfl
/-- what the Model's size says: the number, or that it is over -/
def mG (σ : zSt) (r : Int64) (g : Option Int) : Prop := match g with
  | some v => r.toInt = v ∧ gi σ 61 22 = 0
  | none => gi σ 61 22 = 1
theorem m_szOver {s m : Int64} {n u i : Int32} {σ : zSt} {F : Nat} (h : gi σ 61 22 = 1) : fX9_size_L31 (F + 1) s n u m i σ = some (m, σ) := by
  show fX9_size_31 _ s n u m i σ = _
  unfold fX9_size_31
  split
  · rfl
  · rw [if_neg (by rw [h]; decide)]
theorem m_sz {s : Int64} {n u : Int32} {ups : Bool} (hu : ups = true ↔ ¬ u = 0) (hs : 0 ≤ s.toInt ∧ s.toInt ≤ 2147483648) : ∀ (j k : Nat) (m : Int64) (i : Int32) (σ : zSt) (F : Nat), j < F → n.toInt = k + 1 + j → i.toInt = k + 1 → gi σ 61 22 = 0 → gr ups s.toInt k = some m.toInt → ∃ r τ, fX9_size_L31 F s n u m i σ = some (r, τ) ∧ mEq σ τ ∧ mG τ r (gr ups s.toInt (k + j)) := by
  intro j
  induction j with
  | zero =>
    intro k m i σ F hF hn hi ho hg
    obtain ⟨F, rfl⟩ : ∃ G, F = G + 1 := ⟨F - 1, by omega⟩
    refine ⟨m, σ, ?_, mEq.rf, by rw [Nat.add_zero, hg]; exact ⟨rfl, ho⟩⟩
    show fX9_size_31 _ s n u m i σ = _
    unfold fX9_size_31
    rw [if_pos (qI_le.mpr (by omega))]
  | succ j ih =>
    intro k m i σ F hF hn hi ho hg
    obtain ⟨F, rfl⟩ : ∃ G, F = G + 1 := ⟨F - 1, by omega⟩
    have b := gr_bd hs.1 k hg
    have hp := q_prod (a := m.toInt) (c := s.toInt) (by omega) (by omega)
    have e0 := qL_prod (a := m) (c := s) (by omega) (by omega)
    have rg := qI_rng n
    have e6 : (i + 1).toInt = ((k + 1 : Nat) : Int) + 1 := by rw [qI_add (by rw [q1I]; omega) (by rw [q1I]; omega), q1I, hi]; omega
    have ek : k + (j + 1) = (k + 1) + j := by omega
    have key : ∀ w : Int64, w.toInt = (if ups then up (m.toInt * s.toInt) 1048576 else m.toInt * s.toInt / 1048576) → ∃ r τ, fX9_size_72 (fX9_size_L31 F) s n u i w σ = some (r, τ) ∧ mEq σ τ ∧ mG τ r (gr ups s.toInt (k + (j + 1))) := by
      intro w hw
      unfold fX9_size_72 nm
      by_cases hov : w ≤ (2147483648 : Int64)
      · rw [if_pos hov]
        rw [qL_le, e31L] at hov
        have hn2 : gr ups s.toInt (k + 1) = some w.toInt := by
          rw [gr, hg]
          dsimp only
          rw [← hw, if_neg (by omega)]
        obtain ⟨r, τ, h1, h2, h3⟩ := ih (k + 1) w (i + 1) (si σ 61 22 0) F (by omega) (by omega) (by rw [e6]) (gi_22 σ 0) hn2
        rw [ek]
        exact ⟨r, τ, h1, (mEq_22 σ 0).tr h2, h3⟩
      · rw [if_neg hov]
        rw [qL_le, e31L] at hov
        have hn2 : gr ups s.toInt (k + 1) = none := by
          rw [gr, hg]
          dsimp only
          rw [← hw, if_pos (by omega)]
        obtain ⟨F, rfl⟩ : ∃ G, F = G + 1 := ⟨F - 1, by omega⟩
        rw [ek, gr_none hn2 j]
        exact ⟨w, _, m_szOver (gi_22 σ 1), mEq_22 σ 1, gi_22 σ 1⟩
    show ∃ r τ, fX9_size_31 (fX9_size_L31 F) s n u m i σ = some (r, τ) ∧ _
    unfold fX9_size_31
    rw [if_neg (show ¬ n ≤ i by rw [qI_le]; omega), if_pos ho]
    by_cases hu0 : u = 0
    · rw [if_pos hu0]
      obtain ⟨w, h1, h2⟩ := m_down (x := m * s) (y := 1048576) (by rw [e20L]; omega) (by rw [e0]; exact hp)
      rw [e0, e20L, dn_pos (by omega)] at h2
      simp only [h1, bd1]
      refine key w ?_
      rw [if_neg (fun q => (hu.mp q) hu0), h2]
    · rw [if_neg hu0]
      obtain ⟨w, h1, h2⟩ := m_up (x := m * s) (y := 1048576) (by rw [e20L]; omega) (by rw [e0]; exact hp)
      rw [e0, e20L] at h2
      simp only [h1, bd1]
      refine key w ?_
      rw [if_pos (hu.mpr hu0), h2]
theorem m_sizeN {s : Int64} {n u : Int32} {ups : Bool} (hu : ups = true ↔ ¬ u = 0) (hs : 0 ≤ s.toInt ∧ s.toInt ≤ 2147483648) {j : Nat} (hj : j ≤ 100) (hn : n.toInt = j + 1) {σ : zSt} (ho : gi σ 61 22 = 0) : ∃ r τ, fX9_size s n u σ = some (r, τ) ∧ mEq σ τ ∧ mG τ r (gr ups s.toInt j) := by
  obtain ⟨m, hm⟩ := zFU_ge (j + 1) (by omega)
  have hg : gr ups s.toInt 0 = some s.toInt := by rw [gr, if_neg (by omega)]
  obtain ⟨r, τ, h1, h2, h3⟩ := m_sz (n := n) hu hs j 0 s 1 (si σ 61 22 0) zFU (by omega) (by omega) (by rw [q1I]; omega) (gi_22 σ 0) hg
  rw [Nat.zero_add] at h3
  refine ⟨r, τ, ?_, (mEq_22 σ 0).tr h2, h3⟩
  show fX9_size_0 s n u σ = _
  unfold fX9_size_0
  rw [if_pos ho, if_pos (by rw [qL_le, e31L]; omega)]
  exact h1
theorem m_sizeO {s : Int64} {n u : Int32} {σ : zSt} (ho : gi σ 61 22 = 1) : ∃ τ, fX9_size s n u σ = some (s, τ) ∧ mEq σ τ ∧ gi τ 61 22 = 1 := by
  obtain ⟨m, hm⟩ := zFU_ge 1 (by omega)
  refine ⟨si σ 61 22 1, ?_, mEq_22 σ 1, gi_22 σ 1⟩
  show fX9_size_0 s n u σ = _
  unfold fX9_size_0
  rw [if_neg (by rw [ho]; decide), hm]
  exact m_szOver (gi_22 σ 1)
/-! powers -/
def sEnds : Option Int → Option Int → qSh
  | some l, some h => sOf l h
  | _, _ => none
def sPow : qSh → Nat → qSh
  | none, _ => none
  | some q, j => if j % 2 = 0 then
      sEnds (if 0 ≤ q.1 then gr false q.1 j else (gr true (-q.1) j).map (fun z => -z)) (if 0 ≤ q.2 then gr true q.2 j else (gr false (-q.2) j).map (fun z => -z))
    else sEnds (gr false (if q.1 ≤ 0 ∧ 0 ≤ q.2 then 0 else min (q.1.natAbs : Int) (q.2.natAbs : Int)) j) (gr true (max (q.1.natAbs : Int) (q.2.natAbs : Int)) j)
theorem gr_mono {s t : Int} (hs : 0 ≤ s) (hst : s ≤ t) : ∀ (j : Nat) {x y : Int}, gr false s j = some x → gr true t j = some y → x ≤ y := by
  intro j
  induction j with
  | zero =>
    intro x y hx hy
    rw [gr] at hx hy
    split at hx
    · cases hx
    · split at hy
      · cases hy
      · cases hx; cases hy; exact hst
  | succ j ih =>
    intro x y hx hy
    rw [gr] at hx hy
    cases h1 : gr false s j with
    | none => rw [h1] at hx; cases hx
    | some a =>
    cases h2 : gr true t j with
    | none => rw [h2] at hy; cases hy
    | some b =>
      rw [h1] at hx
      rw [h2] at hy
      dsimp only at hx hy
      rw [if_neg (show ¬ (false = true) by decide)] at hx
      rw [if_pos (show true = true from rfl)] at hy
      have hab := ih h1 h2
      have ha := gr_bd hs j h1
      have hm : a * s ≤ b * t := Int.mul_le_mul hab hst hs (by omega)
      by_cases c1 : 2147483648 < a * s / 1048576
      · rw [if_pos c1] at hx; cases hx
      · rw [if_neg c1] at hx
        by_cases c2 : 2147483648 < up (b * t) 1048576
        · rw [if_pos c2] at hy; cases hy
        · rw [if_neg c2] at hy
          cases hx; cases hy
          rw [up_pos (by omega)]
          omega
theorem x_of_hole {x y : Int64} (h : x.toInt < -2147483648 ∨ 2147483647 < y.toInt ∨ y.toInt < x.toInt) : xS (fX5_of x y) none := by
  show fX5_of_0 x y = 4294967296
  unfold fX5_of_0
  have e1 : (-2147483648 : Int64).toInt = -2147483648 := by decide
  have e2 : (2147483647 : Int64).toInt = 2147483647 := by decide
  by_cases h1 : x < (-2147483648 : Int64)
  · rw [if_pos h1]
  rw [if_neg h1]
  rw [qL_lt, e1] at h1
  by_cases h2 : (2147483647 : Int64) < y
  · rw [if_pos h2]
  rw [if_neg h2]
  rw [qL_lt, e2] at h2
  rw [if_neg (by rw [qL_le]; omega)]
