theorem l_and20 (x : Int64) : (x &&& 1048575).toInt = x.toInt % 1048576 := by
  have h : (x &&& 1048575).toBitVec.toNat = x.toBitVec.toNat % 1048576 := by
    rw [Int64.toBitVec_and, BitVec.toNat_and, show (1048575 : Int64).toBitVec.toNat = 2 ^ 20 - 1 by decide, Nat.and_two_pow_sub_one_eq_mod]
  have h2 := qL_nat (x &&& 1048575)
  have h3 := qL_nat x
  have h4 : x.toBitVec.toNat < 2 ^ 64 := BitVec.isLt _
  rw [h] at h2
  split at h2 <;> split at h3 <;> omega
theorem eFin_t (φ : Nat) : eFin true φ = eS true φ 13 + 1 := by unfold eFin; rw [if_pos rfl]
theorem eFin_f (φ : Nat) : eFin false φ = eS false φ 13 := by unfold eFin; rw [if_neg (by decide), Nat.add_zero]
theorem eFin_ge (ups : Bool) (φ : Nat) : eS ups φ 13 ≤ eFin ups φ := by
  cases ups with
  | false => rw [eFin_f]; exact Nat.le_refl _
  | true => rw [eFin_t]; exact Nat.le_succ _
theorem eCneg (ups : Bool) : eC ups false ≤ 6171993 := by cases ups <;> decide
theorem eCpos (ups : Bool) : eC ups true ≤ 45605202 := by cases ups <;> decide
theorem eM_all {ups : Bool} {w : Int} {s0 : Nat} (h1 : -2048 ≤ w) (h2 : w < 8) (hs : s0 ≤ 45605300) : eC ups (decide (0 ≤ w)) ≤ 45605202 ∧ ∀ i, i ≤ w.natAbs → eM ups (eC ups (decide (0 ≤ w))) i s0 ≤ 80000000000 := by
  by_cases h : 0 ≤ w
  · rw [decide_eq_true h]
    refine ⟨eCpos ups, fun i hi => eM_bd (by omega) hs (eCpos ups)⟩
  · rw [decide_eq_false h]
    refine ⟨Nat.le_trans (eCneg ups) (by omega), fun i hi => Nat.le_trans (eM_small (eCneg ups) i hs) (by omega)⟩
theorem x_raisedIn {ups : Bool} {u : Int32} (hu : ups = true ↔ ¬ u = 0) {p : Int64} (h1 : -14680064 ≤ p.toInt) (h2 : p.toInt ≤ 7994000) : ∃ r : Int64, fX4_raised p u = some r ∧ r.toInt = ((eE ups p.toInt : Nat) : Int) := by
  have e0 : (-14680064 : Int64).toInt = -14680064 := by decide
  have eE24 : (16777216 : Int64).toInt = ((16777216 : Nat) : Int) := by decide
  show ∃ r, fX4_raised_0 p u = some r ∧ _
  unfold fX4_raised_0 eE
  rw [if_pos (show (-14680064 : Int64) ≤ p by rw [qL_le, e0]; exact h1), if_neg (show ¬ p.toInt < -14680064 by omega)]
  have hw : (jshrL p 20).toInt = p.toInt / 1048576 := qL_sh20 p
  have hr : ((p &&& 1048575) * 16).toInt = (((p.toInt % 1048576).toNat * 16 : Nat) : Int) := by
    refine l_mulN (m := 16) ?_ (by decide) (by omega)
    rw [l_and20]; omega
  generalize hφ : (p.toInt % 1048576).toNat * 16 = φ at *
  have bφ : φ ≤ 16777215 := by omega
  generalize hW : p.toInt / 1048576 = w at *
  have w1 : -2048 ≤ w := by omega
  have w2 : w < 8 := by omega
  have hS0 := l_addN eE24 hr (by omega)
  have hS0' : ((16777216 : Int64) + (p &&& 1048575) * 16).toInt = ((eS ups φ 0 : Nat) : Int) := by rw [eS]; exact hS0
  have hT0 : ((p &&& 1048575) * 16).toInt = ((eT ups φ 0 : Nat) : Int) := by rw [eT]; exact hr
  obtain ⟨m, hm⟩ := zFU_ge 14 (by omega)
  have e2I : (2 : Int32).toInt = ((0 : Nat) : Int) + 2 := by decide
  have key : ∀ sp : Int64, sp.toInt = ((spare ups : Nat) : Int) → ∃ r : Int64, fX4_raised_L62 zFU u (jshrL p 20) ((p &&& 1048575) * 16) sp ((p &&& 1048575) * 16) ((16777216 : Int64) + (p &&& 1048575) * 16) 2 = some r ∧ r.toInt = ((eDiv ups (eM ups (eC ups (decide (0 ≤ w))) w.natAbs (eFin ups φ)) 16 : Nat) : Int) := by
    intro sp hs
    obtain ⟨s', e1, e2⟩ := x_r62 hu hr bφ hs 13 0 _ _ 2 zFU (by omega) e2I (by omega) hT0 hS0' (whole := jshrL p 20)
    rw [e2]
    have bF := eFin_bd (ups := ups) bφ
    obtain ⟨bC, bM⟩ := eM_all (ups := ups) (s0 := eFin ups φ) w1 w2 bF
    obtain ⟨m2, hm2⟩ := zFU_ge 3000 (by omega)
    have fin : ∀ (s2 c v15 : Int64), s2.toInt = ((eFin ups φ : Nat) : Int) → c.toInt = ((eC ups (decide (0 ≤ w)) : Nat) : Int) → v15.toInt = ((w.natAbs : Nat) : Int) → ∃ r : Int64, fX4_raised_L168 zFU u sp s2 c v15 0 = some r ∧ r.toInt = ((eDiv ups (eM ups (eC ups (decide (0 ≤ w))) w.natAbs (eFin ups φ)) 16 : Nat) : Int) := by
      intro s2 c v15 q1 q2 q3
      exact x_r168 hu q2 bC hs q3 bM w.natAbs 0 s2 0 zFU (by omega) (by omega) q0L (by rw [eM]; exact q1)
    have f151 : ∀ (s2 c : Int64), s2.toInt = ((eFin ups φ : Nat) : Int) → c.toInt = ((eC ups (decide (0 ≤ w)) : Nat) : Int) → ∃ r : Int64, fX4_raised_151 u (jshrL p 20) sp s2 c = some r ∧ r.toInt = ((eDiv ups (eM ups (eC ups (decide (0 ≤ w))) w.natAbs (eFin ups φ)) 16 : Nat) : Int) := by
      intro s2 c q1 q2
      unfold fX4_raised_151
      simp only [nm_eq]
      by_cases hp : 0 ≤ w
      · rw [if_pos (show (0 : Int64) ≤ jshrL p 20 by rw [qL_le, q0L, hw]; exact hp)]
        exact fin s2 c _ q1 q2 (by rw [hw]; omega)
      · rw [if_neg (show ¬ (0 : Int64) ≤ jshrL p 20 by rw [qL_le, q0L, hw]; exact hp)]
        refine fin s2 c _ q1 q2 ?_
        rw [qL_neg (by rw [hw]; omega), hw]; omega
    have eq1 : (s' + 1).toInt = s'.toInt + 1 := by
      have : eS ups φ 13 ≤ 45605300 := Nat.le_trans (eFin_ge ups φ) bF
      rw [qL_add (by rw [e1, q1L]; omega) (by rw [e1, q1L]; omega), q1L]
    unfold xTail
    simp only [nm_eq]
    by_cases hp : 0 ≤ w
    · rw [if_pos (show (0 : Int64) ≤ jshrL p 20 by rw [qL_le, q0L, hw]; exact hp)]
      cases ups with
      | false =>
        have hu0 : u = 0 := Classical.byContradiction fun q => by have := hu.mpr q; cases this
        rw [if_pos hu0]
        refine f151 s' _ (by rw [e1, eFin_f]) (by rw [decide_eq_true hp]; decide)
      | true =>
        rw [if_neg (hu.mp rfl)]
        refine f151 (s' + 1) _ (by rw [eq1, e1, eFin_t]; exact (Int.natCast_succ _).symm) (by rw [decide_eq_true hp]; decide)
    · rw [if_neg (show ¬ (0 : Int64) ≤ jshrL p 20 by rw [qL_le, q0L, hw]; exact hp)]
      cases ups with
      | false =>
        have hu0 : u = 0 := Classical.byContradiction fun q => by have := hu.mpr q; cases this
        rw [if_pos hu0]
        refine f151 s' _ (by rw [e1, eFin_f]) (by rw [decide_eq_false hp]; decide)
      | true =>
        rw [if_neg (hu.mp rfl)]
        refine f151 (s' + 1) _ (by rw [eq1, e1, eFin_t]; exact (Int.natCast_succ _).symm) (by rw [decide_eq_false hp]; decide)
  cases ups with
  | false =>
    have hu0 : u = 0 := Classical.byContradiction fun q => by have := hu.mpr q; cases this
    have h := key 0 (by decide)
    simp only [nm_eq]
    rw [if_pos hu0]
    exact h
  | true =>
    have h := key 16777215 (by decide)
    simp only [nm_eq]
    rw [if_neg (hu.mp rfl)]
    exact h
theorem x_raised {ups : Bool} {u : Int32} (hu : ups = true ↔ ¬ u = 0) {p : Int64} (h2 : p.toInt ≤ 7994000) : ∃ r : Int64, fX4_raised p u = some r ∧ r.toInt = ((eE ups p.toInt : Nat) : Int) := by
  by_cases h1 : -14680064 ≤ p.toInt
  · exact x_raisedIn hu h1 h2
  · have e0 : (-14680064 : Int64).toInt = -14680064 := by decide
    show ∃ r, fX4_raised_0 p u = some r ∧ _
    unfold fX4_raised_0 eE
    rw [if_neg (show ¬ (-14680064 : Int64) ≤ p by rw [qL_le, e0]; exact h1), if_pos (show p.toInt < -14680064 by omega)]
    cases ups with
    | false =>
      have hu0 : u = 0 := Classical.byContradiction fun q => by have := hu.mpr q; cases this
      rw [if_pos hu0]; exact ⟨_, rfl, by decide⟩
    | true => rw [if_neg (hu.mp rfl)]; exact ⟨_, rfl, by decide⟩
