theorem m_p150 {ups : Bool} {u : Int32} (hu : ups = true ↔ ¬ u = 0) {T s0 : Nat} (hT : T ≤ 4000) (hb : ∀ i, i ≤ T → eM ups (eC ups false) i s0 ≤ 80000000000) : ∀ (j i : Nat) (v3 v7 : Int64) (F : Nat), j < F → i + j = T → v3.toInt = -((j : Nat) : Int) → v7.toInt = ((eM ups (eC ups false) i s0 : Nat) : Int) → ∃ r : Int64, fX9_power___L150 F u v3 v7 = some r ∧ r.toInt = ((eDiv ups (eM ups (eC ups false) T s0) 16 : Nat) : Int) := by
  intro j
  induction j with
  | zero =>
    intro i v3 v7 F hF hi h3 h7
    obtain ⟨F, rfl⟩ : ∃ G, F = G + 1 := ⟨F - 1, by omega⟩
    obtain rfl : i = T := by omega
    have b := hb i (by omega)
    show ∃ r, fX9_power___150 _ u v3 v7 = some r ∧ _
    unfold fX9_power___150
    rw [if_pos (show (0 : Int64) ≤ v3 by rw [qL_le, q0L]; omega)]
    obtain ⟨r, e1, e2⟩ := m_cut hu h7 e16L (by omega) (by omega)
    exact ⟨r, by rw [e1]; rfl, e2⟩
  | succ j ih =>
    intro i v3 v7 F hF hi h3 h7
    obtain ⟨F, rfl⟩ : ∃ G, F = G + 1 := ⟨F - 1, by omega⟩
    have b := hb i (by omega)
    have n1 : (v3 + 1).toInt = -((j : Nat) : Int) := by
      rw [qL_add (by rw [h3, q1L]; omega) (by rw [h3, q1L]; omega), h3, q1L]; omega
    have step : ∀ c : Int64, c.toInt = ((eC ups false : Nat) : Int) → ∃ r : Int64, fX9_cut (v7 * c) 16777216 u = some r ∧ ∃ r2 : Int64, fX9_power___L150 F u (v3 + 1) r = some r2 ∧ r2.toInt = ((eDiv ups (eM ups (eC ups false) T s0) 16 : Nat) : Int) := by
      intro c hc
      have bc := eCneg ups
      have hp : eM ups (eC ups false) i s0 * eC ups false ≤ 80000000000 * 6171993 := Nat.mul_le_mul b bc
      obtain ⟨r, e1, e2⟩ := m_cut (k := 16777216) (m := 16777216) hu (l_mulN h7 hc (by omega)) (by decide) (by omega) (by omega)
      rw [← eM_step] at e2
      exact ⟨r, e1, ih (i + 1) (v3 + 1) r F (by omega) (by omega) n1 e2⟩
    show ∃ r, fX9_power___150 _ u v3 v7 = some r ∧ _
    unfold fX9_power___150
    rw [if_neg (show ¬ (0 : Int64) ≤ v3 by rw [qL_le, q0L]; omega)]
    cases ups with
    | false =>
      have hu0 : u = 0 := Classical.byContradiction fun q => by have := hu.mpr q; cases this
      obtain ⟨r, e1, r2, e2, e3⟩ := step 6171992 (by decide)
      rw [if_pos hu0, e1]
      exact ⟨r2, e2, e3⟩
    | true =>
      obtain ⟨r, e1, r2, e2, e3⟩ := step 6171993 (by decide)
      rw [if_neg (hu.mp rfl), e1]
      exact ⟨r2, e2, e3⟩
theorem m_p112 {ups : Bool} {u : Int32} (hu : ups = true ↔ ¬ u = 0) {T s0 : Nat} (hT : T ≤ 4000) (hb : ∀ i, i ≤ T → eM ups (eC ups true) i s0 ≤ 80000000000) : ∀ (j i : Nat) (v3 v7 : Int64) (F : Nat), j < F → i + j = T → v3.toInt = ((j : Nat) : Int) → v7.toInt = ((eM ups (eC ups true) i s0 : Nat) : Int) → ∃ r : Int64, fX9_power___L112 F u v3 v7 = some r ∧ r.toInt = ((eDiv ups (eM ups (eC ups true) T s0) 16 : Nat) : Int) := by
  intro j
  induction j with
  | zero =>
    intro i v3 v7 F hF hi h3 h7
    obtain ⟨F, rfl⟩ : ∃ G, F = G + 1 := ⟨F - 1, by omega⟩
    obtain rfl : i = T := by omega
    have b := hb i (by omega)
    show ∃ r, fX9_power___112 _ u v3 v7 = some r ∧ _
    unfold fX9_power___112
    rw [if_pos (show v3 ≤ (0 : Int64) by rw [qL_le, q0L]; omega)]
    obtain ⟨m, hm⟩ := zFU_ge 1 (by omega)
    rw [hm]
    show ∃ r, fX9_power___150 _ u v3 v7 = some r ∧ _
    unfold fX9_power___150
    rw [if_pos (show (0 : Int64) ≤ v3 by rw [qL_le, q0L]; omega)]
    obtain ⟨r, e1, e2⟩ := m_cut hu h7 e16L (by omega) (by omega)
    exact ⟨r, by rw [e1]; rfl, e2⟩
  | succ j ih =>
    intro i v3 v7 F hF hi h3 h7
    obtain ⟨F, rfl⟩ : ∃ G, F = G + 1 := ⟨F - 1, by omega⟩
    have b := hb i (by omega)
    have n1 : (v3 - 1).toInt = ((j : Nat) : Int) := by
      rw [qL_sub (by rw [h3, q1L]; omega) (by rw [h3, q1L]; omega), h3, q1L]; omega
    have step : ∀ c : Int64, c.toInt = ((eC ups true : Nat) : Int) → ∃ r : Int64, fX9_cut (v7 * c) 16777216 u = some r ∧ ∃ r2 : Int64, fX9_power___L112 F u (v3 - 1) r = some r2 ∧ r2.toInt = ((eDiv ups (eM ups (eC ups true) T s0) 16 : Nat) : Int) := by
      intro c hc
      have bc := eCpos ups
      have hp : eM ups (eC ups true) i s0 * eC ups true ≤ 80000000000 * 45605202 := Nat.mul_le_mul b bc
      obtain ⟨r, e1, e2⟩ := m_cut (k := 16777216) (m := 16777216) hu (l_mulN h7 hc (by omega)) (by decide) (by omega) (by omega)
      rw [← eM_step] at e2
      exact ⟨r, e1, ih (i + 1) (v3 - 1) r F (by omega) (by omega) n1 e2⟩
    show ∃ r, fX9_power___112 _ u v3 v7 = some r ∧ _
    unfold fX9_power___112
    rw [if_neg (show ¬ v3 ≤ (0 : Int64) by rw [qL_le, q0L]; omega)]
    cases ups with
    | false =>
      have hu0 : u = 0 := Classical.byContradiction fun q => by have := hu.mpr q; cases this
      obtain ⟨r, e1, r2, e2, e3⟩ := step 45605201 (by decide)
      rw [if_pos hu0, e1]
      exact ⟨r2, e2, e3⟩
    | true =>
      obtain ⟨r, e1, r2, e2, e3⟩ := step 45605202 (by decide)
      rw [if_neg (hu.mp rfl), e1]
      exact ⟨r2, e2, e3⟩
noncomputable def mTail (v2 : Int32) (v3 : Int64) (v7 : Int64) : Option Int64 :=
      (if v2 = 0 then fX9_power___L112 zFU v2 v3 (v7 + (0 : Int64)) else fX9_power___L112 zFU v2 v3 (v7 + (1 : Int64)))
theorem m_p51 {ups : Bool} {u : Int32} (hu : ups = true ↔ ¬ u = 0) {whole f : Int64} {φ : Nat} (hf : f.toInt = (φ : Nat)) (hφ : φ ≤ 16777215) : ∀ (j k : Nat) (t s : Int64) (n : Int32) (F : Nat), j < F → n.toInt = k + 2 → k + j = 13 → t.toInt = (eT ups φ k : Nat) → s.toInt = (eS ups φ k : Nat) → ∃ s' : Int64, s'.toInt = ((eS ups φ 13 : Nat) : Int) ∧ fX9_power___L51 F u whole f s t n = mTail u whole s' := by
  intro j
  induction j with
  | zero =>
    intro k t s n F hF hn hk ht hS
    obtain ⟨F, rfl⟩ : ∃ G, F = G + 1 := ⟨F - 1, by omega⟩
    have hk2 : k = 13 := by omega
    subst hk2
    refine ⟨s, hS, ?_⟩
    show fX9_power___51 _ u whole f s t n = _
    unfold fX9_power___51 mTail
    rw [if_pos (show (14 : Int32) < n by rw [qI_lt, e14I]; omega)]
    simp only [nm_eq]
  | succ j ih =>
    intro k t s n F hF hn hk ht hS
    obtain ⟨F, rfl⟩ : ∃ G, F = G + 1 := ⟨F - 1, by omega⟩
    have bT := eT_bd (ups := ups) hφ (i := k) (by omega)
    have bT2 := eT_bd (ups := ups) hφ (i := k + 1) (by omega)
    have bS := eS_bd (ups := ups) hφ k (by omega)
    have bS2 : 16777215 * (k + 2) + 1 ≤ 300000000 := by omega
    have hp : eT ups φ k * φ ≤ 16777215 * 16777215 := Nat.mul_le_mul bT hφ
    obtain ⟨r1, c1, h1⟩ := m_cut (k := 16777216) (m := 16777216) hu (l_mulN ht hf (by omega)) (by decide) (by omega) (by omega)
    have hkI : (Int32.toInt64 n).toInt = ((k + 2 : Nat) : Int) := by rw [qL_ofI, hn]; omega
    have b1 : eDiv ups (eT ups φ k * φ) 16777216 ≤ 16777216 := eDiv_le (by omega) (by omega)
    obtain ⟨r2, c2, h2⟩ := m_cut (k := Int32.toInt64 n) (m := k + 2) hu h1 hkI (by omega) (by omega)
    rw [← eT_succ] at h2
    have n1 : (n + 1).toInt = ((k + 1 : Nat) : Int) + 2 := by rw [qI_add (by rw [hn, q1I]; omega) (by rw [hn, q1I]; omega), hn, q1I]; omega
    have hS2 := l_addN hS h2 (by omega)
    rw [← eS_succ] at hS2
    obtain ⟨s', e1, e2⟩ := ih (k + 1) _ _ (n + 1) F (by omega) n1 (by omega) h2 hS2
    refine ⟨s', e1, ?_⟩
    rw [← e2]
    show fX9_power___51 _ u whole f s t n = _
    unfold fX9_power___51
    rw [if_neg (show ¬ (14 : Int32) < n by rw [qI_lt, e14I]; omega), if_neg (show ¬ n ≤ (1 : Int32) by rw [qI_le, q1I]; omega), c1]
    simp only [bd1_some, c2, nm_eq]
theorem m_raisedIn {ups : Bool} {u : Int32} (hu : ups = true ↔ ¬ u = 0) {p : Int64} (h1 : -14680064 ≤ p.toInt) (h2 : p.toInt ≤ 7994000) : ∃ r : Int64, fX9_power__ p u = some r ∧ r.toInt = ((eE ups p.toInt : Nat) : Int) := by
  have e0 : (-14680064 : Int64).toInt = -14680064 := by decide
  have eE24 : (16777216 : Int64).toInt = ((16777216 : Nat) : Int) := by decide
  show ∃ r, fX9_power___0 p u = some r ∧ _
  unfold fX9_power___0 eE
  rw [if_pos (show (-14680064 : Int64) ≤ p by rw [qL_le, e0]; exact h1), if_neg (show ¬ p.toInt < -14680064 by omega)]
  obtain ⟨W, c1, hw⟩ := m_down (x := p) (y := 1048576) (by decide) (by omega)
  rw [e20L, dn_pos (by omega)] at hw
  have hr : ((16 : Int64) * (p - (W * 1048576))).toInt = (((p.toInt % 1048576).toNat * 16 : Nat) : Int) := by
    have a1 : (W * 1048576).toInt = W.toInt * 1048576 := by rw [qL_mul (by rw [hw, e20L]; omega) (by rw [hw, e20L]; omega), e20L]
    have a2 : (p - (W * 1048576)).toInt = p.toInt % 1048576 := by rw [qL_sub (by rw [a1, hw]; omega) (by rw [a1, hw]; omega), a1, hw]; omega
    rw [Nat.mul_comm]
    refine l_mulN e16L ?_ (by omega)
    rw [a2]; omega
  rw [c1]
  simp only [bd1_some, nm_eq]
  generalize (16 : Int64) * (p - (W * 1048576)) = f at *
  generalize hφ : (p.toInt % 1048576).toNat * 16 = φ at *
  have bφ : φ ≤ 16777215 := by omega
  generalize hW : p.toInt / 1048576 = w at *
  have w1 : -2048 ≤ w := by omega
  have w2 : w < 8 := by omega
  obtain ⟨m0, hm0⟩ := zFU_ge 15 (by omega)
  obtain ⟨m, hm⟩ := zFU_ge 1 (by omega)
  rw [hm]
  show ∃ r, fX9_power___51 (fX9_power___L51 m) u W f 16777216 f 1 = some r ∧ _
  unfold fX9_power___51
  rw [if_neg (show ¬ (14 : Int32) < 1 by decide), if_pos (show (1 : Int32) ≤ 1 by decide)]
  simp only [nm_eq]
  have hS0 : ((16777216 : Int64) + f).toInt = ((eS ups φ 0 : Nat) : Int) := by rw [eS]; exact l_addN eE24 hr (by omega)
  have hT0 : f.toInt = ((eT ups φ 0 : Nat) : Int) := by rw [eT]; exact hr
  obtain ⟨s', e1, e2⟩ := m_p51 hu hr bφ 13 0 f _ (1 + 1) m (by omega) (by decide) (by omega) hT0 hS0 (whole := W)
  rw [e2]
  have bF := eFin_bd (ups := ups) bφ
  obtain ⟨bC, bM⟩ := eM_all (ups := ups) (s0 := eFin ups φ) w1 w2 bF
  have fin : ∀ s2 : Int64, s2.toInt = ((eFin ups φ : Nat) : Int) → ∃ r : Int64, fX9_power___L112 zFU u W s2 = some r ∧ r.toInt = ((eDiv ups (eM ups (eC ups (decide (0 ≤ w))) w.natAbs (eFin ups φ)) 16 : Nat) : Int) := by
    intro s2 q1
    obtain ⟨m2, hm2⟩ := zFU_ge 5000 (by omega)
    by_cases hp : 0 ≤ w
    · rw [decide_eq_true hp] at bM ⊢
      exact m_p112 hu (by omega) bM w.natAbs 0 W s2 zFU (by omega) (by omega) (by rw [hw]; omega) (by rw [eM]; exact q1)
    · rw [decide_eq_false hp] at bM ⊢
      obtain ⟨m3, hm3⟩ := zFU_ge 1 (by omega)
      rw [hm3]
      show ∃ r, fX9_power___112 (fX9_power___L112 m3) u W s2 = some r ∧ _
      unfold fX9_power___112
      rw [if_pos (show W ≤ (0 : Int64) by rw [qL_le, q0L]; omega)]
      exact m_p150 hu (by omega) bM w.natAbs 0 W s2 zFU (by omega) (by omega) (by rw [hw]; omega) (by rw [eM]; exact q1)
  have bS := eFin_ge ups φ
  unfold mTail
  cases ups with
  | false =>
    have hu0 : u = 0 := Classical.byContradiction fun q => by have := hu.mpr q; cases this
    rw [if_pos hu0]
    refine fin _ ?_
    rw [qL_add (by rw [e1, q0L]; omega) (by rw [e1, q0L]; omega), e1, q0L, eFin_f, Int.add_zero]
  | true =>
    rw [if_neg (hu.mp rfl)]
    refine fin _ ?_
    rw [qL_add (by rw [e1, q1L]; omega) (by rw [e1, q1L]; omega), e1, q1L, eFin_t]
    exact (Int.natCast_succ _).symm
theorem m_raised {ups : Bool} {u : Int32} (hu : ups = true ↔ ¬ u = 0) {p : Int64} (h2 : p.toInt ≤ 7994000) : ∃ r : Int64, fX9_power__ p u = some r ∧ r.toInt = ((eE ups p.toInt : Nat) : Int) := by
  by_cases h1 : -14680064 ≤ p.toInt
  · exact m_raisedIn hu h1 h2
  · have e0 : (-14680064 : Int64).toInt = -14680064 := by decide
    show ∃ r, fX9_power___0 p u = some r ∧ _
    unfold fX9_power___0 eE
    rw [if_neg (show ¬ (-14680064 : Int64) ≤ p by rw [qL_le, e0]; exact h1), if_pos (show p.toInt < -14680064 by omega)]
    cases ups with
    | false =>
      have hu0 : u = 0 := Classical.byContradiction fun q => by have := hu.mpr q; cases this
      rw [if_pos hu0]; exact ⟨_, rfl, by decide⟩
    | true => rw [if_neg (hu.mp rfl)]; exact ⟨_, rfl, by decide⟩
