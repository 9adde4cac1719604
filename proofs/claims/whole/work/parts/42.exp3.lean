noncomputable def xTail (v2 : Int32) (v3 : Int64) (v7 : Int64) (v11 : Int64) : Option Int64 :=
      (if (0 : Int64) ≤ v3 then 
        (if v2 = 0 then fX4_raised_151 v2 v3 v7 v11 (45605201 : Int64)
        else nm (v11 + (1 : Int64)) fun x143_4 => nm ((45605201 : Int64) + (1 : Int64)) fun x149_5 => fX4_raised_151 v2 v3 v7 x143_4 x149_5)
      else 
        (if v2 = 0 then fX4_raised_151 v2 v3 v7 v11 (6171992 : Int64)
        else nm (v11 + (1 : Int64)) fun x143_7 => nm ((6171992 : Int64) + (1 : Int64)) fun x149_8 => fX4_raised_151 v2 v3 v7 x143_7 x149_8))
theorem e14I : (14 : Int32).toInt = 14 := by decide
theorem x_r62 {ups : Bool} {u : Int32} (hu : ups = true ↔ ¬ u = 0) {whole f sp : Int64} {φ : Nat} (hf : f.toInt = (φ : Nat)) (hφ : φ ≤ 16777215) (hs : sp.toInt = (spare ups : Nat)) : ∀ (j k : Nat) (t s : Int64) (n : Int32) (F : Nat), j < F → n.toInt = k + 2 → k + j = 13 → t.toInt = (eT ups φ k : Nat) → s.toInt = (eS ups φ k : Nat) → ∃ s' : Int64, s'.toInt = ((eS ups φ 13 : Nat) : Int) ∧ fX4_raised_L62 F u whole f sp t s n = xTail u whole sp s' := by
  intro j
  induction j with
  | zero =>
    intro k t s n F hF hn hk ht hS
    obtain ⟨F, rfl⟩ : ∃ G, F = G + 1 := ⟨F - 1, by omega⟩
    have hk2 : k = 13 := by omega
    subst hk2
    refine ⟨s, hS, ?_⟩
    show fX4_raised_62 _ u whole f sp t s n = _
    unfold fX4_raised_62
    rw [if_pos (show (14 : Int32) < n by rw [qI_lt, e14I]; omega)]
    rfl
  | succ j ih =>
    intro k t s n F hF hn hk ht hS
    obtain ⟨F, rfl⟩ : ∃ G, F = G + 1 := ⟨F - 1, by omega⟩
    have bT := eT_bd (ups := ups) hφ (i := k) (by omega)
    have bT2 := eT_bd (ups := ups) hφ (i := k + 1) (by omega)
    have bS := eS_bd (ups := ups) hφ k (by omega)
    have bS2 : 16777215 * (k + 2) + 1 ≤ 300000000 := by omega
    have hp : eT ups φ k * φ ≤ 16777215 * 16777215 := Nat.mul_le_mul bT hφ
    have h1 := x_sh24 (l_mulN ht hf (by omega)) hs (by omega)
    have hkI : (Int32.toInt64 n).toInt = ((k + 2 : Nat) : Int) := by rw [qL_ofI, hn]; omega
    have b1 : eDiv ups (eT ups φ k * φ) 16777216 ≤ 16777216 := eDiv_le (by omega) (by omega)
    have h2 := x_by (ups := ups) h1 hkI (by omega) (by omega)
    rw [← eT_succ] at h2
    have n1 : (n + 1).toInt = ((k + 1 : Nat) : Int) + 2 := by rw [qI_add (by rw [hn, q1I]; omega) (by rw [hn, q1I]; omega), hn, q1I]; omega
    have hS2 := l_addN hS h2 (by omega)
    rw [← eS_succ] at hS2
    obtain ⟨s', e1, e2⟩ := ih (k + 1) _ _ (n + 1) F (by omega) n1 (by omega) h2 hS2
    refine ⟨s', e1, ?_⟩
    rw [← e2]
    show fX4_raised_62 _ u whole f sp t s n = _
    unfold fX4_raised_62
    rw [if_neg (show ¬ (14 : Int32) < n by rw [qI_lt, e14I]; omega)]
    have n0 : ¬ Int32.toInt64 n = 0 := fun q => by rw [q, q0L] at hkI; omega
    simp only [nm, zg_pos n0]
    cases ups with
    | false =>
      have hu0 : u = 0 := Classical.byContradiction fun q => by have := hu.mpr q; cases this
      rw [if_pos hu0]; rfl
    | true => rw [if_neg (hu.mp rfl)]; rfl
theorem e16L : (16 : Int64).toInt = ((16 : Nat) : Int) := by decide
theorem x_r168 {ups : Bool} {u : Int32} (hu : ups = true ↔ ¬ u = 0) {sp c v15 : Int64} {γ T s0 : Nat} (hc : c.toInt = (γ : Nat)) (hγ : γ ≤ 45605202) (hs : sp.toInt = (spare ups : Nat)) (h15 : v15.toInt = (T : Nat)) (hb : ∀ i, i ≤ T → eM ups γ i s0 ≤ 80000000000) : ∀ (j i : Nat) (v11 v17 : Int64) (F : Nat), j < F → i + j = T → v17.toInt = (i : Nat) → v11.toInt = (eM ups γ i s0 : Nat) → ∃ r, fX4_raised_L168 F u sp v11 c v15 v17 = some r ∧ r.toInt = (eDiv ups (eM ups γ T s0) 16 : Nat) := by
  intro j
  induction j with
  | zero =>
    intro i v11 v17 F hF hi h17 h11
    obtain ⟨F, rfl⟩ : ∃ G, F = G + 1 := ⟨F - 1, by omega⟩
    obtain rfl : i = T := by omega
    have b := hb i (by omega)
    show ∃ r, fX4_raised_168 _ u sp v11 c v15 v17 = some r ∧ _
    unfold fX4_raised_168
    rw [if_pos (show v15 ≤ v17 by rw [qL_le]; omega)]
    have a1 := l_addN h11 e16L (by omega)
    cases ups with
    | false =>
      have hu0 : u = 0 := Classical.byContradiction fun q => by have := hu.mpr q; cases this
      rw [if_pos hu0]
      refine ⟨_, rfl, ?_⟩
      rw [qL_sh4, h11, eDiv_f]
      exact (Int.natCast_ediv _ 16).symm
    | true =>
      rw [if_neg (hu.mp rfl)]
      refine ⟨_, rfl, ?_⟩
      rw [qL_sh4, qL_sub (by rw [a1, q1L]; omega) (by rw [a1, q1L]; omega), a1, q1L, eDiv_t]
      generalize eM true γ i s0 = z at *
      omega
  | succ j ih =>
    intro i v11 v17 F hF hi h17 h11
    obtain ⟨F, rfl⟩ : ∃ G, F = G + 1 := ⟨F - 1, by omega⟩
    have b := hb i (by omega)
    have hp : eM ups γ i s0 * γ ≤ 80000000000 * 45605202 := Nat.mul_le_mul b hγ
    have h1 := x_sh24 (l_mulN h11 hc (by omega)) hs (by omega)
    rw [← eM_step] at h1
    have n1 : (v17 + 1).toInt = ((i + 1 : Nat) : Int) := by
      rw [qL_add (by rw [h17, q1L]; omega) (by rw [h17, q1L]; have := qL_rng v15; omega), h17, q1L]; omega
    obtain ⟨r, e1, e2⟩ := ih (i + 1) _ (v17 + 1) F (by omega) (by omega) n1 h1
    refine ⟨r, ?_, e2⟩
    rw [← e1]
    show fX4_raised_168 _ u sp v11 c v15 v17 = _
    unfold fX4_raised_168
    rw [if_neg (show ¬ v15 ≤ v17 by rw [qL_le]; omega)]
    rfl
