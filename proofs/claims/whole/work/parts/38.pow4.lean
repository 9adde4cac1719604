theorem m_fin {t r : Int64} {L H : Option Int} {σ : zSt} (h : (∃ l h, L = some l ∧ H = some h ∧ t.toInt = l ∧ r.toInt = h ∧ gi σ 61 22 = 0) ∨ ((L = none ∨ H = none) ∧ gi σ 61 22 = 1)) : ∃ τ, (if gi σ 61 22 = 0 then bd1 (fX9_is t r σ) fun s => some s else bd1 (fX9_isHole σ) fun s => some s) = some τ ∧ mS τ (sEnds L H) ∧ mEq σ τ := by
  rcases h with ⟨l, u, rfl, rfl, e1, e2, e3⟩ | ⟨hn, e3⟩
  · rw [if_pos e3]
    obtain ⟨τ, t1, t2, t3, -⟩ := m_is t r σ
    rw [e1, e2] at t2
    exact ⟨τ, by simp only [t1, bd1], t2, t3⟩
  · rw [if_neg (by rw [e3]; decide)]
    obtain ⟨τ, t1, t2, t3⟩ := m_isHole σ
    refine ⟨τ, by simp only [t1, bd1], ?_, t3⟩
    have e : sEnds L H = none := by
      rcases hn with rfl | rfl
      · cases H <;> rfl
      · cases L <;> rfl
    rw [e]
    exact t2
theorem mG_neg {σ : zSt} {r : Int64} {g : Option Int} (hg : ∀ v, g = some v → 0 ≤ v ∧ v ≤ 2147483648) (h : mG σ r g) : mG σ (-r) (g.map (fun z => -z)) := by
  cases g with
  | none => exact h
  | some v =>
    have := hg v rfl
    exact ⟨by rw [qL_neg (by have := h.1; omega), h.1], h.2⟩
theorem mG_two {σ τ : zSt} {t r : Int64} {L H : Option Int} (hL : mG σ t L) (hH : gi σ 61 22 = 0 → mG τ r H) (hO : gi σ 61 22 = 1 → gi τ 61 22 = 1) : (∃ l h, L = some l ∧ H = some h ∧ t.toInt = l ∧ r.toInt = h ∧ gi τ 61 22 = 0) ∨ ((L = none ∨ H = none) ∧ gi τ 61 22 = 1) := by
  cases L with
  | none => exact Or.inr ⟨Or.inl rfl, hO hL⟩
  | some l =>
    have h2 := hH hL.2
    cases H with
    | none => exact Or.inr ⟨Or.inr rfl, h2⟩
    | some h => exact Or.inl ⟨l, h, rfl, rfl, hL.1, h2.1, h2.2⟩
theorem mG_or {σ : zSt} {r : Int64} {g : Option Int} (h : mG σ r g) : gi σ 61 22 = 0 ∨ gi σ 61 22 = 1 := by
  cases g with
  | none => exact Or.inr h
  | some v => exact Or.inl h.2
/-- size behind size: as it says of a new one, or over still -/
theorem m_size2 {s : Int64} {n u : Int32} {ups : Bool} (hu : ups = true ↔ ¬ u = 0) (hs : 0 ≤ s.toInt ∧ s.toInt ≤ 2147483648) {j : Nat} (hj : j ≤ 100) (hn : n.toInt = j + 1) {σ : zSt} (ho : gi σ 61 22 = 0 ∨ gi σ 61 22 = 1) : ∃ r τ, fX9_size s n u σ = some (r, τ) ∧ mEq σ τ ∧ (gi σ 61 22 = 0 → mG τ r (gr ups s.toInt j)) ∧ (gi σ 61 22 = 1 → gi τ 61 22 = 1 ∧ r = s) := by
  rcases ho with ho | ho
  · obtain ⟨r, τ, h1, h2, h3⟩ := m_sizeN hu hs hj hn ho
    exact ⟨r, τ, h1, h2, fun _ => h3, fun q => absurd (ho.symm.trans q) (by decide)⟩
  · obtain ⟨τ, h1, h2, h3⟩ := m_sizeO (s := s) (n := n) (u := u) ho
    exact ⟨s, τ, h1, h2, fun q => absurd (ho.symm.trans q) (by decide), fun _ => ⟨h3, rfl⟩⟩
theorem uT : true = true ↔ ¬ (1 : Int32) = 0 := ⟨fun _ => by decide, fun _ => rfl⟩
theorem uF : false = true ↔ ¬ (0 : Int32) = 0 := ⟨fun h => absurd h (by decide), fun h => absurd rfl h⟩
theorem m_power {a b : Int64} {n : Int32} {σ : zSt} {j : Nat} (ha : -2147483648 ≤ a.toInt ∧ a.toInt ≤ b.toInt) (hb : b.toInt ≤ 2147483647) (hj : j ≤ 8) (hn : n.toInt = j + 1) : ∃ τ, fX9_power_ a b n σ = some τ ∧ mS τ (sPow (some (a.toInt, b.toInt)) j) ∧ mEq σ τ := by
  have ho := m_odd hj hn
  have na : (-a).toInt = -a.toInt := qL_neg (by omega)
  have nb : (-b).toInt = -b.toInt := qL_neg (by omega)
  show ∃ τ, fX9_power__0 a b n σ = some τ ∧ mS τ (if j % 2 = 0 then _ else _) ∧ _
  unfold fX9_power__0
  have h0 := gi_22 σ 0
  have hq := mEq_22 σ 0
  generalize si σ 61 22 0 = σ0 at h0 hq ⊢
  by_cases hod : j % 2 = 0
  · rw [if_pos hod, if_pos (ho.mpr hod)]
    have hi : ∀ (t0 : Int64) (σ1 : zSt), mEq σ0 σ1 → mG σ1 t0 (if 0 ≤ a.toInt then gr false a.toInt j else (gr true (-a.toInt) j).map (fun z => -z)) → ∃ τ, fX9_power__40 b n t0 σ1 = some τ ∧ mS τ (sEnds (if 0 ≤ a.toInt then gr false a.toInt j else (gr true (-a.toInt) j).map (fun z => -z)) (if 0 ≤ b.toInt then gr true b.toInt j else (gr false (-b.toInt) j).map (fun z => -z))) ∧ mEq σ τ := by
      intro t0 σ1 hq1 ht
      unfold fX9_power__40 nm
      by_cases hb0 : (0 : Int64) ≤ b
      · rw [if_pos hb0]
        rw [qL_le, q0L] at hb0
        obtain ⟨r, τ, h1, h2, h3, h4⟩ := m_size2 (s := b) (n := n) uT (by omega) (j := j) (by omega) hn (mG_or ht)
        simp only [h1, bd2]
        obtain ⟨ω, w1, w2, w3⟩ := m_fin (t := t0) (r := r) (mG_two (H := gr true b.toInt j) ht h3 (fun q => (h4 q).1))
        refine ⟨ω, w1, ?_, ((hq.tr hq1).tr h2).tr w3⟩
        rw [if_pos hb0]
        exact w2
      · rw [if_neg hb0]
        rw [qL_le, q0L] at hb0
        obtain ⟨r, τ, h1, h2, h3, h4⟩ := m_size2 (s := -b) (n := n) uF (by omega) (j := j) (by omega) hn (mG_or ht)
        simp only [h1, bd2]
        rw [nb] at h3
        obtain ⟨ω, w1, w2, w3⟩ := m_fin (t := t0) (r := -r) (mG_two (H := (gr false (-b.toInt) j).map (fun z => -z)) ht (fun q => mG_neg (fun v hv => gr_bd (by omega) j hv) (h3 q)) (fun q => (h4 q).1))
        refine ⟨ω, w1, ?_, ((hq.tr hq1).tr h2).tr w3⟩
        rw [if_neg hb0]
        exact w2
    by_cases ha0 : (0 : Int64) ≤ a
    · rw [if_pos ha0]
      rw [qL_le, q0L] at ha0
      obtain ⟨r, τ, h1, h2, h3⟩ := m_sizeN (s := a) (n := n) uF (by omega) (j := j) (by omega) hn h0
      simp only [h1, bd2]
      exact hi r τ h2 (by rw [if_pos ha0]; exact h3)
    · rw [if_neg ha0]
      rw [qL_le, q0L] at ha0
      obtain ⟨r, τ, h1, h2, h3⟩ := m_sizeN (s := -a) (n := n) uT (by omega) (j := j) (by omega) hn h0
      simp only [h1, bd2]
      rw [na] at h3
      exact hi (-r) τ h2 (by rw [if_neg ha0]; exact mG_neg (fun v hv => gr_bd (by omega) j hv) h3)
  · rw [if_neg hod, if_neg (fun h => hod (ho.mp h))]
    have core : ∀ A B : Int64, A.toInt = (a.toInt.natAbs : Int) → B.toInt = (b.toInt.natAbs : Int) → ∃ τ, fX9_power__100 a b n A B σ0 = some τ ∧ mS τ (sEnds (gr false (if a.toInt ≤ 0 ∧ 0 ≤ b.toInt then 0 else min (a.toInt.natAbs : Int) (b.toInt.natAbs : Int)) j) (gr true (max (a.toInt.natAbs : Int) (b.toInt.natAbs : Int)) j)) ∧ mEq σ τ := by
      intro A B hA hB
      have mx : (fX9_more A B).toInt = max (a.toInt.natAbs : Int) (b.toInt.natAbs : Int) := by rw [m_more, hA, hB]
      have mn : (fX9_less A B).toInt = min (a.toInt.natAbs : Int) (b.toInt.natAbs : Int) := by rw [m_less, hA, hB]
      have fin : ∀ (z : Int64) (zi : Int), z.toInt = zi → 0 ≤ zi → zi ≤ 2147483648 → ∃ τ, fX9_power__126 n A B z σ0 = some τ ∧ mS τ (sEnds (gr false zi j) (gr true (max (a.toInt.natAbs : Int) (b.toInt.natAbs : Int)) j)) ∧ mEq σ τ := by
        intro z zi hz h1 h2
        unfold fX9_power__126
        obtain ⟨r, τ, g1, g2, g3⟩ := m_sizeN (s := z) (n := n) uF (by omega) (j := j) (by omega) hn h0
        rw [hz] at g3
        obtain ⟨r2, τ2, k1, k2, k3, k4⟩ := m_size2 (s := fX9_more A B) (n := n) uT (by rw [mx]; omega) (j := j) (by omega) hn (mG_or g3)
        rw [mx] at k3
        simp only [g1, k1, bd2]
        obtain ⟨ω, w1, w2, w3⟩ := m_fin (t := r) (r := r2) (mG_two (H := gr true (max (a.toInt.natAbs : Int) (b.toInt.natAbs : Int)) j) g3 k3 (fun q => (k4 q).1))
        exact ⟨ω, w1, w2, ((hq.tr g2).tr k2).tr w3⟩
      unfold fX9_power__100
      by_cases ha0 : (0 : Int64) < a
      · rw [if_pos ha0]
        rw [qL_lt, q0L] at ha0
        rw [if_neg (show ¬ (a.toInt ≤ 0 ∧ 0 ≤ b.toInt) by omega)]
        exact fin _ _ mn (by omega) (by omega)
      · rw [if_neg ha0]
        rw [qL_lt, q0L] at ha0
        by_cases hb0 : b < (0 : Int64)
        · rw [if_pos hb0]
          rw [qL_lt, q0L] at hb0
          rw [if_neg (show ¬ (a.toInt ≤ 0 ∧ 0 ≤ b.toInt) by omega)]
          exact fin _ _ mn (by omega) (by omega)
        · rw [if_neg hb0]
          rw [qL_lt, q0L] at hb0
          rw [if_pos (show a.toInt ≤ 0 ∧ 0 ≤ b.toInt by omega)]
          exact fin 0 0 q0L (by omega) (by omega)
    unfold nm
    by_cases ha0 : (0 : Int64) ≤ a
    · rw [if_pos ha0]
      rw [qL_le, q0L] at ha0
      by_cases hb0 : (0 : Int64) ≤ b
      · rw [if_pos hb0]
        rw [qL_le, q0L] at hb0
        exact core a b (by omega) (by omega)
      · rw [if_neg hb0]
        rw [qL_le, q0L] at hb0
        exact core a (-b) (by omega) (by rw [nb]; omega)
    · rw [if_neg ha0]
      rw [qL_le, q0L] at ha0
      dsimp only
      by_cases hb0 : (0 : Int64) ≤ b
      · rw [if_pos hb0]
        rw [qL_le, q0L] at hb0
        exact core (-a) b (by rw [na]; omega) (by omega)
      · rw [if_neg hb0]
        rw [qL_le, q0L] at hb0
        exact core (-a) (-b) (by rw [na]; omega) (by rw [nb]; omega)
