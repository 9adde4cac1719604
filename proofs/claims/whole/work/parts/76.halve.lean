/-! parts in rows: ShutBench's in any order, the Model's from left to right -/
def hRel (n : Nat) (p : Nat → Nat) (σ τ : zSt) : Prop := gi σ 4 4 = Int32.ofNat n ∧ gi τ 61 33 = Int32.ofNat n ∧ (∀ i, i < n → p i < n ∧ (gl τ 78 i).toInt = (gi σ 13 (p i)).toInt ∧ (gl τ 79 i).toInt = (gi σ 14 (p i)).toInt ∧ gl τ 80 i = gl σ 15 (p i) ∧ gl τ 81 i = gl σ 16 (p i)) ∧ (∀ j, j < n → ∃ i, i < n ∧ p i = j) ∧ (∀ i, i < n → (gl τ 78 i).toInt ≤ (gl τ 79 i).toInt) ∧ ∀ i, i + 1 < n → (gl τ 78 i).toInt < (gl τ 79 i).toInt ∧ (gl τ 79 i).toInt ≤ (gl τ 78 (i + 1)).toInt
theorem h_lt {n : Nat} {τ : zSt} (h : ∀ i, i + 1 < n → (gl τ 78 i).toInt < (gl τ 79 i).toInt ∧ (gl τ 79 i).toInt ≤ (gl τ 78 (i + 1)).toInt) : ∀ d i, i + d + 1 < n → (gl τ 78 i).toInt < (gl τ 78 (i + d + 1)).toInt := by
  intro d
  induction d with
  | zero =>
    intro i hi
    have := h i (by omega)
    rw [show i + 0 + 1 = i + 1 by omega]
    omega
  | succ d ih =>
    intro i hi
    have h1 := ih i (by omega)
    have h2 := h (i + d + 1) (by omega)
    rw [show i + (d + 1) + 1 = i + d + 1 + 1 by omega]
    omega
theorem h_lt' {n : Nat} {τ : zSt} (h : ∀ i, i + 1 < n → (gl τ 78 i).toInt < (gl τ 79 i).toInt ∧ (gl τ 79 i).toInt ≤ (gl τ 78 (i + 1)).toInt) {i j : Nat} (hij : i < j) (hj : j < n) : (gl τ 78 i).toInt < (gl τ 78 j).toInt := by
  have := h_lt h (j - i - 1) i (by omega)
  rw [show i + (j - i - 1) + 1 = j by omega] at this
  exact this
theorem h_inj {n : Nat} {p : Nat → Nat} {σ τ : zSt} (h : hRel n p σ τ) {i j : Nat} (hi : i < n) (hj : j < n) (e : p i = p j) : i = j := by
  obtain ⟨-, -, h3, -, -, h6⟩ := h
  have a := (h3 i hi).2.1
  have b := (h3 j hj).2.1
  rw [e] at a
  rcases Nat.lt_trichotomy i j with q | q | q
  · have := h_lt' h6 q hj; omega
  · exact q
  · have := h_lt' h6 q hi; omega
/-- the best of ShutBench's rows is the best of the Model's -/
theorem h_sel {n : Nat} {p : Nat → Nat} {σ τ : zSt} (h : hRel n p σ τ) {c c' : Nat → Int} (hc : ∀ i, i < n → c' i = c (p i)) {b w : Nat} (hb : b < n) (hw : w < n) (X : ∀ j, j < n → c b < c j ∨ (c b = c j ∧ (gi σ 13 b).toInt ≤ (gi σ 13 j).toInt)) (M1 : ∀ i, i < n → c' w ≤ c' i) (M2 : ∀ i, i < w → c' w < c' i) : p w = b := by
  obtain ⟨-, -, h3, h4, -, h6⟩ := h
  obtain ⟨i, hi, e⟩ := h4 b hb
  have x1 := X (p w) (h3 w hw).1
  have m1 := M1 i hi
  have m2 := M2 i
  rw [hc i hi, hc w hw, e] at m1
  rw [hc i hi, hc w hw, e] at m2
  have a := (h3 i hi).2.1
  have d := (h3 w hw).2.1
  rw [e] at a
  rcases Nat.lt_trichotomy i w with q | q | q
  · have := m2 q; omega
  · rw [← q]; exact e
  · have := h_lt' h6 q hi; omega
theorem e201I : (201 : Int32).toInt = 201 := by decide
/-- what LOW and HIGH of a row are at most -/
def hBd (n : Nat) (σ : zSt) : Prop := ∀ j, j < n → (-8796093022208 ≤ (gl σ 15 j).toInt ∧ (gl σ 15 j).toInt ≤ 8796093022208) ∧ -8796093022208 ≤ (gl σ 16 j).toInt ∧ (gl σ 16 j).toInt ≤ 8796093022208
def cW (σ : zSt) (j : Nat) : Int := (gl σ 15 j).toInt - (gl σ 16 j).toInt
def cW' (τ : zSt) (j : Nat) : Int := (gl τ 80 j).toInt - (gl τ 81 j).toInt
theorem x_widestL {n : Nat} (hn : n ≤ 201) {σ : zSt} (h44 : gi σ 4 4 = Int32.ofNat n) (hB : hBd n σ) : ∀ d v F b, v + d = n → d < F → b < v → (∀ j, j < v → cW σ b < cW σ j ∨ (cW σ b = cW σ j ∧ (gi σ 13 b).toInt ≤ (gi σ 13 j).toInt)) → ∃ b', b' < n ∧ fX2_widest_L4 F (Int32.ofNat b) (Int32.ofNat v) σ = some (Int32.ofNat b') ∧ ∀ j, j < n → cW σ b' < cW σ j ∨ (cW σ b' = cW σ j ∧ (gi σ 13 b').toInt ≤ (gi σ 13 j).toInt) := by
  intro d
  induction d with
  | zero =>
    intro v F b hv hF hb H
    obtain ⟨F, rfl⟩ : ∃ F', F = F' + 1 := ⟨F - 1, by omega⟩
    rw [fX2_widest_L4]
    unfold fX2_widest_4
    have e : v = n := by omega
    subst e
    rw [h44, if_pos (qI_le.mpr (Int.le_refl _))]
    exact ⟨b, hb, rfl, H⟩
  | succ d ih =>
    intro v F b hv hF hb H
    obtain ⟨F, rfl⟩ : ∃ F', F = F' + 1 := ⟨F - 1, by omega⟩
    rw [fX2_widest_L4]
    unfold fX2_widest_4
    have en := iNt (n := n) (by omega)
    have ev := iNt (n := v) (by omega)
    have vv := vin (N := 201) ev (by omega)
    have vb := vin (N := 201) (iNt (n := b) (by omega)) (by omega)
    rw [h44, if_neg (show ¬ Int32.ofNat n ≤ Int32.ofNat v by rw [qI_le, en, ev]; omega), if_neg (show ¬ (201 : Int32) ≤ Int32.ofNat v by rw [qI_le, ev, e201I]; omega), zg_pos vv, zg_pos vv, zg_pos vb, zg_pos vb, nm_eq, iN_cl (by omega), iN_cl (by omega)]
    repeat rw [nm_eq]
    rw [iN_s (by omega)]
    obtain ⟨⟨a1, a2⟩, a3, a4⟩ := hB v (by omega)
    obtain ⟨⟨b1, b2⟩, b3, b4⟩ := hB b (by omega)
    have e1 : (gl σ 16 v - gl σ 15 v).toInt = (gl σ 16 v).toInt - (gl σ 15 v).toInt := qL_sub (by omega) (by omega)
    have e2 : (gl σ 16 b - gl σ 15 b).toInt = (gl σ 16 b).toInt - (gl σ 15 b).toInt := qL_sub (by omega) (by omega)
    have e3 : (gl σ 16 v - gl σ 15 v - (gl σ 16 b - gl σ 15 b)).toInt = cW σ b - cW σ v := by
      unfold cW
      rw [qL_sub (by omega) (by omega), e1, e2]; omega
    obtain ⟨x, hx⟩ : ∃ x, x = gl σ 16 v - gl σ 15 v - (gl σ 16 b - gl σ 15 b) := ⟨_, rfl⟩
    rw [← hx] at e3 ⊢
    have toV : cW σ v < cW σ b ∨ (cW σ v = cW σ b ∧ (gi σ 13 v).toInt ≤ (gi σ 13 b).toInt) → ∃ b', b' < n ∧ fX2_widest_L4 F (Int32.ofNat v) (Int32.ofNat (v + 1)) σ = some (Int32.ofNat b') ∧ ∀ j, j < n → cW σ b' < cW σ j ∨ (cW σ b' = cW σ j ∧ (gi σ 13 b').toInt ≤ (gi σ 13 j).toInt) := fun q => ih (v + 1) F v (by omega) (by omega) (by omega) (fun j hj => by
      by_cases e : j = v
      · rw [e]; exact Or.inr ⟨rfl, Int.le_refl _⟩
      · have := H j (by omega); omega)
    have stay : cW σ b < cW σ v ∨ (cW σ b = cW σ v ∧ (gi σ 13 b).toInt ≤ (gi σ 13 v).toInt) → ∃ b', b' < n ∧ fX2_widest_L4 F (Int32.ofNat b) (Int32.ofNat (v + 1)) σ = some (Int32.ofNat b') ∧ ∀ j, j < n → cW σ b' < cW σ j ∨ (cW σ b' = cW σ j ∧ (gi σ 13 b').toInt ≤ (gi σ 13 j).toInt) := fun q => ih (v + 1) F b (by omega) (by omega) (by omega) (fun j hj => by
      by_cases e : j = v
      · rw [e]; exact q
      · exact H j (by omega))
    by_cases c1 : 0 < x.toInt
    · rw [if_pos (show (0 : Int64) < x by rw [qL_lt, q0L]; exact c1)]
      exact toV (Or.inl (by omega))
    rw [if_neg (show ¬ (0 : Int64) < x by rw [qL_lt, q0L]; exact c1)]
    by_cases c2 : x.toInt = 0
    · rw [if_pos (show x = 0 by rw [qL_eq, q0L]; exact c2), zg_pos vv, zg_pos vb]
      by_cases c3 : (gi σ 13 b).toInt ≤ (gi σ 13 v).toInt
      · rw [if_pos (show gi σ 13 b ≤ gi σ 13 v from qI_le.mpr c3)]
        exact stay (Or.inr ⟨by omega, c3⟩)
      · rw [if_neg (show ¬ gi σ 13 b ≤ gi σ 13 v from fun h => c3 (qI_le.mp h))]
        exact toV (Or.inr ⟨by omega, by omega⟩)
    · rw [if_neg (show ¬ x = 0 by rw [qL_eq, q0L]; exact c2)]
      exact stay (Or.inl (by omega))
theorem x_widest {n : Nat} (hn : n ≤ 201) (h1 : 1 ≤ n) {σ : zSt} (h44 : gi σ 4 4 = Int32.ofNat n) (hB : hBd n σ) : ∃ b, b < n ∧ fX2_widest σ = some (Int32.ofNat b) ∧ ∀ j, j < n → cW σ b < cW σ j ∨ (cW σ b = cW σ j ∧ (gi σ 13 b).toInt ≤ (gi σ 13 j).toInt) := by
  obtain ⟨Z, hZ⟩ := zFU_ge 1000 (by omega)
  exact x_widestL hn h44 hB (n - 1) 1 zFU 0 (by omega) (by omega) (by omega) (fun j hj => by
    have : j = 0 := by omega
    rw [this]; exact Or.inr ⟨rfl, Int.le_refl _⟩)
theorem x_deepestL {n : Nat} (hn : n ≤ 201) {σ : zSt} (h44 : gi σ 4 4 = Int32.ofNat n) : ∀ d v F b, v + d = n → d < F → b < v → (∀ j, j < v → (gl σ 15 b).toInt < (gl σ 15 j).toInt ∨ ((gl σ 15 b).toInt = (gl σ 15 j).toInt ∧ (gi σ 13 b).toInt ≤ (gi σ 13 j).toInt)) → ∃ b', b' < n ∧ fX2_deepest_L4 F (Int32.ofNat b) (Int32.ofNat v) σ = some (Int32.ofNat b') ∧ ∀ j, j < n → (gl σ 15 b').toInt < (gl σ 15 j).toInt ∨ ((gl σ 15 b').toInt = (gl σ 15 j).toInt ∧ (gi σ 13 b').toInt ≤ (gi σ 13 j).toInt) := by
  intro d
  induction d with
  | zero =>
    intro v F b hv hF hb H
    obtain ⟨F, rfl⟩ : ∃ F', F = F' + 1 := ⟨F - 1, by omega⟩
    rw [fX2_deepest_L4]
    unfold fX2_deepest_4
    have e : v = n := by omega
    subst e
    rw [h44, if_pos (qI_le.mpr (Int.le_refl _))]
    exact ⟨b, hb, rfl, H⟩
  | succ d ih =>
    intro v F b hv hF hb H
    obtain ⟨F, rfl⟩ : ∃ F', F = F' + 1 := ⟨F - 1, by omega⟩
    rw [fX2_deepest_L4]
    unfold fX2_deepest_4
    have en := iNt (n := n) (by omega)
    have ev := iNt (n := v) (by omega)
    have vv := vin (N := 201) ev (by omega)
    have vb := vin (N := 201) (iNt (n := b) (by omega)) (by omega)
    rw [h44, if_neg (show ¬ Int32.ofNat n ≤ Int32.ofNat v by rw [qI_le, en, ev]; omega), if_neg (show ¬ (201 : Int32) ≤ Int32.ofNat v by rw [qI_le, ev, e201I]; omega), zg_pos vv, zg_pos vb, iN_cl (by omega), iN_cl (by omega)]
    repeat rw [nm_eq]
    rw [iN_s (by omega)]
    have toV : (gl σ 15 v).toInt < (gl σ 15 b).toInt ∨ ((gl σ 15 v).toInt = (gl σ 15 b).toInt ∧ (gi σ 13 v).toInt ≤ (gi σ 13 b).toInt) → ∃ b', b' < n ∧ fX2_deepest_L4 F (Int32.ofNat v) (Int32.ofNat (v + 1)) σ = some (Int32.ofNat b') ∧ ∀ j, j < n → (gl σ 15 b').toInt < (gl σ 15 j).toInt ∨ ((gl σ 15 b').toInt = (gl σ 15 j).toInt ∧ (gi σ 13 b').toInt ≤ (gi σ 13 j).toInt) := fun q => ih (v + 1) F v (by omega) (by omega) (by omega) (fun j hj => by
      by_cases e : j = v
      · rw [e]; exact Or.inr ⟨rfl, Int.le_refl _⟩
      · have := H j (by omega); omega)
    have stay : (gl σ 15 b).toInt < (gl σ 15 v).toInt ∨ ((gl σ 15 b).toInt = (gl σ 15 v).toInt ∧ (gi σ 13 b).toInt ≤ (gi σ 13 v).toInt) → ∃ b', b' < n ∧ fX2_deepest_L4 F (Int32.ofNat b) (Int32.ofNat (v + 1)) σ = some (Int32.ofNat b') ∧ ∀ j, j < n → (gl σ 15 b').toInt < (gl σ 15 j).toInt ∨ ((gl σ 15 b').toInt = (gl σ 15 j).toInt ∧ (gi σ 13 b').toInt ≤ (gi σ 13 j).toInt) := fun q => ih (v + 1) F b (by omega) (by omega) (by omega) (fun j hj => by
      by_cases e : j = v
      · rw [e]; exact q
      · exact H j (by omega))
    by_cases c1 : (gl σ 15 v).toInt < (gl σ 15 b).toInt
    · rw [if_pos (show gl σ 15 v < gl σ 15 b from qL_lt.mpr c1)]
      exact toV (Or.inl c1)
    rw [if_neg (show ¬ gl σ 15 v < gl σ 15 b from fun h => c1 (qL_lt.mp h)), zg_pos vv, zg_pos vb]
    by_cases c2 : (gl σ 15 v).toInt = (gl σ 15 b).toInt
    · rw [if_pos (show gl σ 15 v = gl σ 15 b from qL_eq.mpr c2), zg_pos vv, zg_pos vb]
      by_cases c3 : (gi σ 13 b).toInt ≤ (gi σ 13 v).toInt
      · rw [if_pos (show gi σ 13 b ≤ gi σ 13 v from qI_le.mpr c3)]
        exact stay (Or.inr ⟨by omega, c3⟩)
      · rw [if_neg (show ¬ gi σ 13 b ≤ gi σ 13 v from fun h => c3 (qI_le.mp h))]
        exact toV (Or.inr ⟨by omega, by omega⟩)
    · rw [if_neg (show ¬ gl σ 15 v = gl σ 15 b from fun h => c2 (qL_eq.mp h))]
      exact stay (Or.inl (by omega))
theorem x_deepest {n : Nat} (hn : n ≤ 201) (h1 : 1 ≤ n) {σ : zSt} (h44 : gi σ 4 4 = Int32.ofNat n) : ∃ b, b < n ∧ fX2_deepest σ = some (Int32.ofNat b) ∧ ∀ j, j < n → (gl σ 15 b).toInt < (gl σ 15 j).toInt ∨ ((gl σ 15 b).toInt = (gl σ 15 j).toInt ∧ (gi σ 13 b).toInt ≤ (gi σ 13 j).toInt) := by
  obtain ⟨Z, hZ⟩ := zFU_ge 1000 (by omega)
  exact x_deepestL hn h44 (n - 1) 1 zFU 0 (by omega) (by omega) (by omega) (fun j hj => by
    have : j = 0 := by omega
    rw [this]; exact Or.inr ⟨rfl, Int.le_refl _⟩)
theorem m_leastL {n : Nat} (hn : n ≤ 201) {τ : zSt} (h33 : gi τ 61 33 = Int32.ofNat n) : ∀ d v F w, v + d = n → d < F → w < v → (∀ i, i < v → (gl τ 80 w).toInt ≤ (gl τ 80 i).toInt) → (∀ i, i < w → (gl τ 80 w).toInt < (gl τ 80 i).toInt) → ∃ w', w' < n ∧ fX9_least_L4 F (Int32.ofNat w) (Int32.ofNat v) τ = some (Int32.ofNat w') ∧ (∀ i, i < n → (gl τ 80 w').toInt ≤ (gl τ 80 i).toInt) ∧ ∀ i, i < w' → (gl τ 80 w').toInt < (gl τ 80 i).toInt := by
  intro d
  induction d with
  | zero =>
    intro v F w hv hF hw H1 H2
    obtain ⟨F, rfl⟩ : ∃ F', F = F' + 1 := ⟨F - 1, by omega⟩
    rw [fX9_least_L4]
    unfold fX9_least_4
    have e : v = n := by omega
    subst e
    rw [h33, if_pos (qI_le.mpr (Int.le_refl _))]
    exact ⟨w, hw, rfl, H1, H2⟩
  | succ d ih =>
    intro v F w hv hF hw H1 H2
    obtain ⟨F, rfl⟩ : ∃ F', F = F' + 1 := ⟨F - 1, by omega⟩
    rw [fX9_least_L4]
    unfold fX9_least_4
    have en := iNt (n := n) (by omega)
    have ev := iNt (n := v) (by omega)
    have vv := vin (N := 260) ev (by omega)
    have vw := vin (N := 260) (iNt (n := w) (by omega)) (by omega)
    rw [h33, if_neg (show ¬ Int32.ofNat n ≤ Int32.ofNat v by rw [qI_le, en, ev]; omega), zg_pos vv, zg_pos vw, iN_cl (by omega), iN_cl (by omega), nm_eq, nm_eq, iN_s (by omega)]
    by_cases c : (gl τ 80 w).toInt ≤ (gl τ 80 v).toInt
    · rw [if_pos (show gl τ 80 w ≤ gl τ 80 v from qL_le.mpr c)]
      exact ih (v + 1) F w (by omega) (by omega) (by omega) (fun i hi => by
        by_cases e : i = v
        · rw [e]; exact c
        · exact H1 i (by omega)) H2
    · rw [if_neg (show ¬ gl τ 80 w ≤ gl τ 80 v from fun h => c (qL_le.mp h))]
      exact ih (v + 1) F v (by omega) (by omega) (by omega) (fun i hi => by
        by_cases e : i = v
        · rw [e]; exact Int.le_refl _
        · have := H1 i (by omega); omega) (fun i hi => by have := H1 i (by omega); omega)
theorem m_least {n : Nat} (hn : n ≤ 201) (h1 : 1 ≤ n) {τ : zSt} (h33 : gi τ 61 33 = Int32.ofNat n) : ∃ w, w < n ∧ fX9_least τ = some (Int32.ofNat w) ∧ (∀ i, i < n → (gl τ 80 w).toInt ≤ (gl τ 80 i).toInt) ∧ ∀ i, i < w → (gl τ 80 w).toInt < (gl τ 80 i).toInt := by
  obtain ⟨Z, hZ⟩ := zFU_ge 1000 (by omega)
  exact m_leastL hn h33 (n - 1) 1 zFU 0 (by omega) (by omega) (by omega) (fun i hi => by
    have : i = 0 := by omega
    rw [this]; exact Int.le_refl _) (fun i hi => absurd hi (by omega))
theorem x_can {n b : Nat} (hn : n ≤ 200) (hb : b < n) {σ : zSt} (h44 : gi σ 4 4 = Int32.ofNat n) : fX2_canHalve (Int32.ofNat b) σ = some (if 2 ≤ (gi σ 14 b).toInt - (gi σ 13 b).toInt then 1 else 0) := by
  show fX2_canHalve_0 _ σ = _
  unfold fX2_canHalve_0
  have en := iNt (n := n) (by omega)
  have eb := iNt (n := b) (by omega)
  have vb := vin (N := 201) eb (by omega)
  have r1 := qI_rng (gi σ 14 b)
  have r2 := qI_rng (gi σ 13 b)
  have ew : ((gi σ 14 b).toInt64 - (gi σ 13 b).toInt64).toInt = (gi σ 14 b).toInt - (gi σ 13 b).toInt := by rw [qL_sub (by rw [qL_ofI, qL_ofI]; omega) (by rw [qL_ofI, qL_ofI]; omega), qL_ofI, qL_ofI]
  rw [h44, if_neg (show ¬ Int32.ofNat b < 0 by rw [qI_neg0, eb]; omega), if_neg (show ¬ (201 : Int32) ≤ Int32.ofNat b by rw [qI_le, eb, e201I]; omega), if_neg (show ¬ Int32.ofNat n < 0 by rw [qI_neg0, en]; omega), if_neg (show ¬ (201 : Int32) ≤ Int32.ofNat n by rw [qI_le, en, e201I]; omega), zg_pos vb, zg_pos vb, iN_cl (by omega), nm_eq]
  by_cases c : 2 ≤ (gi σ 14 b).toInt - (gi σ 13 b).toInt
  · rw [if_neg (show ¬ (gi σ 14 b).toInt64 - (gi σ 13 b).toInt64 < 2 by rw [qL_lt, ew, e2L]; omega), if_pos c]
  · rw [if_pos (show (gi σ 14 b).toInt64 - (gi σ 13 b).toInt64 < 2 by rw [qL_lt, ew, e2L]; omega), if_neg c]
