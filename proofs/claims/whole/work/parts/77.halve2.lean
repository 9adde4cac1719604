/-! the Model's rows when one is halved -/
theorem m_halveL {n w : Nat} (hn : n ≤ 250) (hw : w < n) {τ : zSt} (h33 : gi τ 61 33 = Int32.ofNat n) {a b : Int} (ha : (gl τ 78 w).toInt = a) (hb : (gl τ 79 w).toInt = b) (ra : -2147483648 ≤ a ∧ a ≤ 2147483647) (rb : -2147483648 ≤ b ∧ b ≤ 2147483647) : ∀ (d i F : Nat) (ρ : zSt), i = w + 1 + d → i ≤ n → d < F → (∀ c k, gi ρ c k = gi τ c k) → (∀ c k, gl ρ c k = if (78 ≤ c ∧ c ≤ 81) ∧ i < k ∧ k ≤ n then gl τ c (k - 1) else gl τ c k) → ∃ τ' m, fX9_halve_L5 F (Int32.ofNat w) (Int32.ofNat i) ρ = some τ' ∧ m.toInt = (a + b) / 2 ∧ (∀ c k, gi τ' c k = if c = 61 ∧ k = 33 then Int32.ofNat (n + 1) else gi τ c k) ∧ ∀ c k, gl τ' c k = if c = 78 ∧ k = w + 1 then m else if c = 79 ∧ k = w then m else if c = 79 ∧ k = w + 1 then gl τ 79 w else if (78 ≤ c ∧ c ≤ 81) ∧ w + 1 < k ∧ k ≤ n then gl τ c (k - 1) else gl τ c k := by
  intro d
  induction d with
  | zero =>
    intro i F ρ hi hin hF g1 g2
    obtain ⟨F, rfl⟩ : ∃ F', F = F' + 1 := ⟨F - 1, by omega⟩
    have e : i = w + 1 := by omega
    subst e
    have vw := vin (N := 260) (iNt (n := w) (by omega)) (by omega)
    have vw1 := vin (N := 260) (iNt (n := w + 1) (by omega)) (by omega)
    have o1 : gl ρ 78 w = gl τ 78 w := by rw [g2, if_neg (by omega)]
    have o2 : gl ρ 79 w = gl τ 79 w := by rw [g2, if_neg (by omega)]
    obtain ⟨m, m1, m2⟩ := m_mid (p := gl ρ 78 w) (q := gl ρ 79 w) (by rw [o1]; exact ha) (by rw [o2]; exact hb) ra rb
    rw [fX9_halve_L5]
    unfold fX9_halve_5
    rw [iN_s (by omega), if_pos (qI_le.mpr (Int.le_refl _)), zg_pos vw, zg_pos vw, iN_cl (by omega), m1, bd1_some, zg_pos vw, zg_pos vw1, zg_pos vw1, zg_pos vw, iN_cl (by omega), g1, h33, iN_s (by omega), o2]
    refine ⟨_, m, rfl, m2, fun c k => ?_, fun c k => ?_⟩
    · rw [gi_si, gi_sl, gi_sl, gi_sl, g1]
    · rw [gl_si, gl_sl, gl_sl, gl_sl, g2]
      by_cases q1 : c = 79 ∧ k = w
      · rw [if_pos q1, if_neg (by omega), if_pos q1]
      rw [if_neg q1]
      by_cases q2 : c = 78 ∧ k = w + 1
      · rw [if_pos q2, if_pos q2]
      rw [if_neg q2, if_neg q2, if_neg q1]
  | succ d ih =>
    intro i F ρ hi hin hF g1 g2
    obtain ⟨F, rfl⟩ : ∃ F', F = F' + 1 := ⟨F - 1, by omega⟩
    obtain ⟨i, rfl⟩ : ∃ i', i = i' + 1 := ⟨i - 1, by omega⟩
    have vi := vin (N := 260) (iNt (n := i) (by omega)) (by omega)
    have vi1 := vin (N := 260) (iNt (n := i + 1) (by omega)) (by omega)
    rw [fX9_halve_L5]
    unfold fX9_halve_5
    have em : Int32.ofNat (i + 1) + -1 = Int32.ofNat i := by
      rw [qI_eq, qI_add (by rw [iNt (by omega), show (-1 : Int32).toInt = -1 by decide]; omega) (by rw [iNt (by omega), show (-1 : Int32).toInt = -1 by decide]; omega), iNt (by omega), iNt (by omega), show (-1 : Int32).toInt = -1 by decide]; omega
    rw [iN_s (by omega), if_neg (show ¬ Int32.ofNat (i + 1) ≤ Int32.ofNat (w + 1) by rw [qI_le, iNt (by omega), iNt (by omega)]; omega), iN_p (by omega), zg_pos vi, zg_pos vi1, zg_pos vi, zg_pos vi1, zg_pos vi, zg_pos vi1, zg_pos vi, zg_pos vi1, iN_cl (by omega), iN_cl (by omega), nm_eq, em]
    refine ih i F _ (by omega) (by omega) (by omega) (fun c k => by rw [gi_sl, gi_sl, gi_sl, gi_sl]; exact g1 c k) (fun c k => ?_)
    have o : ∀ c', gl ρ c' i = gl τ c' i := fun c' => by rw [g2, if_neg (by omega)]
    rw [gl_sl, gl_sl, gl_sl, gl_sl, o, o, o, o, g2]
    by_cases q : (78 ≤ c ∧ c ≤ 81) ∧ k = i + 1
    · obtain ⟨qc, qk⟩ := q
      rw [if_pos (show (78 ≤ c ∧ c ≤ 81) ∧ i < k ∧ k ≤ n by omega), qk, show i + 1 - 1 = i by omega]
      rcases (show c = 78 ∨ c = 79 ∨ c = 80 ∨ c = 81 by omega) with rfl | rfl | rfl | rfl
      · rw [if_neg (by omega), if_neg (by omega), if_neg (by omega), if_pos (by omega)]
      · rw [if_neg (by omega), if_neg (by omega), if_pos (by omega)]
      · rw [if_neg (by omega), if_pos (by omega)]
      · rw [if_pos (by omega)]
    · rw [if_neg (by omega), if_neg (by omega), if_neg (by omega), if_neg (by omega)]
      by_cases q2 : (78 ≤ c ∧ c ≤ 81) ∧ i + 1 < k ∧ k ≤ n
      · rw [if_pos q2, if_pos (by omega)]
      · rw [if_neg q2, if_neg (by omega)]
theorem m_halve {n w : Nat} (hn : n ≤ 250) (hw : w < n) {τ : zSt} (h33 : gi τ 61 33 = Int32.ofNat n) {a b : Int} (ha : (gl τ 78 w).toInt = a) (hb : (gl τ 79 w).toInt = b) (ra : -2147483648 ≤ a ∧ a ≤ 2147483647) (rb : -2147483648 ≤ b ∧ b ≤ 2147483647) : ∃ τ' m, fX9_halve (Int32.ofNat w) τ = some τ' ∧ m.toInt = (a + b) / 2 ∧ (∀ c k, gi τ' c k = if c = 61 ∧ k = 33 then Int32.ofNat (n + 1) else gi τ c k) ∧ ∀ c k, gl τ' c k = if c = 78 ∧ k = w + 1 then m else if c = 79 ∧ k = w then m else if c = 79 ∧ k = w + 1 then gl τ 79 w else if (78 ≤ c ∧ c ≤ 81) ∧ w + 1 < k ∧ k ≤ n then gl τ c (k - 1) else gl τ c k := by
  obtain ⟨Z, hZ⟩ := zFU_ge 1000 (by omega)
  show ∃ τ' m, fX9_halve_0 _ τ = _ ∧ _
  unfold fX9_halve_0
  rw [nm_eq, h33]
  exact m_halveL hn hw h33 ha hb ra rb (n - w - 1) n zFU τ (by omega) (by omega) (by omega) (fun _ _ => rfl) (fun c k => by rw [if_neg (by omega)])
def hP (n w : Nat) (p : Nat → Nat) (i : Nat) : Nat := if i ≤ w then p i else if i = w + 1 then n else p (i - 1)
/-- the rows behind a halving stand for the same parts -/
theorem h_halve {n w : Nat} {p : Nat → Nat} {σ τ σ' τ' : zSt} (h : hRel n p σ τ) (hw : w < n) {m : Int32} {mm x1 y1 x2 y2 : Int64} (hm : mm.toInt = m.toInt) (h1 : (gl τ 78 w).toInt < mm.toInt) (h2 : mm.toInt < (gl τ 79 w).toInt) (X4 : gi σ' 4 4 = Int32.ofNat (n + 1)) (X13 : ∀ j, j ≤ n → gi σ' 13 j = if j = n then m else gi σ 13 j) (X14 : ∀ j, j ≤ n → gi σ' 14 j = if j = n then gi σ 14 (p w) else if j = p w then m else gi σ 14 j) (X15 : ∀ j, j ≤ n → gl σ' 15 j = if j = n then x2 else if j = p w then x1 else gl σ 15 j) (X16 : ∀ j, j ≤ n → gl σ' 16 j = if j = n then y2 else if j = p w then y1 else gl σ 16 j) (M33 : gi τ' 61 33 = Int32.ofNat (n + 1)) (M78 : ∀ j, j ≤ n → gl τ' 78 j = if j ≤ w then gl τ 78 j else if j = w + 1 then mm else gl τ 78 (j - 1)) (M79 : ∀ j, j ≤ n → gl τ' 79 j = if j < w then gl τ 79 j else if j = w then mm else gl τ 79 (j - 1)) (M80 : ∀ j, j ≤ n → gl τ' 80 j = if j < w then gl τ 80 j else if j = w then x1 else if j = w + 1 then x2 else gl τ 80 (j - 1)) (M81 : ∀ j, j ≤ n → gl τ' 81 j = if j < w then gl τ 81 j else if j = w then y1 else if j = w + 1 then y2 else gl τ 81 (j - 1)) : hRel (n + 1) (hP n w p) σ' τ' := by
  obtain ⟨-, -, h3, h4, h5, h6⟩ := id h
  refine ⟨X4, M33, fun i hi => ?_, fun j hj => ?_, fun i hi => ?_, fun i hi => ?_⟩
  · unfold hP
    by_cases c1 : i ≤ w
    · rw [if_pos c1]
      obtain ⟨k1, k2, k3, k4, k5⟩ := h3 i (by omega)
      refine ⟨by omega, ?_, ?_, ?_, ?_⟩
      · rw [M78 i (by omega), if_pos c1, X13 _ (by omega), if_neg (by omega)]; exact k2
      all_goals by_cases c2 : i = w
      · rw [M79 i (by omega), if_neg (by omega), if_pos c2, X14 _ (by omega), if_neg (by omega), if_pos (by rw [c2])]; exact hm
      · rw [M79 i (by omega), if_pos (by omega), X14 _ (by omega), if_neg (by omega), if_neg (fun e => c2 (h_inj h (by omega) hw e))]; exact k3
      · rw [M80 i (by omega), if_neg (by omega), if_pos c2, X15 _ (by omega), if_neg (by omega), if_pos (by rw [c2])]
      · rw [M80 i (by omega), if_pos (by omega), X15 _ (by omega), if_neg (by omega), if_neg (fun e => c2 (h_inj h (by omega) hw e))]; exact k4
      · rw [M81 i (by omega), if_neg (by omega), if_pos c2, X16 _ (by omega), if_neg (by omega), if_pos (by rw [c2])]
      · rw [M81 i (by omega), if_pos (by omega), X16 _ (by omega), if_neg (by omega), if_neg (fun e => c2 (h_inj h (by omega) hw e))]; exact k5
    · rw [if_neg c1]
      by_cases c2 : i = w + 1
      · rw [if_pos c2]
        refine ⟨by omega, ?_, ?_, ?_, ?_⟩
        · rw [M78 i (by omega), if_neg c1, if_pos c2, X13 _ (by omega), if_pos rfl]; exact hm
        · rw [M79 i (by omega), if_neg (by omega), if_neg (by omega), X14 _ (by omega), if_pos rfl, c2, show w + 1 - 1 = w by omega]; exact (h3 w hw).2.2.1
        · rw [M80 i (by omega), if_neg (by omega), if_neg (by omega), if_pos c2, X15 _ (by omega), if_pos rfl]
        · rw [M81 i (by omega), if_neg (by omega), if_neg (by omega), if_pos c2, X16 _ (by omega), if_pos rfl]
      · rw [if_neg c2]
        obtain ⟨k1, k2, k3, k4, k5⟩ := h3 (i - 1) (by omega)
        have ne : ¬ p (i - 1) = p w := fun e => by
          have := h_inj h (by omega) hw e
          omega
        refine ⟨by omega, ?_, ?_, ?_, ?_⟩
        · rw [M78 i (by omega), if_neg c1, if_neg c2, X13 _ (by omega), if_neg (by omega)]; exact k2
        · rw [M79 i (by omega), if_neg (by omega), if_neg (by omega), X14 _ (by omega), if_neg (by omega), if_neg ne]; exact k3
        · rw [M80 i (by omega), if_neg (by omega), if_neg (by omega), if_neg c2, X15 _ (by omega), if_neg (by omega), if_neg ne]; exact k4
        · rw [M81 i (by omega), if_neg (by omega), if_neg (by omega), if_neg c2, X16 _ (by omega), if_neg (by omega), if_neg ne]; exact k5
  · by_cases c1 : j = n
    · exact ⟨w + 1, by omega, by unfold hP; rw [if_neg (by omega), if_pos rfl, c1]⟩
    · obtain ⟨i, hi, e⟩ := h4 j (by omega)
      by_cases c2 : i ≤ w
      · exact ⟨i, by omega, by unfold hP; rw [if_pos c2]; exact e⟩
      · exact ⟨i + 1, by omega, by unfold hP; rw [if_neg (by omega), if_neg (by omega), show i + 1 - 1 = i by omega]; exact e⟩
  · rw [M78 i (by omega), M79 i (by omega)]
    by_cases c1 : i < w
    · rw [if_pos (by omega), if_pos c1]; exact h5 i (by omega)
    rw [if_neg c1]
    by_cases c2 : i = w
    · rw [if_pos (by omega), if_pos c2, c2]; omega
    rw [if_neg (by omega), if_neg c2]
    by_cases c3 : i = w + 1
    · rw [if_pos c3, c3, show w + 1 - 1 = w by omega]; omega
    · rw [if_neg c3]; exact h5 (i - 1) (by omega)
  · rw [M78 i (by omega), M79 i (by omega), M78 (i + 1) (by omega)]
    by_cases c1 : i < w
    · rw [if_pos (by omega), if_pos c1, if_pos (by omega)]; exact h6 i (by omega)
    rw [if_neg c1]
    by_cases c2 : i = w
    · rw [if_pos (by omega), if_pos c2, if_neg (by omega), if_pos (by omega), c2]; omega
    have q1 : ¬ i ≤ w := by omega
    have q2 : ¬ i + 1 ≤ w := by omega
    have q3 : ¬ i + 1 = w + 1 := by omega
    rw [if_neg q1, if_neg c2, if_neg q2, if_neg q3, show i + 1 - 1 = i by omega]
    by_cases c3 : i = w + 1
    · rw [if_pos c3]
      have := h6 (i - 1) (by omega)
      rw [show i - 1 + 1 = i by omega] at this
      rw [show i - 1 = w by omega] at this ⊢
      omega
    · rw [if_neg c3]
      have := h6 (i - 1) (by omega)
      rw [show i - 1 + 1 = i by omega] at this
      exact this
/-- behind the search for the widest part -/
noncomputable def mAfin (K104 : Int32 → Int32 → Int64 → Int64 → Int64 → Int32 → zSt → Option (Int32 × zSt)) (v1 : Int32) (v4 : Int32) (v5 : Int64) (v9 : Int64) (v11 : Int64) (v13 : Int32) (v14 : Int32) (σ : zSt) : Option (Int32 × zSt) := zg (vp_in v14 260) <| zg (vp_in v14 260) <| 
      (if (2 : Int64) ≤ ((gl σ 79 v14.toNatClampNeg) - (gl σ 78 v14.toNatClampNeg)) then bd1 (fX9_halve v14 σ) fun s214_5 => bd2 (fX9_sumOf v1 v14 s214_5) fun r221_6 s221_7 => 
        (if r221_6 = 0 then some ((1 : Int32), s221_7)
        else bd2 (fX9_sumOf v1 (v14 + (1 : Int32)) s221_7) fun r233_9 s233_10 => 
          (if r233_9 = 0 then some ((1 : Int32), s233_10)
          else fX9_area_L250 K104 zFU v1 v4 v5 v9 v11 v13 (0 : Int64) (0 : Int64) (0 : Int32) s233_10))
      else bd2 (fX9_tells (1 : Int32) v9 v11 (si σ 61 38 (gi σ 61 33))) fun r327_12 s327_13 => some (r327_12, s327_13))
theorem m_widL {K104 : Int32 → Int32 → Int64 → Int64 → Int64 → Int32 → zSt → Option (Int32 × zSt)} {v1 v4 v13 : Int32} {v5 v9 v11 : Int64} {n : Nat} (hn : n ≤ 201) {τ : zSt} (h33 : gi τ 61 33 = Int32.ofNat n) (hB : ∀ j, j < n → (-8796093022208 ≤ (gl τ 80 j).toInt ∧ (gl τ 80 j).toInt ≤ 8796093022208) ∧ -8796093022208 ≤ (gl τ 81 j).toInt ∧ (gl τ 81 j).toInt ≤ 8796093022208) : ∀ d v F w, v + d = n → d < F → w < v → (∀ i, i < v → cW' τ w ≤ cW' τ i) → (∀ i, i < w → cW' τ w < cW' τ i) → ∃ w', w' < n ∧ fX9_area_L128 K104 F v1 v4 v5 v9 v11 v13 (Int32.ofNat w) (Int32.ofNat v) τ = mAfin K104 v1 v4 v5 v9 v11 v13 (Int32.ofNat w') τ ∧ (∀ i, i < n → cW' τ w' ≤ cW' τ i) ∧ ∀ i, i < w' → cW' τ w' < cW' τ i := by
  intro d
  induction d with
  | zero =>
    intro v F w hv hF hw H1 H2
    obtain ⟨F, rfl⟩ : ∃ F', F = F' + 1 := ⟨F - 1, by omega⟩
    have e : v = n := by omega
    subst e
    refine ⟨w, hw, ?_, H1, H2⟩
    rw [fX9_area_L128]
    unfold fX9_area_128
    rw [h33, if_pos (qI_le.mpr (Int.le_refl _))]
    unfold mAfin
    rw [h33]
  | succ d ih =>
    intro v F w hv hF hw H1 H2
    obtain ⟨F, rfl⟩ : ∃ F', F = F' + 1 := ⟨F - 1, by omega⟩
    rw [fX9_area_L128]
    unfold fX9_area_128
    have en := iNt (n := n) (by omega)
    have ev := iNt (n := v) (by omega)
    have vv := vin (N := 260) ev (by omega)
    have vw := vin (N := 260) (iNt (n := w) (by omega)) (by omega)
    rw [h33, if_neg (show ¬ Int32.ofNat n ≤ Int32.ofNat v by rw [qI_le, en, ev]; omega), zg_pos vv, zg_pos vv, zg_pos vw, zg_pos vw, iN_cl (by omega), iN_cl (by omega)]
    repeat rw [nm_eq]
    rw [iN_s (by omega)]
    obtain ⟨⟨a1, a2⟩, a3, a4⟩ := hB v (by omega)
    obtain ⟨⟨b1, b2⟩, b3, b4⟩ := hB w (by omega)
    have e1 : (gl τ 81 v - gl τ 80 v).toInt = (gl τ 81 v).toInt - (gl τ 80 v).toInt := qL_sub (by omega) (by omega)
    have e2 : (gl τ 81 w - gl τ 80 w).toInt = (gl τ 81 w).toInt - (gl τ 80 w).toInt := qL_sub (by omega) (by omega)
    by_cases c : cW' τ w ≤ cW' τ v
    · rw [if_pos (show gl τ 81 v - gl τ 80 v ≤ gl τ 81 w - gl τ 80 w by rw [qL_le, e1, e2]; unfold cW' at c; omega)]
      exact ih (v + 1) F w (by omega) (by omega) (by omega) (fun i hi => by
        by_cases e : i = v
        · rw [e]; exact c
        · exact H1 i (by omega)) H2
    · rw [if_neg (show ¬ gl τ 81 v - gl τ 80 v ≤ gl τ 81 w - gl τ 80 w by rw [qL_le, e1, e2]; unfold cW' at c; omega)]
      exact ih (v + 1) F v (by omega) (by omega) (by omega) (fun i hi => by
        by_cases e : i = v
        · rw [e]; exact Int.le_refl _
        · have := H1 i (by omega); omega) (fun i hi => by have := H1 i (by omega); omega)
