/-! what a WORD is -/
theorem wd_0 {β : Nat → Nat} {p e i : Nat} (hi : i < 9) (h : wd β p e i) : p < e ∧ 97 ≤ β p ∧ β p ≤ 122 := by
  have l := zL_ok i hi
  have b := zB_ok i hi 0 (by omega)
  have := h.2 0 (by omega)
  rw [Nat.add_zero] at this
  exact ⟨by have := h.1; omega, by omega, by omega⟩
abbrev noNm (β : Nat → Nat) (p e i : Nat) : Prop := ∀ j, 1 ≤ j → j < i → ¬ wd β p e j
theorem x_nameOf {n : Nat} {β : Nat → Nat} (hn : n ≤ 200) (hb : ∀ p, p < n → β p < 256) {σ : zSt} (ht : tpX n β σ) {p e : Nat} (hp : gi σ 1 2 = Int32.ofNat p) (hpe : p ≤ e) (hen : e ≤ n) : (∃ i, 1 ≤ i ∧ i ≤ 8 ∧ wd β p e i ∧ noNm β p e i ∧ fX3_nameOf (Int32.ofNat e) σ = some (Int32.ofNat (i + 4))) ∨ (noNm β p e 9 ∧ fX3_nameOf (Int32.ofNat e) σ = some (-1)) := by
  show (∃ i, _ ∧ _ ∧ _ ∧ _ ∧ fX3_nameOf_0 (Int32.ofNat e) σ = _) ∨ (_ ∧ fX3_nameOf_0 (Int32.ofNat e) σ = _)
  unfold fX3_nameOf_0
  have w := fun i (hi : i < 9) => x_isWord hn hb ht hi hp hpe hen
  have z : (0 : Int32) = 0 := rfl
  rw [w 1 (by omega), bd1_some]
  by_cases h1 : wd β p e 1
  · rw [if_pos h1, if_neg iNe1]; exact Or.inl ⟨1, by omega, by omega, h1, fun j a b => absurd b (by omega), rfl⟩
  rw [if_neg h1, if_pos z, w 2 (by omega), bd1_some]
  by_cases h2 : wd β p e 2
  · rw [if_pos h2, if_neg iNe1]; exact Or.inl ⟨2, by omega, by omega, h2, fun j a b => by rw [show j = 1 by omega]; exact h1, rfl⟩
  rw [if_neg h2, if_pos z, w 3 (by omega), bd1_some]
  by_cases h3 : wd β p e 3
  · rw [if_pos h3, if_neg iNe1]; exact Or.inl ⟨3, by omega, by omega, h3, fun j a b => by
      rcases (show j = 1 ∨ j = 2 by omega) with e | e <;> rw [e] <;> assumption, rfl⟩
  rw [if_neg h3, if_pos z, w 4 (by omega), bd1_some]
  by_cases h4 : wd β p e 4
  · rw [if_pos h4, if_neg iNe1]; exact Or.inl ⟨4, by omega, by omega, h4, fun j a b => by
      rcases (show j = 1 ∨ j = 2 ∨ j = 3 by omega) with e | e | e <;> rw [e] <;> assumption, rfl⟩
  rw [if_neg h4, if_pos z, w 5 (by omega), bd1_some]
  by_cases h5 : wd β p e 5
  · rw [if_pos h5, if_neg iNe1]; exact Or.inl ⟨5, by omega, by omega, h5, fun j a b => by
      rcases (show j = 1 ∨ j = 2 ∨ j = 3 ∨ j = 4 by omega) with e | e | e | e <;> rw [e] <;> assumption, rfl⟩
  rw [if_neg h5, if_pos z, w 6 (by omega), bd1_some]
  by_cases h6 : wd β p e 6
  · rw [if_pos h6, if_neg iNe1]; exact Or.inl ⟨6, by omega, by omega, h6, fun j a b => by
      rcases (show j = 1 ∨ j = 2 ∨ j = 3 ∨ j = 4 ∨ j = 5 by omega) with e | e | e | e | e <;> rw [e] <;> assumption, rfl⟩
  rw [if_neg h6, if_pos z, w 7 (by omega), bd1_some]
  by_cases h7 : wd β p e 7
  · rw [if_pos h7, if_neg iNe1]; exact Or.inl ⟨7, by omega, by omega, h7, fun j a b => by
      rcases (show j = 1 ∨ j = 2 ∨ j = 3 ∨ j = 4 ∨ j = 5 ∨ j = 6 by omega) with e | e | e | e | e | e <;> rw [e] <;> assumption, rfl⟩
  rw [if_neg h7, if_pos z, w 8 (by omega), bd1_some]
  by_cases h8 : wd β p e 8
  · rw [if_pos h8, if_neg iNe1]; exact Or.inl ⟨8, by omega, by omega, h8, fun j a b => by
      rcases (show j = 1 ∨ j = 2 ∨ j = 3 ∨ j = 4 ∨ j = 5 ∨ j = 6 ∨ j = 7 by omega) with e | e | e | e | e | e | e <;> rw [e] <;> assumption, rfl⟩
  rw [if_neg h8, if_pos z]
  exact Or.inr ⟨fun j a b => by
    rcases (show j = 1 ∨ j = 2 ∨ j = 3 ∨ j = 4 ∨ j = 5 ∨ j = 6 ∨ j = 7 ∨ j = 8 by omega) with e | e | e | e | e | e | e | e <;> rw [e] <;> assumption, rfl⟩
abbrev isCv (β : Nat → Nat) (p e : Nat) : Prop := e = p + 2 ∧ β p = 99 ∧ 48 ≤ β (p + 1) ∧ β (p + 1) < 56
def kdOf (β : Nat → Nat) (p e : Nat) (r : Int32) : Prop :=
  (wd β p e 0 ∧ r = 0) ∨ (¬ wd β p e 0 ∧ isNm β p e (dr β e p) ∧ r = 1) ∨
  (¬ wd β p e 0 ∧ ¬ isNm β p e (dr β e p) ∧ ∃ i, 1 ≤ i ∧ i ≤ 8 ∧ wd β p e i ∧ noNm β p e i ∧ r = Int32.ofNat (i + 4)) ∨
  (¬ wd β p e 0 ∧ ¬ isNm β p e (dr β e p) ∧ noNm β p e 9 ∧ isCv β p e ∧ r = 2) ∨
  (¬ wd β p e 0 ∧ ¬ isNm β p e (dr β e p) ∧ noNm β p e 9 ∧ ¬ isCv β p e ∧ r = -1)
theorem x_curveNumber {n : Nat} {β : Nat → Nat} (hn : n ≤ 200) (hb : ∀ p, p < n → β p < 256) {σ : zSt} (ht : tpX n β σ) {p : Nat} (hp : gi σ 1 2 = Int32.ofNat p) (h : p + 1 < n) : ∃ r, fX3_curveNumber σ = some r ∧ r.toInt = (β (p + 1) : Int) - 48 := by
  show ∃ r, fX3_curveNumber_0 σ = _ ∧ _
  unfold fX3_curveNumber_0
  have := hb (p + 1) h
  rw [hp, iN_s (by omega), x_byte hn ht (by omega), bd1_some]
  refine ⟨_, rfl, ?_⟩
  unfold chI
  have e48 : (48 : Int32).toInt = 48 := by decide
  rw [if_pos h, qI_sub (by rw [iNt (by omega), e48]; omega) (by rw [iNt (by omega), e48]; omega), iNt (by omega), e48]
theorem x_kindOf {n : Nat} {β : Nat → Nat} (hn : n ≤ 200) (hb : ∀ p, p < n → β p < 256) {σ : zSt} (ht : tpX n β σ) {p e : Nat} (hp : gi σ 1 2 = Int32.ofNat p) (hpe : p ≤ e) (hen : e ≤ n) : ∃ r, fX3_kindOf (Int32.ofNat e) σ = some r ∧ kdOf β p e r := by
  show ∃ r, fX3_kindOf_0 (Int32.ofNat e) σ = _ ∧ _
  unfold fX3_kindOf_0 kdOf
  have e8 : (8 : Int32).toInt = 8 := by decide
  have e2 : (2 : Int32).toInt = 2 := by decide
  have dd := dr_ok (β := β) hpe (by omega)
  rw [hp, x_byte hn ht (by omega), bd1_some, x_isD (hb p)]
  by_cases q : p < n ∧ isDb (β p) = true
  · have db := db_iff.mp q.2
    have nw : ∀ i, i < 9 → ¬ wd β p e i := fun i hi h => by have := wd_0 hi h; omega
    rw [if_pos q, if_neg iNe1, x_isNumber hn hb ht hp hpe hen, bd1_some]
    by_cases h : isNm β p e (dr β e p)
    · rw [if_pos h, if_neg iNe1]
      exact ⟨_, rfl, Or.inr (Or.inl ⟨nw 0 (by omega), h, rfl⟩)⟩
    · rw [if_neg h, if_pos (show (0 : Int32) = 0 from rfl)]
      exact ⟨_, rfl, Or.inr (Or.inr (Or.inr (Or.inr ⟨nw 0 (by omega), h, fun j a b => nw j b, fun c => by have := c.2.1; omega, rfl⟩)))⟩
  · have nn : ¬ isNm β p e (dr β e p) := fun h => q ⟨by have := h.1; omega, dd.2.2.2 p (Nat.le_refl _) h.1⟩
    rw [if_neg q, if_pos (show (0 : Int32) = 0 from rfl), x_isWord hn hb ht (by omega) hp hpe hen, bd1_some]
    by_cases h0 : wd β p e 0
    · rw [if_pos h0, if_neg iNe1]
      exact ⟨_, rfl, Or.inl ⟨h0, rfl⟩⟩
    rw [if_neg h0, if_pos (show (0 : Int32) = 0 from rfl), iN_m (by omega) hpe]
    have nameC : ¬ isCv β p e → ∃ r, (bd1 (fX3_nameOf (Int32.ofNat e) σ) fun r => some r) = some r ∧ ((wd β p e 0 ∧ r = 0) ∨ (¬ wd β p e 0 ∧ isNm β p e (dr β e p) ∧ r = 1) ∨
  (¬ wd β p e 0 ∧ ¬ isNm β p e (dr β e p) ∧ ∃ i, 1 ≤ i ∧ i ≤ 8 ∧ wd β p e i ∧ noNm β p e i ∧ r = Int32.ofNat (i + 4)) ∨
  (¬ wd β p e 0 ∧ ¬ isNm β p e (dr β e p) ∧ noNm β p e 9 ∧ isCv β p e ∧ r = 2) ∨
  (¬ wd β p e 0 ∧ ¬ isNm β p e (dr β e p) ∧ noNm β p e 9 ∧ ¬ isCv β p e ∧ r = -1)) := by
      intro hc
      rcases x_nameOf hn hb ht hp hpe hen with ⟨i, a1, a2, a3, a4, a5⟩ | ⟨a4, a5⟩
      · rw [a5, bd1_some]
        exact ⟨_, rfl, Or.inr (Or.inr (Or.inl ⟨h0, nn, i, a1, a2, a3, a4, rfl⟩))⟩
      · rw [a5, bd1_some]
        exact ⟨_, rfl, Or.inr (Or.inr (Or.inr (Or.inr ⟨h0, nn, a4, hc, rfl⟩)))⟩
    by_cases l2 : e = p + 2
    · rw [if_pos (show Int32.ofNat (e - p) = 2 by rw [qI_eq, iNt (by omega), e2]; omega), bd1_some]
      have cm := chI_eq (n := n) (β := β) (p := p) (fun h => hb _ h) (k := 99) (by omega)
      by_cases c : β p = 99
      · rw [if_pos (show chI n β p = 99 from cm.mpr ⟨by omega, c⟩)]
        obtain ⟨r, r1, r2⟩ := x_curveNumber hn hb ht hp (by omega)
        have nw : noNm β p e 9 := fun j a b h => by
          have := (zL_ok j b).2.2.2 a
          have := h.1
          omega
        rw [r1, bd1_some]
        by_cases g1 : 48 ≤ β (p + 1)
        · rw [if_neg (show ¬ r < 0 by rw [qI_neg0]; omega)]
          by_cases g2 : β (p + 1) < 56
          · rw [if_neg (show ¬ (8 : Int32) ≤ r by rw [qI_le, e8]; omega)]
            exact ⟨_, rfl, Or.inr (Or.inr (Or.inr (Or.inl ⟨h0, nn, nw, ⟨l2, c, g1, g2⟩, rfl⟩)))⟩
          · rw [if_pos (show (8 : Int32) ≤ r by rw [qI_le, e8]; omega)]
            exact ⟨_, rfl, Or.inr (Or.inr (Or.inr (Or.inr ⟨h0, nn, nw, fun h => g2 h.2.2.2, rfl⟩)))⟩
        · rw [if_pos (show r < 0 by rw [qI_neg0]; omega)]
          exact ⟨_, rfl, Or.inr (Or.inr (Or.inr (Or.inr ⟨h0, nn, nw, fun h => g1 h.2.2.1, rfl⟩)))⟩
      · rw [if_neg (show ¬ chI n β p = 99 from fun h => c (cm.mp h).2)]
        exact nameC fun h => c h.2.1
    · rw [if_neg (show ¬ Int32.ofNat (e - p) = 2 by rw [qI_eq, iNt (by omega), e2]; omega)]
      exact nameC fun h => l2 h.1
/-! the Model's search for a name -/
theorem m_nm : ∀ i, i < 9 → 1 ≤ i → fX9_nameOf (Int32.ofNat (i + 8)) = i := by decide +kernel
theorem m_namesL {n : Nat} {β : Nat → Nat} (hn : n ≤ 200) (hb : ∀ p, p < n → β p < 256) {τ : zSt} (ht : tpM n β τ) {p e : Nat} (hp : gi τ 61 10 = Int32.ofNat p) (hpe : p ≤ e) (hen : e ≤ n) (F : Nat → Int32 → zSt → Option (Int32 × zSt)) (v1 : Int32) : ∀ (k i K : Nat), 1 ≤ i → i ≤ 9 → 9 ≤ i + k → k < K → noNm β p e i → (noNm β p e 9 ∧ ∃ K', fX9_part_L125 F K v1 (Int32.ofNat e) (Int32.ofNat (i + 8)) τ = fX9_part_125 F K' v1 (Int32.ofNat e) 17 τ) ∨ ∃ j, 1 ≤ j ∧ j ≤ 8 ∧ wd β p e j ∧ noNm β p e j ∧ fX9_part_L125 F K v1 (Int32.ofNat e) (Int32.ofNat (i + 8)) τ = bd2 (F 4 (Int32.ofNat (j + 8)) τ) fun r s => some (r, s) := by
  have e16 : (16 : Int32).toInt = 16 := by decide
  intro k
  induction k with
  | zero =>
    intro i K h1 h2 h3 h4 h5
    obtain ⟨K, rfl⟩ : ∃ K', K = K' + 1 := ⟨K - 1, by omega⟩
    rw [show i = 9 by omega] at h5 ⊢
    exact Or.inl ⟨h5, _, rfl⟩
  | succ k ih =>
    intro i K h1 h2 h3 h4 h5
    by_cases h9 : i = 9
    · obtain ⟨K, rfl⟩ : ∃ K', K = K' + 1 := ⟨K - 1, by omega⟩
      rw [h9] at h5 ⊢
      exact Or.inl ⟨h5, _, rfl⟩
    · obtain ⟨K, rfl⟩ : ∃ K', K = K' + 1 := ⟨K - 1, by omega⟩
      rw [fX9_part_L125]
      unfold fX9_part_125
      rw [if_neg (show ¬ (16 : Int32) < Int32.ofNat (i + 8) by rw [qI_lt, iNt (by omega), e16]; omega), m_nm i (by omega) h1, zg_pos (show i < 9 by omega), m_stands hn hb ht (by omega) hp hpe hen, bd1_some]
      by_cases w : wd β p e i
      · rw [if_pos w, if_neg iNe1]
        exact Or.inr ⟨i, h1, by omega, w, h5, rfl⟩
      · rw [if_neg w, if_pos (show (0 : Int32) = 0 from rfl), nm_eq, iN_s (by omega)]
        rw [show i + 8 + 1 = i + 1 + 8 by omega]
        exact ih (i + 1) K (by omega) (by omega) (by omega) (by omega) fun j a b => by
          by_cases x : j = i
          · rw [x]; exact w
          · exact h5 j a (by omega)
