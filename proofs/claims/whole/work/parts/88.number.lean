/-! NUMBERS: which words are ones -/
def drF (β : Nat → Nat) : Nat → Nat → Nat → Nat
  | 0, _, p => p
  | f + 1, c, p => if p < c ∧ isDb (β p) = true then drF β f c (p + 1) else p
/-- where the digits from p end, before c -/
def dr (β : Nat → Nat) (c p : Nat) : Nat := drF β 300 c p
theorem drF_ok {β : Nat → Nat} {c : Nat} : ∀ f p, p ≤ c → c ≤ p + f → p ≤ drF β f c p ∧ drF β f c p ≤ c ∧ (drF β f c p < c → ¬ isDb (β (drF β f c p)) = true) ∧ ∀ i, p ≤ i → i < drF β f c p → isDb (β i) = true := by
  intro f
  induction f with
  | zero => intro p h1 h2; exact ⟨Nat.le_refl _, h1, fun h => absurd h (by show ¬ p < c; omega), fun i a b => absurd b (by show ¬ i < p; omega)⟩
  | succ f ih =>
    intro p h1 h2
    rw [drF]
    by_cases q : p < c ∧ isDb (β p) = true
    · rw [if_pos q]
      obtain ⟨a, b, c, d⟩ := ih (p + 1) (by omega) (by omega)
      refine ⟨by omega, b, c, fun i hi hj => ?_⟩
      by_cases e : i = p
      · rw [e]; exact q.2
      · exact d i (by omega) hj
    · rw [if_neg q]
      exact ⟨Nat.le_refl _, h1, fun h e => q ⟨h, e⟩, fun i a b => absurd b (by omega)⟩
theorem dr_ok {β : Nat → Nat} {c p : Nat} (h : p ≤ c) (hc : c ≤ 300) : p ≤ dr β c p ∧ dr β c p ≤ c ∧ (dr β c p < c → ¬ isDb (β (dr β c p)) = true) ∧ ∀ i, p ≤ i → i < dr β c p → isDb (β i) = true := drF_ok 300 p h (by omega)
theorem wb_d {b : Nat} (h : isDb b = true) : isWb b = true := decide_eq_true (Or.inl (of_decide_eq_true h))
theorem db_iff {b : Nat} : isDb b = true ↔ 48 ≤ b ∧ b ≤ 57 := ⟨fun h => of_decide_eq_true h, fun h => decide_eq_true h⟩
abbrev isNm (β : Nat → Nat) (p e m : Nat) : Prop := p < m ∧ m ≤ p + 4 ∧ (m = e ∨ (β m = 46 ∧ m + 2 ≤ e ∧ e ≤ m + 5 ∧ ∀ i, i < e → m + 1 ≤ i → isDb (β i) = true))
theorem x_digF {n : Nat} {β : Nat → Nat} (hn : n ≤ 200) (hb : ∀ p, p < n → β p < 256) {σ : zSt} (ht : tpX n β σ) {e : Nat} (he : e ≤ n) : ∀ (f p F : Nat), f < F → p ≤ e → e ≤ p + f → fX3_isNumber_L5 F (Int32.ofNat e) (Int32.ofNat p) σ = fX3_isNumber_30 (Int32.ofNat e) (Int32.ofNat (drF β f e p)) σ := by
  intro f
  induction f with
  | zero =>
    intro p F hF h1 h2
    obtain ⟨F, rfl⟩ : ∃ F', F = F' + 1 := ⟨F - 1, by omega⟩
    rw [fX3_isNumber_L5]
    unfold fX3_isNumber_5
    rw [if_pos (show Int32.ofNat e ≤ Int32.ofNat p by rw [qI_le, iNt (by omega), iNt (by omega)]; omega)]
    rfl
  | succ f ih =>
    intro p F hF h1 h2
    obtain ⟨F, rfl⟩ : ∃ F', F = F' + 1 := ⟨F - 1, by omega⟩
    rw [fX3_isNumber_L5]
    unfold fX3_isNumber_5
    rw [drF]
    by_cases q : p < e
    · rw [if_neg (show ¬ Int32.ofNat e ≤ Int32.ofNat p by rw [qI_le, iNt (by omega), iNt (by omega)]; omega), x_byte hn ht (by omega), bd1_some, x_isD (hb p)]
      by_cases c : isDb (β p) = true
      · rw [if_pos (show p < n ∧ isDb (β p) = true from ⟨by omega, c⟩), if_neg iNe1, if_pos (show p < e ∧ isDb (β p) = true from ⟨q, c⟩), nm_eq, iN_s (by omega)]
        exact ih (p + 1) F (by omega) (by omega) (by omega)
      · rw [if_neg (show ¬ (p < n ∧ isDb (β p) = true) from fun h => c h.2), if_pos (show (0 : Int32) = 0 from rfl), if_neg (show ¬ (p < e ∧ isDb (β p) = true) from fun h => c h.2)]
    · rw [if_pos (show Int32.ofNat e ≤ Int32.ofNat p by rw [qI_le, iNt (by omega), iNt (by omega)]; omega), if_neg (show ¬ (p < e ∧ isDb (β p) = true) from fun h => q h.1)]
theorem x_allF {n : Nat} {β : Nat → Nat} (hn : n ≤ 200) (hb : ∀ p, p < n → β p < 256) {σ : zSt} (ht : tpX n β σ) {e : Nat} (he : e ≤ n) : ∀ (f p F : Nat), f < F → p ≤ e → e ≤ p + f → fX3_isNumber_L95 F (Int32.ofNat e) (Int32.ofNat p) σ = some (if ∀ i, i < e → p ≤ i → isDb (β i) = true then 1 else 0) := by
  intro f
  induction f with
  | zero =>
    intro p F hF h1 h2
    obtain ⟨F, rfl⟩ : ∃ F', F = F' + 1 := ⟨F - 1, by omega⟩
    rw [fX3_isNumber_L95]
    unfold fX3_isNumber_95
    rw [if_pos (show Int32.ofNat e ≤ Int32.ofNat p by rw [qI_le, iNt (by omega), iNt (by omega)]; omega), if_pos (fun i h3 h4 => by omega)]
  | succ f ih =>
    intro p F hF h1 h2
    obtain ⟨F, rfl⟩ : ∃ F', F = F' + 1 := ⟨F - 1, by omega⟩
    rw [fX3_isNumber_L95]
    unfold fX3_isNumber_95
    by_cases q : p < e
    · rw [if_neg (show ¬ Int32.ofNat e ≤ Int32.ofNat p by rw [qI_le, iNt (by omega), iNt (by omega)]; omega), x_byte hn ht (by omega), bd1_some, x_isD (hb p)]
      by_cases c : isDb (β p) = true
      · rw [if_pos (show p < n ∧ isDb (β p) = true from ⟨by omega, c⟩), if_neg iNe1, nm_eq, iN_s (by omega), ih (p + 1) F (by omega) (by omega) (by omega)]
        by_cases r : ∀ i, i < e → p + 1 ≤ i → isDb (β i) = true
        · rw [if_pos r, if_pos (fun i h3 h4 => by
            by_cases x : i = p
            · rw [x]; exact c
            · exact r i h3 (by omega))]
        · rw [if_neg r, if_neg (fun h => r fun i h3 h4 => h i h3 (by omega))]
      · rw [if_neg (show ¬ (p < n ∧ isDb (β p) = true) from fun h => c h.2), if_pos (show (0 : Int32) = 0 from rfl), if_neg (show ¬ ∀ i, i < e → p ≤ i → isDb (β i) = true from fun h => c (h p q (Nat.le_refl _)))]
    · rw [if_pos (show Int32.ofNat e ≤ Int32.ofNat p by rw [qI_le, iNt (by omega), iNt (by omega)]; omega), if_pos (fun i h3 h4 => by omega)]
theorem iN_m {a b : Nat} (h : a < 2147483648) (g : b ≤ a) : Int32.ofNat a - Int32.ofNat b = Int32.ofNat (a - b) := qI_eq.mpr (by
  rw [qI_sub (by rw [iNt (by omega), iNt (by omega)]; omega) (by rw [iNt (by omega), iNt (by omega)]; omega), iNt (by omega), iNt (by omega), iNt (by omega)]; omega)
theorem e46I : (46 : Int32) = Int32.ofNat 46 := rfl
theorem e4I : (4 : Int32).toInt = 4 := by decide
theorem x_isNumber {n : Nat} {β : Nat → Nat} (hn : n ≤ 200) (hb : ∀ p, p < n → β p < 256) {σ : zSt} (ht : tpX n β σ) {p e : Nat} (hp : gi σ 1 2 = Int32.ofNat p) (hpe : p ≤ e) (he : e ≤ n) : fX3_isNumber (Int32.ofNat e) σ = some (if isNm β p e (dr β e p) then 1 else 0) := by
  obtain ⟨Z, hZ⟩ := zFU_ge 1000 (by omega)
  show fX3_isNumber_0 _ σ = _
  unfold fX3_isNumber_0
  rw [nm_eq, hp, x_digF hn hb ht he 300 p zFU (by omega) hpe (by omega)]
  obtain ⟨m, hm⟩ : ∃ m, m = drF β 300 e p := ⟨_, rfl⟩
  have hd := dr_ok (β := β) hpe (by omega)
  show _ = some (if isNm β p e (drF β 300 e p) then 1 else 0)
  unfold dr at hd
  rw [← hm] at hd ⊢
  obtain ⟨d1, d2, d3, d4⟩ := hd
  unfold fX3_isNumber_30
  rw [hp, iN_m (by omega) d1]
  have em := iNt (n := m - p) (by omega)
  by_cases a1 : m = p
  · rw [if_pos (show Int32.ofNat (m - p) < 1 by rw [qI_lt, em, q1I]; omega), if_neg (fun h => by have := h.1; omega)]
  rw [if_neg (show ¬ Int32.ofNat (m - p) < 1 by rw [qI_lt, em, q1I]; omega)]
  by_cases a2 : m ≤ p + 4
  · rw [if_pos (show Int32.ofNat (m - p) ≤ 4 by rw [qI_le, em, e4I]; omega)]
    by_cases a3 : m = e
    · rw [if_pos (show Int32.ofNat m = Int32.ofNat e by rw [a3]), if_pos (show isNm β p e m from ⟨by omega, a2, Or.inl a3⟩)]
    · have cm := chI_eq (n := n) (β := β) (p := m) (fun h => hb _ h) (k := 46) (by omega)
      have ex : Int32.ofNat e - Int32.ofNat m - 1 = Int32.ofNat (e - m - 1) := by
        rw [iN_m (by omega) d2, show (1 : Int32) = Int32.ofNat 1 from rfl, iN_m (by omega) (by omega)]
      rw [if_neg (show ¬ Int32.ofNat m = Int32.ofNat e by rw [qI_eq, iNt (by omega), iNt (by omega)]; omega), nm_eq, x_byte hn ht (by omega), bd1_some, ex]
      have el := iNt (n := e - m - 1) (by omega)
      by_cases a4 : β m = 46
      · rw [if_pos (show chI n β m = 46 from cm.mpr ⟨by omega, a4⟩)]
        by_cases a5 : m + 2 ≤ e
        · rw [if_neg (show ¬ Int32.ofNat (e - m - 1) < 1 by rw [qI_lt, el, q1I]; omega)]
          by_cases a6 : e ≤ m + 5
          · rw [if_pos (show Int32.ofNat (e - m - 1) ≤ 4 by rw [qI_le, el, e4I]; omega), nm_eq, iN_s (by omega), x_allF hn hb ht he 300 (m + 1) zFU (by omega) (by omega) (by omega)]
            by_cases a7 : ∀ i, i < e → m + 1 ≤ i → isDb (β i) = true
            · rw [if_pos a7, if_pos (show isNm β p e m from ⟨by omega, a2, Or.inr ⟨a4, a5, a6, a7⟩⟩)]
            · rw [if_neg a7, if_neg (show ¬ isNm β p e m from fun h => h.2.2.elim a3 fun h => a7 h.2.2.2)]
          · rw [if_neg (show ¬ Int32.ofNat (e - m - 1) ≤ 4 by rw [qI_le, el, e4I]; omega), if_neg (show ¬ isNm β p e m from fun h => h.2.2.elim a3 fun h => a6 h.2.2.1)]
        · rw [if_pos (show Int32.ofNat (e - m - 1) < 1 by rw [qI_lt, el, q1I]; omega), if_neg (show ¬ isNm β p e m from fun h => h.2.2.elim a3 fun h => a5 h.2.1)]
      · rw [if_neg (show ¬ chI n β m = 46 from fun h => a4 (cm.mp h).2), if_neg (show ¬ isNm β p e m from fun h => h.2.2.elim a3 fun h => a4 h.1)]
  · rw [if_neg (show ¬ Int32.ofNat (m - p) ≤ 4 by rw [qI_le, em, e4I]; omega), if_neg (show ¬ isNm β p e m from fun h => a2 h.2.1)]
theorem m_digF {n : Nat} {β : Nat → Nat} (hn : n ≤ 200) (hb : ∀ p, p < n → β p < 256) {τ : zSt} (ht : tpM n β τ) {e p0 c : Nat} (hp : gi τ 61 10 = Int32.ofNat p0) (h0 : p0 ≤ n) (hc : c = min (p0 + 4) n) : ∀ (f p F : Nat), f < F → p ≤ c → c ≤ p + f → fX9_isNumber_L5 F (Int32.ofNat e) (Int32.ofNat p) τ = fX9_isNumber_29 (Int32.ofNat e) (Int32.ofNat (drF β f c p)) τ := by
  have step : ∀ (p F : Nat), p ≤ c → fX9_isNumber_L5 (F + 1) (Int32.ofNat e) (Int32.ofNat p) τ = if p < c ∧ isDb (β p) = true then fX9_isNumber_L5 F (Int32.ofNat e) (Int32.ofNat (p + 1)) τ else fX9_isNumber_29 (Int32.ofNat e) (Int32.ofNat p) τ := by
    intro p F h1
    rw [fX9_isNumber_L5]
    unfold fX9_isNumber_5
    rw [m_isD hn (by omega) (hb p) ht, bd1_some, hp, show (4 : Int32) = Int32.ofNat 4 from rfl, iN_a (by omega)]
    by_cases q : p < n ∧ isDb (β p) = true
    · rw [if_pos q, if_neg iNe1]
      by_cases r : p < p0 + 4
      · rw [if_neg (show ¬ Int32.ofNat (p0 + 4) ≤ Int32.ofNat p by rw [qI_le, iNt (by omega), iNt (by omega)]; omega), if_pos (show p < c ∧ isDb (β p) = true from ⟨by omega, q.2⟩), nm_eq, iN_s (by omega)]
      · rw [if_pos (show Int32.ofNat (p0 + 4) ≤ Int32.ofNat p by rw [qI_le, iNt (by omega), iNt (by omega)]; omega), if_neg (show ¬ (p < c ∧ isDb (β p) = true) from fun h => by have := h.1; omega)]
    · rw [if_neg q, if_pos (show (0 : Int32) = 0 from rfl), if_neg (show ¬ (p < c ∧ isDb (β p) = true) from fun h => q ⟨by have := h.1; omega, h.2⟩)]
  intro f
  induction f with
  | zero =>
    intro p F hF h1 h2
    obtain ⟨F, rfl⟩ : ∃ F', F = F' + 1 := ⟨F - 1, by omega⟩
    rw [step p F h1, if_neg (show ¬ (p < c ∧ isDb (β p) = true) from fun h => by have := h.1; omega)]
    rfl
  | succ f ih =>
    intro p F hF h1 h2
    obtain ⟨F, rfl⟩ : ∃ F', F = F' + 1 := ⟨F - 1, by omega⟩
    rw [step p F h1, drF]
    by_cases q : p < c ∧ isDb (β p) = true
    · rw [if_pos q, if_pos q]
      exact ih (p + 1) F (by omega) (by omega) (by omega)
    · rw [if_neg q, if_neg q]
theorem m_fracF {n : Nat} {β : Nat → Nat} (hn : n ≤ 200) (hb : ∀ p, p < n → β p < 256) {τ : zSt} (ht : tpM n β τ) {e m c : Nat} (h0 : m ≤ n) (hc : c = min (m + 5) n) : ∀ (f p F : Nat), f < F → p ≤ c → c ≤ p + f → fX9_isNumber_L73 F (Int32.ofNat e) (Int32.ofNat m) (Int32.ofNat p) τ = fX9_isNumber_94 (Int32.ofNat e) (Int32.ofNat m) (Int32.ofNat (drF β f c p)) τ := by
  have step : ∀ (p F : Nat), p ≤ c → fX9_isNumber_L73 (F + 1) (Int32.ofNat e) (Int32.ofNat m) (Int32.ofNat p) τ = if p < c ∧ isDb (β p) = true then fX9_isNumber_L73 F (Int32.ofNat e) (Int32.ofNat m) (Int32.ofNat (p + 1)) τ else fX9_isNumber_94 (Int32.ofNat e) (Int32.ofNat m) (Int32.ofNat p) τ := by
    intro p F h1
    rw [fX9_isNumber_L73]
    unfold fX9_isNumber_73
    rw [m_isD hn (by omega) (hb p) ht, bd1_some, show (5 : Int32) = Int32.ofNat 5 from rfl, iN_a (by omega)]
    by_cases q : p < n ∧ isDb (β p) = true
    · rw [if_pos q, if_neg iNe1]
      by_cases r : p < m + 5
      · rw [if_neg (show ¬ Int32.ofNat (m + 5) ≤ Int32.ofNat p by rw [qI_le, iNt (by omega), iNt (by omega)]; omega), if_pos (show p < c ∧ isDb (β p) = true from ⟨by omega, q.2⟩), nm_eq, iN_s (by omega)]
      · rw [if_pos (show Int32.ofNat (m + 5) ≤ Int32.ofNat p by rw [qI_le, iNt (by omega), iNt (by omega)]; omega), if_neg (show ¬ (p < c ∧ isDb (β p) = true) from fun h => by have := h.1; omega)]
    · rw [if_neg q, if_pos (show (0 : Int32) = 0 from rfl), if_neg (show ¬ (p < c ∧ isDb (β p) = true) from fun h => q ⟨by have := h.1; omega, h.2⟩)]
  intro f
  induction f with
  | zero =>
    intro p F hF h1 h2
    obtain ⟨F, rfl⟩ : ∃ F', F = F' + 1 := ⟨F - 1, by omega⟩
    rw [step p F h1, if_neg (show ¬ (p < c ∧ isDb (β p) = true) from fun h => by have := h.1; omega)]
    rfl
  | succ f ih =>
    intro p F hF h1 h2
    obtain ⟨F, rfl⟩ : ∃ F', F = F' + 1 := ⟨F - 1, by omega⟩
    rw [step p F h1, drF]
    by_cases q : p < c ∧ isDb (β p) = true
    · rw [if_pos q, if_pos q]
      exact ih (p + 1) F (by omega) (by omega) (by omega)
    · rw [if_neg q, if_neg q]
theorem m_isNumber {n : Nat} {β : Nat → Nat} (hn : n ≤ 200) (hb : ∀ p, p < n → β p < 256) {τ : zSt} (ht : tpM n β τ) {p e : Nat} (hp : gi τ 61 10 = Int32.ofNat p) (hpn : p ≤ n) (hwe : e = we n β p) : fX9_isNumber (Int32.ofNat e) τ = some (if isNm β p e (dr β e p) then 1 else 0) := by
  obtain ⟨Z, hZ⟩ := zFU_ge 1000 (by omega)
  obtain ⟨w1, w2, w3, w4⟩ := we_ok (β := β) hn hpn
  rw [← hwe] at w1 w2 w3 w4
  have w5 : e < n → ¬ isDb (β e) = true := fun h g => w3 h (wb_d g)
  show fX9_isNumber_0 _ τ = _
  unfold fX9_isNumber_0
  rw [nm_eq, hp, m_digF hn hb ht hp hpn rfl 300 p zFU (by omega) (by omega) (by omega)]
  obtain ⟨m, hm⟩ : ∃ m, m = dr β e p := ⟨_, rfl⟩
  obtain ⟨k, hk⟩ : ∃ k, k = dr β (min (p + 4) n) p := ⟨_, rfl⟩
  have hd := dr_ok (β := β) w1 (by omega)
  have hd2 := dr_ok (β := β) (show p ≤ min (p + 4) n by omega) (by omega)
  rw [← hm] at hd ⊢
  rw [← hk] at hd2
  rw [show drF β 300 (min (p + 4) n) p = k from hk.symm]
  obtain ⟨d1, d2, d3, d4⟩ := hd
  obtain ⟨k1, k2, k3, k4⟩ := hd2
  have dm : m < n → ¬ isDb (β m) = true := fun h => by
    by_cases x : m < e
    · exact d3 x
    · rw [show m = e by omega] at h ⊢; exact w5 h
  unfold fX9_isNumber_29
  rw [hp]
  by_cases a2 : m ≤ p + 4
  · have ek : k = m := by
      by_cases x : k < m
      · exact absurd (d4 k k1 x) (k3 (by omega))
      · by_cases y : m < k
        · exact absurd (k4 m d1 y) (dm (by omega))
        · omega
    rw [ek]
    by_cases a1 : m = p
    · rw [if_pos (show Int32.ofNat m = Int32.ofNat p by rw [a1]), if_pos (show Int32.ofNat m ≤ Int32.ofNat p by rw [qI_le, iNt (by omega), iNt (by omega)]; omega), if_neg (show ¬ isNm β p e m from fun h => by have := h.1; omega)]
    rw [if_neg (show ¬ Int32.ofNat m = Int32.ofNat p by rw [qI_eq, iNt (by omega), iNt (by omega)]; omega)]
    by_cases a3 : m = e
    · rw [if_pos (show Int32.ofNat m = Int32.ofNat e by rw [a3]), if_neg (show ¬ Int32.ofNat m ≤ Int32.ofNat p by rw [qI_le, iNt (by omega), iNt (by omega)]; omega), if_pos (show isNm β p e m from ⟨by omega, a2, Or.inl a3⟩)]
    have cm := m_byte32 (hb m (by omega)) (ht.2 m (by omega)) (k := 46) (by omega)
    rw [if_neg (show ¬ Int32.ofNat m = Int32.ofNat e by rw [qI_eq, iNt (by omega), iNt (by omega)]; omega), zg_pos (vin (iNt (n := m) (by omega)) (by omega)), iN_cl (by omega)]
    by_cases a4 : β m = 46
    · rw [if_pos (show gi τ 62 m = 46 from cm.mpr a4), nm_eq, iN_s (by omega), m_fracF hn hb ht (by omega) rfl 300 (m + 1) zFU (by omega) (by omega) (by omega)]
      obtain ⟨l, hl⟩ : ∃ l, l = dr β (min (m + 5) n) (m + 1) := ⟨_, rfl⟩
      have hd3 := dr_ok (β := β) (show m + 1 ≤ min (m + 5) n by omega) (by omega)
      rw [← hl] at hd3
      rw [show drF β 300 (min (m + 5) n) (m + 1) = l from hl.symm]
      obtain ⟨l1, l2, l3, l4⟩ := hd3
      unfold fX9_isNumber_94
      rw [iN_s (by omega)]
      have key : (m + 1 < l ∧ l = e) ↔ isNm β p e m := by
        refine ⟨fun h => ⟨by omega, a2, Or.inr ⟨a4, by omega, by omega, fun i h3 h4 => l4 i h4 (by omega)⟩⟩, fun h => ?_⟩
        obtain ⟨-, -, h⟩ := h
        rcases h with h | ⟨-, h5, h6, h7⟩
        · exact absurd h a3
        · have : l = e := by
            by_cases x : l < e
            · exact absurd (h7 l x l1) (l3 (by omega))
            · by_cases y : e < l
              · exact absurd (l4 e (by omega) y) (w5 (by omega))
              · omega
          exact ⟨by omega, this⟩
      by_cases x : m + 1 < l
      · rw [if_neg (show ¬ Int32.ofNat l ≤ Int32.ofNat (m + 1) by rw [qI_le, iNt (by omega), iNt (by omega)]; omega)]
        by_cases y : l = e
        · rw [if_pos (show Int32.ofNat l = Int32.ofNat e by rw [y]), if_pos (key.mp ⟨x, y⟩)]
        · rw [if_neg (show ¬ Int32.ofNat l = Int32.ofNat e by rw [qI_eq, iNt (by omega), iNt (by omega)]; omega), if_neg (fun h => y (key.mpr h).2)]
      · rw [if_pos (show Int32.ofNat l ≤ Int32.ofNat (m + 1) by rw [qI_le, iNt (by omega), iNt (by omega)]; omega), if_neg (fun h => x (key.mpr h).1)]
    · rw [if_neg (show ¬ gi τ 62 m = 46 from fun h => a4 (cm.mp h)), if_neg (show ¬ isNm β p e m from fun h => h.2.2.elim a3 fun h => a4 h.1)]
  · have ek : k = p + 4 := by
      by_cases x : k < p + 4
      · exact absurd (d4 k k1 (by omega)) (k3 (by omega))
      · omega
    have dg := db_iff.mp (d4 k k1 (by omega))
    have cm := m_byte32 (hb k (by omega)) (ht.2 k (by omega)) (k := 46) (by omega)
    rw [if_neg (show ¬ Int32.ofNat k = Int32.ofNat p by rw [qI_eq, iNt (by omega), iNt (by omega)]; omega), if_neg (show ¬ Int32.ofNat k = Int32.ofNat e by rw [qI_eq, iNt (by omega), iNt (by omega)]; omega), zg_pos (vin (iNt (n := k) (by omega)) (by omega)), iN_cl (by omega), if_neg (show ¬ gi τ 62 k = 46 from fun h => by have := cm.mp h; omega), if_neg (show ¬ isNm β p e m from fun h => a2 h.2.1)]
