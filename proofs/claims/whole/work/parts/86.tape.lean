/-! the TAPE as it is read -/
def tpX (n : Nat) (β : Nat → Nat) (σ : zSt) : Prop := gi σ 2 1 = Int32.ofNat n ∧ ∀ p, p < n → gi σ 6 p = Int32.ofNat (β p)
def tpM (n : Nat) (β : Nat → Nat) (τ : zSt) : Prop := gi τ 61 2 = Int32.ofNat n ∧ ∀ p, p < n → (gi τ 62 p).toInt = if β p < 128 then (β p : Int) else β p - 256
def chI (n : Nat) (β : Nat → Nat) (p : Nat) : Int32 := if p < n then Int32.ofNat (β p) else -1
theorem tp_of {σ τ : zSt} (h : zTp σ τ) : ∃ n β, n ≤ 200 ∧ (∀ p, p < n → β p < 256) ∧ tpX n β σ ∧ tpM n β τ := by
  obtain ⟨n, h1, h2, h3, h4⟩ := h
  refine ⟨n, fun p => (gi σ 6 p).toInt.toNat, h1, fun p hp => ?_, ⟨h2, fun p hp => ?_⟩, h3, fun p hp => ?_⟩
  · obtain ⟨a, b, c⟩ := h4 p hp
    show (gi σ 6 p).toInt.toNat < 256
    omega
  · obtain ⟨a, b, c⟩ := h4 p hp
    exact iN_of (show (gi σ 6 p).toInt = (((gi σ 6 p).toInt.toNat : Nat) : Int) by omega)
  · obtain ⟨a, b, c⟩ := h4 p hp
    show _ = if (gi σ 6 p).toInt.toNat < 128 then ((gi σ 6 p).toInt.toNat : Int) else (gi σ 6 p).toInt.toNat - 256
    split <;> omega
theorem x_byte {n : Nat} {β : Nat → Nat} {σ : zSt} (hn : n ≤ 200) (h : tpX n β σ) {p : Nat} (hp : p < 100000) : fX6_byteAt (Int32.ofNat p) σ = some (chI n β p) := by
  show fX6_byteAt_0 _ σ = _
  unfold fX6_byteAt_0 chI
  have ep := iNt (n := p) (by omega)
  have en := iNt (n := n) (by omega)
  rw [if_neg (show ¬ Int32.ofNat p < 0 by rw [qI_neg0, ep]; omega), h.1]
  by_cases q : p < n
  · rw [if_neg (show ¬ Int32.ofNat n ≤ Int32.ofNat p by rw [qI_le, en, ep]; omega), if_neg (show ¬ (200 : Int32) ≤ Int32.ofNat p by rw [qI_le, e200, ep]; omega), zg_pos (vin ep (by omega)), iN_cl (by omega), if_pos q, h.2 p q]
  · rw [if_pos (show Int32.ofNat n ≤ Int32.ofNat p by rw [qI_le, en, ep]; omega), if_neg q]
theorem si_self {σ : zSt} {c k : Nat} {v : Int32} (h : gi σ c k = v) : si σ c k v = σ := by
  refine Prod.ext (funext fun c' => funext fun k' => ?_) rfl
  show (if c' = c ∧ k' = k then v else σ.1 c' k') = σ.1 c' k'
  by_cases q : c' = c ∧ k' = k
  · rw [if_pos q, q.1, q.2]; exact h.symm
  · rw [if_neg q]
theorem si_si {σ : zSt} {c k : Nat} {v w : Int32} : si (si σ c k v) c k w = si σ c k w := by
  refine Prod.ext (funext fun c' => funext fun k' => ?_) rfl
  show (if c' = c ∧ k' = k then w else if c' = c ∧ k' = k then v else σ.1 c' k') = if c' = c ∧ k' = k then w else σ.1 c' k'
  by_cases q : c' = c ∧ k' = k
  · rw [if_pos q, if_pos q]
  · rw [if_neg q, if_neg q, if_neg q]
/-- behind the blanks -/
def skF (n : Nat) (β : Nat → Nat) : Nat → Nat → Nat
  | 0, p => p
  | f + 1, p => if p < n ∧ β p = 32 then skF n β f (p + 1) else p
def sk (n : Nat) (β : Nat → Nat) (p : Nat) : Nat := skF n β 200 p
theorem skF_ok {n : Nat} {β : Nat → Nat} : ∀ f p, p ≤ n → n ≤ p + f → p ≤ skF n β f p ∧ skF n β f p ≤ n ∧ (skF n β f p < n → β (skF n β f p) ≠ 32) := by
  intro f
  induction f with
  | zero => intro p h1 h2; exact ⟨Nat.le_refl _, h1, fun h => absurd h (by show ¬ p < n; omega)⟩
  | succ f ih =>
    intro p h1 h2
    rw [skF]
    by_cases q : p < n ∧ β p = 32
    · rw [if_pos q]
      obtain ⟨a, b, c⟩ := ih (p + 1) (by omega) (by omega)
      exact ⟨by omega, b, c⟩
    · rw [if_neg q]
      exact ⟨Nat.le_refl _, h1, fun h e => q ⟨h, e⟩⟩
theorem sk_ok {n : Nat} {β : Nat → Nat} (hn : n ≤ 200) {p : Nat} (hp : p ≤ n) : p ≤ sk n β p ∧ sk n β p ≤ n ∧ (sk n β p < n → β (sk n β p) ≠ 32) := skF_ok 200 p hp (by omega)
theorem sk_sk {n : Nat} {β : Nat → Nat} {p : Nat} (h : p < n → β p ≠ 32) : sk n β p = p := by
  show skF n β 200 p = p
  rw [show (200 : Nat) = 199 + 1 from rfl, skF, if_neg (fun q => h q.1 q.2)]
theorem e32I : (32 : Int32) = Int32.ofNat 32 := rfl
theorem chI_eq {n : Nat} {β : Nat → Nat} {p : Nat} (hb : p < n → β p < 256) {k : Nat} (hk : k < 256) : chI n β p = Int32.ofNat k ↔ p < n ∧ β p = k := by
  unfold chI
  by_cases q : p < n
  · have := hb q
    rw [if_pos q, qI_eq, iNt (by omega), iNt (by omega)]
    omega
  · rw [if_neg q, qI_eq, iNt (by omega), eM1]
    omega
theorem x_signL {n : Nat} {β : Nat → Nat} (hn : n ≤ 200) (hb : ∀ p, p < n → β p < 256) : ∀ (f p F : Nat) (σ : zSt), f < F → p ≤ n → n ≤ p + f → tpX n β σ → gi σ 1 2 = Int32.ofNat p → fX3_sign_L0 F σ = some (chI n β (skF n β f p), si σ 1 2 (Int32.ofNat (skF n β f p))) := by
  intro f
  induction f with
  | zero =>
    intro p F σ hF h1 h2 ht hp
    obtain ⟨F, rfl⟩ : ∃ F', F = F' + 1 := ⟨F - 1, by omega⟩
    rw [fX3_sign_L0]
    unfold fX3_sign_0
    rw [hp, ht.1, if_pos (show Int32.ofNat n ≤ Int32.ofNat p by rw [qI_le, iNt (by omega), iNt (by omega)]; omega), x_byte hn ht (by omega), bd1_some]
    show _ = some (chI n β p, si σ 1 2 (Int32.ofNat p))
    rw [si_self hp]
  | succ f ih =>
    intro p F σ hF h1 h2 ht hp
    obtain ⟨F, rfl⟩ : ∃ F', F = F' + 1 := ⟨F - 1, by omega⟩
    rw [fX3_sign_L0]
    unfold fX3_sign_0
    rw [hp, ht.1, skF, x_byte hn ht (by omega), bd1_some, bd1_some]
    have e32 := chI_eq (n := n) (β := β) (p := p) (fun h => hb p h) (k := 32) (by omega)
    by_cases q : p < n
    · rw [if_neg (show ¬ Int32.ofNat n ≤ Int32.ofNat p by rw [qI_le, iNt (by omega), iNt (by omega)]; omega)]
      by_cases q2 : β p = 32
      · rw [if_pos (show chI n β p = 32 from e32.mpr ⟨q, q2⟩), if_pos ⟨q, q2⟩, iN_s (by omega)]
        rw [ih (p + 1) F _ (by omega) (by omega) (by omega) ⟨by rw [gi_si, if_neg (by omega)]; exact ht.1, fun i hi => by rw [gi_si, if_neg (by omega)]; exact ht.2 i hi⟩ (by rw [gi_si, if_pos (by omega)]), si_si]
      · rw [if_neg (show ¬ chI n β p = 32 from fun h => q2 (e32.mp h).2), if_neg (fun h => q2 h.2), si_self hp]
    · rw [if_pos (show Int32.ofNat n ≤ Int32.ofNat p by rw [qI_le, iNt (by omega), iNt (by omega)]; omega), if_neg (fun h => q h.1), si_self hp]
theorem x_sign {n : Nat} {β : Nat → Nat} (hn : n ≤ 200) (hb : ∀ p, p < n → β p < 256) {p : Nat} {σ : zSt} (h1 : p ≤ n) (ht : tpX n β σ) (hp : gi σ 1 2 = Int32.ofNat p) : fX3_sign σ = some (chI n β (sk n β p), si σ 1 2 (Int32.ofNat (sk n β p))) := by
  obtain ⟨Z, hZ⟩ := zFU_ge 1000 (by omega)
  exact x_signL hn hb 200 p zFU σ (by omega) h1 (by omega) ht hp
theorem m_and {v : Int32} {b : Nat} (hb : b < 256) (h : v.toInt = if b < 128 then (b : Int) else b - 256) : v &&& 255 = Int32.ofNat b := by
  have h1 : (v &&& 255).toBitVec.toNat = v.toBitVec.toNat % 256 := by
    rw [Int32.toBitVec_and, BitVec.toNat_and, show (255 : Int32).toBitVec.toNat = 2 ^ 8 - 1 by decide, Nat.and_two_pow_sub_one_eq_mod]
  have h2 := qI_nat (v &&& 255)
  have h3 := qI_nat v
  rw [h1] at h2
  rw [qI_eq, iNt (by omega)]
  split at h <;> split at h2 <;> split at h3 <;> omega
theorem m_byte32 {v : Int32} {b : Nat} (hb : b < 256) (h : v.toInt = if b < 128 then (b : Int) else b - 256) {k : Nat} (hk : k < 128) : v = Int32.ofNat k ↔ b = k := by
  rw [qI_eq, iNt (by omega), h]
  split <;> omega
theorem m_peekL {n : Nat} {β : Nat → Nat} (hn : n ≤ 200) (hb : ∀ p, p < n → β p < 256) : ∀ (f p F : Nat) (τ : zSt), f < F → p ≤ n → n ≤ p + f → tpM n β τ → gi τ 61 10 = Int32.ofNat p → fX9_peek_L0 F τ = some (chI n β (skF n β f p), si τ 61 10 (Int32.ofNat (skF n β f p))) := by
  have h38 : ∀ (p : Nat) (τ : zSt), tpM n β τ → p ≤ n → gi τ 61 10 = Int32.ofNat p → fX9_peek_38 τ = some (chI n β p, τ) := by
    intro p τ ht h1 hp
    unfold fX9_peek_38 chI
    rw [hp, ht.1]
    by_cases q : p < n
    · rw [if_neg (show ¬ Int32.ofNat n ≤ Int32.ofNat p by rw [qI_le, iNt (by omega), iNt (by omega)]; omega), zg_pos (vin (iNt (by omega)) (by omega)), iN_cl (by omega), m_and (hb p q) (ht.2 p q), if_pos q]
    · rw [if_pos (show Int32.ofNat n ≤ Int32.ofNat p by rw [qI_le, iNt (by omega), iNt (by omega)]; omega), if_neg q]
  intro f
  induction f with
  | zero =>
    intro p F τ hF h1 h2 ht hp
    obtain ⟨F, rfl⟩ : ∃ F', F = F' + 1 := ⟨F - 1, by omega⟩
    rw [fX9_peek_L0]
    unfold fX9_peek_0
    rw [hp, ht.1, if_pos (show Int32.ofNat n ≤ Int32.ofNat p by rw [qI_le, iNt (by omega), iNt (by omega)]; omega), h38 p τ ht h1 hp]
    show _ = some (chI n β p, si τ 61 10 (Int32.ofNat p))
    rw [si_self hp]
  | succ f ih =>
    intro p F τ hF h1 h2 ht hp
    obtain ⟨F, rfl⟩ : ∃ F', F = F' + 1 := ⟨F - 1, by omega⟩
    rw [fX9_peek_L0]
    unfold fX9_peek_0
    rw [hp, ht.1, skF, h38 p τ ht h1 hp]
    by_cases q : p < n
    · have e32 := m_byte32 (hb p q) (ht.2 p q) (k := 32) (by omega)
      rw [if_neg (show ¬ Int32.ofNat n ≤ Int32.ofNat p by rw [qI_le, iNt (by omega), iNt (by omega)]; omega), zg_pos (vin (iNt (by omega)) (by omega)), iN_cl (by omega)]
      by_cases q2 : β p = 32
      · rw [if_pos (show gi τ 62 p = 32 from e32.mpr q2), if_pos ⟨q, q2⟩, iN_s (by omega)]
        rw [ih (p + 1) F _ (by omega) (by omega) (by omega) ⟨by rw [gi_si, if_neg (by omega)]; exact ht.1, fun i hi => by rw [gi_si, if_neg (show ¬ (62 = 61 ∧ i = 10) by omega)]; exact ht.2 i hi⟩ (by rw [gi_si, if_pos (by omega)]), si_si]
      · rw [if_neg (show ¬ gi τ 62 p = 32 from fun h => q2 (e32.mp h)), if_neg (fun h => q2 h.2), si_self hp]
    · rw [if_pos (show Int32.ofNat n ≤ Int32.ofNat p by rw [qI_le, iNt (by omega), iNt (by omega)]; omega), if_neg (fun h => q h.1), si_self hp]
theorem m_peek {n : Nat} {β : Nat → Nat} (hn : n ≤ 200) (hb : ∀ p, p < n → β p < 256) {p : Nat} {τ : zSt} (h1 : p ≤ n) (ht : tpM n β τ) (hp : gi τ 61 10 = Int32.ofNat p) : fX9_peek τ = some (chI n β (sk n β p), si τ 61 10 (Int32.ofNat (sk n β p))) := by
  obtain ⟨Z, hZ⟩ := zFU_ge 1000 (by omega)
  exact m_peekL hn hb 200 p zFU τ (by omega) h1 (by omega) ht hp
