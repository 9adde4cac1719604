/-! WORDS -/
def isDb (b : Nat) : Bool := decide (48 ≤ b ∧ b ≤ 57)
def isWb (b : Nat) : Bool := decide ((48 ≤ b ∧ b ≤ 57) ∨ b = 46 ∨ (97 ≤ b ∧ b ≤ 122) ∨ (65 ≤ b ∧ b ≤ 90))
theorem x_isD {n : Nat} {β : Nat → Nat} {p : Nat} (hb : p < n → β p < 256) : fX3_isDigit (chI n β p) = if p < n ∧ isDb (β p) = true then 1 else 0 := by
  show fX3_isDigit_0 _ = _
  unfold fX3_isDigit_0 chI isDb
  have e48 : (48 : Int32).toInt = 48 := by decide
  have e57 : (57 : Int32).toInt = 57 := by decide
  by_cases q : p < n
  · have := hb q
    have eb := iNt (n := β p) (by omega)
    rw [if_pos q]
    by_cases a : β p < 48
    · rw [if_pos (show Int32.ofNat (β p) < 48 by rw [qI_lt, eb, e48]; omega), if_neg (fun h => by have := of_decide_eq_true h.2; omega)]
    rw [if_neg (show ¬ Int32.ofNat (β p) < 48 by rw [qI_lt, eb, e48]; omega)]
    by_cases b : 57 < β p
    · rw [if_pos (show 57 < Int32.ofNat (β p) by rw [qI_lt, eb, e57]; omega), if_neg (fun h => by have := of_decide_eq_true h.2; omega)]
    · rw [if_neg (show ¬ 57 < Int32.ofNat (β p) by rw [qI_lt, eb, e57]; omega), if_pos ⟨q, decide_eq_true (by omega)⟩]
  · rw [if_neg q, if_pos (by decide), if_neg (fun h => q h.1)]
theorem x_isW {n : Nat} {β : Nat → Nat} {p : Nat} (hb : p < n → β p < 256) : fX3_isWordByte (chI n β p) = if p < n ∧ isWb (β p) = true then 1 else 0 := by
  show fX3_isWordByte_0 _ = _
  unfold fX3_isWordByte_0
  rw [x_isD hb]
  by_cases q : p < n
  · have hq := hb q
    have eb := iNt (n := β p) (by omega)
    have ec : chI n β p = Int32.ofNat (β p) := if_pos q
    have ew : isWb (β p) = true ↔ ((48 ≤ β p ∧ β p ≤ 57) ∨ β p = 46 ∨ (97 ≤ β p ∧ β p ≤ 122) ∨ (65 ≤ β p ∧ β p ≤ 90)) := ⟨fun h => of_decide_eq_true h, fun h => decide_eq_true h⟩
    have ed : isDb (β p) = true ↔ (48 ≤ β p ∧ β p ≤ 57) := ⟨fun h => of_decide_eq_true h, fun h => decide_eq_true h⟩
    have e46 : Int32.ofNat (β p) = 46 ↔ β p = 46 := by rw [qI_eq, eb, show (46 : Int32).toInt = 46 by decide]; omega
    have e97 : Int32.ofNat (β p) < 97 ↔ β p < 97 := by rw [qI_lt, eb, show (97 : Int32).toInt = 97 by decide]; omega
    have e65 : Int32.ofNat (β p) < 65 ↔ β p < 65 := by rw [qI_lt, eb, show (65 : Int32).toInt = 65 by decide]; omega
    have e90 : 90 < Int32.ofNat (β p) ↔ 90 < β p := by rw [qI_lt, eb, show (90 : Int32).toInt = 90 by decide]; omega
    have e122 : Int32.ofNat (β p) ≤ 122 ↔ β p ≤ 122 := by rw [qI_le, eb, show (122 : Int32).toInt = 122 by decide]; omega
    rw [ec]
    by_cases d : 48 ≤ β p ∧ β p ≤ 57
    · rw [if_pos (show p < n ∧ isDb (β p) = true from ⟨q, ed.mpr d⟩), if_neg iNe1, if_pos ⟨q, ew.mpr (Or.inl d)⟩]
    rw [if_neg (show ¬ (p < n ∧ isDb (β p) = true) from fun h => d (ed.mp h.2)), if_pos (show (0 : Int32) = 0 from rfl)]
    by_cases c1 : β p = 46
    · rw [if_pos (e46.mpr c1), if_pos ⟨q, ew.mpr (Or.inr (Or.inl c1))⟩]
    rw [if_neg (fun h => c1 (e46.mp h))]
    by_cases c2 : β p < 97
    · rw [if_pos (e97.mpr c2)]
      by_cases c3 : β p < 65
      · rw [if_pos (e65.mpr c3), if_neg (fun h => by have := ew.mp h.2; omega)]
      rw [if_neg (fun h => c3 (e65.mp h))]
      by_cases c4 : 90 < β p
      · rw [if_pos (e90.mpr c4), if_neg (fun h => by have := ew.mp h.2; omega)]
      · rw [if_neg (fun h => c4 (e90.mp h)), if_pos ⟨q, ew.mpr (by omega)⟩]
    rw [if_neg (fun h => c2 (e97.mp h))]
    by_cases c5 : β p ≤ 122
    · rw [if_pos (e122.mpr c5), if_pos ⟨q, ew.mpr (by omega)⟩]
    · rw [if_neg (fun h => c5 (e122.mp h)), if_neg (fun h => by have := e65.mp h; omega), if_pos (e90.mpr (by omega)), if_neg (fun h => by have := ew.mp h.2; omega)]
  · have ec : chI n β p = -1 := if_neg q
    rw [if_neg (show ¬ (p < n ∧ isDb (β p) = true) from fun h => q h.1), ec, if_neg (show ¬ (p < n ∧ isWb (β p) = true) from fun h => q h.1)]
    decide
theorem m_isD {n : Nat} {β : Nat → Nat} (hn : n ≤ 200) {p : Nat} (hp : p < 100000) (hb : p < n → β p < 256) {τ : zSt} (ht : tpM n β τ) : fX9_isDigit (Int32.ofNat p) τ = some (if p < n ∧ isDb (β p) = true then 1 else 0) := by
  show fX9_isDigit_0 _ τ = _
  unfold fX9_isDigit_0
  have ep := iNt (n := p) (by omega)
  rw [ht.1]
  have ed : isDb (β p) = true ↔ (48 ≤ β p ∧ β p ≤ 57) := ⟨fun h => of_decide_eq_true h, fun h => decide_eq_true h⟩
  by_cases q : p < n
  · have hq := hb q
    have hv := ht.2 p q
    have vp := vin (N := 200) ep (by omega)
    rw [if_neg (show ¬ Int32.ofNat n ≤ Int32.ofNat p by rw [qI_le, iNt (by omega), ep]; omega), zg_pos vp, iN_cl (by omega)]
    by_cases a : (gi τ 62 p).toInt < 48
    · rw [if_pos (show gi τ 62 p < 48 by rw [qI_lt, show (48 : Int32).toInt = 48 by decide]; exact a), if_neg (fun h => by have := ed.mp h.2; rw [hv] at a; split at a <;> omega)]
    rw [if_neg (show ¬ gi τ 62 p < 48 by rw [qI_lt, show (48 : Int32).toInt = 48 by decide]; exact a), zg_pos vp]
    by_cases b : 57 < (gi τ 62 p).toInt
    · rw [if_pos (show 57 < gi τ 62 p by rw [qI_lt, show (57 : Int32).toInt = 57 by decide]; exact b), if_neg (fun h => by have := ed.mp h.2; rw [hv] at b; split at b <;> omega)]
    · rw [if_neg (show ¬ 57 < gi τ 62 p by rw [qI_lt, show (57 : Int32).toInt = 57 by decide]; exact b), if_pos ⟨q, ed.mpr (by rw [hv] at a b; split at a <;> split at b <;> omega)⟩]
  · rw [if_pos (show Int32.ofNat n ≤ Int32.ofNat p by rw [qI_le, iNt (by omega), ep]; omega), if_neg (fun h => q h.1)]
/-- where a WORD ends -/
def weF (n : Nat) (β : Nat → Nat) : Nat → Nat → Nat
  | 0, p => p
  | f + 1, p => if p < n ∧ isWb (β p) = true then weF n β f (p + 1) else p
def we (n : Nat) (β : Nat → Nat) (p : Nat) : Nat := weF n β 200 p
theorem weF_ok {n : Nat} {β : Nat → Nat} : ∀ f p, p ≤ n → n ≤ p + f → p ≤ weF n β f p ∧ weF n β f p ≤ n ∧ (weF n β f p < n → ¬ isWb (β (weF n β f p)) = true) ∧ ∀ i, p ≤ i → i < weF n β f p → isWb (β i) = true := by
  intro f
  induction f with
  | zero => intro p h1 h2; exact ⟨Nat.le_refl _, h1, fun h => absurd h (by show ¬ p < n; omega), fun i a b => absurd b (by show ¬ i < p; omega)⟩
  | succ f ih =>
    intro p h1 h2
    rw [weF]
    by_cases q : p < n ∧ isWb (β p) = true
    · rw [if_pos q]
      obtain ⟨a, b, c, d⟩ := ih (p + 1) (by omega) (by omega)
      refine ⟨by omega, b, c, fun i hi hj => ?_⟩
      by_cases e : i = p
      · rw [e]; exact q.2
      · exact d i (by omega) hj
    · rw [if_neg q]
      exact ⟨Nat.le_refl _, h1, fun h e => q ⟨h, e⟩, fun i a b => absurd b (by omega)⟩
theorem we_ok {n : Nat} {β : Nat → Nat} (hn : n ≤ 200) {p : Nat} (hp : p ≤ n) : p ≤ we n β p ∧ we n β p ≤ n ∧ (we n β p < n → ¬ isWb (β (we n β p)) = true) ∧ ∀ i, p ≤ i → i < we n β p → isWb (β i) = true := weF_ok 200 p hp (by omega)
theorem x_wordL {n : Nat} {β : Nat → Nat} (hn : n ≤ 200) (hb : ∀ p, p < n → β p < 256) {σ : zSt} (ht : tpX n β σ) : ∀ (f p F : Nat), f < F → p ≤ n → n ≤ p + f → fX3_word_L5 F (Int32.ofNat p) σ = fX3_word_36 (Int32.ofNat (weF n β f p)) σ := by
  intro f
  induction f with
  | zero =>
    intro p F hF h1 h2
    obtain ⟨F, rfl⟩ : ∃ F', F = F' + 1 := ⟨F - 1, by omega⟩
    rw [fX3_word_L5]
    unfold fX3_word_5
    rw [ht.1, if_pos (show Int32.ofNat n ≤ Int32.ofNat p by rw [qI_le, iNt (by omega), iNt (by omega)]; omega)]
    rfl
  | succ f ih =>
    intro p F hF h1 h2
    obtain ⟨F, rfl⟩ : ∃ F', F = F' + 1 := ⟨F - 1, by omega⟩
    rw [fX3_word_L5]
    unfold fX3_word_5
    rw [ht.1, weF]
    by_cases q : p < n
    · rw [if_neg (show ¬ Int32.ofNat n ≤ Int32.ofNat p by rw [qI_le, iNt (by omega), iNt (by omega)]; omega), x_byte hn ht (by omega), bd1_some, x_isW (hb p)]
      by_cases c : isWb (β p) = true
      · rw [if_pos (show p < n ∧ isWb (β p) = true from ⟨q, c⟩), if_neg iNe1, if_pos ⟨q, c⟩, nm_eq, iN_s (by omega)]
        exact ih (p + 1) F (by omega) (by omega) (by omega)
      · rw [if_neg (show ¬ (p < n ∧ isWb (β p) = true) from fun h => c h.2), if_pos (show (0 : Int32) = 0 from rfl), if_neg (fun h => c h.2)]
    · rw [if_pos (show Int32.ofNat n ≤ Int32.ofNat p by rw [qI_le, iNt (by omega), iNt (by omega)]; omega), if_neg (fun h => q h.1)]
theorem m_wordL {n : Nat} {β : Nat → Nat} (hn : n ≤ 200) (hb : ∀ p, p < n → β p < 256) {τ : zSt} (ht : tpM n β τ) : ∀ (f p F : Nat), f < F → p ≤ n → n ≤ p + f → fX9_wordEnd_L5 F (Int32.ofNat p) τ = some (Int32.ofNat (weF n β f p)) := by
  intro f
  induction f with
  | zero =>
    intro p F hF h1 h2
    obtain ⟨F, rfl⟩ : ∃ F', F = F' + 1 := ⟨F - 1, by omega⟩
    rw [fX9_wordEnd_L5]
    unfold fX9_wordEnd_5
    rw [ht.1, if_pos (show Int32.ofNat n ≤ Int32.ofNat p by rw [qI_le, iNt (by omega), iNt (by omega)]; omega)]
    rfl
  | succ f ih =>
    intro p F hF h1 h2
    obtain ⟨F, rfl⟩ : ∃ F', F = F' + 1 := ⟨F - 1, by omega⟩
    rw [fX9_wordEnd_L5]
    unfold fX9_wordEnd_5
    rw [ht.1, weF]
    by_cases q : p < n
    · have hq := hb p q
      have hv := ht.2 p q
      have vp := vin (N := 200) (iNt (n := p) (by omega)) (show p < 200 by omega)
      have cp := iN_cl (n := p) (by omega)
      have go := ih (p + 1) F (by omega)
      have ew : isWb (β p) = true ↔ ((48 ≤ β p ∧ β p ≤ 57) ∨ β p = 46 ∨ (97 ≤ β p ∧ β p ≤ 122) ∨ (65 ≤ β p ∧ β p ≤ 90)) := ⟨fun h => of_decide_eq_true h, fun h => decide_eq_true h⟩
      have ed : isDb (β p) = true ↔ (48 ≤ β p ∧ β p ≤ 57) := ⟨fun h => of_decide_eq_true h, fun h => decide_eq_true h⟩
      have hV : (gi τ 62 p).toInt = (β p : Int) ∨ ((gi τ 62 p).toInt = β p - 256 ∧ 128 ≤ β p) := by
        rw [hv]; split <;> omega
      rw [if_neg (show ¬ Int32.ofNat n ≤ Int32.ofNat p by rw [qI_le, iNt (by omega), iNt (by omega)]; omega), m_isD hn (by omega) (hb p) ht, bd1_some]
      have h54 : ¬ (48 ≤ β p ∧ β p ≤ 57) → ¬ β p = 46 → ¬ (97 ≤ β p ∧ β p ≤ 122) → fX9_wordEnd_54 (fX9_wordEnd_L5 F) (Int32.ofNat p) τ = some (Int32.ofNat (if p < n ∧ isWb (β p) = true then weF n β f (p + 1) else p)) := by
        intro a1 a2 a3
        unfold fX9_wordEnd_54
        rw [zg_pos vp, cp]
        by_cases c3 : (gi τ 62 p).toInt < 65
        · rw [if_pos (show gi τ 62 p < 65 by rw [qI_lt, show (65 : Int32).toInt = 65 by decide]; exact c3), if_neg (fun h => by have := ew.mp h.2; omega)]
        rw [if_neg (show ¬ gi τ 62 p < 65 by rw [qI_lt, show (65 : Int32).toInt = 65 by decide]; exact c3), zg_pos vp]
        by_cases c4 : 90 < (gi τ 62 p).toInt
        · rw [if_pos (show 90 < gi τ 62 p by rw [qI_lt, show (90 : Int32).toInt = 90 by decide]; exact c4), if_neg (fun h => by have := ew.mp h.2; omega)]
        · rw [if_neg (show ¬ 90 < gi τ 62 p by rw [qI_lt, show (90 : Int32).toInt = 90 by decide]; exact c4), if_pos ⟨q, ew.mpr (by omega)⟩, nm_eq, iN_s (by omega)]
          exact go (by omega) (by omega)
      by_cases d : 48 ≤ β p ∧ β p ≤ 57
      · rw [if_pos (show p < n ∧ isDb (β p) = true from ⟨q, ed.mpr d⟩), if_neg iNe1, if_pos ⟨q, ew.mpr (Or.inl d)⟩, nm_eq, iN_s (by omega)]
        exact go (by omega) (by omega)
      rw [if_neg (show ¬ (p < n ∧ isDb (β p) = true) from fun h => d (ed.mp h.2)), if_pos (show (0 : Int32) = 0 from rfl), zg_pos vp, cp]
      by_cases c1 : β p = 46
      · rw [if_pos (show gi τ 62 p = 46 by rw [qI_eq, show (46 : Int32).toInt = 46 by decide]; omega), if_pos ⟨q, ew.mpr (by omega)⟩, nm_eq, iN_s (by omega)]
        exact go (by omega) (by omega)
      rw [if_neg (show ¬ gi τ 62 p = 46 by rw [qI_eq, show (46 : Int32).toInt = 46 by decide]; omega), zg_pos vp]
      by_cases c2 : (gi τ 62 p).toInt < 97
      · rw [if_pos (show gi τ 62 p < 97 by rw [qI_lt, show (97 : Int32).toInt = 97 by decide]; exact c2)]
        exact h54 d c1 (by omega)
      rw [if_neg (show ¬ gi τ 62 p < 97 by rw [qI_lt, show (97 : Int32).toInt = 97 by decide]; exact c2), zg_pos vp]
      by_cases c5 : (gi τ 62 p).toInt ≤ 122
      · rw [if_pos (show gi τ 62 p ≤ 122 by rw [qI_le, show (122 : Int32).toInt = 122 by decide]; exact c5), if_pos ⟨q, ew.mpr (by omega)⟩, nm_eq, iN_s (by omega)]
        exact go (by omega) (by omega)
      · rw [if_neg (show ¬ gi τ 62 p ≤ 122 by rw [qI_le, show (122 : Int32).toInt = 122 by decide]; exact c5)]
        exact h54 d c1 (by omega)
    · rw [if_pos (show Int32.ofNat n ≤ Int32.ofNat p by rw [qI_le, iNt (by omega), iNt (by omega)]; omega), if_neg (fun h => q h.1)]
/-! the nine words -/
def zB (i j : Nat) : Nat := ((zByt.getD i []).getD j 0).toInt.toNat
theorem zB_ok : ∀ i, i < 9 → ∀ j, j < zLen.getD i 0 → (zByt.getD i []).getD j 0 = Int32.ofNat (zB i j) ∧ zB i j < 128 ∧ ((((zByt.getD i []).getD j 0) &&& (255 : Int32)).toUInt32 % 65536).toInt32 = Int32.ofNat (zB i j) ∧ (Int32.ofNat (zB i j)).toUInt32.toUInt16.toUInt32.toInt32 = Int32.ofNat (zB i j) ∧ 97 ≤ zB i j ∧ zB i j ≤ 122 := by decide +kernel
theorem zL_ok : ∀ i, i < 9 → 1 ≤ zLen.getD i 0 ∧ zLen.getD i 0 ≤ 7 ∧ jshrI (Int32.ofNat (zLen.getD i 0)) 0 = Int32.ofNat (zLen.getD i 0) ∧ (1 ≤ i → 3 ≤ zLen.getD i 0) := by decide +kernel
theorem j_len {i : Nat} (hi : i < 9) : fJ0_length_8abf5 i = some (Int32.ofNat (zLen.getD i 0)) := by
  show zg (i < 9) (fJ0_length_8abf5_0 i) = _
  rw [zg_pos hi]
  unfold fJ0_length_8abf5_0
  have e : fJ0_coder_7d493 i = some 0 := by
    show zg (i < 9) (fJ0_coder_7d493_0 i) = _
    rw [zg_pos hi]; rfl
  rw [e, bd1_some, (zL_ok i hi).2.2.1]
theorem j_char {i j : Nat} (hi : i < 9) (hj : j < zLen.getD i 0) : fJ0_charAt_5068e i (Int32.ofNat j) = some (Int32.ofNat (zB i j)) := by
  have l := zL_ok i hi
  obtain ⟨b1, b2, b3, b4, -⟩ := zB_ok i hi j hj
  have v := vin (N := zLen.getD i 0) (iNt (n := j) (by omega)) hj
  show zg (i < 9) (fJ0_charAt_5068e_0 i (Int32.ofNat j)) = _
  rw [zg_pos hi]
  unfold fJ0_charAt_5068e_0
  have e : fJ0_isLatin1_aae02 i = some 1 := by
    show zg (i < 9) (fJ0_isLatin1_aae02_0 i) = _
    rw [zg_pos hi]; rfl
  have e2 : fJ1_charAt_3b067 i (Int32.ofNat j) = some (Int32.ofNat (zB i j)) := by
    show zg (i < 9) (fJ1_charAt_3b067_0 i (Int32.ofNat j)) = _
    rw [zg_pos hi]
    unfold fJ1_charAt_3b067_0
    rw [zg_pos v, zg_pos v, nm_eq, iN_cl (by omega), b3, zg_pos (show narrow .char (.int (Int32.ofNat (zB i j))) = .int (Int32.ofNat (zB i j)) from congrArg Value.int b4)]
  rw [e, bd1_some, if_neg iNe1, e2, bd1_some, zg_pos (show narrow .char (.int (Int32.ofNat (zB i j))) = .int (Int32.ofNat (zB i j)) from congrArg Value.int b4)]
abbrev wd (β : Nat → Nat) (p e i : Nat) : Prop := e = p + zLen.getD i 0 ∧ ∀ j, j < zLen.getD i 0 → β (p + j) = zB i j
theorem x_isWord {n : Nat} {β : Nat → Nat} (hn : n ≤ 200) (hb : ∀ p, p < n → β p < 256) {σ : zSt} (ht : tpX n β σ) {p e i : Nat} (hi : i < 9) (hp : gi σ 1 2 = Int32.ofNat p) (hpe : p ≤ e) (hen : e ≤ n) : fX3_isWord (Int32.ofNat e) i σ = some (if wd β p e i then 1 else 0) := by
  obtain ⟨Z, hZ⟩ := zFU_ge 1000 (by omega)
  have l := zL_ok i hi
  have loop : e = p + zLen.getD i 0 → ∀ (d j F : Nat), j + d = zLen.getD i 0 → d < F → (∀ j', j' < j → β (p + j') = zB i j') → fX3_isWord_L17 F i (Int32.ofNat j) σ = some (if wd β p e i then 1 else 0) := by
    intro he d
    induction d with
    | zero =>
      intro j F h1 h2 h3
      obtain ⟨F, rfl⟩ : ∃ F', F = F' + 1 := ⟨F - 1, by omega⟩
      rw [fX3_isWord_L17]
      unfold fX3_isWord_17
      rw [j_len hi, bd1_some, if_pos (show Int32.ofNat (zLen.getD i 0) ≤ Int32.ofNat j by rw [qI_le, iNt (by omega), iNt (by omega)]; omega), if_pos ⟨he, fun j' hj' => h3 j' (by omega)⟩]
    | succ d ih =>
      intro j F h1 h2 h3
      obtain ⟨F, rfl⟩ : ∃ F', F = F' + 1 := ⟨F - 1, by omega⟩
      rw [fX3_isWord_L17]
      unfold fX3_isWord_17
      have c := chI_eq (n := n) (β := β) (p := p + j) (fun h => hb _ h) (k := zB i j) (by have := (zB_ok i hi j (by omega)).2.1; omega)
      rw [j_len hi, bd1_some, if_neg (show ¬ Int32.ofNat (zLen.getD i 0) ≤ Int32.ofNat j by rw [qI_le, iNt (by omega), iNt (by omega)]; omega), hp, iN_a (by omega), x_byte hn ht (by omega), bd1_some, j_char hi (by omega), bd1_some]
      by_cases q : β (p + j) = zB i j
      · rw [if_pos (c.mpr ⟨by omega, q⟩), nm_eq, iN_s (by omega)]
        exact ih (j + 1) F (by omega) (by omega) (fun j' hj' => by
          by_cases e' : j' = j
          · rw [e']; exact q
          · exact h3 j' (by omega))
      · rw [if_neg (fun h => q (c.mp h).2), if_neg (fun h => q (h.2 j (by omega)))]
  show zg (i < 9) (fX3_isWord_0 (Int32.ofNat e) i σ) = _
  rw [zg_pos hi]
  unfold fX3_isWord_0
  have es : (Int32.ofNat e - Int32.ofNat p).toInt = ((e - p : Nat) : Int) := by rw [qI_sub (by rw [iNt (by omega), iNt (by omega)]; omega) (by rw [iNt (by omega), iNt (by omega)]; omega), iNt (by omega), iNt (by omega)]; omega
  rw [j_len hi, bd1_some, hp]
  by_cases q : e = p + zLen.getD i 0
  · rw [if_pos (show Int32.ofNat e - Int32.ofNat p = Int32.ofNat (zLen.getD i 0) by rw [qI_eq, es, iNt (by omega)]; omega)]
    exact loop q (zLen.getD i 0) 0 zFU (by omega) (by omega) (fun j' hj' => absurd hj' (by omega))
  · rw [if_neg (show ¬ Int32.ofNat e - Int32.ofNat p = Int32.ofNat (zLen.getD i 0) by rw [qI_eq, es, iNt (by omega)]; omega), if_neg (fun h => q h.1)]
theorem m_stands {n : Nat} {β : Nat → Nat} (hn : n ≤ 200) (hb : ∀ p, p < n → β p < 256) {τ : zSt} (ht : tpM n β τ) {p e i : Nat} (hi : i < 9) (hp : gi τ 61 10 = Int32.ofNat p) (hpe : p ≤ e) (hen : e ≤ n) : fX9_stands i (Int32.ofNat e) τ = some (if wd β p e i then 1 else 0) := by
  obtain ⟨Z, hZ⟩ := zFU_ge 1000 (by omega)
  have l := zL_ok i hi
  have zero : ∀ (j F : Nat), 0 < F → fX9_stands_L22 F i 0 (Int32.ofNat j) τ = some 0 := by
    intro j F hF
    obtain ⟨F, rfl⟩ : ∃ F', F = F' + 1 := ⟨F - 1, by omega⟩
    rw [fX9_stands_L22]
    unfold fX9_stands_22
    rw [j_len hi, bd1_some]
    by_cases q : Int32.ofNat (zLen.getD i 0) ≤ Int32.ofNat j
    · rw [if_pos q, zg_pos nar0]
    · rw [if_neg q, if_pos (show (0 : Int32) = 0 from rfl), zg_pos nar0]
  have loop : e = p + zLen.getD i 0 → ∀ (d j F : Nat), j + d = zLen.getD i 0 → d + 1 < F → (∀ j', j' < j → β (p + j') = zB i j') → fX9_stands_L22 F i 1 (Int32.ofNat j) τ = some (if wd β p e i then 1 else 0) := by
    intro he d
    induction d with
    | zero =>
      intro j F h1 h2 h3
      obtain ⟨F, rfl⟩ : ∃ F', F = F' + 1 := ⟨F - 1, by omega⟩
      rw [fX9_stands_L22]
      unfold fX9_stands_22
      rw [j_len hi, bd1_some, if_pos (show Int32.ofNat (zLen.getD i 0) ≤ Int32.ofNat j by rw [qI_le, iNt (by omega), iNt (by omega)]; omega), if_pos ⟨he, fun j' hj' => h3 j' (by omega)⟩, zg_pos nar1]
    | succ d ih =>
      intro j F h1 h2 h3
      obtain ⟨F, rfl⟩ : ∃ F', F = F' + 1 := ⟨F - 1, by omega⟩
      rw [fX9_stands_L22]
      unfold fX9_stands_22
      have bz := (zB_ok i hi j (by omega)).2.1
      have c := m_byte32 (hb (p + j) (by omega)) (ht.2 (p + j) (by omega)) (k := zB i j) bz
      rw [j_len hi, bd1_some, if_neg (show ¬ Int32.ofNat (zLen.getD i 0) ≤ Int32.ofNat j by rw [qI_le, iNt (by omega), iNt (by omega)]; omega), if_neg iNe1, hp, iN_a (by omega), zg_pos (vin (iNt (by omega)) (by omega)), j_char hi (by omega), bd1_some, iN_cl (by omega)]
      by_cases q : β (p + j) = zB i j
      · rw [if_pos (c.mpr q), nm_eq, iN_s (by omega)]
        exact ih (j + 1) F (by omega) (by omega) (fun j' hj' => by
          by_cases e' : j' = j
          · rw [e']; exact q
          · exact h3 j' (by omega))
      · rw [if_neg (fun h => q (c.mp h)), nm_eq, iN_s (by omega), zero (j + 1) F (by omega), if_neg (fun h => q (h.2 j (by omega)))]
  show zg (i < 9) (fX9_stands_0 i (Int32.ofNat e) τ) = _
  rw [zg_pos hi]
  unfold fX9_stands_0
  have es : (Int32.ofNat e - Int32.ofNat p).toInt = ((e - p : Nat) : Int) := by rw [qI_sub (by rw [iNt (by omega), iNt (by omega)]; omega) (by rw [iNt (by omega), iNt (by omega)]; omega), iNt (by omega), iNt (by omega)]; omega
  rw [j_len hi, bd1_some, hp]
  by_cases q : e = p + zLen.getD i 0
  · rw [if_pos (show Int32.ofNat e - Int32.ofNat p = Int32.ofNat (zLen.getD i 0) by rw [qI_eq, es, iNt (by omega)]; omega)]
    exact loop q (zLen.getD i 0) 0 zFU (by omega) (by omega) (fun j' hj' => absurd hj' (by omega))
  · rw [if_neg (show ¬ Int32.ofNat e - Int32.ofNat p = Int32.ofNat (zLen.getD i 0) by rw [qI_eq, es, iNt (by omega)]; omega), if_neg (fun h => q h.1)]
    exact zero 0 zFU (by omega)
