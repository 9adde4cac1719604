/-! NUMBERS on the Model's side -/
theorem tpM_at {n : Nat} {β : Nat → Nat} {τ : zSt} (ht : tpM n β τ) (v : Int32) {i : Nat} (hi : i ≠ 2) : tpM n β (si τ 61 i v) := ⟨by rw [gi_si, if_neg (by omega)]; exact ht.1, fun p hp => by rw [gi_si, if_neg (show ¬ (62 = 61 ∧ p = i) by omega)]; exact ht.2 p hp⟩
theorem m_byteD {v : Int32} {b : Nat} (h : v.toInt = if b < 128 then (b : Int) else b - 256) (hb : b ≤ 57) : (Int32.toInt64 v).toInt = b := by
  rw [qL_ofI, h, if_pos (by omega)]
theorem m_num1 {n : Nat} {β : Nat → Nat} (hn : n ≤ 200) (hb : ∀ p, p < n → β p < 256) {w : Int64} : ∀ (k p F vn c : Nat) (v : Int64) (τ : zSt), tpM n β τ → gi τ 61 10 = Int32.ofNat p → p + k ≤ n → c + k ≤ 4 → (∀ i, p ≤ i → i < p + k → isDb (β i) = true) → v.toInt = vn → (vn + 1) * 10 ^ k ≤ 100000000 → ∃ v' : Int64, v'.toInt = dgV β k p vn ∧ fX9_number_L7 (F + k) v w (Int32.ofNat c) τ = fX9_number_L7 F v' w (Int32.ofNat (c + k)) (si τ 61 10 (Int32.ofNat (p + k))) := by
  intro k
  induction k with
  | zero => intro p F vn c v τ ht hp h1 h2 h3 h4 h5; exact ⟨v, h4, by show _ = fX9_number_L7 F v w (Int32.ofNat c) (si τ 61 10 (Int32.ofNat p)); rw [si_self hp]; rfl⟩
  | succ k ih =>
    intro p F vn c v τ ht hp h1 h2 h3 h4 h5
    have dg := h3 p (Nat.le_refl _) (by omega)
    have db := db_iff.mp dg
    have hw := m_byteD (ht.2 p (by omega)) db.2
    have e1 : fX9_number_L7 (F + (k + 1)) v w (Int32.ofNat c) τ = fX9_number_7 (fX9_number_L7 (F + k)) v w (Int32.ofNat c) τ := rfl
    have hv' := dgM h4 hw (dg_lt h5) db
    rw [e1]
    unfold fX9_number_7
    rw [if_neg (show ¬ (4 : Int32) ≤ Int32.ofNat c by rw [qI_le, iNt (by omega), e4I]; omega), hp, m_isD hn (by omega) (hb p) ht, bd1_some, if_pos (show p < n ∧ isDb (β p) = true from ⟨by omega, dg⟩), if_neg iNe1, zg_pos (vin (iNt (n := p) (by omega)) (by omega)), iN_cl (n := p) (by omega), nm_eq, nm_eq, nm_eq, iN_s (by omega), iN_s (by omega)]
    obtain ⟨v', a1, a2⟩ := ih (p + 1) F _ (c + 1) _ (si τ 61 10 (Int32.ofNat (p + 1))) (tpM_at ht _ (by omega)) (by rw [gi_si, if_pos (by omega)]) (by omega) (by omega) (fun i h7 h8 => h3 i (by omega) (by omega)) hv' (dg_step h5 db.2)
    refine ⟨v', a1, ?_⟩
    rw [a2, si_si, show p + 1 + k = p + (k + 1) by omega, show c + 1 + k = c + (k + 1) by omega]
theorem m_num2 {n : Nat} {β : Nat → Nat} (hn : n ≤ 200) (hb : ∀ p, p < n → β p < 256) : ∀ (k p F vn bn c : Nat) (v w : Int64) (τ : zSt), tpM n β τ → gi τ 61 10 = Int32.ofNat p → p + k ≤ n → c + k ≤ 4 → (∀ i, p ≤ i → i < p + k → isDb (β i) = true) → v.toInt = vn → w.toInt = bn → (vn + 1) * 10 ^ k ≤ 100000000 → bn * 10 ^ k ≤ 10000 → ∃ v' w' : Int64, v'.toInt = dgV β k p vn ∧ w'.toInt = (bn * 10 ^ k : Nat) ∧ fX9_number_L112 (F + k) v w (Int32.ofNat c) τ = fX9_number_L112 F v' w' (Int32.ofNat (c + k)) (si τ 61 10 (Int32.ofNat (p + k))) := by
  intro k
  induction k with
  | zero => intro p F vn bn c v w τ ht hp h1 h2 h3 h4 h4w h5 h6; exact ⟨v, w, h4, by rw [h4w]; simp, by show _ = fX9_number_L112 F v w (Int32.ofNat c) (si τ 61 10 (Int32.ofNat p)); rw [si_self hp]; rfl⟩
  | succ k ih =>
    intro p F vn bn c v w τ ht hp h1 h2 h3 h4 h4w h5 h6
    have dg := h3 p (Nat.le_refl _) (by omega)
    have db := db_iff.mp dg
    have hw := m_byteD (ht.2 p (by omega)) db.2
    have e1 : fX9_number_L112 (F + (k + 1)) v w (Int32.ofNat c) τ = fX9_number_112 (fX9_number_L112 (F + k)) v w (Int32.ofNat c) τ := rfl
    have hv' := dgM h4 hw (dg_lt h5) db
    have hw' : (10 * w).toInt = ((10 * bn : Nat) : Int) := by
      have := by_le (by_step h6)
      rw [qL_mul (by rw [e10L]; omega) (by rw [e10L]; omega), e10L]; omega
    rw [e1]
    unfold fX9_number_112
    rw [if_neg (show ¬ (4 : Int32) ≤ Int32.ofNat c by rw [qI_le, iNt (by omega), e4I]; omega), hp, m_isD hn (by omega) (hb p) ht, bd1_some, if_pos (show p < n ∧ isDb (β p) = true from ⟨by omega, dg⟩), if_neg iNe1, zg_pos (vin (iNt (n := p) (by omega)) (by omega)), iN_cl (n := p) (by omega), nm_eq, nm_eq, nm_eq, nm_eq, iN_s (by omega), iN_s (by omega)]
    obtain ⟨v', w', a1, a0, a2⟩ := ih (p + 1) F _ (10 * bn) (c + 1) _ _ (si τ 61 10 (Int32.ofNat (p + 1))) (tpM_at ht _ (by omega)) (by rw [gi_si, if_pos (by omega)]) (by omega) (by omega) (fun i h7 h8 => h3 i (by omega) (by omega)) hv' hw' (dg_step h5 db.2) (by_step h6)
    refine ⟨v', w', a1, ?_, ?_⟩
    · rw [a0, Nat.pow_succ, Nat.mul_comm (10 ^ k) 10, ← Nat.mul_assoc, Nat.mul_comm bn 10]
    · rw [a2, si_si, show p + 1 + k = p + (k + 1) by omega, show c + 1 + k = c + (k + 1) by omega]
theorem m_bad0 {τ : zSt} (h : gi τ 61 11 = 0) : fX9_bad τ = 0 := by
  show fX9_bad_0 τ = 0
  unfold fX9_bad_0
  rw [h, if_pos (by decide)]
def mRow (τ : zSt) (i d : Nat) (t a b : Int32) : zSt := si (si (si (si τ 64 i t) 65 i a) 66 i b) 61 13 (Int32.ofNat (d + 1))
theorem m_make {τ : zSt} {N d : Nat} (h0 : gi τ 61 11 = 0) (h1 : gi τ 61 3 = Int32.ofNat N) (h2 : gi τ 61 13 = Int32.ofNat d) (hN : N ≤ 7) (hd : d < 60) (t a b : Int32) : fX9_make t a b τ = some (Int32.ofNat (60 * N + d), mRow τ (60 * N + d) d t a b) := by
  show fX9_make_0 t a b τ = _
  unfold fX9_make_0 mRow
  have e60 : (60 : Int32).toInt = 60 := by decide
  have e : (60 : Int32) * Int32.ofNat N + Int32.ofNat d = Int32.ofNat (60 * N + d) := by
    have a : (60 : Int32) * Int32.ofNat N = Int32.ofNat (60 * N) := by
      rw [qI_eq, Int32.toInt_mul, e60, iNt (by omega), iNt (by omega), Int.bmod_def]; omega
    rw [a, iN_a (by omega)]
  have v := vin (N := 480) (iNt (n := 60 * N + d) (by omega)) (by omega)
  rw [m_bad0 h0, if_pos rfl, h1, h2, nm_eq, e, zg_pos v, zg_pos v, zg_pos v, iN_cl (n := 60 * N + d) (by omega), iN_s (by omega)]
theorem m_numEnd {τ : zSt} {N d : Nat} (h0 : gi τ 61 11 = 0) (h1 : gi τ 61 3 = Int32.ofNat N) (h2 : gi τ 61 13 = Int32.ofNat d) (hN : N ≤ 7) (hd : d < 60) {v w : Int64} {vn bn : Nat} (hv : v.toInt = vn) (hw : w.toInt = bn) (g1 : vn < 100000000) (g2 : 1 ≤ bn) (g3 : bn ≤ 10000) : ∃ lo hi : Int64, sOf lo.toInt hi.toInt = nmS vn bn ∧ fX9_number_172 v w τ = some (Int32.ofNat (60 * N + d), sl (sl (mRow τ (60 * N + d) d 1 0 0) 67 (60 * N + d) lo) 68 (60 * N + d) hi) := by
  have a : (v * 1048576).toInt = (vn : Int) * 1048576 := by rw [qL_mul (by rw [e2020]; omega) (by rw [e2020]; omega), e2020, hv]
  obtain ⟨lo, l1, l2⟩ := m_down (x := v * 1048576) (y := w) (by omega) (by rw [a]; omega)
  obtain ⟨hi, i1, i2⟩ := m_up (x := v * 1048576) (y := w) (by omega) (by rw [a]; omega)
  have vv := vin (N := 480) (iNt (n := 60 * N + d) (by omega)) (by omega)
  refine ⟨lo, hi, ?_, ?_⟩
  · rw [l2, i2, a, hw, dn_pos (by omega), up_pos (by omega)]
    rfl
  · unfold fX9_number_172
    rw [m_make h0 h1 h2 hN hd, bd2_some, l1, bd1_some, zg_pos vv, i1, bd1_some, zg_pos vv, iN_cl (n := 60 * N + d) (by omega)]
theorem m_number {n : Nat} {β : Nat → Nat} (hn : n ≤ 200) (hb : ∀ p, p < n → β p < 256) {τ : zSt} (ht : tpM n β τ) {N d : Nat} (h0 : gi τ 61 11 = 0) (h1 : gi τ 61 3 = Int32.ofNat N) (h2 : gi τ 61 13 = Int32.ofNat d) (hN : N ≤ 7) (hd : d < 60) {p e m : Nat} (hp : gi τ 61 10 = Int32.ofNat p) (he : e ≤ n) (hme : m ≤ e) (h : isNm β p e m) (hdg : ∀ i, p ≤ i → i < m → isDb (β i) = true) (hend : e < n → isWb (β e) = true → False) : ∃ lo hi : Int64, sOf lo.toInt hi.toInt = nmS (nmV β p e m) (nmB e m) ∧ fX9_number τ = some (Int32.ofNat (60 * N + d), sl (sl (mRow (si τ 61 10 (Int32.ofNat e)) (60 * N + d) d 1 0 0) 67 (60 * N + d) lo) 68 (60 * N + d) hi) := by
  obtain ⟨B1, B2, B3⟩ := nm_bd h hdg
  obtain ⟨h3, h4, h5⟩ := h
  have b2 : (0 + 1) * 10 ^ (m - p) ≤ 10 ^ 4 := by
    rw [Nat.zero_add, Nat.one_mul]; exact Nat.pow_le_pow_right (by omega) (by omega)
  obtain ⟨Z, hZ⟩ := zFU_ge 1000 (by omega)
  obtain ⟨F, hF⟩ : ∃ F, zFU = F + 1 + (m - p) := ⟨zFU - 1 - (m - p), by omega⟩
  obtain ⟨v1, a1, a2⟩ := m_num1 hn hb (w := 1) (m - p) p (F + 1) 0 0 0 τ ht hp (by omega) (by omega) (fun i a b => hdg i a (by omega)) q0L (by omega)
  have b1 := dg_bd (β := β) (m - p) p 0 (fun i a b => hdg i a (by omega))
  show ∃ lo hi : Int64, _ ∧ fX9_number_0 τ = _
  unfold fX9_number_0
  rw [hF, show (0 : Int32) = Int32.ofNat 0 from rfl, a2, show p + (m - p) = m by omega, Nat.zero_add]
  obtain ⟨τ1, ht1⟩ : ∃ τ1, τ1 = si τ 61 10 (Int32.ofNat m) := ⟨_, rfl⟩
  have hp1 : gi τ1 61 10 = Int32.ofNat m := by rw [ht1, gi_si, if_pos (by omega)]
  have tp1 : tpM n β τ1 := by rw [ht1]; exact tpM_at ht _ (by omega)
  have st : fX9_number_L7 (F + 1) v1 1 (Int32.ofNat (m - p)) τ1 = fX9_number_61 v1 1 τ1 := by
    rw [fX9_number_L7]
    unfold fX9_number_7
    by_cases x : m = p + 4
    · rw [if_pos (show (4 : Int32) ≤ Int32.ofNat (m - p) by rw [qI_le, iNt (by omega), e4I]; omega)]
    · have nd : ¬ (m < n ∧ isDb (β m) = true) := fun hh => by
        rcases h5 with h5 | ⟨h5, -⟩
        · rw [h5] at hh
          exact hend hh.1 (wb_d hh.2)
        · have := db_iff.mp hh.2; omega
      rw [if_neg (show ¬ (4 : Int32) ≤ Int32.ofNat (m - p) by rw [qI_le, iNt (by omega), e4I]; omega), hp1, m_isD hn (by omega) (hb m) tp1, bd1_some, if_neg nd, if_pos (show (0 : Int32) = 0 from rfl)]
  rw [← ht1, st]
  unfold fX9_number_61
  rw [hp1, tp1.1]
  by_cases x : m = e
  · unfold nmV at B1 ⊢
    unfold nmB at B2 B3 ⊢
    rw [if_pos x] at B1 B2 B3
    rw [if_pos x, if_pos x]
    obtain ⟨lo, hi, c1, c2⟩ := m_numEnd (τ := τ1) (by rw [ht1, gi_si, if_neg (by omega)]; exact h0) (by rw [ht1, gi_si, if_neg (by omega)]; exact h1) (by rw [ht1, gi_si, if_neg (by omega)]; exact h2) hN hd a1 q1L B1 B2 B3
    refine ⟨lo, hi, c1, ?_⟩
    rw [ht1, x] at c2
    by_cases y : m < n
    · have nd : ¬ β m = 46 := fun hh => hend (by omega) (by rw [← x, hh]; rfl)
      have cm := m_byte32 (hb m y) (tp1.2 m y) (k := 46) (by omega)
      rw [if_neg (show ¬ Int32.ofNat n ≤ Int32.ofNat m by rw [qI_le, iNt (by omega), iNt (by omega)]; omega), zg_pos (vin (iNt (n := m) (by omega)) (by omega)), iN_cl (n := m) (by omega), if_neg (show ¬ gi τ1 62 m = 46 from fun h => nd (cm.mp h)), ht1, x]
      exact c2
    · rw [if_pos (show Int32.ofNat n ≤ Int32.ofNat m by rw [qI_le, iNt (by omega), iNt (by omega)]; omega), ht1, x]
      exact c2
  · rcases h5 with h5 | ⟨h5, h6, h7, h8⟩
    · exact absurd h5 x
    unfold nmV at B1 ⊢
    unfold nmB at B2 B3 ⊢
    rw [if_neg x] at B1 B2 B3
    rw [if_neg x, if_neg x]
    have b4 : 10 ^ (e - m - 1) ≤ 10 ^ 4 := Nat.pow_le_pow_right (by omega) (by omega)
    have b5 : (dgV β (m - p) p 0 + 1) * 10 ^ (e - m - 1) ≤ 10 ^ 4 * 10 ^ 4 := Nat.mul_le_mul (by omega) b4
    have cm := m_byte32 (hb m (by omega)) (tp1.2 m (by omega)) (k := 46) (by omega)
    rw [if_neg (show ¬ Int32.ofNat n ≤ Int32.ofNat m by rw [qI_le, iNt (by omega), iNt (by omega)]; omega), zg_pos (vin (iNt (n := m) (by omega)) (by omega)), iN_cl (n := m) (by omega), if_pos (show gi τ1 62 m = 46 from cm.mpr h5), iN_s (by omega), m_isD hn (by omega) (hb (m + 1)) tp1, bd1_some, if_pos (show m + 1 < n ∧ isDb (β (m + 1)) = true from ⟨by omega, h8 (m + 1) (by omega) (by omega)⟩), if_neg iNe1]
    obtain ⟨G, hG⟩ : ∃ G, zFU = G + 1 + (e - m - 1) := ⟨zFU - 1 - (e - m - 1), by omega⟩
    obtain ⟨v2, w2, c1, c2, c3⟩ := m_num2 hn hb (e - m - 1) (m + 1) (G + 1) _ 1 0 v1 1 (si τ1 61 10 (Int32.ofNat (m + 1))) (tpM_at tp1 _ (by omega)) (by rw [gi_si, if_pos (by omega)]) (by omega) (by omega) (fun i a b => h8 i (by omega) (by omega)) a1 q1L (by omega) (by omega)
    rw [hG, show (0 : Int32) = Int32.ofNat 0 from rfl, c3, si_si, show m + 1 + (e - m - 1) = e by omega, Nat.zero_add, ht1, si_si]
    rw [Nat.one_mul] at c2
    obtain ⟨τ2, ht2⟩ : ∃ τ2, τ2 = si τ 61 10 (Int32.ofNat e) := ⟨_, rfl⟩
    have hp2 : gi τ2 61 10 = Int32.ofNat e := by rw [ht2, gi_si, if_pos (by omega)]
    have tp2 : tpM n β τ2 := by rw [ht2]; exact tpM_at ht _ (by omega)
    rw [← ht2]
    have st2 : fX9_number_L112 (G + 1) v2 w2 (Int32.ofNat (e - m - 1)) τ2 = fX9_number_172 v2 w2 τ2 := by
      rw [fX9_number_L112]
      unfold fX9_number_112
      by_cases y : e = m + 5
      · rw [if_pos (show (4 : Int32) ≤ Int32.ofNat (e - m - 1) by rw [qI_le, iNt (by omega), e4I]; omega)]
      · have nd : ¬ (e < n ∧ isDb (β e) = true) := fun hh => hend hh.1 (wb_d hh.2)
        rw [if_neg (show ¬ (4 : Int32) ≤ Int32.ofNat (e - m - 1) by rw [qI_le, iNt (by omega), e4I]; omega), hp2, m_isD hn (by omega) (hb e) tp2, bd1_some, if_neg nd, if_pos (show (0 : Int32) = 0 from rfl)]
    rw [st2]
    exact m_numEnd (τ := τ2) (by rw [ht2, gi_si, if_neg (by omega)]; exact h0) (by rw [ht2, gi_si, if_neg (by omega)]; exact h1) (by rw [ht2, gi_si, if_neg (by omega)]; exact h2) hN hd c1 c2 B1 B2 B3
