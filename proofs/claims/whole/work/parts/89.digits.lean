/-! NUMBERS: what they are -/
def dgV (β : Nat → Nat) : Nat → Nat → Nat → Nat
  | 0, _, v => v
  | k + 1, p, v => dgV β k (p + 1) (10 * v + (β p - 48))
theorem ten_pos (k : Nat) : 1 ≤ 10 ^ k := Nat.pos_of_ne_zero (by
  intro h
  exact absurd (Nat.pow_eq_zero.mp h).1 (by decide))
theorem dg_step {v b k : Nat} (h : (v + 1) * 10 ^ (k + 1) ≤ 100000000) (hb : b ≤ 57) : (10 * v + (b - 48) + 1) * 10 ^ k ≤ 100000000 := by
  have e : (v + 1) * 10 ^ (k + 1) = (10 * (v + 1)) * 10 ^ k := by rw [Nat.pow_succ, Nat.mul_comm (10 ^ k) 10, ← Nat.mul_assoc, Nat.mul_comm (v + 1) 10]
  rw [e] at h
  exact Nat.le_trans (Nat.mul_le_mul_right _ (by omega)) h
theorem dg_lt {v k M : Nat} (h : (v + 1) * 10 ^ k ≤ M) : v < M := by
  have := Nat.le_mul_of_pos_right (v + 1) (ten_pos k)
  omega
theorem by_step {b k : Nat} (h : b * 10 ^ (k + 1) ≤ 10000) : (10 * b) * 10 ^ k ≤ 10000 := by
  have e : b * 10 ^ (k + 1) = (10 * b) * 10 ^ k := by rw [Nat.pow_succ, Nat.mul_comm (10 ^ k) 10, ← Nat.mul_assoc, Nat.mul_comm b 10]
  rw [e] at h; exact h
theorem by_le {b k : Nat} (h : b * 10 ^ k ≤ 10000) : b ≤ 10000 := by
  have := Nat.le_mul_of_pos_right b (ten_pos k)
  omega
theorem dg_bd {β : Nat → Nat} : ∀ k p v, (∀ i, p ≤ i → i < p + k → isDb (β i) = true) → dgV β k p v + 1 ≤ (v + 1) * 10 ^ k := by
  intro k
  induction k with
  | zero => intro p v h; show v + 1 ≤ (v + 1) * 1; omega
  | succ k ih =>
    intro p v h
    have d := db_iff.mp (h p (Nat.le_refl _) (by omega))
    have := ih (p + 1) (10 * v + (β p - 48)) (fun i h1 h2 => h i (by omega) (by omega))
    rw [dgV]
    refine Nat.le_trans this ?_
    have e : (v + 1) * 10 ^ (k + 1) = (10 * (v + 1)) * 10 ^ k := by rw [Nat.pow_succ, Nat.mul_comm (10 ^ k) 10, ← Nat.mul_assoc, Nat.mul_comm (v + 1) 10]
    rw [e]
    exact Nat.mul_le_mul_right _ (by omega)
theorem e10L : (10 : Int64).toInt = 10 := by decide
theorem e48L : (48 : Int64).toInt = 48 := by decide
theorem dgL {v w : Int64} {vn b : Nat} (hv : v.toInt = vn) (hw : w.toInt = b) (h1 : vn < 100000000) (h2 : 48 ≤ b ∧ b ≤ 57) : (v * 10 + w - 48).toInt = ((10 * vn + (b - 48) : Nat) : Int) := by
  have a : (v * 10).toInt = v.toInt * 10 := by rw [qL_mul (by rw [e10L]; omega) (by rw [e10L]; omega), e10L]
  have c : (v * 10 + w).toInt = v.toInt * 10 + w.toInt := by rw [qL_add (by rw [a]; omega) (by rw [a]; omega), a]
  rw [qL_sub (by rw [c, e48L]; omega) (by rw [c, e48L]; omega), c, e48L]
  omega
theorem dgM {v w : Int64} {vn b : Nat} (hv : v.toInt = vn) (hw : w.toInt = b) (h1 : vn < 100000000) (h2 : 48 ≤ b ∧ b ≤ 57) : (10 * v + w - 48).toInt = ((10 * vn + (b - 48) : Nat) : Int) := by
  have a : (10 * v).toInt = 10 * v.toInt := by rw [qL_mul (by rw [e10L]; omega) (by rw [e10L]; omega), e10L]
  have c : (10 * v + w).toInt = 10 * v.toInt + w.toInt := by rw [qL_add (by rw [a]; omega) (by rw [a]; omega), a]
  rw [qL_sub (by rw [c, e48L]; omega) (by rw [c, e48L]; omega), c, e48L]
  omega
theorem x_numL {n : Nat} {β : Nat → Nat} (hn : n ≤ 200) (hb : ∀ p, p < n → β p < 256) {σ : zSt} (ht : tpX n β σ) {e : Nat} (he : e ≤ n) {fl : Int32} : ∀ (k p F vn bn : Nat) (v w : Int64), p + k ≤ e → (∀ i, p ≤ i → i < p + k → isDb (β i) = true) → v.toInt = vn → w.toInt = bn → (vn + 1) * 10 ^ k ≤ 100000000 → bn * 10 ^ k ≤ 10000 → ∃ v' w' : Int64, v'.toInt = dgV β k p vn ∧ w'.toInt = (if fl = 0 then bn else bn * 10 ^ k : Nat) ∧ fX3_number_L14 (F + k) (Int32.ofNat e) v w fl (Int32.ofNat p) σ = fX3_number_L14 F (Int32.ofNat e) v' w' fl (Int32.ofNat (p + k)) σ := by
  intro k
  induction k with
  | zero => intro p F vn bn v w h1 h2 h3 h4 h5 h6; exact ⟨v, w, h3, by rw [h4]; split <;> simp, rfl⟩
  | succ k ih =>
    intro p F vn bn v w h1 h2 h3 h4 h5 h6
    have dg := h2 p (Nat.le_refl _) (by omega)
    have db := db_iff.mp dg
    have hw : (Int32.toInt64 (chI n β p)).toInt = β p := by
      rw [qL_ofI]; unfold chI; rw [if_pos (by omega), iNt (by omega)]
    have e1 : fX3_number_L14 (F + (k + 1)) (Int32.ofNat e) v w fl (Int32.ofNat p) σ = fX3_number_14 (fX3_number_L14 (F + k)) (Int32.ofNat e) v w fl (Int32.ofNat p) σ := rfl
    have hv' := dgL h3 hw (dg_lt h5) db
    rw [e1]
    unfold fX3_number_14
    rw [if_neg (show ¬ Int32.ofNat e ≤ Int32.ofNat p by rw [qI_le, iNt (by omega), iNt (by omega)]; omega), x_byte hn ht (by omega), bd1_some, x_isD (hb p), if_pos (show p < n ∧ isDb (β p) = true from ⟨by omega, dg⟩), if_neg iNe1, nm_eq]
    by_cases z : fl = 0
    · rw [if_pos z, if_pos z, nm_eq, iN_s (by omega)]
      obtain ⟨v', w', a1, a2, a3⟩ := ih (p + 1) F _ bn _ w (by omega) (fun i h7 h8 => h2 i (by omega) (by omega)) hv' h4 (dg_step h5 db.2) (Nat.le_trans (Nat.mul_le_mul_left _ (Nat.pow_le_pow_right (by omega) (by omega))) h6)
      refine ⟨v', w', a1, ?_, ?_⟩
      · rw [a2, if_pos z]
      · rw [a3, show p + 1 + k = p + (k + 1) by omega]
    · have hw' : (w * 10).toInt = ((10 * bn : Nat) : Int) := by
        have := by_le (by_step h6)
        rw [qL_mul (by rw [e10L]; omega) (by rw [e10L]; omega), e10L]; omega
      rw [if_neg z, if_neg z, nm_eq, nm_eq, iN_s (by omega)]
      obtain ⟨v', w', a1, a2, a3⟩ := ih (p + 1) F _ (10 * bn) _ _ (by omega) (fun i h7 h8 => h2 i (by omega) (by omega)) hv' hw' (dg_step h5 db.2) (by_step h6)
      refine ⟨v', w', a1, ?_, ?_⟩
      · rw [a2, if_neg z]
        show ((10 * bn * 10 ^ k : Nat) : Int) = ((bn * 10 ^ (k + 1) : Nat) : Int)
        rw [Nat.pow_succ, Nat.mul_comm (10 ^ k) 10, ← Nat.mul_assoc, Nat.mul_comm bn 10]
      · rw [a3, show p + 1 + k = p + (k + 1) by omega]
def nmV (β : Nat → Nat) (p e m : Nat) : Nat := if m = e then dgV β (m - p) p 0 else dgV β (e - m - 1) (m + 1) (dgV β (m - p) p 0)
def nmB (e m : Nat) : Nat := if m = e then 1 else 10 ^ (e - m - 1)
def nmS (v b : Nat) : qSh := sOf ((v : Int) * 1048576 / b) (-((-((v : Int) * 1048576)) / b))
theorem up_x {x y : Int} (hy : 0 < y) : (x + y - 1) / y = -((-x) / y) := by
  obtain ⟨t, ht⟩ : ∃ t, t = (x + y - 1) / y := ⟨_, rfl⟩
  have h1 := Int.ediv_mul_le (x + y - 1) (show y ≠ 0 by omega)
  have h2 := Int.lt_ediv_add_one_mul_self (x + y - 1) hy
  rw [← ht] at h1 h2 ⊢
  rw [Int.add_mul, Int.one_mul] at h2
  have : (-x) / y = -t := q_ediv hy (by rw [Int.neg_mul]; omega) (by rw [Int.neg_mul]; omega)
  omega
theorem nm_bd {β : Nat → Nat} {p e m : Nat} (h : isNm β p e m) (hd : ∀ i, p ≤ i → i < m → isDb (β i) = true) : nmV β p e m < 100000000 ∧ 1 ≤ nmB e m ∧ nmB e m ≤ 10000 := by
  obtain ⟨h1, h2, h3⟩ := h
  have b1 := dg_bd (β := β) (m - p) p 0 (fun i a b => hd i a (by omega))
  have b2 : (0 + 1) * 10 ^ (m - p) ≤ 10 ^ 4 := by
    rw [Nat.zero_add, Nat.one_mul]; exact Nat.pow_le_pow_right (by omega) (by omega)
  unfold nmV nmB
  by_cases x : m = e
  · rw [if_pos x, if_pos x]
    exact ⟨by omega, by omega, by omega⟩
  · rw [if_neg x, if_neg x]
    rcases h3 with h3 | ⟨-, h5, h6, h7⟩
    · exact absurd h3 x
    have b3 := dg_bd (β := β) (e - m - 1) (m + 1) (dgV β (m - p) p 0) (fun i a b => h7 i (by omega) (by omega))
    have b4 : 10 ^ (e - m - 1) ≤ 10 ^ 4 := Nat.pow_le_pow_right (by omega) (by omega)
    refine ⟨?_, ten_pos _, by omega⟩
    have b5 : (dgV β (m - p) p 0 + 1) * 10 ^ (e - m - 1) ≤ 10 ^ 4 * 10 ^ 4 := Nat.mul_le_mul (by omega) b4
    omega
theorem e2020 : (1048576 : Int64).toInt = 1048576 := by decide
theorem x_numEnd {v w : Int64} {vn bn : Nat} (hv : v.toInt = vn) (hw : w.toInt = bn) (h1 : vn < 100000000) (h2 : 1 ≤ bn) (h3 : bn ≤ 10000) {e F : Nat} {fl : Int32} {σ : zSt} : ∃ r, fX3_number_L14 (F + 1) (Int32.ofNat e) v w fl (Int32.ofNat e) σ = some r ∧ xS r (nmS vn bn) := by
  have w0 : ¬ w = 0 := fun h => by rw [qL_eq, q0L, hw] at h; omega
  rw [fX3_number_L14]
  unfold fX3_number_14
  rw [if_pos (show Int32.ofNat e ≤ Int32.ofNat e by rw [qI_le]; omega), if_pos (show 1 ≤ w by rw [qL_le, q1L, hw]; omega), nm_eq, zg_pos w0, zg_pos w0]
  have a : (v * 1048576).toInt = (vn : Int) * 1048576 := by rw [qL_mul (by rw [e2020]; omega) (by rw [e2020]; omega), e2020, hv]
  have c : (v * 1048576 + w - 1).toInt = (vn : Int) * 1048576 + bn - 1 := by
    have c1 : (v * 1048576 + w).toInt = (vn : Int) * 1048576 + bn := by rw [qL_add (by rw [a]; omega) (by rw [a]; omega), a, hw]
    rw [qL_sub (by rw [c1, q1L]; omega) (by rw [c1, q1L]; omega), c1, q1L]
  have d1 : (v * 1048576 / w).toInt = (vn : Int) * 1048576 / bn := by
    rw [qL_div (by rw [a]; omega), a, hw, Int.tdiv_eq_ediv_of_nonneg (by omega)]
  have d2 : ((v * 1048576 + w - 1) / w).toInt = -((-((vn : Int) * 1048576)) / bn) := by
    rw [qL_div (by rw [c]; omega), c, hw, Int.tdiv_eq_ediv_of_nonneg (by omega), up_x (by omega)]
  have le : (v * 1048576 / w).toInt ≤ ((v * 1048576 + w - 1) / w).toInt := by
    rw [d1, d2, ← up_x (by omega)]
    exact Int.ediv_le_ediv (by omega) (by omega)
  have := x_of le
  rw [d1, d2] at this
  exact ⟨_, rfl, this⟩
theorem x_number {n : Nat} {β : Nat → Nat} (hn : n ≤ 200) (hb : ∀ p, p < n → β p < 256) {σ : zSt} (ht : tpX n β σ) {p e m : Nat} (hp : gi σ 1 2 = Int32.ofNat p) (he : e ≤ n) (hm : m ≤ e) (h : isNm β p e m) (hd : ∀ i, p ≤ i → i < m → isDb (β i) = true) : ∃ r, fX3_number (Int32.ofNat e) σ = some r ∧ xS r (nmS (nmV β p e m) (nmB e m)) := by
  obtain ⟨B1, B2, B3⟩ := nm_bd h hd
  obtain ⟨h1, h2, h3⟩ := h
  have b2 : (0 + 1) * 10 ^ (m - p) ≤ 10 ^ 4 := by
    rw [Nat.zero_add, Nat.one_mul]; exact Nat.pow_le_pow_right (by omega) (by omega)
  show ∃ r, fX3_number_0 _ σ = _ ∧ _
  unfold fX3_number_0
  obtain ⟨Z, hZ⟩ := zFU_ge 1000 (by omega)
  obtain ⟨F, hF⟩ : ∃ F, zFU = F + 1 + (e - m - 1) + 1 + (m - p) := ⟨zFU - 2 - (e - m - 1) - (m - p), by omega⟩
  rw [nm_eq, hp, hF]
  obtain ⟨v1, w1, a1, a2, a3⟩ := x_numL hn hb ht he (fl := 0) (m - p) p (F + 1 + (e - m - 1) + 1) 0 1 0 1 (by omega) (fun i a b => hd i a (by omega)) q0L q1L (by omega) (by omega)
  rw [a3, show p + (m - p) = m by omega]
  rw [if_pos rfl] at a2
  have b1 := dg_bd (β := β) (m - p) p 0 (fun i a b => hd i a (by omega))
  by_cases x : m = e
  · unfold nmV at B1 ⊢
    unfold nmB at B2 B3 ⊢
    rw [if_pos x] at B1 B2 B3
    rw [if_pos x, if_pos x, x]
    rw [x] at a1 b1 b2
    exact x_numEnd a1 a2 (by omega) (by omega) (by omega)
  · rcases h3 with h3 | ⟨h4, h5, h6, h7⟩
    · exact absurd h3 x
    have st : fX3_number_L14 (F + 1 + (e - m - 1) + 1) (Int32.ofNat e) v1 w1 0 (Int32.ofNat m) σ = fX3_number_L14 (F + 1 + (e - m - 1)) (Int32.ofNat e) v1 w1 1 (Int32.ofNat (m + 1)) σ := by
      rw [fX3_number_L14]
      unfold fX3_number_14
      rw [if_neg (show ¬ Int32.ofNat e ≤ Int32.ofNat m by rw [qI_le, iNt (by omega), iNt (by omega)]; omega), x_byte hn ht (by omega), bd1_some, x_isD (hb m), if_neg (show ¬ (m < n ∧ isDb (β m) = true) from fun h => by have := db_iff.mp h.2; omega), if_pos (show (0 : Int32) = 0 from rfl), nm_eq, iN_s (by omega)]
    rw [st]
    have b4 : 10 ^ (e - m - 1) ≤ 10 ^ 4 := Nat.pow_le_pow_right (by omega) (by omega)
    have b5 : (dgV β (m - p) p 0 + 1) * 10 ^ (e - m - 1) ≤ 10 ^ 4 * 10 ^ 4 := Nat.mul_le_mul (by omega) b4
    obtain ⟨v2, w2, c1, c2, c3⟩ := x_numL hn hb ht he (fl := 1) (e - m - 1) (m + 1) (F + 1) _ 1 v1 w1 (by omega) (fun i a b => h7 i (by omega) (by omega)) a1 a2 (by omega) (by omega)
    rw [c3, show m + 1 + (e - m - 1) = e by omega]
    rw [if_neg iNe1, Nat.one_mul] at c2
    unfold nmV at B1 ⊢
    unfold nmB at B2 B3 ⊢
    rw [if_neg x] at B1 B2 B3
    rw [if_neg x, if_neg x]
    exact x_numEnd c1 c2 B1 B2 B3
