/-! whole roots -/
def rtF (v : Nat) : Nat → Nat → Nat
  | 0, r => r
  | k + 1, r => rtF v k (if (r + 2 ^ k) * (r + 2 ^ k) ≤ v then r + 2 ^ k else r)
/-- by choice, so that nobody unrolls it -/
noncomputable def rt (v : Nat) : Nat := Classical.choose (⟨rtF v 27 0, rfl⟩ : ∃ r, r = rtF v 27 0)
theorem rt_eq (v : Nat) : rt v = rtF v 27 0 := Classical.choose_spec (⟨rtF v 27 0, rfl⟩ : ∃ r, r = rtF v 27 0)
theorem rtF_ok {v : Nat} : ∀ (k r : Nat), r * r ≤ v → v < (r + 2 ^ k) * (r + 2 ^ k) → (rtF v k r) * (rtF v k r) ≤ v ∧ v < (rtF v k r + 1) * (rtF v k r + 1) ∧ rtF v k r < r + 2 ^ k := by
  intro k
  induction k with
  | zero => intro r h1 h2; exact ⟨h1, h2, by show r < r + 2 ^ 0; omega⟩
  | succ k ih =>
    intro r h1 h2
    rw [rtF]
    have e : 2 ^ (k + 1) = 2 ^ k + 2 ^ k := by rw [Nat.pow_succ]; omega
    have hp0 : 0 < 2 ^ k := Nat.two_pow_pos k
    by_cases h : (r + 2 ^ k) * (r + 2 ^ k) ≤ v
    · rw [if_pos h]
      obtain ⟨a, b, c⟩ := ih (r + 2 ^ k) h (by rw [e, ← Nat.add_assoc] at h2; exact h2)
      exact ⟨a, b, by omega⟩
    · rw [if_neg h]
      obtain ⟨a, b, c⟩ := ih r h1 (by omega)
      exact ⟨a, b, by omega⟩
theorem rt_ok {v : Nat} (h : v < 2 ^ 54) : rt v * rt v ≤ v ∧ v < (rt v + 1) * (rt v + 1) ∧ rt v < 2 ^ 27 := by
  have := rtF_ok (v := v) 27 0 (by omega) (by rw [Nat.zero_add, ← Nat.pow_add]; exact h)
  rw [Nat.zero_add, ← rt_eq] at this
  exact this
theorem rt_mono {v w : Nat} (hv : v < 2 ^ 54) (hw : w < 2 ^ 54) (h : v ≤ w) : rt v ≤ rt w := by
  have a := rt_ok hv
  have b := rt_ok hw
  rcases Nat.lt_or_ge (rt w) (rt v) with q | q
  · have : (rt w + 1) * (rt w + 1) ≤ rt v * rt v := Nat.mul_le_mul q q
    omega
  · exact q
theorem lNt {n : Nat} (h : n < 2 ^ 63) : (Int64.ofNat n).toInt = n := by
  rw [Int64.toInt_ofNat']
  exact qL_bm (z := (n : Int)) (by omega) (by omega)
theorem rt_bits : ∀ b, b < 27 → jshlL 1 (Int32.ofNat b) = Int64.ofNat (2 ^ b) ∧ (Int32.ofNat b + (-1) : Int32) = (if b = 0 then -1 else Int32.ofNat (b - 1)) ∧ ¬ Int32.ofNat b < 0 ∧ jshrL (Int64.ofNat (2 ^ b)) 1 = (if b = 0 then 0 else Int64.ofNat (2 ^ (b - 1))) ∧ ¬ Int64.ofNat (2 ^ b) ≤ 0 := by decide +kernel
theorem rt_or {b r : Nat} (hb : b < 27) (hr : r < 2 ^ 27) (hd : 2 ^ (b + 1) ∣ r) : Int64.ofNat r ||| Int64.ofNat (2 ^ b) = Int64.ofNat (r + 2 ^ b) := by
  have hp : 2 ^ b < 2 ^ (b + 1) := Nat.pow_lt_pow_right (by omega) (by omega)
  have hq : 2 ^ (b + 1) ≤ 2 ^ 27 := Nat.pow_le_pow_right (by omega) (by omega)
  rw [← Int64.toBitVec_inj, Int64.toBitVec_or]
  apply BitVec.eq_of_toNat_eq
  rw [BitVec.toNat_or]
  have t : ∀ n : Nat, n < 2 ^ 64 → (Int64.ofNat n).toBitVec.toNat = n := fun n hn => by
    show (BitVec.ofNat 64 n).toNat = n
    rw [BitVec.toNat_ofNat, Nat.mod_eq_of_lt hn]
  rw [t _ (by omega), t _ (by omega), t _ (by omega)]
  obtain ⟨q, rfl⟩ := hd
  have h := Nat.shiftLeft_add_eq_or_of_lt (a := q) (b := 2 ^ b) (i := b + 1) hp
  rw [Nat.shiftLeft_eq, Nat.mul_comm q] at h
  exact h.symm
theorem x_rt {v : Nat} (hv : v < 2 ^ 54) : ∀ (k r F : Nat), k ≤ 27 → r < 2 ^ 27 → 2 ^ k ∣ r → k < F → fX5_rootDown_L6 F (Int64.ofNat v) (Int64.ofNat r) (if k = 0 then -1 else Int32.ofNat (k - 1)) = some (Int64.ofNat (rtF v k r)) := by
  intro k
  induction k with
  | zero =>
    intro r F hk hr hd hF
    obtain ⟨F, rfl⟩ : ∃ G, F = G + 1 := ⟨F - 1, by omega⟩
    rw [if_pos rfl]
    show fX5_rootDown_6 _ _ _ _ = _
    unfold fX5_rootDown_6
    rw [if_pos (by decide)]
    rfl
  | succ k ih =>
    intro r F hk hr hd hF
    obtain ⟨F, rfl⟩ : ∃ G, F = G + 1 := ⟨F - 1, by omega⟩
    rw [if_neg (by omega), Nat.add_sub_cancel]
    obtain ⟨b1, b2, b3, -⟩ := rt_bits k (by omega)
    have hpk : 2 ^ k < 2 ^ 27 := Nat.pow_lt_pow_right (by omega) (by omega)
    have e1 : 2 ^ (k + 1) = 2 ^ k + 2 ^ k := by rw [Nat.pow_succ]; omega
    have hd2 : 2 ^ k ∣ r := Nat.dvd_trans ⟨2, by rw [Nat.pow_succ]⟩ hd
    have hle : r + 2 ^ k < 2 ^ 27 := by
      have h27 : 2 ^ 27 = 2 ^ (k + 1) * 2 ^ (27 - (k + 1)) := by rw [← Nat.pow_add]; congr 1; omega
      obtain ⟨q, hq⟩ := hd
      have hlt : q < 2 ^ (27 - (k + 1)) := by
        rw [hq, h27] at hr
        exact Nat.lt_of_mul_lt_mul_left hr
      have : 2 ^ (k + 1) * (q + 1) ≤ 2 ^ 27 := by rw [h27]; exact Nat.mul_le_mul_left _ hlt
      rw [Nat.mul_add, Nat.mul_one, ← hq] at this
      have hp0 : 0 < 2 ^ k := Nat.two_pow_pos k
      omega
    show fX5_rootDown_6 (fX5_rootDown_L6 F) (Int64.ofNat v) (Int64.ofNat r) (Int32.ofNat k) = _
    unfold fX5_rootDown_6 nm
    rw [if_neg b3, b1, rt_or (by omega) hr hd]
    dsimp only
    have hm : (r + 2 ^ k) * (r + 2 ^ k) < 2 ^ 54 := by
      have := Nat.mul_lt_mul'' hle hle
      omega
    have e2 : (Int64.ofNat (r + 2 ^ k) * Int64.ofNat (r + 2 ^ k)).toInt = ((r + 2 ^ k) * (r + 2 ^ k) : Nat) := by
      rw [qL_mul (by rw [lNt (by omega)]; have : ((r + 2 ^ k : Nat) : Int) * ((r + 2 ^ k : Nat) : Int) = (((r + 2 ^ k) * (r + 2 ^ k) : Nat) : Int) := (Int.natCast_mul _ _).symm; omega) (by rw [lNt (by omega)]; have : ((r + 2 ^ k : Nat) : Int) * ((r + 2 ^ k : Nat) : Int) = (((r + 2 ^ k) * (r + 2 ^ k) : Nat) : Int) := (Int.natCast_mul _ _).symm; omega), lNt (by omega), Int.natCast_mul]
    rw [b2, rtF]
    by_cases h : (r + 2 ^ k) * (r + 2 ^ k) ≤ v
    · rw [if_pos h, if_neg (by rw [qL_lt, e2, lNt (by omega)]; omega)]
      exact ih (r + 2 ^ k) F (by omega) hle ((Nat.dvd_add_right hd2).mpr (Nat.dvd_refl _)) (by omega)
    · rw [if_neg h, if_pos (by rw [qL_lt, e2, lNt (by omega)]; omega)]
      exact ih r F (by omega) hr hd2 (by omega)
theorem m_rt {v : Nat} (hv : v < 2 ^ 54) : ∀ (k r F : Nat), k ≤ 27 → r < 2 ^ 27 → 2 ^ k ∣ r → k < F → fX9_rootDown_L7 F (Int64.ofNat v) (Int64.ofNat r) (if k = 0 then 0 else Int64.ofNat (2 ^ (k - 1))) = some (Int64.ofNat (rtF v k r)) := by
  intro k
  induction k with
  | zero =>
    intro r F hk hr hd hF
    obtain ⟨F, rfl⟩ : ∃ G, F = G + 1 := ⟨F - 1, by omega⟩
    rw [if_pos rfl]
    show fX9_rootDown_7 _ _ _ _ = _
    unfold fX9_rootDown_7
    rw [if_pos (by decide)]
    rfl
  | succ k ih =>
    intro r F hk hr hd hF
    obtain ⟨F, rfl⟩ : ∃ G, F = G + 1 := ⟨F - 1, by omega⟩
    rw [if_neg (by omega), Nat.add_sub_cancel]
    obtain ⟨-, -, -, b2, b3⟩ := rt_bits k (by omega)
    have hpk : 2 ^ k < 2 ^ 27 := Nat.pow_lt_pow_right (by omega) (by omega)
    have e1 : 2 ^ (k + 1) = 2 ^ k + 2 ^ k := by rw [Nat.pow_succ]; omega
    have hd2 : 2 ^ k ∣ r := Nat.dvd_trans ⟨2, by rw [Nat.pow_succ]⟩ hd
    have hle : r + 2 ^ k < 2 ^ 27 := by
      have h27 : 2 ^ 27 = 2 ^ (k + 1) * 2 ^ (27 - (k + 1)) := by rw [← Nat.pow_add]; congr 1; omega
      obtain ⟨q, hq⟩ := hd
      have hlt : q < 2 ^ (27 - (k + 1)) := by
        rw [hq, h27] at hr
        exact Nat.lt_of_mul_lt_mul_left hr
      have : 2 ^ (k + 1) * (q + 1) ≤ 2 ^ 27 := by rw [h27]; exact Nat.mul_le_mul_left _ hlt
      rw [Nat.mul_add, Nat.mul_one, ← hq] at this
      have hp0 : 0 < 2 ^ k := Nat.two_pow_pos k
      omega
    have ea : Int64.ofNat r + Int64.ofNat (2 ^ k) = Int64.ofNat (r + 2 ^ k) := (Int64.ofNat_add _ _).symm
    show fX9_rootDown_7 (fX9_rootDown_L7 F) (Int64.ofNat v) (Int64.ofNat r) (Int64.ofNat (2 ^ k)) = _
    unfold fX9_rootDown_7 nm
    rw [if_neg b3, ea]
    have hm : (r + 2 ^ k) * (r + 2 ^ k) < 2 ^ 54 := by
      have := Nat.mul_lt_mul'' hle hle
      omega
    have e2 : (Int64.ofNat (r + 2 ^ k) * Int64.ofNat (r + 2 ^ k)).toInt = ((r + 2 ^ k) * (r + 2 ^ k) : Nat) := by
      rw [qL_mul (by rw [lNt (by omega)]; have : ((r + 2 ^ k : Nat) : Int) * ((r + 2 ^ k : Nat) : Int) = (((r + 2 ^ k) * (r + 2 ^ k) : Nat) : Int) := (Int.natCast_mul _ _).symm; omega) (by rw [lNt (by omega)]; have : ((r + 2 ^ k : Nat) : Int) * ((r + 2 ^ k : Nat) : Int) = (((r + 2 ^ k) * (r + 2 ^ k) : Nat) : Int) := (Int.natCast_mul _ _).symm; omega), lNt (by omega), Int.natCast_mul]
    rw [b2, rtF]
    by_cases h : (r + 2 ^ k) * (r + 2 ^ k) ≤ v
    · rw [if_pos h, if_neg (by rw [qL_lt, e2, lNt (by omega)]; omega)]
      exact ih (r + 2 ^ k) F (by omega) hle ((Nat.dvd_add_right hd2).mpr (Nat.dvd_refl _)) (by omega)
    · rw [if_neg h, if_pos (by rw [qL_lt, e2, lNt (by omega)]; omega)]
      exact ih r F (by omega) hr hd2 (by omega)

theorem lN_of {x : Int64} (h : 0 ≤ x.toInt) : x = Int64.ofNat x.toInt.toNat := by
  rw [qL_eq, lNt (by have := qL_rng x; omega)]
  omega
theorem x_rootDown {x : Int64} (h : 0 ≤ x.toInt ∧ x.toInt < 18014398509481984) : fX5_rootDown x = some (Int64.ofNat (rt x.toInt.toNat)) := by
  obtain ⟨m, hm⟩ := zFU_ge 28 (by omega)
  have h1 := x_rt (v := x.toInt.toNat) (by omega) 27 0 zFU (by omega) (by omega) ⟨0, by omega⟩ (by omega)
  rw [← lN_of h.1, show (if (27 : Nat) = 0 then (-1 : Int32) else Int32.ofNat (27 - 1)) = 26 by decide, show Int64.ofNat 0 = 0 by decide, ← rt_eq] at h1
  unfold fX5_rootDown fX5_rootDown_0
  exact h1
theorem m_rootDown {x : Int64} (h : 0 ≤ x.toInt ∧ x.toInt < 18014398509481984) : fX9_rootDown x = some (Int64.ofNat (rt x.toInt.toNat)) := by
  obtain ⟨m, hm⟩ := zFU_ge 28 (by omega)
  have h1 := m_rt (v := x.toInt.toNat) (by omega) 27 0 zFU (by omega) (by omega) ⟨0, by omega⟩ (by omega)
  rw [← lN_of h.1, show (if (27 : Nat) = 0 then (0 : Int64) else Int64.ofNat (2 ^ (27 - 1))) = 67108864 by decide, show Int64.ofNat 0 = 0 by decide, ← rt_eq] at h1
  unfold fX9_rootDown fX9_rootDown_0
  exact h1
