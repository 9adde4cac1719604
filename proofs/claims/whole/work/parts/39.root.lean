/-! whole roots -/
def rtF (v : Nat) : Nat → Nat → Nat
  | 0, r => r
  | k + 1, r => rtF v k (if (r + 2 ^ k) * (r + 2 ^ k) ≤ v then r + 2 ^ k else r)
def rt (v : Nat) : Nat := rtF v 27 0
theorem rtF_ok {v : Nat} : ∀ (k r : Nat), r * r ≤ v → v < (r + 2 ^ k) * (r + 2 ^ k) → (rtF v k r) * (rtF v k r) ≤ v ∧ v < (rtF v k r + 1) * (rtF v k r + 1) ∧ rtF v k r < r + 2 ^ k := by
  intro k
  induction k with
  | zero => intro r h1 h2; exact ⟨h1, h2, by show r < r + 2 ^ 0; omega⟩
  | succ k ih =>
    intro r h1 h2
    rw [rtF]
    have e : 2 ^ (k + 1) = 2 ^ k + 2 ^ k := by rw [Nat.pow_succ]; omega
    have hp0 : 0 < 2 ^ k := Nat.two_pow_pos k
    by_cases h : (r + 2 ^ k) * (r + 2 ^ k) ≤ v
    · rw [if_pos h]
      obtain ⟨a, b, c⟩ := ih (r + 2 ^ k) h (by rw [e, ← Nat.add_assoc] at h2; exact h2)
      exact ⟨a, b, by omega⟩
    · rw [if_neg h]
      obtain ⟨a, b, c⟩ := ih r h1 (by omega)
      exact ⟨a, b, by omega⟩
theorem rt_ok {v : Nat} (h : v < 2 ^ 54) : rt v * rt v ≤ v ∧ v < (rt v + 1) * (rt v + 1) ∧ rt v < 2 ^ 27 := by
  have := rtF_ok (v := v) 27 0 (by omega) (by rw [Nat.zero_add, ← Nat.pow_add]; exact h)
  rw [Nat.zero_add] at this
  exact this
theorem rt_mono {v w : Nat} (hv : v < 2 ^ 54) (hw : w < 2 ^ 54) (h : v ≤ w) : rt v ≤ rt w := by
  have a := rt_ok hv
  have b := rt_ok hw
  rcases Nat.lt_or_ge (rt w) (rt v) with q | q
  · have : (rt w + 1) * (rt w + 1) ≤ rt v * rt v := Nat.mul_le_mul q q
    omega
  · exact q
theorem lNt {n : Nat} (h : n < 2 ^ 63) : (Int64.ofNat n).toInt = n := by
  rw [Int64.toInt_ofNat']
  exact qL_bm (z := (n : Int)) (by omega) (by omega)
theorem rt_bits : ∀ b, b < 27 → jshlL 1 (Int32.ofNat b) = Int64.ofNat (2 ^ b) ∧ (Int32.ofNat b + (-1) : Int32) = (if b = 0 then -1 else Int32.ofNat (b - 1)) ∧ ¬ Int32.ofNat b < 0 ∧ jshrL (Int64.ofNat (2 ^ b)) 1 = (if b = 0 then 0 else Int64.ofNat (2 ^ (b - 1))) ∧ ¬ Int64.ofNat (2 ^ b) ≤ 0 := by decide +kernel
theorem rt_or {b r : Nat} (hb : b < 27) (hr : r < 2 ^ 27) (hd : 2 ^ (b + 1) ∣ r) : Int64.ofNat r ||| Int64.ofNat (2 ^ b) = Int64.ofNat (r + 2 ^ b) := by
  have hp : 2 ^ b < 2 ^ (b + 1) := Nat.pow_lt_pow_right (by omega) (by omega)
  have hq : 2 ^ (b + 1) ≤ 2 ^ 27 := Nat.pow_le_pow_right (by omega) (by omega)
  rw [← Int64.toBitVec_inj, Int64.toBitVec_or]
  apply BitVec.eq_of_toNat_eq
  rw [BitVec.toNat_or]
  have t : ∀ n : Nat, n < 2 ^ 64 → (Int64.ofNat n).toBitVec.toNat = n := fun n hn => by
    show (BitVec.ofNat 64 n).toNat = n
    rw [BitVec.toNat_ofNat, Nat.mod_eq_of_lt hn]
  rw [t _ (by omega), t _ (by omega), t _ (by omega)]
  obtain ⟨q, rfl⟩ := hd
  have h := Nat.shiftLeft_add_eq_or_of_lt (a := q) (b := 2 ^ b) (i := b + 1) hp
  rw [Nat.shiftLeft_eq, Nat.mul_comm q] at h
  exact h.symm
theorem x_rt {v : Nat} (hv : v < 2 ^ 54) : ∀ (k r F : Nat), k ≤ 27 → r < 2 ^ 27 → 2 ^ k ∣ r → k < F → fX5_rootDown_L6 F (Int64.ofNat v) (Int64.ofNat r) (if k = 0 then -1 else Int32.ofNat (k - 1)) = some (Int64.ofNat (rtF v k r)) := by
  intro k
  induction k with
  | zero =>
    intro r F hk hr hd hF
    obtain ⟨F, rfl⟩ : ∃ G, F = G + 1 := ⟨F - 1, by omega⟩
    rw [if_pos rfl]
    show fX5_rootDown_6 _ _ _ _ = _
    unfold fX5_rootDown_6
    rw [if_pos (by decide)]
    rfl
  | succ k ih =>
    intro r F hk hr hd hF
    obtain ⟨F, rfl⟩ : ∃ G, F = G + 1 := ⟨F - 1, by omega⟩
    rw [if_neg (by omega), Nat.add_sub_cancel]
    obtain ⟨b1, b2, b3, -⟩ := rt_bits k (by omega)
    have hpk : 2 ^ k < 2 ^ 27 := Nat.pow_lt_pow_right (by omega) (by omega)
    have e1 : 2 ^ (k + 1) = 2 ^ k + 2 ^ k := by rw [Nat.pow_succ]; omega
    have hd2 : 2 ^ k ∣ r := Nat.dvd_trans ⟨2, by rw [Nat.pow_succ]⟩ hd
    have hle : r + 2 ^ k < 2 ^ 27 := by
      have h27 : 2 ^ 27 = 2 ^ (k + 1) * 2 ^ (27 - (k + 1)) := by rw [← Nat.pow_add]; congr 1; omega
      obtain ⟨q, hq⟩ := hd
      have hlt : q < 2 ^ (27 - (k + 1)) := by
        rw [hq, h27] at hr
        exact Nat.lt_of_mul_lt_mul_left hr
      have : 2 ^ (k + 1) * (q + 1) ≤ 2 ^ 27 := by rw [h27]; exact Nat.mul_le_mul_left _ hlt
      rw [Nat.mul_add, Nat.mul_one, ← hq] at this
      have hp0 : 0 < 2 ^ k := Nat.two_pow_pos k
      omega
    show fX5_rootDown_6 (fX5_rootDown_L6 F) (Int64.ofNat v) (Int64.ofNat r) (Int32.ofNat k) = _
    unfold fX5_rootDown_6 nm
    rw [if_neg b3, b1, rt_or (by omega) hr hd]
    dsimp only
    have hm : (r + 2 ^ k) * (r + 2 ^ k) < 2 ^ 54 := by
      have := Nat.mul_lt_mul'' hle hle
      omega
    have e2 : (Int64.ofNat (r + 2 ^ k) * Int64.ofNat (r + 2 ^ k)).toInt = ((r + 2 ^ k) * (r + 2 ^ k) : Nat) := by
      rw [qL_mul (by rw [lNt (by omega)]; have : ((r + 2 ^ k : Nat) : Int) * ((r + 2 ^ k : Nat) : Int) = (((r + 2 ^ k) * (r + 2 ^ k) : Nat) : Int) := (Int.natCast_mul _ _).symm; omega) (by rw [lNt (by omega)]; have : ((r + 2 ^ k : Nat) : Int) * ((r + 2 ^ k : Nat) : Int) = (((r + 2 ^ k) * (r + 2 ^ k) : Nat) : Int) := (Int.natCast_mul _ _).symm; omega), lNt (by omega), Int.natCast_mul]
    rw [b2, rtF]
    by_cases h : (r + 2 ^ k) * (r + 2 ^ k) ≤ v
    · rw [if_pos h, if_neg (by rw [qL_lt, e2, lNt (by omega)]; omega)]
      exact ih (r + 2 ^ k) F (by omega) hle ((Nat.dvd_add_right hd2).mpr (Nat.dvd_refl _)) (by omega)
    · rw [if_neg h, if_pos (by rw [qL_lt, e2, lNt (by omega)]; omega)]
      exact ih r F (by omega) hr hd2 (by omega)
theorem m_rt {v : Nat} (hv : v < 2 ^ 54) : ∀ (k r F : Nat), k ≤ 27 → r < 2 ^ 27 → 2 ^ k ∣ r → k < F → fX9_rootDown_L7 F (Int64.ofNat v) (Int64.ofNat r) (if k = 0 then 0 else Int64.ofNat (2 ^ (k - 1))) = some (Int64.ofNat (rtF v k r)) := by
  intro k
  induction k with
  | zero =>
    intro r F hk hr hd hF
    obtain ⟨F, rfl⟩ : ∃ G, F = G + 1 := ⟨F - 1, by omega⟩
    rw [if_pos rfl]
    show fX9_rootDown_7 _ _ _ _ = _
    unfold fX9_rootDown_7
    rw [if_pos (by decide)]
    rfl
  | succ k ih =>
    intro r F hk hr hd hF
    obtain ⟨F, rfl⟩ : ∃ G, F = G + 1 := ⟨F - 1, by omega⟩
    rw [if_neg (by omega), Nat.add_sub_cancel]
    obtain ⟨-, -, -, b2, b3⟩ := rt_bits k (by omega)
    have hpk : 2 ^ k < 2 ^ 27 := Nat.pow_lt_pow_right (by omega) (by omega)
    have e1 : 2 ^ (k + 1) = 2 ^ k + 2 ^ k := by rw [Nat.pow_succ]; omega
    have hd2 : 2 ^ k ∣ r := Nat.dvd_trans ⟨2, by rw [Nat.pow_succ]⟩ hd
    have hle : r + 2 ^ k < 2 ^ 27 := by
      have h27 : 2 ^ 27 = 2 ^ (k + 1) * 2 ^ (27 - (k + 1)) := by rw [← Nat.pow_add]; congr 1; omega
      obtain ⟨q, hq⟩ := hd
      have hlt : q < 2 ^ (27 - (k + 1)) := by
        rw [hq, h27] at hr
        exact Nat.lt_of_mul_lt_mul_left hr
      have : 2 ^ (k + 1) * (q + 1) ≤ 2 ^ 27 := by rw [h27]; exact Nat.mul_le_mul_left _ hlt
      rw [Nat.mul_add, Nat.mul_one, ← hq] at this
      have hp0 : 0 < 2 ^ k := Nat.two_pow_pos k
      omega
    have ea : Int64.ofNat r + Int64.ofNat (2 ^ k) = Int64.ofNat (r + 2 ^ k) := (Int64.ofNat_add _ _).symm
    show fX9_rootDown_7 (fX9_rootDown_L7 F) (Int64.ofNat v) (Int64.ofNat r) (Int64.ofNat (2 ^ k)) = _
    unfold fX9_rootDown_7 nm
    rw [if_neg b3, ea]
    have hm : (r + 2 ^ k) * (r + 2 ^ k) < 2 ^ 54 := by
      have := Nat.mul_lt_mul'' hle hle
      omega
    have e2 : (Int64.ofNat (r + 2 ^ k) * Int64.ofNat (r + 2 ^ k)).toInt = ((r + 2 ^ k) * (r + 2 ^ k) : Nat) := by
      rw [qL_mul (by rw [lNt (by omega)]; have : ((r + 2 ^ k : Nat) : Int) * ((r + 2 ^ k : Nat) : Int) = (((r + 2 ^ k) * (r + 2 ^ k) : Nat) : Int) := (Int.natCast_mul _ _).symm; omega) (by rw [lNt (by omega)]; have : ((r + 2 ^ k : Nat) : Int) * ((r + 2 ^ k : Nat) : Int) = (((r + 2 ^ k) * (r + 2 ^ k) : Nat) : Int) := (Int.natCast_mul _ _).symm; omega), lNt (by omega), Int.natCast_mul]
    rw [b2, rtF]
    by_cases h : (r + 2 ^ k) * (r + 2 ^ k) ≤ v
    · rw [if_pos h, if_neg (by rw [qL_lt, e2, lNt (by omega)]; omega)]
      exact ih (r + 2 ^ k) F (by omega) hle ((Nat.dvd_add_right hd2).mpr (Nat.dvd_refl _)) (by omega)
    · rw [if_neg h, if_pos (by rw [qL_lt, e2, lNt (by omega)]; omega)]
      exact ih r F (by omega) hr hd2 (by omega)

theorem lN_of {x : Int64} (h : 0 ≤ x.toInt) : x = Int64.ofNat x.toInt.toNat := by
  rw [qL_eq, lNt (by have := qL_rng x; omega)]
  omega
theorem x_rootDown {x : Int64} (h : 0 ≤ x.toInt ∧ x.toInt < 18014398509481984) : fX5_rootDown x = some (Int64.ofNat (rt x.toInt.toNat)) := by
  obtain ⟨m, hm⟩ := zFU_ge 28 (by omega)
  have h1 := x_rt (v := x.toInt.toNat) (by omega) 27 0 zFU (by omega) (by omega) ⟨0, by omega⟩ (by omega)
  rw [← lN_of h.1] at h1
  exact h1
theorem m_rootDown {x : Int64} (h : 0 ≤ x.toInt ∧ x.toInt < 18014398509481984) : fX9_rootDown x = some (Int64.ofNat (rt x.toInt.toNat)) := by
  obtain ⟨m, hm⟩ := zFU_ge 28 (by omega)
  have h1 := m_rt (v := x.toInt.toNat) (by omega) 27 0 zFU (by omega) (by omega) ⟨0, by omega⟩ (by omega)
  rw [← lN_of h.1] at h1
  exact h1
def sRoot : qSh → qSh
  | none => none
  | some q => if q.1 < 0 then none else sOf (rt (q.1 * 1048576).toNat : Int) (if rt (q.2 * 1048576).toNat * rt (q.2 * 1048576).toNat = (q.2 * 1048576).toNat then (rt (q.2 * 1048576).toNat : Int) else (rt (q.2 * 1048576).toNat : Int) + 1)
theorem rt_sq {v : Nat} (hv : v < 2 ^ 54) : (Int64.ofNat (rt v) * Int64.ofNat (rt v)).toInt = (rt v * rt v : Nat) := by
  obtain ⟨h1, h2, h3⟩ := rt_ok hv
  have e : ((rt v : Nat) : Int) * ((rt v : Nat) : Int) = ((rt v * rt v : Nat) : Int) := (Int.natCast_mul _ _).symm
  rw [qL_mul (by rw [lNt (by omega)]; omega) (by rw [lNt (by omega)]; omega), lNt (by omega), e]
theorem x_root {f : Int64} {s : qSh} (hf : xS f s) : ∃ r, fX5_root f = some r ∧ xS r (sRoot s) := by
  cases s with
  | none =>
    refine ⟨_, ?_, hf⟩
    show fX5_root_0 f = some f
    unfold fX5_root_0
    rw [if_pos (show f = 4294967296 from hf), show f = 4294967296 from hf]
  | some q =>
  obtain ⟨f0, f1, f2, f3, f4, f5⟩ := hf
  show ∃ r, fX5_root_0 f = some r ∧ xS r (if q.1 < 0 then none else _)
  unfold fX5_root_0 nm
  rw [if_neg f0]
  by_cases h0 : (0 : Int64) ≤ fX5_lowOf f
  · rw [if_pos h0]
    rw [qL_le, q0L, f1] at h0
    rw [if_neg (show ¬ q.1 < 0 by omega)]
    have A := qL_shl20 (x := fX5_lowOf f) (by omega)
    have B := qL_shl20 (x := fX5_highOf f) (by omega)
    rw [f1] at A
    rw [f2] at B
    generalize jshlL (fX5_lowOf f) 20 = a at A ⊢
    generalize jshlL (fX5_highOf f) 20 = b at B ⊢
    dsimp only
    have ra := x_rootDown (x := a) (by omega)
    have rb := x_rootDown (x := b) (by omega)
    rw [A] at ra
    rw [B] at rb
    have oa := rt_ok (v := (q.1 * 1048576).toNat) (by omega)
    have ob := rt_ok (v := (q.2 * 1048576).toNat) (by omega)
    have mo := rt_mono (v := (q.1 * 1048576).toNat) (w := (q.2 * 1048576).toNat) (by omega) (by omega) (by omega)
    have sq := rt_sq (v := (q.2 * 1048576).toNat) (by omega)
    simp only [ra, rb, bd1]
    have la := lNt (n := rt (q.1 * 1048576).toNat) (by omega)
    have lb := lNt (n := rt (q.2 * 1048576).toNat) (by omega)
    by_cases hs : b ≤ Int64.ofNat (rt (q.2 * 1048576).toNat) * Int64.ofNat (rt (q.2 * 1048576).toNat)
    · rw [if_pos hs]
      rw [qL_le, B, sq] at hs
      refine ⟨_, rfl, (x_of ?_).eq ?_⟩
      · rw [la, lb]; omega
      · rw [la, lb, if_pos (by omega)]
    · rw [if_neg hs]
      rw [qL_le, B, sq] at hs
      have l1 : (Int64.ofNat (rt (q.2 * 1048576).toNat) + 1).toInt = (rt (q.2 * 1048576).toNat : Int) + 1 := by
        rw [qL_add (by rw [lb, q1L]; omega) (by rw [lb, q1L]; omega), lb, q1L]
      refine ⟨_, rfl, (x_of ?_).eq ?_⟩
      · rw [la, l1]; omega
      · rw [la, l1, if_neg (by omega)]
  · rw [if_neg h0]
    rw [qL_le, q0L, f1] at h0
    rw [if_pos (show q.1 < 0 by omega)]
    exact ⟨_, rfl, rfl⟩
theorem m_root {a b : Int64} {σ : zSt} (ha : -2147483648 ≤ a.toInt ∧ a.toInt ≤ b.toInt) (hb : b.toInt ≤ 2147483647) : ∃ τ, fX9_root a b σ = some τ ∧ mS τ (sRoot (some (a.toInt, b.toInt))) ∧ mEq σ τ := by
  show ∃ τ, fX9_root_0 a b σ = some τ ∧ mS τ (if a.toInt < 0 then none else _) ∧ _
  unfold fX9_root_0
  by_cases h0 : (0 : Int64) ≤ a
  · rw [if_pos h0]
    rw [qL_le, q0L] at h0
    rw [if_neg (show ¬ a.toInt < 0 by omega)]
    have A : (a * 1048576).toInt = a.toInt * 1048576 := by rw [qL_mul (by rw [e20L]; omega) (by rw [e20L]; omega), e20L]
    have B : (b * 1048576).toInt = b.toInt * 1048576 := by rw [qL_mul (by rw [e20L]; omega) (by rw [e20L]; omega), e20L]
    have ra := m_rootDown (x := a * 1048576) (by omega)
    have rb := m_rootDown (x := b * 1048576) (by omega)
    rw [A] at ra
    rw [B] at rb
    have oa := rt_ok (v := (a.toInt * 1048576).toNat) (by omega)
    have ob := rt_ok (v := (b.toInt * 1048576).toNat) (by omega)
    have sq := rt_sq (v := (b.toInt * 1048576).toNat) (by omega)
    simp only [ra, rb, bd1]
    have la := lNt (n := rt (a.toInt * 1048576).toNat) (by omega)
    have lb := lNt (n := rt (b.toInt * 1048576).toNat) (by omega)
    by_cases hs : Int64.ofNat (rt (b.toInt * 1048576).toNat) * Int64.ofNat (rt (b.toInt * 1048576).toNat) = b * 1048576
    · rw [if_pos hs]
      rw [qL_eq, B, sq] at hs
      obtain ⟨τ, t1, t2, t3, -⟩ := m_is (Int64.ofNat (rt (a.toInt * 1048576).toNat)) (Int64.ofNat (rt (b.toInt * 1048576).toNat)) σ
      refine ⟨τ, by simp only [t1], ?_, t3⟩
      rw [la, lb] at t2
      rw [if_pos (by omega)]
      exact t2
    · rw [if_neg hs]
      rw [qL_eq, B, sq] at hs
      have l1 : (Int64.ofNat (rt (b.toInt * 1048576).toNat) + 1).toInt = (rt (b.toInt * 1048576).toNat : Int) + 1 := by
        rw [qL_add (by rw [lb, q1L]; omega) (by rw [lb, q1L]; omega), lb, q1L]
      obtain ⟨τ, t1, t2, t3, -⟩ := m_is (Int64.ofNat (rt (a.toInt * 1048576).toNat)) (Int64.ofNat (rt (b.toInt * 1048576).toNat) + 1) σ
      refine ⟨τ, by simp only [t1], ?_, t3⟩
      rw [la, l1] at t2
      rw [if_neg (by omega)]
      exact t2
  · rw [if_neg h0]
    rw [qL_le, q0L] at h0
    rw [if_pos (show a.toInt < 0 by omega)]
    obtain ⟨τ, t1, t2, t3⟩ := m_isHole σ
    exact ⟨τ, by simp only [t1, bd1], t2, t3⟩
