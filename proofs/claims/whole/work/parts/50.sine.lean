/-! sin and cos are shut in: what is above is not below -1, what is below not above 1 -/
def qD : Nat := 16777216
def qM : Nat := 20397882081197443358640281739902897356800000000 * 16777216 ^ 39
def qC (co : Bool) (k : Nat) : Nat := qM / (wF co k * 16777216 ^ (2 * k))
theorem qC_ok : ∀ co : Bool, ∀ k : Nat, k < 20 → qC co k * (wF co k * 16777216 ^ (2 * k)) = qM := by decide +kernel
def qB (co : Bool) (k : Nat) : List Int := pMo (((if k % 2 = 0 then 1 else -1) * (qC co k * (if co then 16777216 else 1) : Nat) : Int)) (2 * k + (if co then 0 else 1))
def qP (co : Bool) : Nat → List Int
  | 0 => qB co 0
  | k + 1 => pAdd (qP co k) (qB co (k + 1))
theorem qP_succ (co : Bool) (k : Nat) : qP co (k + 1) = pAdd (qP co k) (qB co (k + 1)) := by rw [qP]
theorem qB_val (co : Bool) (k u : Nat) : pv (qB co k) u = (if k % 2 = 0 then 1 else -1) * ((qC co k * (wB co u * u ^ (2 * k)) : Nat) : Int) := by
  unfold qB wB
  rw [pv_mo, Int.mul_assoc]
  congr 1
  rw [← Int.natCast_pow, ← Int.natCast_mul]
  congr 1
  cases co with
  | true => rw [if_pos rfl, if_pos rfl, if_pos rfl, Nat.add_zero, Nat.mul_assoc]
  | false =>
    rw [if_neg (by decide), if_neg (by decide), if_neg (by decide), Nat.pow_succ, Nat.mul_one]
    congr 1
    rw [Nat.mul_comm]
theorem w_lo1 {co : Bool} {k : Nat} (hk : k < 20) (u : Nat) : (qM : Int) * (wT co false u k : Int) ≤ ((qC co k * (wB co u * u ^ (2 * k)) : Nat) : Int) := by
  have h := Nat.mul_le_mul_left (qC co k) (wT_lo co u k)
  rw [Nat.mul_left_comm, qC_ok co k hk, Nat.mul_comm] at h
  rw [← Int.natCast_mul]
  exact Int.ofNat_le.mpr h
theorem w_hi1 {co : Bool} {k : Nat} (hk : k < 20) (u : Nat) : ((qC co k * (wB co u * u ^ (2 * k)) : Nat) : Int) ≤ (qM : Int) * (wT co true u k : Int) := by
  have h := Nat.mul_le_mul_left (qC co k) (wT_hi co u k)
  rw [Nat.mul_left_comm (qC co k) (wT co true u k), qC_ok co k hk, Nat.mul_comm (wT co true u k)] at h
  rw [← Int.natCast_mul]
  exact Int.ofNat_le.mpr h
theorem w_sums (co : Bool) (u : Nat) : ∀ k, k < 20 → (qM : Int) * (wS co false u k + 1) ≤ pv (qP co k) u ∧ pv (qP co k) u ≤ (qM : Int) * (wS co true u k - 1) := by
  intro k
  induction k with
  | zero =>
    intro hk
    have h1 := w_lo1 (co := co) hk u
    have h2 := w_hi1 (co := co) hk u
    rw [wS_zero, wS_zero, qP, qB_val, if_pos (show 0 % 2 = 0 by decide), Int.one_mul, if_pos (show true = true by decide), if_neg (show ¬ false = true by decide)]
    rw [show (wT co false u 0 : Int) + -1 + 1 = (wT co false u 0 : Int) by omega, show (wT co true u 0 : Int) + 1 - 1 = (wT co true u 0 : Int) by omega]
    exact ⟨h1, h2⟩
  | succ k ih =>
    intro hk
    have h1 := w_lo1 (co := co) hk u
    have h2 := w_hi1 (co := co) hk u
    obtain ⟨i1, i2⟩ := ih (by omega)
    rw [wS_succ, wS_succ, qP_succ, pv_add, qB_val]
    generalize ((qC co (k + 1) * (wB co u * u ^ (2 * (k + 1))) : Nat) : Int) = b at *
    generalize (qM : Int) = M at *
    have e1 : ∀ a : Int, M * (wS co false u k + a + 1) = M * (wS co false u k + 1) + M * a := fun a => by rw [← Int.mul_add]; congr 1; omega
    have e2 : ∀ a : Int, M * (wS co true u k + a - 1) = M * (wS co true u k - 1) + M * a := fun a => by rw [← Int.mul_add]; congr 1; omega
    by_cases he : (k + 1) % 2 = 0
    · rw [if_pos he, if_pos he, if_pos he, Int.one_mul, e1, e2]
      exact ⟨Int.add_le_add i1 h1, Int.add_le_add i2 h2⟩
    · rw [if_neg he, if_neg he, if_neg he, e1, e2, Int.mul_neg, Int.mul_neg]
      show _ + -(M * (wT co true u (k + 1) : Int)) ≤ _ ∧ _ ≤ _ + -(M * (wT co false u (k + 1) : Int))
      constructor <;> omega
/-- cos and sin of the half, as rows -/
def qL1 : Nat := 20397882081197443358640281739902897356800000000 * 33554432 ^ 39
def qFa : Nat → Nat
  | 0 => 1
  | k + 1 => qFa k * (k + 1)
def qH (odd : Bool) : Nat → List Int
  | 0 => []
  | k + 1 => pAdd (qH odd k) (pMo ((if k % 2 = 0 then 1 else -1) * ((qL1 / (qFa (2 * k + (if odd then 1 else 0)) * 33554432 ^ (2 * k + (if odd then 1 else 0))) : Nat) : Int)) (2 * k + (if odd then 1 else 0)))
def qCo : List Int := qH false 20
def qSi : List Int := qH true 20
def qA : Int := (qL1 * qL1 + qL1 * qL1 / 1048576 : Nat)
def qa : Int := (20397882081197443358640281739902897356800000000 * 2 ^ 78 * 16777216 ^ 38 : Nat)
def qR (co hi : Bool) : List Int :=
  pAdd [qA] (pAdd (pSc (if hi then qa else -qa) (qP co 19)) (if co then pSc (-2) (if hi then pMul qCo qCo else pMul qSi qSi) else pSc (-1) (let z := pAdd qCo (pSc (if hi then 1 else -1) qSi); pMul z z)))
theorem qR_ok : ∀ co hi : Bool, 109051904 * pAbs (pTl (qR co hi)) 109051904 ≤ pHd (qR co hi) := by decide +kernel
