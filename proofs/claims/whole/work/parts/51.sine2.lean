theorem qA_eq : qA = qa * ((qM : Int) * 16777232) := by decide +kernel
theorem qa_pos : 0 < qa := by decide +kernel
theorem qM_pos : 0 < (qM : Int) := by decide +kernel
theorem sq_nn (x : Int) : 0 ≤ x * x := by
  rcases Int.le_total 0 x with h | h
  · exact Int.mul_nonneg h h
  · have := Int.mul_nonneg (show 0 ≤ -x by omega) (show 0 ≤ -x by omega)
    rwa [Int.neg_mul_neg] at this
theorem qR_val (co hi : Bool) (u : Nat) (hu : u ≤ 109051904) : 0 ≤ qA + (if hi then qa else -qa) * pv (qP co 19) u := by
  have h := pv_pos2 (qR_ok co hi) (x := (u : Int)) (by omega) (by omega)
  unfold qR at h
  rw [pv_add, pv_add, pv_sc] at h
  have e0 : pv [qA] (u : Int) = qA := by rw [pv, pv, Int.mul_zero, Int.add_zero]
  rw [e0] at h
  have key : pv (if co then pSc (-2) (if hi then pMul qCo qCo else pMul qSi qSi) else pSc (-1) (let z := pAdd qCo (pSc (if hi then 1 else -1) qSi); pMul z z)) (u : Int) ≤ 0 := by
    have sq : ∀ (c : Int) (z : List Int), c ≤ 0 → pv (pSc c (pMul z z)) (u : Int) ≤ 0 := fun c z hc => by
      rw [pv_sc, pv_mul]
      exact Int.mul_nonpos_of_nonpos_of_nonneg hc (sq_nn _)
    cases co with
    | true =>
      rw [if_pos (show true = true by decide)]
      cases hi with
      | true => rw [if_pos (show true = true by decide)]; exact sq _ _ (by decide)
      | false => rw [if_neg (show ¬ false = true by decide)]; exact sq _ _ (by decide)
    | false =>
      rw [if_neg (show ¬ false = true by decide)]
      exact sq _ _ (by decide)
  generalize (if hi then qa else -qa) * pv (qP co 19) (u : Int) = z at *
  omega
theorem w_pol (co : Bool) (u : Nat) (hu : u ≤ 109051904) : pv (qP co 19) u ≤ (qM : Int) * 16777232 ∧ -((qM : Int) * 16777232) ≤ pv (qP co 19) u := by
  have h1 := qR_val co true u hu
  have h2 := qR_val co false u hu
  rw [if_pos (show true = true by decide), qA_eq] at h1
  rw [if_neg (show ¬ false = true by decide), qA_eq] at h2
  generalize pv (qP co 19) (u : Int) = z at *
  generalize (qM : Int) * 16777232 = c at *
  have p := qa_pos
  generalize qa = a at *
  rw [← Int.mul_add] at h1
  rw [Int.neg_mul, ← Int.sub_eq_add_neg, ← Int.mul_sub] at h2
  have g1 : 0 ≤ c + z := by
    rcases Int.lt_or_le (c + z) 0 with q | q
    · have := Int.mul_neg_of_pos_of_neg p q; omega
    · exact q
  have g2 : 0 ≤ c - z := by
    rcases Int.lt_or_le (c - z) 0 with q | q
    · have := Int.mul_neg_of_pos_of_neg p q; omega
    · exact q
  omega
theorem w_in (co : Bool) (u : Nat) (hu : u ≤ 109051904) : wS co false u 19 ≤ 16777231 ∧ -16777231 ≤ wS co true u 19 := by
  obtain ⟨h1, h2⟩ := w_sums co u 19 (by omega)
  obtain ⟨h3, h4⟩ := w_pol co u hu
  generalize pv (qP co 19) (u : Int) = z at *
  have p := qM_pos
  generalize (qM : Int) = M at *
  constructor
  · have := Int.le_of_mul_le_mul_left (Int.le_trans h1 h3) p
    omega
  · have e : M * -16777232 ≤ M * (wS co true u 19 - 1) := by rw [Int.mul_neg]; exact Int.le_trans h4 h2
    have := Int.le_of_mul_le_mul_left e p
    omega
theorem wV_ud {u v : Nat} (h : u ≤ v) : wV false u ≤ wV true v := Nat.le_trans (eDiv_ud _ (by omega)) (eDiv_mono (Nat.mul_le_mul h h))
theorem wV_mono {ups : Bool} {u v : Nat} (h : u ≤ v) : wV ups u ≤ wV ups v := eDiv_mono (Nat.mul_le_mul h h)
theorem wT_mono {co ups : Bool} {u v : Nat} (h : u ≤ v) : ∀ k, wT co ups u k ≤ wT co ups v k := by
  intro k
  induction k with
  | zero =>
    rw [wT_zero, wT_zero]
    cases co with
    | true => exact Nat.le_refl _
    | false => exact h
  | succ k ih => rw [wT_succ, wT_succ]; exact eDiv_mono (eDiv_mono (Nat.mul_le_mul ih (wV_mono h)))
theorem wT_ud {co : Bool} (u : Nat) : ∀ k, wT co false u k ≤ wT co true u k := by
  intro k
  induction k with
  | zero => rw [wT_zero, wT_zero]; exact Nat.le_refl _
  | succ k ih =>
    rw [wT_succ, wT_succ]
    exact Nat.le_trans (eDiv_ud _ (wD_pos co k)) (eDiv_mono (Nat.le_trans (eDiv_ud _ (by omega)) (eDiv_mono (Nat.mul_le_mul ih (wV_ud (Nat.le_refl u))))))
theorem wT_top : ∀ co : Bool, ∀ k : Nat, k < 20 → wT co true 109051904 k ≤ 2000000000 := by decide +kernel
theorem wV_top : wV true 109051904 ≤ 708837377 := by decide +kernel
theorem wT_bd {co ups : Bool} {u k : Nat} (hu : u ≤ 109051904) (hk : k < 20) : wT co ups u k ≤ 2000000000 := by
  have h := Nat.le_trans (wT_mono (co := co) (ups := true) hu k) (wT_top co k hk)
  cases ups with
  | true => exact h
  | false => exact Nat.le_trans (wT_ud u k) h
theorem wV_bd {ups : Bool} {u : Nat} (hu : u ≤ 109051904) : wV ups u ≤ 708837377 := by
  cases ups with
  | true => exact Nat.le_trans (wV_mono hu) wV_top
  | false => exact Nat.le_trans (wV_ud hu) wV_top
theorem wS_bd {co hi : Bool} {u : Nat} (hu : u ≤ 109051904) : ∀ k, k < 20 → (wS co hi u k).natAbs ≤ 2000000000 * (k + 1) + 1 := by
  intro k
  induction k with
  | zero =>
    intro hk
    have h := wT_bd (co := co) (ups := hi) hu hk
    rw [wS_zero]
    split <;> omega
  | succ k ih =>
    intro hk
    have h := wT_bd (co := co) (ups := hi) hu hk
    have h2 := wT_bd (co := co) (ups := !hi) hu hk
    have := ih (by omega)
    rw [wS_succ]
    split <;> omega
theorem wS_le {co : Bool} (u : Nat) : ∀ k, wS co false u k + 2 ≤ wS co true u k := by
  intro k
  induction k with
  | zero =>
    have h := wT_ud (co := co) u 0
    rw [wS_zero, wS_zero, if_pos rfl, if_neg (by decide)]
    omega
  | succ k ih =>
    have h := wT_ud (co := co) u (k + 1)
    rw [wS_succ, wS_succ]
    show wS co false u k + (if (k + 1) % 2 = 0 then (wT co false u (k + 1) : Int) else -(wT co true u (k + 1) : Int)) + 2 ≤ wS co true u k + (if (k + 1) % 2 = 0 then (wT co true u (k + 1) : Int) else -(wT co false u (k + 1) : Int))
    split <;> omega
/-- LOW and HIGH of sin, cos at a middle, ahead of less r and and r -/
def wLo (co : Bool) (m : Int) : Int := (if !co && decide (m < 0) then -(wS co true (m.natAbs * 16) 19) else wS co false (m.natAbs * 16) 19) / 16
def wHi (co : Bool) (m : Int) : Int := -((if !co && decide (m < 0) then wS co false (m.natAbs * 16) 19 else -(wS co true (m.natAbs * 16) 19)) / 16)
theorem w_fin (co : Bool) {m : Int} (h1 : m ≤ 6815744) (h2 : -6815744 ≤ m) : wLo co m ≤ 1048576 ∧ -1048576 ≤ wHi co m ∧ wLo co m ≤ wHi co m := by
  have hu : m.natAbs * 16 ≤ 109051904 := by omega
  obtain ⟨a1, a2⟩ := w_in co (m.natAbs * 16) hu
  have a3 := wS_le (co := co) (m.natAbs * 16) 19
  unfold wLo wHi
  split <;> omega
