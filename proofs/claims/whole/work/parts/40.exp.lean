/-! E of the document, in whole numbers that are none below 0 -/
def cdiv (x y : Nat) : Nat := (x + y - 1) / y
def eDiv (ups : Bool) (x y : Nat) : Nat := if ups then cdiv x y else x / y
def eT (ups : Bool) (f : Nat) : Nat → Nat
  | 0 => f
  | i + 1 => eDiv ups (eDiv ups (eT ups f i * f) 16777216) (i + 2)
def eS (ups : Bool) (f : Nat) : Nat → Nat
  | 0 => 16777216 + f
  | i + 1 => eS ups f i + eT ups f (i + 1)
def eM (ups : Bool) (c : Nat) : Nat → Nat → Nat
  | 0, s => s
  | i + 1, s => eM ups c i (eDiv ups (s * c) 16777216)
def eC (ups : Bool) (pos : Bool) : Nat := (if pos then 45605201 else 6171992) + (if ups then 1 else 0)
def eFin (ups : Bool) (f : Nat) : Nat := eS ups f 13 + (if ups then 1 else 0)
def eE (ups : Bool) (p : Int) : Nat := if p < -14680064 then (if ups then 1 else 0) else
  eDiv ups (eM ups (eC ups (decide (0 ≤ p / 1048576))) (p / 1048576).natAbs (eFin ups ((p % 1048576).toNat * 16))) 16
theorem eM_succ (ups : Bool) (c i s : Nat) : eM ups c (i + 1) s = eM ups c i (eDiv ups (s * c) 16777216) := by rw [eM]
theorem eT_succ (ups : Bool) (f i : Nat) : eT ups f (i + 1) = eDiv ups (eDiv ups (eT ups f i * f) 16777216) (i + 2) := by rw [eT]
theorem eS_succ (ups : Bool) (f i : Nat) : eS ups f (i + 1) = eS ups f i + eT ups f (i + 1) := by rw [eS]
theorem eDiv_mono {ups : Bool} {x y d : Nat} (h : x ≤ y) : eDiv ups x d ≤ eDiv ups y d := by
  unfold eDiv cdiv
  split
  · exact Nat.div_le_div_right (by omega)
  · exact Nat.div_le_div_right h
theorem eDiv_ud (x : Nat) {d : Nat} (h : 0 < d) : eDiv false x d ≤ eDiv true x d := by
  unfold eDiv cdiv
  rw [if_neg (by decide), if_pos rfl]
  exact Nat.div_le_div_right (by omega)
theorem eT_mono {ups : Bool} {f g : Nat} (h : f ≤ g) : ∀ i, eT ups f i ≤ eT ups g i := by
  intro i
  induction i with
  | zero => exact h
  | succ i ih => rw [eT_succ, eT_succ]; exact eDiv_mono (eDiv_mono (Nat.mul_le_mul ih h))
theorem eS_mono {ups : Bool} {f g : Nat} (h : f ≤ g) : ∀ i, eS ups f i ≤ eS ups g i := by
  intro i
  induction i with
  | zero => exact Nat.add_le_add_left h _
  | succ i ih => rw [eS_succ, eS_succ]; exact Nat.add_le_add ih (eT_mono h _)
theorem eT_ud {f g : Nat} (h : f ≤ g) : ∀ i, eT false f i ≤ eT true g i := by
  intro i
  induction i with
  | zero => exact h
  | succ i ih => rw [eT_succ, eT_succ]; exact Nat.le_trans (eDiv_ud _ (by omega)) (eDiv_mono (Nat.le_trans (eDiv_ud _ (by omega)) (eDiv_mono (Nat.mul_le_mul ih h))))
theorem eS_ud {f g : Nat} (h : f ≤ g) : ∀ i, eS false f i ≤ eS true g i := by
  intro i
  induction i with
  | zero => exact Nat.add_le_add_left h _
  | succ i ih => rw [eS_succ, eS_succ]; exact Nat.add_le_add ih (eT_ud h _)
theorem eM_mono {ups : Bool} {c d : Nat} (hc : c ≤ d) : ∀ (i : Nat) {s t : Nat}, s ≤ t → eM ups c i s ≤ eM ups d i t := by
  intro i
  induction i with
  | zero => intro s t h; exact h
  | succ i ih => intro s t h; rw [eM_succ, eM_succ]; exact ih (eDiv_mono (Nat.mul_le_mul h hc))
theorem eT_top : ∀ i, i < 14 → eT true 16777215 i ≤ 16777215 := by decide +kernel
theorem eT_bd {ups : Bool} {f : Nat} (h : f ≤ 16777215) {i : Nat} (hi : i < 14) : eT ups f i ≤ 16777215 := by
  have h2 := eT_top i hi
  cases ups with
  | true => exact Nat.le_trans (eT_mono h i) h2
  | false => exact Nat.le_trans (eT_ud h i) h2
theorem eS_bd {ups : Bool} {f : Nat} (h : f ≤ 16777215) : ∀ i, i < 14 → eS ups f i ≤ 16777215 * (i + 2) + 1 := by
  intro i
  induction i with
  | zero => intro _; show 16777216 + f ≤ _; omega
  | succ i ih =>
    intro hi
    have := eT_bd (ups := ups) h hi
    have := ih (by omega)
    rw [eS_succ]
    omega
theorem eFin_top : eFin true 16777215 ≤ 45605300 := by decide +kernel
theorem eFin_bd {ups : Bool} {f : Nat} (h : f ≤ 16777215) : eFin ups f ≤ 45605300 := by
  cases ups with
  | true =>
    have h3 : eS true f 13 + 1 ≤ eS true 16777215 13 + 1 := Nat.add_le_add_right (eS_mono h 13) 1
    exact Nat.le_trans h3 eFin_top
  | false =>
    have h3 : eS false f 13 + 0 ≤ eS true 16777215 13 + 1 := Nat.le_trans (eS_ud h 13) (Nat.le_add_right _ 1)
    exact Nat.le_trans h3 eFin_top
/-- so that the products stay in a long: i times, of the largest -/
theorem eM_top : ∀ i, i < 8 → eM true 45605202 i 45605300 ≤ 80000000000 := by decide +kernel
theorem eM_step (ups : Bool) (c s : Nat) : ∀ i, eM ups c (i + 1) s = eDiv ups (eM ups c i s * c) 16777216 := by
  intro i
  induction i generalizing s with
  | zero => rw [eM_succ, eM, eM]
  | succ i ih => rw [eM_succ, ih, ← eM_succ]
theorem eM_ud {c d : Nat} (hc : c ≤ d) : ∀ (i : Nat) {s t : Nat}, s ≤ t → eM false c i s ≤ eM true d i t := by
  intro i
  induction i with
  | zero => intro s t h; exact h
  | succ i ih => intro s t h; rw [eM_succ, eM_succ]; exact ih (Nat.le_trans (eDiv_ud _ (by omega)) (eDiv_mono (Nat.mul_le_mul h hc)))
theorem eM_bd {ups : Bool} {i s : Nat} (hi : i < 8) (hs : s ≤ 45605300) {c : Nat} (hc : c ≤ 45605202) : eM ups c i s ≤ 80000000000 := by
  have h := eM_top i hi
  cases ups with
  | true => exact Nat.le_trans (eM_mono hc i hs) h
  | false => exact Nat.le_trans (eM_ud hc i hs) h
theorem eM_small {ups : Bool} {c : Nat} (hc : c ≤ 6171993) : ∀ (i : Nat) {s : Nat}, s ≤ 45605300 → eM ups c i s ≤ 45605300 := by
  intro i
  induction i with
  | zero => intro s h; exact h
  | succ i ih =>
    intro s h
    rw [eM_succ]
    refine ih ?_
    have h1 : s * c ≤ 45605300 * 6171993 := Nat.mul_le_mul h hc
    unfold eDiv cdiv
    split
    · omega
    · omega
