/-! whole polynomials as rows of numbers -/
def pv : List Int → Int → Int
  | [], _ => 0
  | a :: l, x => a + x * pv l x
def pAdd : List Int → List Int → List Int
  | [], q => q
  | a :: p, [] => a :: p
  | a :: p, b :: q => (a + b) :: pAdd p q
def pSc (c : Int) : List Int → List Int
  | [] => []
  | a :: p => (c * a) :: pSc c p
def pMul : List Int → List Int → List Int
  | [], _ => []
  | a :: p, q => pAdd (pSc a q) (0 :: pMul p q)
def pMo (c : Int) : Nat → List Int
  | 0 => [c]
  | n + 1 => 0 :: pMo c n
def pAbs : List Int → Int → Int
  | [], _ => 0
  | a :: l, x => (a.natAbs : Int) + x * pAbs l x
theorem pv_add : ∀ (p q : List Int) (x : Int), pv (pAdd p q) x = pv p x + pv q x
  | [], q, x => by rw [pAdd, pv, Int.zero_add]
  | a :: p, [], x => by rw [pAdd, pv, pv, Int.add_zero]
  | a :: p, b :: q, x => by rw [pAdd, pv, pv, pv, pv_add p q x, Int.mul_add]; omega
theorem pv_sc (c : Int) : ∀ (p : List Int) (x : Int), pv (pSc c p) x = c * pv p x
  | [], x => by rw [pSc, pv, Int.mul_zero]
  | a :: p, x => by rw [pSc, pv, pv, pv_sc c p x, Int.mul_add, ← Int.mul_assoc, Int.mul_comm x c, Int.mul_assoc]
theorem pv_mul : ∀ (p q : List Int) (x : Int), pv (pMul p q) x = pv p x * pv q x
  | [], q, x => by rw [pMul, pv, Int.zero_mul]
  | a :: p, q, x => by rw [pMul, pv_add, pv_sc, pv, pv, pv_mul p q x, Int.zero_add, Int.add_mul, Int.mul_assoc]
theorem pv_mo (c : Int) : ∀ (n : Nat) (x : Int), pv (pMo c n) x = c * x ^ n
  | 0, x => by rw [pMo, pv, pv, Int.mul_zero, Int.add_zero, Int.pow_zero, Int.mul_one]
  | n + 1, x => by rw [pMo, pv, pv_mo c n x, Int.zero_add, Int.pow_succ, Int.mul_comm x, Int.mul_assoc]
theorem pv_abs : ∀ (p : List Int) {x X : Int}, 0 ≤ x → x ≤ X → ((pv p x).natAbs : Int) ≤ pAbs p X
  | [], x, X, _, _ => by rw [pv, pAbs]; decide
  | a :: p, x, X, h1, h2 => by
    have ih := pv_abs p h1 h2
    have h3 : ((x * pv p x).natAbs : Int) ≤ X * pAbs p X := by
      rw [Int.natAbs_mul, Int.natCast_mul]
      exact Int.mul_le_mul (by omega) ih (by omega) (by omega)
    rw [pv, pAbs]
    omega
theorem pv_pos {a : Int} {p : List Int} {X : Int} (h : X * pAbs p X ≤ a) {x : Int} (h1 : 0 ≤ x) (h2 : x ≤ X) : 0 ≤ pv (a :: p) x := by
  have h3 := pv_abs p h1 h2
  have h4 : ((x * pv p x).natAbs : Int) ≤ X * pAbs p X := by
    rw [Int.natAbs_mul, Int.natCast_mul]
    exact Int.mul_le_mul (by omega) h3 (by omega) (by omega)
  rw [pv]
  omega
def pHd : List Int → Int
  | [] => 0
  | a :: _ => a
def pTl : List Int → List Int
  | [] => []
  | _ :: p => p
theorem pv_pos2 {p : List Int} {X : Int} (h : X * pAbs (pTl p) X ≤ pHd p) {x : Int} (h1 : 0 ≤ x) (h2 : x ≤ X) : 0 ≤ pv p x := by
  cases p with
  | nil => rw [pv]; omega
  | cons a p => exact pv_pos h h1 h2
/-! sin and cos of the document -/
def wV (ups : Bool) (u : Nat) : Nat := eDiv ups (u * u) 16777216
def wD (co : Bool) (k : Nat) : Nat := if co then (2 * k - 1) * 2 * k else 2 * k * (2 * k + 1)
def wT (co ups : Bool) (u : Nat) : Nat → Nat
  | 0 => if co then 16777216 else u
  | k + 1 => eDiv ups (eDiv ups (wT co ups u k * wV ups u) 16777216) (wD co (k + 1))
theorem wT_succ (co ups : Bool) (u k : Nat) : wT co ups u (k + 1) = eDiv ups (eDiv ups (wT co ups u k * wV ups u) 16777216) (wD co (k + 1)) := by rw [wT]
theorem wT_zero (co ups : Bool) (u : Nat) : wT co ups u 0 = if co then 16777216 else u := by rw [wT]
def wS (co hi : Bool) (u : Nat) : Nat → Int
  | 0 => (wT co hi u 0 : Int) + (if hi then 1 else -1)
  | k + 1 => wS co hi u k + (if (k + 1) % 2 = 0 then (wT co hi u (k + 1) : Int) else -(wT co (!hi) u (k + 1) : Int))
theorem wS_succ (co hi : Bool) (u k : Nat) : wS co hi u (k + 1) = wS co hi u k + (if (k + 1) % 2 = 0 then (wT co hi u (k + 1) : Int) else -(wT co (!hi) u (k + 1) : Int)) := by rw [wS]
theorem wS_zero (co hi : Bool) (u : Nat) : wS co hi u 0 = (wT co hi u 0 : Int) + (if hi then 1 else -1) := by rw [wS]
theorem wD_pos (co : Bool) (k : Nat) : 0 < wD co (k + 1) := by
  unfold wD
  split
  · exact Nat.mul_pos (by omega) (by omega)
  · exact Nat.mul_pos (by omega) (by omega)
def wF (co : Bool) : Nat → Nat
  | 0 => 1
  | k + 1 => wF co k * wD co (k + 1)
theorem wF_succ (co : Bool) (k : Nat) : wF co (k + 1) = wF co k * wD co (k + 1) := by rw [wF]
theorem eDiv_lo {x y : Nat} : eDiv false x y * y ≤ x := by rw [eDiv_f]; exact Nat.div_mul_le_self _ _
theorem eDiv_hi {x y : Nat} (hy : 0 < y) : x ≤ eDiv true x y * y := by
  rw [eDiv_t]
  have := Nat.lt_div_mul_add (a := x + y - 1) (b := y) hy
  omega
def wB (co : Bool) (u : Nat) : Nat := if co then 16777216 else u
theorem w_re (a d s q f p : Nat) : a * (f * d * (p * (s * s))) = a * d * s * s * (f * p) := by
  simp only [Nat.mul_assoc, Nat.mul_comm, Nat.mul_left_comm]
theorem w_step1 {t t' v u d f p b s : Nat} (h0 : t * (f * p) ≤ b) (h1 : t' * d * s ≤ t * v) (h2 : v * s ≤ u * u) : t' * (f * d * (p * (s * s))) ≤ b * (u * u) := by
  have e1 : t' * (f * d * (p * (s * s))) = t' * d * s * s * (f * p) := w_re _ _ _ 0 _ _
  rw [e1]
  have a1 : t' * d * s * s ≤ t * v * s := Nat.mul_le_mul_right s h1
  have a2 : t * v * s ≤ t * (u * u) := by rw [Nat.mul_assoc]; exact Nat.mul_le_mul_left t h2
  have a3 : t' * d * s * s * (f * p) ≤ t * (u * u) * (f * p) := Nat.mul_le_mul_right _ (Nat.le_trans a1 a2)
  have a4 : t * (u * u) * (f * p) = t * (f * p) * (u * u) := by rw [Nat.mul_right_comm]
  rw [a4] at a3
  exact Nat.le_trans a3 (Nat.mul_le_mul_right _ h0)
theorem w_step2 {t t' v u d f p b s : Nat} (h0 : b ≤ t * (f * p)) (h1 : t * v ≤ t' * d * s) (h2 : u * u ≤ v * s) : b * (u * u) ≤ t' * (f * d * (p * (s * s))) := by
  have e1 : t' * (f * d * (p * (s * s))) = t' * d * s * s * (f * p) := w_re _ _ _ 0 _ _
  rw [e1]
  have a1 : t * v * s ≤ t' * d * s * s := Nat.mul_le_mul_right s h1
  have a2 : t * (u * u) ≤ t * v * s := by rw [Nat.mul_assoc t v s]; exact Nat.mul_le_mul_left t h2
  have a3 : t * (u * u) * (f * p) ≤ t' * d * s * s * (f * p) := Nat.mul_le_mul_right _ (Nat.le_trans a2 a1)
  have a4 : t * (u * u) * (f * p) = t * (f * p) * (u * u) := by rw [Nat.mul_right_comm]
  rw [a4] at a3
  exact Nat.le_trans (Nat.mul_le_mul_right _ h0) a3
theorem w_pw (s k : Nat) : s ^ (2 * (k + 1)) = s ^ (2 * k) * (s * s) := by rw [show 2 * (k + 1) = 2 * k + 1 + 1 by omega, Nat.pow_succ, Nat.pow_succ, Nat.mul_assoc]
theorem wT_lo (co : Bool) (u : Nat) : ∀ k, wT co false u k * (wF co k * 16777216 ^ (2 * k)) ≤ wB co u * u ^ (2 * k) := by
  intro k
  induction k with
  | zero =>
    rw [wT_zero, wF, Nat.mul_zero, Nat.pow_zero, Nat.pow_zero, Nat.mul_one, Nat.mul_one]
    exact Nat.le_refl _
  | succ k ih =>
    rw [wT_succ, wF_succ, w_pw, w_pw, ← Nat.mul_assoc (wB co u)]
    refine w_step1 ih (Nat.le_trans (Nat.mul_le_mul_right _ eDiv_lo) eDiv_lo) eDiv_lo
theorem wT_hi (co : Bool) (u : Nat) : ∀ k, wB co u * u ^ (2 * k) ≤ wT co true u k * (wF co k * 16777216 ^ (2 * k)) := by
  intro k
  induction k with
  | zero =>
    rw [wT_zero, wF, Nat.mul_zero, Nat.pow_zero, Nat.pow_zero, Nat.mul_one, Nat.mul_one]
    exact Nat.le_refl _
  | succ k ih =>
    rw [wT_succ, wF_succ, w_pw, w_pw, ← Nat.mul_assoc (wB co u)]
    refine w_step2 ih (Nat.le_trans (eDiv_hi (by omega)) (Nat.mul_le_mul_right _ (eDiv_hi (wD_pos co k)))) (eDiv_hi (by omega))
