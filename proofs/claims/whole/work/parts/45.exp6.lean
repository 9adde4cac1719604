/-! E down of one is below E up of another that is not less -/
theorem eDiv_lt {x y d : Nat} (hd : 0 < d) (h : x < y) : eDiv false x d < eDiv true y d := by
  rw [eDiv_f, eDiv_t]
  have h1 : x / d * d ≤ x := Nat.div_mul_le_self _ _
  exact (Nat.le_div_iff_mul_le hd).mpr (by rw [Nat.succ_mul]; omega)
theorem eM_lt {c d : Nat} (hc : c ≤ d) (hd : 0 < d) : ∀ (i : Nat) {s t : Nat}, s < t → eM false c i s < eM true d i t := by
  intro i
  induction i with
  | zero => intro s t h; rw [eM, eM]; exact h
  | succ i ih =>
    intro s t h
    rw [eM_succ, eM_succ]
    refine ih (eDiv_lt (by omega) ?_)
    exact Nat.lt_of_le_of_lt (Nat.mul_le_mul_left s hc) (Nat.mul_lt_mul_of_pos_right h hd)
def eTop (ups : Bool) (i : Int) (f : Nat) : Nat := eDiv ups (eM ups (eC ups (decide (0 ≤ i))) i.natAbs (eFin ups f)) 16
theorem eFin_mono {ups : Bool} {f g : Nat} (h : f ≤ g) : eFin ups f ≤ eFin ups g := by
  cases ups with
  | false => rw [eFin_f, eFin_f]; exact eS_mono h 13
  | true => rw [eFin_t, eFin_t]; exact Nat.succ_le_succ (eS_mono h 13)
theorem eTop_mono {ups : Bool} {i : Int} {f g : Nat} (h : f ≤ g) : eTop ups i f ≤ eTop ups i g := by
  unfold eTop
  exact eDiv_mono (eM_mono (Nat.le_refl _) _ (eFin_mono h))
theorem eC_le (b : Bool) : eC false b ≤ eC true b ∧ 0 < eC true b := by cases b <;> decide
theorem eTop_lt {i : Int} {f g : Nat} (h : f ≤ g) : eTop false i f < eTop true i g := by
  unfold eTop
  refine eDiv_lt (by omega) (eM_lt (eC_le _).1 (eC_le _).2 _ ?_)
  rw [eFin_f, eFin_t]
  exact Nat.lt_succ_of_le (eS_ud h 13)
theorem eTop_all : ∀ a : Nat, a < 22 → ∀ b : Nat, b < 22 → a < b → eTop false ((a : Int) - 14) 16777200 < eTop true ((b : Int) - 14) 0 := by decide +kernel
theorem eTop_pos (i : Int) (f : Nat) : 0 < eTop true i f := Nat.lt_of_le_of_lt (Nat.zero_le _) (eTop_lt (i := i) (f := f) (Nat.le_refl _))
theorem eE_in {ups : Bool} {p : Int} (h : -14680064 ≤ p) : eE ups p = eTop ups (p / 1048576) ((p % 1048576).toNat * 16) := by
  unfold eE eTop
  rw [if_neg (by omega)]
theorem eE_lo {ups : Bool} {p : Int} (h : p < -14680064) : eE ups p = if ups then 1 else 0 := by
  unfold eE
  rw [if_pos h]
theorem eE_lt {p q : Int} (h : p ≤ q) (hq : q ≤ 7994000) : eE false p < eE true q := by
  by_cases hp : p < -14680064
  · rw [eE_lo hp, if_neg (by decide)]
    by_cases h2 : q < -14680064
    · rw [eE_lo h2, if_pos rfl]; omega
    · rw [eE_in (by omega)]; exact eTop_pos _ _
  · rw [eE_in (by omega), eE_in (by omega)]
    by_cases e : p / 1048576 = q / 1048576
    · rw [e]
      exact eTop_lt (by omega)
    · have a1 := eTop_mono (ups := false) (i := p / 1048576) (f := (p % 1048576).toNat * 16) (g := 16777200) (by omega)
      have a2 := eTop_mono (ups := true) (i := q / 1048576) (f := 0) (g := (q % 1048576).toNat * 16) (by omega)
      have a3 := eTop_all (p / 1048576 + 14).toNat (by omega) (q / 1048576 + 14).toNat (by omega) (by omega)
      rw [show (((p / 1048576 + 14).toNat : Nat) : Int) - 14 = p / 1048576 by omega, show (((q / 1048576 + 14).toNat : Nat) : Int) - 14 = q / 1048576 by omega] at a3
      exact Nat.lt_of_le_of_lt a1 (Nat.lt_of_lt_of_le a3 a2)
