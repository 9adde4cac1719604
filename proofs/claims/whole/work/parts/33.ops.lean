/-! the ACTS on SHUTS, as whole numbers, and what both sides say -/
def min4 (a b c d : Int) : Int := min (min a b) (min c d)
def max4 (a b c d : Int) : Int := max (max a b) (max c d)
def sPlus : qSh → qSh → qSh
  | some q, some r => sOf (q.1 + r.1) (q.2 + r.2)
  | _, _ => none
def sMinus : qSh → qSh → qSh
  | some q, some r => sOf (q.1 - r.2) (q.2 - r.1)
  | _, _ => none
def sNeg : qSh → qSh
  | some q => sOf (-q.2) (-q.1)
  | none => none
def sTimes : qSh → qSh → qSh
  | some q, some r => sOf (min4 (q.1 * r.1) (q.1 * r.2) (q.2 * r.1) (q.2 * r.2) / 1048576) (up (max4 (q.1 * r.1) (q.1 * r.2) (q.2 * r.1) (q.2 * r.2)) 1048576)
  | _, _ => none
def sOver : qSh → qSh → qSh
  | some q, some r => if r.1 ≤ 0 ∧ 0 ≤ r.2 then none else sOf (min4 (dn (q.1 * 1048576) r.1) (dn (q.1 * 1048576) r.2) (dn (q.2 * 1048576) r.1) (dn (q.2 * 1048576) r.2)) (max4 (up (q.1 * 1048576) r.1) (up (q.1 * 1048576) r.2) (up (q.2 * 1048576) r.1) (up (q.2 * 1048576) r.2))
  | _, _ => none
def sSize : qSh → qSh
  | some q => if 0 ≤ q.1 then sOf q.1 q.2 else if q.2 ≤ 0 then sOf (-q.2) (-q.1) else sOf 0 (max (-q.1) q.2)
  | none => none
def sLesser : qSh → qSh → qSh
  | some q, some r => sOf (min q.1 r.1) (min q.2 r.2)
  | _, _ => none
def sGreater : qSh → qSh → qSh
  | some q, some r => sOf (max q.1 r.1) (max q.2 r.2)
  | _, _ => none
def sTog : qSh → qSh → qSh
  | some q, some r => sOf (min q.1 r.1) (max q.2 r.2)
  | _, _ => none
theorem x_min {x y : Int64} : (if y < x then y else x).toInt = min x.toInt y.toInt := by
  by_cases h : y < x
  · rw [if_pos h]; rw [qL_lt] at h; omega
  · rw [if_neg h]; rw [qL_lt] at h; omega
theorem x_max {x y : Int64} : (if y < x then x else y).toInt = max x.toInt y.toInt := by
  by_cases h : y < x
  · rw [if_pos h]; rw [qL_lt] at h; omega
  · rw [if_neg h]; rw [qL_lt] at h; omega
theorem m_less {x y : Int64} : (fX9_less x y).toInt = min x.toInt y.toInt := by
  show (if y ≤ x then y else x).toInt = _
  by_cases h : y ≤ x
  · rw [if_pos h]; rw [qL_le] at h; omega
  · rw [if_neg h]; rw [qL_le] at h; omega
theorem m_more {x y : Int64} : (fX9_more x y).toInt = max x.toInt y.toInt := by
  show (if x ≤ y then y else x).toInt = _
  by_cases h : x ≤ y
  · rw [if_pos h]; rw [qL_le] at h; omega
  · rw [if_neg h]; rw [qL_le] at h; omega
theorem q_prod {a c : Int} (h1 : -2147483648 ≤ a ∧ a ≤ 2147483648) (h2 : -2147483648 ≤ c ∧ c ≤ 2147483648) : -4611686018427387904 ≤ a * c ∧ a * c ≤ 4611686018427387904 := by
  have h : (a * c).natAbs ≤ 2147483648 * 2147483648 := by
    rw [Int.natAbs_mul]
    exact Nat.mul_le_mul (by omega) (by omega)
  omega
theorem qL_prod {a c : Int64} (h1 : -2147483648 ≤ a.toInt ∧ a.toInt ≤ 2147483648) (h2 : -2147483648 ≤ c.toInt ∧ c.toInt ≤ 2147483648) : (a * c).toInt = a.toInt * c.toInt := by
  have h := q_prod h1 h2
  exact qL_mul (by omega) (by omega)
theorem qL_shl20 {x : Int64} (h : -2147483648 ≤ x.toInt ∧ x.toInt ≤ 2147483648) : (jshlL x 20).toInt = x.toInt * 1048576 := by
  have e : jshlL x 20 = x * 1048576 := by
    rw [← Int64.toBitVec_inj]
    unfold jshlL
    rw [Int64.toBitVec_shiftLeft, BitVec.shiftLeft_eq', show (((20 : Int32).toInt64 &&& 63).toBitVec.smod 64).toNat = 20 by decide, Int64.toBitVec_mul]
    apply BitVec.eq_of_toNat_eq
    rw [BitVec.toNat_shiftLeft, BitVec.toNat_mul, Nat.shiftLeft_eq]
    rfl
  rw [e, qL_mul, show (1048576 : Int64).toInt = 1048576 by decide]
  · rw [show (1048576 : Int64).toInt = 1048576 by decide]; omega
  · rw [show (1048576 : Int64).toInt = 1048576 by decide]; omega
theorem dn_le_up (x : Int) {y : Int} (hy : y ≠ 0) : dn x y ≤ up x y := by
  obtain ⟨e, hm, -, -⟩ := q_tdm x hy
  rw [dn_of hy e hm, up_of hy e hm]
  split <;> (try split) <;> omega
theorem dn_bd (x : Int) {y : Int} (hy : y ≠ 0) : (dn x y).natAbs ≤ x.natAbs + 1 := by
  obtain ⟨e, hm, -, -⟩ := q_tdm x hy
  rw [dn_of hy e hm]
  have h1 : (x.tdiv y).natAbs = x.natAbs / y.natAbs := Int.natAbs_tdiv _ _
  have h2 : x.natAbs / y.natAbs ≤ x.natAbs := Nat.div_le_self _ _
  split <;> (try split) <;> omega
theorem sh_le {x y : Int} (h : x ≤ y) : x / 1048576 ≤ up y 1048576 := by
  rw [up_pos (by omega)]; omega
theorem x_none {f g : Int64} (h : f = 4294967296 ∨ g = 4294967296) : ¬ fX5_isHole f g = 0 := by
  show ¬ (if f = 4294967296 then (1 : Int32) else if g = 4294967296 then 1 else 0) = 0
  rcases h with h | h
  · rw [if_pos h]; decide
  · rw [if_pos h]; split <;> decide
theorem x_some {f g : Int64} (h : ¬ f = 4294967296) (h2 : ¬ g = 4294967296) : fX5_isHole f g = 0 := by
  show (if f = 4294967296 then (1 : Int32) else if g = 4294967296 then 1 else 0) = 0
  rw [if_neg h, if_neg h2]
theorem x_two {f g : Int64} {s t : qSh} (hf : xS f s) (hg : xS g t) {F : Int64 → Int64 → Int64} {S : qSh → qSh → qSh} (h1 : ¬ fX5_isHole f g = 0 → F f g = 4294967296) (h2 : fX5_isHole f g = 0 → ∀ q r, s = some q → t = some r → xS (F f g) (S s t)) (h3 : ∀ u, S none u = none ∧ S u none = none) : xS (F f g) (S s t) := by
  cases s with
  | none => rw [(h3 t).1, h1 (x_none (Or.inl hf))]; rfl
  | some q => cases t with
    | none => rw [(h3 _).2, h1 (x_none (Or.inr hg))]; rfl
    | some r => exact h2 (x_some hf.1 hg.1) q r rfl rfl
theorem s_n {F : Int × Int → Int × Int → qSh} : ∀ u : qSh, (match (none : qSh), u with | some q, some r => F q r | _, _ => none) = none ∧ (match u, (none : qSh) with | some q, some r => F q r | _, _ => none) = none := fun u => by
  cases u <;> exact ⟨rfl, rfl⟩
theorem x_plus {f g : Int64} {s t : qSh} (hf : xS f s) (hg : xS g t) : xS (fX5_plus f g) (sPlus s t) := by
  refine x_two hf hg (fun h => by show fX5_plus_0 f g = _; unfold fX5_plus_0; rw [if_neg h]) (fun h q r e1 e2 => ?_) (fun u => by cases u <;> exact ⟨rfl, rfl⟩)
  subst e1; subst e2
  obtain ⟨-, f1, f2, f3, f4, f5⟩ := hf
  obtain ⟨-, g1, g2, g3, g4, g5⟩ := hg
  show xS (fX5_plus_0 f g) _
  unfold fX5_plus_0 nm
  rw [if_pos h]
  have a1 : (fX5_lowOf f + fX5_lowOf g).toInt = q.1 + r.1 := by rw [qL_add (by omega) (by omega), f1, g1]
  have a2 : (fX5_highOf f + fX5_highOf g).toInt = q.2 + r.2 := by rw [qL_add (by omega) (by omega), f2, g2]
  exact (x_of (by rw [a1, a2]; omega)).eq (by rw [a1, a2]; rfl)
theorem x_minus {f g : Int64} {s t : qSh} (hf : xS f s) (hg : xS g t) : xS (fX5_minus f g) (sMinus s t) := by
  refine x_two hf hg (fun h => by show fX5_minus_0 f g = _; unfold fX5_minus_0; rw [if_neg h]) (fun h q r e1 e2 => ?_) (fun u => by cases u <;> exact ⟨rfl, rfl⟩)
  subst e1; subst e2
  obtain ⟨-, f1, f2, f3, f4, f5⟩ := hf
  obtain ⟨-, g1, g2, g3, g4, g5⟩ := hg
  show xS (fX5_minus_0 f g) _
  unfold fX5_minus_0 nm
  rw [if_pos h]
  have a1 : (fX5_lowOf f - fX5_highOf g).toInt = q.1 - r.2 := by rw [qL_sub (by omega) (by omega), f1, g2]
  have a2 : (fX5_highOf f - fX5_lowOf g).toInt = q.2 - r.1 := by rw [qL_sub (by omega) (by omega), f2, g1]
  exact (x_of (by rw [a1, a2]; omega)).eq (by rw [a1, a2]; rfl)
theorem x_turned {f : Int64} {s : qSh} (hf : xS f s) : xS (fX5_turned f) (sNeg s) := by
  cases s with
  | none =>
    show xS (fX5_turned_0 f) none
    unfold fX5_turned_0
    rw [if_pos (show f = 4294967296 from hf)]
    rfl
  | some q =>
    obtain ⟨f0, f1, f2, f3, f4, f5⟩ := hf
    show xS (fX5_turned_0 f) _
    unfold fX5_turned_0
    rw [if_neg f0]
    have a1 : (-(fX5_highOf f)).toInt = -q.2 := by rw [qL_neg (by omega), f2]
    have a2 : (-(fX5_lowOf f)).toInt = -q.1 := by rw [qL_neg (by omega), f1]
    exact (x_of (by rw [a1, a2]; omega)).eq (by rw [a1, a2]; rfl)
theorem x_times {f g : Int64} {s t : qSh} (hf : xS f s) (hg : xS g t) : xS (fX5_times f g) (sTimes s t) := by
  refine x_two hf hg (fun h => by show fX5_times_0 f g = _; unfold fX5_times_0; rw [if_neg h]) (fun h q r e1 e2 => ?_) (fun u => by cases u <;> exact ⟨rfl, rfl⟩)
  subst e1; subst e2
  obtain ⟨-, f1, f2, f3, f4, f5⟩ := hf
  obtain ⟨-, g1, g2, g3, g4, g5⟩ := hg
  have F1 : -2147483648 ≤ (fX5_lowOf f).toInt ∧ (fX5_lowOf f).toInt ≤ 2147483648 := by omega
  have F2 : -2147483648 ≤ (fX5_highOf f).toInt ∧ (fX5_highOf f).toInt ≤ 2147483648 := by omega
  have G1 : -2147483648 ≤ (fX5_lowOf g).toInt ∧ (fX5_lowOf g).toInt ≤ 2147483648 := by omega
  have G2 : -2147483648 ≤ (fX5_highOf g).toInt ∧ (fX5_highOf g).toInt ≤ 2147483648 := by omega
  have p1 := qL_prod F1 G1
  have p2 := qL_prod F1 G2
  have p3 := qL_prod F2 G1
  have p4 := qL_prod F2 G2
  have b1 := q_prod F1 G1
  have b2 := q_prod F1 G2
  have b3 := q_prod F2 G1
  have b4 := q_prod F2 G2
  rw [f1, g1] at p1 b1
  rw [f1, g2] at p2 b2
  rw [f2, g1] at p3 b3
  rw [f2, g2] at p4 b4
  show xS (fX5_times_0 f g) _
  unfold fX5_times_0 nm
  rw [if_pos h]
  generalize fX5_lowOf f * fX5_lowOf g = P1 at p1 ⊢
  generalize fX5_lowOf f * fX5_highOf g = P2 at p2 ⊢
  generalize fX5_highOf f * fX5_lowOf g = P3 at p3 ⊢
  generalize fX5_highOf f * fX5_highOf g = P4 at p4 ⊢
  dsimp only
  have a1 : (if (if P4 < P3 then P4 else P3) < (if P2 < P1 then P2 else P1) then (if P4 < P3 then P4 else P3) else (if P2 < P1 then P2 else P1)).toInt = min4 (q.1 * r.1) (q.1 * r.2) (q.2 * r.1) (q.2 * r.2) := by
    simp only [x_min, p1, p2, p3, p4, min4]
  have a2 : (if (if P4 < P3 then P3 else P4) < (if P2 < P1 then P1 else P2) then (if P2 < P1 then P1 else P2) else (if P4 < P3 then P3 else P4)).toInt = max4 (q.1 * r.1) (q.1 * r.2) (q.2 * r.1) (q.2 * r.2) := by
    simp only [x_max, p1, p2, p3, p4, max4]
  generalize (if (if P4 < P3 then P4 else P3) < (if P2 < P1 then P2 else P1) then (if P4 < P3 then P4 else P3) else (if P2 < P1 then P2 else P1)) = lo at a1 ⊢
  generalize (if (if P4 < P3 then P3 else P4) < (if P2 < P1 then P1 else P2) then (if P2 < P1 then P1 else P2) else (if P4 < P3 then P3 else P4)) = hi at a2 ⊢
  have c1 : (jshrL lo 20).toInt = min4 (q.1 * r.1) (q.1 * r.2) (q.2 * r.1) (q.2 * r.2) / 1048576 := by rw [qL_sh20, a1]
  have mb : -4611686018427387904 ≤ hi.toInt ∧ hi.toInt ≤ 4611686018427387904 := by rw [a2]; unfold max4; omega
  have n1 : (-hi).toInt = -hi.toInt := qL_neg (by omega)
  have c2 : (-(jshrL (-hi) 20)).toInt = up (max4 (q.1 * r.1) (q.1 * r.2) (q.2 * r.1) (q.2 * r.2)) 1048576 := by
    rw [qL_neg (by rw [qL_sh20, n1]; omega), qL_sh20, n1, a2, up_pos (by omega)]
  refine (x_of ?_).eq ?_
  · rw [c1, c2]
    refine sh_le ?_
    unfold min4 max4
    omega
  · rw [c1, c2]; rfl
theorem m_times {a b c d : Int64} {σ : zSt} (ha : -2147483648 ≤ a.toInt ∧ a.toInt ≤ 2147483647) (hb : -2147483648 ≤ b.toInt ∧ b.toInt ≤ 2147483647) (hc : -2147483648 ≤ c.toInt ∧ c.toInt ≤ 2147483647) (hd : -2147483648 ≤ d.toInt ∧ d.toInt ≤ 2147483647) : ∃ τ, fX9_times a b c d σ = some τ ∧ mS τ (sTimes (some (a.toInt, b.toInt)) (some (c.toInt, d.toInt))) ∧ mEq σ τ := by
  have A : -2147483648 ≤ a.toInt ∧ a.toInt ≤ 2147483648 := by omega
  have B : -2147483648 ≤ b.toInt ∧ b.toInt ≤ 2147483648 := by omega
  have C : -2147483648 ≤ c.toInt ∧ c.toInt ≤ 2147483648 := by omega
  have D : -2147483648 ≤ d.toInt ∧ d.toInt ≤ 2147483648 := by omega
  have p1 := qL_prod A C
  have p2 := qL_prod A D
  have p3 := qL_prod B C
  have p4 := qL_prod B D
  have b1 := q_prod A C
  have b2 := q_prod A D
  have b3 := q_prod B C
  have b4 := q_prod B D
  have l : (fX9_less (fX9_less (a * c) (a * d)) (fX9_less (b * c) (b * d))).toInt = min4 (a.toInt * c.toInt) (a.toInt * d.toInt) (b.toInt * c.toInt) (b.toInt * d.toInt) := by
    simp only [m_less, p1, p2, p3, p4, min4]
  have u : (fX9_more (fX9_more (a * c) (a * d)) (fX9_more (b * c) (b * d))).toInt = max4 (a.toInt * c.toInt) (a.toInt * d.toInt) (b.toInt * c.toInt) (b.toInt * d.toInt) := by
    simp only [m_more, p1, p2, p3, p4, max4]
  have e20 : (1048576 : Int64).toInt = 1048576 := by decide
  obtain ⟨x, hx, ex⟩ := m_down (x := fX9_less (fX9_less (a * c) (a * d)) (fX9_less (b * c) (b * d))) (y := 1048576) (by rw [e20]; omega) (by rw [l]; unfold min4; omega)
  obtain ⟨y, hy, ey⟩ := m_up (x := fX9_more (fX9_more (a * c) (a * d)) (fX9_more (b * c) (b * d))) (y := 1048576) (by rw [e20]; omega) (by rw [u]; unfold max4; omega)
  obtain ⟨τ, h1, h2, h3, -⟩ := m_is x y σ
  refine ⟨τ, ?_, ?_, h3⟩
  · show fX9_times_0 a b c d σ = _
    simp only [fX9_times_0, nm, hx, hy, h1, bd1]
  · rw [ex, ey, l, u, e20, dn_pos (by omega)] at h2
    exact h2
