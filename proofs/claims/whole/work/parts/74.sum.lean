/-! the SUM of a part -/
noncomputable def pS2 (C : qCfg) (k : Nat) (a b : Int) (q r : Int × Int) : Int × Int :=
  if 2147483647 < up ((r.2 - r.1) * (b - a)) 1048576 then (q.1 * (b - a) / 1048576, up (q.2 * (b - a)) 1048576)
  else match qV C k ((a + b) / 2) (-((-(a + b)) / 2)) with
    | none => (q.1 * (b - a) / 1048576, up (q.2 * (b - a)) 1048576)
    | some t => (t.1 * (b - a) / 1048576 - up (up ((r.2 - r.1) * (b - a)) 1048576 * (b - a)) 8388608, up (t.2 * (b - a)) 1048576 + up (up ((r.2 - r.1) * (b - a)) 1048576 * (b - a)) 8388608)
noncomputable def pSum (C : qCfg) (k : Nat) (a b : Int) : Option (Int × Int) := match qV C k a b with
  | none => none
  | some q => match qSl C k a b with
    | none => some (q.1 * (b - a) / 1048576, up (q.2 * (b - a)) 1048576)
    | some r => some (pS2 C k a b q r)
theorem qV_ok {C : qCfg} (hw : qWF C) {k : Nat} (hk : k < C.N) {a b : Int} (h1 : -2147483648 ≤ a) (h2 : a ≤ b) (h3 : b ≤ 2147483647) : qOk (qV C k a b) := by
  have l := (hw.2 k hk).1
  exact vA_ok hw (qOk.some h1 h2 h3) _ k (C.len k - 1) (by unfold qLast; omega) hk (by omega)
theorem qSl_ok {C : qCfg} (hw : qWF C) {k : Nat} (hk : k < C.N) {a b : Int} (h1 : -2147483648 ≤ a) (h2 : a ≤ b) (h3 : b ≤ 2147483647) : qOk (qSl C k a b) := by
  have l := (hw.2 k hk).1
  exact lA_ok hw (qOk.some h1 h2 h3) _ k (C.len k - 1) (by unfold qLast; omega) hk (by omega)
/-- a product of a RAW number and a width -/
theorem w_prod {x w : Int} (hx : -4294967296 ≤ x ∧ x ≤ 4294967296) (hw : 0 ≤ w ∧ w ≤ 1073741824) : -4611686018427387904 ≤ x * w ∧ x * w ≤ 4611686018427387904 := by
  have h1 : x * w ≤ 4294967296 * w := Int.mul_le_mul_of_nonneg_right hx.2 hw.1
  have h2 : -4294967296 * w ≤ x * w := Int.mul_le_mul_of_nonneg_right hx.1 hw.1
  omega
theorem e8388L : (8388608 : Int64).toInt = 8388608 := by decide
theorem x_high {v10 v12 f : Int64} {w u x : Int} (hw : v10.toInt = w) (hu : v12.toInt = u) (hf : f.toInt = x) (bx : -2147483648 ≤ x ∧ x ≤ 2147483647) (bw : 0 ≤ w ∧ w ≤ 1073741824) (bu : 0 ≤ u ∧ u ≤ 1099511627776) : (v12 - jshrL ((-f) * v10) 20).toInt = up (x * w) 1048576 + u := by
  have p := w_prod (x := x) (w := w) (by omega) bw
  have n : (-f).toInt = -x := by rw [qL_neg (by omega), hf]
  have e : (-x) * w = -(x * w) := Int.neg_mul _ _
  have m : ((-f) * v10).toInt = -(x * w) := by rw [qL_mul (by rw [n, hw, e]; omega) (by rw [n, hw, e]; omega), n, hw, e]
  rw [qL_sub (by rw [qL_sh20, m, hu]; omega) (by rw [qL_sh20, m, hu]; omega), qL_sh20, m, hu, up_pos (by omega)]
  omega
theorem x_lowp {v10 v12 f : Int64} {w u x : Int} (hw : v10.toInt = w) (hu : v12.toInt = u) (hf : f.toInt = x) (bx : -2147483648 ≤ x ∧ x ≤ 2147483647) (bw : 0 ≤ w ∧ w ≤ 1073741824) (bu : 0 ≤ u ∧ u ≤ 1099511627776) : (jshrL (f * v10) 20 - v12).toInt = x * w / 1048576 - u := by
  have p := w_prod (x := x) (w := w) (by omega) bw
  have m : (f * v10).toInt = x * w := by rw [qL_mul (by rw [hf, hw]; omega) (by rw [hf, hw]; omega), hf, hw]
  rw [qL_sub (by rw [qL_sh20, m, hu]; omega) (by rw [qL_sh20, m, hu]; omega), qL_sh20, m, hu]
theorem x_keepH {j : Nat} (hj : j < 201) (a b : Int32) (x y : Int64) (σ : zSt) : fX2_keep (Int32.ofNat j) a b x y σ = some (sl (sl (si (si σ 13 j a) 14 j b) 15 j x) 16 j y) := by
  show fX2_keep_0 _ a b x y σ = _
  unfold fX2_keep_0
  have e := iNt (n := j) (by omega)
  have v := vin (N := 201) e hj
  rw [if_neg (show ¬ Int32.ofNat j < 0 by rw [qI_neg0, e]; omega), if_neg (show ¬ (201 : Int32) ≤ Int32.ofNat j by rw [qI_le, e, show (201 : Int32).toInt = 201 by decide]; omega), zg_pos v, zg_pos v, zg_pos v, zg_pos v, iN_cl (by omega)]
theorem up_b {x y : Int} (hy : 0 < y) : up x y * y < x + y ∧ x ≤ up x y * y := by
  rw [up_pos hy]
  have h1 := Int.ediv_mul_le (-x) (show y ≠ 0 by omega)
  have h2 := Int.lt_ediv_add_one_mul_self (-x) hy
  rw [Int.neg_mul]
  rw [Int.add_mul, Int.one_mul] at h2
  omega
theorem up0 {x y : Int} (hy : 0 < y) (hx : 0 ≤ x) : 0 ≤ up x y := by
  rw [up_pos hy]
  have : (-x) / y ≤ 0 := by
    have := (Int.ediv_lt_iff_lt_mul (a := -x) (b := 1) hy).mpr (by omega)
    omega
  omega
theorem x_sumPart {C : qCfg} {M : Nat → Nat} (hw : qWF C) (hm : xNd C M) {σ : zSt} (h0 : xCur C M σ) {k : Nat} (hk : k < C.N) {a b : Int32} (hab : a.toInt ≤ b.toInt) (hwide : b.toInt - a.toInt ≤ 1073741824) {j : Nat} (hj : j < 201) : ∃ σ1, xFr σ σ1 ∧ ((pSum C k a.toInt b.toInt = none ∧ fX2_sumPart (Int32.ofNat k) (Int32.ofNat j) a b σ = some (0, σ1)) ∨ ∃ (x y : Int64), pSum C k a.toInt b.toInt = some (x.toInt, y.toInt) ∧ fX2_sumPart (Int32.ofNat k) (Int32.ofNat j) a b σ = some (1, sl (sl (si (si σ1 13 j a) 14 j b) 15 j x) 16 j y)) := by
  have ra := qI_rng a
  have rb := qI_rng b
  obtain ⟨f, σ1, a1, a2, a3, a4⟩ := x_m hw hm h0 hk 1 hab
  have a5 := a4 iNe1
  have ok1 := qV_ok hw hk (a := a.toInt) (b := b.toInt) (by omega) hab (by omega)
  have ok2 := qSl_ok hw hk (a := a.toInt) (b := b.toInt) (by omega) hab (by omega)
  have ew : (b.toInt64 - a.toInt64).toInt = b.toInt - a.toInt := by rw [qL_sub (by rw [qL_ofI, qL_ofI]; omega) (by rw [qL_ofI, qL_ofI]; omega), qL_ofI, qL_ofI]
  have bw : 0 ≤ b.toInt - a.toInt ∧ b.toInt - a.toInt ≤ 1073741824 := by omega
  have e0 : (fX2_sumPart (Int32.ofNat k) (Int32.ofNat j) a b σ) = fX2_sumPart_0 (Int32.ofNat k) (Int32.ofNat j) a b σ := rfl
  rw [e0]
  unfold fX2_sumPart_0
  rw [a1, bd2_some, nm_eq]
  have plain : ∀ (g : Int64) (z : Int × Int) (u : Int64) (ρ : zSt), xS g (some z) → 0 ≤ u.toInt ∧ u.toInt ≤ 1099511627776 → ∃ x y : Int64, fX2_sumPart_151 (Int32.ofNat j) a b g (b.toInt64 - a.toInt64) u ρ = some (1, sl (sl (si (si ρ 13 j a) 14 j b) 15 j x) 16 j y) ∧ x.toInt = z.1 * (b.toInt - a.toInt) / 1048576 - u.toInt ∧ y.toInt = up (z.2 * (b.toInt - a.toInt)) 1048576 + u.toInt := by
    intro g z u ρ hg hu
    obtain ⟨-, g1, g2, g3, g4, g5⟩ := hg
    unfold fX2_sumPart_151
    rw [nm_eq, nm_eq, x_keepH hj, bd1_some]
    exact ⟨_, _, rfl, x_lowp ew rfl g1 (by omega) bw hu, x_high ew rfl g2 (by omega) bw hu⟩
  unfold pSum
  generalize hs : qV C k a.toInt b.toInt = s at a3 ok1 ⊢
  cases s with
  | none =>
    rw [if_pos (show f = 4294967296 from a3)]
    exact ⟨σ1, a2, Or.inl ⟨rfl, rfl⟩⟩
  | some q =>
    rw [if_neg a3.1, nm_eq]
    have rq := ok1.rng
    generalize hl : qSl C k a.toInt b.toInt = l at a5 ok2 ⊢
    cases l with
    | none =>
      rw [if_pos (show gl σ1 3 9 = 4294967296 from a5)]
      obtain ⟨x, y, p1, p2, p3⟩ := plain f q 0 σ1 a3 (by rw [q0L]; omega)
      rw [q0L] at p2 p3
      exact ⟨σ1, a2, Or.inr ⟨x, y, by rw [p2, p3, Int.sub_zero, Int.add_zero], p1⟩⟩
    | some r =>
      have rr := ok2.rng
      obtain ⟨l0, l1, l2, -⟩ := a5
      rw [if_neg l0, nm_eq, nm_eq, nm_eq]
      show ∃ σ1', xFr σ σ1' ∧ ((some (pS2 C k a.toInt b.toInt q r) = none ∧ _) ∨ ∃ x y : Int64, some (pS2 C k a.toInt b.toInt q r) = some (x.toInt, y.toInt) ∧ _)
      -- the spread
      have d1 : (fX5_lowOf (gl σ1 3 9) - fX5_highOf (gl σ1 3 9)).toInt = r.1 - r.2 := by rw [qL_sub (by omega) (by omega), l1, l2]
      have pw := w_prod (x := r.1 - r.2) (w := b.toInt - a.toInt) (by omega) bw
      have d2 : ((fX5_lowOf (gl σ1 3 9) - fX5_highOf (gl σ1 3 9)) * (b.toInt64 - a.toInt64)).toInt = (r.1 - r.2) * (b.toInt - a.toInt) := by rw [qL_mul (by rw [d1, ew]; omega) (by rw [d1, ew]; omega), d1, ew]
      have d3 : (r.1 - r.2) * (b.toInt - a.toInt) = -((r.2 - r.1) * (b.toInt - a.toInt)) := by rw [← Int.neg_mul, Int.neg_sub]
      obtain ⟨e, he⟩ : ∃ e, e = up ((r.2 - r.1) * (b.toInt - a.toInt)) 1048576 := ⟨_, rfl⟩
      obtain ⟨sp, hsp⟩ : ∃ sp, sp = -(jshrL ((fX5_lowOf (gl σ1 3 9) - fX5_highOf (gl σ1 3 9)) * (b.toInt64 - a.toInt64)) 20) := ⟨_, rfl⟩
      rw [← hsp]
      have esp : sp.toInt = e := by
        rw [hsp, qL_neg (by rw [qL_sh20, d2]; omega), qL_sh20, d2, he, up_pos (by omega), d3]
      have e0 : 0 ≤ e := by
        rw [he]
        exact up0 (by omega) (Int.mul_nonneg (by omega) (by omega))
      have mx := x_mid a b
      obtain ⟨mi, hmi⟩ : ∃ mi : Int32, mi = fX8_middleOf a b := ⟨_, rfl⟩
      rw [← hmi] at mx ⊢
      have eM : (2147483647 : Int64).toInt = 2147483647 := by decide
      have key : ∀ mu : Int32, mu.toInt = -((-(a.toInt + b.toInt)) / 2) → ∃ σ1', xFr σ σ1' ∧ ((some (pS2 C k a.toInt b.toInt q r) = none ∧ fX2_sumPart_97 (Int32.ofNat k) (Int32.ofNat j) a b f (b.toInt64 - a.toInt64) 0 sp mi mu σ1 = some (0, σ1')) ∨ ∃ x y : Int64, some (pS2 C k a.toInt b.toInt q r) = some (x.toInt, y.toInt) ∧ fX2_sumPart_97 (Int32.ofNat k) (Int32.ofNat j) a b f (b.toInt64 - a.toInt64) 0 sp mi mu σ1 = some (1, sl (sl (si (si σ1' 13 j a) 14 j b) 15 j x) 16 j y)) := by
        intro mu hmu
        unfold fX2_sumPart_97 pS2
        rw [← he]
        by_cases big : 2147483647 < e
        · rw [if_pos big, if_neg (show ¬ sp ≤ 2147483647 by rw [qL_le, esp, eM]; omega)]
          unfold fX2_sumPart_124
          rw [if_pos (show (4294967296 : Int64) = 4294967296 from rfl)]
          obtain ⟨x, y, p1, p2, p3⟩ := plain f q 0 σ1 a3 (by rw [q0L]; omega)
          rw [q0L] at p2 p3
          exact ⟨σ1, a2, Or.inr ⟨x, y, by rw [p2, p3, Int.sub_zero, Int.add_zero], p1⟩⟩
        rw [if_neg big, if_pos (show sp ≤ 2147483647 by rw [qL_le, esp, eM]; omega)]
        obtain ⟨g, σ2, b1, b2, b3, -⟩ := x_m hw hm (xCur_fr a2 h0) hk (a := mi) (b := mu) 0 (by rw [mx, hmu]; omega)
        have ok3 := qV_ok hw hk (a := mi.toInt) (b := mu.toInt) (by rw [mx]; omega) (by rw [mx, hmu]; omega) (by rw [hmu]; omega)
        rw [b1, bd2_some]
        rw [mx, hmu] at b3 ok3
        unfold fX2_sumPart_124
        generalize qV C k ((a.toInt + b.toInt) / 2) (-((-(a.toInt + b.toInt)) / 2)) = t at b3 ok3 ⊢
        cases t with
        | none =>
          rw [if_pos (show g = 4294967296 from b3)]
          obtain ⟨x, y, p1, p2, p3⟩ := plain f q 0 σ2 a3 (by rw [q0L]; omega)
          rw [q0L] at p2 p3
          exact ⟨σ2, a2.tr b2, Or.inr ⟨x, y, by show some (q.1 * (b.toInt - a.toInt) / 1048576, up (q.2 * (b.toInt - a.toInt)) 1048576) = _; rw [p2, p3, Int.sub_zero, Int.add_zero], p1⟩⟩
        | some z =>
          rw [if_neg b3.1, nm_eq]
          have pe := w_prod (x := e) (w := b.toInt - a.toInt) (by omega) bw
          have nn : (-sp).toInt = -e := by rw [qL_neg (by omega), esp]
          have n2 : ((-sp) * (b.toInt64 - a.toInt64)).toInt = -(e * (b.toInt - a.toInt)) := by
            have q1 : (-e) * (b.toInt - a.toInt) = -(e * (b.toInt - a.toInt)) := Int.neg_mul _ _
            rw [qL_mul (by rw [nn, ew, q1]; omega) (by rw [nn, ew, q1]; omega), nn, ew, q1]
          have n3 : (-(jshrL ((-sp) * (b.toInt64 - a.toInt64)) 23)).toInt = up (e * (b.toInt - a.toInt)) 8388608 := by
            rw [qL_neg (by rw [qL_sh23, n2]; omega), qL_sh23, n2, up_pos (by omega)]
          have n4 : 0 ≤ e * (b.toInt - a.toInt) := Int.mul_nonneg e0 bw.1
          have n5 := up_b (x := e * (b.toInt - a.toInt)) (y := 8388608) (by omega)
          obtain ⟨x, y, p1, p2, p3⟩ := plain g z (-(jshrL ((-sp) * (b.toInt64 - a.toInt64)) 23)) σ2 b3 (by rw [n3]; omega)
          rw [n3] at p2 p3
          exact ⟨σ2, a2.tr b2, Or.inr ⟨x, y, by show some (z.1 * (b.toInt - a.toInt) / 1048576 - up (e * (b.toInt - a.toInt)) 8388608, up (z.2 * (b.toInt - a.toInt)) 1048576 + up (e * (b.toInt - a.toInt)) 8388608) = _; rw [p2, p3], p1⟩⟩
      have odd : ((b.toInt64 - a.toInt64) &&& 1) = 0 ↔ (b.toInt - a.toInt) % 2 = 0 := by
        have h1 : ((b.toInt64 - a.toInt64) &&& 1).toBitVec.toNat = (b.toInt64 - a.toInt64).toBitVec.toNat % 2 := by
          rw [Int64.toBitVec_and, BitVec.toNat_and, show (1 : Int64).toBitVec.toNat = 2 ^ 1 - 1 by decide, Nat.and_two_pow_sub_one_eq_mod]
        have h2 := qL_nat ((b.toInt64 - a.toInt64) &&& 1)
        have h3 := qL_nat (b.toInt64 - a.toInt64)
        rw [h1] at h2
        rw [ew] at h3
        rw [qL_eq, q0L]
        split at h2 <;> split at h3 <;> omega
      by_cases od : (b.toInt - a.toInt) % 2 = 0
      · rw [if_pos (odd.mpr od)]
        exact key mi (by rw [mx]; omega)
      · rw [if_neg (fun h => od (odd.mp h))]
        exact key (mi + 1) (by rw [qI_add (by rw [q1I, mx]; omega) (by rw [q1I, mx]; omega), q1I, mx]; omega)
