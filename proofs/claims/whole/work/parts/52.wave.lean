/-! sin, cos of SHUTS -/
noncomputable def sWave (co : Bool) : qSh → qSh
  | none => none
  | some q => if 6815744 < (q.1 + q.2) / 2 ∨ (q.1 + q.2) / 2 < -6815744 ∨ 1048576 < q.2 - (q.1 + q.2) / 2 then some (-1048576, 1048576) else
    sOf (max (wLo co ((q.1 + q.2) / 2) - (q.2 - (q.1 + q.2) / 2)) (-1048576)) (min (wHi co ((q.1 + q.2) / 2) + (q.2 - (q.1 + q.2) / 2)) 1048576)
theorem wi_D : ∀ k : Nat, k < 20 → Int32.toInt64 (((2 : Int32) * Int32.ofNat k) * (((2 : Int32) * Int32.ofNat k) + (1 : Int32))) = Int64.ofNat (wD false k) ∧ (1 ≤ k → Int32.toInt64 (((((2 : Int32) * Int32.ofNat k) - (1 : Int32)) * (2 : Int32)) * Int32.ofNat k) = Int64.ofNat (wD true k)) ∧ wD false k < 10000 ∧ wD true k < 10000 ∧ (k ≤ 19 ↔ ¬ (20 : Int32) ≤ Int32.ofNat k) ∧ ((Int32.ofNat k &&& 1) = 0 ↔ k % 2 = 0) ∧ Int32.ofNat k + 1 = Int32.ofNat (k + 1) := by decide +kernel
theorem x_up24 {z : Int64} {n : Nat} (hz : z.toInt = (n : Nat)) (h : n < 4611686018427387904) : (jshrL (z + 16777216 - 1) 24).toInt = ((eDiv true n 16777216 : Nat) : Int) := by
  have a1 := l_addN (y := 16777216) (m := 16777216) hz (by decide) (by omega)
  rw [qL_sh24, qL_sub (by rw [a1, q1L]; omega) (by rw [a1, q1L]; omega), a1, q1L, eDiv_t]
  omega
theorem x_dn24 {z : Int64} {n : Nat} (hz : z.toInt = (n : Nat)) : (jshrL z 24).toInt = ((eDiv false n 16777216 : Nat) : Int) := by
  rw [qL_sh24, hz, eDiv_f]
  omega
theorem lNt' {n : Nat} (h : n < 9223372036854775808) : (Int64.ofNat n).toInt = (n : Int) := lNt (by omega)
noncomputable def xWx (v2 : Int32) (v3 v5 v17 v19 : Int64) : Option Int64 :=
      (if v2 = 0 then 
        (if (0 : Int64) ≤ v3 then fX4_wave_283 v5 v17 v19
        else nm (jshrL (-v19) (4 : Int32)) fun x301_4 => fX4_wave_316 v5 x301_4 v17)
      else fX4_wave_283 v5 v17 v19)
theorem x_wL {co : Bool} {v2 : Int32} (hco : co = true ↔ ¬ v2 = 0) {v3 v5 sd su : Int64} {u : Nat} (hu : u ≤ 109051904) (hsd : sd.toInt = (wV false u : Nat)) (hsu : su.toInt = (wV true u : Nat)) : ∀ (j k : Nat) (d p s h : Int64) (F : Nat), j < F → k + j = 19 → d.toInt = (wT co false u k : Nat) → p.toInt = (wT co true u k : Nat) → s.toInt = wS co false u k → h.toInt = wS co true u k → ∃ s' h' : Int64, s'.toInt = wS co false u 19 ∧ h'.toInt = wS co true u 19 ∧ fX4_wave_L136 F v2 v3 v5 sd su d p s h (Int32.ofNat (k + 1)) = xWx v2 v3 v5 s' h' := by
  intro j
  induction j with
  | zero =>
    intro k d p s h F hF hk hd hp hs hh
    obtain ⟨F, rfl⟩ : ∃ G, F = G + 1 := ⟨F - 1, by omega⟩
    obtain rfl : k = 19 := by omega
    refine ⟨s, h, hs, hh, ?_⟩
    show fX4_wave_136 _ v2 v3 v5 sd su d p s h (Int32.ofNat (19 + 1)) = _
    unfold fX4_wave_136
    rw [if_pos (by decide)]
    rfl
  | succ j ih =>
    intro k d p s h F hF hk hd hp hs hh
    obtain ⟨F, rfl⟩ : ∃ G, F = G + 1 := ⟨F - 1, by omega⟩
    obtain ⟨i1, i2, i3, i4, i5, i6, i7⟩ := wi_D (k + 1) (by omega)
    have b1 := wT_bd (co := co) (ups := false) hu (k := k) (by omega)
    have b2 := wT_bd (co := co) (ups := true) hu (k := k) (by omega)
    have b3 := wV_bd (ups := false) hu
    have b4 := wV_bd (ups := true) hu
    have n1 := wT_bd (co := co) (ups := false) hu (k := k + 1) (by omega)
    have n2 := wT_bd (co := co) (ups := true) hu (k := k + 1) (by omega)
    have g1 := wS_bd (co := co) (hi := false) hu k (by omega)
    have g2 := wS_bd (co := co) (hi := true) hu k (by omega)
    have p1 : wT co false u k * wV false u ≤ 2000000000 * 708837377 := Nat.mul_le_mul b1 b3
    have p2 : wT co true u k * wV true u ≤ 2000000000 * 708837377 := Nat.mul_le_mul b2 b4
    have kk : 2000000000 * (k + 1) + 1 ≤ 100000000000 := by omega
    have hD : ∃ t0 : Int64, t0.toInt = ((wD co (k + 1) : Nat) : Int) ∧ 1 ≤ wD co (k + 1) ∧ wD co (k + 1) < 10000 ∧ fX4_wave_136 (fX4_wave_L136 F) v2 v3 v5 sd su d p s h (Int32.ofNat (k + 1)) = fX4_wave_174 (fX4_wave_L136 F) v2 v3 v5 sd su d p s h (Int32.ofNat (k + 1)) t0 := by
      unfold fX4_wave_136
      rw [if_neg (i5.mp (by omega))]
      cases co with
      | false =>
        have hv : v2 = 0 := Classical.byContradiction fun q => by have := hco.mpr q; cases this
        refine ⟨Int64.ofNat (wD false (k + 1)), lNt' (by omega), wD_pos _ _, i3, ?_⟩
        rw [if_pos hv, i1]
        rfl
      | true =>
        refine ⟨Int64.ofNat (wD true (k + 1)), lNt' (by omega), wD_pos _ _, i4, ?_⟩
        rw [if_neg (hco.mp rfl), i2 (by omega)]
        rfl
    obtain ⟨t0, t1, t2, t3, t4⟩ := hD
    have z0 : ¬ t0 = 0 := fun q => by rw [q, q0L] at t1; omega
    have eD : (jshrL (d * sd) 24 / t0).toInt = ((wT co false u (k + 1) : Nat) : Int) := by
      rw [wT_succ, eDiv_f _ (wD co (k + 1))]
      exact l_divN (x_dn24 (l_mulN hd hsd (by omega))) t1
    have eU1 : (jshrL (p * su + 16777216 - 1) 24).toInt = ((eDiv true (wT co true u k * wV true u) 16777216 : Nat) : Int) := x_up24 (l_mulN hp hsu (by omega)) (by omega)
    have bU : eDiv true (wT co true u k * wV true u) 16777216 ≤ 84600000000 := eDiv_le (by omega) (by omega)
    have eU := x_by (ups := true) eU1 t1 (by omega) (by omega)
    rw [if_pos rfl, ← wT_succ] at eU
    show ∃ s' h' : Int64, _ ∧ _ ∧ fX4_wave_136 (fX4_wave_L136 F) v2 v3 v5 sd su d p s h (Int32.ofNat (k + 1)) = _
    rw [t4]
    unfold fX4_wave_174
    rw [zg_pos z0]
    simp only [nm_eq, zg_pos z0]
    generalize jshrL (d * sd) 24 / t0 = d' at *
    generalize (jshrL (p * su + 16777216 - 1) 24 + t0 - 1) / t0 = p' at *
    by_cases he : (k + 1) % 2 = 0
    · rw [if_pos (i6.mpr he)]
      have s1 : (s + d').toInt = wS co false u (k + 1) := by
        rw [qL_add (by rw [hs, eD]; omega) (by rw [hs, eD]; omega), hs, eD, wS_succ, if_pos he]
      have h1 : (h + p').toInt = wS co true u (k + 1) := by
        rw [qL_add (by rw [hh, eU]; omega) (by rw [hh, eU]; omega), hh, eU, wS_succ, if_pos he]
      obtain ⟨s', h', r1, r2, r3⟩ := ih (k + 1) d' p' (s + d') (h + p') F (by omega) (by omega) eD eU s1 h1
      refine ⟨s', h', r1, r2, ?_⟩
      unfold fX4_wave_242
      simp only [nm_eq]
      rw [if_neg (show ¬ (1 : Int32) = 0 by decide), i7]
      exact r3
    · rw [if_neg (fun q => he (i6.mp q))]
      have np : (-p').toInt = -((wT co true u (k + 1) : Nat) : Int) := by rw [qL_neg (by rw [eU]; omega), eU]
      have nd : (-d').toInt = -((wT co false u (k + 1) : Nat) : Int) := by rw [qL_neg (by rw [eD]; omega), eD]
      have s1 : (s + -p').toInt = wS co false u (k + 1) := by
        rw [qL_add (by rw [hs, np]; omega) (by rw [hs, np]; omega), hs, np, wS_succ, if_neg he, Bool.not_false]
      have h1 : (h + -d').toInt = wS co true u (k + 1) := by
        rw [qL_add (by rw [hh, nd]; omega) (by rw [hh, nd]; omega), hh, nd, wS_succ, if_neg he, Bool.not_true]
      obtain ⟨s', h', r1, r2, r3⟩ := ih (k + 1) d' p' (s + -p') (h + -d') F (by omega) (by omega) eD eU s1 h1
      refine ⟨s', h', r1, r2, ?_⟩
      unfold fX4_wave_242
      simp only [nm_eq]
      rw [if_pos trivial, i7]
      exact r3
theorem x_mabs {m : Int64} (h : -6815744 ≤ m.toInt ∧ m.toInt ≤ 6815744) : ((if 0 < m then m else -m) * (16 : Int64)).toInt = ((m.toInt.natAbs * 16 : Nat) : Int) := by
  refine l_mulN ?_ (by decide) (by omega)
  by_cases q : (0 : Int64) < m
  · rw [if_pos q]; rw [qL_lt, q0L] at q; omega
  · rw [if_neg q]; rw [qL_lt, q0L] at q; rw [qL_neg (by omega)]; omega
theorem x_316 {r22 t0 v5 : Int64} (b1 : -1000000000000 ≤ r22.toInt ∧ r22.toInt ≤ 1000000000000) (b2 : -1000000000000 ≤ t0.toInt ∧ t0.toInt ≤ 1000000000000) (b3 : 0 ≤ v5.toInt ∧ v5.toInt ≤ 1048576) (h1 : r22.toInt ≤ 1048576) (h2 : -1048576 ≤ -(t0.toInt / 16)) (h3 : r22.toInt ≤ -(t0.toInt / 16)) : ∃ r, fX4_wave_316 v5 r22 t0 = some r ∧ xS r (sOf (max (r22.toInt - v5.toInt) (-1048576)) (min (-(t0.toInt / 16) + v5.toInt) 1048576)) := by
  have n0 : (jshrL t0 4).toInt = t0.toInt / 16 := qL_sh4 t0
  have n1 : (-(jshrL t0 4)).toInt = -(t0.toInt / 16) := by rw [qL_neg (by rw [n0]; omega), n0]
  have n2 : (r22 - v5).toInt = r22.toInt - v5.toInt := qL_sub (by omega) (by omega)
  have n3 : (-(jshrL t0 4) + v5).toInt = -(t0.toInt / 16) + v5.toInt := by rw [qL_add (by rw [n1]; omega) (by rw [n1]; omega), n1]
  have em : (-1048576 : Int64).toInt = -1048576 := by decide
  have ep : (1048576 : Int64).toInt = 1048576 := by decide
  have a1 : (if (-1048576 : Int64) < (r22 - v5) then (r22 - v5) else (-1048576 : Int64)).toInt = max (r22.toInt - v5.toInt) (-1048576) := by rw [x_max, n2, em]
  have a2 : (if (1048576 : Int64) < (-(jshrL t0 4) + v5) then (1048576 : Int64) else (-(jshrL t0 4) + v5)).toInt = min (-(t0.toInt / 16) + v5.toInt) 1048576 := by rw [x_min, n3, ep]
  refine ⟨_, rfl, ?_⟩
  have := x_of (x := (if (-1048576 : Int64) < (r22 - v5) then (r22 - v5) else (-1048576 : Int64))) (y := (if (1048576 : Int64) < (-(jshrL t0 4) + v5) then (1048576 : Int64) else (-(jshrL t0 4) + v5))) (by rw [a1, a2]; omega)
  rw [a1, a2] at this
  exact this
theorem x_wave {co : Bool} {u : Int32} (hco : co = true ↔ ¬ u = 0) {f : Int64} {s : qSh} (hf : xS f s) : ∃ r, fX4_wave f u = some r ∧ xS r (sWave co s) := by
  show ∃ r, fX4_wave_0 f u = some r ∧ _
  unfold fX4_wave_0
  cases s with
  | none => exact ⟨_, if_pos hf, rfl⟩
  | some q =>
    obtain ⟨f0, f1, f2, f3, f4, f5⟩ := hf
    rw [if_neg f0]
    have em : (-1048576 : Int64).toInt = -1048576 := by decide
    have ep : (1048576 : Int64).toInt = 1048576 := by decide
    have eq1 : (6815744 : Int64).toInt = 6815744 := by decide
    have eq2 : (-6815744 : Int64).toInt = -6815744 := by decide
    have far : xS (fX5_of (-1048576 : Int64) (1048576 : Int64)) (some (-1048576, 1048576)) := by
      have := x_of (x := -1048576) (y := 1048576) (by decide)
      rw [em, ep] at this
      exact this
    have a1 : (jshrL ((fX5_lowOf f) + (fX5_highOf f)) (1 : Int32)).toInt = (q.1 + q.2) / 2 := by
      rw [qL_sh1, qL_add (by rw [f1, f2]; omega) (by rw [f1, f2]; omega), f1, f2]
    have a2 : ((fX5_highOf f) - (jshrL ((fX5_lowOf f) + (fX5_highOf f)) (1 : Int32))).toInt = q.2 - (q.1 + q.2) / 2 := by
      rw [qL_sub (by rw [a1, f2]; omega) (by rw [a1, f2]; omega), a1, f2]
    simp only [nm_eq]
    show ∃ r, _ = some r ∧ xS r (if 6815744 < (q.1 + q.2) / 2 ∨ (q.1 + q.2) / 2 < -6815744 ∨ 1048576 < q.2 - (q.1 + q.2) / 2 then some (-1048576, 1048576) else
      sOf (max (wLo co ((q.1 + q.2) / 2) - (q.2 - (q.1 + q.2) / 2)) (-1048576)) (min (wHi co ((q.1 + q.2) / 2) + (q.2 - (q.1 + q.2) / 2)) 1048576))
    generalize hm : jshrL ((fX5_lowOf f) + (fX5_highOf f)) (1 : Int32) = m at *
    generalize hr : (fX5_highOf f) - m = r at *
    have r0 : 0 ≤ q.2 - (q.1 + q.2) / 2 := by omega
    generalize hM : (q.1 + q.2) / 2 = M at *
    generalize hR : q.2 - M = R at *
    by_cases c1 : 6815744 < M
    · rw [if_pos (show (6815744 : Int64) < m by rw [qL_lt, eq1, a1]; exact c1), if_pos (Or.inl c1)]
      exact ⟨_, rfl, far⟩
    rw [if_neg (show ¬ (6815744 : Int64) < m by rw [qL_lt, eq1, a1]; exact c1)]
    by_cases c2 : M < -6815744
    · rw [if_pos (show m < (-6815744 : Int64) by rw [qL_lt, eq2, a1]; exact c2), if_pos (Or.inr (Or.inl c2))]
      exact ⟨_, rfl, far⟩
    rw [if_neg (show ¬ m < (-6815744 : Int64) by rw [qL_lt, eq2, a1]; exact c2)]
    by_cases c3 : 1048576 < R
    · rw [if_neg (show ¬ r ≤ (1048576 : Int64) by rw [qL_le, ep, a2]; omega), if_pos (Or.inr (Or.inr c3))]
      exact ⟨_, rfl, far⟩
    rw [if_pos (show r ≤ (1048576 : Int64) by rw [qL_le, ep, a2]; omega), if_neg (show ¬ (6815744 < M ∨ M < -6815744 ∨ 1048576 < R) by omega)]
    have hU := x_mabs (m := m) (by omega)
    rw [a1] at hU
    have bu : M.natAbs * 16 ≤ 109051904 := by omega
    have bu2 : (M.natAbs * 16) * (M.natAbs * 16) ≤ 109051904 * 109051904 := Nat.mul_le_mul bu bu
    generalize hu : M.natAbs * 16 = U at *
    generalize (if 0 < m then m else -m) * (16 : Int64) = z at *
    have e1 := x_dn24 (l_mulN hU hU (by omega))
    have e2 := x_up24 (l_mulN hU hU (by omega)) (by omega)
    obtain ⟨n, hn⟩ := zFU_ge 50 (by omega)
    have e24 : (16777216 : Int64).toInt = 16777216 := by decide
    have key : ∀ (t s h : Int64), t.toInt = ((wT co true U 0 : Nat) : Int) → s.toInt = t.toInt - 1 → h.toInt = t.toInt + 1 → ∃ s' h' : Int64, s'.toInt = wS co false U 19 ∧ h'.toInt = wS co true U 19 ∧ fX4_wave_L136 zFU u m r (jshrL (z * z) 24) (jshrL (z * z + 16777216 - 1) 24) t t s h 1 = xWx u m r s' h' := by
      intro t s h q1 q2 q3
      have w0 : wT co false U 0 = wT co true U 0 := by rw [wT_zero, wT_zero]
      refine x_wL hco bu e1 e2 19 0 t t s h zFU (by omega) (by omega) (by rw [w0]; exact q1) q1 ?_ ?_
      · rw [wS_zero, q2, q1, w0, if_neg (show ¬ false = true by decide)]; rfl
      · rw [wS_zero, q3, q1, if_pos (show true = true by decide)]
    have fin : ∃ s' h' : Int64, s'.toInt = wS co false U 19 ∧ h'.toInt = wS co true U 19 ∧ (if u = 0 then fX4_wave_L136 zFU u m r (jshrL (z * z) 24) (jshrL (z * z + 16777216 - 1) 24) z z (z - 1) (z + 1) 1 else fX4_wave_L136 zFU u m r (jshrL (z * z) 24) (jshrL (z * z + 16777216 - 1) 24) 16777216 16777216 (16777216 - 1) (16777216 + 1) 1) = xWx u m r s' h' := by
      cases co with
      | false =>
        have hv : u = 0 := Classical.byContradiction fun q => by have := hco.mpr q; cases this
        rw [if_pos hv]
        refine key z (z - 1) (z + 1) ?_ (by rw [qL_sub (by rw [q1L, hU]; omega) (by rw [q1L, hU]; omega), q1L]) (by rw [qL_add (by rw [q1L, hU]; omega) (by rw [q1L, hU]; omega), q1L])
        rw [wT_zero, if_neg (by decide)]; exact hU
      | true =>
        rw [if_neg (hco.mp rfl)]
        refine key 16777216 (16777216 - 1) (16777216 + 1) ?_ (by decide) (by decide)
        rw [wT_zero, if_pos rfl]; decide
    obtain ⟨s', h', g1, g2, g3⟩ := fin
    obtain ⟨w1, w2, w3⟩ := w_fin co (m := M) (by omega) (by omega)
    have d1 := wS_bd (co := co) (hi := false) bu 19 (by omega)
    have d2 := wS_bd (co := co) (hi := true) bu 19 (by omega)
    have k1 : 2000000000 * (19 + 1) + 1 ≤ 1000000000000 := by omega
    unfold wLo at w1 w3 ⊢
    unfold wHi at w2 w3 ⊢
    rw [hu] at w1 w2 w3 ⊢
    rw [g3]
    unfold xWx
    simp only [nm_eq]
    generalize wS co false U 19 = S at *
    generalize wS co true U 19 = H at *
    have nh : (-h').toInt = -H := by rw [qL_neg (by rw [g2]; omega), g2]
    have sh1 : (jshrL s' 4).toInt = S / 16 := by rw [qL_sh4, g1]
    have sh2 : (jshrL (-h') 4).toInt = -H / 16 := by rw [qL_sh4, nh]
    have e283 : fX4_wave_283 r s' h' = fX4_wave_316 r (jshrL s' 4) (-h') := by unfold fX4_wave_283; rw [nm_eq]
    rw [e283]
    have A : ¬ (!co && decide (M < 0)) = true → ∃ r', fX4_wave_316 r (jshrL s' 4) (-h') = some r' ∧ xS r' (sOf (max ((if (!co && decide (M < 0)) = true then -H else S) / 16 - R) (-1048576)) (min (-((if (!co && decide (M < 0)) = true then S else -H) / 16) + R) 1048576)) := by
      intro hc
      simp only [if_neg hc] at w1 w2 w3 ⊢
      have := x_316 (r22 := jshrL s' 4) (t0 := -h') (v5 := r) (by rw [sh1]; omega) (by rw [nh]; omega) (by rw [a2]; omega) (by rw [sh1]; omega) (by rw [nh]; omega) (by rw [sh1, nh]; omega)
      rw [sh1, nh, a2] at this
      exact this
    by_cases hu0 : u = 0
    · rw [if_pos hu0]
      have hcf : co = false := by cases co with
        | false => rfl
        | true => exact absurd hu0 (hco.mp rfl)
      by_cases hm0 : 0 ≤ M
      · rw [if_pos (show (0 : Int64) ≤ m by rw [qL_le, q0L, a1]; exact hm0)]
        exact A (by rw [hcf, decide_eq_false (by omega)]; decide)
      · rw [if_neg (show ¬ (0 : Int64) ≤ m by rw [qL_le, q0L, a1]; exact hm0)]
        have hc : (!co && decide (M < 0)) = true := by rw [hcf, decide_eq_true (by omega)]; rfl
        simp only [if_pos hc] at w1 w2 w3 ⊢
        have := x_316 (r22 := jshrL (-h') 4) (t0 := s') (v5 := r) (by rw [sh2]; omega) (by rw [g1]; omega) (by rw [a2]; omega) (by rw [sh2]; omega) (by rw [g1]; omega) (by rw [sh2, g1]; omega)
        rw [sh2, g1, a2] at this
        exact this
    · rw [if_neg hu0]
      exact A (by rw [hco.mpr hu0]; simp)
