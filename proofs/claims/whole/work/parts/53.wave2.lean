theorem mi_D : ∀ k : Nat, k < 20 → (((2 : Int64) * (Int32.toInt64 (Int32.ofNat k))) * (((2 : Int64) * (Int32.toInt64 (Int32.ofNat k))) + (1 : Int64))) = Int64.ofNat (wD false k) ∧ (1 ≤ k → (((((2 : Int64) * (Int32.toInt64 (Int32.ofNat k))) - (1 : Int64)) * (2 : Int64)) * (Int32.toInt64 (Int32.ofNat k))) = Int64.ofNat (wD true k)) ∧ (jremI (Int32.ofNat k) 2 = 0 ↔ k % 2 = 0) ∧ (1 ≤ k → ¬ Int32.ofNat k ≤ 0) := by decide +kernel
noncomputable def mWx (v5 : Int32) (v6 v8 v20 v22 : Int64) (σ : zSt) : Option zSt :=
      (if v5 = 0 then fX9_wave_287 v8 v20 v22 (0 : Int32) σ
      else 
        (if (0 : Int64) ≤ v6 then fX9_wave_287 v8 v20 v22 (0 : Int32) σ
        else fX9_wave_287 v8 v20 v22 (1 : Int32) σ))
theorem m_cut0 {x y r : Int64} (q : fX9_cut x y 0 = some r) : fX9_down x y = some r := by
  have q2 : fX9_cut_0 x y 0 = some r := q
  unfold fX9_cut_0 at q2
  rw [if_pos rfl] at q2
  obtain ⟨a, q3, q4⟩ := bd1_out q2
  rw [q3]; exact q4
theorem m_cut1 {x y r : Int64} (q : fX9_cut x y 1 = some r) : fX9_up x y = some r := by
  have q2 : fX9_cut_0 x y 1 = some r := q
  unfold fX9_cut_0 at q2
  rw [if_neg (by decide)] at q2
  obtain ⟨a, q3, q4⟩ := bd1_out q2
  rw [q3]; exact q4
theorem m_wL {co : Bool} {v5 : Int32} (hco : co = true ↔ v5 = 0) {v6 v8 sd su : Int64} {u : Nat} (hu : u ≤ 109051904) (hsd : sd.toInt = (wV false u : Nat)) (hsu : su.toInt = (wV true u : Nat)) (σ : zSt) : ∀ (j k : Nat) (d p s h : Int64) (F : Nat), j < F → k + j = 19 → d.toInt = (wT co false u k : Nat) → p.toInt = (wT co true u k : Nat) → s.toInt = wS co false u k → h.toInt = wS co true u k → ∃ s' h' : Int64, s'.toInt = wS co false u 19 ∧ h'.toInt = wS co true u 19 ∧ fX9_wave_L132 F v5 v6 v8 sd su d p s h (Int32.ofNat (k + 1)) σ = mWx v5 v6 v8 s' h' σ := by
  intro j
  induction j with
  | zero =>
    intro k d p s h F hF hk hd hp hs hh
    obtain ⟨F, rfl⟩ : ∃ G, F = G + 1 := ⟨F - 1, by omega⟩
    obtain rfl : k = 19 := by omega
    refine ⟨s, h, hs, hh, ?_⟩
    show fX9_wave_132 _ v5 v6 v8 sd su d p s h (Int32.ofNat (19 + 1)) σ = _
    unfold fX9_wave_132
    rw [if_pos (by decide)]
    rfl
  | succ j ih =>
    intro k d p s h F hF hk hd hp hs hh
    obtain ⟨F, rfl⟩ : ∃ G, F = G + 1 := ⟨F - 1, by omega⟩
    obtain ⟨i1, i2, i3, i4, i5, i6, i7⟩ := wi_D (k + 1) (by omega)
    obtain ⟨m1, m2, m3, m4⟩ := mi_D (k + 1) (by omega)
    have b1 := wT_bd (co := co) (ups := false) hu (k := k) (by omega)
    have b2 := wT_bd (co := co) (ups := true) hu (k := k) (by omega)
    have b3 := wV_bd (ups := false) hu
    have b4 := wV_bd (ups := true) hu
    have n1 := wT_bd (co := co) (ups := false) hu (k := k + 1) (by omega)
    have n2 := wT_bd (co := co) (ups := true) hu (k := k + 1) (by omega)
    have g1 := wS_bd (co := co) (hi := false) hu k (by omega)
    have g2 := wS_bd (co := co) (hi := true) hu k (by omega)
    have p1 : wT co false u k * wV false u ≤ 2000000000 * 708837377 := Nat.mul_le_mul b1 b3
    have p2 : wT co true u k * wV true u ≤ 2000000000 * 708837377 := Nat.mul_le_mul b2 b4
    have kk : 2000000000 * (k + 1) + 1 ≤ 100000000000 := by omega
    have hD : ∃ t0 : Int64, t0.toInt = ((wD co (k + 1) : Nat) : Int) ∧ 1 ≤ wD co (k + 1) ∧ wD co (k + 1) < 10000 ∧ fX9_wave_132 (fX9_wave_L132 F) v5 v6 v8 sd su d p s h (Int32.ofNat (k + 1)) σ = fX9_wave_186 (fX9_wave_L132 F) v5 v6 v8 sd su d p s h (Int32.ofNat (k + 1)) t0 σ := by
      unfold fX9_wave_132
      rw [if_neg (i5.mp (by omega)), if_neg (m4 (by omega))]
      cases co with
      | false =>
        have hv : ¬ v5 = 0 := fun q => by have := hco.mpr q; cases this
        refine ⟨Int64.ofNat (wD false (k + 1)), lNt' (by omega), wD_pos _ _, i3, ?_⟩
        rw [if_neg hv, m1, nm_eq]
      | true =>
        refine ⟨Int64.ofNat (wD true (k + 1)), lNt' (by omega), wD_pos _ _, i4, ?_⟩
        rw [if_pos (hco.mp rfl), m2 (by omega), nm_eq]
    obtain ⟨t0, t1, t2, t3, t4⟩ := hD
    have e24 : (16777216 : Int64).toInt = ((16777216 : Nat) : Int) := by decide
    obtain ⟨d1, c1, c2⟩ := m_cut hu0 (l_mulN hd hsd (by omega)) e24 (by omega) (by omega)
    have bD : eDiv false (wT co false u k * wV false u) 16777216 ≤ 84600000000 := eDiv_le (by omega) (by omega)
    obtain ⟨d', c3, eD⟩ := m_cut hu0 c2 t1 (by omega) (by omega)
    rw [← wT_succ] at eD
    obtain ⟨p1', c5, c6⟩ := m_cut hu1 (l_mulN hp hsu (by omega)) e24 (by omega) (by omega)
    have bU : eDiv true (wT co true u k * wV true u) 16777216 ≤ 84600000000 := eDiv_le (by omega) (by omega)
    obtain ⟨p', c7, eU⟩ := m_cut hu1 c6 t1 (by omega) (by omega)
    rw [← wT_succ] at eU
    show ∃ s' h' : Int64, _ ∧ _ ∧ fX9_wave_132 (fX9_wave_L132 F) v5 v6 v8 sd su d p s h (Int32.ofNat (k + 1)) σ = _
    rw [t4]
    unfold fX9_wave_186
    rw [m_cut0 c1, bd1_some, m_cut0 c3, bd1_some, m_cut1 c5, bd1_some, m_cut1 c7, bd1_some]
    by_cases he : (k + 1) % 2 = 0
    · rw [if_pos (m3.mpr he)]
      have s1 : (s + d').toInt = wS co false u (k + 1) := by
        rw [qL_add (by rw [hs, eD]; omega) (by rw [hs, eD]; omega), hs, eD, wS_succ, if_pos he]
      have h1 : (h + p').toInt = wS co true u (k + 1) := by
        rw [qL_add (by rw [hh, eU]; omega) (by rw [hh, eU]; omega), hh, eU, wS_succ, if_pos he]
      obtain ⟨s', h', r1, r2, r3⟩ := ih (k + 1) d' p' (s + d') (h + p') F (by omega) (by omega) eD eU s1 h1
      refine ⟨s', h', r1, r2, ?_⟩
      unfold fX9_wave_241
      rw [nm_eq, if_pos (m3.mpr he)]
      simp only [nm_eq]
      rw [i7]
      exact r3
    · rw [if_neg (fun q => he (m3.mp q))]
      have np : (-p').toInt = -((wT co true u (k + 1) : Nat) : Int) := by rw [qL_neg (by rw [eU]; omega), eU]
      have nd : (-d').toInt = -((wT co false u (k + 1) : Nat) : Int) := by rw [qL_neg (by rw [eD]; omega), eD]
      have s1 : (s + -p').toInt = wS co false u (k + 1) := by
        rw [qL_add (by rw [hs, np]; omega) (by rw [hs, np]; omega), hs, np, wS_succ, if_neg he, Bool.not_false]
      have h1 : (h + -d').toInt = wS co true u (k + 1) := by
        rw [qL_add (by rw [hh, nd]; omega) (by rw [hh, nd]; omega), hh, nd, wS_succ, if_neg he, Bool.not_true]
      obtain ⟨s', h', r1, r2, r3⟩ := ih (k + 1) d' p' (s + -p') (h + -d') F (by omega) (by omega) eD eU s1 h1
      refine ⟨s', h', r1, r2, ?_⟩
      unfold fX9_wave_241
      rw [nm_eq, if_neg (fun q => he (m3.mp q))]
      simp only [nm_eq]
      rw [i7]
      exact r3
theorem m_326 {r25 t0 v8 : Int64} {z w R : Int} (hz : r25.toInt = z) (ht : t0.toInt = w) (hR : v8.toInt = R) (b1 : -1000000000000 ≤ z ∧ z ≤ 1000000000000) (b2 : -1000000000000 ≤ w ∧ w ≤ 1000000000000) (b3 : 0 ≤ R ∧ R ≤ 1048576) (h1 : z ≤ 1048576) (h2 : -1048576 ≤ -((-w) / 16)) (σ : zSt) : ∃ τ, fX9_wave_326 v8 r25 t0 σ = some τ ∧ mS τ (sOf (max z (-1048576)) (min (-((-w) / 16) + R) 1048576)) ∧ mEq σ τ := by
  obtain ⟨r, c1, c2⟩ := m_up (x := t0) (y := 16) (by decide) (by omega)
  have e16 : (16 : Int64).toInt = 16 := by decide
  rw [e16, up_pos (by omega), ht] at c2
  unfold fX9_wave_326
  rw [c1, bd1_some, nm_eq]
  have a1 : (r + v8).toInt = -((-w) / 16) + R := by rw [qL_add (by rw [c2, hR]; omega) (by rw [c2, hR]; omega), c2, hR]
  obtain ⟨τ, q1, q2, q3, -⟩ := m_is (fX9_more (-1048576 : Int64) (fX9_less (1048576 : Int64) r25)) (fX9_less (1048576 : Int64) (fX9_more (-1048576 : Int64) (r + v8))) σ
  have em : (-1048576 : Int64).toInt = -1048576 := by decide
  have ep : (1048576 : Int64).toInt = 1048576 := by decide
  rw [m_more, m_less, m_less, m_more, em, ep, a1, hz] at q2
  refine ⟨τ, by rw [q1]; rfl, ?_, q3⟩
  rw [show max z (-1048576) = max (-1048576) (min 1048576 z) by omega, show min (-((-w) / 16) + R) 1048576 = min 1048576 (max (-1048576) (-((-w) / 16) + R)) by omega]
  exact q2
theorem m_wave {co : Bool} {v5 : Int32} (hco : co = true ↔ v5 = 0) {a b : Int64} (ha : -2147483648 ≤ a.toInt ∧ a.toInt ≤ b.toInt) (hb : b.toInt ≤ 2147483647) (σ : zSt) : ∃ τ, fX9_wave a b v5 σ = some τ ∧ mS τ (sWave co (some (a.toInt, b.toInt))) ∧ mEq σ τ := by
  show ∃ τ, fX9_wave_0 a b v5 σ = some τ ∧ mS τ (if 6815744 < (a.toInt + b.toInt) / 2 ∨ (a.toInt + b.toInt) / 2 < -6815744 ∨ 1048576 < b.toInt - (a.toInt + b.toInt) / 2 then some (-1048576, 1048576) else
      sOf (max (wLo co ((a.toInt + b.toInt) / 2) - (b.toInt - (a.toInt + b.toInt) / 2)) (-1048576)) (min (wHi co ((a.toInt + b.toInt) / 2) + (b.toInt - (a.toInt + b.toInt) / 2)) 1048576)) ∧ _
  unfold fX9_wave_0
  have em : (-1048576 : Int64).toInt = -1048576 := by decide
  have ep : (1048576 : Int64).toInt = 1048576 := by decide
  have eq1 : (6815744 : Int64).toInt = 6815744 := by decide
  have eq2 : (-6815744 : Int64).toInt = -6815744 := by decide
  have far : ∃ τ, (bd1 (fX9_is (-1048576 : Int64) (1048576 : Int64) σ) fun s51_4 => some s51_4) = some τ ∧ mS τ (some (-1048576, 1048576)) ∧ mEq σ τ := by
    obtain ⟨τ, q1, q2, q3, -⟩ := m_is (-1048576) 1048576 σ
    rw [em, ep] at q2
    exact ⟨τ, by rw [q1]; rfl, q2, q3⟩
  have s0 : (a + b).toInt = a.toInt + b.toInt := qL_add (by omega) (by omega)
  obtain ⟨m, c1, a1⟩ := m_down (x := a + b) (y := 2) (by decide) (by omega)
  rw [e2L, dn_pos (by omega), s0] at a1
  have a2 : (b - m).toInt = b.toInt - (a.toInt + b.toInt) / 2 := by rw [qL_sub (by rw [a1]; omega) (by rw [a1]; omega), a1]
  rw [c1, bd1_some, nm_eq]
  have r0 : 0 ≤ b.toInt - (a.toInt + b.toInt) / 2 := by omega
  generalize b - m = r at *
  generalize hM : (a.toInt + b.toInt) / 2 = M at *
  generalize hR : b.toInt - M = R at *
  by_cases d1 : 6815744 < M
  · rw [if_pos (show (6815744 : Int64) < m by rw [qL_lt, eq1, a1]; exact d1), if_pos (Or.inl d1)]
    exact far
  rw [if_neg (show ¬ (6815744 : Int64) < m by rw [qL_lt, eq1, a1]; exact d1)]
  by_cases d2 : M < -6815744
  · rw [if_pos (show m < (-6815744 : Int64) by rw [qL_lt, eq2, a1]; exact d2), if_pos (Or.inr (Or.inl d2))]
    exact far
  rw [if_neg (show ¬ m < (-6815744 : Int64) by rw [qL_lt, eq2, a1]; exact d2)]
  by_cases d3 : 1048576 < R
  · rw [if_neg (show ¬ r ≤ (1048576 : Int64) by rw [qL_le, ep, a2]; omega), if_pos (Or.inr (Or.inr d3))]
    exact far
  rw [if_pos (show r ≤ (1048576 : Int64) by rw [qL_le, ep, a2]; omega), if_neg (show ¬ (6815744 < M ∨ M < -6815744 ∨ 1048576 < R) by omega)]
  have bu : M.natAbs * 16 ≤ 109051904 := by omega
  have bu2 : (M.natAbs * 16) * (M.natAbs * 16) ≤ 109051904 * 109051904 := Nat.mul_le_mul bu bu
  obtain ⟨w1, w2, w3⟩ := w_fin co (m := M) (by omega) (by omega)
  unfold wLo at w1 w3 ⊢
  unfold wHi at w2 w3 ⊢
  have goal : ∀ x : Int64, x.toInt = ((M.natAbs : Nat) : Int) → ∃ τ, fX9_wave_73 v5 m r x 16 σ = some τ ∧ mS τ (sOf (max ((if (!co && decide (M < 0)) = true then -(wS co true (M.natAbs * 16) 19) else wS co false (M.natAbs * 16) 19) / 16 - R) (-1048576)) (min (-((if (!co && decide (M < 0)) = true then wS co false (M.natAbs * 16) 19 else -(wS co true (M.natAbs * 16) 19)) / 16) + R) 1048576)) ∧ mEq σ τ := by
    intro x hx
    have e16 : (16 : Int64).toInt = ((16 : Nat) : Int) := by decide
    have hU : ((16 : Int64) * x).toInt = ((M.natAbs * 16 : Nat) : Int) := by rw [Nat.mul_comm]; exact l_mulN e16 hx (by omega)
    unfold fX9_wave_73
    rw [nm_eq]
    generalize hu : M.natAbs * 16 = U at *
    generalize (16 : Int64) * x = z at *
    have e24 : (16777216 : Int64).toInt = ((16777216 : Nat) : Int) := by decide
    obtain ⟨v1, k1, k2⟩ := m_cut hu0 (l_mulN hU hU (by omega)) e24 (by omega) (by omega)
    obtain ⟨v2, k3, k4⟩ := m_cut hu1 (l_mulN hU hU (by omega)) e24 (by omega) (by omega)
    rw [m_cut0 k1, bd1_some, m_cut1 k3, bd1_some]
    obtain ⟨n, hn⟩ := zFU_ge 50 (by omega)
    obtain ⟨n1, hn1⟩ := zFU_ge 1 (by omega)
    have key : ∀ t : Int64, t.toInt = ((wT co true U 0 : Nat) : Int) → ∃ s' h' : Int64, s'.toInt = wS co false U 19 ∧ h'.toInt = wS co true U 19 ∧ fX9_wave_L132 zFU v5 m r v1 v2 t t (-1) 1 0 σ = mWx v5 m r s' h' σ := by
      intro t q1
      have bt := wT_bd (co := co) (ups := true) (u := U) (k := 0) bu (by omega)
      have w0 : wT co false U 0 = wT co true U 0 := by rw [wT_zero, wT_zero]
      have eN : (-1 : Int64).toInt = -1 := by decide
      have t1 : ((-1 : Int64) + t).toInt = wS co false U 0 := by
        rw [qL_add (by rw [eN, q1]; omega) (by rw [eN, q1]; omega), eN, q1, wS_zero, w0, if_neg (show ¬ false = true by decide)]; omega
      have t2 : ((1 : Int64) + t).toInt = wS co true U 0 := by
        rw [qL_add (by rw [q1L, q1]; omega) (by rw [q1L, q1]; omega), q1L, q1, wS_zero, if_pos (show true = true by decide)]; omega
      obtain ⟨s', h', g1, g2, g3⟩ := m_wL hco bu k2 k4 σ 19 0 t t _ _ n1 (by omega) (by omega) (by rw [w0]; exact q1) q1 t1 t2 (v6 := m) (v8 := r)
      refine ⟨s', h', g1, g2, ?_⟩
      rw [← g3, hn1]
      show fX9_wave_132 (fX9_wave_L132 n1) v5 m r v1 v2 t t (-1) 1 0 σ = _
      unfold fX9_wave_132
      rw [if_neg (show ¬ (20 : Int32) ≤ 0 by decide), if_pos (show (0 : Int32) ≤ 0 by decide), if_pos (show jremI 0 2 = 0 by decide)]
      unfold fX9_wave_241
      rw [nm_eq, if_pos (show jremI 0 2 = 0 by decide)]
      simp only [nm_eq]
      rw [show (0 : Int32) + 1 = Int32.ofNat (0 + 1) by decide]
    have fin : ∃ s' h' : Int64, s'.toInt = wS co false U 19 ∧ h'.toInt = wS co true U 19 ∧ (if v5 = 0 then fX9_wave_L132 zFU v5 m r v1 v2 16777216 16777216 (-1) 1 0 σ else fX9_wave_L132 zFU v5 m r v1 v2 z z (-1) 1 0 σ) = mWx v5 m r s' h' σ := by
      cases co with
      | false =>
        have hv : ¬ v5 = 0 := fun q => by have := hco.mpr q; cases this
        rw [if_neg hv]
        refine key z ?_
        rw [wT_zero, if_neg (by decide)]; exact hU
      | true =>
        rw [if_pos (hco.mp rfl)]
        refine key 16777216 ?_
        rw [wT_zero, if_pos rfl]; decide
    obtain ⟨s', h', g1, g2, g3⟩ := fin
    have d1 := wS_bd (co := co) (hi := false) bu 19 (by omega)
    have d2 := wS_bd (co := co) (hi := true) bu 19 (by omega)
    have k1 : 2000000000 * (19 + 1) + 1 ≤ 1000000000000 := by omega
    rw [g3]
    unfold mWx
    generalize wS co false U 19 = S at *
    generalize wS co true U 19 = H at *
    have e16b : (16 : Int64).toInt = 16 := by decide
    have nh : (-h').toInt = -H := by rw [qL_neg (by rw [g2]; omega), g2]
    have ns : (-s').toInt = -S := by rw [qL_neg (by rw [g1]; omega), g1]
    have A : ¬ (!co && decide (M < 0)) = true → ∃ τ, fX9_wave_287 r s' h' 0 σ = some τ ∧ mS τ (sOf (max ((if (!co && decide (M < 0)) = true then -H else S) / 16 - R) (-1048576)) (min (-((if (!co && decide (M < 0)) = true then S else -H) / 16) + R) 1048576)) ∧ mEq σ τ := by
      intro hc
      simp only [if_neg hc] at w1 w2 w3 ⊢
      obtain ⟨p, p1, p2⟩ := m_down (x := s') (y := 16) (by decide) (by omega)
      rw [e16b, dn_pos (by omega), g1] at p2
      unfold fX9_wave_287
      rw [if_pos (show (0 : Int32) = 0 by decide), p1, bd1_some, nm_eq, if_pos (show (0 : Int32) = 0 by decide)]
      have p3 : (p - r).toInt = S / 16 - R := by rw [qL_sub (by rw [p2, a2]; omega) (by rw [p2, a2]; omega), p2, a2]
      exact m_326 p3 g2 a2 (by omega) (by omega) (by omega) (by omega) (by omega) σ
    by_cases hv0 : v5 = 0
    · rw [if_pos hv0]
      have hct := hco.mpr hv0
      exact A (by rw [hct]; simp)
    · rw [if_neg hv0]
      have hcf : co = false := by cases co with
        | false => rfl
        | true => exact absurd (hco.mp rfl) hv0
      by_cases hm0 : 0 ≤ M
      · rw [if_pos (show (0 : Int64) ≤ m by rw [qL_le, q0L, a1]; exact hm0)]
        exact A (by rw [hcf, decide_eq_false (by omega)]; decide)
      · rw [if_neg (show ¬ (0 : Int64) ≤ m by rw [qL_le, q0L, a1]; exact hm0)]
        have hc : (!co && decide (M < 0)) = true := by rw [hcf, decide_eq_true (by omega)]; rfl
        simp only [if_pos hc] at w1 w2 w3 ⊢
        obtain ⟨p, p1, p2⟩ := m_down (x := -h') (y := 16) (by decide) (by omega)
        rw [e16b, dn_pos (by omega), nh] at p2
        unfold fX9_wave_287
        rw [if_neg (show ¬ (1 : Int32) = 0 by decide), p1, bd1_some, nm_eq, if_neg (show ¬ (1 : Int32) = 0 by decide)]
        have p3 : (p - r).toInt = -H / 16 - R := by rw [qL_sub (by rw [p2, a2]; omega) (by rw [p2, a2]; omega), p2, a2]
        have := m_326 p3 ns a2 (by omega) (by omega) (by omega) (by omega) (by omega) σ
        rw [Int.neg_neg] at this
        exact this
  by_cases hm0 : 0 ≤ M
  · rw [if_pos (show (0 : Int64) ≤ m by rw [qL_le, q0L, a1]; exact hm0)]
    exact goal m (by omega)
  · rw [if_neg (show ¬ (0 : Int64) ≤ m by rw [qL_le, q0L, a1]; exact hm0)]
    exact goal (-m) (by rw [qL_neg (by omega)]; omega)
