theorem msk_or : ∀ m, m < 256 → ∀ n, n < 8 → (Int32.ofNat m ||| jshlI (1 : Int32) (Int32.ofNat n)) = Int32.ofNat (m ||| 2 ^ n) := by decide +kernel
theorem msk_bit : ∀ m, m < 256 → ∀ k, k < 8 → (((jshrI (Int32.ofNat m) (Int32.ofNat k)) &&& (1 : Int32)) = 1 ↔ m.testBit k = true) := by decide +kernel
theorem msk_need {C : qCfg} {M : Nat → Nat} (hm : xNd C M) {n : Nat} (hn : n < C.N) (h8 : n < 8) {k : Nat} (hk : k < 8) : ((jshrI (Int32.ofNat (M n) ||| jshlI (1 : Int32) (Int32.ofNat n)) (Int32.ofNat k)) &&& (1 : Int32)) = 1 ↔ qNeed M n k := by
  have h1 := (hm n hn).1
  rw [msk_or _ h1 n h8, msk_bit _ (Nat.or_lt_two_pow (n := 8) h1 (Nat.pow_lt_pow_right (by omega) h8)) k hk, Nat.testBit_or, Nat.testBit_two_pow]
  unfold qNeed
  cases (M n).testBit k <;> simp <;> omega
theorem x_curveAt {k : Nat} (hk : k < 8) : fX1_curveAt (Int32.ofNat k) = some k := by
  show fX1_curveAt_0 (Int32.ofNat k) = _
  unfold fX1_curveAt_0
  have e := iNt (n := k) (by omega)
  rw [if_neg (by rw [qI_neg0, e]; omega), if_neg (by rw [qI_le, e, e8I]; omega), zg_pos (vin e hk), iN_cl (by omega)]
theorem x_mOut {C : qCfg} {M : Nat → Nat} (hw : qWF C) (hm : xNd C M) {σ : zSt} (h0 : xCur C M σ) {n : Nat} (hn : n < C.N) {sp : qSh} {v4 : Int32} : ∀ (d k F : Nat) (τ : zSt), d + k = n + 1 → d < F → xO C M sp σ n v4 k τ → xPost C sp σ n v4 (fX1_measure_L35 F (Int32.ofNat n) v4 (Int32.ofNat (M n) ||| jshlI (1 : Int32) (Int32.ofNat n)) (Int32.ofNat k) τ) := by
  have hN := hw.1
  have en := iNt (n := n) (by omega)
  intro d
  induction d with
  | zero =>
    intro k F τ e hF ho
    obtain ⟨G, rfl⟩ : ∃ G, F = G + 1 := ⟨F - 1, by omega⟩
    have ek := iNt (n := k) (by omega)
    rw [fX1_measure_L35]
    unfold fX1_measure_35
    rw [if_pos (by rw [qI_lt, ek, en]; omega)]
    obtain ⟨s, s1, s2⟩ := x_row12 (Int32.ofNat n) τ
    obtain ⟨r, r1, r2⟩ := x_row11 (Int32.ofNat n) (sl τ 3 9 s)
    rw [s1, bd1_some, r1, bd1_some]
    obtain ⟨c1, c2⟩ := ho.2.2.2 n (by omega) (Or.inl rfl)
    refine ⟨_, _, rfl, ho.1.sl (by omega), ?_, fun hu => ?_⟩
    · rw [r2 n en (by omega), gl_sl, if_neg (by omega)]; exact c1
    · rw [gl_sl, if_pos (by omega), s2 n en (by omega)]; exact c2 hu
  | succ d ih =>
    intro k F τ e hF ho
    obtain ⟨G, rfl⟩ : ∃ G, F = G + 1 := ⟨F - 1, by omega⟩
    have hk8 : k < 8 := by omega
    have ek := iNt (n := k) (by omega)
    rw [fX1_measure_L35]
    unfold fX1_measure_35
    rw [if_neg (by rw [qI_lt, ek, en]; omega), if_neg (by rw [qI_le, ek, e8I]; omega), x_curveAt hk8, bd1_some, zg_pos (by omega)]
    have hK : ∀ τ', xO C M sp σ n v4 (k + 1) τ' → xPost C sp σ n v4 (fX1_measure_L35 G (Int32.ofNat n) v4 (Int32.ofNat (M n) ||| jshlI (1 : Int32) (Int32.ofNat n)) (Int32.ofNat (k + 1)) τ') := fun τ' h => ih (k + 1) G τ' (by omega) (by omega) h
    obtain ⟨B, hB⟩ := zFU_ge 100 (by omega)
    by_cases hd : qNeed M n k
    · rw [if_pos ((msk_need hm hn (by omega) hk8).mpr hd), nm_eq, ho.1.1, (h0.2 k (by omega)).1]
      exact x_mIn hw hm h0 hn (by omega) hd hK (C.len k) 0 zFU τ (by omega) (by have := (hw.2 k (by omega)).1.2; omega) ho (fun j h => absurd h (by omega))
    · rw [if_neg (fun h => hd ((msk_need hm hn (by omega) hk8).mp h))]
      obtain ⟨B1, hB1⟩ := zFU_ge 1 (by omega)
      rw [hB1, fX1_measure_L81]
      unfold fX1_measure_81
      rw [if_pos (qI_le.mpr (Int.le_refl _))]
      obtain ⟨r, s, a1, -⟩ := x_m160 (K := fX1_measure_L35 G) (v1 := Int32.ofNat n) (v4 := v4) (v5 := Int32.ofNat (M n) ||| jshlI (1 : Int32) (Int32.ofNat n)) (v8 := 0) hk8 τ
      rw [a1]
      refine hK _ ⟨(ho.1.sl (by omega)).sl (by omega), ?_, ?_, ?_⟩
      · rw [gl_sl, if_neg (by omega), gl_sl, if_neg (by omega)]; exact ho.2.1
      · rw [gl_sl, if_neg (by omega), gl_sl, if_neg (by omega)]; exact ho.2.2.1
      · intro k' h1 h2
        have h3 : k' ≠ k := fun h3 => hd (h3 ▸ h2)
        obtain ⟨c1, c2⟩ := ho.2.2.2 k' (by omega) h2
        refine ⟨?_, fun q => ?_⟩
        · rw [gl_sl, if_neg (by omega), gl_sl, if_neg (by omega)]; exact c1
        · rw [gl_sl, if_neg (by omega), gl_sl, if_neg (by omega)]; exact c2 q
theorem x_span {a b : Int32} (h : a.toInt ≤ b.toInt) : xS (fX5_of a.toInt64 b.toInt64) (some (a.toInt, b.toInt)) := by
  have h1 := qI_rng a
  have h2 := qI_rng b
  have e := x_of (x := a.toInt64) (y := b.toInt64) (by rw [qL_ofI, qL_ofI]; exact h)
  rw [qL_ofI, qL_ofI, sOf_in (by omega) (by omega) (by omega)] at e
  exact e
/-- what ShutBench measures is what the ACTS say -/
theorem x_measure {C : qCfg} {M : Nat → Nat} (hw : qWF C) (hm : xNd C M) {σ : zSt} (h0 : xCur C M σ) {n : Nat} (hn : n < C.N) {c a b : Int32} (u : Int32) (hc : c.toInt = (n : Nat)) (hab : a.toInt ≤ b.toInt) : xPost C (some (a.toInt, b.toInt)) σ n u (fX1_measure c a b u σ) := by
  have hN := hw.1
  show xPost C _ σ n u (fX1_measure_0 c a b u σ)
  unfold fX1_measure_0
  rw [iN_of hc, nm_eq, x_curveAt (by omega), bd1_some, zg_pos (by omega), nm_eq, (h0.2 n hn).2.1]
  obtain ⟨B, hB⟩ := zFU_ge 100 (by omega)
  refine x_mOut hw hm h0 hn (n + 1) 0 zFU _ (by omega) (by omega) ⟨(xFr.rf.sl (by omega)).sl (by omega), ?_, ?_, fun k h => absurd h (by omega)⟩
  · rw [gl_sl, if_neg (by omega), gl_sl, if_pos (by omega)]; exact x_span hab
  · rw [gl_sl, if_pos (by omega)]
