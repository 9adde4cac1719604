/-! the TAPE, and what a span tells -/
theorem qI_sh {x : Int32} {k : Nat} (s : Int32) (hs : ((s &&& 31).toBitVec.smod 32).toNat = k) : (jshrI x s).toInt = x.toInt / (2 : Int) ^ k := by
  unfold jshrI
  show (x >>> (s &&& 31)).toBitVec.toInt = _
  rw [Int32.toBitVec_shiftRight, BitVec.sshiftRight_eq', hs, BitVec.toInt_sshiftRight, Int.shiftRight_eq_div_pow]
  rfl
theorem qI_nat (x : Int32) : x.toInt = if 2 * x.toBitVec.toNat < 2 ^ 32 then (x.toBitVec.toNat : Int) else x.toBitVec.toNat - (2 ^ 32 : Nat) := BitVec.toInt_eq_toNat_cond _
theorem qI_ush {x : Int32} {k : Nat} (s : Int32) (hs : ((s.toUInt32 &&& Int32.toUInt32 31).toBitVec % 32).toNat = k) : (jushrI x s &&& 255).toBitVec.toNat = x.toBitVec.toNat / 2 ^ k % 256 := by
  rw [Int32.toBitVec_and, BitVec.toNat_and, show (255 : Int32).toBitVec.toNat = 2 ^ 8 - 1 by decide, Nat.and_two_pow_sub_one_eq_mod]
  unfold jushrI
  show (x.toUInt32 >>> (s.toUInt32 &&& Int32.toUInt32 31)).toBitVec.toNat % 256 = _
  rw [UInt32.toBitVec_shiftRight, BitVec.ushiftRight_eq', BitVec.toNat_ushiftRight, hs, Nat.shiftRight_eq_div_pow]
  rfl
theorem byte_rel (x : Int32) : ∀ j : Nat, j < 4 → (jushrI x (Int32.ofNat (8 * j)) &&& 255).toInt = (vp_nar .byte (jshrI x (Int32.ofNat (8 * j))).toInt8.toInt32).toInt % 256 ∧ -128 ≤ (vp_nar .byte (jshrI x (Int32.ofNat (8 * j))).toInt8.toInt32).toInt ∧ (vp_nar .byte (jshrI x (Int32.ofNat (8 * j))).toInt8.toInt32).toInt ≤ 127 := by
  intro j hj
  have e1 := qI_sh (x := x) (k := 8 * j) (Int32.ofNat (8 * j)) (by rcases (show j = 0 ∨ j = 1 ∨ j = 2 ∨ j = 3 by omega) with rfl | rfl | rfl | rfl <;> decide)
  have e2 := qI_ush (x := x) (k := 8 * j) (Int32.ofNat (8 * j)) (by rcases (show j = 0 ∨ j = 1 ∨ j = 2 ∨ j = 3 by omega) with rfl | rfl | rfl | rfl <;> decide)
  have e3 : (vp_nar .byte (jshrI x (Int32.ofNat (8 * j))).toInt8.toInt32).toInt = ((jshrI x (Int32.ofNat (8 * j))).toInt.bmod 256).bmod 256 := by
    rw [vp_nar_byte, Int8.toInt_toInt32, Int32.toInt_toInt8, Int8.toInt_toInt32, Int32.toInt_toInt8]
  have e4 := qI_nat (jushrI x (Int32.ofNat (8 * j)) &&& 255)
  have e5 := qI_nat x
  have e6 : x.toBitVec.toNat < 2 ^ 32 := BitVec.isLt _
  rw [e2] at e4
  rw [e3, e4, e1]
  have hb := Int.bmod_def (x.toInt / 2 ^ (8 * j)) 256
  have hb2 : ((x.toInt / 2 ^ (8 * j)).bmod 256).bmod 256 = (x.toInt / 2 ^ (8 * j)).bmod 256 := Int.bmod_bmod
  rw [hb2, hb]
  rcases (show j = 0 ∨ j = 1 ∨ j = 2 ∨ j = 3 by omega) with rfl | rfl | rfl | rfl <;> simp only [Nat.mul_zero, Nat.mul_one, Nat.reduceMul, Nat.reducePow, Int.reducePow, Nat.pow_zero, Int.pow_zero] <;> split at e5 <;> (try split) <;> (try split) <;> omega
theorem z_byte {C : qCfg} {M : Nat → Nat} {D : Nat → Int} {S : Nat → Bool} {σ τ : zSt} (h : zI C M D S σ τ) {n : Nat} (hn : n < 200) (e : gi σ 2 1 = Int32.ofNat n) {x y : Int32} (hx : x.toInt = y.toInt % 256 ∧ -128 ≤ y.toInt ∧ y.toInt ≤ 127) : zI C M D S (si (si σ 6 n x) 2 1 (Int32.ofNat (n + 1))) (si (si τ 62 n y) 61 2 (Int32.ofNat (n + 1))) := by
  obtain ⟨h1, ⟨m, t1, t2, t3, t4⟩, h3, h4, h5⟩ := h
  have em : m = n := by
    have := iNt (n := n) (by omega)
    have := iNt (n := m) (by omega)
    rw [e] at t2
    have := qI_eq.mp t2
    omega
  subst em
  refine ⟨zCf_fr h1 ((yFr.rf.si (by omega)).si (by omega)) ((wFr.rf.si (by omega)).si (by omega)), ⟨m + 1, by omega, by rw [gi_si, if_pos (by omega)], by rw [gi_si, if_pos (by omega)], fun p hp => ?_⟩, h3, ⟨by rw [gi_si, if_neg (by omega), gi_si, if_neg (by omega), gi_si, if_neg (by omega), gi_si, if_neg (by omega)]; exact h4.1, by rw [gi_si, if_neg (by omega), gi_si, if_neg (by omega), gi_si, if_neg (by omega), gi_si, if_neg (by omega)]; exact h4.2⟩, zRt_fr h5 (by rw [gi_si, if_neg (by omega), gi_si, if_neg (by omega)]) (fun c i _ _ => by rw [gi_si, if_neg (by omega), gi_si, if_neg (by omega)]) (by rw [gi_si, if_neg (by omega), gi_si, if_neg (by omega)]) (fun _ => by rw [gi_si, if_neg (by omega), gi_si, if_neg (by omega)]) (fun c i hc => rfl)⟩
  rw [gi_si, if_neg (by omega), gi_si (c := 61), if_neg (by omega)]
  by_cases q : p = m
  · rw [q, gi_si, if_pos (by omega), gi_si, if_pos (by omega)]; exact hx
  · rw [gi_si, if_neg (by omega), gi_si, if_neg (by omega)]; exact t4 p (by omega)
theorem sh8 : ∀ j : Nat, j < 4 → Int32.ofNat (8 * j) + (-8) = (if j = 0 then -8 else Int32.ofNat (8 * (j - 1))) ∧ ¬ Int32.ofNat (8 * j) < 0 := by decide
theorem e200 : (200 : Int32).toInt = 200 := by decide
theorem z_take {C : qCfg} {M : Nat → Nat} {D : Nat → Int} {S : Nat → Bool} {a : Int32} : ∀ (j n F G : Nat) (σ τ : zSt), j < 4 → n + j < 200 → j + 1 < F → j + 1 < G → gi σ 2 1 = Int32.ofNat n → zI C M D S σ τ → ∃ σ' τ', fX6_take_L3 F a (Int32.ofNat (8 * j)) σ = some σ' ∧ fX9_put_L3 G a (Int32.ofNat (8 * j)) τ = some τ' ∧ zI C M D S σ' τ' ∧ gi σ' 2 1 = Int32.ofNat (n + j + 1) := by
  intro j
  induction j with
  | zero =>
    intro n F G σ τ hj hn hF hG e h
    obtain ⟨F, rfl⟩ : ∃ F', F = F' + 2 := ⟨F - 2, by omega⟩
    obtain ⟨G, rfl⟩ : ∃ F', G = F' + 2 := ⟨G - 2, by omega⟩
    have en := iNt (n := n) (by omega)
    have e2 : gi τ 61 2 = Int32.ofNat n := by
      obtain ⟨-, ⟨m, -, t2, t3, -⟩, -⟩ := h
      rw [t3, ← t2, e]
    rw [fX6_take_L3, fX9_put_L3]
    unfold fX6_take_3 fX9_put_3
    rw [if_neg (sh8 0 hj).2, if_neg (sh8 0 hj).2, e, e2, if_neg (by rw [qI_neg0, en]; omega), if_neg (by rw [qI_le, en, e200]; omega), zg_pos (vin en (by omega)), zg_pos (vin en (by omega)), nm_eq, nm_eq, (sh8 0 hj).1, if_pos rfl, iN_cl (by omega), iN_s (by omega)]
    rw [fX6_take_L3, fX9_put_L3]
    unfold fX6_take_3 fX9_put_3
    rw [if_pos (by decide), if_pos (by decide)]
    exact ⟨_, _, rfl, rfl, z_byte h (by omega) e (byte_rel a 0 hj), by rw [gi_si, if_pos (by omega)]⟩
  | succ j ih =>
    intro n F G σ τ hj hn hF hG e h
    obtain ⟨F, rfl⟩ : ∃ F', F = F' + 1 := ⟨F - 1, by omega⟩
    obtain ⟨G, rfl⟩ : ∃ F', G = F' + 1 := ⟨G - 1, by omega⟩
    have en := iNt (n := n) (by omega)
    have e2 : gi τ 61 2 = Int32.ofNat n := by
      obtain ⟨-, ⟨m, -, t2, t3, -⟩, -⟩ := h
      rw [t3, ← t2, e]
    rw [fX6_take_L3, fX9_put_L3]
    unfold fX6_take_3 fX9_put_3
    rw [if_neg (sh8 _ hj).2, if_neg (sh8 _ hj).2, e, e2, if_neg (by rw [qI_neg0, en]; omega), if_neg (by rw [qI_le, en, e200]; omega), zg_pos (vin en (by omega)), zg_pos (vin en (by omega)), nm_eq, nm_eq, (sh8 _ hj).1, if_neg (by omega), iN_cl (by omega), iN_s (by omega)]
    obtain ⟨σ', τ', a1, a2, a3, a4⟩ := ih (n + 1) F G _ _ (by omega) (by omega) (by omega) (by omega) (by rw [gi_si, if_pos (by omega)]) (z_byte h (by omega) e (byte_rel a (j + 1) hj))
    exact ⟨σ', τ', a1, a2, a3, by rw [a4, show n + 1 + j + 1 = n + (j + 1) + 1 by omega]⟩
theorem z_take4 {C : qCfg} {M : Nat → Nat} {D : Nat → Int} {S : Nat → Bool} {a : Int32} {n : Nat} {σ τ : zSt} (hn : n + 4 ≤ 200) (e : gi σ 2 1 = Int32.ofNat n) (h : zI C M D S σ τ) : ∃ σ' τ', fX6_take a σ = some σ' ∧ fX9_put a τ = some τ' ∧ zI C M D S σ' τ' ∧ gi σ' 2 1 = Int32.ofNat (n + 4) := by
  obtain ⟨B, hB⟩ := zFU_ge 50 (by omega)
  exact z_take 3 n zFU zFU σ τ (by omega) (by omega) (by omega) (by omega) e h
theorem e20I : (20 : Int32).toInt = 20 := by decide
theorem hs0 (σ τ : zSt) (a b c d e : Int32) (h : zInv σ τ) : ∃ (r : Int32) (σ' τ' : zSt), fX8_feed a b c d e σ = some (r, σ') ∧ fX9_feed a b c d e τ = some (r, τ') ∧ zInv σ' τ' := by
  obtain ⟨C, M, D, S, h⟩ := h
  obtain ⟨n, t1, t2, t3, -⟩ := h.2.1
  have en := iNt (n := n) (by omega)
  show ∃ r σ' τ', fX8_feed_0 a b c d e σ = _ ∧ fX9_feed_0 a b c d e τ = _ ∧ _
  unfold fX8_feed_0 fX9_feed_0
  rw [t2, t3]
  by_cases q : n + 20 ≤ 200
  · have c1 : Int32.ofNat n + 20 ≤ 200 := by rw [qI_le, e200, qI_add (by rw [en, e20I]; omega) (by rw [en, e20I]; omega), en, e20I]; omega
    rw [if_pos c1, if_pos c1]
    obtain ⟨σ1, τ1, a1, b1, h1, e1⟩ := z_take4 (a := a) (by omega) t2 h
    obtain ⟨σ2, τ2, a2, b2, h2, e2⟩ := z_take4 (a := b) (by omega) e1 h1
    obtain ⟨σ3, τ3, a3, b3, h3, e3⟩ := z_take4 (a := c) (by omega) e2 h2
    obtain ⟨σ4, τ4, a4, b4, h4, e4⟩ := z_take4 (a := d) (by omega) e3 h3
    obtain ⟨σ5, τ5, a5, b5, h5, e5⟩ := z_take4 (a := e) (by omega) e4 h4
    rw [a1, b1, bd1_some, bd1_some, a2, b2, bd1_some, bd1_some, a3, b3, bd1_some, bd1_some, a4, b4, bd1_some, bd1_some, a5, b5, bd1_some, bd1_some]
    have e6 : gi τ5 61 2 = gi σ5 2 1 := by
      obtain ⟨-, ⟨m, -, u2, u3, -⟩, -⟩ := h5
      rw [u3, u2]
    rw [e6]
    exact ⟨_, _, _, rfl, rfl, C, M, D, S, h5⟩
  · have c1 : ¬ Int32.ofNat n + 20 ≤ 200 := by rw [qI_le, e200, qI_add (by rw [en, e20I]; omega) (by rw [en, e20I]; omega), en, e20I]; omega
    rw [if_neg c1, if_neg c1]
    exact ⟨_, _, _, rfl, rfl, C, M, D, S, h⟩
theorem z_tell {C : qCfg} {M : Nat → Nat} {D : Nat → Int} {S : Nat → Bool} {σ τ : zSt} (h : zI C M D S σ τ) {f : Int64} {r : Int32} {s : qSh} (hf : xS f s) (hm : mIts r τ s) : ∃ q σ' τ', fX8_tell f σ = some (q, σ') ∧ fX9_tells r (gl τ 61 29) (gl τ 61 30) τ = some (q, τ') ∧ zI C M D S σ' τ' := by
  show ∃ q σ' τ', fX8_tell_0 f σ = _ ∧ fX9_tells_0 r _ _ τ = _ ∧ _
  unfold fX8_tell_0 fX9_tells_0
  cases s with
  | none =>
    replace hf : f = 4294967296 := hf
    replace hm : r = 0 := hm
    rw [if_pos hf, if_pos hm]
    exact ⟨_, _, _, rfl, rfl, h⟩
  | some q =>
    obtain ⟨f1, f2, f3, -⟩ := hf
    obtain ⟨m1, m2, m3⟩ := hm
    rw [if_neg f1, if_neg (by rw [m1]; decide)]
    have e1 : fX5_lowOf f = gl τ 61 29 := qL_eq.mpr (by rw [f2, m2])
    have e2 : fX5_highOf f = gl τ 61 30 := qL_eq.mpr (by rw [f3, m3])
    rw [e1, e2]
    exact ⟨_, _, _, rfl, rfl, zI_lh h _ _⟩
/-- both sides measure alike -/
theorem z_shut {C : qCfg} {M : Nat → Nat} {D : Nat → Int} {S : Nat → Bool} {σ τ : zSt} (h : zI C M D S σ τ) {k : Nat} (hk : k < C.N) {a b : Int32} (hab : a.toInt ≤ b.toInt) {lo hi : Int64} (hlo : lo.toInt = a.toInt) (hhi : hi.toInt = b.toInt) (u : Int32) : (∃ f σ', fX1_measure (Int32.ofNat k) a b u σ = some (f, σ') ∧ xFr σ σ' ∧ xS f (vA C.A (some (a.toInt, b.toInt)) (qLast C k)) ∧ (¬ u = 0 → xS (gl σ' 3 9) (lA C.A (some (a.toInt, b.toInt)) (qLast C k)))) ∧ (∃ r τ', fX9_shut (Int32.ofNat k) lo hi τ = some (r, τ') ∧ mFr τ τ' ∧ mIts r τ' (vA C.A (some (a.toInt, b.toInt)) (qLast C k))) ∧ (∃ r τ', fX9_shutSlope (Int32.ofNat k) lo hi τ = some (r, τ') ∧ mFr τ τ' ∧ mIts r τ' (lA C.A (some (a.toInt, b.toInt)) (qLast C k))) := by
  obtain ⟨⟨⟨hw, hm⟩, -, hx, -, hc⟩, -⟩ := h
  have := hw.1
  have ra := qI_rng a
  have rb := qI_rng b
  refine ⟨x_measure hw hm hx hk u (iNt (by omega)) hab, ?_, ?_⟩
  · have q := m_shut hw hc hk (lo := lo) (hi := hi) (by rw [hlo]; omega) (by rw [hlo, hhi]; omega) (by rw [hhi]; omega)
    rw [hlo, hhi] at q
    exact q
  · have q := m_shutSlope hw hc hk (lo := lo) (hi := hi) (by rw [hlo]; omega) (by rw [hlo, hhi]; omega) (by rw [hhi]; omega)
    rw [hlo, hhi] at q
    exact q
theorem hs5 (σ τ : zSt) (c a b : Int32) (h : zInv σ τ) : ∃ (r : Int32) (σ' τ' : zSt), fX8_at c a b σ = some (r, σ') ∧ fX9_at c a b τ = some (r, τ') ∧ zInv σ' τ' := by
  obtain ⟨C, M, D, S, h⟩ := h
  show ∃ r σ' τ', fX8_at_0 c a b σ = _ ∧ fX9_at_0 c a b τ = _ ∧ _
  unfold fX8_at_0 fX9_at_0
  rcases z_has h c with ⟨e1, e2⟩ | ⟨e1, e2, k, rfl, hk⟩
  · rw [e1, e2, if_pos rfl, if_pos rfl]
    exact ⟨_, _, _, rfl, rfl, C, M, D, S, h⟩
  · rw [e1, e2, if_neg iNe1, if_neg iNe1]
    by_cases q : a ≤ b
    · rw [if_pos q, if_pos q]
      obtain ⟨⟨f, σ1, a1, a2, a3, -⟩, ⟨r, τ1, b1, b2, b3⟩, -⟩ := z_shut h hk (qI_le.mp q) (qL_ofI a) (qL_ofI b) 0
      obtain ⟨w, σ2, τ2, c1, c2, c3⟩ := z_tell (zI_m h a2 b2) a3 b3
      rw [a1, b1, bd2_some, bd2_some, c1, c2, bd2_some, bd2_some]
      exact ⟨_, _, _, rfl, rfl, C, M, D, S, c3⟩
    · rw [if_neg q, if_neg q]
      exact ⟨_, _, _, rfl, rfl, C, M, D, S, h⟩
theorem hs6 (σ τ : zSt) (c a b : Int32) (h : zInv σ τ) : ∃ (r : Int32) (σ' τ' : zSt), fX8_slope c a b σ = some (r, σ') ∧ fX9_slope_ c a b τ = some (r, τ') ∧ zInv σ' τ' := by
  obtain ⟨C, M, D, S, h⟩ := h
  show ∃ r σ' τ', fX8_slope_0 c a b σ = _ ∧ fX9_slope__0 c a b τ = _ ∧ _
  unfold fX8_slope_0 fX9_slope__0
  rcases z_has h c with ⟨e1, e2⟩ | ⟨e1, e2, k, rfl, hk⟩
  · rw [e1, e2, if_pos rfl, if_pos rfl]
    exact ⟨_, _, _, rfl, rfl, C, M, D, S, h⟩
  · rw [e1, e2, if_neg iNe1, if_neg iNe1]
    by_cases q : a ≤ b
    · rw [if_pos q, if_pos q]
      obtain ⟨⟨f, σ1, a1, a2, -, a3⟩, -, ⟨r, τ1, b1, b2, b3⟩⟩ := z_shut h hk (qI_le.mp q) (qL_ofI a) (qL_ofI b) 1
      obtain ⟨w, σ2, τ2, c1, c2, c3⟩ := z_tell (zI_m h a2 b2) (a3 iNe1) b3
      rw [a1, b1, bd2_some, bd2_some, c1, c2, bd2_some, bd2_some]
      exact ⟨_, _, _, rfl, rfl, C, M, D, S, c3⟩
    · rw [if_neg q, if_neg q]
      exact ⟨_, _, _, rfl, rfl, C, M, D, S, h⟩
