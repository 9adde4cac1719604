/-! roots -/
def pFr (σ τ : zSt) : Prop := (∀ c i, ¬ (c = 4 ∨ c = 5 ∨ (13 ≤ c ∧ c ≤ 20)) → gi τ c i = gi σ c i) ∧ ∀ c i, ¬ (c = 3 ∨ c = 4 ∨ (9 ≤ c ∧ c ≤ 12) ∨ c = 15 ∨ c = 16) → gl τ c i = gl σ c i
def qFr (σ τ : zSt) : Prop := (∀ c i, ¬ ((c = 61 ∧ (i = 21 ∨ i = 22 ∨ i = 33 ∨ i = 39 ∨ i = 40)) ∨ c = 76 ∨ c = 77 ∨ c = 84) → gi τ c i = gi σ c i) ∧ ∀ c i, ¬ ((c = 61 ∧ (i = 19 ∨ i = 20 ∨ i = 29 ∨ i = 30)) ∨ (72 ≤ c ∧ c ≤ 75) ∨ (78 ≤ c ∧ c ≤ 83)) → gl τ c i = gl σ c i
theorem pFr.rf {σ : zSt} : pFr σ σ := ⟨fun _ _ _ => rfl, fun _ _ _ => rfl⟩
theorem qFr.rf {σ : zSt} : qFr σ σ := ⟨fun _ _ _ => rfl, fun _ _ _ => rfl⟩
theorem pFr.tr {a b c : zSt} (h : pFr a b) (g : pFr b c) : pFr a c := ⟨fun q k hk => (g.1 q k hk).trans (h.1 q k hk), fun q k hk => (g.2 q k hk).trans (h.2 q k hk)⟩
theorem qFr.tr {a b c : zSt} (h : qFr a b) (g : qFr b c) : qFr a c := ⟨fun q k hk => (g.1 q k hk).trans (h.1 q k hk), fun q k hk => (g.2 q k hk).trans (h.2 q k hk)⟩
theorem pFr.si {σ τ : zSt} (h : pFr σ τ) {c k : Nat} {v : Int32} (hc : c = 4 ∨ c = 5 ∨ (13 ≤ c ∧ c ≤ 20)) : pFr σ (si τ c k v) := ⟨fun q i hq => by
  rw [gi_si, if_neg (fun e => hq (by rw [e.1]; exact hc))]; exact h.1 q i hq, fun q i hq => by rw [gl_si]; exact h.2 q i hq⟩
theorem pFr.sl {σ τ : zSt} (h : pFr σ τ) {c k : Nat} {v : Int64} (hc : c = 3 ∨ c = 4 ∨ (9 ≤ c ∧ c ≤ 12) ∨ c = 15 ∨ c = 16) : pFr σ (sl τ c k v) := ⟨fun q i hq => by rw [gi_sl]; exact h.1 q i hq, fun q i hq => by
  rw [gl_sl, if_neg (fun e => hq (by rw [e.1]; exact hc))]; exact h.2 q i hq⟩
theorem qFr.si {σ τ : zSt} (h : qFr σ τ) {c k : Nat} {v : Int32} (hc : (c = 61 ∧ (k = 21 ∨ k = 22 ∨ k = 33 ∨ k = 39 ∨ k = 40)) ∨ c = 76 ∨ c = 77 ∨ c = 84) : qFr σ (si τ c k v) := ⟨fun q i hq => by
  rw [gi_si, if_neg (fun e => hq (by rw [e.1, e.2]; exact hc))]; exact h.1 q i hq, fun q i hq => by rw [gl_si]; exact h.2 q i hq⟩
theorem qFr.sl {σ τ : zSt} (h : qFr σ τ) {c k : Nat} {v : Int64} (hc : (c = 61 ∧ (k = 19 ∨ k = 20 ∨ k = 29 ∨ k = 30)) ∨ (72 ≤ c ∧ c ≤ 75) ∨ (78 ≤ c ∧ c ≤ 83)) : qFr σ (sl τ c k v) := ⟨fun q i hq => by rw [gi_sl]; exact h.1 q i hq, fun q i hq => by
  rw [gl_sl, if_neg (fun e => hq (by rw [e.1, e.2]; exact hc))]; exact h.2 q i hq⟩
theorem xFr.p {σ τ : zSt} (h : xFr σ τ) : pFr σ τ := ⟨fun c i _ => h.1 c i, fun c i q => h.2 c i (by omega)⟩
theorem mFr.q {σ τ : zSt} (h : mFr σ τ) : qFr σ τ := ⟨fun c i q => h.1 c i (by omega), fun c i q => h.2 c i (by omega)⟩
theorem pFr.y {σ τ : zSt} (h : pFr σ τ) : yFr σ τ := ⟨fun c i q => h.1 c i (by omega), fun c i q => h.2 c i (by omega)⟩
theorem qFr.w {σ τ : zSt} (h : qFr σ τ) : wFr σ τ := ⟨fun c i q => h.1 c i (by omega), fun c i q => h.2 c i (by omega)⟩
theorem zI_p {C : qCfg} {M : Nat → Nat} {D : Nat → Int} {S : Nat → Bool} {σ τ σ' τ' : zSt} (h : zI C M D S σ τ) (a : pFr σ σ') (b : qFr τ τ') (c : gi τ' 61 39 = gi τ 61 39) (d : zRt σ' τ') : zI C M D S σ' τ' := by
  obtain ⟨h1, h2, h3, h4, h5⟩ := h
  refine ⟨zCf_fr h1 a.y b.w, zTp_fr h2 (a.1 _ _ (by omega)) (fun p => a.1 _ _ (by omega)) (b.1 _ _ (by omega)) (fun p => b.1 _ _ (by omega)), ?_, ?_, d⟩
  · exact ⟨by rw [a.2 _ _ (by omega), b.2 _ _ (by omega)]; exact h3.1, by rw [a.2 _ _ (by omega), b.2 _ _ (by omega)]; exact h3.2⟩
  · exact ⟨by rw [a.1 _ _ (by omega), b.1 _ _ (by omega)]; exact h4.1, by rw [a.1 _ _ (by omega), c]; exact h4.2⟩
theorem x_mid (a b : Int32) : (fX8_middleOf a b).toInt = (a.toInt + b.toInt) / 2 := by
  have ra := qI_rng a
  have rb := qI_rng b
  show (fX8_middleOf_0 a b).toInt = _
  unfold fX8_middleOf_0
  rw [nm_eq, Int64.toInt_toInt32, qL_sh1, qL_add (by rw [qL_ofI, qL_ofI]; omega) (by rw [qL_ofI, qL_ofI]; omega), qL_ofI, qL_ofI, Int.bmod_eq_of_le (by omega) (by omega)]
theorem m_mid {p q : Int64} {a b : Int} (hp : p.toInt = a) (hq : q.toInt = b) (ha : -2147483648 ≤ a ∧ a ≤ 2147483647) (hb : -2147483648 ≤ b ∧ b ≤ 2147483647) : ∃ r, fX9_down (p + q) 2 = some r ∧ r.toInt = (a + b) / 2 := by
  have e : (p + q).toInt = a + b := by rw [qL_add (by omega) (by omega), hp, hq]
  obtain ⟨r, h1, h2⟩ := m_down (x := p + q) (y := 2) (by rw [e2L]; omega) (by rw [e]; omega)
  exact ⟨r, h1, by rw [h2, e, e2L, dn_pos (by omega)]⟩
def zRtN (n : Nat) (σ τ : zSt) : Prop := gi σ 5 5 = Int32.ofNat n ∧ gi τ 61 40 = Int32.ofNat n ∧ ∀ i, i < n → (gi σ 18 i).toInt = (gl τ 82 i).toInt ∧ (gi σ 19 i).toInt = (gl τ 83 i).toInt ∧ gi σ 20 i = gi τ 84 i
theorem zRtN_fr {n : Nat} {σ τ σ' τ' : zSt} (h : zRtN n σ τ) (a1 : gi σ' 5 5 = gi σ 5 5) (a2 : ∀ c i, 18 ≤ c → c ≤ 20 → gi σ' c i = gi σ c i) (b1 : gi τ' 61 40 = gi τ 61 40) (b2 : ∀ i, gi τ' 84 i = gi τ 84 i) (b3 : ∀ c i, c = 82 ∨ c = 83 → gl τ' c i = gl τ c i) : zRtN n σ' τ' := by
  obtain ⟨h2, h3, h4⟩ := h
  exact ⟨by rw [a1]; exact h2, by rw [b1]; exact h3, fun i hi => by
    rw [a2 18 i (by omega) (by omega), a2 19 i (by omega) (by omega), a2 20 i (by omega) (by omega), b2, b3 82 i (by omega), b3 83 i (by omega)]; exact h4 i hi⟩
/-- a part is told -/
theorem z_keep {t : Nat} (ht : t < 60) {σ τ : zSt} (h : zRtN t σ τ) {bg en : Int32} {p q : Int64} (hp : p.toInt = bg.toInt) (hq : q.toInt = en.toInt) {r : Nat} (hr : r ≤ 2) {K : Int32 → Int32 → zSt → Option (Int32 × zSt)} {v1 v4 : Int32} : ∃ σ' τ' t', fX7_keep bg en (Int32.ofNat r) σ = some σ' ∧ fX9_roots_132 K v1 v4 p q (Int32.ofNat r) τ = K v1 v4 τ' ∧ zRtN t' σ' τ' ∧ t' ≤ t + 1 ∧ pFr σ σ' ∧ qFr τ τ' ∧ (gi σ' 5 4 = gi σ 5 4 ∧ ∀ i, gi σ' 17 i = gi σ 17 i) ∧ gi τ' 61 33 = gi τ 61 33 ∧ gi τ' 61 39 = gi τ 61 39 ∧ ∀ c i, c = 78 ∨ c = 79 → gl τ' c i = gl τ c i := by
  obtain ⟨h1, h2, h3⟩ := h
  have et := iNt (n := t) (by omega)
  have vt := vin (N := 60) et ht
  have wt := vin (N := 130) et (by omega)
  have ct := iN_cl (n := t) (by omega)
  have app : ∃ σ' τ', fX7_keep_45 bg en (Int32.ofNat r) σ = some σ' ∧ fX9_roots_254 K v1 v4 p q (Int32.ofNat r) τ = K v1 v4 τ' ∧ zRtN (t + 1) σ' τ' ∧ pFr σ σ' ∧ qFr τ τ' ∧ (gi σ' 5 4 = gi σ 5 4 ∧ ∀ i, gi σ' 17 i = gi σ 17 i) ∧ gi τ' 61 33 = gi τ 61 33 ∧ gi τ' 61 39 = gi τ 61 39 ∧ ∀ c i, c = 78 ∨ c = 79 → gl τ' c i = gl τ c i := by
    unfold fX7_keep_45 fX9_roots_254
    rw [h1, h2, if_neg (by rw [qI_neg0, et]; omega), if_neg (by rw [qI_le, et, e60I]; omega), zg_pos vt, zg_pos vt, zg_pos vt, zg_pos wt, zg_pos wt, zg_pos wt, ct, iN_s (by omega)]
    refine ⟨_, _, rfl, rfl, ⟨by rw [gi_si, if_pos (by omega)], by rw [gi_si, if_pos (by omega)], fun i hi => ?_⟩, (((pFr.rf.si (by omega)).si (by omega)).si (by omega)).si (by omega), (((qFr.rf.sl (by omega)).sl (by omega)).si (by omega)).si (by omega), ⟨by rw [gi_si, if_neg (by omega), gi_si, if_neg (by omega), gi_si, if_neg (by omega), gi_si, if_neg (by omega)], fun i => by rw [gi_si, if_neg (by omega), gi_si, if_neg (by omega), gi_si, if_neg (by omega), gi_si, if_neg (by omega)]⟩, by rw [gi_si, if_neg (by omega), gi_si, if_neg (by omega), gi_sl, gi_sl], by rw [gi_si, if_neg (by omega), gi_si, if_neg (by omega), gi_sl, gi_sl], fun c i hc => by rw [gl_si, gl_si, gl_sl, if_neg (by omega), gl_sl, if_neg (by omega)]⟩
    by_cases e : i = t
    · rw [e]
      refine ⟨?_, ?_, ?_⟩
      · rw [gi_si, if_neg (by omega), gi_si, if_neg (by omega), gi_si, if_neg (by omega), gi_si, if_pos (by omega), gl_si, gl_si, gl_sl, if_neg (by omega), gl_sl, if_pos (by omega), hp]
      · rw [gi_si, if_neg (by omega), gi_si, if_neg (by omega), gi_si, if_pos (by omega), gl_si, gl_si, gl_sl, if_pos (by omega), hq]
      · rw [gi_si, if_neg (by omega), gi_si, if_pos (by omega), gi_si, if_neg (by omega), gi_si, if_pos (by omega)]
    · obtain ⟨k1, k2, k3⟩ := h3 i (by omega)
      refine ⟨?_, ?_, ?_⟩
      · rw [gi_si, if_neg (by omega), gi_si, if_neg (by omega), gi_si, if_neg (by omega), gi_si, if_neg (by omega), gl_si, gl_si, gl_sl, if_neg (by omega), gl_sl, if_neg (by omega)]; exact k1
      · rw [gi_si, if_neg (by omega), gi_si, if_neg (by omega), gi_si, if_neg (by omega), gi_si, if_neg (by omega), gl_si, gl_si, gl_sl, if_neg (by omega), gl_sl, if_neg (by omega)]; exact k2
      · rw [gi_si, if_neg (by omega), gi_si, if_neg (by omega), gi_si, if_neg (by omega), gi_si, if_neg (by omega), gi_si, if_neg (by omega), gi_si, if_neg (by omega), gi_sl, gi_sl]; exact k3
  have app' : ∃ σ' τ' t', fX7_keep_45 bg en (Int32.ofNat r) σ = some σ' ∧ fX9_roots_254 K v1 v4 p q (Int32.ofNat r) τ = K v1 v4 τ' ∧ zRtN t' σ' τ' ∧ t' ≤ t + 1 ∧ pFr σ σ' ∧ qFr τ τ' ∧ (gi σ' 5 4 = gi σ 5 4 ∧ ∀ i, gi σ' 17 i = gi σ 17 i) ∧ gi τ' 61 33 = gi τ 61 33 ∧ gi τ' 61 39 = gi τ 61 39 ∧ ∀ c i, c = 78 ∨ c = 79 → gl τ' c i = gl τ c i := by
    obtain ⟨σ', τ', a1, a2, a3, a4, a5, a6⟩ := app
    exact ⟨σ', τ', t + 1, a1, a2, a3, Nat.le_refl _, a4, a5, a6⟩
  have er := iNt (n := r) (by omega)
  have rm : ¬ Int32.ofNat r = -1 := by rw [qI_eq, er, show (-1 : Int32).toInt = -1 by decide]; omega
  show ∃ σ' τ' t', fX7_keep_0 bg en (Int32.ofNat r) σ = some σ' ∧ _
  unfold fX7_keep_0 fX9_roots_132
  rw [nm_eq, if_neg rm]
  by_cases r0 : r = 0
  · have e0 : Int32.ofNat r = 0 := by rw [r0]; rfl
    rw [if_pos e0, if_pos e0, h1, h2]
    by_cases t0 : t = 0
    · have f1 : Int32.ofNat t - 1 < 0 := by rw [t0]; decide
      have f2 : Int32.ofNat t ≤ 0 := by rw [t0]; decide
      rw [if_pos f1, if_pos f2]
      exact app'
    · have f1 : (Int32.ofNat t - 1).toInt = ((t - 1 : Nat) : Int) := by rw [qI_sub (by rw [et, q1I]; omega) (by rw [et, q1I]; omega), et, q1I]; omega
      have vt1 := vin (N := 60) f1 (by omega)
      have wt1 := vin (N := 130) f1 (by omega)
      obtain ⟨k1, k2, k3⟩ := h3 (t - 1) (by omega)
      rw [if_neg (show ¬ Int32.ofNat t - 1 < 0 by rw [qI_neg0, f1]; omega), if_neg (show ¬ (60 : Int32) ≤ Int32.ofNat t - 1 by rw [qI_le, f1, e60I]; omega), zg_pos vt1, if_neg (show ¬ Int32.ofNat t ≤ 0 by rw [qI_le, et, q0I]; omega), zg_pos wt1, tcn f1, ← k3]
      by_cases g : gi σ 20 (t - 1) = 0
      · rw [if_pos g, if_pos g, zg_pos vt1, zg_pos wt1]
        refine ⟨_, _, t, rfl, rfl, ⟨by rw [gi_si, if_neg (by omega)]; exact h1, h2, fun i hi => ?_⟩, Nat.le_succ t, pFr.rf.si (by omega), qFr.rf.sl (by omega), ⟨by rw [gi_si, if_neg (by omega)], fun i => by rw [gi_si, if_neg (by omega)]⟩, rfl, rfl, fun c i hc => by rw [gl_sl, if_neg (by omega)]⟩
        obtain ⟨m1, m2, m3⟩ := h3 i hi
        refine ⟨by rw [gi_si, if_neg (by omega), gl_sl, if_neg (by omega)]; exact m1, ?_, by rw [gi_si, if_neg (by omega), gi_sl]; exact m3⟩
        by_cases e : i = t - 1
        · rw [gi_si, if_pos (by omega), gl_sl, if_pos (by omega), hq]
        · rw [gi_si, if_neg (by omega), gl_sl, if_neg (by omega)]; exact m2
      · rw [if_neg g, if_neg g]
        exact app'
  · have e0 : ¬ Int32.ofNat r = 0 := by rw [qI_eq, er, q0I]; omega
    rw [if_neg e0, if_neg e0]
    exact app'
