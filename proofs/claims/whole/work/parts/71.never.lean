/-! roots, part -/
theorem q1N : (1 : Int32) = Int32.ofNat 1 := rfl
theorem hs8 (σ τ : zSt) (c a b nar : Int32) (h : zInv σ τ) : ∃ (r : Int32) (σ' τ' : zSt), fX8_roots c a b nar σ = some (r, σ') ∧ fX9_roots c a b nar τ = some (r, τ') ∧ zInv σ' τ' := by
  obtain ⟨C, M, D, S, h⟩ := h
  show ∃ r σ' τ', fX8_roots_0 c a b nar σ = _ ∧ fX9_roots_0 c a b nar τ = _ ∧ _
  unfold fX8_roots_0 fX9_roots_0
  rcases z_has h c with ⟨e1, e2⟩ | ⟨e1, e2, k, rfl, hk⟩
  · rw [e1, e2, if_pos rfl, if_pos rfl]
    exact ⟨_, _, _, rfl, rfl, C, M, D, S, h⟩
  rw [e1, e2, if_neg iNe1, if_neg iNe1]
  by_cases q : b ≤ a
  · rw [if_pos q, if_pos q]
    exact ⟨_, _, _, rfl, rfl, C, M, D, S, h⟩
  rw [if_neg q, if_neg q]
  by_cases q2 : 1 ≤ nar
  · rw [if_pos q2, if_pos q2]
    rw [qI_le] at q
    rw [qI_le, q1I] at q2
    have ra := qI_rng a
    have rb := qI_rng b
    obtain ⟨B, hB⟩ := zFU_ge 8589934600 (by omega)
    obtain ⟨⟨⟨hw, hm⟩, -, hx, -, hc⟩, -, -, -, -⟩ := id h
    have c0 : (0 : Int32).toNatClampNeg = 0 := rfl
    obtain ⟨σ1, τ1, t, a1, a2, a3, a4, a5, a6, a7⟩ := z_rootsL hw hm hk q2 (E := b.toInt) (by omega) hx hc (2 * (b.toInt - a.toInt) - 1).toNat zFU zFU 1 0 a 0 (si (si (si (si σ 5 5 0) 5 4 0) 17 0 b) 5 4 (Int32.ofNat (0 + 1))) (sl (sl (si (si τ 61 40 0) 61 33 1) 78 0 a.toInt64) 79 0 b.toInt64) (by omega) (by omega) (by omega) (by decide) (by rw [q0L]; omega) ((((pFr.rf.si (by omega)).si (by omega)).si (by omega)).si (by omega)) ((((qFr.rf.si (by omega)).si (by omega)).sl (by omega)).sl (by omega)) (by rw [gi_sl, gi_sl, gi_si, if_neg (by omega), gi_si, if_neg (by omega)]) ⟨by rw [gi_si, if_pos (by omega)], by rw [gi_sl, gi_sl, gi_si, if_pos (by omega)]; rfl, fun i hi => (by
      have : i = 0 := by omega
      subst this
      rw [gl_sl, if_pos (by omega), gi_si, if_neg (by omega), gi_si, if_pos (by omega), qL_ofI]), fun i hi => absurd hi (by omega), fun _ => (by
      rw [gl_sl, if_neg (by omega), gl_sl, if_pos (by omega), qL_ofI])⟩ (fun i hi => by
      have : i = 0 := by omega
      subst this
      unfold zBg
      rw [if_neg (by omega), gi_si, if_neg (by omega), gi_si, if_pos (by omega)]
      exact ⟨by omega, by omega⟩) ⟨by rw [gi_si, if_neg (by omega), gi_si, if_neg (by omega), gi_si, if_neg (by omega), gi_si, if_pos (by omega)]; rfl, by rw [gi_sl, gi_sl, gi_si, if_neg (by omega), gi_si, if_pos (by omega)]; rfl, fun i hi => absurd hi (by omega)⟩ (by omega)
    · show ∃ r σ' τ', (bd1 (fX7_seekRoots_0 _ a b nar σ) fun s => some (gi s 5 5, s)) = some (r, σ') ∧ _
      unfold fX7_seekRoots_0
      rw [x_await (w := 0) (by omega) (by rw [gi_si, if_pos (by omega)]; rfl), bd1_some, a1, bd1_some, c0, a2, a3.1]
      exact ⟨_, _, _, rfl, rfl, C, M, D, S, zI_p h a5 a6 a7 ⟨t, a4, a3⟩⟩
  · rw [if_neg q2, if_neg q2]
    exact ⟨_, _, _, rfl, rfl, C, M, D, S, h⟩
theorem l_nar {x : Int64} {y : Int32} (h : y.toInt = x.toInt) : Int64.toInt32 x = y := qI_eq.mpr (by
  have := qI_rng y
  rw [Int64.toInt_toInt32, ← h, Int.bmod_eq_of_le (by omega) (by omega)])
theorem e130I : (130 : Int32).toInt = 130 := by decide
theorem hs9 (σ τ : zSt) (a b : Int32) (h : zInv σ τ) : ∃ r : Int32, fX8_part a b σ = some r ∧ fX9_part_ a b τ = some r := by
  obtain ⟨C, M, D, S, -, -, -, -, ⟨n, h1, h2, h3, h4⟩⟩ := h
  have en := iNt (n := n) (by omega)
  show ∃ r, (bd1 (fX7_tellPart_0 a b σ) fun r => some r) = some r ∧ fX9_part__0 a b τ = some r
  unfold fX7_tellPart_0 fX9_part__0
  rw [h2, h3]
  by_cases x : a < 0
  · rw [if_pos x, if_pos x]; exact ⟨_, rfl, rfl⟩
  rw [if_neg x, if_neg x]
  rw [qI_neg0] at x
  by_cases y : a.toInt < n
  · have va := vin (i := a) (n := a.toInt.toNat) (N := 60) (by omega) (by omega)
    have wa := vin (i := a) (n := a.toInt.toNat) (N := 130) (by omega) (by omega)
    obtain ⟨k1, k2, k3⟩ := h4 a.toInt.toNat (by omega)
    rw [if_neg (show ¬ Int32.ofNat n ≤ a by rw [qI_le, en]; omega), if_pos (show a < Int32.ofNat n by rw [qI_lt, en]; exact y), if_pos (show a < 60 by rw [qI_lt, e60I]; omega)]
    have ca : a.toNatClampNeg = a.toInt.toNat := rfl
    by_cases b0 : b = 0
    · rw [if_pos b0, if_pos b0, zg_pos va, zg_pos wa, ca, bd1_some, l_nar k1]; exact ⟨_, rfl, rfl⟩
    rw [if_neg b0, if_neg b0]
    by_cases b1 : b = 1
    · rw [if_pos b1, if_pos b1, zg_pos va, zg_pos wa, ca, bd1_some, l_nar k2]; exact ⟨_, rfl, rfl⟩
    rw [if_neg b1, if_neg b1]
    by_cases b2 : b = 2
    · rw [if_pos b2, if_pos b2, zg_pos va, zg_pos wa, ca, bd1_some, k3]; exact ⟨_, rfl, rfl⟩
    rw [if_neg b2, if_neg b2]
    exact ⟨_, rfl, rfl⟩
  · rw [if_pos (show Int32.ofNat n ≤ a by rw [qI_le, en]; omega), if_neg (show ¬ a < Int32.ofNat n by rw [qI_lt, en]; exact y)]
    exact ⟨_, rfl, rfl⟩
/-! never -/
def nAb (b : Int) : qSh → Bool
  | none => false
  | some q => decide (b < q.1)
def nBr (b : Int) : qSh → Bool
  | none => false
  | some q => decide (q.2 ≤ b)
theorem x_isAbove {f : Int64} {s : qSh} (hf : xS f s) (b : Int32) : fX7_isAbove f b = if nAb b.toInt s then 1 else 0 := by
  show fX7_isAbove_0 f b = _
  unfold fX7_isAbove_0
  cases s with
  | none => rw [if_pos (show f = 4294967296 from hf)]; rfl
  | some q =>
    obtain ⟨h1, h2, -⟩ := hf
    rw [if_neg h1]
    show _ = if decide (b.toInt < q.1) = true then _ else _
    by_cases c : b.toInt < q.1
    · rw [if_neg (show ¬ fX5_lowOf f ≤ b.toInt64 by rw [qL_le, h2, qL_ofI]; omega), if_pos (decide_eq_true c)]
    · rw [if_pos (show fX5_lowOf f ≤ b.toInt64 by rw [qL_le, h2, qL_ofI]; omega), if_neg (by rw [decide_eq_false c]; decide)]
def kFr (σ τ : zSt) : Prop := (∀ c i, ¬ (c = 5 ∧ i = 7) → gi τ c i = gi σ c i) ∧ ∀ c i, ¬ (c = 9 ∨ c = 10 ∨ c = 11 ∨ c = 12 ∨ (c = 3 ∧ (i = 7 ∨ i = 9))) → gl τ c i = gl σ c i
theorem kFr.rf {σ : zSt} : kFr σ σ := ⟨fun _ _ _ => rfl, fun _ _ _ => rfl⟩
theorem kFr.tr {a b c : zSt} (h : kFr a b) (g : kFr b c) : kFr a c := ⟨fun q k hk => (g.1 q k hk).trans (h.1 q k hk), fun q k hk => (g.2 q k hk).trans (h.2 q k hk)⟩
theorem xFr.k {σ τ : zSt} (h : xFr σ τ) : kFr σ τ := ⟨fun c i _ => h.1 c i, h.2⟩
theorem kFr.si7 {σ τ : zSt} (h : kFr σ τ) (v : Int32) : kFr σ (si τ 5 7 v) := ⟨fun c i q => by rw [gi_si, if_neg q]; exact h.1 c i q, h.2⟩
theorem kFr.p {σ τ : zSt} (h : kFr σ τ) : pFr σ τ := ⟨fun c i q => h.1 c i (by omega), fun c i q => h.2 c i (by omega)⟩
theorem x_brk36 {C : qCfg} {M : Nat → Nat} (hw : qWF C) (hm : xNd C M) {σ : zSt} (h0 : xCur C M σ) {k : Nat} (hk : k < C.N) (a b B t v6 : Int32) (K : Int32 → Int32 → Int32 → Int32 → Int32 → zSt → Option (Int32 × zSt)) : ∃ σ', kFr σ σ' ∧ gi σ' 5 7 = t ∧ fX7_breaks_36 K (Int32.ofNat k) a b B v6 t σ = if nBr B.toInt (qV C k t.toInt t.toInt) = true then some (1, σ') else K (Int32.ofNat k) a b B (v6 + 1) σ' := by
  unfold fX7_breaks_36
  have fr0 : kFr σ (si σ 5 7 t) := kFr.rf.si7 t
  obtain ⟨f, σ1, a1, a2, a3, -⟩ := x_m hw hm (xCur_y fr0.p.y h0) hk (a := t) (b := t) 0 (Int.le_refl _)
  rw [a1, bd2_some, nm_eq]
  refine ⟨σ1, fr0.tr a2.k, by rw [a2.1, gi_si, if_pos (by omega)], ?_⟩
  generalize qV C k t.toInt t.toInt = s at a3 ⊢
  cases s with
  | none => rw [if_pos (show f = 4294967296 from a3), if_neg (show ¬ nBr B.toInt none = true from Bool.false_ne_true)]
  | some q =>
    obtain ⟨h1, -, h3, -⟩ := a3
    rw [if_neg h1]
    by_cases c : q.2 ≤ B.toInt
    · rw [if_neg (show ¬ B.toInt64 < fX5_highOf f by rw [qL_lt, h3, qL_ofI]; omega), if_pos (show nBr B.toInt (some q) = true from decide_eq_true c)]
    · rw [if_pos (show B.toInt64 < fX5_highOf f by rw [qL_lt, h3, qL_ofI]; omega), if_neg (show ¬ nBr B.toInt (some q) = true from fun e => c (of_decide_eq_true e))]
theorem m_isNot {C : qCfg} (hw : qWF C) {τ : zSt} (h0 : mCur C τ) {k : Nat} (hk : k < C.N) {a : Int32} (b : Int32) {p : Int64} (hp : p.toInt = a.toInt) : ∃ τ', fX9_isNotAbove (Int32.ofNat k) p b τ = some ((if nBr b.toInt (qV C k a.toInt a.toInt) then 1 else 0), τ') ∧ mFr τ τ' := by
  show ∃ τ', fX9_isNotAbove_0 _ p b τ = _ ∧ _
  unfold fX9_isNotAbove_0
  obtain ⟨r, τ1, a1, a2, a3⟩ := m_m hw h0 hk (a := a) (b := a) (Int.le_refl _) hp hp
  rw [a1, bd2_some]
  generalize qV C k a.toInt a.toInt = s at a3 ⊢
  cases s with
  | none =>
    rw [if_pos (show r = 0 from a3)]
    exact ⟨_, rfl, a2⟩
  | some q =>
    obtain ⟨h1, -, h3⟩ := a3
    rw [if_neg (by rw [h1]; decide)]
    show ∃ σ', _ = some ((if decide (q.2 ≤ b.toInt) = true then 1 else 0), σ') ∧ _
    by_cases c : q.2 ≤ b.toInt
    · rw [if_neg (show ¬ b.toInt64 < gl τ1 61 30 by rw [qL_lt, h3, qL_ofI]; omega), if_pos (decide_eq_true c)]
      exact ⟨_, rfl, a2⟩
    · rw [if_pos (show b.toInt64 < gl τ1 61 30 by rw [qL_lt, h3, qL_ofI]; omega), if_neg (by rw [decide_eq_false c]; decide)]
      exact ⟨_, rfl, a2⟩
noncomputable def brk (C : qCfg) (k : Nat) (a b : Int) (B : Int) : Option Int := if nBr B (qV C k a a) then some a else if nBr B (qV C k b b) then some b else if nBr B (qV C k ((a + b) / 2) ((a + b) / 2)) then some ((a + b) / 2) else none
theorem x_breaksL {C : qCfg} {M : Nat → Nat} (hw : qWF C) (hm : xNd C M) {σ : zSt} (h0 : xCur C M σ) {k : Nat} (hk : k < C.N) (a b B : Int32) (F : Nat) (hF : 4 ≤ F) : ∃ r σ', fX7_breaks_L3 F (Int32.ofNat k) a b B 0 σ = some (r, σ') ∧ kFr σ σ' ∧ ((r = 0 ∧ brk C k a.toInt b.toInt B.toInt = none) ∨ (r = 1 ∧ brk C k a.toInt b.toInt B.toInt = some (gi σ' 5 7).toInt)) := by
  unfold brk
  obtain ⟨F, rfl⟩ : ∃ F', F = F' + 1 := ⟨F - 1, by omega⟩
  rw [fX7_breaks_L3]
  unfold fX7_breaks_3
  rw [if_neg (show ¬ (3 : Int32) ≤ 0 by decide), if_pos (show (0 : Int32) = 0 from rfl)]
  obtain ⟨σ1, a2, a3, a1⟩ := x_brk36 hw hm h0 hk a b B a 0 (fX7_breaks_L3 F)
  rw [a1]
  by_cases c1 : nBr B.toInt (qV C k a.toInt a.toInt) = true
  · rw [if_pos c1, if_pos c1]
    exact ⟨_, _, rfl, a2, Or.inr ⟨rfl, by rw [a3]⟩⟩
  rw [if_neg c1, if_neg c1, show (0 : Int32) + 1 = 1 by decide]
  obtain ⟨F, rfl⟩ : ∃ F', F = F' + 1 := ⟨F - 1, by omega⟩
  rw [fX7_breaks_L3]
  unfold fX7_breaks_3
  rw [if_neg (show ¬ (3 : Int32) ≤ 1 by decide), if_neg (show ¬ (1 : Int32) = 0 by decide), if_pos (show (1 : Int32) = 1 from rfl)]
  obtain ⟨σ2, b2, b3, b1⟩ := x_brk36 hw hm (xCur_y a2.p.y h0) hk a b B b 1 (fX7_breaks_L3 F)
  rw [b1]
  by_cases c2 : nBr B.toInt (qV C k b.toInt b.toInt) = true
  · rw [if_pos c2, if_pos c2]
    exact ⟨_, _, rfl, a2.tr b2, Or.inr ⟨rfl, by rw [b3]⟩⟩
  rw [if_neg c2, if_neg c2, show (1 : Int32) + 1 = 2 by decide]
  obtain ⟨F, rfl⟩ : ∃ F', F = F' + 1 := ⟨F - 1, by omega⟩
  rw [fX7_breaks_L3]
  unfold fX7_breaks_3
  rw [if_neg (show ¬ (3 : Int32) ≤ 2 by decide), if_neg (show ¬ (2 : Int32) = 0 by decide), if_neg (show ¬ (2 : Int32) = 1 by decide)]
  obtain ⟨σ3, d2, d3, d1⟩ := x_brk36 hw hm (xCur_y (a2.tr b2).p.y h0) hk a b B (fX8_middleOf a b) 2 (fX7_breaks_L3 F)
  rw [d1, x_mid]
  by_cases c3 : nBr B.toInt (qV C k ((a.toInt + b.toInt) / 2) ((a.toInt + b.toInt) / 2)) = true
  · rw [if_pos c3, if_pos c3]
    exact ⟨_, _, rfl, (a2.tr b2).tr d2, Or.inr ⟨rfl, by rw [d3, x_mid]⟩⟩
  · rw [if_neg c3, if_neg c3, show (2 : Int32) + 1 = 3 by decide]
    obtain ⟨F, rfl⟩ : ∃ F', F = F' + 1 := ⟨F - 1, by omega⟩
    rw [fX7_breaks_L3]
    unfold fX7_breaks_3
    rw [if_pos (show (3 : Int32) ≤ 3 by decide)]
    exact ⟨_, _, rfl, (a2.tr b2).tr d2, Or.inl ⟨rfl, rfl⟩⟩
theorem x_breaks {C : qCfg} {M : Nat → Nat} (hw : qWF C) (hm : xNd C M) {σ : zSt} (h0 : xCur C M σ) {k : Nat} (hk : k < C.N) (a b B : Int32) : ∃ r σ', fX7_breaks (Int32.ofNat k) a b B σ = some (r, σ') ∧ kFr σ σ' ∧ ((r = 0 ∧ brk C k a.toInt b.toInt B.toInt = none) ∨ (r = 1 ∧ brk C k a.toInt b.toInt B.toInt = some (gi σ' 5 7).toInt)) := by
  obtain ⟨F, hF⟩ := zFU_ge 4 (by omega)
  exact x_breaksL hw hm h0 hk a b B zFU (by omega)
