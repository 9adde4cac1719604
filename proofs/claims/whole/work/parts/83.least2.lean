/-! least, greatest -/
theorem z_ext {C : qCfg} {M : Nat → Nat} {D : Nat → Int} {S : Nat → Bool} {σ τ : zSt} (h : zI C M D S σ τ) {k : Nat} (hk : k < C.N) {a b hvs : Int32} (hab : a.toInt ≤ b.toInt) (hv : hvs.toInt ≤ 200) {ng : Bool} {u : Int32} (hu : ng = true ↔ ¬ u = 0) : lEnd σ τ u (fX2_seekLeast (Int32.ofNat k) a b hvs u σ) (bd2 (fX9_lowOf (Int32.ofNat k) 0 u (sl (sl (si τ 61 33 1) 78 0 a.toInt64) 79 0 b.toInt64)) fun r s => if r = 0 then some (1, s) else fX9_extreme_L65 zFU (Int32.ofNat k) hvs u 0 s) := by
  have ra := qI_rng a
  have rb := qI_rng b
  obtain ⟨Z, hZ⟩ := zFU_ge 1000 (by omega)
  obtain ⟨⟨⟨hw, hm⟩, -, hx, -, hc⟩, -, -, -, -⟩ := id h
  obtain ⟨σa, hσa⟩ : ∃ σa, σa = si σ 4 4 1 := ⟨_, rfl⟩
  obtain ⟨τa, hτa⟩ : ∃ τa, τa = sl (sl (si τ 61 33 1) 78 0 a.toInt64) 79 0 b.toInt64 := ⟨_, rfl⟩
  have fa : rFr σ σa := by rw [hσa]; exact rFr.rf.si (by omega)
  have ta : tFr τ τa := by rw [hτa]; exact ((tFr.rf.si (by omega)).sl (by omega)).sl (by omega)
  have t78 : (gl τa 78 0).toInt = a.toInt := by rw [hτa, gl_sl, if_neg (by omega), gl_sl, if_pos (by omega), qL_ofI]
  have t79 : (gl τa 79 0).toInt = b.toInt := by rw [hτa, gl_sl, if_pos (by omega), qL_ofI]
  obtain ⟨σ1, f1, r1⟩ := x_sinkPart hw hm (xCur_y fa.p.y hx) hk (a := a) (b := b) hab hu (j := 0) (by omega)
  obtain ⟨q1, τ1, g1, g2, g3⟩ := m_lowOf hw (mCur_w ta.q.w hc) hk (a := a) (b := b) hab hu (i := 0) (by omega) t78 t79
  have g1' : fX9_lowOf (Int32.ofNat k) 0 u τa = some (q1, τ1) := g1
  rw [← hτa, g1', bd2_some]
  have e0 : fX2_seekLeast (Int32.ofNat k) a b hvs u σ = bd2 (fX2_sinkPart (Int32.ofNat k) 0 a b u σa) fun r s => fX2_seekLeast_L22 zFU (Int32.ofNat k) hvs u r 0 s := by rw [hσa]; rfl
  rw [e0]
  have c00 : (Int32.ofNat 0) = (0 : Int32) := rfl
  rcases r1 with ⟨r1, r2⟩ | ⟨x1, y1, r1, r2⟩
  · have hq0 : q1 = 0 := by
      rcases g3 with ⟨-, g⟩ | ⟨g, -⟩
      · exact g
      · rw [r1] at g; cases g
    rw [c00] at r2
    obtain ⟨F, hF⟩ : ∃ F, zFU = F + 1 := ⟨zFU - 1, by omega⟩
    obtain ⟨σ', d1, d2⟩ := x_deadL (F := F) (n := 1) (by omega) (by omega) (v2 := Int32.ofNat k) (v5 := hvs) (v6 := u) (v8 := 0) (σ := σ1) (by rw [f1.1, hσa, gi_si, if_pos (by omega)]; rfl)
    rw [r2, bd2_some, hF, d1, if_pos hq0]
    exact ⟨σ', τ1, (fa.tr f1.r).tr d2, ta.tr g2.t, Or.inl ⟨rfl, rfl⟩⟩
  · have hq1 : q1 = 1 ∧ gl τ1 80 0 = x1 ∧ gl τ1 81 0 = y1 := by
      rcases g3 with ⟨g, -⟩ | ⟨g, g'⟩
      · rw [r1] at g; cases g
      · rw [r1] at g
        obtain ⟨e3, e4⟩ := Prod.mk.inj (Option.some.inj g)
        exact ⟨g', qL_eq.mpr e3.symm, qL_eq.mpr e4.symm⟩
    rw [c00] at r2
    rw [r2, bd2_some, if_neg (show ¬ q1 = 0 by rw [hq1.1]; decide)]
    obtain ⟨s1, hs1⟩ : ∃ s1, s1 = sl (sl (si (si σ1 13 0 a) 14 0 b) 15 0 x1) 16 0 y1 := ⟨_, rfl⟩
    rw [← hs1]
    have fs1 : rFr σ s1 := by rw [hs1]; exact ((((fa.tr f1.r).si (by omega)).si (by omega)).sl (by omega)).sl (by omega)
    have s15 : gl s1 15 0 = x1 := by rw [hs1, gl_sl, if_neg (by omega), gl_sl, if_pos (by omega)]
    have s16 : gl s1 16 0 = y1 := by rw [hs1, gl_sl, if_pos (by omega)]
    have s13 : gi s1 13 0 = a := by rw [hs1, gi_sl, gi_sl, gi_si, if_neg (by omega), gi_si, if_pos (by omega)]
    have s14 : gi s1 14 0 = b := by rw [hs1, gi_sl, gi_sl, gi_si, if_pos (by omega)]
    have s44 : gi s1 4 4 = Int32.ofNat 1 := by rw [hs1, gi_sl, gi_sl, gi_si, if_neg (by omega), gi_si, if_neg (by omega), f1.1, hσa, gi_si, if_pos (by omega)]; rfl
    have bx := pSink_bd hw hk (a := a.toInt) (b := b.toInt) (by omega) (by omega) (by omega) r1
    have u78 : gl τ1 78 0 = gl τa 78 0 := g2.2 _ _ (by omega)
    have u79 : gl τ1 79 0 = gl τa 79 0 := g2.2 _ _ (by omega)
    exact z_least hw hm hk hx hc (hvs := hvs) hv hu 200 0 zFU zFU (fun _ => 0) s1 τ1 (by omega) (by omega) (by omega) fs1 (ta.tr g2.t) ⟨s44, by rw [g2.1 _ _ (by omega), hτa, gi_sl, gi_sl, gi_si, if_pos (by omega)]; rfl, fun i hi => (by
      have : i = 0 := by omega
      subst this
      exact ⟨Nat.zero_lt_one, by rw [u78, t78, s13], by rw [u79, t79, s14], by rw [s15, hq1.2.1], by rw [s16, hq1.2.2]⟩), fun j hj => ⟨0, by omega, show 0 = j by omega⟩, fun i hi => (by
      have : i = 0 := by omega
      subst this
      rw [u78, u79, t78, t79]; omega), fun i hi => absurd hi (by omega)⟩ (fun j hj => by
      have : j = 0 := by omega
      subst this
      rw [s15, s16]; exact bx)
theorem hs10 (σ τ : zSt) (c a b hvs : Int32) (h : zInv σ τ) : ∃ (r : Int32) (σ' τ' : zSt), fX8_least c a b hvs σ = some (r, σ') ∧ fX9_least_ c a b hvs τ = some (r, τ') ∧ zInv σ' τ' := by
  obtain ⟨C, M, D, S, h⟩ := h
  show ∃ r σ' τ', fX8_least_0 c a b hvs σ = _ ∧ (bd2 (fX9_extreme_0 c a b hvs 0 τ) fun r s => some (r, s)) = _ ∧ _
  unfold fX8_least_0 fX9_extreme_0
  have no : ∃ (r : Int32) (σ' τ' : zSt), some ((-1 : Int32), σ) = some (r, σ') ∧ (bd2 (some ((-1 : Int32), τ)) fun r s => some (r, s)) = some (r, τ') ∧ zInv σ' τ' := ⟨_, _, _, rfl, rfl, C, M, D, S, h⟩
  rcases z_has h c with ⟨e1, e2⟩ | ⟨e1, e2, k, rfl, hk⟩
  · rw [e1, e2, if_pos rfl, if_pos rfl]
    exact no
  rw [e1, e2, if_neg iNe1, if_neg iNe1]
  by_cases q : b < a
  · rw [if_pos q, if_pos q]; exact no
  rw [if_neg q, if_neg q, x_halvings]
  rw [qI_lt] at q
  by_cases q3 : 0 ≤ hvs.toInt ∧ hvs.toInt ≤ 200
  · rw [if_pos q3, if_neg iNe1, if_neg (show ¬ hvs < 0 by rw [qI_neg0]; omega), if_pos (show hvs ≤ 200 by rw [qI_le, e200]; omega)]
    obtain ⟨σ', τ', k1, k2, k3⟩ := z_ext h hk (a := a) (b := b) (hvs := hvs) (by omega) q3.2 (ng := false) (u := 0) (by decide)
    have c0 : (0 : Int32).toNatClampNeg = 0 := rfl
    rw [c0]
    rcases k3 with ⟨k3, k4⟩ | ⟨k3, k4⟩
    · rw [k3, k4, bd2_some, bd2_some]
      exact ⟨1, _, _, rfl, rfl, C, M, D, S, zI_h h k1 k2⟩
    · rw [if_pos rfl, if_pos rfl] at k4
      obtain ⟨σ'', w1, w2⟩ := z_tellH (zI_h h k1 k2)
      rw [k3, k4, bd2_some, bd2_some, w1, bd2_some]
      exact ⟨0, _, _, rfl, rfl, C, M, D, S, w2⟩
  · rw [if_neg q3, if_pos rfl]
    by_cases q5 : hvs < 0
    · rw [if_pos q5]; exact no
    · rw [if_neg q5, if_neg (show ¬ hvs ≤ 200 by rw [qI_le, e200]; rw [qI_neg0] at q5; omega)]; exact no
theorem z_tellG {C : qCfg} {M : Nat → Nat} {D : Nat → Int} {S : Nat → Bool} {σ τ : zSt} (h : zI C M D S σ τ) : ∃ σ' : zSt, fX8_tellHalved 1 1 σ = some (0, σ') ∧ zI C M D S σ' (sl (sl (si τ 61 38 (gi σ 4 4)) 61 31 (-(gl σ 4 6))) 61 32 (-(gl σ 4 5))) := by
  refine ⟨_, rfl, ?_⟩
  exact zI_lh (zI_pc h (gi σ 4 4)) (-(gl σ 4 6)) (-(gl σ 4 5))
theorem hs11 (σ τ : zSt) (c a b hvs : Int32) (h : zInv σ τ) : ∃ (r : Int32) (σ' τ' : zSt), fX8_greatest c a b hvs σ = some (r, σ') ∧ fX9_greatest c a b hvs τ = some (r, τ') ∧ zInv σ' τ' := by
  obtain ⟨C, M, D, S, h⟩ := h
  show ∃ r σ' τ', fX8_greatest_0 c a b hvs σ = _ ∧ (bd2 (fX9_extreme_0 c a b hvs 1 τ) fun r s => some (r, s)) = _ ∧ _
  unfold fX8_greatest_0 fX9_extreme_0
  have no : ∃ (r : Int32) (σ' τ' : zSt), some ((-1 : Int32), σ) = some (r, σ') ∧ (bd2 (some ((-1 : Int32), τ)) fun r s => some (r, s)) = some (r, τ') ∧ zInv σ' τ' := ⟨_, _, _, rfl, rfl, C, M, D, S, h⟩
  rcases z_has h c with ⟨e1, e2⟩ | ⟨e1, e2, k, rfl, hk⟩
  · rw [e1, e2, if_pos rfl, if_pos rfl]
    exact no
  rw [e1, e2, if_neg iNe1, if_neg iNe1]
  by_cases q : b < a
  · rw [if_pos q, if_pos q]; exact no
  rw [if_neg q, if_neg q, x_halvings]
  rw [qI_lt] at q
  by_cases q3 : 0 ≤ hvs.toInt ∧ hvs.toInt ≤ 200
  · rw [if_pos q3, if_neg iNe1, if_neg (show ¬ hvs < 0 by rw [qI_neg0]; omega), if_pos (show hvs ≤ 200 by rw [qI_le, e200]; omega)]
    obtain ⟨σ', τ', k1, k2, k3⟩ := z_ext h hk (a := a) (b := b) (hvs := hvs) (by omega) q3.2 (ng := true) (u := 1) (by decide)
    have c0 : (0 : Int32).toNatClampNeg = 0 := rfl
    rw [c0]
    rcases k3 with ⟨k3, k4⟩ | ⟨k3, k4⟩
    · rw [k3, k4, bd2_some, bd2_some]
      exact ⟨1, _, _, rfl, rfl, C, M, D, S, zI_h h k1 k2⟩
    · rw [if_neg iNe1, if_neg iNe1] at k4
      obtain ⟨σ'', w1, w2⟩ := z_tellG (zI_h h k1 k2)
      rw [k3, k4, bd2_some, bd2_some, w1, bd2_some]
      exact ⟨0, _, _, rfl, rfl, C, M, D, S, w2⟩
  · rw [if_neg q3, if_pos rfl]
    by_cases q5 : hvs < 0
    · rw [if_pos q5]; exact no
    · rw [if_neg q5, if_neg (show ¬ hvs ≤ 200 by rw [qI_le, e200]; rw [qI_neg0] at q5; omega)]; exact no
