/-! area -/
theorem zI_h {C : qCfg} {M : Nat → Nat} {D : Nat → Int} {S : Nat → Bool} {σ τ σ' τ' : zSt} (h : zI C M D S σ τ) (a : rFr σ σ') (b : tFr τ τ') : zI C M D S σ' τ' := zI_p h a.p b.q (b.1 _ _ (by omega)) (zRt_fr h.2.2.2.2 (a.1 _ _ (by omega)) (fun c i _ _ => a.1 _ _ (by omega)) (b.1 _ _ (by omega)) (fun i => b.1 _ _ (by omega)) (fun c i hc => b.2 _ _ (by omega)))
theorem x_halvings (a : Int32) : fX8_isHalvings a = if 0 ≤ a.toInt ∧ a.toInt ≤ 200 then 1 else 0 := by
  show fX8_isHalvings_0 a = _
  unfold fX8_isHalvings_0
  by_cases x : a < 0
  · rw [if_pos x]
    rw [qI_neg0] at x
    rw [if_neg (by omega)]
  rw [if_neg x]
  rw [qI_neg0] at x
  by_cases y : 200 < a
  · rw [if_pos y]
    rw [qI_lt, e200] at y
    rw [if_neg (by omega)]
  · rw [if_neg y]
    rw [qI_lt, e200] at y
    rw [if_pos (by omega)]
theorem z_tellH {C : qCfg} {M : Nat → Nat} {D : Nat → Int} {S : Nat → Bool} {σ τ : zSt} (h : zI C M D S σ τ) : ∃ σ' : zSt, fX8_tellHalved 1 0 σ = some (0, σ') ∧ zI C M D S σ' (sl (sl (si τ 61 38 (gi σ 4 4)) 61 31 (gl σ 4 5)) 61 32 (gl σ 4 6)) := by
  refine ⟨_, rfl, ?_⟩
  exact zI_lh (zI_pc h (gi σ 4 4)) (gl σ 4 5) (gl σ 4 6)
theorem e30L : (1073741824 : Int64).toInt = 1073741824 := by decide
theorem hs7 (σ τ : zSt) (c a b hvs : Int32) (near : Int64) (h : zInv σ τ) : ∃ (r : Int32) (σ' τ' : zSt), fX8_area c a b hvs near σ = some (r, σ') ∧ fX9_area c a b hvs near τ = some (r, τ') ∧ zInv σ' τ' := by
  obtain ⟨C, M, D, S, h⟩ := h
  show ∃ r σ' τ', fX8_area_0 c a b hvs near σ = _ ∧ fX9_area_0 c a b hvs near τ = _ ∧ _
  unfold fX8_area_0 fX9_area_0
  rw [nm_eq, nm_eq]
  have no : ∃ (r : Int32) (σ' τ' : zSt), some ((-1 : Int32), σ) = some (r, σ') ∧ some ((-1 : Int32), τ) = some (r, τ') ∧ zInv σ' τ' := ⟨_, _, _, rfl, rfl, C, M, D, S, h⟩
  rcases z_has h c with ⟨e1, e2⟩ | ⟨e1, e2, k, rfl, hk⟩
  · rw [e1, e2, if_pos rfl, if_pos rfl]
    exact no
  rw [e1, e2, if_neg iNe1, if_neg iNe1]
  have ra := qI_rng a
  have rb := qI_rng b
  have ew : (b.toInt64 - a.toInt64).toInt = b.toInt - a.toInt := by rw [qL_sub (by rw [qL_ofI, qL_ofI]; omega) (by rw [qL_ofI, qL_ofI]; omega), qL_ofI, qL_ofI]
  by_cases q : b.toInt64 - a.toInt64 < 1
  · rw [if_pos q, if_pos q]; exact no
  rw [if_neg q, if_neg q]
  by_cases q2 : 1073741824 < b.toInt64 - a.toInt64
  · rw [if_pos q2, if_pos q2]; exact no
  rw [if_neg q2, if_neg q2, x_halvings]
  rw [qL_lt, ew, q1L] at q
  rw [qL_lt, ew, e30L] at q2
  by_cases q3 : 0 ≤ hvs.toInt ∧ hvs.toInt ≤ 200
  · rw [if_pos q3, if_neg iNe1, if_neg (show ¬ hvs < 0 by rw [qI_neg0]; omega), if_neg (show ¬ 200 < hvs by rw [qI_lt, e200]; omega)]
    by_cases q4 : 0 ≤ near
    · rw [if_pos q4, if_pos q4]
      obtain ⟨Z, hZ⟩ := zFU_ge 1000 (by omega)
      obtain ⟨⟨⟨hw, hm⟩, -, hx, -, hc⟩, -, -, -, -⟩ := id h
      obtain ⟨σa, hσa⟩ : ∃ σa, σa = si σ 4 4 1 := ⟨_, rfl⟩
      obtain ⟨τa, hτa⟩ : ∃ τa, τa = sl (sl (si τ 61 33 1) 78 0 a.toInt64) 79 0 b.toInt64 := ⟨_, rfl⟩
      have fa : rFr σ σa := by rw [hσa]; exact rFr.rf.si (by omega)
      have ta : tFr τ τa := by rw [hτa]; exact ((tFr.rf.si (by omega)).sl (by omega)).sl (by omega)
      have t78 : (gl τa 78 0).toInt = a.toInt := by rw [hτa, gl_sl, if_neg (by omega), gl_sl, if_pos (by omega), qL_ofI]
      have t79 : (gl τa 79 0).toInt = b.toInt := by rw [hτa, gl_sl, if_pos (by omega), qL_ofI]
      obtain ⟨σ1, f1, r1⟩ := x_sumPart hw hm (xCur_y fa.p.y hx) hk (a := a) (b := b) (by omega) (by omega) (j := 0) (by omega)
      obtain ⟨q1, τ1, g1, g2, g3⟩ := m_sumOf hw (mCur_w ta.q.w hc) hk (a := a) (b := b) (by omega) (by omega) (i := 0) (by omega) t78 t79
      have g1' : fX9_sumOf (Int32.ofNat k) 0 τa = some (q1, τ1) := g1
      have c0 : (0 : Int32).toNatClampNeg = 0 := rfl
      rw [c0, ← hτa, g1', bd2_some]
      have e0 : fX2_sumUp (Int32.ofNat k) a b hvs near σ = bd2 (fX2_sumPart (Int32.ofNat k) 0 a b σa) fun r s => nm (gl s 15 0) fun x => nm (gl s 16 0) fun y => fX2_sumUp_L48 zFU (Int32.ofNat k) hvs near r x y 0 (sl (sl s 4 5 x) 4 6 y) := by rw [hσa]; rfl
      rw [e0]
      have c00 : (Int32.ofNat 0) = (0 : Int32) := rfl
      rcases r1 with ⟨r1, r2⟩ | ⟨x1, y1, r1, r2⟩
      · have hq0 : q1 = 0 := by
          rcases g3 with ⟨-, g⟩ | ⟨g, -⟩
          · exact g
          · rw [r1] at g; cases g
        rw [c00] at r2
        obtain ⟨F, hF⟩ : ∃ F, zFU = F + 1 := ⟨zFU - 1, by omega⟩
        rw [r2, bd2_some, nm_eq, nm_eq, hF, x_dead, bd2_some, if_pos hq0]
        exact ⟨1, _, τ1, rfl, rfl, C, M, D, S, zI_h h (((fa.tr f1.r).sl (by omega)).sl (by omega)) (ta.tr g2.t)⟩
      · have hq1 : q1 = 1 ∧ gl τ1 80 0 = x1 ∧ gl τ1 81 0 = y1 := by
          rcases g3 with ⟨g, -⟩ | ⟨g, g'⟩
          · rw [r1] at g; cases g
          · rw [r1] at g
            obtain ⟨e3, e4⟩ := Prod.mk.inj (Option.some.inj g)
            exact ⟨g', qL_eq.mpr e3.symm, qL_eq.mpr e4.symm⟩
        rw [c00] at r2
        rw [r2, bd2_some, nm_eq, nm_eq, if_neg (show ¬ q1 = 0 by rw [hq1.1]; decide), nm_eq, nm_eq, hq1.2.1, hq1.2.2]
        obtain ⟨s1, hs1⟩ : ∃ s1, s1 = sl (sl (si (si σ1 13 0 a) 14 0 b) 15 0 x1) 16 0 y1 := ⟨_, rfl⟩
        rw [← hs1]
        have fs1 : rFr σ s1 := by rw [hs1]; exact ((((fa.tr f1.r).si (by omega)).si (by omega)).sl (by omega)).sl (by omega)
        have s15 : gl s1 15 0 = x1 := by rw [hs1, gl_sl, if_neg (by omega), gl_sl, if_pos (by omega)]
        have s16 : gl s1 16 0 = y1 := by rw [hs1, gl_sl, if_pos (by omega)]
        have s13 : gi s1 13 0 = a := by rw [hs1, gi_sl, gi_sl, gi_si, if_neg (by omega), gi_si, if_pos (by omega)]
        have s14 : gi s1 14 0 = b := by rw [hs1, gi_sl, gi_sl, gi_si, if_pos (by omega)]
        have s44 : gi s1 4 4 = Int32.ofNat 1 := by rw [hs1, gi_sl, gi_sl, gi_si, if_neg (by omega), gi_si, if_neg (by omega), f1.1, hσa, gi_si, if_pos (by omega)]; rfl
        rw [s15, s16]
        obtain ⟨s2, hs2⟩ : ∃ s2, s2 = sl (sl s1 4 5 x1) 4 6 y1 := ⟨_, rfl⟩
        rw [← hs2]
        have S2l : ∀ c j, c ≠ 4 → gl s2 c j = gl s1 c j := fun c j q => by rw [hs2, gl_sl, if_neg (by omega), gl_sl, if_neg (by omega)]
        have S2 : ∀ c j, gi s2 c j = gi s1 c j := fun c j => by rw [hs2]; rfl
        have p45 : gl s2 4 5 = x1 := by rw [hs2, gl_sl, if_neg (by omega), gl_sl, if_pos (by omega)]
        have p46 : gl s2 4 6 = y1 := by rw [hs2, gl_sl, if_pos (by omega)]
        have bx := pSum_bd hw hk (a := a.toInt) (b := b.toInt) (by omega) (by omega) (by omega) (by omega) r1
        have u78 : gl τ1 78 0 = gl τa 78 0 := g2.2 _ _ (by omega)
        have u79 : gl τ1 79 0 = gl τa 79 0 := g2.2 _ _ (by omega)
        have key := z_area hw hm hk hx hc (hvs := hvs) q3.2 (near := near) (A := a.toInt) (B := b.toInt) (by omega) (by omega) (by omega) 200 0 zFU zFU (fun _ => 0) x1 y1 s2 τ1 (by omega) (by omega) (by omega) (by rw [hs2]; exact (fs1.sl (by omega)).sl (by omega)) (ta.tr g2.t) ⟨by rw [S2]; exact s44, by rw [g2.1 _ _ (by omega), hτa, gi_sl, gi_sl, gi_si, if_pos (by omega)]; rfl, fun i hi => (by
          have : i = 0 := by omega
          subst this
          exact ⟨Nat.zero_lt_one, by rw [u78, t78, S2, s13], by rw [u79, t79, S2, s14], by rw [S2l _ _ (by omega), s15, hq1.2.1], by rw [S2l _ _ (by omega), s16, hq1.2.2]⟩), fun j hj => ⟨0, by omega, show 0 = j by omega⟩, fun i hi => (by
          have : i = 0 := by omega
          subst this
          rw [u78, u79, t78, t79]; omega), fun i hi => absurd hi (by omega)⟩ (fun j hj => by
          have : j = 0 := by omega
          subst this
          rw [S2l _ _ (by omega), S2l _ _ (by omega), s15, s16]; exact bx) (fun j hj => by
          have : j = 0 := by omega
          subst this
          rw [S2, S2, s13, s14]; omega) (by show _ = (0 : Int) + (gl τ1 80 0).toInt; rw [hq1.2.1, Int.zero_add]) (by show _ = (0 : Int) + (gl τ1 81 0).toInt; rw [hq1.2.2, Int.zero_add])
        rw [p45, p46] at key
        obtain ⟨σ', τ', k1, k2, k3⟩ := key
        rcases k3 with ⟨k3, k4⟩ | ⟨k3, k4⟩
        · have k3' : fX2_sumUp_L48 zFU (Int32.ofNat k) hvs near 1 x1 y1 0 s2 = some (0, σ') := k3
          have k4' : fX9_area_L104 zFU (Int32.ofNat k) hvs near x1 y1 0 τ1 = some (1, τ') := k4
          rw [k3', k4', bd2_some]
          exact ⟨1, _, _, rfl, rfl, C, M, D, S, zI_h h k1 k2⟩
        · have k3' : fX2_sumUp_L48 zFU (Int32.ofNat k) hvs near 1 x1 y1 0 s2 = some (1, σ') := k3
          have k4' : fX9_area_L104 zFU (Int32.ofNat k) hvs near x1 y1 0 τ1 = some (0, sl (sl (si τ' 61 38 (gi σ' 4 4)) 61 31 (gl σ' 4 5)) 61 32 (gl σ' 4 6)) := k4
          obtain ⟨σ'', w1, w2⟩ := z_tellH (zI_h h k1 k2)
          rw [k3', k4', bd2_some, w1, bd2_some]
          exact ⟨0, _, _, rfl, rfl, C, M, D, S, w2⟩
    · rw [if_neg q4, if_neg q4]; exact no
  · rw [if_neg q3, if_pos rfl]
    by_cases q5 : hvs < 0
    · rw [if_pos q5]; exact no
    · rw [if_neg q5, if_pos (show 200 < hvs by rw [qI_lt, e200]; rw [qI_neg0] at q5; omega)]; exact no
