/-! reading a WORD that stands alone */ -/
theorem p17B {n : Nat} {σ0 σ : zSt} {kd pl : Nat} (h : xBad n σ0 kd pl σ) (F : Nat → Int32 → zSt → Option zSt) (a t : Int32) : fX3_piece_17 F a t σ = some σ := by
  unfold fX3_piece_17
  rw [if_neg (xB_ne h)]
theorem p17D {C : qCfg} {n : Nat} {σ0 σ : zSt} {p q d : Nat} {A : Nat → qAct} (h : pX C n σ0 p q d A σ) (F : Nat → Int32 → zSt → Option zSt) (a : Int32) : fX3_piece_17 F a (-2) σ = some σ := by
  unfold fX3_piece_17
  rw [if_pos h.2.1, if_pos rfl]
theorem tree_1 {N : Nat} {A : Nat → qAct} {d : Nat} : tree N A d (d + 1) := fun j h1 h2 => absurd h2 (by omega)
theorem tree_nil {N : Nat} {A : Nat → qAct} {d : Nat} : tree N A d d := fun j h1 h2 => absurd h2 (by omega)
theorem refX2 {C : qCfg} {n : Nat} {β : Nat → Nat} {σ0 τ0 σ : zSt} (hE : pE C n β σ0 τ0) {p q d : Nat} {A : Nat → qAct} (h : pX C n σ0 p q d A σ) {k : Nat} (k1 : 1 ≤ k) (k3 : k ≤ 3) : ∃ σ', fX3_refuse (Int32.ofNat k) σ = some σ' ∧ xBad n σ0 k p σ' ∧ gi σ' 1 2 = Int32.ofNat p := by
  obtain ⟨σ', e, b⟩ := refX hE h k1 k3
  refine ⟨σ', e, b, ?_⟩
  have : fX3_refuse_0 (Int32.ofNat k) σ = some σ' := e
  unfold fX3_refuse_0 at this
  rw [if_pos h.2.1, nm_eq] at this
  rw [← Option.some.inj this, gi_si, if_neg (by omega)]
  exact h.2.2.1.2
/-- "x" -/
theorem sim_x {C : qCfg} {n : Nat} {β : Nat → Nat} {σ0 τ0 σ τ : zSt} (hE : pE C n β σ0 τ0) {o : Nat} {F : Nat → Int32 → zSt → Option zSt} {a : Int32} {p q d e : Nat} {A : Nat → qAct} (hx : pX C n σ0 p q d A σ) (hm : pM C τ0 p q d o A τ) (hk : fX3_kindOf (Int32.ofNat e) σ = some 0) (he : e = p + 1) (hen : e ≤ n) : pR C n σ0 τ0 p q d o A (bd2 (fX3_word_36 (Int32.ofNat e) σ) fun r14_4 s14_5 => fX3_piece_17 F a r14_4 s14_5) (bd1 (fX9_meets (gi τ 61 10) τ) fun s25_21 => nm ((gi s25_21 61 10) + (1 : Int32)) fun x35_22 => bd2 (fX9_make (0 : Int32) (0 : Int32) (0 : Int32) (si s25_21 61 10 x35_22)) fun r42_23 s42_24 => some (r42_23, s42_24)) := by
  have hh := hE.2.1
  have hd := hx.2.2.2.2.1.1
  have mm := metM hm hx.2.2.1.1
  unfold fX3_word_36
  rw [hk, bd1_some, if_neg (show ¬ (0 : Int32) = -1 by decide), hm.2.2.1]
  rcases metX hE hx with ⟨x, σ1, e1, x1⟩ | ⟨x, σ1, e1, b1⟩
  · obtain ⟨τ1, e2, m1⟩ := mm.1 x
    obtain ⟨σ2, e3, x2⟩ := emitX x1 (by omega) (κ := 0) (dt := 0) (lf := 0) (a := (0, 0, 0, none)) trivial rfl
    have m2 := atM m1 e
    obtain ⟨τ2, e4, m3⟩ := mkM hE m2 (by have := x1.2.2.2.1.1; omega) (t := 0) (x := 0) (y := 0) (a := (0, 0, 0, none)) row64
    have x3 := atX x2 hen
    rw [e1, bd2_some, if_neg iNe1, if_pos rfl, e3, bd1_some, if_neg (show ¬ (2 : Int32) < 0 by decide), bd2_some, p17D x3, e2, bd1_some, nm_eq, m1.2.2.1, iN_s (by omega), ← he, e4, bd2_some]
    exact Or.inr ⟨e, q + 1, d + 1, _, _, _, rfl, by rw [show 60 * C.N + (d + 1) - 1 = 60 * C.N + d by omega], ⟨by omega, by omega, by omega⟩, fun j hj => upA_lt hj, tree_1, x3, m3⟩
  · obtain ⟨τ1, e2, b2, f2⟩ := mm.2 x
    rw [e1, bd2_some, if_pos rfl, bd2_some, p17B b1, e2, bd1_some, nm_eq, mkB (siB b2 (by omega) _), bd2_some]
    exact pR.bad b1 (siB b2 (by omega) _)
/-- a number -/
theorem numM {C : qCfg} {n : Nat} {β : Nat → Nat} {σ0 τ0 τ : zSt} (hE : pE C n β σ0 τ0) {p q d o : Nat} {A : Nat → qAct} (h : pM C τ0 p q d o A τ) (hd : d < 60) {e m : Nat} (hpn : p ≤ n) (he : e = we n β p) (hme : m = dr β e p) (hn : isNm β p e m) : ∃ τ', fX9_number τ = some (Int32.ofNat (60 * C.N + d), τ') ∧ pM C τ0 e q (d + 1) o (upA A d (1, 0, 0, nmS (nmV β p e m) (nmB e m))) τ' := by
  obtain ⟨w1, w2, w3, w4⟩ := we_ok (β := β) hE.2.1 hpn
  rw [← he] at w1 w2 w3 w4
  have hh := hE.2.1
  obtain ⟨d1, d2, d3, d4⟩ := dr_ok (β := β) w1 (by omega)
  rw [← hme] at d1 d2 d3 d4
  have hN : gi τ 61 3 = Int32.ofNat C.N := by rw [h.1.1 _ _ (by omega)]; exact hE.2.2.2.2.2.2
  obtain ⟨lo, hi, s1, s2⟩ := m_number hE.2.1 hE.2.2.1 (tp_M hE h.1) h.2.1 hN h.2.2.2.2.1 hE.1 hd h.2.2.1 w2 d2 hn d4 (fun a b => w3 a b)
  refine ⟨_, s2, ?_⟩
  obtain ⟨h1, h2, h3, h4, h5, h6, h7⟩ := h
  refine ⟨(((((((h1.si (by omega)).si (by omega)).si (by omega)).si (by omega)).si (by omega)).sl (by omega)).sl (by omega)), ?_, ?_, ?_, ?_, ?_, fun j hj => ?_⟩
  · unfold mRow; rw [gi_sl, gi_sl, gi_si, if_neg (by omega), gi_si, if_neg (by omega), gi_si, if_neg (by omega), gi_si, if_neg (by omega), gi_si, if_neg (by omega)]; exact h2
  · unfold mRow; rw [gi_sl, gi_sl, gi_si, if_neg (by omega), gi_si, if_neg (by omega), gi_si, if_neg (by omega), gi_si, if_neg (by omega), gi_si, if_pos (by omega)]
  · unfold mRow; rw [gi_sl, gi_sl, gi_si, if_neg (by omega), gi_si, if_neg (by omega), gi_si, if_neg (by omega), gi_si, if_neg (by omega), gi_si, if_neg (by omega)]; exact h4
  · unfold mRow; rw [gi_sl, gi_sl, gi_si, if_pos (by omega)]
  · unfold mRow; rw [gi_sl, gi_sl, gi_si, if_neg (by omega), gi_si, if_neg (by omega), gi_si, if_neg (by omega), gi_si, if_neg (by omega), gi_si, if_neg (by omega)]; exact h6
  · by_cases jd : j = d
    · rw [jd, upA_at]
      refine ⟨?_, ?_⟩
      · rw [gi_sl, gi_sl]; exact row64
      · rw [gl_sl, if_neg (by omega), gl_sl, if_pos (by omega), gl_sl, if_pos (by omega)]
        exact s1
    · rw [upA_lt (by omega)]
      refine mAct_cg (σ := τ) (τ := sl (sl (mRow (si τ 61 10 (Int32.ofNat e)) (60 * C.N + d) d 1 0 0) 67 (60 * C.N + d) lo) 68 (60 * C.N + d) hi) ?_ ?_ ?_ ?_ ?_ (h7 j (by omega))
      · unfold mRow; rw [gi_sl, gi_sl, gi_si, if_neg (by omega), gi_si, if_neg (by omega), gi_si, if_neg (by omega), gi_si, if_neg (by omega), gi_si, if_neg (by omega)]
      · unfold mRow; rw [gi_sl, gi_sl, gi_si, if_neg (by omega), gi_si, if_neg (by omega), gi_si, if_neg (by omega), gi_si, if_neg (by omega), gi_si, if_neg (by omega)]
      · unfold mRow; rw [gi_sl, gi_sl, gi_si, if_neg (by omega), gi_si, if_neg (by omega), gi_si, if_neg (by omega), gi_si, if_neg (by omega), gi_si, if_neg (by omega)]
      · unfold mRow; rw [gl_sl, if_neg (by omega), gl_sl, if_neg (by omega)]; rfl
      · unfold mRow; rw [gl_sl, if_neg (by omega), gl_sl, if_neg (by omega)]; rfl
theorem sim_num {C : qCfg} {n : Nat} {β : Nat → Nat} {σ0 τ0 σ τ : zSt} (hE : pE C n β σ0 τ0) {o : Nat} {F : Nat → Int32 → zSt → Option zSt} {a : Int32} {p q d e : Nat} {A : Nat → qAct} (hx : pX C n σ0 p q d A σ) (hm : pM C τ0 p q d o A τ) (hk : fX3_kindOf (Int32.ofNat e) σ = some 1) (he : e = we n β p) (hn : isNm β p e (dr β e p)) : pR C n σ0 τ0 p q d o A (bd2 (fX3_word_36 (Int32.ofNat e) σ) fun r14_4 s14_5 => fX3_piece_17 F a r14_4 s14_5) (bd1 (fX9_meets (gi τ 61 10) τ) fun s59_17 => 
        (if (fX9_bad s59_17) = 0 then bd2 (fX9_number s59_17) fun r74_19 s74_20 => some (r74_19, s74_20)
        else some ((0 : Int32), s59_17))) := by
  have hh := hE.2.1
  have hd := hx.2.2.2.2.1.1
  have hp := hx.2.2.1.1
  have mm := metM hm hx.2.2.1.1
  obtain ⟨w1, w2, w3, w4⟩ := we_ok (β := β) hE.2.1 hp
  rw [← he] at w1 w2 w3 w4
  obtain ⟨d1, d2, d3, d4⟩ := dr_ok (β := β) w1 (by omega)
  unfold fX3_word_36
  rw [hk, bd1_some, if_neg (show ¬ (1 : Int32) = -1 by decide), hm.2.2.1]
  rcases metX hE hx with ⟨x, σ1, e1, x1⟩ | ⟨x, σ1, e1, b1⟩
  · obtain ⟨τ1, e2, m1⟩ := mm.1 x
    obtain ⟨r, n1, n2⟩ := x_number hE.2.1 hE.2.2.1 (tp_X hE x1.1) x1.2.2.1.2 w2 d2 hn d4
    obtain ⟨σ2, e3, x2⟩ := emitX x1 (by omega) (κ := 1) (dt := r) (lf := 0) (a := (1, 0, 0, nmS (nmV β p e (dr β e p)) (nmB e (dr β e p)))) n2.ok ⟨rfl, n2⟩
    obtain ⟨τ2, e4, m3⟩ := numM hE m1 (by have := x1.2.2.2.1.1; omega) hp he rfl hn
    have x3 := atX x2 w2
    rw [e1, bd2_some, if_neg iNe1, if_neg iNe1, if_pos rfl, n1, bd1_some, e3, bd1_some, if_neg (show ¬ (2 : Int32) < 1 by decide), bd2_some, p17D x3, e2, bd1_some, if_pos (bdM m1), e4, bd2_some]
    exact Or.inr ⟨e, q + 1, d + 1, _, _, _, rfl, by rw [show 60 * C.N + (d + 1) - 1 = 60 * C.N + d by omega], ⟨by have := hn.1; omega, by omega, by omega⟩, fun j hj => upA_lt hj, tree_1, x3, m3⟩
  · obtain ⟨τ1, e2, b2, f2⟩ := mm.2 x
    rw [e1, bd2_some, if_pos rfl, bd2_some, p17B b1, e2, bd1_some, if_neg (bdB b2)]
    exact pR.bad b1 b2
/-- no word -/
theorem m_c17 {C : qCfg} {n : Nat} {β : Nat → Nat} {σ0 τ0 τ : zSt} (hE : pE C n β σ0 τ0) {o : Nat} (F : Nat → Int32 → zSt → Option (Int32 × zSt)) (K : Int32 → Int32 → Int32 → zSt → Option (Int32 × zSt)) {p q d e : Nat} {A : Nat → qAct} (hm : pM C τ0 p q d o A τ) (hp : p ≤ n) (he : e ≤ n) (hpe : p ≤ e) : (isCv β p e → fX9_part_125 F K (chI n β p) (Int32.ofNat e) 17 τ = bd1 (fX9_meets (gi τ 61 10) τ) fun s206_16 => zg (vp_in ((gi s206_16 61 10) + (1 : Int32)) 200) <| nm ((gi s206_16 62 ((gi s206_16 61 10) + (1 : Int32)).toNatClampNeg) - (48 : Int32)) fun x222_18 => 
              (if (fX9_bad s206_16) = 0 then 
                (if x222_18 < (gi s206_16 61 3) then nm ((gi s206_16 61 10) + (2 : Int32)) fun x256_24 => bd2 (fX9_make (2 : Int32) x222_18 (0 : Int32) (si s206_16 61 10 x256_24)) fun r263_25 s263_26 => some (r263_25, s263_26)
                else bd2 (fX9_fails (2 : Int32) (gi s206_16 61 10) s206_16) fun r245_27 s245_28 => nm ((gi s245_28 61 10) + (2 : Int32)) fun x256_29 => bd2 (fX9_make (2 : Int32) x222_18 (0 : Int32) (si s245_28 61 10 x256_29)) fun r263_30 s263_31 => some (r263_30, s263_31))
              else nm ((gi s206_16 61 10) + (2 : Int32)) fun x256_20 => bd2 (fX9_make (2 : Int32) x222_18 (0 : Int32) (si s206_16 61 10 x256_20)) fun r263_21 s263_22 => some (r263_21, s263_22))) ∧ (¬ isCv β p e → fX9_part_125 F K (chI n β p) (Int32.ofNat e) 17 τ = bd2 (fX9_fails 1 (Int32.ofNat p) τ) fun r s => some (r, s)) := by
  have hh := hE.2.1
  have e56 : (56 : Int32).toInt = 56 := by decide
  have cm := chI_eq (n := n) (β := β) (p := p) (fun h => hE.2.2.1 _ h) (k := 99) (by omega)
  have tm := tp_M hE hm.1
  unfold fX9_part_125
  rw [if_pos (show (16 : Int32) < 17 by decide), hm.2.2.1, show (2 : Int32) = Int32.ofNat 2 from rfl, iN_a (by omega), iN_s (by omega), m_isD hE.2.1 (by omega) (hE.2.2.1 (p + 1)) tm, bd1_some]
  refine ⟨fun c => ?_, fun c => ?_⟩
  · obtain ⟨c1, c2, c3, c4⟩ := c
    have hb := tm.2 (p + 1) (by omega)
    rw [if_pos (show chI n β p = 99 from cm.mpr ⟨by omega, c2⟩), if_pos (show Int32.ofNat e = Int32.ofNat (p + 2) by rw [c1]), if_pos (show p + 1 < n ∧ isDb (β (p + 1)) = true from ⟨by omega, db_iff.mpr (by omega)⟩), if_neg iNe1, zg_pos (vin (iNt (n := p + 1) (by omega)) (by omega)), iN_cl (n := p + 1) (by omega), if_neg (show ¬ (56 : Int32) ≤ gi τ 62 (p + 1) by rw [qI_le, e56, hb]; split <;> omega)]
  · by_cases a1 : p < n ∧ β p = 99
    · rw [if_pos (show chI n β p = 99 from cm.mpr a1)]
      by_cases a2 : e = p + 2
      · rw [if_pos (show Int32.ofNat e = Int32.ofNat (p + 2) by rw [a2])]
        by_cases a3 : p + 1 < n ∧ isDb (β (p + 1)) = true
        · have hb := tm.2 (p + 1) a3.1
          have db := db_iff.mp a3.2
          rw [if_pos a3, if_neg iNe1, zg_pos (vin (iNt (n := p + 1) (by omega)) (by omega)), iN_cl (n := p + 1) (by omega), if_pos (show (56 : Int32) ≤ gi τ 62 (p + 1) by
            rw [qI_le, e56, hb, if_pos (by omega)]
            have : ¬ β (p + 1) < 56 := fun g => c ⟨a2, a1.2, db.1, g⟩
            omega)]
        · rw [if_neg a3, if_pos rfl]
      · rw [if_neg (show ¬ Int32.ofNat e = Int32.ofNat (p + 2) by rw [qI_eq, iNt (by omega), iNt (by omega)]; omega)]
    · rw [if_neg (show ¬ chI n β p = 99 from fun g => a1 (cm.mp g))]
theorem sim_no {C : qCfg} {n : Nat} {β : Nat → Nat} {σ0 τ0 σ τ : zSt} (hE : pE C n β σ0 τ0) {o : Nat} {F : Nat → Int32 → zSt → Option zSt} {a : Int32} {p q d e : Nat} {A : Nat → qAct} (hx : pX C n σ0 p q d A σ) (hm : pM C τ0 p q d o A τ) (hk : fX3_kindOf (Int32.ofNat e) σ = some (-1)) : pR C n σ0 τ0 p q d o A (bd2 (fX3_word_36 (Int32.ofNat e) σ) fun r14_4 s14_5 => fX3_piece_17 F a r14_4 s14_5) (bd2 (fX9_fails 1 (Int32.ofNat p) τ) fun r s => some (r, s)) := by
  obtain ⟨σ1, e1, b1⟩ := refX hE hx (k := 1) (by omega) (by omega)
  obtain ⟨τ1, e2, b2, -⟩ := failM hm hx.2.2.1.1 (k := 1) (by omega) (by omega)
  unfold fX3_word_36
  rw [hk, bd1_some, if_pos rfl, show (1 : Int32) = Int32.ofNat 1 from rfl, e1, bd1_some, bd2_some, p17B b1, e2, bd2_some]
  exact pR.bad b1 b2
/-- a CURVE -/
theorem sim_cv {C : qCfg} {n : Nat} {β : Nat → Nat} {σ0 τ0 σ τ : zSt} (hE : pE C n β σ0 τ0) {o : Nat} {F : Nat → Int32 → zSt → Option zSt} {a : Int32} {p q d e : Nat} {A : Nat → qAct} (hx : pX C n σ0 p q d A σ) (hm : pM C τ0 p q d o A τ) (hk : fX3_kindOf (Int32.ofNat e) σ = some 2) (hen : e ≤ n) (hc : isCv β p e) : pR C n σ0 τ0 p q d o A (bd2 (fX3_word_36 (Int32.ofNat e) σ) fun r14_4 s14_5 => fX3_piece_17 F a r14_4 s14_5) (bd1 (fX9_meets (gi τ 61 10) τ) fun s206_16 => zg (vp_in ((gi s206_16 61 10) + (1 : Int32)) 200) <| nm ((gi s206_16 62 ((gi s206_16 61 10) + (1 : Int32)).toNatClampNeg) - (48 : Int32)) fun x222_18 => 
              (if (fX9_bad s206_16) = 0 then 
                (if x222_18 < (gi s206_16 61 3) then nm ((gi s206_16 61 10) + (2 : Int32)) fun x256_24 => bd2 (fX9_make (2 : Int32) x222_18 (0 : Int32) (si s206_16 61 10 x256_24)) fun r263_25 s263_26 => some (r263_25, s263_26)
                else bd2 (fX9_fails (2 : Int32) (gi s206_16 61 10) s206_16) fun r245_27 s245_28 => nm ((gi s245_28 61 10) + (2 : Int32)) fun x256_29 => bd2 (fX9_make (2 : Int32) x222_18 (0 : Int32) (si s245_28 61 10 x256_29)) fun r263_30 s263_31 => some (r263_30, s263_31))
              else nm ((gi s206_16 61 10) + (2 : Int32)) fun x256_20 => bd2 (fX9_make (2 : Int32) x222_18 (0 : Int32) (si s206_16 61 10 x256_20)) fun r263_21 s263_22 => some (r263_21, s263_22))) := by
  obtain ⟨c1, c2, c3, c4⟩ := hc
  have hh := hE.2.1
  have hd := hx.2.2.2.2.1.1
  have hp := hx.2.2.1.1
  have hN7 := hE.1
  have mm := metM hm hx.2.2.1.1
  have e48 : (48 : Int32).toInt = 48 := by decide
  unfold fX3_word_36
  rw [hk, bd1_some, if_neg (show ¬ (2 : Int32) = -1 by decide), hm.2.2.1]
  rcases metX hE hx with ⟨x, σ1, e1, x1⟩ | ⟨x, σ1, e1, b1⟩
  · obtain ⟨τ1, e2, m1⟩ := mm.1 x
    obtain ⟨i, hi⟩ : ∃ i, i = β (p + 1) - 48 := ⟨_, rfl⟩
    have tm := tp_M hE m1.1
    have hb := tm.2 (p + 1) (by omega)
    rw [if_pos (show β (p + 1) < 128 by omega)] at hb
    have ei : gi τ1 62 (p + 1) - 48 = Int32.ofNat i := by
      rw [qI_eq, qI_sub (by rw [hb, e48]; omega) (by rw [hb, e48]; omega), hb, e48, iNt (by omega)]; omega
    have cn : ∀ {σ' : zSt}, pFx σ0 σ' → gi σ' 1 2 = Int32.ofNat p → fX3_curveNumber σ' = some (Int32.ofNat i) := fun f g => by
      obtain ⟨r, r1, r2⟩ := x_curveNumber hE.2.1 hE.2.2.1 (tp_X hE f) g (by omega)
      rw [r1, iN_of (x := r) (n := i) (by omega)]
    have hN : gi τ1 61 3 = Int32.ofNat C.N := by rw [m1.1.1 _ _ (by omega)]; exact hE.2.2.2.2.2.2
    have hN' : gi σ1 1 5 = Int32.ofNat C.N := by rw [x1.1.1 _ _ (by omega)]; exact hE.2.2.2.2.2.1
    rw [e1, bd2_some, if_neg iNe1, if_neg (show ¬ (2 : Int32) = 0 by decide), if_neg (show ¬ (2 : Int32) = 1 by decide), if_pos rfl, cn x1.1 x1.2.2.1.2, bd1_some, hN', e2, bd1_some, m1.2.2.1, iN_s (by omega), zg_pos (vin (iNt (n := p + 1) (by omega)) (by omega)), iN_cl (n := p + 1) (by omega), nm_eq, ei, if_pos (bdM m1), hN]
    by_cases y : i < C.N
    · have c2' : ∀ σ2, fX3_emit 2 (Int64.ofNat i) 0 σ1 = some σ2 → fX3_word_119 (Int32.ofNat e) 2 σ1 = some (-2, si σ2 1 2 (Int32.ofNat e)) := fun σ2 h => by
        unfold fX3_word_119
        have : Int32.toInt64 (Int32.ofNat i) = Int64.ofNat i := by rw [qL_eq, qL_ofI, iNt (by omega), lNt (by omega)]
        rw [cn x1.1 x1.2.2.1.2, bd1_some, this, h, bd1_some, if_neg (show ¬ (2 : Int32) < 2 by decide)]
      obtain ⟨σ2, e3, x2⟩ := emitX x1 (by omega) (κ := 2) (dt := Int64.ofNat i) (lf := 0) (a := (2, i, 60 * i + C.len i - 1, none)) ⟨y, rfl⟩ ⟨rfl, lNt (by omega)⟩
      have m2 := atM m1 e
      obtain ⟨τ2, e4, m3⟩ := mkM hE m2 (by have := x1.2.2.2.1.1; omega) (t := 2) (x := Int32.ofNat i) (y := 0) (a := (2, i, 60 * i + C.len i - 1, none)) ⟨row64, row65⟩
      have x3 := atX x2 hen
      rw [if_pos (show Int32.ofNat i < Int32.ofNat C.N by rw [qI_lt, iNt (by omega), iNt (by omega)]; omega), if_pos (show Int32.ofNat i < Int32.ofNat C.N by rw [qI_lt, iNt (by omega), iNt (by omega)]; omega), c2' σ2 e3, bd2_some, p17D x3, nm_eq, show Int32.ofNat p + 2 = Int32.ofNat e by rw [show (2 : Int32) = Int32.ofNat 2 from rfl, iN_a (by omega), ← c1], e4, bd2_some]
      exact Or.inr ⟨e, q + 1, d + 1, _, _, _, rfl, by rw [show 60 * C.N + (d + 1) - 1 = 60 * C.N + d by omega], ⟨by omega, by omega, by omega⟩, fun j hj => upA_lt hj, tree_1, x3, m3⟩
    · obtain ⟨σ2, e3, b3, f3⟩ := refX2 hE x1 (k := 2) (by omega) (by omega)
      obtain ⟨τ2, e4, b4, f4⟩ := failM m1 hp (k := 2) (by omega) (by omega)
      have c2' : fX3_word_119 (Int32.ofNat e) 2 σ2 = some (-2, si σ2 1 2 (Int32.ofNat e)) := by
        unfold fX3_word_119
        rw [cn b3.1 f3, bd1_some, emitB b3, bd1_some, if_neg (show ¬ (2 : Int32) < 2 by decide)]
      rw [if_neg (show ¬ Int32.ofNat i < Int32.ofNat C.N by rw [qI_lt, iNt (by omega), iNt (by omega)]; omega), if_neg (show ¬ Int32.ofNat i < Int32.ofNat C.N by rw [qI_lt, iNt (by omega), iNt (by omega)]; omega), show fX3_refuse 2 σ1 = some σ2 from e3, bd1_some, c2', bd2_some, p17B (atB b3 _), show fX9_fails 2 (Int32.ofNat p) τ1 = some (0, τ2) from e4, bd2_some, nm_eq, mkB (siB b4 (by omega) _), bd2_some]
      exact pR.bad (atB b3 _) (siB b4 (by omega) _)
  · obtain ⟨τ1, e2, b2, f2⟩ := mm.2 x
    rw [e1, bd2_some, if_pos rfl, bd2_some, p17B b1, e2, bd1_some, f2, iN_s (by omega), zg_pos (vin (iNt (n := p + 1) (by omega)) (by omega)), nm_eq, if_neg (bdB b2), nm_eq, mkB (siB b2 (by omega) _), bd2_some]
    exact pR.bad b1 (siB b2 (by omega) _)
