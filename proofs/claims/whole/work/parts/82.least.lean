/-! least and greatest: the loop -/
def hRw (n : Nat) (σ : zSt) : Prop := ∀ j, j < n → (-2147483648 ≤ (gl σ 15 j).toInt ∧ (gl σ 15 j).toInt ≤ 2147483647) ∧ -2147483648 ≤ (gl σ 16 j).toInt ∧ (gl σ 16 j).toInt ≤ 2147483647
theorem m_162 {n : Nat} (hn : n ≤ 201) (h1 : 1 ≤ n) {τ : zSt} (h33 : gi τ 61 33 = Int32.ofNat n) (hR : ∀ j, j < n → (gl τ 81 j).toInt ≤ 2147483647) {u : Int32} {l : Int64} : ∀ d v F (h : Int64), v + d = n → d < F → (∀ j, j < v → h.toInt ≤ (gl τ 81 j).toInt) → (h.toInt = 2147483648 ∨ ∃ j, j < v ∧ h.toInt = (gl τ 81 j).toInt) → ∃ H, fX9_extreme_L162 F u l h (Int32.ofNat v) τ = some (0, sl (sl (si τ 61 38 (Int32.ofNat n)) 61 31 (if u = 0 then l else -H)) 61 32 (if u = 0 then H else -l)) ∧ isMin (fun j => (gl τ 81 j).toInt) n H.toInt := by
  intro d
  induction d with
  | zero =>
    intro v F h hv hF a b
    obtain ⟨F, rfl⟩ : ∃ F', F = F' + 1 := ⟨F - 1, by omega⟩
    have e : v = n := by omega
    subst e
    rw [fX9_extreme_L162]
    unfold fX9_extreme_162
    rw [h33, if_pos (qI_le.mpr (Int.le_refl _))]
    refine ⟨h, ?_, ?_, a⟩
    · by_cases q : u = 0
      · rw [if_pos q, if_pos q, if_pos q]; rfl
      · rw [if_neg q, if_neg q, if_neg q]; rfl
    · rcases b with b | b
      · have := a 0 (by omega)
        have := hR 0 (by omega)
        omega
      · exact b
  | succ d ih =>
    intro v F h hv hF a b
    obtain ⟨F, rfl⟩ : ∃ F', F = F' + 1 := ⟨F - 1, by omega⟩
    rw [fX9_extreme_L162]
    unfold fX9_extreme_162
    have en := iNt (n := n) (by omega)
    have ev := iNt (n := v) (by omega)
    have vv := vin (N := 260) ev (by omega)
    rw [h33, if_neg (show ¬ Int32.ofNat n ≤ Int32.ofNat v by rw [qI_le, en, ev]; omega), zg_pos vv, nm_eq, nm_eq, iN_cl (by omega), iN_s (by omega)]
    have em : (fX9_less h (gl τ 81 v)).toInt = min h.toInt (gl τ 81 v).toInt := m_less
    have hr := hR v (by omega)
    refine ih (v + 1) F _ (by omega) (by omega) (fun j hj => ?_) ?_
    · rw [em]
      by_cases e : j = v
      · rw [e]; omega
      · have := a j (by omega); omega
    · rw [em]
      by_cases q : h.toInt ≤ (gl τ 81 v).toInt
      · rcases b with b | ⟨j, b1, b2⟩
        · exact Or.inl (by omega)
        · exact Or.inr ⟨j, by omega, by omega⟩
      · exact Or.inr ⟨v, by omega, by omega⟩
/-- how least and greatest end -/
def lEnd (σ0 τ0 : zSt) (u : Int32) (x y : Option (Int32 × zSt)) : Prop := ∃ σ' τ', rFr σ0 σ' ∧ tFr τ0 τ' ∧ ((x = some (0, σ') ∧ y = some (1, τ')) ∨ (x = some (1, σ') ∧ y = some (0, sl (sl (si τ' 61 38 (gi σ' 4 4)) 61 31 (if u = 0 then gl σ' 4 5 else -(gl σ' 4 6))) 61 32 (if u = 0 then gl σ' 4 6 else -(gl σ' 4 5)))))
/-- the Model's last rows -/
noncomputable def mLfin (u : Int32) (τ : zSt) : Option (Int32 × zSt) := bd1 (fX9_least τ) fun r => zg (vp_in r 260) <| nm (gl τ 80 r.toNatClampNeg) fun l => fX9_extreme_L162 zFU u l 2147483648 0 τ
theorem z_Lfin {σ0 τ0 : zSt} {n : Nat} (hn : n ≤ 201) (h1 : 1 ≤ n) {p : Nat → Nat} {σ τ : zSt} (f1 : rFr σ0 σ) (f2 : tFr τ0 τ) (rel : hRel n p σ τ) (rw' : hRw n σ) (u : Int32) : lEnd σ0 τ0 u (fX2_seekLeast_139 1 σ) (mLfin u τ) := by
  obtain ⟨σ', a1, a2, a3, a4, a5⟩ := x_139 hn h1 nar1 rel.1
  obtain ⟨w, w1, w2, w3, w4⟩ := m_least hn h1 rel.2.1
  obtain ⟨Z, hZ⟩ := zFU_ge 1000 (by omega)
  obtain ⟨H, b1, b2⟩ := m_162 (u := u) (l := gl τ 80 w) hn h1 rel.2.1 (fun j hj => by
    obtain ⟨k1, -, -, k4, k5⟩ := rel.2.2.1 j hj
    rw [k5]; exact (rw' _ k1).2.2) n 0 zFU 2147483648 (by omega) (by omega) (fun j hj => absurd hj (by omega)) (Or.inl e31L)
  have b1' : fX9_extreme_L162 zFU u (gl τ 80 w) 2147483648 0 τ = _ := b1
  have m80 : isMin (fun j => (gl τ 80 j).toInt) n (gl τ 80 w).toInt := ⟨⟨w, w1, rfl⟩, w3⟩
  have e1 : gl σ' 4 5 = gl τ 80 w := qL_eq.mpr (isMin_un (p := p) (f := fun j => (gl σ 15 j).toInt) (g := fun j => (gl τ 80 j).toInt) (fun i hi => by
    obtain ⟨k1, -, -, k4, k5⟩ := rel.2.2.1 i hi
    exact ⟨k1, by show (gl τ 80 i).toInt = (gl σ 15 (p i)).toInt; rw [k4]⟩) rel.2.2.2.1 a4 m80)
  have e2 : gl σ' 4 6 = H := qL_eq.mpr (isMin_un (p := p) (f := fun j => (gl σ 16 j).toInt) (g := fun j => (gl τ 81 j).toInt) (fun i hi => by
    obtain ⟨k1, -, -, k4, k5⟩ := rel.2.2.1 i hi
    exact ⟨k1, by show (gl τ 81 i).toInt = (gl σ 16 (p i)).toInt; rw [k5]⟩) rel.2.2.2.1 a5 b2)
  unfold mLfin
  rw [w2, bd1_some, zg_pos (vin (iNt (by omega)) (by omega)), nm_eq, iN_cl (by omega), b1', a1]
  refine ⟨σ', τ, f1.tr a2, f2, Or.inr ⟨rfl, ?_⟩⟩
  rw [e1, e2, a3, rel.1]
theorem x_deadL {F n : Nat} (hn : n ≤ 201) (h1 : 1 ≤ n) {v2 v5 v6 v8 : Int32} {σ : zSt} (h44 : gi σ 4 4 = Int32.ofNat n) : ∃ σ', fX2_seekLeast_L22 (F + 1) v2 v5 v6 0 v8 σ = some (0, σ') ∧ rFr σ σ' := by
  obtain ⟨σ', a1, a2, -⟩ := x_139 hn h1 nar0 h44
  refine ⟨σ', ?_, a2⟩
  rw [fX2_seekLeast_L22]
  unfold fX2_seekLeast_22
  by_cases c : v5 ≤ v8
  · rw [if_pos c]; exact a1
  · rw [if_neg c, if_pos (show (0 : Int32) = 0 from rfl)]; exact a1
theorem z_least {C : qCfg} {M : Nat → Nat} (hw : qWF C) (hm : xNd C M) {k : Nat} (hk : k < C.N) {σ0 τ0 : zSt} (hx : xCur C M σ0) (hc : mCur C τ0) {hvs : Int32} (hv : hvs.toInt ≤ 200) {ng : Bool} {u0 : Int32} (hu : ng = true ↔ ¬ u0 = 0) : ∀ (d i F G : Nat) (p : Nat → Nat) (σ τ : zSt), i + d = 200 → d + 1 < F → d < G → rFr σ0 σ → tFr τ0 τ → hRel (i + 1) p σ τ → hRw (i + 1) σ → lEnd σ0 τ0 u0 (fX2_seekLeast_L22 F (Int32.ofNat k) hvs u0 1 (Int32.ofNat i) σ) (fX9_extreme_L65 G (Int32.ofNat k) hvs u0 (Int32.ofNat i) τ) := by
  intro d
  induction d with
  | zero =>
    intro i F G p σ τ hi hF hG f1 f2 rel bd
    obtain ⟨F, rfl⟩ : ∃ F', F = F' + 1 := ⟨F - 1, by omega⟩
    obtain ⟨G, rfl⟩ : ∃ F', G = F' + 1 := ⟨G - 1, by omega⟩
    rw [fX2_seekLeast_L22, fX9_extreme_L65]
    unfold fX2_seekLeast_22 fX9_extreme_65
    have c1 : hvs ≤ Int32.ofNat i := by rw [qI_le, iNt (by omega)]; omega
    rw [if_pos c1, if_pos c1]
    exact z_Lfin (by omega) (by omega) f1 f2 rel bd u0
  | succ d ih =>
    intro i F G p σ τ hi hF hG f1 f2 rel bd
    obtain ⟨F, rfl⟩ : ∃ F', F = F' + 1 := ⟨F - 1, by omega⟩
    obtain ⟨G, rfl⟩ : ∃ F', G = F' + 1 := ⟨G - 1, by omega⟩
    rw [fX2_seekLeast_L22, fX9_extreme_L65]
    unfold fX2_seekLeast_22 fX9_extreme_65
    have done : lEnd σ0 τ0 u0 (fX2_seekLeast_139 1 σ) (mLfin u0 τ) := z_Lfin (by omega) (by omega) f1 f2 rel bd u0
    by_cases c1 : hvs ≤ Int32.ofNat i
    · rw [if_pos c1, if_pos c1]
      exact done
    rw [if_neg c1, if_neg c1, if_neg iNe1]
    obtain ⟨Z, hZ⟩ := zFU_ge 1000 (by omega)
    obtain ⟨b, hb, b1, b2⟩ := x_deepest (n := i + 1) (by omega) (by omega) rel.1
    obtain ⟨w, hw', w1, w2, w3⟩ := m_least (n := i + 1) (by omega) (by omega) rel.2.1
    have pw : p w = b := h_sel rel (c := fun j => (gl σ 15 j).toInt) (c' := fun j => (gl τ 80 j).toInt) (fun j hj => by
      obtain ⟨-, -, -, k4, k5⟩ := rel.2.2.1 j hj
      show (gl τ 80 j).toInt = (gl σ 15 (p j)).toInt
      rw [k4]) hb hw' b2 w2 w3
    rw [b1, bd1_some, x_can (n := i + 1) (by omega) hb rel.1, bd1_some]
    obtain ⟨-, k2, k3, k4, k5⟩ := rel.2.2.1 w hw'
    rw [pw] at k2 k3 k4 k5
    have vb := vin (N := 201) (iNt (n := b) (by omega)) (by omega)
    have vw := vin (N := 260) (iNt (n := w) (by omega)) (by omega)
    have cb := iN_cl (n := b) (by omega)
    have cw := iN_cl (n := w) (by omega)
    have rr1 := qI_rng (gi σ 13 b)
    have rr2 := qI_rng (gi σ 14 b)
    obtain ⟨bg, hbg⟩ : ∃ bg, bg = gi σ 13 b := ⟨_, rfl⟩
    obtain ⟨en, hen⟩ : ∃ en, en = gi σ 14 b := ⟨_, rfl⟩
    rw [← hbg] at k2 rr1
    rw [← hen] at k3 rr2
    have ew : (gl τ 79 w - gl τ 78 w).toInt = en.toInt - bg.toInt := by rw [qL_sub (by omega) (by omega), k3, k2]
    by_cases c3 : 2 ≤ en.toInt - bg.toInt
    · rw [w1, bd1_some, zg_pos vw, zg_pos vw, cw, if_pos (show (2 : Int64) ≤ gl τ 79 w - gl τ 78 w by rw [qL_le, ew, e2L]; exact c3), cb, ← hbg, ← hen, if_pos c3, if_neg iNe1, zg_pos vb, nm_eq, zg_pos vb, nm_eq, zg_pos vb]
      have mx := x_mid bg en
      obtain ⟨mid, hmid⟩ : ∃ mid : Int32, mid = fX8_middleOf bg en := ⟨_, rfl⟩
      rw [← hmid] at mx ⊢
      -- the first half
      obtain ⟨σ1, f3, r1⟩ := x_sinkPart hw hm (xCur_y f1.p.y hx) hk (a := bg) (b := mid) (by omega) hu (j := b) (by omega)
      obtain ⟨τ1, m, h1, h2, h3, h4⟩ := m_halve (n := i + 1) (w := w) (by omega) hw' rel.2.1 k2 k3 (by omega) (by omega)
      have t1 : tFr τ τ1 := ⟨fun c j q => by rw [h3, if_neg (by omega)], fun c j q => by rw [h4, if_neg (by omega), if_neg (by omega), if_neg (by omega), if_neg (by omega)]⟩
      have t1w : gl τ1 78 w = gl τ 78 w := by rw [h4, if_neg (by omega), if_neg (by omega), if_neg (by omega), if_neg (by omega)]
      have t1w2 : gl τ1 79 w = m := by rw [h4, if_neg (by omega), if_pos (by omega)]
      obtain ⟨q1, τ2, g1, g2, g3⟩ := m_lowOf hw (mCur_w (f2.tr t1).q.w hc) hk (a := bg) (b := mid) (by omega) hu (i := w) (by omega) (by rw [t1w]; exact k2) (by rw [t1w2, h2, mx])
      rw [h1, bd1_some, g1, bd2_some]
      rcases r1 with ⟨r1, r2⟩ | ⟨x1, y1, r1, r2⟩
      · have hq0 : q1 = 0 := by
          rcases g3 with ⟨-, g⟩ | ⟨g, -⟩
          · exact g
          · rw [r1] at g; cases g
        rw [r2, bd2_some, if_pos (show (0 : Int32) = 0 from rfl), if_pos hq0, nm_eq, nm_eq, f3.1, rel.1, iN_s (show i + 1 + 1 < 2147483648 by omega)]
        obtain ⟨F, rfl⟩ : ∃ F', F = F' + 1 := ⟨F - 1, by omega⟩
        obtain ⟨σ', d1, d2⟩ := x_deadL (F := F) (n := i + 1 + 1) (by omega) (by omega) (v2 := Int32.ofNat k) (v5 := hvs) (v6 := u0) (v8 := Int32.ofNat i + 1) (σ := si σ1 4 4 (Int32.ofNat (i + 1 + 1))) (by rw [gi_si, if_pos (by omega)])
        rw [d1]
        exact ⟨σ', τ2, ((f1.tr f3.r).si (by omega)).tr d2, (f2.tr t1).tr g2.t, Or.inl ⟨rfl, rfl⟩⟩
      have hq1 : q1 = 1 ∧ gl τ2 80 w = x1 ∧ gl τ2 81 w = y1 := by
        rcases g3 with ⟨g, -⟩ | ⟨g, g'⟩
        · rw [r1] at g; cases g
        · rw [r1] at g
          obtain ⟨e3, e4⟩ := Prod.mk.inj (Option.some.inj g)
          exact ⟨g', qL_eq.mpr e3.symm, qL_eq.mpr e4.symm⟩
      rw [r2, bd2_some, if_neg iNe1, if_neg (show ¬ q1 = 0 by rw [hq1.1]; decide)]
      obtain ⟨s1, hs1⟩ : ∃ s1, s1 = sl (sl (si (si σ1 13 b bg) 14 b mid) 15 b x1) 16 b y1 := ⟨_, rfl⟩
      rw [← hs1]
      have fs1 : rFr σ s1 := by rw [hs1]; exact (((f3.r.si (by omega)).si (by omega)).sl (by omega)).sl (by omega)
      have s44 : gi s1 4 4 = Int32.ofNat (i + 1) := by rw [hs1, gi_sl, gi_sl, gi_si, if_neg (by omega), gi_si, if_neg (by omega), f3.1]; exact rel.1
      rw [s44, iN_s (show w + 1 < 2147483648 by omega)]
      -- the second half
      obtain ⟨σ2, f4, r3⟩ := x_sinkPart hw hm (xCur_y (f1.tr fs1).p.y hx) hk (a := mid) (b := en) (by omega) hu (j := i + 1) (by omega)
      have T2 := (f2.tr t1).tr g2.t
      have t2w : gl τ2 78 (w + 1) = m := by rw [g2.2 _ _ (by omega), h4, if_pos (by omega)]
      have t2w2 : gl τ2 79 (w + 1) = gl τ 79 w := by rw [g2.2 _ _ (by omega), h4, if_neg (by omega), if_neg (by omega), if_pos (by omega)]
      obtain ⟨q2, τ3, g4, g5, g6⟩ := m_lowOf hw (mCur_w T2.q.w hc) hk (a := mid) (b := en) (by omega) hu (i := w + 1) (by omega) (by rw [t2w, h2, mx]) (by rw [t2w2]; exact k3)
      rw [g4, bd2_some]
      have T3 := T2.tr g5.t
      rcases r3 with ⟨r3, r4⟩ | ⟨x2, y2, r3, r4⟩
      · have hq0 : q2 = 0 := by
          rcases g6 with ⟨-, g⟩ | ⟨g, -⟩
          · exact g
          · rw [r3] at g; cases g
        rw [r4, bd2_some, if_pos (show (0 : Int32) = 0 from rfl), if_pos hq0, nm_eq, nm_eq, f4.1, s44, iN_s (show i + 1 + 1 < 2147483648 by omega)]
        obtain ⟨F, rfl⟩ : ∃ F', F = F' + 1 := ⟨F - 1, by omega⟩
        obtain ⟨σ', d1, d2⟩ := x_deadL (F := F) (n := i + 1 + 1) (by omega) (by omega) (v2 := Int32.ofNat k) (v5 := hvs) (v6 := u0) (v8 := Int32.ofNat i + 1) (σ := si σ2 4 4 (Int32.ofNat (i + 1 + 1))) (by rw [gi_si, if_pos (by omega)])
        rw [d1]
        exact ⟨σ', τ3, (((f1.tr fs1).tr f4.r).si (by omega)).tr d2, T3, Or.inl ⟨rfl, rfl⟩⟩
      have hq2 : q2 = 1 ∧ gl τ3 80 (w + 1) = x2 ∧ gl τ3 81 (w + 1) = y2 := by
        rcases g6 with ⟨g, -⟩ | ⟨g, g'⟩
        · rw [r3] at g; cases g
        · rw [r3] at g
          obtain ⟨e3, e4⟩ := Prod.mk.inj (Option.some.inj g)
          exact ⟨g', qL_eq.mpr e3.symm, qL_eq.mpr e4.symm⟩
      rw [r4, bd2_some, if_neg iNe1, if_neg (show ¬ q2 = 0 by rw [hq2.1]; decide)]
      obtain ⟨s2, hs2⟩ : ∃ s2, s2 = sl (sl (si (si σ2 13 (i + 1) mid) 14 (i + 1) en) 15 (i + 1) x2) 16 (i + 1) y2 := ⟨_, rfl⟩
      rw [← hs2]
      have fs2 : rFr s1 s2 := by rw [hs2]; exact (((f4.r.si (by omega)).si (by omega)).sl (by omega)).sl (by omega)
      have s244 : gi s2 4 4 = Int32.ofNat (i + 1) := by rw [hs2, gi_sl, gi_sl, gi_si, if_neg (by omega), gi_si, if_neg (by omega), f4.1]; exact s44
      rw [s244, nm_eq, nm_eq, nm_eq, iN_s (show i + 1 < 2147483648 by omega), iN_s (show i + 1 + 1 < 2147483648 by omega)]
      -- what the rows hold now
      have X13 : ∀ j, gi s2 13 j = if j = i + 1 then mid else gi σ 13 j := fun j => by
        rw [hs2, gi_sl, gi_sl, gi_si, if_neg (by omega), gi_si]
        by_cases q : j = i + 1
        · rw [if_pos (by omega), if_pos q]
        · rw [if_neg (by omega), if_neg q, f4.1, hs1, gi_sl, gi_sl, gi_si, if_neg (by omega), gi_si]
          by_cases q' : j = b
          · rw [if_pos (by omega), q', hbg]
          · rw [if_neg (by omega), f3.1]
      have X14 : ∀ j, gi s2 14 j = if j = i + 1 then en else if j = b then mid else gi σ 14 j := fun j => by
        rw [hs2, gi_sl, gi_sl, gi_si]
        by_cases q : j = i + 1
        · rw [if_pos (by omega), if_pos q]
        · rw [if_neg (by omega), if_neg q, gi_si, if_neg (by omega), f4.1, hs1, gi_sl, gi_sl, gi_si]
          by_cases q' : j = b
          · rw [if_pos (by omega), if_pos q']
          · rw [if_neg (by omega), if_neg q', gi_si, if_neg (by omega), f3.1]
      have X15 : ∀ j, gl s2 15 j = if j = i + 1 then x2 else if j = b then x1 else gl σ 15 j := fun j => by
        rw [hs2, gl_sl, if_neg (by omega), gl_sl]
        by_cases q : j = i + 1
        · rw [if_pos (by omega), if_pos q]
        · rw [if_neg (by omega), if_neg q, gl_si, gl_si, f4.2 _ _ (by omega), hs1, gl_sl, if_neg (by omega), gl_sl]
          by_cases q' : j = b
          · rw [if_pos (by omega), if_pos q']
          · rw [if_neg (by omega), if_neg q', gl_si, gl_si, f3.2 _ _ (by omega)]
      have X16 : ∀ j, gl s2 16 j = if j = i + 1 then y2 else if j = b then y1 else gl σ 16 j := fun j => by
        rw [hs2, gl_sl]
        by_cases q : j = i + 1
        · rw [if_pos (by omega), if_pos q]
        · rw [if_neg (by omega), if_neg q, gl_sl, if_neg (by omega), gl_si, gl_si, f4.2 _ _ (by omega), hs1, gl_sl]
          by_cases q' : j = b
          · rw [if_pos (by omega), if_pos q']
          · rw [if_neg (by omega), if_neg q', gl_sl, if_neg (by omega), gl_si, gl_si, f3.2 _ _ (by omega)]
      have Mlo : ∀ c j, c = 78 ∨ c = 79 → gl τ3 c j = gl τ1 c j := fun c j q => by rw [g5.2 _ _ (by omega), g2.2 _ _ (by omega)]
      have Mrow : ∀ c j, (c = 80 ∨ c = 81) → j ≠ w → j ≠ w + 1 → gl τ3 c j = gl τ1 c j := fun c j q q1 q2 => by rw [g5.2 _ _ (by omega), g2.2 _ _ (by omega)]
      have M78 : ∀ j, j ≤ i + 1 → gl τ3 78 j = if j ≤ w then gl τ 78 j else if j = w + 1 then m else gl τ 78 (j - 1) := fun j hj => by
        rw [Mlo _ _ (by omega), h4]
        by_cases q : j ≤ w
        · rw [if_neg (by omega), if_neg (by omega), if_neg (by omega), if_neg (by omega), if_pos q]
        · by_cases q' : j = w + 1
          · rw [if_pos (by omega), if_neg q, if_pos q']
          · rw [if_neg (by omega), if_neg (by omega), if_neg (by omega), if_pos (by omega), if_neg q, if_neg q']
      have M79 : ∀ j, j ≤ i + 1 → gl τ3 79 j = if j < w then gl τ 79 j else if j = w then m else gl τ 79 (j - 1) := fun j hj => by
        rw [Mlo _ _ (by omega), h4]
        by_cases q : j < w
        · rw [if_neg (by omega), if_neg (by omega), if_neg (by omega), if_neg (by omega), if_pos q]
        · by_cases q' : j = w
          · rw [if_neg (by omega), if_pos (by omega), if_neg q, if_pos q']
          · by_cases q3 : j = w + 1
            · rw [if_neg (by omega), if_neg (by omega), if_pos (by omega), if_neg q, if_neg q', q3, show w + 1 - 1 = w by omega]
            · rw [if_neg (by omega), if_neg (by omega), if_neg (by omega), if_pos (by omega), if_neg q, if_neg q']
      have M8 : ∀ c, (c = 80 ∨ c = 81) → ∀ j, j ≤ i + 1 → j ≠ w → j ≠ w + 1 → gl τ3 c j = if j < w then gl τ c j else gl τ c (j - 1) := fun c hc' j hj n1 n2 => by
        rw [Mrow c j hc' n1 n2, h4, if_neg (by omega), if_neg (by omega), if_neg (by omega)]
        by_cases q : j < w
        · rw [if_neg (by omega), if_pos q]
        · rw [if_pos (by omega), if_neg q]
      have W80 : gl τ3 80 w = x1 := by rw [g5.2 _ _ (by omega)]; exact hq1.2.1
      have W81 : gl τ3 81 w = y1 := by rw [g5.2 _ _ (by omega)]; exact hq1.2.2
      have M80 : ∀ j, j ≤ i + 1 → gl τ3 80 j = if j < w then gl τ 80 j else if j = w then x1 else if j = w + 1 then x2 else gl τ 80 (j - 1) := fun j hj => by
        by_cases q : j = w
        · rw [if_neg (by omega), if_pos q, q, W80]
        · by_cases q' : j = w + 1
          · rw [if_neg (by omega), if_neg q, if_pos q', q', hq2.2.1]
          · rw [M8 80 (by omega) j hj q q']
            by_cases q3 : j < w
            · rw [if_pos q3, if_pos q3]
            · rw [if_neg q3, if_neg q3, if_neg q, if_neg q']
      have M81 : ∀ j, j ≤ i + 1 → gl τ3 81 j = if j < w then gl τ 81 j else if j = w then y1 else if j = w + 1 then y2 else gl τ 81 (j - 1) := fun j hj => by
        by_cases q : j = w
        · rw [if_neg (by omega), if_pos q, q, W81]
        · by_cases q' : j = w + 1
          · rw [if_neg (by omega), if_neg q, if_pos q', q', hq2.2.2]
          · rw [M8 81 (by omega) j hj q q']
            by_cases q3 : j < w
            · rw [if_pos q3, if_pos q3]
            · rw [if_neg q3, if_neg q3, if_neg q, if_neg q']
      have M33 : gi τ3 61 33 = Int32.ofNat (i + 1 + 1) := by rw [g5.1 _ _ (by omega), g2.1 _ _ (by omega), h3, if_pos (by omega)]
      obtain ⟨s3, hs3⟩ : ∃ s3, s3 = si s2 4 4 (Int32.ofNat (i + 1 + 1)) := ⟨_, rfl⟩
      rw [← hs3]
      have S3 : ∀ c j, c ≠ 4 → gi s3 c j = gi s2 c j := fun c j q => by rw [hs3, gi_si, if_neg (by omega)]
      have S3l : ∀ c j, gl s3 c j = gl s2 c j := fun c j => by rw [hs3, gl_si]
      have rel3 : hRel (i + 1 + 1) (hP (i + 1) w p) s3 τ3 := h_halve rel hw' (m := mid) (mm := m) (x1 := x1) (y1 := y1) (x2 := x2) (y2 := y2) (by rw [h2, mx]) (by rw [h2]; omega) (by rw [h2]; omega) (by rw [hs3, gi_si, if_pos (by omega)]) (fun j hj => by rw [S3 13 j (by omega)]; exact X13 j) (fun j hj => by rw [S3 14 j (by omega), pw, ← hen]; exact X14 j) (fun j hj => by rw [S3l, pw]; exact X15 j) (fun j hj => by rw [S3l, pw]; exact X16 j) M33 M78 M79 M80 M81
      have bx1 := pSink_bd hw hk (a := bg.toInt) (b := mid.toInt) (by omega) (by omega) (by omega) r1
      have bx2 := pSink_bd hw hk (a := mid.toInt) (b := en.toInt) (by omega) (by omega) (by omega) r3
      have bd3 : hRw (i + 1 + 1) s3 := fun j hj => by
        rw [S3l, S3l, X15, X16]
        by_cases q : j = i + 1
        · rw [if_pos q, if_pos q]; exact bx2
        · rw [if_neg q, if_neg q]
          by_cases q' : j = b
          · rw [if_pos q', if_pos q']; exact bx1
          · rw [if_neg q', if_neg q']; exact bd j (by omega)
      exact ih (i + 1) F G (hP (i + 1) w p) s3 τ3 (by omega) (by omega) (by omega) (by rw [hs3]; exact ((f1.tr fs1).tr fs2).si (by omega)) T3 rel3 bd3
    · have e5 : (bd1 (fX9_least τ) fun r73_5 => zg (vp_in r73_5 260) <| zg (vp_in r73_5 260) <| if (2 : Int64) ≤ gl τ 79 r73_5.toNatClampNeg - gl τ 78 r73_5.toNatClampNeg then (bd1 (fX9_halve r73_5 τ) fun s106_9 => bd2 (fX9_lowOf (Int32.ofNat k) r73_5 u0 s106_9) fun r115_10 s115_11 => if r115_10 = 0 then some (1, s115_11) else bd2 (fX9_lowOf (Int32.ofNat k) (r73_5 + 1) u0 s115_11) fun r129_13 s129_14 => if r129_13 = 0 then some (1, s129_14) else nm (Int32.ofNat i + 1) fun x137_16 => fX9_extreme_L65 G (Int32.ofNat k) hvs u0 x137_16 s129_14) else mLfin u0 τ) = mLfin u0 τ := by
        rw [w1, bd1_some, zg_pos vw, zg_pos vw, cw, if_neg (show ¬ (2 : Int64) ≤ gl τ 79 w - gl τ 78 w by rw [qL_le, ew, e2L]; exact c3)]
      have e6 := e5
      rw [← hbg, ← hen, if_neg c3, if_pos (show (0 : Int32) = 0 from rfl)]
      exact Eq.mpr (congrArg (lEnd σ0 τ0 u0 (fX2_seekLeast_139 1 σ)) e6) done
