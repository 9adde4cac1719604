/-! areas: the loop -/
def zSp (A B : Int) (n : Nat) (σ : zSt) : Prop := ∀ j, j < n → A ≤ (gi σ 13 j).toInt ∧ (gi σ 13 j).toInt ≤ (gi σ 14 j).toInt ∧ (gi σ 14 j).toInt ≤ B
theorem h_mBd {n : Nat} {p : Nat → Nat} {σ τ : zSt} (h : hRel n p σ τ) (b : hBd n σ) : mBd n τ := fun i hi => by
  obtain ⟨k1, -, -, k4, k5⟩ := h.2.2.1 i hi
  rw [k4, k5]; exact b _ k1
theorem z_area {C : qCfg} {M : Nat → Nat} (hw : qWF C) (hm : xNd C M) {k : Nat} (hk : k < C.N) {σ0 τ0 : zSt} (hx : xCur C M σ0) (hc : mCur C τ0) {hvs : Int32} (hv : hvs.toInt ≤ 200) {near : Int64} {A B : Int} (hA : -2147483648 ≤ A) (hB : B ≤ 2147483647) (hAB : B - A ≤ 1073741824) : ∀ (d i F G : Nat) (p : Nat → Nat) (vl vh : Int64) (σ τ : zSt), i + d = 200 → d + 1 < F → d < G → rFr σ0 σ → tFr τ0 τ → hRel (i + 1) p σ τ → hBd (i + 1) σ → zSp A B (i + 1) σ → vl.toInt = sumT (s80 τ) (i + 1) → vh.toInt = sumT (s81 τ) (i + 1) → aEnd σ0 τ0 (fX2_sumUp_L48 F (Int32.ofNat k) hvs near 1 vl vh (Int32.ofNat i) σ) (fX9_area_L104 G (Int32.ofNat k) hvs near (gl σ 4 5) (gl σ 4 6) (Int32.ofNat i) τ) := by
  intro d
  induction d with
  | zero =>
    intro i F G p vl vh σ τ hi hF hG f1 f2 rel bd sp e1 e2
    obtain ⟨F, rfl⟩ : ∃ F', F = F' + 1 := ⟨F - 1, by omega⟩
    obtain ⟨G, rfl⟩ : ∃ F', G = F' + 1 := ⟨G - 1, by omega⟩
    rw [fX2_sumUp_L48, fX9_area_L104]
    unfold fX2_sumUp_48 fX9_area_104
    have c1 : hvs ≤ Int32.ofNat i := by rw [qI_le, iNt (by omega)]; omega
    rw [if_pos c1, if_pos c1, zg_pos nar1, rel.2.1, ← rel.1]
    exact ⟨σ, τ, f1, f2, Or.inr ⟨rfl, rfl⟩⟩
  | succ d ih =>
    intro i F G p vl vh σ τ hi hF hG f1 f2 rel bd sp e1 e2
    obtain ⟨F, rfl⟩ : ∃ F', F = F' + 1 := ⟨F - 1, by omega⟩
    obtain ⟨G, rfl⟩ : ∃ F', G = F' + 1 := ⟨G - 1, by omega⟩
    rw [fX2_sumUp_L48, fX9_area_L104]
    unfold fX2_sumUp_48 fX9_area_104
    have done : aEnd σ0 τ0 (some (1, σ)) (bd2 (fX9_tells 1 (gl σ 4 5) (gl σ 4 6) (si τ 61 38 (gi τ 61 33))) fun r s => some (r, s)) := by
      rw [rel.2.1, ← rel.1]
      exact ⟨σ, τ, f1, f2, Or.inr ⟨rfl, rfl⟩⟩
    by_cases c1 : hvs ≤ Int32.ofNat i
    · rw [if_pos c1, if_pos c1, zg_pos nar1]
      exact done
    rw [if_neg c1, if_neg c1, if_neg iNe1]
    by_cases c2 : gl σ 4 6 - gl σ 4 5 ≤ near
    · rw [if_pos c2, if_pos c2, zg_pos nar1]
      exact done
    rw [if_neg c2, if_neg c2]
    obtain ⟨Z, hZ⟩ := zFU_ge 1000 (by omega)
    have mbd := h_mBd rel bd
    obtain ⟨b, hb, b1, b2⟩ := x_widest (n := i + 1) (by omega) (by omega) rel.1 bd
    obtain ⟨w, hw', w1, w2, w3⟩ := m_widL (K104 := fX9_area_L104 G) (v1 := Int32.ofNat k) (v4 := hvs) (v13 := Int32.ofNat i) (v5 := near) (v9 := gl σ 4 5) (v11 := gl σ 4 6) (n := i + 1) (by omega) rel.2.1 mbd i 1 zFU 0 (by omega) (by omega) (by omega) (fun j hj => by
      have : j = 0 := by omega
      rw [this]; exact Int.le_refl _) (fun j hj => absurd hj (by omega))
    have pw : p w = b := h_sel rel (c := cW σ) (c' := cW' τ) (fun j hj => by
      obtain ⟨-, -, -, k4, k5⟩ := rel.2.2.1 j hj
      unfold cW cW'
      rw [k4, k5]) hb hw' b2 w2 w3
    have w1' : fX9_area_L128 (fX9_area_L104 G) zFU (Int32.ofNat k) hvs near (gl σ 4 5) (gl σ 4 6) (Int32.ofNat i) 0 1 τ = mAfin (fX9_area_L104 G) (Int32.ofNat k) hvs near (gl σ 4 5) (gl σ 4 6) (Int32.ofNat i) (Int32.ofNat w) τ := w1
    rw [b1, bd1_some, x_can (n := i + 1) (by omega) hb rel.1, bd1_some, w1']
    unfold mAfin
    obtain ⟨-, k2, k3, k4, k5⟩ := rel.2.2.1 w hw'
    rw [pw] at k2 k3 k4 k5
    have spb := sp b hb
    have vb := vin (N := 201) (iNt (n := b) (by omega)) (by omega)
    have vw := vin (N := 260) (iNt (n := w) (by omega)) (by omega)
    have cb := iN_cl (n := b) (by omega)
    have cw := iN_cl (n := w) (by omega)
    have rr1 := qI_rng (gi σ 13 b)
    have rr2 := qI_rng (gi σ 14 b)
    obtain ⟨bg, hbg⟩ : ∃ bg, bg = gi σ 13 b := ⟨_, rfl⟩
    obtain ⟨en, hen⟩ : ∃ en, en = gi σ 14 b := ⟨_, rfl⟩
    rw [← hbg] at k2 spb rr1
    rw [← hen] at k3 spb rr2
    have ew : (gl τ 79 w - gl τ 78 w).toInt = en.toInt - bg.toInt := by rw [qL_sub (by omega) (by omega), k3, k2]
    by_cases c3 : 2 ≤ en.toInt - bg.toInt
    · rw [zg_pos vw, zg_pos vw, cw, if_pos (show (2 : Int64) ≤ gl τ 79 w - gl τ 78 w by rw [qL_le, ew, e2L]; exact c3), cb, ← hbg, ← hen, if_pos c3, if_neg iNe1, zg_pos vb, nm_eq, zg_pos vb, nm_eq, zg_pos vb, nm_eq, zg_pos vb, nm_eq, zg_pos vb]
      have mx := x_mid bg en
      obtain ⟨mid, hmid⟩ : ∃ mid : Int32, mid = fX8_middleOf bg en := ⟨_, rfl⟩
      rw [← hmid] at mx ⊢
      -- the first half
      obtain ⟨σ1, f3, r1⟩ := x_sumPart hw hm (xCur_y f1.p.y hx) hk (a := bg) (b := mid) (by omega) (by omega) (j := b) (by omega)
      obtain ⟨τ1, m, h1, h2, h3, h4⟩ := m_halve (n := i + 1) (w := w) (by omega) hw' rel.2.1 k2 k3 (by omega) (by omega)
      have t1 : tFr τ τ1 := ⟨fun c j q => by rw [h3, if_neg (by omega)], fun c j q => by rw [h4, if_neg (by omega), if_neg (by omega), if_neg (by omega), if_neg (by omega)]⟩
      have t1w : gl τ1 78 w = gl τ 78 w := by rw [h4, if_neg (by omega), if_neg (by omega), if_neg (by omega), if_neg (by omega)]
      have t1w2 : gl τ1 79 w = m := by rw [h4, if_neg (by omega), if_pos (by omega)]
      obtain ⟨q1, τ2, g1, g2, g3⟩ := m_sumOf hw (mCur_w (f2.tr t1).q.w hc) hk (a := bg) (b := mid) (by omega) (by omega) (i := w) (by omega) (by rw [t1w]; exact k2) (by rw [t1w2, h2, mx])
      rw [h1, bd1_some, g1, bd2_some]
      rcases r1 with ⟨r1, r2⟩ | ⟨x1, y1, r1, r2⟩
      · have hq0 : q1 = 0 := by
          rcases g3 with ⟨-, g⟩ | ⟨g, -⟩
          · exact g
          · rw [r1] at g; cases g
        rw [r2, bd2_some, if_pos (show (0 : Int32) = 0 from rfl), if_pos hq0]
        obtain ⟨x, y, z, u, -, -, -, -, dd⟩ := x_181 (F := F) (v2 := Int32.ofNat k) (v5 := hvs) (v13 := Int32.ofNat i) (v6 := near) (v9 := vl - gl σ 15 b) (v11 := vh - gl σ 16 b) (σ := σ1) (b := b) (n := i + 1) (by omega) (by omega) (by rw [f3.1]; exact rel.1) 0
        obtain ⟨F, rfl⟩ : ∃ F', F = F' + 1 := ⟨F - 1, by omega⟩
        rw [dd, x_dead]
        exact ⟨_, τ2, (((f1.tr f3.r).si (by omega)).sl (by omega)).sl (by omega), (f2.tr t1).tr g2.t, Or.inl ⟨rfl, rfl⟩⟩
      have hq1 : q1 = 1 ∧ gl τ2 80 w = x1 ∧ gl τ2 81 w = y1 := by
        rcases g3 with ⟨g, -⟩ | ⟨g, g'⟩
        · rw [r1] at g; cases g
        · rw [r1] at g
          obtain ⟨e3, e4⟩ := Prod.mk.inj (Option.some.inj g)
          exact ⟨g', qL_eq.mpr e3.symm, qL_eq.mpr e4.symm⟩
      rw [r2, bd2_some, if_neg iNe1, if_neg (show ¬ q1 = 0 by rw [hq1.1]; decide)]
      obtain ⟨s1, hs1⟩ : ∃ s1, s1 = sl (sl (si (si σ1 13 b bg) 14 b mid) 15 b x1) 16 b y1 := ⟨_, rfl⟩
      rw [← hs1]
      have fs1 : rFr σ s1 := by rw [hs1]; exact (((f3.r.si (by omega)).si (by omega)).sl (by omega)).sl (by omega)
      have s44 : gi s1 4 4 = Int32.ofNat (i + 1) := by rw [hs1, gi_sl, gi_sl, gi_si, if_neg (by omega), gi_si, if_neg (by omega), f3.1]; exact rel.1
      rw [s44, iN_s (by omega)]
      -- the second half
      obtain ⟨σ2, f4, r3⟩ := x_sumPart hw hm (xCur_y (f1.tr fs1).p.y hx) hk (a := mid) (b := en) (by omega) (by omega) (j := i + 1) (by omega)
      have T2 := (f2.tr t1).tr g2.t
      have t2w : gl τ2 78 (w + 1) = m := by rw [g2.2 _ _ (by omega), h4, if_pos (by omega)]
      have t2w2 : gl τ2 79 (w + 1) = gl τ 79 w := by rw [g2.2 _ _ (by omega), h4, if_neg (by omega), if_neg (by omega), if_pos (by omega)]
      obtain ⟨q2, τ3, g4, g5, g6⟩ := m_sumOf hw (mCur_w T2.q.w hc) hk (a := mid) (b := en) (by omega) (by omega) (i := w + 1) (by omega) (by rw [t2w, h2, mx]) (by rw [t2w2]; exact k3)
      rw [g4, bd2_some]
      have T3 := T2.tr g5.t
      rcases r3 with ⟨r3, r4⟩ | ⟨x2, y2, r3, r4⟩
      · have hq0 : q2 = 0 := by
          rcases g6 with ⟨-, g⟩ | ⟨g, -⟩
          · exact g
          · rw [r3] at g; cases g
        rw [r4, bd2_some, if_pos (show (0 : Int32) = 0 from rfl), if_pos hq0]
        obtain ⟨x, y, z, u, -, -, -, -, dd⟩ := x_181 (F := F) (v2 := Int32.ofNat k) (v5 := hvs) (v13 := Int32.ofNat i) (v6 := near) (v9 := vl - gl σ 15 b) (v11 := vh - gl σ 16 b) (σ := σ2) (b := b) (n := i + 1) (by omega) (by omega) (by rw [f4.1]; exact s44) 0
        obtain ⟨F, rfl⟩ : ∃ F', F = F' + 1 := ⟨F - 1, by omega⟩
        rw [dd, x_dead]
        exact ⟨_, τ3, ((((f1.tr fs1).tr f4.r).si (by omega)).sl (by omega)).sl (by omega), T3, Or.inl ⟨rfl, rfl⟩⟩
      have hq2 : q2 = 1 ∧ gl τ3 80 (w + 1) = x2 ∧ gl τ3 81 (w + 1) = y2 := by
        rcases g6 with ⟨g, -⟩ | ⟨g, g'⟩
        · rw [r3] at g; cases g
        · rw [r3] at g
          obtain ⟨e3, e4⟩ := Prod.mk.inj (Option.some.inj g)
          exact ⟨g', qL_eq.mpr e3.symm, qL_eq.mpr e4.symm⟩
      rw [r4, bd2_some, if_neg iNe1, if_neg (show ¬ q2 = 0 by rw [hq2.1]; decide)]
      obtain ⟨s2, hs2⟩ : ∃ s2, s2 = sl (sl (si (si σ2 13 (i + 1) mid) 14 (i + 1) en) 15 (i + 1) x2) 16 (i + 1) y2 := ⟨_, rfl⟩
      rw [← hs2]
      have fs2 : rFr s1 s2 := by rw [hs2]; exact (((f4.r.si (by omega)).si (by omega)).sl (by omega)).sl (by omega)
      have s244 : gi s2 4 4 = Int32.ofNat (i + 1) := by rw [hs2, gi_sl, gi_sl, gi_si, if_neg (by omega), gi_si, if_neg (by omega), f4.1]; exact s44
      obtain ⟨x, y, z, u, ex, ey, ez, eu, dd⟩ := x_181 (F := F) (v2 := Int32.ofNat k) (v5 := hvs) (v13 := Int32.ofNat i) (v6 := near) (v9 := vl - gl σ 15 b) (v11 := vh - gl σ 16 b) (σ := s2) (b := b) (n := i + 1) (by omega) (by omega) s244 1
      rw [dd, iN_s (by omega)]
      -- what the rows hold now
      have X13 : ∀ j, gi s2 13 j = if j = i + 1 then mid else gi σ 13 j := fun j => by
        rw [hs2, gi_sl, gi_sl, gi_si, if_neg (by omega), gi_si]
        by_cases q : j = i + 1
        · rw [if_pos (by omega), if_pos q]
        · rw [if_neg (by omega), if_neg q, f4.1, hs1, gi_sl, gi_sl, gi_si, if_neg (by omega), gi_si]
          by_cases q' : j = b
          · rw [if_pos (by omega), q', hbg]
          · rw [if_neg (by omega), f3.1]
      have X14 : ∀ j, gi s2 14 j = if j = i + 1 then en else if j = b then mid else gi σ 14 j := fun j => by
        rw [hs2, gi_sl, gi_sl, gi_si]
        by_cases q : j = i + 1
        · rw [if_pos (by omega), if_pos q]
        · rw [if_neg (by omega), if_neg q, gi_si, if_neg (by omega), f4.1, hs1, gi_sl, gi_sl, gi_si]
          by_cases q' : j = b
          · rw [if_pos (by omega), if_pos q']
          · rw [if_neg (by omega), if_neg q', gi_si, if_neg (by omega), f3.1]
      have X15 : ∀ j, gl s2 15 j = if j = i + 1 then x2 else if j = b then x1 else gl σ 15 j := fun j => by
        rw [hs2, gl_sl, if_neg (by omega), gl_sl]
        by_cases q : j = i + 1
        · rw [if_pos (by omega), if_pos q]
        · rw [if_neg (by omega), if_neg q, gl_si, gl_si, f4.2 _ _ (by omega), hs1, gl_sl, if_neg (by omega), gl_sl]
          by_cases q' : j = b
          · rw [if_pos (by omega), if_pos q']
          · rw [if_neg (by omega), if_neg q', gl_si, gl_si, f3.2 _ _ (by omega)]
      have X16 : ∀ j, gl s2 16 j = if j = i + 1 then y2 else if j = b then y1 else gl σ 16 j := fun j => by
        rw [hs2, gl_sl]
        by_cases q : j = i + 1
        · rw [if_pos (by omega), if_pos q]
        · rw [if_neg (by omega), if_neg q, gl_sl, if_neg (by omega), gl_si, gl_si, f4.2 _ _ (by omega), hs1, gl_sl]
          by_cases q' : j = b
          · rw [if_pos (by omega), if_pos q']
          · rw [if_neg (by omega), if_neg q', gl_sl, if_neg (by omega), gl_si, gl_si, f3.2 _ _ (by omega)]
      have Mlo : ∀ c j, c = 78 ∨ c = 79 → gl τ3 c j = gl τ1 c j := fun c j q => by rw [g5.2 _ _ (by omega), g2.2 _ _ (by omega)]
      have Mrow : ∀ c j, (c = 80 ∨ c = 81) → j ≠ w → j ≠ w + 1 → gl τ3 c j = gl τ1 c j := fun c j q q1 q2 => by rw [g5.2 _ _ (by omega), g2.2 _ _ (by omega)]
      have M78 : ∀ j, j ≤ i + 1 → gl τ3 78 j = if j ≤ w then gl τ 78 j else if j = w + 1 then m else gl τ 78 (j - 1) := fun j hj => by
        rw [Mlo _ _ (by omega), h4]
        by_cases q : j ≤ w
        · rw [if_neg (by omega), if_neg (by omega), if_neg (by omega), if_neg (by omega), if_pos q]
        · by_cases q' : j = w + 1
          · rw [if_pos (by omega), if_neg q, if_pos q']
          · rw [if_neg (by omega), if_neg (by omega), if_neg (by omega), if_pos (by omega), if_neg q, if_neg q']
      have M79 : ∀ j, j ≤ i + 1 → gl τ3 79 j = if j < w then gl τ 79 j else if j = w then m else gl τ 79 (j - 1) := fun j hj => by
        rw [Mlo _ _ (by omega), h4]
        by_cases q : j < w
        · rw [if_neg (by omega), if_neg (by omega), if_neg (by omega), if_neg (by omega), if_pos q]
        · by_cases q' : j = w
          · rw [if_neg (by omega), if_pos (by omega), if_neg q, if_pos q']
          · by_cases q3 : j = w + 1
            · rw [if_neg (by omega), if_neg (by omega), if_pos (by omega), if_neg q, if_neg q', q3, show w + 1 - 1 = w by omega]
            · rw [if_neg (by omega), if_neg (by omega), if_neg (by omega), if_pos (by omega), if_neg q, if_neg q']
      have M8 : ∀ c, (c = 80 ∨ c = 81) → ∀ j, j ≤ i + 1 → j ≠ w → j ≠ w + 1 → gl τ3 c j = if j < w then gl τ c j else gl τ c (j - 1) := fun c hc' j hj n1 n2 => by
        rw [Mrow c j hc' n1 n2, h4, if_neg (by omega), if_neg (by omega), if_neg (by omega)]
        by_cases q : j < w
        · rw [if_neg (by omega), if_pos q]
        · rw [if_pos (by omega), if_neg q]
      have W80 : gl τ3 80 w = x1 := by rw [g5.2 _ _ (by omega)]; exact hq1.2.1
      have W81 : gl τ3 81 w = y1 := by rw [g5.2 _ _ (by omega)]; exact hq1.2.2
      have M80 : ∀ j, j ≤ i + 1 → gl τ3 80 j = if j < w then gl τ 80 j else if j = w then x1 else if j = w + 1 then x2 else gl τ 80 (j - 1) := fun j hj => by
        by_cases q : j = w
        · rw [if_neg (by omega), if_pos q, q, W80]
        · by_cases q' : j = w + 1
          · rw [if_neg (by omega), if_neg q, if_pos q', q', hq2.2.1]
          · rw [M8 80 (by omega) j hj q q']
            by_cases q3 : j < w
            · rw [if_pos q3, if_pos q3]
            · rw [if_neg q3, if_neg q3, if_neg q, if_neg q']
      have M81 : ∀ j, j ≤ i + 1 → gl τ3 81 j = if j < w then gl τ 81 j else if j = w then y1 else if j = w + 1 then y2 else gl τ 81 (j - 1) := fun j hj => by
        by_cases q : j = w
        · rw [if_neg (by omega), if_pos q, q, W81]
        · by_cases q' : j = w + 1
          · rw [if_neg (by omega), if_neg q, if_pos q', q', hq2.2.2]
          · rw [M8 81 (by omega) j hj q q']
            by_cases q3 : j < w
            · rw [if_pos q3, if_pos q3]
            · rw [if_neg q3, if_neg q3, if_neg q, if_neg q']
      have M33 : gi τ3 61 33 = Int32.ofNat (i + 1 + 1) := by rw [g5.1 _ _ (by omega), g2.1 _ _ (by omega), h3, if_pos (by omega)]
      -- the relation, the bounds, the spans
      obtain ⟨s3, hs3⟩ : ∃ s3, s3 = sl (sl (si s2 4 4 (Int32.ofNat (i + 1 + 1))) 4 5 z) 4 6 u := ⟨_, rfl⟩
      rw [← hs3]
      have S3 : ∀ c j, c ≠ 4 → gi s3 c j = gi s2 c j := fun c j q => by rw [hs3, gi_sl, gi_sl, gi_si, if_neg (by omega)]
      have S3l : ∀ c j, c ≠ 4 → gl s3 c j = gl s2 c j := fun c j q => by rw [hs3, gl_sl, if_neg (by omega), gl_sl, if_neg (by omega), gl_si]
      have rel3 : hRel (i + 1 + 1) (hP (i + 1) w p) s3 τ3 := h_halve rel hw' (m := mid) (mm := m) (x1 := x1) (y1 := y1) (x2 := x2) (y2 := y2) (by rw [h2, mx]) (by rw [h2]; omega) (by rw [h2]; omega) (by rw [hs3, gi_sl, gi_sl, gi_si, if_pos (by omega)]) (fun j hj => by rw [S3 13 j (by omega)]; exact X13 j) (fun j hj => by rw [S3 14 j (by omega), pw, ← hen]; exact X14 j) (fun j hj => by rw [S3l 15 j (by omega), pw]; exact X15 j) (fun j hj => by rw [S3l 16 j (by omega), pw]; exact X16 j) M33 M78 M79 M80 M81
      have bx1 := pSum_bd hw hk (a := bg.toInt) (b := mid.toInt) (by omega) (by omega) (by omega) (by omega) r1
      have bx2 := pSum_bd hw hk (a := mid.toInt) (b := en.toInt) (by omega) (by omega) (by omega) (by omega) r3
      have bd3 : hBd (i + 1 + 1) s3 := fun j hj => by
        rw [S3l 15 j (by omega), S3l 16 j (by omega), X15, X16]
        by_cases q : j = i + 1
        · rw [if_pos q, if_pos q]; exact bx2
        · rw [if_neg q, if_neg q]
          by_cases q' : j = b
          · rw [if_pos q', if_pos q']; exact bx1
          · rw [if_neg q', if_neg q']; exact bd j (by omega)
      have sp3 : zSp A B (i + 1 + 1) s3 := fun j hj => by
        rw [S3 13 j (by omega), S3 14 j (by omega), X13, X14]
        by_cases q : j = i + 1
        · rw [if_pos q, if_pos q]; omega
        · rw [if_neg q, if_neg q]
          by_cases q' : j = b
          · rw [if_pos q', q', ← hbg]; omega
          · rw [if_neg q']; exact sp j (by omega)
      -- the sums
      have mbd3 := h_mBd rel3 bd3
      have sl1 := sumT_ins (f := s80 τ) (g := s80 τ3) (w := w) (fun j hj => by unfold s80; rw [M80 j (by omega), if_pos hj]) (i + 1) hw' (fun j a1 a2 => by unfold s80; rw [M80 j a2, if_neg (by omega), if_neg (by omega), if_neg (by omega)])
      have sl2 := sumT_ins (f := s81 τ) (g := s81 τ3) (w := w) (fun j hj => by unfold s81; rw [M81 j (by omega), if_pos hj]) (i + 1) hw' (fun j a1 a2 => by unfold s81; rw [M81 j a2, if_neg (by omega), if_neg (by omega), if_neg (by omega)])
      have v1 : s80 τ w = (gl σ 15 b).toInt := by unfold s80; rw [k4]
      have v2 : s81 τ w = (gl σ 16 b).toInt := by unfold s81; rw [k5]
      have v3 : s80 τ3 w = x1.toInt := by unfold s80; rw [W80]
      have v4 : s81 τ3 w = y1.toInt := by unfold s81; rw [W81]
      have v5 : s80 τ3 (w + 1) = x2.toInt := by unfold s80; rw [hq2.2.1]
      have v6 : s81 τ3 (w + 1) = y2.toInt := by unfold s81; rw [hq2.2.2]
      rw [v1, v3, v5] at sl1
      rw [v2, v4, v6] at sl2
      have B1 := sumT_bd (f := s80 τ) (i + 1) (fun j hj => (mbd j hj).1)
      have B2 := sumT_bd (f := s81 τ) (i + 1) (fun j hj => (mbd j hj).2)
      have bb := bd b hb
      have y15b : gl s2 15 b = x1 := by rw [X15, if_neg (by omega), if_pos rfl]
      have y15n : gl s2 15 (i + 1) = x2 := by rw [X15, if_pos rfl]
      have y16b : gl s2 16 b = y1 := by rw [X16, if_neg (by omega), if_pos rfl]
      have y16n : gl s2 16 (i + 1) = y2 := by rw [X16, if_pos rfl]
      have exI : x.toInt = sumT (s80 τ3) (i + 1 + 1) := by
        have a1 : (x1 + x2).toInt = x1.toInt + x2.toInt := qL_add (by omega) (by omega)
        have a2 : (vl - gl σ 15 b).toInt = vl.toInt - (gl σ 15 b).toInt := qL_sub (by omega) (by omega)
        rw [ex, y15b, y15n, qL_add (by omega) (by omega), a1, a2, sl1, e1]; omega
      have eyI : y.toInt = sumT (s81 τ3) (i + 1 + 1) := by
        have a1 : (y1 + y2).toInt = y1.toInt + y2.toInt := qL_add (by omega) (by omega)
        have a2 : (vh - gl σ 16 b).toInt = vh.toInt - (gl σ 16 b).toInt := qL_sub (by omega) (by omega)
        rw [ey, y16b, y16n, qL_add (by omega) (by omega), a1, a2, sl2, e2]; omega
      obtain ⟨mxs, mys, n1, n2, n3⟩ := m_sumL (K104 := fX9_area_L104 G) (v1 := Int32.ofNat k) (v4 := hvs) (v13 := Int32.ofNat i) (v5 := near) (v9 := gl σ 4 5) (v11 := gl σ 4 6) (n := i + 1 + 1) (by omega) M33 mbd3 (i + 1 + 1) 0 zFU 0 0 (by omega) (by omega) q0L q0L
      have n3' : fX9_area_L250 (fX9_area_L104 G) zFU (Int32.ofNat k) hvs near (gl σ 4 5) (gl σ 4 6) (Int32.ofNat i) 0 0 0 τ3 = fX9_area_L104 G (Int32.ofNat k) hvs near (fX9_more (gl σ 4 5) mxs) (fX9_less (gl σ 4 6) mys) (Int32.ofNat i + 1) τ3 := n3
      have o45 : gl s2 4 5 = gl σ 4 5 := by rw [hs2, gl_sl, if_neg (by omega), gl_sl, if_neg (by omega), gl_si, gl_si, f4.2 _ _ (by omega), hs1, gl_sl, if_neg (by omega), gl_sl, if_neg (by omega), gl_si, gl_si, f3.2 _ _ (by omega)]
      have o46 : gl s2 4 6 = gl σ 4 6 := by rw [hs2, gl_sl, if_neg (by omega), gl_sl, if_neg (by omega), gl_si, gl_si, f4.2 _ _ (by omega), hs1, gl_sl, if_neg (by omega), gl_sl, if_neg (by omega), gl_si, gl_si, f3.2 _ _ (by omega)]
      have ze : fX9_more (gl σ 4 5) mxs = gl s3 4 5 := by
        rw [hs3, gl_sl, if_neg (by omega), gl_sl, if_pos (by omega), ez, o45, qL_eq, m_more, n1, ← exI]
        by_cases q : x < gl σ 4 5
        · rw [if_pos q]; rw [qL_lt] at q; omega
        · rw [if_neg q]; rw [qL_lt] at q; omega
      have ue : fX9_less (gl σ 4 6) mys = gl s3 4 6 := by
        rw [hs3, gl_sl, if_pos (by omega), eu, o46, qL_eq, m_less, n2, ← eyI]
        by_cases q : y < gl σ 4 6
        · rw [if_pos q]; rw [qL_lt] at q; omega
        · rw [if_neg q]; rw [qL_lt] at q; omega
      rw [n3', ze, ue, iN_s (by omega)]
      exact ih (i + 1) F G (hP (i + 1) w p) x y s3 τ3 (by omega) (by omega) (by omega) (by rw [hs3]; exact ((((f1.tr fs1).tr fs2).si (by omega)).sl (by omega)).sl (by omega)) T3 rel3 bd3 sp3 exI eyI
    · rw [zg_pos vw, zg_pos vw, cw, if_neg (show ¬ (2 : Int64) ≤ gl τ 79 w - gl τ 78 w by rw [qL_le, ew, e2L]; exact c3), ← hbg, ← hen, if_neg c3, if_pos (show (0 : Int32) = 0 from rfl)]
      exact done
