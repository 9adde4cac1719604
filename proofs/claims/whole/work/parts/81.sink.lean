/-! least and greatest: a part -/
def tV (ng : Bool) (s : qSh) : qSh := if ng then sNeg s else s
def pPair : qSh → qSh → Option (Int × Int)
  | some q, some r => some (q.1, r.2)
  | _, _ => none
noncomputable def pSink (C : qCfg) (k : Nat) (ng : Bool) (a b : Int) : Option (Int × Int) := pPair (tV ng (qV C k a b)) (tV ng (qV C k ((a + b) / 2) ((a + b) / 2)))
theorem tV_ok {ng : Bool} {s : qSh} (h : qOk s) : qOk (tV ng s) := by
  unfold tV
  cases ng with
  | false => exact h
  | true => exact sNeg_ok h
theorem pSink_bd {C : qCfg} (hw : qWF C) {k : Nat} (hk : k < C.N) {ng : Bool} {a b : Int} (h1 : -2147483648 ≤ a) (h2 : a ≤ b) (h3 : b ≤ 2147483647) {l h : Int} (e : pSink C k ng a b = some (l, h)) : (-2147483648 ≤ l ∧ l ≤ 2147483647) ∧ -2147483648 ≤ h ∧ h ≤ 2147483647 := by
  have ok1 := tV_ok (ng := ng) (qV_ok hw hk h1 h2 h3)
  have ok2 := tV_ok (ng := ng) (qV_ok hw hk (a := (a + b) / 2) (b := (a + b) / 2) (by omega) (by omega) (by omega))
  unfold pSink at e
  generalize tV ng (qV C k a b) = s at ok1 e
  generalize tV ng (qV C k ((a + b) / 2) ((a + b) / 2)) = t at ok2 e
  cases s with
  | none => cases t <;> cases e
  | some q =>
    cases t with
    | none => cases e
    | some r =>
      obtain ⟨e1, e2⟩ := Prod.mk.inj (Option.some.inj e)
      have r1 := ok1.rng
      have r2 := ok2.rng
      omega
theorem x_isHole {f g : Int64} {s t : qSh} (hf : xS f s) (hg : xS g t) : (fX5_isHole f g = 0 ∧ ∃ q r, s = some q ∧ t = some r) ∨ (fX5_isHole f g = 1 ∧ pPair s t = none) := by
  have e : fX5_isHole f g = fX5_isHole_0 f g := rfl
  rw [e]
  unfold fX5_isHole_0
  cases s with
  | none =>
    rw [if_pos (show f = 4294967296 from hf)]
    exact Or.inr ⟨rfl, by cases t <;> rfl⟩
  | some q =>
    rw [if_neg hf.1]
    cases t with
    | none =>
      rw [if_pos (show g = 4294967296 from hg)]
      exact Or.inr ⟨rfl, rfl⟩
    | some r =>
      rw [if_neg hg.1]
      exact Or.inl ⟨rfl, q, r, rfl, rfl⟩
theorem x_sinkPart {C : qCfg} {M : Nat → Nat} (hw : qWF C) (hm : xNd C M) {σ : zSt} (h0 : xCur C M σ) {k : Nat} (hk : k < C.N) {a b : Int32} (hab : a.toInt ≤ b.toInt) {ng : Bool} {u : Int32} (hu : ng = true ↔ ¬ u = 0) {j : Nat} (hj : j < 201) : ∃ σ1, xFr σ σ1 ∧ ((pSink C k ng a.toInt b.toInt = none ∧ fX2_sinkPart (Int32.ofNat k) (Int32.ofNat j) a b u σ = some (0, σ1)) ∨ ∃ (x y : Int64), pSink C k ng a.toInt b.toInt = some (x.toInt, y.toInt) ∧ fX2_sinkPart (Int32.ofNat k) (Int32.ofNat j) a b u σ = some (1, sl (sl (si (si σ1 13 j a) 14 j b) 15 j x) 16 j y)) := by
  have mx := x_mid a b
  obtain ⟨f, σ1, a1, a2, a3, -⟩ := x_m hw hm h0 hk 0 hab
  obtain ⟨g, σ2, b1, b2, b3, -⟩ := x_m hw hm (xCur_fr a2 h0) hk (a := fX8_middleOf a b) (b := fX8_middleOf a b) 0 (Int.le_refl _)
  rw [mx] at b3
  have e0 : fX2_sinkPart (Int32.ofNat k) (Int32.ofNat j) a b u σ = fX2_sinkPart_0 (Int32.ofNat k) (Int32.ofNat j) a b u σ := rfl
  rw [e0]
  unfold fX2_sinkPart_0
  rw [nm_eq, a1, bd2_some, b1, bd2_some]
  refine ⟨σ2, a2.tr b2, ?_⟩
  have go : ∀ (f' g' : Int64), xS f' (tV ng (qV C k a.toInt b.toInt)) → xS g' (tV ng (qV C k ((a.toInt + b.toInt) / 2) ((a.toInt + b.toInt) / 2))) → (pSink C k ng a.toInt b.toInt = none ∧ fX2_sinkPart_52 (Int32.ofNat j) a b f' g' σ2 = some (0, σ2)) ∨ ∃ (x y : Int64), pSink C k ng a.toInt b.toInt = some (x.toInt, y.toInt) ∧ fX2_sinkPart_52 (Int32.ofNat j) a b f' g' σ2 = some (1, sl (sl (si (si σ2 13 j a) 14 j b) 15 j x) 16 j y) := by
    intro f' g' hf hg
    unfold fX2_sinkPart_52 pSink
    rcases x_isHole hf hg with ⟨e, q, r, e1, e2⟩ | ⟨e, e1⟩
    · rw [e, if_pos rfl, x_keepH hj, bd1_some, e1, e2]
      rw [e1] at hf
      rw [e2] at hg
      refine Or.inr ⟨_, _, ?_, rfl⟩
      show some (q.1, r.2) = _
      rw [hf.2.1, hg.2.2.1]
    · rw [e, if_neg iNe1, e1]
      exact Or.inl ⟨rfl, rfl⟩
  cases ng with
  | false =>
    have hu0 : u = 0 := Classical.byContradiction fun q => by have := hu.mpr q; cases this
    rw [if_pos hu0]
    exact go f g a3 b3
  | true =>
    rw [if_neg (hu.mp rfl), nm_eq, nm_eq]
    exact go _ _ (x_turned a3) (x_turned b3)
theorem m_shutOf {C : qCfg} (hw : qWF C) {τ : zSt} (h0 : mCur C τ) {k : Nat} (hk : k < C.N) {a b : Int32} (hab : a.toInt ≤ b.toInt) {lo hi : Int64} (hlo : lo.toInt = a.toInt) (hhi : hi.toInt = b.toInt) {ng : Bool} {u : Int32} (hu : ng = true ↔ ¬ u = 0) : ∃ r τ', fX9_shutOf (Int32.ofNat k) lo hi u τ = some (r, τ') ∧ mFr τ τ' ∧ mIts r τ' (tV ng (qV C k a.toInt b.toInt)) := by
  have ra := qI_rng a
  have rb := qI_rng b
  obtain ⟨r, τ1, a1, a2, a3⟩ := m_m hw h0 hk hab hlo hhi
  have ok := qV_ok hw hk (a := a.toInt) (b := b.toInt) (by omega) hab (by omega)
  show ∃ r τ', fX9_shutOf_0 _ lo hi u τ = _ ∧ _
  unfold fX9_shutOf_0
  rw [a1, bd2_some]
  unfold tV
  generalize qV C k a.toInt b.toInt = s at a3 ok ⊢
  cases s with
  | none =>
    rw [if_pos (show r = 0 from a3)]
    exact ⟨_, _, rfl, a2, by cases ng <;> exact rfl⟩
  | some q =>
    obtain ⟨b1, b2, b3⟩ := a3
    have rq := ok.rng
    rw [if_neg (show ¬ r = 0 by rw [b1]; decide)]
    cases ng with
    | false =>
      have hu0 : u = 0 := Classical.byContradiction fun q => by have := hu.mpr q; cases this
      rw [if_pos hu0]
      exact ⟨_, _, rfl, a2, rfl, b2, b3⟩
    | true =>
      rw [if_neg (hu.mp rfl)]
      obtain ⟨τ2, t1, t2, t3, -⟩ := m_is (-(gl τ1 61 30)) (-(gl τ1 61 29)) τ1
      rw [qL_neg (by omega), qL_neg (by omega), b2, b3] at t2
      replace t2 : mS τ2 (sNeg (some q)) := t2
      rw [t1, bd1_some]
      have fr : mFr τ (sl (sl τ2 61 29 (gl τ2 61 19)) 61 30 (gl τ2 61 20)) := ((a2.tr t3.fr).sl (by omega)).sl (by omega)
      show ∃ r τ', _ ∧ _ ∧ mIts r τ' (sNeg (some q))
      generalize sNeg (some q) = z at t2 ⊢
      cases z with
      | none =>
        rw [if_neg (show ¬ gi τ2 61 21 = 0 by rw [show gi τ2 61 21 = 1 from t2]; decide)]
        exact ⟨_, _, rfl, fr, rfl⟩
      | some z =>
        obtain ⟨c1, c2, c3⟩ := t2
        rw [if_pos c1]
        refine ⟨_, _, rfl, fr, rfl, ?_, ?_⟩
        · rw [gl_sl, if_neg (by omega), gl_sl, if_pos (by omega)]; exact c2
        · rw [gl_sl, if_pos (by omega)]; exact c3
theorem m_lowOf {C : qCfg} (hw : qWF C) {τ : zSt} (h0 : mCur C τ) {k : Nat} (hk : k < C.N) {a b : Int32} (hab : a.toInt ≤ b.toInt) {ng : Bool} {u : Int32} (hu : ng = true ↔ ¬ u = 0) {i : Nat} (hi : i < 260) (hp : (gl τ 78 i).toInt = a.toInt) (hq : (gl τ 79 i).toInt = b.toInt) : ∃ r τ', fX9_lowOf (Int32.ofNat k) (Int32.ofNat i) u τ = some (r, τ') ∧ sFr i τ τ' ∧ ((pSink C k ng a.toInt b.toInt = none ∧ r = 0) ∨ (pSink C k ng a.toInt b.toInt = some ((gl τ' 80 i).toInt, (gl τ' 81 i).toInt) ∧ r = 1)) := by
  have ra := qI_rng a
  have rb := qI_rng b
  have v := vin (N := 260) (iNt (n := i) (by omega)) hi
  have c := iN_cl (n := i) (by omega)
  have mx := x_mid a b
  obtain ⟨r1, τ1, a1, a2, a3⟩ := m_shutOf hw h0 hk hab hp hq hu
  have s78 : gl τ1 78 i = gl τ 78 i := a2.2 _ _ (by omega)
  have s79 : gl τ1 79 i = gl τ 79 i := a2.2 _ _ (by omega)
  obtain ⟨m, m1, m2⟩ := m_mid (p := gl τ1 78 i) (q := gl τ1 79 i) (a := a.toInt) (b := b.toInt) (by rw [s78]; exact hp) (by rw [s79]; exact hq) ⟨by omega, by omega⟩ ⟨by omega, by omega⟩
  show ∃ r τ', fX9_lowOf_0 _ _ u τ = _ ∧ _
  unfold fX9_lowOf_0
  rw [zg_pos v, zg_pos v, c, a1, bd2_some, zg_pos v, zg_pos v, zg_pos v, m1, bd1_some]
  unfold pSink
  generalize tV ng (qV C k a.toInt b.toInt) = s at a3 ⊢
  cases s with
  | none =>
    rw [if_pos (show r1 = 0 from a3), zg_pos v]
    exact ⟨_, _, rfl, (a2.s.sl (by omega)).sl (by omega), Or.inl ⟨by cases tV ng (qV C k ((a.toInt + b.toInt) / 2) ((a.toInt + b.toInt) / 2)) <;> rfl, rfl⟩⟩
  | some q =>
    obtain ⟨y1, y2, y3⟩ := a3
    rw [if_neg (show ¬ r1 = 0 by rw [y1]; decide)]
    obtain ⟨ρ, hρ⟩ : ∃ ρ, ρ = sl τ1 80 i (gl τ1 61 29) := ⟨_, rfl⟩
    rw [← hρ]
    have fr : sFr i τ ρ := by rw [hρ]; exact a2.s.sl (by omega)
    obtain ⟨r2, τ2, b1, b2, b3⟩ := m_shutOf hw (mCur_w fr.q.w h0) hk (a := fX8_middleOf a b) (b := fX8_middleOf a b) (Int.le_refl _) (lo := m) (hi := m) (by rw [m2, mx]) (by rw [m2, mx]) hu
    rw [mx] at b3
    rw [b1, bd2_some]
    have e80 : gl τ2 80 i = gl τ1 61 29 := by rw [b2.2 _ _ (by omega), hρ, gl_sl, if_pos (by omega)]
    generalize tV ng (qV C k ((a.toInt + b.toInt) / 2) ((a.toInt + b.toInt) / 2)) = t at b3 ⊢
    cases t with
    | none =>
      rw [if_pos (show r2 = 0 from b3), zg_pos v]
      exact ⟨_, _, rfl, (fr.tr b2.s).sl (by omega), Or.inl ⟨rfl, rfl⟩⟩
    | some z =>
      obtain ⟨x1, x2, x3⟩ := b3
      rw [if_neg (show ¬ r2 = 0 by rw [x1]; decide), zg_pos v]
      refine ⟨_, _, rfl, (fr.tr b2.s).sl (by omega), Or.inr ⟨?_, rfl⟩⟩
      rw [gl_sl, if_neg (by omega), gl_sl, if_pos (by omega), e80]
      show some (q.1, z.2) = _
      rw [y2, x3]
/-- the least LOW and the least HIGH -/
def isMin (f : Nat → Int) (n : Nat) (x : Int) : Prop := (∃ j, j < n ∧ x = f j) ∧ ∀ j, j < n → x ≤ f j
theorem isMin_un {f g : Nat → Int} {n : Nat} {p : Nat → Nat} (h1 : ∀ i, i < n → p i < n ∧ g i = f (p i)) (h2 : ∀ j, j < n → ∃ i, i < n ∧ p i = j) {x y : Int} (hx : isMin f n x) (hy : isMin g n y) : x = y := by
  obtain ⟨⟨j, a1, a2⟩, a3⟩ := hx
  obtain ⟨⟨i, b1, b2⟩, b3⟩ := hy
  obtain ⟨i', c1, c2⟩ := h2 j a1
  have d1 := b3 i' c1
  have d2 := a3 (p i) (h1 i b1).1
  rw [(h1 i' c1).2, c2] at d1
  rw [(h1 i b1).2] at b2
  omega
theorem x_162 {n : Nat} (hn : n ≤ 201) {v7 : Int32} (h7 : narrow .boolean (.int v7) = .int v7) : ∀ d v F (σ : zSt), v + d = n → d < F → gi σ 4 4 = Int32.ofNat n → isMin (fun j => (gl σ 15 j).toInt) v (gl σ 4 5).toInt → isMin (fun j => (gl σ 16 j).toInt) v (gl σ 4 6).toInt → ∃ σ', fX2_seekLeast_L162 F v7 (Int32.ofNat v) σ = some (v7, σ') ∧ rFr σ σ' ∧ (∀ c i, gi σ' c i = gi σ c i) ∧ isMin (fun j => (gl σ 15 j).toInt) n (gl σ' 4 5).toInt ∧ isMin (fun j => (gl σ 16 j).toInt) n (gl σ' 4 6).toInt := by
  intro d
  induction d with
  | zero =>
    intro v F σ hv hF h44 m1 m2
    obtain ⟨F, rfl⟩ : ∃ F', F = F' + 1 := ⟨F - 1, by omega⟩
    have e : v = n := by omega
    subst e
    rw [fX2_seekLeast_L162]
    unfold fX2_seekLeast_162
    rw [h44, if_pos (qI_le.mpr (Int.le_refl _)), zg_pos h7]
    exact ⟨σ, rfl, rFr.rf, fun _ _ => rfl, m1, m2⟩
  | succ d ih =>
    intro v F σ hv hF h44 m1 m2
    obtain ⟨F, rfl⟩ : ∃ F', F = F' + 1 := ⟨F - 1, by omega⟩
    rw [fX2_seekLeast_L162]
    unfold fX2_seekLeast_162
    have en := iNt (n := n) (by omega)
    have ev := iNt (n := v) (by omega)
    have vv := vin (N := 201) ev (by omega)
    rw [h44, if_neg (show ¬ Int32.ofNat n ≤ Int32.ofNat v by rw [qI_le, en, ev]; omega), if_neg (show ¬ (201 : Int32) ≤ Int32.ofNat v by rw [qI_le, ev, e201I]; omega), zg_pos vv, nm_eq, zg_pos vv, nm_eq, nm_eq, iN_cl (by omega), iN_s (by omega)]
    obtain ⟨ρ, hρ⟩ : ∃ ρ, ρ = sl (sl σ 4 5 (if gl σ 15 v < gl σ 4 5 then gl σ 15 v else gl σ 4 5)) 4 6 (if gl σ 16 v < gl σ 4 6 then gl σ 16 v else gl σ 4 6) := ⟨_, rfl⟩
    rw [← hρ]
    have l15 : ∀ j, gl ρ 15 j = gl σ 15 j := fun j => by rw [hρ, gl_sl, if_neg (by omega), gl_sl, if_neg (by omega)]
    have l16 : ∀ j, gl ρ 16 j = gl σ 16 j := fun j => by rw [hρ, gl_sl, if_neg (by omega), gl_sl, if_neg (by omega)]
    have p45 : gl ρ 4 5 = if gl σ 15 v < gl σ 4 5 then gl σ 15 v else gl σ 4 5 := by rw [hρ, gl_sl, if_neg (by omega), gl_sl, if_pos (by omega)]
    have p46 : gl ρ 4 6 = if gl σ 16 v < gl σ 4 6 then gl σ 16 v else gl σ 4 6 := by rw [hρ, gl_sl, if_pos (by omega)]
    have step : ∀ (f : Nat → Int64) (x : Int64), isMin (fun j => (f j).toInt) v x.toInt → isMin (fun j => (f j).toInt) (v + 1) (if f v < x then f v else x).toInt := by
      intro f x hx
      obtain ⟨⟨j, j1, j2⟩, j3⟩ := hx
      by_cases q : f v < x
      · rw [if_pos q]
        rw [qL_lt] at q
        refine ⟨⟨v, by omega, rfl⟩, fun i hi => ?_⟩
        by_cases e : i = v
        · rw [e]; exact Int.le_refl _
        · have := j3 i (by omega)
          show (f v).toInt ≤ (f i).toInt
          replace this : x.toInt ≤ (f i).toInt := this
          omega
      · rw [if_neg q]
        rw [qL_lt] at q
        refine ⟨⟨j, by omega, j2⟩, fun i hi => ?_⟩
        by_cases e : i = v
        · rw [e]; show x.toInt ≤ (f v).toInt; omega
        · exact j3 i (by omega)
    obtain ⟨σ', a1, a2, a3, a4, a5⟩ := ih (v + 1) F ρ (by omega) (by omega) (by rw [hρ]; exact h44) (by
      have := step (fun j => gl σ 15 j) (gl σ 4 5) m1
      rw [p45]
      simp only [l15]
      exact this) (by
      have := step (fun j => gl σ 16 j) (gl σ 4 6) m2
      rw [p46]
      simp only [l16]
      exact this)
    simp only [l15] at a4
    simp only [l16] at a5
    exact ⟨σ', a1, (by rw [hρ] at a2; exact ((rFr.rf.sl (by omega)).sl (by omega)).tr a2), fun c i => by rw [a3, hρ]; rfl, a4, a5⟩
theorem x_139 {n : Nat} (hn : n ≤ 201) (h1 : 1 ≤ n) {v7 : Int32} (h7 : narrow .boolean (.int v7) = .int v7) {σ : zSt} (h44 : gi σ 4 4 = Int32.ofNat n) : ∃ σ', fX2_seekLeast_139 v7 σ = some (v7, σ') ∧ rFr σ σ' ∧ (∀ c i, gi σ' c i = gi σ c i) ∧ isMin (fun j => (gl σ 15 j).toInt) n (gl σ' 4 5).toInt ∧ isMin (fun j => (gl σ 16 j).toInt) n (gl σ' 4 6).toInt := by
  obtain ⟨Z, hZ⟩ := zFU_ge 1000 (by omega)
  have c0 : (0 : Int32).toNatClampNeg = 0 := rfl
  unfold fX2_seekLeast_139
  rw [nm_eq, nm_eq, c0]
  obtain ⟨ρ, hρ⟩ : ∃ ρ, ρ = sl (sl σ 4 5 (gl σ 15 0)) 4 6 (gl σ 16 0) := ⟨_, rfl⟩
  rw [← hρ]
  have l15 : ∀ j, gl ρ 15 j = gl σ 15 j := fun j => by rw [hρ, gl_sl, if_neg (by omega), gl_sl, if_neg (by omega)]
  have l16 : ∀ j, gl ρ 16 j = gl σ 16 j := fun j => by rw [hρ, gl_sl, if_neg (by omega), gl_sl, if_neg (by omega)]
  have p45 : gl ρ 4 5 = gl σ 15 0 := by rw [hρ, gl_sl, if_neg (by omega), gl_sl, if_pos (by omega)]
  have p46 : gl ρ 4 6 = gl σ 16 0 := by rw [hρ, gl_sl, if_pos (by omega)]
  obtain ⟨σ', a1, a2, a3, a4, a5⟩ := x_162 hn h7 (n - 1) 1 zFU ρ (by omega) (by omega) (by rw [hρ]; exact h44) (by
    rw [p45]
    simp only [l15]
    exact ⟨⟨0, by omega, rfl⟩, fun j hj => by
      have : j = 0 := by omega
      rw [this]; exact Int.le_refl _⟩) (by
    rw [p46]
    simp only [l16]
    exact ⟨⟨0, by omega, rfl⟩, fun j hj => by
      have : j = 0 := by omega
      rw [this]; exact Int.le_refl _⟩)
  simp only [l15] at a4
  simp only [l16] at a5
  exact ⟨σ', a1, (by rw [hρ] at a2; exact ((rFr.rf.sl (by omega)).sl (by omega)).tr a2), fun c i => by rw [a3, hρ]; rfl, a4, a5⟩
