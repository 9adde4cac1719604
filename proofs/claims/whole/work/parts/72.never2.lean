/-! never: the loop -/
def nP (i : Nat) (b e : Int) : Prop := b ≤ e ∧ e - b ≤ ((2 ^ (32 - i) : Nat) : Int)
theorem nP_half {w : Nat} {b e : Int} (h : nP w b e) (h2 : 2 ≤ e - b) : w ≤ 31 ∧ nP w ((b + e) / 2) e ∧ nP (w + 1) b ((b + e) / 2) := by
  obtain ⟨h1, h3⟩ := h
  have hw : w ≤ 31 := by
    by_cases q : w ≤ 31
    · exact q
    · exfalso
      rw [show 32 - w = 0 by omega] at h3
      have : ((2 ^ 0 : Nat) : Int) = 1 := rfl
      omega
  have e1 : (2 : Nat) ^ (32 - w) = 2 ^ (32 - (w + 1)) * 2 := by
    rw [show 32 - w = (32 - (w + 1)) + 1 by omega, Nat.pow_succ]
  refine ⟨hw, ⟨by omega, by omega⟩, ⟨by omega, ?_⟩⟩
  rw [e1] at h3
  have : ((2 ^ (32 - (w + 1)) * 2 : Nat) : Int) = ((2 ^ (32 - (w + 1)) : Nat) : Int) * 2 := by rw [Int.natCast_mul]; rfl
  omega
theorem brk_1 {C : qCfg} {k : Nat} {a b B : Int} (h : nBr B (qV C k a a) = true) : brk C k a b B = some a := by unfold brk; rw [if_pos h]
theorem brk_2 {C : qCfg} {k : Nat} {a b B : Int} (h : ¬ nBr B (qV C k a a) = true) (g : nBr B (qV C k b b) = true) : brk C k a b B = some b := by unfold brk; rw [if_neg h, if_pos g]
theorem brk_3 {C : qCfg} {k : Nat} {a b B : Int} (h : ¬ nBr B (qV C k a a) = true) (g : ¬ nBr B (qV C k b b) = true) (f : nBr B (qV C k ((a + b) / 2) ((a + b) / 2)) = true) : brk C k a b B = some ((a + b) / 2) := by unfold brk; rw [if_neg h, if_neg g, if_pos f]
theorem brk_0 {C : qCfg} {k : Nat} {a b B : Int} (h : ¬ nBr B (qV C k a a) = true) (g : ¬ nBr B (qV C k b b) = true) (f : ¬ nBr B (qV C k ((a + b) / 2) ((a + b) / 2)) = true) : brk C k a b B = none := by unfold brk; rw [if_neg h, if_neg g, if_neg f]
/-- what the Model does with a part that isn't above -/
theorem m_never144 {C : qCfg} (hw : qWF C) {τ : zSt} (h0 : mCur C τ) {k : Nat} (hk : k < C.N) {a b : Int32} (B : Int32) {p q : Int64} (hp : p.toInt = a.toInt) (hq : q.toInt = b.toInt) (hab : a.toInt ≤ b.toInt) {w : Nat} (hw2 : w + 1 < 260) (h33 : gi τ 61 33 = Int32.ofNat w) {K : Int32 → Int32 → Int32 → Int32 → zSt → Option (Int32 × zSt)} {v5 v6 : Int32} : (brk C k a.toInt b.toInt B.toInt = none ∧ ∃ (τ' : zSt) (m : Int64), mFr τ τ' ∧ m.toInt = (a.toInt + b.toInt) / 2 ∧ fX9_never_144 K (Int32.ofNat k) B v5 v6 p q τ = if 2 ≤ b.toInt - a.toInt then K (Int32.ofNat k) B v5 v6 (si (sl (sl (sl (sl τ' 78 w m) 79 w q) 78 (w + 1) p) 79 (w + 1) m) 61 33 (Int32.ofNat (w + 2))) else K (Int32.ofNat k) B v5 1 τ') ∨ ∃ x τ' y, brk C k a.toInt b.toInt B.toInt = some x ∧ mFr τ τ' ∧ y.toInt = x ∧ fX9_never_144 K (Int32.ofNat k) B v5 v6 p q τ = some (0, sl (sl τ' 61 31 y) 61 32 y) := by
  have ra := qI_rng a
  have rb := qI_rng b
  obtain ⟨m, m1, m2⟩ := m_mid hp hq ⟨by omega, by omega⟩ ⟨by omega, by omega⟩
  have mx := x_mid a b
  obtain ⟨mi, hmi⟩ : ∃ mi : Int32, mi = fX8_middleOf a b := ⟨_, rfl⟩
  rw [← hmi] at mx
  have m3 : m.toInt = mi.toInt := by rw [m2, mx]
  obtain ⟨τ1, a1, a2⟩ := m_isNot hw h0 hk B hp
  unfold fX9_never_144
  rw [m1, bd1_some, a1, bd2_some]
  have tells : ∀ (x : Int64) (ρ : zSt), (bd2 (fX9_tells 1 x x ρ) fun r s => some (r, s)) = some (0, sl (sl ρ 61 31 x) 61 32 x) := fun x ρ => rfl
  have two : ∀ ρ : zSt, mFr τ ρ → ∀ (t0 : Int64), nBr B.toInt (qV C k a.toInt a.toInt) = true ∨ nBr B.toInt (qV C k b.toInt b.toInt) = true → (t0.toInt = m.toInt → nBr B.toInt (qV C k mi.toInt mi.toInt) = true) → ∃ ρ', mFr τ ρ' ∧ fX9_never_193 K (Int32.ofNat k) B v5 v6 p q m t0 ρ = some (0, sl (sl ρ' 61 31 t0) 61 32 t0) := by
    intro ρ fr t0 _ ht
    unfold fX9_never_193
    by_cases c : t0 = m
    · rw [if_pos c]
      obtain ⟨ρ1, b1, b2⟩ := m_isNot hw (mCur_fr fr h0) hk B m3
      rw [b1, bd2_some, if_pos (ht (qL_eq.mp c)), if_neg iNe1]
      exact ⟨ρ1, fr.tr b2, tells _ _⟩
    · rw [if_neg c]
      exact ⟨ρ, fr, tells _ _⟩
  by_cases c1 : nBr B.toInt (qV C k a.toInt a.toInt) = true
  · rw [if_pos c1, if_neg iNe1]
    refine Or.inr ?_
    obtain ⟨ρ, r1, r2⟩ := two τ1 a2 p (Or.inl c1) (fun e => by rw [hp] at e; rw [← m3, ← e]; exact c1)
    exact ⟨_, ρ, p, brk_1 c1, r1, hp, r2⟩
  rw [if_neg c1, if_pos (show (0 : Int32) = 0 from rfl)]
  obtain ⟨τ2, b1, b2⟩ := m_isNot hw (mCur_fr a2 h0) hk B hq
  rw [b1, bd2_some]
  by_cases c2 : nBr B.toInt (qV C k b.toInt b.toInt) = true
  · rw [if_pos c2, if_neg iNe1]
    refine Or.inr ?_
    obtain ⟨ρ, r1, r2⟩ := two τ2 (a2.tr b2) q (Or.inr c2) (fun e => by rw [hq] at e; rw [← m3, ← e]; exact c2)
    exact ⟨_, ρ, q, brk_2 c1 c2, r1, hq, r2⟩
  rw [if_neg c2, if_pos (show (0 : Int32) = 0 from rfl)]
  unfold fX9_never_193
  rw [if_pos (show m = m from rfl)]
  obtain ⟨τ3, d1, d2⟩ := m_isNot hw (mCur_fr (a2.tr b2) h0) hk B m3
  have fr := (a2.tr b2).tr d2
  rw [d1, bd2_some]
  by_cases c3 : nBr B.toInt (qV C k mi.toInt mi.toInt) = true
  · rw [if_pos c3, if_neg iNe1]
    exact Or.inr ⟨_, τ3, m, by rw [← mx, brk_3 c1 c2 (by rw [← mx]; exact c3), mx], fr, m2, tells _ _⟩
  rw [if_neg c3, if_pos (show (0 : Int32) = 0 from rfl)]
  refine Or.inl ⟨brk_0 c1 c2 (by rw [← mx]; exact c3), τ3, m, fr, m2, ?_⟩
  have ewid2 : (q - p).toInt = b.toInt - a.toInt := by rw [qL_sub (by omega) (by omega), hq, hp]
  have t33 : gi τ3 61 33 = Int32.ofNat w := by rw [fr.1 _ _ (by omega)]; exact h33
  have vw := vin (N := 260) (iNt (n := w) (by omega)) (show w < 260 by omega)
  have cw := iN_cl (n := w) (by omega)
  have vw1 := vin (N := 260) (iNt (n := w + 1) (by omega)) (show w + 1 < 260 by omega)
  have cw1 := iN_cl (n := w + 1) (by omega)
  by_cases c : 2 ≤ b.toInt - a.toInt
  · rw [if_pos (show (2 : Int64) ≤ q - p by rw [qL_le, e2L, ewid2]; exact c), if_pos c, t33, zg_pos vw, zg_pos vw, iN_s (by omega), zg_pos vw1, zg_pos vw1, cw, cw1, nm_eq, show Int32.ofNat w + 2 = Int32.ofNat (w + 2) from iN_a (m := 2) (by omega)]
  · rw [if_neg (show ¬ (2 : Int64) ≤ q - p by rw [qL_le, e2L, ewid2]; exact c), if_neg c]
/-- how a call of never ends on both sides -/
def nEnd (σ0 τ0 : zSt) (x y : Option (Int32 × zSt)) : Prop := ∃ r σ' τ', x = some (r, σ') ∧ pFr σ0 σ' ∧ qFr τ0 τ' ∧ (gi σ' 5 5 = gi σ0 5 5 ∧ ∀ c i, 18 ≤ c → c ≤ 20 → gi σ' c i = gi σ0 c i) ∧ (gi τ' 61 40 = gi τ0 61 40 ∧ (∀ i, gi τ' 84 i = gi τ0 84 i) ∧ ∀ c i, c = 82 ∨ c = 83 → gl τ' c i = gl τ0 c i) ∧ gi σ' 5 6 = gi τ' 61 39 ∧ ((¬ r = 0 ∧ y = some (r, τ')) ∨ (r = 0 ∧ y = some (0, sl (sl τ' 61 31 (gi σ' 5 7).toInt64) 61 32 (gi σ' 5 7).toInt64)))
theorem e400I : (400 : Int32).toInt = 400 := by decide
theorem z_neverL {C : qCfg} {M : Nat → Nat} (hw : qWF C) (hm : xNd C M) {k : Nat} (hk : k < C.N) (B : Int32) {most : Nat} (hmost : most ≤ 400) {σ0 τ0 : zSt} (hx : xCur C M σ0) (hc : mCur C τ0) : ∀ (d F G w : Nat) (bg u : Int32) (σ τ : zSt), (u = 0 ∨ u = 1) → d ≤ most → d < F → d < G → pFr σ0 σ → qFr τ0 τ → (gi σ 5 5 = gi σ0 5 5 ∧ ∀ c i, 18 ≤ c → c ≤ 20 → gi σ c i = gi σ0 c i) → (gi τ 61 40 = gi τ0 61 40 ∧ (∀ i, gi τ 84 i = gi τ0 84 i) ∧ ∀ c i, c = 82 ∨ c = 83 → gl τ c i = gl τ0 c i) → gi σ 5 6 = Int32.ofNat (most - d) → gi τ 61 39 = Int32.ofNat (most - d) → zWk w bg σ τ → zWait nP w bg σ → w ≤ 33 → nEnd σ0 τ0 (fX7_seekBreak_L22 F (Int32.ofNat k) B (Int32.ofNat most) bg u σ) (fX9_never_L58 G (Int32.ofNat k) B (Int32.ofNat most) u τ) := by
  intro d
  induction d with
  | zero =>
    intro F G w bg u σ τ hu01 h0 h2 h3 f1 f2 g1 g2 l1 l2 wk wd hw33
    obtain ⟨F, rfl⟩ : ∃ F', F = F' + 1 := ⟨F - 1, by omega⟩
    obtain ⟨G, rfl⟩ : ∃ F', G = F' + 1 := ⟨G - 1, by omega⟩
    rw [fX7_seekBreak_L22, fX9_never_L58]
    unfold fX7_seekBreak_22 fX9_never_58
    have e7 : gi σ 5 6 = gi τ 61 39 := by rw [l1, l2]
    rw [l1, l2, Nat.sub_zero, if_pos (show Int32.ofNat most ≤ Int32.ofNat most from qI_le.mpr (Int.le_refl _)), wk.1, wk.2.1]
    cases w with
    | zero =>
      rw [if_pos (show Int32.ofNat 0 ≤ 0 by decide), if_pos (show Int32.ofNat 0 ≤ 0 by decide)]
      by_cases hu : u = 0
      · rw [if_pos hu, if_pos hu]
        exact ⟨_, _, _, rfl, f1, f2, g1, g2, e7, Or.inl ⟨by decide, rfl⟩⟩
      · rw [if_neg hu, if_neg hu]
        exact ⟨_, _, _, rfl, f1, f2, g1, g2, e7, Or.inl ⟨by decide, rfl⟩⟩
    | succ w =>
      have ew := iNt (n := w + 1) (by omega)
      rw [if_neg (show ¬ Int32.ofNat (w + 1) ≤ 0 by rw [qI_le, ew, q0I]; omega), if_neg (show ¬ Int32.ofNat (w + 1) ≤ 0 by rw [qI_le, ew, q0I]; omega), if_pos (show Int32.ofNat most = Int32.ofNat most from rfl)]
      by_cases hu : u = 0
      · rw [if_pos hu]
        exact ⟨_, _, _, rfl, f1, f2, g1, g2, e7, Or.inl ⟨by decide, rfl⟩⟩
      · rw [if_neg hu]
        exact ⟨_, _, _, rfl, f1, f2, g1, g2, e7, Or.inl ⟨by decide, rfl⟩⟩
  | succ d ih =>
    intro F G w bg u σ τ hu01 h0 h2 h3 f1 f2 g1 g2 l1 l2 wk wd hw33
    obtain ⟨F, rfl⟩ : ∃ F', F = F' + 1 := ⟨F - 1, by omega⟩
    obtain ⟨G, rfl⟩ : ∃ F', G = F' + 1 := ⟨G - 1, by omega⟩
    rw [fX7_seekBreak_L22, fX9_never_L58]
    unfold fX7_seekBreak_22 fX9_never_58
    have e7 : gi σ 5 6 = gi τ 61 39 := by rw [l1, l2]
    have eL := iNt (n := most - (d + 1)) (by omega)
    have eM := iNt (n := most) (by omega)
    rw [l1, l2, if_neg (show ¬ Int32.ofNat most ≤ Int32.ofNat (most - (d + 1)) by rw [qI_le, eL, eM]; omega), wk.1, wk.2.1]
    cases w with
    | zero =>
      rw [if_pos (show Int32.ofNat 0 ≤ 0 by decide), if_pos (show Int32.ofNat 0 ≤ 0 by decide)]
      by_cases hu : u = 0
      · rw [if_pos hu, if_pos hu]
        exact ⟨_, _, _, rfl, f1, f2, g1, g2, e7, Or.inl ⟨by decide, rfl⟩⟩
      · rw [if_neg hu, if_neg hu]
        exact ⟨_, _, _, rfl, f1, f2, g1, g2, e7, Or.inl ⟨by decide, rfl⟩⟩
    | succ w =>
      have ew := iNt (n := w + 1) (by omega)
      have pw := wd w (by omega)
      unfold zBg at pw
      rw [if_neg (show ¬ w + 1 < w + 1 by omega)] at pw
      obtain ⟨k1, k2, k3, k4, k5⟩ := id wk
      have vw := vin (N := 260) (iNt (n := w) (by omega)) (show w < 260 by omega)
      have cw := iN_cl (n := w) (by omega)
      have hp := k5 (by omega)
      rw [show w + 1 - 1 = w by omega] at hp
      have hq := k3 w (by omega)
      have rb := qI_rng bg
      have re := qI_rng (gi σ 17 w)
      have eL1 : Int32.ofNat (most - (d + 1)) + 1 = Int32.ofNat (most - d) := by rw [iN_s (by omega), show most - (d + 1) + 1 = most - d by omega]
      rw [if_neg (show ¬ Int32.ofNat (w + 1) ≤ 0 by rw [qI_le, ew, q0I]; omega), if_neg (show ¬ Int32.ofNat (w + 1) ≤ 0 by rw [qI_le, ew, q0I]; omega), if_neg (show ¬ Int32.ofNat (most - (d + 1)) = Int32.ofNat most by rw [qI_eq, eL, eM]; omega), x_first (by omega) k1, bd1_some, iN_p (by omega), zg_pos vw, cw, nm_eq, zg_pos vw, nm_eq, eL1]
      obtain ⟨en, hen⟩ : ∃ en, en = gi σ 17 w := ⟨_, rfl⟩
      obtain ⟨p, hpe⟩ : ∃ p, p = gl τ 78 w := ⟨_, rfl⟩
      obtain ⟨q, hqe⟩ : ∃ q, q = gl τ 79 w := ⟨_, rfl⟩
      rw [← hen, ← hpe, ← hqe]
      rw [← hen] at pw hq re
      rw [← hpe] at hp
      rw [← hqe] at hq
      have hbe : bg.toInt ≤ en.toInt := pw.1
      obtain ⟨f, σ1, a1, a2, a3, -⟩ := x_m hw hm (xCur_y f1.y hx) hk (a := bg) (b := en) 0 hbe
      obtain ⟨ρ0, hρ0⟩ : ∃ ρ0, ρ0 = si (si τ 61 39 (Int32.ofNat (most - d))) 61 33 (Int32.ofNat w) := ⟨_, rfl⟩
      have fq0 : qFr τ ρ0 := by rw [hρ0]; exact (qFr.rf.si (by omega)).si (by omega)
      have fr0 : wFr τ0 ρ0 := (f2.tr fq0).w
      obtain ⟨r, τ1, b1, b2, b3⟩ := m_m hw (mCur_w fr0 hc) hk (a := bg) (b := en) hbe hp hq
      rw [← hρ0, a1, bd2_some, b1, bd2_some, nm_eq, x_isAbove a3 B]
      have F1 : pFr σ0 σ1 := f1.tr a2.p
      have F2 : qFr τ0 τ1 := (f2.tr fq0).tr b2.q
      have ewid : (en.toInt64 - bg.toInt64).toInt = en.toInt - bg.toInt := by rw [qL_sub (by rw [qL_ofI, qL_ofI]; omega) (by rw [qL_ofI, qL_ofI]; omega), qL_ofI, qL_ofI]
      -- states that agree enough
      have z33 : gi ρ0 61 33 = Int32.ofNat w := by rw [hρ0, gi_si, if_pos (by omega)]
      have z39 : gi ρ0 61 39 = Int32.ofNat (most - d) := by rw [hρ0, gi_si, if_neg (by omega), gi_si, if_pos (by omega)]
      have z40 : gi ρ0 61 40 = gi τ 61 40 := by rw [hρ0, gi_si, if_neg (by omega), gi_si, if_neg (by omega)]
      have z84 : ∀ i, gi ρ0 84 i = gi τ 84 i := fun i => by rw [hρ0, gi_si, if_neg (by omega), gi_si, if_neg (by omega)]
      have zl : ∀ c i, gl ρ0 c i = gl τ c i := fun c i => by rw [hρ0]; rfl
      -- the part is done with: both pop it
      have pop : ∀ (σ2 τ2 : zSt) (v : Int32), (v = 0 ∨ v = 1) → kFr σ σ2 → mFr ρ0 τ2 → nEnd σ0 τ0 (fX7_seekBreak_L22 F (Int32.ofNat k) B (Int32.ofNat most) en v (si (si σ2 5 4 (gi σ2 5 4 - 1)) 5 6 (gi σ2 5 6 + 1))) (fX9_never_L58 G (Int32.ofNat k) B (Int32.ofNat most) v τ2) := by
        intro σ2 τ2 v hv x1 x2
        have s54 : gi σ2 5 4 = Int32.ofNat (w + 1) := by rw [x1.1 _ _ (by omega)]; exact k1
        have s56 : gi σ2 5 6 = Int32.ofNat (most - (d + 1)) := by rw [x1.1 _ _ (by omega)]; exact l1
        rw [s54, s56, iN_p (by omega), eL1]
        have a17 : ∀ i, gi (si (si σ2 5 4 (Int32.ofNat w)) 5 6 (Int32.ofNat (most - d))) 17 i = gi σ 17 i := fun i => by rw [gi_si, if_neg (by omega), gi_si, if_neg (by omega), x1.1 _ _ (by omega)]
        rw [hen]
        refine ih F G w (gi σ 17 w) v _ _ hv (by omega) (by omega) (by omega) (((f1.tr x1.p).si (by omega)).si (by omega)) ((f2.tr fq0).tr x2.q) ⟨?_, fun c i _ _ => ?_⟩ ⟨?_, fun i => ?_, fun c i hc => ?_⟩ (by rw [gi_si, if_pos (by omega)]) ?_ (z_popK wk (by rw [gi_si, if_neg (by omega), gi_si, if_pos (by omega)]) a17 ?_ (fun c i hc => ?_)) (z_popD wd a17) (by omega)
        · rw [gi_si, if_neg (by omega), gi_si, if_neg (by omega), x1.1 _ _ (by omega)]; exact g1.1
        · rw [gi_si, if_neg (by omega), gi_si, if_neg (by omega), x1.1 _ _ (by omega)]; exact g1.2 c i (by omega) (by omega)
        · rw [x2.1 _ _ (by omega), z40]; exact g2.1
        · rw [x2.1 _ _ (by omega), z84]; exact g2.2.1 i
        · rw [x2.2 _ _ (by omega), zl]; exact g2.2.2 c i hc
        · rw [x2.1 _ _ (by omega)]; exact z39
        · rw [x2.1 _ _ (by omega)]; exact z33
        · rw [x2.2 _ _ (by omega), zl]
      by_cases ab : nAb B.toInt (qV C k bg.toInt en.toInt) = true
      · rw [if_pos ab]
        have q1 : ¬ r = 0 ∧ ¬ gl τ1 61 29 ≤ B.toInt64 := by
          generalize qV C k bg.toInt en.toInt = s at b3 ab
          cases s with
          | none => cases ab
          | some z =>
            obtain ⟨y1, y2, y3⟩ := b3
            have y4 : B.toInt < z.1 := of_decide_eq_true ab
            exact ⟨by rw [y1]; decide, by rw [qL_le, y2, qL_ofI]; omega⟩
        rw [if_neg iNe1, if_neg q1.1, if_neg q1.2]
        unfold fX7_seekBreak_93
        rw [if_neg iNe1]
        unfold fX7_seekBreak_135 fX7_seekBreak_145
        by_cases hu : u = 0
        · rw [if_pos hu, if_neg iNe1, hu]
          exact pop σ1 τ1 0 (Or.inl rfl) a2.k b2
        · rw [if_neg hu]
          have hu1 : u = 1 := by rcases hu01 with e | e; exact absurd e hu; exact e
          rw [hu1]
          exact pop σ1 τ1 1 (Or.inr rfl) a2.k b2
      · rw [if_neg ab]
        rw [if_pos (show (0 : Int32) = 0 from rfl)]
        have e144 : (if r = 0 then fX9_never_144 (fX9_never_L58 G) (Int32.ofNat k) B (Int32.ofNat most) u p q τ1 else if gl τ1 61 29 ≤ B.toInt64 then fX9_never_144 (fX9_never_L58 G) (Int32.ofNat k) B (Int32.ofNat most) u p q τ1 else fX9_never_L58 G (Int32.ofNat k) B (Int32.ofNat most) u τ1) = fX9_never_144 (fX9_never_L58 G) (Int32.ofNat k) B (Int32.ofNat most) u p q τ1 := by
          generalize qV C k bg.toInt en.toInt = s at b3 ab
          cases s with
          | none => rw [if_pos (show r = 0 from b3)]
          | some z =>
            obtain ⟨y1, y2, y3⟩ := b3
            have y4 : ¬ B.toInt < z.1 := fun h => ab (decide_eq_true h)
            rw [if_neg (by rw [y1]; decide), if_pos (show gl τ1 61 29 ≤ B.toInt64 by rw [qL_le, y2, qL_ofI]; omega)]
        rw [e144]
        obtain ⟨rr, σ2, c1, c2, c3⟩ := x_breaks hw hm (xCur_y F1.y hx) hk bg en B
        have K2 : kFr σ σ2 := a2.k.tr c2
        have t33 : gi τ1 61 33 = Int32.ofNat w := by rw [b2.1 _ _ (by omega)]; exact z33
        have s54 : gi σ2 5 4 = Int32.ofNat (w + 1) := by rw [K2.1 _ _ (by omega)]; exact k1
        have s56 : gi σ2 5 6 = Int32.ofNat (most - (d + 1)) := by rw [K2.1 _ _ (by omega)]; exact l1
        rw [c1, bd2_some]
        rcases m_never144 hw (mCur_w F2.w hc) hk (a := bg) (b := en) B hp hq hbe (w := w) (by omega) t33 (K := fX9_never_L58 G) (v5 := Int32.ofNat most) (v6 := u) with ⟨n1, τ2, m, n2, n3, n4⟩ | ⟨x, τ2, y, n1, n2, n3, n4⟩
        · have hr0 : rr = 0 := by
            rcases c3 with ⟨c3, -⟩ | ⟨-, c4⟩
            · exact c3
            · rw [n1] at c4; cases c4
          have M2 : mFr ρ0 τ2 := b2.tr n2
          rw [if_pos hr0, n4]
          unfold fX7_seekBreak_93
          rw [if_pos (show (0 : Int32) = 0 from rfl)]
          by_cases wd2 : 2 ≤ en.toInt - bg.toInt
          · obtain ⟨w31, pa, pb⟩ := nP_half pw wd2
            have mx := x_mid bg en
            rw [if_pos wd2, if_neg (show ¬ en.toInt64 - bg.toInt64 < 2 by rw [qL_lt, ewid, e2L]; omega), s54, if_neg (show ¬ (64 : Int32) ≤ Int32.ofNat (w + 1) by rw [qI_le, ew, e64I]; omega), x_await (by omega) s54, bd1_some, nm_eq]
            have s56' : gi (si (si σ2 17 (w + 1) (fX8_middleOf bg en)) 5 4 (Int32.ofNat (w + 1 + 1))) 5 6 + 1 = Int32.ofNat (most - d) := by
              rw [gi_si, if_neg (by omega), gi_si, if_neg (by omega), s56, eL1]
            rw [s56']
            have a17 : ∀ i, gi (si (si (si σ2 17 (w + 1) (fX8_middleOf bg en)) 5 4 (Int32.ofNat (w + 1 + 1))) 5 6 (Int32.ofNat (most - d))) 17 i = if i = w + 1 then fX8_middleOf bg en else gi σ 17 i := fun i => by
              rw [gi_si, if_neg (by omega), gi_si, if_neg (by omega), gi_si, K2.1 _ _ (by omega)]
              by_cases e : i = w + 1
              · rw [if_pos e, if_pos (by omega)]
              · rw [if_neg e, if_neg (by omega)]
            refine ih F G (w + 2) bg u _ _ hu01 (by omega) (by omega) (by omega) ((((f1.tr K2.p).si (by omega)).si (by omega)).si (by omega)) ((((((f2.tr fq0).tr M2.q).sl (by omega)).sl (by omega)).sl (by omega)).sl (by omega) |>.si (by omega)) ⟨?_, fun c i _ _ => ?_⟩ ⟨?_, fun i => ?_, fun c i hc => ?_⟩ (by rw [gi_si, if_pos (by omega)]) ?_ (z_pushK (m := fX8_middleOf bg en) (p := p) (q := q) (r := m) wk hp (by rw [← hen]; exact hq) (by rw [n3, mx]) (by rw [gi_si, if_neg (by omega), gi_si, if_pos (by omega)]) a17 (by rw [gi_si, if_pos (by omega)]) (fun i => ?_) (fun i => ?_)) (z_pushD wd a17 (by rw [mx, ← hen]; exact pa) (by rw [mx]; exact pb)) (by omega)
            · rw [gi_si, if_neg (by omega), gi_si, if_neg (by omega), gi_si, if_neg (by omega), K2.1 _ _ (by omega)]; exact g1.1
            · rw [gi_si, if_neg (by omega), gi_si, if_neg (by omega), gi_si, if_neg (by omega), K2.1 _ _ (by omega)]; exact g1.2 c i (by omega) (by omega)
            · rw [gi_si, if_neg (by omega), gi_sl, gi_sl, gi_sl, gi_sl, M2.1 _ _ (by omega), z40]; exact g2.1
            · rw [gi_si, if_neg (by omega), gi_sl, gi_sl, gi_sl, gi_sl, M2.1 _ _ (by omega), z84]; exact g2.2.1 i
            · rw [gl_si, gl_sl, if_neg (by omega), gl_sl, if_neg (by omega), gl_sl, if_neg (by omega), gl_sl, if_neg (by omega), M2.2 _ _ (by omega), zl]; exact g2.2.2 c i hc
            · rw [gi_si, if_neg (by omega), gi_sl, gi_sl, gi_sl, gi_sl, M2.1 _ _ (by omega)]; exact z39
            · rw [gl_si, gl_sl, if_neg (by omega), gl_sl]
              by_cases e : i = w + 1
              · rw [if_pos (by omega), if_pos e]
              · rw [if_neg (by omega), if_neg e, gl_sl, if_neg (by omega), gl_sl]
                by_cases e3 : i = w
                · rw [if_pos (by omega), if_pos e3]
                · rw [if_neg (by omega), if_neg e3, M2.2 _ _ (by omega), zl]
            · rw [gl_si, gl_sl]
              by_cases e : i = w + 1
              · rw [if_pos (by omega), if_pos e]
              · rw [if_neg (by omega), if_neg e, gl_sl, if_neg (by omega), gl_sl]
                by_cases e3 : i = w
                · rw [if_pos (by omega), if_pos e3]
                · rw [if_neg (by omega), if_neg e3, gl_sl, if_neg (by omega), M2.2 _ _ (by omega), zl]
          · rw [if_neg wd2, if_pos (show en.toInt64 - bg.toInt64 < 2 by rw [qL_lt, ewid, e2L]; omega)]
            unfold fX7_seekBreak_135 fX7_seekBreak_145
            rw [if_pos (show (0 : Int32) = 0 from rfl), ite_self]
            exact pop σ2 τ2 1 (Or.inr rfl) K2 M2
        · have hr1 : rr = 1 ∧ (gi σ2 5 7).toInt = x := by
            rcases c3 with ⟨-, c4⟩ | ⟨c3, c4⟩
            · rw [n1] at c4; cases c4
            · rw [n1] at c4; exact ⟨c3, (Option.some.inj c4).symm⟩
          have M2 : mFr ρ0 τ2 := b2.tr n2
          rw [if_neg (by rw [hr1.1]; decide), n4, nm_eq, s56, eL1]
          have ey : y = (gi σ2 5 7).toInt64 := qL_eq.mpr (by rw [qL_ofI, n3, hr1.2])
          refine ⟨0, si σ2 5 6 (Int32.ofNat (most - d)), τ2, rfl, (f1.tr K2.p).si (by omega), (f2.tr fq0).tr M2.q, ⟨?_, fun c i _ _ => ?_⟩, ⟨?_, fun i => ?_, fun c i hc => ?_⟩, ?_, Or.inr ⟨rfl, ?_⟩⟩
          · rw [gi_si, if_neg (by omega), K2.1 _ _ (by omega)]; exact g1.1
          · rw [gi_si, if_neg (by omega), K2.1 _ _ (by omega)]; exact g1.2 c i (by omega) (by omega)
          · rw [M2.1 _ _ (by omega), z40]; exact g2.1
          · rw [M2.1 _ _ (by omega), z84]; exact g2.2.1 i
          · rw [M2.2 _ _ (by omega), zl]; exact g2.2.2 c i hc
          · rw [gi_si, if_pos (by omega), M2.1 _ _ (by omega)]; exact z39.symm
          · rw [gi_si, if_neg (by omega), ey]
