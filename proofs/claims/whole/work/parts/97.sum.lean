/-! sums and terms -/
theorem actS {C : qCfg} {N d κ f g : Nat} {lf : Int32} (h1 : 13 ≤ κ) (h2 : κ ≤ 16) (hu : biOk N d f g) (hl : lf.toInt + 60 * N = f) : actOk C N d (κ, f, g, none) ∧ xT (Int32.ofNat κ) 0 lf N (κ, f, g, none) ∧ (∀ τ j, gi τ 64 j = Int32.ofNat (κ - 8) → gi τ 65 j = Int32.ofNat f → gi τ 66 j = Int32.ofNat g → mAct τ j (κ, f, g, none)) ∧ qOps (κ, f, g, none) = [f, g] := by
  rcases (show κ = 13 ∨ κ = 14 ∨ κ = 15 ∨ κ = 16 by omega) with e | e | e | e <;> subst e <;> exact ⟨hu, ⟨rfl, hl⟩, fun τ j a b c => ⟨a, b, c⟩, rfl⟩
theorem sum_B {n : Nat} {σ0 σ : zSt} {kd pl : Nat} (h : xBad n σ0 kd pl σ) (F : Nat → Int32 → zSt → Option zSt) (K : Nat) (a v : Int32) : fX3_sum_L7 F (K + 1) a v σ = some σ := by
  rw [fX3_sum_L7]
  unfold fX3_sum_7
  by_cases x : 200 ≤ v
  · rw [if_pos x]
  · rw [if_neg x, if_neg (xB_ne h)]
theorem sum_MB {C : qCfg} {n : Nat} {τ0 τ : zSt} {kd pl : Nat} (h : mBad C n τ0 kd pl τ) (F : Nat → Int32 → zSt → Option (Int32 × zSt)) (K : Nat) (v : Int32) : fX9_sum_L5 F (K + 1) v τ = some (v, τ) := by
  rw [fX9_sum_L5]
  unfold fX9_sum_5
  rw [if_neg (bdB h)]
theorem sum_op {C : qCfg} {n : Nat} {β : Nat → Nat} {σ0 τ0 σ τ : zSt} (hE : pE C n β σ0 τ0) {k m o : Nat} (hP : pSim C n σ0 τ0 (G3 k 1) (G9 m 1 0) o) {p0 p q q' d d' i κ : Nat} {A A' : Nat → qAct} {ch : Int32} (hch : (ch = 43 ∧ κ = 13) ∨ (¬ ch = 43 ∧ κ = 14)) (hx : pX C n σ0 p q' d' A' σ) (hm : pM C τ0 p q' d' o A' τ) (hpn : p < n) (hp : p0 ≤ p) (hd : d < d') (hq : d ≤ q) (hc : d' + q = d + q') (ha : ∀ j, j < d → A' j = A j) (ht : tree C.N A' d d') (hi : i < 10000) (KX KM : Nat) (hK : ∀ p2 q2 d2 A2 σ2 τ2, p + 1 < p2 → d < d2 → d2 + q = d + q2 → (∀ j, j < d → A2 j = A j) → tree C.N A2 d d2 → pX C n σ0 p2 q2 d2 A2 σ2 → pM C τ0 p2 q2 d2 o A2 τ2 → pR C n σ0 τ0 p0 q d o A (fX3_sum_L7 (G3 k) (KX + 1) (Int32.ofNat o) (Int32.ofNat (i + 1)) σ2) (fX9_sum_L5 (G9 m) (KM + 1) (Int32.ofNat (60 * C.N + d2 - 1)) τ2)) : pR C n σ0 τ0 p0 q d o A (fX3_sum_38 (G3 k) (fX3_sum_L7 (G3 k) (KX + 1)) (Int32.ofNat o) (Int32.ofNat i) ch σ) (fX9_sum_45 (G9 m) (fX9_sum_L5 (G9 m) (KM + 1)) (Int32.ofNat (60 * C.N + d' - 1)) (Int32.ofNat (κ - 8)) τ) := by
  have hh := hE.2.1
  have mm := metM hm (n := n) (by omega)
  have q6 := hx.2.2.2.1.1
  unfold fX3_sum_38 fX9_sum_45
  rw [hm.2.2.1]
  rcases metX hE hx with ⟨x, σ1, e1, x1⟩ | ⟨x, σ1, e1, b1⟩
  · obtain ⟨τ1, e2, m1⟩ := mm.1 x
    have x2 := atX x1 (p' := p + 1) (by omega)
    have m2 := atM m1 (p + 1)
    have lft : gi (si σ1 1 2 (Int32.ofNat (p + 1))) (21 + 4 * 9) 3 - 1 = Int32.ofNat (d' - 1) := by
      rw [show gi (si σ1 1 2 (Int32.ofNat (p + 1))) (21 + 4 * 9) 3 = Int32.ofNat d' from x2.2.2.2.2.1.2, show d' = d' - 1 + 1 by omega, iN_p (by have := x2.2.2.2.2.1.1; omega), Nat.add_sub_cancel]
    rw [e1, bd2_some, if_neg iNe1, x1.2.2.1.2, iN_s (n := p) (by omega), lft, nm_eq, e2, bd1_some, m1.2.2.1, iN_s (n := p) (by omega), nm_eq, if_pos (bdM m2)]
    rcases hP (p + 1) (q' + 1) d' A' _ _ x2 m2 with ⟨kd, pl, σ3, r, τ3, e3, e4, b3, b4⟩ | ⟨p2, q2, d2, A2, σ3, τ3, e3, e4, f1, f2, f3, x3, m3⟩
    · rw [e3, bd1_some, e4, bd2_some, emitB b3, bd1_some, emitB b3, bd1_some, nm_eq, sum_B b3, mkB b4, bd2_some, sum_MB b4]
      by_cases g : ch = 43
      · rw [if_pos g]; exact pR.bad b3 b4
      · rw [if_neg g]; exact pR.bad b3 b4
    · have q8 := x3.2.2.2.1.1
      have hb : biOk C.N d2 (60 * C.N + d' - 1) (60 * C.N + d2 - 1) := ⟨rfl, d' - 1, by omega, by omega⟩
      have hl : (Int32.ofNat (d' - 1)).toInt + 60 * C.N = (60 * C.N + d' - 1 : Nat) := by rw [iNt (by omega)]; omega
      obtain ⟨u1, u2, u3, u4⟩ := actS (C := C) (N := C.N) (d := d2) (κ := κ) (by omega) (by omega) hb hl
      obtain ⟨σ4, e5, x4⟩ := emitX x3 (by omega) u1 u2
      obtain ⟨τ4, e6, m4⟩ := mkM hE m3 (by omega) (t := Int32.ofNat (κ - 8)) (x := Int32.ofNat (60 * C.N + d' - 1)) (y := Int32.ofNat (60 * C.N + d2 - 1)) (u3 _ _ row64 row65 row66)
      have go := hK p2 q2 (d2 + 1) _ σ4 τ4 f1.1 (by omega) (by omega) (fun j hj => by rw [upA_lt (by omega), f2 j (by omega)]; exact ha j hj) (tree_bi ht f2 f3 hd f1.2.1 (by rw [u4]; exact List.mem_cons.mpr (Or.inl rfl)) (by rw [u4]; exact List.mem_cons.mpr (Or.inr (List.mem_singleton.mpr rfl)))) x4 m4
      rw [show 60 * C.N + (d2 + 1) - 1 = 60 * C.N + d2 by omega] at go
      rw [e3, bd1_some, e4, bd2_some, e6, bd2_some]
      rcases hch with ⟨g, gk⟩ | ⟨g, gk⟩
      · subst gk
        rw [if_pos g, show fX3_emit 13 0 (Int32.ofNat (d' - 1)) σ3 = some σ4 from e5, bd1_some, nm_eq, iN_s (by omega)]
        exact go
      · subst gk
        rw [if_neg g, show fX3_emit 14 0 (Int32.ofNat (d' - 1)) σ3 = some σ4 from e5, bd1_some, nm_eq, iN_s (by omega)]
        exact go
  · obtain ⟨τ1, e2, b2, f2⟩ := mm.2 x
    rw [e1, bd2_some, if_pos (show (0 : Int32) = 0 from rfl), e2, bd1_some, nm_eq, if_neg (bdB (siB b2 (by omega) _)), mkB (siB b2 (by omega) _), bd2_some, sum_MB (siB b2 (by omega) _)]
    exact pR.bad b1 (siB b2 (by omega) _)
theorem sum_loop {C : qCfg} {n : Nat} {β : Nat → Nat} {σ0 τ0 : zSt} (hE : pE C n β σ0 τ0) {k m o : Nat} (hP : pSim C n σ0 τ0 (G3 k 1) (G9 m 1 0) o) {p0 q d : Nat} {A : Nat → qAct} (hq : d ≤ q) : ∀ (f p q' d' i KX KM : Nat) (A' : Nat → qAct) (σ τ : zSt), f < KX → f < KM → n ≤ p + f → i < p → p0 < p → d < d' → d' + q = d + q' → (∀ j, j < d → A' j = A j) → tree C.N A' d d' → pX C n σ0 p q' d' A' σ → pM C τ0 p q' d' o A' τ → pR C n σ0 τ0 p0 q d o A (fX3_sum_L7 (G3 k) KX (Int32.ofNat o) (Int32.ofNat i) σ) (fX9_sum_L5 (G9 m) KM (Int32.ofNat (60 * C.N + d' - 1)) τ) := by
  have hh := hE.2.1
  have e43 : (43 : Int32) = Int32.ofNat 43 := rfl
  have e45 : (45 : Int32) = Int32.ofNat 45 := rfl
  intro f
  induction f with
  | zero =>
    intro p q' d' i KX KM A' σ τ h1 h2 h3 h4 h5 h6 h7 h8 h9 hx hm
    obtain ⟨KX, rfl⟩ : ∃ K', KX = K' + 1 := ⟨KX - 1, by omega⟩
    obtain ⟨KM, rfl⟩ : ∃ K', KM = K' + 1 := ⟨KM - 1, by omega⟩
    have hp := hx.2.2.1.1
    obtain ⟨σ1, e1, x1⟩ := sgX hE hx
    obtain ⟨τ1, e2, m1⟩ := pkM hE hm hp
    have so := sk_ok (β := β) hE.2.1 hp
    have es : sk n β p = n := by omega
    rw [es] at e1 x1 e2 m1
    obtain ⟨τ2, e3, m2⟩ := pkM hE m1 (Nat.le_refl _)
    have es2 : sk n β n = n := by have := sk_ok (β := β) hE.2.1 (Nat.le_refl n); omega
    rw [es2] at e3 m2
    have c0 : chI n β n = -1 := if_neg (by omega)
    rw [c0] at e1 e2 e3
    rw [fX3_sum_L7, fX9_sum_L5]
    unfold fX3_sum_7 fX9_sum_5
    rw [if_neg (show ¬ (200 : Int32) ≤ Int32.ofNat i by rw [qI_le, e200, iNt (by omega)]; omega), if_pos hx.2.1, e1, bd2_some, if_neg (show ¬ (-1 : Int32) = 43 by decide), if_neg (show ¬ (-1 : Int32) = 45 by decide), if_pos (bdM hm), e2, bd2_some, if_neg (show ¬ (-1 : Int32) = 43 by decide), e3, bd2_some, if_neg (show ¬ (-1 : Int32) = 45 by decide)]
    exact Or.inr ⟨n, q', d', A', _, _, rfl, rfl, ⟨by omega, h6, h7⟩, h8, h9, x1, m2⟩
  | succ f ih =>
    intro p q' d' i KX KM A' σ τ h1 h2 h3 h4 h5 h6 h7 h8 h9 hx hm
    obtain ⟨KX, rfl⟩ : ∃ K', KX = K' + 1 + 1 := ⟨KX - 2, by omega⟩
    obtain ⟨KM, rfl⟩ : ∃ K', KM = K' + 1 + 1 := ⟨KM - 2, by omega⟩
    have hp := hx.2.2.1.1
    obtain ⟨σ1, e1, x1⟩ := sgX hE hx
    obtain ⟨τ1, e2, m1⟩ := pkM hE hm hp
    have so := sk_ok (β := β) hE.2.1 hp
    obtain ⟨s, hs⟩ : ∃ s, s = sk n β p := ⟨_, rfl⟩
    rw [← hs] at e1 x1 e2 m1 so
    have ss : sk n β s = s := sk_sk so.2.2
    obtain ⟨τ2, e3, m2⟩ := pkM hE m1 so.2.1
    rw [ss] at e3 m2
    obtain ⟨τ3, e4, m3⟩ := pkM hE m2 so.2.1
    rw [ss] at e4 m3
    have c1 := chI_eq (n := n) (β := β) (p := s) (fun h => hE.2.2.1 _ h) (k := 43) (by omega)
    have c2 := chI_eq (n := n) (β := β) (p := s) (fun h => hE.2.2.1 _ h) (k := 45) (by omega)
    rw [fX3_sum_L7, fX9_sum_L5]
    unfold fX3_sum_7 fX9_sum_5
    rw [if_neg (show ¬ (200 : Int32) ≤ Int32.ofNat i by rw [qI_le, e200, iNt (by omega)]; omega), if_pos hx.2.1, e1, bd2_some, if_pos (bdM hm), e2, bd2_some]
    by_cases y : s < n ∧ β s = 43
    · have y' : chI n β s = 43 := c1.mpr y
      rw [if_pos y', if_pos y', e3, bd2_some, if_pos y']
      exact sum_op hE hP (κ := 13) (Or.inl ⟨y', rfl⟩) x1 m2 y.1 (by omega) h6 hq h7 h8 h9 (by omega) KX KM (fun p2 q2 d2 A2 σ2 τ2 a1 a2 a3 a4 a5 a6 a7 => ih p2 q2 d2 (i + 1) (KX + 1) (KM + 1) A2 σ2 τ2 (by omega) (by omega) (by omega) (by omega) (by omega) a2 a3 a4 a5 a6 a7)
    · have y' : ¬ chI n β s = 43 := fun h => y (c1.mp h)
      rw [if_neg y', if_neg y', e3, bd2_some]
      by_cases z : s < n ∧ β s = 45
      · have z' : chI n β s = 45 := c2.mpr z
        rw [if_pos z', if_pos z', e4, bd2_some, if_neg y']
        exact sum_op hE hP (κ := 14) (Or.inr ⟨y', rfl⟩) x1 m3 z.1 (by omega) h6 hq h7 h8 h9 (by omega) KX KM (fun p2 q2 d2 A2 σ2 τ2 a1 a2 a3 a4 a5 a6 a7 => ih p2 q2 d2 (i + 1) (KX + 1) (KM + 1) A2 σ2 τ2 (by omega) (by omega) (by omega) (by omega) (by omega) a2 a3 a4 a5 a6 a7)
      · have z' : ¬ chI n β s = 45 := fun h => z (c2.mp h)
        rw [if_neg z', if_neg z']
        exact Or.inr ⟨s, q', d', A', _, _, rfl, rfl, ⟨by omega, h6, h7⟩, h8, h9, x1, m2⟩
theorem sim_sum {C : qCfg} {n : Nat} {β : Nat → Nat} {σ0 τ0 : zSt} (hE : pE C n β σ0 τ0) {k m o : Nat} (hP : pSim C n σ0 τ0 (G3 k 1) (G9 m 1 0) o) : pSim C n σ0 τ0 (fX3_sum (G3 k)) (fX9_sum (G9 m)) o := by
  intro p q d A σ τ hx hm
  have hh := hE.2.1
  obtain ⟨Z, hZ⟩ := zFU_ge 1000 (by omega)
  obtain ⟨K, hK⟩ : ∃ K, zFU = K + 1 := ⟨zFU - 1, by omega⟩
  show pR C n σ0 τ0 p q d o A (fX3_sum_0 (G3 k) (Int32.ofNat o) σ) (fX9_sum_0 (G9 m) τ)
  unfold fX3_sum_0 fX9_sum_0
  rcases hP p q d A σ τ hx hm with ⟨kd, pl, σ3, r, τ3, e3, e4, b3, b4⟩ | ⟨p2, q2, d2, A2, σ3, τ3, e3, e4, f1, f2, f3, x3, m3⟩
  · rw [e3, bd1_some, e4, bd2_some, hK, sum_B b3, sum_MB b4]
    exact pR.bad b3 b4
  · rw [e3, bd1_some, e4, bd2_some]
    exact sum_loop hE hP hx.2.2.2.2.1.1 200 p2 q2 d2 0 zFU zFU A2 σ3 τ3 (by omega) (by omega) (by omega) (by omega) f1.1 f1.2.1 f1.2.2 f2 f3 x3 m3
theorem term_B {n : Nat} {σ0 σ : zSt} {kd pl : Nat} (h : xBad n σ0 kd pl σ) (F : Nat → Int32 → zSt → Option zSt) (K : Nat) (a v : Int32) : fX3_term_L7 F (K + 1) a v σ = some σ := by
  rw [fX3_term_L7]
  unfold fX3_term_7
  by_cases x : 200 ≤ v
  · rw [if_pos x]
  · rw [if_neg x, if_neg (xB_ne h)]
theorem term_MB {C : qCfg} {n : Nat} {τ0 τ : zSt} {kd pl : Nat} (h : mBad C n τ0 kd pl τ) (F : Nat → Int32 → zSt → Option (Int32 × zSt)) (K : Nat) (v : Int32) : fX9_term_L5 F (K + 1) v τ = some (v, τ) := by
  rw [fX9_term_L5]
  unfold fX9_term_5
  rw [if_neg (bdB h)]
theorem term_op {C : qCfg} {n : Nat} {β : Nat → Nat} {σ0 τ0 σ τ : zSt} (hE : pE C n β σ0 τ0) {k m o : Nat} (hP : pSim C n σ0 τ0 (G3 k 2) (G9 m 2 0) o) {p0 p q q' d d' i κ : Nat} {A A' : Nat → qAct} {ch : Int32} (hch : (ch = 42 ∧ κ = 15) ∨ (¬ ch = 42 ∧ κ = 16)) (hx : pX C n σ0 p q' d' A' σ) (hm : pM C τ0 p q' d' o A' τ) (hpn : p < n) (hp : p0 ≤ p) (hd : d < d') (hq : d ≤ q) (hc : d' + q = d + q') (ha : ∀ j, j < d → A' j = A j) (ht : tree C.N A' d d') (hi : i < 10000) (KX KM : Nat) (hK : ∀ p2 q2 d2 A2 σ2 τ2, p + 1 < p2 → d < d2 → d2 + q = d + q2 → (∀ j, j < d → A2 j = A j) → tree C.N A2 d d2 → pX C n σ0 p2 q2 d2 A2 σ2 → pM C τ0 p2 q2 d2 o A2 τ2 → pR C n σ0 τ0 p0 q d o A (fX3_term_L7 (G3 k) (KX + 1) (Int32.ofNat o) (Int32.ofNat (i + 1)) σ2) (fX9_term_L5 (G9 m) (KM + 1) (Int32.ofNat (60 * C.N + d2 - 1)) τ2)) : pR C n σ0 τ0 p0 q d o A (fX3_term_38 (G3 k) (fX3_term_L7 (G3 k) (KX + 1)) (Int32.ofNat o) (Int32.ofNat i) ch σ) (fX9_term_46 (G9 m) (fX9_term_L5 (G9 m) (KM + 1)) (Int32.ofNat (60 * C.N + d' - 1)) (Int32.ofNat (κ - 8)) τ) := by
  have hh := hE.2.1
  have mm := metM hm (n := n) (by omega)
  have q6 := hx.2.2.2.1.1
  unfold fX3_term_38 fX9_term_46
  rw [hm.2.2.1]
  rcases metX hE hx with ⟨x, σ1, e1, x1⟩ | ⟨x, σ1, e1, b1⟩
  · obtain ⟨τ1, e2, m1⟩ := mm.1 x
    have x2 := atX x1 (p' := p + 1) (by omega)
    have m2 := atM m1 (p + 1)
    have lft : gi (si σ1 1 2 (Int32.ofNat (p + 1))) (21 + 4 * 9) 3 - 1 = Int32.ofNat (d' - 1) := by
      rw [show gi (si σ1 1 2 (Int32.ofNat (p + 1))) (21 + 4 * 9) 3 = Int32.ofNat d' from x2.2.2.2.2.1.2, show d' = d' - 1 + 1 by omega, iN_p (by have := x2.2.2.2.2.1.1; omega), Nat.add_sub_cancel]
    rw [e1, bd2_some, if_neg iNe1, x1.2.2.1.2, iN_s (n := p) (by omega), lft, nm_eq, e2, bd1_some, m1.2.2.1, iN_s (n := p) (by omega), nm_eq, if_pos (bdM m2)]
    rcases hP (p + 1) (q' + 1) d' A' _ _ x2 m2 with ⟨kd, pl, σ3, r, τ3, e3, e4, b3, b4⟩ | ⟨p2, q2, d2, A2, σ3, τ3, e3, e4, f1, f2, f3, x3, m3⟩
    · rw [e3, bd1_some, e4, bd2_some, emitB b3, bd1_some, emitB b3, bd1_some, nm_eq, term_B b3, mkB b4, bd2_some, term_MB b4]
      by_cases g : ch = 42
      · rw [if_pos g]; exact pR.bad b3 b4
      · rw [if_neg g]; exact pR.bad b3 b4
    · have q8 := x3.2.2.2.1.1
      have hb : biOk C.N d2 (60 * C.N + d' - 1) (60 * C.N + d2 - 1) := ⟨rfl, d' - 1, by omega, by omega⟩
      have hl : (Int32.ofNat (d' - 1)).toInt + 60 * C.N = (60 * C.N + d' - 1 : Nat) := by rw [iNt (by omega)]; omega
      obtain ⟨u1, u2, u3, u4⟩ := actS (C := C) (N := C.N) (d := d2) (κ := κ) (by omega) (by omega) hb hl
      obtain ⟨σ4, e5, x4⟩ := emitX x3 (by omega) u1 u2
      obtain ⟨τ4, e6, m4⟩ := mkM hE m3 (by omega) (t := Int32.ofNat (κ - 8)) (x := Int32.ofNat (60 * C.N + d' - 1)) (y := Int32.ofNat (60 * C.N + d2 - 1)) (u3 _ _ row64 row65 row66)
      have go := hK p2 q2 (d2 + 1) _ σ4 τ4 f1.1 (by omega) (by omega) (fun j hj => by rw [upA_lt (by omega), f2 j (by omega)]; exact ha j hj) (tree_bi ht f2 f3 hd f1.2.1 (by rw [u4]; exact List.mem_cons.mpr (Or.inl rfl)) (by rw [u4]; exact List.mem_cons.mpr (Or.inr (List.mem_singleton.mpr rfl)))) x4 m4
      rw [show 60 * C.N + (d2 + 1) - 1 = 60 * C.N + d2 by omega] at go
      rw [e3, bd1_some, e4, bd2_some, e6, bd2_some]
      rcases hch with ⟨g, gk⟩ | ⟨g, gk⟩
      · subst gk
        rw [if_pos g, show fX3_emit 15 0 (Int32.ofNat (d' - 1)) σ3 = some σ4 from e5, bd1_some, nm_eq, iN_s (by omega)]
        exact go
      · subst gk
        rw [if_neg g, show fX3_emit 16 0 (Int32.ofNat (d' - 1)) σ3 = some σ4 from e5, bd1_some, nm_eq, iN_s (by omega)]
        exact go
  · obtain ⟨τ1, e2, b2, f2⟩ := mm.2 x
    rw [e1, bd2_some, if_pos (show (0 : Int32) = 0 from rfl), e2, bd1_some, nm_eq, if_neg (bdB (siB b2 (by omega) _)), mkB (siB b2 (by omega) _), bd2_some, term_MB (siB b2 (by omega) _)]
    exact pR.bad b1 (siB b2 (by omega) _)
theorem term_loop {C : qCfg} {n : Nat} {β : Nat → Nat} {σ0 τ0 : zSt} (hE : pE C n β σ0 τ0) {k m o : Nat} (hP : pSim C n σ0 τ0 (G3 k 2) (G9 m 2 0) o) {p0 q d : Nat} {A : Nat → qAct} (hq : d ≤ q) : ∀ (f p q' d' i KX KM : Nat) (A' : Nat → qAct) (σ τ : zSt), f < KX → f < KM → n ≤ p + f → i < p → p0 < p → d < d' → d' + q = d + q' → (∀ j, j < d → A' j = A j) → tree C.N A' d d' → pX C n σ0 p q' d' A' σ → pM C τ0 p q' d' o A' τ → pR C n σ0 τ0 p0 q d o A (fX3_term_L7 (G3 k) KX (Int32.ofNat o) (Int32.ofNat i) σ) (fX9_term_L5 (G9 m) KM (Int32.ofNat (60 * C.N + d' - 1)) τ) := by
  have hh := hE.2.1
  have e42 : (42 : Int32) = Int32.ofNat 42 := rfl
  have e47 : (47 : Int32) = Int32.ofNat 47 := rfl
  intro f
  induction f with
  | zero =>
    intro p q' d' i KX KM A' σ τ h1 h2 h3 h4 h5 h6 h7 h8 h9 hx hm
    obtain ⟨KX, rfl⟩ : ∃ K', KX = K' + 1 := ⟨KX - 1, by omega⟩
    obtain ⟨KM, rfl⟩ : ∃ K', KM = K' + 1 := ⟨KM - 1, by omega⟩
    have hp := hx.2.2.1.1
    obtain ⟨σ1, e1, x1⟩ := sgX hE hx
    obtain ⟨τ1, e2, m1⟩ := pkM hE hm hp
    have so := sk_ok (β := β) hE.2.1 hp
    have es : sk n β p = n := by omega
    rw [es] at e1 x1 e2 m1
    obtain ⟨τ2, e3, m2⟩ := pkM hE m1 (Nat.le_refl _)
    have es2 : sk n β n = n := by have := sk_ok (β := β) hE.2.1 (Nat.le_refl n); omega
    rw [es2] at e3 m2
    have c0 : chI n β n = -1 := if_neg (by omega)
    rw [c0] at e1 e2 e3
    rw [fX3_term_L7, fX9_term_L5]
    unfold fX3_term_7 fX9_term_5
    rw [if_neg (show ¬ (200 : Int32) ≤ Int32.ofNat i by rw [qI_le, e200, iNt (by omega)]; omega), if_pos hx.2.1, e1, bd2_some, if_neg (show ¬ (-1 : Int32) = 42 by decide), if_neg (show ¬ (-1 : Int32) = 47 by decide), if_pos (bdM hm), e2, bd2_some, if_neg (show ¬ (-1 : Int32) = 42 by decide), e3, bd2_some, if_neg (show ¬ (-1 : Int32) = 47 by decide)]
    exact Or.inr ⟨n, q', d', A', _, _, rfl, rfl, ⟨by omega, h6, h7⟩, h8, h9, x1, m2⟩
  | succ f ih =>
    intro p q' d' i KX KM A' σ τ h1 h2 h3 h4 h5 h6 h7 h8 h9 hx hm
    obtain ⟨KX, rfl⟩ : ∃ K', KX = K' + 1 + 1 := ⟨KX - 2, by omega⟩
    obtain ⟨KM, rfl⟩ : ∃ K', KM = K' + 1 + 1 := ⟨KM - 2, by omega⟩
    have hp := hx.2.2.1.1
    obtain ⟨σ1, e1, x1⟩ := sgX hE hx
    obtain ⟨τ1, e2, m1⟩ := pkM hE hm hp
    have so := sk_ok (β := β) hE.2.1 hp
    obtain ⟨s, hs⟩ : ∃ s, s = sk n β p := ⟨_, rfl⟩
    rw [← hs] at e1 x1 e2 m1 so
    have ss : sk n β s = s := sk_sk so.2.2
    obtain ⟨τ2, e3, m2⟩ := pkM hE m1 so.2.1
    rw [ss] at e3 m2
    obtain ⟨τ3, e4, m3⟩ := pkM hE m2 so.2.1
    rw [ss] at e4 m3
    have c1 := chI_eq (n := n) (β := β) (p := s) (fun h => hE.2.2.1 _ h) (k := 42) (by omega)
    have c2 := chI_eq (n := n) (β := β) (p := s) (fun h => hE.2.2.1 _ h) (k := 47) (by omega)
    rw [fX3_term_L7, fX9_term_L5]
    unfold fX3_term_7 fX9_term_5
    rw [if_neg (show ¬ (200 : Int32) ≤ Int32.ofNat i by rw [qI_le, e200, iNt (by omega)]; omega), if_pos hx.2.1, e1, bd2_some, if_pos (bdM hm), e2, bd2_some]
    by_cases y : s < n ∧ β s = 42
    · have y' : chI n β s = 42 := c1.mpr y
      rw [if_pos y', if_pos y', e3, bd2_some, if_pos y']
      exact term_op hE hP (κ := 15) (Or.inl ⟨y', rfl⟩) x1 m2 y.1 (by omega) h6 hq h7 h8 h9 (by omega) KX KM (fun p2 q2 d2 A2 σ2 τ2 a1 a2 a3 a4 a5 a6 a7 => ih p2 q2 d2 (i + 1) (KX + 1) (KM + 1) A2 σ2 τ2 (by omega) (by omega) (by omega) (by omega) (by omega) a2 a3 a4 a5 a6 a7)
    · have y' : ¬ chI n β s = 42 := fun h => y (c1.mp h)
      rw [if_neg y', if_neg y', e3, bd2_some]
      by_cases z : s < n ∧ β s = 47
      · have z' : chI n β s = 47 := c2.mpr z
        rw [if_pos z', if_pos z', e4, bd2_some, if_neg y']
        exact term_op hE hP (κ := 16) (Or.inr ⟨y', rfl⟩) x1 m3 z.1 (by omega) h6 hq h7 h8 h9 (by omega) KX KM (fun p2 q2 d2 A2 σ2 τ2 a1 a2 a3 a4 a5 a6 a7 => ih p2 q2 d2 (i + 1) (KX + 1) (KM + 1) A2 σ2 τ2 (by omega) (by omega) (by omega) (by omega) (by omega) a2 a3 a4 a5 a6 a7)
      · have z' : ¬ chI n β s = 47 := fun h => z (c2.mp h)
        rw [if_neg z', if_neg z']
        exact Or.inr ⟨s, q', d', A', _, _, rfl, rfl, ⟨by omega, h6, h7⟩, h8, h9, x1, m2⟩
theorem sim_term {C : qCfg} {n : Nat} {β : Nat → Nat} {σ0 τ0 : zSt} (hE : pE C n β σ0 τ0) {k m o : Nat} (hP : pSim C n σ0 τ0 (G3 k 2) (G9 m 2 0) o) : pSim C n σ0 τ0 (fX3_term (G3 k)) (fX9_term (G9 m)) o := by
  intro p q d A σ τ hx hm
  have hh := hE.2.1
  obtain ⟨Z, hZ⟩ := zFU_ge 1000 (by omega)
  obtain ⟨K, hK⟩ : ∃ K, zFU = K + 1 := ⟨zFU - 1, by omega⟩
  show pR C n σ0 τ0 p q d o A (fX3_term_0 (G3 k) (Int32.ofNat o) σ) (fX9_term_0 (G9 m) τ)
  unfold fX3_term_0 fX9_term_0
  rcases hP p q d A σ τ hx hm with ⟨kd, pl, σ3, r, τ3, e3, e4, b3, b4⟩ | ⟨p2, q2, d2, A2, σ3, τ3, e3, e4, f1, f2, f3, x3, m3⟩
  · rw [e3, bd1_some, e4, bd2_some, hK, term_B b3, term_MB b4]
    exact pR.bad b3 b4
  · rw [e3, bd1_some, e4, bd2_some]
    exact term_loop hE hP hx.2.2.2.2.1.1 200 p2 q2 d2 0 zFU zFU A2 σ3 τ3 (by omega) (by omega) (by omega) (by omega) f1.1 f1.2.1 f1.2.2 f2 f3 x3 m3
