/-! what stands in brackets -/
theorem needM {C : qCfg} {n : Nat} {β : Nat → Nat} {σ0 τ0 τ : zSt} (hE : pE C n β σ0 τ0) {p q d o : Nat} {A : Nat → qAct} (h : pM C τ0 p q d o A τ) (hp : p ≤ n) {k : Nat} (hk : k < 256) (h40 : k ≠ 40) : ((sk n β p < n ∧ β (sk n β p) = k) → ∃ τ', fX9_need (Int32.ofNat k) τ = some τ' ∧ pM C τ0 (sk n β p + 1) q d o A τ') ∧ (¬ (sk n β p < n ∧ β (sk n β p) = k) → ∃ τ', fX9_need (Int32.ofNat k) τ = some τ' ∧ mBad C n τ0 1 (sk n β p) τ') := by
  obtain ⟨τ1, e1, h1⟩ := pkM hE h hp
  have c := chI_eq (n := n) (β := β) (p := sk n β p) (fun h => hE.2.2.1 _ h) hk
  have hh := hE.2.1
  have sp := (sk_ok (β := β) hE.2.1 hp).2.1
  show (_ → ∃ τ', fX9_need_0 (Int32.ofNat k) τ = _ ∧ _) ∧ (_ → ∃ τ', fX9_need_0 (Int32.ofNat k) τ = _ ∧ _)
  unfold fX9_need_0
  rw [if_pos (bdM h), e1, bd2_some]
  refine ⟨fun x => ?_, fun x => ?_⟩
  · have e40 : (40 : Int32).toInt = 40 := by decide
    rw [if_pos (c.mpr x), if_neg (show ¬ Int32.ofNat k = 40 by rw [qI_eq, iNt (by omega), e40]; omega), h1.2.2.1, nm_eq, iN_s (by omega)]
    exact ⟨_, rfl, atM h1 _⟩
  · obtain ⟨τ2, e2, h2, -⟩ := failM h1 sp (k := 1) (by omega) (by omega)
    rw [if_neg (fun h => x (c.mp h)), h1.2.2.1, show (1 : Int32) = Int32.ofNat 1 from rfl, e2, bd2_some]
    exact ⟨_, rfl, h2⟩
theorem opensM {C : qCfg} {n : Nat} {τ0 τ : zSt} {p q d o : Nat} {A : Nat → qAct} (h : pM C τ0 p q d o A τ) (hp : p ≤ n) (hn : n ≤ 200) : (o < 12 → ∃ τ', fX9_opens τ = some τ' ∧ pM C τ0 (p + 1) q d (o + 1) A τ') ∧ (o = 12 → ∃ τ', fX9_opens τ = some τ' ∧ mBad C n τ0 3 p τ') := by
  have e12 : (12 : Int32).toInt = 12 := by decide
  show (_ → ∃ τ', fX9_opens_0 τ = _ ∧ _) ∧ (_ → ∃ τ', fX9_opens_0 τ = _ ∧ _)
  unfold fX9_opens_0
  rw [h.2.2.2.2.2.1, h.2.2.1]
  refine ⟨fun x => ?_, fun x => ?_⟩
  · have g := atM (opM h (o + 1)) (p + 1)
    rw [if_pos (show Int32.ofNat o < 12 by rw [qI_lt, iNt (by omega), e12]; omega), iN_s (by omega), iN_s (by omega)]
    exact ⟨_, rfl, g⟩
  · obtain ⟨τ2, e2, h2, -⟩ := failM h hp (k := 3) (by omega) (by omega)
    rw [if_neg (show ¬ Int32.ofNat o < 12 by rw [qI_lt, iNt (by omega), e12]; omega), show (3 : Int32) = Int32.ofNat 3 from rfl, e2, bd2_some]
    exact ⟨_, rfl, h2⟩
theorem need40 {C : qCfg} {n : Nat} {β : Nat → Nat} {σ0 τ0 τ : zSt} (hE : pE C n β σ0 τ0) {p q d o : Nat} {A : Nat → qAct} (h : pM C τ0 p q d o A τ) (hp : p ≤ n) : ((sk n β p < n ∧ β (sk n β p) = 40) → o < 12 → ∃ τ', fX9_need 40 τ = some τ' ∧ pM C τ0 (sk n β p + 1) q d (o + 1) A τ') ∧ ((sk n β p < n ∧ β (sk n β p) = 40) → o = 12 → ∃ τ', fX9_need 40 τ = some τ' ∧ mBad C n τ0 3 (sk n β p) τ') ∧ (¬ (sk n β p < n ∧ β (sk n β p) = 40) → ∃ τ', fX9_need 40 τ = some τ' ∧ mBad C n τ0 1 (sk n β p) τ') := by
  obtain ⟨τ1, e1, h1⟩ := pkM hE h hp
  have c := chI_eq (n := n) (β := β) (p := sk n β p) (fun h => hE.2.2.1 _ h) (k := 40) (by omega)
  have hh := hE.2.1
  have sp := (sk_ok (β := β) hE.2.1 hp).2.1
  have e40 : (40 : Int32) = Int32.ofNat 40 := rfl
  show (_ → _ → ∃ τ', fX9_need_0 40 τ = _ ∧ _) ∧ (_ → _ → ∃ τ', fX9_need_0 40 τ = _ ∧ _) ∧ (_ → ∃ τ', fX9_need_0 40 τ = _ ∧ _)
  unfold fX9_need_0
  rw [if_pos (bdM h), e1, bd2_some]
  refine ⟨fun x y => ?_, fun x y => ?_, fun x => ?_⟩
  · obtain ⟨τ2, e2, h2⟩ := (opensM h1 sp hh).1 y
    rw [if_pos (show chI n β (sk n β p) = 40 from c.mpr x), if_pos rfl, e2, bd1_some]
    exact ⟨_, rfl, h2⟩
  · obtain ⟨τ2, e2, h2⟩ := (opensM h1 sp hh).2 y
    rw [if_pos (show chI n β (sk n β p) = 40 from c.mpr x), if_pos rfl, e2, bd1_some]
    exact ⟨_, rfl, h2⟩
  · obtain ⟨τ2, e2, h2, -⟩ := failM h1 sp (k := 1) (by omega) (by omega)
    rw [if_neg (show ¬ chI n β (sk n β p) = 40 from fun h => x (c.mp h)), h1.2.2.1, show (1 : Int32) = Int32.ofNat 1 from rfl, e2, bd2_some]
    exact ⟨_, rfl, h2⟩
def tree (N : Nat) (A : Nat → qAct) (a b : Nat) : Prop := ∀ j, a ≤ j → j + 1 < b → ∃ j', j < j' ∧ j' < b ∧ 60 * N + j ∈ qOps (A j')
def pR (C : qCfg) (n : Nat) (σ0 τ0 : zSt) (p q d o : Nat) (A : Nat → qAct) (X : Option zSt) (M : Option (Int32 × zSt)) : Prop := (∃ kd pl σ' r τ', X = some σ' ∧ M = some (r, τ') ∧ xBad n σ0 kd pl σ' ∧ mBad C n τ0 kd pl τ') ∨ ∃ p' q' d' A' σ' τ', X = some σ' ∧ M = some (Int32.ofNat (60 * C.N + d' - 1), τ') ∧ (p < p' ∧ d < d' ∧ d' + q = d + q') ∧ (∀ j, j < d → A' j = A j) ∧ tree C.N A' d d' ∧ pX C n σ0 p' q' d' A' σ' ∧ pM C τ0 p' q' d' o A' τ'
def pSim (C : qCfg) (n : Nat) (σ0 τ0 : zSt) (X : Int32 → zSt → Option zSt) (M : zSt → Option (Int32 × zSt)) (o : Nat) : Prop := ∀ (p q d : Nat) (A : Nat → qAct) (σ τ : zSt), pX C n σ0 p q d A σ → pM C τ0 p q d o A τ → pR C n σ0 τ0 p q d o A (X (Int32.ofNat o) σ) (M τ)
theorem pR.bad {C : qCfg} {n : Nat} {σ0 τ0 : zSt} {p q d o kd pl : Nat} {A : Nat → qAct} {σ' τ' : zSt} {r : Int32} (h1 : xBad n σ0 kd pl σ') (h2 : mBad C n τ0 kd pl τ') : pR C n σ0 τ0 p q d o A (some σ') (some (r, τ')) := Or.inl ⟨kd, pl, σ', r, τ', rfl, rfl, h1, h2⟩
/-- the inside of brackets, and the byte behind it -/
def pI (C : qCfg) (n : Nat) (σ0 τ0 : zSt) (p q d o : Nat) (A : Nat → qAct) (k : Nat) (X : Option zSt) (M : Option (Int32 × zSt)) : Prop := (∃ kd pl σ1 σ2 r τ1 τ2, X = some σ1 ∧ fX3_pass (Int32.ofNat k) σ1 = some σ2 ∧ M = some (r, τ1) ∧ fX9_need (Int32.ofNat k) τ1 = some τ2 ∧ xBad n σ0 kd pl σ2 ∧ mBad C n τ0 kd pl τ2) ∨ ∃ p' q' d' A' σ1 σ2 τ1 τ2, X = some σ1 ∧ fX3_pass (Int32.ofNat k) σ1 = some σ2 ∧ M = some (Int32.ofNat (60 * C.N + d' - 1), τ1) ∧ fX9_need (Int32.ofNat k) τ1 = some τ2 ∧ (p < p' ∧ d < d' ∧ d' + q = d + q') ∧ (∀ j, j < d → A' j = A j) ∧ tree C.N A' d d' ∧ pX C n σ0 p' q' d' A' σ2 ∧ pM C τ0 p' q' d' o A' τ2
theorem inX {C : qCfg} {n : Nat} {σ0 σ : zSt} {p q d : Nat} {A : Nat → qAct} (h : pX C n σ0 p q d A σ) {k o : Nat} (ho : o < 12) {σ' : zSt} (e : G3 k 0 (Int32.ofNat (o + 1)) σ = some σ') : G3 (k + 1) 4 (Int32.ofNat o) σ = some σ' := by
  show fX3_inside_0 (G3 k) (Int32.ofNat o) σ = _
  unfold fX3_inside_0
  rw [if_pos h.2.1, iN_s (by omega), e, bd1_some]
theorem inB {n : Nat} {σ0 σ : zSt} {kd pl : Nat} (h : xBad n σ0 kd pl σ) {k : Nat} (a : Int32) : G3 (k + 1) 4 a σ = some σ := by
  show fX3_inside_0 (G3 k) a σ = _
  unfold fX3_inside_0
  rw [if_neg (xB_ne h)]
theorem inner {C : qCfg} {n : Nat} {β : Nat → Nat} {σ0 τ0 σ τ : zSt} (hE : pE C n β σ0 τ0) {k m o : Nat} (ho : o < 12) (hS : pSim C n σ0 τ0 (G3 k 0) (G9 m 0 0) (o + 1)) {b : Nat} (hb : b < 256) (hb40 : b ≠ 40) {p q d : Nat} {A : Nat → qAct} (hx : pX C n σ0 p q d A σ) (hm : pM C τ0 p q d (o + 1) A τ) : pI C n σ0 τ0 p q d (o + 1) A b (G3 (k + 1) 4 (Int32.ofNat o) σ) (G9 m 0 0 τ) := by
  rcases hS p q d A σ τ hx hm with ⟨kd, pl, σ1, r, τ1, e1, e2, b1, b2⟩ | ⟨p', q', d', A', σ1, τ1, e1, e2, f1, f2, f3, x1, m1⟩
  · obtain ⟨σ2, e3, b3⟩ := passB b1 (Int32.ofNat b)
    exact Or.inl ⟨kd, pl, σ1, σ2, r, τ1, τ1, inX hx ho e1, e3, e2, needB b2 _, b3, b2⟩
  · have hp := x1.2.2.1.1
    have nm := needM hE m1 hp hb hb40
    have s1 := (sk_ok (β := β) hE.2.1 hp).1
    rcases passX hE x1 hb with ⟨y, σ2, e3, x2⟩ | ⟨y, σ2, e3, x2⟩
    · obtain ⟨τ2, e4, m2⟩ := nm.1 y
      exact Or.inr ⟨_, q', d', A', σ1, σ2, τ1, τ2, inX hx ho e1, e3, e2, e4, ⟨by omega, f1.2.1, f1.2.2⟩, f2, f3, x2, m2⟩
    · obtain ⟨τ2, e4, m2⟩ := nm.2 y
      exact Or.inl ⟨_, _, σ1, σ2, _, τ1, τ2, inX hx ho e1, e3, e2, e4, x2, m2⟩
/-! ShutBench's rest of a piece behind a fault -/
theorem p93B {n : Nat} {σ0 σ : zSt} {kd pl : Nat} (h : xBad n σ0 kd pl σ) {k : Nat} (a v w : Int32) : ∃ σ', fX3_piece_93 (G3 (k + 1)) a v w σ = some σ' ∧ xBad n σ0 kd pl σ' := by
  obtain ⟨σ1, e1, h1⟩ := passB h 41
  unfold fX3_piece_93
  rw [inB h a, bd1_some, e1, bd1_some]
  by_cases x : v = -1
  · rw [if_pos x]; exact ⟨_, rfl, h1⟩
  · rw [if_neg x, emitB h1, bd1_some]; exact ⟨_, rfl, h1⟩
theorem p52B {n : Nat} {σ0 σ : zSt} {kd pl : Nat} (h : xBad n σ0 kd pl σ) {k : Nat} (a v : Int32) : ∃ σ', fX3_piece_52 (G3 (k + 1)) a v σ = some σ' ∧ xBad n σ0 kd pl σ' := by
  obtain ⟨σ1, e1, h1⟩ := passB h 40
  obtain ⟨σ2, e2, h2⟩ := passB h1 44
  unfold fX3_piece_52
  rw [e1, bd1_some]
  by_cases x : v = 11
  · rw [if_pos x, inB h1 a, bd1_some, e2, bd1_some, nm_eq]; exact p93B h2 a v _
  rw [if_neg x]
  by_cases y : v = 12
  · rw [if_pos y, inB h1 a, bd1_some, e2, bd1_some, nm_eq]; exact p93B h2 a v _
  · rw [if_neg y]; exact p93B h1 a v 0
theorem iN_pred {o : Nat} (h : o < 1000) : Int32.ofNat (o + 1) - 1 = Int32.ofNat o := iN_p (by omega)
theorem we_self {n : Nat} {β : Nat → Nat} (hn : n ≤ 200) {p : Nat} (hp : p ≤ n) (h : ¬ isWb (β p) = true) : we n β p = p := by
  obtain ⟨w1, w2, w3, w4⟩ := we_ok (β := β) hn hp
  by_cases x : p < we n β p
  · exact absurd (w4 p (Nat.le_refl _) x) h
  · omega
theorem m_wordEnd {C : qCfg} {n : Nat} {β : Nat → Nat} {σ0 τ0 τ : zSt} (hE : pE C n β σ0 τ0) {p q d o : Nat} {A : Nat → qAct} (h : pM C τ0 p q d o A τ) (hp : p ≤ n) : fX9_wordEnd τ = some (Int32.ofNat (we n β p)) := by
  obtain ⟨Z, hZ⟩ := zFU_ge 1000 (by omega)
  have hh := hE.2.1
  show fX9_wordEnd_0 τ = _
  unfold fX9_wordEnd_0
  rw [h.2.2.1, nm_eq, m_wordL hE.2.1 hE.2.2.1 (tp_M hE h.1) 200 p zFU (by omega) hp (by omega)]
  rfl
/-- a bracket -/
theorem sim_br {C : qCfg} {n : Nat} {β : Nat → Nat} {σ0 τ0 σ τ : zSt} (hE : pE C n β σ0 τ0) {k m o : Nat} (ho : o ≤ 12) (hS : o < 12 → pSim C n σ0 τ0 (G3 k 0) (G9 m 0 0) (o + 1)) {p q d : Nat} {A : Nat → qAct} (hx : pX C n σ0 p q d A σ) (hm : pM C τ0 p q d o A τ) (hc : p < n ∧ β p = 40) : pR C n σ0 τ0 p q d o A (fX3_piece_17 (G3 (k + 1)) (Int32.ofNat o) (-1) σ) (bd1 (fX9_opens τ) fun s85_9 => 
          (if (fX9_bad s85_9) = 0 then bd2 (G9 m 0 0 s85_9) fun r100_11 s100_12 => bd1 (fX9_need (41 : Int32) s100_12) fun s107_13 => nm ((gi s107_13 61 14) - (1 : Int32)) fun x117_14 => some (r100_11, (si s107_13 61 14 x117_14))
          else bd1 (fX9_need (41 : Int32) s85_9) fun s107_15 => nm ((gi s107_15 61 14) - (1 : Int32)) fun x117_16 => some ((0 : Int32), (si s107_15 61 14 x117_16)))) := by
  have hp := hx.2.2.1.1
  have hh := hE.2.1
  have e12 : (12 : Int32).toInt = 12 := by decide
  have ss : sk n β p = p := sk_sk fun _ => by omega
  obtain ⟨σ1, e1, x1⟩ := sgX hE hx
  rw [ss] at e1 x1
  have c := chI_eq (n := n) (β := β) (p := p) (fun h => hE.2.2.1 _ h) (k := 40) (by omega)
  unfold fX3_piece_17
  rw [if_pos hx.2.1, if_neg (show ¬ (-1 : Int32) = -2 by decide), e1, bd2_some, if_pos (show chI n β p = 40 from c.mpr hc)]
  by_cases x : o < 12
  · obtain ⟨τ1, e2, m1⟩ := (opensM hm hp hh).1 x
    rw [if_pos (show Int32.ofNat o < 12 by rw [qI_lt, iNt (by omega), e12]; omega), e2, bd1_some, if_pos (bdM m1)]
    unfold fX3_piece_52
    rcases passX hE x1 (k := 40) (by omega) with ⟨y, σ2, e3, x2⟩ | ⟨y, -⟩
    · rw [ss] at x2
      rw [show (40 : Int32) = Int32.ofNat 40 from rfl, e3, bd1_some, if_neg (show ¬ (-1 : Int32) = 11 by decide), if_neg (show ¬ (-1 : Int32) = 12 by decide)]
      unfold fX3_piece_93
      rcases inner hE x (hS x) (b := 41) (by omega) (by omega) x2 m1 with ⟨kd, pl, σ3, σ4, r, τ3, τ4, f1, f2, f3, f4, b1, b2⟩ | ⟨p', q', d', A', σ3, σ4, τ3, τ4, f1, f2, f3, f4, g1, g2, g3, x4, m4⟩
      · rw [f1, bd1_some, show (41 : Int32) = Int32.ofNat 41 from rfl, f2, bd1_some, if_pos rfl, f3, bd2_some, f4, bd1_some, nm_eq]
        exact pR.bad b1 (siB b2 (by omega) _)
      · rw [f1, bd1_some, show (41 : Int32) = Int32.ofNat 41 from rfl, f2, bd1_some, if_pos rfl, f3, bd2_some, f4, bd1_some, nm_eq, m4.2.2.2.2.2.1, iN_pred (by omega)]
        exact Or.inr ⟨p', q', d', A', _, _, rfl, rfl, ⟨by omega, g1.2⟩, g2, g3, x4, opM m4 o⟩
    · rw [ss] at y
      exact absurd hc y
  · obtain ⟨τ1, e2, m1⟩ := (opensM hm hp hh).2 (by omega)
    obtain ⟨σ2, e3, b2⟩ := refX hE x1 (k := 3) (by omega) (by omega)
    obtain ⟨σ3, e4, b3⟩ := p52B b2 (k := k) (Int32.ofNat o) (-1)
    rw [if_neg (show ¬ Int32.ofNat o < 12 by rw [qI_lt, iNt (by omega), e12]; omega), show (3 : Int32) = Int32.ofNat 3 from rfl, e3, bd1_some, e4, e2, bd1_some, if_neg (bdB m1), needB m1, bd1_some, nm_eq]
    exact pR.bad b3 (siB m1 (by omega) _)
