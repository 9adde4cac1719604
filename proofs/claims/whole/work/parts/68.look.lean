/-! a part of a span is looked at -/
noncomputable def qV (C : qCfg) (k : Nat) (a b : Int) : qSh := vA C.A (some (a, b)) (qLast C k)
noncomputable def qSl (C : qCfg) (k : Nat) (a b : Int) : qSh := lA C.A (some (a, b)) (qLast C k)
def sg : qSh → Int
  | none => 0
  | some q => if q.2 < 0 then -1 else if 0 < q.1 then 1 else 0
theorem x_hnz {f : Int64} {s : qSh} (hf : xS f s) : fX5_hasNoZero f = if sg s = 0 then 0 else 1 := by
  show fX5_hasNoZero_0 f = _
  unfold fX5_hasNoZero_0
  cases s with
  | none =>
    replace hf : f = 4294967296 := hf
    rw [if_pos hf]; rfl
  | some q =>
    obtain ⟨h1, h2, h3, -, h4, -⟩ := hf
    rw [if_neg h1]
    have e : sg (some q) = if q.2 < 0 then -1 else if 0 < q.1 then 1 else 0 := rfl
    by_cases a : 0 < q.1
    · have s1 : ¬ sg (some q) = 0 := by rw [e, if_neg (show ¬ q.2 < 0 by omega), if_pos a]; omega
      rw [if_pos (by rw [qL_lt, q0L, h2]; exact a), if_neg s1]
    · rw [if_neg (by rw [qL_lt, q0L, h2]; exact a)]
      by_cases b : q.2 < 0
      · have s1 : ¬ sg (some q) = 0 := by rw [e, if_pos b]; omega
        rw [if_neg (by rw [qL_le, q0L, h3]; omega), if_neg s1]
      · have s1 : sg (some q) = 0 := by rw [e, if_neg b, if_neg a]
        rw [if_pos (by rw [qL_le, q0L, h3]; omega), if_pos s1]
theorem x_low0 {f : Int64} {s : qSh} (hf : xS f s) (hs : ¬ sg s = 0) : (fX5_lowOf f ≤ (0 : Int64) ↔ sg s = -1) ∧ (sg s = -1 ∨ sg s = 1) := by
  cases s with
  | none => exact absurd rfl hs
  | some q =>
    obtain ⟨h1, h2, h3, -, h4, -⟩ := hf
    have e : sg (some q) = if q.2 < 0 then -1 else if 0 < q.1 then 1 else 0 := rfl
    rw [qL_le, q0L, h2]
    rw [e] at hs ⊢
    by_cases b : q.2 < 0
    · rw [if_pos b]; exact ⟨by omega, by omega⟩
    · rw [if_neg b] at hs ⊢
      by_cases a : 0 < q.1
      · rw [if_pos a]; exact ⟨by omega, by omega⟩
      · rw [if_neg a] at hs; exact absurd rfl hs
def rLook (s l f g : qSh) : Nat := if ¬ sg s = 0 then 0 else if sg l = 0 then 2 else if sg f * sg g < 0 then 1 else 2
noncomputable def rLk (C : qCfg) (k : Nat) (a b : Int) : Nat := rLook (qV C k a b) (qSl C k a b) (qV C k a a) (qV C k b b)
theorem x_m {C : qCfg} {M : Nat → Nat} (hw : qWF C) (hm : xNd C M) {σ : zSt} (h0 : xCur C M σ) {k : Nat} (hk : k < C.N) {a b : Int32} (u : Int32) (hab : a.toInt ≤ b.toInt) : ∃ f σ', fX1_measure (Int32.ofNat k) a b u σ = some (f, σ') ∧ xFr σ σ' ∧ xS f (qV C k a.toInt b.toInt) ∧ (¬ u = 0 → xS (gl σ' 3 9) (qSl C k a.toInt b.toInt)) := by
  have := hw.1
  exact x_measure hw hm h0 hk u (iNt (by omega)) hab
theorem m_m {C : qCfg} (hw : qWF C) {τ : zSt} (h0 : mCur C τ) {k : Nat} (hk : k < C.N) {a b : Int32} (hab : a.toInt ≤ b.toInt) {lo hi : Int64} (hlo : lo.toInt = a.toInt) (hhi : hi.toInt = b.toInt) : ∃ r τ', fX9_shut (Int32.ofNat k) lo hi τ = some (r, τ') ∧ mFr τ τ' ∧ mIts r τ' (qV C k a.toInt b.toInt) := by
  have ra := qI_rng a
  have rb := qI_rng b
  have q := m_shut hw h0 hk (lo := lo) (hi := hi) (by rw [hlo]; omega) (by rw [hlo, hhi]; omega) (by rw [hhi]; omega)
  rw [hlo, hhi] at q
  exact q
theorem m_md {C : qCfg} (hw : qWF C) {τ : zSt} (h0 : mCur C τ) {k : Nat} (hk : k < C.N) {a b : Int32} (hab : a.toInt ≤ b.toInt) {lo hi : Int64} (hlo : lo.toInt = a.toInt) (hhi : hi.toInt = b.toInt) : ∃ r τ', fX9_shutSlope (Int32.ofNat k) lo hi τ = some (r, τ') ∧ mFr τ τ' ∧ mIts r τ' (qSl C k a.toInt b.toInt) := by
  have ra := qI_rng a
  have rb := qI_rng b
  have q := m_shutSlope hw h0 hk (lo := lo) (hi := hi) (by rw [hlo]; omega) (by rw [hlo, hhi]; omega) (by rw [hhi]; omega)
  rw [hlo, hhi] at q
  exact q
theorem x_lookAt {C : qCfg} {M : Nat → Nat} (hw : qWF C) (hm : xNd C M) {σ : zSt} (h0 : xCur C M σ) {k : Nat} (hk : k < C.N) {a b : Int32} (hab : a.toInt ≤ b.toInt) : ∃ σ', fX7_lookAt (Int32.ofNat k) a b σ = some (Int32.ofNat (rLk C k a.toInt b.toInt), σ') ∧ xFr σ σ' := by
  show ∃ σ', fX7_lookAt_0 _ a b σ = _ ∧ _
  unfold fX7_lookAt_0
  obtain ⟨s, σ1, a1, a2, a3, a4⟩ := x_m hw hm h0 hk 1 hab
  have a5 := a4 iNe1
  have z1 := x_hnz a3
  have z2 := x_hnz a5
  rw [a1, bd2_some]
  by_cases c1 : sg (qV C k a.toInt b.toInt) = 0
  · have e : rLk C k a.toInt b.toInt = if sg (qSl C k a.toInt b.toInt) = 0 then 2 else if sg (qV C k a.toInt a.toInt) * sg (qV C k b.toInt b.toInt) < 0 then 1 else 2 := by
      unfold rLk rLook
      rw [if_neg (fun h => h c1)]
    rw [if_pos c1] at z1
    rw [e, z1, if_pos (show (0 : Int32) = 0 from rfl)]
    by_cases c2 : sg (qSl C k a.toInt b.toInt) = 0
    · rw [if_pos c2] at z2
      rw [z2, if_pos (show (0 : Int32) = 0 from rfl), if_pos c2]
      exact ⟨_, rfl, a2⟩
    · rw [if_neg c2] at z2
      rw [z2, if_neg iNe1, if_neg c2]
      obtain ⟨f, σ2, b1, b2, b3, -⟩ := x_m hw hm (xCur_fr a2 h0) hk (a := a) (b := a) 0 (Int.le_refl _)
      obtain ⟨g, σ3, d1, d2, d3, -⟩ := x_m hw hm (xCur_fr (a2.tr b2) h0) hk (a := b) (b := b) 0 (Int.le_refl _)
      have fr := (a2.tr b2).tr d2
      have z3 := x_hnz b3
      have z4 := x_hnz d3
      rw [b1, bd2_some, d1, bd2_some]
      by_cases c3 : sg (qV C k a.toInt a.toInt) = 0
      · rw [if_pos c3] at z3
        rw [z3, if_pos (show (0 : Int32) = 0 from rfl), c3, Int.zero_mul]
        exact ⟨_, rfl, fr⟩
      rw [if_neg c3] at z3
      rw [z3, if_neg iNe1]
      by_cases c4 : sg (qV C k b.toInt b.toInt) = 0
      · rw [if_pos c4] at z4
        rw [z4, if_pos (show (0 : Int32) = 0 from rfl), c4, Int.mul_zero]
        exact ⟨_, rfl, fr⟩
      rw [if_neg c4] at z4
      rw [z4, if_neg iNe1]
      obtain ⟨p1, p2⟩ := x_low0 b3 c3
      obtain ⟨q1, q2⟩ := x_low0 d3 c4
      unfold fX7_lookAt_83
      rcases p2 with p2 | p2 <;> rcases q2 with q2 | q2
      · rw [if_pos (p1.mpr p2), if_pos (q1.mpr q2), p2, q2]; exact ⟨_, rfl, fr⟩
      · rw [if_pos (p1.mpr p2), if_neg (fun h => by have := q1.mp h; omega), p2, q2]; exact ⟨_, rfl, fr⟩
      · rw [if_neg (fun h => by have := p1.mp h; omega), if_pos (q1.mpr q2), p2, q2]; exact ⟨_, rfl, fr⟩
      · rw [if_neg (fun h => by have := p1.mp h; omega), if_neg (fun h => by have := q1.mp h; omega), p2, q2]; exact ⟨_, rfl, fr⟩
  · have e : rLk C k a.toInt b.toInt = 0 := by
      unfold rLk rLook
      rw [if_pos c1]
    rw [if_neg c1] at z1
    rw [e, z1, if_neg iNe1]
    exact ⟨_, rfl, a2⟩
theorem m_signOf {C : qCfg} (hw : qWF C) {τ : zSt} (h0 : mCur C τ) {k : Nat} (hk : k < C.N) {a : Int32} {p : Int64} (hp : p.toInt = a.toInt) : ∃ r τ', fX9_signOf (Int32.ofNat k) p τ = some (r, τ') ∧ mFr τ τ' ∧ r.toInt = sg (qV C k a.toInt a.toInt) := by
  show ∃ r τ', fX9_signOf_0 _ p τ = _ ∧ _
  unfold fX9_signOf_0
  obtain ⟨r, τ1, a1, a2, a3⟩ := m_m hw h0 hk (a := a) (b := a) (Int.le_refl _) hp hp
  rw [a1, bd2_some]
  generalize qV C k a.toInt a.toInt = s at a3 ⊢
  cases s with
  | none =>
    replace a3 : r = 0 := a3
    rw [if_pos a3]; exact ⟨_, _, rfl, a2, rfl⟩
  | some q =>
    obtain ⟨b1, b2, b3⟩ := a3
    rw [if_neg (by rw [b1]; decide)]
    have es : sg (some q) = if q.2 < 0 then -1 else if 0 < q.1 then 1 else 0 := rfl
    rw [es]
    by_cases c : q.2 < 0
    · rw [if_neg (by rw [qL_le, q0L, b3]; omega), if_pos c]; exact ⟨_, _, rfl, a2, by decide⟩
    · rw [if_pos (by rw [qL_le, q0L, b3]; omega), if_neg c]
      by_cases d : 0 < q.1
      · rw [if_neg (by rw [qL_le, q0L, b2]; omega), if_pos d]; exact ⟨_, _, rfl, a2, by decide⟩
      · rw [if_pos (by rw [qL_le, q0L, b2]; omega), if_neg d]; exact ⟨_, _, rfl, a2, by decide⟩
theorem sg_rng (s : qSh) : -1 ≤ sg s ∧ sg s ≤ 1 := by
  cases s with
  | none => exact ⟨by decide, by decide⟩
  | some q =>
    show -1 ≤ (if q.2 < 0 then -1 else if 0 < q.1 then 1 else 0 : Int) ∧ (if q.2 < 0 then -1 else if 0 < q.1 then 1 else 0 : Int) ≤ 1
    split
    · omega
    · split <;> omega
theorem sg_p (a b : Int) (h : -1 ≤ a ∧ a ≤ 1) (g : -1 ≤ b ∧ b ≤ 1) : -1 ≤ a * b ∧ a * b ≤ 1 := by
  rcases (show a = -1 ∨ a = 0 ∨ a = 1 by omega) with e | e | e <;> rw [e] <;> omega
theorem m_looked {C : qCfg} (hw : qWF C) {τ : zSt} (h0 : mCur C τ) {k : Nat} (hk : k < C.N) {a b : Int32} (hab : a.toInt ≤ b.toInt) {lo hi : Int64} (hlo : lo.toInt = a.toInt) (hhi : hi.toInt = b.toInt) : ∃ τ', fX9_looked (Int32.ofNat k) lo hi τ = some ((if rLk C k a.toInt b.toInt = 2 then -1 else Int32.ofNat (rLk C k a.toInt b.toInt)), τ') ∧ mFr τ τ' := by
  show ∃ τ', fX9_looked_0 _ lo hi τ = _ ∧ _
  unfold fX9_looked_0
  obtain ⟨r, τ1, a1, a2, a3⟩ := m_m hw h0 hk hab hlo hhi
  rw [a1, bd2_some]
  have key : sg (qV C k a.toInt b.toInt) = 0 → ∃ τ', fX9_looked_31 (Int32.ofNat k) lo hi τ1 = some ((if rLk C k a.toInt b.toInt = 2 then -1 else Int32.ofNat (rLk C k a.toInt b.toInt)), τ') ∧ mFr τ τ' := by
    intro c1
    have e : rLk C k a.toInt b.toInt = if sg (qSl C k a.toInt b.toInt) = 0 then 2 else if sg (qV C k a.toInt a.toInt) * sg (qV C k b.toInt b.toInt) < 0 then 1 else 2 := by
      unfold rLk rLook
      rw [if_neg (fun h => h c1)]
    rw [e]
    unfold fX9_looked_31
    obtain ⟨r2, τ2, b1, b2, b3⟩ := m_md hw (mCur_fr a2 h0) hk hab hlo hhi
    rw [b1, bd2_some]
    have go : ¬ sg (qSl C k a.toInt b.toInt) = 0 → ∃ τ', fX9_looked_62 (Int32.ofNat k) lo hi τ2 = some ((if (if sg (qSl C k a.toInt b.toInt) = 0 then 2 else if sg (qV C k a.toInt a.toInt) * sg (qV C k b.toInt b.toInt) < 0 then 1 else 2) = 2 then -1 else Int32.ofNat (if sg (qSl C k a.toInt b.toInt) = 0 then 2 else if sg (qV C k a.toInt a.toInt) * sg (qV C k b.toInt b.toInt) < 0 then 1 else 2)), τ') ∧ mFr τ τ' := by
      intro c2
      unfold fX9_looked_62
      obtain ⟨r3, τ3, d1, d2, d3⟩ := m_signOf hw (mCur_fr (a2.tr b2) h0) hk hlo
      obtain ⟨r4, τ4, f1, f2, f3⟩ := m_signOf hw (mCur_fr ((a2.tr b2).tr d2) h0) hk hhi
      rw [d1, bd2_some, f1, bd2_some, if_neg c2]
      have s3 := sg_rng (qV C k a.toInt a.toInt)
      have s4 := sg_rng (qV C k b.toInt b.toInt)
      have sp := sg_p _ _ s3 s4
      have ep : (r3 * r4).toInt = sg (qV C k a.toInt a.toInt) * sg (qV C k b.toInt b.toInt) := by
        rw [Int32.toInt_mul, d3, f3, Int.bmod_eq_of_le (by omega) (by omega)]
      by_cases c5 : sg (qV C k a.toInt a.toInt) * sg (qV C k b.toInt b.toInt) < 0
      · rw [if_neg (by rw [qI_le, q0I, ep]; omega), if_pos c5]
        exact ⟨_, rfl, ((a2.tr b2).tr d2).tr f2⟩
      · rw [if_pos (by rw [qI_le, q0I, ep]; omega), if_neg c5]
        exact ⟨_, rfl, ((a2.tr b2).tr d2).tr f2⟩
    generalize qSl C k a.toInt b.toInt = s at b3 go ⊢
    cases s with
    | none =>
      replace b3 : r2 = 0 := b3
      rw [if_pos b3]
      exact ⟨_, rfl, a2.tr b2⟩
    | some q =>
      obtain ⟨g1, g2, g3⟩ := b3
      rw [if_neg (by rw [g1]; decide)]
      have es : sg (some q) = if q.2 < 0 then -1 else if 0 < q.1 then 1 else 0 := rfl
      by_cases c : 0 < q.1
      · rw [if_pos (by rw [qL_lt, q0L, g2]; exact c)]
        refine go ?_
        rw [es]
        split
        · omega
        · omega
      · rw [if_neg (by rw [qL_lt, q0L, g2]; exact c)]
        by_cases d : q.2 < 0
        · rw [if_pos (by rw [qL_lt, q0L, g3]; exact d)]
          refine go ?_
          rw [es, if_pos d]; omega
        · rw [if_neg (by rw [qL_lt, q0L, g3]; exact d)]
          have : sg (some q) = 0 := by rw [es, if_neg d, if_neg c]
          rw [if_pos this]
          exact ⟨_, rfl, a2.tr b2⟩
  generalize hs : qV C k a.toInt b.toInt = s at a3 key
  cases s with
  | none =>
    replace a3 : r = 0 := a3
    rw [if_pos a3]
    exact key rfl
  | some q =>
    obtain ⟨g1, g2, g3⟩ := a3
    rw [if_neg (by rw [g1]; decide)]
    have es : sg (some q) = if q.2 < 0 then -1 else if 0 < q.1 then 1 else 0 := rfl
    have zero : ¬ sg (some q) = 0 → rLk C k a.toInt b.toInt = 0 := fun c => by
      unfold rLk rLook
      rw [hs, if_pos c]
    by_cases c : 0 < q.1
    · rw [if_pos (by rw [qL_lt, q0L, g2]; exact c), zero (by rw [es]; split <;> omega)]
      exact ⟨_, rfl, a2⟩
    · rw [if_neg (by rw [qL_lt, q0L, g2]; exact c)]
      by_cases d : q.2 < 0
      · rw [if_neg (by rw [qL_le, q0L, g3]; omega), zero (by rw [es, if_pos d]; omega)]
        exact ⟨_, rfl, a2⟩
      · rw [if_pos (by rw [qL_le, q0L, g3]; omega)]
        exact key (by rw [es, if_neg d, if_neg c])
