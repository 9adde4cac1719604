/-- all but what measuring writes, and row i's LOW and HIGH, is the same -/
def sFr (i : Nat) (σ τ : zSt) : Prop := (∀ c k, ¬ ((c = 61 ∧ (k = 21 ∨ k = 22)) ∨ c = 76 ∨ c = 77) → gi τ c k = gi σ c k) ∧ ∀ c k, ¬ ((c = 61 ∧ (k = 19 ∨ k = 20 ∨ k = 29 ∨ k = 30)) ∨ c = 72 ∨ c = 73 ∨ c = 74 ∨ c = 75 ∨ ((c = 80 ∨ c = 81) ∧ k = i)) → gl τ c k = gl σ c k
theorem sFr.tr {i : Nat} {a b c : zSt} (h : sFr i a b) (g : sFr i b c) : sFr i a c := ⟨fun q k hk => (g.1 q k hk).trans (h.1 q k hk), fun q k hk => (g.2 q k hk).trans (h.2 q k hk)⟩
theorem mFr.s {i : Nat} {σ τ : zSt} (h : mFr σ τ) : sFr i σ τ := ⟨h.1, fun c k q => h.2 c k (by omega)⟩
theorem sFr.sl {i : Nat} {σ τ : zSt} (h : sFr i σ τ) {c : Nat} {v : Int64} (hc : c = 80 ∨ c = 81) : sFr i σ (sl τ c i v) := ⟨fun q j hq => by rw [gi_sl]; exact h.1 q j hq, fun q j hq => by
  rw [gl_sl, if_neg (fun e => hq (by rw [e.1, e.2]; omega))]; exact h.2 q j hq⟩
theorem sFr.q {i : Nat} {σ τ : zSt} (h : sFr i σ τ) : qFr σ τ := ⟨fun c k q => h.1 c k (by omega), fun c k q => h.2 c k (by omega)⟩
theorem m_dn20 {x w : Int64} {a v : Int} (hx : x.toInt = a) (hv : w.toInt = v) (bx : -4294967296 ≤ a ∧ a ≤ 4294967296) (bw : 0 ≤ v ∧ v ≤ 1073741824) : ∃ r, fX9_down (x * w) 1048576 = some r ∧ r.toInt = a * v / 1048576 := by
  have p := w_prod bx bw
  have m : (x * w).toInt = a * v := by rw [qL_mul (by rw [hx, hv]; omega) (by rw [hx, hv]; omega), hx, hv]
  obtain ⟨r, h1, h2⟩ := m_down (x := x * w) (y := 1048576) (by rw [e20L]; omega) (by rw [m]; omega)
  exact ⟨r, h1, by rw [h2, m, e20L, dn_pos (by omega)]⟩
theorem m_up20 {x w : Int64} {a v : Int} (hx : x.toInt = a) (hv : w.toInt = v) (bx : -4294967296 ≤ a ∧ a ≤ 4294967296) (bw : 0 ≤ v ∧ v ≤ 1073741824) : ∃ r, fX9_up (x * w) 1048576 = some r ∧ r.toInt = up (a * v) 1048576 := by
  have p := w_prod bx bw
  have m : (x * w).toInt = a * v := by rw [qL_mul (by rw [hx, hv]; omega) (by rw [hx, hv]; omega), hx, hv]
  obtain ⟨r, h1, h2⟩ := m_up (x := x * w) (y := 1048576) (by rw [e20L]; omega) (by rw [m]; omega)
  exact ⟨r, h1, by rw [h2, m, e20L]⟩
theorem m_sumOf {C : qCfg} (hw : qWF C) {τ : zSt} (h0 : mCur C τ) {k : Nat} (hk : k < C.N) {a b : Int32} (hab : a.toInt ≤ b.toInt) (hwide : b.toInt - a.toInt ≤ 1073741824) {i : Nat} (hi : i < 260) (hp : (gl τ 78 i).toInt = a.toInt) (hq : (gl τ 79 i).toInt = b.toInt) : ∃ r τ', fX9_sumOf (Int32.ofNat k) (Int32.ofNat i) τ = some (r, τ') ∧ sFr i τ τ' ∧ ((pSum C k a.toInt b.toInt = none ∧ r = 0) ∨ (pSum C k a.toInt b.toInt = some ((gl τ' 80 i).toInt, (gl τ' 81 i).toInt) ∧ r = 1)) := by
  have ra := qI_rng a
  have rb := qI_rng b
  have v := vin (N := 260) (iNt (n := i) (by omega)) hi
  have c := iN_cl (n := i) (by omega)
  have bw : 0 ≤ b.toInt - a.toInt ∧ b.toInt - a.toInt ≤ 1073741824 := by omega
  have ok1 := qV_ok hw hk (a := a.toInt) (b := b.toInt) (by omega) hab (by omega)
  have ok2 := qSl_ok hw hk (a := a.toInt) (b := b.toInt) (by omega) hab (by omega)
  show ∃ r τ', fX9_sumOf_0 _ _ τ = some (r, τ') ∧ _
  unfold fX9_sumOf_0
  rw [zg_pos v, c, nm_eq, zg_pos v, nm_eq, nm_eq]
  obtain ⟨p, hpe⟩ : ∃ p, p = gl τ 78 i := ⟨_, rfl⟩
  obtain ⟨q, hqe⟩ : ∃ q, q = gl τ 79 i := ⟨_, rfl⟩
  rw [← hpe, ← hqe]
  rw [← hpe] at hp
  rw [← hqe] at hq
  have ew : (q - p).toInt = b.toInt - a.toInt := by rw [qL_sub (by omega) (by omega), hq, hp]
  obtain ⟨r1, τ1, a1, a2, a3⟩ := m_m hw h0 hk hab hp hq
  rw [a1, bd2_some]
  unfold pSum
  generalize hs : qV C k a.toInt b.toInt = s at a3 ok1 ⊢
  cases s with
  | none =>
    rw [if_pos (show r1 = 0 from a3)]
    exact ⟨_, _, rfl, a2.s, Or.inl ⟨rfl, rfl⟩⟩
  | some z =>
    have rz := ok1.rng
    obtain ⟨y1, y2, y3⟩ := a3
    obtain ⟨l, l1, l2⟩ := m_dn20 y2 ew (by omega) bw
    obtain ⟨h, h1, h2⟩ := m_up20 y3 ew (by omega) bw
    rw [if_neg (by rw [y1]; decide), l1, bd1_some, zg_pos v, h1, bd1_some, zg_pos v]
    obtain ⟨ρ, hρ⟩ : ∃ ρ, ρ = sl (sl τ1 80 i l) 81 i h := ⟨_, rfl⟩
    rw [← hρ]
    have fr1 : sFr i τ ρ := by rw [hρ]; exact (a2.s.sl (by omega)).sl (by omega)
    have gl80 : gl ρ 80 i = l := by rw [hρ, gl_sl, if_neg (by omega), gl_sl, if_pos (by omega)]
    have gl81 : gl ρ 81 i = h := by rw [hρ, gl_sl, if_pos (by omega)]
    have keepL : ∀ ρ', mFr ρ ρ' → (gl ρ' 80 i).toInt = z.1 * (b.toInt - a.toInt) / 1048576 ∧ (gl ρ' 81 i).toInt = up (z.2 * (b.toInt - a.toInt)) 1048576 := fun ρ' f => by
      rw [f.2 _ _ (by omega), f.2 _ _ (by omega), gl80, gl81]; exact ⟨l2, h2⟩
    obtain ⟨r2, τ2, b1, b2, b3⟩ := m_md hw (mCur_w fr1.q.w h0) hk hab hp hq
    rw [b1, bd2_some]
    have F2 := fr1.tr b2.s
    generalize hl : qSl C k a.toInt b.toInt = l' at b3 ok2 ⊢
    cases l' with
    | none =>
      rw [if_pos (show r2 = 0 from b3)]
      obtain ⟨k1, k2⟩ := keepL τ2 b2
      exact ⟨_, _, rfl, F2, Or.inr ⟨by show some _ = _; rw [k1, k2], rfl⟩⟩
    | some r =>
      have rr := ok2.rng
      obtain ⟨x1, x2, x3⟩ := b3
      have ed : (gl τ2 61 30 - gl τ2 61 29).toInt = r.2 - r.1 := by rw [qL_sub (by omega) (by omega), x3, x2]
      obtain ⟨e, e1, e2⟩ := m_up20 ed ew (by omega) bw
      rw [if_neg (by rw [x1]; decide), e1, bd1_some]
      have eM : (2147483647 : Int64).toInt = 2147483647 := by decide
      have e0 : 0 ≤ e.toInt := by
        rw [e2]
        exact up0 (by omega) (Int.mul_nonneg (by omega) (by omega))
      show ∃ r' τ', _ = some (r', τ') ∧ _ ∧ ((some (pS2 C k a.toInt b.toInt z r) = none ∧ _) ∨ (some (pS2 C k a.toInt b.toInt z r) = some _ ∧ _))
      unfold pS2
      rw [← e2]
      by_cases big : 2147483647 < e.toInt
      · rw [if_pos (show 2147483647 < e by rw [qL_lt, eM]; exact big), if_pos big]
        obtain ⟨k1, k2⟩ := keepL τ2 b2
        exact ⟨_, _, rfl, F2, Or.inr ⟨by rw [k1, k2], rfl⟩⟩
      rw [if_neg (show ¬ 2147483647 < e by rw [qL_lt, eM]; exact big), if_neg big]
      have mx := x_mid a b
      obtain ⟨mi, hmi⟩ : ∃ mi : Int32, mi = fX8_middleOf a b := ⟨_, rfl⟩
      rw [← hmi] at mx
      obtain ⟨m, m1, m2⟩ := m_mid hp hq ⟨by omega, by omega⟩ ⟨by omega, by omega⟩
      have epq : (p + q).toInt = a.toInt + b.toInt := by rw [qL_add (by omega) (by omega), hp, hq]
      obtain ⟨n, n1, n2⟩ := m_up (x := p + q) (y := 2) (by rw [e2L]; omega) (by rw [epq]; omega)
      rw [epq, e2L, up_pos (by omega)] at n2
      obtain ⟨mu, hmu⟩ : ∃ mu : Int32, mu.toInt = -((-(a.toInt + b.toInt)) / 2) := by
        by_cases od : (b.toInt - a.toInt) % 2 = 0
        · exact ⟨mi, by rw [mx]; omega⟩
        · exact ⟨mi + 1, by rw [qI_add (by rw [q1I, mx]; omega) (by rw [q1I, mx]; omega), q1I, mx]; omega⟩
      rw [m1, bd1_some, n1, bd1_some]
      obtain ⟨r3, τ3, d1, d2, d3⟩ := m_m hw (mCur_w F2.q.w h0) hk (a := mi) (b := mu) (by rw [mx, hmu]; omega) (lo := m) (hi := n) (by rw [m2, mx]) (by rw [n2, hmu])
      have ok3 := qV_ok hw hk (a := mi.toInt) (b := mu.toInt) (by rw [mx]; omega) (by rw [mx, hmu]; omega) (by rw [hmu]; omega)
      rw [mx, hmu] at d3 ok3
      rw [d1, bd2_some]
      generalize qV C k ((a.toInt + b.toInt) / 2) (-((-(a.toInt + b.toInt)) / 2)) = t at d3 ok3 ⊢
      cases t with
      | none =>
        rw [if_pos (show r3 = 0 from d3)]
        obtain ⟨k1, k2⟩ := keepL τ3 (b2.tr d2)
        exact ⟨_, _, rfl, F2.tr d2.s, Or.inr ⟨by show some _ = _; rw [k1, k2], rfl⟩⟩
      | some z3 =>
        have rz3 := ok3.rng
        obtain ⟨y4, y5, y6⟩ := d3
        have pe := w_prod (x := e.toInt) (w := b.toInt - a.toInt) (by omega) bw
        have em : (e * (q - p)).toInt = e.toInt * (b.toInt - a.toInt) := by rw [qL_mul (by rw [ew]; omega) (by rw [ew]; omega), ew]
        obtain ⟨dd, g1, g2⟩ := m_up (x := e * (q - p)) (y := 8388608) (by rw [e8388L]; omega) (by rw [em]; omega)
        rw [em, e8388L] at g2
        have n4 : 0 ≤ e.toInt * (b.toInt - a.toInt) := Int.mul_nonneg e0 bw.1
        have n5 := up_b (x := e.toInt * (b.toInt - a.toInt)) (y := 8388608) (by omega)
        obtain ⟨l3, i1, i2⟩ := m_dn20 y5 ew (by omega) bw
        obtain ⟨h3, j1, j2⟩ := m_up20 y6 ew (by omega) bw
        have pz := w_prod (x := z3.1) (w := b.toInt - a.toInt) (by omega) bw
        have pz2 := w_prod (x := z3.2) (w := b.toInt - a.toInt) (by omega) bw
        have ub := up_b (x := z3.2 * (b.toInt - a.toInt)) (y := 1048576) (by omega)
        rw [if_neg (by rw [y4]; decide), g1, bd1_some, i1, bd1_some, zg_pos v, j1, bd1_some, zg_pos v]
        refine ⟨_, _, rfl, ((F2.tr d2.s).sl (by omega)).sl (by omega), Or.inr ⟨?_, rfl⟩⟩
        rw [gl_sl, if_neg (by omega), gl_sl, if_pos (by omega), gl_sl, if_pos (by omega), qL_sub (by omega) (by omega), qL_add (by omega) (by omega), i2, j2, g2]
