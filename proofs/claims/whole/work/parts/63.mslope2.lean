/-! products and what is over them, and the slope of every ACT -/
theorem m_prod {n f g : Nat} (hn : n < 480) (hf : f < 480) (hg : g < 480) {σ : zSt} {p q : Int × Int} {s t : qSh} (vf : mV σ f (some p)) (vg : mV σ g (some q)) (op : qOk (some p)) (oq : qOk (some q)) (hs : mL σ f s) (ht : mL σ g t) (os : qOk s) (ot : qOk t) (hs0 : ∃ z, s = some z) (ht0 : ∃ z, t = some z) {o : Int32} (ho : gi σ 64 n = o) : ∃ τ, fX9_products (Int32.ofNat n) (Int32.ofNat f) (Int32.ofNat g) σ = some τ ∧ mS τ (if o = 7 then sPlus (sTimes s (some q)) (sTimes (some p) t) else sOver (sMinus (sTimes s (some q)) (sTimes (some p) t)) (sPow (some q) 1)) ∧ mEq σ τ := by
  have vn := vin (iNt (n := n) (by omega)) hn
  have cn := iN_cl (n := n) (by omega)
  have wf := vin (iNt (n := f) (by omega)) hf
  have cf := iN_cl (n := f) (by omega)
  have wg := vin (iNt (n := g) (by omega)) hg
  have cg := iN_cl (n := g) (by omega)
  obtain ⟨a, rfl⟩ := hs0
  obtain ⟨b, rfl⟩ := ht0
  obtain ⟨-, p1, p2⟩ := vf
  have vg' := vg
  obtain ⟨-, q1, q2⟩ := vg
  obtain ⟨-, a1, a2⟩ := hs
  obtain ⟨-, b1, b2⟩ := ht
  have rp := op.rng
  have rq := oq.rng
  have ra := os.rng
  have rb := ot.rng
  have o1 : qOk (sTimes (some a) (some q)) := sTimes_ok os oq
  have o2 : qOk (sTimes (some p) (some b)) := sTimes_ok op ot
  show ∃ τ, fX9_products_0 _ _ _ σ = some τ ∧ _
  unfold fX9_products_0
  rw [zg_pos wf, zg_pos wf, zg_pos wg, zg_pos wg, cf, cg]
  obtain ⟨τ, t1, t2, t3⟩ := m_times (σ := σ) (a := gl σ 74 f) (b := gl σ 75 f) (c := gl σ 72 g) (d := gl σ 73 g) (by omega) (by omega) (by omega) (by omega)
  rw [a1, a2, q1, q2] at t2
  replace t2 : mS τ (sTimes (some a) (some q)) := t2
  rw [t1, bd1_some, nm_eq, nm_eq, nm_eq, zg_pos wf, zg_pos wf, zg_pos wg, zg_pos wg]
  have e72 : gl τ 72 f = gl σ 72 f := t3.gl (by omega)
  have e73 : gl τ 73 f = gl σ 73 f := t3.gl (by omega)
  have e74 : gl τ 74 g = gl σ 74 g := t3.gl (by omega)
  have e75 : gl τ 75 g = gl σ 75 g := t3.gl (by omega)
  rw [e72, e73, e74, e75]
  obtain ⟨ρ, u1, u2, u3⟩ := m_times (σ := τ) (a := gl σ 72 f) (b := gl σ 73 f) (c := gl σ 74 g) (d := gl σ 75 g) (by omega) (by omega) (by omega) (by omega)
  rw [p1, p2, b1, b2] at u2
  replace u2 : mS ρ (sTimes (some p) (some b)) := u2
  rw [u1, bd1_some]
  have E := t3.tr u3
  have hol : ∃ κ, (bd1 (fX9_isHole ρ) fun s => some s) = some κ ∧ mS κ none ∧ mEq σ κ := by
    obtain ⟨κ, w1, w2, w3⟩ := m_isHole ρ
    exact ⟨κ, by rw [w1]; rfl, w2, E.tr w3⟩
  generalize sTimes (some a) (some q) = X at t2 o1 ⊢
  generalize sTimes (some p) (some b) = Y at u2 o2 ⊢
  cases X with
  | none =>
    replace t2 : gi τ 61 21 = 1 := t2
    rw [t2, if_neg (by decide)]
    rw [sPlus_n, sMinus_n, sOver_n, ite_self]
    exact hol
  | some x =>
    obtain ⟨h1, h2, h3⟩ := t2
    rw [h1, if_pos rfl]
    cases Y with
    | none =>
      replace u2 : gi ρ 61 21 = 1 := u2
      rw [u2, if_neg (by decide)]
      rw [sPlus_r, sMinus_r, sOver_n, ite_self]
      exact hol
    | some y =>
      obtain ⟨k1, k2, k3⟩ := u2
      have rx := o1.rng
      have ry := o2.rng
      rw [k1, if_pos rfl, zg_pos vn, cn, E.gi (c := 64) (by omega), ho]
      by_cases h7 : o = 7
      · rw [if_pos h7, if_pos h7]
        obtain ⟨κ, w1, w2, w3, -⟩ := m_is (gl τ 61 19 + gl ρ 61 19) (gl τ 61 20 + gl ρ 61 20) ρ
        rw [qL_add (by omega) (by omega), qL_add (by omega) (by omega), h2, h3, k2, k3] at w2
        exact ⟨κ, by rw [w1]; rfl, w2, E.tr w3⟩
      · rw [if_neg h7, if_neg h7]
        obtain ⟨κ, w1, w2, w3, -⟩ := m_is (gl τ 61 19 - gl ρ 61 20) (gl τ 61 20 - gl ρ 61 19) ρ
        rw [qL_sub (by omega) (by omega), qL_sub (by omega) (by omega), h2, h3, k2, k3] at w2
        replace w2 : mS κ (sMinus (some x) (some y)) := w2
        rw [w1, bd1_some, nm_eq, nm_eq]
        have om : qOk (sMinus (some x) (some y)) := sMinus_ok o1 o2
        refine then_end (G := fun s => sOver s (sPow (some q) 1)) sOver_n w2 om (E.tr w3) (fun r1 r2 => ?_)
        have E2 := E.tr w3
        have e72 : gl κ 72 g = gl σ 72 g := E2.gl (by omega)
        have e73 : gl κ 73 g = gl σ 73 g := E2.gl (by omega)
        rw [zg_pos wg, zg_pos wg, e72, e73]
        obtain ⟨μ, m1, m2, m3⟩ := m_power (a := gl σ 72 g) (b := gl σ 73 g) (n := 2) (σ := κ) (j := 1) (by omega) (by omega) (by omega) (by decide)
        rw [q1, q2] at m2
        replace m2 : mS μ (sPow (some q) 1) := m2
        rw [m1, bd1_some]
        have ow : qOk (sPow (some q) 1) := sPow_ok oq (by omega)
        refine then_end (G := fun s => sOver (some ((gl κ 61 19).toInt, (gl κ 61 20).toInt)) s) sOver_r m2 ow m3 (fun z1 z2 => ?_)
        obtain ⟨ν, n1, n2, n3⟩ := m_by (σ := μ) (a := gl κ 61 19) (b := gl κ 61 20) (c := gl μ 61 19) (d := gl μ 61 20) (by omega) (by omega) z1.2
        exact ⟨ν, by rw [n1]; rfl, n2, n3⟩
theorem m_sizes {p q a b : Int64} {u : Int × Int} (ha : a.toInt = u.1) (hb : b.toInt = u.2) (hp : -2147483648 ≤ p.toInt ∧ p.toInt ≤ q.toInt) (hq : q.toInt ≤ 2147483647) (σ : zSt) : ∃ τ, fX9_sizes p q a b σ = some τ ∧ mS τ (sLSize (some u) (some (p.toInt, q.toInt))) ∧ mEq σ τ := by
  show ∃ τ, fX9_sizes_0 p q a b σ = some τ ∧ mS τ (if 0 ≤ u.1 then some (p.toInt, q.toInt) else if u.2 ≤ 0 then sNeg (some (p.toInt, q.toInt)) else sTog (some (p.toInt, q.toInt)) (sNeg (some (p.toInt, q.toInt)))) ∧ _
  unfold fX9_sizes_0
  have n1 : (-p).toInt = -p.toInt := qL_neg (by omega)
  have n2 : (-q).toInt = -q.toInt := qL_neg (by omega)
  by_cases h : 0 ≤ u.1
  · rw [if_pos h, if_neg (by rw [qL_lt, q0L, ha]; omega)]
    obtain ⟨τ, t1, t2, t3, -⟩ := m_is p q σ
    rw [sOf_in hp.1 hp.2 hq] at t2
    exact ⟨τ, by rw [t1]; rfl, t2, t3⟩
  · rw [if_neg h, if_pos (by rw [qL_lt, q0L, ha]; omega)]
    obtain ⟨τ, t1, t2, t3, -⟩ := m_is (-q) (-p) σ
    rw [n1, n2] at t2
    replace t2 : mS τ (sNeg (some (p.toInt, q.toInt))) := t2
    rw [t1, bd1_some]
    by_cases r : p.toInt = -2147483648
    · have e : sNeg (some (p.toInt, q.toInt)) = none := by
        show sOf (-q.toInt) (-p.toInt) = none
        rw [sOf, if_neg (by omega)]
      rw [e] at t2 ⊢
      have t4 : gi τ 61 21 = 1 := t2
      rw [t4, if_neg (by decide), show sTog (some (p.toInt, q.toInt)) none = none from rfl, ite_self]
      exact ⟨τ, rfl, t2, t3⟩
    · have e : sNeg (some (p.toInt, q.toInt)) = some (-q.toInt, -p.toInt) := by
        show sOf (-q.toInt) (-p.toInt) = _
        rw [sOf, if_pos (by omega)]
      rw [e] at t2 ⊢
      have t4 : gi τ 61 21 = 0 := t2.1
      rw [t4, if_pos rfl]
      by_cases hb0 : u.2 ≤ 0
      · rw [if_pos (by rw [qL_le, q0L, hb]; exact hb0), if_pos hb0]
        exact ⟨τ, rfl, t2, t3⟩
      · rw [if_neg (by rw [qL_le, q0L, hb]; exact hb0), if_neg hb0]
        obtain ⟨κ, w1, w2, w3, -⟩ := m_is (fX9_less p (-q)) (fX9_more q (-p)) τ
        rw [m_less, m_more, n1, n2] at w2
        exact ⟨κ, by rw [w1]; rfl, w2, t3.tr w3⟩
theorem two_end3 {S : qSh → qSh → qSh} (hS : ∀ u, S none u = none) (hT : ∀ u, S u none = none) {σ : zSt} {f g : Nat} {s t : qSh} (hv : mL σ f s) (hq : qOk s) (hw : mL σ g t) (hr : qOk t) {B : Option zSt} (hB : (∃ z, s = some z) → (∃ z, t = some z) → ∃ τ, B = some τ ∧ mS τ (S s t) ∧ mEq σ τ) : ∃ τ, (if gi σ 77 f = 0 then (if gi σ 77 g = 0 then B else bd1 (fX9_isHole σ) fun s => some s) else bd1 (fX9_isHole σ) fun s => some s) = some τ ∧ mS τ (S s t) ∧ mEq σ τ := by
  have hol : ∃ κ, (bd1 (fX9_isHole σ) fun s => some s) = some κ ∧ mS κ none ∧ mEq σ κ := by
    obtain ⟨κ, w1, w2, w3⟩ := m_isHole σ
    exact ⟨κ, by rw [w1]; rfl, w2, w3⟩
  cases s with
  | none =>
    replace hv : gi σ 77 f = 1 := hv
    rw [hv, if_neg (by decide), hS]
    exact hol
  | some q =>
    rw [if_pos hv.1]
    cases t with
    | none =>
      replace hw : gi σ 77 g = 1 := hw
      rw [hw, if_neg (by decide), hT]
      exact hol
    | some r =>
      rw [if_pos hw.1]
      exact hB ⟨q, rfl⟩ ⟨r, rfl⟩
theorem m_slope {n : Nat} (hn : n < 480) {σ : zSt} {a : qAct} (ha : mAct σ n a) {V L : Nat → qSh} (hV : ∀ m, m ∈ qOps a → m < 480 ∧ mV σ m (V m) ∧ qOk (V m) ∧ ∃ q, V m = some q) (hL : ∀ m, m ∈ qOps a → mL σ m (L m) ∧ qOk (L m)) (hvn : mV σ n (V n)) (hon : qOk (V n)) (hsn : ∃ q, V n = some q) (hc : a.1 = 2 → fX9_lastOf (Int32.ofNat a.2.1) σ = some (Int32.ofNat a.2.2.1)) (hp : a.1 = 4 → a.2.1 ≤ 8) : ∃ τ, fX9_slope (Int32.ofNat n) σ = some τ ∧ mS τ (sLA V L n a) ∧ mEq σ τ := by
  have vn := vin (iNt (n := n) (by omega)) hn
  have cn := iN_cl (n := n) (by omega)
  have st : (¬ gi σ 64 n = 2) → fX9_slope (Int32.ofNat n) σ = fX9_slope_29 (Int32.ofNat n) (gi σ 65 n) σ := by
    intro q
    show fX9_slope_0 _ _ = _
    unfold fX9_slope_0
    rw [zg_pos vn, cn, if_neg q, zg_pos vn]
  have st2 : ∀ i m, gi σ 64 n = 2 → gi σ 65 n = Int32.ofNat i → fX9_lastOf (Int32.ofNat i) σ = some (Int32.ofNat m) → fX9_slope (Int32.ofNat n) σ = fX9_slope_29 (Int32.ofNat n) (Int32.ofNat m) σ := by
    intro i m q r u
    show fX9_slope_0 _ _ = _
    unfold fX9_slope_0
    rw [zg_pos vn, cn, if_pos q, zg_pos vn, r, u, bd1_some]
  have e20 : (1048576 : Int64).toInt = 1048576 := by decide
  obtain ⟨t, af, ag, an⟩ := a
  match t, ha, hV, hL, hc, hp with
  | 0, ha, hV, hL, hc, hp =>
    rw [st (by rw [show gi σ 64 n = 0 from ha]; decide)]
    unfold fX9_slope_29
    rw [zg_pos vn, cn, nm_eq, zg_pos vn, if_pos (show gi σ 64 n = 0 from ha)]
    obtain ⟨τ, t1, t2, t3, -⟩ := m_is 1048576 1048576 σ
    rw [e20, sOf_in (by omega) (by omega) (by omega)] at t2
    exact ⟨τ, by rw [t1]; rfl, t2, t3⟩
  | 1, ha, hV, hL, hc, hp =>
    rw [st (by rw [ha.1]; decide)]
    unfold fX9_slope_29
    rw [zg_pos vn, cn, nm_eq, zg_pos vn, ha.1, if_neg (by decide), zg_pos vn, if_pos rfl]
    obtain ⟨τ, t1, t2, t3, -⟩ := m_is 0 0 σ
    rw [q0L, sOf_in (by omega) (by omega) (by omega)] at t2
    exact ⟨τ, by rw [t1]; rfl, t2, t3⟩
  | 2, ha, hV, hL, hc, hp =>
    obtain ⟨g1, g2, g3, q, hq⟩ := hV ag (List.mem_singleton.mpr rfl)
    obtain ⟨l1, l2⟩ := hL ag (List.mem_singleton.mpr rfl)
    rw [st2 af ag ha.1 ha.2 (hc rfl), ms_one hn g1 ha.1 (by decide) (by decide) (by decide) (by decide)]
    rw [hq] at g2 g3
    obtain ⟨-, b1, b2⟩ := g2
    have rq := g3.rng
    show ∃ τ, _ = some τ ∧ mS τ ((fun l => l) (L ag)) ∧ mEq σ τ
    refine one_endL (S := (fun l => l)) rfl l1 l2 (fun q1 q2 => ?_)
    obtain ⟨τ, t1, t2, t3, -⟩ := m_is (gl σ 74 ag) (gl σ 75 ag) σ
    rw [sOf_in q1.1 q1.2 q2] at t2
    exact ⟨τ, by show bd1 (fX9_is _ _ _) _ = _; rw [t1]; rfl, t2, t3⟩
  | 3, ha, hV, hL, hc, hp =>
    obtain ⟨g1, g2, g3, q, hq⟩ := hV ag (List.mem_singleton.mpr rfl)
    obtain ⟨l1, l2⟩ := hL ag (List.mem_singleton.mpr rfl)
    rw [st (by rw [ha.1]; decide), ha.2, ms_one hn g1 ha.1 (by decide) (by decide) (by decide) (by decide)]
    rw [hq] at g2 g3
    obtain ⟨-, b1, b2⟩ := g2
    have rq := g3.rng
    show ∃ τ, _ = some τ ∧ mS τ (sNeg (L ag)) ∧ mEq σ τ
    refine one_endL (S := sNeg) rfl l1 l2 (fun q1 q2 => ?_)
    obtain ⟨τ, t1, t2, t3, -⟩ := m_is (-(gl σ 75 ag)) (-(gl σ 74 ag)) σ
    rw [qL_neg (by omega), qL_neg (by omega)] at t2
    exact ⟨τ, by show bd1 (fX9_is _ _ _) _ = _; rw [t1]; rfl, t2, t3⟩
  | 4, ha, hV, hL, hc, hp =>
    obtain ⟨g1, g2, g3, q, hq⟩ := hV ag (List.mem_singleton.mpr rfl)
    obtain ⟨l1, l2⟩ := hL ag (List.mem_singleton.mpr rfl)
    rw [st (by rw [ha.1]; decide), ha.2.1, ms_one hn g1 ha.1 (by decide) (by decide) (by decide) (by decide)]
    rw [hq] at g2 g3
    obtain ⟨-, b1, b2⟩ := g2
    have rq := g3.rng
    show ∃ τ, _ = some τ ∧ mS τ ((fun l => if af = 0 then l else sTimes (sTimes (sW (af + 1)) (sPow (V ag) (af - 1))) l) (L ag)) ∧ mEq σ τ
    refine one_endL (S := (fun l => if af = 0 then l else sTimes (sTimes (sW (af + 1)) (sPow (V ag) (af - 1))) l)) (by show (if af = 0 then none else sTimes _ none) = none; rw [sTimes_r, ite_self]) l1 l2 (fun q1 q2 => ?_)
    have h8 : af ≤ 8 := hp rfl
    have e3 : (gi σ 66 n).toInt = af + 1 := by rw [ha.2.2, iNt (by omega)]; omega
    show ∃ τ, (if gi σ 66 n = 1 then bd1 (fX9_is (gl σ 74 ag) (gl σ 75 ag) σ) fun s => some s else bd1 (fX9_power_ (gl σ 72 ag) (gl σ 73 ag) (gi σ 66 n - 1) σ) fun s1 => bd1 (fX9_thenTimes ((Int32.toInt64 (gi σ 66 n)) * 1048576) ((Int32.toInt64 (gi σ 66 n)) * 1048576) s1) fun s2 => bd1 (fX9_thenTimes (gl σ 74 ag) (gl σ 75 ag) s2) fun s => some s) = some τ ∧ mS τ (if af = 0 then some ((gl σ 74 ag).toInt, (gl σ 75 ag).toInt) else sTimes (sTimes (sW (af + 1)) (sPow (V ag) (af - 1))) (some ((gl σ 74 ag).toInt, (gl σ 75 ag).toInt))) ∧ mEq σ τ
    by_cases h0 : af = 0
    · rw [if_pos h0, if_pos (by rw [qI_eq, e3, q1I]; omega)]
      obtain ⟨τ, t1, t2, t3, -⟩ := m_is (gl σ 74 ag) (gl σ 75 ag) σ
      rw [sOf_in q1.1 q1.2 q2] at t2
      exact ⟨τ, by rw [t1]; rfl, t2, t3⟩
    · rw [if_neg h0, if_neg (by rw [qI_eq, e3, q1I]; omega)]
      obtain ⟨τ, t1, t2, t3⟩ := m_power (a := (gl σ 72 ag)) (b := (gl σ 73 ag)) (n := gi σ 66 n - 1) (σ := σ) (j := af - 1) (by omega) (by omega) (by omega) (by rw [qI_sub (by rw [e3, q1I]; omega) (by rw [e3, q1I]; omega), e3, q1I]; omega)
      rw [b1, b2] at t2
      replace t2 : mS τ (sPow (some q) (af - 1)) := t2
      have o1 : qOk (sPow (some q) (af - 1)) := sPow_ok g3 (by omega)
      have ew : ((Int32.toInt64 (gi σ 66 n)) * 1048576).toInt = (af + 1) * 1048576 := by
        rw [qL_mul (by rw [qL_ofI, e3, e20]; omega) (by rw [qL_ofI, e3, e20]; omega), qL_ofI, e3, e20]
      obtain ⟨ρ, u1, u2, u3⟩ := m_thenTimes (c := (Int32.toInt64 (gi σ 66 n)) * 1048576) (d := (Int32.toInt64 (gi σ 66 n)) * 1048576) (by rw [ew]; omega) (by rw [ew]; omega) t2 o1
      rw [ew] at u2
      replace u2 : mS ρ (sTimes (sPow (some q) (af - 1)) (sW (af + 1))) := u2
      rw [sTimes_comm] at u2
      have o2 : qOk (sTimes (sW (af + 1)) (sPow (some q) (af - 1))) := sTimes_ok (sW_ok (by omega) (by omega)) o1
      obtain ⟨κ, w1, w2, w3⟩ := m_thenTimes (c := (gl σ 74 ag)) (d := (gl σ 75 ag)) (by omega) (by omega) u2 o2
      refine ⟨κ, by rw [t1, bd1_some, u1, bd1_some, w1]; rfl, ?_, (t3.tr u3).tr w3⟩
      rw [hq]; exact w2
  | 5, ha, hV, hL, hc, hp =>
    obtain ⟨g1, g2, g3, q, hq⟩ := hV ag (List.mem_singleton.mpr rfl)
    obtain ⟨l1, l2⟩ := hL ag (List.mem_singleton.mpr rfl)
    rw [st (by rw [ha.1]; decide), ha.2, ms_one hn g1 ha.1 (by decide) (by decide) (by decide) (by decide)]
    rw [hq] at g2 g3
    obtain ⟨-, b1, b2⟩ := g2
    have rq := g3.rng
    show ∃ τ, _ = some τ ∧ mS τ ((fun l => sOver l (sTimes (sW 2) (V n))) (L ag)) ∧ mEq σ τ
    refine one_endL (S := (fun l => sOver l (sTimes (sW 2) (V n)))) sOver_n l1 l2 (fun q1 q2 => ?_)
    obtain ⟨z, hz⟩ := hsn
    rw [hz] at hvn hon
    obtain ⟨-, z1, z2⟩ := hvn
    have rz := hon.rng
    obtain ⟨τ, t1, t2, t3⟩ := m_times (σ := σ) (a := 2097152) (b := 2097152) (c := gl σ 72 n) (d := gl σ 73 n) (by decide) (by decide) (by omega) (by omega)
    rw [z1, z2] at t2
    replace t2 : mS τ (sTimes (sW 2) (some z)) := t2
    have o1 : qOk (sTimes (sW 2) (some z)) := sTimes_ok (sW_ok (by omega) (by omega)) hon
    show ∃ ρ, (zg (vp_in (Int32.ofNat n) 480) <| zg (vp_in (Int32.ofNat n) 480) <| bd1 (fX9_times 2097152 2097152 (gl σ 72 (Int32.ofNat n).toNatClampNeg) (gl σ 73 (Int32.ofNat n).toNatClampNeg) σ) fun s => if gi s 61 21 = 0 then bd1 (fX9_by (gl σ 74 ag) (gl σ 75 ag) (gl s 61 19) (gl s 61 20) s) fun s => some s else some s) = some ρ ∧ _
    rw [zg_pos vn, zg_pos vn, cn, t1, bd1_some, hz]
    refine then_end (G := fun s => sOver (some ((gl σ 74 ag).toInt, (gl σ 75 ag).toInt)) s) sOver_r t2 o1 t3 (fun r1 r2 => ?_)
    obtain ⟨ν, n1, n2, n3⟩ := m_by (σ := τ) (a := (gl σ 74 ag)) (b := (gl σ 75 ag)) (c := gl τ 61 19) (d := gl τ 61 20) (by omega) (by omega) r1.2
    exact ⟨ν, by rw [n1]; rfl, n2, n3⟩
  | 6, ha, hV, hL, hc, hp =>
    obtain ⟨g1, g2, g3, q, hq⟩ := hV ag (List.mem_singleton.mpr rfl)
    obtain ⟨l1, l2⟩ := hL ag (List.mem_singleton.mpr rfl)
    rw [st (by rw [ha.1]; decide), ha.2, ms_one hn g1 ha.1 (by decide) (by decide) (by decide) (by decide)]
    rw [hq] at g2 g3
    obtain ⟨-, b1, b2⟩ := g2
    have rq := g3.rng
    show ∃ τ, _ = some τ ∧ mS τ ((fun l => sTimes (V n) l) (L ag)) ∧ mEq σ τ
    refine one_endL (S := (fun l => sTimes (V n) l)) sTimes_r l1 l2 (fun q1 q2 => ?_)
    obtain ⟨z, hz⟩ := hsn
    rw [hz] at hvn hon
    obtain ⟨-, z1, z2⟩ := hvn
    have rz := hon.rng
    obtain ⟨τ, t1, t2, t3⟩ := m_times (σ := σ) (a := gl σ 72 n) (b := gl σ 73 n) (c := (gl σ 74 ag)) (d := (gl σ 75 ag)) (by omega) (by omega) (by omega) (by omega)
    rw [z1, z2] at t2
    refine ⟨τ, ?_, by rw [hz]; exact t2, t3⟩
    show (zg (vp_in (Int32.ofNat n) 480) <| zg (vp_in (Int32.ofNat n) 480) <| bd1 (fX9_times (gl σ 72 (Int32.ofNat n).toNatClampNeg) (gl σ 73 (Int32.ofNat n).toNatClampNeg) (gl σ 74 ag) (gl σ 75 ag) σ) fun s => some s) = _
    rw [zg_pos vn, zg_pos vn, cn, t1]; rfl
  | 7, ha, hV, hL, hc, hp =>
    obtain ⟨g1, g2, g3, q, hq⟩ := hV ag (List.mem_singleton.mpr rfl)
    obtain ⟨l1, l2⟩ := hL ag (List.mem_singleton.mpr rfl)
    rw [st (by rw [ha.1]; decide), ha.2, ms_one hn g1 ha.1 (by decide) (by decide) (by decide) (by decide)]
    rw [hq] at g2 g3
    obtain ⟨-, b1, b2⟩ := g2
    have rq := g3.rng
    show ∃ τ, _ = some τ ∧ mS τ ((fun l => sOver l (V ag)) (L ag)) ∧ mEq σ τ
    refine one_endL (S := (fun l => sOver l (V ag))) sOver_n l1 l2 (fun q1 q2 => ?_)
    obtain ⟨τ, t1, t2, t3⟩ := m_by (σ := σ) (a := (gl σ 74 ag)) (b := (gl σ 75 ag)) (c := (gl σ 72 ag)) (d := (gl σ 73 ag)) (by omega) (by omega) (by omega)
    rw [b1, b2] at t2
    exact ⟨τ, by show bd1 (fX9_by _ _ _ _ _) _ = _; rw [t1]; rfl, by rw [hq]; exact t2, t3⟩
  | 8, ha, hV, hL, hc, hp =>
    obtain ⟨g1, g2, g3, q, hq⟩ := hV ag (List.mem_singleton.mpr rfl)
    obtain ⟨l1, l2⟩ := hL ag (List.mem_singleton.mpr rfl)
    rw [st (by rw [ha.1]; decide), ha.2, ms_one hn g1 ha.1 (by decide) (by decide) (by decide) (by decide)]
    rw [hq] at g2 g3
    obtain ⟨-, b1, b2⟩ := g2
    have rq := g3.rng
    show ∃ τ, _ = some τ ∧ mS τ ((fun l => sTimes (sWave true (V ag)) l) (L ag)) ∧ mEq σ τ
    refine one_endL (S := (fun l => sTimes (sWave true (V ag)) l)) sTimes_r l1 l2 (fun q1 q2 => ?_)
    obtain ⟨τ, t1, t2, t3⟩ := m_wave (co := true) (v5 := 0) (by decide) (a := (gl σ 72 ag)) (b := (gl σ 73 ag)) (by omega) (by omega) σ
    rw [b1, b2] at t2
    replace t2 : mS τ (sWave true (some q)) := t2
    have o1 : qOk (sWave true (some q)) := sWave_ok g3
    obtain ⟨ρ, u1, u2, u3⟩ := m_thenTimes (c := (gl σ 74 ag)) (d := (gl σ 75 ag)) (by omega) (by omega) t2 o1
    refine ⟨ρ, ?_, by rw [hq]; exact u2, t3.tr u3⟩
    show (bd1 (fX9_wave (gl σ 72 ag) (gl σ 73 ag) 0 σ) fun s1 => bd1 (fX9_thenTimes (gl σ 74 ag) (gl σ 75 ag) s1) fun s => some s) = _
    rw [t1, bd1_some, u1]; rfl
  | 9, ha, hV, hL, hc, hp =>
    obtain ⟨g1, g2, g3, q, hq⟩ := hV ag (List.mem_singleton.mpr rfl)
    obtain ⟨l1, l2⟩ := hL ag (List.mem_singleton.mpr rfl)
    rw [st (by rw [ha.1]; decide), ha.2, ms_one hn g1 ha.1 (by decide) (by decide) (by decide) (by decide)]
    rw [hq] at g2 g3
    obtain ⟨-, b1, b2⟩ := g2
    have rq := g3.rng
    show ∃ τ, _ = some τ ∧ mS τ ((fun l => sNeg (sTimes (sWave false (V ag)) l)) (L ag)) ∧ mEq σ τ
    refine one_endL (S := (fun l => sNeg (sTimes (sWave false (V ag)) l))) (by show sNeg (sTimes _ none) = none; rw [sTimes_r]; rfl) l1 l2 (fun q1 q2 => ?_)
    obtain ⟨τ, t1, t2, t3⟩ := m_wave (co := false) (v5 := 1) (by decide) (a := (gl σ 72 ag)) (b := (gl σ 73 ag)) (by omega) (by omega) σ
    rw [b1, b2] at t2
    replace t2 : mS τ (sWave false (some q)) := t2
    have o1 : qOk (sWave false (some q)) := sWave_ok g3
    obtain ⟨ρ, u1, u2, u3⟩ := m_thenTimes (c := (gl σ 74 ag)) (d := (gl σ 75 ag)) (by omega) (by omega) t2 o1
    have o2 : qOk (sTimes (sWave false (some q)) (some ((gl σ 74 ag).toInt, (gl σ 75 ag).toInt))) := sTimes_ok o1 (qOk.some q1.1 q1.2 q2)
    show ∃ κ, (bd1 (fX9_wave (gl σ 72 ag) (gl σ 73 ag) 1 σ) fun s1 => bd1 (fX9_thenTimes (gl σ 74 ag) (gl σ 75 ag) s1) fun s2 => if gi s2 61 21 = 0 then bd1 (fX9_is (-(gl s2 61 20)) (-(gl s2 61 19)) s2) fun s => some s else some s2) = some κ ∧ _
    rw [t1, bd1_some, u1, bd1_some, hq]
    refine then_end (G := sNeg) rfl u2 o2 (t3.tr u3) (fun r1 r2 => ?_)
    obtain ⟨κ, w1, w2, w3, -⟩ := m_is (-(gl ρ 61 20)) (-(gl ρ 61 19)) ρ
    rw [qL_neg (by omega), qL_neg (by omega)] at w2
    exact ⟨κ, by rw [w1]; rfl, w2, w3⟩
  | 10, ha, hV, hL, hc, hp =>
    obtain ⟨g1, g2, g3, q, hq⟩ := hV ag (List.mem_singleton.mpr rfl)
    obtain ⟨l1, l2⟩ := hL ag (List.mem_singleton.mpr rfl)
    rw [st (by rw [ha.1]; decide), ha.2, ms_one hn g1 ha.1 (by decide) (by decide) (by decide) (by decide)]
    rw [hq] at g2 g3
    obtain ⟨-, b1, b2⟩ := g2
    have rq := g3.rng
    show ∃ τ, _ = some τ ∧ mS τ ((fun l => sLSize (V ag) l) (L ag)) ∧ mEq σ τ
    refine one_endL (S := (fun l => sLSize (V ag) l)) (by show sLSize (V ag) none = none; rw [hq]; show (if 0 ≤ q.1 then none else if q.2 ≤ 0 then none else sTog none none) = none; rw [sTog_n, ite_self, ite_self]) l1 l2 (fun q1 q2 => ?_)
    obtain ⟨τ, t1, t2, t3⟩ := m_sizes (p := (gl σ 74 ag)) (q := (gl σ 75 ag)) b1 b2 q1 q2 σ
    exact ⟨τ, by show bd1 (fX9_sizes _ _ _ _ _) _ = _; rw [t1]; rfl, by rw [hq]; exact t2, t3⟩
  | 11, ha, hV, hL, hc, hp =>
    obtain ⟨f1, f2, f3, p, hp'⟩ := hV af (List.mem_cons.mpr (Or.inl rfl))
    obtain ⟨g1, g2, g3, q, hq⟩ := hV ag (List.mem_cons.mpr (Or.inr (List.mem_singleton.mpr rfl)))
    obtain ⟨l1, l2⟩ := hL af (List.mem_cons.mpr (Or.inl rfl))
    obtain ⟨m1, m2⟩ := hL ag (List.mem_cons.mpr (Or.inr (List.mem_singleton.mpr rfl)))
    rw [hp'] at f2 f3
    rw [hq] at g2 g3
    rw [st (by rw [ha.1]; decide), ha.2.1, ms_cho hn ha.1 ha.2.2 (by decide) (by decide) (by decide) (by decide) (by decide), if_pos rfl]
    obtain ⟨τ, t1, t2, t3⟩ := m_cho f1 g1 f2 g2 l1 l2 m1 m2 1
    rw [if_neg (by decide)] at t2
    refine ⟨τ, by rw [t1]; rfl, ?_, t3⟩
    show mS τ (sLLes (V af) (V ag) (L af) (L ag))
    rw [hp', hq]
    exact t2
  | 12, ha, hV, hL, hc, hp =>
    obtain ⟨f1, f2, f3, p, hp'⟩ := hV af (List.mem_cons.mpr (Or.inl rfl))
    obtain ⟨g1, g2, g3, q, hq⟩ := hV ag (List.mem_cons.mpr (Or.inr (List.mem_singleton.mpr rfl)))
    obtain ⟨l1, l2⟩ := hL af (List.mem_cons.mpr (Or.inl rfl))
    obtain ⟨m1, m2⟩ := hL ag (List.mem_cons.mpr (Or.inr (List.mem_singleton.mpr rfl)))
    rw [hp'] at f2 f3
    rw [hq] at g2 g3
    rw [st (by rw [ha.1]; decide), ha.2.1, ms_cho hn ha.1 ha.2.2 (by decide) (by decide) (by decide) (by decide) (by decide), if_neg (by decide)]
    obtain ⟨τ, t1, t2, t3⟩ := m_cho f1 g1 f2 g2 l1 l2 m1 m2 0
    rw [if_pos rfl] at t2
    refine ⟨τ, by rw [t1]; rfl, ?_, t3⟩
    show mS τ (sLLes (V ag) (V af) (L af) (L ag))
    rw [hp', hq]
    exact t2
  | 13, ha, hV, hL, hc, hp =>
    obtain ⟨f1, f2, f3, p, hp'⟩ := hV af (List.mem_cons.mpr (Or.inl rfl))
    obtain ⟨g1, g2, g3, q, hq⟩ := hV ag (List.mem_cons.mpr (Or.inr (List.mem_singleton.mpr rfl)))
    obtain ⟨l1, l2⟩ := hL af (List.mem_cons.mpr (Or.inl rfl))
    obtain ⟨m1, m2⟩ := hL ag (List.mem_cons.mpr (Or.inr (List.mem_singleton.mpr rfl)))
    rw [hp'] at f2 f3
    rw [hq] at g2 g3
    rw [st (by rw [ha.1]; decide), ha.2.1, ms_two hn f1 g1 ha.1 ha.2.2 (by decide) (by decide) (by decide) (by decide) (by decide)]
    have vg := vin (iNt (n := ag) (by omega)) g1
    have cg := iN_cl (n := ag) (by omega)
    show ∃ τ, _ = some τ ∧ mS τ (sPlus (L af) (L ag)) ∧ mEq σ τ
    refine two_endL (S := sPlus) (fun u => by cases u <;> rfl) (fun u => by cases u <;> rfl) l1 l2 m1 m2 (fun q1 q2 => ?_)
    obtain ⟨τ, t1, t2, t3, -⟩ := m_is (gl σ 74 af + gl σ 74 ag) (gl σ 75 af + gl σ 75 ag) σ
    rw [qL_add (by omega) (by omega), qL_add (by omega) (by omega)] at t2
    refine ⟨τ, ?_, t2, t3⟩
    show (zg (vp_in (Int32.ofNat ag) 480) <| zg (vp_in (Int32.ofNat ag) 480) <| bd1 (fX9_is (gl σ 74 af + gl σ 74 (Int32.ofNat ag).toNatClampNeg) (gl σ 75 af + gl σ 75 (Int32.ofNat ag).toNatClampNeg) σ) fun s => some s) = _
    rw [zg_pos vg, zg_pos vg, cg, t1]; rfl
  | 14, ha, hV, hL, hc, hp =>
    obtain ⟨f1, f2, f3, p, hp'⟩ := hV af (List.mem_cons.mpr (Or.inl rfl))
    obtain ⟨g1, g2, g3, q, hq⟩ := hV ag (List.mem_cons.mpr (Or.inr (List.mem_singleton.mpr rfl)))
    obtain ⟨l1, l2⟩ := hL af (List.mem_cons.mpr (Or.inl rfl))
    obtain ⟨m1, m2⟩ := hL ag (List.mem_cons.mpr (Or.inr (List.mem_singleton.mpr rfl)))
    rw [hp'] at f2 f3
    rw [hq] at g2 g3
    rw [st (by rw [ha.1]; decide), ha.2.1, ms_two hn f1 g1 ha.1 ha.2.2 (by decide) (by decide) (by decide) (by decide) (by decide)]
    have vg := vin (iNt (n := ag) (by omega)) g1
    have cg := iN_cl (n := ag) (by omega)
    show ∃ τ, _ = some τ ∧ mS τ (sMinus (L af) (L ag)) ∧ mEq σ τ
    refine two_endL (S := sMinus) (fun u => by cases u <;> rfl) (fun u => by cases u <;> rfl) l1 l2 m1 m2 (fun q1 q2 => ?_)
    obtain ⟨τ, t1, t2, t3, -⟩ := m_is (gl σ 74 af - gl σ 75 ag) (gl σ 75 af - gl σ 74 ag) σ
    rw [qL_sub (by omega) (by omega), qL_sub (by omega) (by omega)] at t2
    refine ⟨τ, ?_, t2, t3⟩
    show (zg (vp_in (Int32.ofNat ag) 480) <| zg (vp_in (Int32.ofNat ag) 480) <| bd1 (fX9_is (gl σ 74 af - gl σ 75 (Int32.ofNat ag).toNatClampNeg) (gl σ 75 af - gl σ 74 (Int32.ofNat ag).toNatClampNeg) σ) fun s => some s) = _
    rw [zg_pos vg, zg_pos vg, cg, t1]; rfl
  | 15, ha, hV, hL, hc, hp =>
    obtain ⟨f1, f2, f3, p, hp'⟩ := hV af (List.mem_cons.mpr (Or.inl rfl))
    obtain ⟨g1, g2, g3, q, hq⟩ := hV ag (List.mem_cons.mpr (Or.inr (List.mem_singleton.mpr rfl)))
    obtain ⟨l1, l2⟩ := hL af (List.mem_cons.mpr (Or.inl rfl))
    obtain ⟨m1, m2⟩ := hL ag (List.mem_cons.mpr (Or.inr (List.mem_singleton.mpr rfl)))
    rw [hp'] at f2 f3
    rw [hq] at g2 g3
    rw [st (by rw [ha.1]; decide), ha.2.1, ms_two hn f1 g1 ha.1 ha.2.2 (by decide) (by decide) (by decide) (by decide) (by decide)]
    have vg := vin (iNt (n := ag) (by omega)) g1
    have cg := iN_cl (n := ag) (by omega)
    show ∃ τ, _ = some τ ∧ mS τ (sPlus (sTimes (L af) (V ag)) (sTimes (V af) (L ag))) ∧ mEq σ τ
    rw [hp', hq]
    refine two_end3 (S := (fun s t => sPlus (sTimes s (some q)) (sTimes (some p) t))) (fun u => by show sPlus (sTimes none _) _ = none; rw [sTimes_n, sPlus_n]) (fun u => by show sPlus _ (sTimes _ none) = none; rw [sTimes_r, sPlus_r]) l1 l2 m1 m2 (fun s0 t0 => ?_)
    obtain ⟨τ, t1, t2, t3⟩ := m_prod hn f1 g1 f2 g2 f3 g3 l1 m1 l2 m2 s0 t0 ha.1
    rw [if_pos rfl] at t2
    exact ⟨τ, by show bd1 (fX9_products _ _ _ _) _ = _; rw [t1]; rfl, t2, t3⟩
  | m + 16, ha, hV, hL, hc, hp =>
    obtain ⟨f1, f2, f3, p, hp'⟩ := hV af (List.mem_cons.mpr (Or.inl rfl))
    obtain ⟨g1, g2, g3, q, hq⟩ := hV ag (List.mem_cons.mpr (Or.inr (List.mem_singleton.mpr rfl)))
    obtain ⟨l1, l2⟩ := hL af (List.mem_cons.mpr (Or.inl rfl))
    obtain ⟨m1, m2⟩ := hL ag (List.mem_cons.mpr (Or.inr (List.mem_singleton.mpr rfl)))
    rw [hp'] at f2 f3
    rw [hq] at g2 g3
    rw [st (by rw [ha.1]; decide), ha.2.1, ms_two hn f1 g1 ha.1 ha.2.2 (by decide) (by decide) (by decide) (by decide) (by decide)]
    have vg := vin (iNt (n := ag) (by omega)) g1
    have cg := iN_cl (n := ag) (by omega)
    show ∃ τ, _ = some τ ∧ mS τ (sOver (sMinus (sTimes (L af) (V ag)) (sTimes (V af) (L ag))) (sPow (V ag) 1)) ∧ mEq σ τ
    rw [hp', hq]
    refine two_end3 (S := (fun s t => sOver (sMinus (sTimes s (some q)) (sTimes (some p) t)) (sPow (some q) 1))) (fun u => by show sOver (sMinus (sTimes none _) _) _ = none; rw [sTimes_n, sMinus_n, sOver_n]) (fun u => by show sOver (sMinus _ (sTimes _ none)) _ = none; rw [sTimes_r, sMinus_r, sOver_n]) l1 l2 m1 m2 (fun s0 t0 => ?_)
    obtain ⟨τ, t1, t2, t3⟩ := m_prod hn f1 g1 f2 g2 f3 g3 l1 m1 l2 m2 s0 t0 ha.1
    rw [if_neg (by decide)] at t2
    exact ⟨τ, by show bd1 (fX9_products _ _ _ _) _ = _; rw [t1]; rfl, t2, t3⟩
