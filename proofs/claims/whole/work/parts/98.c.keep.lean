/-! a CURVE is kept: what is told of it -/
theorem xT_k {κ : Int32} {dt : Int64} {lf : Int32} {k : Nat} {a : qAct} (h : xT κ dt lf k a) : κ = Int32.ofNat (min a.1 16) := by
  obtain ⟨t, f, g, s⟩ := a
  match t, h with
  | 0, h => exact h
  | 1, h => exact h.1
  | 2, h => exact h.1
  | 3, h => exact h
  | 4, h => exact h.1
  | 5, h => exact h
  | 6, h => exact h
  | 7, h => exact h
  | 8, h => exact h
  | 9, h => exact h
  | 10, h => exact h
  | 11, h => exact h.1
  | 12, h => exact h.1
  | 13, h => exact h.1
  | 14, h => exact h.1
  | 15, h => exact h.1
  | m + 16, h =>
    rw [show min (m + 16, f, g, s).1 16 = 16 from Nat.min_eq_right (by show 16 ≤ m + 16; omega)]
    exact h.1
theorem xT_2 {κ : Int32} {dt : Int64} {lf : Int32} {k : Nat} {a : qAct} (h : xT κ dt lf k a) (e : a.1 = 2) : dt.toInt = a.2.1 := by
  obtain ⟨t, f, g, s⟩ := a
  replace e : t = 2 := e
  subst e
  exact h.2
theorem x_degreeOf {C : qCfg} {N j : Nat} (hN : N ≤ 7) (hj : j < 60) {i : Int32} (hi : i.toInt = (j : Nat)) {σ : zSt} {a : qAct} (hx : xT (gi σ (21 + 4 * N + 1) j) (gl σ (21 + 4 * N + 2) j) (gi σ (21 + 4 * N + 3) j) N a) (ho : actOk C N j a) {V : Nat → Int} (hv : ∀ j', j' < j → (gi σ 8 j').toInt = V (60 * N + j')) (hb : ∀ m, m ∈ qOps a → -1 ≤ V m ∧ V m ≤ 1000) (hc : a.1 = 2 → (gi σ (21 + 4 * a.2.1) 5).toInt = V a.2.2.1) : ∃ r, fX1_degreeOf N i σ = some r ∧ r.toInt = dAct V a := by
  obtain ⟨lf, l1, l2⟩ := x_left (show N < 10 by omega) i σ
  obtain ⟨f, f1, f2⟩ := x_deg lf σ
  obtain ⟨g, g1, g2⟩ := x_deg (i - 1) σ
  obtain ⟨d, d1, d2⟩ := x_detail (show N < 10 by omega) i σ
  obtain ⟨kd, k1, k2⟩ := x_kind (show N < 10 by omega) i σ
  have l3 := l2 j hi hj
  have d3 := d2 j hi hj
  have k3 := k2 j hi hj
  have e1000 : (1000 : Int32).toInt = 1000 := by decide
  unfold fX1_degreeOf
  rw [zg_pos (show N < 10 by omega)]
  unfold fX1_degreeOf_0
  rw [l1, bd1_some, f1, bd1_some, g1, bd1_some, k1, bd1_some]
  have hg : ∀ m, unOk N j m → g.toInt = V m := by
    intro m hm
    obtain ⟨h1, h2⟩ := hm
    have : g = gi σ 8 (j - 1) := g2 (j - 1) (by rw [qI_sub (by rw [q1I]; omega) (by rw [q1I]; omega), q1I]; omega) (by omega)
    rw [this, h2]
    have := hv (j - 1) (by omega)
    rw [show 60 * N + (j - 1) = 60 * N + j - 1 by omega] at this
    exact this
  have hfg : ∀ m p, biOk N j m p → (gi σ (21 + 4 * N + 3) j).toInt + 60 * N = (m : Nat) → f.toInt = V m ∧ g.toInt = V p := by
    intro m p hm he
    obtain ⟨h1, l, h2, h3⟩ := hm
    refine ⟨?_, hg p ⟨by omega, h1⟩⟩
    have : f = gi σ 8 l := f2 l (by rw [l3]; omega) (by omega)
    rw [this, h3]
    exact hv l (by omega)
  obtain ⟨t, af, ag, an⟩ := a
  match t, hx, ho, hb, hc with
  | 0, hx, ho, hb, hc =>
    rw [show kd = 0 from k3.trans hx]
    exact ⟨_, rfl, q1I⟩
  | 1, hx, ho, hb, hc =>
    rw [show kd = 1 from k3.trans hx.1]
    exact ⟨_, rfl, q0I⟩
  | 2, hx, ho, hb, hc =>
    rw [show kd = 2 from k3.trans hx.1]
    have i1 : af < N := ho.1
    have e : (Int64.toInt32 d).toInt = (af : Nat) := l_narrow (by rw [d3]; exact hx.2) (by omega)
    have ec : fX1_curveAt (Int64.toInt32 d) = some af := by rw [iN_of e]; exact x_curveAt (by omega)
    refine ⟨gi σ (21 + 4 * af) 5, ?_, hc rfl⟩
    show (bd1 (fX0_detailAt N i σ) fun r111_8 => bd1 (fX1_curveAt (Int64.toInt32 r111_8)) fun r115_9 => zg (r115_9 < 10) <| some (gi σ (21 + 4 * r115_9) 5)) = _
    rw [d1, bd1_some, ec, bd1_some, zg_pos (by omega)]
  | 3, hx, ho, hb, hc =>
    rw [show kd = 3 from k3.trans hx]
    exact ⟨_, rfl, hg ag ho⟩
  | 4, hx, ho, hb, hc =>
    rw [show kd = 4 from k3.trans hx.1]
    have gv := hg ag ho.1
    have b := hb ag (List.mem_singleton.mpr rfl)
    have h8 : af ≤ 8 := ho.2
    have hd : d.toInt = ((af + 1 : Nat) : Int) := by rw [d3, hx.2]; omega
    have e := l_narrow hd (by omega)
    show ∃ r, (if g = (-1 : Int32) then some (-1 : Int32) else bd1 (fX0_detailAt N i σ) fun r142_13 => nm (if (g * (Int64.toInt32 r142_13)) < (1000 : Int32) then (g * (Int64.toInt32 r142_13)) else (1000 : Int32)) fun x147_14 => some x147_14) = some r ∧ r.toInt = (if V ag = -1 then (-1 : Int) else min 1000 (V ag * (af + 1)))
    by_cases q : V ag = -1
    · rw [if_pos q, if_pos (show g = -1 by rw [qI_eq, gv, eM1]; exact q)]
      exact ⟨_, rfl, eM1⟩
    · rw [if_neg q, if_neg (show ¬ g = -1 by rw [qI_eq, gv, eM1]; exact q), d1, bd1_some, nm_eq]
      have p1 : V ag * (af + 1) ≤ 1000 * (af + 1) := Int.mul_le_mul_of_nonneg_right b.2 (by omega)
      have p2 : 0 ≤ V ag * (af + 1) := Int.mul_nonneg (by omega) (by omega)
      have em : (g * Int64.toInt32 d).toInt = V ag * (af + 1) := by
        have e' : (Int64.toInt32 d).toInt = (af : Int) + 1 := by rw [e]; omega
        rw [Int32.toInt_mul, gv, e', Int.bmod_eq_of_le (by omega) (by omega)]
      by_cases w : g * Int64.toInt32 d < 1000
      · rw [if_pos w]
        rw [qI_lt, em, e1000] at w
        exact ⟨_, rfl, by rw [em]; omega⟩
      · rw [if_neg w]
        rw [qI_lt, em, e1000] at w
        exact ⟨_, rfl, by rw [e1000]; omega⟩
  | 5, hx, ho, hb, hc =>
    rw [show kd = 5 from k3.trans hx]
    exact ⟨_, rfl, eM1⟩
  | 6, hx, ho, hb, hc =>
    rw [show kd = 6 from k3.trans hx]
    exact ⟨_, rfl, eM1⟩
  | 7, hx, ho, hb, hc =>
    rw [show kd = 7 from k3.trans hx]
    exact ⟨_, rfl, eM1⟩
  | 8, hx, ho, hb, hc =>
    rw [show kd = 8 from k3.trans hx]
    exact ⟨_, rfl, eM1⟩
  | 9, hx, ho, hb, hc =>
    rw [show kd = 9 from k3.trans hx]
    exact ⟨_, rfl, eM1⟩
  | 10, hx, ho, hb, hc =>
    rw [show kd = 10 from k3.trans hx]
    exact ⟨_, rfl, eM1⟩
  | 11, hx, ho, hb, hc =>
    rw [show kd = 11 from k3.trans hx.1]
    exact ⟨_, rfl, eM1⟩
  | 12, hx, ho, hb, hc =>
    rw [show kd = 12 from k3.trans hx.1]
    exact ⟨_, rfl, eM1⟩
  | 13, hx, ho, hb, hc =>
    rw [show kd = 13 from k3.trans hx.1]
    obtain ⟨fv, gv⟩ := hfg af ag ho hx.2
    show ∃ r, (if f = (-1 : Int32) then some (-1 : Int32) else (if g = (-1 : Int32) then some (-1 : Int32) else some (if f < g then g else f))) = some r ∧ r.toInt = (if V af = -1 ∨ V ag = -1 then (-1 : Int) else max (V af) (V ag))
    by_cases q : V af = -1
    · rw [if_pos (Or.inl q), if_pos (show f = -1 by rw [qI_eq, fv, eM1]; exact q)]
      exact ⟨_, rfl, eM1⟩
    rw [if_neg (show ¬ f = -1 by rw [qI_eq, fv, eM1]; exact q)]
    by_cases q2 : V ag = -1
    · rw [if_pos (Or.inr q2), if_pos (show g = -1 by rw [qI_eq, gv, eM1]; exact q2)]
      exact ⟨_, rfl, eM1⟩
    rw [if_neg (show ¬ g = -1 by rw [qI_eq, gv, eM1]; exact q2), if_neg (show ¬ (V af = -1 ∨ V ag = -1) by omega)]
    by_cases w : f < g
    · rw [if_pos w]
      rw [qI_lt, fv, gv] at w
      exact ⟨_, rfl, by rw [gv]; omega⟩
    · rw [if_neg w]
      rw [qI_lt, fv, gv] at w
      exact ⟨_, rfl, by rw [fv]; omega⟩
  | 14, hx, ho, hb, hc =>
    rw [show kd = 14 from k3.trans hx.1]
    obtain ⟨fv, gv⟩ := hfg af ag ho hx.2
    show ∃ r, (if f = (-1 : Int32) then some (-1 : Int32) else (if g = (-1 : Int32) then some (-1 : Int32) else some (if f < g then g else f))) = some r ∧ r.toInt = (if V af = -1 ∨ V ag = -1 then (-1 : Int) else max (V af) (V ag))
    by_cases q : V af = -1
    · rw [if_pos (Or.inl q), if_pos (show f = -1 by rw [qI_eq, fv, eM1]; exact q)]
      exact ⟨_, rfl, eM1⟩
    rw [if_neg (show ¬ f = -1 by rw [qI_eq, fv, eM1]; exact q)]
    by_cases q2 : V ag = -1
    · rw [if_pos (Or.inr q2), if_pos (show g = -1 by rw [qI_eq, gv, eM1]; exact q2)]
      exact ⟨_, rfl, eM1⟩
    rw [if_neg (show ¬ g = -1 by rw [qI_eq, gv, eM1]; exact q2), if_neg (show ¬ (V af = -1 ∨ V ag = -1) by omega)]
    by_cases w : f < g
    · rw [if_pos w]
      rw [qI_lt, fv, gv] at w
      exact ⟨_, rfl, by rw [gv]; omega⟩
    · rw [if_neg w]
      rw [qI_lt, fv, gv] at w
      exact ⟨_, rfl, by rw [fv]; omega⟩
  | 15, hx, ho, hb, hc =>
    rw [show kd = 15 from k3.trans hx.1]
    obtain ⟨fv, gv⟩ := hfg af ag ho hx.2
    have bf := hb af (List.mem_cons.mpr (Or.inl rfl))
    have bg := hb ag (List.mem_cons.mpr (Or.inr (List.mem_singleton.mpr rfl)))
    show ∃ r, (if f = (-1 : Int32) then some (-1 : Int32) else (if g = (-1 : Int32) then some (-1 : Int32) else nm (if (f + g) < (1000 : Int32) then (f + g) else (1000 : Int32)) fun x195_24 => some x195_24)) = some r ∧ r.toInt = (if V af = -1 ∨ V ag = -1 then (-1 : Int) else min 1000 (V af + V ag))
    by_cases q : V af = -1
    · rw [if_pos (Or.inl q), if_pos (show f = -1 by rw [qI_eq, fv, eM1]; exact q)]
      exact ⟨_, rfl, eM1⟩
    rw [if_neg (show ¬ f = -1 by rw [qI_eq, fv, eM1]; exact q)]
    by_cases q2 : V ag = -1
    · rw [if_pos (Or.inr q2), if_pos (show g = -1 by rw [qI_eq, gv, eM1]; exact q2)]
      exact ⟨_, rfl, eM1⟩
    have em : (f + g).toInt = V af + V ag := by rw [qI_add (by omega) (by omega), fv, gv]
    rw [if_neg (show ¬ g = -1 by rw [qI_eq, gv, eM1]; exact q2), if_neg (show ¬ (V af = -1 ∨ V ag = -1) by omega), nm_eq]
    by_cases w : f + g < 1000
    · rw [if_pos w]
      rw [qI_lt, em, e1000] at w
      exact ⟨_, rfl, by rw [em]; omega⟩
    · rw [if_neg w]
      rw [qI_lt, em, e1000] at w
      exact ⟨_, rfl, by rw [e1000]; omega⟩
  | m + 16, hx, ho, hb, hc =>
    rw [show kd = 16 from k3.trans hx.1]
    exact ⟨_, rfl, eM1⟩
def kpF (N : Nat) (σ1 σ : zSt) : Prop := (∀ c i, ¬ ((c = 21 + 4 * N ∧ 4 ≤ i ∧ i ≤ 6) ∨ c = 8) → gi σ c i = gi σ1 c i) ∧ ∀ c i, gl σ c i = gl σ1 c i
theorem kpF.si {N : Nat} {σ1 σ : zSt} (h : kpF N σ1 σ) {c i : Nat} {v : Int32} (hc : (c = 21 + 4 * N ∧ 4 ≤ i ∧ i ≤ 6) ∨ c = 8) : kpF N σ1 (si σ c i v) := ⟨fun c' i' q => by
  rw [gi_si, if_neg (fun e => q (by rw [e.1, e.2]; exact hc))]; exact h.1 c' i' q, fun c' i' => by rw [gl_si]; exact h.2 c' i'⟩
def kpE (C : qCfg) (M : Nat → Nat) (D : Nat → Int) (S : Nat → Bool) (A : Nat → qAct) (d : Nat) (σ1 : zSt) : Prop := C.N ≤ 7 ∧ d ≤ 60 ∧ gi σ1 (21 + 4 * C.N) 3 = Int32.ofNat d ∧ gi σ1 3 8 = Int32.ofNat C.N ∧ (∀ j, j < d → actOk C C.N j (A j) ∧ xT (gi σ1 (21 + 4 * C.N + 1) j) (gl σ1 (21 + 4 * C.N + 2) j) (gi σ1 (21 + 4 * C.N + 3) j) C.N (A j)) ∧ (∀ k, k < C.N → gi σ1 (21 + 4 * k) 4 = (if S k then 1 else 0) ∧ (gi σ1 (21 + 4 * k) 5).toInt = D (qLast C k) ∧ gi σ1 (21 + 4 * k) 6 = Int32.ofNat (M k) ∧ M k < 256) ∧ (∀ j, j < d → D (60 * C.N + j) = dAct D (A j)) ∧ ∀ j, j < d → ∀ m, m ∈ qOps (A j) → -1 ≤ D m ∧ D m ≤ 1000
def kpS (S : Nat → Bool) (A : Nat → qAct) (N v : Nat) (σ : zSt) : Prop := (gi σ (21 + 4 * N) 4 = 1 ∧ ∀ j, j < v → okA S (A j)) ∨ (gi σ (21 + 4 * N) 4 = 0 ∧ ¬ ∀ j, j < v → okA S (A j))
def kpN (M : Nat → Nat) (A : Nat → qAct) (N v : Nat) (σ : zSt) : Prop := ∃ μ, μ < 256 ∧ gi σ (21 + 4 * N) 6 = Int32.ofNat μ ∧ ∀ i, μ.testBit i = true ↔ ∃ j, j < v ∧ (A j).1 = 2 ∧ (i = (A j).2.1 ∨ (M (A j).2.1).testBit i = true)
def kpD (D : Nat → Int) (N v : Nat) (σ : zSt) : Prop := ∀ j, j < v → (gi σ 8 j).toInt = D (60 * N + j)
def kpP (C : qCfg) (M : Nat → Nat) (D : Nat → Int) (S : Nat → Bool) (A : Nat → qAct) (σ1 : zSt) (v : Nat) (K : Nat → Int32 → zSt → Option (Int32 × zSt)) (X : Option (Int32 × zSt)) : Prop := ∃ σ', X = K C.N (Int32.ofNat (v + 1)) σ' ∧ kpF C.N σ1 σ' ∧ kpS S A C.N (v + 1) σ' ∧ kpN M A C.N (v + 1) σ' ∧ kpD D C.N (v + 1) σ' ∧ (gi σ' (21 + 4 * C.N) 5).toInt = D (60 * C.N + v)
theorem kp_144 {C : qCfg} {M : Nat → Nat} {D : Nat → Int} {S : Nat → Bool} {A : Nat → qAct} {d : Nat} {σ1 : zSt} (hE : kpE C M D S A d σ1) {v : Nat} (hv : v < d) {σ : zSt} (hF : kpF C.N σ1 σ) (h1 : kpS S A C.N (v + 1) σ) (h2 : kpN M A C.N (v + 1) σ) (h3 : kpD D C.N v σ) (K : Nat → Int32 → zSt → Option (Int32 × zSt)) : kpP C M D S A σ1 v K (fX1_keep_144 K C.N (Int32.ofNat v) σ) := by
  obtain ⟨c1, c2, c3, c4, c5, c6, c7, c8⟩ := hE
  obtain ⟨o, x⟩ := c5 v hv
  have vv := vin (N := 60) (iNt (n := v) (by omega)) (by omega)
  obtain ⟨r, r1, r2⟩ := x_degreeOf (C := C) (i := Int32.ofNat v) (a := A v) c1 (show v < 60 by omega) (iNt (by omega)) (σ := σ) (by rw [hF.1 _ _ (by omega), hF.2, hF.1 _ _ (by omega)]; exact x) o (V := D) h3 (c8 v hv) (fun q => by
    obtain ⟨b1, b2, -⟩ := cur_ok o q
    rw [hF.1 _ _ (by omega), (c6 _ b1).2.1, b2])
  unfold fX1_keep_144
  rw [r1, bd1_some, zg_pos vv, zg_pos vv, nm_eq, iN_s (by omega), iN_cl (n := v) (by omega)]
  refine ⟨_, rfl, (hF.si (by omega)).si (by omega), ?_, ?_, fun j hj => ?_, ?_⟩
  · unfold kpS
    rw [gi_si, if_neg (by omega), gi_si, if_neg (by omega)]; exact h1
  · unfold kpN
    rw [gi_si, if_neg (by omega), gi_si, if_neg (by omega)]; exact h2
  · rw [gi_si, if_neg (by omega), gi_si]
    by_cases q : j = v
    · rw [if_pos ⟨rfl, q⟩, r2, q, c7 v hv]
    · rw [if_neg (by omega)]; exact h3 j (by omega)
  · rw [gi_si, if_pos (by omega), r2, c7 v hv]
theorem kpS_same {S : Nat → Bool} {A : Nat → qAct} {N v : Nat} {σ : zSt} (h : kpS S A N v σ) (ha : okA S (A v)) : kpS S A N (v + 1) σ := by
  rcases h with ⟨a, b⟩ | ⟨a, b⟩
  · exact Or.inl ⟨a, fun j hj => by
      by_cases q : j = v
      · rw [q]; exact ha
      · exact b j (by omega)⟩
  · exact Or.inr ⟨a, fun g => b fun j hj => g j (by omega)⟩
theorem kpN_same {M : Nat → Nat} {A : Nat → qAct} {N v : Nat} {σ : zSt} (h : kpN M A N v σ) (ha : ¬ (A v).1 = 2) : kpN M A N (v + 1) σ := by
  obtain ⟨μ, a, b, c⟩ := h
  refine ⟨μ, a, b, fun i => ⟨fun g => ?_, fun g => ?_⟩⟩
  · obtain ⟨j, j1, j2⟩ := (c i).mp g
    exact ⟨j, by omega, j2⟩
  · obtain ⟨j, j1, j2, j3⟩ := g
    have : j ≠ v := fun e => ha (by rw [← e]; exact j2)
    exact (c i).mpr ⟨j, by omega, j2, j3⟩
theorem kp_26 {C : qCfg} {M : Nat → Nat} {D : Nat → Int} {S : Nat → Bool} {A : Nat → qAct} {d : Nat} {σ1 : zSt} (hE : kpE C M D S A d σ1) {v : Nat} (hv : v < d) {σ : zSt} (hF : kpF C.N σ1 σ) (h1 : kpS S A C.N v σ) (h2 : kpN M A C.N v σ) (h3 : kpD D C.N v σ) (K : Nat → Int32 → zSt → Option (Int32 × zSt)) : kpP C M D S A σ1 v K (fX1_keep_26 K C.N (Int32.ofNat v) σ) := by
  have hE' := hE
  obtain ⟨c1, c2, c3, c4, c5, c6, c7, c8⟩ := hE
  obtain ⟨o, x⟩ := c5 v hv
  have vv := vin (N := 60) (iNt (n := v) (by omega)) (by omega)
  obtain ⟨t, ht⟩ : ∃ t, t = (A v).1 := ⟨_, rfl⟩
  obtain ⟨w, w0, w1, w2, kd⟩ : ∃ w : Nat, w ≤ 16 ∧ (t ≤ 16 → w = t) ∧ (16 < t → w = 16) ∧ gi σ1 (21 + 4 * C.N + 1) v = Int32.ofNat w := ⟨min t 16, Nat.min_le_right _ _, fun h => Nat.min_eq_left h, fun h => Nat.min_eq_right (Nat.le_of_lt h), by rw [ht]; exact xT_k x⟩
  have ek := iNt (n := w) (by omega)
  have e10 : (10 : Int32).toInt = 10 := by decide
  have e11 : (11 : Int32).toInt = 11 := by decide
  have e12 : (12 : Int32).toInt = 12 := by decide
  have e2i : (2 : Int32).toInt = 2 := by decide
  unfold fX1_keep_26
  rw [hF.1 (21 + 4 * C.N) 3 (by omega), c3, if_neg (show ¬ Int32.ofNat d ≤ Int32.ofNat v by rw [qI_le, iNt (by omega), iNt (by omega)]; omega), if_neg (show ¬ (60 : Int32) ≤ Int32.ofNat v by rw [qI_le, e60I, iNt (by omega)]; omega), zg_pos vv, iN_cl (n := v) (by omega), nm_eq, hF.1 (21 + 4 * C.N + 1) v (by omega), kd]
  have off : (10 ≤ t ∧ t ≤ 12) → kpP C M D S A σ1 v K (fX1_keep_144 K C.N (Int32.ofNat v) (si σ (21 + 4 * C.N) 4 (0 : Int32))) := fun q => by
    refine kp_144 hE' hv (hF.si (by omega)) (Or.inr ⟨by rw [gi_si, if_pos (by omega)], fun g => (g v (by omega)).1 (by rw [← ht]; exact q)⟩) ?_ (fun j hj => by rw [gi_si, if_neg (by omega)]; exact h3 j hj) K
    have := kpN_same h2 (show ¬ (A v).1 = 2 by rw [← ht]; omega)
    unfold kpN
    rw [gi_si, if_neg (by omega)]
    exact this
  by_cases q10 : t = 10
  · rw [if_pos (show Int32.ofNat w = 10 by rw [qI_eq, ek, e10]; omega)]; exact off (by omega)
  rw [if_neg (show ¬ Int32.ofNat w = 10 by rw [qI_eq, ek, e10]; omega)]
  by_cases q11 : t = 11
  · rw [if_pos (show Int32.ofNat w = 11 by rw [qI_eq, ek, e11]; omega)]; exact off (by omega)
  rw [if_neg (show ¬ Int32.ofNat w = 11 by rw [qI_eq, ek, e11]; omega)]
  by_cases q12 : t = 12
  · rw [if_pos (show Int32.ofNat w = 12 by rw [qI_eq, ek, e12]; omega)]; exact off (by omega)
  rw [if_neg (show ¬ Int32.ofNat w = 12 by rw [qI_eq, ek, e12]; omega)]
  by_cases q2 : t = 2
  · rw [if_pos (show Int32.ofNat w = 2 by rw [qI_eq, ek, e2i]; omega)]
    obtain ⟨i1, -, -⟩ := cur_ok o (ht.symm.trans q2)
    obtain ⟨c, hc⟩ : ∃ c, c = (A v).2.1 := ⟨_, rfl⟩
    rw [← hc] at i1
    obtain ⟨g1, g2, g3, g4⟩ := c6 c i1
    have dt : (gl σ (21 + 4 * C.N + 2) v).toInt = (c : Nat) := by
      rw [hF.2, hc]
      exact xT_2 x (ht.symm.trans q2)
    have ei : Int64.toInt32 (gl σ (21 + 4 * C.N + 2) v) = Int32.ofNat c := iN_of (l_narrow dt (by omega))
    obtain ⟨μ, m1, m2, m3⟩ := h2
    have nd : ∀ u : Int32, kpN M A C.N (v + 1) (si (si σ (21 + 4 * C.N) 4 u) (21 + 4 * C.N) 6 (Int32.ofNat (μ ||| (M c ||| 2 ^ c)))) := fun u => by
      have lt1 : M c ||| 2 ^ c < 256 := Nat.or_lt_two_pow (n := 8) g4 (Nat.pow_lt_pow_right (by omega) (by omega))
      refine ⟨_, Nat.or_lt_two_pow (n := 8) m1 lt1, by rw [gi_si, if_pos (by omega)], fun i => ?_⟩
      rw [Nat.testBit_or, Nat.testBit_or, Nat.testBit_two_pow, Bool.or_eq_true, Bool.or_eq_true, decide_eq_true_iff, m3 i]
      refine ⟨fun g => ?_, fun g => ?_⟩
      · rcases g with ⟨j, j1, j2⟩ | g | g
        · exact ⟨j, by omega, j2⟩
        · exact ⟨v, by omega, by rw [← ht]; exact q2, Or.inr (by rw [← hc]; exact g)⟩
        · exact ⟨v, by omega, by rw [← ht]; exact q2, Or.inl (by rw [← hc]; exact g.symm)⟩
      · obtain ⟨j, j1, j2, j3⟩ := g
        by_cases e : j = v
        · rw [e, ← hc] at j3
          rcases j3 with j3 | j3
          · exact Or.inr (Or.inr j3.symm)
          · exact Or.inr (Or.inl j3)
        · exact Or.inl ⟨j, by omega, j2, j3⟩
    have ex : Int32.ofNat μ ||| (Int32.ofNat (M c) ||| jshlI 1 (Int32.ofNat c)) = Int32.ofNat (μ ||| (M c ||| 2 ^ c)) := by
      rw [msk_or _ g4 c (by omega), i_or]
    have go : ∀ u : Int32, kpS S A C.N (v + 1) (si (si σ (21 + 4 * C.N) 4 u) (21 + 4 * C.N) 6 (Int32.ofNat (μ ||| (M c ||| 2 ^ c)))) → kpP C M D S A σ1 v K (fX1_keep_144 K C.N (Int32.ofNat v) (si (si σ (21 + 4 * C.N) 4 u) (21 + 4 * C.N) 6 (Int32.ofNat (μ ||| (M c ||| 2 ^ c))))) := fun u hs => kp_144 hE' hv ((hF.si (by omega)).si (by omega)) hs (nd u) (fun j hj => by rw [gi_si, if_neg (by omega), gi_si, if_neg (by omega)]; exact h3 j hj) K
    have k6 : ∀ w : Int32, gi (si σ (21 + 4 * C.N) 4 w) (21 + 4 * C.N) 6 = Int32.ofNat μ := fun w => by rw [gi_si, if_neg (by omega)]; exact m2
    have kc : ∀ w : Int32, gi (si σ (21 + 4 * C.N) 4 w) (21 + 4 * c) 6 = Int32.ofNat (M c) := fun w => by rw [gi_si, if_neg (by omega), hF.1 _ _ (by omega)]; exact g3
    have off2 : fX1_keep_116 K C.N (Int32.ofNat v) c C.N σ = fX1_keep_144 K C.N (Int32.ofNat v) (si (si σ (21 + 4 * C.N) 4 0) (21 + 4 * C.N) 6 (Int32.ofNat (μ ||| (M c ||| 2 ^ c)))) := by
      unfold fX1_keep_116
      rw [zg_pos vv, iN_cl (n := v) (by omega), ei, nm_eq, k6, kc, nm_eq, ex]
    rw [zg_pos vv, ei, x_curveAt (by omega), bd1_some, zg_pos (by omega), hF.1 (21 + 4 * c) 4 (by omega), g1]
    rcases h1 with ⟨s1, s2⟩ | ⟨s1, s2⟩
    · rw [s1, if_neg iNe1]
      cases hS : S c with
      | true =>
        rw [if_pos rfl, if_neg iNe1, zg_pos vv, nm_eq, k6, kc, nm_eq, ex]
        refine go 1 (Or.inl ⟨by rw [gi_si, if_neg (by omega), gi_si, if_pos (by omega)], fun j hj => ?_⟩)
        by_cases e : j = v
        · rw [e]
          exact ⟨fun g => by rw [← ht] at g; omega, fun _ => by rw [← hc]; exact hS⟩
        · exact s2 j (by omega)
      | false =>
        rw [if_neg (show ¬ false = true by decide), if_pos (show (0 : Int32) = 0 from rfl), off2]
        refine go 0 (Or.inr ⟨by rw [gi_si, if_neg (by omega), gi_si, if_pos (by omega)], fun g => ?_⟩)
        have := (g v (by omega)).2 (by rw [← ht]; exact q2)
        rw [← hc, hS] at this
        cases this
    · rw [if_pos s1, off2]
      exact go 0 (Or.inr ⟨by rw [gi_si, if_neg (by omega), gi_si, if_pos (by omega)], fun g => s2 fun j hj => g j (by omega)⟩)
  · rw [if_neg (show ¬ Int32.ofNat w = 2 by rw [qI_eq, ek, e2i]; omega)]
    exact kp_144 hE' hv hF (kpS_same h1 ⟨fun g => by rw [← ht] at g; omega, fun g => by rw [← ht] at g; exact absurd g q2⟩) (kpN_same h2 (by rw [← ht]; exact q2)) h3 K
