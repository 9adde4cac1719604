/-! the value of an ACT in the Model's rows -/
def mV (σ : zSt) (n : Nat) (s : qSh) : Prop := match s with
  | none => gi σ 76 n = 1
  | some q => gi σ 76 n = 0 ∧ (gl σ 72 n).toInt = q.1 ∧ (gl σ 73 n).toInt = q.2
def mL (σ : zSt) (n : Nat) (s : qSh) : Prop := match s with
  | none => gi σ 77 n = 1
  | some q => gi σ 77 n = 0 ∧ (gl σ 74 n).toInt = q.1 ∧ (gl σ 75 n).toInt = q.2
def mAct (σ : zSt) (n : Nat) : qAct → Prop
  | (0, _, _, _) => gi σ 64 n = 0
  | (1, _, _, s) => gi σ 64 n = 1 ∧ sOf (gl σ 67 n).toInt (gl σ 68 n).toInt = s
  | (2, i, _, _) => gi σ 64 n = 2 ∧ gi σ 65 n = Int32.ofNat i
  | (3, _, g, _) => gi σ 64 n = 3 ∧ gi σ 65 n = Int32.ofNat g
  | (4, i, g, _) => gi σ 64 n = 4 ∧ gi σ 65 n = Int32.ofNat g ∧ gi σ 66 n = Int32.ofNat (i + 1)
  | (5, _, g, _) => gi σ 64 n = 9 ∧ gi σ 65 n = Int32.ofNat g
  | (6, _, g, _) => gi σ 64 n = 10 ∧ gi σ 65 n = Int32.ofNat g
  | (7, _, g, _) => gi σ 64 n = 11 ∧ gi σ 65 n = Int32.ofNat g
  | (8, _, g, _) => gi σ 64 n = 12 ∧ gi σ 65 n = Int32.ofNat g
  | (9, _, g, _) => gi σ 64 n = 13 ∧ gi σ 65 n = Int32.ofNat g
  | (10, _, g, _) => gi σ 64 n = 14 ∧ gi σ 65 n = Int32.ofNat g
  | (11, f, g, _) => gi σ 64 n = 15 ∧ gi σ 65 n = Int32.ofNat f ∧ gi σ 66 n = Int32.ofNat g
  | (12, f, g, _) => gi σ 64 n = 16 ∧ gi σ 65 n = Int32.ofNat f ∧ gi σ 66 n = Int32.ofNat g
  | (13, f, g, _) => gi σ 64 n = 5 ∧ gi σ 65 n = Int32.ofNat f ∧ gi σ 66 n = Int32.ofNat g
  | (14, f, g, _) => gi σ 64 n = 6 ∧ gi σ 65 n = Int32.ofNat f ∧ gi σ 66 n = Int32.ofNat g
  | (15, f, g, _) => gi σ 64 n = 7 ∧ gi σ 65 n = Int32.ofNat f ∧ gi σ 66 n = Int32.ofNat g
  | (_ + 16, f, g, _) => gi σ 64 n = 8 ∧ gi σ 65 n = Int32.ofNat f ∧ gi σ 66 n = Int32.ofNat g
theorem mEq_21 (σ : zSt) (v : Int32) : mEq σ (si σ 61 21 v) := ⟨fun c k h => by rw [gi_si, if_neg (by omega)], fun _ _ _ => rfl⟩
theorem mEq.gi {σ τ : zSt} (h : mEq σ τ) {c k : Nat} (hc : c ≠ 61) : gi τ c k = gi σ c k := h.1 c k (Or.inl hc)
theorem mEq.gl {σ τ : zSt} (h : mEq σ τ) {c k : Nat} (hc : c ≠ 61) : gl τ c k = gl σ c k := h.2 c k (Or.inl hc)
theorem mV_eq {σ τ : zSt} (h : mEq σ τ) {n : Nat} {s : qSh} (hv : mV σ n s) : mV τ n s := by
  cases s with
  | none => show gi τ 76 n = 1; rw [h.gi (by omega)]; exact hv
  | some q => show gi τ 76 n = 0 ∧ (gl τ 72 n).toInt = q.1 ∧ (gl τ 73 n).toInt = q.2; rw [h.gi (by omega), h.gl (by omega), h.gl (by omega)]; exact hv
theorem mL_eq {σ τ : zSt} (h : mEq σ τ) {n : Nat} {s : qSh} (hv : mL σ n s) : mL τ n s := by
  cases s with
  | none => show gi τ 77 n = 1; rw [h.gi (by omega)]; exact hv
  | some q => show gi τ 77 n = 0 ∧ (gl τ 74 n).toInt = q.1 ∧ (gl τ 75 n).toInt = q.2; rw [h.gi (by omega), h.gl (by omega), h.gl (by omega)]; exact hv
theorem mAct_eq {σ τ : zSt} (h : mEq σ τ) {n : Nat} {a : qAct} (ha : mAct σ n a) : mAct τ n a := by
  have e1 : gi τ 64 n = gi σ 64 n := h.gi (by omega)
  have e2 : gi τ 65 n = gi σ 65 n := h.gi (by omega)
  have e3 : gi τ 66 n = gi σ 66 n := h.gi (by omega)
  have e4 : gl τ 67 n = gl σ 67 n := h.gl (by omega)
  have e5 : gl τ 68 n = gl σ 68 n := h.gl (by omega)
  rcases a with ⟨_ | _ | _ | _ | _ | _ | _ | _ | _ | _ | _ | _ | _ | _ | _ | _ | t, f, g, s⟩ <;> simp only [mAct, e1, e2, e3, e4, e5] at ha ⊢ <;> exact ha
theorem m_lastOf {k l : Nat} (hk : k < 8) {σ : zSt} (h : gi σ 63 k = Int32.ofNat l) (hl : 1 ≤ l) (h60 : l ≤ 60) : fX9_lastOf (Int32.ofNat k) σ = some (Int32.ofNat (60 * k + l - 1)) := by
  show fX9_lastOf_0 (Int32.ofNat k) σ = _
  unfold fX9_lastOf_0
  have ek := iNt (n := k) (by omega)
  have el := iNt (n := l) (by omega)
  rw [zg_pos (vin ek hk), iN_cl (by omega), h]
  have m : ((60 : Int32) * Int32.ofNat k).toInt = 60 * k := by
    rw [Int32.toInt_mul, ek, e60I, Int.bmod_eq_of_le (by omega) (by omega)]; omega
  have p : ((60 : Int32) * Int32.ofNat k + Int32.ofNat l).toInt = 60 * k + l := by rw [qI_add (by rw [m, el]; omega) (by rw [m, el]; omega), m, el]
  refine congrArg some (qI_eq.mpr ?_)
  rw [qI_sub (by rw [p, q1I]; omega) (by rw [p, q1I]; omega), p, q1I, iNt (by omega)]
  omega
theorem mv_one {n f : Nat} (hn : n < 480) (hf : f < 480) {σ : zSt} {op : Int32} (ho : gi σ 64 n = op) (h0 : ¬ op = 0) (h1 : ¬ op = 1) (h5 : op < 5 ∨ ¬ op ≤ 8) (h15 : op < 15) (lo hi : Int64) : fX9_value_34 (Int32.ofNat n) lo hi (Int32.ofNat f) σ = if gi σ 76 f = 0 then fX9_value_209 (Int32.ofNat n) (gi σ 66 n) (gl σ 72 f) (gl σ 73 f) 0 0 σ else bd1 (fX9_isHole σ) fun s => some s := by
  have vn := vin (iNt (n := n) (by omega)) hn
  have vf := vin (iNt (n := f) (by omega)) hf
  have cn := iN_cl (n := n) (by omega)
  have cf := iN_cl (n := f) (by omega)
  have k1 : ∀ x, fX9_value_109 (Int32.ofNat n) (Int32.ofNat f) x σ = if gi σ 76 f = 0 then fX9_value_209 (Int32.ofNat n) x (gl σ 72 f) (gl σ 73 f) 0 0 σ else bd1 (fX9_isHole σ) fun s => some s := by
    intro x
    unfold fX9_value_109
    rw [zg_pos vn, cn, ho, if_pos h15, zg_pos vf, cf]
    unfold fX9_value_157
    rw [zg_pos vf, cf, nm_eq, zg_pos vf, nm_eq, if_pos rfl, if_pos rfl]
  unfold fX9_value_34
  rw [zg_pos vn, cn, nm_eq, zg_pos vn, ho, if_neg h0, zg_pos vn, if_neg h1, zg_pos vn]
  by_cases q : op < 5
  · rw [if_pos q]; exact k1 _
  · rw [if_neg q, zg_pos vn, if_neg (by rcases h5 with r | r; exact absurd r q; exact r)]; exact k1 _
theorem mv_two {n f g : Nat} (hn : n < 480) (hf : f < 480) (hg : g < 480) {σ : zSt} {op : Int32} (ho : gi σ 64 n = op) (h2 : gi σ 66 n = Int32.ofNat g) (h0 : ¬ op = 0) (h1 : ¬ op = 1) (h5 : ¬ op < 5) (h15 : op ≤ 8 ∨ ¬ op < 15) (lo hi : Int64) : fX9_value_34 (Int32.ofNat n) lo hi (Int32.ofNat f) σ = if gi σ 76 f = 0 then (if gi σ 76 g = 0 then fX9_value_209 (Int32.ofNat n) (Int32.ofNat g) (gl σ 72 f) (gl σ 73 f) (gl σ 72 g) (gl σ 73 g) σ else bd1 (fX9_isHole σ) fun s => some s) else bd1 (fX9_isHole σ) fun s => some s := by
  have vn := vin (iNt (n := n) (by omega)) hn
  have vf := vin (iNt (n := f) (by omega)) hf
  have vg := vin (iNt (n := g) (by omega)) hg
  have cn := iN_cl (n := n) (by omega)
  have cf := iN_cl (n := f) (by omega)
  have cg := iN_cl (n := g) (by omega)
  have k1 : fX9_value_120 (Int32.ofNat n) (Int32.ofNat f) (Int32.ofNat g) σ = if gi σ 76 f = 0 then (if gi σ 76 g = 0 then fX9_value_209 (Int32.ofNat n) (Int32.ofNat g) (gl σ 72 f) (gl σ 73 f) (gl σ 72 g) (gl σ 73 g) σ else bd1 (fX9_isHole σ) fun s => some s) else bd1 (fX9_isHole σ) fun s => some s := by
    unfold fX9_value_120
    rw [zg_pos vf, cf, zg_pos vg, cg]
    unfold fX9_value_157
    rw [zg_pos vf, cf, nm_eq, zg_pos vf, nm_eq, if_neg (show ¬ (1 : Int32) = 0 by decide), zg_pos vg, cg, nm_eq, if_neg (show ¬ (1 : Int32) = 0 by decide), zg_pos vg]
  unfold fX9_value_34
  rw [zg_pos vn, cn, nm_eq, zg_pos vn, ho, if_neg h0, zg_pos vn, if_neg h1, zg_pos vn, if_neg h5, zg_pos vn, h2]
  by_cases q : op ≤ 8
  · rw [if_pos q]; exact k1
  · rw [if_neg q]
    unfold fX9_value_109
    rw [zg_pos vn, cn, ho, if_neg (by rcases h15 with r | r; exact absurd r q; exact r)]; exact k1
theorem one_end {S : qSh → qSh} (hS : S none = none) {σ : zSt} {g : Nat} {s : qSh} (hv : mV σ g s) (hq : qOk s) {B : Option zSt} (hB : -2147483648 ≤ (gl σ 72 g).toInt ∧ (gl σ 72 g).toInt ≤ (gl σ 73 g).toInt → (gl σ 73 g).toInt ≤ 2147483647 → ∃ τ, B = some τ ∧ mS τ (S (some ((gl σ 72 g).toInt, (gl σ 73 g).toInt))) ∧ mEq σ τ) : ∃ τ, (if gi σ 76 g = 0 then B else bd1 (fX9_isHole σ) fun s => some s) = some τ ∧ mS τ (S s) ∧ mEq σ τ := by
  cases s with
  | none =>
    replace hv : gi σ 76 g = 1 := hv
    rw [hv, if_neg (by decide), hS]
    obtain ⟨τ, t1, t2, t3⟩ := m_isHole σ
    exact ⟨τ, by rw [t1]; rfl, t2, t3⟩
  | some q =>
    obtain ⟨h1, h2, h3⟩ := hv
    obtain ⟨r1, r2, r3⟩ := hq.rng
    rw [if_pos h1]
    rw [h2, h3] at hB
    exact hB ⟨r1, r2⟩ r3
theorem two_end {S : qSh → qSh → qSh} (hS : ∀ u, S none u = none) (hT : ∀ u, S u none = none) {σ : zSt} {f g : Nat} {s t : qSh} (hv : mV σ f s) (hq : qOk s) (hw : mV σ g t) (hr : qOk t) {B : Option zSt} (hB : -2147483648 ≤ (gl σ 72 f).toInt ∧ (gl σ 72 f).toInt ≤ (gl σ 73 f).toInt ∧ (gl σ 73 f).toInt ≤ 2147483647 → -2147483648 ≤ (gl σ 72 g).toInt ∧ (gl σ 72 g).toInt ≤ (gl σ 73 g).toInt ∧ (gl σ 73 g).toInt ≤ 2147483647 → ∃ τ, B = some τ ∧ mS τ (S (some ((gl σ 72 f).toInt, (gl σ 73 f).toInt)) (some ((gl σ 72 g).toInt, (gl σ 73 g).toInt))) ∧ mEq σ τ) : ∃ τ, (if gi σ 76 f = 0 then (if gi σ 76 g = 0 then B else bd1 (fX9_isHole σ) fun s => some s) else bd1 (fX9_isHole σ) fun s => some s) = some τ ∧ mS τ (S s t) ∧ mEq σ τ := by
  cases s with
  | none =>
    replace hv : gi σ 76 f = 1 := hv
    rw [hv, if_neg (by decide), hS]
    obtain ⟨τ, t1, t2, t3⟩ := m_isHole σ
    exact ⟨τ, by rw [t1]; rfl, t2, t3⟩
  | some q =>
    obtain ⟨h1, h2, h3⟩ := hv
    rw [if_pos h1]
    refine one_end (S := S (some q)) (hT _) hw hr (fun a b => ?_)
    have := hB (by rw [h2, h3]; exact hq.rng) ⟨a.1, a.2, b⟩
    rw [h2, h3] at this
    exact this
noncomputable def v209 (op v7 : Int32) (v9 v11 v13 t0 : Int64) (σ : zSt) : Option zSt := 
    (
    if op = 2 then bd1 (fX9_is v9 v11 σ) fun s293_4 => some s293_4 else 
    if op = 3 then bd1 (fX9_is (-v11) (-v9) σ) fun s306_6 => some s306_6 else 
    if op = 4 then bd1 (fX9_power_ v9 v11 v7 σ) fun s319_8 => some s319_8 else 
    if op = 5 then bd1 (fX9_is (v9 + v13) (v11 + t0) σ) fun s336_10 => some s336_10 else 
    if op = 6 then bd1 (fX9_is (v9 - t0) (v11 - v13) σ) fun s353_12 => some s353_12 else 
    if op = 7 then bd1 (fX9_times v9 v11 v13 t0 σ) fun s368_14 => some s368_14 else 
    if op = 8 then bd1 (fX9_by v9 v11 v13 t0 σ) fun s383_16 => some s383_16 else 
    if op = 9 then bd1 (fX9_root v9 v11 σ) fun s394_18 => some s394_18 else 
    if op = 10 then bd1 (fX9_exp v9 v11 σ) fun s405_20 => some s405_20 else 
    if op = 11 then bd1 (fX9_log v9 v11 σ) fun s416_22 => some s416_22 else 
    if op = 12 then bd1 (fX9_wave v9 v11 (1 : Int32) σ) fun s428_24 => some s428_24 else 
    if op = 13 then bd1 (fX9_wave v9 v11 (0 : Int32) σ) fun s440_26 => some s440_26 else 
    if op = 14 then bd1 (fX9_size_ v9 v11 σ) fun s451_28 => some s451_28 else 
    if op = 15 then bd1 (fX9_is (fX9_less v9 v13) (fX9_less v11 t0) σ) fun s472_30 => some s472_30 else bd1 (fX9_is (fX9_more v9 v13) (fX9_more v11 t0) σ) fun s493_31 => some s493_31)
theorem m_value {n : Nat} (hn : n < 480) {σ : zSt} {a : qAct} (ha : mAct σ n a) {V : Nat → qSh} (hV : ∀ m, m ∈ qOps a → m < 480 ∧ mV σ m (V m) ∧ qOk (V m)) (hc : a.1 = 2 → fX9_lastOf (Int32.ofNat a.2.1) σ = some (Int32.ofNat a.2.2.1)) (hp : a.1 = 4 → a.2.1 ≤ 8) {lo hi : Int64} (h1 : -2147483648 ≤ lo.toInt) (h2 : lo.toInt ≤ hi.toInt) (h3 : hi.toInt ≤ 2147483647) : ∃ τ, fX9_value (Int32.ofNat n) lo hi σ = some τ ∧ mS τ (sAct (some (lo.toInt, hi.toInt)) V a) ∧ mEq σ τ := by
  have vn := vin (iNt (n := n) (by omega)) hn
  have cn := iN_cl (n := n) (by omega)
  obtain ⟨ρ, hρ⟩ : ∃ ρ, ρ = si σ 61 21 0 := ⟨_, rfl⟩
  have E : mEq σ ρ := by rw [hρ]; exact mEq_21 σ 0
  have ha' := mAct_eq E ha
  have hV' : ∀ m, m ∈ qOps a → m < 480 ∧ mV ρ m (V m) ∧ qOk (V m) := fun m hm => ⟨(hV m hm).1, mV_eq E (hV m hm).2.1, (hV m hm).2.2⟩
  have e64 : gi σ 64 n = gi ρ 64 n := (E.gi (by omega)).symm
  have e65 : gi σ 65 n = gi ρ 65 n := (E.gi (by omega)).symm
  have st : (¬ gi ρ 64 n = 2) → fX9_value (Int32.ofNat n) lo hi σ = fX9_value_34 (Int32.ofNat n) lo hi (gi ρ 65 n) ρ := by
    intro q
    show fX9_value_0 _ _ _ _ = _
    unfold fX9_value_0
    rw [zg_pos vn, cn, e64, if_neg q, zg_pos vn, ← hρ, e65]
  have st2 : ∀ i m, gi ρ 64 n = 2 → gi ρ 65 n = Int32.ofNat i → fX9_lastOf (Int32.ofNat i) σ = some (Int32.ofNat m) → fX9_value (Int32.ofNat n) lo hi σ = fX9_value_34 (Int32.ofNat n) lo hi (Int32.ofNat m) ρ := by
    intro i m q r u
    show fX9_value_0 _ _ _ _ = _
    unfold fX9_value_0
    have u' : fX9_lastOf (Int32.ofNat i) ρ = some (Int32.ofNat m) := by
      rw [← u]
      show fX9_lastOf_0 _ _ = fX9_lastOf_0 _ _
      unfold fX9_lastOf_0
      rw [E.gi (by omega)]
    rw [zg_pos vn, cn, e64, if_pos q, zg_pos vn, ← hρ, e65, r, u', bd1_some]
  have fin : ∀ S : qSh, (∃ τ, fX9_value (Int32.ofNat n) lo hi σ = some τ ∧ mS τ S ∧ mEq ρ τ) → ∃ τ, fX9_value (Int32.ofNat n) lo hi σ = some τ ∧ mS τ S ∧ mEq σ τ := fun S ⟨τ, t1, t2, t3⟩ => ⟨τ, t1, t2, E.tr t3⟩
  refine fin _ ?_
  have u209 : ∀ (op v7 : Int32) (p q r s : Int64), gi ρ 64 n = op → fX9_value_209 (Int32.ofNat n) v7 p q r s ρ = v209 op v7 p q r s ρ := by
    intro op v7 p q r s h
    unfold fX9_value_209 v209
    rw [zg_pos vn, cn, nm_eq, h]
  obtain ⟨t, af, ag, an⟩ := a
  match t, ha', hV', hc, hp with
  | 0, ha, hV, hc, hp =>
    rw [st (by rw [show gi ρ 64 n = 0 from ha]; decide)]
    unfold fX9_value_34
    rw [zg_pos vn, cn, nm_eq, zg_pos vn, if_pos (show gi ρ 64 n = 0 from ha)]
    obtain ⟨τ, t1, t2, t3, -⟩ := m_is lo hi ρ
    rw [sOf_in h1 h2 h3] at t2
    exact ⟨τ, by rw [t1]; rfl, t2, t3⟩
  | 1, ha, hV, hc, hp =>
    rw [st (by rw [ha.1]; decide)]
    unfold fX9_value_34
    rw [zg_pos vn, cn, nm_eq, zg_pos vn, ha.1, if_neg (by decide), zg_pos vn, if_pos rfl, zg_pos vn, zg_pos vn]
    obtain ⟨τ, t1, t2, t3, -⟩ := m_is (gl ρ 67 n) (gl ρ 68 n) ρ
    rw [ha.2] at t2
    exact ⟨τ, by rw [t1]; rfl, t2, t3⟩
  | 2, ha, hV, hc, hp =>
    obtain ⟨g1, g2, g3⟩ := hV ag (List.mem_singleton.mpr rfl)
    rw [st2 af ag ha.1 ha.2 (hc rfl), mv_one hn g1 ha.1 (by decide) (by decide) (by decide) (by decide)]
    show ∃ τ, _ = some τ ∧ mS τ ((fun s => s) (V ag)) ∧ mEq ρ τ
    refine one_end (S := (fun s => s)) rfl g2 g3 (fun q1 q2 => ?_)
    rw [u209 2 _ _ _ _ _ ha.1]
    obtain ⟨τ, t1, t2, t3, -⟩ := m_is (gl ρ 72 ag) (gl ρ 73 ag) ρ
    rw [sOf_in q1.1 q1.2 q2] at t2
    exact ⟨τ, by show bd1 (fX9_is _ _ _) _ = _; rw [t1]; rfl, t2, t3⟩
  | 3, ha, hV, hc, hp =>
    obtain ⟨g1, g2, g3⟩ := hV ag (List.mem_singleton.mpr rfl)
    rw [st (by rw [ha.1]; decide), ha.2, mv_one hn g1 ha.1 (by decide) (by decide) (by decide) (by decide)]
    show ∃ τ, _ = some τ ∧ mS τ (sNeg (V ag)) ∧ mEq ρ τ
    refine one_end (S := sNeg) rfl g2 g3 (fun q1 q2 => ?_)
    rw [u209 3 _ _ _ _ _ ha.1]
    obtain ⟨τ, t1, t2, t3, -⟩ := m_is (-(gl ρ 73 ag)) (-(gl ρ 72 ag)) ρ
    rw [qL_neg (by omega), qL_neg (by omega)] at t2
    exact ⟨τ, by show bd1 (fX9_is _ _ _) _ = _; rw [t1]; rfl, t2, t3⟩
  | 4, ha, hV, hc, hp =>
    obtain ⟨g1, g2, g3⟩ := hV ag (List.mem_singleton.mpr rfl)
    rw [st (by rw [ha.1]; decide), ha.2.1, mv_one hn g1 ha.1 (by decide) (by decide) (by decide) (by decide)]
    show ∃ τ, _ = some τ ∧ mS τ ((fun s => sPow s af) (V ag)) ∧ mEq ρ τ
    refine one_end (S := (fun s => sPow s af)) rfl g2 g3 (fun q1 q2 => ?_)
    rw [u209 4 _ _ _ _ _ ha.1]
    have hi8 : af ≤ 8 := hp rfl
    obtain ⟨τ, t1, t2, t3⟩ := m_power (n := gi ρ 66 n) (j := af) (σ := ρ) q1 q2 hi8 (by rw [ha.2.2, iNt (by omega)]; omega)
    exact ⟨τ, by show bd1 (fX9_power_ _ _ _ _) _ = _; rw [t1]; rfl, t2, t3⟩
  | 5, ha, hV, hc, hp =>
    obtain ⟨g1, g2, g3⟩ := hV ag (List.mem_singleton.mpr rfl)
    rw [st (by rw [ha.1]; decide), ha.2, mv_one hn g1 ha.1 (by decide) (by decide) (by decide) (by decide)]
    show ∃ τ, _ = some τ ∧ mS τ (sRoot (V ag)) ∧ mEq ρ τ
    refine one_end (S := sRoot) rfl g2 g3 (fun q1 q2 => ?_)
    rw [u209 9 _ _ _ _ _ ha.1]
    obtain ⟨τ, t1, t2, t3⟩ := m_root (σ := ρ) q1 q2
    exact ⟨τ, by show bd1 (fX9_root _ _ _) _ = _; rw [t1]; rfl, t2, t3⟩
  | 6, ha, hV, hc, hp =>
    obtain ⟨g1, g2, g3⟩ := hV ag (List.mem_singleton.mpr rfl)
    rw [st (by rw [ha.1]; decide), ha.2, mv_one hn g1 ha.1 (by decide) (by decide) (by decide) (by decide)]
    show ∃ τ, _ = some τ ∧ mS τ (sExp (V ag)) ∧ mEq ρ τ
    refine one_end (S := sExp) rfl g2 g3 (fun q1 q2 => ?_)
    rw [u209 10 _ _ _ _ _ ha.1]
    obtain ⟨τ, t1, t2, t3⟩ := m_exp (σ := ρ) q1.2
    exact ⟨τ, by show bd1 (fX9_exp _ _ _) _ = _; rw [t1]; rfl, t2, t3⟩
  | 7, ha, hV, hc, hp =>
    obtain ⟨g1, g2, g3⟩ := hV ag (List.mem_singleton.mpr rfl)
    rw [st (by rw [ha.1]; decide), ha.2, mv_one hn g1 ha.1 (by decide) (by decide) (by decide) (by decide)]
    show ∃ τ, _ = some τ ∧ mS τ (sLog (V ag)) ∧ mEq ρ τ
    refine one_end (S := sLog) rfl g2 g3 (fun q1 q2 => ?_)
    rw [u209 11 _ _ _ _ _ ha.1]
    obtain ⟨τ, t1, t2, t3⟩ := m_log (σ := ρ) (a := gl ρ 72 ag) (b := gl ρ 73 ag)
    exact ⟨τ, by show bd1 (fX9_log _ _ _) _ = _; rw [t1]; rfl, t2, t3⟩
  | 8, ha, hV, hc, hp =>
    obtain ⟨g1, g2, g3⟩ := hV ag (List.mem_singleton.mpr rfl)
    rw [st (by rw [ha.1]; decide), ha.2, mv_one hn g1 ha.1 (by decide) (by decide) (by decide) (by decide)]
    show ∃ τ, _ = some τ ∧ mS τ (sWave false (V ag)) ∧ mEq ρ τ
    refine one_end (S := sWave false) rfl g2 g3 (fun q1 q2 => ?_)
    rw [u209 12 _ _ _ _ _ ha.1]
    obtain ⟨τ, t1, t2, t3⟩ := m_wave (co := false) (v5 := 1) (by decide) q1 q2 ρ
    exact ⟨τ, by show bd1 (fX9_wave _ _ _ _) _ = _; rw [t1]; rfl, t2, t3⟩
  | 9, ha, hV, hc, hp =>
    obtain ⟨g1, g2, g3⟩ := hV ag (List.mem_singleton.mpr rfl)
    rw [st (by rw [ha.1]; decide), ha.2, mv_one hn g1 ha.1 (by decide) (by decide) (by decide) (by decide)]
    show ∃ τ, _ = some τ ∧ mS τ (sWave true (V ag)) ∧ mEq ρ τ
    refine one_end (S := sWave true) rfl g2 g3 (fun q1 q2 => ?_)
    rw [u209 13 _ _ _ _ _ ha.1]
    obtain ⟨τ, t1, t2, t3⟩ := m_wave (co := true) (v5 := 0) (by decide) q1 q2 ρ
    exact ⟨τ, by show bd1 (fX9_wave _ _ _ _) _ = _; rw [t1]; rfl, t2, t3⟩
  | 10, ha, hV, hc, hp =>
    obtain ⟨g1, g2, g3⟩ := hV ag (List.mem_singleton.mpr rfl)
    rw [st (by rw [ha.1]; decide), ha.2, mv_one hn g1 ha.1 (by decide) (by decide) (by decide) (by decide)]
    show ∃ τ, _ = some τ ∧ mS τ (sSize (V ag)) ∧ mEq ρ τ
    refine one_end (S := sSize) rfl g2 g3 (fun q1 q2 => ?_)
    rw [u209 14 _ _ _ _ _ ha.1]
    obtain ⟨τ, t1, t2, t3⟩ := m_size (σ := ρ) q1 q2
    exact ⟨τ, by show bd1 (fX9_size_ _ _ _) _ = _; rw [t1]; rfl, t2, t3⟩
  | 11, ha, hV, hc, hp =>
    obtain ⟨f1, f2, f3⟩ := hV af (List.mem_cons.mpr (Or.inl rfl))
    obtain ⟨g1, g2, g3⟩ := hV ag (List.mem_cons.mpr (Or.inr (List.mem_singleton.mpr rfl)))
    rw [st (by rw [ha.1]; decide), ha.2.1, mv_two hn f1 g1 ha.1 ha.2.2 (by decide) (by decide) (by decide) (by decide)]
    show ∃ τ, _ = some τ ∧ mS τ (sLesser (V af) (V ag)) ∧ mEq ρ τ
    refine two_end (S := sLesser) (fun u => by cases u <;> rfl) (fun u => by cases u <;> rfl) f2 f3 g2 g3 (fun q1 q2 => ?_)
    rw [u209 15 _ _ _ _ _ ha.1]
    obtain ⟨τ, t1, t2, t3, -⟩ := m_is (fX9_less (gl ρ 72 af) (gl ρ 72 ag)) (fX9_less (gl ρ 73 af) (gl ρ 73 ag)) ρ
    rw [m_less, m_less] at t2
    exact ⟨τ, by show bd1 (fX9_is _ _ _) _ = _; rw [t1]; rfl, t2, t3⟩
  | 12, ha, hV, hc, hp =>
    obtain ⟨f1, f2, f3⟩ := hV af (List.mem_cons.mpr (Or.inl rfl))
    obtain ⟨g1, g2, g3⟩ := hV ag (List.mem_cons.mpr (Or.inr (List.mem_singleton.mpr rfl)))
    rw [st (by rw [ha.1]; decide), ha.2.1, mv_two hn f1 g1 ha.1 ha.2.2 (by decide) (by decide) (by decide) (by decide)]
    show ∃ τ, _ = some τ ∧ mS τ (sGreater (V af) (V ag)) ∧ mEq ρ τ
    refine two_end (S := sGreater) (fun u => by cases u <;> rfl) (fun u => by cases u <;> rfl) f2 f3 g2 g3 (fun q1 q2 => ?_)
    rw [u209 16 _ _ _ _ _ ha.1]
    obtain ⟨τ, t1, t2, t3, -⟩ := m_is (fX9_more (gl ρ 72 af) (gl ρ 72 ag)) (fX9_more (gl ρ 73 af) (gl ρ 73 ag)) ρ
    rw [m_more, m_more] at t2
    exact ⟨τ, by show bd1 (fX9_is _ _ _) _ = _; rw [t1]; rfl, t2, t3⟩
  | 13, ha, hV, hc, hp =>
    obtain ⟨f1, f2, f3⟩ := hV af (List.mem_cons.mpr (Or.inl rfl))
    obtain ⟨g1, g2, g3⟩ := hV ag (List.mem_cons.mpr (Or.inr (List.mem_singleton.mpr rfl)))
    rw [st (by rw [ha.1]; decide), ha.2.1, mv_two hn f1 g1 ha.1 ha.2.2 (by decide) (by decide) (by decide) (by decide)]
    show ∃ τ, _ = some τ ∧ mS τ (sPlus (V af) (V ag)) ∧ mEq ρ τ
    refine two_end (S := sPlus) (fun u => by cases u <;> rfl) (fun u => by cases u <;> rfl) f2 f3 g2 g3 (fun q1 q2 => ?_)
    rw [u209 5 _ _ _ _ _ ha.1]
    obtain ⟨τ, t1, t2, t3, -⟩ := m_is ((gl ρ 72 af) + (gl ρ 72 ag)) ((gl ρ 73 af) + (gl ρ 73 ag)) ρ
    rw [qL_add (by omega) (by omega), qL_add (by omega) (by omega)] at t2
    exact ⟨τ, by show bd1 (fX9_is _ _ _) _ = _; rw [t1]; rfl, t2, t3⟩
  | 14, ha, hV, hc, hp =>
    obtain ⟨f1, f2, f3⟩ := hV af (List.mem_cons.mpr (Or.inl rfl))
    obtain ⟨g1, g2, g3⟩ := hV ag (List.mem_cons.mpr (Or.inr (List.mem_singleton.mpr rfl)))
    rw [st (by rw [ha.1]; decide), ha.2.1, mv_two hn f1 g1 ha.1 ha.2.2 (by decide) (by decide) (by decide) (by decide)]
    show ∃ τ, _ = some τ ∧ mS τ (sMinus (V af) (V ag)) ∧ mEq ρ τ
    refine two_end (S := sMinus) (fun u => by cases u <;> rfl) (fun u => by cases u <;> rfl) f2 f3 g2 g3 (fun q1 q2 => ?_)
    rw [u209 6 _ _ _ _ _ ha.1]
    obtain ⟨τ, t1, t2, t3, -⟩ := m_is ((gl ρ 72 af) - (gl ρ 73 ag)) ((gl ρ 73 af) - (gl ρ 72 ag)) ρ
    rw [qL_sub (by omega) (by omega), qL_sub (by omega) (by omega)] at t2
    exact ⟨τ, by show bd1 (fX9_is _ _ _) _ = _; rw [t1]; rfl, t2, t3⟩
  | 15, ha, hV, hc, hp =>
    obtain ⟨f1, f2, f3⟩ := hV af (List.mem_cons.mpr (Or.inl rfl))
    obtain ⟨g1, g2, g3⟩ := hV ag (List.mem_cons.mpr (Or.inr (List.mem_singleton.mpr rfl)))
    rw [st (by rw [ha.1]; decide), ha.2.1, mv_two hn f1 g1 ha.1 ha.2.2 (by decide) (by decide) (by decide) (by decide)]
    show ∃ τ, _ = some τ ∧ mS τ (sTimes (V af) (V ag)) ∧ mEq ρ τ
    refine two_end (S := sTimes) (fun u => by cases u <;> rfl) (fun u => by cases u <;> rfl) f2 f3 g2 g3 (fun q1 q2 => ?_)
    rw [u209 7 _ _ _ _ _ ha.1]
    obtain ⟨τ, t1, t2, t3⟩ := m_times (σ := ρ) (a := (gl ρ 72 af)) (b := (gl ρ 73 af)) (c := (gl ρ 72 ag)) (d := (gl ρ 73 ag)) (by omega) (by omega) (by omega) (by omega)
    exact ⟨τ, by show bd1 (fX9_times _ _ _ _ _) _ = _; rw [t1]; rfl, t2, t3⟩
  | m + 16, ha, hV, hc, hp =>
    obtain ⟨f1, f2, f3⟩ := hV af (List.mem_cons.mpr (Or.inl rfl))
    obtain ⟨g1, g2, g3⟩ := hV ag (List.mem_cons.mpr (Or.inr (List.mem_singleton.mpr rfl)))
    rw [st (by rw [ha.1]; decide), ha.2.1, mv_two hn f1 g1 ha.1 ha.2.2 (by decide) (by decide) (by decide) (by decide)]
    show ∃ τ, _ = some τ ∧ mS τ (sOver (V af) (V ag)) ∧ mEq ρ τ
    refine two_end (S := sOver) (fun u => by cases u <;> rfl) (fun u => by cases u <;> rfl) f2 f3 g2 g3 (fun q1 q2 => ?_)
    rw [u209 8 _ _ _ _ _ ha.1]
    obtain ⟨τ, t1, t2, t3⟩ := m_by (σ := ρ) (a := (gl ρ 72 af)) (b := (gl ρ 73 af)) (c := (gl ρ 72 ag)) (d := (gl ρ 73 ag)) (by omega) (by omega) q2.2.1
    exact ⟨τ, by show bd1 (fX9_by _ _ _ _ _) _ = _; rw [t1]; rfl, t2, t3⟩
