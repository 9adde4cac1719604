/-! the slope of an ACT in the Model's rows -/
theorem sOver_n {t : qSh} : sOver none t = none := by cases t <;> rfl
theorem sOver_r {t : qSh} : sOver t none = none := by cases t <;> rfl
theorem sTimes_n {t : qSh} : sTimes none t = none := by cases t <;> rfl
theorem sTimes_r {t : qSh} : sTimes t none = none := by cases t <;> rfl
theorem sTog_n {t : qSh} : sTog none t = none := by cases t <;> rfl
theorem sPlus_n {t : qSh} : sPlus none t = none := by cases t <;> rfl
theorem sPlus_r {t : qSh} : sPlus t none = none := by cases t <;> rfl
theorem sMinus_n {t : qSh} : sMinus none t = none := by cases t <;> rfl
theorem sMinus_r {t : qSh} : sMinus t none = none := by cases t <;> rfl
theorem min4_sw (a b c d : Int) : min4 a b c d = min4 a c b d := by unfold min4; omega
theorem max4_sw (a b c d : Int) : max4 a b c d = max4 a c b d := by unfold max4; omega
theorem sTimes_comm (s t : qSh) : sTimes s t = sTimes t s := by
  cases s with
  | none => rw [sTimes_n, sTimes_r]
  | some q =>
    cases t with
    | none => rw [sTimes_n, sTimes_r]
    | some r =>
      show sOf (min4 (q.1 * r.1) (q.1 * r.2) (q.2 * r.1) (q.2 * r.2) / 1048576) (up (max4 (q.1 * r.1) (q.1 * r.2) (q.2 * r.1) (q.2 * r.2)) 1048576) = sOf (min4 (r.1 * q.1) (r.1 * q.2) (r.2 * q.1) (r.2 * q.2) / 1048576) (up (max4 (r.1 * q.1) (r.1 * q.2) (r.2 * q.1) (r.2 * q.2)) 1048576)
      rw [Int.mul_comm r.1 q.1, Int.mul_comm r.1 q.2, Int.mul_comm r.2 q.1, Int.mul_comm r.2 q.2, min4_sw, max4_sw]
theorem then_end {G : qSh → qSh} (hG : G none = none) {σ τ : zSt} {s : qSh} (h : mS τ s) (hq : qOk s) (e : mEq σ τ) {B : Option zSt} (hB : -2147483648 ≤ (gl τ 61 19).toInt ∧ (gl τ 61 19).toInt ≤ (gl τ 61 20).toInt → (gl τ 61 20).toInt ≤ 2147483647 → ∃ ρ, B = some ρ ∧ mS ρ (G (some ((gl τ 61 19).toInt, (gl τ 61 20).toInt))) ∧ mEq τ ρ) : ∃ ρ, (if gi τ 61 21 = 0 then B else some τ) = some ρ ∧ mS ρ (G s) ∧ mEq σ ρ := by
  cases s with
  | none =>
    replace h : gi τ 61 21 = 1 := h
    rw [h, if_neg (by decide), hG]
    exact ⟨τ, rfl, h, e⟩
  | some q =>
    obtain ⟨h1, h2, h3⟩ := h
    obtain ⟨r1, r2, r3⟩ := hq.rng
    rw [if_pos h1]
    rw [h2, h3] at hB
    obtain ⟨ρ, t1, t2, t3⟩ := hB ⟨r1, r2⟩ r3
    exact ⟨ρ, t1, t2, e.tr t3⟩
theorem m_thenTimes {c d : Int64} (hc : -2147483648 ≤ c.toInt ∧ c.toInt ≤ 2147483647) (hd : -2147483648 ≤ d.toInt ∧ d.toInt ≤ 2147483647) {τ : zSt} {s : qSh} (h : mS τ s) (hq : qOk s) : ∃ ρ, fX9_thenTimes c d τ = some ρ ∧ mS ρ (sTimes s (some (c.toInt, d.toInt))) ∧ mEq τ ρ := by
  show ∃ ρ, fX9_thenTimes_0 c d τ = some ρ ∧ _
  unfold fX9_thenTimes_0
  refine then_end (G := fun s => sTimes s (some (c.toInt, d.toInt))) sTimes_n h hq mEq.rf (fun q1 q2 => ?_)
  obtain ⟨ρ, t1, t2, t3⟩ := m_times (σ := τ) (a := gl τ 61 19) (b := gl τ 61 20) (c := c) (d := d) (by omega) (by omega) hc hd
  exact ⟨ρ, by rw [t1]; rfl, t2, t3⟩
theorem one_endL {S : qSh → qSh} (hS : S none = none) {σ : zSt} {g : Nat} {s : qSh} (hv : mL σ g s) (hq : qOk s) {B : Option zSt} (hB : -2147483648 ≤ (gl σ 74 g).toInt ∧ (gl σ 74 g).toInt ≤ (gl σ 75 g).toInt → (gl σ 75 g).toInt ≤ 2147483647 → ∃ τ, B = some τ ∧ mS τ (S (some ((gl σ 74 g).toInt, (gl σ 75 g).toInt))) ∧ mEq σ τ) : ∃ τ, (if gi σ 77 g = 0 then B else bd1 (fX9_isHole σ) fun s => some s) = some τ ∧ mS τ (S s) ∧ mEq σ τ := by
  cases s with
  | none =>
    replace hv : gi σ 77 g = 1 := hv
    rw [hv, if_neg (by decide), hS]
    obtain ⟨τ, t1, t2, t3⟩ := m_isHole σ
    exact ⟨τ, by rw [t1]; rfl, t2, t3⟩
  | some q =>
    obtain ⟨h1, h2, h3⟩ := hv
    obtain ⟨r1, r2, r3⟩ := hq.rng
    rw [if_pos h1]
    rw [h2, h3] at hB
    exact hB ⟨r1, r2⟩ r3
theorem two_endL {S : qSh → qSh → qSh} (hS : ∀ u, S none u = none) (hT : ∀ u, S u none = none) {σ : zSt} {f g : Nat} {s t : qSh} (hv : mL σ f s) (hq : qOk s) (hw : mL σ g t) (hr : qOk t) {B : Option zSt} (hB : -2147483648 ≤ (gl σ 74 f).toInt ∧ (gl σ 74 f).toInt ≤ (gl σ 75 f).toInt ∧ (gl σ 75 f).toInt ≤ 2147483647 → -2147483648 ≤ (gl σ 74 g).toInt ∧ (gl σ 74 g).toInt ≤ (gl σ 75 g).toInt ∧ (gl σ 75 g).toInt ≤ 2147483647 → ∃ τ, B = some τ ∧ mS τ (S (some ((gl σ 74 f).toInt, (gl σ 75 f).toInt)) (some ((gl σ 74 g).toInt, (gl σ 75 g).toInt))) ∧ mEq σ τ) : ∃ τ, (if gi σ 77 f = 0 then (if gi σ 77 g = 0 then B else bd1 (fX9_isHole σ) fun s => some s) else bd1 (fX9_isHole σ) fun s => some s) = some τ ∧ mS τ (S s t) ∧ mEq σ τ := by
  cases s with
  | none =>
    replace hv : gi σ 77 f = 1 := hv
    rw [hv, if_neg (by decide), hS]
    obtain ⟨τ, t1, t2, t3⟩ := m_isHole σ
    exact ⟨τ, by rw [t1]; rfl, t2, t3⟩
  | some q =>
    obtain ⟨h1, h2, h3⟩ := hv
    rw [if_pos h1]
    refine one_endL (S := S (some q)) (hT _) hw hr (fun a b => ?_)
    have := hB (by rw [h2, h3]; exact hq.rng) ⟨a.1, a.2, b⟩
    rw [h2, h3] at this
    exact this
noncomputable def v160 (op v1 v2 v3 : Int32) (x166_2 x174_4 x182_6 x190_8 : Int64) (σ : zSt) : Option zSt := 
    (
    if op = 2 then bd1 (fX9_is x166_2 x174_4 σ) fun s265_12 => some s265_12 else 
    if op = 3 then bd1 (fX9_is (-x174_4) (-x166_2) σ) fun s278_14 => some s278_14 else 
    if op = 4 then 
          (if v3 = (1 : Int32) then bd1 (fX9_is x166_2 x174_4 σ) fun s354_20 => some s354_20
          else bd1 (fX9_power_ x182_6 x190_8 (v3 - (1 : Int32)) σ) fun s368_17 => bd1 (fX9_thenTimes ((Int32.toInt64 v3) * (1048576 : Int64)) ((Int32.toInt64 v3) * (1048576 : Int64)) s368_17) fun s384_18 => bd1 (fX9_thenTimes x166_2 x174_4 s384_18) fun s392_19 => some s392_19) else 
    if op = 5 then zg (vp_in v3 480) <| zg (vp_in v3 480) <| bd1 (fX9_is (x166_2 + (gl σ 74 v3.toNatClampNeg)) (x174_4 + (gl σ 75 v3.toNatClampNeg)) σ) fun s303_24 => some s303_24 else 
    if op = 6 then zg (vp_in v3 480) <| zg (vp_in v3 480) <| bd1 (fX9_is (x166_2 - (gl σ 75 v3.toNatClampNeg)) (x174_4 - (gl σ 74 v3.toNatClampNeg)) σ) fun s328_28 => some s328_28 else 
    if op = 7 then bd1 (fX9_products v1 v2 v3 σ) fun s338_30 => some s338_30 else 
    if op = 8 then bd1 (fX9_products v1 v2 v3 σ) fun s338_32 => some s338_32 else 
    if op = 9 then zg (vp_in v1 480) <| zg (vp_in v1 480) <| bd1 (fX9_times (2097152 : Int64) (2097152 : Int64) (gl σ 72 v1.toNatClampNeg) (gl σ 73 v1.toNatClampNeg) σ) fun s417_36 => 
                    (if (gi s417_36 61 21) = 0 then bd1 (fX9_by x166_2 x174_4 (gl s417_36 61 19) (gl s417_36 61 20) s417_36) fun s440_38 => some s440_38
                    else some s417_36) else 
    if op = 10 then zg (vp_in v1 480) <| zg (vp_in v1 480) <| bd1 (fX9_times (gl σ 72 v1.toNatClampNeg) (gl σ 73 v1.toNatClampNeg) x166_2 x174_4 σ) fun s463_42 => some s463_42 else 
    if op = 11 then bd1 (fX9_by x166_2 x174_4 x182_6 x190_8 σ) fun s478_44 => some s478_44 else 
    if op = 12 then bd1 (fX9_wave x182_6 x190_8 (0 : Int32) σ) fun s490_46 => bd1 (fX9_thenTimes x166_2 x174_4 s490_46) fun s498_47 => some s498_47 else 
    if op = 13 then bd1 (fX9_wave x182_6 x190_8 (1 : Int32) σ) fun s510_49 => bd1 (fX9_thenTimes x166_2 x174_4 s510_49) fun s518_50 => 
                            (if (gi s518_50 61 21) = 0 then bd1 (fX9_is (-(gl s518_50 61 20)) (-(gl s518_50 61 19)) s518_50) fun s539_52 => some s539_52
                            else some s518_50) else bd1 (fX9_sizes x166_2 x174_4 x182_6 x190_8 σ) fun s554_53 => some s554_53)
theorem ms_one {n f : Nat} (hn : n < 480) (hf : f < 480) {σ : zSt} {op : Int32} (ho : gi σ 64 n = op) (h0 : ¬ op = 0) (h1 : ¬ op = 1) (h5 : op < 5 ∨ ¬ op ≤ 8) (h15 : op < 15) : fX9_slope_29 (Int32.ofNat n) (Int32.ofNat f) σ = if gi σ 77 f = 0 then v160 op (Int32.ofNat n) (Int32.ofNat f) (gi σ 66 n) (gl σ 74 f) (gl σ 75 f) (gl σ 72 f) (gl σ 73 f) σ else bd1 (fX9_isHole σ) fun s => some s := by
  have vn := vin (iNt (n := n) (by omega)) hn
  have vf := vin (iNt (n := f) (by omega)) hf
  have cn := iN_cl (n := n) (by omega)
  have cf := iN_cl (n := f) (by omega)
  have k1 : ∀ x, fX9_slope_111 (Int32.ofNat n) (Int32.ofNat f) x 0 σ = if gi σ 77 f = 0 then v160 op (Int32.ofNat n) (Int32.ofNat f) x (gl σ 74 f) (gl σ 75 f) (gl σ 72 f) (gl σ 73 f) σ else bd1 (fX9_isHole σ) fun s => some s := by
    intro x
    unfold fX9_slope_111
    rw [zg_pos vn, cn, ho, if_pos h15, zg_pos vf, cf, if_pos rfl]
    unfold fX9_slope_160 v160
    rw [zg_pos vf, cf, nm_eq, zg_pos vf, nm_eq, zg_pos vf, nm_eq, zg_pos vf, nm_eq, zg_pos vn, cn, nm_eq, ho]
  unfold fX9_slope_29
  rw [zg_pos vn, cn, nm_eq, zg_pos vn, ho, if_neg h0, zg_pos vn, if_neg h1, zg_pos vn]
  by_cases q : op < 5
  · rw [if_pos q, zg_pos vn, if_pos h15]; exact k1 _
  · rw [if_neg q, zg_pos vn, if_neg (by rcases h5 with r | r; exact absurd r q; exact r), zg_pos vn, if_pos h15]; exact k1 _
theorem ms_two {n f g : Nat} (hn : n < 480) (hf : f < 480) (hg : g < 480) {σ : zSt} {op : Int32} (ho : gi σ 64 n = op) (h2 : gi σ 66 n = Int32.ofNat g) (h0 : ¬ op = 0) (h1 : ¬ op = 1) (h5 : ¬ op < 5) (h8 : op ≤ 8) (h15 : op < 15) : fX9_slope_29 (Int32.ofNat n) (Int32.ofNat f) σ = if gi σ 77 f = 0 then (if gi σ 77 g = 0 then v160 op (Int32.ofNat n) (Int32.ofNat f) (Int32.ofNat g) (gl σ 74 f) (gl σ 75 f) (gl σ 72 f) (gl σ 73 f) σ else bd1 (fX9_isHole σ) fun s => some s) else bd1 (fX9_isHole σ) fun s => some s := by
  have vn := vin (iNt (n := n) (by omega)) hn
  have vf := vin (iNt (n := f) (by omega)) hf
  have vg := vin (iNt (n := g) (by omega)) hg
  have cn := iN_cl (n := n) (by omega)
  have cf := iN_cl (n := f) (by omega)
  have cg := iN_cl (n := g) (by omega)
  unfold fX9_slope_29
  rw [zg_pos vn, cn, nm_eq, zg_pos vn, ho, if_neg h0, zg_pos vn, if_neg h1, zg_pos vn, if_neg h5, zg_pos vn, if_pos h8, h2]
  unfold fX9_slope_111
  rw [zg_pos vn, cn, ho, if_pos h15, zg_pos vf, cf, if_neg (show ¬ (1 : Int32) = 0 by decide), zg_pos vg, cg]
  unfold fX9_slope_160 v160
  rw [zg_pos vf, cf, nm_eq, zg_pos vf, nm_eq, zg_pos vf, nm_eq, zg_pos vf, nm_eq, zg_pos vn, cn, nm_eq, ho]
theorem ms_cho {n f g : Nat} (hn : n < 480) {σ : zSt} {op : Int32} (ho : gi σ 64 n = op) (h2 : gi σ 66 n = Int32.ofNat g) (h0 : ¬ op = 0) (h1 : ¬ op = 1) (h5 : ¬ op < 5) (h8 : ¬ op ≤ 8) (h15 : ¬ op < 15) : fX9_slope_29 (Int32.ofNat n) (Int32.ofNat f) σ = bd1 (fX9_chosen_16 (Int32.ofNat f) (Int32.ofNat g) (if op = 15 then 1 else 0) σ) fun s => some s := by
  have vn := vin (iNt (n := n) (by omega)) hn
  have cn := iN_cl (n := n) (by omega)
  unfold fX9_slope_29
  rw [zg_pos vn, cn, nm_eq, zg_pos vn, ho, if_neg h0, zg_pos vn, if_neg h1, zg_pos vn, if_neg h5, zg_pos vn, if_neg h8, zg_pos vn, if_neg h15, h2]
  unfold fX9_slope_111
  rw [zg_pos vn, cn, ho, if_neg h15]
  show bd1 (fX9_chosen_0 _ _ _ _) _ = _
  unfold fX9_chosen_0
  rw [zg_pos vn, cn, ho]
  by_cases q : op = 15
  · rw [if_pos q, if_pos q]
  · rw [if_neg q, if_neg q]
/-- the lesser or the greater of two, told apart or not -/
theorem m_cho142 {v : Nat} (hv : v < 480) {σ : zSt} {s : qSh} (h : mL σ v s) (hq : qOk s) : ∃ τ, fX9_chosen_142 (Int32.ofNat v) σ = some τ ∧ mS τ s ∧ mEq σ τ := by
  have vv := vin (iNt (n := v) (by omega)) hv
  have cv := iN_cl (n := v) (by omega)
  unfold fX9_chosen_142
  rw [zg_pos vv, cv, zg_pos vv, zg_pos vv]
  refine one_endL (S := fun s => s) rfl h hq (fun q1 q2 => ?_)
  obtain ⟨τ, t1, t2, t3, -⟩ := m_is (gl σ 74 v) (gl σ 75 v) σ
  rw [sOf_in q1.1 q1.2 q2] at t2
  exact ⟨τ, by rw [t1]; rfl, t2, t3⟩
theorem m_cho120 {f g : Nat} (hf : f < 480) (hg : g < 480) {σ : zSt} {s t : qSh} (h : mL σ f s) (hq : qOk s) (k : mL σ g t) (hr : qOk t) {u v : Int32} {P Q : Prop} [Decidable P] [Decidable Q] (hu : u = 0 ↔ ¬ P) (hv : v = 0 ↔ ¬ Q) : ∃ τ, fX9_chosen_120 (Int32.ofNat f) (Int32.ofNat g) u v σ = some τ ∧ mS τ (if P then s else if Q then t else sTog s t) ∧ mEq σ τ := by
  have vf := vin (iNt (n := f) (by omega)) hf
  have cf := iN_cl (n := f) (by omega)
  have vg := vin (iNt (n := g) (by omega)) hg
  have cg := iN_cl (n := g) (by omega)
  unfold fX9_chosen_120
  by_cases a : P
  · have : ¬ u = 0 := fun e => (hu.mp e) a
    rw [if_neg this, if_neg this, if_pos a]
    exact m_cho142 hf h hq
  · rw [if_pos (hu.mpr a), if_neg a]
    by_cases b : Q
    · have : ¬ v = 0 := fun e => (hv.mp e) b
      rw [if_neg this, if_pos (hu.mpr a), if_pos b]
      exact m_cho142 hg k hr
    · rw [if_pos (hv.mpr b), if_neg b, zg_pos vf, cf, zg_pos vg, cg, zg_pos vf, zg_pos vg, zg_pos vf, zg_pos vg]
      refine two_endL (S := sTog) (fun u => by cases u <;> rfl) (fun u => by cases u <;> rfl) h hq k hr (fun q1 q2 => ?_)
      obtain ⟨τ, t1, t2, t3, -⟩ := m_is (fX9_less (gl σ 74 f) (gl σ 74 g)) (fX9_more (gl σ 75 f) (gl σ 75 g)) σ
      rw [m_less, m_more] at t2
      exact ⟨τ, by rw [t1]; rfl, t2, t3⟩
theorem m_cho {f g : Nat} (hf : f < 480) (hg : g < 480) {σ : zSt} {p q : Int × Int} (hp : mV σ f (some p)) (hq : mV σ g (some q)) {s t : qSh} (h : mL σ f s) (h1 : qOk s) (k : mL σ g t) (k1 : qOk t) (w : Int32) : ∃ τ, fX9_chosen_16 (Int32.ofNat f) (Int32.ofNat g) w σ = some τ ∧ mS τ (if w = 0 then sLLes (some q) (some p) s t else sLLes (some p) (some q) s t) ∧ mEq σ τ := by
  have vf := vin (iNt (n := f) (by omega)) hf
  have cf := iN_cl (n := f) (by omega)
  have vg := vin (iNt (n := g) (by omega)) hg
  have cg := iN_cl (n := g) (by omega)
  obtain ⟨-, p1, p2⟩ := hp
  obtain ⟨-, q1, q2⟩ := hq
  have d1 : (gl σ 72 f < gl σ 73 g) ↔ ¬ q.2 ≤ p.1 := by rw [qL_lt, p1, q2]; omega
  have d2 : (gl σ 72 g < gl σ 73 f) ↔ ¬ p.2 ≤ q.1 := by rw [qL_lt, q1, p2]; omega
  unfold fX9_chosen_16
  by_cases hw : w = 0
  · rw [if_pos hw, if_pos hw, zg_pos vf, cf, zg_pos vg, cg]
    show ∃ τ, _ = some τ ∧ mS τ (if q.2 ≤ p.1 then s else if p.2 ≤ q.1 then t else sTog s t) ∧ _
    have key : ∀ u : Int32, (u = 0 ↔ ¬ q.2 ≤ p.1) → ∃ τ, fX9_chosen_68 (Int32.ofNat f) (Int32.ofNat g) w u σ = some τ ∧ mS τ (if q.2 ≤ p.1 then s else if p.2 ≤ q.1 then t else sTog s t) ∧ mEq σ τ := by
      intro u hu
      unfold fX9_chosen_68
      rw [if_pos hw, zg_pos vg, cg, zg_pos vf, cf]
      by_cases a : gl σ 72 g < gl σ 73 f
      · rw [if_pos a]; exact m_cho120 hf hg h h1 k k1 hu ⟨fun _ => d2.mp a, fun _ => rfl⟩
      · rw [if_neg a]; exact m_cho120 hf hg h h1 k k1 hu ⟨fun e => absurd e (by decide), fun e => absurd (d2.mpr e) a⟩
    by_cases a : gl σ 72 f < gl σ 73 g
    · rw [if_pos a]; exact key 0 ⟨fun _ => d1.mp a, fun _ => rfl⟩
    · rw [if_neg a]; exact key 1 ⟨fun e => absurd e (by decide), fun e => absurd (d1.mpr e) a⟩
  · rw [if_neg hw, if_neg hw, zg_pos vf, cf, zg_pos vg, cg]
    show ∃ τ, _ = some τ ∧ mS τ (if p.2 ≤ q.1 then s else if q.2 ≤ p.1 then t else sTog s t) ∧ _
    have key : ∀ u : Int32, (u = 0 ↔ ¬ p.2 ≤ q.1) → ∃ τ, fX9_chosen_68 (Int32.ofNat f) (Int32.ofNat g) w u σ = some τ ∧ mS τ (if p.2 ≤ q.1 then s else if q.2 ≤ p.1 then t else sTog s t) ∧ mEq σ τ := by
      intro u hu
      unfold fX9_chosen_68
      rw [if_neg hw, zg_pos vg, cg, zg_pos vf, cf]
      by_cases a : gl σ 72 f < gl σ 73 g
      · rw [if_pos a]; exact m_cho120 hf hg h h1 k k1 hu ⟨fun _ => d1.mp a, fun _ => rfl⟩
      · rw [if_neg a]; exact m_cho120 hf hg h h1 k k1 hu ⟨fun e => absurd e (by decide), fun e => absurd (d1.mpr e) a⟩
    by_cases a : gl σ 72 g < gl σ 73 f
    · rw [if_pos a]; exact key 0 ⟨fun _ => d2.mp a, fun _ => rfl⟩
    · rw [if_neg a]; exact key 1 ⟨fun e => absurd e (by decide), fun e => absurd (d2.mpr e) a⟩
