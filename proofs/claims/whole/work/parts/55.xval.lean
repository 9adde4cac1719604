/-! the CURVES, and what ShutBench's rows hold of them -/
def qCfg : Type := (Nat → qAct) × (Nat → Nat) × Nat
def qCfg.A (C : qCfg) : Nat → qAct := C.1
def qCfg.len (C : qCfg) : Nat → Nat := C.2.1
def qCfg.N (C : qCfg) : Nat := C.2.2
def unOk (k j g : Nat) : Prop := 1 ≤ j ∧ g = 60 * k + j - 1
def biOk (k j f g : Nat) : Prop := g = 60 * k + j - 1 ∧ ∃ l, l + 1 < j ∧ f = 60 * k + l
def actOk (C : qCfg) (k j : Nat) : qAct → Prop
  | (0, _, _, _) => True
  | (1, _, _, s) => qOk s
  | (2, i, m, _) => i < k ∧ m = 60 * i + C.len i - 1
  | (3, _, g, _) => unOk k j g
  | (4, i, g, _) => unOk k j g ∧ i ≤ 8
  | (5, _, g, _) => unOk k j g
  | (6, _, g, _) => unOk k j g
  | (7, _, g, _) => unOk k j g
  | (8, _, g, _) => unOk k j g
  | (9, _, g, _) => unOk k j g
  | (10, _, g, _) => unOk k j g
  | (11, f, g, _) => biOk k j f g
  | (12, f, g, _) => biOk k j f g
  | (13, f, g, _) => biOk k j f g
  | (14, f, g, _) => biOk k j f g
  | (15, f, g, _) => biOk k j f g
  | (_ + 16, f, g, _) => biOk k j f g
def xAct (σ : zSt) (k j : Nat) : qAct → Prop
  | (0, _, _, _) => gi σ (21 + 4 * k + 1) j = 0
  | (1, _, _, s) => gi σ (21 + 4 * k + 1) j = 1 ∧ xS (gl σ (21 + 4 * k + 2) j) s
  | (2, i, _, _) => gi σ (21 + 4 * k + 1) j = 2 ∧ (gl σ (21 + 4 * k + 2) j).toInt = i
  | (3, _, _, _) => gi σ (21 + 4 * k + 1) j = 3
  | (4, i, _, _) => gi σ (21 + 4 * k + 1) j = 4 ∧ (gl σ (21 + 4 * k + 2) j).toInt = i + 1
  | (5, _, _, _) => gi σ (21 + 4 * k + 1) j = 5
  | (6, _, _, _) => gi σ (21 + 4 * k + 1) j = 6
  | (7, _, _, _) => gi σ (21 + 4 * k + 1) j = 7
  | (8, _, _, _) => gi σ (21 + 4 * k + 1) j = 8
  | (9, _, _, _) => gi σ (21 + 4 * k + 1) j = 9
  | (10, _, _, _) => gi σ (21 + 4 * k + 1) j = 10
  | (11, f, _, _) => gi σ (21 + 4 * k + 1) j = 11 ∧ (gi σ (21 + 4 * k + 3) j).toInt + 60 * k = f
  | (12, f, _, _) => gi σ (21 + 4 * k + 1) j = 12 ∧ (gi σ (21 + 4 * k + 3) j).toInt + 60 * k = f
  | (13, f, _, _) => gi σ (21 + 4 * k + 1) j = 13 ∧ (gi σ (21 + 4 * k + 3) j).toInt + 60 * k = f
  | (14, f, _, _) => gi σ (21 + 4 * k + 1) j = 14 ∧ (gi σ (21 + 4 * k + 3) j).toInt + 60 * k = f
  | (15, f, _, _) => gi σ (21 + 4 * k + 1) j = 15 ∧ (gi σ (21 + 4 * k + 3) j).toInt + 60 * k = f
  | (_ + 16, f, _, _) => gi σ (21 + 4 * k + 1) j = 16 ∧ (gi σ (21 + 4 * k + 3) j).toInt + 60 * k = f
theorem tcn {i : Int32} {n : Nat} (h : i.toInt = (n : Nat)) : i.toNatClampNeg = n := by
  show i.toInt.toNat = n
  omega
theorem vin {i : Int32} {n N : Nat} (h : i.toInt = (n : Nat)) (hn : n < N) : vp_in i N := vp_in_iff.mpr (by omega)
theorem qI_neg0 {i : Int32} : i < 0 ↔ i.toInt < 0 := by rw [qI_lt, q0I]
theorem row_at {α : Type} (A : α) (G : Nat → α) (i N : Int32) {n0 : Nat} (hN : N.toInt = (n0 : Nat)) : ∃ r, (if i < 0 then some A else (if N ≤ i then some A else zg (vp_in i n0) <| some (G i.toNatClampNeg))) = some r ∧ ∀ n : Nat, i.toInt = (n : Nat) → n < n0 → r = G n := by
  by_cases h1 : i < 0
  · rw [if_pos h1]
    rw [qI_neg0] at h1
    exact ⟨A, rfl, fun n h _ => by omega⟩
  rw [if_neg h1]
  rw [qI_neg0] at h1
  by_cases h2 : N ≤ i
  · rw [if_pos h2]
    rw [qI_le] at h2
    exact ⟨A, rfl, fun n h _ => by omega⟩
  rw [if_neg h2]
  rw [qI_le] at h2
  have hi : i.toInt = (i.toInt.toNat : Nat) := by omega
  rw [zg_pos (vin hi (by omega))]
  exact ⟨_, rfl, fun n h _ => by rw [tcn h]⟩
theorem e60I : (60 : Int32).toInt = ((60 : Nat) : Int) := by decide
theorem e8I : (8 : Int32).toInt = ((8 : Nat) : Int) := by decide
theorem x_row9 (i : Int32) (σ : zSt) : ∃ r, fX1_rowAt_9 i σ = some r ∧ ∀ n : Nat, i.toInt = (n : Nat) → n < 60 → r = gl σ 9 n := row_at _ _ i 60 e60I
theorem x_row10 (i : Int32) (σ : zSt) : ∃ r, fX1_rowAt_10 i σ = some r ∧ ∀ n : Nat, i.toInt = (n : Nat) → n < 60 → r = gl σ 10 n := row_at _ _ i 60 e60I
theorem x_row11 (i : Int32) (σ : zSt) : ∃ r, fX1_rowAt_11 i σ = some r ∧ ∀ n : Nat, i.toInt = (n : Nat) → n < 8 → r = gl σ 11 n := row_at _ _ i 8 e8I
theorem x_row12 (i : Int32) (σ : zSt) : ∃ r, fX1_rowAt_12 i σ = some r ∧ ∀ n : Nat, i.toInt = (n : Nat) → n < 8 → r = gl σ 12 n := row_at _ _ i 8 e8I
theorem x_deg (i : Int32) (σ : zSt) : ∃ r, fX1_degreeAt i σ = some r ∧ ∀ n : Nat, i.toInt = (n : Nat) → n < 60 → r = gi σ 8 n := row_at _ _ i 60 e60I
theorem x_kind {k : Nat} (hk : k < 10) (i : Int32) (σ : zSt) : ∃ r, fX0_kindAt k i σ = some r ∧ ∀ n : Nat, i.toInt = (n : Nat) → n < 60 → r = gi σ (21 + 4 * k + 1) n := by
  unfold fX0_kindAt; rw [zg_pos hk]; exact row_at _ _ i 60 e60I
theorem x_detail {k : Nat} (hk : k < 10) (i : Int32) (σ : zSt) : ∃ r, fX0_detailAt k i σ = some r ∧ ∀ n : Nat, i.toInt = (n : Nat) → n < 60 → r = gl σ (21 + 4 * k + 2) n := by
  unfold fX0_detailAt; rw [zg_pos hk]; exact row_at _ _ i 60 e60I
theorem x_left {k : Nat} (hk : k < 10) (i : Int32) (σ : zSt) : ∃ r, fX0_leftAt k i σ = some r ∧ ∀ n : Nat, i.toInt = (n : Nat) → n < 60 → r = gi σ (21 + 4 * k + 3) n := by
  unfold fX0_leftAt; rw [zg_pos hk]; exact row_at _ _ i 60 e60I
theorem l_narrow {x : Int64} {n : Nat} (h : x.toInt = (n : Nat)) (hn : n < 2147483648) : (Int64.toInt32 x).toInt = (n : Nat) := by
  rw [Int64.toInt_toInt32, h, Int.bmod_eq_of_le (by omega) (by omega)]
theorem x_valueOf {C : qCfg} {k j : Nat} (hk : k < 8) (hj : j < 60) {i : Int32} (hi : i.toInt = (j : Nat)) {σ : zSt} {a : qAct} (hx : xAct σ k j a) (ho : actOk C k j a) {sp : qSh} {V : Nat → qSh} (hsp : xS (gl σ 3 7) sp) (hv : ∀ j', j' < j → xS (gl σ 9 j') (V (60 * k + j'))) (hc : a.1 = 2 → xS (gl σ 11 a.2.1) (V a.2.2.1)) : ∃ r, fX1_valueOf k i σ = some r ∧ xS r (sAct sp V a) := by
  obtain ⟨lf, l1, l2⟩ := x_left (show k < 10 by omega) i σ
  obtain ⟨f, f1, f2⟩ := x_row9 lf σ
  obtain ⟨g, g1, g2⟩ := x_row9 (i - 1) σ
  obtain ⟨d, d1, d2⟩ := x_detail (show k < 10 by omega) i σ
  obtain ⟨kd, k1, k2⟩ := x_kind (show k < 10 by omega) i σ
  have l3 := l2 j hi hj
  have d3 := d2 j hi hj
  have k3 := k2 j hi hj
  unfold fX1_valueOf
  rw [zg_pos (show k < 10 by omega)]
  unfold fX1_valueOf_0
  rw [l1, bd1_some, f1, bd1_some, g1, bd1_some, d1, bd1_some, k1, bd1_some]
  have hg : ∀ m, unOk k j m → xS g (V m) := by
    intro m hm
    obtain ⟨h1, h2⟩ := hm
    have : g = gl σ 9 (j - 1) := g2 (j - 1) (by rw [qI_sub (by rw [q1I]; omega) (by rw [q1I]; omega), q1I]; omega) (by omega)
    rw [this, h2]
    have := hv (j - 1) (by omega)
    rw [show 60 * k + (j - 1) = 60 * k + j - 1 by omega] at this
    exact this
  have hfg : ∀ m p, biOk k j m p → (gi σ (21 + 4 * k + 3) j).toInt + 60 * k = (m : Nat) → xS f (V m) ∧ xS g (V p) := by
    intro m p hm he
    obtain ⟨h1, l, h2, h3⟩ := hm
    refine ⟨?_, hg p ⟨by omega, h1⟩⟩
    have : f = gl σ 9 l := f2 l (by rw [l3]; omega) (by omega)
    rw [this, h3]
    exact hv l (by omega)
  obtain ⟨t, af, ag, an⟩ := a
  match t, hx, ho, hc with
  | 0, hx, ho, hc =>
    have e : kd = 0 := k3.trans hx
    rw [e]
    exact ⟨_, rfl, hsp⟩
  | 1, hx, ho, hc =>
    have e : kd = 1 := k3.trans hx.1
    rw [e]
    exact ⟨_, rfl, by rw [d3]; exact hx.2⟩
  | 2, hx, ho, hc =>
    have e : kd = 2 := k3.trans hx.1
    obtain ⟨r, r1, r2⟩ := x_row11 (Int64.toInt32 d) σ
    have r3 := r2 af (l_narrow (by rw [d3]; exact hx.2) (by have := ho.1; omega)) (by have := ho.1; omega)
    rw [e]
    refine ⟨r, ?_, by rw [r3]; exact hc rfl⟩
    show (bd1 (fX1_rowAt_11 (Int64.toInt32 d) σ) fun r => some r) = _
    rw [r1]; rfl
  | 3, hx, ho, hc =>
    have e : kd = 3 := k3.trans hx
    rw [e]
    exact ⟨_, rfl, x_turned (hg ag ho)⟩
  | 4, hx, ho, hc =>
    have e : kd = 4 := k3.trans hx.1
    rw [e]
    obtain ⟨r, r1, r2⟩ := x_power (n := d) (hg ag ho.1) ho.2 (by rw [d3]; exact hx.2)
    refine ⟨r, ?_, r2⟩
    show (bd1 (fX5_power g d) fun r => some r) = _
    rw [r1]; rfl
  | 5, hx, ho, hc =>
    have e : kd = 5 := k3.trans hx
    rw [e]
    obtain ⟨r, r1, r2⟩ := x_root (hg ag ho)
    refine ⟨r, ?_, r2⟩
    show (bd1 (fX5_root g) fun r => some r) = _
    rw [r1]; rfl
  | 6, hx, ho, hc =>
    have e : kd = 6 := k3.trans hx
    rw [e]
    obtain ⟨r, r1, r2⟩ := x_exp (hg ag ho)
    refine ⟨r, ?_, r2⟩
    show (bd1 (fX4_exp g) fun r => some r) = _
    rw [r1]; rfl
  | 7, hx, ho, hc =>
    have e : kd = 7 := k3.trans hx
    rw [e]
    obtain ⟨r, r1, r2⟩ := x_log (hg ag ho)
    refine ⟨r, ?_, r2⟩
    show (bd1 (fX4_log g) fun r => some r) = _
    rw [r1]; rfl
  | 8, hx, ho, hc =>
    have e : kd = 8 := k3.trans hx
    rw [e]
    obtain ⟨r, r1, r2⟩ := x_wave (co := false) (u := 0) (by decide) (hg ag ho)
    refine ⟨r, ?_, r2⟩
    show (bd1 (fX4_wave g 0) fun r => some r) = _
    rw [r1]; rfl
  | 9, hx, ho, hc =>
    have e : kd = 9 := k3.trans hx
    rw [e]
    obtain ⟨r, r1, r2⟩ := x_wave (co := true) (u := 1) (by decide) (hg ag ho)
    refine ⟨r, ?_, r2⟩
    show (bd1 (fX4_wave g 1) fun r => some r) = _
    rw [r1]; rfl
  | 10, hx, ho, hc =>
    have e : kd = 10 := k3.trans hx
    rw [e]
    exact ⟨_, rfl, x_size (hg ag ho)⟩
  | 11, hx, ho, hc =>
    have e : kd = 11 := k3.trans hx.1
    obtain ⟨h1, h2⟩ := hfg af ag ho hx.2
    rw [e]
    exact ⟨_, rfl, x_lesser h1 h2⟩
  | 12, hx, ho, hc =>
    have e : kd = 12 := k3.trans hx.1
    obtain ⟨h1, h2⟩ := hfg af ag ho hx.2
    rw [e]
    exact ⟨_, rfl, x_greater h1 h2⟩
  | 13, hx, ho, hc =>
    have e : kd = 13 := k3.trans hx.1
    obtain ⟨h1, h2⟩ := hfg af ag ho hx.2
    rw [e]
    exact ⟨_, rfl, x_plus h1 h2⟩
  | 14, hx, ho, hc =>
    have e : kd = 14 := k3.trans hx.1
    obtain ⟨h1, h2⟩ := hfg af ag ho hx.2
    rw [e]
    exact ⟨_, rfl, x_minus h1 h2⟩
  | 15, hx, ho, hc =>
    have e : kd = 15 := k3.trans hx.1
    obtain ⟨h1, h2⟩ := hfg af ag ho hx.2
    rw [e]
    exact ⟨_, rfl, x_times h1 h2⟩
  | n + 16, hx, ho, hc =>
    have e : kd = 16 := k3.trans hx.1
    obtain ⟨h1, h2⟩ := hfg af ag ho hx.2
    rw [e]
    obtain ⟨r, r1, r2⟩ := x_over h1 h2
    refine ⟨r, ?_, r2⟩
    show (bd1 (fX5_over f g) fun r => some r) = _
    rw [r1]; rfl
