/-! the slope of an ACT in ShutBench's rows -/
theorem x_wholes {n : Int64} {k : Int} (hn : n.toInt = k) (h0 : 0 ≤ k) (h9 : k ≤ 9) : xS (fX1_wholes n) (sW k) := by
  show xS (fX5_of (n * 1048576) (n * 1048576)) _
  have e1 : (1048576 : Int64).toInt = 1048576 := by decide
  have e : (n * 1048576).toInt = k * 1048576 := by
    rw [qL_mul (by rw [hn, e1]; omega) (by rw [hn, e1]; omega), hn, e1]
  have h := x_of (x := n * 1048576) (y := n * 1048576) (Int.le_refl _)
  rw [e, sOf_in (by omega) (by omega) (by omega)] at h
  exact h
theorem x_leanOfPower {g d l : Int64} {s t : qSh} {i : Nat} (hg : xS g s) (hl : xS l t) (hi : i ≤ 8) (hd : d.toInt = i + 1) : ∃ r, fX1_leanOfPower g d l = some r ∧ xS r (if i = 0 then t else sTimes (sTimes (sW (i + 1)) (sPow s (i - 1))) t) := by
  show ∃ r, fX1_leanOfPower_0 g d l = some r ∧ _
  unfold fX1_leanOfPower_0
  have e1 : (1 : Int64).toInt = 1 := by decide
  by_cases h0 : i = 0
  · rw [if_pos h0, if_pos (by rw [qL_eq, hd, e1]; omega)]
    exact ⟨_, rfl, hl⟩
  · rw [if_neg h0, if_neg (by rw [qL_eq, hd, e1]; omega)]
    obtain ⟨r, r1, r2⟩ := x_power (n := d - 1) (j := i - 1) hg (by omega) (by rw [qL_sub (by rw [hd, e1]; omega) (by rw [hd, e1]; omega), hd, e1]; omega)
    rw [r1, bd1_some]
    exact ⟨_, rfl, x_times (x_times (x_wholes hd (by omega) (by omega)) r2) hl⟩
theorem x_leanOfSize {g l : Int64} {q : Int × Int} {t : qSh} (hg : xS g (some q)) (hl : xS l t) : xS (fX1_leanOfSize g l) (sLSize (some q) t) := by
  obtain ⟨-, h1, h2, -⟩ := hg
  show xS (fX1_leanOfSize_0 g l) (if 0 ≤ q.1 then t else if q.2 ≤ 0 then sNeg t else sTog t (sNeg t))
  unfold fX1_leanOfSize_0
  have e0 : (0 : Int64).toInt = 0 := by decide
  by_cases a : 0 ≤ q.1
  · rw [if_neg (by rw [qL_lt, h1, e0]; omega), if_pos a]; exact hl
  · rw [if_pos (by rw [qL_lt, h1, e0]; omega), if_neg a]
    by_cases b : q.2 ≤ 0
    · rw [if_neg (by rw [qL_lt, h2, e0]; omega), if_pos b]; exact x_turned hl
    · rw [if_pos (by rw [qL_lt, h2, e0]; omega), if_neg b]; exact x_together hl (x_turned hl)
theorem x_leanLes {f g l m : Int64} {p q : Int × Int} {s t : qSh} (hf : xS f (some p)) (hg : xS g (some q)) (hl : xS l s) (hm : xS m t) : ∃ r, (if fX5_isApart f g = 0 then (if fX5_isApart g f = 0 then some (fX5_together l m) else some m) else some l) = some r ∧ xS r (sLLes (some p) (some q) s t) := by
  rw [x_apart hf hg, x_apart hg hf]
  show ∃ r, _ = some r ∧ xS r (if p.2 ≤ q.1 then s else if q.2 ≤ p.1 then t else sTog s t)
  by_cases a : p.2 ≤ q.1
  · rw [if_pos a, if_pos a, if_neg (by decide)]; exact ⟨_, rfl, hl⟩
  · rw [if_neg a, if_neg a, if_pos rfl]
    by_cases b : q.2 ≤ p.1
    · rw [if_pos b, if_pos b, if_neg (by decide)]; exact ⟨_, rfl, hm⟩
    · rw [if_neg b, if_neg b, if_pos rfl]; exact ⟨_, rfl, x_together hl hm⟩
theorem x_leanOf {C : qCfg} {k j : Nat} (hk : k < 8) (hj : j < 60) {i : Int32} (hi : i.toInt = (j : Nat)) {σ : zSt} {a : qAct} (hx : xAct σ k j a) (ho : actOk C k j a) {V L : Nat → qSh} (hv : ∀ j', j' < j + 1 → xS (gl σ 9 j') (V (60 * k + j'))) (hl : ∀ j', j' < j → xS (gl σ 10 j') (L (60 * k + j'))) (hc : a.1 = 2 → xS (gl σ 12 a.2.1) (L a.2.2.1)) (hs : ∀ m, m ∈ qOps a → ∃ q, V m = some q) : ∃ r, fX1_leanOf k i σ = some r ∧ xS r (sLA V L (60 * k + j) a) := by
  obtain ⟨lf, l1, l2⟩ := x_left (show k < 10 by omega) i σ
  obtain ⟨f, f1, f2⟩ := x_row9 lf σ
  obtain ⟨g, g1, g2⟩ := x_row9 (i - 1) σ
  obtain ⟨f', f3, f4⟩ := x_row10 lf σ
  obtain ⟨g', g3, g4⟩ := x_row10 (i - 1) σ
  obtain ⟨v, v1, v2⟩ := x_row9 i σ
  obtain ⟨d, d1, d2⟩ := x_detail (show k < 10 by omega) i σ
  obtain ⟨kd, k1, k2⟩ := x_kind (show k < 10 by omega) i σ
  have l3 := l2 j hi hj
  have d3 := d2 j hi hj
  have k3 := k2 j hi hj
  have v3 : xS v (V (60 * k + j)) := by rw [v2 j hi hj]; exact hv j (by omega)
  unfold fX1_leanOf
  rw [zg_pos (show k < 10 by omega)]
  unfold fX1_leanOf_0
  rw [l1, bd1_some, f1, bd1_some, g1, bd1_some, bd1_some, f3, bd1_some, g3, bd1_some, v1, bd1_some, k1, bd1_some]
  have hg : ∀ m, unOk k j m → xS g (V m) ∧ xS g' (L m) := by
    intro m hm
    obtain ⟨h1, h2⟩ := hm
    have e : (i - 1).toInt = ((j - 1 : Nat) : Int) := by rw [qI_sub (by rw [q1I]; omega) (by rw [q1I]; omega), q1I]; omega
    have a1 : g = gl σ 9 (j - 1) := g2 (j - 1) e (by omega)
    have a2 : g' = gl σ 10 (j - 1) := g4 (j - 1) e (by omega)
    have b1 := hv (j - 1) (by omega)
    have b2 := hl (j - 1) (by omega)
    rw [show 60 * k + (j - 1) = 60 * k + j - 1 by omega] at b1 b2
    rw [a1, a2, h2]
    exact ⟨b1, b2⟩
  have hfg : ∀ m p, biOk k j m p → (gi σ (21 + 4 * k + 3) j).toInt + 60 * k = (m : Nat) → (xS f (V m) ∧ xS f' (L m)) ∧ xS g (V p) ∧ xS g' (L p) := by
    intro m p hm he
    obtain ⟨h1, l, h2, h3⟩ := hm
    refine ⟨?_, hg p ⟨by omega, h1⟩⟩
    have a1 : f = gl σ 9 l := f2 l (by rw [l3]; omega) (by omega)
    have a2 : f' = gl σ 10 l := f4 l (by rw [l3]; omega) (by omega)
    rw [a1, a2, h3]
    exact ⟨hv l (by omega), hl l (by omega)⟩
  obtain ⟨t, af, ag, an⟩ := a
  match t, hx, ho, hc, hs with
  | 0, hx, ho, hc, hs =>
    have e : kd = 0 := k3.trans hx
    rw [e]
    exact ⟨_, rfl, x_wholes (by decide) (by omega) (by omega)⟩
  | 1, hx, ho, hc, hs =>
    have e : kd = 1 := k3.trans hx.1
    rw [e]
    exact ⟨_, rfl, x_wholes (by decide) (by omega) (by omega)⟩
  | 2, hx, ho, hc, hs =>
    have e : kd = 2 := k3.trans hx.1
    rw [e]
    obtain ⟨r, r1, r2⟩ := x_row12 (Int64.toInt32 d) σ
    have r3 := r2 af (l_narrow (by rw [d3]; exact hx.2) (by have := ho.1; omega)) (by have := ho.1; omega)
    refine ⟨r, ?_, by rw [r3]; exact hc rfl⟩
    show (bd1 (fX0_detailAt k i σ) fun x => bd1 (fX1_rowAt_12 (Int64.toInt32 x) σ) fun r => some r) = _
    rw [d1, bd1_some, r1]; rfl
  | 3, hx, ho, hc, hs =>
    have e : kd = 3 := k3.trans hx
    rw [e]
    exact ⟨_, rfl, x_turned (hg ag ho).2⟩
  | 4, hx, ho, hc, hs =>
    have e : kd = 4 := k3.trans hx.1
    rw [e]
    obtain ⟨r, r1, r2⟩ := x_leanOfPower (hg ag ho.1).1 (hg ag ho.1).2 ho.2 (d := d) (by rw [d3]; exact hx.2)
    refine ⟨r, ?_, r2⟩
    show (bd1 (fX0_detailAt k i σ) fun x => bd1 (fX1_leanOfPower g x g') fun r => some r) = _
    rw [d1, bd1_some, r1]; rfl
  | 5, hx, ho, hc, hs =>
    have e : kd = 5 := k3.trans hx
    rw [e]
    obtain ⟨r, r1, r2⟩ := x_over (hg ag ho).2 (x_times (x_wholes (n := 2) (k := 2) (by decide) (by omega) (by omega)) v3)
    refine ⟨r, ?_, r2⟩
    show (bd1 (fX5_over g' (fX5_times (fX1_wholes 2) v)) fun r => some r) = _
    rw [r1]; rfl
  | 6, hx, ho, hc, hs =>
    have e : kd = 6 := k3.trans hx
    rw [e]
    exact ⟨_, rfl, x_times v3 (hg ag ho).2⟩
  | 7, hx, ho, hc, hs =>
    have e : kd = 7 := k3.trans hx
    rw [e]
    obtain ⟨r, r1, r2⟩ := x_over (hg ag ho).2 (hg ag ho).1
    refine ⟨r, ?_, r2⟩
    show (bd1 (fX5_over g' g) fun r => some r) = _
    rw [r1]; rfl
  | 8, hx, ho, hc, hs =>
    have e : kd = 8 := k3.trans hx
    rw [e]
    obtain ⟨r, r1, r2⟩ := x_wave (co := true) (u := 1) (by decide) (hg ag ho).1
    refine ⟨_, ?_, x_times r2 (hg ag ho).2⟩
    show (bd1 (fX4_wave g 1) fun r => some (fX5_times r g')) = _
    rw [r1]; rfl
  | 9, hx, ho, hc, hs =>
    have e : kd = 9 := k3.trans hx
    rw [e]
    obtain ⟨r, r1, r2⟩ := x_wave (co := false) (u := 0) (by decide) (hg ag ho).1
    refine ⟨_, ?_, x_turned (x_times r2 (hg ag ho).2)⟩
    show (bd1 (fX4_wave g 0) fun r => some (fX5_turned (fX5_times r g'))) = _
    rw [r1]; rfl
  | 10, hx, ho, hc, hs =>
    have e : kd = 10 := k3.trans hx
    rw [e]
    obtain ⟨q, hq⟩ := hs ag (List.mem_singleton.mpr rfl)
    obtain ⟨h1, h2⟩ := hg ag ho
    rw [hq] at h1
    refine ⟨_, rfl, ?_⟩
    show xS _ (sLSize (V ag) (L ag))
    rw [hq]
    exact x_leanOfSize h1 h2
  | 11, hx, ho, hc, hs =>
    have e : kd = 11 := k3.trans hx.1
    rw [e]
    obtain ⟨⟨h1, h2⟩, h3, h4⟩ := hfg af ag ho hx.2
    obtain ⟨p, hp⟩ := hs af (List.mem_cons.mpr (Or.inl rfl))
    obtain ⟨q, hq⟩ := hs ag (List.mem_cons.mpr (Or.inr (List.mem_singleton.mpr rfl)))
    rw [hp] at h1
    rw [hq] at h3
    show ∃ r, _ = some r ∧ xS r (sLLes (V af) (V ag) (L af) (L ag))
    rw [hp, hq]
    exact x_leanLes h1 h3 h2 h4
  | 12, hx, ho, hc, hs =>
    have e : kd = 12 := k3.trans hx.1
    rw [e]
    obtain ⟨⟨h1, h2⟩, h3, h4⟩ := hfg af ag ho hx.2
    obtain ⟨p, hp⟩ := hs af (List.mem_cons.mpr (Or.inl rfl))
    obtain ⟨q, hq⟩ := hs ag (List.mem_cons.mpr (Or.inr (List.mem_singleton.mpr rfl)))
    rw [hp] at h1
    rw [hq] at h3
    show ∃ r, _ = some r ∧ xS r (sLLes (V ag) (V af) (L af) (L ag))
    rw [hp, hq]
    exact x_leanLes h3 h1 h2 h4
  | 13, hx, ho, hc, hs =>
    have e : kd = 13 := k3.trans hx.1
    rw [e]
    obtain ⟨⟨h1, h2⟩, h3, h4⟩ := hfg af ag ho hx.2
    exact ⟨_, rfl, x_plus h2 h4⟩
  | 14, hx, ho, hc, hs =>
    have e : kd = 14 := k3.trans hx.1
    rw [e]
    obtain ⟨⟨h1, h2⟩, h3, h4⟩ := hfg af ag ho hx.2
    exact ⟨_, rfl, x_minus h2 h4⟩
  | 15, hx, ho, hc, hs =>
    have e : kd = 15 := k3.trans hx.1
    rw [e]
    obtain ⟨⟨h1, h2⟩, h3, h4⟩ := hfg af ag ho hx.2
    exact ⟨_, rfl, x_plus (x_times h2 h3) (x_times h1 h4)⟩
  | n + 16, hx, ho, hc, hs =>
    have e : kd = 16 := k3.trans hx.1
    rw [e]
    obtain ⟨⟨h1, h2⟩, h3, h4⟩ := hfg af ag ho hx.2
    obtain ⟨w, w1, w2⟩ := x_power (n := 2) (j := 1) h3 (by omega) (by decide)
    obtain ⟨r, r1, r2⟩ := x_over (x_minus (x_times h2 h3) (x_times h1 h4)) w2
    refine ⟨r, ?_, r2⟩
    show (bd1 (fX5_power g 2) fun w => bd1 (fX5_over (fX5_minus (fX5_times f' g) (fX5_times f g')) w) fun r => some r) = _
    rw [w1, bd1_some, r1]; rfl
