theorem j9 {j : Nat} (h : j ≤ 8) : j = 0 ∨ j = 1 ∨ j = 2 ∨ j = 3 ∨ j = 4 ∨ j = 5 ∨ j = 6 ∨ j = 7 ∨ j = 8 := by omega
theorem x_odd {n : Int64} {j : Nat} (hj : j ≤ 8) (hn : n.toInt = j + 1) : (n &&& 1) = 1 ↔ j % 2 = 0 := by
  have e : n = Int64.ofNat (j + 1) := by
    rw [qL_eq, hn]
    rcases j9 hj with rfl | rfl | rfl | rfl | rfl | rfl | rfl | rfl | rfl <;> decide
  subst e
  rcases j9 hj with rfl | rfl | rfl | rfl | rfl | rfl | rfl | rfl | rfl <;> decide
theorem m_odd {n : Int32} {j : Nat} (hj : j ≤ 8) (hn : n.toInt = j + 1) : jremI n 2 = 1 ↔ j % 2 = 0 := by
  have e : n = Int32.ofNat (j + 1) := by
    rw [qI_eq, hn]
    rcases j9 hj with rfl | rfl | rfl | rfl | rfl | rfl | rfl | rfl | rfl <;> decide
  subst e
  rcases j9 hj with rfl | rfl | rfl | rfl | rfl | rfl | rfl | rfl | rfl <;> decide
theorem x_abs {x : Int64} (h : -2147483648 ≤ x.toInt) : (if 0 < x then x else -x).toInt = (x.toInt.natAbs : Int) := by
  by_cases q : 0 < x
  · rw [if_pos q]; rw [qL_lt, q0L] at q; omega
  · rw [if_neg q]; rw [qL_lt, q0L] at q; rw [qL_neg (by omega)]; omega
theorem x_of_none {x y : Int64} (h : (x.toInt = 1099511627776 ∨ x.toInt = -1099511627776) ∨ (y.toInt = 1099511627776 ∨ y.toInt = -1099511627776)) : xS (fX5_of x y) none := x_of_hole (by omega)
/-- an end that is known, or is beyond all -/
def xEnd (x : Int64) (g : Option Int) : Prop := match g with
  | some v => x.toInt = v
  | none => x.toInt = 1099511627776 ∨ x.toInt = -1099511627776
theorem x_ends {x y : Int64} {a b : Option Int} (ha : xEnd x a) (hb : xEnd y b) (hle : ∀ l h, a = some l → b = some h → l ≤ h) : xS (fX5_of x y) (sEnds a b) := by
  cases a with
  | none => cases b <;> exact x_of_none (Or.inl ha)
  | some l => cases b with
    | none => exact x_of_none (Or.inr hb)
    | some h =>
      have e1 : x.toInt = l := ha
      have e2 : y.toInt = h := hb
      exact (x_of (by rw [e1, e2]; exact hle l h rfl rfl)).eq (by rw [e1, e2]; rfl)
theorem xEnd_p {x : Int64} {g : Option Int} (h : x.toInt = g.getD 1099511627776) : xEnd x g := by
  cases g with
  | none => exact Or.inl h
  | some v => exact h
theorem xEnd_n {x : Int64} {g : Option Int} (hg : ∀ v, g = some v → 0 ≤ v ∧ v ≤ 2147483648) (h : x.toInt = g.getD 1099511627776) : xEnd (-x) (g.map (fun z => -z)) := by
  cases g with
  | none =>
    have h : x.toInt = 1099511627776 := h
    exact Or.inr (by rw [qL_neg (by omega), h])
  | some v =>
    have h : x.toInt = v := h
    have := hg v rfl
    show (-x).toInt = -v
    rw [qL_neg (by omega), h]
theorem s_lo {a b : Int} {j : Nat} (ha : -2147483648 ≤ a) (hab : a ≤ b) (l h : Int) (hl : (if 0 ≤ a then gr false a j else (gr true (-a) j).map (fun z => -z)) = some l) (hh : (if 0 ≤ b then gr true b j else (gr false (-b) j).map (fun z => -z)) = some h) : l ≤ h := by
  by_cases h0 : 0 ≤ a
  · rw [if_pos h0] at hl
    rw [if_pos (show 0 ≤ b by omega)] at hh
    exact gr_mono h0 hab j hl hh
  · rw [if_neg h0] at hl
    cases hg : gr true (-a) j with
    | none => rw [hg] at hl; cases hl
    | some z =>
      rw [hg] at hl
      have hl := Option.some.inj hl
      dsimp only at hl
      have hz := gr_bd (by omega) j hg
      by_cases h1 : 0 ≤ b
      · rw [if_pos h1] at hh
        have := gr_bd h1 j hh
        omega
      · rw [if_neg h1] at hh
        cases hk : gr false (-b) j with
        | none => rw [hk] at hh; cases hh
        | some y =>
          rw [hk] at hh
          have hh := Option.some.inj hh
          dsimp only at hh
          have := gr_mono (show 0 ≤ -b by omega) (show -b ≤ -a by omega) j hk hg
          omega
theorem x_power {f n : Int64} {s : qSh} {j : Nat} (hf : xS f s) (hj : j ≤ 8) (hn : n.toInt = j + 1) : ∃ r, fX5_power f n = some r ∧ xS r (sPow s j) := by
  cases s with
  | none =>
    refine ⟨_, ?_, hf⟩
    show fX5_power_0 f n = some f
    unfold fX5_power_0
    rw [if_pos (show f = 4294967296 from hf), show f = 4294967296 from hf]
  | some q =>
  obtain ⟨f0, f1, f2, f3, f4, f5⟩ := hf
  have ho := x_odd hj hn
  show ∃ r, fX5_power_0 f n = some r ∧ xS r (if j % 2 = 0 then _ else _)
  unfold fX5_power_0 fX5_power_110 nm
  rw [if_neg f0]
  generalize fX5_lowOf f = a at f1 ⊢
  generalize fX5_highOf f = b at f2 ⊢
  dsimp only
  have na : (-a).toInt = -q.1 := by rw [qL_neg (by omega), f1]
  have nb : (-b).toInt = -q.2 := by rw [qL_neg (by omega), f2]
  by_cases hod : j % 2 = 0
  · rw [if_pos hod, if_pos (ho.mpr hod)]
    have hi : ∀ t0 : Int64, xEnd t0 (if 0 ≤ q.1 then gr false q.1 j else (gr true (-q.1) j).map (fun z => -z)) → ∃ r, fX5_power_56 n b t0 = some r ∧ xS r (sEnds (if 0 ≤ q.1 then gr false q.1 j else (gr true (-q.1) j).map (fun z => -z)) (if 0 ≤ q.2 then gr true q.2 j else (gr false (-q.2) j).map (fun z => -z))) := by
      intro t0 ht
      unfold fX5_power_56 nm
      by_cases hb : (0 : Int64) ≤ b
      · rw [if_pos hb]
        rw [qL_le, q0L, f2] at hb
        obtain ⟨r, h1, h2⟩ := x_grownUp (s := b) (n := n) (by omega) (j := j) (by omega) hn
        simp only [h1, bd1]
        refine ⟨_, rfl, ?_⟩
        rw [f2] at h2
        refine x_ends ht ?_ (fun l h => s_lo f3 f4 l h)
        rw [if_pos hb]
        exact xEnd_p h2
      · rw [if_neg hb]
        rw [qL_le, q0L, f2] at hb
        obtain ⟨r, h1, h2⟩ := x_grownDown (s := -b) (n := n) (by omega) (j := j) (by omega) hn
        simp only [h1, bd1]
        refine ⟨_, rfl, ?_⟩
        rw [nb] at h2
        refine x_ends ht ?_ (fun l h => s_lo f3 f4 l h)
        rw [if_neg hb]
        exact xEnd_n (fun v hv => gr_bd (by omega) j hv) h2
    by_cases ha : (0 : Int64) ≤ a
    · rw [if_pos ha]
      rw [qL_le, q0L, f1] at ha
      obtain ⟨r, h1, h2⟩ := x_grownDown (s := a) (n := n) (by omega) (j := j) (by omega) hn
      simp only [h1, bd1]
      rw [f1] at h2
      exact hi r (by rw [if_pos ha]; exact xEnd_p h2)
    · rw [if_neg ha]
      rw [qL_le, q0L, f1] at ha
      obtain ⟨r, h1, h2⟩ := x_grownUp (s := -a) (n := n) (by omega) (j := j) (by omega) hn
      simp only [h1, bd1]
      rw [na] at h2
      exact hi (-r) (by rw [if_neg ha]; exact xEnd_n (fun v hv => gr_bd (by omega) j hv) h2)
  · rw [if_neg hod, if_neg (fun h => hod (ho.mp h))]
    have aa := x_abs (x := a) (by omega)
    have ab := x_abs (x := b) (by omega)
    rw [f1] at aa
    rw [f2] at ab
    generalize (if 0 < a then a else -a) = A at aa ⊢
    generalize (if 0 < b then b else -b) = B at ab ⊢
    have mx : (if B < A then A else B).toInt = max (q.1.natAbs : Int) (q.2.natAbs : Int) := by
      rw [show (if B < A then A else B).toInt = max A.toInt B.toInt by
        by_cases h : B < A
        · rw [if_pos h]; rw [qL_lt] at h; omega
        · rw [if_neg h]; rw [qL_lt] at h; omega, aa, ab]
    have mn : (if B < A then B else A).toInt = min (q.1.natAbs : Int) (q.2.natAbs : Int) := by rw [x_min, aa, ab]
    obtain ⟨u, u1, u2⟩ := x_grownUp (s := (if B < A then A else B)) (n := n) (by rw [mx]; omega) (j := j) (by omega) hn
    rw [mx] at u2
    have fin : ∀ (z : Int64) (zi : Int), z.toInt = zi → 0 ≤ zi → zi ≤ max (q.1.natAbs : Int) (q.2.natAbs : Int) → ∃ r, fX5_grownDown z n = some r ∧ xS (fX5_of r u) (sEnds (gr false zi j) (gr true (max (q.1.natAbs : Int) (q.2.natAbs : Int)) j)) := by
      intro z zi hz h0 hm
      obtain ⟨r, h1, h2⟩ := x_grownDown (s := z) (n := n) (by omega) (j := j) (by omega) hn
      rw [hz] at h2
      exact ⟨r, h1, x_ends (xEnd_p h2) (xEnd_p u2) (fun l h e1 e2 => gr_mono h0 hm j e1 e2)⟩
    have p110 : ¬ (q.1 ≤ 0 ∧ 0 ≤ q.2) → ∃ r, (bd1 (fX5_grownDown (if B < A then B else A) n) fun r128_2 => nm (if B < A then A else B) fun x141_3 => bd1 (fX5_grownUp x141_3 n) fun r145_4 => some (fX5_of r128_2 r145_4)) = some r ∧ xS r (sEnds (gr false (if q.1 ≤ 0 ∧ 0 ≤ q.2 then 0 else min (q.1.natAbs : Int) (q.2.natAbs : Int)) j) (gr true (max (q.1.natAbs : Int) (q.2.natAbs : Int)) j)) := by
      intro hz
      obtain ⟨r, h1, h2⟩ := fin (if B < A then B else A) _ mn (by omega) (by omega)
      rw [if_neg hz]
      refine ⟨_, ?_, h2⟩
      simp only [h1, u1, bd1, nm]
    by_cases ha : (0 : Int64) < a
    · rw [if_pos ha]
      rw [qL_lt, q0L, f1] at ha
      exact p110 (by omega)
    · rw [if_neg ha]
      rw [qL_lt, q0L, f1] at ha
      by_cases hb : b < (0 : Int64)
      · rw [if_pos hb]
        rw [qL_lt, q0L, f2] at hb
        exact p110 (by omega)
      · rw [if_neg hb]
        rw [qL_lt, q0L, f2] at hb
        rw [if_pos (show q.1 ≤ 0 ∧ 0 ≤ q.2 by omega)]
        obtain ⟨r, h1, h2⟩ := fin 0 0 q0L (by omega) (by omega)
        refine ⟨_, ?_, h2⟩
        simp only [h1, u1, bd1]
