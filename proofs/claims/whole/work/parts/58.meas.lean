/-! ShutBench measures a CURVE -/
theorem iNt {n : Nat} (h : n < 2147483648) : (Int32.ofNat n).toInt = (n : Nat) := by
  rw [Int32.toInt_ofNat']
  have e : ((n : Nat) : Int).bmod (2 ^ 32) = (n : Nat) := Int.bmod_eq_of_le (by omega) (by omega)
  exact e
theorem iN_of {x : Int32} {n : Nat} (h : x.toInt = (n : Nat)) : x = Int32.ofNat n := qI_eq.mpr (by have := qI_rng x; rw [iNt (by omega)]; exact h)
theorem iN_s {n : Nat} (h : n + 1 < 2147483648) : Int32.ofNat n + 1 = Int32.ofNat (n + 1) := qI_eq.mpr (by
  have e := iNt (n := n) (by omega)
  rw [qI_add (by rw [e, q1I]; omega) (by rw [e, q1I]; omega), e, q1I, iNt h]; omega)
theorem iN_cl {n : Nat} (h : n < 2147483648) : (Int32.ofNat n).toNatClampNeg = n := tcn (iNt h)
/-- all but what measuring writes is the same -/
def xFr (σ τ : zSt) : Prop := (∀ c k, gi τ c k = gi σ c k) ∧ ∀ c k, ¬ (c = 9 ∨ c = 10 ∨ c = 11 ∨ c = 12 ∨ (c = 3 ∧ (k = 7 ∨ k = 9))) → gl τ c k = gl σ c k
theorem xFr.rf {σ : zSt} : xFr σ σ := ⟨fun _ _ => rfl, fun _ _ _ => rfl⟩
theorem xFr.tr {a b c : zSt} (h : xFr a b) (g : xFr b c) : xFr a c := ⟨fun q k => (g.1 q k).trans (h.1 q k), fun q k hk => (g.2 q k hk).trans (h.2 q k hk)⟩
theorem xFr.sl {σ τ : zSt} (h : xFr σ τ) {c k : Nat} {v : Int64} (hc : c = 9 ∨ c = 10 ∨ c = 11 ∨ c = 12 ∨ (c = 3 ∧ (k = 7 ∨ k = 9))) : xFr σ (sl τ c k v) := ⟨fun q i => by rw [gi_sl]; exact h.1 q i, fun q i hq => by
  rw [gl_sl, if_neg (fun e => hq (by rw [e.1, e.2]; exact hc))]; exact h.2 q i hq⟩
theorem xAct_fr {σ τ : zSt} (h : xFr σ τ) {k j : Nat} {a : qAct} (ha : xAct σ k j a) : xAct τ k j a := by
  have e1 := h.1
  have e2 : gl τ (21 + 4 * k + 2) j = gl σ (21 + 4 * k + 2) j := h.2 _ _ (by omega)
  rcases a with ⟨_ | _ | _ | _ | _ | _ | _ | _ | _ | _ | _ | _ | _ | _ | _ | _ | t, f, g, s⟩ <;> simp only [xAct, e1, e2] at ha ⊢ <;> exact ha
def xCur (C : qCfg) (M : Nat → Nat) (σ : zSt) : Prop := (gi σ 3 8).toInt = (C.N : Nat) ∧ ∀ k, k < C.N → gi σ (21 + 4 * k) 3 = Int32.ofNat (C.len k) ∧ gi σ (21 + 4 * k) 6 = Int32.ofNat (M k) ∧ ∀ j, j < C.len k → xAct σ k j (C.A (60 * k + j))
theorem xCur_fr {C : qCfg} {M : Nat → Nat} {σ τ : zSt} (h : xFr σ τ) (hc : xCur C M σ) : xCur C M τ := ⟨by rw [h.1]; exact hc.1, fun k hk => ⟨by rw [h.1]; exact (hc.2 k hk).1, by rw [h.1]; exact (hc.2 k hk).2.1, fun j hj => xAct_fr h ((hc.2 k hk).2.2 j hj)⟩⟩
theorem xS_hole {s : qSh} (h : xS 4294967296 s) : s = none := by
  cases s with
  | none => rfl
  | some q => exact absurd rfl h.1
theorem xS_not {f : Int64} {s : qSh} (h : xS f s) (hf : ¬ f = 4294967296) : ∃ q, s = some q := by
  cases s with
  | none => exact absurd h hf
  | some q => exact ⟨q, rfl⟩
def xPost (C : qCfg) (sp : qSh) (σ : zSt) (n : Nat) (u : Int32) (o : Option (Int64 × zSt)) : Prop := ∃ r τ, o = some (r, τ) ∧ xFr σ τ ∧ xS r (vA C.A sp (qLast C n)) ∧ (¬ u = 0 → xS (gl τ 3 9) (lA C.A sp (qLast C n)))
def xO (C : qCfg) (M : Nat → Nat) (sp : qSh) (σ : zSt) (n : Nat) (u : Int32) (k : Nat) (τ : zSt) : Prop := xFr σ τ ∧ xS (gl τ 3 7) sp ∧ gl τ 3 9 = 4294967296 ∧ ∀ k', k' < k → qNeed M n k' → xS (gl τ 11 k') (vA C.A sp (qLast C k')) ∧ (¬ u = 0 → xS (gl τ 12 k') (lA C.A sp (qLast C k')))
def xRow (C : qCfg) (sp : qSh) (u : Int32) (k j : Nat) (τ : zSt) : Prop := ∀ j', j' < j → (∃ q, vA C.A sp (60 * k + j') = some q) ∧ xS (gl τ 9 j') (vA C.A sp (60 * k + j')) ∧ (¬ u = 0 → xS (gl τ 10 j') (lA C.A sp (60 * k + j')))
theorem x_m160 {K : Int32 → Int32 → Int32 → Int32 → zSt → Option (Int64 × zSt)} {v1 v4 v5 v8 : Int32} {k : Nat} (hk : k < 8) (σ : zSt) : ∃ r s, fX1_measure_160 K v1 v4 v5 (Int32.ofNat k) v8 σ = K v1 v4 v5 (Int32.ofNat (k + 1)) (sl (sl σ 11 k r) 12 k s) ∧ ∀ j : Nat, (v8 - 1).toInt = (j : Nat) → j < 60 → r = gl σ 9 j ∧ s = gl σ 10 j := by
  obtain ⟨r, r1, r2⟩ := x_row9 (v8 - 1) σ
  obtain ⟨s, s1, s2⟩ := x_row10 (v8 - 1) (sl σ 11 k r)
  refine ⟨r, s, ?_, fun j h1 h2 => ⟨r2 j h1 h2, by rw [s2 j h1 h2, gl_sl, if_neg (by omega)]⟩⟩
  unfold fX1_measure_160
  rw [r1, bd1_some, zg_pos (vin (iNt (by omega)) hk), iN_cl (by omega), s1, bd1_some, zg_pos (vin (iNt (by omega)) hk), nm_eq, iN_s (by omega)]
theorem x_mIn {C : qCfg} {M : Nat → Nat} (hw : qWF C) (hm : xNd C M) {σ : zSt} (h0 : xCur C M σ) {n k : Nat} (hn : n < C.N) (hk : k ≤ n) (hd : qNeed M n k) {sp : qSh} {v1 v4 v5 : Int32} {K : Int32 → Int32 → Int32 → Int32 → zSt → Option (Int64 × zSt)} (hK : ∀ τ, xO C M sp σ n v4 (k + 1) τ → xPost C sp σ n v4 (K v1 v4 v5 (Int32.ofNat (k + 1)) τ)) : ∀ (d j F : Nat) (τ : zSt), d + j = C.len k → d < F → xO C M sp σ n v4 k τ → xRow C sp v4 k j τ → xPost C sp σ n v4 (fX1_measure_L81 K F v1 v4 v5 (Int32.ofNat k) k (Int32.ofNat (C.len k)) (Int32.ofNat j) τ) := by
  have hN := hw.1
  have hkN : k < C.N := by omega
  obtain ⟨hl, hok, -⟩ := hw.2 k hkN
  intro d
  induction d with
  | zero =>
    intro j F τ e hF ho hr
    obtain ⟨G, rfl⟩ : ∃ G, F = G + 1 := ⟨F - 1, by omega⟩
    rw [fX1_measure_L81]
    unfold fX1_measure_81
    have e2 : j = C.len k := by omega
    rw [if_pos (by rw [e2]; exact qI_le.mpr (Int.le_refl _))]
    obtain ⟨r, s, a1, a2⟩ := x_m160 (K := K) (v1 := v1) (v4 := v4) (v5 := v5) (v8 := Int32.ofNat (C.len k)) (k := k) (by omega) τ
    have eI : (Int32.ofNat (C.len k) - 1).toInt = ((C.len k - 1 : Nat) : Int) := by
      have e5 := iNt (n := C.len k) (by omega)
      rw [qI_sub (by rw [e5, q1I]; omega) (by rw [e5, q1I]; omega), e5, q1I]; omega
    obtain ⟨b1, b2⟩ := a2 (C.len k - 1) eI (by omega)
    rw [a1]
    refine hK _ ⟨(ho.1.sl (by omega)).sl (by omega), ?_, ?_, ?_⟩
    · rw [gl_sl, if_neg (by omega), gl_sl, if_neg (by omega)]; exact ho.2.1
    · rw [gl_sl, if_neg (by omega), gl_sl, if_neg (by omega)]; exact ho.2.2.1
    · intro k' h1 h2
      by_cases h3 : k' = k
      · have hq := hr (C.len k - 1) (by omega)
        rw [show 60 * k + (C.len k - 1) = qLast C k by unfold qLast; omega] at hq
        rw [h3]
        refine ⟨?_, fun q => ?_⟩
        · rw [gl_sl, if_neg (by omega), gl_sl, if_pos (by omega), b1]; exact hq.2.1
        · rw [gl_sl, if_pos (by omega), b2]; exact hq.2.2 q
      · obtain ⟨c1, c2⟩ := ho.2.2.2 k' (by omega) h2
        refine ⟨?_, fun q => ?_⟩
        · rw [gl_sl, if_neg (by omega), gl_sl, if_neg (by omega)]; exact c1
        · rw [gl_sl, if_neg (by omega), gl_sl, if_neg (by omega)]; exact c2 q
  | succ d ih =>
    intro j F τ e hF ho hr
    obtain ⟨G, rfl⟩ : ∃ G, F = G + 1 := ⟨F - 1, by omega⟩
    have hj : j < C.len k := by omega
    have ej := iNt (n := j) (by omega)
    have el := iNt (n := C.len k) (by omega)
    rw [fX1_measure_L81]
    unfold fX1_measure_81
    rw [if_neg (by rw [qI_le, ej, el]; omega), if_neg (by rw [qI_le, ej, e60I]; omega)]
    have hst := vA_step hw hkN hj sp
    have hlt := wf_lt hw hkN hj
    have hx : xAct τ k j (C.A (60 * k + j)) := xAct_fr ho.1 ((h0.2 k hkN).2.2 j hj)
    have cur : (C.A (60 * k + j)).1 = 2 → (C.A (60 * k + j)).2.1 < k ∧ (C.A (60 * k + j)).2.2.1 = qLast C (C.A (60 * k + j)).2.1 ∧ qNeed M n (C.A (60 * k + j)).2.1 := fun h2 => by
      obtain ⟨c1, c2, -⟩ := cur_ok (hok j hj) h2
      exact ⟨c1, c2, need_cur hw hm hn hd hj h2⟩
    obtain ⟨r, r1, r2⟩ := x_valueOf (V := vA C.A sp) (by omega) (by omega) ej hx (hok j hj) ho.2.1 (fun j' h => (hr j' h).2.1) (fun h2 => by
      obtain ⟨c1, c2, c3⟩ := cur h2
      rw [c2]; exact (ho.2.2.2 _ c1 c3).1)
    rw [← hst] at r2
    rw [r1, bd1_some, zg_pos (vin ej (by omega)), zg_pos (vin ej (by omega)), tcn ej]
    by_cases hh : r = 4294967296
    · rw [if_pos hh]
      rw [hh] at r2
      have hv := need_hole hw hm hn hd hj (xS_hole r2)
      refine ⟨_, _, rfl, ho.1.sl (by omega), ?_, fun _ => ?_⟩
      · rw [hv]; rfl
      · obtain ⟨ln, -, -⟩ := hw.2 n hn
        have hq : qLast C n = 60 * n + (C.len n - 1) := by unfold qLast; omega
        rw [hq] at hv ⊢
        rw [lA_none (wf_lt hw hn (by omega)) hv, gl_sl, if_neg (by omega)]
        exact ho.2.2.1
    rw [if_neg hh]
    obtain ⟨q, hq⟩ := xS_not r2 hh
    have keep : ∀ s : Int64, xO C M sp σ n v4 k (sl (sl τ 9 j r) 10 j s) := fun s => ⟨(ho.1.sl (by omega)).sl (by omega), by rw [gl_sl, if_neg (by omega), gl_sl, if_neg (by omega)]; exact ho.2.1, by rw [gl_sl, if_neg (by omega), gl_sl, if_neg (by omega)]; exact ho.2.2.1, fun k' h1 h2 => ⟨by rw [gl_sl, if_neg (by omega), gl_sl, if_neg (by omega)]; exact (ho.2.2.2 k' h1 h2).1, fun hu => by rw [gl_sl, if_neg (by omega), gl_sl, if_neg (by omega)]; exact (ho.2.2.2 k' h1 h2).2 hu⟩⟩
    have row : ∀ s : Int64, (¬ v4 = 0 → xS s (lA C.A sp (60 * k + j))) → xRow C sp v4 k (j + 1) (sl (sl τ 9 j r) 10 j s) := fun s hs j' h1 => by
      by_cases h2 : j' = j
      · rw [h2]
        exact ⟨⟨q, hq⟩, by rw [gl_sl, if_neg (by omega), gl_sl, if_pos (by omega)]; exact r2, fun hu => by rw [gl_sl, if_pos (by omega)]; exact hs hu⟩
      · obtain ⟨c1, c2, c3⟩ := hr j' (by omega)
        exact ⟨c1, by rw [gl_sl, if_neg (by omega), gl_sl, if_neg (by omega)]; exact c2, fun hu => by rw [gl_sl, if_neg (by omega), gl_sl, if_neg (by omega)]; exact c3 hu⟩
    by_cases hu : v4 = 0
    · rw [if_pos hu, zg_pos (vin ej (by omega)), nm_eq, iN_s (by omega)]
      exact ih (j + 1) G _ (by omega) (by omega) (keep _) (row _ (fun h => absurd hu h))
    · rw [if_neg hu]
      have fr1 : xFr σ (sl τ 9 j r) := ho.1.sl (by omega)
      obtain ⟨s, s1, s2⟩ := x_leanOf (σ := sl τ 9 j r) (V := vA C.A sp) (L := lA C.A sp) (by omega) (by omega) ej (xAct_fr fr1 ((h0.2 k hkN).2.2 j hj)) (hok j hj) (fun j' h => by
        by_cases h2 : j' = j
        · rw [h2, gl_sl, if_pos (by omega)]; exact r2
        · rw [gl_sl, if_neg (by omega)]; exact (hr j' (by omega)).2.1) (fun j' h => by rw [gl_sl, if_neg (by omega)]; exact (hr j' h).2.2 hu) (fun h2 => by
          obtain ⟨c1, c2, c3⟩ := cur h2
          rw [c2, gl_sl, if_neg (by omega)]; exact (ho.2.2.2 _ c1 c3).2 hu) (fun m hmem => by
          cases hvm : vA C.A sp m with
          | some p => exact ⟨p, rfl⟩
          | none =>
            rw [hst, sAct_none hmem hvm] at hq
            cases hq)
      rw [← lA_some hlt hq] at s2
      rw [s1, bd1_some, zg_pos (vin ej (by omega)), nm_eq, iN_s (by omega)]
      exact ih (j + 1) G _ (by omega) (by omega) (keep _) (row _ (fun _ => s2))
