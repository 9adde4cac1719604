/-! reading a whole text -/
theorem pSim.cg {C : qCfg} {n : Nat} {σ0 τ0 : zSt} {X X' : Int32 → zSt → Option zSt} {M M' : zSt → Option (Int32 × zSt)} {o : Nat} (h : pSim C n σ0 τ0 X M o) (a : ∀ i σ, X' i σ = X i σ) (b : ∀ τ, M' τ = M τ) : pSim C n σ0 τ0 X' M' o := by
  intro p q d A σ τ hx hm
  rw [a, b]
  exact h p q d A σ τ hx hm
theorem sim_lev {C : qCfg} {n : Nat} {β : Nat → Nat} {σ0 τ0 : zSt} (hE : pE C n β σ0 τ0) {o k m : Nat} (ho : o ≤ 12) (a : o < 12 → pSim C n σ0 τ0 (G3 k 0) (G9 (m + 1) 0 0) (o + 1)) (b : o < 12 → pSim C n σ0 τ0 (G3 k 0) (G9 m 0 0) (o + 1)) : pSim C n σ0 τ0 (G3 (k + 5) 0) (G9 (m + 5) 0 0) o := by
  have h3 : pSim C n σ0 τ0 (G3 (k + 2) 3) (G9 (m + 2) 3 0) o := (sim_piece hE ho a b).cg (fun _ _ => rfl) (fun _ => rfl)
  have h2 : pSim C n σ0 τ0 (G3 (k + 3) 2) (G9 (m + 3) 2 0) o := (sim_power hE h3).cg (fun _ _ => rfl) (fun _ => rfl)
  have h1 : pSim C n σ0 τ0 (G3 (k + 4) 1) (G9 (m + 4) 1 0) o := (sim_term hE h2).cg (fun _ _ => rfl) (fun _ => rfl)
  exact (sim_sum hE h1).cg (fun _ _ => rfl) (fun _ => rfl)
theorem sim_all {C : qCfg} {n : Nat} {β : Nat → Nat} {σ0 τ0 : zSt} (hE : pE C n β σ0 τ0) : ∀ (h o k m : Nat), o ≤ 12 → 12 - o ≤ h → 5 * h + 5 ≤ k → 5 * h + 5 ≤ m → pSim C n σ0 τ0 (G3 k 0) (G9 m 0 0) o := by
  intro h
  induction h with
  | zero =>
    intro o k m h1 h2 h3 h4
    obtain ⟨k, rfl⟩ : ∃ k', k = k' + 5 := ⟨k - 5, by omega⟩
    obtain ⟨m, rfl⟩ : ∃ m', m = m' + 5 := ⟨m - 5, by omega⟩
    exact sim_lev hE h1 (fun x => by omega) (fun x => by omega)
  | succ h ih =>
    intro o k m h1 h2 h3 h4
    obtain ⟨k, rfl⟩ : ∃ k', k = k' + 5 := ⟨k - 5, by omega⟩
    obtain ⟨m, rfl⟩ : ∃ m', m = m' + 5 := ⟨m - 5, by omega⟩
    exact sim_lev hE h1 (fun x => ih (o + 1) k (m + 1) (by omega) (by omega) (by omega) (by omega)) (fun x => ih (o + 1) k m (by omega) (by omega) (by omega) (by omega))
def rdX (σ : zSt) (N : Nat) : zSt := si (si (si (si (si σ (21 + 4 * 9) 3 (0 : Int32)) 1 2 (0 : Int32)) 1 3 (0 : Int32)) 1 4 (0 : Int32)) 1 5 (Int32.ofNat N)
def rdM (τ : zSt) : zSt := si (si (si (si (si τ 61 10 (0 : Int32)) 61 11 (0 : Int32)) 61 13 (0 : Int32)) 61 14 (0 : Int32)) 61 15 (0 : Int32)
theorem rdX_gi {σ : zSt} {N c i : Nat} (h : ¬ (c = 57 ∧ i = 3)) (h2 : ¬ (c = 1 ∧ 2 ≤ i ∧ i ≤ 5)) : gi (rdX σ N) c i = gi σ c i := by
  unfold rdX
  rw [gi_si, if_neg (by omega), gi_si, if_neg (by omega), gi_si, if_neg (by omega), gi_si, if_neg (by omega), gi_si, if_neg (by omega)]
theorem rdM_gi {τ : zSt} {c i : Nat} (h : ¬ (c = 61 ∧ 10 ≤ i ∧ i ≤ 15)) : gi (rdM τ) c i = gi τ c i := by
  unfold rdM
  rw [gi_si, if_neg (by omega), gi_si, if_neg (by omega), gi_si, if_neg (by omega), gi_si, if_neg (by omega), gi_si, if_neg (by omega)]
theorem pFx.rf {σ : zSt} : pFx σ σ := ⟨fun _ _ _ => rfl, fun _ _ _ => rfl⟩
theorem pFm.rf {N : Nat} {τ : zSt} : pFm N τ τ := ⟨fun _ _ _ => rfl, fun _ _ _ => rfl⟩
theorem rd_sim {C : qCfg} {M : Nat → Nat} {D : Nat → Int} {S : Nat → Bool} {σ τ : zSt} (h : zI C M D S σ τ) (hN : C.N ≤ 7) : ∃ n, (∃ kd pl σ' τ', fX3_read (Int32.ofNat C.N) σ = some (Int32.ofNat (kd + 4 * pl), σ') ∧ fX9_curve τ = fX9_curve_71 τ' ∧ xBad n (rdX σ C.N) kd pl σ' ∧ mBad C n (rdM τ) kd pl τ') ∨ ∃ q d A σ' τ', fX3_read (Int32.ofNat C.N) σ = some (0, σ') ∧ fX9_curve τ = fX9_curve_71 τ' ∧ 0 < d ∧ tree C.N A 0 d ∧ pX C n (rdX σ C.N) n q d A σ' ∧ pM C (rdM τ) n q d 0 A τ' := by
  obtain ⟨n1, n2, n3⟩ := zI_n h
  obtain ⟨n, β, hn, hb, tx, tm⟩ := tp_of h.2.1
  have e8 : (8 : Int32).toInt = 8 := by decide
  refine ⟨n, ?_⟩
  have hE : pE C n β (rdX σ C.N) (rdM τ) := ⟨hN, hn, hb, ⟨by rw [rdX_gi (by omega) (by omega)]; exact tx.1, fun p hp => by rw [rdX_gi (by omega) (by omega)]; exact tx.2 p hp⟩, ⟨by rw [rdM_gi (by omega)]; exact tm.1, fun p hp => by rw [rdM_gi (by omega)]; exact tm.2 p hp⟩, by unfold rdX; rw [gi_si, if_pos (by omega)], by rw [rdM_gi (by omega)]; exact n2⟩
  have x0 : pX C n (rdX σ C.N) 0 0 0 (fun _ => (0, 0, 0, none)) (rdX σ C.N) := by
    refine ⟨pFx.rf, ?_, ⟨by omega, ?_⟩, ⟨by omega, ?_⟩, ⟨by omega, ?_⟩, fun j hj => by omega⟩ <;> unfold rdX
    · rw [gi_si, if_neg (by omega), gi_si, if_pos (by omega)]
    · rw [gi_si, if_neg (by omega), gi_si, if_neg (by omega), gi_si, if_neg (by omega), gi_si, if_pos (by omega)]; rfl
    · rw [gi_si, if_neg (by omega), gi_si, if_neg (by omega), gi_si, if_pos (by omega)]; rfl
    · rw [gi_si, if_neg (by omega), gi_si, if_neg (by omega), gi_si, if_neg (by omega), gi_si, if_neg (by omega), gi_si, if_pos (by omega)]; rfl
  have m0 : pM C (rdM τ) 0 0 0 0 (fun _ => (0, 0, 0, none)) (rdM τ) := by
    refine ⟨pFm.rf, ?_, ?_, ?_, ?_, ?_, fun j hj => by omega⟩ <;> unfold rdM
    · rw [gi_si, if_neg (by omega), gi_si, if_neg (by omega), gi_si, if_neg (by omega), gi_si, if_pos (by omega)]
    · rw [gi_si, if_neg (by omega), gi_si, if_neg (by omega), gi_si, if_neg (by omega), gi_si, if_neg (by omega), gi_si, if_pos (by omega)]; rfl
    · rw [gi_si, if_pos (by omega)]; rfl
    · rw [gi_si, if_neg (by omega), gi_si, if_neg (by omega), gi_si, if_pos (by omega)]; rfl
    · rw [gi_si, if_neg (by omega), gi_si, if_pos (by omega)]; rfl
  have go := sim_all hE 12 0 70 70 (by omega) (by omega) (by omega) (by omega) 0 0 0 _ _ _ x0 m0
  show (∃ kd pl σ' τ', fX3_read_0 (Int32.ofNat C.N) σ = _ ∧ fX9_curve_0 τ = _ ∧ _) ∨ ∃ q d A σ' τ', fX3_read_0 (Int32.ofNat C.N) σ = _ ∧ fX9_curve_0 τ = _ ∧ _
  unfold fX3_read_0 fX9_curve_0
  rw [n2, if_neg (show ¬ Int32.ofNat C.N = 8 by rw [qI_eq, iNt (by omega), e8]; omega)]
  rw [show si (si (si (si (si σ (21 + 4 * 9) 3 (0 : Int32)) 1 2 (0 : Int32)) 1 3 (0 : Int32)) 1 4 (0 : Int32)) 1 5 (Int32.ofNat C.N) = rdX σ C.N from rfl, show si (si (si (si (si τ 61 10 (0 : Int32)) 61 11 (0 : Int32)) 61 13 (0 : Int32)) 61 14 (0 : Int32)) 61 15 (0 : Int32) = rdM τ from rfl]
  rcases go with ⟨kd, pl, σ1, r, τ1, e1, e2, b1, b2⟩ | ⟨p', q', d', A', σ1, τ1, e1, e2, f1, f2, f3, x1, m1⟩
  · rw [show G3 70 0 0 (rdX σ C.N) = some σ1 from e1, bd1_some, if_neg (xB_ne b1), e2, bd2_some, if_neg (bdB b2), b1.2.2.2.2.2]
    exact Or.inl ⟨kd, pl, _, _, rfl, rfl, b1, b2⟩
  · rw [show G3 70 0 0 (rdX σ C.N) = some σ1 from e1, bd1_some, if_pos x1.2.1, e2, bd2_some, if_pos (bdM m1)]
    obtain ⟨σ2, e3, x2⟩ := sgX hE x1
    obtain ⟨τ2, e4, m2⟩ := pkM hE m1 x1.2.2.1.1
    have so := sk_ok (β := β) hn x1.2.2.1.1
    rw [e3, bd2_some, e4, bd2_some]
    by_cases y : sk n β p' < n
    · have hc : ¬ chI n β (sk n β p') = -1 := fun hh => by
        have := hb _ y
        unfold chI at hh
        rw [if_pos y, qI_eq, iNt (by omega), eM1] at hh
        omega
      obtain ⟨σ3, e5, b3⟩ := refX hE x2 (k := 1) (by omega) (by omega)
      obtain ⟨τ3, e6, b4, -⟩ := failM m2 (n := n) so.2.1 (k := 1) (by omega) (by omega)
      rw [if_neg hc, if_neg hc, show fX3_refuse 1 σ2 = some σ3 from e5, bd1_some, b3.2.2.2.2.2, m2.2.2.1, show fX9_fails 1 (Int32.ofNat (sk n β p')) τ2 = some (0, τ3) from e6, bd2_some]
      exact Or.inl ⟨_, _, _, _, rfl, rfl, b3, b4⟩
    · have hc : chI n β (sk n β p') = -1 := if_neg y
      have hs : sk n β p' = n := by omega
      rw [hs] at x2 m2
      rw [if_pos hc, if_pos hc, x2.2.1]
      exact Or.inr ⟨q', d', A', σ2, τ2, rfl, rfl, by omega, f3, x2, m2⟩
