/-! reading: what holds in between, on either side -/
def xT (κ : Int32) (dt : Int64) (lf : Int32) (k : Nat) : qAct → Prop
  | (0, _, _, _) => κ = 0
  | (1, _, _, s) => κ = 1 ∧ xS dt s
  | (2, i, _, _) => κ = 2 ∧ dt.toInt = i
  | (3, _, _, _) => κ = 3
  | (4, i, _, _) => κ = 4 ∧ dt.toInt = i + 1
  | (5, _, _, _) => κ = 5
  | (6, _, _, _) => κ = 6
  | (7, _, _, _) => κ = 7
  | (8, _, _, _) => κ = 8
  | (9, _, _, _) => κ = 9
  | (10, _, _, _) => κ = 10
  | (11, f, _, _) => κ = 11 ∧ lf.toInt + 60 * k = f
  | (12, f, _, _) => κ = 12 ∧ lf.toInt + 60 * k = f
  | (13, f, _, _) => κ = 13 ∧ lf.toInt + 60 * k = f
  | (14, f, _, _) => κ = 14 ∧ lf.toInt + 60 * k = f
  | (15, f, _, _) => κ = 15 ∧ lf.toInt + 60 * k = f
  | (_ + 16, f, _, _) => κ = 16 ∧ lf.toInt + 60 * k = f
theorem xT_act {σ : zSt} {k j : Nat} {a : qAct} (h : xT (gi σ (21 + 4 * k + 1) j) (gl σ (21 + 4 * k + 2) j) (gi σ (21 + 4 * k + 3) j) k a) : xAct σ k j a := by
  rcases a with ⟨_ | _ | _ | _ | _ | _ | _ | _ | _ | _ | _ | _ | _ | _ | _ | _ | t, f, g, s⟩ <;> exact h
theorem mAct_cg {σ τ : zSt} {n : Nat} (e1 : gi τ 64 n = gi σ 64 n) (e2 : gi τ 65 n = gi σ 65 n) (e3 : gi τ 66 n = gi σ 66 n) (e4 : gl τ 67 n = gl σ 67 n) (e5 : gl τ 68 n = gl σ 68 n) {a : qAct} (ha : mAct σ n a) : mAct τ n a := by
  rcases a with ⟨_ | _ | _ | _ | _ | _ | _ | _ | _ | _ | _ | _ | _ | _ | _ | _ | t, f, g, s⟩ <;> simp only [mAct, e1, e2, e3, e4, e5] at ha ⊢ <;> exact ha
def pFx (σ0 σ : zSt) : Prop := (∀ c i, ¬ ((c = 1 ∧ 2 ≤ i ∧ i ≤ 4) ∨ (c = 57 ∧ i = 3) ∨ c = 58 ∨ c = 60) → gi σ c i = gi σ0 c i) ∧ ∀ c i, ¬ c = 59 → gl σ c i = gl σ0 c i
def pFm (N : Nat) (τ0 τ : zSt) : Prop := (∀ c i, ¬ ((c = 61 ∧ 10 ≤ i ∧ i ≤ 15) ∨ (64 ≤ c ∧ c ≤ 66 ∧ 60 * N ≤ i)) → gi τ c i = gi τ0 c i) ∧ ∀ c i, ¬ ((c = 67 ∨ c = 68) ∧ 60 * N ≤ i) → gl τ c i = gl τ0 c i
theorem pFx.si {σ0 σ : zSt} (h : pFx σ0 σ) {c i : Nat} {v : Int32} (hc : (c = 1 ∧ 2 ≤ i ∧ i ≤ 4) ∨ (c = 57 ∧ i = 3) ∨ c = 58 ∨ c = 60) : pFx σ0 (si σ c i v) := ⟨fun c' i' q => by
  rw [gi_si, if_neg (fun e => q (by rw [e.1, e.2]; exact hc))]; exact h.1 c' i' q, fun c' i' q => by rw [gl_si]; exact h.2 c' i' q⟩
theorem pFx.sl {σ0 σ : zSt} (h : pFx σ0 σ) {i : Nat} {v : Int64} : pFx σ0 (sl σ 59 i v) := ⟨fun c' i' q => by rw [gi_sl]; exact h.1 c' i' q, fun c' i' q => by
  rw [gl_sl, if_neg (fun e => q e.1)]; exact h.2 c' i' q⟩
theorem pFm.si {N : Nat} {τ0 τ : zSt} (h : pFm N τ0 τ) {c i : Nat} {v : Int32} (hc : (c = 61 ∧ 10 ≤ i ∧ i ≤ 15) ∨ (64 ≤ c ∧ c ≤ 66 ∧ 60 * N ≤ i)) : pFm N τ0 (si τ c i v) := ⟨fun c' i' q => by
  rw [gi_si, if_neg (fun e => q (by rw [e.1, e.2]; exact hc))]; exact h.1 c' i' q, fun c' i' q => by rw [gl_si]; exact h.2 c' i' q⟩
theorem pFm.sl {N : Nat} {τ0 τ : zSt} (h : pFm N τ0 τ) {c i : Nat} {v : Int64} (hc : (c = 67 ∨ c = 68) ∧ 60 * N ≤ i) : pFm N τ0 (sl τ c i v) := ⟨fun c' i' q => by rw [gi_sl]; exact h.1 c' i' q, fun c' i' q => by
  rw [gl_sl, if_neg (fun e => q (by rw [e.1, e.2]; exact hc))]; exact h.2 c' i' q⟩
def pE (C : qCfg) (n : Nat) (β : Nat → Nat) (σ0 τ0 : zSt) : Prop := C.N ≤ 7 ∧ n ≤ 200 ∧ (∀ p, p < n → β p < 256) ∧ tpX n β σ0 ∧ tpM n β τ0 ∧ gi σ0 1 5 = Int32.ofNat C.N ∧ gi τ0 61 3 = Int32.ofNat C.N
def pX (C : qCfg) (n : Nat) (σ0 : zSt) (p q d : Nat) (A : Nat → qAct) (σ : zSt) : Prop := pFx σ0 σ ∧ gi σ 1 4 = 0 ∧ (p ≤ n ∧ gi σ 1 2 = Int32.ofNat p) ∧ (q ≤ 60 ∧ gi σ 1 3 = Int32.ofNat q) ∧ (d ≤ q ∧ gi σ 57 3 = Int32.ofNat d) ∧ ∀ j, j < d → actOk C C.N j (A j) ∧ xT (gi σ 58 j) (gl σ 59 j) (gi σ 60 j) C.N (A j)
def pM (C : qCfg) (τ0 : zSt) (p q d o : Nat) (A : Nat → qAct) (τ : zSt) : Prop := pFm C.N τ0 τ ∧ gi τ 61 11 = 0 ∧ gi τ 61 10 = Int32.ofNat p ∧ gi τ 61 15 = Int32.ofNat q ∧ gi τ 61 13 = Int32.ofNat d ∧ gi τ 61 14 = Int32.ofNat o ∧ ∀ j, j < d → mAct τ (60 * C.N + j) (A j)
def xBad (n : Nat) (σ0 : zSt) (kd pl : Nat) (σ : zSt) : Prop := pFx σ0 σ ∧ 1 ≤ kd ∧ kd ≤ 3 ∧ pl ≤ n ∧ n ≤ 200 ∧ gi σ 1 4 = Int32.ofNat (kd + 4 * pl)
def mBad (C : qCfg) (n : Nat) (τ0 : zSt) (kd pl : Nat) (τ : zSt) : Prop := pFm C.N τ0 τ ∧ 1 ≤ kd ∧ kd ≤ 3 ∧ pl ≤ n ∧ gi τ 61 11 = Int32.ofNat kd ∧ gi τ 61 12 = Int32.ofNat pl
def upA (A : Nat → qAct) (d : Nat) (a : qAct) : Nat → qAct := fun j => if j = d then a else A j
theorem upA_lt {A : Nat → qAct} {d j : Nat} {a : qAct} (h : j < d) : upA A d a j = A j := if_neg (by omega)
theorem upA_at {A : Nat → qAct} {d : Nat} {a : qAct} : upA A d a d = a := if_pos rfl
theorem tp_X {C : qCfg} {n : Nat} {β : Nat → Nat} {σ0 τ0 σ : zSt} (hE : pE C n β σ0 τ0) (h : pFx σ0 σ) : tpX n β σ := ⟨by rw [h.1 _ _ (by omega)]; exact hE.2.2.2.1.1, fun p hp => by rw [h.1 _ _ (by omega)]; exact hE.2.2.2.1.2 p hp⟩
theorem tp_M {C : qCfg} {n : Nat} {β : Nat → Nat} {σ0 τ0 τ : zSt} (hE : pE C n β σ0 τ0) (h : pFm C.N τ0 τ) : tpM n β τ := ⟨by rw [h.1 _ _ (by omega)]; exact hE.2.2.2.2.1.1, fun p hp => by rw [h.1 _ _ (by omega)]; exact hE.2.2.2.2.1.2 p hp⟩
/-! ShutBench's steps -/
theorem atX {C : qCfg} {n : Nat} {σ0 σ : zSt} {p q d : Nat} {A : Nat → qAct} (h : pX C n σ0 p q d A σ) {p' : Nat} (hp : p' ≤ n) : pX C n σ0 p' q d A (si σ 1 2 (Int32.ofNat p')) := by
  obtain ⟨h1, h2, h3, h4, h5, h6⟩ := h
  refine ⟨h1.si (by omega), by rw [gi_si, if_neg (by omega)]; exact h2, ⟨hp, by rw [gi_si, if_pos (by omega)]⟩, ⟨h4.1, by rw [gi_si, if_neg (by omega)]; exact h4.2⟩, ⟨h5.1, by rw [gi_si, if_neg (by omega)]; exact h5.2⟩, fun j hj => ?_⟩
  rw [gi_si, if_neg (by omega), gi_si, if_neg (by omega), gl_si]
  exact h6 j hj
theorem sgX {C : qCfg} {n : Nat} {β : Nat → Nat} {σ0 τ0 σ : zSt} (hE : pE C n β σ0 τ0) {p q d : Nat} {A : Nat → qAct} (h : pX C n σ0 p q d A σ) : ∃ σ', fX3_sign σ = some (chI n β (sk n β p), σ') ∧ pX C n σ0 (sk n β p) q d A σ' := ⟨_, x_sign hE.2.1 hE.2.2.1 h.2.2.1.1 (tp_X hE h.1) h.2.2.1.2, atX h (sk_ok hE.2.1 h.2.2.1.1).2.1⟩
theorem metX {C : qCfg} {n : Nat} {β : Nat → Nat} {σ0 τ0 σ : zSt} (hE : pE C n β σ0 τ0) {p q d : Nat} {A : Nat → qAct} (h : pX C n σ0 p q d A σ) : (q < 60 ∧ ∃ σ', fX3_meet σ = some (1, σ') ∧ pX C n σ0 p (q + 1) d A σ') ∨ (q = 60 ∧ ∃ σ', fX3_meet σ = some (0, σ') ∧ xBad n σ0 3 p σ') := by
  obtain ⟨h1, h2, h3, h4, h5, h6⟩ := h
  show (_ ∧ ∃ σ', fX3_meet_0 σ = _ ∧ _) ∨ (_ ∧ ∃ σ', fX3_meet_0 σ = _ ∧ _)
  unfold fX3_meet_0
  have e60 : (60 : Int32).toInt = 60 := by decide
  by_cases x : q < 60
  · rw [if_pos (show gi σ 1 3 < 60 by rw [h4.2, qI_lt, iNt (by omega), e60]; omega), h4.2, iN_s (by omega)]
    refine Or.inl ⟨x, _, rfl, h1.si (by omega), by rw [gi_si, if_neg (by omega)]; exact h2, ⟨h3.1, by rw [gi_si, if_neg (by omega)]; exact h3.2⟩, ⟨by omega, by rw [gi_si, if_pos (by omega)]⟩, ⟨by omega, by rw [gi_si, if_neg (by omega)]; exact h5.2⟩, fun j hj => ?_⟩
    rw [gi_si, if_neg (by omega), gi_si, if_neg (by omega), gl_si]
    exact h6 j hj
  · rw [if_neg (show ¬ gi σ 1 3 < 60 by rw [h4.2, qI_lt, iNt (by omega), e60]; omega)]
    have er : fX3_refuse 3 σ = some (si σ 1 4 (Int32.ofNat (3 + 4 * p))) := by
      show fX3_refuse_0 3 σ = _
      unfold fX3_refuse_0
      have hh := hE.2.1
      have e3 : (3 : Int32).toInt = 3 := by decide
      have e : (3 : Int32) + 4 * gi σ 1 2 = Int32.ofNat (3 + 4 * p) := by
        have a : (4 * gi σ 1 2).toInt = 4 * (p : Int) := by
          rw [h3.2, Int32.toInt_mul, e4I, iNt (by omega), Int.bmod_def]; omega
        rw [qI_eq, qI_add (by rw [a, e3]; omega) (by rw [a, e3]; omega), a, e3, iNt (by omega)]; omega
      rw [if_pos h2, nm_eq, e]
    rw [er, bd1_some]
    exact Or.inr ⟨by omega, _, rfl, h1.si (by omega), by omega, by omega, h3.1, hE.2.1, by rw [gi_si, if_pos (by omega)]⟩
theorem refX {C : qCfg} {n : Nat} {β : Nat → Nat} {σ0 τ0 σ : zSt} (hE : pE C n β σ0 τ0) {p q d : Nat} {A : Nat → qAct} (h : pX C n σ0 p q d A σ) {k : Nat} (k1 : 1 ≤ k) (k3 : k ≤ 3) : ∃ σ', fX3_refuse (Int32.ofNat k) σ = some σ' ∧ xBad n σ0 k p σ' := by
  obtain ⟨h1, h2, h3, h4, h5, h6⟩ := h
  show ∃ σ', fX3_refuse_0 (Int32.ofNat k) σ = _ ∧ _
  unfold fX3_refuse_0
  have hh := hE.2.1
  have e : Int32.ofNat k + 4 * gi σ 1 2 = Int32.ofNat (k + 4 * p) := by
    have a : (4 * gi σ 1 2).toInt = 4 * (p : Int) := by
      rw [h3.2, Int32.toInt_mul, e4I, iNt (by omega), Int.bmod_def]; omega
    have b := iNt (n := k) (by omega)
    rw [qI_eq, qI_add (by rw [a, b]; omega) (by rw [a, b]; omega), a, b, iNt (by omega)]; omega
  rw [if_pos h2, nm_eq, e]
  exact ⟨_, rfl, h1.si (by omega), k1, k3, h3.1, hh, by rw [gi_si, if_pos (by omega)]⟩
theorem emitX {C : qCfg} {n : Nat} {σ0 σ : zSt} {p q d : Nat} {A : Nat → qAct} (h : pX C n σ0 p q d A σ) (hd : d < q) {κ : Int32} {dt : Int64} {lf : Int32} {a : qAct} (ho : actOk C C.N d a) (hx : xT κ dt lf C.N a) : ∃ σ', fX3_emit κ dt lf σ = some σ' ∧ pX C n σ0 p q (d + 1) (upA A d a) σ' := by
  obtain ⟨h1, h2, h3, h4, h5, h6⟩ := h
  show ∃ σ', fX3_emit_0 κ dt lf σ = _ ∧ _
  unfold fX3_emit_0
  have e60 : (60 : Int32).toInt = 60 := by decide
  have ed := iNt (n := d) (by omega)
  have g : gi σ (21 + 4 * 9) 3 = Int32.ofNat d := h5.2
  rw [if_pos h2]
  have ea : fX0_add 9 κ dt lf σ = some (si (si (sl (si σ 58 d κ) 59 d dt) 60 d lf) 57 3 (Int32.ofNat (d + 1))) := by
    show zg (9 < 10) (fX0_add_0 9 κ dt lf σ) = _
    rw [zg_pos (by omega)]
    unfold fX0_add_0
    have v := vin (N := 60) ed (by omega)
    have g2 : gi (si σ (21 + 4 * 9 + 1) d κ) (21 + 4 * 9) 3 = Int32.ofNat d := by rw [gi_si, if_neg (by omega)]; exact g
    have g3 : gi (si (sl (si σ (21 + 4 * 9 + 1) d κ) (21 + 4 * 9 + 2) d dt) (21 + 4 * 9 + 3) d lf) (21 + 4 * 9) 3 = Int32.ofNat d := by rw [gi_si, if_neg (by omega), gi_sl]; exact g2
    rw [g, if_neg (show ¬ Int32.ofNat d < 0 by rw [qI_neg0, ed]; omega), if_neg (show ¬ (60 : Int32) ≤ Int32.ofNat d by rw [qI_le, e60, ed]; omega), zg_pos v, iN_cl (n := d) (by omega), nm_eq, g2, zg_pos v, nm_eq, zg_pos v, nm_eq, iN_cl (n := d) (by omega), g3, iN_s (by omega)]
  rw [ea, bd1_some]
  refine ⟨_, rfl, (((h1.si (by omega)).sl).si (by omega)).si (by omega), ?_, ⟨h3.1, ?_⟩, ⟨h4.1, ?_⟩, ⟨by omega, by rw [gi_si, if_pos (by omega)]⟩, fun j hj => ?_⟩
  · rw [gi_si, if_neg (by omega), gi_si, if_neg (by omega), gi_sl, gi_si, if_neg (by omega)]; exact h2
  · rw [gi_si, if_neg (by omega), gi_si, if_neg (by omega), gi_sl, gi_si, if_neg (by omega)]; exact h3.2
  · rw [gi_si, if_neg (by omega), gi_si, if_neg (by omega), gi_sl, gi_si, if_neg (by omega)]; exact h4.2
  · by_cases x : j = d
    · rw [x, upA_at]
      refine ⟨ho, ?_⟩
      rw [gi_si, if_neg (by omega), gi_si, if_neg (by omega), gi_sl, gi_si, if_pos (by omega), gl_si, gl_si, gl_sl, if_pos (by omega), gi_si, if_neg (by omega), gi_si, if_pos (by omega)]
      exact hx
    · rw [upA_lt (by omega)]
      rw [gi_si, if_neg (by omega), gi_si, if_neg (by omega), gi_sl, gi_si, if_neg (by omega), gl_si, gl_si, gl_sl, if_neg (by omega), gl_si, gi_si, if_neg (by omega), gi_si, if_neg (by omega), gi_sl, gi_si, if_neg (by omega)]
      exact h6 j (by omega)
/-! ShutBench's steps behind a fault -/
theorem xB_ne {n : Nat} {σ0 σ : zSt} {kd pl : Nat} (h : xBad n σ0 kd pl σ) : ¬ gi σ 1 4 = 0 := by
  obtain ⟨-, h1, h2, h3, h4, h5⟩ := h
  rw [h5, qI_eq, q0I, iNt (by omega)]
  omega
theorem emitB {n : Nat} {σ0 σ : zSt} {kd pl : Nat} (h : xBad n σ0 kd pl σ) (κ : Int32) (dt : Int64) (lf : Int32) : fX3_emit κ dt lf σ = some σ := by
  show fX3_emit_0 κ dt lf σ = _
  unfold fX3_emit_0
  rw [if_neg (xB_ne h)]
theorem refB {n : Nat} {σ0 σ : zSt} {kd pl : Nat} (h : xBad n σ0 kd pl σ) (k : Int32) : fX3_refuse k σ = some σ := by
  show fX3_refuse_0 k σ = _
  unfold fX3_refuse_0
  rw [if_neg (xB_ne h)]
theorem atB {n : Nat} {σ0 σ : zSt} {kd pl : Nat} (h : xBad n σ0 kd pl σ) (v : Int32) : xBad n σ0 kd pl (si σ 1 2 v) := ⟨h.1.si (by omega), h.2.1, h.2.2.1, h.2.2.2.1, h.2.2.2.2.1, by rw [gi_si, if_neg (by omega)]; exact h.2.2.2.2.2⟩
theorem passB {n : Nat} {σ0 σ : zSt} {kd pl : Nat} (h : xBad n σ0 kd pl σ) (k : Int32) : ∃ σ', fX3_pass k σ = some σ' ∧ xBad n σ0 kd pl σ' := by
  show ∃ σ', fX3_pass_0 k σ = _ ∧ _
  unfold fX3_pass_0
  rw [if_neg (xB_ne h)]
  exact ⟨_, rfl, atB h _⟩
theorem passX {C : qCfg} {n : Nat} {β : Nat → Nat} {σ0 τ0 σ : zSt} (hE : pE C n β σ0 τ0) {p q d : Nat} {A : Nat → qAct} (h : pX C n σ0 p q d A σ) {k : Nat} (hk : k < 256) : ((sk n β p < n ∧ β (sk n β p) = k) ∧ ∃ σ', fX3_pass (Int32.ofNat k) σ = some σ' ∧ pX C n σ0 (sk n β p + 1) q d A σ') ∨ (¬ (sk n β p < n ∧ β (sk n β p) = k) ∧ ∃ σ', fX3_pass (Int32.ofNat k) σ = some σ' ∧ xBad n σ0 1 (sk n β p) σ') := by
  obtain ⟨σ1, e1, h1⟩ := sgX hE h
  have c := chI_eq (n := n) (β := β) (p := sk n β p) (fun h => hE.2.2.1 _ h) hk
  have hh := hE.2.1
  show (_ ∧ ∃ σ', fX3_pass_0 (Int32.ofNat k) σ = _ ∧ _) ∨ (_ ∧ ∃ σ', fX3_pass_0 (Int32.ofNat k) σ = _ ∧ _)
  unfold fX3_pass_0
  rw [if_pos h.2.1, e1, bd2_some]
  by_cases x : sk n β p < n ∧ β (sk n β p) = k
  · rw [if_pos (c.mpr x), h1.2.2.1.2, iN_s (by omega)]
    exact Or.inl ⟨x, _, rfl, atX h1 (by omega)⟩
  · obtain ⟨σ2, e2, h2⟩ := refX hE h1 (k := 1) (by omega) (by omega)
    rw [if_neg (fun h => x (c.mp h)), show (1 : Int32) = Int32.ofNat 1 from rfl, e2, bd1_some]
    exact Or.inr ⟨x, _, rfl, atB h2 _⟩
/-! the Model's steps -/
theorem atM {C : qCfg} {τ0 τ : zSt} {p q d o : Nat} {A : Nat → qAct} (h : pM C τ0 p q d o A τ) (p' : Nat) : pM C τ0 p' q d o A (si τ 61 10 (Int32.ofNat p')) := by
  obtain ⟨h1, h2, h3, h4, h5, h6, h7⟩ := h
  exact ⟨h1.si (by omega), by rw [gi_si, if_neg (by omega)]; exact h2, by rw [gi_si, if_pos (by omega)], by rw [gi_si, if_neg (by omega)]; exact h4, by rw [gi_si, if_neg (by omega)]; exact h5, by rw [gi_si, if_neg (by omega)]; exact h6, fun j hj => mAct_si (by omega) (h7 j hj)⟩
theorem opM {C : qCfg} {τ0 τ : zSt} {p q d o : Nat} {A : Nat → qAct} (h : pM C τ0 p q d o A τ) (o' : Nat) : pM C τ0 p q d o' A (si τ 61 14 (Int32.ofNat o')) := by
  obtain ⟨h1, h2, h3, h4, h5, h6, h7⟩ := h
  exact ⟨h1.si (by omega), by rw [gi_si, if_neg (by omega)]; exact h2, by rw [gi_si, if_neg (by omega)]; exact h3, by rw [gi_si, if_neg (by omega)]; exact h4, by rw [gi_si, if_neg (by omega)]; exact h5, by rw [gi_si, if_pos (by omega)], fun j hj => mAct_si (by omega) (h7 j hj)⟩
theorem pkM {C : qCfg} {n : Nat} {β : Nat → Nat} {σ0 τ0 τ : zSt} (hE : pE C n β σ0 τ0) {p q d o : Nat} {A : Nat → qAct} (h : pM C τ0 p q d o A τ) (hp : p ≤ n) : ∃ τ', fX9_peek τ = some (chI n β (sk n β p), τ') ∧ pM C τ0 (sk n β p) q d o A τ' := ⟨_, m_peek hE.2.1 hE.2.2.1 hp (tp_M hE h.1) h.2.2.1, atM h _⟩
theorem bdM {C : qCfg} {τ0 τ : zSt} {p q d o : Nat} {A : Nat → qAct} (h : pM C τ0 p q d o A τ) : fX9_bad τ = 0 := m_bad0 h.2.1
theorem failM {C : qCfg} {n : Nat} {τ0 τ : zSt} {p q d o : Nat} {A : Nat → qAct} (h : pM C τ0 p q d o A τ) (hp : p ≤ n) {k : Nat} (k1 : 1 ≤ k) (k3 : k ≤ 3) : ∃ τ', fX9_fails (Int32.ofNat k) (Int32.ofNat p) τ = some (0, τ') ∧ mBad C n τ0 k p τ' ∧ (∀ i, i ≠ 11 → i ≠ 12 → gi τ' 61 i = gi τ 61 i) := by
  show ∃ τ', fX9_fails_0 (Int32.ofNat k) (Int32.ofNat p) τ = _ ∧ _
  unfold fX9_fails_0
  rw [if_pos h.2.1]
  exact ⟨_, rfl, ⟨(h.1.si (by omega)).si (by omega), k1, k3, hp, by rw [gi_si, if_neg (by omega), gi_si, if_pos (by omega)], by rw [gi_si, if_pos (by omega)]⟩, fun i a b => by rw [gi_si, if_neg (by omega), gi_si, if_neg (by omega)]⟩
theorem metM {C : qCfg} {n : Nat} {τ0 τ : zSt} {p q d o : Nat} {A : Nat → qAct} (h : pM C τ0 p q d o A τ) (hp : p ≤ n) : (q < 60 → ∃ τ', fX9_meets (Int32.ofNat p) τ = some τ' ∧ pM C τ0 p (q + 1) d o A τ') ∧ (q = 60 → ∃ τ', fX9_meets (Int32.ofNat p) τ = some τ' ∧ mBad C n τ0 3 p τ' ∧ gi τ' 61 10 = Int32.ofNat p) := by
  obtain ⟨h1, h2, h3, h4, h5, h6, h7⟩ := h
  have e60 : (60 : Int32).toInt = 60 := by decide
  have up : ∀ v, pM C τ0 p v d o A (si τ 61 15 (Int32.ofNat v)) := fun v => ⟨h1.si (by omega), by rw [gi_si, if_neg (by omega)]; exact h2, by rw [gi_si, if_neg (by omega)]; exact h3, by rw [gi_si, if_pos (by omega)], by rw [gi_si, if_neg (by omega)]; exact h5, by rw [gi_si, if_neg (by omega)]; exact h6, fun j hj => mAct_si (by omega) (h7 j hj)⟩
  show (_ → ∃ τ', fX9_meets_0 (Int32.ofNat p) τ = _ ∧ _) ∧ (_ → ∃ τ', fX9_meets_0 (Int32.ofNat p) τ = _ ∧ _)
  unfold fX9_meets_0
  rw [h4]
  refine ⟨fun x => ?_, fun x => ?_⟩
  · rw [iN_s (by omega), if_pos (show Int32.ofNat (q + 1) ≤ 60 by rw [qI_le, iNt (by omega), e60]; omega)]
    exact ⟨_, rfl, up _⟩
  · obtain ⟨τ1, e1, b1, f1⟩ := failM (n := n) (up (q + 1)) hp (k := 3) (by omega) (by omega)
    rw [iN_s (by omega), if_neg (show ¬ Int32.ofNat (q + 1) ≤ 60 by rw [qI_le, iNt (by omega), e60]; omega), show (3 : Int32) = Int32.ofNat 3 from rfl, e1, bd2_some]
    exact ⟨_, rfl, b1, by rw [f1 10 (by omega) (by omega)]; exact (up (q + 1)).2.2.1⟩
theorem mkM {C : qCfg} {n : Nat} {β : Nat → Nat} {σ0 τ0 τ : zSt} (hE : pE C n β σ0 τ0) {p q d o : Nat} {A : Nat → qAct} (h : pM C τ0 p q d o A τ) (hd : d < 60) {t x y : Int32} {a : qAct} (ha : mAct (mRow τ (60 * C.N + d) d t x y) (60 * C.N + d) a) : ∃ τ', fX9_make t x y τ = some (Int32.ofNat (60 * C.N + d), τ') ∧ pM C τ0 p q (d + 1) o (upA A d a) τ' := by
  obtain ⟨h1, h2, h3, h4, h5, h6, h7⟩ := h
  have hN : gi τ 61 3 = Int32.ofNat C.N := by rw [h1.1 _ _ (by omega)]; exact hE.2.2.2.2.2.2
  refine ⟨_, m_make h2 hN h5 hE.1 hd t x y, (((h1.si (by omega)).si (by omega)).si (by omega)).si (by omega), ?_, ?_, ?_, ?_, ?_, fun j hj => ?_⟩
  · unfold mRow; rw [gi_si, if_neg (by omega), gi_si, if_neg (by omega), gi_si, if_neg (by omega), gi_si, if_neg (by omega)]; exact h2
  · unfold mRow; rw [gi_si, if_neg (by omega), gi_si, if_neg (by omega), gi_si, if_neg (by omega), gi_si, if_neg (by omega)]; exact h3
  · unfold mRow; rw [gi_si, if_neg (by omega), gi_si, if_neg (by omega), gi_si, if_neg (by omega), gi_si, if_neg (by omega)]; exact h4
  · unfold mRow; rw [gi_si, if_pos (by omega)]
  · unfold mRow; rw [gi_si, if_neg (by omega), gi_si, if_neg (by omega), gi_si, if_neg (by omega), gi_si, if_neg (by omega)]; exact h6
  · by_cases jd : j = d
    · rw [jd, upA_at]; exact ha
    · rw [upA_lt (by omega)]
      refine mAct_cg (σ := τ) (τ := mRow τ (60 * C.N + d) d t x y) ?_ ?_ ?_ rfl rfl (h7 j (by omega))
      all_goals unfold mRow; rw [gi_si, if_neg (by omega), gi_si, if_neg (by omega), gi_si, if_neg (by omega), gi_si, if_neg (by omega)]
theorem row64 {τ : zSt} {i d : Nat} {t x y : Int32} : gi (mRow τ i d t x y) 64 i = t := by unfold mRow; rw [gi_si, if_neg (by omega), gi_si, if_neg (by omega), gi_si, if_neg (by omega), gi_si, if_pos (by omega)]
theorem row65 {τ : zSt} {i d : Nat} {t x y : Int32} : gi (mRow τ i d t x y) 65 i = x := by unfold mRow; rw [gi_si, if_neg (by omega), gi_si, if_neg (by omega), gi_si, if_pos (by omega)]
theorem row66 {τ : zSt} {i d : Nat} {t x y : Int32} : gi (mRow τ i d t x y) 66 i = y := by unfold mRow; rw [gi_si, if_neg (by omega), gi_si, if_pos (by omega)]
/-! the Model's steps behind a fault -/
theorem bdB {C : qCfg} {n : Nat} {τ0 τ : zSt} {kd pl : Nat} (h : mBad C n τ0 kd pl τ) : ¬ fX9_bad τ = 0 := by
  obtain ⟨-, h1, h2, h3, h4, h5⟩ := h
  show ¬ fX9_bad_0 τ = 0
  unfold fX9_bad_0
  rw [h4, if_neg (show ¬ Int32.ofNat kd ≤ 0 by rw [qI_le, iNt (by omega), q0I]; omega)]
  decide
theorem mkB {C : qCfg} {n : Nat} {τ0 τ : zSt} {kd pl : Nat} (h : mBad C n τ0 kd pl τ) (t x y : Int32) : fX9_make t x y τ = some (0, τ) := by
  show fX9_make_0 t x y τ = _
  unfold fX9_make_0
  rw [if_neg (bdB h)]
theorem needB {C : qCfg} {n : Nat} {τ0 τ : zSt} {kd pl : Nat} (h : mBad C n τ0 kd pl τ) (k : Int32) : fX9_need k τ = some τ := by
  show fX9_need_0 k τ = _
  unfold fX9_need_0
  rw [if_neg (bdB h)]
theorem siB {C : qCfg} {n : Nat} {τ0 τ : zSt} {kd pl : Nat} (h : mBad C n τ0 kd pl τ) {i : Nat} (hi : i = 10 ∨ i = 14) (v : Int32) : mBad C n τ0 kd pl (si τ 61 i v) := ⟨h.1.si (by omega), h.2.1, h.2.2.1, h.2.2.2.1, by rw [gi_si, if_neg (by omega)]; exact h.2.2.2.2.1, by rw [gi_si, if_neg (by omega)]; exact h.2.2.2.2.2⟩
