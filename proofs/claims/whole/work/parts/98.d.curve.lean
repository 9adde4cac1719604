/-! a CURVE is kept, and hs2 -/
theorem x_keepL {C : qCfg} {M : Nat → Nat} {D : Nat → Int} {S : Nat → Bool} {A : Nat → qAct} {d : Nat} {σ1 : zSt} (hE : kpE C M D S A d σ1) : ∀ (f v F : Nat) (σ : zSt), v + f = d → f < F → kpF C.N σ1 σ → kpS S A C.N v σ → kpN M A C.N v σ → kpD D C.N v σ → (0 < v → (gi σ (21 + 4 * C.N) 5).toInt = D (60 * C.N + (v - 1))) → ∃ σ', fX1_keep_L26 F C.N (Int32.ofNat v) σ = some (Int32.ofNat C.N, si σ' 3 8 (Int32.ofNat (C.N + 1))) ∧ kpF C.N σ1 σ' ∧ kpS S A C.N d σ' ∧ kpN M A C.N d σ' ∧ kpD D C.N d σ' ∧ (0 < d → (gi σ' (21 + 4 * C.N) 5).toInt = D (60 * C.N + (d - 1))) := by
  intro f
  induction f with
  | zero =>
    intro v F σ h1 h2 h3 h4 h5 h6 h7
    obtain ⟨c1, c2, c3, c4, -⟩ := hE
    obtain ⟨F, rfl⟩ : ∃ F', F = F' + 1 := ⟨F - 1, by omega⟩
    rw [fX1_keep_L26]
    unfold fX1_keep_26
    rw [h3.1 (21 + 4 * C.N) 3 (by omega), c3, if_pos (show Int32.ofNat d ≤ Int32.ofNat v by rw [qI_le, iNt (by omega), iNt (by omega)]; omega), h3.1 3 8 (by omega), c4, iN_s (by omega), iN_p (by omega)]
    rw [show v = d by omega] at h4 h5 h6 h7
    exact ⟨σ, rfl, h3, h4, h5, h6, h7⟩
  | succ f ih =>
    intro v F σ h1 h2 h3 h4 h5 h6 h7
    obtain ⟨F, rfl⟩ : ∃ F', F = F' + 1 := ⟨F - 1, by omega⟩
    rw [fX1_keep_L26]
    obtain ⟨σ2, e1, f1, f2, f3, f4, f5⟩ := kp_26 hE (show v < d by omega) h3 h4 h5 h6 (fX1_keep_L26 F)
    rw [e1]
    exact ih (v + 1) F σ2 (by omega) (by omega) f1 f2 f3 f4 (fun _ => by rw [Nat.add_sub_cancel]; exact f5)
theorem actOk_cg {C C' : qCfg} {k j : Nat} {a : qAct} (h : ∀ i, i < k → C'.len i = C.len i) (ho : actOk C k j a) : actOk C' k j a := by
  obtain ⟨t, f, g, s⟩ := a
  match t, ho with
  | 0, ho => exact ho
  | 1, ho => exact ho
  | 2, ho => exact ⟨ho.1, by rw [h f ho.1]; exact ho.2⟩
  | 3, ho => exact ho
  | 4, ho => exact ho
  | 5, ho => exact ho
  | 6, ho => exact ho
  | 7, ho => exact ho
  | 8, ho => exact ho
  | 9, ho => exact ho
  | 10, ho => exact ho
  | 11, ho => exact ho
  | 12, ho => exact ho
  | 13, ho => exact ho
  | 14, ho => exact ho
  | 15, ho => exact ho
  | m + 16, ho => exact ho
/-- the CURVES, and one more -/
def qAdd (C : qCfg) (A : Nat → qAct) (d : Nat) : qCfg := (fun x => if x < 60 * C.N then C.A x else A (x - 60 * C.N), fun k => if k = C.N then d else C.len k, C.N + 1)
theorem qAdd_N {C : qCfg} {A : Nat → qAct} {d : Nat} : (qAdd C A d).N = C.N + 1 := rfl
theorem qAdd_lo {C : qCfg} {A : Nat → qAct} {d x : Nat} (h : x < 60 * C.N) : (qAdd C A d).A x = C.A x := if_pos h
theorem qAdd_at {C : qCfg} {A : Nat → qAct} {d j : Nat} : (qAdd C A d).A (60 * C.N + j) = A j := by
  show (if 60 * C.N + j < 60 * C.N then C.A (60 * C.N + j) else A (60 * C.N + j - 60 * C.N)) = A j
  rw [if_neg (by omega), Nat.add_sub_cancel_left]
theorem qAdd_len {C : qCfg} {A : Nat → qAct} {d k : Nat} (h : k ≠ C.N) : (qAdd C A d).len k = C.len k := if_neg h
theorem qAdd_lenN {C : qCfg} {A : Nat → qAct} {d : Nat} : (qAdd C A d).len C.N = d := if_pos rfl
theorem qAdd_last {C : qCfg} {A : Nat → qAct} {d k : Nat} (h : k ≠ C.N) : qLast (qAdd C A d) k = qLast C k := by unfold qLast; rw [qAdd_len h]
theorem qAdd_row {C : qCfg} (hw : qWF C) {A : Nat → qAct} {d k j : Nat} (hk : k < C.N) (hj : j < C.len k) : 60 * k + j < 60 * C.N ∧ (qAdd C A d).A (60 * k + j) = C.A (60 * k + j) := by
  have := (hw.2 k hk).1
  have e : 60 * k + j < 60 * C.N := by omega
  exact ⟨e, qAdd_lo e⟩
theorem qAdd_wf {C : qCfg} (hw : qWF C) {A : Nat → qAct} {d : Nat} (hN : C.N ≤ 7) (h1 : 1 ≤ d) (h2 : d ≤ 60) (ho : ∀ j, j < d → actOk C C.N j (A j)) (ht : tree C.N A 0 d) : qWF (qAdd C A d) := by
  refine ⟨by rw [qAdd_N]; omega, fun k hk => ?_⟩
  rw [qAdd_N] at hk
  by_cases q : k = C.N
  · subst q
    rw [qAdd_lenN]
    refine ⟨⟨h1, h2⟩, fun j hj => ?_, fun j hj => ?_⟩
    · rw [qAdd_at]
      exact actOk_cg (fun i hi => qAdd_len (by omega)) (ho j hj)
    · obtain ⟨j', a, b, c⟩ := ht j (by omega) hj
      exact ⟨j', a, b, by rw [qAdd_at]; exact c⟩
  · have hk' : k < C.N := by omega
    obtain ⟨l, o, t⟩ := hw.2 k hk'
    rw [qAdd_len q]
    refine ⟨l, fun j hj => ?_, fun j hj => ?_⟩
    · rw [(qAdd_row hw hk' hj).2]
      exact actOk_cg (fun i hi => qAdd_len (by omega)) (o j hj)
    · obtain ⟨j', a, b, c⟩ := t j hj
      exact ⟨j', a, b, by rw [(qAdd_row hw hk' b).2]; exact c⟩
theorem qAdd_nd {C : qCfg} (hw : qWF C) {M : Nat → Nat} (hm : xNd C M) {A : Nat → qAct} {d μ : Nat} (ho : ∀ j, j < d → actOk C C.N j (A j)) (h1 : μ < 256) (h2 : ∀ i, μ.testBit i = true ↔ ∃ j, j < d ∧ (A j).1 = 2 ∧ (i = (A j).2.1 ∨ (M (A j).2.1).testBit i = true)) : xNd (qAdd C A d) (fun k => if k = C.N then μ else M k) := by
  intro k hk
  rw [qAdd_N] at hk
  by_cases q : k = C.N
  · subst q
    rw [qAdd_lenN]
    show (if C.N = C.N then μ else M C.N) < 256 ∧ ∀ i, (if C.N = C.N then μ else M C.N).testBit i = true ↔ _
    rw [if_pos rfl]
    refine ⟨h1, fun i => (h2 i).trans ⟨fun ⟨j, a, b, c⟩ => ⟨j, a, by rw [qAdd_at]; exact b, ?_⟩, fun ⟨j, a, b, c⟩ => ?_⟩⟩
    · have := (cur_ok (ho j a) b).1
      show i = ((qAdd C A d).A (60 * C.N + j)).2.1 ∨ (if ((qAdd C A d).A (60 * C.N + j)).2.1 = C.N then μ else M ((qAdd C A d).A (60 * C.N + j)).2.1).testBit i = true
      rw [qAdd_at, if_neg (by omega)]
      exact c
    · have c' : i = ((qAdd C A d).A (60 * C.N + j)).2.1 ∨ (if ((qAdd C A d).A (60 * C.N + j)).2.1 = C.N then μ else M ((qAdd C A d).A (60 * C.N + j)).2.1).testBit i = true := c
      rw [qAdd_at] at b c'
      have := (cur_ok (ho j a) b).1
      rw [if_neg (by omega)] at c'
      exact ⟨j, a, b, c'⟩
  · have hk' : k < C.N := by omega
    obtain ⟨m1, m2⟩ := hm k hk'
    rw [qAdd_len q]
    show (if k = C.N then μ else M k) < 256 ∧ ∀ i, (if k = C.N then μ else M k).testBit i = true ↔ _
    rw [if_neg q]
    refine ⟨m1, fun i => (m2 i).trans ⟨fun ⟨j, a, b, c⟩ => ⟨j, a, by rw [(qAdd_row hw hk' a).2]; exact b, ?_⟩, fun ⟨j, a, b, c⟩ => ?_⟩⟩
    · have := (cur_ok ((hw.2 k hk').2.1 j a) b).1
      show i = ((qAdd C A d).A (60 * k + j)).2.1 ∨ (if ((qAdd C A d).A (60 * k + j)).2.1 = C.N then μ else M ((qAdd C A d).A (60 * k + j)).2.1).testBit i = true
      rw [(qAdd_row hw hk' a).2, if_neg (by omega)]
      exact c
    · have c' : i = ((qAdd C A d).A (60 * k + j)).2.1 ∨ (if ((qAdd C A d).A (60 * k + j)).2.1 = C.N then μ else M ((qAdd C A d).A (60 * k + j)).2.1).testBit i = true := c
      rw [(qAdd_row hw hk' a).2] at b c'
      have := (cur_ok ((hw.2 k hk').2.1 j a) b).1
      rw [if_neg (by omega)] at c'
      exact ⟨j, a, b, c'⟩
theorem qAdd_dg {C : qCfg} (hw : qWF C) {D : Nat → Int} (hd : xDg C D) {A : Nat → qAct} {d : Nat} (hw' : qWF (qAdd C A d)) : xDg (qAdd C A d) (dTb A D (60 * C.N) d) ∧ ∀ j, j < d → dTb A D (60 * C.N) d (60 * C.N + j) = dAct (dTb A D (60 * C.N) d) (A j) := by
  have lo : ∀ x, x < 60 * C.N → dTb A D (60 * C.N) d x = D x := fun x h => dTb_lo d x h
  have ops : ∀ j, j < d → ∀ m, m ∈ qOps (A j) → m < 60 * C.N + j := fun j hj m hm => by
    have := wf_lt hw' (k := C.N) (j := j) (by rw [qAdd_N]; omega) (by rw [qAdd_lenN]; exact hj) m
    rw [qAdd_at] at this
    exact this hm
  have at_ : ∀ j, j < d → dTb A D (60 * C.N) d (60 * C.N + j) = dAct (dTb A D (60 * C.N) d) (A j) := fun j hj => dTb_at hj (ops j hj)
  have bd : ∀ j, j < d → -1 ≤ dTb A D (60 * C.N) d (60 * C.N + j) ∧ dTb A D (60 * C.N) d (60 * C.N + j) ≤ 1000 := by
    intro j
    induction j using Nat.strongRecOn with
    | ind j ih =>
      intro hj
      rw [at_ j hj]
      refine dAct_bd fun m hm => ?_
      have o := (hw'.2 C.N (by rw [qAdd_N]; omega)).2.1 j (by rw [qAdd_lenN]; exact hj)
      obtain ⟨k', j', b1, b2, b3⟩ := actOk_at (fun i hi => (hw'.2 i (by rw [qAdd_N]; omega)).1.1) (by rw [qAdd_lenN]; exact hj) o m (by rw [qAdd_at]; exact hm)
      have lt := ops j hj m hm
      by_cases q : k' = C.N
      · subst q
        rw [qAdd_lenN] at b3
        rw [b1]
        exact ih j' (by omega) b3
      · rw [qAdd_len q] at b3
        have hk' : k' < C.N := by omega
        have r := (qAdd_row hw (A := A) (d := d) hk' b3).1
        rw [b1, lo _ r]
        exact (hd k' j' hk' b3).2
  refine ⟨fun k j hk hj => ?_, at_⟩
  rw [qAdd_N] at hk
  by_cases q : k = C.N
  · subst q
    rw [qAdd_lenN] at hj
    rw [qAdd_at]
    exact ⟨at_ j hj, bd j hj⟩
  · have hk' : k < C.N := by omega
    rw [qAdd_len q] at hj
    obtain ⟨r1, r2⟩ := qAdd_row hw (A := A) (d := d) hk' hj
    rw [lo _ r1, r2]
    obtain ⟨a, b⟩ := hd k j hk' hj
    refine ⟨a.trans (dAct_cg fun m hm => ?_), b⟩
    have := wf_lt hw hk' hj m hm
    exact (lo m (by omega)).symm
theorem qAdd_sm {C : qCfg} (hw : qWF C) {S : Nat → Bool} (hs : xSm C S) {A : Nat → qAct} {d : Nat} {s : Bool} (ho : ∀ j, j < d → actOk C C.N j (A j)) (h : s = true ↔ ∀ j, j < d → okA S (A j)) : xSm (qAdd C A d) (fun k => if k = C.N then s else S k) := by
  intro k hk
  rw [qAdd_N] at hk
  by_cases q : k = C.N
  · subst q
    rw [qAdd_lenN]
    show (if C.N = C.N then s else S C.N) = true ↔ _
    rw [if_pos rfl]
    refine h.trans ⟨fun g j hj => ?_, fun g j hj => ?_⟩
    · obtain ⟨a, b⟩ := g j hj
      show ¬ (10 ≤ ((qAdd C A d).A (60 * C.N + j)).1 ∧ ((qAdd C A d).A (60 * C.N + j)).1 ≤ 12) ∧ (((qAdd C A d).A (60 * C.N + j)).1 = 2 → (if ((qAdd C A d).A (60 * C.N + j)).2.1 = C.N then s else S ((qAdd C A d).A (60 * C.N + j)).2.1) = true)
      rw [qAdd_at]
      refine ⟨a, fun e => ?_⟩
      have := (cur_ok (ho j hj) e).1
      rw [if_neg (by omega)]
      exact b e
    · have g' : ¬ (10 ≤ ((qAdd C A d).A (60 * C.N + j)).1 ∧ ((qAdd C A d).A (60 * C.N + j)).1 ≤ 12) ∧ (((qAdd C A d).A (60 * C.N + j)).1 = 2 → (if ((qAdd C A d).A (60 * C.N + j)).2.1 = C.N then s else S ((qAdd C A d).A (60 * C.N + j)).2.1) = true) := g j hj
      rw [qAdd_at] at g'
      refine ⟨g'.1, fun e => ?_⟩
      have := (cur_ok (ho j hj) e).1
      have g2 := g'.2 e
      rw [if_neg (by omega)] at g2
      exact g2
  · have hk' : k < C.N := by omega
    rw [qAdd_len q]
    show (if k = C.N then s else S k) = true ↔ _
    rw [if_neg q]
    refine (hs k hk').trans ⟨fun g j hj => ?_, fun g j hj => ?_⟩
    · obtain ⟨a, b⟩ := g j hj
      show ¬ (10 ≤ ((qAdd C A d).A (60 * k + j)).1 ∧ ((qAdd C A d).A (60 * k + j)).1 ≤ 12) ∧ (((qAdd C A d).A (60 * k + j)).1 = 2 → (if ((qAdd C A d).A (60 * k + j)).2.1 = C.N then s else S ((qAdd C A d).A (60 * k + j)).2.1) = true)
      rw [(qAdd_row hw hk' hj).2]
      refine ⟨a, fun e => ?_⟩
      have := (cur_ok ((hw.2 k hk').2.1 j hj) e).1
      rw [if_neg (by omega)]
      exact b e
    · have g' : ¬ (10 ≤ ((qAdd C A d).A (60 * k + j)).1 ∧ ((qAdd C A d).A (60 * k + j)).1 ≤ 12) ∧ (((qAdd C A d).A (60 * k + j)).1 = 2 → (if ((qAdd C A d).A (60 * k + j)).2.1 = C.N then s else S ((qAdd C A d).A (60 * k + j)).2.1) = true) := g j hj
      rw [(qAdd_row hw hk' hj).2] at g'
      refine ⟨g'.1, fun e => ?_⟩
      have := (cur_ok ((hw.2 k hk').2.1 j hj) e).1
      have g2 := g'.2 e
      rw [if_neg (by omega)] at g2
      exact g2
theorem xAct_lo {σ τ : zSt} {k j : Nat} (e0 : gi τ (21 + 4 * k + 1) j = gi σ (21 + 4 * k + 1) j) (e1 : gi τ (21 + 4 * k + 3) j = gi σ (21 + 4 * k + 3) j) (e2 : gl τ (21 + 4 * k + 2) j = gl σ (21 + 4 * k + 2) j) {a : qAct} (ha : xAct σ k j a) : xAct τ k j a := by
  rcases a with ⟨_ | _ | _ | _ | _ | _ | _ | _ | _ | _ | _ | _ | _ | _ | _ | _ | t, f, g, s⟩ <;> simp only [xAct, e0, e1, e2] at ha ⊢ <;> exact ha
/-- a text that was refused leaves the CURVES -/
theorem zI_bad {C : qCfg} {M : Nat → Nat} {D : Nat → Int} {S : Nat → Bool} {σ τ σ' τ' : zSt} (h : zI C M D S σ τ) (hN : C.N ≤ 7) (hx : pFx (rdX σ C.N) σ') (hm : pFm C.N (rdM τ) τ') : zI C M D S (si σ' 2 1 0) (si τ' 61 2 0) := by
  obtain ⟨⟨⟨hw, hnd⟩, hds, x1, b1, m1⟩, h2, h3, h4, h5⟩ := h
  have gx : ∀ c i, c ≠ 1 → c ≠ 2 → (c < 57 ∨ 61 ≤ c) → gi (si σ' 2 1 0) c i = gi σ c i := fun c i a b q => by
    rw [gi_si, if_neg (by omega), hx.1 c i (by omega), rdX_gi (by omega) (by omega)]
  have lx : ∀ c i, c ≠ 59 → gl (si σ' 2 1 0) c i = gl σ c i := fun c i a => by
    rw [gl_si, hx.2 c i a]; rfl
  have gm : ∀ c i, ¬ (c = 61 ∧ i = 2) → ¬ (c = 61 ∧ 10 ≤ i ∧ i ≤ 15) → ¬ (64 ≤ c ∧ c ≤ 66 ∧ 60 * C.N ≤ i) → gi (si τ' 61 2 0) c i = gi τ c i := fun c i a b q => by
    rw [gi_si, if_neg a, hm.1 c i (by omega), rdM_gi b]
  have lm : ∀ c i, ¬ ((c = 67 ∨ c = 68) ∧ 60 * C.N ≤ i) → gl (si τ' 61 2 0) c i = gl τ c i := fun c i a => by
    rw [gl_si, hm.2 c i a]; rfl
  refine ⟨⟨⟨hw, hnd⟩, hds, ⟨by rw [gx _ _ (by omega) (by omega) (by omega)]; exact x1.1, fun k hk => ?_⟩, fun k hk => ?_, ⟨by rw [gm _ _ (by omega) (by omega) (by omega)]; exact m1.1, fun k hk => ?_⟩⟩, ⟨0, by omega, by rw [gi_si, if_pos (by omega)]; rfl, by rw [gi_si, if_pos (by omega)]; rfl, fun p hp => by omega⟩, ?_, ?_, zRt_fr h5 (gx _ _ (by omega) (by omega) (by omega)) (fun c i a b => gx c i (by omega) (by omega) (by omega)) (gm _ _ (by omega) (by omega) (by omega)) (fun i => gm _ _ (by omega) (by omega) (by omega)) (fun c i a => lm c i (by omega))⟩
  · obtain ⟨a, b, c⟩ := x1.2 k hk
    refine ⟨by rw [gx _ _ (by omega) (by omega) (by omega)]; exact a, by rw [gx _ _ (by omega) (by omega) (by omega)]; exact b, fun j hj => xAct_lo (gx _ _ (by omega) (by omega) (by omega)) (gx _ _ (by omega) (by omega) (by omega)) (lx _ _ (by omega)) (c j hj)⟩
  · rw [gx _ _ (by omega) (by omega) (by omega), gx _ _ (by omega) (by omega) (by omega)]
    exact b1 k hk
  · obtain ⟨a, b⟩ := m1.2 k hk
    refine ⟨by rw [gm _ _ (by omega) (by omega) (by omega)]; exact a, fun j hj => ?_⟩
    have r := (qAdd_row hw (A := C.A) (d := 0) hk hj).1
    exact mAct_cg (gm _ _ (by omega) (by omega) (by omega)) (gm _ _ (by omega) (by omega) (by omega)) (gm _ _ (by omega) (by omega) (by omega)) (lm _ _ (by omega)) (lm _ _ (by omega)) (b j hj)
  · exact ⟨by rw [lx _ _ (by omega), lm _ _ (by omega)]; exact h3.1, by rw [lx _ _ (by omega), lm _ _ (by omega)]; exact h3.2⟩
  · exact ⟨by rw [gx _ _ (by omega) (by omega) (by omega), gm _ _ (by omega) (by omega) (by omega)]; exact h4.1, by rw [gx _ _ (by omega) (by omega) (by omega), gm _ _ (by omega) (by omega) (by omega)]; exact h4.2⟩
