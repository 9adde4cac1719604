/-! about -/
def lFr (σ τ : zSt) : Prop := (∀ c i, ¬ (c = 69 ∨ c = 70 ∨ c = 71) → gi τ c i = gi σ c i) ∧ ∀ c i, gl τ c i = gl σ c i
theorem lFr.rf {σ : zSt} : lFr σ σ := ⟨fun _ _ _ => rfl, fun _ _ => rfl⟩
theorem lFr.tr {a b c : zSt} (h : lFr a b) (g : lFr b c) : lFr a c := ⟨fun q k hk => (g.1 q k hk).trans (h.1 q k hk), fun q k => (g.2 q k).trans (h.2 q k)⟩
theorem lFr.si {σ τ : zSt} (h : lFr σ τ) {c k : Nat} {v : Int32} (hc : c = 69 ∨ c = 70 ∨ c = 71) : lFr σ (si τ c k v) := ⟨fun q i hq => by
  rw [gi_si, if_neg (fun e => hq (by rw [e.1]; exact hc))]; exact h.1 q i hq, fun q i => by rw [gl_si]; exact h.2 q i⟩
theorem lFr.w {σ τ : zSt} (h : lFr σ τ) : wFr σ τ := ⟨fun c i q => h.1 c i (by omega), fun c i _ => h.2 c i⟩
theorem zI_l {C : qCfg} {M : Nat → Nat} {D : Nat → Int} {S : Nat → Bool} {σ τ τ' : zSt} (h : zI C M D S σ τ) (b : lFr τ τ') : zI C M D S σ τ' := by
  obtain ⟨h1, h2, h3, h4, h5⟩ := h
  exact ⟨zCf_fr h1 yFr.rf b.w, zTp_fr h2 rfl (fun _ => rfl) (b.1 _ _ (by omega)) (fun p => b.1 _ _ (by omega)), ⟨by rw [b.2]; exact h3.1, by rw [b.2]; exact h3.2⟩, ⟨by rw [b.1 _ _ (by omega)]; exact h4.1, by rw [b.1 _ _ (by omega)]; exact h4.2⟩, zRt_fr h5 rfl (fun _ _ _ _ => rfl) (b.1 _ _ (by omega)) (fun i => b.1 _ _ (by omega)) (fun c i _ => b.2 c i)⟩
def lPr (C : qCfg) (D : Nat → Int) (S : Nat → Bool) (k : Nat) (τ : zSt) : Prop := ∀ k', k' < k → gi τ 69 k' = (if S k' then 1 else 0) ∧ (gi τ 70 k').toInt = D (qLast C k')
def lDg (C : qCfg) (D : Nat → Int) (n : Nat) (τ : zSt) : Prop := ∀ k j, k < C.N → j < C.len k → 60 * k + j < n → (gi τ 71 (60 * k + j)).toInt = D (60 * k + j)
def lCu (C : qCfg) (S : Nat → Bool) (k j : Nat) (τ : zSt) : Prop := (gi τ 69 k = 1 ∧ ∀ j', j' < j → okA S (C.A (60 * k + j'))) ∨ (gi τ 69 k = 0 ∧ ¬ ∀ j', j' < j → okA S (C.A (60 * k + j')))
theorem m_lookL {C : qCfg} {D : Nat → Int} {S : Nat → Bool} (hw : qWF C) (hd : xDg C D) (hs : xSm C S) {τ0 : zSt} (hc : mCur C τ0) {k : Nat} (hk : k < C.N) : ∀ (d j F : Nat) (τ : zSt), j + d = C.len k → d < F → lFr τ0 τ → lPr C D S k τ → lDg C D (60 * k + j) τ → lCu C S k j τ → ∃ τ', fX9_looks_L9 F (Int32.ofNat k) (Int32.ofNat j) τ = some τ' ∧ lFr τ0 τ' ∧ lPr C D S (k + 1) τ' ∧ lDg C D (60 * (k + 1)) τ' := by
  have hN := hw.1
  obtain ⟨hl, hok, -⟩ := hw.2 k hk
  intro d
  induction d with
  | zero =>
    intro j F τ hj hF fr pr dg cu
    obtain ⟨F, rfl⟩ : ∃ F', F = F' + 1 := ⟨F - 1, by omega⟩
    have vk := vin (N := 8) (iNt (n := k) (by omega)) (show k < 8 by omega)
    have ck := iN_cl (n := k) (by omega)
    have hq : qLast C k = 60 * k + (C.len k - 1) := by unfold qLast; omega
    have h63 : gi τ 63 k = Int32.ofNat (C.len k) := by rw [fr.1 _ _ (by omega)]; exact (hc.2 k hk).1
    have e : (60 : Int32) * Int32.ofNat k + Int32.ofNat (C.len k) - 1 = Int32.ofNat (qLast C k) := by
      rw [i60 (by omega), iN_a (by omega), show 60 * k + C.len k = (60 * k + C.len k - 1) + 1 by omega, iN_p (by omega)]; rfl
    have vq := vin (N := 480) (iNt (n := qLast C k) (by omega)) (show qLast C k < 480 by omega)
    rw [fX9_looks_L9]
    unfold fX9_looks_9
    rw [zg_pos vk, ck, h63, if_pos (show Int32.ofNat (C.len k) ≤ Int32.ofNat j by rw [qI_le, iNt (by omega), iNt (by omega)]; omega), zg_pos vk, e, zg_pos vq, nm_eq, zg_pos vk, iN_cl (by omega)]
    have hd' := dg k (C.len k - 1) hk (by omega) (by omega)
    rw [← hq] at hd'
    refine ⟨_, rfl, fr.si (by omega), fun k' hk' => ?_, fun k' j' a b c => ?_⟩
    · by_cases q : k' = k
      · rw [q]
        refine ⟨?_, by rw [gi_si, if_pos (show 70 = 70 ∧ k = k from ⟨rfl, rfl⟩)]; exact hd'⟩
        rw [gi_si, if_neg (show ¬ (69 = 70 ∧ k = k) by omega)]
        have e2 : j = C.len k := by omega
        rw [e2] at cu
        have sm := hs k hk
        rcases cu with ⟨c1, c2⟩ | ⟨c1, c2⟩
        · have : S k = true := sm.mpr (fun i hi => c2 i hi)
          rw [this, c1]; rfl
        · have : ¬ S k = true := fun h => c2 (fun i hi => sm.mp h i hi)
          rw [if_neg this, c1]
      · obtain ⟨p1, p2⟩ := pr k' (by omega)
        exact ⟨by rw [gi_si, if_neg (show ¬ (69 = 70 ∧ k' = k) by omega)]; exact p1, by rw [gi_si, if_neg (show ¬ (70 = 70 ∧ k' = k) by omega)]; exact p2⟩
    · rw [gi_si, if_neg (by omega)]
      have l' := (hw.2 k' a).1
      refine dg k' j' a b ?_
      by_cases q : k' = k
      · subst q; omega
      · omega
  | succ d ih =>
    intro j F τ hj hF fr pr dg cu
    obtain ⟨F, rfl⟩ : ∃ F', F = F' + 1 := ⟨F - 1, by omega⟩
    have hjl : j < C.len k := by omega
    rw [fX9_looks_L9]
    have h63 : gi τ 63 k = Int32.ofNat (C.len k) := by rw [fr.1 _ _ (by omega)]; exact (hc.2 k hk).1
    have hc' := mCur_w fr.w hc
    obtain ⟨x, τ1, a1, a2, a3⟩ := m_look1 (n := 60 * k + j) (k := k) (j := j) rfl (by omega) (by omega) h63 hjl hl.2 (K := fX9_looks_L9 F) ((hc'.2 k hk).2 j hjl) (D := D) (S := S) (fun m hm => by
      obtain ⟨k', j', b1, b2, b3, b4, b5⟩ := m_ops hw hk hjl m hm
      obtain ⟨-, c1, c2⟩ := hd k' j' b2 b3
      rw [← b1] at c1 c2
      exact ⟨b5, fun _ => by rw [b1]; exact dg k' j' b2 b3 (by omega), c1, c2⟩) (fun q => by
      obtain ⟨b1, b2, -⟩ := cur_ok (hok j hjl) q
      obtain ⟨c1, c2⟩ := pr _ b1
      exact ⟨b1, by rw [c2, b2], c1⟩) (hok j hjl).k.2
    obtain ⟨d1, d2, d3⟩ := hd k j hk hjl
    rw [← d1] at a2
    rw [a1]
    have g : ∀ c i, c ≠ 69 → gi τ1 c i = gi τ c i := fun c i q => by
      rcases a3 with ⟨a3, -⟩ | ⟨a3, -⟩
      · rw [a3]
      · rw [a3, gi_si, if_neg (by omega)]
    have g9 : ∀ i, i ≠ k → gi τ1 69 i = gi τ 69 i := fun i q => by
      rcases a3 with ⟨a3, -⟩ | ⟨a3, -⟩
      · rw [a3]
      · rw [a3, gi_si, if_neg (by omega)]
    have f1 : lFr τ0 τ1 := by
      rcases a3 with ⟨a3, -⟩ | ⟨a3, -⟩
      · rw [a3]; exact fr
      · rw [a3]; exact fr.si (by omega)
    refine ih (j + 1) F _ (by omega) (by omega) (f1.si (by omega)) (fun k' hk' => ?_) (fun k' j' b1 b2 b3 => ?_) ?_
    · obtain ⟨p1, p2⟩ := pr k' hk'
      exact ⟨by rw [gi_si, if_neg (show ¬ (69 = 71 ∧ k' = 60 * k + j) by omega), g9 k' (by omega)]; exact p1, by rw [gi_si, if_neg (show ¬ (70 = 71 ∧ k' = 60 * k + j) by omega), g _ _ (by omega)]; exact p2⟩
    · rw [gi_si]
      by_cases q : 60 * k' + j' = 60 * k + j
      · rw [if_pos (by omega), q]; exact a2
      · rw [if_neg (by omega), g _ _ (by omega)]
        exact dg k' j' b1 b2 (by omega)
    · unfold lCu
      rw [gi_si, if_neg (by omega)]
      rcases a3 with ⟨a3, a4⟩ | ⟨a3, a4⟩
      · rw [a3]
        rcases cu with ⟨c1, c2⟩ | ⟨c1, c2⟩
        · exact Or.inl ⟨c1, fun j' hj' => by
            by_cases q : j' = j
            · rw [q]; exact a4
            · exact c2 j' (by omega)⟩
        · exact Or.inr ⟨c1, fun h => c2 (fun j' hj' => h j' (by omega))⟩
      · exact Or.inr ⟨by rw [a3, gi_si, if_pos (by omega)], fun h => a4 (h j (by omega))⟩
theorem m_looks {C : qCfg} {D : Nat → Int} {S : Nat → Bool} (hw : qWF C) (hd : xDg C D) (hs : xSm C S) {τ0 : zSt} (hc : mCur C τ0) {k : Nat} (hk : k < C.N) {τ : zSt} (fr : lFr τ0 τ) (pr : lPr C D S k τ) (dg : lDg C D (60 * k) τ) : ∃ τ', fX9_looks (Int32.ofNat k) τ = some τ' ∧ lFr τ0 τ' ∧ lPr C D S (k + 1) τ' ∧ lDg C D (60 * (k + 1)) τ' := by
  have hN := hw.1
  obtain ⟨Z, hZ⟩ := zFU_ge 1000 (by omega)
  have l := (hw.2 k hk).1
  show ∃ τ', fX9_looks_0 _ τ = _ ∧ _
  unfold fX9_looks_0
  rw [zg_pos (vin (N := 8) (iNt (n := k) (by omega)) (show k < 8 by omega)), iN_cl (by omega)]
  exact m_lookL hw hd hs hc hk (C.len k) 0 zFU _ (by omega) (by omega) (fr.si (by omega)) (fun k' hk' => by
    obtain ⟨p1, p2⟩ := pr k' hk'
    exact ⟨by rw [gi_si, if_neg (show ¬ (69 = 69 ∧ k' = k) by omega)]; exact p1, by rw [gi_si, if_neg (show ¬ (70 = 69 ∧ k' = k) by omega)]; exact p2⟩) (fun k' j' a b c => by
    rw [gi_si, if_neg (by omega)]; exact dg k' j' a b c) (Or.inl ⟨by rw [gi_si, if_pos (by omega)], fun j' hj' => absurd hj' (by omega)⟩)
theorem m_aboutL {C : qCfg} {D : Nat → Int} {S : Nat → Bool} (hw : qWF C) (hd : xDg C D) (hs : xSm C S) {τ0 : zSt} (hc : mCur C τ0) {c : Nat} (hcN : c < C.N) {w : Int32} : ∀ (d k F : Nat) (τ : zSt), k + d = c + 1 → d < F → lFr τ0 τ → lPr C D S k τ → lDg C D (60 * k) τ → ∃ τ' r, fX9_about_L12 F (Int32.ofNat c) w (Int32.ofNat k) τ = some (r, τ') ∧ lFr τ0 τ' ∧ (r.toInt = if w = 0 then ((C.len c : Nat) : Int) else if w = 1 then (if S c then 1 else 0) else if w = 2 then D (qLast C c) else -1) := by
  have hN := hw.1
  intro d
  induction d with
  | zero =>
    intro k F τ hk hF fr pr dg
    obtain ⟨F, rfl⟩ : ∃ F', F = F' + 1 := ⟨F - 1, by omega⟩
    rw [fX9_about_L12]
    unfold fX9_about_12
    have vc := vin (N := 8) (iNt (n := c) (by omega)) (show c < 8 by omega)
    have l := (hw.2 c hcN).1
    obtain ⟨p1, p2⟩ := pr c (by omega)
    rw [if_pos (show Int32.ofNat c < Int32.ofNat k by rw [qI_lt, iNt (by omega), iNt (by omega)]; omega)]
    by_cases w0 : w = 0
    · rw [if_pos w0, if_pos w0, zg_pos vc, iN_cl (by omega), fr.1 _ _ (by omega), (hc.2 c hcN).1]
      exact ⟨_, _, rfl, fr, iNt (by omega)⟩
    rw [if_neg w0, if_neg w0]
    by_cases w1 : w = 1
    · rw [if_pos w1, if_pos w1, zg_pos vc, iN_cl (by omega), p1]
      refine ⟨_, _, rfl, fr, ?_⟩
      cases S c with
      | true => exact q1I
      | false => exact q0I
    rw [if_neg w1, if_neg w1]
    by_cases w2 : w = 2
    · rw [if_pos w2, if_pos w2, zg_pos vc, iN_cl (by omega)]
      exact ⟨_, _, rfl, fr, p2⟩
    rw [if_neg w2, if_neg w2]
    exact ⟨_, _, rfl, fr, eM1⟩
  | succ d ih =>
    intro k F τ hk hF fr pr dg
    obtain ⟨F, rfl⟩ : ∃ F', F = F' + 1 := ⟨F - 1, by omega⟩
    rw [fX9_about_L12]
    unfold fX9_about_12
    rw [if_neg (show ¬ Int32.ofNat c < Int32.ofNat k by rw [qI_lt, iNt (by omega), iNt (by omega)]; omega)]
    obtain ⟨τ', a1, a2, a3, a4⟩ := m_looks hw hd hs hc (k := k) (by omega) fr pr dg
    rw [a1, bd1_some, nm_eq, iN_s (by omega)]
    exact ih (k + 1) F τ' (by omega) (by omega) a2 a3 a4
theorem hs4 (σ τ : zSt) (c w : Int32) (h : zInv σ τ) : ∃ (r : Int32) (τ' : zSt), fX8_about c w σ = some r ∧ fX9_about c w τ = some (r, τ') ∧ zInv σ τ' := by
  obtain ⟨C, M, D, S, h⟩ := h
  show ∃ r τ', fX8_about_0 c w σ = _ ∧ fX9_about_0 c w τ = _ ∧ _
  unfold fX8_about_0 fX9_about_0
  rcases z_has h c with ⟨e1, e2⟩ | ⟨e1, e2, k, rfl, hk⟩
  · rw [e1, e2, if_pos rfl, if_pos rfl]
    exact ⟨_, _, rfl, rfl, C, M, D, S, h⟩
  rw [e1, e2, if_neg iNe1, if_neg iNe1]
  obtain ⟨⟨⟨hw, hm⟩, ⟨hd, hs⟩, hx, hb, hc⟩, -, -, -, -⟩ := id h
  have hN := hw.1
  obtain ⟨Z, hZ⟩ := zFU_ge 1000 (by omega)
  obtain ⟨τ', r, a1, a2, a3⟩ := m_aboutL hw hd hs hc hk (w := w) (k + 1) 0 zFU τ (by omega) (by omega) lFr.rf (fun k' hk' => absurd hk' (by omega)) (fun k' j' _ _ h3 => absurd h3 (by omega))
  have a1' : fX9_about_L12 zFU (Int32.ofNat k) w 0 τ = some (r, τ') := a1
  have l := (hw.2 k hk).1
  obtain ⟨b1, b2⟩ := hb k hk
  rw [a1']
  refine ⟨r, τ', ?_, rfl, C, M, D, S, zI_l h a2⟩
  by_cases w0 : w = 0
  · rw [if_pos w0] at a3
    rw [if_pos w0, x_curveAt (by omega), bd1_some, zg_pos (by omega), (hx.2 k hk).1, iN_of a3]
  rw [if_neg w0] at a3
  rw [if_neg w0]
  by_cases w1 : w = 1
  · rw [if_pos w1] at a3
    rw [if_pos w1, x_curveAt (by omega), bd1_some, zg_pos (by omega), b1]
    cases hS : S k with
    | true =>
      rw [hS] at a3
      rw [if_pos rfl, if_neg iNe1]
      exact congrArg some (qI_eq.mpr (by rw [a3, q1I]; rfl))
    | false =>
      rw [hS] at a3
      rw [if_neg (show ¬ false = true by decide), if_pos (show (0 : Int32) = 0 from rfl)]
      exact congrArg some (qI_eq.mpr (by rw [a3, q0I]; rfl))
  rw [if_neg w1] at a3
  rw [if_neg w1]
  by_cases w2 : w = 2
  · rw [if_pos w2] at a3
    rw [if_pos w2, x_curveAt (by omega), bd1_some, zg_pos (by omega)]
    exact congrArg some (qI_eq.mpr (by rw [a3, b2]))
  rw [if_neg w2] at a3
  rw [if_neg w2]
  exact congrArg some (qI_eq.mpr (by rw [a3, eM1]))
