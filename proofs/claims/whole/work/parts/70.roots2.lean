/-! parts that wait: ends one behind the other, and from and to of each -/
def zWk (w : Nat) (bg : Int32) (σ τ : zSt) : Prop := gi σ 5 4 = Int32.ofNat w ∧ gi τ 61 33 = Int32.ofNat w ∧ (∀ i, i < w → (gl τ 79 i).toInt = (gi σ 17 i).toInt) ∧ (∀ i, i + 1 < w → (gl τ 78 i).toInt = (gi σ 17 (i + 1)).toInt) ∧ (0 < w → (gl τ 78 (w - 1)).toInt = bg.toInt)
def zBg (w : Nat) (bg : Int32) (σ : zSt) (i : Nat) : Int := if i + 1 < w then (gi σ 17 (i + 1)).toInt else bg.toInt
def zWait (P : Nat → Int → Int → Prop) (w : Nat) (bg : Int32) (σ : zSt) : Prop := ∀ i, i < w → P i (zBg w bg σ i) (gi σ 17 i).toInt
theorem z_popK {w : Nat} {bg : Int32} {σ τ σ' τ' : zSt} (h : zWk (w + 1) bg σ τ) (a1 : gi σ' 5 4 = Int32.ofNat w) (a2 : ∀ i, gi σ' 17 i = gi σ 17 i) (b1 : gi τ' 61 33 = Int32.ofNat w) (b2 : ∀ c i, c = 78 ∨ c = 79 → gl τ' c i = gl τ c i) : zWk w (gi σ 17 w) σ' τ' := by
  obtain ⟨-, -, h3, h4, -⟩ := h
  refine ⟨a1, b1, fun i hi => ?_, fun i hi => ?_, fun hw => ?_⟩
  · rw [a2, b2 79 i (by omega)]; exact h3 i (by omega)
  · rw [a2, b2 78 i (by omega)]; exact h4 i (by omega)
  · rw [b2 78 _ (by omega), h4 (w - 1) (by omega), show w - 1 + 1 = w by omega]
theorem z_pushK {w : Nat} {bg m : Int32} {σ τ σ' τ' : zSt} {p q r : Int64} (h : zWk (w + 1) bg σ τ) (hp : p.toInt = bg.toInt) (hq : q.toInt = (gi σ 17 w).toInt) (hr : r.toInt = m.toInt) (a1 : gi σ' 5 4 = Int32.ofNat (w + 2)) (a2 : ∀ i, gi σ' 17 i = if i = w + 1 then m else gi σ 17 i) (b1 : gi τ' 61 33 = Int32.ofNat (w + 2)) (b2 : ∀ i, gl τ' 78 i = if i = w + 1 then p else if i = w then r else gl τ 78 i) (b3 : ∀ i, gl τ' 79 i = if i = w + 1 then r else if i = w then q else gl τ 79 i) : zWk (w + 2) bg σ' τ' := by
  obtain ⟨-, -, h3, h4, -⟩ := h
  refine ⟨a1, b1, fun i hi => ?_, fun i hi => ?_, fun hw => ?_⟩
  · rw [a2, b3]
    by_cases e : i = w + 1
    · rw [if_pos e, if_pos e]; exact hr
    · rw [if_neg e, if_neg e]
      by_cases e2 : i = w
      · rw [if_pos e2, e2]; exact hq
      · rw [if_neg e2]; exact h3 i (by omega)
  · rw [a2, b2, if_neg (show ¬ i = w + 1 by omega)]
    by_cases e2 : i = w
    · rw [if_pos e2, if_pos (show i + 1 = w + 1 by omega)]; exact hr
    · rw [if_neg e2, if_neg (show ¬ i + 1 = w + 1 by omega)]; exact h4 i (by omega)
  · rw [b2, if_pos (show w + 2 - 1 = w + 1 by omega)]; exact hp
theorem z_popD {P : Nat → Int → Int → Prop} {w : Nat} {bg : Int32} {σ σ' : zSt} (h : zWait P (w + 1) bg σ) (a2 : ∀ i, gi σ' 17 i = gi σ 17 i) : zWait P w (gi σ 17 w) σ' := by
  intro i hi
  have := h i (by omega)
  unfold zBg at this ⊢
  rw [if_pos (show i + 1 < w + 1 by omega)] at this
  rw [a2 i]
  by_cases e : i + 1 < w
  · rw [if_pos e, a2]; exact this
  · rw [if_neg e]
    have e2 : i + 1 = w := by omega
    rw [e2] at this; exact this
theorem z_pushD {P : Nat → Int → Int → Prop} {w : Nat} {bg m : Int32} {σ σ' : zSt} (h : zWait P (w + 1) bg σ) (a2 : ∀ i, gi σ' 17 i = if i = w + 1 then m else gi σ 17 i) (h1 : P w m.toInt (gi σ 17 w).toInt) (h2 : P (w + 1) bg.toInt m.toInt) : zWait P (w + 2) bg σ' := by
  intro i hi
  unfold zBg
  by_cases e : i = w + 1
  · rw [if_neg (show ¬ i + 1 < w + 2 by omega), a2, if_pos e, e]; exact h2
  · rw [if_pos (show i + 1 < w + 2 by omega), a2 i, if_neg e, a2]
    by_cases e2 : i = w
    · rw [if_pos (show i + 1 = w + 1 by omega), e2]; exact h1
    · rw [if_neg (show ¬ i + 1 = w + 1 by omega)]
      have := h i (by omega)
      unfold zBg at this
      rw [if_pos (show i + 1 < w + 1 by omega)] at this
      exact this
theorem e64I : (64 : Int32).toInt = 64 := by decide
theorem x_first {w : Nat} (hw : w < 64) {σ : zSt} (h : gi σ 5 4 = Int32.ofNat (w + 1)) : fX7_firstEnd σ = some (gi σ 17 w) := by
  show fX7_firstEnd_0 σ = _
  unfold fX7_firstEnd_0
  have e := iNt (n := w + 1) (by omega)
  have e1 : (Int32.ofNat (w + 1) - 1).toInt = (w : Nat) := by rw [qI_sub (by rw [e, q1I]; omega) (by rw [e, q1I]; omega), e, q1I]; omega
  rw [h, if_neg (show ¬ Int32.ofNat (w + 1) ≤ 0 by rw [qI_le, e, q0I]; omega), if_neg (show ¬ (64 : Int32) < Int32.ofNat (w + 1) by rw [qI_lt, e, e64I]; omega), zg_pos (vin e1 hw), tcn e1]
theorem x_await {w : Nat} (hw : w < 64) {σ : zSt} (h : gi σ 5 4 = Int32.ofNat w) (m : Int32) : fX7_await m σ = some (si (si σ 17 w m) 5 4 (Int32.ofNat (w + 1))) := by
  show fX7_await_0 m σ = _
  unfold fX7_await_0
  have e := iNt (n := w) (by omega)
  rw [h, if_neg (show ¬ Int32.ofNat w < 0 by rw [qI_neg0, e]; omega), if_neg (show ¬ (64 : Int32) ≤ Int32.ofNat w by rw [qI_le, e, e64I]; omega), zg_pos (vin e hw), iN_cl (by omega), iN_s (by omega)]
def rP (E : Int) (i : Nat) (b e : Int) : Prop := b < e ∧ e + i ≤ E
theorem iN_p {n : Nat} (h : n + 1 < 2147483648) : Int32.ofNat (n + 1) - 1 = Int32.ofNat n := qI_eq.mpr (by
  have e := iNt h
  rw [qI_sub (by rw [e, q1I]; omega) (by rw [e, q1I]; omega), e, q1I, iNt (by omega)]; omega)
theorem iN_a {n m : Nat} (h : n + m < 2147483648) : Int32.ofNat n + Int32.ofNat m = Int32.ofNat (n + m) := qI_eq.mpr (by
  have e := iNt (n := n) (by omega)
  have f := iNt (n := m) (by omega)
  rw [qI_add (by rw [e, f]; omega) (by rw [e, f]; omega), e, f, iNt h]; omega)
theorem e34L : (17179869184 : Int64).toInt = 17179869184 := by decide
theorem e59I : (59 : Int32).toInt = 59 := by decide
theorem z_rootsL {C : qCfg} {M : Nat → Nat} (hw : qWF C) (hm : xNd C M) {k : Nat} (hk : k < C.N) {nar : Int32} (hnar : 1 ≤ nar.toInt) {E : Int} (hE : E ≤ 2147483647) {σ0 τ0 : zSt} (hx : xCur C M σ0) (hc : mCur C τ0) : ∀ (d F G w t : Nat) (bg : Int32) (v7 : Int64) (σ τ : zSt), 2 * (E - bg.toInt) - w ≤ d → d < F → d < G → 0 ≤ v7.toInt → v7.toInt + d ≤ 8589934592 → pFr σ0 σ → qFr τ0 τ → gi τ 61 39 = gi τ0 61 39 → zWk w bg σ τ → zWait (rP E) w bg σ → zRtN t σ τ → t + w ≤ 60 → ∃ σ' τ' t', fX7_seekRoots_L22 F (Int32.ofNat k) nar bg v7 σ = some σ' ∧ fX9_roots_L47 G (Int32.ofNat k) nar τ = some (Int32.ofNat t', τ') ∧ zRtN t' σ' τ' ∧ t' ≤ 60 ∧ pFr σ0 σ' ∧ qFr τ0 τ' ∧ gi τ' 61 39 = gi τ0 61 39 := by
  intro d
  induction d with
  | zero =>
    intro F G w t bg v7 σ τ h1 h2 h3 h4 h5 f1 f2 f3 wk wd rt tw
    obtain ⟨F, rfl⟩ : ∃ F', F = F' + 1 := ⟨F - 1, by omega⟩
    obtain ⟨G, rfl⟩ : ∃ F', G = F' + 1 := ⟨G - 1, by omega⟩
    rw [fX7_seekRoots_L22, fX9_roots_L47]
    unfold fX7_seekRoots_22 fX9_roots_47
    cases w with
    | zero =>
      rw [if_neg (show ¬ (17179869184 : Int64) ≤ v7 by rw [qL_le, e34L]; omega), wk.1, wk.2.1, if_pos (show Int32.ofNat 0 ≤ 0 by decide), if_pos (show Int32.ofNat 0 ≤ 0 by decide), rt.2.1]
      exact ⟨_, _, t, rfl, rfl, rt, by omega, f1, f2, f3⟩
    | succ w =>
      exfalso
      have := wd w (by omega)
      unfold zBg at this
      rw [if_neg (show ¬ w + 1 < w + 1 by omega)] at this
      obtain ⟨p1, p2⟩ := this
      omega
  | succ d ih =>
    intro F G w t bg v7 σ τ h1 h2 h3 h4 h5 f1 f2 f3 wk wd rt tw
    obtain ⟨F, rfl⟩ : ∃ F', F = F' + 1 := ⟨F - 1, by omega⟩
    obtain ⟨G, rfl⟩ : ∃ F', G = F' + 1 := ⟨G - 1, by omega⟩
    rw [fX7_seekRoots_L22, fX9_roots_L47]
    unfold fX7_seekRoots_22 fX9_roots_47
    cases w with
    | zero =>
      rw [if_neg (show ¬ (17179869184 : Int64) ≤ v7 by rw [qL_le, e34L]; omega), wk.1, wk.2.1, if_pos (show Int32.ofNat 0 ≤ 0 by decide), if_pos (show Int32.ofNat 0 ≤ 0 by decide), rt.2.1]
      exact ⟨_, _, t, rfl, rfl, rt, by omega, f1, f2, f3⟩
    | succ w =>
      have ew := iNt (n := w + 1) (by omega)
      have et := iNt (n := t) (by omega)
      have pw := wd w (by omega)
      unfold zBg at pw
      rw [if_neg (show ¬ w + 1 < w + 1 by omega)] at pw
      obtain ⟨p1, p2⟩ := pw
      obtain ⟨k1, k2, k3, k4, k5⟩ := id wk
      have vw := vin (N := 260) (iNt (n := w) (by omega)) (show w < 260 by omega)
      have cw := iN_cl (n := w) (by omega)
      have hp := k5 (by omega)
      rw [show w + 1 - 1 = w by omega] at hp
      have hq := k3 w (by omega)
      have rb := qI_rng bg
      have re := qI_rng (gi σ 17 w)
      rw [if_neg (show ¬ (17179869184 : Int64) ≤ v7 by rw [qL_le, e34L]; omega), x_first (by omega) k1, bd1_some, k1, k2, if_neg (show ¬ Int32.ofNat (w + 1) ≤ 0 by rw [qI_le, ew, q0I]; omega), if_neg (show ¬ Int32.ofNat (w + 1) ≤ 0 by rw [qI_le, ew, q0I]; omega), iN_p (by omega), zg_pos vw, cw, nm_eq, zg_pos vw, nm_eq]
      obtain ⟨en, hen⟩ : ∃ en, en = gi σ 17 w := ⟨_, rfl⟩
      obtain ⟨p, hpe⟩ : ∃ p, p = gl τ 78 w := ⟨_, rfl⟩
      obtain ⟨q, hqe⟩ : ∃ q, q = gl τ 79 w := ⟨_, rfl⟩
      rw [← hen, ← hpe, ← hqe]
      rw [← hen] at p1 p2 hq re
      rw [← hpe] at hp
      rw [← hqe] at hq
      obtain ⟨σ1, a1, a2⟩ := x_lookAt hw hm (xCur_y f1.y hx) hk (a := bg) (b := en) (by omega)
      have fr0 : wFr τ0 (si τ 61 33 (Int32.ofNat w)) := f2.w.tr (wFr.rf.si (by omega))
      obtain ⟨τ1, b1, b2⟩ := m_looked hw (mCur_w fr0 hc) hk (a := bg) (b := en) (by omega) hp hq
      rw [a1, bd2_some, b1, bd2_some]
      have hr2 : rLk C k bg.toInt en.toInt ≤ 2 := by
        unfold rLk rLook
        split
        · omega
        · split
          · omega
          · split <;> omega
      generalize rLk C k bg.toInt en.toInt = r at a1 b1 hr2 ⊢
      have er := iNt (n := r) (by omega)
      have rt1 : zRtN t σ1 τ1 := zRtN_fr rt (a2.1 _ _) (fun c i _ _ => a2.1 c i) (by rw [b2.1 _ _ (by omega), gi_si, if_neg (by omega)]) (fun i => by rw [b2.1 _ _ (by omega), gi_si, if_neg (by omega)]) (fun c i hc => by rw [b2.2 _ _ (by omega), gl_si])
      have s54 : gi σ1 5 4 = Int32.ofNat (w + 1) := by rw [a2.1]; exact k1
      have s17 : ∀ i, gi σ1 17 i = gi σ 17 i := fun i => a2.1 17 i
      have t33 : gi τ1 61 33 = Int32.ofNat w := by rw [b2.1 _ _ (by omega), gi_si, if_pos (by omega)]
      have t39 : gi τ1 61 39 = gi τ0 61 39 := by rw [b2.1 _ _ (by omega), gi_si, if_neg (by omega)]; exact f3
      have t78 : ∀ c i, c = 78 ∨ c = 79 → gl τ1 c i = gl τ c i := fun c i hc => by rw [b2.2 _ _ (by omega), gl_si]
      have F1 : pFr σ0 σ1 := f1.tr a2.p
      have F2 : qFr τ0 τ1 := (f2.tr (qFr.rf.si (by omega))).tr b2.q
      have ewid : (en.toInt64 - bg.toInt64).toInt = en.toInt - bg.toInt := by rw [qL_sub (by rw [qL_ofI, qL_ofI]; omega) (by rw [qL_ofI, qL_ofI]; omega), qL_ofI, qL_ofI]
      have ewid2 : (q - p).toInt = en.toInt - bg.toInt := by rw [qL_sub (by omega) (by omega), hq, hp]
      -- both keep it
      have keep : ∃ σ' τ' t', fX7_seekRoots_126 (fX7_seekRoots_L22 F) (Int32.ofNat k) nar bg v7 en (Int32.ofNat r) σ1 = some σ' ∧ fX9_roots_132 (fX9_roots_L47 G) (Int32.ofNat k) nar p q (Int32.ofNat r) τ1 = some (Int32.ofNat t', τ') ∧ zRtN t' σ' τ' ∧ t' ≤ 60 ∧ pFr σ0 σ' ∧ qFr τ0 τ' ∧ gi τ' 61 39 = gi τ0 61 39 := by
        obtain ⟨σ2, τ2, t2, c1, c2, c3, c4, c5, c6, c7, c8, c9, c10⟩ := z_keep (t := t) (by omega) rt1 hp hq hr2 (K := fX9_roots_L47 G) (v1 := Int32.ofNat k) (v4 := nar)
        unfold fX7_seekRoots_126
        rw [c1, bd1_some, c2, nm_eq, nm_eq, c7.1, s54, iN_p (by omega)]
        have ev : (v7 + 1).toInt = v7.toInt + 1 := by rw [qL_add (by rw [q1L]; omega) (by rw [q1L]; omega), q1L]
        have a17 : ∀ i, gi (si σ2 5 4 (Int32.ofNat w)) 17 i = gi σ 17 i := fun i => by rw [gi_si, if_neg (by omega), c7.2, s17]
        rw [hen]
        refine ih F G w t2 (gi σ 17 w) (v7 + 1) _ _ (by rw [← hen]; omega) (by omega) (by omega) (by rw [ev]; omega) (by rw [ev]; omega) (F1.tr (c5.tr (pFr.rf.si (by omega)))) (F2.tr c6) (by rw [c9]; exact t39) (z_popK wk (by rw [gi_si, if_pos (by omega)]) a17 (by rw [c8]; exact t33) (fun c i hc => by rw [c10 c i hc, t78 c i hc])) (z_popD wd a17) (zRtN_fr c3 (by rw [gi_si, if_neg (by omega)]) (fun c i _ _ => by rw [gi_si, if_neg (by omega)]) rfl (fun _ => rfl) (fun _ _ _ => rfl)) (by omega)
      by_cases r2 : r = 2
      · have e2 : Int32.ofNat r = 2 := by rw [r2]; rfl
        rw [if_pos r2]
        rw [if_pos (show (-1 : Int32) = -1 from rfl)]
        rw [e2] at keep ⊢
        unfold fX7_seekRoots_85
        rw [if_pos (show (2 : Int32) = 2 from rfl), if_pos (show (2 : Int32) = 2 from rfl)]
        by_cases wn : en.toInt - bg.toInt ≤ nar.toInt
        · rw [if_pos (show en.toInt64 - bg.toInt64 ≤ nar.toInt64 by rw [qL_le, ewid, qL_ofI]; exact wn), if_pos (show q - p ≤ nar.toInt64 by rw [qL_le, ewid2, qL_ofI]; exact wn)]
          exact keep
        rw [if_neg (show ¬ en.toInt64 - bg.toInt64 ≤ nar.toInt64 by rw [qL_le, ewid, qL_ofI]; exact wn), if_neg (show ¬ q - p ≤ nar.toInt64 by rw [qL_le, ewid2, qL_ofI]; exact wn)]
        rw [rt1.1, rt1.2.1, s54, t33, iN_a (by omega), iN_a (by omega), show t + (w + 1) = t + w + 1 by omega, iN_p (by omega)]
        by_cases full : t + w < 59
        · have c1 : Int32.ofNat (t + w) < 59 := by rw [qI_lt, iNt (by omega), e59I]; omega
          rw [if_pos c1, if_pos c1, if_neg (show ¬ (64 : Int32) ≤ Int32.ofNat (w + 1) by rw [qI_le, ew, e64I]; omega), x_await (by omega) s54, bd1_some, nm_eq]
          unfold fX9_roots_132
          rw [if_pos (show (-1 : Int32) = -1 from rfl)]
          obtain ⟨m, m1, m2⟩ := m_mid hp hq ⟨by omega, by omega⟩ ⟨by omega, by omega⟩
          have mx := x_mid bg en
          have vw1 := vin (N := 260) (iNt (n := w + 1) (by omega)) (show w + 1 < 260 by omega)
          have cw1 := iN_cl (n := w + 1) (by omega)
          rw [m1, bd1_some, t33, zg_pos vw, zg_pos vw, iN_s (by omega), zg_pos vw1, zg_pos vw1, cw, cw1, show Int32.ofNat w + 2 = Int32.ofNat (w + 2) from iN_a (m := 2) (by omega)]
          have ev : (v7 + 1).toInt = v7.toInt + 1 := by rw [qL_add (by rw [q1L]; omega) (by rw [q1L]; omega), q1L]
          have a17 : ∀ i, gi (si (si σ1 17 (w + 1) (fX8_middleOf bg en)) 5 4 (Int32.ofNat (w + 1 + 1))) 17 i = if i = w + 1 then fX8_middleOf bg en else gi σ 17 i := fun i => by
            rw [gi_si, if_neg (by omega), gi_si, s17]
            by_cases e : i = w + 1
            · rw [if_pos e, if_pos (by omega)]
            · rw [if_neg e, if_neg (by omega)]
          refine ih F G (w + 2) t bg (v7 + 1) _ _ (by omega) (by omega) (by omega) (by rw [ev]; omega) (by rw [ev]; omega) ((F1.si (by omega)).si (by omega)) (((((F2.sl (by omega)).sl (by omega)).sl (by omega)).sl (by omega)).si (by omega)) (by rw [gi_si, if_neg (by omega)]; exact t39) (z_pushK (m := fX8_middleOf bg en) (p := p) (q := q) (r := m) wk hp (by rw [← hen]; exact hq) (by rw [m2, mx]) (by rw [gi_si, if_pos (by omega)]) a17 (by rw [gi_si, if_pos (by omega)]) (fun i => ?_) (fun i => ?_)) (z_pushD wd a17 ⟨by rw [mx, ← hen]; omega, by rw [← hen]; exact p2⟩ ⟨by rw [mx]; omega, by rw [mx]; omega⟩) (zRtN_fr rt1 (by rw [gi_si, if_neg (by omega), gi_si, if_neg (by omega)]) (fun c i _ _ => by rw [gi_si, if_neg (by omega), gi_si, if_neg (by omega)]) (by rw [gi_si, if_neg (by omega)]; rfl) (fun _ => by rw [gi_si, if_neg (by omega)]; rfl) (fun c i hc => by rw [gl_si, gl_sl, if_neg (by omega), gl_sl, if_neg (by omega), gl_sl, if_neg (by omega), gl_sl, if_neg (by omega)])) (by omega)
          · rw [gl_si, gl_sl, if_neg (by omega), gl_sl]
            by_cases e : i = w + 1
            · rw [if_pos (by omega), if_pos e]
            · rw [if_neg (by omega), if_neg e, gl_sl, if_neg (by omega), gl_sl]
              by_cases e3 : i = w
              · rw [if_pos (by omega), if_pos e3]
              · rw [if_neg (by omega), if_neg e3, t78 78 i (by omega)]
          · rw [gl_si, gl_sl]
            by_cases e : i = w + 1
            · rw [if_pos (by omega), if_pos e]
            · rw [if_neg (by omega), if_neg e, gl_sl, if_neg (by omega), gl_sl]
              by_cases e3 : i = w
              · rw [if_pos (by omega), if_pos e3]
              · rw [if_neg (by omega), if_neg e3, gl_sl, if_neg (by omega), t78 79 i (by omega)]
        · have c1 : ¬ Int32.ofNat (t + w) < 59 := by rw [qI_lt, iNt (by omega), e59I]; omega
          rw [if_neg c1, if_neg c1]
          exact keep
      · have e2 : ¬ Int32.ofNat r = 2 := by rw [qI_eq, er, show (2 : Int32).toInt = 2 by decide]; omega
        have e3 : ¬ Int32.ofNat r = -1 := by rw [qI_eq, er, show (-1 : Int32).toInt = -1 by decide]; omega
        rw [if_neg r2, if_neg e3]
        unfold fX7_seekRoots_85
        rw [if_neg e2, if_neg e2]
        have three : ∀ (A B : Prop) [Decidable A] [Decidable B] (x : Option zSt), (if A then x else if B then x else x) = x := fun A B _ _ x => by
          by_cases a : A
          · rw [if_pos a]
          · rw [if_neg a]; by_cases b : B
            · rw [if_pos b]
            · rw [if_neg b]
        rw [three]
        exact keep
