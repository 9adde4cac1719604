def mP2 (C : qCfg) (sp : qSh) (σ : zSt) (n : Nat) (o : Option zSt) : Prop := ∃ τ, o = some τ ∧ mFr σ τ ∧ mLs C sp n τ
theorem m_s63 {n : Nat} (hn : n < 480) {σ : zSt} {s : qSh} (h : mS σ s) {K : Int32 → Int32 → zSt → Option zSt} {K2 : Int32 → Int32 → Int32 → zSt → Option zSt} {c k : Int32} : ∃ τ, fX9_slopes_63 K K2 c k (Int32.ofNat n) σ = K2 c k (Int32.ofNat (n + 1)) τ ∧ mFr σ τ ∧ mL τ n s ∧ (∀ m t, mV σ m t → mV τ m t) ∧ ∀ m t, m ≠ n → mL σ m t → mL τ m t := by
  have vn := vin (iNt (n := n) (by omega)) hn
  have cn := iN_cl (n := n) (by omega)
  refine ⟨_, by unfold fX9_slopes_63; rw [zg_pos vn, zg_pos vn, zg_pos vn, cn, nm_eq, iN_s (by omega)], ((mFr.rf.sl (by omega)).sl (by omega)).si (by omega), ?_, fun m t ht => ?_, fun m t hm ht => ?_⟩
  · cases s with
    | none =>
      replace h : gi σ 61 21 = 1 := h
      show gi _ 77 n = 1
      rw [gi_si, if_pos (by omega), h, nar_1]
    | some q =>
      obtain ⟨h1, h2, h3⟩ := h
      refine ⟨by rw [gi_si, if_pos (by omega), h1, nar_0], ?_, ?_⟩
      · rw [gl_si, gl_sl, if_neg (by omega), gl_sl, if_pos (by omega)]; exact h2
      · rw [gl_si, gl_sl, if_pos (by omega)]; exact h3
  · exact mV_at (by rw [gi_si, if_neg (by omega), gi_sl, gi_sl]) (by rw [gl_si, gl_sl, if_neg (by omega), gl_sl, if_neg (by omega)]) (by rw [gl_si, gl_sl, if_neg (by omega), gl_sl, if_neg (by omega)]) ht
  · exact mL_at (by rw [gi_si, if_neg (by omega), gi_sl, gi_sl]) (by rw [gl_si, gl_sl, if_neg (by omega), gl_sl, if_neg (by omega)]) (by rw [gl_si, gl_sl, if_neg (by omega), gl_sl, if_neg (by omega)]) ht
theorem m_sIn {C : qCfg} (hw : qWF C) {σ : zSt} (h0 : mCur C σ) {c k : Nat} (hc : c < C.N) (hk : k ≤ c) {sp : qSh} (hsp : qOk sp) {N : Nat} {K : Int32 → Int32 → zSt → Option zSt} (hK : ∀ τ, mFr σ τ → mVals C sp (60 * (c + 1)) τ → mLs C sp (60 * (k + 1)) τ → mP2 C sp σ N (K (Int32.ofNat c) (Int32.ofNat (k + 1)) τ)) : ∀ (d j F : Nat) (τ : zSt), j + d = C.len k → d < F → mFr σ τ → mVals C sp (60 * (c + 1)) τ → mLs C sp (60 * k + j) τ → mP2 C sp σ N (fX9_slopes_L24 K F (Int32.ofNat c) (Int32.ofNat k) (Int32.ofNat (60 * k + j)) τ) := by
  have hN := hw.1
  have hkN : k < C.N := by omega
  obtain ⟨hl, hok, -⟩ := hw.2 k hkN
  intro d
  induction d with
  | zero =>
    intro j F τ e hF fr hv hL
    obtain ⟨G, rfl⟩ : ∃ G, F = G + 1 := ⟨F - 1, by omega⟩
    rw [fX9_slopes_L24]
    unfold fX9_slopes_24
    rw [m_lastC hw (mCur_fr fr h0) hkN, bd1_some, if_pos (by rw [qI_lt, iNt (by unfold qLast; omega), iNt (by omega)]; unfold qLast; omega), nm_eq, iN_s (by omega)]
    refine hK τ fr hv (fun k' j' a1 a2 a3 => hL k' j' a1 a2 ?_)
    have l' := (hw.2 k' a1).1
    by_cases q : k' = k
    · subst q; omega
    · omega
  | succ d ih =>
    intro j F τ e hF fr hv hL
    obtain ⟨G, rfl⟩ : ∃ G, F = G + 1 := ⟨F - 1, by omega⟩
    have hj : j < C.len k := by omega
    have vn := vin (iNt (n := 60 * k + j) (by omega)) (show 60 * k + j < 480 by omega)
    have cn := iN_cl (n := 60 * k + j) (by omega)
    rw [fX9_slopes_L24]
    unfold fX9_slopes_24
    rw [m_lastC hw (mCur_fr fr h0) hkN, bd1_some, if_neg (by rw [qI_lt, iNt (by unfold qLast; omega), iNt (by omega)]; unfold qLast; omega), zg_pos vn, cn]
    have hcu := mCur_fr fr h0
    have hlt := wf_lt hw hkN hj
    have hvn := hv k j hkN hj (by omega)
    have fin : ∀ ρ, mFr τ ρ → (∀ m t, mV τ m t → mV ρ m t) → (∀ m t, mL τ m t → mL ρ m t) → mS ρ (lA C.A sp (60 * k + j)) → mP2 C sp σ N (fX9_slopes_63 K (fX9_slopes_L24 K G) (Int32.ofNat c) (Int32.ofNat k) (Int32.ofNat (60 * k + j)) ρ) := by
      intro ρ f1 f2 f3 f4
      obtain ⟨κ, b1, b2, b3, b4, b5⟩ := m_s63 (n := 60 * k + j) (by omega) f4 (K := K) (K2 := fX9_slopes_L24 K G) (c := Int32.ofNat c) (k := Int32.ofNat k)
      rw [b1]
      refine ih (j + 1) G κ (by omega) (by omega) ((fr.tr f1).tr b2) (fun k' j' a1 a2 a3 => b4 _ _ (f2 _ _ (hv k' j' a1 a2 a3))) (fun k' j' a1 a2 a3 => ?_)
      by_cases q : 60 * k' + j' = 60 * k + j
      · rw [q]; exact b3
      · exact b5 _ _ q (f3 _ _ (hL k' j' a1 a2 (by omega)))
    have E := mEq_21 τ 0
    cases hV : vA C.A sp (60 * k + j) with
    | none =>
      rw [hV] at hvn
      replace hvn : gi τ 76 (60 * k + j) = 1 := hvn
      rw [hvn, if_neg (by decide)]
      obtain ⟨ρ, r1, r2, r3⟩ := m_isHole (si τ 61 21 0)
      rw [r1, bd1_some]
      have E2 := E.tr r3
      exact fin ρ E2.fr (fun m t h => mV_eq E2 h) (fun m t h => mL_eq E2 h) (by rw [lA_none hlt hV]; exact r2)
    | some q =>
      have hvn' := hvn
      rw [hV] at hvn
      rw [hvn.1, if_pos rfl]
      obtain ⟨ρ, r1, r2, r3⟩ := m_slope (n := 60 * k + j) (by omega) (σ := si τ 61 21 0) (mAct_eq E ((hcu.2 k hkN).2 j hj)) (V := vA C.A sp) (L := lA C.A sp) (fun m hm => by
        obtain ⟨k', j', a1, a2, a3, a4, a5⟩ := m_ops hw hkN hj m hm
        refine ⟨a5, by rw [a1]; exact mV_eq E (hv k' j' a2 a3 (by omega)), vA_ok hw hsp m k' j' a1 a2 a3, ?_⟩
        cases hvm : vA C.A sp m with
        | some p => exact ⟨p, rfl⟩
        | none =>
          rw [vA_step hw hkN hj, sAct_none hm hvm] at hV
          cases hV) (fun m hm => by
        obtain ⟨k', j', a1, a2, a3, a4, a5⟩ := m_ops hw hkN hj m hm
        exact ⟨by rw [a1]; exact mL_eq E (hL k' j' a2 a3 (by omega)), lA_ok hw hsp m k' j' a1 a2 a3⟩) (mV_eq E hvn') (vA_ok hw hsp _ k j rfl hkN hj) ⟨q, hV⟩ (fun q => by
        obtain ⟨b1, b2, -⟩ := cur_ok (hok j hj) q
        rw [m_lastC hw (mCur_fr E.fr hcu) (by omega), b2]) (hok j hj).k.2
      rw [r1, bd1_some]
      have E2 := E.tr r3
      exact fin ρ E2.fr (fun m t h => mV_eq E2 h) (fun m t h => mL_eq E2 h) (by rw [lA_some hlt hV]; exact r2)
theorem m_sOut {C : qCfg} (hw : qWF C) {σ : zSt} (h0 : mCur C σ) {c : Nat} (hc : c < C.N) {sp : qSh} (hsp : qOk sp) : ∀ (d k F : Nat) (τ : zSt), k + d = c + 1 → d < F → mFr σ τ → mVals C sp (60 * (c + 1)) τ → mLs C sp (60 * k) τ → mP2 C sp σ (60 * (c + 1)) (fX9_slopes_L11 F (Int32.ofNat c) (Int32.ofNat k) τ) := by
  have hN := hw.1
  intro d
  induction d with
  | zero =>
    intro k F τ e hF fr hv hL
    obtain ⟨G, rfl⟩ : ∃ G, F = G + 1 := ⟨F - 1, by omega⟩
    rw [fX9_slopes_L11]
    unfold fX9_slopes_11
    rw [if_pos (by rw [qI_lt, iNt (by omega), iNt (by omega)]; omega)]
    have : k = c + 1 := by omega
    subst this
    exact ⟨τ, rfl, fr, hL⟩
  | succ d ih =>
    intro k F τ e hF fr hv hL
    obtain ⟨G, rfl⟩ : ∃ G, F = G + 1 := ⟨F - 1, by omega⟩
    rw [fX9_slopes_L11]
    unfold fX9_slopes_11
    rw [if_neg (by rw [qI_lt, iNt (by omega), iNt (by omega)]; omega), nm_eq, i60 (by omega)]
    obtain ⟨B, hB⟩ := zFU_ge 100 (by omega)
    have l := (hw.2 k (by omega)).1
    exact m_sIn hw h0 hc (by omega) hsp (fun τ' a b d' => ih (k + 1) G τ' (by omega) (by omega) a b d') (C.len k) 0 zFU τ (by omega) (by omega) fr hv hL
theorem m_shutSlope {C : qCfg} (hw : qWF C) {σ : zSt} (h0 : mCur C σ) {c : Nat} (hc : c < C.N) {lo hi : Int64} (h1 : -2147483648 ≤ lo.toInt) (h2 : lo.toInt ≤ hi.toInt) (h3 : hi.toInt ≤ 2147483647) : ∃ r τ, fX9_shutSlope (Int32.ofNat c) lo hi σ = some (r, τ) ∧ mFr σ τ ∧ mIts r τ (lA C.A (some (lo.toInt, hi.toInt)) (qLast C c)) := by
  have hN := hw.1
  have l := (hw.2 c hc).1
  obtain ⟨B, hB⟩ := zFU_ge 100 (by omega)
  obtain ⟨τ0, s1, s2, s3⟩ := m_values hw h0 hc h1 h2 h3
  obtain ⟨τ, t1, t2, t3⟩ := m_sOut hw h0 hc (qOk.some h1 h2 h3) (c + 1) 0 zFU τ0 (by omega) (by omega) s2 s3 (fun k j a1 a2 a3 => absurd a3 (by omega))
  have hq : qLast C c = 60 * c + (C.len c - 1) := by unfold qLast; omega
  have hv := t3 c (C.len c - 1) hc (by omega) (by omega)
  rw [← hq] at hv
  have vn := vin (iNt (n := qLast C c) (by omega)) (show qLast C c < 480 by omega)
  have cn := iN_cl (n := qLast C c) (by omega)
  have ts : fX9_slopes (Int32.ofNat c) lo hi σ = some τ := by
    show fX9_slopes_0 _ _ _ _ = _
    unfold fX9_slopes_0
    rw [s1, bd1_some]; exact t1
  show ∃ r τ, fX9_shutSlope_0 _ _ _ σ = some (r, τ) ∧ _
  unfold fX9_shutSlope_0
  rw [ts, bd1_some, m_lastC hw (mCur_fr t2 h0) hc, bd1_some, zg_pos vn, cn, nm_eq, zg_pos vn, nm_eq, zg_pos vn]
  have fr : ∀ x y : Int64, mFr σ (sl (sl τ 61 29 x) 61 30 y) := fun x y => (t2.sl (by omega)).sl (by omega)
  generalize lA C.A (some (lo.toInt, hi.toInt)) (qLast C c) = s at hv ⊢
  cases s with
  | none =>
    replace hv : gi τ 77 (qLast C c) = 1 := hv
    rw [hv, if_neg (by decide)]
    exact ⟨_, _, rfl, fr _ _, rfl⟩
  | some q =>
    obtain ⟨a1, a2, a3⟩ := hv
    rw [a1, if_pos rfl]
    refine ⟨_, _, rfl, fr _ _, rfl, ?_, ?_⟩
    · rw [gl_sl, if_neg (by omega), gl_sl, if_pos (by omega)]; exact a2
    · rw [gl_sl, if_pos (by omega)]; exact a3
