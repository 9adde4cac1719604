/-! curve -/
theorem zI_cut {C : qCfg} {M : Nat → Nat} {D : Nat → Int} {S : Nat → Bool} {σ τ : zSt} (h : zI C M D S σ τ) : zI C M D S (si σ 2 1 0) (si τ 61 2 0) := by
  obtain ⟨h1, h2, h3, h4, h5⟩ := h
  refine ⟨zCf_fr h1 (yFr.rf.si (by omega)) (wFr.rf.si (by omega)), ⟨0, by omega, by rw [gi_si, if_pos (by omega)]; rfl, by rw [gi_si, if_pos (by omega)]; rfl, fun p hp => by omega⟩, h3, ⟨?_, ?_⟩, zRt_fr h5 (by rw [gi_si, if_neg (by omega)]) (fun c i _ _ => by rw [gi_si, if_neg (by omega)]) (by rw [gi_si, if_neg (by omega)]) (fun _ => by rw [gi_si, if_neg (by omega)]) (fun c i hc => rfl)⟩
  · rw [gi_si, if_neg (by omega), gi_si, if_neg (by omega)]; exact h4.1
  · rw [gi_si, if_neg (by omega), gi_si, if_neg (by omega)]; exact h4.2
theorem zI_good {C : qCfg} {M : Nat → Nat} {D : Nat → Int} {S : Nat → Bool} {σ τ σ' τ' : zSt} (h : zI C M D S σ τ) (hN : C.N ≤ 7) {n q d : Nat} {A : Nat → qAct} (hd : 0 < d) (ht : tree C.N A 0 d) (hx : pX C n (rdX σ C.N) n q d A σ') (hm : pM C (rdM τ) n q d 0 A τ') : ∃ σ2 τ2, fX1_keep 9 σ' = some (Int32.ofNat C.N, σ2) ∧ fX9_curve_71 τ' = some (Int32.ofNat C.N, τ2) ∧ zInv (si σ2 2 1 0) τ2 := by
  obtain ⟨Z, hZ⟩ := zFU_ge 1000 (by omega)
  obtain ⟨⟨⟨hw, hnd⟩, ⟨hdg, hsm⟩, xc, xb, mc⟩, h2, h3, h4, h5⟩ := h
  obtain ⟨x1, x2, x3, ⟨x4, -⟩, ⟨x5, x6⟩, x7⟩ := hx
  obtain ⟨m1, m2, m3, m4, m5, m6, m7⟩ := hm
  have d60 : d ≤ 60 := by omega
  have ho : ∀ j, j < d → actOk C C.N j (A j) := fun j hj => (x7 j hj).1
  have hw' : qWF (qAdd C A d) := qAdd_wf hw hN hd d60 ho ht
  obtain ⟨hdg', hda⟩ := qAdd_dg hw hdg hw'
  have c38 : gi σ' 3 8 = Int32.ofNat C.N := by rw [x1.1 _ _ (by omega), rdX_gi (by omega) (by omega)]; exact iN_of xc.1
  obtain ⟨σ2, p1, p2, p3⟩ := x_copy hN d60 x6
  obtain ⟨σ1, hσ1⟩ : ∃ σ1, σ1 = si (si σ2 (21 + 4 * C.N) 4 1) (21 + 4 * C.N) 6 0 := ⟨_, rfl⟩
  have f1 : ∀ c i, ¬ (c = 21 + 4 * C.N ∧ (i = 4 ∨ i = 6)) → gi σ1 c i = gi σ2 c i := fun c i a => by
    rw [hσ1, gi_si, if_neg (by omega), gi_si, if_neg (by omega)]
  have l1 : ∀ c i, gl σ1 c i = gl σ2 c i := fun c i => by rw [hσ1]; rfl
  have g1 : ∀ c i, c ≠ 1 → c ≠ 57 → c ≠ 58 → c ≠ 60 → ¬ (21 + 4 * C.N ≤ c ∧ c ≤ 24 + 4 * C.N) → gi σ1 c i = gi σ c i := fun c i a1 a2 a3 a4 a5 => by
    rw [f1 c i (by omega), p2.1 c i (by omega), x1.1 c i (by omega), rdX_gi (by omega) (by omega)]
  have k1 : ∀ c i, c ≠ 59 → c ≠ 23 + 4 * C.N → gl σ1 c i = gl σ c i := fun c i a1 a2 => by
    rw [l1, p2.2 c i a2, x1.2 c i a1]; rfl
  have rows : ∀ j, j < d → xT (gi σ1 (21 + 4 * C.N + 1) j) (gl σ1 (21 + 4 * C.N + 2) j) (gi σ1 (21 + 4 * C.N + 3) j) C.N (A j) := fun j hj => by
    obtain ⟨r1, r2, r3⟩ := p3.2 j hj
    rw [f1 _ _ (by omega), l1, f1 _ _ (by omega), r1, r2, r3]
    exact (x7 j hj).2
  have len1 : gi σ1 (21 + 4 * C.N) 3 = Int32.ofNat d := by rw [f1 _ _ (by omega)]; exact p3.1
  have lastlt : ∀ k, k < C.N → qLast C k < 60 * C.N := fun k hk => by
    have := (hw.2 k hk).1
    unfold qLast
    omega
  have kE : kpE C M (dTb A D (60 * C.N) d) S A d σ1 := by
    refine ⟨hN, d60, len1, ?_, fun j hj => ⟨ho j hj, rows j hj⟩, fun k hk => ?_, hda, fun j hj m hm => ?_⟩
    · rw [f1 _ _ (by omega), p2.1 _ _ (by omega)]; exact c38
    · obtain ⟨b1, b2⟩ := xb k hk
      rw [g1 _ _ (by omega) (by omega) (by omega) (by omega) (by omega), g1 _ _ (by omega) (by omega) (by omega) (by omega) (by omega), g1 _ _ (by omega) (by omega) (by omega) (by omega) (by omega)]
      exact ⟨b1, by rw [b2, dTb_lo _ _ (lastlt k hk)], (xc.2 k hk).2.1, (hnd k hk).1⟩
    · obtain ⟨k', j', b1, b2, b3⟩ := actOk_at (C := qAdd C A d) (fun i hi => (hw'.2 i (by rw [qAdd_N]; omega)).1.1) (by rw [qAdd_lenN]; exact hj) ((hw'.2 C.N (by rw [qAdd_N]; omega)).2.1 j (by rw [qAdd_lenN]; exact hj)) m (by rw [qAdd_at]; exact hm)
      rw [b1]
      exact (hdg' k' j' (by rw [qAdd_N]; omega) b3).2
  obtain ⟨σ3, e1, kf, ks, ⟨μ, n1, n2, n3⟩, kd, k5⟩ := x_keepL kE d 0 zFU σ1 (by omega) (by omega) ⟨fun _ _ _ => rfl, fun _ _ => rfl⟩ (Or.inl ⟨by rw [hσ1, gi_si, if_neg (by omega), gi_si, if_pos (by omega)], fun j hj => by omega⟩) ⟨0, by omega, by rw [hσ1, gi_si, if_pos (by omega)]; rfl, fun i => ⟨fun g => absurd g (by rw [Nat.zero_testBit]; decide), fun ⟨j, a, _⟩ => by omega⟩⟩ (fun j hj => by omega) (fun g => by omega)
  obtain ⟨s, s1, s2⟩ : ∃ s : Bool, gi σ3 (21 + 4 * C.N) 4 = (if s then 1 else 0) ∧ (s = true ↔ ∀ j, j < d → okA S (A j)) := by
    rcases ks with ⟨a, b⟩ | ⟨a, b⟩
    · exact ⟨true, a, ⟨fun _ => b, fun _ => rfl⟩⟩
    · exact ⟨false, a, ⟨fun g => absurd g (by decide), fun g => absurd g b⟩⟩
  have ek : fX1_keep 9 σ' = some (Int32.ofNat C.N, si σ3 3 8 (Int32.ofNat (C.N + 1))) := by
    show zg (9 < 10) (fX1_keep_0 9 σ') = _
    rw [zg_pos (by omega)]
    unfold fX1_keep_0
    rw [c38, x_curveAt (by omega), bd1_some, zg_pos (by omega), p1, bd1_some, ← hσ1]
    exact e1
  have hb : fX9_bad (si τ' 61 2 (0 : Int32)) = 0 := m_bad0 (by rw [gi_si, if_neg (by omega)]; exact m2)
  have m63 : gi τ' 61 3 = Int32.ofNat C.N := by rw [m1.1 _ _ (by omega), rdM_gi (by omega)]; exact iN_of mc.1
  have em : fX9_curve_71 τ' = some (Int32.ofNat C.N, si (si (si τ' 61 2 0) 63 C.N (Int32.ofNat d)) 61 3 (Int32.ofNat (C.N + 1))) := by
    unfold fX9_curve_71
    rw [if_pos hb, m63, zg_pos (vin (N := 8) (iNt (n := C.N) (by omega)) (by omega)), iN_cl (n := C.N) (by omega), iN_s (by omega), iN_p (by omega), m5]
  have gx : ∀ c i, ¬ (c = 3 ∧ i = 8) → c ≠ 8 → c ≠ 1 → c ≠ 2 → c ≠ 57 → c ≠ 58 → c ≠ 60 → ¬ (21 + 4 * C.N ≤ c ∧ c ≤ 24 + 4 * C.N) → gi (si (si σ3 3 8 (Int32.ofNat (C.N + 1))) 2 1 0) c i = gi σ c i := fun c i a0 a8 a1 a2 a3 a4 a5 a6 => by
    rw [gi_si, if_neg (by omega), gi_si, if_neg (by omega), kf.1 c i (by omega), g1 c i a1 a3 a4 a5 a6]
  have lx : ∀ c i, c ≠ 59 → c ≠ 23 + 4 * C.N → gl (si (si σ3 3 8 (Int32.ofNat (C.N + 1))) 2 1 0) c i = gl σ c i := fun c i a b => by
    rw [gl_si, gl_si, kf.2, k1 c i a b]
  have gm : ∀ c i, ¬ (c = 61 ∧ (i = 2 ∨ i = 3)) → ¬ (c = 61 ∧ 10 ≤ i ∧ i ≤ 15) → ¬ (c = 63 ∧ i = C.N) → ¬ (64 ≤ c ∧ c ≤ 66 ∧ 60 * C.N ≤ i) → gi (si (si (si τ' 61 2 0) 63 C.N (Int32.ofNat d)) 61 3 (Int32.ofNat (C.N + 1))) c i = gi τ c i := fun c i a b w q => by
    rw [gi_si, if_neg (by omega), gi_si, if_neg (by omega), gi_si, if_neg (by omega), m1.1 c i (by omega), rdM_gi b]
  have lm : ∀ c i, ¬ ((c = 67 ∨ c = 68) ∧ 60 * C.N ≤ i) → gl (si (si (si τ' 61 2 0) 63 C.N (Int32.ofNat d)) 61 3 (Int32.ofNat (C.N + 1))) c i = gl τ c i := fun c i a => by
    rw [gl_si, gl_si, gl_si, m1.2 c i a]; rfl
  refine ⟨_, _, ek, em, qAdd C A d, fun k => if k = C.N then μ else M k, dTb A D (60 * C.N) d, fun k => if k = C.N then s else S k, ⟨⟨hw', qAdd_nd hw hnd ho n1 n3⟩, ⟨hdg', qAdd_sm hw hsm ho s2⟩, ⟨?_, fun k hk => ?_⟩, fun k hk => ?_, ⟨?_, fun k hk => ?_⟩⟩, ⟨0, by omega, ?_, ?_, fun p hp => by omega⟩, ?_, ?_, zRt_fr h5 (gx _ _ (by omega) (by omega) (by omega) (by omega) (by omega) (by omega) (by omega) (by omega)) (fun c i a b => gx c i (by omega) (by omega) (by omega) (by omega) (by omega) (by omega) (by omega) (by omega)) (gm _ _ (by omega) (by omega) (by omega) (by omega)) (fun i => gm _ _ (by omega) (by omega) (by omega) (by omega)) (fun c i a => lm c i (by omega))⟩
  · rw [gi_si, if_neg (by omega), gi_si, if_pos (by omega), iNt (by omega), qAdd_N]
  · rw [qAdd_N] at hk
    by_cases e : k = C.N
    · subst e
      rw [qAdd_lenN]
      refine ⟨?_, ?_, fun j hj => ?_⟩
      · rw [gi_si, if_neg (by omega), gi_si, if_neg (by omega), kf.1 _ _ (by omega)]; exact len1
      · show _ = Int32.ofNat (if C.N = C.N then μ else M C.N)
        rw [if_pos rfl, gi_si, if_neg (by omega), gi_si, if_neg (by omega)]; exact n2
      · rw [qAdd_at]
        refine xT_act ?_
        rw [gi_si, if_neg (by omega), gi_si, if_neg (by omega), kf.1 _ _ (by omega), gl_si, gl_si, kf.2, gi_si, if_neg (by omega), gi_si, if_neg (by omega), kf.1 _ _ (by omega)]
        exact rows j hj
    · have hk' : k < C.N := by omega
      obtain ⟨a, b, c⟩ := xc.2 k hk'
      rw [qAdd_len e]
      refine ⟨by rw [gx _ _ (by omega) (by omega) (by omega) (by omega) (by omega) (by omega) (by omega) (by omega)]; exact a, ?_, fun j hj => ?_⟩
      · show _ = Int32.ofNat (if k = C.N then μ else M k)
        rw [if_neg e, gx _ _ (by omega) (by omega) (by omega) (by omega) (by omega) (by omega) (by omega) (by omega)]; exact b
      · rw [(qAdd_row hw hk' hj).2]
        exact xAct_lo (gx _ _ (by omega) (by omega) (by omega) (by omega) (by omega) (by omega) (by omega) (by omega)) (gx _ _ (by omega) (by omega) (by omega) (by omega) (by omega) (by omega) (by omega) (by omega)) (lx _ _ (by omega) (by omega)) (c j hj)
  · rw [qAdd_N] at hk
    by_cases e : k = C.N
    · subst e
      show _ = (if (if C.N = C.N then s else S C.N) = true then 1 else 0) ∧ _
      rw [if_pos rfl]
      refine ⟨?_, ?_⟩
      · rw [gi_si, if_neg (by omega), gi_si, if_neg (by omega)]; exact s1
      · have el : qLast (qAdd C A d) C.N = 60 * C.N + (d - 1) := by unfold qLast; rw [qAdd_lenN]; omega
        rw [gi_si, if_neg (by omega), gi_si, if_neg (by omega), el]; exact k5 hd
    · have hk' : k < C.N := by omega
      obtain ⟨a, b⟩ := xb k hk'
      show _ = (if (if k = C.N then s else S k) = true then 1 else 0) ∧ _
      rw [if_neg e, gx _ _ (by omega) (by omega) (by omega) (by omega) (by omega) (by omega) (by omega) (by omega), gx _ _ (by omega) (by omega) (by omega) (by omega) (by omega) (by omega) (by omega) (by omega), qAdd_last e, dTb_lo _ _ (lastlt k hk')]
      exact ⟨a, b⟩
  · rw [gi_si, if_pos (by omega), iNt (by omega), qAdd_N]
  · rw [qAdd_N] at hk
    by_cases e : k = C.N
    · subst e
      rw [qAdd_lenN]
      refine ⟨by rw [gi_si, if_neg (by omega), gi_si, if_pos (by omega)], fun j hj => ?_⟩
      rw [qAdd_at]
      refine mAct_cg (σ := τ') (τ := si (si (si τ' 61 2 0) 63 C.N (Int32.ofNat d)) 61 3 (Int32.ofNat (C.N + 1))) ?_ ?_ ?_ rfl rfl (m7 j hj)
      all_goals rw [gi_si, if_neg (by omega), gi_si, if_neg (by omega), gi_si, if_neg (by omega)]
    · have hk' : k < C.N := by omega
      obtain ⟨a, b⟩ := mc.2 k hk'
      rw [qAdd_len e]
      refine ⟨by rw [gm _ _ (by omega) (by omega) (by omega) (by omega)]; exact a, fun j hj => ?_⟩
      obtain ⟨r1, r2⟩ := qAdd_row hw (A := A) (d := d) hk' hj
      rw [r2]
      exact mAct_cg (gm _ _ (by omega) (by omega) (by omega) (by omega)) (gm _ _ (by omega) (by omega) (by omega) (by omega)) (gm _ _ (by omega) (by omega) (by omega) (by omega)) (lm _ _ (by omega)) (lm _ _ (by omega)) (b j hj)
  · rw [gi_si, if_pos (by omega)]; rfl
  · rw [gi_si, if_neg (by omega), gi_si, if_neg (by omega), gi_si, if_pos (by omega)]; rfl
  · exact ⟨by rw [lx _ _ (by omega) (by omega), lm _ _ (by omega)]; exact h3.1, by rw [lx _ _ (by omega) (by omega), lm _ _ (by omega)]; exact h3.2⟩
  · exact ⟨by rw [gx _ _ (by omega) (by omega) (by omega) (by omega) (by omega) (by omega) (by omega) (by omega), gm _ _ (by omega) (by omega) (by omega) (by omega)]; exact h4.1, by rw [gx _ _ (by omega) (by omega) (by omega) (by omega) (by omega) (by omega) (by omega) (by omega), gm _ _ (by omega) (by omega) (by omega) (by omega)]; exact h4.2⟩
theorem hs2 (σ τ : zSt) (h : zInv σ τ) : ∃ (r : Int32) (σ' τ' : zSt), fX8_curve σ = some (r, σ') ∧ fX9_curve τ = some (r, τ') ∧ zInv σ' τ' := by
  obtain ⟨C, M, D, S, h⟩ := h
  obtain ⟨n1, n2, n3⟩ := zI_n h
  show ∃ r σ' τ', fX8_curve_0 σ = _ ∧ _
  unfold fX8_curve_0
  rw [n1]
  by_cases q : C.N = 8
  · rw [if_pos (show (8 : Int32) ≤ Int32.ofNat C.N by rw [qI_le, e8I, iNt (by omega)]; omega)]
    refine ⟨_, _, si τ 61 2 0, rfl, ?_, C, M, D, S, zI_cut h⟩
    show fX9_curve_0 τ = _
    unfold fX9_curve_0
    rw [n2, if_pos (show Int32.ofNat C.N = 8 by rw [q]; rfl)]
  · have hN : C.N ≤ 7 := by omega
    rw [if_neg (show ¬ (8 : Int32) ≤ Int32.ofNat C.N by rw [qI_le, e8I, iNt (by omega)]; omega)]
    obtain ⟨n, ⟨kd, pl, σ', τ', e1, e2, b1, b2⟩ | ⟨q', d, A, σ', τ', e1, e2, hd, ht, x, m⟩⟩ := rd_sim h hN
    · obtain ⟨y1, y2, y3, y4, y5, y6⟩ := b1
      have b2' := b2
      obtain ⟨w1, w2, w3, w4, w5, w6⟩ := b2
      have ne : ¬ Int32.ofNat (kd + 4 * pl) = 0 := by rw [qI_eq, iNt (by omega), q0I]; omega
      have e4 : (4 : Int32) * Int32.ofNat pl = Int32.ofNat (4 * pl) := by
        rw [qI_eq, Int32.toInt_mul, e4I, iNt (by omega), iNt (by omega), Int.bmod_def]; omega
      rw [e1, bd2_some, if_neg ne, nm_eq, e2]
      refine ⟨_, _, _, rfl, ?_, C, M, D, S, zI_bad h hN y1 w1⟩
      have hb : ¬ fX9_bad (si τ' 61 2 (0 : Int32)) = 0 := by
        show ¬ fX9_bad_0 _ = 0
        unfold fX9_bad_0
        rw [gi_si, if_neg (show ¬ (61 = 61 ∧ 11 = 2) by omega), w5, if_neg (show ¬ Int32.ofNat kd ≤ 0 by rw [qI_le, iNt (by omega), q0I]; omega)]
        decide
      unfold fX9_curve_71
      rw [if_neg hb, w5, w6, e4, iN_a (by omega)]
    · rw [e1, bd2_some, if_pos rfl, e2]
      obtain ⟨σ2, τ2, k1, k2, k3⟩ := zI_good h hN hd ht x m
      rw [k1, bd2_some]
      exact ⟨_, _, _, rfl, k2, k3⟩
