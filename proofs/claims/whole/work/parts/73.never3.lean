theorem zI_nv {C : qCfg} {M : Nat → Nat} {D : Nat → Int} {S : Nat → Bool} {σ τ σ' τ' : zSt} (h : zI C M D S σ τ) (a : pFr σ σ') (b : qFr τ τ') (g1 : gi σ' 5 5 = gi σ 5 5 ∧ ∀ c i, 18 ≤ c → c ≤ 20 → gi σ' c i = gi σ c i) (g2 : gi τ' 61 40 = gi τ 61 40 ∧ (∀ i, gi τ' 84 i = gi τ 84 i) ∧ ∀ c i, c = 82 ∨ c = 83 → gl τ' c i = gl τ c i) (e : gi σ' 5 6 = gi τ' 61 39) : zI C M D S (si σ' 0 7 (gi σ' 5 6)) τ' := by
  obtain ⟨h1, h2, h3, h4, h5⟩ := h
  refine ⟨zCf_fr h1 (a.y.si (by omega)) b.w, zTp_fr h2 (by rw [gi_si, if_neg (by omega)]; exact a.1 _ _ (by omega)) (fun p => by rw [gi_si, if_neg (by omega)]; exact a.1 _ _ (by omega)) (b.1 _ _ (by omega)) (fun p => b.1 _ _ (by omega)), ⟨?_, ?_⟩, ⟨?_, ?_⟩, zRt_fr h5 (by rw [gi_si, if_neg (by omega)]; exact g1.1) (fun c i x y => by rw [gi_si, if_neg (by omega)]; exact g1.2 c i x y) g2.1 g2.2.1 g2.2.2⟩
  · rw [gl_si, a.2 _ _ (by omega), b.2 _ _ (by omega)]; exact h3.1
  · rw [gl_si, a.2 _ _ (by omega), b.2 _ _ (by omega)]; exact h3.2
  · rw [gi_si, if_neg (by omega), a.1 _ _ (by omega), b.1 _ _ (by omega)]; exact h4.1
  · rw [gi_si, if_pos (by omega)]; exact e
theorem hs12 (σ τ : zSt) (c a b B most : Int32) (h : zInv σ τ) : ∃ (r : Int32) (σ' τ' : zSt), fX8_never c a b B most σ = some (r, σ') ∧ fX9_never c a b B most τ = some (r, τ') ∧ zInv σ' τ' := by
  obtain ⟨C, M, D, S, h⟩ := h
  show ∃ r σ' τ', fX8_never_0 c a b B most σ = _ ∧ fX9_never_0 c a b B most τ = _ ∧ _
  unfold fX8_never_0 fX9_never_0
  rcases z_has h c with ⟨e1, e2⟩ | ⟨e1, e2, k, rfl, hk⟩
  · rw [e1, e2, if_pos rfl, if_pos rfl]
    exact ⟨_, _, _, rfl, rfl, C, M, D, S, h⟩
  rw [e1, e2, if_neg iNe1, if_neg iNe1]
  by_cases q : b < a
  · rw [if_pos q, if_pos q]
    exact ⟨_, _, _, rfl, rfl, C, M, D, S, h⟩
  rw [if_neg q, if_neg q]
  by_cases q2 : most < 1
  · rw [if_pos q2, if_pos q2]
    exact ⟨_, _, _, rfl, rfl, C, M, D, S, h⟩
  rw [if_neg q2, if_neg q2]
  by_cases q3 : most ≤ 400
  · rw [if_pos q3, if_pos q3]
    rw [qI_lt] at q
    rw [qI_lt, q1I] at q2
    rw [qI_le, e400I] at q3
    have ra := qI_rng a
    have rb := qI_rng b
    obtain ⟨n, hn, en⟩ : ∃ n : Nat, most = Int32.ofNat n ∧ most.toInt = (n : Nat) := ⟨most.toInt.toNat, iN_of (by omega), by omega⟩
    obtain ⟨Z, hZ⟩ := zFU_ge 1000 (by omega)
    obtain ⟨⟨⟨hw, hm⟩, -, hx, -, hc⟩, -, -, -, -⟩ := id h
    have c0 : (0 : Int32).toNatClampNeg = 0 := rfl
    rw [hn]
    have key := z_neverL hw hm hk B (most := n) (by omega) hx hc n zFU zFU 1 a 0 (si (si (si (si σ 5 4 0) 17 0 b) 5 4 (Int32.ofNat (0 + 1))) 5 6 0) (si (sl (sl (si τ 61 33 1) 78 0 a.toInt64) 79 0 b.toInt64) 61 39 0) (Or.inl rfl) (by omega) (by omega) (by omega) ((((pFr.rf.si (by omega)).si (by omega)).si (by omega)).si (by omega)) ((((qFr.rf.si (by omega)).sl (by omega)).sl (by omega)).si (by omega)) ⟨by rw [gi_si, if_neg (by omega), gi_si, if_neg (by omega), gi_si, if_neg (by omega), gi_si, if_neg (by omega)], fun c i _ _ => by rw [gi_si, if_neg (by omega), gi_si, if_neg (by omega), gi_si, if_neg (by omega), gi_si, if_neg (by omega)]⟩ ⟨by rw [gi_si, if_neg (by omega), gi_sl, gi_sl, gi_si, if_neg (by omega)], fun i => by rw [gi_si, if_neg (by omega), gi_sl, gi_sl, gi_si, if_neg (by omega)], fun c i hc => by rw [gl_si, gl_sl, if_neg (by omega), gl_sl, if_neg (by omega), gl_si]⟩ (by rw [gi_si, if_pos (by omega), Nat.sub_self]; rfl) (by rw [gi_si, if_pos (by omega), Nat.sub_self]; rfl) ⟨by rw [gi_si, if_neg (by omega), gi_si, if_pos (by omega)], by rw [gi_si, if_neg (by omega), gi_sl, gi_sl, gi_si, if_pos (by omega)]; rfl, fun i hi => (by
      have : i = 0 := by omega
      subst this
      rw [gl_si, gl_sl, if_pos (by omega), gi_si, if_neg (by omega), gi_si, if_neg (by omega), gi_si, if_pos (by omega), qL_ofI]), fun i hi => absurd hi (by omega), fun _ => (by
      rw [gl_si, gl_sl, if_neg (by omega), gl_sl, if_pos (by omega), qL_ofI])⟩ (fun i hi => by
      have : i = 0 := by omega
      subst this
      unfold zBg
      rw [if_neg (by omega), gi_si, if_neg (by omega), gi_si, if_neg (by omega), gi_si, if_pos (by omega)]
      have e32 : ((2 ^ (32 - 0) : Nat) : Int) = 4294967296 := rfl
      exact ⟨by omega, by rw [e32]; omega⟩) (by omega)
    obtain ⟨r, σ1, τ1, a1, a2, a3, a4, a5, a6, a7⟩ := key
    show ∃ r σ' τ', (bd2 (fX7_seekBreak_0 _ a b B _ σ) fun r s => if r = 0 then some (r, sl (sl (si s 0 7 (gi s 5 6)) 0 4 (gi s 5 7).toInt64) 0 5 (gi s 5 7).toInt64) else some (r, si s 0 7 (gi s 5 6))) = some (r, σ') ∧ _
    unfold fX7_seekBreak_0
    rw [x_await (w := 0) (by omega) (by rw [gi_si, if_pos (by omega)]; rfl), bd1_some, a1, bd2_some, c0]
    have fin := zI_nv h a2 a3 a4 a5 a6
    rcases a7 with ⟨b1, b2⟩ | ⟨b1, b2⟩
    · rw [if_neg b1, b2]
      exact ⟨_, _, _, rfl, rfl, C, M, D, S, fin⟩
    · rw [if_pos b1, b2, b1]
      exact ⟨_, _, _, rfl, rfl, C, M, D, S, zI_lh fin _ _⟩
  · rw [if_neg q3, if_neg q3]
    exact ⟨_, _, _, rfl, rfl, C, M, D, S, h⟩
