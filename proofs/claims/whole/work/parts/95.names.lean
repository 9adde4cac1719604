/-! reading a name and what it is told of -/
theorem tree_un {N : Nat} {A : Nat → qAct} {d d' : Nat} {a : qAct} (h : tree N A d d') (ha : 60 * N + d' - 1 ∈ qOps a) : tree N (upA A d' a) d (d' + 1) := fun j h1 h2 => by
  by_cases x : j + 1 < d'
  · obtain ⟨j', a1, a2, a3⟩ := h j h1 x
    exact ⟨j', a1, by omega, by rw [upA_lt a2]; exact a3⟩
  · refine ⟨d', by omega, by omega, ?_⟩
    rw [upA_at, show 60 * N + j = 60 * N + d' - 1 by omega]
    exact ha
theorem tree_bi {N : Nat} {A1 A2 : Nat → qAct} {d d1 d2 : Nat} {a : qAct} (h1 : tree N A1 d d1) (he : ∀ j, j < d1 → A2 j = A1 j) (h2 : tree N A2 d1 d2) (hd : d < d1) (hd2 : d1 < d2) (ha : 60 * N + d1 - 1 ∈ qOps a) (hb : 60 * N + d2 - 1 ∈ qOps a) : tree N (upA A2 d2 a) d (d2 + 1) := fun j g1 g2 => by
  by_cases x : j + 1 < d1
  · obtain ⟨j', a1, a2, a3⟩ := h1 j g1 x
    exact ⟨j', a1, by omega, by rw [upA_lt (by omega), he j' a2]; exact a3⟩
  by_cases y : j + 1 = d1
  · refine ⟨d2, by omega, by omega, ?_⟩
    rw [upA_at, show 60 * N + j = 60 * N + d1 - 1 by omega]
    exact ha
  by_cases z : j + 1 < d2
  · obtain ⟨j', a1, a2, a3⟩ := h2 j (by omega) z
    exact ⟨j', a1, by omega, by rw [upA_lt a2]; exact a3⟩
  · refine ⟨d2, by omega, by omega, ?_⟩
    rw [upA_at, show 60 * N + j = 60 * N + d2 - 1 by omega]
    exact hb
theorem actU {C : qCfg} {N d i g : Nat} (h1 : 1 ≤ i) (h6 : i ≤ 6) (hu : unOk N d g) : actOk C N d (i + 4, 0, g, none) ∧ xT (Int32.ofNat (i + 4)) 0 0 N (i + 4, 0, g, none) ∧ (∀ τ j, gi τ 64 j = Int32.ofNat (i + 8) → gi τ 65 j = Int32.ofNat g → mAct τ j (i + 4, 0, g, none)) ∧ qOps (i + 4, 0, g, none) = [g] := by
  rcases (show i = 1 ∨ i = 2 ∨ i = 3 ∨ i = 4 ∨ i = 5 ∨ i = 6 by omega) with e | e | e | e | e | e <;> subst e <;> exact ⟨hu, rfl, fun τ j a b => ⟨a, b⟩, rfl⟩
theorem actB {C : qCfg} {N d i f g : Nat} {lf : Int32} (h7 : i = 7 ∨ i = 8) (hu : biOk N d f g) (hl : lf.toInt + 60 * N = f) : actOk C N d (i + 4, f, g, none) ∧ xT (Int32.ofNat (i + 4)) 0 lf N (i + 4, f, g, none) ∧ (∀ τ j, gi τ 64 j = Int32.ofNat (i + 8) → gi τ 65 j = Int32.ofNat f → gi τ 66 j = Int32.ofNat g → mAct τ j (i + 4, f, g, none)) ∧ qOps (i + 4, f, g, none) = [f, g] := by
  rcases h7 with e | e <;> subst e <;> exact ⟨hu, ⟨rfl, hl⟩, fun τ j a b c => ⟨a, b, c⟩, rfl⟩
theorem p52R {n : Nat} {σ0 σ : zSt} {kd pl : Nat} (h1 : xBad n σ0 kd pl σ) {k : Nat} (a v : Int32) : ∃ σ', (if v = (11 : Int32) then bd1 (G3 (k + 1) 4 a σ) fun s74_3 => bd1 (fX3_pass (44 : Int32) s74_3) fun s80_4 => nm ((gi s80_4 (21 + 4 * 9) 3) - (1 : Int32)) fun x92_5 => fX3_piece_93 (G3 (k + 1)) a v x92_5 s80_4
    else 
      (if v = (12 : Int32) then bd1 (G3 (k + 1) 4 a σ) fun s74_7 => bd1 (fX3_pass (44 : Int32) s74_7) fun s80_8 => nm ((gi s80_8 (21 + 4 * 9) 3) - (1 : Int32)) fun x92_9 => fX3_piece_93 (G3 (k + 1)) a v x92_9 s80_8
      else fX3_piece_93 (G3 (k + 1)) a v (0 : Int32) σ)) = some σ' ∧ xBad n σ0 kd pl σ' := by
  obtain ⟨σ2, e2, h2⟩ := passB h1 44
  by_cases x : v = 11
  · rw [if_pos x, inB h1 a, bd1_some, e2, bd1_some, nm_eq]; exact p93B h2 a v _
  rw [if_neg x]
  by_cases y : v = 12
  · rw [if_pos y, inB h1 a, bd1_some, e2, bd1_some, nm_eq]; exact p93B h2 a v _
  · rw [if_neg y]; exact p93B h1 a v 0
theorem n86B {C : qCfg} {n : Nat} {τ0 τ : zSt} {kd pl : Nat} (h : mBad C n τ0 kd pl τ) (F : Nat → Int32 → zSt → Option (Int32 × zSt)) (v1 v2 v3 : Int32) : ∃ r τ', fX9_named_86 F v1 v2 v3 τ = some (r, τ') ∧ mBad C n τ0 kd pl τ' := by
  unfold fX9_named_86
  rw [needB h, bd1_some, nm_eq, mkB (siB h (by omega) _), bd2_some]
  exact ⟨_, _, rfl, siB h (by omega) _⟩
theorem n55B {C : qCfg} {n : Nat} {τ0 τ : zSt} {kd pl : Nat} (h : mBad C n τ0 kd pl τ) (F : Nat → Int32 → zSt → Option (Int32 × zSt)) (v1 v2 : Int32) : ∃ r τ', fX9_named_55 F v1 v2 τ = some (r, τ') ∧ mBad C n τ0 kd pl τ' := by
  unfold fX9_named_55
  by_cases x : v1 < 15
  · rw [if_pos x]; exact n86B h F v1 v2 0
  · rw [if_neg x, needB h, bd1_some, if_neg (bdB h)]; exact n86B h F v1 v2 0
theorem pR.bad' {C : qCfg} {n : Nat} {σ0 τ0 : zSt} {p q d o kd pl : Nat} {A : Nat → qAct} {X : Option zSt} {M : Option (Int32 × zSt)} (h1 : ∃ σ', X = some σ' ∧ xBad n σ0 kd pl σ') (h2 : ∃ r τ', M = some (r, τ') ∧ mBad C n τ0 kd pl τ') : pR C n σ0 τ0 p q d o A X M := by
  obtain ⟨σ', e1, b1⟩ := h1
  obtain ⟨r, τ', e2, b2⟩ := h2
  exact Or.inl ⟨kd, pl, σ', r, τ', e1, e2, b1, b2⟩
theorem sim_nm {C : qCfg} {n : Nat} {β : Nat → Nat} {σ0 τ0 σ τ : zSt} (hE : pE C n β σ0 τ0) {k m o : Nat} (ho : o ≤ 12) (hS : o < 12 → pSim C n σ0 τ0 (G3 k 0) (G9 m 0 0) (o + 1)) {p q d e i : Nat} {A : Nat → qAct} (hx : pX C n σ0 p q d A σ) (hm : pM C τ0 p q d o A τ) (hk : fX3_kindOf (Int32.ofNat e) σ = some (Int32.ofNat (i + 4))) (h1 : 1 ≤ i) (h8 : i ≤ 8) (hw : wd β p e i) (hen : e ≤ n) : pR C n σ0 τ0 p q d o A (bd2 (fX3_word_36 (Int32.ofNat e) σ) fun r14_4 s14_5 => fX3_piece_17 (G3 (k + 1)) (Int32.ofNat o) r14_4 s14_5) (bd2 (fX9_named_0 (G9 m) (Int32.ofNat (i + 8)) τ) fun r s => some (r, s)) := by
  have hh := hE.2.1
  have hd := hx.2.2.2.2.1.1
  have hp := hx.2.2.1.1
  have mm := metM hm hx.2.2.1.1
  have ei := iNt (n := i + 4) (by omega)
  have ei8 := iNt (n := i + 8) (by omega)
  have e12 : (12 : Int32).toInt = 12 := by decide
  have e11 : (11 : Int32).toInt = 11 := by decide
  have e15 : (15 : Int32).toInt = 15 := by decide
  have e2i : (2 : Int32).toInt = 2 := by decide
  have em2 : (-2 : Int32).toInt = -2 := by decide
  unfold fX3_word_36
  rw [hk, bd1_some, if_neg (show ¬ Int32.ofNat (i + 4) = -1 by rw [qI_eq, ei, eM1]; omega)]
  unfold fX9_named_0
  rw [hm.2.2.1]
  rcases metX hE hx with ⟨x, σ1, e1, x1⟩ | ⟨x, σ1, e1, b1⟩
  · obtain ⟨τ1, e2, m1⟩ := mm.1 x
    have x2 := atX x1 hen
    have m2 := atM m1 e
    obtain ⟨σ3, e3, x3⟩ := sgX hE x2
    have so := sk_ok (β := β) hE.2.1 hen
    have ss : sk n β (sk n β e) = sk n β e := sk_sk so.2.2
    have c := chI_eq (n := n) (β := β) (p := sk n β e) (fun h => hE.2.2.1 _ h) (k := 40) (by omega)
    have nd := need40 hE m2 hen
    rw [e1, bd2_some, if_neg iNe1, if_neg (show ¬ Int32.ofNat (i + 4) = 0 by rw [qI_eq, ei, q0I]; omega), if_neg (show ¬ Int32.ofNat (i + 4) = 1 by rw [qI_eq, ei, q1I]; omega), if_neg (show ¬ Int32.ofNat (i + 4) = 2 by rw [qI_eq, ei, e2i]; omega), if_pos (show (2 : Int32) < Int32.ofNat (i + 4) by rw [qI_lt, ei, e2i]; omega), bd2_some]
    unfold fX3_piece_17
    rw [if_pos x2.2.1, if_neg (show ¬ Int32.ofNat (i + 4) = -2 by rw [qI_eq, ei, em2]; omega), e3, bd2_some, e2, bd1_some, if_pos (bdM m1), m_nm i (by omega) h1, zg_pos (show i < 9 by omega), j_len (by omega), bd1_some, m1.2.2.1, iN_a (by have := hw.1; omega), ← hw.1]
    by_cases y : sk n β e < n ∧ β (sk n β e) = 40
    · rw [if_pos (show chI n β (sk n β e) = 40 from c.mpr y)]
      by_cases z : o < 12
      · obtain ⟨τ3, e4, m3⟩ := nd.1 y z
        rw [if_pos (show Int32.ofNat o < 12 by rw [qI_lt, iNt (by omega), e12]; omega), e4, bd1_some, if_pos (bdM m3)]
        unfold fX3_piece_52
        rcases passX hE x3 (k := 40) (by omega) with ⟨-, σ4, e5, x4⟩ | ⟨w, -⟩
        · rw [ss] at x4
          rw [show fX3_pass 40 σ3 = some σ4 from e5, bd1_some]
          by_cases u : i ≤ 6
          · rw [if_neg (show ¬ Int32.ofNat (i + 4) = 11 by rw [qI_eq, ei, e11]; omega), if_neg (show ¬ Int32.ofNat (i + 4) = 12 by rw [qI_eq, ei, e12]; omega)]
            unfold fX3_piece_93 fX9_named_55 fX9_named_86
            rcases inner hE z (hS z) (b := 41) (by omega) (by omega) x4 m3 with ⟨kd, pl, σ5, σ6, r, τ5, τ6, f1, f2, f3, f4, b1, b2⟩ | ⟨p', q', d', A', σ5, σ6, τ5, τ6, f1, f2, f3, f4, g1, g2, g3, x6, m6⟩
            · rw [f1, bd1_some, show fX3_pass 41 σ5 = some σ6 from f2, bd1_some, if_neg (show ¬ Int32.ofNat (i + 4) = -1 by rw [qI_eq, ei, eM1]; omega), emitB b1, bd1_some, f3, bd2_some, if_pos (show Int32.ofNat (i + 8) < 15 by rw [qI_lt, ei8, e15]; omega), show fX9_need 41 τ5 = some τ6 from f4, bd1_some, nm_eq, mkB (siB b2 (by omega) _), bd2_some, bd2_some]
              exact pR.bad b1 (siB b2 (by omega) _)
            · have q6 := x6.2.2.2.1.1
              obtain ⟨u1, u2, u3, u4⟩ := actU (C := C) (N := C.N) (d := d') (i := i) (g := 60 * C.N + d' - 1) h1 u ⟨by omega, rfl⟩
              obtain ⟨σ7, f5, x7⟩ := emitX x6 (by omega) u1 u2
              obtain ⟨τ7, f6, m7⟩ := mkM hE (opM m6 o) (by omega) (t := Int32.ofNat (i + 8)) (x := Int32.ofNat (60 * C.N + d' - 1)) (y := 0) (u3 _ _ row64 row65)
              rw [f1, bd1_some, show fX3_pass 41 σ5 = some σ6 from f2, bd1_some, if_neg (show ¬ Int32.ofNat (i + 4) = -1 by rw [qI_eq, ei, eM1]; omega), f5, bd1_some, f3, bd2_some, if_pos (show Int32.ofNat (i + 8) < 15 by rw [qI_lt, ei8, e15]; omega), show fX9_need 41 τ5 = some τ6 from f4, bd1_some, nm_eq, m6.2.2.2.2.2.1, iN_pred (by omega), f6, bd2_some, bd2_some]
              exact Or.inr ⟨p', q', d' + 1, _, _, _, rfl, by rw [show 60 * C.N + (d' + 1) - 1 = 60 * C.N + d' by omega], ⟨by have := hw.1; omega, by omega, by omega⟩, fun j hj => by rw [upA_lt (by omega)]; exact g2 j hj, tree_un g3 (by rw [u4]; exact List.mem_singleton.mpr rfl), x7, m7⟩
          · have ib : i = 7 ∨ i = 8 := by omega
            have ex : ∀ (P Q R : Option zSt), P = Q → (if Int32.ofNat (i + 4) = 11 then P else if Int32.ofNat (i + 4) = 12 then Q else R) = P := fun P Q R h => by
              rcases ib with g | g
              · rw [if_pos (by rw [g]; rfl)]
              · rw [if_neg (by rw [g]; decide), if_pos (by rw [g]; rfl)]; exact h.symm
            rw [ex _ _ _ rfl]
            unfold fX3_piece_93 fX9_named_55
            rcases inner hE z (hS z) (b := 44) (by omega) (by omega) x4 m3 with ⟨kd, pl, σ5, σ6, r, τ5, τ6, f1, f2, f3, f4, b1, b2⟩ | ⟨p5, q5, d5, A5, σ5, σ6, τ5, τ6, f1, f2, f3, f4, g1, g2, g3, x6, m6⟩
            · obtain ⟨σ7, f5, b7⟩ := passB b1 41
              rw [f1, bd1_some, show fX3_pass 44 σ5 = some σ6 from f2, bd1_some, nm_eq, inB b1 _, bd1_some, f5, bd1_some, if_neg (show ¬ Int32.ofNat (i + 4) = -1 by rw [qI_eq, ei, eM1]; omega), emitB b7, bd1_some, f3, bd2_some, if_neg (show ¬ Int32.ofNat (i + 8) < 15 by rw [qI_lt, ei8, e15]; omega), show fX9_need 44 τ5 = some τ6 from f4, bd1_some, if_neg (bdB b2)]
              obtain ⟨r', τ', f7, b8⟩ := n86B b2 (G9 m) (Int32.ofNat (i + 8)) r 0
              rw [f7, bd2_some]
              exact pR.bad b7 b8
            · rw [f1, bd1_some, show fX3_pass 44 σ5 = some σ6 from f2, bd1_some, nm_eq, f3, bd2_some, if_neg (show ¬ Int32.ofNat (i + 8) < 15 by rw [qI_lt, ei8, e15]; omega), show fX9_need 44 τ5 = some τ6 from f4, bd1_some, if_pos (bdM m6)]
              have lft : gi σ6 (21 + 4 * 9) 3 - 1 = Int32.ofNat (d5 - 1) := by
                rw [show gi σ6 (21 + 4 * 9) 3 = Int32.ofNat d5 from x6.2.2.2.2.1.2, show d5 = d5 - 1 + 1 by omega, iN_p (by have := x6.2.2.2.2.1.1; have := x6.2.2.2.1.1; omega), Nat.add_sub_cancel]
              rw [lft]
              have q6 := x6.2.2.2.1.1
              unfold fX9_named_86
              rcases inner hE z (hS z) (b := 41) (by omega) (by omega) x6 m6 with ⟨kd, pl, σ7, σ8, r, τ7, τ8, l1, l2, l3, l4, b1, b2⟩ | ⟨p', q', d', A', σ7, σ8, τ7, τ8, l1, l2, l3, l4, k1, k2, k3, x8, m8⟩
              · rw [l1, bd1_some, show fX3_pass 41 σ7 = some σ8 from l2, bd1_some, if_neg (show ¬ Int32.ofNat (i + 4) = -1 by rw [qI_eq, ei, eM1]; omega), emitB b1, bd1_some, l3, bd2_some, show fX9_need 41 τ7 = some τ8 from l4, bd1_some, nm_eq, mkB (siB b2 (by omega) _), bd2_some, bd2_some]
                exact pR.bad b1 (siB b2 (by omega) _)
              · have q8 := x8.2.2.2.1.1
                have hd5 := x8.2.2.2.2.1.1
                obtain ⟨u1, u2, u3, u4⟩ := actB (C := C) (N := C.N) (d := d') (i := i) (f := 60 * C.N + d5 - 1) (g := 60 * C.N + d' - 1) (lf := Int32.ofNat (d5 - 1)) ib ⟨rfl, d5 - 1, by omega, by omega⟩ (by rw [iNt (by omega)]; omega)
                obtain ⟨σ9, f5, x9⟩ := emitX x8 (by omega) u1 u2
                obtain ⟨τ9, f6, m9⟩ := mkM hE (opM m8 o) (by omega) (t := Int32.ofNat (i + 8)) (x := Int32.ofNat (60 * C.N + d5 - 1)) (y := Int32.ofNat (60 * C.N + d' - 1)) (u3 _ _ row64 row65 row66)
                rw [l1, bd1_some, show fX3_pass 41 σ7 = some σ8 from l2, bd1_some, if_neg (show ¬ Int32.ofNat (i + 4) = -1 by rw [qI_eq, ei, eM1]; omega), f5, bd1_some, l3, bd2_some, show fX9_need 41 τ7 = some τ8 from l4, bd1_some, nm_eq, m8.2.2.2.2.2.1, iN_pred (by omega), f6, bd2_some, bd2_some]
                exact Or.inr ⟨p', q', d' + 1, _, _, _, rfl, by rw [show 60 * C.N + (d' + 1) - 1 = 60 * C.N + d' by omega], ⟨by have := hw.1; omega, by omega, by omega⟩, fun j hj => by rw [upA_lt (by omega), k2 j (by omega)]; exact g2 j hj, tree_bi g3 k2 k3 (by omega) (by omega) (by rw [u4]; exact List.mem_cons.mpr (Or.inl rfl)) (by rw [u4]; exact List.mem_cons.mpr (Or.inr (List.mem_singleton.mpr rfl))), x9, m9⟩
        · rw [ss] at w
          exact absurd y w
      · obtain ⟨τ3, e4, m3⟩ := nd.2.1 y (by omega)
        obtain ⟨σ4, e5, b4⟩ := refX hE x3 (k := 3) (by omega) (by omega)
        obtain ⟨r', τ', f7, b8⟩ := n55B m3 (G9 m) (Int32.ofNat (i + 8)) 0
        rw [if_neg (show ¬ Int32.ofNat o < 12 by rw [qI_lt, iNt (by omega), e12]; omega), show fX3_refuse 3 σ3 = some σ4 from e5, bd1_some, e4, bd1_some, if_neg (bdB m3), f7, bd2_some]
        exact pR.bad' (p52B b4 _ _) ⟨_, _, rfl, b8⟩
    · obtain ⟨τ3, e4, m3⟩ := nd.2.2 y
      obtain ⟨r', τ', f7, b8⟩ := n55B m3 (G9 m) (Int32.ofNat (i + 8)) 0
      rw [if_neg (show ¬ chI n β (sk n β e) = 40 from fun h => y (c.mp h)), e4, bd1_some, if_neg (bdB m3), f7, bd2_some]
      unfold fX3_piece_52
      rcases passX hE x3 (k := 40) (by omega) with ⟨w, -⟩ | ⟨-, σ4, e5, b4⟩
      · rw [ss] at w
        exact absurd w y
      · rw [ss] at b4
        rw [show fX3_pass 40 σ3 = some σ4 from e5, bd1_some]
        exact pR.bad' (p52R b4 _ _) ⟨_, _, rfl, b8⟩
  · obtain ⟨τ1, e2, b2, f2⟩ := mm.2 x
    rw [e1, bd2_some, if_pos rfl, bd2_some, p17B b1, e2, bd1_some, if_neg (bdB b2), bd2_some]
    exact pR.bad b1 b2
