/-! a piece, and a power -/
theorem pR.mono {C : qCfg} {n : Nat} {σ0 τ0 : zSt} {p p1 q d o : Nat} {A : Nat → qAct} {X : Option zSt} {M : Option (Int32 × zSt)} (h : pR C n σ0 τ0 p1 q d o A X M) (hp : p ≤ p1) : pR C n σ0 τ0 p q d o A X M := by
  rcases h with h | ⟨p', q', d', A', σ', τ', e1, e2, f1, r⟩
  · exact Or.inl h
  · exact Or.inr ⟨p', q', d', A', σ', τ', e1, e2, ⟨by omega, f1.2⟩, r⟩
theorem x_wordE {C : qCfg} {n : Nat} {β : Nat → Nat} {σ0 τ0 σ : zSt} (hE : pE C n β σ0 τ0) {p q d : Nat} {A : Nat → qAct} (h : pX C n σ0 p q d A σ) : fX3_word σ = fX3_word_36 (Int32.ofNat (we n β p)) σ := by
  obtain ⟨Z, hZ⟩ := zFU_ge 1000 (by omega)
  have hh := hE.2.1
  have hp := h.2.2.1.1
  show fX3_word_0 σ = _
  unfold fX3_word_0
  rw [h.2.2.1.2, nm_eq, x_wordL hE.2.1 hE.2.2.1 (tp_X hE h.1) 200 p zFU (by omega) hp (by omega)]
  rfl
theorem sim_piece {C : qCfg} {n : Nat} {β : Nat → Nat} {σ0 τ0 : zSt} (hE : pE C n β σ0 τ0) {k m o : Nat} (ho : o ≤ 12) (hS1 : o < 12 → pSim C n σ0 τ0 (G3 k 0) (G9 (m + 1) 0 0) (o + 1)) (hS2 : o < 12 → pSim C n σ0 τ0 (G3 k 0) (G9 m 0 0) (o + 1)) : pSim C n σ0 τ0 (fX3_piece (G3 (k + 1))) (fX9_part (G9 (m + 1))) o := by
  intro p q d A σ τ hx hm
  obtain ⟨Z, hZ⟩ := zFU_ge 1000 (by omega)
  have hh := hE.2.1
  have hp := hx.2.2.1.1
  obtain ⟨σ1, e1, x1⟩ := sgX hE hx
  obtain ⟨τ1, e2, m1⟩ := pkM hE hm hp
  have so := sk_ok (β := β) hE.2.1 hp
  obtain ⟨s, hs⟩ : ∃ s, s = sk n β p := ⟨_, rfl⟩
  rw [← hs] at e1 x1 e2 m1 so
  have hsn := so.2.1
  have c := chI_eq (n := n) (β := β) (p := s) (fun h => hE.2.2.1 _ h) (k := 40) (by omega)
  obtain ⟨e, he⟩ : ∃ e, e = we n β s := ⟨_, rfl⟩
  have wo := we_ok (β := β) hE.2.1 hsn
  have we1 := m_wordEnd hE m1 hsn
  rw [← he] at wo we1
  have tx := tp_X hE x1.1
  have tm := tp_M hE m1.1
  refine pR.mono (p1 := s) ?_ so.1
  show pR C n σ0 τ0 s q d o A (fX3_piece_0 (G3 (k + 1)) (Int32.ofNat o) σ) (fX9_part_0 (G9 (m + 1)) τ)
  unfold fX3_piece_0 fX9_part_0
  rw [e1, bd2_some, e2, bd2_some, we1, bd1_some, m_stands hE.2.1 hE.2.2.1 tm (by omega) m1.2.2.1 wo.1 wo.2.1, bd1_some, m_isNumber hE.2.1 hE.2.2.1 tm m1.2.2.1 hsn he, bd1_some]
  have dd := dr_ok (β := β) wo.1 (by omega)
  by_cases y : s < n ∧ β s = 40
  · have es : e = s := by rw [he]; exact we_self hE.2.1 hsn (by rw [y.2]; decide)
    have w0 : ¬ wd β s e 0 := fun h => by have := wd_0 (by omega) h; omega
    have n0 : ¬ isNm β s e (dr β e s) := fun h => by have := h.1; omega
    rw [if_pos (show chI n β s = 40 from c.mpr y), if_neg w0, if_pos (show (0 : Int32) = 0 from rfl), if_neg n0, if_pos (show (0 : Int32) = 0 from rfl), if_pos (show chI n β s = 40 from c.mpr y)]
    exact sim_br hE ho hS1 x1 m1 y
  · have nc : ¬ chI n β s = 40 := fun h => y (c.mp h)
    obtain ⟨r, hk, hr⟩ := x_kindOf hE.2.1 hE.2.2.1 tx x1.2.2.1.2 wo.1 wo.2.1
    rw [if_neg nc, x_wordE hE x1, ← he]
    rcases hr with ⟨k1, k2⟩ | ⟨k0, k1, k2⟩ | ⟨k0, k1, i, i1, i8, iw, ino, k2⟩ | ⟨k0, k1, ino, k3, k2⟩ | ⟨k0, k1, ino, k3, k2⟩
    · rw [k2] at hk
      rw [if_pos k1, if_neg iNe1]
      exact sim_x hE x1 m1 hk k1.1 wo.2.1
    · rw [k2] at hk
      rw [if_neg k0, if_pos (show (0 : Int32) = 0 from rfl), if_pos k1, if_neg iNe1]
      exact sim_num hE x1 m1 hk he k1
    · rw [k2] at hk
      rw [if_neg k0, if_pos (show (0 : Int32) = 0 from rfl), if_neg k1, if_pos (show (0 : Int32) = 0 from rfl), if_neg nc]
      rcases m_namesL hE.2.1 hE.2.2.1 tm m1.2.2.1 wo.1 wo.2.1 (G9 (m + 1)) (chI n β s) 8 1 zFU (by omega) (by omega) (by omega) (by omega) (fun j a b => absurd b (by omega)) with ⟨no, -⟩ | ⟨j, j1, j8, jw, jno, jr⟩
      · exact absurd iw (no i i1 (by omega))
      · have ij : i = j := by
          by_cases a : i < j
          · exact absurd iw (jno i i1 a)
          · by_cases b : j < i
            · exact absurd jw (ino j j1 b)
            · omega
        rw [show (9 : Int32) = Int32.ofNat (1 + 8) from rfl, jr, ← ij]
        exact sim_nm hE ho hS2 x1 m1 hk i1 i8 iw wo.2.1
    · rw [k2] at hk
      rw [if_neg k0, if_pos (show (0 : Int32) = 0 from rfl), if_neg k1, if_pos (show (0 : Int32) = 0 from rfl), if_neg nc]
      rcases m_namesL hE.2.1 hE.2.2.1 tm m1.2.2.1 wo.1 wo.2.1 (G9 (m + 1)) (chI n β s) 8 1 zFU (by omega) (by omega) (by omega) (by omega) (fun j a b => absurd b (by omega)) with ⟨no, K', jr⟩ | ⟨j, j1, j8, jw, jno, jr⟩
      · rw [show (9 : Int32) = Int32.ofNat (1 + 8) from rfl, jr, (m_c17 hE _ _ m1 hsn wo.2.1 wo.1).1 k3]
        exact sim_cv hE x1 m1 hk wo.2.1 k3
      · exact absurd jw (ino j j1 (by omega))
    · rw [k2] at hk
      rw [if_neg k0, if_pos (show (0 : Int32) = 0 from rfl), if_neg k1, if_pos (show (0 : Int32) = 0 from rfl), if_neg nc]
      rcases m_namesL hE.2.1 hE.2.2.1 tm m1.2.2.1 wo.1 wo.2.1 (G9 (m + 1)) (chI n β s) 8 1 zFU (by omega) (by omega) (by omega) (by omega) (fun j a b => absurd b (by omega)) with ⟨no, K', jr⟩ | ⟨j, j1, j8, jw, jno, jr⟩
      · rw [show (9 : Int32) = Int32.ofNat (1 + 8) from rfl, jr, (m_c17 hE _ _ m1 hsn wo.2.1 wo.1).2 k3]
        exact sim_no hE x1 m1 hk
      · exact absurd jw (ino j j1 (by omega))
/-- the minus in front, at last -/
theorem sim_fin {C : qCfg} {n : Nat} {β : Nat → Nat} {σ0 τ0 σ τ : zSt} (hE : pE C n β σ0 τ0) {p p' q q' d d' o vb : Nat} {A A' : Nat → qAct} (hv : vb = 0 ∨ vb = 1) (hx : pX C n σ0 p' q' d' A' σ) (hm : pM C τ0 p' q' d' o A' τ) (hp : p < p') (hd : d < d') (hq : d ≤ q) (hc : d' + (q + vb) = d + q') (ha : ∀ j, j < d → A' j = A j) (ht : tree C.N A' d d') : pR C n σ0 τ0 p q d o A (if Int32.ofNat vb = 0 then some σ else bd1 (fX3_emit (3 : Int32) (0 : Int64) (0 : Int32) σ) fun s => some s) (if Int32.ofNat vb = 0 then some (Int32.ofNat (60 * C.N + d' - 1), τ) else bd2 (fX9_make (3 : Int32) (Int32.ofNat (60 * C.N + d' - 1)) (0 : Int32) τ) fun r s => some (r, s)) := by
  have q6 := hx.2.2.2.1.1
  rcases hv with v | v
  · subst v
    rw [if_pos (show Int32.ofNat 0 = 0 from rfl), if_pos (show Int32.ofNat 0 = 0 from rfl)]
    exact Or.inr ⟨p', q', d', A', σ, τ, rfl, rfl, ⟨hp, hd, by omega⟩, ha, ht, hx, hm⟩
  · subst v
    obtain ⟨σ1, e1, x1⟩ := emitX hx (by omega) (κ := 3) (dt := 0) (lf := 0) (a := (3, 0, 60 * C.N + d' - 1, none)) (show unOk C.N d' (60 * C.N + d' - 1) from ⟨by omega, rfl⟩) rfl
    obtain ⟨τ1, e2, m1⟩ := mkM hE hm (by omega) (t := 3) (x := Int32.ofNat (60 * C.N + d' - 1)) (y := 0) (a := (3, 0, 60 * C.N + d' - 1, none)) ⟨row64, row65⟩
    rw [if_neg (show ¬ Int32.ofNat 1 = 0 from iNe1), if_neg (show ¬ Int32.ofNat 1 = 0 from iNe1), e1, bd1_some, e2, bd2_some]
    exact Or.inr ⟨p', q', d' + 1, _, _, _, rfl, by rw [show 60 * C.N + (d' + 1) - 1 = 60 * C.N + d' by omega], ⟨hp, by omega, by omega⟩, fun j hj => by rw [upA_lt (by omega)]; exact ha j hj, tree_un ht (List.mem_singleton.mpr rfl), x1, m1⟩
theorem fin_B {C : qCfg} {n : Nat} {σ0 τ0 σ τ : zSt} {p q d o vb kd pl : Nat} {A : Nat → qAct} (hx : xBad n σ0 kd pl σ) (hm : mBad C n τ0 kd pl τ) (r : Int32) : pR C n σ0 τ0 p q d o A (if Int32.ofNat vb = 0 then some σ else bd1 (fX3_emit (3 : Int32) (0 : Int64) (0 : Int32) σ) fun s => some s) (if Int32.ofNat vb = 0 then some (r, τ) else bd2 (fX9_make (3 : Int32) r (0 : Int32) τ) fun r s => some (r, s)) := by
  rw [emitB hx, bd1_some, mkB hm, bd2_some]
  by_cases v : Int32.ofNat vb = 0
  · rw [if_pos v, if_pos v]; exact pR.bad hx hm
  · rw [if_neg v, if_neg v]; exact pR.bad hx hm
theorem p99B {n : Nat} {σ0 σ : zSt} {kd pl : Nat} (h : xBad n σ0 kd pl σ) (F : Nat → Int32 → zSt → Option zSt) (v w : Int32) : ∃ σ', fX3_power_99 F v w σ = some σ' ∧ xBad n σ0 kd pl σ' := by
  have h1 := atB h (gi σ 1 2 + 1)
  unfold fX3_power_99
  rw [emitB h1, bd1_some, emitB h1, bd1_some]
  by_cases x : v = 0
  · rw [if_pos x]; exact ⟨_, rfl, h1⟩
  · rw [if_neg x]; exact ⟨_, rfl, h1⟩
theorem p130B {C : qCfg} {n : Nat} {τ0 τ : zSt} {kd pl : Nat} (h : mBad C n τ0 kd pl τ) (F : Nat → Int32 → zSt → Option (Int32 × zSt)) (v1 v2 v3 : Int32) : ∃ r τ', fX9_power_130 F v1 v2 v3 τ = some (r, τ') ∧ mBad C n τ0 kd pl τ' := by
  have h1 := siB h (i := 10) (by omega) (gi τ 61 10 + 1)
  unfold fX9_power_130
  rw [mkB h1, bd2_some, mkB h1, bd2_some]
  by_cases x : v1 = 0
  · rw [if_pos x]; exact ⟨_, _, rfl, h1⟩
  · rw [if_neg x]; exact ⟨_, _, rfl, h1⟩
theorem sim_37 {C : qCfg} {n : Nat} {β : Nat → Nat} {σ0 τ0 σ τ : zSt} (hE : pE C n β σ0 τ0) {k m o vb : Nat} (hv : vb = 0 ∨ vb = 1) (hP : pSim C n σ0 τ0 (G3 k 3) (G9 m 3 0) o) {p q d : Nat} {A : Nat → qAct} (hq : d ≤ q) (hx : pX C n σ0 p (q + vb) d A σ) (hm : pM C τ0 p (q + vb) d o A τ) : pR C n σ0 τ0 p q d o A (fX3_power_37 (G3 k) (Int32.ofNat o) (Int32.ofNat vb) σ) (fX9_power_37 (G9 m) (Int32.ofNat vb) τ) := by
  have hh := hE.2.1
  have e48 : (48 : Int32).toInt = 48 := by decide
  have e49 : (49 : Int32).toInt = 49 := by decide
  have e57 : (57 : Int32).toInt = 57 := by decide
  have ei9 : (9 : Int32).toInt = 9 := by decide
  unfold fX3_power_37 fX9_power_37
  rw [if_pos (bdM hm)]
  rcases hP p (q + vb) d A σ τ hx hm with ⟨kd, pl, σ1, r, τ1, e1, e2, b1, b2⟩ | ⟨p', q', d', A', σ1, τ1, e1, e2, f1, f2, f3, x1, m1⟩
  · rw [e1, bd1_some, if_neg (xB_ne b1), e2, bd2_some, if_neg (bdB b2)]
    exact fin_B b1 b2 r
  · have hp' := x1.2.2.1.1
    obtain ⟨σ2, e3, x2⟩ := sgX hE x1
    obtain ⟨τ2, e4, m2⟩ := pkM hE m1 hp'
    have so := sk_ok (β := β) hE.2.1 hp'
    obtain ⟨s, hs⟩ : ∃ s, s = sk n β p' := ⟨_, rfl⟩
    rw [← hs] at e3 x2 e4 m2 so
    have c := chI_eq (n := n) (β := β) (p := s) (fun h => hE.2.2.1 _ h) (k := 94) (by omega)
    rw [e1, bd1_some, if_pos x1.2.1, e3, bd2_some, e2, bd2_some, if_pos (bdM m1), e4, bd2_some]
    by_cases y : s < n ∧ β s = 94
    · have mm := metM m2 (n := n) (by omega)
      rw [if_pos (show chI n β s = 94 from c.mpr y), if_pos (show chI n β s = 94 from c.mpr y), m2.2.2.1]
      rcases metX hE x2 with ⟨x, σ3, e5, x3⟩ | ⟨x, σ3, e5, b3⟩
      · obtain ⟨τ3, e6, m3⟩ := mm.1 x
        have x4 := atX x3 (p' := s + 1) (by omega)
        have m4 := atM m3 (s + 1)
        obtain ⟨σ5, e7, x5⟩ := sgX hE x4
        obtain ⟨τ5, e8, m5⟩ := pkM hE m4 (by omega)
        have so2 := sk_ok (β := β) hE.2.1 (show s + 1 ≤ n by omega)
        obtain ⟨t, ht⟩ : ∃ t, t = sk n β (s + 1) := ⟨_, rfl⟩
        rw [← ht] at e7 x5 e8 m5 so2
        rw [e5, bd2_some, if_neg iNe1, x3.2.2.1.2, iN_s (by omega), nm_eq, e7, bd2_some, nm_eq, e6, bd1_some, m3.2.2.1, iN_s (by omega), nm_eq, if_pos (bdM m4), e8, bd2_some]
        unfold fX9_power_100
        rw [if_pos (bdM m5)]
        have hci : (chI n β t).toInt = if t < n then (β t : Int) else -1 := by
          unfold chI
          by_cases g : t < n
          · have := hE.2.2.1 t g
            rw [if_pos g, if_pos g, iNt (by omega)]
          · rw [if_neg g, if_neg g]; exact eM1
        have hrng : -1 ≤ (chI n β t).toInt ∧ (chI n β t).toInt < 256 := by
          rw [hci]
          by_cases g : t < n
          · have := hE.2.2.1 t g
            rw [if_pos g]; omega
          · rw [if_neg g]; omega
        have hsub : (chI n β t - 48).toInt = (chI n β t).toInt - 48 := by rw [qI_sub (by rw [e48]; omega) (by rw [e48]; omega), e48]
        have bad : pR C n σ0 τ0 p q d o A (bd1 (fX3_refuse 1 σ5) fun s96_20 => fX3_power_99 (G3 k) (Int32.ofNat vb) (chI n β t - 48) s96_20) (bd2 (fX9_fails (1 : Int32) (gi τ5 61 10) τ5) fun r126_3 s126_4 => some (r126_3, s126_4)) := by
          obtain ⟨σ6, e9, b6⟩ := refX hE x5 (k := 1) (by omega) (by omega)
          obtain ⟨τ6, e10, b7, -⟩ := failM m5 (n := n) so2.2.1 (k := 1) (by omega) (by omega)
          obtain ⟨σ7, e11, b8⟩ := p99B b6 (G3 k) (Int32.ofNat vb) (chI n β t - 48)
          rw [show fX3_refuse 1 σ5 = some σ6 from e9, bd1_some, e11, m5.2.2.1, show fX9_fails 1 (Int32.ofNat t) τ5 = some (0, τ6) from e10, bd2_some]
          exact pR.bad b8 b7
        by_cases g1 : (chI n β t).toInt < 49
        · rw [if_pos (show chI n β t - 48 < 1 by rw [qI_lt, hsub, q1I]; omega), if_pos (show chI n β t < 49 by rw [qI_lt, e49]; omega)]
          exact bad
        rw [if_neg (show ¬ chI n β t - 48 < 1 by rw [qI_lt, hsub, q1I]; omega), if_neg (show ¬ chI n β t < 49 by rw [qI_lt, e49]; omega)]
        by_cases g2 : (chI n β t).toInt ≤ 57
        · have tn : t < n := by
            by_cases g : t < n
            · exact g
            · rw [if_neg g] at hci; omega
          rw [if_pos tn] at hci
          obtain ⟨i, hi⟩ : ∃ i, i = β t - 49 := ⟨_, rfl⟩
          have hdt : (Int32.toInt64 (chI n β t - 48)).toInt = i + 1 := by rw [qL_ofI, hsub, hci]; omega
          have hyy : chI n β t - 48 = Int32.ofNat (i + 1) := iN_of (by rw [hsub, hci]; omega)
          have q6 := x5.2.2.2.1.1
          have x6 := atX x5 (p' := t + 1) (by omega)
          have m6 := atM m5 (t + 1)
          obtain ⟨σ7, e9, x7⟩ := emitX x6 (by omega) (κ := 4) (dt := Int32.toInt64 (chI n β t - 48)) (lf := 0) (a := (4, i, 60 * C.N + d' - 1, none)) (show unOk C.N d' (60 * C.N + d' - 1) ∧ i ≤ 8 from ⟨⟨by omega, rfl⟩, by omega⟩) ⟨rfl, hdt⟩
          obtain ⟨τ7, e10, m7⟩ := mkM hE m6 (by omega) (t := 4) (x := Int32.ofNat (60 * C.N + d' - 1)) (y := Int32.ofNat (i + 1)) (a := (4, i, 60 * C.N + d' - 1, none)) ⟨row64, row65, row66⟩
          rw [if_pos (show chI n β t - 48 ≤ 9 by rw [qI_le, hsub, ei9]; omega), if_pos (show chI n β t ≤ 57 by rw [qI_le, e57]; omega)]
          unfold fX3_power_99 fX9_power_130
          rw [x5.2.2.1.2, iN_s (by omega), e9, bd1_some, m5.2.2.1, iN_s (by omega), hyy, e10, bd2_some]
          have fin := sim_fin hE (p := p) (q := q) (d := d) (A := A) hv x7 m7 (by omega) (by omega) hq (by omega) (fun j hj => by rw [upA_lt (by omega)]; exact f2 j hj) (tree_un f3 (List.mem_singleton.mpr rfl))
          rw [show 60 * C.N + (d' + 1) - 1 = 60 * C.N + d' by omega] at fin
          exact fin
        · rw [if_neg (show ¬ chI n β t - 48 ≤ 9 by rw [qI_le, hsub, ei9]; omega), if_neg (show ¬ chI n β t ≤ 57 by rw [qI_le, e57]; omega)]
          exact bad
      · obtain ⟨τ3, e6, b4, f6⟩ := mm.2 x
        rw [e5, bd2_some, if_pos (show (0 : Int32) = 0 from rfl), e6, bd1_some, nm_eq, if_neg (bdB (siB b4 (by omega) _))]
        unfold fX9_power_100
        rw [if_neg (bdB (siB b4 (by omega) _))]
        refine pR.bad' ?_ (p130B (siB b4 (by omega) _) _ _ _ _)
        rw [emitB b3, bd1_some]
        by_cases v : Int32.ofNat vb = 0
        · rw [if_pos v]; exact ⟨_, rfl, b3⟩
        · rw [if_neg v]; exact ⟨_, rfl, b3⟩
    · rw [if_neg (show ¬ chI n β s = 94 from fun h => y (c.mp h)), if_neg (show ¬ chI n β s = 94 from fun h => y (c.mp h))]
      exact sim_fin hE hv x2 m2 (by omega) f1.2.1 hq f1.2.2 f2 f3
theorem sim_power {C : qCfg} {n : Nat} {β : Nat → Nat} {σ0 τ0 : zSt} (hE : pE C n β σ0 τ0) {k m o : Nat} (hP : pSim C n σ0 τ0 (G3 k 3) (G9 m 3 0) o) : pSim C n σ0 τ0 (fX3_power (G3 k)) (fX9_power (G9 m)) o := by
  intro p q d A σ τ hx hm
  have hh := hE.2.1
  have hp := hx.2.2.1.1
  have hd := hx.2.2.2.2.1.1
  obtain ⟨σ1, e1, x1⟩ := sgX hE hx
  obtain ⟨τ1, e2, m1⟩ := pkM hE hm hp
  have so := sk_ok (β := β) hE.2.1 hp
  obtain ⟨s, hs⟩ : ∃ s, s = sk n β p := ⟨_, rfl⟩
  rw [← hs] at e1 x1 e2 m1 so
  have hsn := so.2.1
  have c := chI_eq (n := n) (β := β) (p := s) (fun h => hE.2.2.1 _ h) (k := 45) (by omega)
  show pR C n σ0 τ0 p q d o A (fX3_power_0 (G3 k) (Int32.ofNat o) σ) (fX9_power_0 (G9 m) τ)
  unfold fX3_power_0 fX9_power_0
  rw [e1, bd2_some, e2, bd2_some]
  by_cases y : s < n ∧ β s = 45
  · have mm := metM m1 (n := n) hsn
    rw [if_pos (show chI n β s = 45 from c.mpr y), if_pos (show chI n β s = 45 from c.mpr y), m1.2.2.1]
    rcases metX hE x1 with ⟨x, σ3, e5, x3⟩ | ⟨x, σ3, e5, b3⟩
    · obtain ⟨τ3, e6, m3⟩ := mm.1 x
      rw [e5, bd2_some, if_neg iNe1, x3.2.2.1.2, iN_s (by omega), e6, bd1_some, m3.2.2.1, iN_s (by omega), nm_eq]
      exact pR.mono (sim_37 hE (vb := 1) (Or.inr rfl) hP hd (atX x3 (by omega)) (atM m3 (s + 1))) (by omega)
    · obtain ⟨τ3, e6, b4, f6⟩ := mm.2 x
      rw [e5, bd2_some, if_pos (show (0 : Int32) = 0 from rfl), e6, bd1_some, nm_eq]
      unfold fX9_power_37
      rw [if_neg (bdB (siB b4 (by omega) _))]
      exact pR.bad b3 (siB b4 (by omega) _)
  · rw [if_neg (show ¬ chI n β s = 45 from fun h => y (c.mp h)), if_neg (show ¬ chI n β s = 45 from fun h => y (c.mp h))]
    exact pR.mono (sim_37 hE (vb := 0) (Or.inl rfl) hP hd x1 m1) so.1
