/-! what holds between ShutBench's cells and the Model's before and behind every call -/
def yFr (σ τ : zSt) : Prop := (∀ c i, ((c = 3 ∧ i = 8) ∨ 21 ≤ c) → gi τ c i = gi σ c i) ∧ ∀ c i, 21 ≤ c → gl τ c i = gl σ c i
def wFr (σ τ : zSt) : Prop := (∀ c i, ((c = 61 ∧ i = 3) ∨ (63 ≤ c ∧ c ≤ 66)) → gi τ c i = gi σ c i) ∧ ∀ c i, (c = 67 ∨ c = 68) → gl τ c i = gl σ c i
theorem yFr.rf {σ : zSt} : yFr σ σ := ⟨fun _ _ _ => rfl, fun _ _ _ => rfl⟩
theorem wFr.rf {σ : zSt} : wFr σ σ := ⟨fun _ _ _ => rfl, fun _ _ _ => rfl⟩
theorem yFr.tr {a b c : zSt} (h : yFr a b) (g : yFr b c) : yFr a c := ⟨fun q k hk => (g.1 q k hk).trans (h.1 q k hk), fun q k hk => (g.2 q k hk).trans (h.2 q k hk)⟩
theorem wFr.tr {a b c : zSt} (h : wFr a b) (g : wFr b c) : wFr a c := ⟨fun q k hk => (g.1 q k hk).trans (h.1 q k hk), fun q k hk => (g.2 q k hk).trans (h.2 q k hk)⟩
theorem yFr.si {σ τ : zSt} (h : yFr σ τ) {c k : Nat} {v : Int32} (hc : ¬ ((c = 3 ∧ k = 8) ∨ 21 ≤ c)) : yFr σ (si τ c k v) := ⟨fun q i hq => by
  rw [gi_si, if_neg (fun e => hc (by rw [← e.1, ← e.2]; exact hq))]; exact h.1 q i hq, fun q i hq => by rw [gl_si]; exact h.2 q i hq⟩
theorem yFr.sl {σ τ : zSt} (h : yFr σ τ) {c k : Nat} {v : Int64} (hc : ¬ 21 ≤ c) : yFr σ (sl τ c k v) := ⟨fun q i hq => by rw [gi_sl]; exact h.1 q i hq, fun q i hq => by
  rw [gl_sl, if_neg (fun e => hc (by rw [← e.1]; exact hq))]; exact h.2 q i hq⟩
theorem wFr.si {σ τ : zSt} (h : wFr σ τ) {c k : Nat} {v : Int32} (hc : ¬ ((c = 61 ∧ k = 3) ∨ (63 ≤ c ∧ c ≤ 66))) : wFr σ (si τ c k v) := ⟨fun q i hq => by
  rw [gi_si, if_neg (fun e => hc (by rw [← e.1, ← e.2]; exact hq))]; exact h.1 q i hq, fun q i hq => by rw [gl_si]; exact h.2 q i hq⟩
theorem wFr.sl {σ τ : zSt} (h : wFr σ τ) {c k : Nat} {v : Int64} (hc : ¬ (c = 67 ∨ c = 68)) : wFr σ (sl τ c k v) := ⟨fun q i hq => by rw [gi_sl]; exact h.1 q i hq, fun q i hq => by
  rw [gl_sl, if_neg (fun e => hc (by rw [← e.1]; exact hq))]; exact h.2 q i hq⟩
theorem xFr.y {σ τ : zSt} (h : xFr σ τ) : yFr σ τ := ⟨fun c i _ => h.1 c i, fun c i q => h.2 c i (by omega)⟩
theorem mFr.w {σ τ : zSt} (h : mFr σ τ) : wFr σ τ := ⟨fun c i q => h.1 c i (by omega), fun c i q => h.2 c i (by omega)⟩
theorem xAct_y {σ τ : zSt} (h : yFr σ τ) {k j : Nat} {a : qAct} (ha : xAct σ k j a) : xAct τ k j a := by
  have e0 : gi τ (21 + 4 * k + 1) j = gi σ (21 + 4 * k + 1) j := h.1 _ _ (by omega)
  have e1 : gi τ (21 + 4 * k + 3) j = gi σ (21 + 4 * k + 3) j := h.1 _ _ (by omega)
  have e2 : gl τ (21 + 4 * k + 2) j = gl σ (21 + 4 * k + 2) j := h.2 _ _ (by omega)
  rcases a with ⟨_ | _ | _ | _ | _ | _ | _ | _ | _ | _ | _ | _ | _ | _ | _ | _ | t, f, g, s⟩ <;> simp only [xAct, e0, e1, e2] at ha ⊢ <;> exact ha
theorem xCur_y {C : qCfg} {M : Nat → Nat} {σ τ : zSt} (h : yFr σ τ) (hc : xCur C M σ) : xCur C M τ := ⟨by rw [h.1 _ _ (by omega)]; exact hc.1, fun k hk => ⟨by rw [h.1 _ _ (by omega)]; exact (hc.2 k hk).1, by rw [h.1 _ _ (by omega)]; exact (hc.2 k hk).2.1, fun j hj => xAct_y h ((hc.2 k hk).2.2 j hj)⟩⟩
theorem mAct_w {σ τ : zSt} (h : wFr σ τ) {n : Nat} {a : qAct} (ha : mAct σ n a) : mAct τ n a := by
  have e1 : gi τ 64 n = gi σ 64 n := h.1 _ _ (by omega)
  have e2 : gi τ 65 n = gi σ 65 n := h.1 _ _ (by omega)
  have e3 : gi τ 66 n = gi σ 66 n := h.1 _ _ (by omega)
  have e4 : gl τ 67 n = gl σ 67 n := h.2 _ _ (by omega)
  have e5 : gl τ 68 n = gl σ 68 n := h.2 _ _ (by omega)
  rcases a with ⟨_ | _ | _ | _ | _ | _ | _ | _ | _ | _ | _ | _ | _ | _ | _ | _ | t, f, g, s⟩ <;> simp only [mAct, e1, e2, e3, e4, e5] at ha ⊢ <;> exact ha
theorem mCur_w {C : qCfg} {σ τ : zSt} (h : wFr σ τ) (hc : mCur C σ) : mCur C τ := ⟨by rw [h.1 _ _ (by omega)]; exact hc.1, fun k hk => ⟨by rw [h.1 _ _ (by omega)]; exact (hc.2 k hk).1, fun j hj => mAct_w h ((hc.2 k hk).2 j hj)⟩⟩
/-- degrees: -1 for NONE -/
def dAct (v : Nat → Int) : qAct → Int
  | (0, _, _, _) => 1
  | (2, _, m, _) => v m
  | (3, _, g, _) => v g
  | (4, j, g, _) => if v g = -1 then -1 else min 1000 (v g * (j + 1))
  | (13, f, g, _) => if v f = -1 ∨ v g = -1 then -1 else max (v f) (v g)
  | (14, f, g, _) => if v f = -1 ∨ v g = -1 then -1 else max (v f) (v g)
  | (15, f, g, _) => if v f = -1 ∨ v g = -1 then -1 else min 1000 (v f + v g)
  | (1, _, _, _) => 0
  | _ => -1
def xDg (C : qCfg) (D : Nat → Int) : Prop := ∀ k j, k < C.N → j < C.len k → D (60 * k + j) = dAct D (C.A (60 * k + j)) ∧ -1 ≤ D (60 * k + j) ∧ D (60 * k + j) ≤ 1000
def xSm (C : qCfg) (S : Nat → Bool) : Prop := ∀ k, k < C.N → (S k = true ↔ ∀ j, j < C.len k → ¬ (10 ≤ (C.A (60 * k + j)).1 ∧ (C.A (60 * k + j)).1 ≤ 12) ∧ ((C.A (60 * k + j)).1 = 2 → S (C.A (60 * k + j)).2.1 = true))
def xAb (C : qCfg) (D : Nat → Int) (S : Nat → Bool) (σ : zSt) : Prop := ∀ k, k < C.N → gi σ (21 + 4 * k) 4 = (if S k then 1 else 0) ∧ (gi σ (21 + 4 * k) 5).toInt = D (qLast C k)
def zCf (C : qCfg) (M : Nat → Nat) (D : Nat → Int) (S : Nat → Bool) (σ τ : zSt) : Prop := (qWF C ∧ xNd C M) ∧ (xDg C D ∧ xSm C S) ∧ xCur C M σ ∧ xAb C D S σ ∧ mCur C τ
def zTp (σ τ : zSt) : Prop := ∃ n : Nat, n ≤ 200 ∧ gi σ 2 1 = Int32.ofNat n ∧ gi τ 61 2 = Int32.ofNat n ∧ ∀ p, p < n → (gi σ 6 p).toInt = (gi τ 62 p).toInt % 256 ∧ -128 ≤ (gi τ 62 p).toInt ∧ (gi τ 62 p).toInt ≤ 127
def zLH (σ τ : zSt) : Prop := gl σ 0 4 = gl τ 61 31 ∧ gl σ 0 5 = gl τ 61 32
def zPc (σ τ : zSt) : Prop := gi σ 0 6 = gi τ 61 38 ∧ gi σ 0 7 = gi τ 61 39
def zRt (σ τ : zSt) : Prop := ∃ n : Nat, n ≤ 60 ∧ gi σ 5 5 = Int32.ofNat n ∧ gi τ 61 40 = Int32.ofNat n ∧ ∀ i, i < n → (gi σ 18 i).toInt = (gl τ 82 i).toInt ∧ (gi σ 19 i).toInt = (gl τ 83 i).toInt ∧ gi σ 20 i = gi τ 84 i
def zI (C : qCfg) (M : Nat → Nat) (D : Nat → Int) (S : Nat → Bool) (σ τ : zSt) : Prop := zCf C M D S σ τ ∧ zTp σ τ ∧ zLH σ τ ∧ zPc σ τ ∧ zRt σ τ
def zInv (σ τ : zSt) : Prop := ∃ C M D S, zI C M D S σ τ
theorem zCf_fr {C : qCfg} {M : Nat → Nat} {D : Nat → Int} {S : Nat → Bool} {σ τ σ' τ' : zSt} (h : zCf C M D S σ τ) (a : yFr σ σ') (b : wFr τ τ') : zCf C M D S σ' τ' := ⟨h.1, h.2.1, xCur_y a h.2.2.1, fun k hk => by
  rw [a.1 _ _ (by omega), a.1 _ _ (by omega)]; exact h.2.2.2.1 k hk, mCur_w b h.2.2.2.2⟩
theorem zTp_fr {σ τ σ' τ' : zSt} (h : zTp σ τ) (a1 : gi σ' 2 1 = gi σ 2 1) (a2 : ∀ p, gi σ' 6 p = gi σ 6 p) (b1 : gi τ' 61 2 = gi τ 61 2) (b2 : ∀ p, gi τ' 62 p = gi τ 62 p) : zTp σ' τ' := by
  obtain ⟨n, h1, h2, h3, h4⟩ := h
  exact ⟨n, h1, by rw [a1]; exact h2, by rw [b1]; exact h3, fun p hp => by rw [a2, b2]; exact h4 p hp⟩
theorem zRt_fr {σ τ σ' τ' : zSt} (h : zRt σ τ) (a1 : gi σ' 5 5 = gi σ 5 5) (a2 : ∀ c i, 18 ≤ c → c ≤ 20 → gi σ' c i = gi σ c i) (b1 : gi τ' 61 40 = gi τ 61 40) (b2 : ∀ i, gi τ' 84 i = gi τ 84 i) (b3 : ∀ c i, c = 82 ∨ c = 83 → gl τ' c i = gl τ c i) : zRt σ' τ' := by
  obtain ⟨n, h1, h2, h3, h4⟩ := h
  exact ⟨n, h1, by rw [a1]; exact h2, by rw [b1]; exact h3, fun i hi => by
    rw [a2 18 i (by omega) (by omega), a2 19 i (by omega) (by omega), a2 20 i (by omega) (by omega), b2, b3 82 i (by omega), b3 83 i (by omega)]; exact h4 i hi⟩
theorem zI_m {C : qCfg} {M : Nat → Nat} {D : Nat → Int} {S : Nat → Bool} {σ τ σ' τ' : zSt} (h : zI C M D S σ τ) (a : xFr σ σ') (b : mFr τ τ') : zI C M D S σ' τ' := by
  obtain ⟨h1, h2, h3, h4, h5⟩ := h
  refine ⟨zCf_fr h1 a.y b.w, zTp_fr h2 (a.1 _ _) (fun p => a.1 _ _) (b.1 _ _ (by omega)) (fun p => b.1 _ _ (by omega)), ?_, ?_, zRt_fr h5 (a.1 _ _) (fun c i _ _ => a.1 _ _) (b.1 _ _ (by omega)) (fun i => b.1 _ _ (by omega)) (fun c i hc => b.2 _ _ (by omega))⟩
  · exact ⟨by rw [a.2 _ _ (by omega), b.2 _ _ (by omega)]; exact h3.1, by rw [a.2 _ _ (by omega), b.2 _ _ (by omega)]; exact h3.2⟩
  · exact ⟨by rw [a.1, b.1 _ _ (by omega)]; exact h4.1, by rw [a.1, b.1 _ _ (by omega)]; exact h4.2⟩
/-- low and high are told -/
theorem zI_lh {C : qCfg} {M : Nat → Nat} {D : Nat → Int} {S : Nat → Bool} {σ τ : zSt} (h : zI C M D S σ τ) (x y : Int64) : zI C M D S (sl (sl σ 0 4 x) 0 5 y) (sl (sl τ 61 31 x) 61 32 y) := by
  obtain ⟨h1, h2, h3, h4, h5⟩ := h
  refine ⟨zCf_fr h1 ((yFr.rf.sl (by omega)).sl (by omega)) ((wFr.rf.sl (by omega)).sl (by omega)), zTp_fr h2 rfl (fun _ => rfl) rfl (fun _ => rfl), ⟨?_, ?_⟩, h4, zRt_fr h5 rfl (fun c i _ _ => rfl) rfl (fun _ => rfl) (fun c i hc => by rw [gl_sl, if_neg (by omega), gl_sl, if_neg (by omega)])⟩
  · rw [gl_sl, if_neg (by omega), gl_sl, if_pos (by omega), gl_sl, if_neg (by omega), gl_sl, if_pos (by omega)]
  · rw [gl_sl, if_pos (by omega), gl_sl, if_pos (by omega)]
/-- parts or looks are told -/
theorem zI_pc {C : qCfg} {M : Nat → Nat} {D : Nat → Int} {S : Nat → Bool} {σ τ : zSt} (h : zI C M D S σ τ) (x : Int32) : zI C M D S (si σ 0 6 x) (si τ 61 38 x) := by
  obtain ⟨h1, h2, h3, h4, h5⟩ := h
  refine ⟨zCf_fr h1 (yFr.rf.si (by omega)) (wFr.rf.si (by omega)), zTp_fr h2 (by rw [gi_si, if_neg (by omega)]) (fun _ => by rw [gi_si, if_neg (by omega)]) (by rw [gi_si, if_neg (by omega)]) (fun _ => by rw [gi_si, if_neg (by omega)]), h3, ⟨?_, ?_⟩, zRt_fr h5 (by rw [gi_si, if_neg (by omega)]) (fun c i _ _ => by rw [gi_si, if_neg (by omega)]) (by rw [gi_si, if_neg (by omega)]) (fun _ => by rw [gi_si, if_neg (by omega)]) (fun c i hc => rfl)⟩
  · rw [gi_si, if_pos (by omega), gi_si, if_pos (by omega)]
  · rw [gi_si, if_neg (by omega), gi_si, if_neg (by omega)]; exact h4.2
theorem zI_n {C : qCfg} {M : Nat → Nat} {D : Nat → Int} {S : Nat → Bool} {σ τ : zSt} (h : zI C M D S σ τ) : gi σ 3 8 = Int32.ofNat C.N ∧ gi τ 61 3 = Int32.ofNat C.N ∧ C.N ≤ 8 := ⟨iN_of h.1.2.2.1.1, iN_of h.1.2.2.2.2.1, h.1.1.1.1⟩
theorem x_has {σ : zSt} {n : Nat} (hn : n ≤ 8) (h : gi σ 3 8 = Int32.ofNat n) (c : Int32) : (fX1_has c σ = 0 ∧ ¬ (0 ≤ c.toInt ∧ c.toInt < n)) ∨ (fX1_has c σ = 1 ∧ ∃ k : Nat, c = Int32.ofNat k ∧ k < n) := by
  show (fX1_has_0 c σ = 0 ∧ _) ∨ (fX1_has_0 c σ = 1 ∧ _)
  unfold fX1_has_0
  have en := iNt (n := n) (by omega)
  by_cases a : c < 0
  · rw [if_pos a]
    rw [qI_neg0] at a
    exact Or.inl ⟨rfl, by omega⟩
  rw [if_neg a]
  rw [qI_neg0] at a
  by_cases b : gi σ 3 8 ≤ c
  · rw [if_pos b]
    rw [h, qI_le, en] at b
    exact Or.inl ⟨rfl, by omega⟩
  · rw [if_neg b]
    rw [h, qI_le, en] at b
    exact Or.inr ⟨rfl, c.toInt.toNat, iN_of (by omega), by omega⟩
theorem m_has {σ : zSt} {n : Nat} (hn : n ≤ 8) (h : gi σ 61 3 = Int32.ofNat n) (c : Int32) : (fX9_has c σ = 0 ∧ ¬ (0 ≤ c.toInt ∧ c.toInt < n)) ∨ (fX9_has c σ = 1 ∧ ∃ k : Nat, c = Int32.ofNat k ∧ k < n) := by
  show (fX9_has_0 c σ = 0 ∧ _) ∨ (fX9_has_0 c σ = 1 ∧ _)
  unfold fX9_has_0
  have en := iNt (n := n) (by omega)
  by_cases a : c < 0
  · rw [if_pos a]
    rw [qI_neg0] at a
    exact Or.inl ⟨rfl, by omega⟩
  rw [if_neg a]
  rw [qI_neg0] at a
  by_cases b : gi σ 61 3 ≤ c
  · rw [if_pos b]
    rw [h, qI_le, en] at b
    exact Or.inl ⟨rfl, by omega⟩
  · rw [if_neg b]
    rw [h, qI_le, en] at b
    exact Or.inr ⟨rfl, c.toInt.toNat, iN_of (by omega), by omega⟩
theorem z_has {C : qCfg} {M : Nat → Nat} {D : Nat → Int} {S : Nat → Bool} {σ τ : zSt} (h : zI C M D S σ τ) (c : Int32) : (fX1_has c σ = 0 ∧ fX9_has c τ = 0) ∨ (fX1_has c σ = 1 ∧ fX9_has c τ = 1 ∧ ∃ k : Nat, c = Int32.ofNat k ∧ k < C.N) := by
  obtain ⟨n1, n2, n3⟩ := zI_n h
  rcases x_has n3 n1 c with ⟨a, b⟩ | ⟨a, k, b, e⟩
  · rcases m_has n3 n2 c with ⟨a', b'⟩ | ⟨a', k', b', e'⟩
    · exact Or.inl ⟨a, a'⟩
    · exact absurd (by rw [b', iNt (by omega)]; omega) b
  · rcases m_has n3 n2 c with ⟨a', b'⟩ | ⟨a', k', b', e'⟩
    · exact absurd (by rw [b, iNt (by omega)]; omega) b'
    · exact Or.inr ⟨a, a', k, b, e⟩
theorem xAct_si {σ : zSt} {c i : Nat} {v : Int32} (hc : c < 21) {k j : Nat} {a : qAct} (ha : xAct σ k j a) : xAct (si σ c i v) k j a := by
  have e0 : gi (si σ c i v) (21 + 4 * k + 1) j = gi σ (21 + 4 * k + 1) j := by rw [gi_si, if_neg (by omega)]
  have e1 : gi (si σ c i v) (21 + 4 * k + 3) j = gi σ (21 + 4 * k + 3) j := by rw [gi_si, if_neg (by omega)]
  have e2 : gl (si σ c i v) (21 + 4 * k + 2) j = gl σ (21 + 4 * k + 2) j := rfl
  rcases a with ⟨_ | _ | _ | _ | _ | _ | _ | _ | _ | _ | _ | _ | _ | _ | _ | _ | t, f, g, s⟩ <;> simp only [xAct, e0, e1, e2] at ha ⊢ <;> exact ha
theorem mAct_si {σ : zSt} {c i : Nat} {v : Int32} (hc : c < 64 ∨ 66 < c) {n : Nat} {a : qAct} (ha : mAct σ n a) : mAct (si σ c i v) n a := by
  have e1 : gi (si σ c i v) 64 n = gi σ 64 n := by rw [gi_si, if_neg (by omega)]
  have e2 : gi (si σ c i v) 65 n = gi σ 65 n := by rw [gi_si, if_neg (by omega)]
  have e3 : gi (si σ c i v) 66 n = gi σ 66 n := by rw [gi_si, if_neg (by omega)]
  have e4 : gl (si σ c i v) 67 n = gl σ 67 n := rfl
  have e5 : gl (si σ c i v) 68 n = gl σ 68 n := rfl
  rcases a with ⟨_ | _ | _ | _ | _ | _ | _ | _ | _ | _ | _ | _ | _ | _ | _ | _ | t, f, g, s⟩ <;> simp only [mAct, e1, e2, e3, e4, e5] at ha ⊢ <;> exact ha
theorem iNe1 : ¬ (1 : Int32) = 0 := by decide
/-! low, high, count, drop, end, part -/
theorem hs13 (σ τ : zSt) (h : zInv σ τ) : ∃ r : Int64, fX8_low σ = r ∧ fX9_low τ = r := by
  obtain ⟨C, M, D, S, -, -, h3, -, -⟩ := h
  exact ⟨gl σ 0 4, rfl, h3.1.symm⟩
theorem hs14 (σ τ : zSt) (h : zInv σ τ) : ∃ r : Int64, fX8_high σ = r ∧ fX9_high τ = r := by
  obtain ⟨C, M, D, S, -, -, h3, -, -⟩ := h
  exact ⟨gl σ 0 5, rfl, h3.2.symm⟩
theorem hs15 (σ τ : zSt) (a : Int32) (h : zInv σ τ) : ∃ r : Int32, fX8_count a σ = r ∧ fX9_count a τ = r := by
  obtain ⟨C, M, D, S, h⟩ := h
  obtain ⟨n1, n2, n3⟩ := zI_n h
  obtain ⟨-, ⟨n, t1, t2, t3, -⟩, -, h4, ⟨m, r1, r2, r3, -⟩⟩ := h
  refine ⟨_, rfl, ?_⟩
  show fX9_count_0 a τ = fX8_count_0 a σ
  unfold fX9_count_0 fX8_count_0
  rw [n1, n2, t2, t3, h4.1, h4.2, r2, r3]
theorem hs3 (σ τ : zSt) (h : zInv σ τ) : ∃ (r : Int32) (σ' τ' : zSt), fX8_drop σ = some (r, σ') ∧ fX9_drop τ = some (r, τ') ∧ zInv σ' τ' := by
  obtain ⟨C, M, D, S, h⟩ := h
  obtain ⟨n1, n2, n3⟩ := zI_n h
  show ∃ r σ' τ', fX8_drop_0 σ = _ ∧ fX9_drop_0 τ = _ ∧ _
  unfold fX8_drop_0 fX9_drop_0
  have en := iNt (n := C.N) (by omega)
  by_cases z : C.N = 0
  · rw [n1, n2, if_neg (by rw [qI_le, q1I, en]; omega), if_pos (by rw [z]; rfl)]
    exact ⟨_, _, _, rfl, rfl, C, M, D, S, h⟩
  · have e1 : Int32.ofNat C.N - 1 = Int32.ofNat (C.N - 1) := by
      rw [qI_eq, qI_sub (by rw [en, q1I]; omega) (by rw [en, q1I]; omega), en, q1I, iNt (by omega)]; omega
    rw [n1, n2, if_pos (by rw [qI_le, q1I, en]; omega), if_neg (by rw [qI_eq, en, q0I]; omega), e1]
    refine ⟨_, _, _, rfl, rfl, (C.A, C.len, C.N - 1), M, D, S, ?_⟩
    obtain ⟨⟨⟨w1, w2⟩, ⟨d1, s1⟩, x1, b1, m1⟩, h2, h3, h4, h5⟩ := h
    refine ⟨⟨⟨⟨by show C.N - 1 ≤ 8; omega, fun k hk => w1.2 k (by have : k < C.N - 1 := hk; omega)⟩, fun k hk => w2 k (by have : k < C.N - 1 := hk; omega)⟩, ⟨fun k j hk => d1 k j (by have : k < C.N - 1 := hk; omega), fun k hk => s1 k (by have : k < C.N - 1 := hk; omega)⟩, ⟨by rw [gi_si, if_pos (by omega), iNt (by omega)]; rfl, fun k hk => ?_⟩, fun k hk => ?_, ⟨by rw [gi_si, if_pos (by omega), iNt (by omega)]; rfl, fun k hk => ?_⟩⟩, zTp_fr h2 (by rw [gi_si, if_neg (by omega)]) (fun _ => by rw [gi_si, if_neg (by omega)]) (by rw [gi_si, if_neg (by omega)]) (fun _ => by rw [gi_si, if_neg (by omega)]), h3, ⟨by rw [gi_si, if_neg (by omega), gi_si, if_neg (by omega)]; exact h4.1, by rw [gi_si, if_neg (by omega), gi_si, if_neg (by omega)]; exact h4.2⟩, zRt_fr h5 (by rw [gi_si, if_neg (by omega)]) (fun c i _ _ => by rw [gi_si, if_neg (by omega)]) (by rw [gi_si, if_neg (by omega)]) (fun _ => by rw [gi_si, if_neg (by omega)]) (fun c i hc => rfl)⟩
    · have hk' : k < C.N := by have : k < C.N - 1 := hk; omega
      obtain ⟨q1, q2, q3⟩ := x1.2 k hk'
      exact ⟨by rw [gi_si, if_neg (by omega)]; exact q1, by rw [gi_si, if_neg (by omega)]; exact q2, fun j hj => xAct_si (by omega) (q3 j hj)⟩
    · have hk' : k < C.N := by have : k < C.N - 1 := hk; omega
      exact ⟨by rw [gi_si, if_neg (show ¬ (21 + 4 * k = 3 ∧ 4 = 8) by omega)]; exact (b1 k hk').1, by rw [gi_si, if_neg (show ¬ (21 + 4 * k = 3 ∧ 5 = 8) by omega)]; exact (b1 k hk').2⟩
    · have hk' : k < C.N := by have : k < C.N - 1 := hk; omega
      obtain ⟨q1, q2⟩ := m1.2 k hk'
      exact ⟨by rw [gi_si, if_neg (by omega)]; exact q1, fun j hj => mAct_si (by omega) (q2 j hj)⟩
theorem hs1 (σ τ : zSt) (a : Int32) (h : zInv σ τ) : ∃ (r : Int32) (σ' τ' : zSt), fX8_end a σ = some (r, σ') ∧ fX9_end a τ = some (r, τ') ∧ zInv σ' τ' := by
  obtain ⟨C, M, D, S, h1, ⟨n, t1, t2, t3, t4⟩, h3, h4, h5⟩ := h
  show ∃ r σ' τ', fX8_end_0 a σ = _ ∧ fX9_end_0 a τ = _ ∧ _
  unfold fX8_end_0 fX9_end_0
  have en := iNt (n := n) (by omega)
  rw [t2, t3]
  by_cases x : a < 0
  · rw [if_pos x, if_pos x]
    exact ⟨_, _, _, rfl, rfl, C, M, D, S, h1, ⟨n, t1, t2, t3, t4⟩, h3, h4, h5⟩
  rw [if_neg x, if_neg x]
  by_cases y : a ≤ Int32.ofNat n
  · rw [if_pos y, if_pos y]
    rw [qI_neg0] at x
    rw [qI_le, en] at y
    refine ⟨_, _, _, rfl, rfl, C, M, D, S, zCf_fr h1 (yFr.rf.si (by omega)) (wFr.rf.si (by omega)), ⟨a.toInt.toNat, by omega, by rw [gi_si, if_pos (by omega)]; exact iN_of (by omega), by rw [gi_si, if_pos (by omega)]; exact iN_of (by omega), fun p hp => ?_⟩, h3, ⟨by rw [gi_si, if_neg (by omega), gi_si, if_neg (by omega)]; exact h4.1, by rw [gi_si, if_neg (by omega), gi_si, if_neg (by omega)]; exact h4.2⟩, zRt_fr h5 (by rw [gi_si, if_neg (by omega)]) (fun c i _ _ => by rw [gi_si, if_neg (by omega)]) (by rw [gi_si, if_neg (by omega)]) (fun _ => by rw [gi_si, if_neg (by omega)]) (fun c i hc => rfl)⟩
    rw [gi_si, if_neg (by omega), gi_si, if_neg (by omega)]
    exact t4 p (by omega)
  · rw [if_neg y, if_neg y]
    exact ⟨_, _, _, rfl, rfl, C, M, D, S, h1, ⟨n, t1, t2, t3, t4⟩, h3, h4, h5⟩
