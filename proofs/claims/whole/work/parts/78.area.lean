/-! areas: sums over rows -/
def sumT (f : Nat → Int) : Nat → Int
  | 0 => 0
  | n + 1 => sumT f n + f n
theorem sumT_cg {f g : Nat → Int} : ∀ n, (∀ i, i < n → f i = g i) → sumT f n = sumT g n := by
  intro n
  induction n with
  | zero => intro _; rfl
  | succ n ih =>
    intro h
    show sumT f n + f n = sumT g n + g n
    rw [ih (fun i hi => h i (by omega)), h n (by omega)]
theorem sumT_ins {f g : Nat → Int} {w : Nat} (h1 : ∀ i, i < w → g i = f i) : ∀ n, w < n → (∀ i, w + 1 < i → i ≤ n → g i = f (i - 1)) → sumT g (n + 1) = sumT f n - f w + g w + g (w + 1) := by
  intro n
  induction n with
  | zero => intro h; omega
  | succ n ih =>
    intro hw h2
    by_cases e : w = n
    · subst e
      show sumT g w + g w + g (w + 1) = sumT f w + f w - f w + g w + g (w + 1)
      rw [sumT_cg w h1]; omega
    · have := ih (by omega) (fun i a b => h2 i a (by omega))
      show sumT g (n + 1) + g (n + 1) = sumT f n + f n - f w + g w + g (w + 1)
      rw [this, h2 (n + 1) (by omega) (by omega), show n + 1 - 1 = n by omega]; omega
theorem sumT_bd {f : Nat → Int} : ∀ n, (∀ i, i < n → -8796093022208 ≤ f i ∧ f i ≤ 8796093022208) → -8796093022208 * n ≤ sumT f n ∧ sumT f n ≤ 8796093022208 * n := by
  intro n
  induction n with
  | zero => intro _; exact ⟨by show _ ≤ (0 : Int); omega, by show (0 : Int) ≤ _; omega⟩
  | succ n ih =>
    intro h
    have a := ih (fun i hi => h i (by omega))
    have b := h n (by omega)
    show _ ≤ sumT f n + f n ∧ sumT f n + f n ≤ _
    omega
def s80 (τ : zSt) (i : Nat) : Int := (gl τ 80 i).toInt
def s81 (τ : zSt) (i : Nat) : Int := (gl τ 81 i).toInt
def mBd (n : Nat) (τ : zSt) : Prop := ∀ j, j < n → (-8796093022208 ≤ (gl τ 80 j).toInt ∧ (gl τ 80 j).toInt ≤ 8796093022208) ∧ -8796093022208 ≤ (gl τ 81 j).toInt ∧ (gl τ 81 j).toInt ≤ 8796093022208
theorem m_sumL {K104 : Int32 → Int32 → Int64 → Int64 → Int64 → Int32 → zSt → Option (Int32 × zSt)} {v1 v4 v13 : Int32} {v5 v9 v11 : Int64} {n : Nat} (hn : n ≤ 201) {τ : zSt} (h33 : gi τ 61 33 = Int32.ofNat n) (hB : mBd n τ) : ∀ d v F (a b : Int64), v + d = n → d < F → a.toInt = sumT (s80 τ) v → b.toInt = sumT (s81 τ) v → ∃ x y : Int64, x.toInt = sumT (s80 τ) n ∧ y.toInt = sumT (s81 τ) n ∧ fX9_area_L250 K104 F v1 v4 v5 v9 v11 v13 a b (Int32.ofNat v) τ = K104 v1 v4 v5 (fX9_more v9 x) (fX9_less v11 y) (v13 + 1) τ := by
  intro d
  induction d with
  | zero =>
    intro v F a b hv hF ha hb
    obtain ⟨F, rfl⟩ : ∃ F', F = F' + 1 := ⟨F - 1, by omega⟩
    have e : v = n := by omega
    subst e
    refine ⟨a, b, ha, hb, ?_⟩
    rw [fX9_area_L250]
    unfold fX9_area_250
    rw [h33, if_pos (qI_le.mpr (Int.le_refl _)), nm_eq, nm_eq, nm_eq]
  | succ d ih =>
    intro v F a b hv hF ha hb
    obtain ⟨F, rfl⟩ : ∃ F', F = F' + 1 := ⟨F - 1, by omega⟩
    rw [fX9_area_L250]
    unfold fX9_area_250
    have en := iNt (n := n) (by omega)
    have ev := iNt (n := v) (by omega)
    have vv := vin (N := 260) ev (by omega)
    obtain ⟨⟨a1, a2⟩, a3, a4⟩ := hB v (by omega)
    have q1 := sumT_bd (f := s80 τ) v (fun i hi => (hB i (by omega)).1)
    have q2 := sumT_bd (f := s81 τ) v (fun i hi => (hB i (by omega)).2)
    rw [h33, if_neg (show ¬ Int32.ofNat n ≤ Int32.ofNat v by rw [qI_le, en, ev]; omega), zg_pos vv, nm_eq, zg_pos vv, nm_eq, nm_eq, iN_cl (by omega), iN_s (by omega)]
    refine ih (v + 1) F _ _ (by omega) (by omega) ?_ ?_
    · rw [qL_add (by omega) (by omega), ha]; rfl
    · rw [qL_add (by omega) (by omega), hb]; rfl
/-- all but what halving writes is the same -/
def rFr (σ τ : zSt) : Prop := (∀ c i, ¬ (c = 4 ∨ c = 13 ∨ c = 14) → gi τ c i = gi σ c i) ∧ ∀ c i, ¬ (c = 3 ∨ c = 4 ∨ (9 ≤ c ∧ c ≤ 12) ∨ c = 15 ∨ c = 16) → gl τ c i = gl σ c i
def tFr (σ τ : zSt) : Prop := (∀ c i, ¬ ((c = 61 ∧ (i = 21 ∨ i = 22 ∨ i = 33)) ∨ c = 76 ∨ c = 77) → gi τ c i = gi σ c i) ∧ ∀ c i, ¬ ((c = 61 ∧ (i = 19 ∨ i = 20 ∨ i = 29 ∨ i = 30)) ∨ (72 ≤ c ∧ c ≤ 75) ∨ (78 ≤ c ∧ c ≤ 81)) → gl τ c i = gl σ c i
theorem rFr.rf {σ : zSt} : rFr σ σ := ⟨fun _ _ _ => rfl, fun _ _ _ => rfl⟩
theorem tFr.rf {σ : zSt} : tFr σ σ := ⟨fun _ _ _ => rfl, fun _ _ _ => rfl⟩
theorem rFr.tr {a b c : zSt} (h : rFr a b) (g : rFr b c) : rFr a c := ⟨fun q k hk => (g.1 q k hk).trans (h.1 q k hk), fun q k hk => (g.2 q k hk).trans (h.2 q k hk)⟩
theorem tFr.tr {a b c : zSt} (h : tFr a b) (g : tFr b c) : tFr a c := ⟨fun q k hk => (g.1 q k hk).trans (h.1 q k hk), fun q k hk => (g.2 q k hk).trans (h.2 q k hk)⟩
theorem rFr.si {σ τ : zSt} (h : rFr σ τ) {c k : Nat} {v : Int32} (hc : c = 4 ∨ c = 13 ∨ c = 14) : rFr σ (si τ c k v) := ⟨fun q i hq => by
  rw [gi_si, if_neg (fun e => hq (by rw [e.1]; exact hc))]; exact h.1 q i hq, fun q i hq => by rw [gl_si]; exact h.2 q i hq⟩
theorem rFr.sl {σ τ : zSt} (h : rFr σ τ) {c k : Nat} {v : Int64} (hc : c = 3 ∨ c = 4 ∨ (9 ≤ c ∧ c ≤ 12) ∨ c = 15 ∨ c = 16) : rFr σ (sl τ c k v) := ⟨fun q i hq => by rw [gi_sl]; exact h.1 q i hq, fun q i hq => by
  rw [gl_sl, if_neg (fun e => hq (by rw [e.1]; exact hc))]; exact h.2 q i hq⟩
theorem tFr.si {σ τ : zSt} (h : tFr σ τ) {c k : Nat} {v : Int32} (hc : (c = 61 ∧ (k = 21 ∨ k = 22 ∨ k = 33)) ∨ c = 76 ∨ c = 77) : tFr σ (si τ c k v) := ⟨fun q i hq => by
  rw [gi_si, if_neg (fun e => hq (by rw [e.1, e.2]; exact hc))]; exact h.1 q i hq, fun q i hq => by rw [gl_si]; exact h.2 q i hq⟩
theorem tFr.sl {σ τ : zSt} (h : tFr σ τ) {c k : Nat} {v : Int64} (hc : (c = 61 ∧ (k = 19 ∨ k = 20 ∨ k = 29 ∨ k = 30)) ∨ (72 ≤ c ∧ c ≤ 75) ∨ (78 ≤ c ∧ c ≤ 81)) : tFr σ (sl τ c k v) := ⟨fun q i hq => by rw [gi_sl]; exact h.1 q i hq, fun q i hq => by
  rw [gl_sl, if_neg (fun e => hq (by rw [e.1, e.2]; exact hc))]; exact h.2 q i hq⟩
theorem xFr.r {σ τ : zSt} (h : xFr σ τ) : rFr σ τ := ⟨fun c i _ => h.1 c i, fun c i q => h.2 c i (by omega)⟩
theorem sFr.t {j : Nat} {σ τ : zSt} (h : sFr j σ τ) : tFr σ τ := ⟨fun c i q => h.1 c i (by omega), fun c i q => h.2 c i (by omega)⟩
theorem mFr.t {σ τ : zSt} (h : mFr σ τ) : tFr σ τ := ⟨fun c i q => h.1 c i (by omega), fun c i q => h.2 c i (by omega)⟩
theorem rFr.p {σ τ : zSt} (h : rFr σ τ) : pFr σ τ := ⟨fun c i q => h.1 c i (by omega), fun c i q => h.2 c i (by omega)⟩
theorem tFr.q {σ τ : zSt} (h : tFr σ τ) : qFr σ τ := ⟨fun c i q => h.1 c i (by omega), fun c i q => h.2 c i (by omega)⟩
/-- how area, least and greatest end -/
def aEnd (σ0 τ0 : zSt) (x y : Option (Int32 × zSt)) : Prop := ∃ σ' τ', rFr σ0 σ' ∧ tFr τ0 τ' ∧ ((x = some (0, σ') ∧ y = some (1, τ')) ∨ (x = some (1, σ') ∧ y = some (0, sl (sl (si τ' 61 38 (gi σ' 4 4)) 61 31 (gl σ' 4 5)) 61 32 (gl σ' 4 6))))
theorem nar1 : narrow .boolean (.int 1) = .int 1 := rfl
theorem nar0 : narrow .boolean (.int 0) = .int 0 := rfl
theorem x_dead {F : Nat} {v2 v5 v13 : Int32} {v6 v9 v11 : Int64} {σ : zSt} : fX2_sumUp_L48 (F + 1) v2 v5 v6 0 v9 v11 v13 σ = some (0, σ) := by
  rw [fX2_sumUp_L48]
  unfold fX2_sumUp_48
  by_cases c : v5 ≤ v13
  · rw [if_pos c, zg_pos nar0]
  · rw [if_neg c, if_pos (show (0 : Int32) = 0 from rfl), zg_pos nar0]
theorem x_181 {F : Nat} {v2 v5 v13 : Int32} {v6 v9 v11 : Int64} {σ : zSt} {b n : Nat} (hb : b < 201) (hn : n ≤ 200) (h44 : gi σ 4 4 = Int32.ofNat n) (t0 : Int32) : ∃ x y z u : Int64, x = v9 + (gl σ 15 b + gl σ 15 n) ∧ y = v11 + (gl σ 16 b + gl σ 16 n) ∧ z = (if x < gl σ 4 5 then gl σ 4 5 else x) ∧ u = (if y < gl σ 4 6 then y else gl σ 4 6) ∧ fX2_sumUp_181 (fX2_sumUp_L48 F) v2 v5 v6 v9 v11 v13 (Int32.ofNat b) t0 σ = fX2_sumUp_L48 F v2 v5 v6 t0 x y (v13 + 1) (sl (sl (si σ 4 4 (Int32.ofNat (n + 1))) 4 5 z) 4 6 u) := by
  refine ⟨_, _, _, _, rfl, rfl, rfl, rfl, ?_⟩
  have vb := vin (N := 201) (iNt (n := b) (by omega)) hb
  have vn := vin (N := 201) (iNt (n := n) (by omega)) (by omega)
  unfold fX2_sumUp_181
  rw [h44, zg_pos vb, zg_pos vn, nm_eq, zg_pos vb, zg_pos vn, nm_eq, nm_eq, nm_eq, nm_eq, iN_cl (by omega), iN_cl (by omega), iN_s (by omega)]
theorem pSum_bd {C : qCfg} (hw : qWF C) {k : Nat} (hk : k < C.N) {a b : Int} (h1 : -2147483648 ≤ a) (h2 : a ≤ b) (h3 : b ≤ 2147483647) (h4 : b - a ≤ 1073741824) {l h : Int} (e : pSum C k a b = some (l, h)) : (-8796093022208 ≤ l ∧ l ≤ 8796093022208) ∧ -8796093022208 ≤ h ∧ h ≤ 8796093022208 := by
  have ok1 := qV_ok hw hk h1 h2 h3
  have ok2 := qSl_ok hw hk h1 h2 h3
  have bw : 0 ≤ b - a ∧ b - a ≤ 1073741824 := by omega
  have plain : ∀ z : Int × Int, qOk (some z) → (-4398046511104 ≤ z.1 * (b - a) / 1048576 ∧ z.1 * (b - a) / 1048576 ≤ 4398046511104) ∧ -4398046511104 ≤ up (z.2 * (b - a)) 1048576 ∧ up (z.2 * (b - a)) 1048576 ≤ 4398046511104 := by
    intro z hz
    have rz := hz.rng
    have p1 := w_prod (x := z.1) (w := b - a) (by omega) bw
    have p2 := w_prod (x := z.2) (w := b - a) (by omega) bw
    have u := up_b (x := z.2 * (b - a)) (y := 1048576) (by omega)
    omega
  unfold pSum at e
  generalize qV C k a b = s at ok1 e
  cases s with
  | none => cases e
  | some q =>
    have pq := plain q ok1
    generalize qSl C k a b = t at ok2 e
    cases t with
    | none =>
      have e' := Prod.mk.inj (Option.some.inj e)
      obtain ⟨e1, e2⟩ := e'
      omega
    | some r =>
      have rr := ok2.rng
      replace e : some (pS2 C k a b q r) = some (l, h) := e
      unfold pS2 at e
      by_cases big : 2147483647 < up ((r.2 - r.1) * (b - a)) 1048576
      · rw [if_pos big] at e
        obtain ⟨e1, e2⟩ := Prod.mk.inj (Option.some.inj e)
        omega
      · rw [if_neg big] at e
        have ok3 := qV_ok hw hk (a := (a + b) / 2) (b := -((-(a + b)) / 2)) (by omega) (by omega) (by omega)
        generalize qV C k ((a + b) / 2) (-((-(a + b)) / 2)) = u at ok3 e
        cases u with
        | none =>
          obtain ⟨e1, e2⟩ := Prod.mk.inj (Option.some.inj e)
          omega
        | some z =>
          have pz := plain z ok3
          obtain ⟨e1, e2⟩ := Prod.mk.inj (Option.some.inj e)
          have e0 : 0 ≤ up ((r.2 - r.1) * (b - a)) 1048576 := up0 (by omega) (Int.mul_nonneg (by omega) (by omega))
          have pe := w_prod (x := up ((r.2 - r.1) * (b - a)) 1048576) (w := b - a) (by omega) bw
          have n4 : 0 ≤ up ((r.2 - r.1) * (b - a)) 1048576 * (b - a) := Int.mul_nonneg e0 bw.1
          have n5 := up_b (x := up ((r.2 - r.1) * (b - a)) 1048576 * (b - a)) (y := 8388608) (by omega)
          have n6 := up0 (x := up ((r.2 - r.1) * (b - a)) 1048576 * (b - a)) (y := 8388608) (by omega) n4
          omega
