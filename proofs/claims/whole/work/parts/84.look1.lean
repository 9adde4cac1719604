/-! about: the Model looks at ACTS -/
theorem e1000I : (1000 : Int32).toInt = 1000 := by decide
theorem eM1 : (-1 : Int32).toInt = -1 := by decide
theorem m_311 {n : Nat} (hn : n < 480) {K : Int32 → Int32 → zSt → Option zSt} {k j : Nat} (hj : j + 1 < 2147483648) (d : Int32) (τ : zSt) : fX9_looks_311 K (Int32.ofNat k) (Int32.ofNat j) (Int32.ofNat n) d τ = K (Int32.ofNat k) (Int32.ofNat (j + 1)) (si τ 71 n (if d ≤ 1000 then d else 1000)) := by
  have v := vin (N := 480) (iNt (n := n) (by omega)) hn
  unfold fX9_looks_311
  by_cases q : d ≤ 1000
  · rw [if_pos q, if_pos q, zg_pos v, nm_eq, iN_cl (by omega), iN_s hj]
  · rw [if_neg q, if_neg q, zg_pos v, nm_eq, iN_cl (by omega), iN_s hj]
theorem mn {d : Int32} {x : Int} (h : d.toInt = x) : (if d ≤ 1000 then d else 1000).toInt = min 1000 x := by
  by_cases q : d ≤ 1000
  · rw [if_pos q, h]; rw [qI_le, h, e1000I] at q; omega
  · rw [if_neg q, e1000I]; rw [qI_le, h, e1000I] at q; omega
theorem m_look0 {n k j : Nat} (hn : n = 60 * k + j) (hk : k < 8) (hj : j < 60) {τ : zSt} {l : Nat} (hl : gi τ 63 k = Int32.ofNat l) (hjl : j < l) (hl60 : l ≤ 60) {K : Int32 → Int32 → zSt → Option zSt} {op : Int32} (ho : gi τ 64 n = op) : (op ≤ 2 → op < 5 → fX9_looks_9 K (Int32.ofNat k) (Int32.ofNat j) τ = fX9_looks_89 K (Int32.ofNat k) (Int32.ofNat j) (Int32.ofNat n) 0 0 τ) ∧ (∀ f : Nat, f < 480 → gi τ 65 n = Int32.ofNat f → ¬ op ≤ 2 → (op < 5 ∨ 8 < op) → fX9_looks_9 K (Int32.ofNat k) (Int32.ofNat j) τ = fX9_looks_89 K (Int32.ofNat k) (Int32.ofNat j) (Int32.ofNat n) (gi τ 71 f) 0 τ) ∧ ∀ f g : Nat, f < 480 → g < 480 → gi τ 65 n = Int32.ofNat f → gi τ 66 n = Int32.ofNat g → ¬ op ≤ 2 → ¬ op < 5 → ¬ 8 < op → fX9_looks_9 K (Int32.ofNat k) (Int32.ofNat j) τ = fX9_looks_89 K (Int32.ofNat k) (Int32.ofNat j) (Int32.ofNat n) (gi τ 71 f) (gi τ 71 g) τ := by
  have vk := vin (N := 8) (iNt (n := k) (by omega)) hk
  have vn := vin (N := 480) (iNt (n := n) (by omega)) (by omega)
  have ck := iN_cl (n := k) (by omega)
  have cn := iN_cl (n := n) (by omega)
  have e : (60 : Int32) * Int32.ofNat k + Int32.ofNat j = Int32.ofNat n := by rw [i60 (by omega), iN_a (by omega), hn]
  have c1 : ¬ Int32.ofNat l ≤ Int32.ofNat j := by rw [qI_le, iNt (by omega), iNt (by omega)]; omega
  unfold fX9_looks_9
  rw [zg_pos vk, ck, hl, if_neg c1, nm_eq, e, zg_pos vn, cn, ho]
  refine ⟨fun a b => ?_, fun f hf h65 a b => ?_, fun f g hf hg h65 h66 a b c => ?_⟩
  · rw [if_pos a, zg_pos vn, if_pos b]
  · have vf := vin (N := 480) (iNt (n := f) (by omega)) hf
    rw [if_neg a, zg_pos vn, h65, zg_pos vf, nm_eq, zg_pos vn, iN_cl (by omega)]
    by_cases q : op < 5
    · rw [if_pos q]
    · rw [if_neg q, zg_pos vn, if_pos (by rcases b with b | b; exact absurd b q; exact b)]
  · have vf := vin (N := 480) (iNt (n := f) (by omega)) hf
    have vg := vin (N := 480) (iNt (n := g) (by omega)) hg
    have cf := iN_cl (n := f) (by omega)
    have cg := iN_cl (n := g) (by omega)
    rw [if_neg a, zg_pos vn, h65, zg_pos vf, nm_eq, zg_pos vn, cf, if_neg b, zg_pos vn, if_neg c, zg_pos vn, h66, zg_pos vg, cg]
theorem m_look89 {n k : Nat} (hn : n < 480) (hk : k < 8) {τ : zSt} {K : Int32 → Int32 → zSt → Option zSt} {j a b op : Int32} (ho : gi τ 64 n = op) : (14 ≤ op → fX9_looks_89 K (Int32.ofNat k) j (Int32.ofNat n) a b τ = fX9_looks_133 K (Int32.ofNat k) j (Int32.ofNat n) a b (si τ 69 k 0)) ∧ (¬ 14 ≤ op → ¬ op = 2 → fX9_looks_89 K (Int32.ofNat k) j (Int32.ofNat n) a b τ = fX9_looks_133 K (Int32.ofNat k) j (Int32.ofNat n) a b τ) ∧ ∀ i : Nat, i < 8 → gi τ 65 n = Int32.ofNat i → op = 2 → fX9_looks_89 K (Int32.ofNat k) j (Int32.ofNat n) a b τ = if gi τ 69 i = 0 then fX9_looks_133 K (Int32.ofNat k) j (Int32.ofNat n) a b (si τ 69 k 0) else fX9_looks_133 K (Int32.ofNat k) j (Int32.ofNat n) a b τ := by
  have vk := vin (N := 8) (iNt (n := k) (by omega)) hk
  have vn := vin (N := 480) (iNt (n := n) (by omega)) hn
  have ck := iN_cl (n := k) (by omega)
  have cn := iN_cl (n := n) (by omega)
  unfold fX9_looks_89
  rw [zg_pos vn, cn, ho, ck]
  refine ⟨fun q => ?_, fun q r => ?_, fun i hi h65 r => ?_⟩
  · rw [if_pos q, zg_pos vk]
  · rw [if_neg q, zg_pos vn, if_neg r]
  · have vi := vin (N := 8) (iNt (n := i) (by omega)) hi
    rw [if_neg (by rw [r]; decide), zg_pos vn, if_pos r, zg_pos vn, h65, zg_pos vi, zg_pos vk, iN_cl (by omega)]
def okA (S : Nat → Bool) (a : qAct) : Prop := ¬ (10 ≤ a.1 ∧ a.1 ≤ 12) ∧ (a.1 = 2 → S a.2.1 = true)
theorem m_look1 {n k j : Nat} (hn : n = 60 * k + j) (hk : k < 8) (hj : j < 60) {τ : zSt} {l : Nat} (hl : gi τ 63 k = Int32.ofNat l) (hjl : j < l) (hl60 : l ≤ 60) {K : Int32 → Int32 → zSt → Option zSt} {a : qAct} (ha : mAct τ n a) {D : Nat → Int} {S : Nat → Bool} (hD : ∀ m, m ∈ qOps a → m < 480 ∧ (a.1 ≠ 2 → (gi τ 71 m).toInt = D m) ∧ -1 ≤ D m ∧ D m ≤ 1000) (h2 : a.1 = 2 → a.2.1 < k ∧ (gi τ 70 a.2.1).toInt = D a.2.2.1 ∧ gi τ 69 a.2.1 = if S a.2.1 then 1 else 0) (h4 : a.1 = 4 → a.2.1 ≤ 8) : ∃ d τ1, fX9_looks_9 K (Int32.ofNat k) (Int32.ofNat j) τ = K (Int32.ofNat k) (Int32.ofNat (j + 1)) (si τ1 71 n d) ∧ d.toInt = dAct D a ∧ ((τ1 = τ ∧ okA S a) ∨ (τ1 = si τ 69 k 0 ∧ ¬ okA S a)) := by
  have hn4 : n < 480 := by omega
  have vn := vin (N := 480) (iNt (n := n) (by omega)) hn4
  have cn := iN_cl (n := n) (by omega)
  have m1 : (if (-1 : Int32) ≤ 1000 then (-1 : Int32) else 1000) = -1 := by decide
  obtain ⟨t, af, ag, an⟩ := a
  match t, ha, hD, h2, h4 with
  | 0, ha, hD, h2, h4 =>
    rw [(m_look0 hn hk hj hl hjl hl60 (K := K) (show gi τ 64 n = 0 from ha)).1 (by decide) (by decide), (m_look89 hn4 hk (show gi τ 64 n = 0 from ha)).2.1 (by decide) (by decide)]
    unfold fX9_looks_133
    rw [zg_pos vn, cn, nm_eq, (show gi τ 64 n = 0 from ha)]
    refine ⟨_, _, m_311 hn4 (by omega) 1 τ, by show (if (1 : Int32) ≤ 1000 then (1 : Int32) else 1000).toInt = 1; decide, Or.inl ⟨rfl, (fun h => by have := h.1; have : 10 ≤ 0 := this; omega), (fun h => by have : 0 = 2 := h; omega)⟩⟩
  | 1, ha, hD, h2, h4 =>
    rw [(m_look0 hn hk hj hl hjl hl60 (K := K) ha.1).1 (by decide) (by decide), (m_look89 hn4 hk ha.1).2.1 (by decide) (by decide)]
    unfold fX9_looks_133
    rw [zg_pos vn, cn, nm_eq, ha.1]
    refine ⟨_, _, m_311 hn4 (by omega) 0 τ, by show (if (0 : Int32) ≤ 1000 then (0 : Int32) else 1000).toInt = 0; decide, Or.inl ⟨rfl, (fun h => by have := h.1; have : 10 ≤ 1 := this; omega), (fun h => by have : 1 = 2 := h; omega)⟩⟩
  | 2, ha, hD, h2, h4 =>
    obtain ⟨i1, i2, i3⟩ := h2 rfl
    replace i1 : af < k := i1
    replace i2 : (gi τ 70 af).toInt = D ag := i2
    replace i3 : gi τ 69 af = if S af then 1 else 0 := i3
    obtain ⟨d1, -, d2, d3⟩ := hD ag (List.mem_singleton.mpr rfl)
    have vi := vin (N := 8) (iNt (n := af) (by omega)) (show af < 8 by omega)
    rw [(m_look0 hn hk hj hl hjl hl60 (K := K) ha.1).1 (by decide) (by decide), (m_look89 hn4 hk ha.1).2.2 af (by omega) ha.2 rfl, i3]
    have go : ∀ τ1 : zSt, gi τ1 64 n = 2 → gi τ1 65 n = Int32.ofNat af → gi τ1 70 af = gi τ 70 af → ∃ d, fX9_looks_133 K (Int32.ofNat k) (Int32.ofNat j) (Int32.ofNat n) 0 0 τ1 = K (Int32.ofNat k) (Int32.ofNat (j + 1)) (si τ1 71 n d) ∧ d.toInt = D ag := by
      intro τ1 g1 g2 g3
      unfold fX9_looks_133
      rw [zg_pos vn, cn, nm_eq, g1, g2]
      refine ⟨(if gi τ 70 af ≤ 1000 then gi τ 70 af else 1000), ?_, by rw [mn i2]; omega⟩
      show (zg (vp_in (Int32.ofNat n) 480) <| zg (vp_in (Int32.ofNat af) 8) <| nm (gi τ1 70 (Int32.ofNat af).toNatClampNeg) fun x => fX9_looks_311 K (Int32.ofNat k) (Int32.ofNat j) (Int32.ofNat n) x τ1) = _
      rw [zg_pos vn, zg_pos vi, nm_eq, iN_cl (by omega), g3, m_311 hn4 (by omega)]
    cases hS : S af with
    | true =>
      rw [if_pos rfl, if_neg iNe1]
      obtain ⟨d, e1, e2⟩ := go τ ha.1 ha.2 rfl
      exact ⟨d, τ, e1, e2, Or.inl ⟨rfl, fun h => by have := h.1; have : 10 ≤ 2 := this; omega, fun _ => hS⟩⟩
    | false =>
      rw [if_neg (show ¬ false = true by decide), if_pos (show (0 : Int32) = 0 from rfl)]
      obtain ⟨d, e1, e2⟩ := go (si τ 69 k 0) (by rw [gi_si, if_neg (by omega)]; exact ha.1) (by rw [gi_si, if_neg (by omega)]; exact ha.2) (by rw [gi_si, if_neg (by omega)])
      exact ⟨d, _, e1, e2, Or.inr ⟨rfl, fun h => by have h' := h.2 rfl; have : S af = true := h'; rw [hS] at this; cases this⟩⟩
  | 3, ha, hD, h2, h4 =>
    obtain ⟨g1, g2, g3, g4⟩ := hD ag (List.mem_singleton.mpr rfl)
    have g5 := g2 (by show 3 ≠ 2; omega)
    rw [(m_look0 hn hk hj hl hjl hl60 (K := K) ha.1).2.1 ag g1 ha.2 (by decide) (by decide), (m_look89 hn4 hk ha.1).2.1 (by decide) (by decide)]
    unfold fX9_looks_133
    rw [zg_pos vn, cn, nm_eq, ha.1]
    refine ⟨_, _, m_311 hn4 (by omega) _ τ, ?_, Or.inl ⟨rfl, (fun h => by have := h.1; have : 10 ≤ 3 := this; omega), (fun h => by have : 3 = 2 := h; omega)⟩⟩
    show _ = D ag
    rw [mn g5]; omega
  | 4, ha, hD, h2, h4 =>
    obtain ⟨g1, g2, g3, g4⟩ := hD ag (List.mem_singleton.mpr rfl)
    have g5 := g2 (by show 4 ≠ 2; omega)
    rw [(m_look0 hn hk hj hl hjl hl60 (K := K) ha.1).2.1 ag g1 ha.2.1 (by decide) (by decide), (m_look89 hn4 hk ha.1).2.1 (by decide) (by decide)]
    unfold fX9_looks_133
    rw [zg_pos vn, cn, nm_eq, ha.1]
    have h8 : af ≤ 8 := h4 rfl
    have e66 : (gi τ 66 n).toInt = af + 1 := by rw [ha.2.2, iNt (by omega)]; omega
    show ∃ (d : Int32) (τ1 : zSt), (if gi τ 71 ag = -1 then fX9_looks_311 K (Int32.ofNat k) (Int32.ofNat j) (Int32.ofNat n) (-1) τ else zg (vp_in (Int32.ofNat n) 480) <| nm (gi τ 71 ag * gi τ 66 n) fun x => fX9_looks_311 K (Int32.ofNat k) (Int32.ofNat j) (Int32.ofNat n) x τ) = _ ∧ d.toInt = (if D ag = -1 then -1 else min 1000 (D ag * (af + 1))) ∧ _
    by_cases q : D ag = -1
    · rw [if_pos q, if_pos (show gi τ 71 ag = -1 by rw [qI_eq, g5, eM1]; exact q)]
      exact ⟨_, _, m_311 hn4 (by omega) _ τ, by rw [m1]; exact eM1, Or.inl ⟨rfl, (fun h => by have := h.1; have : 10 ≤ 4 := this; omega), (fun h => by have : 4 = 2 := h; omega)⟩⟩
    · rw [if_neg q, if_neg (show ¬ gi τ 71 ag = -1 by rw [qI_eq, g5, eM1]; exact q), zg_pos vn, nm_eq]
      have p1 : D ag * (af + 1) ≤ 1000 * (af + 1) := Int.mul_le_mul_of_nonneg_right g4 (by omega)
      have p2 : 0 ≤ D ag * (af + 1) := Int.mul_nonneg (by omega) (by omega)
      have em : (gi τ 71 ag * gi τ 66 n).toInt = D ag * (af + 1) := by rw [Int32.toInt_mul, g5, e66, Int.bmod_eq_of_le (by omega) (by omega)]
      exact ⟨_, _, m_311 hn4 (by omega) _ τ, mn em, Or.inl ⟨rfl, (fun h => by have := h.1; have : 10 ≤ 4 := this; omega), (fun h => by have : 4 = 2 := h; omega)⟩⟩
  | 5, ha, hD, h2, h4 =>
    obtain ⟨g1, g2, g3, g4⟩ := hD ag (List.mem_singleton.mpr rfl)
    have g5 := g2 (by show 5 ≠ 2; omega)
    rw [(m_look0 hn hk hj hl hjl hl60 (K := K) ha.1).2.1 ag g1 ha.2 (by decide) (by decide), (m_look89 hn4 hk ha.1).2.1 (by decide) (by decide)]
    unfold fX9_looks_133
    rw [zg_pos vn, cn, nm_eq, ha.1]
    refine ⟨_, _, m_311 hn4 (by omega) (-1) τ, by rw [m1]; exact eM1, Or.inl ⟨rfl, (fun h => by have := h.1; have : 10 ≤ 5 := this; omega), (fun h => by have : 5 = 2 := h; omega)⟩⟩
  | 6, ha, hD, h2, h4 =>
    obtain ⟨g1, g2, g3, g4⟩ := hD ag (List.mem_singleton.mpr rfl)
    have g5 := g2 (by show 6 ≠ 2; omega)
    rw [(m_look0 hn hk hj hl hjl hl60 (K := K) ha.1).2.1 ag g1 ha.2 (by decide) (by decide), (m_look89 hn4 hk ha.1).2.1 (by decide) (by decide)]
    unfold fX9_looks_133
    rw [zg_pos vn, cn, nm_eq, ha.1]
    refine ⟨_, _, m_311 hn4 (by omega) (-1) τ, by rw [m1]; exact eM1, Or.inl ⟨rfl, (fun h => by have := h.1; have : 10 ≤ 6 := this; omega), (fun h => by have : 6 = 2 := h; omega)⟩⟩
  | 7, ha, hD, h2, h4 =>
    obtain ⟨g1, g2, g3, g4⟩ := hD ag (List.mem_singleton.mpr rfl)
    have g5 := g2 (by show 7 ≠ 2; omega)
    rw [(m_look0 hn hk hj hl hjl hl60 (K := K) ha.1).2.1 ag g1 ha.2 (by decide) (by decide), (m_look89 hn4 hk ha.1).2.1 (by decide) (by decide)]
    unfold fX9_looks_133
    rw [zg_pos vn, cn, nm_eq, ha.1]
    refine ⟨_, _, m_311 hn4 (by omega) (-1) τ, by rw [m1]; exact eM1, Or.inl ⟨rfl, (fun h => by have := h.1; have : 10 ≤ 7 := this; omega), (fun h => by have : 7 = 2 := h; omega)⟩⟩
  | 8, ha, hD, h2, h4 =>
    obtain ⟨g1, g2, g3, g4⟩ := hD ag (List.mem_singleton.mpr rfl)
    have g5 := g2 (by show 8 ≠ 2; omega)
    rw [(m_look0 hn hk hj hl hjl hl60 (K := K) ha.1).2.1 ag g1 ha.2 (by decide) (by decide), (m_look89 hn4 hk ha.1).2.1 (by decide) (by decide)]
    unfold fX9_looks_133
    rw [zg_pos vn, cn, nm_eq, ha.1]
    refine ⟨_, _, m_311 hn4 (by omega) (-1) τ, by rw [m1]; exact eM1, Or.inl ⟨rfl, (fun h => by have := h.1; have : 10 ≤ 8 := this; omega), (fun h => by have : 8 = 2 := h; omega)⟩⟩
  | 9, ha, hD, h2, h4 =>
    obtain ⟨g1, g2, g3, g4⟩ := hD ag (List.mem_singleton.mpr rfl)
    have g5 := g2 (by show 9 ≠ 2; omega)
    rw [(m_look0 hn hk hj hl hjl hl60 (K := K) ha.1).2.1 ag g1 ha.2 (by decide) (by decide), (m_look89 hn4 hk ha.1).2.1 (by decide) (by decide)]
    unfold fX9_looks_133
    rw [zg_pos vn, cn, nm_eq, ha.1]
    refine ⟨_, _, m_311 hn4 (by omega) (-1) τ, by rw [m1]; exact eM1, Or.inl ⟨rfl, (fun h => by have := h.1; have : 10 ≤ 9 := this; omega), (fun h => by have : 9 = 2 := h; omega)⟩⟩
  | 10, ha, hD, h2, h4 =>
    obtain ⟨g1, g2, g3, g4⟩ := hD ag (List.mem_singleton.mpr rfl)
    have g5 := g2 (by show 10 ≠ 2; omega)
    rw [(m_look0 hn hk hj hl hjl hl60 (K := K) ha.1).2.1 ag g1 ha.2 (by decide) (by decide), (m_look89 hn4 hk ha.1).1 (by decide)]
    unfold fX9_looks_133
    rw [zg_pos vn, cn, nm_eq, show gi (si τ 69 k 0) 64 n = 14 by rw [gi_si, if_neg (by omega)]; exact ha.1]
    refine ⟨_, _, m_311 hn4 (by omega) (-1) (si τ 69 k 0), by rw [m1]; exact eM1, Or.inr ⟨rfl, fun h => h.1 ⟨by show 10 ≤ 10; omega, by show 10 ≤ 12; omega⟩⟩⟩
  | 11, ha, hD, h2, h4 =>
    obtain ⟨f1, -⟩ := hD af (List.mem_cons.mpr (Or.inl rfl))
    rw [(m_look0 hn hk hj hl hjl hl60 (K := K) ha.1).2.1 af f1 ha.2.1 (by decide) (by decide), (m_look89 hn4 hk ha.1).1 (by decide)]
    unfold fX9_looks_133
    rw [zg_pos vn, cn, nm_eq, show gi (si τ 69 k 0) 64 n = 15 by rw [gi_si, if_neg (by omega)]; exact ha.1]
    refine ⟨_, _, m_311 hn4 (by omega) (-1) (si τ 69 k 0), by rw [m1]; exact eM1, Or.inr ⟨rfl, fun h => h.1 ⟨by show 10 ≤ 11; omega, by show 11 ≤ 12; omega⟩⟩⟩
  | 12, ha, hD, h2, h4 =>
    obtain ⟨f1, -⟩ := hD af (List.mem_cons.mpr (Or.inl rfl))
    rw [(m_look0 hn hk hj hl hjl hl60 (K := K) ha.1).2.1 af f1 ha.2.1 (by decide) (by decide), (m_look89 hn4 hk ha.1).1 (by decide)]
    unfold fX9_looks_133
    rw [zg_pos vn, cn, nm_eq, show gi (si τ 69 k 0) 64 n = 16 by rw [gi_si, if_neg (by omega)]; exact ha.1]
    refine ⟨_, _, m_311 hn4 (by omega) (-1) (si τ 69 k 0), by rw [m1]; exact eM1, Or.inr ⟨rfl, fun h => h.1 ⟨by show 10 ≤ 12; omega, by show 12 ≤ 12; omega⟩⟩⟩
  | 13, ha, hD, h2, h4 =>
    obtain ⟨f1, f2, f3, f4⟩ := hD af (List.mem_cons.mpr (Or.inl rfl))
    obtain ⟨g1, g2, g3, g4⟩ := hD ag (List.mem_cons.mpr (Or.inr (List.mem_singleton.mpr rfl)))
    have f5 := f2 (by show 13 ≠ 2; omega)
    have g5 := g2 (by show 13 ≠ 2; omega)
    rw [(m_look0 hn hk hj hl hjl hl60 (K := K) ha.1).2.2 af ag f1 g1 ha.2.1 ha.2.2 (by decide) (by decide) (by decide), (m_look89 hn4 hk ha.1).2.1 (by decide) (by decide)]
    unfold fX9_looks_133
    rw [zg_pos vn, cn, nm_eq, ha.1]
    show ∃ (d : Int32) (τ1 : zSt), (if gi τ 71 af = -1 then fX9_looks_311 K (Int32.ofNat k) (Int32.ofNat j) (Int32.ofNat n) (-1) τ else if gi τ 71 ag = -1 then fX9_looks_311 K (Int32.ofNat k) (Int32.ofNat j) (Int32.ofNat n) (-1) τ else if gi τ 71 af ≤ gi τ 71 ag then fX9_looks_311 K (Int32.ofNat k) (Int32.ofNat j) (Int32.ofNat n) (gi τ 71 ag) τ else fX9_looks_311 K (Int32.ofNat k) (Int32.ofNat j) (Int32.ofNat n) (gi τ 71 af) τ) = _ ∧ d.toInt = (if D af = -1 ∨ D ag = -1 then -1 else max (D af) (D ag)) ∧ _
    by_cases q : D af = -1
    · rw [if_pos (Or.inl q), if_pos (show gi τ 71 af = -1 by rw [qI_eq, f5, eM1]; exact q)]
      exact ⟨_, _, m_311 hn4 (by omega) _ τ, by rw [m1]; exact eM1, Or.inl ⟨rfl, (fun h => by have := h.2; have : 13 ≤ 12 := this; omega), (fun h => by have : 13 = 2 := h; omega)⟩⟩
    rw [if_neg (show ¬ gi τ 71 af = -1 by rw [qI_eq, f5, eM1]; exact q)]
    by_cases q2 : D ag = -1
    · rw [if_pos (Or.inr q2), if_pos (show gi τ 71 ag = -1 by rw [qI_eq, g5, eM1]; exact q2)]
      exact ⟨_, _, m_311 hn4 (by omega) _ τ, by rw [m1]; exact eM1, Or.inl ⟨rfl, (fun h => by have := h.2; have : 13 ≤ 12 := this; omega), (fun h => by have : 13 = 2 := h; omega)⟩⟩
    rw [if_neg (show ¬ gi τ 71 ag = -1 by rw [qI_eq, g5, eM1]; exact q2), if_neg (show ¬ (D af = -1 ∨ D ag = -1) by omega)]
    by_cases q3 : D af ≤ D ag
    · rw [if_pos (show gi τ 71 af ≤ gi τ 71 ag by rw [qI_le, f5, g5]; exact q3)]
      exact ⟨_, _, m_311 hn4 (by omega) _ τ, by rw [mn g5]; omega, Or.inl ⟨rfl, (fun h => by have := h.2; have : 13 ≤ 12 := this; omega), (fun h => by have : 13 = 2 := h; omega)⟩⟩
    · rw [if_neg (show ¬ gi τ 71 af ≤ gi τ 71 ag by rw [qI_le, f5, g5]; exact q3)]
      exact ⟨_, _, m_311 hn4 (by omega) _ τ, by rw [mn f5]; omega, Or.inl ⟨rfl, (fun h => by have := h.2; have : 13 ≤ 12 := this; omega), (fun h => by have : 13 = 2 := h; omega)⟩⟩
  | 14, ha, hD, h2, h4 =>
    obtain ⟨f1, f2, f3, f4⟩ := hD af (List.mem_cons.mpr (Or.inl rfl))
    obtain ⟨g1, g2, g3, g4⟩ := hD ag (List.mem_cons.mpr (Or.inr (List.mem_singleton.mpr rfl)))
    have f5 := f2 (by show 14 ≠ 2; omega)
    have g5 := g2 (by show 14 ≠ 2; omega)
    rw [(m_look0 hn hk hj hl hjl hl60 (K := K) ha.1).2.2 af ag f1 g1 ha.2.1 ha.2.2 (by decide) (by decide) (by decide), (m_look89 hn4 hk ha.1).2.1 (by decide) (by decide)]
    unfold fX9_looks_133
    rw [zg_pos vn, cn, nm_eq, ha.1]
    show ∃ (d : Int32) (τ1 : zSt), (if gi τ 71 af = -1 then fX9_looks_311 K (Int32.ofNat k) (Int32.ofNat j) (Int32.ofNat n) (-1) τ else if gi τ 71 ag = -1 then fX9_looks_311 K (Int32.ofNat k) (Int32.ofNat j) (Int32.ofNat n) (-1) τ else if gi τ 71 af ≤ gi τ 71 ag then fX9_looks_311 K (Int32.ofNat k) (Int32.ofNat j) (Int32.ofNat n) (gi τ 71 ag) τ else fX9_looks_311 K (Int32.ofNat k) (Int32.ofNat j) (Int32.ofNat n) (gi τ 71 af) τ) = _ ∧ d.toInt = (if D af = -1 ∨ D ag = -1 then -1 else max (D af) (D ag)) ∧ _
    by_cases q : D af = -1
    · rw [if_pos (Or.inl q), if_pos (show gi τ 71 af = -1 by rw [qI_eq, f5, eM1]; exact q)]
      exact ⟨_, _, m_311 hn4 (by omega) _ τ, by rw [m1]; exact eM1, Or.inl ⟨rfl, (fun h => by have := h.2; have : 14 ≤ 12 := this; omega), (fun h => by have : 14 = 2 := h; omega)⟩⟩
    rw [if_neg (show ¬ gi τ 71 af = -1 by rw [qI_eq, f5, eM1]; exact q)]
    by_cases q2 : D ag = -1
    · rw [if_pos (Or.inr q2), if_pos (show gi τ 71 ag = -1 by rw [qI_eq, g5, eM1]; exact q2)]
      exact ⟨_, _, m_311 hn4 (by omega) _ τ, by rw [m1]; exact eM1, Or.inl ⟨rfl, (fun h => by have := h.2; have : 14 ≤ 12 := this; omega), (fun h => by have : 14 = 2 := h; omega)⟩⟩
    rw [if_neg (show ¬ gi τ 71 ag = -1 by rw [qI_eq, g5, eM1]; exact q2), if_neg (show ¬ (D af = -1 ∨ D ag = -1) by omega)]
    by_cases q3 : D af ≤ D ag
    · rw [if_pos (show gi τ 71 af ≤ gi τ 71 ag by rw [qI_le, f5, g5]; exact q3)]
      exact ⟨_, _, m_311 hn4 (by omega) _ τ, by rw [mn g5]; omega, Or.inl ⟨rfl, (fun h => by have := h.2; have : 14 ≤ 12 := this; omega), (fun h => by have : 14 = 2 := h; omega)⟩⟩
    · rw [if_neg (show ¬ gi τ 71 af ≤ gi τ 71 ag by rw [qI_le, f5, g5]; exact q3)]
      exact ⟨_, _, m_311 hn4 (by omega) _ τ, by rw [mn f5]; omega, Or.inl ⟨rfl, (fun h => by have := h.2; have : 14 ≤ 12 := this; omega), (fun h => by have : 14 = 2 := h; omega)⟩⟩
  | 15, ha, hD, h2, h4 =>
    obtain ⟨f1, f2, f3, f4⟩ := hD af (List.mem_cons.mpr (Or.inl rfl))
    obtain ⟨g1, g2, g3, g4⟩ := hD ag (List.mem_cons.mpr (Or.inr (List.mem_singleton.mpr rfl)))
    have f5 := f2 (by show 15 ≠ 2; omega)
    have g5 := g2 (by show 15 ≠ 2; omega)
    rw [(m_look0 hn hk hj hl hjl hl60 (K := K) ha.1).2.2 af ag f1 g1 ha.2.1 ha.2.2 (by decide) (by decide) (by decide), (m_look89 hn4 hk ha.1).2.1 (by decide) (by decide)]
    unfold fX9_looks_133
    rw [zg_pos vn, cn, nm_eq, ha.1]
    show ∃ (d : Int32) (τ1 : zSt), (if gi τ 71 af = -1 then fX9_looks_311 K (Int32.ofNat k) (Int32.ofNat j) (Int32.ofNat n) (-1) τ else if gi τ 71 ag = -1 then fX9_looks_311 K (Int32.ofNat k) (Int32.ofNat j) (Int32.ofNat n) (-1) τ else nm (gi τ 71 af + gi τ 71 ag) fun x => fX9_looks_311 K (Int32.ofNat k) (Int32.ofNat j) (Int32.ofNat n) x τ) = _ ∧ d.toInt = (if D af = -1 ∨ D ag = -1 then -1 else min 1000 (D af + D ag)) ∧ _
    by_cases q : D af = -1
    · rw [if_pos (Or.inl q), if_pos (show gi τ 71 af = -1 by rw [qI_eq, f5, eM1]; exact q)]
      exact ⟨_, _, m_311 hn4 (by omega) _ τ, by rw [m1]; exact eM1, Or.inl ⟨rfl, (fun h => by have := h.2; have : 15 ≤ 12 := this; omega), (fun h => by have : 15 = 2 := h; omega)⟩⟩
    rw [if_neg (show ¬ gi τ 71 af = -1 by rw [qI_eq, f5, eM1]; exact q)]
    by_cases q2 : D ag = -1
    · rw [if_pos (Or.inr q2), if_pos (show gi τ 71 ag = -1 by rw [qI_eq, g5, eM1]; exact q2)]
      exact ⟨_, _, m_311 hn4 (by omega) _ τ, by rw [m1]; exact eM1, Or.inl ⟨rfl, (fun h => by have := h.2; have : 15 ≤ 12 := this; omega), (fun h => by have : 15 = 2 := h; omega)⟩⟩
    rw [if_neg (show ¬ gi τ 71 ag = -1 by rw [qI_eq, g5, eM1]; exact q2), if_neg (show ¬ (D af = -1 ∨ D ag = -1) by omega), nm_eq]
    exact ⟨_, _, m_311 hn4 (by omega) _ τ, mn (by rw [qI_add (by omega) (by omega), f5, g5]), Or.inl ⟨rfl, (fun h => by have := h.2; have : 15 ≤ 12 := this; omega), (fun h => by have : 15 = 2 := h; omega)⟩⟩
  | m + 16, ha, hD, h2, h4 =>
    obtain ⟨f1, f2, f3, f4⟩ := hD af (List.mem_cons.mpr (Or.inl rfl))
    obtain ⟨g1, g2, g3, g4⟩ := hD ag (List.mem_cons.mpr (Or.inr (List.mem_singleton.mpr rfl)))
    have f5 := f2 (by show m + 16 ≠ 2; omega)
    have g5 := g2 (by show m + 16 ≠ 2; omega)
    rw [(m_look0 hn hk hj hl hjl hl60 (K := K) ha.1).2.2 af ag f1 g1 ha.2.1 ha.2.2 (by decide) (by decide) (by decide), (m_look89 hn4 hk ha.1).2.1 (by decide) (by decide)]
    unfold fX9_looks_133
    rw [zg_pos vn, cn, nm_eq, ha.1]
    refine ⟨_, _, m_311 hn4 (by omega) (-1) τ, ?_, Or.inl ⟨rfl, (fun h => by have := h.2; have : m + 16 ≤ 12 := this; omega), (fun h => by have : m + 16 = 2 := h; omega)⟩⟩
    rw [m1]; exact eM1
