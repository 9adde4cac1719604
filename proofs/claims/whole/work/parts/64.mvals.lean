/-! the Model's values and slopes of CURVES -/
def mCur (C : qCfg) (σ : zSt) : Prop := (gi σ 61 3).toInt = (C.N : Nat) ∧ ∀ k, k < C.N → gi σ 63 k = Int32.ofNat (C.len k) ∧ ∀ j, j < C.len k → mAct σ (60 * k + j) (C.A (60 * k + j))
/-- all but what measuring writes is the same -/
def mFr (σ τ : zSt) : Prop := (∀ c k, ¬ ((c = 61 ∧ (k = 21 ∨ k = 22)) ∨ c = 76 ∨ c = 77) → gi τ c k = gi σ c k) ∧ ∀ c k, ¬ ((c = 61 ∧ (k = 19 ∨ k = 20 ∨ k = 29 ∨ k = 30)) ∨ c = 72 ∨ c = 73 ∨ c = 74 ∨ c = 75) → gl τ c k = gl σ c k
theorem mFr.rf {σ : zSt} : mFr σ σ := ⟨fun _ _ _ => rfl, fun _ _ _ => rfl⟩
theorem mFr.tr {a b c : zSt} (h : mFr a b) (g : mFr b c) : mFr a c := ⟨fun q k hk => (g.1 q k hk).trans (h.1 q k hk), fun q k hk => (g.2 q k hk).trans (h.2 q k hk)⟩
theorem mEq.fr {σ τ : zSt} (h : mEq σ τ) : mFr σ τ := ⟨fun c k q => h.1 c k (by omega), fun c k q => h.2 c k (by omega)⟩
theorem mFr.sl {σ τ : zSt} (h : mFr σ τ) {c k : Nat} {v : Int64} (hc : (c = 61 ∧ (k = 19 ∨ k = 20 ∨ k = 29 ∨ k = 30)) ∨ c = 72 ∨ c = 73 ∨ c = 74 ∨ c = 75) : mFr σ (sl τ c k v) := ⟨fun q i hq => by rw [gi_sl]; exact h.1 q i hq, fun q i hq => by
  rw [gl_sl, if_neg (fun e => hq (by rw [e.1, e.2]; exact hc))]; exact h.2 q i hq⟩
theorem mFr.si {σ τ : zSt} (h : mFr σ τ) {c k : Nat} {v : Int32} (hc : (c = 61 ∧ (k = 21 ∨ k = 22)) ∨ c = 76 ∨ c = 77) : mFr σ (si τ c k v) := ⟨fun q i hq => by
  rw [gi_si, if_neg (fun e => hq (by rw [e.1, e.2]; exact hc))]; exact h.1 q i hq, fun q i hq => by rw [gl_si]; exact h.2 q i hq⟩
theorem mAct_fr {σ τ : zSt} (h : mFr σ τ) {n : Nat} {a : qAct} (ha : mAct σ n a) : mAct τ n a := by
  have e1 : gi τ 64 n = gi σ 64 n := h.1 _ _ (by omega)
  have e2 : gi τ 65 n = gi σ 65 n := h.1 _ _ (by omega)
  have e3 : gi τ 66 n = gi σ 66 n := h.1 _ _ (by omega)
  have e4 : gl τ 67 n = gl σ 67 n := h.2 _ _ (by omega)
  have e5 : gl τ 68 n = gl σ 68 n := h.2 _ _ (by omega)
  rcases a with ⟨_ | _ | _ | _ | _ | _ | _ | _ | _ | _ | _ | _ | _ | _ | _ | _ | t, f, g, s⟩ <;> simp only [mAct, e1, e2, e3, e4, e5] at ha ⊢ <;> exact ha
theorem mCur_fr {C : qCfg} {σ τ : zSt} (h : mFr σ τ) (hc : mCur C σ) : mCur C τ := ⟨by rw [h.1 _ _ (by omega)]; exact hc.1, fun k hk => ⟨by rw [h.1 _ _ (by omega)]; exact (hc.2 k hk).1, fun j hj => mAct_fr h ((hc.2 k hk).2 j hj)⟩⟩
theorem mV_at {σ τ : zSt} {n : Nat} {s : qSh} (h1 : gi τ 76 n = gi σ 76 n) (h2 : gl τ 72 n = gl σ 72 n) (h3 : gl τ 73 n = gl σ 73 n) (h : mV σ n s) : mV τ n s := by
  cases s with
  | none => show gi τ 76 n = 1; rw [h1]; exact h
  | some q => show gi τ 76 n = 0 ∧ (gl τ 72 n).toInt = q.1 ∧ (gl τ 73 n).toInt = q.2; rw [h1, h2, h3]; exact h
theorem mL_at {σ τ : zSt} {n : Nat} {s : qSh} (h1 : gi τ 77 n = gi σ 77 n) (h2 : gl τ 74 n = gl σ 74 n) (h3 : gl τ 75 n = gl σ 75 n) (h : mL σ n s) : mL τ n s := by
  cases s with
  | none => show gi τ 77 n = 1; rw [h1]; exact h
  | some q => show gi τ 77 n = 0 ∧ (gl τ 74 n).toInt = q.1 ∧ (gl τ 75 n).toInt = q.2; rw [h1, h2, h3]; exact h
theorem nar_0 : vp_nar .boolean 0 = 0 := by decide
theorem nar_1 : vp_nar .boolean 1 = 1 := by decide
theorem m_keepV {n : Nat} (hn : n < 480) {σ : zSt} {s : qSh} (h : mS σ s) : ∃ τ, fX9_keepValue (Int32.ofNat n) σ = some τ ∧ mFr σ τ ∧ mV τ n s ∧ ∀ m t, m ≠ n → mV σ m t → mV τ m t := by
  have vn := vin (iNt (n := n) (by omega)) hn
  have cn := iN_cl (n := n) (by omega)
  refine ⟨_, by show fX9_keepValue_0 _ _ = _; unfold fX9_keepValue_0; rw [zg_pos vn, zg_pos vn, zg_pos vn, cn], ((mFr.rf.sl (by omega)).sl (by omega)).si (by omega), ?_, fun m t hm ht => ?_⟩
  · cases s with
    | none =>
      replace h : gi σ 61 21 = 1 := h
      show gi _ 76 n = 1
      rw [gi_si, if_pos (by omega), h, nar_1]
    | some q =>
      obtain ⟨h1, h2, h3⟩ := h
      refine ⟨by rw [gi_si, if_pos (by omega), h1, nar_0], ?_, ?_⟩
      · rw [gl_si, gl_sl, if_neg (by omega), gl_sl, if_pos (by omega)]; exact h2
      · rw [gl_si, gl_sl, if_pos (by omega)]; exact h3
  · exact mV_at (by rw [gi_si, if_neg (by omega), gi_sl, gi_sl]) (by rw [gl_si, gl_sl, if_neg (by omega), gl_sl, if_neg (by omega)]) (by rw [gl_si, gl_sl, if_neg (by omega), gl_sl, if_neg (by omega)]) ht
def mVals (C : qCfg) (sp : qSh) (n : Nat) (τ : zSt) : Prop := ∀ k j, k < C.N → j < C.len k → 60 * k + j < n → mV τ (60 * k + j) (vA C.A sp (60 * k + j))
def mLs (C : qCfg) (sp : qSh) (n : Nat) (τ : zSt) : Prop := ∀ k j, k < C.N → j < C.len k → 60 * k + j < n → mL τ (60 * k + j) (lA C.A sp (60 * k + j))
theorem i60 {k : Nat} (hk : k < 1000) : (60 : Int32) * Int32.ofNat k = Int32.ofNat (60 * k) := by
  rw [qI_eq, Int32.toInt_mul, iNt (by omega), iNt (by omega), e60I, Int.bmod_eq_of_le (by omega) (by omega)]; omega
def mP (C : qCfg) (sp : qSh) (σ : zSt) (n : Nat) (o : Option zSt) : Prop := ∃ τ, o = some τ ∧ mFr σ τ ∧ mVals C sp n τ
theorem m_lastC {C : qCfg} (hw : qWF C) {σ : zSt} (h : mCur C σ) {k : Nat} (hk : k < C.N) : fX9_lastOf (Int32.ofNat k) σ = some (Int32.ofNat (qLast C k)) := by
  have := hw.1
  have l := (hw.2 k hk).1
  exact m_lastOf (by omega) (h.2 k hk).1 l.1 l.2
theorem m_ops {C : qCfg} (hw : qWF C) {k j : Nat} (hk : k < C.N) (hj : j < C.len k) : ∀ m, m ∈ qOps (C.A (60 * k + j)) → ∃ k' j', m = 60 * k' + j' ∧ k' < C.N ∧ j' < C.len k' ∧ m < 60 * k + j ∧ m < 480 := fun m hm => by
  obtain ⟨k', j', a1, a2, a3⟩ := wf_at hw hk hj m hm
  have h1 := wf_lt hw hk hj m hm
  have h2 := hw.1
  have h3 := (hw.2 k hk).1
  exact ⟨k', j', a1, a2, a3, h1, by omega⟩
theorem m_vIn {C : qCfg} (hw : qWF C) {σ : zSt} (h0 : mCur C σ) {c k : Nat} (hk : k < C.N) {lo hi : Int64} (h1 : -2147483648 ≤ lo.toInt) (h2 : lo.toInt ≤ hi.toInt) (h3 : hi.toInt ≤ 2147483647) {N : Nat} {K : Int32 → Int64 → Int64 → Int32 → zSt → Option zSt} (hK : ∀ τ, mFr σ τ → mVals C (some (lo.toInt, hi.toInt)) (60 * (k + 1)) τ → mP C (some (lo.toInt, hi.toInt)) σ N (K (Int32.ofNat c) lo hi (Int32.ofNat (k + 1)) τ)) : ∀ (d j F : Nat) (τ : zSt), j + d = C.len k → d < F → mFr σ τ → mVals C (some (lo.toInt, hi.toInt)) (60 * k + j) τ → mP C (some (lo.toInt, hi.toInt)) σ N (fX9_values_L16 K F (Int32.ofNat c) lo hi (Int32.ofNat k) (Int32.ofNat (60 * k + j)) τ) := by
  have hN := hw.1
  obtain ⟨hl, hok, -⟩ := hw.2 k hk
  have hsp : qOk (some (lo.toInt, hi.toInt)) := qOk.some h1 h2 h3
  intro d
  induction d with
  | zero =>
    intro j F τ e hF fr hv
    obtain ⟨G, rfl⟩ : ∃ G, F = G + 1 := ⟨F - 1, by omega⟩
    rw [fX9_values_L16]
    unfold fX9_values_16
    rw [m_lastC hw (mCur_fr fr h0) hk, bd1_some, if_pos (by rw [qI_lt, iNt (by unfold qLast; omega), iNt (by omega)]; unfold qLast; omega), nm_eq, iN_s (by omega)]
    refine hK τ fr (fun k' j' a1 a2 a3 => hv k' j' a1 a2 ?_)
    have l' := (hw.2 k' a1).1
    by_cases q : k' = k
    · subst q; omega
    · omega
  | succ d ih =>
    intro j F τ e hF fr hv
    obtain ⟨G, rfl⟩ : ∃ G, F = G + 1 := ⟨F - 1, by omega⟩
    have hj : j < C.len k := by omega
    rw [fX9_values_L16]
    unfold fX9_values_16
    rw [m_lastC hw (mCur_fr fr h0) hk, bd1_some, if_neg (by rw [qI_lt, iNt (by unfold qLast; omega), iNt (by omega)]; unfold qLast; omega)]
    have hc := mCur_fr fr h0
    obtain ⟨τ1, t1, t2, t3⟩ := m_value (n := 60 * k + j) (by omega) (σ := τ) ((hc.2 k hk).2 j hj) (V := vA C.A (some (lo.toInt, hi.toInt))) (fun m hm => by
      obtain ⟨k', j', a1, a2, a3, a4, a5⟩ := m_ops hw hk hj m hm
      exact ⟨a5, by rw [a1]; exact hv k' j' a2 a3 (by omega), vA_ok hw hsp m k' j' a1 a2 a3⟩) (fun q => by
      obtain ⟨b1, b2, -⟩ := cur_ok (hok j hj) q
      rw [m_lastC hw hc (by omega), b2]) (hok j hj).k.2 h1 h2 h3
    rw [← vA_step hw hk hj] at t2
    obtain ⟨τ2, u1, u2, u3, u4⟩ := m_keepV (n := 60 * k + j) (by omega) t2
    rw [t1, bd1_some, u1, bd1_some, nm_eq, iN_s (by omega)]
    refine ih (j + 1) G τ2 (by omega) (by omega) ((fr.tr t3.fr).tr u2) (fun k' j' a1 a2 a3 => ?_)
    by_cases q : 60 * k' + j' = 60 * k + j
    · rw [q]; exact u3
    · exact u4 _ _ q (mV_eq t3 (hv k' j' a1 a2 (by omega)))
theorem m_vOut {C : qCfg} (hw : qWF C) {σ : zSt} (h0 : mCur C σ) {c : Nat} (hc : c < C.N) {lo hi : Int64} (h1 : -2147483648 ≤ lo.toInt) (h2 : lo.toInt ≤ hi.toInt) (h3 : hi.toInt ≤ 2147483647) : ∀ (d k F : Nat) (τ : zSt), k + d = c + 1 → d < F → mFr σ τ → mVals C (some (lo.toInt, hi.toInt)) (60 * k) τ → mP C (some (lo.toInt, hi.toInt)) σ (60 * (c + 1)) (fX9_values_L3 F (Int32.ofNat c) lo hi (Int32.ofNat k) τ) := by
  have hN := hw.1
  intro d
  induction d with
  | zero =>
    intro k F τ e hF fr hv
    obtain ⟨G, rfl⟩ : ∃ G, F = G + 1 := ⟨F - 1, by omega⟩
    rw [fX9_values_L3]
    unfold fX9_values_3
    rw [if_pos (by rw [qI_lt, iNt (by omega), iNt (by omega)]; omega)]
    have : k = c + 1 := by omega
    subst this
    exact ⟨τ, rfl, fr, hv⟩
  | succ d ih =>
    intro k F τ e hF fr hv
    obtain ⟨G, rfl⟩ : ∃ G, F = G + 1 := ⟨F - 1, by omega⟩
    rw [fX9_values_L3]
    unfold fX9_values_3
    rw [if_neg (by rw [qI_lt, iNt (by omega), iNt (by omega)]; omega), nm_eq, i60 (by omega)]
    obtain ⟨B, hB⟩ := zFU_ge 100 (by omega)
    have l := (hw.2 k (by omega)).1
    exact m_vIn hw h0 (by omega) h1 h2 h3 (fun τ' a b => ih (k + 1) G τ' (by omega) (by omega) a b) (C.len k) 0 zFU τ (by omega) (by omega) fr hv
theorem m_values {C : qCfg} (hw : qWF C) {σ : zSt} (h0 : mCur C σ) {c : Nat} (hc : c < C.N) {lo hi : Int64} (h1 : -2147483648 ≤ lo.toInt) (h2 : lo.toInt ≤ hi.toInt) (h3 : hi.toInt ≤ 2147483647) : mP C (some (lo.toInt, hi.toInt)) σ (60 * (c + 1)) (fX9_values (Int32.ofNat c) lo hi σ) := by
  have hN := hw.1
  obtain ⟨B, hB⟩ := zFU_ge 100 (by omega)
  exact m_vOut hw h0 hc h1 h2 h3 (c + 1) 0 zFU σ (by omega) (by omega) mFr.rf (fun k j a1 a2 a3 => absurd a3 (by omega))
def mIts (r : Int32) (τ : zSt) (s : qSh) : Prop := match s with
  | none => r = 0
  | some q => r = 1 ∧ (gl τ 61 29).toInt = q.1 ∧ (gl τ 61 30).toInt = q.2
theorem m_shut {C : qCfg} (hw : qWF C) {σ : zSt} (h0 : mCur C σ) {c : Nat} (hc : c < C.N) {lo hi : Int64} (h1 : -2147483648 ≤ lo.toInt) (h2 : lo.toInt ≤ hi.toInt) (h3 : hi.toInt ≤ 2147483647) : ∃ r τ, fX9_shut (Int32.ofNat c) lo hi σ = some (r, τ) ∧ mFr σ τ ∧ mIts r τ (vA C.A (some (lo.toInt, hi.toInt)) (qLast C c)) := by
  have hN := hw.1
  have l := (hw.2 c hc).1
  obtain ⟨τ, t1, t2, t3⟩ := m_values hw h0 hc h1 h2 h3
  have hq : qLast C c = 60 * c + (C.len c - 1) := by unfold qLast; omega
  have hv := t3 c (C.len c - 1) hc (by omega) (by omega)
  rw [← hq] at hv
  have vn := vin (iNt (n := qLast C c) (by omega)) (show qLast C c < 480 by omega)
  have cn := iN_cl (n := qLast C c) (by omega)
  show ∃ r τ, fX9_shut_0 _ _ _ σ = some (r, τ) ∧ _
  unfold fX9_shut_0
  rw [t1, bd1_some, m_lastC hw (mCur_fr t2 h0) hc, bd1_some, zg_pos vn, cn, nm_eq, zg_pos vn, nm_eq, zg_pos vn]
  have fr : ∀ x y : Int64, mFr σ (sl (sl τ 61 29 x) 61 30 y) := fun x y => (t2.sl (by omega)).sl (by omega)
  generalize vA C.A (some (lo.toInt, hi.toInt)) (qLast C c) = s at hv ⊢
  cases s with
  | none =>
    replace hv : gi τ 76 (qLast C c) = 1 := hv
    rw [hv, if_neg (by decide)]
    exact ⟨_, _, rfl, fr _ _, rfl⟩
  | some q =>
    obtain ⟨a1, a2, a3⟩ := hv
    rw [a1, if_pos rfl]
    refine ⟨_, _, rfl, fr _ _, rfl, ?_, ?_⟩
    · rw [gl_sl, if_neg (by omega), gl_sl, if_pos (by omega)]; exact a2
    · rw [gl_sl, if_pos (by omega)]; exact a3
