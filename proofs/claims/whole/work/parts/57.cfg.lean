/-! CURVES that stand: what holds of them, and which ones a CURVE needs -/
def qLast (C : qCfg) (k : Nat) : Nat := 60 * k + C.len k - 1
def qWF (C : qCfg) : Prop := C.N ≤ 8 ∧ ∀ k, k < C.N → (1 ≤ C.len k ∧ C.len k ≤ 60) ∧ (∀ j, j < C.len k → actOk C k j (C.A (60 * k + j))) ∧ ∀ j, j + 1 < C.len k → ∃ j', j < j' ∧ j' < C.len k ∧ 60 * k + j ∈ qOps (C.A (60 * k + j'))
theorem actOk_lt {C : qCfg} {k j : Nat} {a : qAct} (hl : ∀ i, i < k → C.len i ≤ 60) (ho : actOk C k j a) : ∀ m, m ∈ qOps a → m < 60 * k + j := by
  have one : ∀ g m, unOk k j g → m ∈ [g] → m < 60 * k + j := fun g m h hm => by
    have := List.mem_singleton.mp hm
    have h1 := h.1
    have h2 := h.2
    omega
  have two : ∀ f g m, biOk k j f g → m ∈ [f, g] → m < 60 * k + j := fun f g m h hm => by
    obtain ⟨h1, l, h2, h3⟩ := h
    rcases List.mem_cons.mp hm with e | e
    · omega
    · have := List.mem_singleton.mp e
      omega
  intro m
  obtain ⟨t, af, ag, an⟩ := a
  match t, ho with
  | 0, ho => intro h; cases h
  | 1, ho => intro h; cases h
  | 2, ho =>
    intro h
    have e := List.mem_singleton.mp h
    have h1 := ho.1
    have h2 := ho.2
    have h3 := hl af h1
    omega
  | 3, ho => exact one ag m ho
  | 4, ho => exact one ag m ho.1
  | 5, ho => exact one ag m ho
  | 6, ho => exact one ag m ho
  | 7, ho => exact one ag m ho
  | 8, ho => exact one ag m ho
  | 9, ho => exact one ag m ho
  | 10, ho => exact one ag m ho
  | 11, ho => exact two af ag m ho
  | 12, ho => exact two af ag m ho
  | 13, ho => exact two af ag m ho
  | 14, ho => exact two af ag m ho
  | 15, ho => exact two af ag m ho
  | n + 16, ho => exact two af ag m ho
theorem wf_lt {C : qCfg} (hw : qWF C) {k j : Nat} (hk : k < C.N) (hj : j < C.len k) : ∀ m, m ∈ qOps (C.A (60 * k + j)) → m < 60 * k + j := actOk_lt (fun i hi => (hw.2 i (by omega)).1.2) ((hw.2 k hk).2.1 j hj)
theorem vA_step {C : qCfg} (hw : qWF C) {k j : Nat} (hk : k < C.N) (hj : j < C.len k) (sp : qSh) : vA C.A sp (60 * k + j) = sAct sp (vA C.A sp) (C.A (60 * k + j)) := vA_eq (wf_lt hw hk hj)
theorem hole_up {C : qCfg} (hw : qWF C) {k : Nat} (hk : k < C.N) {sp : qSh} : ∀ d j : Nat, j < C.len k → C.len k - j ≤ d → vA C.A sp (60 * k + j) = none → vA C.A sp (qLast C k) = none := by
  intro d
  induction d with
  | zero => intro j h1 h2; omega
  | succ d ih =>
    intro j h1 h2 h3
    by_cases e : j + 1 < C.len k
    · obtain ⟨j', a1, a2, a3⟩ := (hw.2 k hk).2.2 j e
      refine ih j' a2 (by omega) ?_
      rw [vA_step hw hk a2]
      exact sAct_none a3 h3
    · have : qLast C k = 60 * k + j := by unfold qLast; omega
      rw [this]; exact h3
def xNd (C : qCfg) (M : Nat → Nat) : Prop := ∀ k, k < C.N → M k < 256 ∧ ∀ i, (M k).testBit i = true ↔ ∃ j, j < C.len k ∧ (C.A (60 * k + j)).1 = 2 ∧ (i = (C.A (60 * k + j)).2.1 ∨ (M (C.A (60 * k + j)).2.1).testBit i = true)
theorem cur_ok {C : qCfg} {k j : Nat} {a : qAct} (ho : actOk C k j a) (h2 : a.1 = 2) : a.2.1 < k ∧ a.2.2.1 = qLast C a.2.1 ∧ qOps a = [a.2.2.1] ∧ ∀ sp v, sAct sp v a = v a.2.2.1 := by
  obtain ⟨t, af, ag, an⟩ := a
  replace h2 : t = 2 := h2
  subst h2
  exact ⟨ho.1, ho.2, rfl, fun _ _ => rfl⟩
theorem nd_lt {C : qCfg} (hw : qWF C) {M : Nat → Nat} (hm : xNd C M) : ∀ a, a < C.N → ∀ b, (M a).testBit b = true → b < a := by
  intro a
  induction a using Nat.strongRecOn with
  | ind a ih =>
    intro ha b hb
    obtain ⟨j, h1, h2, h3⟩ := ((hm a ha).2 b).mp hb
    have h4 := (cur_ok ((hw.2 a ha).2.1 j h1) h2).1
    rcases h3 with h3 | h3
    · omega
    · have := ih _ h4 (by omega) b h3
      omega
theorem nd_tr {C : qCfg} (hw : qWF C) {M : Nat → Nat} (hm : xNd C M) : ∀ a, a < C.N → ∀ b c, (M a).testBit b = true → (M b).testBit c = true → (M a).testBit c = true := by
  intro a
  induction a using Nat.strongRecOn with
  | ind a ih =>
    intro ha b c hb hc
    obtain ⟨j, h1, h2, h3⟩ := ((hm a ha).2 b).mp hb
    have h4 := (cur_ok ((hw.2 a ha).2.1 j h1) h2).1
    refine ((hm a ha).2 c).mpr ⟨j, h1, h2, Or.inr ?_⟩
    rcases h3 with h3 | h3
    · rw [← h3]; exact hc
    · exact ih _ h4 (by omega) b c h3 hc
theorem nd_hole {C : qCfg} (hw : qWF C) {M : Nat → Nat} (hm : xNd C M) {sp : qSh} : ∀ a, a < C.N → ∀ b, (M a).testBit b = true → vA C.A sp (qLast C b) = none → vA C.A sp (qLast C a) = none := by
  intro a
  induction a using Nat.strongRecOn with
  | ind a ih =>
    intro ha b hb hv
    obtain ⟨j, h1, h2, h3⟩ := ((hm a ha).2 b).mp hb
    obtain ⟨h4, h5, h6, h7⟩ := cur_ok ((hw.2 a ha).2.1 j h1) h2
    have e : vA C.A sp (qLast C (C.A (60 * a + j)).2.1) = none := by
      rcases h3 with h3 | h3
      · rw [← h3]; exact hv
      · exact ih _ h4 (by omega) b h3 hv
    refine hole_up hw ha _ j h1 (Nat.le_refl _) ?_
    rw [vA_step hw ha h1, h7, h5]
    exact e
def qNeed (M : Nat → Nat) (n k : Nat) : Prop := k = n ∨ (M n).testBit k = true
theorem need_cur {C : qCfg} {M : Nat → Nat} (hw : qWF C) (hm : xNd C M) {n k j : Nat} (hn : n < C.N) (hk : qNeed M n k) (hj : j < C.len k) (h2 : (C.A (60 * k + j)).1 = 2) : qNeed M n (C.A (60 * k + j)).2.1 := by
  rcases hk with e | e
  · subst e
    exact Or.inr (((hm k hn).2 _).mpr ⟨j, hj, h2, Or.inl rfl⟩)
  · have := nd_lt hw hm n hn k e
    exact Or.inr (nd_tr hw hm n hn k _ e (((hm k (by omega)).2 _).mpr ⟨j, hj, h2, Or.inl rfl⟩))
theorem need_hole {C : qCfg} {M : Nat → Nat} (hw : qWF C) (hm : xNd C M) {n k j : Nat} {sp : qSh} (hn : n < C.N) (hk : qNeed M n k) (hj : j < C.len k) (hv : vA C.A sp (60 * k + j) = none) : vA C.A sp (qLast C n) = none := by
  rcases hk with e | e
  · subst e
    exact hole_up hw hn _ j hj (Nat.le_refl _) hv
  · have := nd_lt hw hm n hn k e
    exact nd_hole hw hm n hn k e (hole_up hw (by omega) _ j hj (Nat.le_refl _) hv)
