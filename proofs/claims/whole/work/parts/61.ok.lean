/-! what ACTS make is a SHUT or a HOLE -/
theorem sNeg_ok {s : qSh} (h : qOk s) : qOk (sNeg s) := h.elim fun _ a => ⟨_, x_turned a⟩
theorem sSize_ok {s : qSh} (h : qOk s) : qOk (sSize s) := h.elim fun _ a => ⟨_, x_size a⟩
theorem sRoot_ok {s : qSh} (h : qOk s) : qOk (sRoot s) := h.elim fun _ a => let ⟨r, _, q⟩ := x_root a; ⟨r, q⟩
theorem sExp_ok {s : qSh} (h : qOk s) : qOk (sExp s) := h.elim fun _ a => let ⟨r, _, q⟩ := x_exp a; ⟨r, q⟩
theorem sLog_ok {s : qSh} (h : qOk s) : qOk (sLog s) := h.elim fun _ a => let ⟨r, _, q⟩ := x_log a; ⟨r, q⟩
theorem sWave_ok {s : qSh} {co : Bool} (h : qOk s) : qOk (sWave co s) := h.elim fun _ a => by
  cases co with
  | false => obtain ⟨r, -, q⟩ := x_wave (co := false) (u := 0) (by decide) a; exact ⟨r, q⟩
  | true => obtain ⟨r, -, q⟩ := x_wave (co := true) (u := 1) (by decide) a; exact ⟨r, q⟩
theorem sPow_ok {s : qSh} {j : Nat} (h : qOk s) (hj : j ≤ 8) : qOk (sPow s j) := h.elim fun _ a => by
  obtain ⟨r, -, q⟩ := x_power (n := Int64.ofNat (j + 1)) a hj (by rw [lNt (by omega)]; omega)
  exact ⟨r, q⟩
theorem sPlus_ok {s t : qSh} (h : qOk s) (g : qOk t) : qOk (sPlus s t) := h.elim fun _ a => g.elim fun _ b => ⟨_, x_plus a b⟩
theorem sMinus_ok {s t : qSh} (h : qOk s) (g : qOk t) : qOk (sMinus s t) := h.elim fun _ a => g.elim fun _ b => ⟨_, x_minus a b⟩
theorem sTimes_ok {s t : qSh} (h : qOk s) (g : qOk t) : qOk (sTimes s t) := h.elim fun _ a => g.elim fun _ b => ⟨_, x_times a b⟩
theorem sLesser_ok {s t : qSh} (h : qOk s) (g : qOk t) : qOk (sLesser s t) := h.elim fun _ a => g.elim fun _ b => ⟨_, x_lesser a b⟩
theorem sGreater_ok {s t : qSh} (h : qOk s) (g : qOk t) : qOk (sGreater s t) := h.elim fun _ a => g.elim fun _ b => ⟨_, x_greater a b⟩
theorem sTog_ok {s t : qSh} (h : qOk s) (g : qOk t) : qOk (sTog s t) := h.elim fun _ a => g.elim fun _ b => ⟨_, x_together a b⟩
theorem sOver_ok {s t : qSh} (h : qOk s) (g : qOk t) : qOk (sOver s t) := h.elim fun _ a => g.elim fun _ b => let ⟨r, _, q⟩ := x_over a b; ⟨r, q⟩
theorem sW_ok {k : Int} (h0 : 0 ≤ k) (h9 : k ≤ 9) : qOk (sW k) := qOk.some (by omega) (by omega) (by omega)
theorem sLSize_ok {s t : qSh} (h : qOk t) : qOk (sLSize s t) := by
  cases s with
  | none => exact qOk.none
  | some q =>
    show qOk (if 0 ≤ q.1 then t else if q.2 ≤ 0 then sNeg t else sTog t (sNeg t))
    by_cases a : 0 ≤ q.1
    · rw [if_pos a]; exact h
    · rw [if_neg a]
      by_cases b : q.2 ≤ 0
      · rw [if_pos b]; exact sNeg_ok h
      · rw [if_neg b]; exact sTog_ok h (sNeg_ok h)
theorem sLLes_ok {a b s t : qSh} (h : qOk s) (g : qOk t) : qOk (sLLes a b s t) := by
  cases a with
  | none => exact qOk.none
  | some p =>
    cases b with
    | none => exact qOk.none
    | some q =>
      show qOk (if p.2 ≤ q.1 then s else if q.2 ≤ p.1 then t else sTog s t)
      by_cases a : p.2 ≤ q.1
      · rw [if_pos a]; exact h
      · rw [if_neg a]
        by_cases b : q.2 ≤ p.1
        · rw [if_pos b]; exact g
        · rw [if_neg b]; exact sTog_ok h g
def kOk (a : qAct) : Prop := (a.1 = 1 → qOk a.2.2.2) ∧ (a.1 = 4 → a.2.1 ≤ 8)
theorem actOk.k {C : qCfg} {k j : Nat} {a : qAct} (h : actOk C k j a) : kOk a := by
  obtain ⟨t, f, g, s⟩ := a
  refine ⟨fun e => ?_, fun e => ?_⟩
  · replace e : t = 1 := e
    subst e; exact h
  · replace e : t = 4 := e
    subst e; exact h.2
theorem sAct_ok {sp : qSh} {V : Nat → qSh} {a : qAct} (hp : qOk sp) (ha : kOk a) (hV : ∀ m, m ∈ qOps a → qOk (V m)) : qOk (sAct sp V a) := by
  obtain ⟨t, f, g, s⟩ := a
  match t, ha, hV with
  | 0, ha, hV => exact hp
  | 1, ha, hV => exact ha.1 rfl
  | 2, ha, hV => have hg := hV g (List.mem_singleton.mpr rfl); exact hg
  | 3, ha, hV => have hg := hV g (List.mem_singleton.mpr rfl); exact sNeg_ok hg
  | 4, ha, hV => have hg := hV g (List.mem_singleton.mpr rfl); exact sPow_ok hg (ha.2 rfl)
  | 5, ha, hV => have hg := hV g (List.mem_singleton.mpr rfl); exact sRoot_ok hg
  | 6, ha, hV => have hg := hV g (List.mem_singleton.mpr rfl); exact sExp_ok hg
  | 7, ha, hV => have hg := hV g (List.mem_singleton.mpr rfl); exact sLog_ok hg
  | 8, ha, hV => have hg := hV g (List.mem_singleton.mpr rfl); exact sWave_ok hg
  | 9, ha, hV => have hg := hV g (List.mem_singleton.mpr rfl); exact sWave_ok hg
  | 10, ha, hV => have hg := hV g (List.mem_singleton.mpr rfl); exact sSize_ok hg
  | 11, ha, hV => have hf := hV f (List.mem_cons.mpr (Or.inl rfl)); have hg := hV g (List.mem_cons.mpr (Or.inr (List.mem_singleton.mpr rfl))); exact sLesser_ok hf hg
  | 12, ha, hV => have hf := hV f (List.mem_cons.mpr (Or.inl rfl)); have hg := hV g (List.mem_cons.mpr (Or.inr (List.mem_singleton.mpr rfl))); exact sGreater_ok hf hg
  | 13, ha, hV => have hf := hV f (List.mem_cons.mpr (Or.inl rfl)); have hg := hV g (List.mem_cons.mpr (Or.inr (List.mem_singleton.mpr rfl))); exact sPlus_ok hf hg
  | 14, ha, hV => have hf := hV f (List.mem_cons.mpr (Or.inl rfl)); have hg := hV g (List.mem_cons.mpr (Or.inr (List.mem_singleton.mpr rfl))); exact sMinus_ok hf hg
  | 15, ha, hV => have hf := hV f (List.mem_cons.mpr (Or.inl rfl)); have hg := hV g (List.mem_cons.mpr (Or.inr (List.mem_singleton.mpr rfl))); exact sTimes_ok hf hg
  | m + 16, ha, hV => have hf := hV f (List.mem_cons.mpr (Or.inl rfl)); have hg := hV g (List.mem_cons.mpr (Or.inr (List.mem_singleton.mpr rfl))); exact sOver_ok hf hg
theorem sLA_ok {V L : Nat → qSh} {n : Nat} {a : qAct} (hn : qOk (V n)) (ha : kOk a) (hV : ∀ m, m ∈ qOps a → qOk (V m)) (hL : ∀ m, m ∈ qOps a → qOk (L m)) : qOk (sLA V L n a) := by
  obtain ⟨t, f, g, s⟩ := a
  match t, ha, hV, hL with
  | 0, ha, hV, hL => exact sW_ok (by omega) (by omega)
  | 1, ha, hV, hL => exact sW_ok (by omega) (by omega)
  | 2, ha, hV, hL => have hg := hV g (List.mem_singleton.mpr rfl); have lg := hL g (List.mem_singleton.mpr rfl); exact lg
  | 3, ha, hV, hL => have hg := hV g (List.mem_singleton.mpr rfl); have lg := hL g (List.mem_singleton.mpr rfl); exact sNeg_ok lg
  | 4, ha, hV, hL =>
    have hg := hV g (List.mem_singleton.mpr rfl)
    have lg := hL g (List.mem_singleton.mpr rfl)
    have h8 : f ≤ 8 := ha.2 rfl
    show qOk (if f = 0 then L g else sTimes (sTimes (sW (f + 1)) (sPow (V g) (f - 1))) (L g))
    by_cases e : f = 0
    · rw [if_pos e]; exact lg
    · rw [if_neg e]; exact sTimes_ok (sTimes_ok (sW_ok (by omega) (by omega)) (sPow_ok hg (by omega))) lg
  | 5, ha, hV, hL => have hg := hV g (List.mem_singleton.mpr rfl); have lg := hL g (List.mem_singleton.mpr rfl); exact sOver_ok lg (sTimes_ok (sW_ok (by omega) (by omega)) hn)
  | 6, ha, hV, hL => have hg := hV g (List.mem_singleton.mpr rfl); have lg := hL g (List.mem_singleton.mpr rfl); exact sTimes_ok hn lg
  | 7, ha, hV, hL => have hg := hV g (List.mem_singleton.mpr rfl); have lg := hL g (List.mem_singleton.mpr rfl); exact sOver_ok lg hg
  | 8, ha, hV, hL => have hg := hV g (List.mem_singleton.mpr rfl); have lg := hL g (List.mem_singleton.mpr rfl); exact sTimes_ok (sWave_ok hg) lg
  | 9, ha, hV, hL => have hg := hV g (List.mem_singleton.mpr rfl); have lg := hL g (List.mem_singleton.mpr rfl); exact sNeg_ok (sTimes_ok (sWave_ok hg) lg)
  | 10, ha, hV, hL => have hg := hV g (List.mem_singleton.mpr rfl); have lg := hL g (List.mem_singleton.mpr rfl); exact sLSize_ok lg
  | 11, ha, hV, hL => have hf := hV f (List.mem_cons.mpr (Or.inl rfl)); have hg := hV g (List.mem_cons.mpr (Or.inr (List.mem_singleton.mpr rfl))); have lf := hL f (List.mem_cons.mpr (Or.inl rfl)); have lg := hL g (List.mem_cons.mpr (Or.inr (List.mem_singleton.mpr rfl))); exact sLLes_ok lf lg
  | 12, ha, hV, hL => have hf := hV f (List.mem_cons.mpr (Or.inl rfl)); have hg := hV g (List.mem_cons.mpr (Or.inr (List.mem_singleton.mpr rfl))); have lf := hL f (List.mem_cons.mpr (Or.inl rfl)); have lg := hL g (List.mem_cons.mpr (Or.inr (List.mem_singleton.mpr rfl))); exact sLLes_ok lf lg
  | 13, ha, hV, hL => have hf := hV f (List.mem_cons.mpr (Or.inl rfl)); have hg := hV g (List.mem_cons.mpr (Or.inr (List.mem_singleton.mpr rfl))); have lf := hL f (List.mem_cons.mpr (Or.inl rfl)); have lg := hL g (List.mem_cons.mpr (Or.inr (List.mem_singleton.mpr rfl))); exact sPlus_ok lf lg
  | 14, ha, hV, hL => have hf := hV f (List.mem_cons.mpr (Or.inl rfl)); have hg := hV g (List.mem_cons.mpr (Or.inr (List.mem_singleton.mpr rfl))); have lf := hL f (List.mem_cons.mpr (Or.inl rfl)); have lg := hL g (List.mem_cons.mpr (Or.inr (List.mem_singleton.mpr rfl))); exact sMinus_ok lf lg
  | 15, ha, hV, hL => have hf := hV f (List.mem_cons.mpr (Or.inl rfl)); have hg := hV g (List.mem_cons.mpr (Or.inr (List.mem_singleton.mpr rfl))); have lf := hL f (List.mem_cons.mpr (Or.inl rfl)); have lg := hL g (List.mem_cons.mpr (Or.inr (List.mem_singleton.mpr rfl))); exact sPlus_ok (sTimes_ok lf hg) (sTimes_ok hf lg)
  | m + 16, ha, hV, hL => have hf := hV f (List.mem_cons.mpr (Or.inl rfl)); have hg := hV g (List.mem_cons.mpr (Or.inr (List.mem_singleton.mpr rfl))); have lf := hL f (List.mem_cons.mpr (Or.inl rfl)); have lg := hL g (List.mem_cons.mpr (Or.inr (List.mem_singleton.mpr rfl))); exact sOver_ok (sMinus_ok (sTimes_ok lf hg) (sTimes_ok hf lg)) (sPow_ok hg (by omega))
theorem actOk_at {C : qCfg} {k j : Nat} {a : qAct} (hl : ∀ i, i < k → 1 ≤ C.len i) (hj : j < C.len k) (ho : actOk C k j a) : ∀ m, m ∈ qOps a → ∃ k' j', m = 60 * k' + j' ∧ k' ≤ k ∧ j' < C.len k' := by
  have one : ∀ g m, unOk k j g → m ∈ [g] → ∃ k' j', m = 60 * k' + j' ∧ k' ≤ k ∧ j' < C.len k' := fun g m h hm => by
    have e := List.mem_singleton.mp hm
    have h1 := h.1
    have h2 := h.2
    exact ⟨k, j - 1, by omega, Nat.le_refl _, by omega⟩
  have two : ∀ f g m, biOk k j f g → m ∈ [f, g] → ∃ k' j', m = 60 * k' + j' ∧ k' ≤ k ∧ j' < C.len k' := fun f g m h hm => by
    obtain ⟨h1, l, h2, h3⟩ := h
    rcases List.mem_cons.mp hm with e | e
    · exact ⟨k, l, by omega, Nat.le_refl _, by omega⟩
    · have := List.mem_singleton.mp e
      exact ⟨k, j - 1, by omega, Nat.le_refl _, by omega⟩
  intro m
  obtain ⟨t, af, ag, an⟩ := a
  match t, ho with
  | 0, ho => intro h; cases h
  | 1, ho => intro h; cases h
  | 2, ho =>
    intro h
    have e := List.mem_singleton.mp h
    have h1 := ho.1
    have h2 := ho.2
    have h3 := hl af h1
    exact ⟨af, C.len af - 1, by omega, by omega, by omega⟩
  | 3, ho => exact one ag m ho
  | 4, ho => exact one ag m ho.1
  | 5, ho => exact one ag m ho
  | 6, ho => exact one ag m ho
  | 7, ho => exact one ag m ho
  | 8, ho => exact one ag m ho
  | 9, ho => exact one ag m ho
  | 10, ho => exact one ag m ho
  | 11, ho => exact two af ag m ho
  | 12, ho => exact two af ag m ho
  | 13, ho => exact two af ag m ho
  | 14, ho => exact two af ag m ho
  | 15, ho => exact two af ag m ho
  | n + 16, ho => exact two af ag m ho
theorem wf_at {C : qCfg} (hw : qWF C) {k j : Nat} (hk : k < C.N) (hj : j < C.len k) : ∀ m, m ∈ qOps (C.A (60 * k + j)) → ∃ k' j', m = 60 * k' + j' ∧ k' < C.N ∧ j' < C.len k' := fun m hm => by
  obtain ⟨k', j', a1, a2, a3⟩ := actOk_at (fun i hi => (hw.2 i (by omega)).1.1) hj ((hw.2 k hk).2.1 j hj) m hm
  exact ⟨k', j', a1, by omega, a3⟩
theorem vA_ok {C : qCfg} (hw : qWF C) {sp : qSh} (hp : qOk sp) : ∀ n k j : Nat, n = 60 * k + j → k < C.N → j < C.len k → qOk (vA C.A sp n) := by
  intro n
  induction n using Nat.strongRecOn with
  | ind n ih =>
    intro k j e hk hj
    subst e
    rw [vA_step hw hk hj]
    refine sAct_ok hp ((hw.2 k hk).2.1 j hj).k (fun m hm => ?_)
    have hlt := wf_lt hw hk hj m hm
    obtain ⟨k', j', a1, a2, a3⟩ := wf_at hw hk hj m hm
    exact ih m hlt k' j' a1 a2 a3
theorem lA_ok {C : qCfg} (hw : qWF C) {sp : qSh} (hp : qOk sp) : ∀ n k j : Nat, n = 60 * k + j → k < C.N → j < C.len k → qOk (lA C.A sp n) := by
  intro n
  induction n using Nat.strongRecOn with
  | ind n ih =>
    intro k j e hk hj
    subst e
    cases hv : vA C.A sp (60 * k + j) with
    | none => rw [lA_none (wf_lt hw hk hj) hv]; exact qOk.none
    | some q =>
      rw [lA_some (wf_lt hw hk hj) hv]
      refine sLA_ok (vA_ok hw hp _ k j rfl hk hj) ((hw.2 k hk).2.1 j hj).k (fun m hm => ?_) (fun m hm => ?_)
      · obtain ⟨k', j', a1, a2, a3⟩ := wf_at hw hk hj m hm
        exact vA_ok hw hp _ k' j' a1 a2 a3
      · obtain ⟨k', j', a1, a2, a3⟩ := wf_at hw hk hj m hm
        exact ih m (wf_lt hw hk hj m hm) k' j' a1 a2 a3
