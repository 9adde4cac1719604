/-! ACTS, and what they are over a span -/
def qOk (s : qSh) : Prop := ∃ f, xS f s
theorem xS.ok {f : Int64} {s : qSh} (h : xS f s) : qOk s := ⟨f, h⟩
theorem qOk.rng {q : Int × Int} (h : qOk (some q)) : -2147483648 ≤ q.1 ∧ q.1 ≤ q.2 ∧ q.2 ≤ 2147483647 := by
  obtain ⟨f, -, -, -, h1, h2, h3⟩ := h
  exact ⟨h1, h2, h3⟩
theorem qOk.none : qOk none := ⟨4294967296, rfl⟩
theorem qOk.some {a b : Int} (h1 : -2147483648 ≤ a) (h2 : a ≤ b) (h3 : b ≤ 2147483647) : qOk (some (a, b)) := by
  have := x_of (x := Int64.ofInt a) (y := Int64.ofInt b)
  have ea : (Int64.ofInt a).toInt = a := Int64.toInt_ofInt_of_le (by omega) (by omega)
  have eb : (Int64.ofInt b).toInt = b := Int64.toInt_ofInt_of_le (by omega) (by omega)
  rw [ea, eb] at this
  have h := this h2
  rw [sOf_in h1 h2 h3] at h
  exact ⟨_, h⟩
/-- (kind, first, last, number): kinds as ShutBench's: 0 x, 1 number, 2 CURVE first whose last ACT is last, 3 -, 4 power (first + 1), 5 root, 6 exp, 7 log, 8 sin, 9 cos, 10 size, 11 lesser, 12 greater, 13 +, 14 -, 15 *, 16 / -/
abbrev qAct : Type := Nat × Nat × Nat × qSh
def qOps : qAct → List Nat
  | (0, _, _, _) => []
  | (1, _, _, _) => []
  | (2, _, m, _) => [m]
  | (3, _, g, _) => [g]
  | (4, _, g, _) => [g]
  | (5, _, g, _) => [g]
  | (6, _, g, _) => [g]
  | (7, _, g, _) => [g]
  | (8, _, g, _) => [g]
  | (9, _, g, _) => [g]
  | (10, _, g, _) => [g]
  | (11, f, g, _) => [f, g]
  | (12, f, g, _) => [f, g]
  | (13, f, g, _) => [f, g]
  | (14, f, g, _) => [f, g]
  | (15, f, g, _) => [f, g]
  | (_ + 16, f, g, _) => [f, g]
noncomputable def sAct (sp : qSh) (v : Nat → qSh) : qAct → qSh
  | (0, _, _, _) => sp
  | (1, _, _, s) => s
  | (2, _, m, _) => v m
  | (3, _, g, _) => sNeg (v g)
  | (4, j, g, _) => sPow (v g) j
  | (5, _, g, _) => sRoot (v g)
  | (6, _, g, _) => sExp (v g)
  | (7, _, g, _) => sLog (v g)
  | (8, _, g, _) => sWave false (v g)
  | (9, _, g, _) => sWave true (v g)
  | (10, _, g, _) => sSize (v g)
  | (11, f, g, _) => sLesser (v f) (v g)
  | (12, f, g, _) => sGreater (v f) (v g)
  | (13, f, g, _) => sPlus (v f) (v g)
  | (14, f, g, _) => sMinus (v f) (v g)
  | (15, f, g, _) => sTimes (v f) (v g)
  | (_ + 16, f, g, _) => sOver (v f) (v g)
def sW (k : Int) : qSh := some (k * 1048576, k * 1048576)
def sLSize : qSh → qSh → qSh
  | none, _ => none
  | some q, l => if 0 ≤ q.1 then l else if q.2 ≤ 0 then sNeg l else sTog l (sNeg l)
def sLLes : qSh → qSh → qSh → qSh → qSh
  | some a, some b, l, m => if a.2 ≤ b.1 then l else if b.2 ≤ a.1 then m else sTog l m
  | _, _, _, _ => none
noncomputable def sLA (v l : Nat → qSh) (n : Nat) : qAct → qSh
  | (0, _, _, _) => sW 1
  | (1, _, _, _) => sW 0
  | (2, _, m, _) => l m
  | (3, _, g, _) => sNeg (l g)
  | (4, j, g, _) => if j = 0 then l g else sTimes (sTimes (sW (j + 1)) (sPow (v g) (j - 1))) (l g)
  | (5, _, g, _) => sOver (l g) (sTimes (sW 2) (v n))
  | (6, _, g, _) => sTimes (v n) (l g)
  | (7, _, g, _) => sOver (l g) (v g)
  | (8, _, g, _) => sTimes (sWave true (v g)) (l g)
  | (9, _, g, _) => sNeg (sTimes (sWave false (v g)) (l g))
  | (10, _, g, _) => sLSize (v g) (l g)
  | (11, f, g, _) => sLLes (v f) (v g) (l f) (l g)
  | (12, f, g, _) => sLLes (v g) (v f) (l f) (l g)
  | (13, f, g, _) => sPlus (l f) (l g)
  | (14, f, g, _) => sMinus (l f) (l g)
  | (15, f, g, _) => sPlus (sTimes (l f) (v g)) (sTimes (v f) (l g))
  | (_ + 16, f, g, _) => sOver (sMinus (sTimes (l f) (v g)) (sTimes (v f) (l g))) (sPow (v g) 1)
theorem sAct_cg {sp : qSh} {v w : Nat → qSh} {a : qAct} (h : ∀ m, m ∈ qOps a → v m = w m) : sAct sp v a = sAct sp w a := by
  rcases a with ⟨_ | _ | _ | _ | _ | _ | _ | _ | _ | _ | _ | _ | _ | _ | _ | _ | t, f, g, s⟩ <;> simp only [qOps, List.mem_cons, List.not_mem_nil, or_false, forall_eq_or_imp, forall_eq] at h <;> simp only [sAct, h]
theorem sLA_cg {v l w : Nat → qSh} {n : Nat} {a : qAct} (h : ∀ m, m ∈ qOps a → l m = w m) : sLA v l n a = sLA v w n a := by
  rcases a with ⟨_ | _ | _ | _ | _ | _ | _ | _ | _ | _ | _ | _ | _ | _ | _ | _ | t, f, g, s⟩ <;> simp only [qOps, List.mem_cons, List.not_mem_nil, or_false, forall_eq_or_imp, forall_eq] at h <;> simp only [sLA, h]
/-- an ACT on a HOLE is one -/
theorem two_none {F : qSh → qSh → qSh} {v : Nat → qSh} {f g m : Nat} (h1 : ∀ u, F none u = none) (h2 : ∀ u, F u none = none) (h : m ∈ [f, g]) (hv : v m = none) : F (v f) (v g) = none := by
  rcases List.mem_cons.mp h with e | e
  · subst e; rw [hv]; exact h1 _
  · have := List.mem_singleton.mp e
    subst this; rw [hv]; exact h2 _
theorem one_none {F : qSh → qSh} {v : Nat → qSh} {g m : Nat} (h1 : F none = none) (h : m ∈ [g]) (hv : v m = none) : F (v g) = none := by
  have := List.mem_singleton.mp h
  subst this; rw [hv]; exact h1
theorem sAct_none {sp : qSh} {v : Nat → qSh} {a : qAct} {m : Nat} (h : m ∈ qOps a) (hv : v m = none) : sAct sp v a = none := by
  obtain ⟨t, f, g, s⟩ := a
  match t, h with
  | 0, h => cases h
  | 1, h => cases h
  | 2, h => exact one_none (F := fun s => s) rfl h hv
  | 3, h => exact one_none (F := sNeg) rfl h hv
  | 4, h => exact one_none (F := fun s => sPow s f) rfl h hv
  | 5, h => exact one_none (F := sRoot) rfl h hv
  | 6, h => exact one_none (F := sExp) rfl h hv
  | 7, h => exact one_none (F := sLog) rfl h hv
  | 8, h => exact one_none (F := sWave false) rfl h hv
  | 9, h => exact one_none (F := sWave true) rfl h hv
  | 10, h => exact one_none (F := sSize) rfl h hv
  | 11, h => exact two_none (F := sLesser) (fun u => by cases u <;> rfl) (fun u => by cases u <;> rfl) h hv
  | 12, h => exact two_none (F := sGreater) (fun u => by cases u <;> rfl) (fun u => by cases u <;> rfl) h hv
  | 13, h => exact two_none (F := sPlus) (fun u => by cases u <;> rfl) (fun u => by cases u <;> rfl) h hv
  | 14, h => exact two_none (F := sMinus) (fun u => by cases u <;> rfl) (fun u => by cases u <;> rfl) h hv
  | 15, h => exact two_none (F := sTimes) (fun u => by cases u <;> rfl) (fun u => by cases u <;> rfl) h hv
  | n + 16, h => exact two_none (F := sOver) (fun u => by cases u <;> rfl) (fun u => by cases u <;> rfl) h hv
/-- the values of ACTS, one behind the other -/
noncomputable def vT (A : Nat → qAct) (sp : qSh) : Nat → Nat → qSh
  | 0 => fun _ => none
  | n + 1 => fun m => if m = n then sAct sp (vT A sp n) (A n) else vT A sp n m
noncomputable def vA (A : Nat → qAct) (sp : qSh) (n : Nat) : qSh := vT A sp (n + 1) n
theorem vT_lt {A : Nat → qAct} {sp : qSh} : ∀ (n m : Nat), m < n → vT A sp n m = vA A sp m := by
  intro n
  induction n with
  | zero => intro m h; omega
  | succ n ih =>
    intro m h
    by_cases e : m = n
    · subst e; rfl
    · have : vT A sp (n + 1) m = vT A sp n m := by rw [vT]; exact if_neg e
      rw [this]; exact ih m (by omega)
theorem vA_eq {A : Nat → qAct} {sp : qSh} {n : Nat} (h : ∀ m, m ∈ qOps (A n) → m < n) : vA A sp n = sAct sp (vA A sp) (A n) := by
  have e : vA A sp n = sAct sp (vT A sp n) (A n) := by unfold vA; rw [vT]; exact if_pos rfl
  rw [e]
  exact sAct_cg fun m hm => vT_lt n m (h m hm)
noncomputable def lT (A : Nat → qAct) (sp : qSh) : Nat → Nat → qSh
  | 0 => fun _ => none
  | n + 1 => fun m => if m = n then (if (vA A sp n).isSome then sLA (vA A sp) (lT A sp n) n (A n) else none) else lT A sp n m
noncomputable def lA (A : Nat → qAct) (sp : qSh) (n : Nat) : qSh := lT A sp (n + 1) n
theorem lT_lt {A : Nat → qAct} {sp : qSh} : ∀ (n m : Nat), m < n → lT A sp n m = lA A sp m := by
  intro n
  induction n with
  | zero => intro m h; omega
  | succ n ih =>
    intro m h
    by_cases e : m = n
    · subst e; rfl
    · have : lT A sp (n + 1) m = lT A sp n m := by rw [lT]; exact if_neg e
      rw [this]; exact ih m (by omega)
theorem lA_eq {A : Nat → qAct} {sp : qSh} {n : Nat} (h : ∀ m, m ∈ qOps (A n) → m < n) : lA A sp n = if (vA A sp n).isSome then sLA (vA A sp) (lA A sp) n (A n) else none := by
  have e : lA A sp n = if (vA A sp n).isSome then sLA (vA A sp) (lT A sp n) n (A n) else none := by unfold lA; rw [lT]; exact if_pos rfl
  rw [e]
  split
  · exact sLA_cg fun m hm => lT_lt n m (h m hm)
  · rfl
theorem lA_none {A : Nat → qAct} {sp : qSh} {n : Nat} (h : ∀ m, m ∈ qOps (A n) → m < n) (hv : vA A sp n = none) : lA A sp n = none := by
  rw [lA_eq h, hv]; rfl
theorem lA_some {A : Nat → qAct} {sp : qSh} {n : Nat} {q : Int × Int} (h : ∀ m, m ∈ qOps (A n) → m < n) (hv : vA A sp n = some q) : lA A sp n = sLA (vA A sp) (lA A sp) n (A n) := by
  rw [lA_eq h, hv]; rfl
