/-! a CURVE is kept: its rows are copied -/
theorem i_or (a b : Nat) : Int32.ofNat a ||| Int32.ofNat b = Int32.ofNat (a ||| b) := by
  apply Int32.toBitVec_inj.mp
  rw [Int32.toBitVec_or]
  show BitVec.ofNat 32 a ||| BitVec.ofNat 32 b = BitVec.ofNat 32 (a ||| b)
  apply BitVec.eq_of_toNat_eq
  rw [BitVec.toNat_or, BitVec.toNat_ofNat, BitVec.toNat_ofNat, BitVec.toNat_ofNat, Nat.or_mod_two_pow]
def cpF (N : Nat) (σ0 σ : zSt) : Prop := (∀ c i, ¬ ((c = 21 + 4 * N ∧ i = 3) ∨ c = 22 + 4 * N ∨ c = 24 + 4 * N) → gi σ c i = gi σ0 c i) ∧ ∀ c i, ¬ c = 23 + 4 * N → gl σ c i = gl σ0 c i
theorem x_add {k : Nat} (hk : k < 10) {d : Nat} (hd : d < 60) {σ : zSt} (g : gi σ (21 + 4 * k) 3 = Int32.ofNat d) (κ : Int32) (dt : Int64) (lf : Int32) : fX0_add k κ dt lf σ = some (si (si (sl (si σ (21 + 4 * k + 1) d κ) (21 + 4 * k + 2) d dt) (21 + 4 * k + 3) d lf) (21 + 4 * k) 3 (Int32.ofNat (d + 1))) := by
  show zg (k < 10) (fX0_add_0 k κ dt lf σ) = _
  rw [zg_pos hk]
  unfold fX0_add_0
  have e60 : (60 : Int32).toInt = 60 := by decide
  have ed := iNt (n := d) (by omega)
  have v := vin (N := 60) ed (by omega)
  have g2 : gi (si σ (21 + 4 * k + 1) d κ) (21 + 4 * k) 3 = Int32.ofNat d := by rw [gi_si, if_neg (by omega)]; exact g
  have g3 : gi (si (sl (si σ (21 + 4 * k + 1) d κ) (21 + 4 * k + 2) d dt) (21 + 4 * k + 3) d lf) (21 + 4 * k) 3 = Int32.ofNat d := by rw [gi_si, if_neg (by omega), gi_sl]; exact g2
  rw [g, if_neg (show ¬ Int32.ofNat d < 0 by rw [qI_neg0, ed]; omega), if_neg (show ¬ (60 : Int32) ≤ Int32.ofNat d by rw [qI_le, e60, ed]; omega), zg_pos v, iN_cl (n := d) (by omega), nm_eq, g2, zg_pos v, nm_eq, zg_pos v, nm_eq, iN_cl (n := d) (by omega), g3, iN_s (by omega)]
def cpR (N v : Nat) (σ0 σ : zSt) : Prop := gi σ (21 + 4 * N) 3 = Int32.ofNat v ∧ ∀ j, j < v → gi σ (21 + 4 * N + 1) j = gi σ0 58 j ∧ gl σ (21 + 4 * N + 2) j = gl σ0 59 j ∧ gi σ (21 + 4 * N + 3) j = gi σ0 60 j
theorem x_copyL {N d : Nat} (hN : N ≤ 7) (hd : d ≤ 60) {σ0 : zSt} (h0 : gi σ0 57 3 = Int32.ofNat d) : ∀ (f v F : Nat) (σ : zSt), v + f = d → f < F → cpF N σ0 σ → cpR N v σ0 σ → ∃ σ', fX0_copy_L7 F N 9 (Int32.ofNat v) σ = some σ' ∧ cpF N σ0 σ' ∧ cpR N d σ0 σ' := by
  have e60 : (60 : Int32).toInt = 60 := by decide
  intro f
  induction f with
  | zero =>
    intro v F σ h1 h2 h3 h4
    obtain ⟨F, rfl⟩ : ∃ F', F = F' + 1 := ⟨F - 1, by omega⟩
    rw [fX0_copy_L7]
    unfold fX0_copy_7
    rw [show gi σ (21 + 4 * 9) 3 = Int32.ofNat d by rw [h3.1 _ _ (by omega)]; exact h0, if_pos (show Int32.ofNat d ≤ Int32.ofNat v by rw [qI_le, iNt (by omega), iNt (by omega)]; omega)]
    rw [show v = d by omega] at h4
    exact ⟨σ, rfl, h3, h4⟩
  | succ f ih =>
    intro v F σ h1 h2 h3 h4
    obtain ⟨F, rfl⟩ : ∃ F', F = F' + 1 := ⟨F - 1, by omega⟩
    have vv := vin (N := 60) (iNt (n := v) (by omega)) (by omega)
    rw [fX0_copy_L7]
    unfold fX0_copy_7
    rw [show gi σ (21 + 4 * 9) 3 = Int32.ofNat d by rw [h3.1 _ _ (by omega)]; exact h0, if_neg (show ¬ Int32.ofNat d ≤ Int32.ofNat v by rw [qI_le, iNt (by omega), iNt (by omega)]; omega), if_neg (show ¬ (60 : Int32) ≤ Int32.ofNat v by rw [qI_le, e60, iNt (by omega)]; omega), zg_pos vv, zg_pos vv, zg_pos vv, iN_cl (n := v) (by omega), show gi σ (21 + 4 * 9 + 1) v = gi σ0 58 v from h3.1 _ _ (by omega), show gl σ (21 + 4 * 9 + 2) v = gl σ0 59 v from h3.2 _ _ (by omega), show gi σ (21 + 4 * 9 + 3) v = gi σ0 60 v from h3.1 _ _ (by omega), x_add (by omega) (by omega) h4.1, bd1_some, nm_eq, iN_s (by omega)]
    refine ih (v + 1) F _ (by omega) (by omega) ⟨fun c i q => ?_, fun c i q => ?_⟩ ⟨by rw [gi_si, if_pos (by omega)], fun j hj => ?_⟩
    · rw [gi_si, if_neg (by omega), gi_si, if_neg (by omega), gi_sl, gi_si, if_neg (by omega)]; exact h3.1 c i q
    · rw [gl_si, gl_si, gl_sl, if_neg (by omega), gl_si]; exact h3.2 c i q
    · by_cases x : j = v
      · rw [x]
        refine ⟨?_, ?_, ?_⟩
        · rw [gi_si, if_neg (by omega), gi_si, if_neg (by omega), gi_sl, gi_si, if_pos (by omega)]
        · rw [gl_si, gl_si, gl_sl, if_pos (by omega)]
        · rw [gi_si, if_neg (by omega), gi_si, if_pos (by omega)]
      · obtain ⟨a, b, c⟩ := h4.2 j (by omega)
        refine ⟨?_, ?_, ?_⟩
        · rw [gi_si, if_neg (by omega), gi_si, if_neg (by omega), gi_sl, gi_si, if_neg (by omega)]; exact a
        · rw [gl_si, gl_si, gl_sl, if_neg (by omega), gl_si]; exact b
        · rw [gi_si, if_neg (by omega), gi_si, if_neg (by omega), gi_sl, gi_si, if_neg (by omega)]; exact c
theorem x_copy {N d : Nat} (hN : N ≤ 7) (hd : d ≤ 60) {σ : zSt} (h0 : gi σ 57 3 = Int32.ofNat d) : ∃ σ', fX0_copy N 9 σ = some σ' ∧ cpF N σ σ' ∧ cpR N d σ σ' := by
  obtain ⟨Z, hZ⟩ := zFU_ge 1000 (by omega)
  show ∃ σ', zg (N < 10) (zg (9 < 10) (fX0_copy_0 N 9 σ)) = _ ∧ _
  rw [zg_pos (by omega), zg_pos (by omega)]
  unfold fX0_copy_0
  have h0' : gi (si σ (21 + 4 * N) 3 0) 57 3 = Int32.ofNat d := by rw [gi_si, if_neg (by omega)]; exact h0
  obtain ⟨σ', a, b, c⟩ := x_copyL hN hd h0' d 0 zFU _ (by omega) (by omega) ⟨fun _ _ _ => rfl, fun _ _ _ => rfl⟩ ⟨by rw [gi_si, if_pos (by omega)]; rfl, fun j hj => by omega⟩
  refine ⟨σ', a, ⟨fun c i q => ?_, fun c i q => ?_⟩, c.1, fun j hj => ?_⟩
  · rw [b.1 c i q, gi_si, if_neg (by omega)]
  · exact b.2 c i q
  · obtain ⟨c1, c2, c3⟩ := c.2 j hj
    exact ⟨by rw [c1, gi_si, if_neg (by omega)], c2, by rw [c3, gi_si, if_neg (by omega)]⟩
/-! degrees -/
theorem dAct_cg {V W : Nat → Int} {a : qAct} (h : ∀ m, m ∈ qOps a → V m = W m) : dAct V a = dAct W a := by
  rcases a with ⟨_ | _ | _ | _ | _ | _ | _ | _ | _ | _ | _ | _ | _ | _ | _ | _ | t, f, g, s⟩ <;> simp only [qOps, List.mem_cons, List.not_mem_nil, or_false, forall_eq_or_imp, forall_eq] at h <;> simp only [dAct, h]
theorem dAct_bd {V : Nat → Int} {a : qAct} (h : ∀ m, m ∈ qOps a → -1 ≤ V m ∧ V m ≤ 1000) : -1 ≤ dAct V a ∧ dAct V a ≤ 1000 := by
  obtain ⟨t, f, g, s⟩ := a
  match t, h with
  | 0, h => show -1 ≤ (1 : Int) ∧ (1 : Int) ≤ 1000; omega
  | 1, h => show -1 ≤ (0 : Int) ∧ (0 : Int) ≤ 1000; omega
  | 2, h => exact h g (List.mem_singleton.mpr rfl)
  | 3, h => exact h g (List.mem_singleton.mpr rfl)
  | 4, h =>
    have := h g (List.mem_singleton.mpr rfl)
    show -1 ≤ (if V g = -1 then (-1 : Int) else min 1000 (V g * (f + 1))) ∧ (if V g = -1 then (-1 : Int) else min 1000 (V g * (f + 1))) ≤ 1000
    by_cases q : V g = -1
    · rw [if_pos q]; omega
    · have p2 : 0 ≤ V g * (f + 1) := Int.mul_nonneg (by omega) (by omega)
      rw [if_neg q]; omega
  | 5, h => show -1 ≤ (-1 : Int) ∧ (-1 : Int) ≤ 1000; omega
  | 6, h => show -1 ≤ (-1 : Int) ∧ (-1 : Int) ≤ 1000; omega
  | 7, h => show -1 ≤ (-1 : Int) ∧ (-1 : Int) ≤ 1000; omega
  | 8, h => show -1 ≤ (-1 : Int) ∧ (-1 : Int) ≤ 1000; omega
  | 9, h => show -1 ≤ (-1 : Int) ∧ (-1 : Int) ≤ 1000; omega
  | 10, h => show -1 ≤ (-1 : Int) ∧ (-1 : Int) ≤ 1000; omega
  | 11, h => show -1 ≤ (-1 : Int) ∧ (-1 : Int) ≤ 1000; omega
  | 12, h => show -1 ≤ (-1 : Int) ∧ (-1 : Int) ≤ 1000; omega
  | 13, h =>
    have hf := h f (List.mem_cons.mpr (Or.inl rfl))
    have hg := h g (List.mem_cons.mpr (Or.inr (List.mem_singleton.mpr rfl)))
    show -1 ≤ (if V f = -1 ∨ V g = -1 then (-1 : Int) else max (V f) (V g)) ∧ (if V f = -1 ∨ V g = -1 then (-1 : Int) else max (V f) (V g)) ≤ 1000
    split <;> omega
  | 14, h =>
    have hf := h f (List.mem_cons.mpr (Or.inl rfl))
    have hg := h g (List.mem_cons.mpr (Or.inr (List.mem_singleton.mpr rfl)))
    show -1 ≤ (if V f = -1 ∨ V g = -1 then (-1 : Int) else max (V f) (V g)) ∧ (if V f = -1 ∨ V g = -1 then (-1 : Int) else max (V f) (V g)) ≤ 1000
    split <;> omega
  | 15, h =>
    have hf := h f (List.mem_cons.mpr (Or.inl rfl))
    have hg := h g (List.mem_cons.mpr (Or.inr (List.mem_singleton.mpr rfl)))
    show -1 ≤ (if V f = -1 ∨ V g = -1 then (-1 : Int) else min 1000 (V f + V g)) ∧ (if V f = -1 ∨ V g = -1 then (-1 : Int) else min 1000 (V f + V g)) ≤ 1000
    split <;> omega
  | m + 16, h => show -1 ≤ (-1 : Int) ∧ (-1 : Int) ≤ 1000; omega
def dTb (A : Nat → qAct) (D : Nat → Int) (b : Nat) : Nat → Nat → Int
  | 0 => D
  | j + 1 => fun x => if x = b + j then dAct (dTb A D b j) (A j) else dTb A D b j x
theorem dTb_lo {A : Nat → qAct} {D : Nat → Int} {b : Nat} : ∀ (j x : Nat), x < b → dTb A D b j x = D x := by
  intro j
  induction j with
  | zero => intro x h; rfl
  | succ j ih =>
    intro x h
    rw [dTb]
    show (if x = b + j then dAct (dTb A D b j) (A j) else dTb A D b j x) = D x
    rw [if_neg (by omega)]; exact ih x h
theorem dTb_st {A : Nat → qAct} {D : Nat → Int} {b : Nat} : ∀ (k j x : Nat), x < b + j → dTb A D b (j + k) x = dTb A D b j x := by
  intro k
  induction k with
  | zero => intro j x h; rfl
  | succ k ih =>
    intro j x h
    show (if x = b + (j + k) then dAct (dTb A D b (j + k)) (A (j + k)) else dTb A D b (j + k) x) = _
    rw [if_neg (by omega)]; exact ih j x h
theorem dTb_at {A : Nat → qAct} {D : Nat → Int} {b d j : Nat} (hj : j < d) (h : ∀ m, m ∈ qOps (A j) → m < b + j) : dTb A D b d (b + j) = dAct (dTb A D b d) (A j) := by
  have e1 : dTb A D b d (b + j) = dTb A D b (j + 1) (b + j) := by
    rw [show d = j + 1 + (d - j - 1) by omega]; exact dTb_st _ _ _ (by omega)
  have e2 : dTb A D b (j + 1) (b + j) = dAct (dTb A D b j) (A j) := by
    show (if b + j = b + j then _ else _) = _
    rw [if_pos rfl]
  rw [e1, e2]
  exact dAct_cg fun m hm => by
    rw [show d = j + (d - j) by omega]; exact (dTb_st _ _ _ (h m hm)).symm
