/-! the state: what fields and rows hold, by the number of the cell and of the place; ints (booleans, bytes) and longs -/
abbrev zSt : Type := (Nat → Nat → Int32) × (Nat → Nat → Int64)
def gi (σ : zSt) (c k : Nat) : Int32 := σ.1 c k
def gl (σ : zSt) (c k : Nat) : Int64 := σ.2 c k
def si (σ : zSt) (c k : Nat) (v : Int32) : zSt := (fun c' k' => if c' = c ∧ k' = k then v else σ.1 c' k', σ.2)
def sl (σ : zSt) (c k : Nat) (v : Int64) : zSt := (σ.1, fun c' k' => if c' = c ∧ k' = k then v else σ.2 c' k')
def nm {α β : Type} (e : α) (f : α → β) : β := f e
noncomputable def zg {α : Type} (c : Prop) (x : Option α) : Option α := @ite _ c (Classical.propDecidable c) x none
theorem zg_pos {α : Type} {c : Prop} {x : Option α} (h : c) : zg c x = x := if_pos h
theorem zg_out {α : Type} {c : Prop} {x : Option α} {v : α} (h : zg c x = some v) : c ∧ x = some v := by
  by_cases q : c
  · exact ⟨q, by rw [zg_pos q] at h; exact h⟩
  · rw [zg, if_neg q] at h; cases h
def bd1 {α γ : Type} (x : Option α) (f : α → Option γ) : Option γ := match x with
  | some a => f a
  | none => none
def bd2 {α β γ : Type} (x : Option (α × β)) (f : α → β → Option γ) : Option γ := match x with
  | some (a, b) => f a b
  | none => none
theorem bd1_out {α γ : Type} {x : Option α} {f : α → Option γ} {v : γ} (h : bd1 x f = some v) : ∃ a, x = some a ∧ f a = some v := by
  cases x with
  | none => cases h
  | some a => exact ⟨a, rfl, h⟩
theorem bd2_out {α β γ : Type} {x : Option (α × β)} {f : α → β → Option γ} {v : γ} (h : bd2 x f = some v) : ∃ a b, x = some (a, b) ∧ f a b = some v := by
  cases x with
  | none => cases h
  | some q => exact ⟨q.1, q.2, rfl, h⟩
def jshrL (x : Int64) (y : Int32) : Int64 := x >>> (y.toInt64 &&& 63)
def jshlL (x : Int64) (y : Int32) : Int64 := x <<< (y.toInt64 &&& 63)
def jushrI (x y : Int32) : Int32 := (x.toUInt32 >>> (y.toUInt32 &&& Int32.toUInt32 31)).toInt32
def jshlI (x y : Int32) : Int32 := x <<< (y &&& 31)
def jshrI (x y : Int32) : Int32 := x >>> (y &&& 31)
def jremI (x y : Int32) : Int32 := x - x / y * y
def jremL (x y : Int64) : Int64 := x - x / y * y
def jmaxL (x y : Int64) : Int64 := if x < y then y else x
def jminL (x y : Int64) : Int64 := if y < x then y else x
/-! the world -/
abbrev zGt : Type := va_G × (Nat → Nat) × (Nat → Nat) × (Nat → Nat) × (Nat → ClassId)
abbrev gA (G : zGt) : Nat → Nat := G.2.1
abbrev gC (G : zGt) : Nat → ClassId := G.2.2.2.2
abbrev gTys (G : zGt) : List (ClassId × FieldType) := [(gC G 0, .int), (gC G 1, .long), (gC G 2, .byte), (gC G 3, .boolean), (gC G 4, .object "ShutBench$Curve")]
def zSc (G : zGt) (k : Nat) (j : Nat) (f : Nat → Int32) (g : Nat → Int64) : va_E :=
  if j = 0 then .inr (0, [.ref (gA G (21+4*k+1)), .ref (gA G (21+4*k+2)), .ref (gA G (21+4*k+3)), .int (f 3), .int (f 4), .int (f 5), .int (f 6)]) else if j = 1 then .inl (gC G 0, 60, .inl f) else if j = 2 then .inl (gC G 1, 60, .inr (.inl g)) else .inl (gC G 0, 60, .inl f)
def zSx (G : zGt) (c : Nat) (f : Nat → Int32) (g : Nat → Int64) : va_E :=
  if c = 0 then .inr (6, [.ref (gA G (1)), .ref (gA G (3)), .ref (gA G (4)), .ref (gA G (5)), .long (g 4), .long (g 5), .int (f 6), .int (f 7)]) else
  if c = 1 then .inr (3, [.ref (gA G (2)), .ref (gA G (21+4*9)), .int (f 2), .int (f 3), .int (f 4), .int (f 5)]) else
  if c = 2 then .inr (4, [.ref (gA G (6)), .int (f 1)]) else
  if c = 3 then .inr (1, [.ref (gA G (7)), .ref (gA G (21+4*8)), .ref (gA G (8)), .ref (gA G (9)), .ref (gA G (10)), .ref (gA G (11)), .ref (gA G (12)), .long (g 7), .int (f 8), .long (g 9)]) else
  if c = 4 then .inr (2, [.ref (gA G (13)), .ref (gA G (14)), .ref (gA G (15)), .ref (gA G (16)), .int (f 4), .long (g 5), .long (g 6)]) else
  if c = 5 then .inr (5, [.ref (gA G (17)), .ref (gA G (18)), .ref (gA G (19)), .ref (gA G (20)), .int (f 4), .int (f 5), .int (f 6), .int (f 7)]) else
  if c = 6 then .inl (gC G 0, 200, .inl f) else
  if c = 7 then .inl (gC G 4, 8, .inr (.inr (.inr (.inr (fun j => some (gA G (21 + 4 * j))))))) else
  if c = 8 then .inl (gC G 0, 60, .inl f) else
  if c = 9 then .inl (gC G 1, 60, .inr (.inl g)) else
  if c = 10 then .inl (gC G 1, 60, .inr (.inl g)) else
  if c = 11 then .inl (gC G 1, 8, .inr (.inl g)) else
  if c = 12 then .inl (gC G 1, 8, .inr (.inl g)) else
  if c = 13 then .inl (gC G 0, 201, .inl f) else
  if c = 14 then .inl (gC G 0, 201, .inl f) else
  if c = 15 then .inl (gC G 1, 201, .inr (.inl g)) else
  if c = 16 then .inl (gC G 1, 201, .inr (.inl g)) else
  if c = 17 then .inl (gC G 0, 64, .inl f) else
  if c = 18 then .inl (gC G 0, 60, .inl f) else
  if c = 19 then .inl (gC G 0, 60, .inl f) else
  .inl (gC G 0, 60, .inl f)
def zSm (G : zGt) (c : Nat) (f : Nat → Int32) (g : Nat → Int64) : va_E :=
  if c = 61 then .inr (7, [.int (f 0), .ref (gA G (62)), .int (f 2), .int (f 3), .ref (gA G (63)), .ref (gA G (64)), .ref (gA G (65)), .ref (gA G (66)), .ref (gA G (67)), .ref (gA G (68)), .int (f 10), .int (f 11), .int (f 12), .int (f 13), .int (f 14), .int (f 15), .ref (gA G (69)), .ref (gA G (70)), .ref (gA G (71)), .long (g 19), .long (g 20), .int (f 21), .int (f 22), .ref (gA G (72)), .ref (gA G (73)), .ref (gA G (74)), .ref (gA G (75)), .ref (gA G (76)), .ref (gA G (77)), .long (g 29), .long (g 30), .long (g 31), .long (g 32), .int (f 33), .ref (gA G (78)), .ref (gA G (79)), .ref (gA G (80)), .ref (gA G (81)), .int (f 38), .int (f 39), .int (f 40), .ref (gA G (82)), .ref (gA G (83)), .ref (gA G (84))]) else
  if c = 62 then .inl (gC G 2, 200, .inl f) else
  if c = 63 then .inl (gC G 0, 8, .inl f) else
  if c = 64 then .inl (gC G 0, 480, .inl f) else
  if c = 65 then .inl (gC G 0, 480, .inl f) else
  if c = 66 then .inl (gC G 0, 480, .inl f) else
  if c = 67 then .inl (gC G 1, 480, .inr (.inl g)) else
  if c = 68 then .inl (gC G 1, 480, .inr (.inl g)) else
  if c = 69 then .inl (gC G 0, 8, .inl f) else
  if c = 70 then .inl (gC G 0, 8, .inl f) else
  if c = 71 then .inl (gC G 0, 480, .inl f) else
  if c = 72 then .inl (gC G 1, 480, .inr (.inl g)) else
  if c = 73 then .inl (gC G 1, 480, .inr (.inl g)) else
  if c = 74 then .inl (gC G 1, 480, .inr (.inl g)) else
  if c = 75 then .inl (gC G 1, 480, .inr (.inl g)) else
  if c = 76 then .inl (gC G 3, 480, .inl f) else
  if c = 77 then .inl (gC G 3, 480, .inl f) else
  if c = 78 then .inl (gC G 1, 260, .inr (.inl g)) else
  if c = 79 then .inl (gC G 1, 260, .inr (.inl g)) else
  if c = 80 then .inl (gC G 1, 260, .inr (.inl g)) else
  if c = 81 then .inl (gC G 1, 260, .inr (.inl g)) else
  if c = 82 then .inl (gC G 1, 130, .inr (.inl g)) else
  if c = 83 then .inl (gC G 1, 130, .inr (.inl g)) else
  .inl (gC G 0, 130, .inl f)
def zS (G : zGt) (c : Nat) (f : Nat → Int32) (g : Nat → Int64) : va_E := if c < 21 then zSx G c f g else if c < 61 then zSc G ((c - 21) / 4) ((c - 21) % 4) f g else zSm G c f g
theorem zS_c0 (G : zGt) {k : Nat} (hk : k < 10) (f : Nat → Int32) (g : Nat → Int64) : zS G (21 + 4 * k) f g = zSc G k 0 f g := by
  rw [zS, if_neg (by omega), if_pos (by omega), show (21 + 4 * k - 21) / 4 = k by omega, show (21 + 4 * k - 21) % 4 = 0 by omega]
theorem zS_cj (G : zGt) {k j : Nat} (hk : k < 10) (hj : j < 4) (f : Nat → Int32) (g : Nat → Int64) : zS G (21 + 4 * k + j) f g = zSc G k j f g := by
  rw [zS, if_neg (by omega), if_pos (by omega), show (21 + 4 * k + j - 21) / 4 = k by omega, show (21 + 4 * k + j - 21) % 4 = j by omega]
theorem zS_0 (G : zGt) (f : Nat → Int32) (g : Nat → Int64) : zS G 0 f g = .inr (6, [.ref (gA G (1)), .ref (gA G (3)), .ref (gA G (4)), .ref (gA G (5)), .long (g 4), .long (g 5), .int (f 6), .int (f 7)]) := rfl
theorem zS_1 (G : zGt) (f : Nat → Int32) (g : Nat → Int64) : zS G 1 f g = .inr (3, [.ref (gA G (2)), .ref (gA G (21+4*9)), .int (f 2), .int (f 3), .int (f 4), .int (f 5)]) := rfl
theorem zS_2 (G : zGt) (f : Nat → Int32) (g : Nat → Int64) : zS G 2 f g = .inr (4, [.ref (gA G (6)), .int (f 1)]) := rfl
theorem zS_3 (G : zGt) (f : Nat → Int32) (g : Nat → Int64) : zS G 3 f g = .inr (1, [.ref (gA G (7)), .ref (gA G (21+4*8)), .ref (gA G (8)), .ref (gA G (9)), .ref (gA G (10)), .ref (gA G (11)), .ref (gA G (12)), .long (g 7), .int (f 8), .long (g 9)]) := rfl
theorem zS_4 (G : zGt) (f : Nat → Int32) (g : Nat → Int64) : zS G 4 f g = .inr (2, [.ref (gA G (13)), .ref (gA G (14)), .ref (gA G (15)), .ref (gA G (16)), .int (f 4), .long (g 5), .long (g 6)]) := rfl
theorem zS_5 (G : zGt) (f : Nat → Int32) (g : Nat → Int64) : zS G 5 f g = .inr (5, [.ref (gA G (17)), .ref (gA G (18)), .ref (gA G (19)), .ref (gA G (20)), .int (f 4), .int (f 5), .int (f 6), .int (f 7)]) := rfl
theorem zS_6 (G : zGt) (f : Nat → Int32) (g : Nat → Int64) : zS G 6 f g = .inl (gC G 0, 200, .inl f) := rfl
theorem zS_7 (G : zGt) (f : Nat → Int32) (g : Nat → Int64) : zS G 7 f g = .inl (gC G 4, 8, .inr (.inr (.inr (.inr (fun j => some (gA G (21 + 4 * j))))))) := rfl
theorem zS_8 (G : zGt) (f : Nat → Int32) (g : Nat → Int64) : zS G 8 f g = .inl (gC G 0, 60, .inl f) := rfl
theorem zS_9 (G : zGt) (f : Nat → Int32) (g : Nat → Int64) : zS G 9 f g = .inl (gC G 1, 60, .inr (.inl g)) := rfl
theorem zS_10 (G : zGt) (f : Nat → Int32) (g : Nat → Int64) : zS G 10 f g = .inl (gC G 1, 60, .inr (.inl g)) := rfl
theorem zS_11 (G : zGt) (f : Nat → Int32) (g : Nat → Int64) : zS G 11 f g = .inl (gC G 1, 8, .inr (.inl g)) := rfl
theorem zS_12 (G : zGt) (f : Nat → Int32) (g : Nat → Int64) : zS G 12 f g = .inl (gC G 1, 8, .inr (.inl g)) := rfl
theorem zS_13 (G : zGt) (f : Nat → Int32) (g : Nat → Int64) : zS G 13 f g = .inl (gC G 0, 201, .inl f) := rfl
theorem zS_14 (G : zGt) (f : Nat → Int32) (g : Nat → Int64) : zS G 14 f g = .inl (gC G 0, 201, .inl f) := rfl
theorem zS_15 (G : zGt) (f : Nat → Int32) (g : Nat → Int64) : zS G 15 f g = .inl (gC G 1, 201, .inr (.inl g)) := rfl
theorem zS_16 (G : zGt) (f : Nat → Int32) (g : Nat → Int64) : zS G 16 f g = .inl (gC G 1, 201, .inr (.inl g)) := rfl
theorem zS_17 (G : zGt) (f : Nat → Int32) (g : Nat → Int64) : zS G 17 f g = .inl (gC G 0, 64, .inl f) := rfl
theorem zS_18 (G : zGt) (f : Nat → Int32) (g : Nat → Int64) : zS G 18 f g = .inl (gC G 0, 60, .inl f) := rfl
theorem zS_19 (G : zGt) (f : Nat → Int32) (g : Nat → Int64) : zS G 19 f g = .inl (gC G 0, 60, .inl f) := rfl
theorem zS_20 (G : zGt) (f : Nat → Int32) (g : Nat → Int64) : zS G 20 f g = .inl (gC G 0, 60, .inl f) := rfl
theorem zS_61 (G : zGt) (f : Nat → Int32) (g : Nat → Int64) : zS G 61 f g = .inr (7, [.int (f 0), .ref (gA G (62)), .int (f 2), .int (f 3), .ref (gA G (63)), .ref (gA G (64)), .ref (gA G (65)), .ref (gA G (66)), .ref (gA G (67)), .ref (gA G (68)), .int (f 10), .int (f 11), .int (f 12), .int (f 13), .int (f 14), .int (f 15), .ref (gA G (69)), .ref (gA G (70)), .ref (gA G (71)), .long (g 19), .long (g 20), .int (f 21), .int (f 22), .ref (gA G (72)), .ref (gA G (73)), .ref (gA G (74)), .ref (gA G (75)), .ref (gA G (76)), .ref (gA G (77)), .long (g 29), .long (g 30), .long (g 31), .long (g 32), .int (f 33), .ref (gA G (78)), .ref (gA G (79)), .ref (gA G (80)), .ref (gA G (81)), .int (f 38), .int (f 39), .int (f 40), .ref (gA G (82)), .ref (gA G (83)), .ref (gA G (84))]) := rfl
theorem zS_62 (G : zGt) (f : Nat → Int32) (g : Nat → Int64) : zS G 62 f g = .inl (gC G 2, 200, .inl f) := rfl
theorem zS_63 (G : zGt) (f : Nat → Int32) (g : Nat → Int64) : zS G 63 f g = .inl (gC G 0, 8, .inl f) := rfl
theorem zS_64 (G : zGt) (f : Nat → Int32) (g : Nat → Int64) : zS G 64 f g = .inl (gC G 0, 480, .inl f) := rfl
theorem zS_65 (G : zGt) (f : Nat → Int32) (g : Nat → Int64) : zS G 65 f g = .inl (gC G 0, 480, .inl f) := rfl
theorem zS_66 (G : zGt) (f : Nat → Int32) (g : Nat → Int64) : zS G 66 f g = .inl (gC G 0, 480, .inl f) := rfl
theorem zS_67 (G : zGt) (f : Nat → Int32) (g : Nat → Int64) : zS G 67 f g = .inl (gC G 1, 480, .inr (.inl g)) := rfl
theorem zS_68 (G : zGt) (f : Nat → Int32) (g : Nat → Int64) : zS G 68 f g = .inl (gC G 1, 480, .inr (.inl g)) := rfl
theorem zS_69 (G : zGt) (f : Nat → Int32) (g : Nat → Int64) : zS G 69 f g = .inl (gC G 0, 8, .inl f) := rfl
theorem zS_70 (G : zGt) (f : Nat → Int32) (g : Nat → Int64) : zS G 70 f g = .inl (gC G 0, 8, .inl f) := rfl
theorem zS_71 (G : zGt) (f : Nat → Int32) (g : Nat → Int64) : zS G 71 f g = .inl (gC G 0, 480, .inl f) := rfl
theorem zS_72 (G : zGt) (f : Nat → Int32) (g : Nat → Int64) : zS G 72 f g = .inl (gC G 1, 480, .inr (.inl g)) := rfl
theorem zS_73 (G : zGt) (f : Nat → Int32) (g : Nat → Int64) : zS G 73 f g = .inl (gC G 1, 480, .inr (.inl g)) := rfl
theorem zS_74 (G : zGt) (f : Nat → Int32) (g : Nat → Int64) : zS G 74 f g = .inl (gC G 1, 480, .inr (.inl g)) := rfl
theorem zS_75 (G : zGt) (f : Nat → Int32) (g : Nat → Int64) : zS G 75 f g = .inl (gC G 1, 480, .inr (.inl g)) := rfl
theorem zS_76 (G : zGt) (f : Nat → Int32) (g : Nat → Int64) : zS G 76 f g = .inl (gC G 3, 480, .inl f) := rfl
theorem zS_77 (G : zGt) (f : Nat → Int32) (g : Nat → Int64) : zS G 77 f g = .inl (gC G 3, 480, .inl f) := rfl
theorem zS_78 (G : zGt) (f : Nat → Int32) (g : Nat → Int64) : zS G 78 f g = .inl (gC G 1, 260, .inr (.inl g)) := rfl
theorem zS_79 (G : zGt) (f : Nat → Int32) (g : Nat → Int64) : zS G 79 f g = .inl (gC G 1, 260, .inr (.inl g)) := rfl
theorem zS_80 (G : zGt) (f : Nat → Int32) (g : Nat → Int64) : zS G 80 f g = .inl (gC G 1, 260, .inr (.inl g)) := rfl
theorem zS_81 (G : zGt) (f : Nat → Int32) (g : Nat → Int64) : zS G 81 f g = .inl (gC G 1, 260, .inr (.inl g)) := rfl
theorem zS_82 (G : zGt) (f : Nat → Int32) (g : Nat → Int64) : zS G 82 f g = .inl (gC G 1, 130, .inr (.inl g)) := rfl
theorem zS_83 (G : zGt) (f : Nat → Int32) (g : Nat → Int64) : zS G 83 f g = .inl (gC G 1, 130, .inr (.inl g)) := rfl
theorem zS_84 (G : zGt) (f : Nat → Int32) (g : Nat → Int64) : zS G 84 f g = .inl (gC G 0, 130, .inl f) := rfl
def zW (G : zGt) (τ : zSt) : va_W := (List.range 85).map (fun c => (gA G c, zS G c (τ.1 c) (τ.2 c)))
theorem zW_at {G : zGt} {τ : zSt} {c : Nat} (h : c < 85) : (zW G τ)[c]? = some (gA G c, zS G c (τ.1 c) (τ.2 c)) := by
  rw [zW, List.getElem?_map, List.getElem?_range h]; rfl
theorem zW_len (G : zGt) (τ : zSt) : (zW G τ).length = 85 := by rw [zW, List.length_map, List.length_range]
theorem zW_set {G : zGt} {τ τ' : zSt} {c : Nat} {e : va_E} (hc : c < 85) (he : zS G c (τ'.1 c) (τ'.2 c) = e) (hn : ∀ j, j ≠ c → τ'.1 j = τ.1 j ∧ τ'.2 j = τ.2 j) : (zW G τ).set c (gA G c, e) = zW G τ' := by
  apply List.ext_getElem?
  intro j
  by_cases hj : j < 85
  · rw [zW_at hj]
    by_cases h : j = c
    · subst h
      rw [List.getElem?_set_self (by rw [zW_len]; exact hj), he]
    · rw [List.getElem?_set_ne (Ne.symm h), zW_at hj, (hn j h).1, (hn j h).2]
  · rw [List.getElem?_eq_none (by rw [List.length_set, zW_len]; omega), List.getElem?_eq_none (by rw [zW_len]; omega)]
def zInj (G : zGt) : Prop := ∀ i j, i < 85 → j < 85 → gA G i = gA G j → i = j
theorem zW_D {G : zGt} {τ : zSt} {A : Nat → Prop} (hi : zInj G) (hA : ∀ k, k < 85 → A (gA G k)) : va_D A (zW G τ) := by
  have key : ∀ (k : Nat) (q : Nat × va_E), (zW G τ)[k]? = some q → k < 85 ∧ q.1 = gA G k := by
    intro k q h
    have hk : k < 85 := by rw [← zW_len G τ]; exact (List.getElem?_eq_some_iff.mp h).1
    rw [zW_at hk] at h
    cases h
    exact ⟨hk, rfl⟩
  refine ⟨fun i j p q hp hq e => ?_, fun k q h => ?_⟩
  · obtain ⟨h1, h2⟩ := key i p hp
    obtain ⟨h3, h4⟩ := key j q hq
    exact hi i j h1 h3 (by rw [← h2, ← h4]; exact e)
  · obtain ⟨h1, h2⟩ := key k q h
    rw [h2]; exact hA k h1
def zA (G : zGt) : Nat → Prop := fun q => ∃ k, k < 85 ∧ q = gA G k
theorem zA_in {G : zGt} (k : Nat) (h : k < 85) : zA G (gA G k) := ⟨k, h, rfl⟩
def si_n (σ : zSt) (c k : Nat) (v : Int32) : ∀ j, j ≠ c → (si σ c k v).1 j = σ.1 j ∧ (si σ c k v).2 j = σ.2 j := fun j h => ⟨by funext q; simp [si, h], rfl⟩
def sl_n (σ : zSt) (c k : Nat) (v : Int64) : ∀ j, j ≠ c → (sl σ c k v).1 j = σ.1 j ∧ (sl σ c k v).2 j = σ.2 j := fun j h => ⟨rfl, by funext q; simp [sl, h]⟩
theorem si_u (σ : zSt) (c k : Nat) (v : Int32) : (si σ c k v).1 c = upd (σ.1 c) k v := by funext q; simp [si, upd]
theorem sl_u (σ : zSt) (c k : Nat) (v : Int64) : (sl σ c k v).2 c = vp_updL (σ.2 c) k v := by funext q; simp [sl, vp_updL]
def zLen : List Nat := [1, 4, 3, 3, 3, 3, 4, 6, 7]
def zByt : List (List Int32) := [[120], [114, 111, 111, 116], [101, 120, 112], [108, 111, 103], [115, 105, 110], [99, 111, 115], [115, 105, 122, 101], [108, 101, 115, 115, 101, 114], [103, 114, 101, 97, 116, 101, 114]]
def zStrs : List (String × Nat × String × Nat) := [(RX3, 108, "x", 0), (RX3, 117, "root", 1), (RX3, 119, "exp", 2), (RX3, 121, "log", 3), (RX3, 123, "sin", 4), (RX3, 125, "cos", 5), (RX3, 127, "size", 6), (RX3, 128, "lesser", 7), (RX3, 130, "greater", 8), (RX9, 177, "x", 0), (RX9, 152, "root", 1), (RX9, 154, "exp", 2), (RX9, 156, "log", 3), (RX9, 158, "sin", 4), (RX9, 160, "cos", 5), (RX9, 162, "size", 6), (RX9, 164, "lesser", 7), (RX9, 166, "greater", 8)]
