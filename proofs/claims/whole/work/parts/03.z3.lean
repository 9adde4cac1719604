def zRecv (T : zX) (a : Nat) (C : String) : Prop := match T with
  | (_, _, _, _, s, _, _, _, _, _, _, _, G, mq, A, _, _) => ∀ (H : Heap) (locs : List Loc) (σ : zSt), va_P G.1 vwCl (zW G (mq σ)) H → va_S A s.heap H locs → ∃ cell : Cell, H[a]? = some cell ∧ cell.vm.isStatics = false ∧ s.vm.findClass C = some cell.cls
abbrev zWV (y : MethodName) (cc : ByteArray) (ml : Nat) (rt : Option FieldType) (n : Nat) : Prop := Cond.instanceMethod y ∈ zT ∧ Cond.selects y.cls y y ∈ zT ∧ Cond.initialized y.cls ∈ zT ∧ Cond.code y cc ml rt ∈ zT ∧ zWd y n
abbrev zWS (y : MethodName) (cc : ByteArray) (ml : Nat) (rt : Option FieldType) (n : Nat) : Prop := Cond.static y ∈ zT ∧ Cond.initialized y.cls ∈ zT ∧ Cond.code y cc ml rt ∈ zT ∧ zWd y n
theorem zT_more {w : Cond} (h : w ∈ zT) : GoodIn zT (w :: zT) := fun x hx => by
  rcases List.mem_cons.mp hx with q | q
  · rw [q]; exact zT_good _ h
  · exact zT_good _ q
theorem zOk.hm {T : zX} {cc : ByteArray} {own : String} {fr lo cl ch : Nat} (h : zOk T cc own fr lo cl ch) : zM (zMk T) cl ch := by
  obtain ⟨p, l, e, R, s, m, args, below, meth, cd, Q, nL, G, mk, A, cells, slots⟩ := T
  exact h.2.2.2.2.2.2.2.2
section ZR
variable {p : Program} {l : Launch} {e : Env} {R : Room} {s : State} {m : MethodId} {args : Array Value} {below : List Frame} {meth : Method} {c : Code} {H : Heap} {locs : List Loc} {cells slots : Nat} {Q : State → Prop}
theorem z_run {G : zGt} {mk : zSt → zSt} {r : Option Value} {σ' : zSt} {a : Array Value} {A : Nat → Prop} {pc : Nat} {ls : Array Slot} {st0 rest : List Value} (hr : va_Run p l e R s m args below meth c H locs cells slots 0 0 (F0 m pc ls st0) rest (zQ G mk r σ' a) (zA G)) (hS : va_S A s.heap H locs) (hA : ∀ q, zA G q → A q)
    (kk : ∀ (H1 : Heap) (locs1 : List Loc), va_P G.1 vwCl (zW G (mk σ')) H1 → va_S A s.heap H1 locs1 → W p l e R s m args below meth c H1 locs1 cells slots Q (F0 m (pc + 3) ls (r.toList ++ rest))) : W p l e R s m args below meth c H locs cells slots Q (F0 m pc ls st0) := by
  intro T hT X
  obtain ⟨v, st₀, t, T', L, h0, X', hL, e1, e2, ⟨hv, hp, hz, hk⟩, st⟩ := hr T hT X
  cases hv
  rw [h0] at hz hk
  obtain ⟨t2, a1, b1⟩ := kk T'.heap (locs ++ L) (by rw [e1]; exact hp)
    ⟨Nat.le_trans hS.1 (by rw [e1]; exact hz), fun q h1 h2 => by rw [e1, hk q (Nat.lt_of_lt_of_le h1 hS.1) (fun z => h2 (hA q z))]; exact hS.2.1 q h1 h2, fun q hq => by
      rcases List.mem_append.mp hq with h | h
      · exact hS.2.2 q h
      · exact hA _ (hL q h)⟩ T' rfl X'
  exact ⟨t2, st t2 a1, b1⟩
end ZR
set_option maxHeartbeats 1000000 in
theorem z_cV0r {T : zX} {cc : ByteArray} {own : String} {fr lo cl ch : Nat} (hC : zOk T cc own fr lo cl ch) {σ : zSt} {pc : Nat} {lv : List (Nat × Value)} {st : List Value} {index : Nat} {y : MethodName} {yc : ByteArray} {ym : Nat} {yr : Option FieldType} {yf yl : Nat} {v : Value} {σ' : zSt} {a : Nat} (hM2 : zMet (zL T) (zGr T) (zMk T) y yc ym yr yf yl [.ref a] σ (some v) σ') (hrec : zRecv T a y.cls) (kw : zWV y yc ym yr 0) (hw : Cond.methodLink own index y ∈ zT) (hroom : yf + 1 ≤ fr ∧ 8 + (ym + 11) + yl ≤ lo) (hcat : (st.map fun v => v.category).sum ≤ 8) (d : decode cc pc = .ok (.invokevirtual index, 3)) (kk : Z T σ' (pc + 3) lv (v :: st)) : Z T σ pc lv (.ref a :: st) := by
  obtain ⟨p, l, e, R, s, m, args, below, meth, cd, Q, nL, G, mk, A, cells, slots⟩ := T
  obtain ⟨hx, hb, hml, hown, hts, hE, hA, hR, hM⟩ := hC
  intro H locs ls hP hS hl
  obtain ⟨k1, k2, k3, k4, k5⟩ := kw
  have hA2 : ∀ q, zA G q → A q := fun q ⟨k, hk, e⟩ => by rw [e]; exact hA k hk
  have hM2 : Met l y (.code y yc ym yr :: zT) { frames := yf, cells := 0, slots := 0, locals := yl } (va_Pc [.ref a] (fun U => va_P G.1 vwCl (zW G (mk σ)) U.heap ∧ zEnv G (zA G) U)) (zQ G mk (some v) σ') 0 0 (zA G) := hM2
  exact z_run (r := some v) (va_runV (p := p) (As := []) (rest := st) (C := y.cls) ⟨hx, hb, hml, hown, hts⟩ hM2 ⟨callB_of 0 hts (zT_more k4) rfl rfl rfl (hts _ k3) (hts _ hw) k5 ⟨by show yf + 1 ≤ _; omega, by show 8 + (ym + 11) + yl ≤ _; omega⟩, hts _ k1, hts _ k2⟩ ⟨fun a U g mk2 q => ⟨q.1, q.2.1, q.2.2.blind⟩, hrec H locs σ hP hS, fun U hU hW => ⟨rfl, by rw [hU]; exact hP, hE.call hS hA2 hU hW⟩⟩ rfl rfl hl.1 rfl (lv_room hcat) d ⟨hR.2.2.1, hR.2.2.2⟩) hS hA2 (fun H1 locs1 hP1 hS1 => kk H1 locs1 ls hP1 hS1 hl)
set_option maxHeartbeats 1000000 in
theorem z_cV0v {T : zX} {cc : ByteArray} {own : String} {fr lo cl ch : Nat} (hC : zOk T cc own fr lo cl ch) {σ : zSt} {pc : Nat} {lv : List (Nat × Value)} {st : List Value} {index : Nat} {y : MethodName} {yc : ByteArray} {ym : Nat} {yr : Option FieldType} {yf yl : Nat} {σ' : zSt} {a : Nat} (hM2 : zMet (zL T) (zGr T) (zMk T) y yc ym yr yf yl [.ref a] σ (none) σ') (hrec : zRecv T a y.cls) (kw : zWV y yc ym yr 0) (hw : Cond.methodLink own index y ∈ zT) (hroom : yf + 1 ≤ fr ∧ 8 + (ym + 11) + yl ≤ lo) (hcat : (st.map fun v => v.category).sum ≤ 8) (d : decode cc pc = .ok (.invokevirtual index, 3)) (kk : Z T σ' (pc + 3) lv (st)) : Z T σ pc lv (.ref a :: st) := by
  obtain ⟨p, l, e, R, s, m, args, below, meth, cd, Q, nL, G, mk, A, cells, slots⟩ := T
  obtain ⟨hx, hb, hml, hown, hts, hE, hA, hR, hM⟩ := hC
  intro H locs ls hP hS hl
  obtain ⟨k1, k2, k3, k4, k5⟩ := kw
  have hA2 : ∀ q, zA G q → A q := fun q ⟨k, hk, e⟩ => by rw [e]; exact hA k hk
  have hM2 : Met l y (.code y yc ym yr :: zT) { frames := yf, cells := 0, slots := 0, locals := yl } (va_Pc [.ref a] (fun U => va_P G.1 vwCl (zW G (mk σ)) U.heap ∧ zEnv G (zA G) U)) (zQ G mk (none) σ') 0 0 (zA G) := hM2
  exact z_run (r := none) (va_runV (p := p) (As := []) (rest := st) (C := y.cls) ⟨hx, hb, hml, hown, hts⟩ hM2 ⟨callB_of 0 hts (zT_more k4) rfl rfl rfl (hts _ k3) (hts _ hw) k5 ⟨by show yf + 1 ≤ _; omega, by show 8 + (ym + 11) + yl ≤ _; omega⟩, hts _ k1, hts _ k2⟩ ⟨fun a U g mk2 q => ⟨q.1, q.2.1, q.2.2.blind⟩, hrec H locs σ hP hS, fun U hU hW => ⟨rfl, by rw [hU]; exact hP, hE.call hS hA2 hU hW⟩⟩ rfl rfl hl.1 rfl (lv_room hcat) d ⟨hR.2.2.1, hR.2.2.2⟩) hS hA2 (fun H1 locs1 hP1 hS1 => kk H1 locs1 ls hP1 hS1 hl)
set_option maxHeartbeats 1000000 in
theorem z_cV1r {T : zX} {cc : ByteArray} {own : String} {fr lo cl ch : Nat} (hC : zOk T cc own fr lo cl ch) {σ : zSt} {pc : Nat} {lv : List (Nat × Value)} {st : List Value} {index : Nat} {y : MethodName} {yc : ByteArray} {ym : Nat} {yr : Option FieldType} {yf yl : Nat} {v : Value} {σ' : zSt} {a : Nat} {a1 : Value} (hM2 : zMet (zL T) (zGr T) (zMk T) y yc ym yr yf yl [.ref a, a1] σ (some v) σ') (hrec : zRecv T a y.cls) (kw : zWV y yc ym yr 1) (hw : Cond.methodLink own index y ∈ zT) (hroom : yf + 1 ≤ fr ∧ 8 + (ym + 11) + yl ≤ lo) (hcat : (st.map fun v => v.category).sum ≤ 8) (d : decode cc pc = .ok (.invokevirtual index, 3)) (kk : Z T σ' (pc + 3) lv (v :: st)) : Z T σ pc lv (a1 :: .ref a :: st) := by
  obtain ⟨p, l, e, R, s, m, args, below, meth, cd, Q, nL, G, mk, A, cells, slots⟩ := T
  obtain ⟨hx, hb, hml, hown, hts, hE, hA, hR, hM⟩ := hC
  intro H locs ls hP hS hl
  obtain ⟨k1, k2, k3, k4, k5⟩ := kw
  have hA2 : ∀ q, zA G q → A q := fun q ⟨k, hk, e⟩ => by rw [e]; exact hA k hk
  have hM2 : Met l y (.code y yc ym yr :: zT) { frames := yf, cells := 0, slots := 0, locals := yl } (va_Pc [.ref a, a1] (fun U => va_P G.1 vwCl (zW G (mk σ)) U.heap ∧ zEnv G (zA G) U)) (zQ G mk (some v) σ') 0 0 (zA G) := hM2
  exact z_run (r := some v) (va_runV (p := p) (As := [a1]) (rest := st) (C := y.cls) ⟨hx, hb, hml, hown, hts⟩ hM2 ⟨callB_of 1 hts (zT_more k4) rfl rfl rfl (hts _ k3) (hts _ hw) k5 ⟨by show yf + 1 ≤ _; omega, by show 8 + (ym + 11) + yl ≤ _; omega⟩, hts _ k1, hts _ k2⟩ ⟨fun a U g mk2 q => ⟨q.1, q.2.1, q.2.2.blind⟩, hrec H locs σ hP hS, fun U hU hW => ⟨rfl, by rw [hU]; exact hP, hE.call hS hA2 hU hW⟩⟩ rfl rfl hl.1 rfl (lv_room hcat) d ⟨hR.2.2.1, hR.2.2.2⟩) hS hA2 (fun H1 locs1 hP1 hS1 => kk H1 locs1 ls hP1 hS1 hl)
set_option maxHeartbeats 1000000 in
theorem z_cV1v {T : zX} {cc : ByteArray} {own : String} {fr lo cl ch : Nat} (hC : zOk T cc own fr lo cl ch) {σ : zSt} {pc : Nat} {lv : List (Nat × Value)} {st : List Value} {index : Nat} {y : MethodName} {yc : ByteArray} {ym : Nat} {yr : Option FieldType} {yf yl : Nat} {σ' : zSt} {a : Nat} {a1 : Value} (hM2 : zMet (zL T) (zGr T) (zMk T) y yc ym yr yf yl [.ref a, a1] σ (none) σ') (hrec : zRecv T a y.cls) (kw : zWV y yc ym yr 1) (hw : Cond.methodLink own index y ∈ zT) (hroom : yf + 1 ≤ fr ∧ 8 + (ym + 11) + yl ≤ lo) (hcat : (st.map fun v => v.category).sum ≤ 8) (d : decode cc pc = .ok (.invokevirtual index, 3)) (kk : Z T σ' (pc + 3) lv (st)) : Z T σ pc lv (a1 :: .ref a :: st) := by
  obtain ⟨p, l, e, R, s, m, args, below, meth, cd, Q, nL, G, mk, A, cells, slots⟩ := T
  obtain ⟨hx, hb, hml, hown, hts, hE, hA, hR, hM⟩ := hC
  intro H locs ls hP hS hl
  obtain ⟨k1, k2, k3, k4, k5⟩ := kw
  have hA2 : ∀ q, zA G q → A q := fun q ⟨k, hk, e⟩ => by rw [e]; exact hA k hk
  have hM2 : Met l y (.code y yc ym yr :: zT) { frames := yf, cells := 0, slots := 0, locals := yl } (va_Pc [.ref a, a1] (fun U => va_P G.1 vwCl (zW G (mk σ)) U.heap ∧ zEnv G (zA G) U)) (zQ G mk (none) σ') 0 0 (zA G) := hM2
  exact z_run (r := none) (va_runV (p := p) (As := [a1]) (rest := st) (C := y.cls) ⟨hx, hb, hml, hown, hts⟩ hM2 ⟨callB_of 1 hts (zT_more k4) rfl rfl rfl (hts _ k3) (hts _ hw) k5 ⟨by show yf + 1 ≤ _; omega, by show 8 + (ym + 11) + yl ≤ _; omega⟩, hts _ k1, hts _ k2⟩ ⟨fun a U g mk2 q => ⟨q.1, q.2.1, q.2.2.blind⟩, hrec H locs σ hP hS, fun U hU hW => ⟨rfl, by rw [hU]; exact hP, hE.call hS hA2 hU hW⟩⟩ rfl rfl hl.1 rfl (lv_room hcat) d ⟨hR.2.2.1, hR.2.2.2⟩) hS hA2 (fun H1 locs1 hP1 hS1 => kk H1 locs1 ls hP1 hS1 hl)
set_option maxHeartbeats 1000000 in
theorem z_cS1r {T : zX} {cc : ByteArray} {own : String} {fr lo cl ch : Nat} (hC : zOk T cc own fr lo cl ch) {σ : zSt} {pc : Nat} {lv : List (Nat × Value)} {st : List Value} {index : Nat} {y : MethodName} {yc : ByteArray} {ym : Nat} {yr : Option FieldType} {yf yl : Nat} {v : Value} {σ' : zSt} {a1 : Value} (hM2 : zMet (zL T) (zGr T) (zMk T) y yc ym yr yf yl [a1] σ (some v) σ') (kw : zWS y yc ym yr 1) (hw : Cond.methodLink own index y ∈ zT) (hroom : yf + 1 ≤ fr ∧ 8 + (ym + 11) + yl ≤ lo) (hcat : (st.map fun v => v.category).sum ≤ 8) (d : decode cc pc = .ok (.invokestatic index, 3)) (kk : Z T σ' (pc + 3) lv (v :: st)) : Z T σ pc lv (a1 :: st) := by
  obtain ⟨p, l, e, R, s, m, args, below, meth, cd, Q, nL, G, mk, A, cells, slots⟩ := T
  obtain ⟨hx, hb, hml, hown, hts, hE, hA, hR, hM⟩ := hC
  intro H locs ls hP hS hl
  obtain ⟨k1, k3, k4, k5⟩ := kw
  have hA2 : ∀ q, zA G q → A q := fun q ⟨k, hk, e⟩ => by rw [e]; exact hA k hk
  have hM2 : Met l y (.code y yc ym yr :: zT) { frames := yf, cells := 0, slots := 0, locals := yl } (va_Pc [a1] (fun U => va_P G.1 vwCl (zW G (mk σ)) U.heap ∧ zEnv G (zA G) U)) (zQ G mk (some v) σ') 0 0 (zA G) := hM2
  exact z_run (r := some v) (va_runS (p := p) (As := [a1]) (rest := st) ⟨hx, hb, hml, hown, hts⟩ hM2 ⟨callB_of 1 hts (zT_more k4) rfl rfl rfl (hts _ k3) (hts _ hw) k5 ⟨by show yf + 1 ≤ _; omega, by show 8 + (ym + 11) + yl ≤ _; omega⟩, hts _ k1⟩ ⟨fun a U g mk2 q => ⟨q.1, q.2.1, q.2.2.blind⟩, fun U hU hW => ⟨rfl, by rw [hU]; exact hP, hE.call hS hA2 hU hW⟩⟩ rfl rfl hl.1 rfl (lv_room hcat) d ⟨hR.2.2.1, hR.2.2.2⟩) hS hA2 (fun H1 locs1 hP1 hS1 => kk H1 locs1 ls hP1 hS1 hl)
set_option maxHeartbeats 1000000 in
theorem z_cS1v {T : zX} {cc : ByteArray} {own : String} {fr lo cl ch : Nat} (hC : zOk T cc own fr lo cl ch) {σ : zSt} {pc : Nat} {lv : List (Nat × Value)} {st : List Value} {index : Nat} {y : MethodName} {yc : ByteArray} {ym : Nat} {yr : Option FieldType} {yf yl : Nat} {σ' : zSt} {a1 : Value} (hM2 : zMet (zL T) (zGr T) (zMk T) y yc ym yr yf yl [a1] σ (none) σ') (kw : zWS y yc ym yr 1) (hw : Cond.methodLink own index y ∈ zT) (hroom : yf + 1 ≤ fr ∧ 8 + (ym + 11) + yl ≤ lo) (hcat : (st.map fun v => v.category).sum ≤ 8) (d : decode cc pc = .ok (.invokestatic index, 3)) (kk : Z T σ' (pc + 3) lv (st)) : Z T σ pc lv (a1 :: st) := by
  obtain ⟨p, l, e, R, s, m, args, below, meth, cd, Q, nL, G, mk, A, cells, slots⟩ := T
  obtain ⟨hx, hb, hml, hown, hts, hE, hA, hR, hM⟩ := hC
  intro H locs ls hP hS hl
  obtain ⟨k1, k3, k4, k5⟩ := kw
  have hA2 : ∀ q, zA G q → A q := fun q ⟨k, hk, e⟩ => by rw [e]; exact hA k hk
  have hM2 : Met l y (.code y yc ym yr :: zT) { frames := yf, cells := 0, slots := 0, locals := yl } (va_Pc [a1] (fun U => va_P G.1 vwCl (zW G (mk σ)) U.heap ∧ zEnv G (zA G) U)) (zQ G mk (none) σ') 0 0 (zA G) := hM2
  exact z_run (r := none) (va_runS (p := p) (As := [a1]) (rest := st) ⟨hx, hb, hml, hown, hts⟩ hM2 ⟨callB_of 1 hts (zT_more k4) rfl rfl rfl (hts _ k3) (hts _ hw) k5 ⟨by show yf + 1 ≤ _; omega, by show 8 + (ym + 11) + yl ≤ _; omega⟩, hts _ k1⟩ ⟨fun a U g mk2 q => ⟨q.1, q.2.1, q.2.2.blind⟩, fun U hU hW => ⟨rfl, by rw [hU]; exact hP, hE.call hS hA2 hU hW⟩⟩ rfl rfl hl.1 rfl (lv_room hcat) d ⟨hR.2.2.1, hR.2.2.2⟩) hS hA2 (fun H1 locs1 hP1 hS1 => kk H1 locs1 ls hP1 hS1 hl)
set_option maxHeartbeats 1000000 in
theorem z_cV2r {T : zX} {cc : ByteArray} {own : String} {fr lo cl ch : Nat} (hC : zOk T cc own fr lo cl ch) {σ : zSt} {pc : Nat} {lv : List (Nat × Value)} {st : List Value} {index : Nat} {y : MethodName} {yc : ByteArray} {ym : Nat} {yr : Option FieldType} {yf yl : Nat} {v : Value} {σ' : zSt} {a : Nat} {a1 a2 : Value} (hM2 : zMet (zL T) (zGr T) (zMk T) y yc ym yr yf yl [.ref a, a1, a2] σ (some v) σ') (hrec : zRecv T a y.cls) (kw : zWV y yc ym yr 2) (hw : Cond.methodLink own index y ∈ zT) (hroom : yf + 1 ≤ fr ∧ 8 + (ym + 11) + yl ≤ lo) (hcat : (st.map fun v => v.category).sum ≤ 8) (d : decode cc pc = .ok (.invokevirtual index, 3)) (kk : Z T σ' (pc + 3) lv (v :: st)) : Z T σ pc lv (a2 :: a1 :: .ref a :: st) := by
  obtain ⟨p, l, e, R, s, m, args, below, meth, cd, Q, nL, G, mk, A, cells, slots⟩ := T
  obtain ⟨hx, hb, hml, hown, hts, hE, hA, hR, hM⟩ := hC
  intro H locs ls hP hS hl
  obtain ⟨k1, k2, k3, k4, k5⟩ := kw
  have hA2 : ∀ q, zA G q → A q := fun q ⟨k, hk, e⟩ => by rw [e]; exact hA k hk
  have hM2 : Met l y (.code y yc ym yr :: zT) { frames := yf, cells := 0, slots := 0, locals := yl } (va_Pc [.ref a, a1, a2] (fun U => va_P G.1 vwCl (zW G (mk σ)) U.heap ∧ zEnv G (zA G) U)) (zQ G mk (some v) σ') 0 0 (zA G) := hM2
  exact z_run (r := some v) (va_runV (p := p) (As := [a1, a2]) (rest := st) (C := y.cls) ⟨hx, hb, hml, hown, hts⟩ hM2 ⟨callB_of 2 hts (zT_more k4) rfl rfl rfl (hts _ k3) (hts _ hw) k5 ⟨by show yf + 1 ≤ _; omega, by show 8 + (ym + 11) + yl ≤ _; omega⟩, hts _ k1, hts _ k2⟩ ⟨fun a U g mk2 q => ⟨q.1, q.2.1, q.2.2.blind⟩, hrec H locs σ hP hS, fun U hU hW => ⟨rfl, by rw [hU]; exact hP, hE.call hS hA2 hU hW⟩⟩ rfl rfl hl.1 rfl (lv_room hcat) d ⟨hR.2.2.1, hR.2.2.2⟩) hS hA2 (fun H1 locs1 hP1 hS1 => kk H1 locs1 ls hP1 hS1 hl)
set_option maxHeartbeats 1000000 in
theorem z_cV2v {T : zX} {cc : ByteArray} {own : String} {fr lo cl ch : Nat} (hC : zOk T cc own fr lo cl ch) {σ : zSt} {pc : Nat} {lv : List (Nat × Value)} {st : List Value} {index : Nat} {y : MethodName} {yc : ByteArray} {ym : Nat} {yr : Option FieldType} {yf yl : Nat} {σ' : zSt} {a : Nat} {a1 a2 : Value} (hM2 : zMet (zL T) (zGr T) (zMk T) y yc ym yr yf yl [.ref a, a1, a2] σ (none) σ') (hrec : zRecv T a y.cls) (kw : zWV y yc ym yr 2) (hw : Cond.methodLink own index y ∈ zT) (hroom : yf + 1 ≤ fr ∧ 8 + (ym + 11) + yl ≤ lo) (hcat : (st.map fun v => v.category).sum ≤ 8) (d : decode cc pc = .ok (.invokevirtual index, 3)) (kk : Z T σ' (pc + 3) lv (st)) : Z T σ pc lv (a2 :: a1 :: .ref a :: st) := by
  obtain ⟨p, l, e, R, s, m, args, below, meth, cd, Q, nL, G, mk, A, cells, slots⟩ := T
  obtain ⟨hx, hb, hml, hown, hts, hE, hA, hR, hM⟩ := hC
  intro H locs ls hP hS hl
  obtain ⟨k1, k2, k3, k4, k5⟩ := kw
  have hA2 : ∀ q, zA G q → A q := fun q ⟨k, hk, e⟩ => by rw [e]; exact hA k hk
  have hM2 : Met l y (.code y yc ym yr :: zT) { frames := yf, cells := 0, slots := 0, locals := yl } (va_Pc [.ref a, a1, a2] (fun U => va_P G.1 vwCl (zW G (mk σ)) U.heap ∧ zEnv G (zA G) U)) (zQ G mk (none) σ') 0 0 (zA G) := hM2
  exact z_run (r := none) (va_runV (p := p) (As := [a1, a2]) (rest := st) (C := y.cls) ⟨hx, hb, hml, hown, hts⟩ hM2 ⟨callB_of 2 hts (zT_more k4) rfl rfl rfl (hts _ k3) (hts _ hw) k5 ⟨by show yf + 1 ≤ _; omega, by show 8 + (ym + 11) + yl ≤ _; omega⟩, hts _ k1, hts _ k2⟩ ⟨fun a U g mk2 q => ⟨q.1, q.2.1, q.2.2.blind⟩, hrec H locs σ hP hS, fun U hU hW => ⟨rfl, by rw [hU]; exact hP, hE.call hS hA2 hU hW⟩⟩ rfl rfl hl.1 rfl (lv_room hcat) d ⟨hR.2.2.1, hR.2.2.2⟩) hS hA2 (fun H1 locs1 hP1 hS1 => kk H1 locs1 ls hP1 hS1 hl)
set_option maxHeartbeats 1000000 in
theorem z_cS2r {T : zX} {cc : ByteArray} {own : String} {fr lo cl ch : Nat} (hC : zOk T cc own fr lo cl ch) {σ : zSt} {pc : Nat} {lv : List (Nat × Value)} {st : List Value} {index : Nat} {y : MethodName} {yc : ByteArray} {ym : Nat} {yr : Option FieldType} {yf yl : Nat} {v : Value} {σ' : zSt} {a1 a2 : Value} (hM2 : zMet (zL T) (zGr T) (zMk T) y yc ym yr yf yl [a1, a2] σ (some v) σ') (kw : zWS y yc ym yr 2) (hw : Cond.methodLink own index y ∈ zT) (hroom : yf + 1 ≤ fr ∧ 8 + (ym + 11) + yl ≤ lo) (hcat : (st.map fun v => v.category).sum ≤ 8) (d : decode cc pc = .ok (.invokestatic index, 3)) (kk : Z T σ' (pc + 3) lv (v :: st)) : Z T σ pc lv (a2 :: a1 :: st) := by
  obtain ⟨p, l, e, R, s, m, args, below, meth, cd, Q, nL, G, mk, A, cells, slots⟩ := T
  obtain ⟨hx, hb, hml, hown, hts, hE, hA, hR, hM⟩ := hC
  intro H locs ls hP hS hl
  obtain ⟨k1, k3, k4, k5⟩ := kw
  have hA2 : ∀ q, zA G q → A q := fun q ⟨k, hk, e⟩ => by rw [e]; exact hA k hk
  have hM2 : Met l y (.code y yc ym yr :: zT) { frames := yf, cells := 0, slots := 0, locals := yl } (va_Pc [a1, a2] (fun U => va_P G.1 vwCl (zW G (mk σ)) U.heap ∧ zEnv G (zA G) U)) (zQ G mk (some v) σ') 0 0 (zA G) := hM2
  exact z_run (r := some v) (va_runS (p := p) (As := [a1, a2]) (rest := st) ⟨hx, hb, hml, hown, hts⟩ hM2 ⟨callB_of 2 hts (zT_more k4) rfl rfl rfl (hts _ k3) (hts _ hw) k5 ⟨by show yf + 1 ≤ _; omega, by show 8 + (ym + 11) + yl ≤ _; omega⟩, hts _ k1⟩ ⟨fun a U g mk2 q => ⟨q.1, q.2.1, q.2.2.blind⟩, fun U hU hW => ⟨rfl, by rw [hU]; exact hP, hE.call hS hA2 hU hW⟩⟩ rfl rfl hl.1 rfl (lv_room hcat) d ⟨hR.2.2.1, hR.2.2.2⟩) hS hA2 (fun H1 locs1 hP1 hS1 => kk H1 locs1 ls hP1 hS1 hl)
set_option maxHeartbeats 1000000 in
theorem z_cS2v {T : zX} {cc : ByteArray} {own : String} {fr lo cl ch : Nat} (hC : zOk T cc own fr lo cl ch) {σ : zSt} {pc : Nat} {lv : List (Nat × Value)} {st : List Value} {index : Nat} {y : MethodName} {yc : ByteArray} {ym : Nat} {yr : Option FieldType} {yf yl : Nat} {σ' : zSt} {a1 a2 : Value} (hM2 : zMet (zL T) (zGr T) (zMk T) y yc ym yr yf yl [a1, a2] σ (none) σ') (kw : zWS y yc ym yr 2) (hw : Cond.methodLink own index y ∈ zT) (hroom : yf + 1 ≤ fr ∧ 8 + (ym + 11) + yl ≤ lo) (hcat : (st.map fun v => v.category).sum ≤ 8) (d : decode cc pc = .ok (.invokestatic index, 3)) (kk : Z T σ' (pc + 3) lv (st)) : Z T σ pc lv (a2 :: a1 :: st) := by
  obtain ⟨p, l, e, R, s, m, args, below, meth, cd, Q, nL, G, mk, A, cells, slots⟩ := T
  obtain ⟨hx, hb, hml, hown, hts, hE, hA, hR, hM⟩ := hC
  intro H locs ls hP hS hl
  obtain ⟨k1, k3, k4, k5⟩ := kw
  have hA2 : ∀ q, zA G q → A q := fun q ⟨k, hk, e⟩ => by rw [e]; exact hA k hk
  have hM2 : Met l y (.code y yc ym yr :: zT) { frames := yf, cells := 0, slots := 0, locals := yl } (va_Pc [a1, a2] (fun U => va_P G.1 vwCl (zW G (mk σ)) U.heap ∧ zEnv G (zA G) U)) (zQ G mk (none) σ') 0 0 (zA G) := hM2
  exact z_run (r := none) (va_runS (p := p) (As := [a1, a2]) (rest := st) ⟨hx, hb, hml, hown, hts⟩ hM2 ⟨callB_of 2 hts (zT_more k4) rfl rfl rfl (hts _ k3) (hts _ hw) k5 ⟨by show yf + 1 ≤ _; omega, by show 8 + (ym + 11) + yl ≤ _; omega⟩, hts _ k1⟩ ⟨fun a U g mk2 q => ⟨q.1, q.2.1, q.2.2.blind⟩, fun U hU hW => ⟨rfl, by rw [hU]; exact hP, hE.call hS hA2 hU hW⟩⟩ rfl rfl hl.1 rfl (lv_room hcat) d ⟨hR.2.2.1, hR.2.2.2⟩) hS hA2 (fun H1 locs1 hP1 hS1 => kk H1 locs1 ls hP1 hS1 hl)
set_option maxHeartbeats 1000000 in
theorem z_cV3r {T : zX} {cc : ByteArray} {own : String} {fr lo cl ch : Nat} (hC : zOk T cc own fr lo cl ch) {σ : zSt} {pc : Nat} {lv : List (Nat × Value)} {st : List Value} {index : Nat} {y : MethodName} {yc : ByteArray} {ym : Nat} {yr : Option FieldType} {yf yl : Nat} {v : Value} {σ' : zSt} {a : Nat} {a1 a2 a3 : Value} (hM2 : zMet (zL T) (zGr T) (zMk T) y yc ym yr yf yl [.ref a, a1, a2, a3] σ (some v) σ') (hrec : zRecv T a y.cls) (kw : zWV y yc ym yr 3) (hw : Cond.methodLink own index y ∈ zT) (hroom : yf + 1 ≤ fr ∧ 8 + (ym + 11) + yl ≤ lo) (hcat : (st.map fun v => v.category).sum ≤ 8) (d : decode cc pc = .ok (.invokevirtual index, 3)) (kk : Z T σ' (pc + 3) lv (v :: st)) : Z T σ pc lv (a3 :: a2 :: a1 :: .ref a :: st) := by
  obtain ⟨p, l, e, R, s, m, args, below, meth, cd, Q, nL, G, mk, A, cells, slots⟩ := T
  obtain ⟨hx, hb, hml, hown, hts, hE, hA, hR, hM⟩ := hC
  intro H locs ls hP hS hl
  obtain ⟨k1, k2, k3, k4, k5⟩ := kw
  have hA2 : ∀ q, zA G q → A q := fun q ⟨k, hk, e⟩ => by rw [e]; exact hA k hk
  have hM2 : Met l y (.code y yc ym yr :: zT) { frames := yf, cells := 0, slots := 0, locals := yl } (va_Pc [.ref a, a1, a2, a3] (fun U => va_P G.1 vwCl (zW G (mk σ)) U.heap ∧ zEnv G (zA G) U)) (zQ G mk (some v) σ') 0 0 (zA G) := hM2
  exact z_run (r := some v) (va_runV (p := p) (As := [a1, a2, a3]) (rest := st) (C := y.cls) ⟨hx, hb, hml, hown, hts⟩ hM2 ⟨callB_of 3 hts (zT_more k4) rfl rfl rfl (hts _ k3) (hts _ hw) k5 ⟨by show yf + 1 ≤ _; omega, by show 8 + (ym + 11) + yl ≤ _; omega⟩, hts _ k1, hts _ k2⟩ ⟨fun a U g mk2 q => ⟨q.1, q.2.1, q.2.2.blind⟩, hrec H locs σ hP hS, fun U hU hW => ⟨rfl, by rw [hU]; exact hP, hE.call hS hA2 hU hW⟩⟩ rfl rfl hl.1 rfl (lv_room hcat) d ⟨hR.2.2.1, hR.2.2.2⟩) hS hA2 (fun H1 locs1 hP1 hS1 => kk H1 locs1 ls hP1 hS1 hl)
set_option maxHeartbeats 1000000 in
theorem z_cV3v {T : zX} {cc : ByteArray} {own : String} {fr lo cl ch : Nat} (hC : zOk T cc own fr lo cl ch) {σ : zSt} {pc : Nat} {lv : List (Nat × Value)} {st : List Value} {index : Nat} {y : MethodName} {yc : ByteArray} {ym : Nat} {yr : Option FieldType} {yf yl : Nat} {σ' : zSt} {a : Nat} {a1 a2 a3 : Value} (hM2 : zMet (zL T) (zGr T) (zMk T) y yc ym yr yf yl [.ref a, a1, a2, a3] σ (none) σ') (hrec : zRecv T a y.cls) (kw : zWV y yc ym yr 3) (hw : Cond.methodLink own index y ∈ zT) (hroom : yf + 1 ≤ fr ∧ 8 + (ym + 11) + yl ≤ lo) (hcat : (st.map fun v => v.category).sum ≤ 8) (d : decode cc pc = .ok (.invokevirtual index, 3)) (kk : Z T σ' (pc + 3) lv (st)) : Z T σ pc lv (a3 :: a2 :: a1 :: .ref a :: st) := by
  obtain ⟨p, l, e, R, s, m, args, below, meth, cd, Q, nL, G, mk, A, cells, slots⟩ := T
  obtain ⟨hx, hb, hml, hown, hts, hE, hA, hR, hM⟩ := hC
  intro H locs ls hP hS hl
  obtain ⟨k1, k2, k3, k4, k5⟩ := kw
  have hA2 : ∀ q, zA G q → A q := fun q ⟨k, hk, e⟩ => by rw [e]; exact hA k hk
  have hM2 : Met l y (.code y yc ym yr :: zT) { frames := yf, cells := 0, slots := 0, locals := yl } (va_Pc [.ref a, a1, a2, a3] (fun U => va_P G.1 vwCl (zW G (mk σ)) U.heap ∧ zEnv G (zA G) U)) (zQ G mk (none) σ') 0 0 (zA G) := hM2
  exact z_run (r := none) (va_runV (p := p) (As := [a1, a2, a3]) (rest := st) (C := y.cls) ⟨hx, hb, hml, hown, hts⟩ hM2 ⟨callB_of 3 hts (zT_more k4) rfl rfl rfl (hts _ k3) (hts _ hw) k5 ⟨by show yf + 1 ≤ _; omega, by show 8 + (ym + 11) + yl ≤ _; omega⟩, hts _ k1, hts _ k2⟩ ⟨fun a U g mk2 q => ⟨q.1, q.2.1, q.2.2.blind⟩, hrec H locs σ hP hS, fun U hU hW => ⟨rfl, by rw [hU]; exact hP, hE.call hS hA2 hU hW⟩⟩ rfl rfl hl.1 rfl (lv_room hcat) d ⟨hR.2.2.1, hR.2.2.2⟩) hS hA2 (fun H1 locs1 hP1 hS1 => kk H1 locs1 ls hP1 hS1 hl)
set_option maxHeartbeats 1000000 in
theorem z_cS3r {T : zX} {cc : ByteArray} {own : String} {fr lo cl ch : Nat} (hC : zOk T cc own fr lo cl ch) {σ : zSt} {pc : Nat} {lv : List (Nat × Value)} {st : List Value} {index : Nat} {y : MethodName} {yc : ByteArray} {ym : Nat} {yr : Option FieldType} {yf yl : Nat} {v : Value} {σ' : zSt} {a1 a2 a3 : Value} (hM2 : zMet (zL T) (zGr T) (zMk T) y yc ym yr yf yl [a1, a2, a3] σ (some v) σ') (kw : zWS y yc ym yr 3) (hw : Cond.methodLink own index y ∈ zT) (hroom : yf + 1 ≤ fr ∧ 8 + (ym + 11) + yl ≤ lo) (hcat : (st.map fun v => v.category).sum ≤ 8) (d : decode cc pc = .ok (.invokestatic index, 3)) (kk : Z T σ' (pc + 3) lv (v :: st)) : Z T σ pc lv (a3 :: a2 :: a1 :: st) := by
  obtain ⟨p, l, e, R, s, m, args, below, meth, cd, Q, nL, G, mk, A, cells, slots⟩ := T
  obtain ⟨hx, hb, hml, hown, hts, hE, hA, hR, hM⟩ := hC
  intro H locs ls hP hS hl
  obtain ⟨k1, k3, k4, k5⟩ := kw
  have hA2 : ∀ q, zA G q → A q := fun q ⟨k, hk, e⟩ => by rw [e]; exact hA k hk
  have hM2 : Met l y (.code y yc ym yr :: zT) { frames := yf, cells := 0, slots := 0, locals := yl } (va_Pc [a1, a2, a3] (fun U => va_P G.1 vwCl (zW G (mk σ)) U.heap ∧ zEnv G (zA G) U)) (zQ G mk (some v) σ') 0 0 (zA G) := hM2
  exact z_run (r := some v) (va_runS (p := p) (As := [a1, a2, a3]) (rest := st) ⟨hx, hb, hml, hown, hts⟩ hM2 ⟨callB_of 3 hts (zT_more k4) rfl rfl rfl (hts _ k3) (hts _ hw) k5 ⟨by show yf + 1 ≤ _; omega, by show 8 + (ym + 11) + yl ≤ _; omega⟩, hts _ k1⟩ ⟨fun a U g mk2 q => ⟨q.1, q.2.1, q.2.2.blind⟩, fun U hU hW => ⟨rfl, by rw [hU]; exact hP, hE.call hS hA2 hU hW⟩⟩ rfl rfl hl.1 rfl (lv_room hcat) d ⟨hR.2.2.1, hR.2.2.2⟩) hS hA2 (fun H1 locs1 hP1 hS1 => kk H1 locs1 ls hP1 hS1 hl)
set_option maxHeartbeats 1000000 in
theorem z_cS3v {T : zX} {cc : ByteArray} {own : String} {fr lo cl ch : Nat} (hC : zOk T cc own fr lo cl ch) {σ : zSt} {pc : Nat} {lv : List (Nat × Value)} {st : List Value} {index : Nat} {y : MethodName} {yc : ByteArray} {ym : Nat} {yr : Option FieldType} {yf yl : Nat} {σ' : zSt} {a1 a2 a3 : Value} (hM2 : zMet (zL T) (zGr T) (zMk T) y yc ym yr yf yl [a1, a2, a3] σ (none) σ') (kw : zWS y yc ym yr 3) (hw : Cond.methodLink own index y ∈ zT) (hroom : yf + 1 ≤ fr ∧ 8 + (ym + 11) + yl ≤ lo) (hcat : (st.map fun v => v.category).sum ≤ 8) (d : decode cc pc = .ok (.invokestatic index, 3)) (kk : Z T σ' (pc + 3) lv (st)) : Z T σ pc lv (a3 :: a2 :: a1 :: st) := by
  obtain ⟨p, l, e, R, s, m, args, below, meth, cd, Q, nL, G, mk, A, cells, slots⟩ := T
  obtain ⟨hx, hb, hml, hown, hts, hE, hA, hR, hM⟩ := hC
  intro H locs ls hP hS hl
  obtain ⟨k1, k3, k4, k5⟩ := kw
  have hA2 : ∀ q, zA G q → A q := fun q ⟨k, hk, e⟩ => by rw [e]; exact hA k hk
  have hM2 : Met l y (.code y yc ym yr :: zT) { frames := yf, cells := 0, slots := 0, locals := yl } (va_Pc [a1, a2, a3] (fun U => va_P G.1 vwCl (zW G (mk σ)) U.heap ∧ zEnv G (zA G) U)) (zQ G mk (none) σ') 0 0 (zA G) := hM2
  exact z_run (r := none) (va_runS (p := p) (As := [a1, a2, a3]) (rest := st) ⟨hx, hb, hml, hown, hts⟩ hM2 ⟨callB_of 3 hts (zT_more k4) rfl rfl rfl (hts _ k3) (hts _ hw) k5 ⟨by show yf + 1 ≤ _; omega, by show 8 + (ym + 11) + yl ≤ _; omega⟩, hts _ k1⟩ ⟨fun a U g mk2 q => ⟨q.1, q.2.1, q.2.2.blind⟩, fun U hU hW => ⟨rfl, by rw [hU]; exact hP, hE.call hS hA2 hU hW⟩⟩ rfl rfl hl.1 rfl (lv_room hcat) d ⟨hR.2.2.1, hR.2.2.2⟩) hS hA2 (fun H1 locs1 hP1 hS1 => kk H1 locs1 ls hP1 hS1 hl)
set_option maxHeartbeats 1000000 in
theorem z_cV4r {T : zX} {cc : ByteArray} {own : String} {fr lo cl ch : Nat} (hC : zOk T cc own fr lo cl ch) {σ : zSt} {pc : Nat} {lv : List (Nat × Value)} {st : List Value} {index : Nat} {y : MethodName} {yc : ByteArray} {ym : Nat} {yr : Option FieldType} {yf yl : Nat} {v : Value} {σ' : zSt} {a : Nat} {a1 a2 a3 a4 : Value} (hM2 : zMet (zL T) (zGr T) (zMk T) y yc ym yr yf yl [.ref a, a1, a2, a3, a4] σ (some v) σ') (hrec : zRecv T a y.cls) (kw : zWV y yc ym yr 4) (hw : Cond.methodLink own index y ∈ zT) (hroom : yf + 1 ≤ fr ∧ 8 + (ym + 11) + yl ≤ lo) (hcat : (st.map fun v => v.category).sum ≤ 8) (d : decode cc pc = .ok (.invokevirtual index, 3)) (kk : Z T σ' (pc + 3) lv (v :: st)) : Z T σ pc lv (a4 :: a3 :: a2 :: a1 :: .ref a :: st) := by
  obtain ⟨p, l, e, R, s, m, args, below, meth, cd, Q, nL, G, mk, A, cells, slots⟩ := T
  obtain ⟨hx, hb, hml, hown, hts, hE, hA, hR, hM⟩ := hC
  intro H locs ls hP hS hl
  obtain ⟨k1, k2, k3, k4, k5⟩ := kw
  have hA2 : ∀ q, zA G q → A q := fun q ⟨k, hk, e⟩ => by rw [e]; exact hA k hk
  have hM2 : Met l y (.code y yc ym yr :: zT) { frames := yf, cells := 0, slots := 0, locals := yl } (va_Pc [.ref a, a1, a2, a3, a4] (fun U => va_P G.1 vwCl (zW G (mk σ)) U.heap ∧ zEnv G (zA G) U)) (zQ G mk (some v) σ') 0 0 (zA G) := hM2
  exact z_run (r := some v) (va_runV (p := p) (As := [a1, a2, a3, a4]) (rest := st) (C := y.cls) ⟨hx, hb, hml, hown, hts⟩ hM2 ⟨callB_of 4 hts (zT_more k4) rfl rfl rfl (hts _ k3) (hts _ hw) k5 ⟨by show yf + 1 ≤ _; omega, by show 8 + (ym + 11) + yl ≤ _; omega⟩, hts _ k1, hts _ k2⟩ ⟨fun a U g mk2 q => ⟨q.1, q.2.1, q.2.2.blind⟩, hrec H locs σ hP hS, fun U hU hW => ⟨rfl, by rw [hU]; exact hP, hE.call hS hA2 hU hW⟩⟩ rfl rfl hl.1 rfl (lv_room hcat) d ⟨hR.2.2.1, hR.2.2.2⟩) hS hA2 (fun H1 locs1 hP1 hS1 => kk H1 locs1 ls hP1 hS1 hl)
set_option maxHeartbeats 1000000 in
theorem z_cV4v {T : zX} {cc : ByteArray} {own : String} {fr lo cl ch : Nat} (hC : zOk T cc own fr lo cl ch) {σ : zSt} {pc : Nat} {lv : List (Nat × Value)} {st : List Value} {index : Nat} {y : MethodName} {yc : ByteArray} {ym : Nat} {yr : Option FieldType} {yf yl : Nat} {σ' : zSt} {a : Nat} {a1 a2 a3 a4 : Value} (hM2 : zMet (zL T) (zGr T) (zMk T) y yc ym yr yf yl [.ref a, a1, a2, a3, a4] σ (none) σ') (hrec : zRecv T a y.cls) (kw : zWV y yc ym yr 4) (hw : Cond.methodLink own index y ∈ zT) (hroom : yf + 1 ≤ fr ∧ 8 + (ym + 11) + yl ≤ lo) (hcat : (st.map fun v => v.category).sum ≤ 8) (d : decode cc pc = .ok (.invokevirtual index, 3)) (kk : Z T σ' (pc + 3) lv (st)) : Z T σ pc lv (a4 :: a3 :: a2 :: a1 :: .ref a :: st) := by
  obtain ⟨p, l, e, R, s, m, args, below, meth, cd, Q, nL, G, mk, A, cells, slots⟩ := T
  obtain ⟨hx, hb, hml, hown, hts, hE, hA, hR, hM⟩ := hC
  intro H locs ls hP hS hl
  obtain ⟨k1, k2, k3, k4, k5⟩ := kw
  have hA2 : ∀ q, zA G q → A q := fun q ⟨k, hk, e⟩ => by rw [e]; exact hA k hk
  have hM2 : Met l y (.code y yc ym yr :: zT) { frames := yf, cells := 0, slots := 0, locals := yl } (va_Pc [.ref a, a1, a2, a3, a4] (fun U => va_P G.1 vwCl (zW G (mk σ)) U.heap ∧ zEnv G (zA G) U)) (zQ G mk (none) σ') 0 0 (zA G) := hM2
  exact z_run (r := none) (va_runV (p := p) (As := [a1, a2, a3, a4]) (rest := st) (C := y.cls) ⟨hx, hb, hml, hown, hts⟩ hM2 ⟨callB_of 4 hts (zT_more k4) rfl rfl rfl (hts _ k3) (hts _ hw) k5 ⟨by show yf + 1 ≤ _; omega, by show 8 + (ym + 11) + yl ≤ _; omega⟩, hts _ k1, hts _ k2⟩ ⟨fun a U g mk2 q => ⟨q.1, q.2.1, q.2.2.blind⟩, hrec H locs σ hP hS, fun U hU hW => ⟨rfl, by rw [hU]; exact hP, hE.call hS hA2 hU hW⟩⟩ rfl rfl hl.1 rfl (lv_room hcat) d ⟨hR.2.2.1, hR.2.2.2⟩) hS hA2 (fun H1 locs1 hP1 hS1 => kk H1 locs1 ls hP1 hS1 hl)
set_option maxHeartbeats 1000000 in
theorem z_cS4r {T : zX} {cc : ByteArray} {own : String} {fr lo cl ch : Nat} (hC : zOk T cc own fr lo cl ch) {σ : zSt} {pc : Nat} {lv : List (Nat × Value)} {st : List Value} {index : Nat} {y : MethodName} {yc : ByteArray} {ym : Nat} {yr : Option FieldType} {yf yl : Nat} {v : Value} {σ' : zSt} {a1 a2 a3 a4 : Value} (hM2 : zMet (zL T) (zGr T) (zMk T) y yc ym yr yf yl [a1, a2, a3, a4] σ (some v) σ') (kw : zWS y yc ym yr 4) (hw : Cond.methodLink own index y ∈ zT) (hroom : yf + 1 ≤ fr ∧ 8 + (ym + 11) + yl ≤ lo) (hcat : (st.map fun v => v.category).sum ≤ 8) (d : decode cc pc = .ok (.invokestatic index, 3)) (kk : Z T σ' (pc + 3) lv (v :: st)) : Z T σ pc lv (a4 :: a3 :: a2 :: a1 :: st) := by
  obtain ⟨p, l, e, R, s, m, args, below, meth, cd, Q, nL, G, mk, A, cells, slots⟩ := T
  obtain ⟨hx, hb, hml, hown, hts, hE, hA, hR, hM⟩ := hC
  intro H locs ls hP hS hl
  obtain ⟨k1, k3, k4, k5⟩ := kw
  have hA2 : ∀ q, zA G q → A q := fun q ⟨k, hk, e⟩ => by rw [e]; exact hA k hk
  have hM2 : Met l y (.code y yc ym yr :: zT) { frames := yf, cells := 0, slots := 0, locals := yl } (va_Pc [a1, a2, a3, a4] (fun U => va_P G.1 vwCl (zW G (mk σ)) U.heap ∧ zEnv G (zA G) U)) (zQ G mk (some v) σ') 0 0 (zA G) := hM2
  exact z_run (r := some v) (va_runS (p := p) (As := [a1, a2, a3, a4]) (rest := st) ⟨hx, hb, hml, hown, hts⟩ hM2 ⟨callB_of 4 hts (zT_more k4) rfl rfl rfl (hts _ k3) (hts _ hw) k5 ⟨by show yf + 1 ≤ _; omega, by show 8 + (ym + 11) + yl ≤ _; omega⟩, hts _ k1⟩ ⟨fun a U g mk2 q => ⟨q.1, q.2.1, q.2.2.blind⟩, fun U hU hW => ⟨rfl, by rw [hU]; exact hP, hE.call hS hA2 hU hW⟩⟩ rfl rfl hl.1 rfl (lv_room hcat) d ⟨hR.2.2.1, hR.2.2.2⟩) hS hA2 (fun H1 locs1 hP1 hS1 => kk H1 locs1 ls hP1 hS1 hl)
set_option maxHeartbeats 1000000 in
theorem z_cS4v {T : zX} {cc : ByteArray} {own : String} {fr lo cl ch : Nat} (hC : zOk T cc own fr lo cl ch) {σ : zSt} {pc : Nat} {lv : List (Nat × Value)} {st : List Value} {index : Nat} {y : MethodName} {yc : ByteArray} {ym : Nat} {yr : Option FieldType} {yf yl : Nat} {σ' : zSt} {a1 a2 a3 a4 : Value} (hM2 : zMet (zL T) (zGr T) (zMk T) y yc ym yr yf yl [a1, a2, a3, a4] σ (none) σ') (kw : zWS y yc ym yr 4) (hw : Cond.methodLink own index y ∈ zT) (hroom : yf + 1 ≤ fr ∧ 8 + (ym + 11) + yl ≤ lo) (hcat : (st.map fun v => v.category).sum ≤ 8) (d : decode cc pc = .ok (.invokestatic index, 3)) (kk : Z T σ' (pc + 3) lv (st)) : Z T σ pc lv (a4 :: a3 :: a2 :: a1 :: st) := by
  obtain ⟨p, l, e, R, s, m, args, below, meth, cd, Q, nL, G, mk, A, cells, slots⟩ := T
  obtain ⟨hx, hb, hml, hown, hts, hE, hA, hR, hM⟩ := hC
  intro H locs ls hP hS hl
  obtain ⟨k1, k3, k4, k5⟩ := kw
  have hA2 : ∀ q, zA G q → A q := fun q ⟨k, hk, e⟩ => by rw [e]; exact hA k hk
  have hM2 : Met l y (.code y yc ym yr :: zT) { frames := yf, cells := 0, slots := 0, locals := yl } (va_Pc [a1, a2, a3, a4] (fun U => va_P G.1 vwCl (zW G (mk σ)) U.heap ∧ zEnv G (zA G) U)) (zQ G mk (none) σ') 0 0 (zA G) := hM2
  exact z_run (r := none) (va_runS (p := p) (As := [a1, a2, a3, a4]) (rest := st) ⟨hx, hb, hml, hown, hts⟩ hM2 ⟨callB_of 4 hts (zT_more k4) rfl rfl rfl (hts _ k3) (hts _ hw) k5 ⟨by show yf + 1 ≤ _; omega, by show 8 + (ym + 11) + yl ≤ _; omega⟩, hts _ k1⟩ ⟨fun a U g mk2 q => ⟨q.1, q.2.1, q.2.2.blind⟩, fun U hU hW => ⟨rfl, by rw [hU]; exact hP, hE.call hS hA2 hU hW⟩⟩ rfl rfl hl.1 rfl (lv_room hcat) d ⟨hR.2.2.1, hR.2.2.2⟩) hS hA2 (fun H1 locs1 hP1 hS1 => kk H1 locs1 ls hP1 hS1 hl)
set_option maxHeartbeats 1000000 in
theorem z_cV5r {T : zX} {cc : ByteArray} {own : String} {fr lo cl ch : Nat} (hC : zOk T cc own fr lo cl ch) {σ : zSt} {pc : Nat} {lv : List (Nat × Value)} {st : List Value} {index : Nat} {y : MethodName} {yc : ByteArray} {ym : Nat} {yr : Option FieldType} {yf yl : Nat} {v : Value} {σ' : zSt} {a : Nat} {a1 a2 a3 a4 a5 : Value} (hM2 : zMet (zL T) (zGr T) (zMk T) y yc ym yr yf yl [.ref a, a1, a2, a3, a4, a5] σ (some v) σ') (hrec : zRecv T a y.cls) (kw : zWV y yc ym yr 5) (hw : Cond.methodLink own index y ∈ zT) (hroom : yf + 1 ≤ fr ∧ 8 + (ym + 11) + yl ≤ lo) (hcat : (st.map fun v => v.category).sum ≤ 8) (d : decode cc pc = .ok (.invokevirtual index, 3)) (kk : Z T σ' (pc + 3) lv (v :: st)) : Z T σ pc lv (a5 :: a4 :: a3 :: a2 :: a1 :: .ref a :: st) := by
  obtain ⟨p, l, e, R, s, m, args, below, meth, cd, Q, nL, G, mk, A, cells, slots⟩ := T
  obtain ⟨hx, hb, hml, hown, hts, hE, hA, hR, hM⟩ := hC
  intro H locs ls hP hS hl
  obtain ⟨k1, k2, k3, k4, k5⟩ := kw
  have hA2 : ∀ q, zA G q → A q := fun q ⟨k, hk, e⟩ => by rw [e]; exact hA k hk
  have hM2 : Met l y (.code y yc ym yr :: zT) { frames := yf, cells := 0, slots := 0, locals := yl } (va_Pc [.ref a, a1, a2, a3, a4, a5] (fun U => va_P G.1 vwCl (zW G (mk σ)) U.heap ∧ zEnv G (zA G) U)) (zQ G mk (some v) σ') 0 0 (zA G) := hM2
  exact z_run (r := some v) (va_runV (p := p) (As := [a1, a2, a3, a4, a5]) (rest := st) (C := y.cls) ⟨hx, hb, hml, hown, hts⟩ hM2 ⟨callB_of 5 hts (zT_more k4) rfl rfl rfl (hts _ k3) (hts _ hw) k5 ⟨by show yf + 1 ≤ _; omega, by show 8 + (ym + 11) + yl ≤ _; omega⟩, hts _ k1, hts _ k2⟩ ⟨fun a U g mk2 q => ⟨q.1, q.2.1, q.2.2.blind⟩, hrec H locs σ hP hS, fun U hU hW => ⟨rfl, by rw [hU]; exact hP, hE.call hS hA2 hU hW⟩⟩ rfl rfl hl.1 rfl (lv_room hcat) d ⟨hR.2.2.1, hR.2.2.2⟩) hS hA2 (fun H1 locs1 hP1 hS1 => kk H1 locs1 ls hP1 hS1 hl)
set_option maxHeartbeats 1000000 in
theorem z_cV5v {T : zX} {cc : ByteArray} {own : String} {fr lo cl ch : Nat} (hC : zOk T cc own fr lo cl ch) {σ : zSt} {pc : Nat} {lv : List (Nat × Value)} {st : List Value} {index : Nat} {y : MethodName} {yc : ByteArray} {ym : Nat} {yr : Option FieldType} {yf yl : Nat} {σ' : zSt} {a : Nat} {a1 a2 a3 a4 a5 : Value} (hM2 : zMet (zL T) (zGr T) (zMk T) y yc ym yr yf yl [.ref a, a1, a2, a3, a4, a5] σ (none) σ') (hrec : zRecv T a y.cls) (kw : zWV y yc ym yr 5) (hw : Cond.methodLink own index y ∈ zT) (hroom : yf + 1 ≤ fr ∧ 8 + (ym + 11) + yl ≤ lo) (hcat : (st.map fun v => v.category).sum ≤ 8) (d : decode cc pc = .ok (.invokevirtual index, 3)) (kk : Z T σ' (pc + 3) lv (st)) : Z T σ pc lv (a5 :: a4 :: a3 :: a2 :: a1 :: .ref a :: st) := by
  obtain ⟨p, l, e, R, s, m, args, below, meth, cd, Q, nL, G, mk, A, cells, slots⟩ := T
  obtain ⟨hx, hb, hml, hown, hts, hE, hA, hR, hM⟩ := hC
  intro H locs ls hP hS hl
  obtain ⟨k1, k2, k3, k4, k5⟩ := kw
  have hA2 : ∀ q, zA G q → A q := fun q ⟨k, hk, e⟩ => by rw [e]; exact hA k hk
  have hM2 : Met l y (.code y yc ym yr :: zT) { frames := yf, cells := 0, slots := 0, locals := yl } (va_Pc [.ref a, a1, a2, a3, a4, a5] (fun U => va_P G.1 vwCl (zW G (mk σ)) U.heap ∧ zEnv G (zA G) U)) (zQ G mk (none) σ') 0 0 (zA G) := hM2
  exact z_run (r := none) (va_runV (p := p) (As := [a1, a2, a3, a4, a5]) (rest := st) (C := y.cls) ⟨hx, hb, hml, hown, hts⟩ hM2 ⟨callB_of 5 hts (zT_more k4) rfl rfl rfl (hts _ k3) (hts _ hw) k5 ⟨by show yf + 1 ≤ _; omega, by show 8 + (ym + 11) + yl ≤ _; omega⟩, hts _ k1, hts _ k2⟩ ⟨fun a U g mk2 q => ⟨q.1, q.2.1, q.2.2.blind⟩, hrec H locs σ hP hS, fun U hU hW => ⟨rfl, by rw [hU]; exact hP, hE.call hS hA2 hU hW⟩⟩ rfl rfl hl.1 rfl (lv_room hcat) d ⟨hR.2.2.1, hR.2.2.2⟩) hS hA2 (fun H1 locs1 hP1 hS1 => kk H1 locs1 ls hP1 hS1 hl)
set_option maxHeartbeats 1000000 in
theorem z_cS5r {T : zX} {cc : ByteArray} {own : String} {fr lo cl ch : Nat} (hC : zOk T cc own fr lo cl ch) {σ : zSt} {pc : Nat} {lv : List (Nat × Value)} {st : List Value} {index : Nat} {y : MethodName} {yc : ByteArray} {ym : Nat} {yr : Option FieldType} {yf yl : Nat} {v : Value} {σ' : zSt} {a1 a2 a3 a4 a5 : Value} (hM2 : zMet (zL T) (zGr T) (zMk T) y yc ym yr yf yl [a1, a2, a3, a4, a5] σ (some v) σ') (kw : zWS y yc ym yr 5) (hw : Cond.methodLink own index y ∈ zT) (hroom : yf + 1 ≤ fr ∧ 8 + (ym + 11) + yl ≤ lo) (hcat : (st.map fun v => v.category).sum ≤ 8) (d : decode cc pc = .ok (.invokestatic index, 3)) (kk : Z T σ' (pc + 3) lv (v :: st)) : Z T σ pc lv (a5 :: a4 :: a3 :: a2 :: a1 :: st) := by
  obtain ⟨p, l, e, R, s, m, args, below, meth, cd, Q, nL, G, mk, A, cells, slots⟩ := T
  obtain ⟨hx, hb, hml, hown, hts, hE, hA, hR, hM⟩ := hC
  intro H locs ls hP hS hl
  obtain ⟨k1, k3, k4, k5⟩ := kw
  have hA2 : ∀ q, zA G q → A q := fun q ⟨k, hk, e⟩ => by rw [e]; exact hA k hk
  have hM2 : Met l y (.code y yc ym yr :: zT) { frames := yf, cells := 0, slots := 0, locals := yl } (va_Pc [a1, a2, a3, a4, a5] (fun U => va_P G.1 vwCl (zW G (mk σ)) U.heap ∧ zEnv G (zA G) U)) (zQ G mk (some v) σ') 0 0 (zA G) := hM2
  exact z_run (r := some v) (va_runS (p := p) (As := [a1, a2, a3, a4, a5]) (rest := st) ⟨hx, hb, hml, hown, hts⟩ hM2 ⟨callB_of 5 hts (zT_more k4) rfl rfl rfl (hts _ k3) (hts _ hw) k5 ⟨by show yf + 1 ≤ _; omega, by show 8 + (ym + 11) + yl ≤ _; omega⟩, hts _ k1⟩ ⟨fun a U g mk2 q => ⟨q.1, q.2.1, q.2.2.blind⟩, fun U hU hW => ⟨rfl, by rw [hU]; exact hP, hE.call hS hA2 hU hW⟩⟩ rfl rfl hl.1 rfl (lv_room hcat) d ⟨hR.2.2.1, hR.2.2.2⟩) hS hA2 (fun H1 locs1 hP1 hS1 => kk H1 locs1 ls hP1 hS1 hl)
set_option maxHeartbeats 1000000 in
theorem z_cS5v {T : zX} {cc : ByteArray} {own : String} {fr lo cl ch : Nat} (hC : zOk T cc own fr lo cl ch) {σ : zSt} {pc : Nat} {lv : List (Nat × Value)} {st : List Value} {index : Nat} {y : MethodName} {yc : ByteArray} {ym : Nat} {yr : Option FieldType} {yf yl : Nat} {σ' : zSt} {a1 a2 a3 a4 a5 : Value} (hM2 : zMet (zL T) (zGr T) (zMk T) y yc ym yr yf yl [a1, a2, a3, a4, a5] σ (none) σ') (kw : zWS y yc ym yr 5) (hw : Cond.methodLink own index y ∈ zT) (hroom : yf + 1 ≤ fr ∧ 8 + (ym + 11) + yl ≤ lo) (hcat : (st.map fun v => v.category).sum ≤ 8) (d : decode cc pc = .ok (.invokestatic index, 3)) (kk : Z T σ' (pc + 3) lv (st)) : Z T σ pc lv (a5 :: a4 :: a3 :: a2 :: a1 :: st) := by
  obtain ⟨p, l, e, R, s, m, args, below, meth, cd, Q, nL, G, mk, A, cells, slots⟩ := T
  obtain ⟨hx, hb, hml, hown, hts, hE, hA, hR, hM⟩ := hC
  intro H locs ls hP hS hl
  obtain ⟨k1, k3, k4, k5⟩ := kw
  have hA2 : ∀ q, zA G q → A q := fun q ⟨k, hk, e⟩ => by rw [e]; exact hA k hk
  have hM2 : Met l y (.code y yc ym yr :: zT) { frames := yf, cells := 0, slots := 0, locals := yl } (va_Pc [a1, a2, a3, a4, a5] (fun U => va_P G.1 vwCl (zW G (mk σ)) U.heap ∧ zEnv G (zA G) U)) (zQ G mk (none) σ') 0 0 (zA G) := hM2
  exact z_run (r := none) (va_runS (p := p) (As := [a1, a2, a3, a4, a5]) (rest := st) ⟨hx, hb, hml, hown, hts⟩ hM2 ⟨callB_of 5 hts (zT_more k4) rfl rfl rfl (hts _ k3) (hts _ hw) k5 ⟨by show yf + 1 ≤ _; omega, by show 8 + (ym + 11) + yl ≤ _; omega⟩, hts _ k1⟩ ⟨fun a U g mk2 q => ⟨q.1, q.2.1, q.2.2.blind⟩, fun U hU hW => ⟨rfl, by rw [hU]; exact hP, hE.call hS hA2 hU hW⟩⟩ rfl rfl hl.1 rfl (lv_room hcat) d ⟨hR.2.2.1, hR.2.2.2⟩) hS hA2 (fun H1 locs1 hP1 hS1 => kk H1 locs1 ls hP1 hS1 hl)
set_option maxHeartbeats 1000000 in
theorem z_cV6r {T : zX} {cc : ByteArray} {own : String} {fr lo cl ch : Nat} (hC : zOk T cc own fr lo cl ch) {σ : zSt} {pc : Nat} {lv : List (Nat × Value)} {st : List Value} {index : Nat} {y : MethodName} {yc : ByteArray} {ym : Nat} {yr : Option FieldType} {yf yl : Nat} {v : Value} {σ' : zSt} {a : Nat} {a1 a2 a3 a4 a5 a6 : Value} (hM2 : zMet (zL T) (zGr T) (zMk T) y yc ym yr yf yl [.ref a, a1, a2, a3, a4, a5, a6] σ (some v) σ') (hrec : zRecv T a y.cls) (kw : zWV y yc ym yr 6) (hw : Cond.methodLink own index y ∈ zT) (hroom : yf + 1 ≤ fr ∧ 8 + (ym + 11) + yl ≤ lo) (hcat : (st.map fun v => v.category).sum ≤ 8) (d : decode cc pc = .ok (.invokevirtual index, 3)) (kk : Z T σ' (pc + 3) lv (v :: st)) : Z T σ pc lv (a6 :: a5 :: a4 :: a3 :: a2 :: a1 :: .ref a :: st) := by
  obtain ⟨p, l, e, R, s, m, args, below, meth, cd, Q, nL, G, mk, A, cells, slots⟩ := T
  obtain ⟨hx, hb, hml, hown, hts, hE, hA, hR, hM⟩ := hC
  intro H locs ls hP hS hl
  obtain ⟨k1, k2, k3, k4, k5⟩ := kw
  have hA2 : ∀ q, zA G q → A q := fun q ⟨k, hk, e⟩ => by rw [e]; exact hA k hk
  have hM2 : Met l y (.code y yc ym yr :: zT) { frames := yf, cells := 0, slots := 0, locals := yl } (va_Pc [.ref a, a1, a2, a3, a4, a5, a6] (fun U => va_P G.1 vwCl (zW G (mk σ)) U.heap ∧ zEnv G (zA G) U)) (zQ G mk (some v) σ') 0 0 (zA G) := hM2
  exact z_run (r := some v) (va_runV (p := p) (As := [a1, a2, a3, a4, a5, a6]) (rest := st) (C := y.cls) ⟨hx, hb, hml, hown, hts⟩ hM2 ⟨callB_of 6 hts (zT_more k4) rfl rfl rfl (hts _ k3) (hts _ hw) k5 ⟨by show yf + 1 ≤ _; omega, by show 8 + (ym + 11) + yl ≤ _; omega⟩, hts _ k1, hts _ k2⟩ ⟨fun a U g mk2 q => ⟨q.1, q.2.1, q.2.2.blind⟩, hrec H locs σ hP hS, fun U hU hW => ⟨rfl, by rw [hU]; exact hP, hE.call hS hA2 hU hW⟩⟩ rfl rfl hl.1 rfl (lv_room hcat) d ⟨hR.2.2.1, hR.2.2.2⟩) hS hA2 (fun H1 locs1 hP1 hS1 => kk H1 locs1 ls hP1 hS1 hl)
set_option maxHeartbeats 1000000 in
theorem z_cV6v {T : zX} {cc : ByteArray} {own : String} {fr lo cl ch : Nat} (hC : zOk T cc own fr lo cl ch) {σ : zSt} {pc : Nat} {lv : List (Nat × Value)} {st : List Value} {index : Nat} {y : MethodName} {yc : ByteArray} {ym : Nat} {yr : Option FieldType} {yf yl : Nat} {σ' : zSt} {a : Nat} {a1 a2 a3 a4 a5 a6 : Value} (hM2 : zMet (zL T) (zGr T) (zMk T) y yc ym yr yf yl [.ref a, a1, a2, a3, a4, a5, a6] σ (none) σ') (hrec : zRecv T a y.cls) (kw : zWV y yc ym yr 6) (hw : Cond.methodLink own index y ∈ zT) (hroom : yf + 1 ≤ fr ∧ 8 + (ym + 11) + yl ≤ lo) (hcat : (st.map fun v => v.category).sum ≤ 8) (d : decode cc pc = .ok (.invokevirtual index, 3)) (kk : Z T σ' (pc + 3) lv (st)) : Z T σ pc lv (a6 :: a5 :: a4 :: a3 :: a2 :: a1 :: .ref a :: st) := by
  obtain ⟨p, l, e, R, s, m, args, below, meth, cd, Q, nL, G, mk, A, cells, slots⟩ := T
  obtain ⟨hx, hb, hml, hown, hts, hE, hA, hR, hM⟩ := hC
  intro H locs ls hP hS hl
  obtain ⟨k1, k2, k3, k4, k5⟩ := kw
  have hA2 : ∀ q, zA G q → A q := fun q ⟨k, hk, e⟩ => by rw [e]; exact hA k hk
  have hM2 : Met l y (.code y yc ym yr :: zT) { frames := yf, cells := 0, slots := 0, locals := yl } (va_Pc [.ref a, a1, a2, a3, a4, a5, a6] (fun U => va_P G.1 vwCl (zW G (mk σ)) U.heap ∧ zEnv G (zA G) U)) (zQ G mk (none) σ') 0 0 (zA G) := hM2
  exact z_run (r := none) (va_runV (p := p) (As := [a1, a2, a3, a4, a5, a6]) (rest := st) (C := y.cls) ⟨hx, hb, hml, hown, hts⟩ hM2 ⟨callB_of 6 hts (zT_more k4) rfl rfl rfl (hts _ k3) (hts _ hw) k5 ⟨by show yf + 1 ≤ _; omega, by show 8 + (ym + 11) + yl ≤ _; omega⟩, hts _ k1, hts _ k2⟩ ⟨fun a U g mk2 q => ⟨q.1, q.2.1, q.2.2.blind⟩, hrec H locs σ hP hS, fun U hU hW => ⟨rfl, by rw [hU]; exact hP, hE.call hS hA2 hU hW⟩⟩ rfl rfl hl.1 rfl (lv_room hcat) d ⟨hR.2.2.1, hR.2.2.2⟩) hS hA2 (fun H1 locs1 hP1 hS1 => kk H1 locs1 ls hP1 hS1 hl)
set_option maxHeartbeats 1000000 in
theorem z_cS6r {T : zX} {cc : ByteArray} {own : String} {fr lo cl ch : Nat} (hC : zOk T cc own fr lo cl ch) {σ : zSt} {pc : Nat} {lv : List (Nat × Value)} {st : List Value} {index : Nat} {y : MethodName} {yc : ByteArray} {ym : Nat} {yr : Option FieldType} {yf yl : Nat} {v : Value} {σ' : zSt} {a1 a2 a3 a4 a5 a6 : Value} (hM2 : zMet (zL T) (zGr T) (zMk T) y yc ym yr yf yl [a1, a2, a3, a4, a5, a6] σ (some v) σ') (kw : zWS y yc ym yr 6) (hw : Cond.methodLink own index y ∈ zT) (hroom : yf + 1 ≤ fr ∧ 8 + (ym + 11) + yl ≤ lo) (hcat : (st.map fun v => v.category).sum ≤ 8) (d : decode cc pc = .ok (.invokestatic index, 3)) (kk : Z T σ' (pc + 3) lv (v :: st)) : Z T σ pc lv (a6 :: a5 :: a4 :: a3 :: a2 :: a1 :: st) := by
  obtain ⟨p, l, e, R, s, m, args, below, meth, cd, Q, nL, G, mk, A, cells, slots⟩ := T
  obtain ⟨hx, hb, hml, hown, hts, hE, hA, hR, hM⟩ := hC
  intro H locs ls hP hS hl
  obtain ⟨k1, k3, k4, k5⟩ := kw
  have hA2 : ∀ q, zA G q → A q := fun q ⟨k, hk, e⟩ => by rw [e]; exact hA k hk
  have hM2 : Met l y (.code y yc ym yr :: zT) { frames := yf, cells := 0, slots := 0, locals := yl } (va_Pc [a1, a2, a3, a4, a5, a6] (fun U => va_P G.1 vwCl (zW G (mk σ)) U.heap ∧ zEnv G (zA G) U)) (zQ G mk (some v) σ') 0 0 (zA G) := hM2
  exact z_run (r := some v) (va_runS (p := p) (As := [a1, a2, a3, a4, a5, a6]) (rest := st) ⟨hx, hb, hml, hown, hts⟩ hM2 ⟨callB_of 6 hts (zT_more k4) rfl rfl rfl (hts _ k3) (hts _ hw) k5 ⟨by show yf + 1 ≤ _; omega, by show 8 + (ym + 11) + yl ≤ _; omega⟩, hts _ k1⟩ ⟨fun a U g mk2 q => ⟨q.1, q.2.1, q.2.2.blind⟩, fun U hU hW => ⟨rfl, by rw [hU]; exact hP, hE.call hS hA2 hU hW⟩⟩ rfl rfl hl.1 rfl (lv_room hcat) d ⟨hR.2.2.1, hR.2.2.2⟩) hS hA2 (fun H1 locs1 hP1 hS1 => kk H1 locs1 ls hP1 hS1 hl)
set_option maxHeartbeats 1000000 in
theorem z_cS6v {T : zX} {cc : ByteArray} {own : String} {fr lo cl ch : Nat} (hC : zOk T cc own fr lo cl ch) {σ : zSt} {pc : Nat} {lv : List (Nat × Value)} {st : List Value} {index : Nat} {y : MethodName} {yc : ByteArray} {ym : Nat} {yr : Option FieldType} {yf yl : Nat} {σ' : zSt} {a1 a2 a3 a4 a5 a6 : Value} (hM2 : zMet (zL T) (zGr T) (zMk T) y yc ym yr yf yl [a1, a2, a3, a4, a5, a6] σ (none) σ') (kw : zWS y yc ym yr 6) (hw : Cond.methodLink own index y ∈ zT) (hroom : yf + 1 ≤ fr ∧ 8 + (ym + 11) + yl ≤ lo) (hcat : (st.map fun v => v.category).sum ≤ 8) (d : decode cc pc = .ok (.invokestatic index, 3)) (kk : Z T σ' (pc + 3) lv (st)) : Z T σ pc lv (a6 :: a5 :: a4 :: a3 :: a2 :: a1 :: st) := by
  obtain ⟨p, l, e, R, s, m, args, below, meth, cd, Q, nL, G, mk, A, cells, slots⟩ := T
  obtain ⟨hx, hb, hml, hown, hts, hE, hA, hR, hM⟩ := hC
  intro H locs ls hP hS hl
  obtain ⟨k1, k3, k4, k5⟩ := kw
  have hA2 : ∀ q, zA G q → A q := fun q ⟨k, hk, e⟩ => by rw [e]; exact hA k hk
  have hM2 : Met l y (.code y yc ym yr :: zT) { frames := yf, cells := 0, slots := 0, locals := yl } (va_Pc [a1, a2, a3, a4, a5, a6] (fun U => va_P G.1 vwCl (zW G (mk σ)) U.heap ∧ zEnv G (zA G) U)) (zQ G mk (none) σ') 0 0 (zA G) := hM2
  exact z_run (r := none) (va_runS (p := p) (As := [a1, a2, a3, a4, a5, a6]) (rest := st) ⟨hx, hb, hml, hown, hts⟩ hM2 ⟨callB_of 6 hts (zT_more k4) rfl rfl rfl (hts _ k3) (hts _ hw) k5 ⟨by show yf + 1 ≤ _; omega, by show 8 + (ym + 11) + yl ≤ _; omega⟩, hts _ k1⟩ ⟨fun a U g mk2 q => ⟨q.1, q.2.1, q.2.2.blind⟩, fun U hU hW => ⟨rfl, by rw [hU]; exact hP, hE.call hS hA2 hU hW⟩⟩ rfl rfl hl.1 rfl (lv_room hcat) d ⟨hR.2.2.1, hR.2.2.2⟩) hS hA2 (fun H1 locs1 hP1 hS1 => kk H1 locs1 ls hP1 hS1 hl)
set_option maxHeartbeats 1000000 in
theorem z_cV7r {T : zX} {cc : ByteArray} {own : String} {fr lo cl ch : Nat} (hC : zOk T cc own fr lo cl ch) {σ : zSt} {pc : Nat} {lv : List (Nat × Value)} {st : List Value} {index : Nat} {y : MethodName} {yc : ByteArray} {ym : Nat} {yr : Option FieldType} {yf yl : Nat} {v : Value} {σ' : zSt} {a : Nat} {a1 a2 a3 a4 a5 a6 a7 : Value} (hM2 : zMet (zL T) (zGr T) (zMk T) y yc ym yr yf yl [.ref a, a1, a2, a3, a4, a5, a6, a7] σ (some v) σ') (hrec : zRecv T a y.cls) (kw : zWV y yc ym yr 7) (hw : Cond.methodLink own index y ∈ zT) (hroom : yf + 1 ≤ fr ∧ 8 + (ym + 11) + yl ≤ lo) (hcat : (st.map fun v => v.category).sum ≤ 8) (d : decode cc pc = .ok (.invokevirtual index, 3)) (kk : Z T σ' (pc + 3) lv (v :: st)) : Z T σ pc lv (a7 :: a6 :: a5 :: a4 :: a3 :: a2 :: a1 :: .ref a :: st) := by
  obtain ⟨p, l, e, R, s, m, args, below, meth, cd, Q, nL, G, mk, A, cells, slots⟩ := T
  obtain ⟨hx, hb, hml, hown, hts, hE, hA, hR, hM⟩ := hC
  intro H locs ls hP hS hl
  obtain ⟨k1, k2, k3, k4, k5⟩ := kw
  have hA2 : ∀ q, zA G q → A q := fun q ⟨k, hk, e⟩ => by rw [e]; exact hA k hk
  have hM2 : Met l y (.code y yc ym yr :: zT) { frames := yf, cells := 0, slots := 0, locals := yl } (va_Pc [.ref a, a1, a2, a3, a4, a5, a6, a7] (fun U => va_P G.1 vwCl (zW G (mk σ)) U.heap ∧ zEnv G (zA G) U)) (zQ G mk (some v) σ') 0 0 (zA G) := hM2
  exact z_run (r := some v) (va_runV (p := p) (As := [a1, a2, a3, a4, a5, a6, a7]) (rest := st) (C := y.cls) ⟨hx, hb, hml, hown, hts⟩ hM2 ⟨callB_of 7 hts (zT_more k4) rfl rfl rfl (hts _ k3) (hts _ hw) k5 ⟨by show yf + 1 ≤ _; omega, by show 8 + (ym + 11) + yl ≤ _; omega⟩, hts _ k1, hts _ k2⟩ ⟨fun a U g mk2 q => ⟨q.1, q.2.1, q.2.2.blind⟩, hrec H locs σ hP hS, fun U hU hW => ⟨rfl, by rw [hU]; exact hP, hE.call hS hA2 hU hW⟩⟩ rfl rfl hl.1 rfl (lv_room hcat) d ⟨hR.2.2.1, hR.2.2.2⟩) hS hA2 (fun H1 locs1 hP1 hS1 => kk H1 locs1 ls hP1 hS1 hl)
set_option maxHeartbeats 1000000 in
theorem z_cV7v {T : zX} {cc : ByteArray} {own : String} {fr lo cl ch : Nat} (hC : zOk T cc own fr lo cl ch) {σ : zSt} {pc : Nat} {lv : List (Nat × Value)} {st : List Value} {index : Nat} {y : MethodName} {yc : ByteArray} {ym : Nat} {yr : Option FieldType} {yf yl : Nat} {σ' : zSt} {a : Nat} {a1 a2 a3 a4 a5 a6 a7 : Value} (hM2 : zMet (zL T) (zGr T) (zMk T) y yc ym yr yf yl [.ref a, a1, a2, a3, a4, a5, a6, a7] σ (none) σ') (hrec : zRecv T a y.cls) (kw : zWV y yc ym yr 7) (hw : Cond.methodLink own index y ∈ zT) (hroom : yf + 1 ≤ fr ∧ 8 + (ym + 11) + yl ≤ lo) (hcat : (st.map fun v => v.category).sum ≤ 8) (d : decode cc pc = .ok (.invokevirtual index, 3)) (kk : Z T σ' (pc + 3) lv (st)) : Z T σ pc lv (a7 :: a6 :: a5 :: a4 :: a3 :: a2 :: a1 :: .ref a :: st) := by
  obtain ⟨p, l, e, R, s, m, args, below, meth, cd, Q, nL, G, mk, A, cells, slots⟩ := T
  obtain ⟨hx, hb, hml, hown, hts, hE, hA, hR, hM⟩ := hC
  intro H locs ls hP hS hl
  obtain ⟨k1, k2, k3, k4, k5⟩ := kw
  have hA2 : ∀ q, zA G q → A q := fun q ⟨k, hk, e⟩ => by rw [e]; exact hA k hk
  have hM2 : Met l y (.code y yc ym yr :: zT) { frames := yf, cells := 0, slots := 0, locals := yl } (va_Pc [.ref a, a1, a2, a3, a4, a5, a6, a7] (fun U => va_P G.1 vwCl (zW G (mk σ)) U.heap ∧ zEnv G (zA G) U)) (zQ G mk (none) σ') 0 0 (zA G) := hM2
  exact z_run (r := none) (va_runV (p := p) (As := [a1, a2, a3, a4, a5, a6, a7]) (rest := st) (C := y.cls) ⟨hx, hb, hml, hown, hts⟩ hM2 ⟨callB_of 7 hts (zT_more k4) rfl rfl rfl (hts _ k3) (hts _ hw) k5 ⟨by show yf + 1 ≤ _; omega, by show 8 + (ym + 11) + yl ≤ _; omega⟩, hts _ k1, hts _ k2⟩ ⟨fun a U g mk2 q => ⟨q.1, q.2.1, q.2.2.blind⟩, hrec H locs σ hP hS, fun U hU hW => ⟨rfl, by rw [hU]; exact hP, hE.call hS hA2 hU hW⟩⟩ rfl rfl hl.1 rfl (lv_room hcat) d ⟨hR.2.2.1, hR.2.2.2⟩) hS hA2 (fun H1 locs1 hP1 hS1 => kk H1 locs1 ls hP1 hS1 hl)
set_option maxHeartbeats 1000000 in
theorem z_cS7r {T : zX} {cc : ByteArray} {own : String} {fr lo cl ch : Nat} (hC : zOk T cc own fr lo cl ch) {σ : zSt} {pc : Nat} {lv : List (Nat × Value)} {st : List Value} {index : Nat} {y : MethodName} {yc : ByteArray} {ym : Nat} {yr : Option FieldType} {yf yl : Nat} {v : Value} {σ' : zSt} {a1 a2 a3 a4 a5 a6 a7 : Value} (hM2 : zMet (zL T) (zGr T) (zMk T) y yc ym yr yf yl [a1, a2, a3, a4, a5, a6, a7] σ (some v) σ') (kw : zWS y yc ym yr 7) (hw : Cond.methodLink own index y ∈ zT) (hroom : yf + 1 ≤ fr ∧ 8 + (ym + 11) + yl ≤ lo) (hcat : (st.map fun v => v.category).sum ≤ 8) (d : decode cc pc = .ok (.invokestatic index, 3)) (kk : Z T σ' (pc + 3) lv (v :: st)) : Z T σ pc lv (a7 :: a6 :: a5 :: a4 :: a3 :: a2 :: a1 :: st) := by
  obtain ⟨p, l, e, R, s, m, args, below, meth, cd, Q, nL, G, mk, A, cells, slots⟩ := T
  obtain ⟨hx, hb, hml, hown, hts, hE, hA, hR, hM⟩ := hC
  intro H locs ls hP hS hl
  obtain ⟨k1, k3, k4, k5⟩ := kw
  have hA2 : ∀ q, zA G q → A q := fun q ⟨k, hk, e⟩ => by rw [e]; exact hA k hk
  have hM2 : Met l y (.code y yc ym yr :: zT) { frames := yf, cells := 0, slots := 0, locals := yl } (va_Pc [a1, a2, a3, a4, a5, a6, a7] (fun U => va_P G.1 vwCl (zW G (mk σ)) U.heap ∧ zEnv G (zA G) U)) (zQ G mk (some v) σ') 0 0 (zA G) := hM2
  exact z_run (r := some v) (va_runS (p := p) (As := [a1, a2, a3, a4, a5, a6, a7]) (rest := st) ⟨hx, hb, hml, hown, hts⟩ hM2 ⟨callB_of 7 hts (zT_more k4) rfl rfl rfl (hts _ k3) (hts _ hw) k5 ⟨by show yf + 1 ≤ _; omega, by show 8 + (ym + 11) + yl ≤ _; omega⟩, hts _ k1⟩ ⟨fun a U g mk2 q => ⟨q.1, q.2.1, q.2.2.blind⟩, fun U hU hW => ⟨rfl, by rw [hU]; exact hP, hE.call hS hA2 hU hW⟩⟩ rfl rfl hl.1 rfl (lv_room hcat) d ⟨hR.2.2.1, hR.2.2.2⟩) hS hA2 (fun H1 locs1 hP1 hS1 => kk H1 locs1 ls hP1 hS1 hl)
set_option maxHeartbeats 1000000 in
theorem z_cS7v {T : zX} {cc : ByteArray} {own : String} {fr lo cl ch : Nat} (hC : zOk T cc own fr lo cl ch) {σ : zSt} {pc : Nat} {lv : List (Nat × Value)} {st : List Value} {index : Nat} {y : MethodName} {yc : ByteArray} {ym : Nat} {yr : Option FieldType} {yf yl : Nat} {σ' : zSt} {a1 a2 a3 a4 a5 a6 a7 : Value} (hM2 : zMet (zL T) (zGr T) (zMk T) y yc ym yr yf yl [a1, a2, a3, a4, a5, a6, a7] σ (none) σ') (kw : zWS y yc ym yr 7) (hw : Cond.methodLink own index y ∈ zT) (hroom : yf + 1 ≤ fr ∧ 8 + (ym + 11) + yl ≤ lo) (hcat : (st.map fun v => v.category).sum ≤ 8) (d : decode cc pc = .ok (.invokestatic index, 3)) (kk : Z T σ' (pc + 3) lv (st)) : Z T σ pc lv (a7 :: a6 :: a5 :: a4 :: a3 :: a2 :: a1 :: st) := by
  obtain ⟨p, l, e, R, s, m, args, below, meth, cd, Q, nL, G, mk, A, cells, slots⟩ := T
  obtain ⟨hx, hb, hml, hown, hts, hE, hA, hR, hM⟩ := hC
  intro H locs ls hP hS hl
  obtain ⟨k1, k3, k4, k5⟩ := kw
  have hA2 : ∀ q, zA G q → A q := fun q ⟨k, hk, e⟩ => by rw [e]; exact hA k hk
  have hM2 : Met l y (.code y yc ym yr :: zT) { frames := yf, cells := 0, slots := 0, locals := yl } (va_Pc [a1, a2, a3, a4, a5, a6, a7] (fun U => va_P G.1 vwCl (zW G (mk σ)) U.heap ∧ zEnv G (zA G) U)) (zQ G mk (none) σ') 0 0 (zA G) := hM2
  exact z_run (r := none) (va_runS (p := p) (As := [a1, a2, a3, a4, a5, a6, a7]) (rest := st) ⟨hx, hb, hml, hown, hts⟩ hM2 ⟨callB_of 7 hts (zT_more k4) rfl rfl rfl (hts _ k3) (hts _ hw) k5 ⟨by show yf + 1 ≤ _; omega, by show 8 + (ym + 11) + yl ≤ _; omega⟩, hts _ k1⟩ ⟨fun a U g mk2 q => ⟨q.1, q.2.1, q.2.2.blind⟩, fun U hU hW => ⟨rfl, by rw [hU]; exact hP, hE.call hS hA2 hU hW⟩⟩ rfl rfl hl.1 rfl (lv_room hcat) d ⟨hR.2.2.1, hR.2.2.2⟩) hS hA2 (fun H1 locs1 hP1 hS1 => kk H1 locs1 ls hP1 hS1 hl)
theorem z_cS2rN {T : zX} {cc : ByteArray} {own : String} {fr lo cl ch : Nat} (hC : zOk T cc own fr lo cl ch) {σ : zSt} {pc : Nat} {lv : List (Nat × Value)} {st : List Value} {index : Nat} {y : MethodName} {yc : ByteArray} {ym : Nat} {yr : Option FieldType} {yf yl : Nat} {v : Value} {σ' : zSt} {a1 a2 : Value} {host : String} (hM2 : zMet (zL T) (zGr T) (zMk T) y yc ym yr yf yl [a1, a2] σ (some v) σ') (kw : zWS y yc ym yr 2) (hw : Cond.methodLinkNest own index y host ∈ zNest) (hroom : yf + 1 ≤ fr ∧ 8 + (ym + 11) + yl ≤ lo) (hcat : (st.map fun v => v.category).sum ≤ 8) (d : decode cc pc = .ok (.invokestatic index, 3)) (kk : Z T σ' (pc + 3) lv (v :: st)) : Z T σ pc lv (a2 :: a1 :: st) := by
  obtain ⟨p, l, e, R, s, m, args, below, meth, cd, Q, nL, G, mk, A, cells, slots⟩ := T
  obtain ⟨hx, hb, hml, hown, hts, hE, hA, hR, hM⟩ := hC
  intro H locs ls hP hS hl
  obtain ⟨k1, k3, k4, k5⟩ := kw
  have hA2 : ∀ q, zA G q → A q := fun q ⟨k, hk, e⟩ => by rw [e]; exact hA k hk
  have hM2 : Met l y (.code y yc ym yr :: zT) { frames := yf, cells := 0, slots := 0, locals := yl } (va_Pc [a1, a2] (fun U => va_P G.1 vwCl (zW G (mk σ)) U.heap ∧ zEnv G (zA G) U)) (zQ G mk (some v) σ') 0 0 (zA G) := hM2
  exact z_run (r := some v) (va_runSN (p := p) (As := [a1, a2]) (rest := st) ⟨hx, hb, hml, hown, hts⟩ hM2 ⟨va_cnB (host := host) 2 hts (zT_more k4) rfl rfl rfl (hE.2.2.2.2.2.1 _ hw) (hts _ k3) k5 ⟨by show yf + 1 ≤ _; omega, by show 8 + (ym + 11) + yl ≤ _; omega⟩, hts _ k1, trivial⟩ ⟨fun a U g mk2 q => ⟨q.1, q.2.1, q.2.2.blind⟩, fun U hU hW => ⟨rfl, by rw [hU]; exact hP, hE.call hS hA2 hU hW⟩⟩ rfl rfl hl.1 rfl (lv_room hcat) d ⟨hR.2.2.1, hR.2.2.2⟩) hS hA2 (fun H1 locs1 hP1 hS1 => kk H1 locs1 ls hP1 hS1 hl)
