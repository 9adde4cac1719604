theorem z_iconst {T : zX} {cc : ByteArray} {own : String} {fr lo cl ch : Nat} (hC : zOk T cc own fr lo cl ch) {σ : zSt} {pc : Nat} {lv : List (Nat × Value)} {st : List Value} {n : Int} (v : Int32) (hv : Int32.ofInt n = v) (d : decode cc pc = .ok (.iconst n, 1)) (kk : Z T σ (pc + 1) lv (.int v :: st)) : Z T σ pc lv (st) := by
  obtain ⟨p, l, e, R, s, m, args, below, meth, cd, Q, nL, G, mk, A, cells, slots⟩ := T
  obtain ⟨hx, hb, hml, hown, hts, hE, hA, hR, hM⟩ := hC
  intro H locs ls hP hS hl
  exact lv_iconst hx hb d hv (kk H locs ls hP hS hl)
theorem z_bipush {T : zX} {cc : ByteArray} {own : String} {fr lo cl ch : Nat} (hC : zOk T cc own fr lo cl ch) {σ : zSt} {pc : Nat} {lv : List (Nat × Value)} {st : List Value} {n : Int} (v : Int32) (hv : (Int8.ofInt n).toInt32 = v) (d : decode cc pc = .ok (.bipush n, 2)) (kk : Z T σ (pc + 2) lv (.int v :: st)) : Z T σ pc lv (st) := by
  obtain ⟨p, l, e, R, s, m, args, below, meth, cd, Q, nL, G, mk, A, cells, slots⟩ := T
  obtain ⟨hx, hb, hml, hown, hts, hE, hA, hR, hM⟩ := hC
  intro H locs ls hP hS hl
  exact lv_bipush hx hb d hv (kk H locs ls hP hS hl)
theorem z_sipush {T : zX} {cc : ByteArray} {own : String} {fr lo cl ch : Nat} (hC : zOk T cc own fr lo cl ch) {σ : zSt} {pc : Nat} {lv : List (Nat × Value)} {st : List Value} {n : Int} (v : Int32) (hv : (Int16.ofInt n).toInt32 = v) (d : decode cc pc = .ok (.sipush n, 3)) (kk : Z T σ (pc + 3) lv (.int v :: st)) : Z T σ pc lv (st) := by
  obtain ⟨p, l, e, R, s, m, args, below, meth, cd, Q, nL, G, mk, A, cells, slots⟩ := T
  obtain ⟨hx, hb, hml, hown, hts, hE, hA, hR, hM⟩ := hC
  intro H locs ls hP hS hl
  exact lv_sipush hx hb d hv (kk H locs ls hP hS hl)
theorem z_lconst {T : zX} {cc : ByteArray} {own : String} {fr lo cl ch : Nat} (hC : zOk T cc own fr lo cl ch) {σ : zSt} {pc : Nat} {lv : List (Nat × Value)} {st : List Value} {n : Fin 2} (v : Int64) (hv : Int64.ofNat (n : Nat) = v) (d : decode cc pc = .ok (.lconst n, 1)) (kk : Z T σ (pc + 1) lv (.long v :: st)) : Z T σ pc lv (st) := by
  obtain ⟨p, l, e, R, s, m, args, below, meth, cd, Q, nL, G, mk, A, cells, slots⟩ := T
  obtain ⟨hx, hb, hml, hown, hts, hE, hA, hR, hM⟩ := hC
  intro H locs ls hP hS hl
  exact lv_lconst hx hb d hv (kk H locs ls hP hS hl)
theorem z_ldc2 {T : zX} {cc : ByteArray} {own : String} {fr lo cl ch : Nat} (hC : zOk T cc own fr lo cl ch) {σ : zSt} {pc : Nat} {lv : List (Nat × Value)} {st : List Value} {index : Nat} {v : Int64} (hw : Cond.constantLong own index v ∈ zT) (d : decode cc pc = .ok (.ldc2_w index, 3)) (kk : Z T σ (pc + 3) lv (.long v :: st)) : Z T σ pc lv (st) := by
  obtain ⟨p, l, e, R, s, m, args, below, meth, cd, Q, nL, G, mk, A, cells, slots⟩ := T
  obtain ⟨hx, hb, hml, hown, hts, hE, hA, hR, hM⟩ := hC
  intro H locs ls hP hS hl
  exact lv_ldc2 hx hb hown (hts _ hw) d (kk H locs ls hP hS hl)
theorem z_ldcI {T : zX} {cc : ByteArray} {own : String} {fr lo cl ch : Nat} (hC : zOk T cc own fr lo cl ch) {σ : zSt} {pc : Nat} {lv : List (Nat × Value)} {st : List Value} {index : Nat} {v : Int32} (hw : Cond.constant own index v ∈ zT) (d : decode cc pc = .ok (.ldc index, 2)) (kk : Z T σ (pc + 2) lv (.int v :: st)) : Z T σ pc lv (st) := by
  obtain ⟨p, l, e, R, s, m, args, below, meth, cd, Q, nL, G, mk, A, cells, slots⟩ := T
  obtain ⟨hx, hb, hml, hown, hts, hE, hA, hR, hM⟩ := hC
  intro H locs ls hP hS hl
  exact lv_ldc hx hb hown (hts _ hw) d (kk H locs ls hP hS hl)
theorem z_ldcS {T : zX} {cc : ByteArray} {own : String} {fr lo cl ch : Nat} (hC : zOk T cc own fr lo cl ch) {σ : zSt} {pc : Nat} {lv : List (Nat × Value)} {st : List Value} {index i : Nat} {tx : String} (hw : (own, index, tx, i) ∈ zStrs) (d : decode cc pc = .ok (.ldc index, 2)) (kk : Z T σ (pc + 2) lv (.ref (zSk T i) :: st)) : Z T σ pc lv (st) := by
  obtain ⟨p, l, e, R, s, m, args, below, meth, cd, Q, nL, G, mk, A, cells, slots⟩ := T
  obtain ⟨hx, hb, hml, hown, hts, hE, hA, hR, hM⟩ := hC
  intro H locs ls hP hS hl
  exact va_ldcS hx hb hown (hE.2.2.2.1 _ hw) d (kk H locs ls hP hS hl)
theorem z_iload_n {T : zX} {cc : ByteArray} {own : String} {fr lo cl ch : Nat} (hC : zOk T cc own fr lo cl ch) {σ : zSt} {pc : Nat} {lv : List (Nat × Value)} {st : List Value} {n : Fin 4} {i : Nat} {x : Int32} (k : Nat) (hi : (n : Nat) = i) (hk : lv[k]? = some (i, .int x)) (d : decode cc pc = .ok (.iload_n n, 1)) (kk : Z T σ (pc + 1) lv (.int x :: st)) : Z T σ pc lv (st) := by
  obtain ⟨p, l, e, R, s, m, args, below, meth, cd, Q, nL, G, mk, A, cells, slots⟩ := T
  obtain ⟨hx, hb, hml, hown, hts, hE, hA, hR, hM⟩ := hC
  intro H locs ls hP hS hl
  exact lv_iload_n hx hb d hi (lv_at hl k hk) (kk H locs ls hP hS hl)
theorem z_iload {T : zX} {cc : ByteArray} {own : String} {fr lo cl ch : Nat} (hC : zOk T cc own fr lo cl ch) {σ : zSt} {pc : Nat} {lv : List (Nat × Value)} {st : List Value} {i : Nat} {x : Int32} (k : Nat) (hk : lv[k]? = some (i, .int x)) (d : decode cc pc = .ok (.iload i, 2)) (kk : Z T σ (pc + 2) lv (.int x :: st)) : Z T σ pc lv (st) := by
  obtain ⟨p, l, e, R, s, m, args, below, meth, cd, Q, nL, G, mk, A, cells, slots⟩ := T
  obtain ⟨hx, hb, hml, hown, hts, hE, hA, hR, hM⟩ := hC
  intro H locs ls hP hS hl
  exact lv_iload hx hb d (lv_at hl k hk) (kk H locs ls hP hS hl)
theorem z_istore_n {T : zX} {cc : ByteArray} {own : String} {fr lo cl ch : Nat} (hC : zOk T cc own fr lo cl ch) {σ : zSt} {pc : Nat} {lv : List (Nat × Value)} {st : List Value} {n : Fin 4} {i : Nat} {x : Int32} (lv2 : List (Nat × Value)) (hi : (n : Nat) = i) (hn : i < zNL T) (hv : (i, .int x) :: lv.filter (fun q => !(q.1 == i) && !(q.1 + 1 == i && q.2.category == 2)) = lv2) (d : decode cc pc = .ok (.istore_n n, 1)) (kk : Z T σ (pc + 1) lv2 st) : Z T σ pc lv (.int x :: st) := by
  obtain ⟨p, l, e, R, s, m, args, below, meth, cd, Q, nL, G, mk, A, cells, slots⟩ := T
  obtain ⟨hx, hb, hml, hown, hts, hE, hA, hR, hM⟩ := hC
  intro H locs ls hP hS hl
  exact lv_istore_n hx hb d hi hl hn hv (fun ls2 hl2 => kk H locs ls2 hP hS hl2)
theorem z_istore {T : zX} {cc : ByteArray} {own : String} {fr lo cl ch : Nat} (hC : zOk T cc own fr lo cl ch) {σ : zSt} {pc : Nat} {lv : List (Nat × Value)} {st : List Value} {i : Nat} {x : Int32} (lv2 : List (Nat × Value)) (hn : i < zNL T) (hv : (i, .int x) :: lv.filter (fun q => !(q.1 == i) && !(q.1 + 1 == i && q.2.category == 2)) = lv2) (d : decode cc pc = .ok (.istore i, 2)) (kk : Z T σ (pc + 2) lv2 st) : Z T σ pc lv (.int x :: st) := by
  obtain ⟨p, l, e, R, s, m, args, below, meth, cd, Q, nL, G, mk, A, cells, slots⟩ := T
  obtain ⟨hx, hb, hml, hown, hts, hE, hA, hR, hM⟩ := hC
  intro H locs ls hP hS hl
  exact lv_istore hx hb d hl hn hv (fun ls2 hl2 => kk H locs ls2 hP hS hl2)
theorem z_lload_n {T : zX} {cc : ByteArray} {own : String} {fr lo cl ch : Nat} (hC : zOk T cc own fr lo cl ch) {σ : zSt} {pc : Nat} {lv : List (Nat × Value)} {st : List Value} {n : Fin 4} {i : Nat} {x : Int64} (k : Nat) (hi : (n : Nat) = i) (hk : lv[k]? = some (i, .long x)) (d : decode cc pc = .ok (.lload_n n, 1)) (kk : Z T σ (pc + 1) lv (.long x :: st)) : Z T σ pc lv (st) := by
  obtain ⟨p, l, e, R, s, m, args, below, meth, cd, Q, nL, G, mk, A, cells, slots⟩ := T
  obtain ⟨hx, hb, hml, hown, hts, hE, hA, hR, hM⟩ := hC
  intro H locs ls hP hS hl
  exact lv_lload_n hx hb d hi (lv_at hl k hk) (kk H locs ls hP hS hl)
theorem z_lload {T : zX} {cc : ByteArray} {own : String} {fr lo cl ch : Nat} (hC : zOk T cc own fr lo cl ch) {σ : zSt} {pc : Nat} {lv : List (Nat × Value)} {st : List Value} {i : Nat} {x : Int64} (k : Nat) (hk : lv[k]? = some (i, .long x)) (d : decode cc pc = .ok (.lload i, 2)) (kk : Z T σ (pc + 2) lv (.long x :: st)) : Z T σ pc lv (st) := by
  obtain ⟨p, l, e, R, s, m, args, below, meth, cd, Q, nL, G, mk, A, cells, slots⟩ := T
  obtain ⟨hx, hb, hml, hown, hts, hE, hA, hR, hM⟩ := hC
  intro H locs ls hP hS hl
  exact lv_lload hx hb d (lv_at hl k hk) (kk H locs ls hP hS hl)
theorem z_lstore_n {T : zX} {cc : ByteArray} {own : String} {fr lo cl ch : Nat} (hC : zOk T cc own fr lo cl ch) {σ : zSt} {pc : Nat} {lv : List (Nat × Value)} {st : List Value} {n : Fin 4} {i : Nat} {x : Int64} (lv2 : List (Nat × Value)) (hi : (n : Nat) = i) (hn : i + 1 < zNL T) (hv : (i, .long x) :: lv.filter (fun q => !(q.1 == i) && (!(q.1 == i + 1) && !(q.1 + 1 == i && q.2.category == 2))) = lv2) (d : decode cc pc = .ok (.lstore_n n, 1)) (kk : Z T σ (pc + 1) lv2 st) : Z T σ pc lv (.long x :: st) := by
  obtain ⟨p, l, e, R, s, m, args, below, meth, cd, Q, nL, G, mk, A, cells, slots⟩ := T
  obtain ⟨hx, hb, hml, hown, hts, hE, hA, hR, hM⟩ := hC
  intro H locs ls hP hS hl
  exact lv_lstore_n hx hb d hi hl hn hv (fun ls2 hl2 => kk H locs ls2 hP hS hl2)
theorem z_lstore {T : zX} {cc : ByteArray} {own : String} {fr lo cl ch : Nat} (hC : zOk T cc own fr lo cl ch) {σ : zSt} {pc : Nat} {lv : List (Nat × Value)} {st : List Value} {i : Nat} {x : Int64} (lv2 : List (Nat × Value)) (hn : i + 1 < zNL T) (hv : (i, .long x) :: lv.filter (fun q => !(q.1 == i) && (!(q.1 == i + 1) && !(q.1 + 1 == i && q.2.category == 2))) = lv2) (d : decode cc pc = .ok (.lstore i, 2)) (kk : Z T σ (pc + 2) lv2 st) : Z T σ pc lv (.long x :: st) := by
  obtain ⟨p, l, e, R, s, m, args, below, meth, cd, Q, nL, G, mk, A, cells, slots⟩ := T
  obtain ⟨hx, hb, hml, hown, hts, hE, hA, hR, hM⟩ := hC
  intro H locs ls hP hS hl
  exact lv_lstore hx hb d hl hn hv (fun ls2 hl2 => kk H locs ls2 hP hS hl2)
theorem z_aload_n {T : zX} {cc : ByteArray} {own : String} {fr lo cl ch : Nat} (hC : zOk T cc own fr lo cl ch) {σ : zSt} {pc : Nat} {lv : List (Nat × Value)} {st : List Value} {n : Fin 4} {i : Nat} {x : Nat} (k : Nat) (hi : (n : Nat) = i) (hk : lv[k]? = some (i, .ref x)) (d : decode cc pc = .ok (.aload_n n, 1)) (kk : Z T σ (pc + 1) lv (.ref x :: st)) : Z T σ pc lv (st) := by
  obtain ⟨p, l, e, R, s, m, args, below, meth, cd, Q, nL, G, mk, A, cells, slots⟩ := T
  obtain ⟨hx, hb, hml, hown, hts, hE, hA, hR, hM⟩ := hC
  intro H locs ls hP hS hl
  exact lv_aload_n hx hb d hi (lv_at hl k hk) (kk H locs ls hP hS hl)
theorem z_aload {T : zX} {cc : ByteArray} {own : String} {fr lo cl ch : Nat} (hC : zOk T cc own fr lo cl ch) {σ : zSt} {pc : Nat} {lv : List (Nat × Value)} {st : List Value} {i : Nat} {x : Nat} (k : Nat) (hk : lv[k]? = some (i, .ref x)) (d : decode cc pc = .ok (.aload i, 2)) (kk : Z T σ (pc + 2) lv (.ref x :: st)) : Z T σ pc lv (st) := by
  obtain ⟨p, l, e, R, s, m, args, below, meth, cd, Q, nL, G, mk, A, cells, slots⟩ := T
  obtain ⟨hx, hb, hml, hown, hts, hE, hA, hR, hM⟩ := hC
  intro H locs ls hP hS hl
  exact lv_aload hx hb d (lv_at hl k hk) (kk H locs ls hP hS hl)
theorem z_astore_n {T : zX} {cc : ByteArray} {own : String} {fr lo cl ch : Nat} (hC : zOk T cc own fr lo cl ch) {σ : zSt} {pc : Nat} {lv : List (Nat × Value)} {st : List Value} {n : Fin 4} {i : Nat} {x : Nat} (lv2 : List (Nat × Value)) (hi : (n : Nat) = i) (hn : i < zNL T) (hv : (i, .ref x) :: lv.filter (fun q => !(q.1 == i) && !(q.1 + 1 == i && q.2.category == 2)) = lv2) (d : decode cc pc = .ok (.astore_n n, 1)) (kk : Z T σ (pc + 1) lv2 st) : Z T σ pc lv (.ref x :: st) := by
  obtain ⟨p, l, e, R, s, m, args, below, meth, cd, Q, nL, G, mk, A, cells, slots⟩ := T
  obtain ⟨hx, hb, hml, hown, hts, hE, hA, hR, hM⟩ := hC
  intro H locs ls hP hS hl
  exact lv_astore_n hx hb d hi hl hn hv (fun ls2 hl2 => kk H locs ls2 hP hS hl2)
theorem z_astore {T : zX} {cc : ByteArray} {own : String} {fr lo cl ch : Nat} (hC : zOk T cc own fr lo cl ch) {σ : zSt} {pc : Nat} {lv : List (Nat × Value)} {st : List Value} {i : Nat} {x : Nat} (lv2 : List (Nat × Value)) (hn : i < zNL T) (hv : (i, .ref x) :: lv.filter (fun q => !(q.1 == i) && !(q.1 + 1 == i && q.2.category == 2)) = lv2) (d : decode cc pc = .ok (.astore i, 2)) (kk : Z T σ (pc + 2) lv2 st) : Z T σ pc lv (.ref x :: st) := by
  obtain ⟨p, l, e, R, s, m, args, below, meth, cd, Q, nL, G, mk, A, cells, slots⟩ := T
  obtain ⟨hx, hb, hml, hown, hts, hE, hA, hR, hM⟩ := hC
  intro H locs ls hP hS hl
  exact lv_astore hx hb d hl hn hv (fun ls2 hl2 => kk H locs ls2 hP hS hl2)
theorem z_iinc {T : zX} {cc : ByteArray} {own : String} {fr lo cl ch : Nat} (hC : zOk T cc own fr lo cl ch) {σ : zSt} {pc : Nat} {lv : List (Nat × Value)} {st : List Value} {i : Nat} {n : Int} {x : Int32} (v : Int32) (lv2 : List (Nat × Value)) (k : Nat) (hk : lv[k]? = some (i, .int x)) (hw : x + Int32.ofInt n = v) (hn : i < zNL T) (hv : (i, .int v) :: lv.filter (fun q => !(q.1 == i) && !(q.1 + 1 == i && q.2.category == 2)) = lv2) (d : decode cc pc = .ok (.iinc i n, 3)) (kk : Z T σ (pc + 3) lv2 st) : Z T σ pc lv st := by
  obtain ⟨p, l, e, R, s, m, args, below, meth, cd, Q, nL, G, mk, A, cells, slots⟩ := T
  obtain ⟨hx, hb, hml, hown, hts, hE, hA, hR, hM⟩ := hC
  intro H locs ls hP hS hl
  exact lv_iinc hx hb d hl hk hw hn hv (fun ls2 hl2 => kk H locs ls2 hP hS hl2)
theorem z_sub {T : zX} {σ : zSt} {pc : Nat} {lv : List (Nat × Value)} {st : List Value} (lv2 : List (Nat × Value)) (ks : List Nat) (hl2 : lv_pick lv ks = lv2) (kk : Z T σ pc lv2 st) : Z T σ pc lv st := by
  obtain ⟨p, l, e, R, s, m, args, below, meth, cd, Q, nL, G, mk, A, cells, slots⟩ := T
  intro H locs ls hP hS hl
  exact kk H locs ls hP hS (lv_sub hl ks hl2)
theorem z_iadd {T : zX} {cc : ByteArray} {own : String} {fr lo cl ch : Nat} (hC : zOk T cc own fr lo cl ch) {σ : zSt} {pc : Nat} {lv : List (Nat × Value)} {st : List Value} {x y : Int32} (d : decode cc pc = .ok (.iadd, 1)) (kk : Z T σ (pc + 1) lv (.int (x + y) :: st)) : Z T σ pc lv (.int y :: .int x :: st) := by
  obtain ⟨p, l, e, R, s, m, args, below, meth, cd, Q, nL, G, mk, A, cells, slots⟩ := T
  obtain ⟨hx, hb, hml, hown, hts, hE, hA, hR, hM⟩ := hC
  intro H locs ls hP hS hl
  exact lv_iadd hx hb d  (kk H locs ls hP hS hl)
theorem z_isub {T : zX} {cc : ByteArray} {own : String} {fr lo cl ch : Nat} (hC : zOk T cc own fr lo cl ch) {σ : zSt} {pc : Nat} {lv : List (Nat × Value)} {st : List Value} {x y : Int32} (d : decode cc pc = .ok (.isub, 1)) (kk : Z T σ (pc + 1) lv (.int (x - y) :: st)) : Z T σ pc lv (.int y :: .int x :: st) := by
  obtain ⟨p, l, e, R, s, m, args, below, meth, cd, Q, nL, G, mk, A, cells, slots⟩ := T
  obtain ⟨hx, hb, hml, hown, hts, hE, hA, hR, hM⟩ := hC
  intro H locs ls hP hS hl
  exact lv_isub hx hb d  (kk H locs ls hP hS hl)
theorem z_imul {T : zX} {cc : ByteArray} {own : String} {fr lo cl ch : Nat} (hC : zOk T cc own fr lo cl ch) {σ : zSt} {pc : Nat} {lv : List (Nat × Value)} {st : List Value} {x y : Int32} (d : decode cc pc = .ok (.imul, 1)) (kk : Z T σ (pc + 1) lv (.int (x * y) :: st)) : Z T σ pc lv (.int y :: .int x :: st) := by
  obtain ⟨p, l, e, R, s, m, args, below, meth, cd, Q, nL, G, mk, A, cells, slots⟩ := T
  obtain ⟨hx, hb, hml, hown, hts, hE, hA, hR, hM⟩ := hC
  intro H locs ls hP hS hl
  exact lv_imul hx hb d  (kk H locs ls hP hS hl)
theorem z_iand {T : zX} {cc : ByteArray} {own : String} {fr lo cl ch : Nat} (hC : zOk T cc own fr lo cl ch) {σ : zSt} {pc : Nat} {lv : List (Nat × Value)} {st : List Value} {x y : Int32} (d : decode cc pc = .ok (.iand, 1)) (kk : Z T σ (pc + 1) lv (.int (x &&& y) :: st)) : Z T σ pc lv (.int y :: .int x :: st) := by
  obtain ⟨p, l, e, R, s, m, args, below, meth, cd, Q, nL, G, mk, A, cells, slots⟩ := T
  obtain ⟨hx, hb, hml, hown, hts, hE, hA, hR, hM⟩ := hC
  intro H locs ls hP hS hl
  exact lv_iand hx hb d  (kk H locs ls hP hS hl)
theorem z_ior {T : zX} {cc : ByteArray} {own : String} {fr lo cl ch : Nat} (hC : zOk T cc own fr lo cl ch) {σ : zSt} {pc : Nat} {lv : List (Nat × Value)} {st : List Value} {x y : Int32} (d : decode cc pc = .ok (.ior, 1)) (kk : Z T σ (pc + 1) lv (.int (x ||| y) :: st)) : Z T σ pc lv (.int y :: .int x :: st) := by
  obtain ⟨p, l, e, R, s, m, args, below, meth, cd, Q, nL, G, mk, A, cells, slots⟩ := T
  obtain ⟨hx, hb, hml, hown, hts, hE, hA, hR, hM⟩ := hC
  intro H locs ls hP hS hl
  exact lv_ior hx hb d  (kk H locs ls hP hS hl)
theorem z_ladd {T : zX} {cc : ByteArray} {own : String} {fr lo cl ch : Nat} (hC : zOk T cc own fr lo cl ch) {σ : zSt} {pc : Nat} {lv : List (Nat × Value)} {st : List Value} {x y : Int64} (d : decode cc pc = .ok (.ladd, 1)) (kk : Z T σ (pc + 1) lv (.long (x + y) :: st)) : Z T σ pc lv (.long y :: .long x :: st) := by
  obtain ⟨p, l, e, R, s, m, args, below, meth, cd, Q, nL, G, mk, A, cells, slots⟩ := T
  obtain ⟨hx, hb, hml, hown, hts, hE, hA, hR, hM⟩ := hC
  intro H locs ls hP hS hl
  exact lv_ladd hx hb d  (kk H locs ls hP hS hl)
theorem z_lsub {T : zX} {cc : ByteArray} {own : String} {fr lo cl ch : Nat} (hC : zOk T cc own fr lo cl ch) {σ : zSt} {pc : Nat} {lv : List (Nat × Value)} {st : List Value} {x y : Int64} (d : decode cc pc = .ok (.lsub, 1)) (kk : Z T σ (pc + 1) lv (.long (x - y) :: st)) : Z T σ pc lv (.long y :: .long x :: st) := by
  obtain ⟨p, l, e, R, s, m, args, below, meth, cd, Q, nL, G, mk, A, cells, slots⟩ := T
  obtain ⟨hx, hb, hml, hown, hts, hE, hA, hR, hM⟩ := hC
  intro H locs ls hP hS hl
  exact lv_lsub hx hb d  (kk H locs ls hP hS hl)
theorem z_lmul {T : zX} {cc : ByteArray} {own : String} {fr lo cl ch : Nat} (hC : zOk T cc own fr lo cl ch) {σ : zSt} {pc : Nat} {lv : List (Nat × Value)} {st : List Value} {x y : Int64} (d : decode cc pc = .ok (.lmul, 1)) (kk : Z T σ (pc + 1) lv (.long (x * y) :: st)) : Z T σ pc lv (.long y :: .long x :: st) := by
  obtain ⟨p, l, e, R, s, m, args, below, meth, cd, Q, nL, G, mk, A, cells, slots⟩ := T
  obtain ⟨hx, hb, hml, hown, hts, hE, hA, hR, hM⟩ := hC
  intro H locs ls hP hS hl
  exact lv_lmul hx hb d  (kk H locs ls hP hS hl)
theorem z_land {T : zX} {cc : ByteArray} {own : String} {fr lo cl ch : Nat} (hC : zOk T cc own fr lo cl ch) {σ : zSt} {pc : Nat} {lv : List (Nat × Value)} {st : List Value} {x y : Int64} (d : decode cc pc = .ok (.land, 1)) (kk : Z T σ (pc + 1) lv (.long (x &&& y) :: st)) : Z T σ pc lv (.long y :: .long x :: st) := by
  obtain ⟨p, l, e, R, s, m, args, below, meth, cd, Q, nL, G, mk, A, cells, slots⟩ := T
  obtain ⟨hx, hb, hml, hown, hts, hE, hA, hR, hM⟩ := hC
  intro H locs ls hP hS hl
  exact lv_land hx hb d  (kk H locs ls hP hS hl)
theorem z_lor {T : zX} {cc : ByteArray} {own : String} {fr lo cl ch : Nat} (hC : zOk T cc own fr lo cl ch) {σ : zSt} {pc : Nat} {lv : List (Nat × Value)} {st : List Value} {x y : Int64} (d : decode cc pc = .ok (.lor, 1)) (kk : Z T σ (pc + 1) lv (.long (x ||| y) :: st)) : Z T σ pc lv (.long y :: .long x :: st) := by
  obtain ⟨p, l, e, R, s, m, args, below, meth, cd, Q, nL, G, mk, A, cells, slots⟩ := T
  obtain ⟨hx, hb, hml, hown, hts, hE, hA, hR, hM⟩ := hC
  intro H locs ls hP hS hl
  exact lv_lor hx hb d  (kk H locs ls hP hS hl)
theorem z_lxor {T : zX} {cc : ByteArray} {own : String} {fr lo cl ch : Nat} (hC : zOk T cc own fr lo cl ch) {σ : zSt} {pc : Nat} {lv : List (Nat × Value)} {st : List Value} {x y : Int64} (d : decode cc pc = .ok (.lxor, 1)) (kk : Z T σ (pc + 1) lv (.long (x ^^^ y) :: st)) : Z T σ pc lv (.long y :: .long x :: st) := by
  obtain ⟨p, l, e, R, s, m, args, below, meth, cd, Q, nL, G, mk, A, cells, slots⟩ := T
  obtain ⟨hx, hb, hml, hown, hts, hE, hA, hR, hM⟩ := hC
  intro H locs ls hP hS hl
  exact lv_lxor hx hb d  (kk H locs ls hP hS hl)
theorem z_ishl {T : zX} {cc : ByteArray} {own : String} {fr lo cl ch : Nat} (hC : zOk T cc own fr lo cl ch) {σ : zSt} {pc : Nat} {lv : List (Nat × Value)} {st : List Value} {x y : Int32} (d : decode cc pc = .ok (.ishl, 1)) (kk : Z T σ (pc + 1) lv (.int (jshlI x y) :: st)) : Z T σ pc lv (.int y :: .int x :: st) := by
  obtain ⟨p, l, e, R, s, m, args, below, meth, cd, Q, nL, G, mk, A, cells, slots⟩ := T
  obtain ⟨hx, hb, hml, hown, hts, hE, hA, hR, hM⟩ := hC
  intro H locs ls hP hS hl
  exact lv_ishl hx hb d  (kk H locs ls hP hS hl)
theorem z_ishr {T : zX} {cc : ByteArray} {own : String} {fr lo cl ch : Nat} (hC : zOk T cc own fr lo cl ch) {σ : zSt} {pc : Nat} {lv : List (Nat × Value)} {st : List Value} {x y : Int32} (d : decode cc pc = .ok (.ishr, 1)) (kk : Z T σ (pc + 1) lv (.int (jshrI x y) :: st)) : Z T σ pc lv (.int y :: .int x :: st) := by
  obtain ⟨p, l, e, R, s, m, args, below, meth, cd, Q, nL, G, mk, A, cells, slots⟩ := T
  obtain ⟨hx, hb, hml, hown, hts, hE, hA, hR, hM⟩ := hC
  intro H locs ls hP hS hl
  exact lv_ishr hx hb d  (kk H locs ls hP hS hl)
theorem z_iushr {T : zX} {cc : ByteArray} {own : String} {fr lo cl ch : Nat} (hC : zOk T cc own fr lo cl ch) {σ : zSt} {pc : Nat} {lv : List (Nat × Value)} {st : List Value} {x y : Int32} (d : decode cc pc = .ok (.iushr, 1)) (kk : Z T σ (pc + 1) lv (.int (jushrI x y) :: st)) : Z T σ pc lv (.int y :: .int x :: st) := by
  obtain ⟨p, l, e, R, s, m, args, below, meth, cd, Q, nL, G, mk, A, cells, slots⟩ := T
  obtain ⟨hx, hb, hml, hown, hts, hE, hA, hR, hM⟩ := hC
  intro H locs ls hP hS hl
  exact lv_iushr hx hb d rfl (kk H locs ls hP hS hl)
theorem z_irem {T : zX} {cc : ByteArray} {own : String} {fr lo cl ch : Nat} (hC : zOk T cc own fr lo cl ch) {σ : zSt} {pc : Nat} {lv : List (Nat × Value)} {st : List Value} {x y : Int32} (hne : ¬ y = 0) (d : decode cc pc = .ok (.irem, 1)) (kk : Z T σ (pc + 1) lv (.int (jremI x y) :: st)) : Z T σ pc lv (.int y :: .int x :: st) := by
  obtain ⟨p, l, e, R, s, m, args, below, meth, cd, Q, nL, G, mk, A, cells, slots⟩ := T
  obtain ⟨hx, hb, hml, hown, hts, hE, hA, hR, hM⟩ := hC
  intro H locs ls hP hS hl
  exact lv_irem hx hb d hne (kk H locs ls hP hS hl)
theorem z_idiv {T : zX} {cc : ByteArray} {own : String} {fr lo cl ch : Nat} (hC : zOk T cc own fr lo cl ch) {σ : zSt} {pc : Nat} {lv : List (Nat × Value)} {st : List Value} {x y : Int32} (hne : ¬ y = 0) (d : decode cc pc = .ok (.idiv, 1)) (kk : Z T σ (pc + 1) lv (.int (x / y) :: st)) : Z T σ pc lv (.int y :: .int x :: st) := by
  obtain ⟨p, l, e, R, s, m, args, below, meth, cd, Q, nL, G, mk, A, cells, slots⟩ := T
  obtain ⟨hx, hb, hml, hown, hts, hE, hA, hR, hM⟩ := hC
  intro H locs ls hP hS hl
  exact lv_idiv hx hb d hne (kk H locs ls hP hS hl)
theorem z_ldiv {T : zX} {cc : ByteArray} {own : String} {fr lo cl ch : Nat} (hC : zOk T cc own fr lo cl ch) {σ : zSt} {pc : Nat} {lv : List (Nat × Value)} {st : List Value} {x y : Int64} (hne : ¬ y = 0) (d : decode cc pc = .ok (.ldiv, 1)) (kk : Z T σ (pc + 1) lv (.long (x / y) :: st)) : Z T σ pc lv (.long y :: .long x :: st) := by
  obtain ⟨p, l, e, R, s, m, args, below, meth, cd, Q, nL, G, mk, A, cells, slots⟩ := T
  obtain ⟨hx, hb, hml, hown, hts, hE, hA, hR, hM⟩ := hC
  intro H locs ls hP hS hl
  exact lv_ldiv hx hb d hne (kk H locs ls hP hS hl)
theorem z_lrem {T : zX} {cc : ByteArray} {own : String} {fr lo cl ch : Nat} (hC : zOk T cc own fr lo cl ch) {σ : zSt} {pc : Nat} {lv : List (Nat × Value)} {st : List Value} {x y : Int64} (hne : ¬ y = 0) (d : decode cc pc = .ok (.lrem, 1)) (kk : Z T σ (pc + 1) lv (.long (jremL x y) :: st)) : Z T σ pc lv (.long y :: .long x :: st) := by
  obtain ⟨p, l, e, R, s, m, args, below, meth, cd, Q, nL, G, mk, A, cells, slots⟩ := T
  obtain ⟨hx, hb, hml, hown, hts, hE, hA, hR, hM⟩ := hC
  intro H locs ls hP hS hl
  exact lv_lrem hx hb d hne (kk H locs ls hP hS hl)
theorem z_lneg {T : zX} {cc : ByteArray} {own : String} {fr lo cl ch : Nat} (hC : zOk T cc own fr lo cl ch) {σ : zSt} {pc : Nat} {lv : List (Nat × Value)} {st : List Value} {x : Int64} (d : decode cc pc = .ok (.lneg, 1)) (kk : Z T σ (pc + 1) lv (.long (-x) :: st)) : Z T σ pc lv (.long x :: st) := by
  obtain ⟨p, l, e, R, s, m, args, below, meth, cd, Q, nL, G, mk, A, cells, slots⟩ := T
  obtain ⟨hx, hb, hml, hown, hts, hE, hA, hR, hM⟩ := hC
  intro H locs ls hP hS hl
  exact lv_lneg hx hb d  (kk H locs ls hP hS hl)
theorem z_ineg {T : zX} {cc : ByteArray} {own : String} {fr lo cl ch : Nat} (hC : zOk T cc own fr lo cl ch) {σ : zSt} {pc : Nat} {lv : List (Nat × Value)} {st : List Value} {x : Int32} (d : decode cc pc = .ok (.ineg, 1)) (kk : Z T σ (pc + 1) lv (.int (-x) :: st)) : Z T σ pc lv (.int x :: st) := by
  obtain ⟨p, l, e, R, s, m, args, below, meth, cd, Q, nL, G, mk, A, cells, slots⟩ := T
  obtain ⟨hx, hb, hml, hown, hts, hE, hA, hR, hM⟩ := hC
  intro H locs ls hP hS hl
  exact lv_ineg hx hb d  (kk H locs ls hP hS hl)
theorem z_lshr {T : zX} {cc : ByteArray} {own : String} {fr lo cl ch : Nat} (hC : zOk T cc own fr lo cl ch) {σ : zSt} {pc : Nat} {lv : List (Nat × Value)} {st : List Value} {x : Int64} {y : Int32} (d : decode cc pc = .ok (.lshr, 1)) (kk : Z T σ (pc + 1) lv (.long (jshrL x y) :: st)) : Z T σ pc lv (.int y :: .long x :: st) := by
  obtain ⟨p, l, e, R, s, m, args, below, meth, cd, Q, nL, G, mk, A, cells, slots⟩ := T
  obtain ⟨hx, hb, hml, hown, hts, hE, hA, hR, hM⟩ := hC
  intro H locs ls hP hS hl
  exact lv_lshr hx hb d rfl (kk H locs ls hP hS hl)
theorem z_lshl {T : zX} {cc : ByteArray} {own : String} {fr lo cl ch : Nat} (hC : zOk T cc own fr lo cl ch) {σ : zSt} {pc : Nat} {lv : List (Nat × Value)} {st : List Value} {x : Int64} {y : Int32} (d : decode cc pc = .ok (.lshl, 1)) (kk : Z T σ (pc + 1) lv (.long (jshlL x y) :: st)) : Z T σ pc lv (.int y :: .long x :: st) := by
  obtain ⟨p, l, e, R, s, m, args, below, meth, cd, Q, nL, G, mk, A, cells, slots⟩ := T
  obtain ⟨hx, hb, hml, hown, hts, hE, hA, hR, hM⟩ := hC
  intro H locs ls hP hS hl
  exact lv_lshl hx hb d rfl (kk H locs ls hP hS hl)
theorem z_i2l {T : zX} {cc : ByteArray} {own : String} {fr lo cl ch : Nat} (hC : zOk T cc own fr lo cl ch) {σ : zSt} {pc : Nat} {lv : List (Nat × Value)} {st : List Value} {x : Int32} (d : decode cc pc = .ok (.i2l, 1)) (kk : Z T σ (pc + 1) lv (.long x.toInt64 :: st)) : Z T σ pc lv (.int x :: st) := by
  obtain ⟨p, l, e, R, s, m, args, below, meth, cd, Q, nL, G, mk, A, cells, slots⟩ := T
  obtain ⟨hx, hb, hml, hown, hts, hE, hA, hR, hM⟩ := hC
  intro H locs ls hP hS hl
  exact lv_i2l hx hb d rfl (kk H locs ls hP hS hl)
theorem z_l2i {T : zX} {cc : ByteArray} {own : String} {fr lo cl ch : Nat} (hC : zOk T cc own fr lo cl ch) {σ : zSt} {pc : Nat} {lv : List (Nat × Value)} {st : List Value} {x : Int64} (d : decode cc pc = .ok (.l2i, 1)) (kk : Z T σ (pc + 1) lv (.int x.toInt32 :: st)) : Z T σ pc lv (.long x :: st) := by
  obtain ⟨p, l, e, R, s, m, args, below, meth, cd, Q, nL, G, mk, A, cells, slots⟩ := T
  obtain ⟨hx, hb, hml, hown, hts, hE, hA, hR, hM⟩ := hC
  intro H locs ls hP hS hl
  exact lv_l2i hx hb d rfl (kk H locs ls hP hS hl)
theorem z_i2b {T : zX} {cc : ByteArray} {own : String} {fr lo cl ch : Nat} (hC : zOk T cc own fr lo cl ch) {σ : zSt} {pc : Nat} {lv : List (Nat × Value)} {st : List Value} {x : Int32} (d : decode cc pc = .ok (.i2b, 1)) (kk : Z T σ (pc + 1) lv (.int x.toInt8.toInt32 :: st)) : Z T σ pc lv (.int x :: st) := by
  obtain ⟨p, l, e, R, s, m, args, below, meth, cd, Q, nL, G, mk, A, cells, slots⟩ := T
  obtain ⟨hx, hb, hml, hown, hts, hE, hA, hR, hM⟩ := hC
  intro H locs ls hP hS hl
  exact lv_i2b hx hb d rfl (kk H locs ls hP hS hl)
theorem z_i2c {T : zX} {cc : ByteArray} {own : String} {fr lo cl ch : Nat} (hC : zOk T cc own fr lo cl ch) {σ : zSt} {pc : Nat} {lv : List (Nat × Value)} {st : List Value} {x : Int32} (d : decode cc pc = .ok (.i2c, 1)) (kk : Z T σ (pc + 1) lv (.int (x.toUInt32 % 65536).toInt32 :: st)) : Z T σ pc lv (.int x :: st) := by
  obtain ⟨p, l, e, R, s, m, args, below, meth, cd, Q, nL, G, mk, A, cells, slots⟩ := T
  obtain ⟨hx, hb, hml, hown, hts, hE, hA, hR, hM⟩ := hC
  intro H locs ls hP hS hl
  exact lv_i2c hx hb d rfl (kk H locs ls hP hS hl)
theorem z_dup {T : zX} {cc : ByteArray} {own : String} {fr lo cl ch : Nat} (hC : zOk T cc own fr lo cl ch) {σ : zSt} {pc : Nat} {lv : List (Nat × Value)} {st : List Value} {v : Value} (hv : v.category = 1) (d : decode cc pc = .ok (.dup, 1)) (kk : Z T σ (pc + 1) lv (v :: v :: st)) : Z T σ pc lv (v :: st) := by
  obtain ⟨p, l, e, R, s, m, args, below, meth, cd, Q, nL, G, mk, A, cells, slots⟩ := T
  obtain ⟨hx, hb, hml, hown, hts, hE, hA, hR, hM⟩ := hC
  intro H locs ls hP hS hl
  exact lv_dup hx hb d hv (kk H locs ls hP hS hl)
theorem z_pop {T : zX} {cc : ByteArray} {own : String} {fr lo cl ch : Nat} (hC : zOk T cc own fr lo cl ch) {σ : zSt} {pc : Nat} {lv : List (Nat × Value)} {st : List Value} {v : Value} (hv : v.category = 1) (d : decode cc pc = .ok (.pop, 1)) (kk : Z T σ (pc + 1) lv (st)) : Z T σ pc lv (v :: st) := by
  obtain ⟨p, l, e, R, s, m, args, below, meth, cd, Q, nL, G, mk, A, cells, slots⟩ := T
  obtain ⟨hx, hb, hml, hown, hts, hE, hA, hR, hM⟩ := hC
  intro H locs ls hP hS hl
  exact lv_pop hx hb d hv (kk H locs ls hP hS hl)
theorem z_pop2 {T : zX} {cc : ByteArray} {own : String} {fr lo cl ch : Nat} (hC : zOk T cc own fr lo cl ch) {σ : zSt} {pc : Nat} {lv : List (Nat × Value)} {st : List Value} {v : Value} (hv : v.category = 2) (d : decode cc pc = .ok (.pop2, 1)) (kk : Z T σ (pc + 1) lv (st)) : Z T σ pc lv (v :: st) := by
  obtain ⟨p, l, e, R, s, m, args, below, meth, cd, Q, nL, G, mk, A, cells, slots⟩ := T
  obtain ⟨hx, hb, hml, hown, hts, hE, hA, hR, hM⟩ := hC
  intro H locs ls hP hS hl
  exact lv_pop2_2 hx hb d hv (kk H locs ls hP hS hl)
theorem z_goto {T : zX} {cc : ByteArray} {own : String} {fr lo cl ch : Nat} (hC : zOk T cc own fr lo cl ch) {σ : zSt} {pc : Nat} {lv : List (Nat × Value)} {st : List Value} {off : Int} (tgt : Nat) (ht : (pc : Int) + off = (tgt : Int)) (d : decode cc pc = .ok (.goto off, 3)) (kk : Z T σ tgt lv st) : Z T σ pc lv st := by
  obtain ⟨p, l, e, R, s, m, args, below, meth, cd, Q, nL, G, mk, A, cells, slots⟩ := T
  obtain ⟨hx, hb, hml, hown, hts, hE, hA, hR, hM⟩ := hC
  intro H locs ls hP hS hl
  exact lv_goto hx hb d ht (kk H locs ls hP hS hl)
theorem z_ifnonnull {T : zX} {cc : ByteArray} {own : String} {fr lo cl ch : Nat} (hC : zOk T cc own fr lo cl ch) {σ : zSt} {pc : Nat} {lv : List (Nat × Value)} {st : List Value} {x : Nat} {off : Int} (tgt : Nat) (ht : (pc : Int) + off = (tgt : Int)) (d : decode cc pc = .ok (.ifnonnull off, 3)) (kk : Z T σ tgt lv st) : Z T σ pc lv (.ref x :: st) := by
  obtain ⟨p, l, e, R, s, m, args, below, meth, cd, Q, nL, G, mk, A, cells, slots⟩ := T
  obtain ⟨hx, hb, hml, hown, hts, hE, hA, hR, hM⟩ := hC
  intro H locs ls hP hS hl
  exact lv_ifnonnull hx hb d ht (kk H locs ls hP hS hl)
theorem z_icmp_eq {T : zX} {cc : ByteArray} {own : String} {fr lo cl ch : Nat} (hC : zOk T cc own fr lo cl ch) {σ : zSt} {pc : Nat} {lv : List (Nat × Value)} {st : List Value} {x y : Int32} {off : Int} (tgt : Nat) (ht : (pc : Int) + off = (tgt : Int)) (d : decode cc pc = .ok (.if_icmp .eq off, 3)) (kt : x = y → Z T σ tgt lv st) (kf : ¬ x = y → Z T σ (pc + 3) lv st) : Z T σ pc lv (.int y :: .int x :: st) := by
  obtain ⟨p, l, e, R, s, m, args, below, meth, cd, Q, nL, G, mk, A, cells, slots⟩ := T
  obtain ⟨hx, hb, hml, hown, hts, hE, hA, hR, hM⟩ := hC
  intro H locs ls hP hS hl
  exact lv_icmp_eq hx hb d ht (fun q => kt q H locs ls hP hS hl) (fun q => kf q H locs ls hP hS hl)
theorem z_if_eq {T : zX} {cc : ByteArray} {own : String} {fr lo cl ch : Nat} (hC : zOk T cc own fr lo cl ch) {σ : zSt} {pc : Nat} {lv : List (Nat × Value)} {st : List Value} {x : Int32} {off : Int} (tgt : Nat) (ht : (pc : Int) + off = (tgt : Int)) (d : decode cc pc = .ok (.ifCond .eq off, 3)) (kt : x = 0 → Z T σ tgt lv st) (kf : ¬ x = 0 → Z T σ (pc + 3) lv st) : Z T σ pc lv (.int x :: st) := by
  obtain ⟨p, l, e, R, s, m, args, below, meth, cd, Q, nL, G, mk, A, cells, slots⟩ := T
  obtain ⟨hx, hb, hml, hown, hts, hE, hA, hR, hM⟩ := hC
  intro H locs ls hP hS hl
  exact lv_if_eq hx hb d ht (fun q => kt q H locs ls hP hS hl) (fun q => kf q H locs ls hP hS hl)
theorem z_cmp_eq {T : zX} {cc : ByteArray} {own : String} {fr lo cl ch : Nat} (hC : zOk T cc own fr lo cl ch) {σ : zSt} {pc : Nat} {lv : List (Nat × Value)} {st : List Value} {x y : Int64} {off : Int} (tgt : Nat) (ht : ((pc + 1 : Nat) : Int) + off = (tgt : Int)) (d : decode cc pc = .ok (.lcmp, 1)) (d2 : decode cc (pc + 1) = .ok (.ifCond .eq off, 3)) (kt : x = y → Z T σ tgt lv st) (kf : ¬ x = y → Z T σ (pc + 4) lv st) : Z T σ pc lv (.long y :: .long x :: st) := by
  obtain ⟨p, l, e, R, s, m, args, below, meth, cd, Q, nL, G, mk, A, cells, slots⟩ := T
  obtain ⟨hx, hb, hml, hown, hts, hE, hA, hR, hM⟩ := hC
  intro H locs ls hP hS hl
  exact W.lcmp hx hb d (lv_if_eq hx hb d2 ht (fun q => kt ((lg_cmp_eq x y).mp q) H locs ls hP hS hl) (fun q => kf (fun z => q ((lg_cmp_eq x y).mpr z)) H locs ls hP hS hl))
theorem z_icmp_ne {T : zX} {cc : ByteArray} {own : String} {fr lo cl ch : Nat} (hC : zOk T cc own fr lo cl ch) {σ : zSt} {pc : Nat} {lv : List (Nat × Value)} {st : List Value} {x y : Int32} {off : Int} (tgt : Nat) (ht : (pc : Int) + off = (tgt : Int)) (d : decode cc pc = .ok (.if_icmp .ne off, 3)) (kt : ¬ x = y → Z T σ tgt lv st) (kf : x = y → Z T σ (pc + 3) lv st) : Z T σ pc lv (.int y :: .int x :: st) := by
  obtain ⟨p, l, e, R, s, m, args, below, meth, cd, Q, nL, G, mk, A, cells, slots⟩ := T
  obtain ⟨hx, hb, hml, hown, hts, hE, hA, hR, hM⟩ := hC
  intro H locs ls hP hS hl
  exact lv_icmp_ne hx hb d ht (fun q => kt q H locs ls hP hS hl) (fun q => kf q H locs ls hP hS hl)
theorem z_if_ne {T : zX} {cc : ByteArray} {own : String} {fr lo cl ch : Nat} (hC : zOk T cc own fr lo cl ch) {σ : zSt} {pc : Nat} {lv : List (Nat × Value)} {st : List Value} {x : Int32} {off : Int} (tgt : Nat) (ht : (pc : Int) + off = (tgt : Int)) (d : decode cc pc = .ok (.ifCond .ne off, 3)) (kt : ¬ x = 0 → Z T σ tgt lv st) (kf : x = 0 → Z T σ (pc + 3) lv st) : Z T σ pc lv (.int x :: st) := by
  obtain ⟨p, l, e, R, s, m, args, below, meth, cd, Q, nL, G, mk, A, cells, slots⟩ := T
  obtain ⟨hx, hb, hml, hown, hts, hE, hA, hR, hM⟩ := hC
  intro H locs ls hP hS hl
  exact lv_if_ne hx hb d ht (fun q => kt q H locs ls hP hS hl) (fun q => kf q H locs ls hP hS hl)
theorem z_cmp_ne {T : zX} {cc : ByteArray} {own : String} {fr lo cl ch : Nat} (hC : zOk T cc own fr lo cl ch) {σ : zSt} {pc : Nat} {lv : List (Nat × Value)} {st : List Value} {x y : Int64} {off : Int} (tgt : Nat) (ht : ((pc + 1 : Nat) : Int) + off = (tgt : Int)) (d : decode cc pc = .ok (.lcmp, 1)) (d2 : decode cc (pc + 1) = .ok (.ifCond .ne off, 3)) (kt : ¬ x = y → Z T σ tgt lv st) (kf : x = y → Z T σ (pc + 4) lv st) : Z T σ pc lv (.long y :: .long x :: st) := by
  obtain ⟨p, l, e, R, s, m, args, below, meth, cd, Q, nL, G, mk, A, cells, slots⟩ := T
  obtain ⟨hx, hb, hml, hown, hts, hE, hA, hR, hM⟩ := hC
  intro H locs ls hP hS hl
  exact W.lcmp hx hb d (lv_if_ne hx hb d2 ht (fun q => kt (fun z => q ((lg_cmp_eq x y).mpr z)) H locs ls hP hS hl) (fun q => kf ((lg_cmp_eq x y).mp q) H locs ls hP hS hl))
theorem z_icmp_lt {T : zX} {cc : ByteArray} {own : String} {fr lo cl ch : Nat} (hC : zOk T cc own fr lo cl ch) {σ : zSt} {pc : Nat} {lv : List (Nat × Value)} {st : List Value} {x y : Int32} {off : Int} (tgt : Nat) (ht : (pc : Int) + off = (tgt : Int)) (d : decode cc pc = .ok (.if_icmp .lt off, 3)) (kt : x < y → Z T σ tgt lv st) (kf : ¬ x < y → Z T σ (pc + 3) lv st) : Z T σ pc lv (.int y :: .int x :: st) := by
  obtain ⟨p, l, e, R, s, m, args, below, meth, cd, Q, nL, G, mk, A, cells, slots⟩ := T
  obtain ⟨hx, hb, hml, hown, hts, hE, hA, hR, hM⟩ := hC
  intro H locs ls hP hS hl
  exact lv_icmp_lt hx hb d ht (fun q => kt q H locs ls hP hS hl) (fun q => kf q H locs ls hP hS hl)
theorem z_if_lt {T : zX} {cc : ByteArray} {own : String} {fr lo cl ch : Nat} (hC : zOk T cc own fr lo cl ch) {σ : zSt} {pc : Nat} {lv : List (Nat × Value)} {st : List Value} {x : Int32} {off : Int} (tgt : Nat) (ht : (pc : Int) + off = (tgt : Int)) (d : decode cc pc = .ok (.ifCond .lt off, 3)) (kt : x < 0 → Z T σ tgt lv st) (kf : ¬ x < 0 → Z T σ (pc + 3) lv st) : Z T σ pc lv (.int x :: st) := by
  obtain ⟨p, l, e, R, s, m, args, below, meth, cd, Q, nL, G, mk, A, cells, slots⟩ := T
  obtain ⟨hx, hb, hml, hown, hts, hE, hA, hR, hM⟩ := hC
  intro H locs ls hP hS hl
  exact lv_if_lt hx hb d ht (fun q => kt q H locs ls hP hS hl) (fun q => kf q H locs ls hP hS hl)
theorem z_cmp_lt {T : zX} {cc : ByteArray} {own : String} {fr lo cl ch : Nat} (hC : zOk T cc own fr lo cl ch) {σ : zSt} {pc : Nat} {lv : List (Nat × Value)} {st : List Value} {x y : Int64} {off : Int} (tgt : Nat) (ht : ((pc + 1 : Nat) : Int) + off = (tgt : Int)) (d : decode cc pc = .ok (.lcmp, 1)) (d2 : decode cc (pc + 1) = .ok (.ifCond .lt off, 3)) (kt : x < y → Z T σ tgt lv st) (kf : ¬ x < y → Z T σ (pc + 4) lv st) : Z T σ pc lv (.long y :: .long x :: st) := by
  obtain ⟨p, l, e, R, s, m, args, below, meth, cd, Q, nL, G, mk, A, cells, slots⟩ := T
  obtain ⟨hx, hb, hml, hown, hts, hE, hA, hR, hM⟩ := hC
  intro H locs ls hP hS hl
  exact W.lcmp hx hb d (lv_if_lt hx hb d2 ht (fun q => kt ((lg_cmp_lt x y).mp q) H locs ls hP hS hl) (fun q => kf (fun z => q ((lg_cmp_lt x y).mpr z)) H locs ls hP hS hl))
theorem z_icmp_ge {T : zX} {cc : ByteArray} {own : String} {fr lo cl ch : Nat} (hC : zOk T cc own fr lo cl ch) {σ : zSt} {pc : Nat} {lv : List (Nat × Value)} {st : List Value} {x y : Int32} {off : Int} (tgt : Nat) (ht : (pc : Int) + off = (tgt : Int)) (d : decode cc pc = .ok (.if_icmp .ge off, 3)) (kt : y ≤ x → Z T σ tgt lv st) (kf : ¬ y ≤ x → Z T σ (pc + 3) lv st) : Z T σ pc lv (.int y :: .int x :: st) := by
  obtain ⟨p, l, e, R, s, m, args, below, meth, cd, Q, nL, G, mk, A, cells, slots⟩ := T
  obtain ⟨hx, hb, hml, hown, hts, hE, hA, hR, hM⟩ := hC
  intro H locs ls hP hS hl
  exact lv_icmp_ge hx hb d ht (fun q => kt q H locs ls hP hS hl) (fun q => kf q H locs ls hP hS hl)
theorem z_if_ge {T : zX} {cc : ByteArray} {own : String} {fr lo cl ch : Nat} (hC : zOk T cc own fr lo cl ch) {σ : zSt} {pc : Nat} {lv : List (Nat × Value)} {st : List Value} {x : Int32} {off : Int} (tgt : Nat) (ht : (pc : Int) + off = (tgt : Int)) (d : decode cc pc = .ok (.ifCond .ge off, 3)) (kt : 0 ≤ x → Z T σ tgt lv st) (kf : ¬ 0 ≤ x → Z T σ (pc + 3) lv st) : Z T σ pc lv (.int x :: st) := by
  obtain ⟨p, l, e, R, s, m, args, below, meth, cd, Q, nL, G, mk, A, cells, slots⟩ := T
  obtain ⟨hx, hb, hml, hown, hts, hE, hA, hR, hM⟩ := hC
  intro H locs ls hP hS hl
  exact lv_if_ge hx hb d ht (fun q => kt q H locs ls hP hS hl) (fun q => kf q H locs ls hP hS hl)
theorem z_cmp_ge {T : zX} {cc : ByteArray} {own : String} {fr lo cl ch : Nat} (hC : zOk T cc own fr lo cl ch) {σ : zSt} {pc : Nat} {lv : List (Nat × Value)} {st : List Value} {x y : Int64} {off : Int} (tgt : Nat) (ht : ((pc + 1 : Nat) : Int) + off = (tgt : Int)) (d : decode cc pc = .ok (.lcmp, 1)) (d2 : decode cc (pc + 1) = .ok (.ifCond .ge off, 3)) (kt : y ≤ x → Z T σ tgt lv st) (kf : ¬ y ≤ x → Z T σ (pc + 4) lv st) : Z T σ pc lv (.long y :: .long x :: st) := by
  obtain ⟨p, l, e, R, s, m, args, below, meth, cd, Q, nL, G, mk, A, cells, slots⟩ := T
  obtain ⟨hx, hb, hml, hown, hts, hE, hA, hR, hM⟩ := hC
  intro H locs ls hP hS hl
  exact W.lcmp hx hb d (lv_if_ge hx hb d2 ht (fun q => kt ((lg_cmp_ge x y).mp q) H locs ls hP hS hl) (fun q => kf (fun z => q ((lg_cmp_ge x y).mpr z)) H locs ls hP hS hl))
theorem z_icmp_gt {T : zX} {cc : ByteArray} {own : String} {fr lo cl ch : Nat} (hC : zOk T cc own fr lo cl ch) {σ : zSt} {pc : Nat} {lv : List (Nat × Value)} {st : List Value} {x y : Int32} {off : Int} (tgt : Nat) (ht : (pc : Int) + off = (tgt : Int)) (d : decode cc pc = .ok (.if_icmp .gt off, 3)) (kt : y < x → Z T σ tgt lv st) (kf : ¬ y < x → Z T σ (pc + 3) lv st) : Z T σ pc lv (.int y :: .int x :: st) := by
  obtain ⟨p, l, e, R, s, m, args, below, meth, cd, Q, nL, G, mk, A, cells, slots⟩ := T
  obtain ⟨hx, hb, hml, hown, hts, hE, hA, hR, hM⟩ := hC
  intro H locs ls hP hS hl
  exact lv_icmp_gt hx hb d ht (fun q => kt q H locs ls hP hS hl) (fun q => kf q H locs ls hP hS hl)
theorem z_if_gt {T : zX} {cc : ByteArray} {own : String} {fr lo cl ch : Nat} (hC : zOk T cc own fr lo cl ch) {σ : zSt} {pc : Nat} {lv : List (Nat × Value)} {st : List Value} {x : Int32} {off : Int} (tgt : Nat) (ht : (pc : Int) + off = (tgt : Int)) (d : decode cc pc = .ok (.ifCond .gt off, 3)) (kt : 0 < x → Z T σ tgt lv st) (kf : ¬ 0 < x → Z T σ (pc + 3) lv st) : Z T σ pc lv (.int x :: st) := by
  obtain ⟨p, l, e, R, s, m, args, below, meth, cd, Q, nL, G, mk, A, cells, slots⟩ := T
  obtain ⟨hx, hb, hml, hown, hts, hE, hA, hR, hM⟩ := hC
  intro H locs ls hP hS hl
  exact lv_if_gt hx hb d ht (fun q => kt q H locs ls hP hS hl) (fun q => kf q H locs ls hP hS hl)
theorem z_cmp_gt {T : zX} {cc : ByteArray} {own : String} {fr lo cl ch : Nat} (hC : zOk T cc own fr lo cl ch) {σ : zSt} {pc : Nat} {lv : List (Nat × Value)} {st : List Value} {x y : Int64} {off : Int} (tgt : Nat) (ht : ((pc + 1 : Nat) : Int) + off = (tgt : Int)) (d : decode cc pc = .ok (.lcmp, 1)) (d2 : decode cc (pc + 1) = .ok (.ifCond .gt off, 3)) (kt : y < x → Z T σ tgt lv st) (kf : ¬ y < x → Z T σ (pc + 4) lv st) : Z T σ pc lv (.long y :: .long x :: st) := by
  obtain ⟨p, l, e, R, s, m, args, below, meth, cd, Q, nL, G, mk, A, cells, slots⟩ := T
  obtain ⟨hx, hb, hml, hown, hts, hE, hA, hR, hM⟩ := hC
  intro H locs ls hP hS hl
  exact W.lcmp hx hb d (lv_if_gt hx hb d2 ht (fun q => kt ((lg_cmp_gt x y).mp q) H locs ls hP hS hl) (fun q => kf (fun z => q ((lg_cmp_gt x y).mpr z)) H locs ls hP hS hl))
theorem z_icmp_le {T : zX} {cc : ByteArray} {own : String} {fr lo cl ch : Nat} (hC : zOk T cc own fr lo cl ch) {σ : zSt} {pc : Nat} {lv : List (Nat × Value)} {st : List Value} {x y : Int32} {off : Int} (tgt : Nat) (ht : (pc : Int) + off = (tgt : Int)) (d : decode cc pc = .ok (.if_icmp .le off, 3)) (kt : x ≤ y → Z T σ tgt lv st) (kf : ¬ x ≤ y → Z T σ (pc + 3) lv st) : Z T σ pc lv (.int y :: .int x :: st) := by
  obtain ⟨p, l, e, R, s, m, args, below, meth, cd, Q, nL, G, mk, A, cells, slots⟩ := T
  obtain ⟨hx, hb, hml, hown, hts, hE, hA, hR, hM⟩ := hC
  intro H locs ls hP hS hl
  exact lv_icmp_le hx hb d ht (fun q => kt q H locs ls hP hS hl) (fun q => kf q H locs ls hP hS hl)
theorem z_if_le {T : zX} {cc : ByteArray} {own : String} {fr lo cl ch : Nat} (hC : zOk T cc own fr lo cl ch) {σ : zSt} {pc : Nat} {lv : List (Nat × Value)} {st : List Value} {x : Int32} {off : Int} (tgt : Nat) (ht : (pc : Int) + off = (tgt : Int)) (d : decode cc pc = .ok (.ifCond .le off, 3)) (kt : x ≤ 0 → Z T σ tgt lv st) (kf : ¬ x ≤ 0 → Z T σ (pc + 3) lv st) : Z T σ pc lv (.int x :: st) := by
  obtain ⟨p, l, e, R, s, m, args, below, meth, cd, Q, nL, G, mk, A, cells, slots⟩ := T
  obtain ⟨hx, hb, hml, hown, hts, hE, hA, hR, hM⟩ := hC
  intro H locs ls hP hS hl
  exact lv_if_le hx hb d ht (fun q => kt q H locs ls hP hS hl) (fun q => kf q H locs ls hP hS hl)
theorem z_cmp_le {T : zX} {cc : ByteArray} {own : String} {fr lo cl ch : Nat} (hC : zOk T cc own fr lo cl ch) {σ : zSt} {pc : Nat} {lv : List (Nat × Value)} {st : List Value} {x y : Int64} {off : Int} (tgt : Nat) (ht : ((pc + 1 : Nat) : Int) + off = (tgt : Int)) (d : decode cc pc = .ok (.lcmp, 1)) (d2 : decode cc (pc + 1) = .ok (.ifCond .le off, 3)) (kt : x ≤ y → Z T σ tgt lv st) (kf : ¬ x ≤ y → Z T σ (pc + 4) lv st) : Z T σ pc lv (.long y :: .long x :: st) := by
  obtain ⟨p, l, e, R, s, m, args, below, meth, cd, Q, nL, G, mk, A, cells, slots⟩ := T
  obtain ⟨hx, hb, hml, hown, hts, hE, hA, hR, hM⟩ := hC
  intro H locs ls hP hS hl
  exact W.lcmp hx hb d (lv_if_le hx hb d2 ht (fun q => kt ((lg_cmp_le x y).mp q) H locs ls hP hS hl) (fun q => kf (fun z => q ((lg_cmp_le x y).mpr z)) H locs ls hP hS hl))
theorem z_tabIn {T : zX} {cc : ByteArray} {own : String} {fr lo cl ch : Nat} (hC : zOk T cc own fr lo cl ch) {σ : zSt} {pc : Nat} {lv : List (Nat × Value)} {st : List Value} {dflt lo2 hi2 : Int} {offs : Array Int} {len : Nat} {x : Int32} (off : Int) (tgt : Nat) (h1 : ¬ x.toInt < lo2) (h2 : ¬ hi2 < x.toInt) (ho : offs[(x.toInt - lo2).toNat]? = some off) (ht : (pc : Int) + off = (tgt : Int)) (d : decode cc pc = .ok (.tableswitch dflt lo2 hi2 offs, len)) (kk : Z T σ tgt lv st) : Z T σ pc lv (.int x :: st) := by
  obtain ⟨p, l, e, R, s, m, args, below, meth, cd, Q, nL, G, mk, A, cells, slots⟩ := T
  obtain ⟨hx, hb, hml, hown, hts, hE, hA, hR, hM⟩ := hC
  intro H locs ls hP hS hl
  exact lv_tableIn hx hb d h1 h2 ho ht (kk H locs ls hP hS hl)
theorem z_tabOut {T : zX} {cc : ByteArray} {own : String} {fr lo cl ch : Nat} (hC : zOk T cc own fr lo cl ch) {σ : zSt} {pc : Nat} {lv : List (Nat × Value)} {st : List Value} {dflt lo2 hi2 : Int} {offs : Array Int} {len : Nat} {x : Int32} (tgt : Nat) (h : x.toInt < lo2 ∨ hi2 < x.toInt) (ht : (pc : Int) + dflt = (tgt : Int)) (d : decode cc pc = .ok (.tableswitch dflt lo2 hi2 offs, len)) (kk : Z T σ tgt lv st) : Z T σ pc lv (.int x :: st) := by
  obtain ⟨p, l, e, R, s, m, args, below, meth, cd, Q, nL, G, mk, A, cells, slots⟩ := T
  obtain ⟨hx, hb, hml, hown, hts, hE, hA, hR, hM⟩ := hC
  intro H locs ls hP hS hl
  exact lv_tableOut hx hb d h ht (kk H locs ls hP hS hl)
theorem z_iret {T : zX} {cc : ByteArray} {own : String} {fr lo cl ch : Nat} (hC : zOk T cc own fr lo cl ch)  {σ : zSt} {pc : Nat} {lv : List (Nat × Value)} {x : Int32} (hQ : zRes T (some .int) (some (.int x)) σ) (d : decode cc pc = .ok (.ireturn, 1))  : Z T σ pc lv [.int x] := by
  obtain ⟨p, l, e, R, s, m, args, below, meth, cd, Q, nL, G, mk, A, cells, slots⟩ := T
  obtain ⟨hx, hb, hml, hown, hts, hE, hA, hR, hM⟩ := hC
  obtain ⟨hA2, rfl, hr, hlk⟩ := hQ
  subst hA2
  intro H locs ls hP hS hl
  exact W.iret hx hb hr  (fun t ht hW => ⟨rfl, by rw [ht]; exact hP, hS.F ht⟩) hS.2.2 d hlk
theorem z_lret {T : zX} {cc : ByteArray} {own : String} {fr lo cl ch : Nat} (hC : zOk T cc own fr lo cl ch)  {σ : zSt} {pc : Nat} {lv : List (Nat × Value)} {x : Int64} (hQ : zRes T (some .long) (some (.long x)) σ) (d : decode cc pc = .ok (.lreturn, 1))  : Z T σ pc lv [.long x] := by
  obtain ⟨p, l, e, R, s, m, args, below, meth, cd, Q, nL, G, mk, A, cells, slots⟩ := T
  obtain ⟨hx, hb, hml, hown, hts, hE, hA, hR, hM⟩ := hC
  obtain ⟨hA2, rfl, hr, hlk⟩ := hQ
  subst hA2
  intro H locs ls hP hS hl
  exact W.lret hx hb hr  (fun t ht hW => ⟨rfl, by rw [ht]; exact hP, hS.F ht⟩) hS.2.2 d hlk
theorem z_vret {T : zX} {cc : ByteArray} {own : String} {fr lo cl ch : Nat} (hC : zOk T cc own fr lo cl ch)  {σ : zSt} {pc : Nat} {lv : List (Nat × Value)}  (hQ : zRes T none (none) σ) (d : decode cc pc = .ok (.return_, 1))  : Z T σ pc lv [] := by
  obtain ⟨p, l, e, R, s, m, args, below, meth, cd, Q, nL, G, mk, A, cells, slots⟩ := T
  obtain ⟨hx, hb, hml, hown, hts, hE, hA, hR, hM⟩ := hC
  obtain ⟨hA2, rfl, hr, hlk⟩ := hQ
  subst hA2
  intro H locs ls hP hS hl
  exact W.vret hx hb hr  (fun t ht hW => ⟨rfl, by rw [ht]; exact hP, hS.F ht⟩) hS.2.2 d hlk
theorem z_zret {T : zX} {cc : ByteArray} {own : String} {fr lo cl ch : Nat} (hC : zOk T cc own fr lo cl ch) {ty : FieldType} {σ : zSt} {pc : Nat} {lv : List (Nat × Value)} {x : Int32} (hQ : zRes T (some ty) (some (.int x)) σ) (d : decode cc pc = .ok (.ireturn, 1)) (hn : narrow ty (.int x) = .int x) : Z T σ pc lv [.int x] := by
  obtain ⟨p, l, e, R, s, m, args, below, meth, cd, Q, nL, G, mk, A, cells, slots⟩ := T
  obtain ⟨hx, hb, hml, hown, hts, hE, hA, hR, hM⟩ := hC
  obtain ⟨hA2, rfl, hr, hlk⟩ := hQ
  subst hA2
  intro H locs ls hP hS hl
  exact W.zret hx hb hr hn (fun t ht hW => ⟨rfl, by rw [ht]; exact hP, hS.F ht⟩) hS.2.2 d hlk
theorem z_aret {T : zX} {cc : ByteArray} {own : String} {fr lo cl ch : Nat} (hC : zOk T cc own fr lo cl ch) {ob : String} {σ : zSt} {pc : Nat} {lv : List (Nat × Value)} {x : Nat} (hQ : zRes T (some (.object ob)) (some (.ref x)) σ) (d : decode cc pc = .ok (.areturn, 1))  : Z T σ pc lv [.ref x] := by
  obtain ⟨p, l, e, R, s, m, args, below, meth, cd, Q, nL, G, mk, A, cells, slots⟩ := T
  obtain ⟨hx, hb, hml, hown, hts, hE, hA, hR, hM⟩ := hC
  obtain ⟨hA2, rfl, hr, hlk⟩ := hQ
  subst hA2
  intro H locs ls hP hS hl
  exact W.aret hx hb hr (Or.inl ⟨ob, rfl⟩) (Or.inr ⟨x, rfl⟩) (fun t ht hW => ⟨rfl, by rw [ht]; exact hP, hS.F ht⟩) hS.2.2 d hlk
theorem z_nmI {T : zX} {σ : zSt} {pc : Nat} {lv : List (Nat × Value)} {st : List Value} {β : Type} {e : Int32} {f : Int32 → β} {v : β} (h : nm e f = v) (kk : ∀ x, f x = v → Z T σ pc lv (.int x :: st)) : Z T σ pc lv (.int e :: st) := kk e h
theorem z_nmL {T : zX} {σ : zSt} {pc : Nat} {lv : List (Nat × Value)} {st : List Value} {β : Type} {e : Int64} {f : Int64 → β} {v : β} (h : nm e f = v) (kk : ∀ x, f x = v → Z T σ pc lv (.long x :: st)) : Z T σ pc lv (.long e :: st) := kk e h
theorem z_nmS {T : zX} {σ : zSt} {pc : Nat} {lv : List (Nat × Value)} {st : List Value} {β : Type} {f : zSt → β} {v : β} (h : nm σ f = v) (kk : ∀ τ, f τ = v → Z T τ pc lv st) : Z T σ pc lv st := kk σ h
theorem z_t {α : Type} {c : Prop} {D : Decidable c} {a b v : α} (q : c) (h : @ite α c D a b = v) : a = v := by rw [if_pos q] at h; exact h
theorem z_f {α : Type} {c : Prop} {D : Decidable c} {a b v : α} (q : ¬ c) (h : @ite α c D a b = v) : b = v := by rw [if_neg q] at h; exact h
theorem z_ite {α : Type} {P : Prop} {c : Prop} {D : Decidable c} {a b v : α} (h : @ite α c D a b = v) (kt : c → a = v → P) (kf : ¬ c → b = v → P) : P := by
  by_cases q : c
  · exact kt q (z_t q h)
  · exact kf q (z_f q h)
theorem z_g {P c : Prop} {α : Type} {x : Option α} {v : α} (h : zg c x = some v) (kk : c → x = some v → P) : P := kk (zg_out h).1 (zg_out h).2
theorem z_b1 {P : Prop} {α γ : Type} {x : Option α} {f : α → Option γ} {v : γ} (h : bd1 x f = some v) (kk : ∀ a, x = some a → f a = some v → P) : P := by
  obtain ⟨a, h1, h2⟩ := bd1_out h
  exact kk a h1 h2
theorem z_b2 {P : Prop} {α β γ : Type} {x : Option (α × β)} {f : α → β → Option γ} {v : γ} (h : bd2 x f = some v) (kk : ∀ a b, x = some (a, b) → f a b = some v → P) : P := by
  obtain ⟨a, b, h1, h2⟩ := bd2_out h
  exact kk a b h1 h2
theorem z_nmE {P : Prop} {α β : Type} {e : α} {f : α → β} {v : β} (h : nm e f = v) (kk : ∀ x, x = e → f x = v → P) : P := kk e rfl h
theorem z_pr {α β : Type} {a c : α} {b d : β} (h : some (a, b) = some (c, d)) : c = a ∧ d = b := ⟨(Prod.mk.inj (Option.some.inj h)).1.symm, (Prod.mk.inj (Option.some.inj h)).2.symm⟩
theorem z_so {α : Type} {a b : α} (h : some a = some b) : b = a := (Option.some.inj h).symm
theorem zvp8 {i : Int32} (h : vp_in i 8) : i.toNatClampNeg < 10 := by
  have : i.toNatClampNeg < 8 := Nat.not_le.mp fun q => h (Or.inr q)
  omega
theorem z_tabD {T : zX} {cc : ByteArray} {own : String} {fr lo cl ch : Nat} (hC : zOk T cc own fr lo cl ch) {σ : zSt} {pc : Nat} {lv : List (Nat × Value)} {st : List Value} {dflt lo2 hi2 : Int} {offs : Array Int} {len : Nat} {x : Int32} (n tgt : Nat) (hn : hi2 + 1 = lo2 + n) (hg : ∀ i : Nat, i < n → offs[i]? = some dflt ∨ ¬ Int32.ofInt (lo2 + (i : Int)) = x) (ht : (pc : Int) + dflt = (tgt : Int)) (d : decode cc pc = .ok (.tableswitch dflt lo2 hi2 offs, len)) (kk : Z T σ tgt lv st) : Z T σ pc lv (.int x :: st) := by
  by_cases h1 : x.toInt < lo2
  · exact z_tabOut hC tgt (Or.inl h1) ht d kk
  · by_cases h2 : hi2 < x.toInt
    · exact z_tabOut hC tgt (Or.inr h2) ht d kk
    · have hk : lo2 + (((x.toInt - lo2).toNat : Nat) : Int) = x.toInt := by omega
      rcases hg (x.toInt - lo2).toNat (by omega) with q | q
      · exact z_tabIn hC dflt tgt h1 h2 q ht d kk
      · exact absurd (by rw [hk]; exact Int32.ofInt_toInt x) q
theorem z_get {T : zX} {cc : ByteArray} {own : String} {fr lo cl ch : Nat} (hC : zOk T cc own fr lo cl ch) {σ : zSt} {pc : Nat} {lv : List (Nat × Value)} {st : List Value} {ref C : String} {N ci index : Nat} {TT : u_T} {fs : List Value} (c k : Nat) (hc : cl ≤ c ∧ c < ch) (he : zS (zGr T) c (σ.1 c) (σ.2 c) = .inr (ci, fs)) (hcl : vwCl[ci]? = some (C, TT, N)) (hin : ∀ w ∈ u_ws C TT N, w ∈ zT) (hk : k < N) (hr : (TT k).1 = ref) (hw : Cond.fieldLink own index ref (TT k).2.1 (TT k).2.2.1 ∈ zT) (v : Value) (hv : fs[k]? = some v) (d : decode cc pc = .ok (.getfield index, 3)) (kk : Z T σ (pc + 3) lv (v :: st)) : Z T σ pc lv (.ref (zAd T c) :: st) := by
  obtain ⟨p, l, e, R, s, m, args, below, meth, cd, Q, nL, G, mk, A, cells, slots⟩ := T
  obtain ⟨hx, hb, hml, hown, hts, hE, hA, hR, hM⟩ := hC
  intro H locs ls hP hS hl
  obtain ⟨h85, hM⟩ := hM
  obtain ⟨m1, m2, -, -⟩ := hM σ c hc.1 hc.2
  refine va_get (D := G.1) (ws := zW G (mk σ)) (C := C) (T := TT) (N := N) (ref := ref) hx hb hts hin hown hE.1 hP c (fs := fs) ?_ hcl k hk (hts _ hw) (fun x hx => by rw [← hr]; exact hx) hv d (kk H locs ls hP hS hl)
  rw [zW_at (by omega), m1, m2]
  exact congrArg (fun e => some (gA G c, e)) he
theorem z_putI {T : zX} {cc : ByteArray} {own : String} {fr lo cl ch : Nat} (hC : zOk T cc own fr lo cl ch) {σ : zSt} {pc : Nat} {lv : List (Nat × Value)} {st : List Value} {ref C : String} {N ci index : Nat} {TT : u_T} {fs : List Value} {x : Int32} (c k : Nat) (hc : cl ≤ c ∧ c < ch) (he : zS (zGr T) c (σ.1 c) (σ.2 c) = .inr (ci, fs)) (he2 : zS (zGr T) c ((si σ c k x).1 c) ((si σ c k x).2 c) = .inr (ci, fs.set k (.int x))) (hcl : vwCl[ci]? = some (C, TT, N)) (hin : ∀ w ∈ u_ws C TT N, w ∈ zT) (ty0 : Nat → FieldType) (hty : ∀ k, k < N → parseFieldDescriptor (TT k).2.2.1 = some (ty0 k)) (hnm : ∀ a, a < N → ∀ b, b < N → a ≠ b → (TT a).2.1 ≠ (TT b).2.1) (hk : k < N) (hr : (TT k).1 = ref) (hw : Cond.fieldLink own index ref (TT k).2.1 (TT k).2.2.1 ∈ zT) (hfin : (TT k).2.2.2 = false) {ty : FieldType} (hd : parseFieldDescriptor (TT k).2.2.1 = some ty) (hn : narrow ty (.int x) = .int x) (hfit : fits ty (.int x) = true) (hlen : k < fs.length) (d : decode cc pc = .ok (.putfield index, 3)) (kk : Z T (si σ c k x) (pc + 3) lv st) : Z T σ pc lv (.int x :: .ref (zAd T c) :: st) := by
  obtain ⟨p, l, e, R, s, m, args, below, meth, cd, Q, nL, G, mk, A, cells, slots⟩ := T
  obtain ⟨hx, hb, hml, hown, hts, hE, hA, hR, hM⟩ := hC
  intro H locs ls hP hS hl
  obtain ⟨h85, hM⟩ := hM
  obtain ⟨m1, m2, m3, m4⟩ := hM σ c hc.1 hc.2
  have hD := zW_D (G := G) (τ := mk σ) (A := A) hE.2.1 hA
  refine va_put (D := G.1) (ws := zW G (mk σ)) (C := C) (T := TT) (N := N) (ref := ref) hx hb hts hin ty0 hty hnm hown hE.1 hP hD hS c (fs := fs) ?_ hcl k hk (hts _ hw) (fun x hx => by rw [← hr]; exact hx) hfin hd hn hfit hlen d (fun H1 locs1 hP1 hD1 hS1 => ?_)
  · rw [zW_at (by omega), m1, m2]
    exact congrArg (fun e => some (gA G c, e)) he
  · refine kk H1 locs1 ls ?_ hS1 hl
    rw [m3, ← zW_set (τ := mk σ) (τ' := si (mk σ) c k x) (c := c) (e := .inr (ci, fs.set k (.int x))) (by omega) ?_ (si_n (mk σ) c k x)]
    · exact hP1
    · rw [← he2, ← m3]
      obtain ⟨n1, n2, -, -⟩ := hM (si σ c k x) c hc.1 hc.2
      rw [n1, n2]
theorem z_putL {T : zX} {cc : ByteArray} {own : String} {fr lo cl ch : Nat} (hC : zOk T cc own fr lo cl ch) {σ : zSt} {pc : Nat} {lv : List (Nat × Value)} {st : List Value} {ref C : String} {N ci index : Nat} {TT : u_T} {fs : List Value} {x : Int64} (c k : Nat) (hc : cl ≤ c ∧ c < ch) (he : zS (zGr T) c (σ.1 c) (σ.2 c) = .inr (ci, fs)) (he2 : zS (zGr T) c ((sl σ c k x).1 c) ((sl σ c k x).2 c) = .inr (ci, fs.set k (.long x))) (hcl : vwCl[ci]? = some (C, TT, N)) (hin : ∀ w ∈ u_ws C TT N, w ∈ zT) (ty0 : Nat → FieldType) (hty : ∀ k, k < N → parseFieldDescriptor (TT k).2.2.1 = some (ty0 k)) (hnm : ∀ a, a < N → ∀ b, b < N → a ≠ b → (TT a).2.1 ≠ (TT b).2.1) (hk : k < N) (hr : (TT k).1 = ref) (hw : Cond.fieldLink own index ref (TT k).2.1 (TT k).2.2.1 ∈ zT) (hfin : (TT k).2.2.2 = false) {ty : FieldType} (hd : parseFieldDescriptor (TT k).2.2.1 = some ty) (hn : narrow ty (.long x) = .long x) (hfit : fits ty (.long x) = true) (hlen : k < fs.length) (d : decode cc pc = .ok (.putfield index, 3)) (kk : Z T (sl σ c k x) (pc + 3) lv st) : Z T σ pc lv (.long x :: .ref (zAd T c) :: st) := by
  obtain ⟨p, l, e, R, s, m, args, below, meth, cd, Q, nL, G, mk, A, cells, slots⟩ := T
  obtain ⟨hx, hb, hml, hown, hts, hE, hA, hR, hM⟩ := hC
  intro H locs ls hP hS hl
  obtain ⟨h85, hM⟩ := hM
  obtain ⟨m1, m2, m3, m4⟩ := hM σ c hc.1 hc.2
  have hD := zW_D (G := G) (τ := mk σ) (A := A) hE.2.1 hA
  refine va_put (D := G.1) (ws := zW G (mk σ)) (C := C) (T := TT) (N := N) (ref := ref) hx hb hts hin ty0 hty hnm hown hE.1 hP hD hS c (fs := fs) ?_ hcl k hk (hts _ hw) (fun x hx => by rw [← hr]; exact hx) hfin hd hn hfit hlen d (fun H1 locs1 hP1 hD1 hS1 => ?_)
  · rw [zW_at (by omega), m1, m2]
    exact congrArg (fun e => some (gA G c, e)) he
  · refine kk H1 locs1 ls ?_ hS1 hl
    rw [m4, ← zW_set (τ := mk σ) (τ' := sl (mk σ) c k x) (c := c) (e := .inr (ci, fs.set k (.long x))) (by omega) ?_ (sl_n (mk σ) c k x)]
    · exact hP1
    · rw [← he2, ← m4]
      obtain ⟨n1, n2, -, -⟩ := hM (sl σ c k x) c hc.1 hc.2
      rw [n1, n2]
theorem z_iald {T : zX} {cc : ByteArray} {own : String} {fr lo cl ch : Nat} (hC : zOk T cc own fr lo cl ch) {σ : zSt} {pc : Nat} {lv : List (Nat × Value)} {st : List Value} {N : Nat} {i : Int32} (c : Nat) (hc : cl ≤ c ∧ c < ch) (he : zS (zGr T) c (σ.1 c) (σ.2 c) = .inl (gC (zGr T) 0, N, .inl (σ.1 c))) (hin : vp_in i N) (v : Int32) (hv : gi σ c i.toNatClampNeg = v) (d : decode cc pc = .ok (.iaload, 1)) (kk : Z T σ (pc + 1) lv (.int v :: st)) : Z T σ pc lv (.int i :: .ref (zAd T c) :: st) := by
  obtain ⟨p, l, e, R, s, m, args, below, meth, cd, Q, nL, G, mk, A, cells, slots⟩ := T
  obtain ⟨hx, hb, hml, hown, hts, hE, hA, hR, hM⟩ := hC
  intro H locs ls hP hS hl
  obtain ⟨h85, hM⟩ := hM
  obtain ⟨m1, m2, -, -⟩ := hM σ c hc.1 hc.2
  subst hv
  refine va_iald (D := G.1) (ws := zW G (mk σ)) hx hb hE.1 hP c 0 ?_ rfl hin d (kk H locs ls hP hS hl)
  rw [zW_at (by omega), m1, m2]
  exact congrArg (fun e => some (gA G c, e)) he
theorem z_bald {T : zX} {cc : ByteArray} {own : String} {fr lo cl ch : Nat} (hC : zOk T cc own fr lo cl ch) {σ : zSt} {pc : Nat} {lv : List (Nat × Value)} {st : List Value} {N : Nat} {i : Int32} (c : Nat) (hc : cl ≤ c ∧ c < ch) (he : zS (zGr T) c (σ.1 c) (σ.2 c) = .inl (gC (zGr T) 2, N, .inl (σ.1 c))) (hin : vp_in i N) (v : Int32) (hv : gi σ c i.toNatClampNeg = v) (d : decode cc pc = .ok (.baload, 1)) (kk : Z T σ (pc + 1) lv (.int v :: st)) : Z T σ pc lv (.int i :: .ref (zAd T c) :: st) := by
  obtain ⟨p, l, e, R, s, m, args, below, meth, cd, Q, nL, G, mk, A, cells, slots⟩ := T
  obtain ⟨hx, hb, hml, hown, hts, hE, hA, hR, hM⟩ := hC
  intro H locs ls hP hS hl
  obtain ⟨h85, hM⟩ := hM
  obtain ⟨m1, m2, -, -⟩ := hM σ c hc.1 hc.2
  subst hv
  refine va_bald (D := G.1) (ws := zW G (mk σ)) hx hb hE.1 hP c 2 ?_ rfl hin d (kk H locs ls hP hS hl)
  rw [zW_at (by omega), m1, m2]
  exact congrArg (fun e => some (gA G c, e)) he
theorem z_zald {T : zX} {cc : ByteArray} {own : String} {fr lo cl ch : Nat} (hC : zOk T cc own fr lo cl ch) {σ : zSt} {pc : Nat} {lv : List (Nat × Value)} {st : List Value} {N : Nat} {i : Int32} (c : Nat) (hc : cl ≤ c ∧ c < ch) (he : zS (zGr T) c (σ.1 c) (σ.2 c) = .inl (gC (zGr T) 3, N, .inl (σ.1 c))) (hin : vp_in i N) (v : Int32) (hv : gi σ c i.toNatClampNeg = v) (d : decode cc pc = .ok (.baload, 1)) (kk : Z T σ (pc + 1) lv (.int v :: st)) : Z T σ pc lv (.int i :: .ref (zAd T c) :: st) := by
  obtain ⟨p, l, e, R, s, m, args, below, meth, cd, Q, nL, G, mk, A, cells, slots⟩ := T
  obtain ⟨hx, hb, hml, hown, hts, hE, hA, hR, hM⟩ := hC
  intro H locs ls hP hS hl
  obtain ⟨h85, hM⟩ := hM
  obtain ⟨m1, m2, -, -⟩ := hM σ c hc.1 hc.2
  subst hv
  refine va_zald (D := G.1) (ws := zW G (mk σ)) hx hb hE.1 hP c 3 ?_ rfl hin d (kk H locs ls hP hS hl)
  rw [zW_at (by omega), m1, m2]
  exact congrArg (fun e => some (gA G c, e)) he
theorem z_lald {T : zX} {cc : ByteArray} {own : String} {fr lo cl ch : Nat} (hC : zOk T cc own fr lo cl ch) {σ : zSt} {pc : Nat} {lv : List (Nat × Value)} {st : List Value} {N : Nat} {i : Int32} (c : Nat) (hc : cl ≤ c ∧ c < ch) (he : zS (zGr T) c (σ.1 c) (σ.2 c) = .inl (gC (zGr T) 1, N, .inr (.inl (σ.2 c)))) (hin : vp_in i N) (v : Int64) (hv : gl σ c i.toNatClampNeg = v) (d : decode cc pc = .ok (.laload, 1)) (kk : Z T σ (pc + 1) lv (.long v :: st)) : Z T σ pc lv (.int i :: .ref (zAd T c) :: st) := by
  obtain ⟨p, l, e, R, s, m, args, below, meth, cd, Q, nL, G, mk, A, cells, slots⟩ := T
  obtain ⟨hx, hb, hml, hown, hts, hE, hA, hR, hM⟩ := hC
  intro H locs ls hP hS hl
  obtain ⟨h85, hM⟩ := hM
  obtain ⟨m1, m2, -, -⟩ := hM σ c hc.1 hc.2
  subst hv
  refine va_lald (D := G.1) (ws := zW G (mk σ)) hx hb hE.1 hP c 1 ?_ rfl hin d (kk H locs ls hP hS hl)
  rw [zW_at (by omega), m1, m2]
  exact congrArg (fun e => some (gA G c, e)) he
theorem z_iast {T : zX} {cc : ByteArray} {own : String} {fr lo cl ch : Nat} (hC : zOk T cc own fr lo cl ch) {σ : zSt} {pc : Nat} {lv : List (Nat × Value)} {st : List Value} {N : Nat} {i : Int32} {x : Int32} (c : Nat) (hc : cl ≤ c ∧ c < ch) (he : ∀ f g, zS (zGr T) c f g = .inl (gC (zGr T) 0, N, .inl f)) (hin : vp_in i N) (d : decode cc pc = .ok (.iastore, 1)) (kk : Z T (si σ c i.toNatClampNeg (x)) (pc + 1) lv st) : Z T σ pc lv (.int x :: .int i :: .ref (zAd T c) :: st) := by
  obtain ⟨p, l, e, R, s, m, args, below, meth, cd, Q, nL, G, mk, A, cells, slots⟩ := T
  obtain ⟨hx, hb, hml, hown, hts, hE, hA, hR, hM⟩ := hC
  intro H locs ls hP hS hl
  obtain ⟨h85, hM⟩ := hM
  obtain ⟨m1, m2, m3, m4⟩ := hM σ c hc.1 hc.2
  have hD := zW_D (G := G) (τ := mk σ) (A := A) hE.2.1 hA
  refine va_iast (D := G.1) (ws := zW G (mk σ)) (f := (mk σ).1 c) hx hb hE.1 hP hD hS c 0 ?_ rfl hin d (fun H1 locs1 hP1 hD1 hS1 => ?_)
  · rw [zW_at (by omega)]
    exact congrArg (fun e => some (gA G c, e)) (he _ _)
  · refine kk H1 locs1 ls ?_ hS1 hl
    rw [m3, ← zW_set (τ := mk σ) (τ' := si (mk σ) c i.toNatClampNeg (x)) (c := c) (e := .inl (gC G 0, N, .inl (upd ((mk σ).1 c) i.toNatClampNeg x))) (by omega) ?_ (si_n (mk σ) c i.toNatClampNeg (x))]
    · exact hP1
    · rw [si_u]; exact he _ _
theorem z_bast {T : zX} {cc : ByteArray} {own : String} {fr lo cl ch : Nat} (hC : zOk T cc own fr lo cl ch) {σ : zSt} {pc : Nat} {lv : List (Nat × Value)} {st : List Value} {N : Nat} {i : Int32} {x : Int32} (c : Nat) (hc : cl ≤ c ∧ c < ch) (he : ∀ f g, zS (zGr T) c f g = .inl (gC (zGr T) 2, N, .inl f)) (hin : vp_in i N) (d : decode cc pc = .ok (.bastore, 1)) (kk : Z T (si σ c i.toNatClampNeg (vp_nar .byte x)) (pc + 1) lv st) : Z T σ pc lv (.int x :: .int i :: .ref (zAd T c) :: st) := by
  obtain ⟨p, l, e, R, s, m, args, below, meth, cd, Q, nL, G, mk, A, cells, slots⟩ := T
  obtain ⟨hx, hb, hml, hown, hts, hE, hA, hR, hM⟩ := hC
  intro H locs ls hP hS hl
  obtain ⟨h85, hM⟩ := hM
  obtain ⟨m1, m2, m3, m4⟩ := hM σ c hc.1 hc.2
  have hD := zW_D (G := G) (τ := mk σ) (A := A) hE.2.1 hA
  refine va_bast (D := G.1) (ws := zW G (mk σ)) (f := (mk σ).1 c) hx hb hE.1 hP hD hS c 2 ?_ rfl hin d (fun H1 locs1 hP1 hD1 hS1 => ?_)
  · rw [zW_at (by omega)]
    exact congrArg (fun e => some (gA G c, e)) (he _ _)
  · refine kk H1 locs1 ls ?_ hS1 hl
    rw [m3, ← zW_set (τ := mk σ) (τ' := si (mk σ) c i.toNatClampNeg (vp_nar .byte x)) (c := c) (e := .inl (gC G 2, N, .inl (upd ((mk σ).1 c) i.toNatClampNeg (vp_nar .byte x)))) (by omega) ?_ (si_n (mk σ) c i.toNatClampNeg (vp_nar .byte x))]
    · exact hP1
    · rw [si_u]; exact he _ _
theorem z_zast {T : zX} {cc : ByteArray} {own : String} {fr lo cl ch : Nat} (hC : zOk T cc own fr lo cl ch) {σ : zSt} {pc : Nat} {lv : List (Nat × Value)} {st : List Value} {N : Nat} {i : Int32} {x : Int32} (c : Nat) (hc : cl ≤ c ∧ c < ch) (he : ∀ f g, zS (zGr T) c f g = .inl (gC (zGr T) 3, N, .inl f)) (hin : vp_in i N) (d : decode cc pc = .ok (.bastore, 1)) (kk : Z T (si σ c i.toNatClampNeg (vp_nar .boolean x)) (pc + 1) lv st) : Z T σ pc lv (.int x :: .int i :: .ref (zAd T c) :: st) := by
  obtain ⟨p, l, e, R, s, m, args, below, meth, cd, Q, nL, G, mk, A, cells, slots⟩ := T
  obtain ⟨hx, hb, hml, hown, hts, hE, hA, hR, hM⟩ := hC
  intro H locs ls hP hS hl
  obtain ⟨h85, hM⟩ := hM
  obtain ⟨m1, m2, m3, m4⟩ := hM σ c hc.1 hc.2
  have hD := zW_D (G := G) (τ := mk σ) (A := A) hE.2.1 hA
  refine va_zast (D := G.1) (ws := zW G (mk σ)) (f := (mk σ).1 c) hx hb hE.1 hP hD hS c 3 ?_ rfl hin d (fun H1 locs1 hP1 hD1 hS1 => ?_)
  · rw [zW_at (by omega)]
    exact congrArg (fun e => some (gA G c, e)) (he _ _)
  · refine kk H1 locs1 ls ?_ hS1 hl
    rw [m3, ← zW_set (τ := mk σ) (τ' := si (mk σ) c i.toNatClampNeg (vp_nar .boolean x)) (c := c) (e := .inl (gC G 3, N, .inl (upd ((mk σ).1 c) i.toNatClampNeg (vp_nar .boolean x)))) (by omega) ?_ (si_n (mk σ) c i.toNatClampNeg (vp_nar .boolean x))]
    · exact hP1
    · rw [si_u]; exact he _ _
theorem z_last {T : zX} {cc : ByteArray} {own : String} {fr lo cl ch : Nat} (hC : zOk T cc own fr lo cl ch) {σ : zSt} {pc : Nat} {lv : List (Nat × Value)} {st : List Value} {N : Nat} {i : Int32} {x : Int64} (c : Nat) (hc : cl ≤ c ∧ c < ch) (he : ∀ f g, zS (zGr T) c f g = .inl (gC (zGr T) 1, N, .inr (.inl g))) (hin : vp_in i N) (d : decode cc pc = .ok (.lastore, 1)) (kk : Z T (sl σ c i.toNatClampNeg (x)) (pc + 1) lv st) : Z T σ pc lv (.long x :: .int i :: .ref (zAd T c) :: st) := by
  obtain ⟨p, l, e, R, s, m, args, below, meth, cd, Q, nL, G, mk, A, cells, slots⟩ := T
  obtain ⟨hx, hb, hml, hown, hts, hE, hA, hR, hM⟩ := hC
  intro H locs ls hP hS hl
  obtain ⟨h85, hM⟩ := hM
  obtain ⟨m1, m2, m3, m4⟩ := hM σ c hc.1 hc.2
  have hD := zW_D (G := G) (τ := mk σ) (A := A) hE.2.1 hA
  refine va_last (D := G.1) (ws := zW G (mk σ)) (f := (mk σ).2 c) hx hb hE.1 hP hD hS c 1 ?_ rfl hin d (fun H1 locs1 hP1 hD1 hS1 => ?_)
  · rw [zW_at (by omega)]
    exact congrArg (fun e => some (gA G c, e)) (he _ _)
  · refine kk H1 locs1 ls ?_ hS1 hl
    rw [m4, ← zW_set (τ := mk σ) (τ' := sl (mk σ) c i.toNatClampNeg (x)) (c := c) (e := .inl (gC G 1, N, .inr (.inl (vp_updL ((mk σ).2 c) i.toNatClampNeg x)))) (by omega) ?_ (sl_n (mk σ) c i.toNatClampNeg (x))]
    · exact hP1
    · rw [sl_u]; exact he _ _
theorem z_alen {T : zX} {cc : ByteArray} {own : String} {fr lo cl ch : Nat} (hC : zOk T cc own fr lo cl ch) {σ : zSt} {pc : Nat} {lv : List (Nat × Value)} {st : List Value} {N : Nat} (c ti : Nat) (hc : c < 85) {ty : FieldType} (he : ∀ f g, ∃ x : vp_A, zS (zGr T) c f g = .inl (gC (zGr T) ti, x) ∧ x.1 = N) (hti : (gTys (zGr T))[ti]? = some (gC (zGr T) ti, ty)) (v : Int32) (hv : Int32.ofNat N = v) (d : decode cc pc = .ok (.arraylength, 1)) (kk : Z T σ (pc + 1) lv (.int v :: st)) : Z T σ pc lv (.ref (zAd T c) :: st) := by
  obtain ⟨p, l, e, R, s, m, args, below, meth, cd, Q, nL, G, mk, A, cells, slots⟩ := T
  obtain ⟨hx, hb, hml, hown, hts, hE, hA, hR, hM⟩ := hC
  intro H locs ls hP hS hl
  obtain ⟨x, e1, e2⟩ := he ((mk σ).1 c) ((mk σ).2 c)
  refine va_alen (D := G.1) (ws := zW G (mk σ)) hx hb hE.1 hP c ti (x := x) ?_ hti (by rw [e2]; exact hv) d (kk H locs ls hP hS hl)
  rw [zW_at hc]
  exact congrArg (fun e => some (gA G c, e)) e1
theorem z_aald {T : zX} {cc : ByteArray} {own : String} {fr lo cl ch : Nat} (hC : zOk T cc own fr lo cl ch) {σ : zSt} {pc : Nat} {lv : List (Nat × Value)} {st : List Value} {i : Int32} (hc : cl ≤ 7 ∧ 7 < ch) (hin : vp_in i 8) (d : decode cc pc = .ok (.aaload, 1)) (kk : Z T σ (pc + 1) lv (.ref (zAd T (21 + 4 * i.toNatClampNeg)) :: st)) : Z T σ pc lv (.int i :: .ref (zAd T 7) :: st) := by
  obtain ⟨p, l, e, R, s, m, args, below, meth, cd, Q, nL, G, mk, A, cells, slots⟩ := T
  obtain ⟨hx, hb, hml, hown, hts, hE, hA, hR, hM⟩ := hC
  intro H locs ls hP hS hl
  refine va_aldq (D := G.1) (ws := zW G (mk σ)) (f := fun j => some (gA G (21 + 4 * j))) hx hb hE.1 hP 7 4 ?_ rfl hin d (kk H locs ls hP hS hl)
  rw [zW_at (by omega), zS_7]
theorem z_mmaxL {T : zX} {cc : ByteArray} {own : String} {fr lo cl ch : Nat} (hC : zOk T cc own fr lo cl ch) {σ : zSt} {pc : Nat} {lv : List (Nat × Value)} {st : List Value} {index : Nat} {x y : Int64} (hw : Cond.methodLink own index Lib.MathLoose.max_long.x ∈ zT) (h1 : 1 ≤ fr) (h2 : (st.map fun v => v.category).sum + 15 ≤ lo) (d : decode cc pc = .ok (.invokestatic index, 3)) (kk : Z T σ (pc + 3) lv (.long (if y < x then x else y) :: st)) : Z T σ pc lv (.long y :: .long x :: st) := by
  obtain ⟨p, l, e, R, s, m, args, below, meth, cd, Q, nL, G, mk, A, cells, slots⟩ := T
  obtain ⟨hx, hb, hml, hown, hts, hE, hA, hR, hM⟩ := hC
  intro H locs ls hP hS hl
  exact va_mmax_long hx hb (hml.trans hl.1.symm) hown (hts _ hw) (hts _ zm_mmaxL_s) (hts _ zm_ini) (hts _ zm_mmaxL_c) (by omega) (by omega) hR.2.2.1 hR.2.2.2 d (kk H locs ls hP hS hl)
theorem z_mminL {T : zX} {cc : ByteArray} {own : String} {fr lo cl ch : Nat} (hC : zOk T cc own fr lo cl ch) {σ : zSt} {pc : Nat} {lv : List (Nat × Value)} {st : List Value} {index : Nat} {x y : Int64} (hw : Cond.methodLink own index Lib.MathLoose.min_long.x ∈ zT) (h1 : 1 ≤ fr) (h2 : (st.map fun v => v.category).sum + 15 ≤ lo) (d : decode cc pc = .ok (.invokestatic index, 3)) (kk : Z T σ (pc + 3) lv (.long (if y < x then y else x) :: st)) : Z T σ pc lv (.long y :: .long x :: st) := by
  obtain ⟨p, l, e, R, s, m, args, below, meth, cd, Q, nL, G, mk, A, cells, slots⟩ := T
  obtain ⟨hx, hb, hml, hown, hts, hE, hA, hR, hM⟩ := hC
  intro H locs ls hP hS hl
  exact va_mmin_long hx hb (hml.trans hl.1.symm) hown (hts _ hw) (hts _ zm_mminL_s) (hts _ zm_ini) (hts _ zm_mminL_c) (by omega) (by omega) hR.2.2.1 hR.2.2.2 d (kk H locs ls hP hS hl)
theorem z_mabsL {T : zX} {cc : ByteArray} {own : String} {fr lo cl ch : Nat} (hC : zOk T cc own fr lo cl ch) {σ : zSt} {pc : Nat} {lv : List (Nat × Value)} {st : List Value} {index : Nat} {x  : Int64} (hw : Cond.methodLink own index Lib.MathLoose.abs_long.x ∈ zT) (h1 : 1 ≤ fr) (h2 : (st.map fun v => v.category).sum + 13 ≤ lo) (d : decode cc pc = .ok (.invokestatic index, 3)) (kk : Z T σ (pc + 3) lv (.long (if 0 < x then x else -x) :: st)) : Z T σ pc lv (.long x :: st) := by
  obtain ⟨p, l, e, R, s, m, args, below, meth, cd, Q, nL, G, mk, A, cells, slots⟩ := T
  obtain ⟨hx, hb, hml, hown, hts, hE, hA, hR, hM⟩ := hC
  intro H locs ls hP hS hl
  exact va_mabs_long hx hb (hml.trans hl.1.symm) hown (hts _ hw) (hts _ zm_mabsL_s) (hts _ zm_ini) (hts _ zm_mabsL_c) (by omega) (by omega) hR.2.2.1 hR.2.2.2 d (kk H locs ls hP hS hl)
theorem z_mmaxI {T : zX} {cc : ByteArray} {own : String} {fr lo cl ch : Nat} (hC : zOk T cc own fr lo cl ch) {σ : zSt} {pc : Nat} {lv : List (Nat × Value)} {st : List Value} {index : Nat} {x y : Int32} (hw : Cond.methodLink own index Lib.Math.max.name ∈ zT) (h1 : 1 ≤ fr) (h2 : (st.map fun v => v.category).sum + 13 ≤ lo) (d : decode cc pc = .ok (.invokestatic index, 3)) (kk : Z T σ (pc + 3) lv (.int (if x < y then y else x) :: st)) : Z T σ pc lv (.int y :: .int x :: st) := by
  obtain ⟨p, l, e, R, s, m, args, below, meth, cd, Q, nL, G, mk, A, cells, slots⟩ := T
  obtain ⟨hx, hb, hml, hown, hts, hE, hA, hR, hM⟩ := hC
  intro H locs ls hP hS hl
  exact va_mmax hx hb (hml.trans hl.1.symm) hown (hts _ hw) (hts _ zm_mmaxI_s) (hts _ zm_ini) (hts _ zm_mmaxI_c) (by omega) (by omega) hR.2.2.1 hR.2.2.2 d (kk H locs ls hP hS hl)
theorem z_mminI {T : zX} {cc : ByteArray} {own : String} {fr lo cl ch : Nat} (hC : zOk T cc own fr lo cl ch) {σ : zSt} {pc : Nat} {lv : List (Nat × Value)} {st : List Value} {index : Nat} {x y : Int32} (hw : Cond.methodLink own index Lib.Math.min.name ∈ zT) (h1 : 1 ≤ fr) (h2 : (st.map fun v => v.category).sum + 13 ≤ lo) (d : decode cc pc = .ok (.invokestatic index, 3)) (kk : Z T σ (pc + 3) lv (.int (if y < x then y else x) :: st)) : Z T σ pc lv (.int y :: .int x :: st) := by
  obtain ⟨p, l, e, R, s, m, args, below, meth, cd, Q, nL, G, mk, A, cells, slots⟩ := T
  obtain ⟨hx, hb, hml, hown, hts, hE, hA, hR, hM⟩ := hC
  intro H locs ls hP hS hl
  exact va_mmin hx hb (hml.trans hl.1.symm) hown (hts _ hw) (hts _ zm_mminI_s) (hts _ zm_ini) (hts _ zm_mminI_c) (by omega) (by omega) hR.2.2.1 hR.2.2.2 d (kk H locs ls hP hS hl)
