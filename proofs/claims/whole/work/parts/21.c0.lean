theorem kn_obj : Cond.instanceMethod Lib.objectInit ∈ zT := zT_1 22 (by decide +kernel) rfl
theorem kx_obj : Cond.code Lib.objectInit ⟨#[0xb1]⟩ 1 none ∈ zT := zT_1 23 (by decide +kernel) rfl
/-! constructors: the world is a list that grows -/
def zNestC : List Cond := [.methodLinkNest RX8 9 yX3_init "ShutBench", .methodLinkNest RX3 11 yX6_init "ShutBench", .methodLinkNest RX3 20 yX0_init "ShutBench", .methodLinkNest RX1 17 yX0_init "ShutBench", .methodLinkNest RX8 25 yX2_init "ShutBench", .methodLinkNest RX8 32 yX7_init "ShutBench"]
def zNestM (w : Cond) : Prop := ∃ (a : String) (i : Nat) (x : MethodName) (h : String), w = .methodLinkNest a i x h
theorem zNestC_ok : ∀ w ∈ zNestC, zNestM w := by
  intro w h
  simp only [zNestC, List.mem_cons, List.not_mem_nil, or_false] at h
  rcases h with rfl | rfl | rfl | rfl | rfl | rfl <;> exact ⟨_, _, _, _, rfl⟩
def zEnvC (G : zGt) (U : State) : Prop := va_K G.1 vwCl (gTys G) U ∧ (∀ w ∈ zNestC, va_Nw w U) ∧ va_AO "ShutBench$Curve" U
theorem zEnvC.warm {G : zGt} {s U : State} (h : zEnvC G s) (hW : s.WarmedH U.vm) : zEnvC G U := by
  refine ⟨va_K.moved hW.alike h.1, fun w hw => ?_, h.2.2.moved hW.alike⟩
  obtain ⟨a, i, x, y, rfl⟩ := zNestC_ok w hw
  exact va_Nw.warmM hW (h.2.1 _ hw)
theorem zEnvC.blind {G : zGt} {U : State} {g : JFrame} {mk : MethodId} {a : Array Value} (h : zEnvC G U) : zEnvC G (U.calling g mk a) := by
  refine ⟨va_K.moved (u := U) (U := U.calling g mk a) (Vm.Alike.refl U.vm) h.1, fun w hw => ?_, va_AO.moved (u := U) (U := U.calling g mk a) (Vm.Alike.refl U.vm) h.2.2⟩
  obtain ⟨q, i, x, y, rfl⟩ := zNestC_ok w hw
  exact va_Nw.same (u := U) (U := U.calling g mk a) rfl rfl (h.2.1 _ hw)
def zOkC (T : zX) (cc : ByteArray) (own : String) (fr lo mc ms : Nat) : Prop := match T with
  | (p, _, _, R, s, m, args, _, _, c, _, nL, G, _, A, _, _) => p.tables.exec = Jvm.exec ∧ c.code = cc ∧ c.maxLocals = nL ∧ s.vm.findClass own = some m.cls ∧ (∀ w ∈ zT, w.before args s = true) ∧ zEnvC G s ∧ (∀ q, s.heap.size ≤ q → A q) ∧ (fr ≤ R.frames ∧ lo ≤ R.locals ∧ mc ≤ R.cells ∧ ms ≤ R.slots)
def ZC (T : zX) (ws : va_W) (k n : Nat) (pc : Nat) (lv : List (Nat × Value)) (st : List Value) : Prop := match T with
  | (p, l, e, R, s, m, args, below, meth, c, Q, nL, G, _, A, _, _) => ∀ (H : Heap) (locs : List Loc) (ls : Array Slot), va_P G.1 vwCl ws H → va_D A ws → va_S A s.heap H locs → lv_has ls nL lv → W p l e R s m args below meth c H locs k n Q (F0 m pc ls st)
def zIni (T : zX) : Prop := T.2.2.2.2.2.2.2.2.1.name = "<init>"
def zQC (G : zGt) (e0 : va_E) (post : Nat → va_W → Prop) (h0 sz : Nat) : Array Value → State → Outcome → State → Prop := fun _ st o t => o = .returned none ∧ (∃ ws, post h0 ws ∧ va_P G.1 vwCl ws t.heap ∧ va_D (va_A [(h0, e0)] sz) ws) ∧ va_F (va_A [(h0, e0)] sz) st t
def zResC (T : zX) (e0 : va_E) (h0 mc ms : Nat) (post : Nat → va_W → Prop) : Prop := match T with
  | (_, _, _, _, s, _, args, below, meth, _, Q, _, G, _, A, _, _) => A = va_A [(h0, e0)] s.heap.size ∧ Q = MQ below (zQC G e0 post h0 s.heap.size) args s mc ms A ∧ meth.sig.returnType = none ∧ meth.locks = false
def zCtor (l : Launch) (G : zGt) (y : MethodName) (cc : ByteArray) (ml fr lo mc ms : Nat) (e0 : va_E) (post : Nat → va_W → Prop) : Prop := ∀ (h0 sz : Nat), Met l y (.code y cc ml none :: zT) { frames := fr, cells := mc, slots := ms, locals := lo } (va_Pc [.ref h0] (fun U => U.heap.size = sz ∧ va_P G.1 vwCl [(h0, e0)] U.heap ∧ va_D (fun _ => True) [(h0, e0)] ∧ zEnvC G U)) (zQC G e0 post h0 sz) mc ms (va_A [(h0, e0)] sz)
theorem zCtor.of {l : Launch} {G : zGt} {y : MethodName} {cc : ByteArray} {ml fr lo mc ms : Nat} {e0 : va_E} {post : Nat → va_W → Prop} (hy : plainFor y = true) (hi : y.name = "<init>") (hml : 1 ≤ ml)
    (body : ∀ (T : zX) (h0 : Nat), zL T = l → zGr T = G → zNL T = ml → zIni T → zOkC T cc y.cls fr lo mc ms → zResC T e0 h0 mc ms post → ZC T [(h0, e0)] 0 0 0 [(0, .ref h0)] []) : zCtor l G y cc ml fr lo mc ms e0 post := by
  intro h0 sz
  refine zMet.ofF (cc := cc) (maxL := ml) (ret := none) hy rfl ?_
  intro p e s m args below meth c s₁ B hml2 hv
  obtain ⟨rfl, hsz, hP, hD, hE⟩ := hv
  subst hsz
  have hts := atoms_spec (ws := .code y cc ml none :: zT) B.pre
  have hown : s.vm.findClass y.cls = some m.cls := findClass_of_methodNamed B.named
  have hin : meth.name = y.name := (name_of_methodNamed B.named B.method).1
  have hl := lv_entry [.ref h0] (n := ml) hml
  rw [lg_entry_eq]
  generalize (lg_sl [.ref h0] ++ List.replicate (ml - (lg_sl [.ref h0]).length) Slot.unset).toArray = ls at hl ⊢
  exact body (p, l, e, _, s, m, #[.ref h0], below, meth, c, _, ml, G, id, va_A [(h0, e0)] s.heap.size, 0, 0) h0 rfl rfl rfl (hin.trans hi) ⟨B.exec, B.bytes, hml2, hown, fun w h => hts w (List.mem_cons_of_mem _ h), hE, fun q h => Or.inr h, ⟨Nat.le_refl _, Nat.le_refl _, Nat.le_refl _, Nat.le_refl _⟩⟩ ⟨rfl, rfl, B.returns, B.notSynchronized⟩ s.heap [] ls hP hD.self va_S.rf hl
theorem zc_aload_n {T : zX} {cc : ByteArray} {own : String} {fr lo mc ms : Nat} (hC : zOkC T cc own fr lo mc ms) {ws : va_W} {k n pc : Nat} {lv : List (Nat × Value)} {st : List Value} {f : Fin 4} {i : Nat} {x : Nat} (q : Nat) (hi : (f : Nat) = i) (hk : lv[q]? = some (i, .ref x)) (d : decode cc pc = .ok (.aload_n f, 1)) (kk : ZC T ws k n (pc + 1) lv (.ref x :: st)) : ZC T ws k n pc lv (st) := by
  obtain ⟨p, l, e, R, s, m, args, below, meth, cd, Q, nL, G, mk, A, cells, slots⟩ := T
  obtain ⟨hx, hb, hml, hown, hts, hE, hA, hR⟩ := hC
  intro H locs ls hP hD hS hl
  exact lv_aload_n hx hb d hi (lv_at hl q hk) (kk H locs ls hP hD hS hl)
theorem zc_iload_n {T : zX} {cc : ByteArray} {own : String} {fr lo mc ms : Nat} (hC : zOkC T cc own fr lo mc ms) {ws : va_W} {k n pc : Nat} {lv : List (Nat × Value)} {st : List Value} {f : Fin 4} {i : Nat} {x : Int32} (q : Nat) (hi : (f : Nat) = i) (hk : lv[q]? = some (i, .int x)) (d : decode cc pc = .ok (.iload_n f, 1)) (kk : ZC T ws k n (pc + 1) lv (.int x :: st)) : ZC T ws k n pc lv (st) := by
  obtain ⟨p, l, e, R, s, m, args, below, meth, cd, Q, nL, G, mk, A, cells, slots⟩ := T
  obtain ⟨hx, hb, hml, hown, hts, hE, hA, hR⟩ := hC
  intro H locs ls hP hD hS hl
  exact lv_iload_n hx hb d hi (lv_at hl q hk) (kk H locs ls hP hD hS hl)
theorem zc_dup {T : zX} {cc : ByteArray} {own : String} {fr lo mc ms : Nat} (hC : zOkC T cc own fr lo mc ms) {ws : va_W} {k n pc : Nat} {lv : List (Nat × Value)} {st : List Value} {v : Value} (hv : v.category = 1) (d : decode cc pc = .ok (.dup, 1)) (kk : ZC T ws k n (pc + 1) lv (v :: v :: st)) : ZC T ws k n pc lv (v :: st) := by
  obtain ⟨p, l, e, R, s, m, args, below, meth, cd, Q, nL, G, mk, A, cells, slots⟩ := T
  obtain ⟨hx, hb, hml, hown, hts, hE, hA, hR⟩ := hC
  intro H locs ls hP hD hS hl
  exact lv_dup hx hb d hv (kk H locs ls hP hD hS hl)
theorem zc_iconst {T : zX} {cc : ByteArray} {own : String} {fr lo mc ms : Nat} (hC : zOkC T cc own fr lo mc ms) {ws : va_W} {k n pc : Nat} {lv : List (Nat × Value)} {st : List Value} {z : Int} (v : Int32) (hv : Int32.ofInt z = v) (d : decode cc pc = .ok (.iconst z, 1)) (kk : ZC T ws k n (pc + 1) lv (.int v :: st)) : ZC T ws k n pc lv (st) := by
  obtain ⟨p, l, e, R, s, m, args, below, meth, cd, Q, nL, G, mk, A, cells, slots⟩ := T
  obtain ⟨hx, hb, hml, hown, hts, hE, hA, hR⟩ := hC
  intro H locs ls hP hD hS hl
  exact lv_iconst hx hb d hv (kk H locs ls hP hD hS hl)
theorem zc_bipush {T : zX} {cc : ByteArray} {own : String} {fr lo mc ms : Nat} (hC : zOkC T cc own fr lo mc ms) {ws : va_W} {k n pc : Nat} {lv : List (Nat × Value)} {st : List Value} {z : Int} (v : Int32) (hv : (Int8.ofInt z).toInt32 = v) (d : decode cc pc = .ok (.bipush z, 2)) (kk : ZC T ws k n (pc + 2) lv (.int v :: st)) : ZC T ws k n pc lv (st) := by
  obtain ⟨p, l, e, R, s, m, args, below, meth, cd, Q, nL, G, mk, A, cells, slots⟩ := T
  obtain ⟨hx, hb, hml, hown, hts, hE, hA, hR⟩ := hC
  intro H locs ls hP hD hS hl
  exact lv_bipush hx hb d hv (kk H locs ls hP hD hS hl)
theorem zc_sipush {T : zX} {cc : ByteArray} {own : String} {fr lo mc ms : Nat} (hC : zOkC T cc own fr lo mc ms) {ws : va_W} {k n pc : Nat} {lv : List (Nat × Value)} {st : List Value} {z : Int} (v : Int32) (hv : (Int16.ofInt z).toInt32 = v) (d : decode cc pc = .ok (.sipush z, 3)) (kk : ZC T ws k n (pc + 3) lv (.int v :: st)) : ZC T ws k n pc lv (st) := by
  obtain ⟨p, l, e, R, s, m, args, below, meth, cd, Q, nL, G, mk, A, cells, slots⟩ := T
  obtain ⟨hx, hb, hml, hown, hts, hE, hA, hR⟩ := hC
  intro H locs ls hP hD hS hl
  exact lv_sipush hx hb d hv (kk H locs ls hP hD hS hl)
theorem zc_ldc2 {T : zX} {cc : ByteArray} {own : String} {fr lo mc ms : Nat} (hC : zOkC T cc own fr lo mc ms) {ws : va_W} {k n pc : Nat} {lv : List (Nat × Value)} {st : List Value} {index : Nat} {v : Int64} (hw : Cond.constantLong own index v ∈ zT) (d : decode cc pc = .ok (.ldc2_w index, 3)) (kk : ZC T ws k n (pc + 3) lv (.long v :: st)) : ZC T ws k n pc lv (st) := by
  obtain ⟨p, l, e, R, s, m, args, below, meth, cd, Q, nL, G, mk, A, cells, slots⟩ := T
  obtain ⟨hx, hb, hml, hown, hts, hE, hA, hR⟩ := hC
  intro H locs ls hP hD hS hl
  exact lv_ldc2 hx hb hown (hts _ hw) d (kk H locs ls hP hD hS hl)
theorem zc_istore_n {T : zX} {cc : ByteArray} {own : String} {fr lo mc ms : Nat} (hC : zOkC T cc own fr lo mc ms) {ws : va_W} {k n pc : Nat} {lv : List (Nat × Value)} {st : List Value} {f : Fin 4} {i : Nat} {x : Int32} (lv2 : List (Nat × Value)) (hi : (f : Nat) = i) (hn : i < zNL T) (hv : (i, .int x) :: lv.filter (fun q => !(q.1 == i) && !(q.1 + 1 == i && q.2.category == 2)) = lv2) (d : decode cc pc = .ok (.istore_n f, 1)) (kk : ZC T ws k n (pc + 1) lv2 st) : ZC T ws k n pc lv (.int x :: st) := by
  obtain ⟨p, l, e, R, s, m, args, below, meth, cd, Q, nL, G, mk, A, cells, slots⟩ := T
  obtain ⟨hx, hb, hml, hown, hts, hE, hA, hR⟩ := hC
  intro H locs ls hP hD hS hl
  exact lv_istore_n hx hb d hi hl hn hv (fun ls2 hl2 => kk H locs ls2 hP hD hS hl2)
theorem zc_astore_n {T : zX} {cc : ByteArray} {own : String} {fr lo mc ms : Nat} (hC : zOkC T cc own fr lo mc ms) {ws : va_W} {k n pc : Nat} {lv : List (Nat × Value)} {st : List Value} {f : Fin 4} {i : Nat} {x : Nat} (lv2 : List (Nat × Value)) (hi : (f : Nat) = i) (hn : i < zNL T) (hv : (i, .ref x) :: lv.filter (fun q => !(q.1 == i) && !(q.1 + 1 == i && q.2.category == 2)) = lv2) (d : decode cc pc = .ok (.astore_n f, 1)) (kk : ZC T ws k n (pc + 1) lv2 st) : ZC T ws k n pc lv (.ref x :: st) := by
  obtain ⟨p, l, e, R, s, m, args, below, meth, cd, Q, nL, G, mk, A, cells, slots⟩ := T
  obtain ⟨hx, hb, hml, hown, hts, hE, hA, hR⟩ := hC
  intro H locs ls hP hD hS hl
  exact lv_astore_n hx hb d hi hl hn hv (fun ls2 hl2 => kk H locs ls2 hP hD hS hl2)
theorem zc_iinc {T : zX} {cc : ByteArray} {own : String} {fr lo mc ms : Nat} (hC : zOkC T cc own fr lo mc ms) {ws : va_W} {k n pc : Nat} {lv : List (Nat × Value)} {st : List Value} {i : Nat} {z : Int} {x : Int32} (v : Int32) (lv2 : List (Nat × Value)) (q : Nat) (hk : lv[q]? = some (i, .int x)) (hw : x + Int32.ofInt z = v) (hn : i < zNL T) (hv : (i, .int v) :: lv.filter (fun q => !(q.1 == i) && !(q.1 + 1 == i && q.2.category == 2)) = lv2) (d : decode cc pc = .ok (.iinc i z, 3)) (kk : ZC T ws k n (pc + 3) lv2 st) : ZC T ws k n pc lv st := by
  obtain ⟨p, l, e, R, s, m, args, below, meth, cd, Q, nL, G, mk, A, cells, slots⟩ := T
  obtain ⟨hx, hb, hml, hown, hts, hE, hA, hR⟩ := hC
  intro H locs ls hP hD hS hl
  exact lv_iinc hx hb d hl hk hw hn hv (fun ls2 hl2 => kk H locs ls2 hP hD hS hl2)
theorem zc_goto {T : zX} {cc : ByteArray} {own : String} {fr lo mc ms : Nat} (hC : zOkC T cc own fr lo mc ms) {ws : va_W} {k n pc : Nat} {lv : List (Nat × Value)} {st : List Value} {off : Int} (tgt : Nat) (ht : (pc : Int) + off = (tgt : Int)) (d : decode cc pc = .ok (.goto off, 3)) (kk : ZC T ws k n tgt lv st) : ZC T ws k n pc lv st := by
  obtain ⟨p, l, e, R, s, m, args, below, meth, cd, Q, nL, G, mk, A, cells, slots⟩ := T
  obtain ⟨hx, hb, hml, hown, hts, hE, hA, hR⟩ := hC
  intro H locs ls hP hD hS hl
  exact lv_goto hx hb d ht (kk H locs ls hP hD hS hl)
theorem zc_icmp_ge {T : zX} {cc : ByteArray} {own : String} {fr lo mc ms : Nat} (hC : zOkC T cc own fr lo mc ms) {ws : va_W} {k n pc : Nat} {lv : List (Nat × Value)} {st : List Value} {x y : Int32} {off : Int} (tgt : Nat) (ht : (pc : Int) + off = (tgt : Int)) (d : decode cc pc = .ok (.if_icmp .ge off, 3)) (kt : y ≤ x → ZC T ws k n tgt lv st) (kf : ¬ y ≤ x → ZC T ws k n (pc + 3) lv st) : ZC T ws k n pc lv (.int y :: .int x :: st) := by
  obtain ⟨p, l, e, R, s, m, args, below, meth, cd, Q, nL, G, mk, A, cells, slots⟩ := T
  obtain ⟨hx, hb, hml, hown, hts, hE, hA, hR⟩ := hC
  intro H locs ls hP hD hS hl
  exact lv_icmp_ge hx hb d ht (fun q => kt q H locs ls hP hD hS hl) (fun q => kf q H locs ls hP hD hS hl)
theorem zc_objInit {T : zX} {cc : ByteArray} {own : String} {fr lo mc ms : Nat} (hC : zOkC T cc own fr lo mc ms) {ws : va_W} {k n pc : Nat} {lv : List (Nat × Value)} {st : List Value} {idx a : Nat} (hw : Cond.methodLink own idx Lib.objectInit ∈ zT) (h1 : 1 ≤ fr ∧ 20 ≤ lo) (hst : (st.map fun v => v.category).sum ≤ 8) (d : decode cc pc = .ok (.invokespecial idx, 3)) (kk : ZC T ws k n (pc + 3) lv st) : ZC T ws k n pc lv (.ref a :: st) := by
  obtain ⟨p, l, e, R, s, m, args, below, meth, cd, Q, nL, G, mk, A, cells, slots⟩ := T
  obtain ⟨hx, hb, hml, hown, hts, hE, hA, hR⟩ := hC
  intro H locs ls hP hD hS hl
  exact W.objInit hx hb hown (hts _ hw) (hts _ kn_obj) (hts _ kx_obj) rfl (by rw [hml]; exact hl.1) rfl d (by omega) (by show 2 * 0 + _ + 12 ≤ _; omega) (kk H locs ls hP hD hS hl)
theorem zc_new {T : zX} {cc : ByteArray} {own : String} {fr lo mc ms : Nat} (hC : zOkC T cc own fr lo mc ms) {ws : va_W} {k n pc : Nat} {lv : List (Nat × Value)} {st : List Value} {index ci N : Nat} {C : String} {TT : u_T} (fs : List Value) (hin : ∀ w ∈ u_ws C TT N, w ∈ zT) (ty : Nat → FieldType) (hty : ∀ k, k < N → parseFieldDescriptor (TT k).2.2.1 = some (ty k)) (h1 : Cond.classLink own index C ∈ zT) (h2 : Cond.instantiable C N ∈ zT) (h3 : Cond.initialized C ∈ zT) (hc : vwCl[ci]? = some (C, TT, N)) (hfs : ∀ j, j < N → defaultValue (ty j) = vp_V fs j) (hk : k + 1 ≤ mc ∧ n + N ≤ ms) (d : decode cc pc = .ok (.new index, 3)) (kk : ∀ q : Nat, ZC T (ws ++ [(q, .inr (ci, fs))]) (k + 1) (n + N) (pc + 3) lv (.ref q :: st)) : ZC T ws k n pc lv st := by
  obtain ⟨p, l, e, R, s, m, args, below, meth, cd, Q, nL, G, mk, A, cells, slots⟩ := T
  obtain ⟨hx, hb, hml, hown, hts, hE, hA, hR⟩ := hC
  intro H locs ls hP hD hS hl
  exact va_new hx hb hts hin ty hty hown (hts _ h1) (hts _ h2) (hts _ h3) hE.1 hP hD hS hA hc hfs (by omega) (by omega) d (fun q H1 hP1 hD1 hS1 => kk q H1 locs ls hP1 hD1 hS1 hl)
theorem zc_newa {T : zX} {cc : ByteArray} {own : String} {fr lo mc ms : Nat} (hC : zOkC T cc own fr lo mc ms) {ws : va_W} {k n pc : Nat} {lv : List (Nat × Value)} {st : List Value} {at2 : ArrayType} {ty : FieldType} {z : Int32} (N ti : Nat) {a0 : vp_A} (harr : Cond.arrayClass (newarray.typeOf at2) ∈ zT) (hty : newarray.typeOf at2 = ty) (hob : ∀ C, ty ≠ .object C) (hti : (gTys (zGr T))[ti]? = some (gC (zGr T) ti, ty)) (ha : ∀ cA : ClassId, vp_cell cA a0 = arrV cA N (fun _ => defaultValue ty)) (hn : ¬ z < 0) (hN : z.toNatClampNeg = N) (hbytes : N * componentBytes ty ≤ 536870912) (hk : k + 1 ≤ mc ∧ n + N ≤ ms) (d : decode cc pc = .ok (.newarray at2, 2)) (kk : ∀ q : Nat, ZC T (ws ++ [(q, .inl (gC (zGr T) ti, a0))]) (k + 1) (n + N) (pc + 2) lv (.ref q :: st)) : ZC T ws k n pc lv (.int z :: st) := by
  obtain ⟨p, l, e, R, s, m, args, below, meth, cd, Q, nL, G, mk, A, cells, slots⟩ := T
  obtain ⟨hx, hb, hml, hown, hts, hE, hA, hR⟩ := hC
  intro H locs ls hP hD hS hl
  refine va_newa hx hb (hts _ harr) hty hE.1 hP hD hS hA ha hn hN hbytes (by omega) (by omega) d (fun q cA H1 hK1 hP1 hD1 hS1 => ?_)
  have e : cA = gC G ti := by
    have h1 := (hK1.2 5 (cA, ty) rfl).2
    have h2 := (hE.1.2 ti _ hti).2
    cases ty with
    | object C => exact absurd rfl (hob C)
    | _ => exact Option.some.inj (h1.symm.trans h2)
  subst e
  exact kk q H1 locs ls hP1 hD1 hS1 hl
theorem zc_newq {T : zX} {cc : ByteArray} {own : String} {fr lo mc ms : Nat} (hC : zOkC T cc own fr lo mc ms) {ws : va_W} {k n pc : Nat} {lv : List (Nat × Value)} {st : List Value} {index : Nat} {z : Int32} (N : Nat) (h1 : Cond.classLink own index "ShutBench$Curve" ∈ zT) (hn : ¬ z < 0) (hN : z.toNatClampNeg = N) (hbytes : N * 4 ≤ 536870912) (hk : k + 1 ≤ mc ∧ n + N ≤ ms) (d : decode cc pc = .ok (.anewarray index, 3)) (kk : ∀ q : Nat, ZC T (ws ++ [(q, .inl (gC (zGr T) 4, N, .inr (.inr (.inr (.inr (fun _ => none))))))]) (k + 1) (n + N) (pc + 3) lv (.ref q :: st)) : ZC T ws k n pc lv (.int z :: st) := by
  obtain ⟨p, l, e, R, s, m, args, below, meth, cd, Q, nL, G, mk, A, cells, slots⟩ := T
  obtain ⟨hx, hb, hml, hown, hts, hE, hA, hR⟩ := hC
  intro H locs ls hP hD hS hl
  refine va_newq hx hb hown (hts _ h1) hE.2.2 hE.1 hP hD hS hA hn hN hbytes (by omega) (by omega) d (fun q cA H1 hK1 hP1 hD1 hS1 => ?_)
  have e : cA = gC G 4 := by
    obtain ⟨-, kA, comp, -, -, -, h1⟩ := hK1.2 5 (cA, .object "ShutBench$Curve") rfl
    obtain ⟨-, kB, comp2, -, -, -, h2⟩ := hE.1.2 4 _ rfl
    exact Option.some.inj (h1.symm.trans h2)
  subst e
  exact kk q H1 locs ls hP1 hD1 hS1 hl
theorem zc_astq {T : zX} {cc : ByteArray} {own : String} {fr lo mc ms : Nat} (hC : zOkC T cc own fr lo mc ms) {ws : va_W} {k n pc : Nat} {lv : List (Nat × Value)} {st : List Value} {i : Int32} {a v N : Nat} {vs : List Value} {f : Nat → Option Nat} (q0 qk : Nat) (ws2 : va_W) (ha : ws[q0]? = some (a, .inl (gC (zGr T) 4, N, .inr (.inr (.inr (.inr f)))))) (hv : ws[qk]? = some (v, .inr (0, vs))) (hin : vp_in i N) (hw2 : ws.set q0 (a, .inl (gC (zGr T) 4, N, .inr (.inr (.inr (.inr (va_up f i.toNatClampNeg (some v))))))) = ws2) (d : decode cc pc = .ok (.aastore, 1)) (kk : ZC T ws2 k n (pc + 1) lv st) : ZC T ws k n pc lv (.ref v :: .int i :: .ref a :: st) := by
  obtain ⟨p, l, e, R, s, m, args, below, meth, cd, Q, nL, G, mk, A, cells, slots⟩ := T
  obtain ⟨hx, hb, hml, hown, hts, hE, hA, hR⟩ := hC
  intro H locs ls hP hD hS hl
  subst hw2
  exact va_astq (r := (RX0, TX0, 7)) hx hb hE.1 hP hD hS q0 4 qk 0 ha rfl hv rfl hin d (fun H1 locs1 hP1 hD1 hS1 => kk H1 locs1 ls hP1 hD1 hS1 hl)
theorem zc_get {T : zX} {cc : ByteArray} {own : String} {fr lo mc ms : Nat} (hC : zOkC T cc own fr lo mc ms) {ws : va_W} {k n pc : Nat} {lv : List (Nat × Value)} {st : List Value} {ref C : String} {N ci index a : Nat} {TT : u_T} {fs : List Value} (q0 j : Nat) (he : ws[q0]? = some (a, .inr (ci, fs))) (hcl : vwCl[ci]? = some (C, TT, N)) (hin : ∀ w ∈ u_ws C TT N, w ∈ zT) (hk : j < N) (hr : (TT j).1 = ref) (hw : Cond.fieldLink own index ref (TT j).2.1 (TT j).2.2.1 ∈ zT) (v : Value) (hv : fs[j]? = some v) (d : decode cc pc = .ok (.getfield index, 3)) (kk : ZC T ws k n (pc + 3) lv (v :: st)) : ZC T ws k n pc lv (.ref a :: st) := by
  obtain ⟨p, l, e, R, s, m, args, below, meth, cd, Q, nL, G, mk, A, cells, slots⟩ := T
  obtain ⟨hx, hb, hml, hown, hts, hE, hA, hR⟩ := hC
  intro H locs ls hP hD hS hl
  exact va_get (C := C) (T := TT) (N := N) (ref := ref) hx hb hts hin hown hE.1 hP q0 he hcl j hk (hts _ hw) (fun x hx => by rw [← hr]; exact hx) hv d (kk H locs ls hP hD hS hl)
theorem zc_putF {T : zX} {cc : ByteArray} {own : String} {fr lo mc ms : Nat} (hC : zOkC T cc own fr lo mc ms) {ws : va_W} {k n pc : Nat} {lv : List (Nat × Value)} {st : List Value} (hI : zIni T) {C : String} {N ci index a : Nat} {TT : u_T} {fs : List Value} {v : Value} (q0 j : Nat) (ws2 : va_W) (he : ws[q0]? = some (a, .inr (ci, fs))) (hcl : vwCl[ci]? = some (C, TT, N)) (hin : ∀ w ∈ u_ws C TT N, w ∈ zT) (ty0 : Nat → FieldType) (hty : ∀ k, k < N → parseFieldDescriptor (TT k).2.2.1 = some (ty0 k)) (hnm : ∀ a, a < N → ∀ b, b < N → a ≠ b → (TT a).2.1 ≠ (TT b).2.1) (hk : j < N) (hr : (TT j).1 = own) (hw : Cond.fieldLink own index own (TT j).2.1 (TT j).2.2.1 ∈ zT) (hfin : (TT j).2.2.2 = true) {ty : FieldType} (hd : parseFieldDescriptor (TT j).2.2.1 = some ty) (hn : narrow ty v = v) (hfit : fits ty v = true) (hlen : j < fs.length) (hw2 : ws.set q0 (a, .inr (ci, fs.set j v)) = ws2) (d : decode cc pc = .ok (.putfield index, 3)) (kk : ZC T ws2 k n (pc + 3) lv st) : ZC T ws k n pc lv (v :: .ref a :: st) := by
  obtain ⟨p, l, e, R, s, m, args, below, meth, cd, Q, nL, G, mk, A, cells, slots⟩ := T
  obtain ⟨hx, hb, hml, hown, hts, hE, hA, hR⟩ := hC
  intro H locs ls hP hD hS hl
  subst hw2
  exact va_putF (C := C) (T := TT) (N := N) (ref := own) hx hb hts hin ty0 hty hnm hown hE.1 hP hD hS q0 he hcl j hk (hts _ hw) (fun x hx => by rw [← hr]; exact hx) hfin hI hr hd hn hfit hlen d (fun H1 locs1 hP1 hD1 hS1 => kk H1 locs1 ls hP1 hD1 hS1 hl)
theorem zc_put {T : zX} {cc : ByteArray} {own : String} {fr lo mc ms : Nat} (hC : zOkC T cc own fr lo mc ms) {ws : va_W} {k n pc : Nat} {lv : List (Nat × Value)} {st : List Value} {C : String} {N ci index a : Nat} {TT : u_T} {fs : List Value} {v : Value} (q0 j : Nat) (ws2 : va_W) (he : ws[q0]? = some (a, .inr (ci, fs))) (hcl : vwCl[ci]? = some (C, TT, N)) (hin : ∀ w ∈ u_ws C TT N, w ∈ zT) (ty0 : Nat → FieldType) (hty : ∀ k, k < N → parseFieldDescriptor (TT k).2.2.1 = some (ty0 k)) (hnm : ∀ a, a < N → ∀ b, b < N → a ≠ b → (TT a).2.1 ≠ (TT b).2.1) (hk : j < N) (hr : (TT j).1 = own) (hw : Cond.fieldLink own index own (TT j).2.1 (TT j).2.2.1 ∈ zT) (hfin : (TT j).2.2.2 = false) {ty : FieldType} (hd : parseFieldDescriptor (TT j).2.2.1 = some ty) (hn : narrow ty v = v) (hfit : fits ty v = true) (hlen : j < fs.length) (hw2 : ws.set q0 (a, .inr (ci, fs.set j v)) = ws2) (d : decode cc pc = .ok (.putfield index, 3)) (kk : ZC T ws2 k n (pc + 3) lv st) : ZC T ws k n pc lv (v :: .ref a :: st) := by
  obtain ⟨p, l, e, R, s, m, args, below, meth, cd, Q, nL, G, mk, A, cells, slots⟩ := T
  obtain ⟨hx, hb, hml, hown, hts, hE, hA, hR⟩ := hC
  intro H locs ls hP hD hS hl
  subst hw2
  exact va_put (C := C) (T := TT) (N := N) (ref := own) hx hb hts hin ty0 hty hnm hown hE.1 hP hD hS q0 he hcl j hk (hts _ hw) (fun x hx => by rw [← hr]; exact hx) hfin hd hn hfit hlen d (fun H1 locs1 hP1 hD1 hS1 => kk H1 locs1 ls hP1 hD1 hS1 hl)
theorem zc_ws {T : zX} {ws : va_W} {k n pc : Nat} {lv : List (Nat × Value)} {st : List Value} (ws2 : va_W) (k2 n2 : Nat) (hw : ws = ws2) (hk : k = k2) (hn : n = n2) (kk : ZC T ws2 k2 n2 pc lv st) : ZC T ws k n pc lv st := by subst hw; subst hk; subst hn; exact kk
theorem zc_sub {T : zX} {ws : va_W} {k n pc : Nat} {lv : List (Nat × Value)} {st : List Value} (lv2 : List (Nat × Value)) (ks : List Nat) (hl2 : lv_pick lv ks = lv2) (kk : ZC T ws k n pc lv2 st) : ZC T ws k n pc lv st := by
  obtain ⟨p, l, e, R, s, m, args, below, meth, cd, Q, nL, G, mk, A, cells, slots⟩ := T
  intro H locs ls hP hD hS hl
  exact kk H locs ls hP hD hS (lv_sub hl ks hl2)
theorem zc_vret {T : zX} {cc : ByteArray} {own : String} {fr lo mc ms : Nat} (hC : zOkC T cc own fr lo mc ms) {e0 : va_E} {h0 : Nat} {post : Nat → va_W → Prop} {ws : va_W} {pc : Nat} {lv : List (Nat × Value)} (hQ : zResC T e0 h0 mc ms post) (hp : post h0 ws) (d : decode cc pc = .ok (.return_, 1)) : ZC T ws mc ms pc lv [] := by
  obtain ⟨p, l, e, R, s, m, args, below, meth, cd, Q, nL, G, mk, A, cells, slots⟩ := T
  obtain ⟨hx, hb, hml, hown, hts, hE, hA, hR⟩ := hC
  obtain ⟨hA2, rfl, hr, hlk⟩ := hQ
  intro H locs ls hP hD hS hl
  subst hA2
  exact W.vret hx hb hr (fun t ht hW => ⟨rfl, ⟨ws, hp, by rw [ht]; exact hP, hD⟩, hS.F ht⟩) hS.2.2 d hlk
theorem zc_join {G : zGt} {A : Nat → Prop} {wr w1 : va_W} {q : Nat} {e0 : va_E} {H H1 : Heap} (hP : va_P G.1 vwCl (wr ++ [(q, e0)]) H) (hD : va_D A (wr ++ [(q, e0)])) (hk : ∀ x : Nat, x < H.size → ¬ va_A [(q, e0)] H.size x → H1[x]? = H[x]?) (hF : ∀ x, va_A [(q, e0)] H.size x → A x) (hP1 : va_P G.1 vwCl w1 H1) (hD1 : va_D (va_A [(q, e0)] H.size) w1) : va_P G.1 vwCl (wr ++ w1) H1 ∧ va_D A (wr ++ w1) := by
  have apart : ∀ (k : Nat) (x : Nat × va_E), wr[k]? = some x → x.1 < H.size ∧ ¬ va_A [(q, e0)] H.size x.1 := by
    intro k x hx
    have hkl : k < wr.length := (List.getElem?_eq_some_iff.mp hx).1
    have hx2 : (wr ++ [(q, e0)])[k]? = some x := by rw [List.getElem?_append_left hkl]; exact hx
    have hl := (hP k x hx2).lt
    refine ⟨hl, fun h => ?_⟩
    rcases h with ⟨k2, e2, h⟩ | h
    · have h3 : k2 = 0 ∧ x.1 = q := by
        cases k2 with
        | zero => simp at h; exact ⟨rfl, h.1.symm⟩
        | succ k2 => simp at h
      have h4 : (wr ++ [(q, e0)])[wr.length]? = some (q, e0) := by rw [List.getElem?_append_right (Nat.le_refl _), Nat.sub_self]; rfl
      have h5 := hD.1 k wr.length x (q, e0) hx2 h4 h3.2
      omega
    · omega
  have hDr : va_D A wr := by
    refine ⟨fun i j x y hi hj hxy => ?_, fun k x hx => ?_⟩
    · exact hD.1 i j x y (by rw [List.getElem?_append_left (List.getElem?_eq_some_iff.mp hi).1]; exact hi) (by rw [List.getElem?_append_left (List.getElem?_eq_some_iff.mp hj).1]; exact hj) hxy
    · exact hD.2 k x (by rw [List.getElem?_append_left (List.getElem?_eq_some_iff.mp hx).1]; exact hx)
  refine ⟨va_P.app (fun k x hx => ?_) hP1, va_D.app hDr (hD1.weaken (fun k x _ h => hF x.1 h)) (fun i j x y hx hy hxy => ?_)⟩
  · obtain ⟨g1, g2⟩ := apart k x hx
    exact (hP k x (by rw [List.getElem?_append_left (List.getElem?_eq_some_iff.mp hx).1]; exact hx)).kept (hk x.1 g1 g2)
  · exact (apart i x hx).2 (by rw [hxy]; exact hD1.2 j y hy)
section ZRC
variable {p : Program} {l : Launch} {e : Env} {R : Room} {s : State} {m : MethodId} {args : Array Value} {below : List Frame} {meth : Method} {c : Code} {H : Heap} {locs : List Loc} {cells slots : Nat} {Q : State → Prop}
theorem zc_run {G : zGt} {A : Nat → Prop} {a : Array Value} {e0 : va_E} {post : Nat → va_W → Prop} {wr : va_W} {q mc ms pc : Nat} {ls : Array Slot} {st0 rest : List Value} (hr : va_Run p l e R s m args below meth c H locs cells slots mc ms (F0 m pc ls st0) rest (zQC G e0 post q H.size a) (va_A [(q, e0)] H.size)) (hP : va_P G.1 vwCl (wr ++ [(q, e0)]) H) (hD : va_D A (wr ++ [(q, e0)])) (hS : va_S A s.heap H locs) (hA : ∀ q, s.heap.size ≤ q → A q)
    (kk : ∀ (ws2 : va_W) (H1 : Heap) (locs1 : List Loc), post q ws2 → va_P G.1 vwCl (wr ++ ws2) H1 → va_D A (wr ++ ws2) → va_S A s.heap H1 locs1 → W p l e R s m args below meth c H1 locs1 (cells + mc) (slots + ms) Q (F0 m (pc + 3) ls rest)) : W p l e R s m args below meth c H locs cells slots Q (F0 m pc ls st0) := by
  intro T hT X
  obtain ⟨v, st₀, t, T', L, h0, X', hL, e1, e2, ⟨hv, ⟨ws2, hp, hP1, hD1⟩, hz, hk⟩, st⟩ := hr T hT X
  cases hv
  rw [h0] at hz hk
  have hF : ∀ x, va_A [(q, e0)] H.size x → A x := by
    intro x hx
    rcases hx with ⟨k2, e2, h⟩ | h
    · have h3 : x = q := by
        cases k2 with
        | zero => simp at h; exact h.1.symm
        | succ k2 => simp at h
      rw [h3]
      exact hD.2 wr.length (q, e0) (by rw [List.getElem?_append_right (Nat.le_refl _), Nat.sub_self]; rfl)
    · exact hA x (Nat.le_trans hS.1 h)
  obtain ⟨j1, j2⟩ := zc_join hP hD hk hF hP1 hD1
  obtain ⟨t2, a1, b1⟩ := kk ws2 T'.heap (locs ++ L) hp (by rw [e1]; exact j1) j2
    ⟨Nat.le_trans hS.1 (by rw [e1]; exact hz), fun x h1 h2 => by rw [e1, hk x (Nat.lt_of_lt_of_le h1 hS.1) (fun z => h2 (hF x z))]; exact hS.2.1 x h1 h2, fun x hq => by
      rcases List.mem_append.mp hq with h | h
      · exact hS.2.2 x h
      · exact hF _ (hL x h)⟩ T' rfl X'
  exact ⟨t2, st t2 a1, b1⟩
end ZRC
set_option maxHeartbeats 1000000 in
theorem zc_call {T : zX} {cc : ByteArray} {own : String} {fr lo mc ms : Nat} (hC : zOkC T cc own fr lo mc ms) {wr : va_W} {k n pc q : Nat} {lv : List (Nat × Value)} {st : List Value} {idx : Nat} {y : MethodName} {yc : ByteArray} {ym yf yl dm ds : Nat} {e0 : va_E} {post : Nat → va_W → Prop} (hM : zCtor (zL T) (zGr T) y yc ym yf yl dm ds e0 post) (hy : y.name = "<init>") (kn : Cond.instanceMethod y ∈ zT) (ki : Cond.initialized y.cls ∈ zT) (kx : Cond.code y yc ym none ∈ zT) (kd : zWd y 0) (hw : Cond.methodLink own idx y ∈ zT) (hroom : yf + 1 ≤ fr ∧ 8 + (ym + 11) + yl ≤ lo ∧ k + dm ≤ mc ∧ n + ds ≤ ms) (hcat : (st.map fun v => v.category).sum ≤ 8) (d : decode cc pc = .ok (.invokespecial idx, 3)) (kk : ∀ ws2 : va_W, post q ws2 → ZC T (wr ++ ws2) (k + dm) (n + ds) (pc + 3) lv st) : ZC T (wr ++ [(q, e0)]) k n pc lv (.ref q :: st) := by
  obtain ⟨p, l, e, R, s, m, args, below, meth, cd, Q, nL, G, mk, A, cells, slots⟩ := T
  obtain ⟨hx, hb, hml, hown, hts, hE, hA, hR⟩ := hC
  intro H locs ls hP hD hS hl
  have hq : (wr ++ [(q, e0)])[wr.length]? = some (q, e0) := by rw [List.getElem?_append_right (Nat.le_refl _), Nat.sub_self]; rfl
  have hP0 : va_P G.1 vwCl [(q, e0)] H := fun j x hj => by
    cases j with
    | zero => cases hj; exact hP wr.length _ hq
    | succ j => simp at hj
  have hD0 : va_D (fun _ => True) [(q, e0)] := ⟨fun i j x y hi hj _ => by
    cases i with
    | zero => cases j with
      | zero => rfl
      | succ j => simp at hj
    | succ i => simp at hi, fun _ _ _ => trivial⟩
  exact zc_run (q := q) (wr := wr) (va_runI (p := p) (As := []) (rest := st) ⟨hx, hb, hml, hown, hts⟩ (hM q H.size) ⟨callB_of 0 hts (zT_more kx) rfl rfl rfl (hts _ ki) (hts _ hw) kd ⟨by show yf + 1 ≤ _; omega, by show 8 + (ym + 11) + yl ≤ _; omega⟩, hy, hts _ kn⟩ ⟨fun a U g mk2 z => ⟨z.1, z.2.1, z.2.2.1, z.2.2.2.1, z.2.2.2.2.blind⟩, fun U hU hW => ⟨rfl, by rw [hU], by rw [hU]; exact hP0, hD0, hE.warm hW⟩⟩ rfl rfl hl.1 rfl (lv_room hcat) d ⟨by omega, by omega⟩) hP hD hS hA (fun ws2 H1 locs1 hp hP1 hD1 hS1 => kk ws2 hp H1 locs1 ls hP1 hD1 hS1 hl)
set_option maxHeartbeats 1000000 in
theorem zc_callN {T : zX} {cc : ByteArray} {own : String} {fr lo mc ms : Nat} (hC : zOkC T cc own fr lo mc ms) {wr : va_W} {k n pc q : Nat} {lv : List (Nat × Value)} {st : List Value} {idx : Nat} {y : MethodName} {yc : ByteArray} {ym yf yl dm ds : Nat} {e0 : va_E} {post : Nat → va_W → Prop} (hM : zCtor (zL T) (zGr T) y yc ym yf yl dm ds e0 post) (hy : y.name = "<init>") (kn : Cond.instanceMethod y ∈ zT) (ki : Cond.initialized y.cls ∈ zT) (kx : Cond.code y yc ym none ∈ zT) (kd : zWd y 0) {host : String} (hw : Cond.methodLinkNest own idx y host ∈ zNestC) (hroom : yf + 1 ≤ fr ∧ 8 + (ym + 11) + yl ≤ lo ∧ k + dm ≤ mc ∧ n + ds ≤ ms) (hcat : (st.map fun v => v.category).sum ≤ 8) (d : decode cc pc = .ok (.invokespecial idx, 3)) (kk : ∀ ws2 : va_W, post q ws2 → ZC T (wr ++ ws2) (k + dm) (n + ds) (pc + 3) lv st) : ZC T (wr ++ [(q, e0)]) k n pc lv (.ref q :: st) := by
  obtain ⟨p, l, e, R, s, m, args, below, meth, cd, Q, nL, G, mk, A, cells, slots⟩ := T
  obtain ⟨hx, hb, hml, hown, hts, hE, hA, hR⟩ := hC
  intro H locs ls hP hD hS hl
  have hq : (wr ++ [(q, e0)])[wr.length]? = some (q, e0) := by rw [List.getElem?_append_right (Nat.le_refl _), Nat.sub_self]; rfl
  have hP0 : va_P G.1 vwCl [(q, e0)] H := fun j x hj => by
    cases j with
    | zero => cases hj; exact hP wr.length _ hq
    | succ j => simp at hj
  have hD0 : va_D (fun _ => True) [(q, e0)] := ⟨fun i j x y hi hj _ => by
    cases i with
    | zero => cases j with
      | zero => rfl
      | succ j => simp at hj
    | succ i => simp at hi, fun _ _ _ => trivial⟩
  exact zc_run (q := q) (wr := wr) (va_runIN (p := p) (host := host) (As := []) (rest := st) ⟨hx, hb, hml, hown, hts⟩ (hM q H.size) ⟨va_cnB (host := host) 0 hts (zT_more kx) rfl rfl rfl (hE.2.1 _ hw) (hts _ ki) kd ⟨by show yf + 1 ≤ _; omega, by show 8 + (ym + 11) + yl ≤ _; omega⟩, hy, hts _ kn⟩ ⟨fun a U g mk2 z => ⟨z.1, z.2.1, z.2.2.1, z.2.2.2.1, z.2.2.2.2.blind⟩, fun U hU hW => ⟨rfl, by rw [hU], by rw [hU]; exact hP0, hD0, hE.warm hW⟩⟩ rfl rfl hl.1 rfl (lv_room hcat) d ⟨by omega, by omega⟩) hP hD hS hA (fun ws2 H1 locs1 hp hP1 hD1 hS1 => kk ws2 hp H1 locs1 ls hP1 hD1 hS1 hl)
