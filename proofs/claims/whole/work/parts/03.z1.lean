/-! what a method's start knows of the machine, beside the world -/
def zNest : List Cond := [.methodLinkNest RX2 48 yX8_middleOf "ShutBench", .methodLinkNest RX7 43 yX8_middleOf "ShutBench"]
theorem zNest_warm {s U : State} (hW : s.WarmedH U.vm) (h : ∀ w ∈ zNest, va_Nw w s) : ∀ w ∈ zNest, va_Nw w U :=
  List.forall_mem_cons.mpr ⟨va_Nw.warmM hW (h _ List.mem_cons_self), List.forall_mem_cons.mpr ⟨va_Nw.warmM hW (h _ (List.mem_cons_of_mem _ List.mem_cons_self)), fun _ q => absurd q List.not_mem_nil⟩⟩
theorem zNest_same {s U : State} (hU : s.vm = U.vm) (h : ∀ w ∈ zNest, va_Nw w s) : ∀ w ∈ zNest, va_Nw w U :=
  List.forall_mem_cons.mpr ⟨va_Nw.same rfl hU (h _ List.mem_cons_self), List.forall_mem_cons.mpr ⟨va_Nw.same rfl hU (h _ (List.mem_cons_of_mem _ List.mem_cons_self)), fun _ q => absurd q List.not_mem_nil⟩⟩
def zEnv (G : zGt) (A : Nat → Prop) (U : State) : Prop := va_K G.1 vwCl (gTys G) U ∧ zInj G ∧ vk_S 9 zLen zByt G.2.2.1 G.2.2.2.1 A U U.heap ∧ (∀ r ∈ zStrs, vk_R r.1 r.2.1 r.2.2.1 (G.2.2.1 r.2.2.2) U) ∧ va_Z "java/lang/String" "COMPACT_STRINGS" "Z" (.int 1) A U U.heap ∧ (∀ w ∈ zNest, va_Nw w U) ∧ va_Zq "jdk/internal/util/Preconditions" "SIOOBE_FORMATTER" "Ljava/util/function/BiFunction;" A U U.heap
theorem zEnv.call {G : zGt} {A B : Nat → Prop} {s U : State} {H : Heap} {locs : List Loc} (h : zEnv G A s) (hS : va_S A s.heap H locs) (hB : ∀ q, B q → A q) (hU : U.heap = H) (hW : s.WarmedH U.vm) : zEnv G B U := by
  obtain ⟨h1, h2, h3, h4, h5, h6, h7⟩ := h
  subst hU
  exact ⟨va_K.moved hW.alike h1, h2, ((h3.kept hS.2.1).narrow hB).moved hW.alike, fun r hr => (h4 r hr).warm hW, ((h5.kept hS.2.1).narrow hB).moved hW.alike, zNest_warm hW h6, ((h7.kept hS.2.1).narrow hB).moved hW.alike⟩
theorem zEnv.blind {G : zGt} {A : Nat → Prop} {U : State} {g : JFrame} {mk : MethodId} {a : Array Value} (h : zEnv G A U) : zEnv G A (U.calling g mk a) := by
  obtain ⟨h1, h2, h3, h4, h5, h6, h7⟩ := h
  exact ⟨va_K.moved (u := U) (U := U.calling g mk a) (Vm.Alike.refl U.vm) h1, h2, vk_S.moved (u := U) (U := U.calling g mk a) (Vm.Alike.refl U.vm) h3, fun r hr => vk_R.same (u := U) (U := U.calling g mk a) rfl (h4 r hr), va_Z.moved (u := U) (U := U.calling g mk a) (Vm.Alike.refl U.vm) h5, zNest_same (s := U) (U := U.calling g mk a) rfl h6, va_Zq.moved (u := U) (U := U.calling g mk a) (Vm.Alike.refl U.vm) h7⟩
/-- the states of one side (cells lo to hi - 1) put into the world of both -/
def zM (mk : zSt → zSt) (lo hi : Nat) : Prop := hi ≤ 85 ∧ ∀ (σ : zSt) (c : Nat), lo ≤ c → c < hi → (mk σ).1 c = σ.1 c ∧ (mk σ).2 c = σ.2 c ∧ (∀ k v, mk (si σ c k v) = si (mk σ) c k v) ∧ ∀ k v, mk (sl σ c k v) = sl (mk σ) c k v
abbrev zX : Type := Program × Launch × Env × Room × State × MethodId × Array Value × List Frame × Method × Code × (State → Prop) × Nat × zGt × (zSt → zSt) × (Nat → Prop) × Nat × Nat
abbrev zL (T : zX) : Launch := T.2.1
abbrev zGr (T : zX) : zGt := T.2.2.2.2.2.2.2.2.2.2.2.2.1
abbrev zMk (T : zX) : zSt → zSt := T.2.2.2.2.2.2.2.2.2.2.2.2.2.1
abbrev zAd (T : zX) (c : Nat) : Nat := gA (zGr T) c
abbrev zSk (T : zX) (i : Nat) : Nat := (zGr T).2.2.1 i
abbrev zSv (T : zX) (i : Nat) : Nat := (zGr T).2.2.2.1 i
abbrev zNL (T : zX) : Nat := T.2.2.2.2.2.2.2.2.2.2.2.1
def zOk (T : zX) (cc : ByteArray) (own : String) (fr lo cl ch : Nat) : Prop := match T with
  | (p, _, _, R, s, m, args, _, _, c, _, nL, G, mq, A, cells, slots) => p.tables.exec = Jvm.exec ∧ c.code = cc ∧ c.maxLocals = nL ∧ s.vm.findClass own = some m.cls ∧ (∀ w ∈ zT, w.before args s = true) ∧ zEnv G A s ∧ (∀ k, k < 85 → A (gA G k)) ∧ (fr ≤ R.frames ∧ lo ≤ R.locals ∧ cells ≤ R.cells ∧ slots ≤ R.slots) ∧ zM mq cl ch
def Z (T : zX) (σ : zSt) (pc : Nat) (lv : List (Nat × Value)) (st : List Value) : Prop := match T with
  | (p, l, e, R, s, m, args, below, meth, c, Q, nL, G, mq, A, cells, slots) => ∀ (H : Heap) (locs : List Loc) (ls : Array Slot), va_P G.1 vwCl (zW G (mq σ)) H → va_S A s.heap H locs → lv_has ls nL lv → W p l e R s m args below meth c H locs cells slots Q (F0 m pc ls st)
/-- the end of a method: its answer, and the state behind it -/
def zQ (G : zGt) (mk : zSt → zSt) (r : Option Value) (σ' : zSt) : Array Value → State → Outcome → State → Prop := fun _ st o t => o = .returned r ∧ va_P G.1 vwCl (zW G (mk σ')) t.heap ∧ va_F (zA G) st t
def zRes (T : zX) (rt : Option FieldType) (r : Option Value) (σ' : zSt) : Prop := match T with
  | (_, _, _, _, s, _, args, below, meth, _, Q, _, G, mq, A, cells, slots) => A = zA G ∧ Q = MQ below (zQ G mq r σ') args s cells slots (zA G) ∧ meth.sig.returnType = rt ∧ meth.locks = false
/-- a method's contract -/
def zMet (l : Launch) (G : zGt) (mk : zSt → zSt) (y : MethodName) (cc : ByteArray) (maxL : Nat) (rt : Option FieldType) (fr lo : Nat) (av : List Value) (σ : zSt) (r : Option Value) (σ' : zSt) : Prop :=
  Met l y (.code y cc maxL rt :: zT) { frames := fr, cells := 0, slots := 0, locals := lo } (va_Pc av (fun U => va_P G.1 vwCl (zW G (mk σ)) U.heap ∧ zEnv G (zA G) U)) (zQ G mk r σ') 0 0 (zA G)
theorem zMet.ofF {y : MethodName} {ws ws' : List Cond} {rm : Room} {l : Launch} {Pc : Array Value → State → Prop} {Qc : Array Value → State → Outcome → State → Prop} {mc ms : Nat} {free : Addr → Prop} {cc : ByteArray} {maxL : Nat} {ret : Option FieldType}
    (hy : plainFor y = true) (hw : ws = Cond.code y cc maxL ret :: ws')
    (body : ∀ p e s m args below meth c s₁, BodyLoose p l y (headSpec ws rm) cc maxL ret e s m args below meth c s₁ → c.maxLocals = maxL → Pc args s →
      W p l e (headSpec ws rm).room s m args below meth c s.heap [] 0 0 (MQ below Qc args s mc ms free) (entryFrame m args maxL)) : Met l y ws rm Pc Qc mc ms free := by
  refine MetFree.of_bodySF (code := cc) (maxLocals := maxL) (ret := ret) hy ?_ ?_
  · intro args s m h hn
    obtain ⟨meth, c, h1, h2, h3, h4, h5, h6, -, -⟩ := Cond.code_spec hn (atoms_spec (ws := ws) h _ (by rw [hw]; exact List.mem_cons_self))
    exact ⟨meth, c, h1, h2, h3, h4, h5, h6⟩
  · intro p e s m args below meth c s₁ B hml hP _
    have hh0 : s₁.heap = s.heap := by rw [B.state]; rfl
    obtain ⟨t, a1, o, b1, b2, b3⟩ := body p e s m args below meth c s₁ B hml hP s₁ hh0 (Stand.of_body B)
    exact ⟨t, o, a1, b1, b2, ⟨b3.1, b3.2⟩⟩
theorem zMet.of {l : Launch} {G : zGt} {mk : zSt → zSt} {y : MethodName} {cc : ByteArray} {maxL : Nat} {rt : Option FieldType} {fr lo cl ch : Nat} {av : List Value} {σ : zSt} {r : Option Value} {σ' : zSt} (hy : plainFor y = true) (hm : zM mk cl ch) (hw : (lg_sl av).length ≤ maxL)
    (body : ∀ T : zX, zL T = l → zGr T = G → zMk T = mk → zNL T = maxL → zOk T cc y.cls fr lo cl ch → zRes T rt r σ' → Z T σ 0 (lv_args 0 av) []) : zMet l G mk y cc maxL rt fr lo av σ r σ' := by
  refine zMet.ofF (cc := cc) (maxL := maxL) (ret := rt) hy rfl ?_
  intro p e s m args below meth c s₁ B hml hv
  obtain ⟨rfl, hP, hE⟩ := hv
  have hts := atoms_spec (ws := .code y cc maxL rt :: zT) B.pre
  have hown : s.vm.findClass y.cls = some m.cls := findClass_of_methodNamed B.named
  have hl := lv_entry av (n := maxL) hw
  rw [lg_entry_eq]
  generalize (lg_sl av ++ List.replicate (maxL - (lg_sl av).length) Slot.unset).toArray = ls at hl ⊢
  exact body (p, l, e, _, s, m, av.toArray, below, meth, c, _, maxL, G, mk, zA G, 0, 0) rfl rfl rfl rfl ⟨B.exec, B.bytes, hml, hown, fun w h => hts w (List.mem_cons_of_mem _ h), hE, fun k hk => zA_in k hk, ⟨Nat.le_refl _, Nat.le_refl _, Nat.le_refl _, Nat.le_refl _⟩, hm⟩ ⟨rfl, rfl, B.returns, B.notSynchronized⟩ s.heap [] ls hP va_S.rf hl
