def mg (a b : zSt) : zSt := (fun c => if c < 61 then a.1 c else b.1 c, fun c => if c < 61 then a.2 c else b.2 c)
theorem zM_X (b : zSt) : zM (fun a => mg a b) 0 61 := by
  refine ⟨by omega, fun σ c h0 h => ⟨by simp [mg, h], by simp [mg, h], fun k v => ?_, fun k v => ?_⟩⟩
  · apply Prod.ext
    · funext c'
      by_cases h1 : c' < 61
      · simp [mg, si, h1]
      · have h2 : c' ≠ c := by omega
        funext k'; simp [mg, si, h1, h2]
    · rfl
  · apply Prod.ext
    · rfl
    · funext c'
      by_cases h1 : c' < 61
      · simp [mg, sl, h1]
      · have h2 : c' ≠ c := by omega
        funext k'; simp [mg, sl, h1, h2]
theorem zM_M (a : zSt) : zM (fun b => mg a b) 61 85 := by
  refine ⟨by omega, fun σ c h0 h => ⟨by simp [mg, show ¬ c < 61 by omega], by simp [mg, show ¬ c < 61 by omega], fun k v => ?_, fun k v => ?_⟩⟩
  · apply Prod.ext
    · funext c'
      by_cases h1 : c' < 61
      · have h2 : c' ≠ c := by omega
        funext k'; simp [mg, si, h1, h2]
      · simp [mg, si, h1]
    · rfl
  · apply Prod.ext
    · rfl
    · funext c'
      by_cases h1 : c' < 61
      · have h2 : c' ≠ c := by omega
        funext k'; simp [mg, sl, h1, h2]
      · simp [mg, sl, h1]
def zScr (T : zX) (b L : Nat) (xs : Nat → Int32) : Prop := match T with
  | (_, _, _, _, s, _, _, _, _, _, _, _, _, _, A, _, _) => va_X b L xs s s.heap ∧ b < s.heap.size ∧ ¬ A b
theorem z_sld {T : zX} {cc : ByteArray} {own : String} {fr lo cl ch : Nat} (hC : zOk T cc own fr lo cl ch) {σ : zSt} {pc : Nat} {lv : List (Nat × Value)} {st : List Value} {b L : Nat} {xs : Nat → Int32} {i : Int32} (hX : zScr T b L xs) (hin : vp_in i L) (d : decode cc pc = .ok (.iaload, 1)) (kk : Z T σ (pc + 1) lv (.int (xs i.toNatClampNeg) :: st)) : Z T σ pc lv (.int i :: .ref b :: st) := by
  obtain ⟨p, l, e, R, s, m, args, below, meth, cd, Q, nL, G, mk, A, cells, slots⟩ := T
  obtain ⟨hx, hb, hml, hown, hts, hE, hA, hR, hM⟩ := hC
  intro H locs ls hP hS hl
  exact va_sld hx hb hX.1 hX.2.1 hX.2.2 hS hin d (kk H locs ls hP hS hl)
theorem z_slen {T : zX} {cc : ByteArray} {own : String} {fr lo cl ch : Nat} (hC : zOk T cc own fr lo cl ch) {σ : zSt} {pc : Nat} {lv : List (Nat × Value)} {st : List Value} {b L : Nat} {xs : Nat → Int32} (hX : zScr T b L xs) (d : decode cc pc = .ok (.arraylength, 1)) (kk : Z T σ (pc + 1) lv (.int (nI L) :: st)) : Z T σ pc lv (.ref b :: st) := by
  obtain ⟨p, l, e, R, s, m, args, below, meth, cd, Q, nL, G, mk, A, cells, slots⟩ := T
  obtain ⟨hx, hb, hml, hown, hts, hE, hA, hR, hM⟩ := hC
  intro H locs ls hP hS hl
  exact va_slen hx hb hX.1 hX.2.1 hX.2.2 hS d (kk H locs ls hP hS hl)
def zLaw (T : zX) (b : Nat) : Prop := match T with
  | (_, _, _, R, s, _, args, below, meth, _, Q, _, _, mq, A, k, n) => R = room_1 ∧ args = #[.ref b] ∧ Q = lw_Z below #[.ref b] s ∧ mq = id ∧ A = (fun q => s.heap.size ≤ q) ∧ k ≤ 600000 ∧ n ≤ 7302250 ∧ meth.sig.returnType = ret ∧ meth.locks = false
theorem z_lawRet {T : zX} {own : String} {fr lo cl ch : Nat} (hC : zOk T cL_law own fr lo cl ch) {b : Nat} (hL : zLaw T b) {σ : zSt} {pc : Nat} {lv : List (Nat × Value)} (d : decode cL_law pc = .ok (.ireturn, 1)) : Z T σ pc lv [.int 1] := by
  obtain ⟨p, l, e, R, s, m, args, below, meth, cd, Q, nL, G, mk, A, cells, slots⟩ := T
  obtain ⟨hx, hb, hml, hown, hts, hE, hA, hR, hM⟩ := hC
  obtain ⟨rfl, rfl, rfl, rfl, rfl, h1, h2, h3, h4⟩ := hL
  intro H locs ls hP hS hl
  refine va_forget (fun q hq => hS.2.2 q hq) ?_
  refine W.widen (k := 600000) (n := 7302250) h1 h2 ?_
  exact lw_ret hx hb h3 h4 d
theorem zMet_id {l : Launch} {G : zGt} {mk : zSt → zSt} {y : MethodName} {cc : ByteArray} {ml : Nat} {rt : Option FieldType} {fr lo : Nat} {av : List Value} {σ : zSt} {r : Option Value} {σ' : zSt} (h : zMet l G mk y cc ml rt fr lo av σ r σ') {mk2 : zSt → zSt} (e : mk2 = id) : zMet l G mk2 y cc ml rt fr lo av (mk σ) r (mk σ') := by subst e; exact h
theorem zLaw.id {T : zX} {b : Nat} (h : zLaw T b) : zMk T = id := by
  obtain ⟨p, l, e, R, s, m, args, below, meth, cd, Q, nL, G, mk, A, cells, slots⟩ := T
  exact h.2.2.2.1
theorem law_gt {L i : Nat} (h : L < i + 7) (h2 : L ≤ 3584) (h3 : i ≤ 4000) : nI L - 7 < nI i := by
  have a := nI_toInt (n := L) (by omega)
  have b := nI_toInt (n := i) (by omega)
  have c : (nI L - 7).toInt = (L : Int) - 7 := by
    rw [Int32.toInt_sub, a, show (7 : Int32).toInt = 7 by decide, Int.bmod_eq_of_le (by omega) (by omega)]
  rw [Int32.lt_iff_toInt_lt, c, b]
  omega
theorem law_in {i L k : Nat} (h : i + 7 ≤ L) (hk : k < 7) (hL : L ≤ 3584) : vp_in (nI i + Int32.ofNat k) L := by
  have e : nI i + Int32.ofNat k = nI (i + k) := nI_add i k
  rw [e]
  exact vp_in_nI (by omega) (by omega)
theorem law_7 (i : Nat) : nI i + 7 = nI (i + 7) := nI_add i 7
set_option maxHeartbeats 8000000 in
set_option maxRecDepth 100000 in
theorem law_loop {T : zX} (Inv : zSt → zSt → Prop)
    (hs0 : ∀ (σX σM : zSt) (a0 : Int32) (a1 : Int32) (a2 : Int32) (a3 : Int32) (a4 : Int32), Inv σX σM → ∃ (r : Int32) (σX' : zSt) (σM' : zSt), fX8_feed a0 a1 a2 a3 a4 σX = some (r, σX') ∧ fX9_feed a0 a1 a2 a3 a4 σM = some (r, σM') ∧ Inv σX' σM')
    (hs1 : ∀ (σX σM : zSt) (a0 : Int32), Inv σX σM → ∃ (r : Int32) (σX' : zSt) (σM' : zSt), fX8_end a0 σX = some (r, σX') ∧ fX9_end a0 σM = some (r, σM') ∧ Inv σX' σM')
    (hs2 : ∀ (σX σM : zSt) , Inv σX σM → ∃ (r : Int32) (σX' : zSt) (σM' : zSt), fX8_curve σX = some (r, σX') ∧ fX9_curve σM = some (r, σM') ∧ Inv σX' σM')
    (hs3 : ∀ (σX σM : zSt) , Inv σX σM → ∃ (r : Int32) (σX' : zSt) (σM' : zSt), fX8_drop σX = some (r, σX') ∧ fX9_drop σM = some (r, σM') ∧ Inv σX' σM')
    (hs4 : ∀ (σX σM : zSt) (a0 : Int32) (a1 : Int32), Inv σX σM → ∃ (r : Int32) (σM' : zSt), fX8_about a0 a1 σX = some r ∧ fX9_about a0 a1 σM = some (r, σM') ∧ Inv σX σM')
    (hs5 : ∀ (σX σM : zSt) (a0 : Int32) (a1 : Int32) (a2 : Int32), Inv σX σM → ∃ (r : Int32) (σX' : zSt) (σM' : zSt), fX8_at a0 a1 a2 σX = some (r, σX') ∧ fX9_at a0 a1 a2 σM = some (r, σM') ∧ Inv σX' σM')
    (hs6 : ∀ (σX σM : zSt) (a0 : Int32) (a1 : Int32) (a2 : Int32), Inv σX σM → ∃ (r : Int32) (σX' : zSt) (σM' : zSt), fX8_slope a0 a1 a2 σX = some (r, σX') ∧ fX9_slope_ a0 a1 a2 σM = some (r, σM') ∧ Inv σX' σM')
    (hs7 : ∀ (σX σM : zSt) (a0 : Int32) (a1 : Int32) (a2 : Int32) (a3 : Int32) (a4 : Int64), Inv σX σM → ∃ (r : Int32) (σX' : zSt) (σM' : zSt), fX8_area a0 a1 a2 a3 a4 σX = some (r, σX') ∧ fX9_area a0 a1 a2 a3 a4 σM = some (r, σM') ∧ Inv σX' σM')
    (hs8 : ∀ (σX σM : zSt) (a0 : Int32) (a1 : Int32) (a2 : Int32) (a3 : Int32), Inv σX σM → ∃ (r : Int32) (σX' : zSt) (σM' : zSt), fX8_roots a0 a1 a2 a3 σX = some (r, σX') ∧ fX9_roots a0 a1 a2 a3 σM = some (r, σM') ∧ Inv σX' σM')
    (hs9 : ∀ (σX σM : zSt) (a0 : Int32) (a1 : Int32), Inv σX σM → ∃ (r : Int32), fX8_part a0 a1 σX = some r ∧ fX9_part_ a0 a1 σM = some r)
    (hs10 : ∀ (σX σM : zSt) (a0 : Int32) (a1 : Int32) (a2 : Int32) (a3 : Int32), Inv σX σM → ∃ (r : Int32) (σX' : zSt) (σM' : zSt), fX8_least a0 a1 a2 a3 σX = some (r, σX') ∧ fX9_least_ a0 a1 a2 a3 σM = some (r, σM') ∧ Inv σX' σM')
    (hs11 : ∀ (σX σM : zSt) (a0 : Int32) (a1 : Int32) (a2 : Int32) (a3 : Int32), Inv σX σM → ∃ (r : Int32) (σX' : zSt) (σM' : zSt), fX8_greatest a0 a1 a2 a3 σX = some (r, σX') ∧ fX9_greatest a0 a1 a2 a3 σM = some (r, σM') ∧ Inv σX' σM')
    (hs12 : ∀ (σX σM : zSt) (a0 : Int32) (a1 : Int32) (a2 : Int32) (a3 : Int32) (a4 : Int32), Inv σX σM → ∃ (r : Int32) (σX' : zSt) (σM' : zSt), fX8_never a0 a1 a2 a3 a4 σX = some (r, σX') ∧ fX9_never a0 a1 a2 a3 a4 σM = some (r, σM') ∧ Inv σX' σM')
    (hs13 : ∀ (σX σM : zSt) , Inv σX σM → ∃ (r : Int64), fX8_low σX = r ∧ fX9_low σM = r)
    (hs14 : ∀ (σX σM : zSt) , Inv σX σM → ∃ (r : Int64), fX8_high σX = r ∧ fX9_high σM = r)
    (hs15 : ∀ (σX σM : zSt) (a0 : Int32), Inv σX σM → ∃ (r : Int32), fX8_count a0 σX = r ∧ fX9_count a0 σM = r)
    (hC : zOk T cL_law RL 81 1920 0 85) (hN : zNL T = 4) {b L : Nat} {xs : Nat → Int32} (hL : L ≤ 3584) (hX : zScr T b L xs) (hW : zLaw T b) : ∀ (n i : Nat) (x3 : Int32) (σX σM : zSt), L < i + n → i ≤ L + 7 → x3 = nI i → Inv σX σM → Z T (mg σX σM) 18 [(0, .ref b), (1, .ref (zAd T (0))), (2, .ref (zAd T (61))), (3, .int x3)] [] := by
  have hid := hW.id
  intro n
  induction n with
  | zero => intro i x3 σX σM h1 h2 e3 hI
            refine z_iload_n hC 3 rfl rfl dL_law_18 ?_
            refine z_aload_n hC 0 rfl rfl dL_law_19 ?_
            refine z_slen hC hX dL_law_20 ?_
            refine z_bipush hC (7 : Int32) (by decide) dL_law_21 ?_
            refine z_isub hC dL_law_23 ?_
            have hlt : nI L - 7 < x3 := by rw [e3]; exact law_gt (by omega) (by omega) (by omega)
            refine z_icmp_gt hC 750 (by decide) dL_law_24 (fun _ => ?_) (fun q => absurd hlt q)
            refine z_iconst hC (1 : Int32) (by decide) dL_law_750 ?_
            exact z_lawRet hC hW dL_law_751
  | succ n ih =>
    intro i x3 σX σM h1 h2 e3 hI
    refine z_iload_n hC 3 rfl rfl dL_law_18 ?_
    refine z_aload_n hC 0 rfl rfl dL_law_19 ?_
    refine z_slen hC hX dL_law_20 ?_
    refine z_bipush hC (7 : Int32) (by decide) dL_law_21 ?_
    refine z_isub hC dL_law_23 ?_
    refine z_icmp_gt hC 750 (by decide) dL_law_24 (fun _ => ?_) (fun hle => ?_)
    · refine z_iconst hC (1 : Int32) (by decide) dL_law_750 ?_
      exact z_lawRet hC hW dL_law_751
    have hi7 : i + 7 ≤ L := by
      rcases Nat.lt_or_ge L (i + 7) with q | q
      · exact absurd (by rw [e3]; exact law_gt q (by omega) (by omega)) hle
      · exact q
    have hi_ : ∀ k : Nat, k < 7 → True → vp_in (x3 + Int32.ofNat k) L := fun k hk _ => by rw [e3]; exact law_in hi7 hk (by omega)
    have hi0 : vp_in x3 L := by rw [e3]; exact vp_in_nI (by omega) (by omega)
    have hnext : ∀ σX2 σM2 : zSt, Inv σX2 σM2 → Z T (mg σX2 σM2) 744 [(0, .ref b), (1, .ref (zAd T (0))), (2, .ref (zAd T (61))), (3, .int x3)] [] := fun σX2 σM2 hI2 => by
      obtain ⟨x4, e4⟩ : ∃ y : Int32, y = x3 + 7 := ⟨_, rfl⟩
      refine z_iinc hC x4 [(3, .int x4), (0, .ref b), (1, .ref (zAd T (0))), (2, .ref (zAd T (61)))] 3 rfl (by rw [e4]; rfl) (by rw [hN]; decide) rfl dL_law_744 ?_
      refine z_goto hC 18 (by decide) dL_law_747 ?_
      refine z_sub [(0, .ref b), (1, .ref (zAd T (0))), (2, .ref (zAd T (61))), (3, .int x4)] [1, 2, 3, 0] rfl ?_
      exact ih (i + 7) x4 σX2 σM2 (by omega) (by omega) (by rw [e4, e3]; exact law_7 i) hI2
    refine z_aload_n hC 0 rfl rfl dL_law_27 ?_
    refine z_iload_n hC 3 rfl rfl dL_law_28 ?_
    refine z_sld hC hX hi0 dL_law_29 ?_
    refine z_bipush hC (15 : Int32) (by decide) dL_law_30 ?_
    refine z_iand hC dL_law_32 ?_
    generalize xs x3.toNatClampNeg &&& 15 = x
    by_cases q0 : x = (0 : Int32)
    · -- feed
      obtain ⟨r, σX2, σM2, e1, e2, hI2⟩ := hs0 σX σM (xs (x3 + (1 : Int32)).toNatClampNeg) (xs (x3 + (2 : Int32)).toNatClampNeg) (xs (x3 + (3 : Int32)).toNatClampNeg) (xs (x3 + (4 : Int32)).toNatClampNeg) (xs (x3 + (5 : Int32)).toNatClampNeg) hI
      refine z_tabIn hC (79) 112 (by rw [q0]; decide) (by rw [q0]; decide) (by rw [q0]; decide +kernel) (by decide) dL_law_33 ?_
      refine z_aload_n hC 1 rfl rfl dL_law_112 ?_
      refine z_aload_n hC 0 rfl rfl dL_law_113 ?_
      refine z_iload_n hC 3 rfl rfl dL_law_114 ?_
      refine z_iconst hC (1 : Int32) (by decide) dL_law_115 ?_
      refine z_iadd hC dL_law_116 ?_
      refine z_sld hC hX (hi_ 1 (by decide) (by decide)) dL_law_117 ?_
      refine z_aload_n hC 0 rfl rfl dL_law_118 ?_
      refine z_iload_n hC 3 rfl rfl dL_law_119 ?_
      refine z_iconst hC (2 : Int32) (by decide) dL_law_120 ?_
      refine z_iadd hC dL_law_121 ?_
      refine z_sld hC hX (hi_ 2 (by decide) (by decide)) dL_law_122 ?_
      refine z_aload_n hC 0 rfl rfl dL_law_123 ?_
      refine z_iload_n hC 3 rfl rfl dL_law_124 ?_
      refine z_iconst hC (3 : Int32) (by decide) dL_law_125 ?_
      refine z_iadd hC dL_law_126 ?_
      refine z_sld hC hX (hi_ 3 (by decide) (by decide)) dL_law_127 ?_
      refine z_aload_n hC 0 rfl rfl dL_law_128 ?_
      refine z_iload_n hC 3 rfl rfl dL_law_129 ?_
      refine z_iconst hC (4 : Int32) (by decide) dL_law_130 ?_
      refine z_iadd hC dL_law_131 ?_
      refine z_sld hC hX (hi_ 4 (by decide) (by decide)) dL_law_132 ?_
      refine z_aload_n hC 0 rfl rfl dL_law_133 ?_
      refine z_iload_n hC 3 rfl rfl dL_law_134 ?_
      refine z_iconst hC (5 : Int32) (by decide) dL_law_135 ?_
      refine z_iadd hC dL_law_136 ?_
      refine z_sld hC hX (hi_ 5 (by decide) (by decide)) dL_law_137 ?_
      refine z_cV5r hC (zMet_id (mk := fun a => mg a σM) (ctX8_feed (zM_X σM) e1) hid) (rcX8 hC) kb_X8_feed km_L_13 ⟨by decide, by decide⟩ (Nat.le_of_ble_eq_true rfl) dL_law_138 ?_
      refine z_aload_n hC 2 rfl rfl dL_law_141 ?_
      refine z_aload_n hC 0 rfl rfl dL_law_142 ?_
      refine z_iload_n hC 3 rfl rfl dL_law_143 ?_
      refine z_iconst hC (1 : Int32) (by decide) dL_law_144 ?_
      refine z_iadd hC dL_law_145 ?_
      refine z_sld hC hX (hi_ 1 (by decide) (by decide)) dL_law_146 ?_
      refine z_aload_n hC 0 rfl rfl dL_law_147 ?_
      refine z_iload_n hC 3 rfl rfl dL_law_148 ?_
      refine z_iconst hC (2 : Int32) (by decide) dL_law_149 ?_
      refine z_iadd hC dL_law_150 ?_
      refine z_sld hC hX (hi_ 2 (by decide) (by decide)) dL_law_151 ?_
      refine z_aload_n hC 0 rfl rfl dL_law_152 ?_
      refine z_iload_n hC 3 rfl rfl dL_law_153 ?_
      refine z_iconst hC (3 : Int32) (by decide) dL_law_154 ?_
      refine z_iadd hC dL_law_155 ?_
      refine z_sld hC hX (hi_ 3 (by decide) (by decide)) dL_law_156 ?_
      refine z_aload_n hC 0 rfl rfl dL_law_157 ?_
      refine z_iload_n hC 3 rfl rfl dL_law_158 ?_
      refine z_iconst hC (4 : Int32) (by decide) dL_law_159 ?_
      refine z_iadd hC dL_law_160 ?_
      refine z_sld hC hX (hi_ 4 (by decide) (by decide)) dL_law_161 ?_
      refine z_aload_n hC 0 rfl rfl dL_law_162 ?_
      refine z_iload_n hC 3 rfl rfl dL_law_163 ?_
      refine z_iconst hC (5 : Int32) (by decide) dL_law_164 ?_
      refine z_iadd hC dL_law_165 ?_
      refine z_sld hC hX (hi_ 5 (by decide) (by decide)) dL_law_166 ?_
      refine z_cV5r hC (zMet_id (mk := fun a => mg σX2 a) (ctX9_feed (zM_M σX2) e2) hid) (rcX9 hC) kb_X9_feed km_L_17 ⟨by decide, by decide⟩ (Nat.le_of_ble_eq_true rfl) dL_law_167 ?_
      refine z_icmp_eq hC 744 (by decide) dL_law_170 (fun _ => ?_) (fun q => absurd rfl q)
      exact hnext σX2 σM2 hI2
    by_cases q1 : x = (1 : Int32)
    · -- end
      obtain ⟨r, σX2, σM2, e1, e2, hI2⟩ := hs1 σX σM (xs (x3 + (1 : Int32)).toNatClampNeg) hI
      refine z_tabIn hC (142) 175 (by rw [q1]; decide) (by rw [q1]; decide) (by rw [q1]; decide +kernel) (by decide) dL_law_33 ?_
      refine z_aload_n hC 1 rfl rfl dL_law_175 ?_
      refine z_aload_n hC 0 rfl rfl dL_law_176 ?_
      refine z_iload_n hC 3 rfl rfl dL_law_177 ?_
      refine z_iconst hC (1 : Int32) (by decide) dL_law_178 ?_
      refine z_iadd hC dL_law_179 ?_
      refine z_sld hC hX (hi_ 1 (by decide) (by decide)) dL_law_180 ?_
      refine z_cV1r hC (zMet_id (mk := fun a => mg a σM) (ctX8_end (zM_X σM) e1) hid) (rcX8 hC) kb_X8_end km_L_18 ⟨by decide, by decide⟩ (Nat.le_of_ble_eq_true rfl) dL_law_181 ?_
      refine z_aload_n hC 2 rfl rfl dL_law_184 ?_
      refine z_aload_n hC 0 rfl rfl dL_law_185 ?_
      refine z_iload_n hC 3 rfl rfl dL_law_186 ?_
      refine z_iconst hC (1 : Int32) (by decide) dL_law_187 ?_
      refine z_iadd hC dL_law_188 ?_
      refine z_sld hC hX (hi_ 1 (by decide) (by decide)) dL_law_189 ?_
      refine z_cV1r hC (zMet_id (mk := fun a => mg σX2 a) (ctX9_end (zM_M σX2) e2) hid) (rcX9 hC) kb_X9_end km_L_22 ⟨by decide, by decide⟩ (Nat.le_of_ble_eq_true rfl) dL_law_190 ?_
      refine z_icmp_eq hC 744 (by decide) dL_law_193 (fun _ => ?_) (fun q => absurd rfl q)
      exact hnext σX2 σM2 hI2
    by_cases q2 : x = (2 : Int32)
    · -- curve
      obtain ⟨r, σX2, σM2, e1, e2, hI2⟩ := hs2 σX σM  hI
      refine z_tabIn hC (165) 198 (by rw [q2]; decide) (by rw [q2]; decide) (by rw [q2]; decide +kernel) (by decide) dL_law_33 ?_
      refine z_aload_n hC 1 rfl rfl dL_law_198 ?_
      refine z_cV0r hC (zMet_id (mk := fun a => mg a σM) (ctX8_curve (zM_X σM) e1) hid) (rcX8 hC) kb_X8_curve km_L_23 ⟨by decide, by decide⟩ (Nat.le_of_ble_eq_true rfl) dL_law_199 ?_
      refine z_aload_n hC 2 rfl rfl dL_law_202 ?_
      refine z_cV0r hC (zMet_id (mk := fun a => mg σX2 a) (ctX9_curve (zM_M σX2) e2) hid) (rcX9 hC) kb_X9_curve km_L_27 ⟨by decide, by decide⟩ (Nat.le_of_ble_eq_true rfl) dL_law_203 ?_
      refine z_icmp_eq hC 744 (by decide) dL_law_206 (fun _ => ?_) (fun q => absurd rfl q)
      exact hnext σX2 σM2 hI2
    by_cases q3 : x = (3 : Int32)
    · -- drop
      obtain ⟨r, σX2, σM2, e1, e2, hI2⟩ := hs3 σX σM  hI
      refine z_tabIn hC (178) 211 (by rw [q3]; decide) (by rw [q3]; decide) (by rw [q3]; decide +kernel) (by decide) dL_law_33 ?_
      refine z_aload_n hC 1 rfl rfl dL_law_211 ?_
      refine z_cV0r hC (zMet_id (mk := fun a => mg a σM) (ctX8_drop (zM_X σM) e1) hid) (rcX8 hC) kb_X8_drop km_L_28 ⟨by decide, by decide⟩ (Nat.le_of_ble_eq_true rfl) dL_law_212 ?_
      refine z_aload_n hC 2 rfl rfl dL_law_215 ?_
      refine z_cV0r hC (zMet_id (mk := fun a => mg σX2 a) (ctX9_drop (zM_M σX2) e2) hid) (rcX9 hC) kb_X9_drop km_L_31 ⟨by decide, by decide⟩ (Nat.le_of_ble_eq_true rfl) dL_law_216 ?_
      refine z_icmp_eq hC 744 (by decide) dL_law_219 (fun _ => ?_) (fun q => absurd rfl q)
      exact hnext σX2 σM2 hI2
    by_cases q4 : x = (4 : Int32)
    · -- about
      obtain ⟨r, σM2, e1, e2, hI2⟩ := hs4 σX σM (xs (x3 + (1 : Int32)).toNatClampNeg) (xs (x3 + (2 : Int32)).toNatClampNeg) hI
      refine z_tabIn hC (191) 224 (by rw [q4]; decide) (by rw [q4]; decide) (by rw [q4]; decide +kernel) (by decide) dL_law_33 ?_
      refine z_aload_n hC 1 rfl rfl dL_law_224 ?_
      refine z_aload_n hC 0 rfl rfl dL_law_225 ?_
      refine z_iload_n hC 3 rfl rfl dL_law_226 ?_
      refine z_iconst hC (1 : Int32) (by decide) dL_law_227 ?_
      refine z_iadd hC dL_law_228 ?_
      refine z_sld hC hX (hi_ 1 (by decide) (by decide)) dL_law_229 ?_
      refine z_aload_n hC 0 rfl rfl dL_law_230 ?_
      refine z_iload_n hC 3 rfl rfl dL_law_231 ?_
      refine z_iconst hC (2 : Int32) (by decide) dL_law_232 ?_
      refine z_iadd hC dL_law_233 ?_
      refine z_sld hC hX (hi_ 2 (by decide) (by decide)) dL_law_234 ?_
      refine z_cV2r hC (zMet_id (mk := fun a => mg a σM) (ctX8_about (zM_X σM) e1) hid) (rcX8 hC) kb_X8_about km_L_32 ⟨by decide, by decide⟩ (Nat.le_of_ble_eq_true rfl) dL_law_235 ?_
      refine z_aload_n hC 2 rfl rfl dL_law_238 ?_
      refine z_aload_n hC 0 rfl rfl dL_law_239 ?_
      refine z_iload_n hC 3 rfl rfl dL_law_240 ?_
      refine z_iconst hC (1 : Int32) (by decide) dL_law_241 ?_
      refine z_iadd hC dL_law_242 ?_
      refine z_sld hC hX (hi_ 1 (by decide) (by decide)) dL_law_243 ?_
      refine z_aload_n hC 0 rfl rfl dL_law_244 ?_
      refine z_iload_n hC 3 rfl rfl dL_law_245 ?_
      refine z_iconst hC (2 : Int32) (by decide) dL_law_246 ?_
      refine z_iadd hC dL_law_247 ?_
      refine z_sld hC hX (hi_ 2 (by decide) (by decide)) dL_law_248 ?_
      refine z_cV2r hC (zMet_id (mk := fun a => mg σX a) (ctX9_about (zM_M σX) e2) hid) (rcX9 hC) kb_X9_about km_L_36 ⟨by decide, by decide⟩ (Nat.le_of_ble_eq_true rfl) dL_law_249 ?_
      refine z_icmp_eq hC 744 (by decide) dL_law_252 (fun _ => ?_) (fun q => absurd rfl q)
      exact hnext σX σM2 hI2
    by_cases q5 : x = (5 : Int32)
    · -- at
      obtain ⟨r, σX2, σM2, e1, e2, hI2⟩ := hs5 σX σM (xs (x3 + (1 : Int32)).toNatClampNeg) (xs (x3 + (2 : Int32)).toNatClampNeg) (xs (x3 + (3 : Int32)).toNatClampNeg) hI
      refine z_tabIn hC (224) 257 (by rw [q5]; decide) (by rw [q5]; decide) (by rw [q5]; decide +kernel) (by decide) dL_law_33 ?_
      refine z_aload_n hC 1 rfl rfl dL_law_257 ?_
      refine z_aload_n hC 0 rfl rfl dL_law_258 ?_
      refine z_iload_n hC 3 rfl rfl dL_law_259 ?_
      refine z_iconst hC (1 : Int32) (by decide) dL_law_260 ?_
      refine z_iadd hC dL_law_261 ?_
      refine z_sld hC hX (hi_ 1 (by decide) (by decide)) dL_law_262 ?_
      refine z_aload_n hC 0 rfl rfl dL_law_263 ?_
      refine z_iload_n hC 3 rfl rfl dL_law_264 ?_
      refine z_iconst hC (2 : Int32) (by decide) dL_law_265 ?_
      refine z_iadd hC dL_law_266 ?_
      refine z_sld hC hX (hi_ 2 (by decide) (by decide)) dL_law_267 ?_
      refine z_aload_n hC 0 rfl rfl dL_law_268 ?_
      refine z_iload_n hC 3 rfl rfl dL_law_269 ?_
      refine z_iconst hC (3 : Int32) (by decide) dL_law_270 ?_
      refine z_iadd hC dL_law_271 ?_
      refine z_sld hC hX (hi_ 3 (by decide) (by decide)) dL_law_272 ?_
      refine z_cV3r hC (zMet_id (mk := fun a => mg a σM) (ctX8_at (zM_X σM) e1) hid) (rcX8 hC) kb_X8_at km_L_37 ⟨by decide, by decide⟩ (Nat.le_of_ble_eq_true rfl) dL_law_273 ?_
      refine z_aload_n hC 2 rfl rfl dL_law_276 ?_
      refine z_aload_n hC 0 rfl rfl dL_law_277 ?_
      refine z_iload_n hC 3 rfl rfl dL_law_278 ?_
      refine z_iconst hC (1 : Int32) (by decide) dL_law_279 ?_
      refine z_iadd hC dL_law_280 ?_
      refine z_sld hC hX (hi_ 1 (by decide) (by decide)) dL_law_281 ?_
      refine z_aload_n hC 0 rfl rfl dL_law_282 ?_
      refine z_iload_n hC 3 rfl rfl dL_law_283 ?_
      refine z_iconst hC (2 : Int32) (by decide) dL_law_284 ?_
      refine z_iadd hC dL_law_285 ?_
      refine z_sld hC hX (hi_ 2 (by decide) (by decide)) dL_law_286 ?_
      refine z_aload_n hC 0 rfl rfl dL_law_287 ?_
      refine z_iload_n hC 3 rfl rfl dL_law_288 ?_
      refine z_iconst hC (3 : Int32) (by decide) dL_law_289 ?_
      refine z_iadd hC dL_law_290 ?_
      refine z_sld hC hX (hi_ 3 (by decide) (by decide)) dL_law_291 ?_
      refine z_cV3r hC (zMet_id (mk := fun a => mg σX2 a) (ctX9_at (zM_M σX2) e2) hid) (rcX9 hC) kb_X9_at km_L_41 ⟨by decide, by decide⟩ (Nat.le_of_ble_eq_true rfl) dL_law_292 ?_
      refine z_icmp_eq hC 744 (by decide) dL_law_295 (fun _ => ?_) (fun q => absurd rfl q)
      exact hnext σX2 σM2 hI2
    by_cases q6 : x = (6 : Int32)
    · -- slope
      obtain ⟨r, σX2, σM2, e1, e2, hI2⟩ := hs6 σX σM (xs (x3 + (1 : Int32)).toNatClampNeg) (xs (x3 + (2 : Int32)).toNatClampNeg) (xs (x3 + (3 : Int32)).toNatClampNeg) hI
      refine z_tabIn hC (267) 300 (by rw [q6]; decide) (by rw [q6]; decide) (by rw [q6]; decide +kernel) (by decide) dL_law_33 ?_
      refine z_aload_n hC 1 rfl rfl dL_law_300 ?_
      refine z_aload_n hC 0 rfl rfl dL_law_301 ?_
      refine z_iload_n hC 3 rfl rfl dL_law_302 ?_
      refine z_iconst hC (1 : Int32) (by decide) dL_law_303 ?_
      refine z_iadd hC dL_law_304 ?_
      refine z_sld hC hX (hi_ 1 (by decide) (by decide)) dL_law_305 ?_
      refine z_aload_n hC 0 rfl rfl dL_law_306 ?_
      refine z_iload_n hC 3 rfl rfl dL_law_307 ?_
      refine z_iconst hC (2 : Int32) (by decide) dL_law_308 ?_
      refine z_iadd hC dL_law_309 ?_
      refine z_sld hC hX (hi_ 2 (by decide) (by decide)) dL_law_310 ?_
      refine z_aload_n hC 0 rfl rfl dL_law_311 ?_
      refine z_iload_n hC 3 rfl rfl dL_law_312 ?_
      refine z_iconst hC (3 : Int32) (by decide) dL_law_313 ?_
      refine z_iadd hC dL_law_314 ?_
      refine z_sld hC hX (hi_ 3 (by decide) (by decide)) dL_law_315 ?_
      refine z_cV3r hC (zMet_id (mk := fun a => mg a σM) (ctX8_slope (zM_X σM) e1) hid) (rcX8 hC) kb_X8_slope km_L_42 ⟨by decide, by decide⟩ (Nat.le_of_ble_eq_true rfl) dL_law_316 ?_
      refine z_aload_n hC 2 rfl rfl dL_law_319 ?_
      refine z_aload_n hC 0 rfl rfl dL_law_320 ?_
      refine z_iload_n hC 3 rfl rfl dL_law_321 ?_
      refine z_iconst hC (1 : Int32) (by decide) dL_law_322 ?_
      refine z_iadd hC dL_law_323 ?_
      refine z_sld hC hX (hi_ 1 (by decide) (by decide)) dL_law_324 ?_
      refine z_aload_n hC 0 rfl rfl dL_law_325 ?_
      refine z_iload_n hC 3 rfl rfl dL_law_326 ?_
      refine z_iconst hC (2 : Int32) (by decide) dL_law_327 ?_
      refine z_iadd hC dL_law_328 ?_
      refine z_sld hC hX (hi_ 2 (by decide) (by decide)) dL_law_329 ?_
      refine z_aload_n hC 0 rfl rfl dL_law_330 ?_
      refine z_iload_n hC 3 rfl rfl dL_law_331 ?_
      refine z_iconst hC (3 : Int32) (by decide) dL_law_332 ?_
      refine z_iadd hC dL_law_333 ?_
      refine z_sld hC hX (hi_ 3 (by decide) (by decide)) dL_law_334 ?_
      refine z_cV3r hC (zMet_id (mk := fun a => mg σX2 a) (ctX9_slope_ (zM_M σX2) e2) hid) (rcX9 hC) kb_X9_slope_ km_L_45 ⟨by decide, by decide⟩ (Nat.le_of_ble_eq_true rfl) dL_law_335 ?_
      refine z_icmp_eq hC 744 (by decide) dL_law_338 (fun _ => ?_) (fun q => absurd rfl q)
      exact hnext σX2 σM2 hI2
    by_cases q7 : x = (7 : Int32)
    · -- area
      obtain ⟨r, σX2, σM2, e1, e2, hI2⟩ := hs7 σX σM (xs (x3 + (1 : Int32)).toNatClampNeg) (xs (x3 + (2 : Int32)).toNatClampNeg) (xs (x3 + (3 : Int32)).toNatClampNeg) (xs (x3 + (4 : Int32)).toNatClampNeg) ((jshlL (xs (x3 + (5 : Int32)).toNatClampNeg).toInt64 (32 : Int32)) ||| ((xs (x3 + (6 : Int32)).toNatClampNeg).toInt64 &&& (4294967295 : Int64))) hI
      refine z_tabIn hC (310) 343 (by rw [q7]; decide) (by rw [q7]; decide) (by rw [q7]; decide +kernel) (by decide) dL_law_33 ?_
      refine z_aload_n hC 1 rfl rfl dL_law_343 ?_
      refine z_aload_n hC 0 rfl rfl dL_law_344 ?_
      refine z_iload_n hC 3 rfl rfl dL_law_345 ?_
      refine z_iconst hC (1 : Int32) (by decide) dL_law_346 ?_
      refine z_iadd hC dL_law_347 ?_
      refine z_sld hC hX (hi_ 1 (by decide) (by decide)) dL_law_348 ?_
      refine z_aload_n hC 0 rfl rfl dL_law_349 ?_
      refine z_iload_n hC 3 rfl rfl dL_law_350 ?_
      refine z_iconst hC (2 : Int32) (by decide) dL_law_351 ?_
      refine z_iadd hC dL_law_352 ?_
      refine z_sld hC hX (hi_ 2 (by decide) (by decide)) dL_law_353 ?_
      refine z_aload_n hC 0 rfl rfl dL_law_354 ?_
      refine z_iload_n hC 3 rfl rfl dL_law_355 ?_
      refine z_iconst hC (3 : Int32) (by decide) dL_law_356 ?_
      refine z_iadd hC dL_law_357 ?_
      refine z_sld hC hX (hi_ 3 (by decide) (by decide)) dL_law_358 ?_
      refine z_aload_n hC 0 rfl rfl dL_law_359 ?_
      refine z_iload_n hC 3 rfl rfl dL_law_360 ?_
      refine z_iconst hC (4 : Int32) (by decide) dL_law_361 ?_
      refine z_iadd hC dL_law_362 ?_
      refine z_sld hC hX (hi_ 4 (by decide) (by decide)) dL_law_363 ?_
      refine z_aload_n hC 0 rfl rfl dL_law_364 ?_
      refine z_iload_n hC 3 rfl rfl dL_law_365 ?_
      refine z_iconst hC (5 : Int32) (by decide) dL_law_366 ?_
      refine z_iadd hC dL_law_367 ?_
      refine z_sld hC hX (hi_ 5 (by decide) (by decide)) dL_law_368 ?_
      refine z_i2l hC dL_law_369 ?_
      refine z_bipush hC (32 : Int32) (by decide) dL_law_370 ?_
      refine z_lshl hC dL_law_372 ?_
      refine z_aload_n hC 0 rfl rfl dL_law_373 ?_
      refine z_iload_n hC 3 rfl rfl dL_law_374 ?_
      refine z_bipush hC (6 : Int32) (by decide) dL_law_375 ?_
      refine z_iadd hC dL_law_377 ?_
      refine z_sld hC hX (hi_ 6 (by decide) (by decide)) dL_law_378 ?_
      refine z_i2l hC dL_law_379 ?_
      refine z_ldc2 hC kc_L_46 dL_law_380 ?_
      refine z_land hC dL_law_383 ?_
      refine z_lor hC dL_law_384 ?_
      refine z_cV5r hC (zMet_id (mk := fun a => mg a σM) (ctX8_area (zM_X σM) e1) hid) (rcX8 hC) kb_X8_area km_L_48 ⟨by decide, by decide⟩ (Nat.le_of_ble_eq_true rfl) dL_law_385 ?_
      refine z_aload_n hC 2 rfl rfl dL_law_388 ?_
      refine z_aload_n hC 0 rfl rfl dL_law_389 ?_
      refine z_iload_n hC 3 rfl rfl dL_law_390 ?_
      refine z_iconst hC (1 : Int32) (by decide) dL_law_391 ?_
      refine z_iadd hC dL_law_392 ?_
      refine z_sld hC hX (hi_ 1 (by decide) (by decide)) dL_law_393 ?_
      refine z_aload_n hC 0 rfl rfl dL_law_394 ?_
      refine z_iload_n hC 3 rfl rfl dL_law_395 ?_
      refine z_iconst hC (2 : Int32) (by decide) dL_law_396 ?_
      refine z_iadd hC dL_law_397 ?_
      refine z_sld hC hX (hi_ 2 (by decide) (by decide)) dL_law_398 ?_
      refine z_aload_n hC 0 rfl rfl dL_law_399 ?_
      refine z_iload_n hC 3 rfl rfl dL_law_400 ?_
      refine z_iconst hC (3 : Int32) (by decide) dL_law_401 ?_
      refine z_iadd hC dL_law_402 ?_
      refine z_sld hC hX (hi_ 3 (by decide) (by decide)) dL_law_403 ?_
      refine z_aload_n hC 0 rfl rfl dL_law_404 ?_
      refine z_iload_n hC 3 rfl rfl dL_law_405 ?_
      refine z_iconst hC (4 : Int32) (by decide) dL_law_406 ?_
      refine z_iadd hC dL_law_407 ?_
      refine z_sld hC hX (hi_ 4 (by decide) (by decide)) dL_law_408 ?_
      refine z_aload_n hC 0 rfl rfl dL_law_409 ?_
      refine z_iload_n hC 3 rfl rfl dL_law_410 ?_
      refine z_iconst hC (5 : Int32) (by decide) dL_law_411 ?_
      refine z_iadd hC dL_law_412 ?_
      refine z_sld hC hX (hi_ 5 (by decide) (by decide)) dL_law_413 ?_
      refine z_i2l hC dL_law_414 ?_
      refine z_bipush hC (32 : Int32) (by decide) dL_law_415 ?_
      refine z_lshl hC dL_law_417 ?_
      refine z_aload_n hC 0 rfl rfl dL_law_418 ?_
      refine z_iload_n hC 3 rfl rfl dL_law_419 ?_
      refine z_bipush hC (6 : Int32) (by decide) dL_law_420 ?_
      refine z_iadd hC dL_law_422 ?_
      refine z_sld hC hX (hi_ 6 (by decide) (by decide)) dL_law_423 ?_
      refine z_i2l hC dL_law_424 ?_
      refine z_ldc2 hC kc_L_46 dL_law_425 ?_
      refine z_land hC dL_law_428 ?_
      refine z_lor hC dL_law_429 ?_
      refine z_cV5r hC (zMet_id (mk := fun a => mg σX2 a) (ctX9_area (zM_M σX2) e2) hid) (rcX9 hC) kb_X9_area km_L_52 ⟨by decide, by decide⟩ (Nat.le_of_ble_eq_true rfl) dL_law_430 ?_
      refine z_icmp_eq hC 744 (by decide) dL_law_433 (fun _ => ?_) (fun q => absurd rfl q)
      exact hnext σX2 σM2 hI2
    by_cases q8 : x = (8 : Int32)
    · -- roots
      obtain ⟨r, σX2, σM2, e1, e2, hI2⟩ := hs8 σX σM (xs (x3 + (1 : Int32)).toNatClampNeg) (xs (x3 + (2 : Int32)).toNatClampNeg) (xs (x3 + (3 : Int32)).toNatClampNeg) (xs (x3 + (4 : Int32)).toNatClampNeg) hI
      refine z_tabIn hC (405) 438 (by rw [q8]; decide) (by rw [q8]; decide) (by rw [q8]; decide +kernel) (by decide) dL_law_33 ?_
      refine z_aload_n hC 1 rfl rfl dL_law_438 ?_
      refine z_aload_n hC 0 rfl rfl dL_law_439 ?_
      refine z_iload_n hC 3 rfl rfl dL_law_440 ?_
      refine z_iconst hC (1 : Int32) (by decide) dL_law_441 ?_
      refine z_iadd hC dL_law_442 ?_
      refine z_sld hC hX (hi_ 1 (by decide) (by decide)) dL_law_443 ?_
      refine z_aload_n hC 0 rfl rfl dL_law_444 ?_
      refine z_iload_n hC 3 rfl rfl dL_law_445 ?_
      refine z_iconst hC (2 : Int32) (by decide) dL_law_446 ?_
      refine z_iadd hC dL_law_447 ?_
      refine z_sld hC hX (hi_ 2 (by decide) (by decide)) dL_law_448 ?_
      refine z_aload_n hC 0 rfl rfl dL_law_449 ?_
      refine z_iload_n hC 3 rfl rfl dL_law_450 ?_
      refine z_iconst hC (3 : Int32) (by decide) dL_law_451 ?_
      refine z_iadd hC dL_law_452 ?_
      refine z_sld hC hX (hi_ 3 (by decide) (by decide)) dL_law_453 ?_
      refine z_aload_n hC 0 rfl rfl dL_law_454 ?_
      refine z_iload_n hC 3 rfl rfl dL_law_455 ?_
      refine z_iconst hC (4 : Int32) (by decide) dL_law_456 ?_
      refine z_iadd hC dL_law_457 ?_
      refine z_sld hC hX (hi_ 4 (by decide) (by decide)) dL_law_458 ?_
      refine z_cV4r hC (zMet_id (mk := fun a => mg a σM) (ctX8_roots (zM_X σM) e1) hid) (rcX8 hC) kb_X8_roots km_L_53 ⟨by decide, by decide⟩ (Nat.le_of_ble_eq_true rfl) dL_law_459 ?_
      refine z_aload_n hC 2 rfl rfl dL_law_462 ?_
      refine z_aload_n hC 0 rfl rfl dL_law_463 ?_
      refine z_iload_n hC 3 rfl rfl dL_law_464 ?_
      refine z_iconst hC (1 : Int32) (by decide) dL_law_465 ?_
      refine z_iadd hC dL_law_466 ?_
      refine z_sld hC hX (hi_ 1 (by decide) (by decide)) dL_law_467 ?_
      refine z_aload_n hC 0 rfl rfl dL_law_468 ?_
      refine z_iload_n hC 3 rfl rfl dL_law_469 ?_
      refine z_iconst hC (2 : Int32) (by decide) dL_law_470 ?_
      refine z_iadd hC dL_law_471 ?_
      refine z_sld hC hX (hi_ 2 (by decide) (by decide)) dL_law_472 ?_
      refine z_aload_n hC 0 rfl rfl dL_law_473 ?_
      refine z_iload_n hC 3 rfl rfl dL_law_474 ?_
      refine z_iconst hC (3 : Int32) (by decide) dL_law_475 ?_
      refine z_iadd hC dL_law_476 ?_
      refine z_sld hC hX (hi_ 3 (by decide) (by decide)) dL_law_477 ?_
      refine z_aload_n hC 0 rfl rfl dL_law_478 ?_
      refine z_iload_n hC 3 rfl rfl dL_law_479 ?_
      refine z_iconst hC (4 : Int32) (by decide) dL_law_480 ?_
      refine z_iadd hC dL_law_481 ?_
      refine z_sld hC hX (hi_ 4 (by decide) (by decide)) dL_law_482 ?_
      refine z_cV4r hC (zMet_id (mk := fun a => mg σX2 a) (ctX9_roots (zM_M σX2) e2) hid) (rcX9 hC) kb_X9_roots km_L_57 ⟨by decide, by decide⟩ (Nat.le_of_ble_eq_true rfl) dL_law_483 ?_
      refine z_icmp_eq hC 744 (by decide) dL_law_486 (fun _ => ?_) (fun q => absurd rfl q)
      exact hnext σX2 σM2 hI2
    by_cases q9 : x = (9 : Int32)
    · -- part
      obtain ⟨r, e1, e2⟩ := hs9 σX σM (xs (x3 + (1 : Int32)).toNatClampNeg) (xs (x3 + (2 : Int32)).toNatClampNeg) hI
      refine z_tabIn hC (458) 491 (by rw [q9]; decide) (by rw [q9]; decide) (by rw [q9]; decide +kernel) (by decide) dL_law_33 ?_
      refine z_aload_n hC 1 rfl rfl dL_law_491 ?_
      refine z_aload_n hC 0 rfl rfl dL_law_492 ?_
      refine z_iload_n hC 3 rfl rfl dL_law_493 ?_
      refine z_iconst hC (1 : Int32) (by decide) dL_law_494 ?_
      refine z_iadd hC dL_law_495 ?_
      refine z_sld hC hX (hi_ 1 (by decide) (by decide)) dL_law_496 ?_
      refine z_aload_n hC 0 rfl rfl dL_law_497 ?_
      refine z_iload_n hC 3 rfl rfl dL_law_498 ?_
      refine z_iconst hC (2 : Int32) (by decide) dL_law_499 ?_
      refine z_iadd hC dL_law_500 ?_
      refine z_sld hC hX (hi_ 2 (by decide) (by decide)) dL_law_501 ?_
      refine z_cV2r hC (zMet_id (mk := fun a => mg a σM) (ctX8_part (zM_X σM) e1) hid) (rcX8 hC) kb_X8_part km_L_58 ⟨by decide, by decide⟩ (Nat.le_of_ble_eq_true rfl) dL_law_502 ?_
      refine z_aload_n hC 2 rfl rfl dL_law_505 ?_
      refine z_aload_n hC 0 rfl rfl dL_law_506 ?_
      refine z_iload_n hC 3 rfl rfl dL_law_507 ?_
      refine z_iconst hC (1 : Int32) (by decide) dL_law_508 ?_
      refine z_iadd hC dL_law_509 ?_
      refine z_sld hC hX (hi_ 1 (by decide) (by decide)) dL_law_510 ?_
      refine z_aload_n hC 0 rfl rfl dL_law_511 ?_
      refine z_iload_n hC 3 rfl rfl dL_law_512 ?_
      refine z_iconst hC (2 : Int32) (by decide) dL_law_513 ?_
      refine z_iadd hC dL_law_514 ?_
      refine z_sld hC hX (hi_ 2 (by decide) (by decide)) dL_law_515 ?_
      refine z_cV2r hC (zMet_id (mk := fun a => mg σX a) (ctX9_part_ (zM_M σX) e2) hid) (rcX9 hC) kb_X9_part_ km_L_61 ⟨by decide, by decide⟩ (Nat.le_of_ble_eq_true rfl) dL_law_516 ?_
      refine z_icmp_eq hC 744 (by decide) dL_law_519 (fun _ => ?_) (fun q => absurd rfl q)
      exact hnext σX σM hI
    by_cases q10 : x = (10 : Int32)
    · -- least
      obtain ⟨r, σX2, σM2, e1, e2, hI2⟩ := hs10 σX σM (xs (x3 + (1 : Int32)).toNatClampNeg) (xs (x3 + (2 : Int32)).toNatClampNeg) (xs (x3 + (3 : Int32)).toNatClampNeg) (xs (x3 + (4 : Int32)).toNatClampNeg) hI
      refine z_tabIn hC (491) 524 (by rw [q10]; decide) (by rw [q10]; decide) (by rw [q10]; decide +kernel) (by decide) dL_law_33 ?_
      refine z_aload_n hC 1 rfl rfl dL_law_524 ?_
      refine z_aload_n hC 0 rfl rfl dL_law_525 ?_
      refine z_iload_n hC 3 rfl rfl dL_law_526 ?_
      refine z_iconst hC (1 : Int32) (by decide) dL_law_527 ?_
      refine z_iadd hC dL_law_528 ?_
      refine z_sld hC hX (hi_ 1 (by decide) (by decide)) dL_law_529 ?_
      refine z_aload_n hC 0 rfl rfl dL_law_530 ?_
      refine z_iload_n hC 3 rfl rfl dL_law_531 ?_
      refine z_iconst hC (2 : Int32) (by decide) dL_law_532 ?_
      refine z_iadd hC dL_law_533 ?_
      refine z_sld hC hX (hi_ 2 (by decide) (by decide)) dL_law_534 ?_
      refine z_aload_n hC 0 rfl rfl dL_law_535 ?_
      refine z_iload_n hC 3 rfl rfl dL_law_536 ?_
      refine z_iconst hC (3 : Int32) (by decide) dL_law_537 ?_
      refine z_iadd hC dL_law_538 ?_
      refine z_sld hC hX (hi_ 3 (by decide) (by decide)) dL_law_539 ?_
      refine z_aload_n hC 0 rfl rfl dL_law_540 ?_
      refine z_iload_n hC 3 rfl rfl dL_law_541 ?_
      refine z_iconst hC (4 : Int32) (by decide) dL_law_542 ?_
      refine z_iadd hC dL_law_543 ?_
      refine z_sld hC hX (hi_ 4 (by decide) (by decide)) dL_law_544 ?_
      refine z_cV4r hC (zMet_id (mk := fun a => mg a σM) (ctX8_least (zM_X σM) e1) hid) (rcX8 hC) kb_X8_least km_L_62 ⟨by decide, by decide⟩ (Nat.le_of_ble_eq_true rfl) dL_law_545 ?_
      refine z_aload_n hC 2 rfl rfl dL_law_548 ?_
      refine z_aload_n hC 0 rfl rfl dL_law_549 ?_
      refine z_iload_n hC 3 rfl rfl dL_law_550 ?_
      refine z_iconst hC (1 : Int32) (by decide) dL_law_551 ?_
      refine z_iadd hC dL_law_552 ?_
      refine z_sld hC hX (hi_ 1 (by decide) (by decide)) dL_law_553 ?_
      refine z_aload_n hC 0 rfl rfl dL_law_554 ?_
      refine z_iload_n hC 3 rfl rfl dL_law_555 ?_
      refine z_iconst hC (2 : Int32) (by decide) dL_law_556 ?_
      refine z_iadd hC dL_law_557 ?_
      refine z_sld hC hX (hi_ 2 (by decide) (by decide)) dL_law_558 ?_
      refine z_aload_n hC 0 rfl rfl dL_law_559 ?_
      refine z_iload_n hC 3 rfl rfl dL_law_560 ?_
      refine z_iconst hC (3 : Int32) (by decide) dL_law_561 ?_
      refine z_iadd hC dL_law_562 ?_
      refine z_sld hC hX (hi_ 3 (by decide) (by decide)) dL_law_563 ?_
      refine z_aload_n hC 0 rfl rfl dL_law_564 ?_
      refine z_iload_n hC 3 rfl rfl dL_law_565 ?_
      refine z_iconst hC (4 : Int32) (by decide) dL_law_566 ?_
      refine z_iadd hC dL_law_567 ?_
      refine z_sld hC hX (hi_ 4 (by decide) (by decide)) dL_law_568 ?_
      refine z_cV4r hC (zMet_id (mk := fun a => mg σX2 a) (ctX9_least_ (zM_M σX2) e2) hid) (rcX9 hC) kb_X9_least_ km_L_65 ⟨by decide, by decide⟩ (Nat.le_of_ble_eq_true rfl) dL_law_569 ?_
      refine z_icmp_eq hC 744 (by decide) dL_law_572 (fun _ => ?_) (fun q => absurd rfl q)
      exact hnext σX2 σM2 hI2
    by_cases q11 : x = (11 : Int32)
    · -- greatest
      obtain ⟨r, σX2, σM2, e1, e2, hI2⟩ := hs11 σX σM (xs (x3 + (1 : Int32)).toNatClampNeg) (xs (x3 + (2 : Int32)).toNatClampNeg) (xs (x3 + (3 : Int32)).toNatClampNeg) (xs (x3 + (4 : Int32)).toNatClampNeg) hI
      refine z_tabIn hC (544) 577 (by rw [q11]; decide) (by rw [q11]; decide) (by rw [q11]; decide +kernel) (by decide) dL_law_33 ?_
      refine z_aload_n hC 1 rfl rfl dL_law_577 ?_
      refine z_aload_n hC 0 rfl rfl dL_law_578 ?_
      refine z_iload_n hC 3 rfl rfl dL_law_579 ?_
      refine z_iconst hC (1 : Int32) (by decide) dL_law_580 ?_
      refine z_iadd hC dL_law_581 ?_
      refine z_sld hC hX (hi_ 1 (by decide) (by decide)) dL_law_582 ?_
      refine z_aload_n hC 0 rfl rfl dL_law_583 ?_
      refine z_iload_n hC 3 rfl rfl dL_law_584 ?_
      refine z_iconst hC (2 : Int32) (by decide) dL_law_585 ?_
      refine z_iadd hC dL_law_586 ?_
      refine z_sld hC hX (hi_ 2 (by decide) (by decide)) dL_law_587 ?_
      refine z_aload_n hC 0 rfl rfl dL_law_588 ?_
      refine z_iload_n hC 3 rfl rfl dL_law_589 ?_
      refine z_iconst hC (3 : Int32) (by decide) dL_law_590 ?_
      refine z_iadd hC dL_law_591 ?_
      refine z_sld hC hX (hi_ 3 (by decide) (by decide)) dL_law_592 ?_
      refine z_aload_n hC 0 rfl rfl dL_law_593 ?_
      refine z_iload_n hC 3 rfl rfl dL_law_594 ?_
      refine z_iconst hC (4 : Int32) (by decide) dL_law_595 ?_
      refine z_iadd hC dL_law_596 ?_
      refine z_sld hC hX (hi_ 4 (by decide) (by decide)) dL_law_597 ?_
      refine z_cV4r hC (zMet_id (mk := fun a => mg a σM) (ctX8_greatest (zM_X σM) e1) hid) (rcX8 hC) kb_X8_greatest km_L_66 ⟨by decide, by decide⟩ (Nat.le_of_ble_eq_true rfl) dL_law_598 ?_
      refine z_aload_n hC 2 rfl rfl dL_law_601 ?_
      refine z_aload_n hC 0 rfl rfl dL_law_602 ?_
      refine z_iload_n hC 3 rfl rfl dL_law_603 ?_
      refine z_iconst hC (1 : Int32) (by decide) dL_law_604 ?_
      refine z_iadd hC dL_law_605 ?_
      refine z_sld hC hX (hi_ 1 (by decide) (by decide)) dL_law_606 ?_
      refine z_aload_n hC 0 rfl rfl dL_law_607 ?_
      refine z_iload_n hC 3 rfl rfl dL_law_608 ?_
      refine z_iconst hC (2 : Int32) (by decide) dL_law_609 ?_
      refine z_iadd hC dL_law_610 ?_
      refine z_sld hC hX (hi_ 2 (by decide) (by decide)) dL_law_611 ?_
      refine z_aload_n hC 0 rfl rfl dL_law_612 ?_
      refine z_iload_n hC 3 rfl rfl dL_law_613 ?_
      refine z_iconst hC (3 : Int32) (by decide) dL_law_614 ?_
      refine z_iadd hC dL_law_615 ?_
      refine z_sld hC hX (hi_ 3 (by decide) (by decide)) dL_law_616 ?_
      refine z_aload_n hC 0 rfl rfl dL_law_617 ?_
      refine z_iload_n hC 3 rfl rfl dL_law_618 ?_
      refine z_iconst hC (4 : Int32) (by decide) dL_law_619 ?_
      refine z_iadd hC dL_law_620 ?_
      refine z_sld hC hX (hi_ 4 (by decide) (by decide)) dL_law_621 ?_
      refine z_cV4r hC (zMet_id (mk := fun a => mg σX2 a) (ctX9_greatest (zM_M σX2) e2) hid) (rcX9 hC) kb_X9_greatest km_L_69 ⟨by decide, by decide⟩ (Nat.le_of_ble_eq_true rfl) dL_law_622 ?_
      refine z_icmp_eq hC 744 (by decide) dL_law_625 (fun _ => ?_) (fun q => absurd rfl q)
      exact hnext σX2 σM2 hI2
    by_cases q12 : x = (12 : Int32)
    · -- never
      obtain ⟨r, σX2, σM2, e1, e2, hI2⟩ := hs12 σX σM (xs (x3 + (1 : Int32)).toNatClampNeg) (xs (x3 + (2 : Int32)).toNatClampNeg) (xs (x3 + (3 : Int32)).toNatClampNeg) (xs (x3 + (4 : Int32)).toNatClampNeg) (xs (x3 + (5 : Int32)).toNatClampNeg) hI
      refine z_tabIn hC (597) 630 (by rw [q12]; decide) (by rw [q12]; decide) (by rw [q12]; decide +kernel) (by decide) dL_law_33 ?_
      refine z_aload_n hC 1 rfl rfl dL_law_630 ?_
      refine z_aload_n hC 0 rfl rfl dL_law_631 ?_
      refine z_iload_n hC 3 rfl rfl dL_law_632 ?_
      refine z_iconst hC (1 : Int32) (by decide) dL_law_633 ?_
      refine z_iadd hC dL_law_634 ?_
      refine z_sld hC hX (hi_ 1 (by decide) (by decide)) dL_law_635 ?_
      refine z_aload_n hC 0 rfl rfl dL_law_636 ?_
      refine z_iload_n hC 3 rfl rfl dL_law_637 ?_
      refine z_iconst hC (2 : Int32) (by decide) dL_law_638 ?_
      refine z_iadd hC dL_law_639 ?_
      refine z_sld hC hX (hi_ 2 (by decide) (by decide)) dL_law_640 ?_
      refine z_aload_n hC 0 rfl rfl dL_law_641 ?_
      refine z_iload_n hC 3 rfl rfl dL_law_642 ?_
      refine z_iconst hC (3 : Int32) (by decide) dL_law_643 ?_
      refine z_iadd hC dL_law_644 ?_
      refine z_sld hC hX (hi_ 3 (by decide) (by decide)) dL_law_645 ?_
      refine z_aload_n hC 0 rfl rfl dL_law_646 ?_
      refine z_iload_n hC 3 rfl rfl dL_law_647 ?_
      refine z_iconst hC (4 : Int32) (by decide) dL_law_648 ?_
      refine z_iadd hC dL_law_649 ?_
      refine z_sld hC hX (hi_ 4 (by decide) (by decide)) dL_law_650 ?_
      refine z_aload_n hC 0 rfl rfl dL_law_651 ?_
      refine z_iload_n hC 3 rfl rfl dL_law_652 ?_
      refine z_iconst hC (5 : Int32) (by decide) dL_law_653 ?_
      refine z_iadd hC dL_law_654 ?_
      refine z_sld hC hX (hi_ 5 (by decide) (by decide)) dL_law_655 ?_
      refine z_cV5r hC (zMet_id (mk := fun a => mg a σM) (ctX8_never (zM_X σM) e1) hid) (rcX8 hC) kb_X8_never km_L_70 ⟨by decide, by decide⟩ (Nat.le_of_ble_eq_true rfl) dL_law_656 ?_
      refine z_aload_n hC 2 rfl rfl dL_law_659 ?_
      refine z_aload_n hC 0 rfl rfl dL_law_660 ?_
      refine z_iload_n hC 3 rfl rfl dL_law_661 ?_
      refine z_iconst hC (1 : Int32) (by decide) dL_law_662 ?_
      refine z_iadd hC dL_law_663 ?_
      refine z_sld hC hX (hi_ 1 (by decide) (by decide)) dL_law_664 ?_
      refine z_aload_n hC 0 rfl rfl dL_law_665 ?_
      refine z_iload_n hC 3 rfl rfl dL_law_666 ?_
      refine z_iconst hC (2 : Int32) (by decide) dL_law_667 ?_
      refine z_iadd hC dL_law_668 ?_
      refine z_sld hC hX (hi_ 2 (by decide) (by decide)) dL_law_669 ?_
      refine z_aload_n hC 0 rfl rfl dL_law_670 ?_
      refine z_iload_n hC 3 rfl rfl dL_law_671 ?_
      refine z_iconst hC (3 : Int32) (by decide) dL_law_672 ?_
      refine z_iadd hC dL_law_673 ?_
      refine z_sld hC hX (hi_ 3 (by decide) (by decide)) dL_law_674 ?_
      refine z_aload_n hC 0 rfl rfl dL_law_675 ?_
      refine z_iload_n hC 3 rfl rfl dL_law_676 ?_
      refine z_iconst hC (4 : Int32) (by decide) dL_law_677 ?_
      refine z_iadd hC dL_law_678 ?_
      refine z_sld hC hX (hi_ 4 (by decide) (by decide)) dL_law_679 ?_
      refine z_aload_n hC 0 rfl rfl dL_law_680 ?_
      refine z_iload_n hC 3 rfl rfl dL_law_681 ?_
      refine z_iconst hC (5 : Int32) (by decide) dL_law_682 ?_
      refine z_iadd hC dL_law_683 ?_
      refine z_sld hC hX (hi_ 5 (by decide) (by decide)) dL_law_684 ?_
      refine z_cV5r hC (zMet_id (mk := fun a => mg σX2 a) (ctX9_never (zM_M σX2) e2) hid) (rcX9 hC) kb_X9_never km_L_73 ⟨by decide, by decide⟩ (Nat.le_of_ble_eq_true rfl) dL_law_685 ?_
      refine z_icmp_eq hC 744 (by decide) dL_law_688 (fun _ => ?_) (fun q => absurd rfl q)
      exact hnext σX2 σM2 hI2
    by_cases q13 : x = (13 : Int32)
    · -- low
      obtain ⟨r, e1, e2⟩ := hs13 σX σM  hI
      refine z_tabIn hC (660) 693 (by rw [q13]; decide) (by rw [q13]; decide) (by rw [q13]; decide +kernel) (by decide) dL_law_33 ?_
      refine z_aload_n hC 1 rfl rfl dL_law_693 ?_
      subst e1
      refine z_cV0r hC (zMet_id (mk := fun a => mg a σM) (ctX8_low (zM_X σM) ) hid) (rcX8 hC) kb_X8_low km_L_74 ⟨by decide, by decide⟩ (Nat.le_of_ble_eq_true rfl) dL_law_694 ?_
      refine z_aload_n hC 2 rfl rfl dL_law_697 ?_
      refine z_cV0r hC (zMet_id (mk := fun a => mg σX a) (ctX9_low (zM_M σX) ) hid) (rcX9 hC) kb_X9_low km_L_78 ⟨by decide, by decide⟩ (Nat.le_of_ble_eq_true rfl) dL_law_698 ?_
      refine z_cmp_eq hC 744 (by decide) dL_law_701 dL_law_702 (fun _ => ?_) (fun q => absurd e2.symm q)
      exact hnext σX σM hI
    by_cases q14 : x = (14 : Int32)
    · -- high
      obtain ⟨r, e1, e2⟩ := hs14 σX σM  hI
      refine z_tabIn hC (674) 707 (by rw [q14]; decide) (by rw [q14]; decide) (by rw [q14]; decide +kernel) (by decide) dL_law_33 ?_
      refine z_aload_n hC 1 rfl rfl dL_law_707 ?_
      subst e1
      refine z_cV0r hC (zMet_id (mk := fun a => mg a σM) (ctX8_high (zM_X σM) ) hid) (rcX8 hC) kb_X8_high km_L_79 ⟨by decide, by decide⟩ (Nat.le_of_ble_eq_true rfl) dL_law_708 ?_
      refine z_aload_n hC 2 rfl rfl dL_law_711 ?_
      refine z_cV0r hC (zMet_id (mk := fun a => mg σX a) (ctX9_high (zM_M σX) ) hid) (rcX9 hC) kb_X9_high km_L_82 ⟨by decide, by decide⟩ (Nat.le_of_ble_eq_true rfl) dL_law_712 ?_
      refine z_cmp_eq hC 744 (by decide) dL_law_715 dL_law_716 (fun _ => ?_) (fun q => absurd e2.symm q)
      exact hnext σX σM hI
    by_cases q15 : x = (15 : Int32)
    · -- count
      obtain ⟨r, e1, e2⟩ := hs15 σX σM (xs (x3 + (1 : Int32)).toNatClampNeg) hI
      refine z_tabIn hC (688) 721 (by rw [q15]; decide) (by rw [q15]; decide) (by rw [q15]; decide +kernel) (by decide) dL_law_33 ?_
      refine z_aload_n hC 1 rfl rfl dL_law_721 ?_
      refine z_aload_n hC 0 rfl rfl dL_law_722 ?_
      refine z_iload_n hC 3 rfl rfl dL_law_723 ?_
      refine z_iconst hC (1 : Int32) (by decide) dL_law_724 ?_
      refine z_iadd hC dL_law_725 ?_
      refine z_sld hC hX (hi_ 1 (by decide) (by decide)) dL_law_726 ?_
      subst e1
      refine z_cV1r hC (zMet_id (mk := fun a => mg a σM) (ctX8_count (zM_X σM) ) hid) (rcX8 hC) kb_X8_count km_L_83 ⟨by decide, by decide⟩ (Nat.le_of_ble_eq_true rfl) dL_law_727 ?_
      refine z_aload_n hC 2 rfl rfl dL_law_730 ?_
      refine z_aload_n hC 0 rfl rfl dL_law_731 ?_
      refine z_iload_n hC 3 rfl rfl dL_law_732 ?_
      refine z_iconst hC (1 : Int32) (by decide) dL_law_733 ?_
      refine z_iadd hC dL_law_734 ?_
      refine z_sld hC hX (hi_ 1 (by decide) (by decide)) dL_law_735 ?_
      refine z_cV1r hC (zMet_id (mk := fun a => mg σX a) (ctX9_count (zM_M σX) ) hid) (rcX9 hC) kb_X9_count km_L_86 ⟨by decide, by decide⟩ (Nat.le_of_ble_eq_true rfl) dL_law_736 ?_
      refine z_icmp_eq hC 744 (by decide) dL_law_739 (fun _ => ?_) (fun q => absurd e2.symm q)
      exact hnext σX σM hI
    refine z_tabD hC 16 744 (by decide) (fun i hi => by
      have hi2 : i = 0 ∨ i = 1 ∨ i = 2 ∨ i = 3 ∨ i = 4 ∨ i = 5 ∨ i = 6 ∨ i = 7 ∨ i = 8 ∨ i = 9 ∨ i = 10 ∨ i = 11 ∨ i = 12 ∨ i = 13 ∨ i = 14 ∨ i = 15 := by omega
      rcases hi2 with rfl | rfl | rfl | rfl | rfl | rfl | rfl | rfl | rfl | rfl | rfl | rfl | rfl | rfl | rfl | rfl
      · exact Or.inr (fun e => q0 (e.symm.trans (by decide)))
      · exact Or.inr (fun e => q1 (e.symm.trans (by decide)))
      · exact Or.inr (fun e => q2 (e.symm.trans (by decide)))
      · exact Or.inr (fun e => q3 (e.symm.trans (by decide)))
      · exact Or.inr (fun e => q4 (e.symm.trans (by decide)))
      · exact Or.inr (fun e => q5 (e.symm.trans (by decide)))
      · exact Or.inr (fun e => q6 (e.symm.trans (by decide)))
      · exact Or.inr (fun e => q7 (e.symm.trans (by decide)))
      · exact Or.inr (fun e => q8 (e.symm.trans (by decide)))
      · exact Or.inr (fun e => q9 (e.symm.trans (by decide)))
      · exact Or.inr (fun e => q10 (e.symm.trans (by decide)))
      · exact Or.inr (fun e => q11 (e.symm.trans (by decide)))
      · exact Or.inr (fun e => q12 (e.symm.trans (by decide)))
      · exact Or.inr (fun e => q13 (e.symm.trans (by decide)))
      · exact Or.inr (fun e => q14 (e.symm.trans (by decide)))
      · exact Or.inr (fun e => q15 (e.symm.trans (by decide)))) (by decide) dL_law_33 ?_
    exact hnext σX σM hI
