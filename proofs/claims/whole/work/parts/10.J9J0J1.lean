def zFU : Nat := 2 ^ 40
theorem z_ck {a : Nat} {i : Int32} (ha : a < 9) (h : vp_in i (zLen.getD a 0)) : ¬ i < 0 ∧ i < Int32.ofNat (zLen.getD a 0) := by
  have b : ∀ a, a < 9 → zLen.getD a 0 ≤ 7 := by decide
  have b1 := b a ha
  refine ⟨fun q => h (Or.inl q), ?_⟩
  have h1 : ¬ i < 0 := fun q => h (Or.inl q)
  have h2 : i.toInt.toNat < zLen.getD a 0 := Nat.not_le.mp fun q => h (Or.inr q)
  have e : (Int32.ofNat (zLen.getD a 0)).toInt = ((zLen.getD a 0 : Nat) : Int) := by
    rw [Int32.toInt_ofNat']
    have e1 : ((zLen.getD a 0 : Nat) : Int).bmod (2 ^ 32) = ((zLen.getD a 0 : Nat) : Int) := Int.bmod_eq_of_le (by omega) (by omega)
    exact e1
  have e0 : (0 : Int32).toInt = 0 := by decide
  rw [Int32.lt_iff_toInt_lt, e0] at h1
  rw [Int32.lt_iff_toInt_lt, e]
  omega
theorem ctJ3_checkIndex_8e157 {l : Launch} {G : zGt} {mk : zSt → zSt} {cl ch : Nat} (hm : zM mk cl ch) {a0 a1 : Int32} {w : Value} (hw : w = .null ∨ ∃ t, w = .ref t) {σ : zSt} (h0 : ¬ a0 < 0) (h1 : a0 < a1) : zMet l G mk yJ3_checkIndex_8e157 cJ3_checkIndex_8e157 3 (some .int) 0 0 [.int a0, .int a1, w] σ (some (.int a0)) σ := by
  have go : ∀ w : Value, (lg_sl [.int a0, .int a1, w]).length ≤ 3 → lv_pick (lv_args 0 [.int a0, .int a1, w]) [0, 1] = [(0, .int a0), (1, .int a1)] → zMet l G mk yJ3_checkIndex_8e157 cJ3_checkIndex_8e157 3 (some .int) 0 0 [.int a0, .int a1, w] σ (some (.int a0)) σ := by
    intro w hl hp
    refine zMet.of (plainFor_of_name (by decide +kernel)) hm hl (fun T eL eG eM hN hC hQ => ?_)
    subst eL; subst eG; subst eM
    refine z_sub [(0, .int a0), (1, .int a1)] [0, 1] hp ?_
    refine z_iload_n hC 0 rfl rfl dJ3_checkIndex_8e157_0 ?_
    refine z_if_lt hC 9 (by decide) dJ3_checkIndex_8e157_1 (fun q => absurd q h0) (fun q => ?_)
    refine z_iload_n hC 0 rfl rfl dJ3_checkIndex_8e157_4 ?_
    refine z_iload_n hC 1 rfl rfl dJ3_checkIndex_8e157_5 ?_
    refine z_icmp_lt hC 16 (by decide) dJ3_checkIndex_8e157_6 (fun q => ?_) (fun q => absurd h1 q)
    refine z_iload_n hC 0 rfl rfl dJ3_checkIndex_8e157_16 ?_
    exact z_iret hC hQ dJ3_checkIndex_8e157_17
  rcases hw with rfl | ⟨t, rfl⟩
  · exact go _ (Nat.le_of_ble_eq_true rfl) rfl
  · exact go _ (Nat.le_of_ble_eq_true rfl) rfl
theorem ctJ0_checkIndex_df160 {l : Launch} {G : zGt} {mk : zSt → zSt} {cl ch : Nat} (hm : zM mk cl ch) {a0 a1 : Int32} {σ : zSt} (h0 : ¬ a0 < 0) (h1 : a0 < a1) : zMet l G mk yJ0_checkIndex_df160 cJ0_checkIndex_df160 2 none 1 22 [.int a0, .int a1] σ none σ := by
  refine zMet.of (plainFor_of_name (by decide +kernel)) hm (Nat.le_of_ble_eq_true rfl) (fun T eL eG eM hN hC hQ => ?_)
  subst eL; subst eG; subst eM
  refine z_sub [(0, .int a0), (1, .int a1)] [0, 1] rfl ?_
  refine z_iload_n hC 0 rfl rfl dJ0_checkIndex_df160_0 ?_
  refine z_iload_n hC 1 rfl rfl dJ0_checkIndex_df160_1 ?_
  refine z_pf hC kf_J0_1053 dJ0_checkIndex_df160_2 (fun w hw => ?_)
  refine z_cS3r hC (ctJ3_checkIndex_8e157 hC.hm hw h0 h1) kb_J3_checkIndex_8e157 km_J0_1059 ⟨by decide, by decide⟩ (Nat.le_of_ble_eq_true rfl) dJ0_checkIndex_df160_5 ?_
  refine z_pop hC rfl dJ0_checkIndex_df160_8 ?_
  exact z_vret hC hQ dJ0_checkIndex_df160_9
noncomputable def fJ9_floorDiv_f86c9_0 (a0 : Int64) (a2 : Int64) : Option Int64 := zg (¬ a2 = 0) <| nm (a0 / a2) fun x3_2 => 
    (if (0 : Int64) ≤ (a0 ^^^ a2) then some x3_2
    else 
      (if (x3_2 * a2) = a0 then some x3_2
      else some (x3_2 - (1 : Int64))))
noncomputable def fJ9_floorDiv_f86c9 (a0 : Int64) (a2 : Int64) : Option Int64 := fJ9_floorDiv_f86c9_0 a0 a2
set_option maxRecDepth 100000 in
set_option maxHeartbeats 4000000 in
theorem wJ9_floorDiv_f86c9_0 {T : zX} {cl ch : Nat} {σ : zSt} (hC : zOk T cJ9_floorDiv_f86c9 RJ9 0 0 cl ch) (hN : zNL T = 6) {r : Int64} (hQ : zRes T (some .long) (some (.long r)) σ) (a0 : Int64) (a2 : Int64)  (h : fJ9_floorDiv_f86c9_0 a0 a2  = some r) : Z T σ 0 [(0, .long a0), (2, .long a2)] [] := by
  unfold fJ9_floorDiv_f86c9_0 at h
  refine z_lload_n hC 0 rfl rfl dJ9_floorDiv_f86c9_0 ?_
  refine z_lload_n hC 1 rfl rfl dJ9_floorDiv_f86c9_1 ?_
  refine z_g h (fun g2_1 h => ?_)
  refine z_ldiv hC g2_1 dJ9_floorDiv_f86c9_2 ?_
  refine z_nmL h (fun x3_2 h => ?_)
  refine z_lstore hC [(4, .long x3_2), (0, .long a0), (2, .long a2)] (by rw [hN]; decide) rfl dJ9_floorDiv_f86c9_3 ?_
  refine z_lload_n hC 1 rfl rfl dJ9_floorDiv_f86c9_5 ?_
  refine z_lload_n hC 2 rfl rfl dJ9_floorDiv_f86c9_6 ?_
  refine z_lxor hC dJ9_floorDiv_f86c9_7 ?_
  refine z_lconst hC (0 : Int64) (by decide) dJ9_floorDiv_f86c9_8 ?_
  refine z_cmp_ge hC 27 (by decide) dJ9_floorDiv_f86c9_9 dJ9_floorDiv_f86c9_10 (fun q9_3 => ?_) (fun q9_3 => ?_)
  · replace h := z_t q9_3 h
    refine z_lload hC 0 rfl dJ9_floorDiv_f86c9_27 ?_
    obtain rfl := z_so h
    exact z_lret hC hQ dJ9_floorDiv_f86c9_29
  · replace h := z_f q9_3 h
    refine z_lload hC 0 rfl dJ9_floorDiv_f86c9_13 ?_
    refine z_lload_n hC 2 rfl rfl dJ9_floorDiv_f86c9_15 ?_
    refine z_lmul hC dJ9_floorDiv_f86c9_16 ?_
    refine z_lload_n hC 1 rfl rfl dJ9_floorDiv_f86c9_17 ?_
    refine z_cmp_eq hC 27 (by decide) dJ9_floorDiv_f86c9_18 dJ9_floorDiv_f86c9_19 (fun q18_4 => ?_) (fun q18_4 => ?_)
    · replace h := z_t q18_4 h
      refine z_lload hC 0 rfl dJ9_floorDiv_f86c9_27 ?_
      obtain rfl := z_so h
      exact z_lret hC hQ dJ9_floorDiv_f86c9_29
    · replace h := z_f q18_4 h
      refine z_lload hC 0 rfl dJ9_floorDiv_f86c9_22 ?_
      refine z_lconst hC (1 : Int64) (by decide) dJ9_floorDiv_f86c9_24 ?_
      refine z_lsub hC dJ9_floorDiv_f86c9_25 ?_
      obtain rfl := z_so h
      exact z_lret hC hQ dJ9_floorDiv_f86c9_26
set_option maxRecDepth 100000 in
theorem ctJ9_floorDiv_f86c9 {l : Launch} {G : zGt} {mk : zSt → zSt} {cl ch : Nat} (hm : zM mk cl ch) {a0 : Int64} {a2 : Int64} {σ : zSt} {r : Int64} (h : fJ9_floorDiv_f86c9 a0 a2  = some r) : zMet l G mk yJ9_floorDiv_f86c9 cJ9_floorDiv_f86c9 6 (some .long) 0 0 [.long a0, .long a2] σ (some (.long r)) σ := by
  unfold fJ9_floorDiv_f86c9 at h

  refine zMet.of (by decide +kernel) hm (Nat.le_of_ble_eq_true rfl) (fun T eL eG eM hN hC hQ => ?_)
  subst eL; subst eG; subst eM
  refine z_sub [(0, .long a0), (2, .long a2)] [0, 1] rfl ?_
  exact wJ9_floorDiv_f86c9_0 hC hN hQ _ _  h
noncomputable def fJ0_coder_7d493_0 (i0 : Nat) : Option Int32 := some (0 : Int32)
noncomputable def fJ0_coder_7d493 (i0 : Nat) : Option Int32 := zg (i0 < 9) <| fJ0_coder_7d493_0 i0
set_option maxRecDepth 100000 in
set_option maxHeartbeats 4000000 in
theorem wJ0_coder_7d493_0 {T : zX} {cl ch : Nat} {σ : zSt} (hC : zOk T cJ0_coder_7d493 RJ0 0 0 cl ch) (hN : zNL T = 1) {r : Int32} (hQ : zRes T (some .byte) (some (.int r)) σ) (i0 : Nat) (hi_i0 : i0 < 9) (h : fJ0_coder_7d493_0 i0  = some r) : Z T σ 0 [(0, .ref (zSk T i0))] [] := by
  unfold fJ0_coder_7d493_0 at h
  refine z_cs hC kf_J0_38 dJ0_coder_7d493_0 ?_
  refine z_if_eq hC 13 (by decide) dJ0_coder_7d493_3 (fun q => absurd q (by decide)) (fun q => ?_)
  refine z_aload_n hC 0 rfl rfl dJ0_coder_7d493_6 ?_
  refine z_strCod hC hi_i0 kf_J0_15 dJ0_coder_7d493_7 ?_
  refine z_goto hC 14 (by decide) dJ0_coder_7d493_10 ?_
  obtain rfl := z_so h
  exact z_zret hC hQ dJ0_coder_7d493_14 (by decide)
set_option maxRecDepth 100000 in
theorem ctJ0_coder_7d493 {l : Launch} {G : zGt} {mk : zSt → zSt} {cl ch : Nat} (hm : zM mk cl ch) {i0 : Nat} {σ : zSt} {r : Int32} (h : fJ0_coder_7d493 i0  = some r) : zMet l G mk yJ0_coder_7d493 cJ0_coder_7d493 1 (some .byte) 0 0 [.ref (G.2.2.1 i0)] σ (some (.int r)) σ := by
  unfold fJ0_coder_7d493 at h
  refine z_g h (fun hi_i0 h => ?_)
  refine zMet.of (plainFor_of_name (by decide +kernel)) hm (Nat.le_of_ble_eq_true rfl) (fun T eL eG eM hN hC hQ => ?_)
  subst eL; subst eG; subst eM
  refine z_sub [(0, .ref (zSk T i0))] [0] rfl ?_
  exact wJ0_coder_7d493_0 hC hN hQ _ hi_i0 h
noncomputable def fJ0_length_8abf5_0 (i0 : Nat) : Option Int32 := bd1 (fJ0_coder_7d493 i0) fun r6_1 => some (jshrI (Int32.ofNat (zLen.getD i0 0)) r6_1)
noncomputable def fJ0_length_8abf5 (i0 : Nat) : Option Int32 := zg (i0 < 9) <| fJ0_length_8abf5_0 i0
set_option maxRecDepth 100000 in
set_option maxHeartbeats 4000000 in
theorem wJ0_length_8abf5_0 {T : zX} {cl ch : Nat} {σ : zSt} (hC : zOk T cJ0_length_8abf5 RJ0 1 20 cl ch) (hN : zNL T = 1) {r : Int32} (hQ : zRes T (some .int) (some (.int r)) σ) (i0 : Nat) (hi_i0 : i0 < 9) (h : fJ0_length_8abf5_0 i0  = some r) : Z T σ 0 [(0, .ref (zSk T i0))] [] := by
  unfold fJ0_length_8abf5_0 at h
  refine z_aload_n hC 0 rfl rfl dJ0_length_8abf5_0 ?_
  refine z_strVal hC hi_i0 kf_J0_9 dJ0_length_8abf5_1 ?_
  refine z_svLen hC hi_i0 dJ0_length_8abf5_4 ?_
  refine z_aload_n hC 0 rfl rfl dJ0_length_8abf5_5 ?_
  refine z_b1 h (fun r6_1 e_r6_1 h => ?_)
  refine z_cV0r hC (ctJ0_coder_7d493 hC.hm e_r6_1) (rcJ0 hC hi_i0) kb_J0_coder_7d493 km_J0_335 ⟨by decide, by decide⟩ (Nat.le_of_ble_eq_true rfl) dJ0_length_8abf5_6 ?_
  refine z_ishr hC dJ0_length_8abf5_9 ?_
  obtain rfl := z_so h
  exact z_iret hC hQ dJ0_length_8abf5_10
set_option maxRecDepth 100000 in
theorem ctJ0_length_8abf5 {l : Launch} {G : zGt} {mk : zSt → zSt} {cl ch : Nat} (hm : zM mk cl ch) {i0 : Nat} {σ : zSt} {r : Int32} (h : fJ0_length_8abf5 i0  = some r) : zMet l G mk yJ0_length_8abf5 cJ0_length_8abf5 1 (some .int) 1 20 [.ref (G.2.2.1 i0)] σ (some (.int r)) σ := by
  unfold fJ0_length_8abf5 at h
  refine z_g h (fun hi_i0 h => ?_)
  refine zMet.of (plainFor_of_name (by decide +kernel)) hm (Nat.le_of_ble_eq_true rfl) (fun T eL eG eM hN hC hQ => ?_)
  subst eL; subst eG; subst eM
  refine z_sub [(0, .ref (zSk T i0))] [0] rfl ?_
  exact wJ0_length_8abf5_0 hC hN hQ _ hi_i0 h
noncomputable def fJ0_isLatin1_aae02_0 (i0 : Nat) : Option Int32 := some (1 : Int32)
noncomputable def fJ0_isLatin1_aae02 (i0 : Nat) : Option Int32 := zg (i0 < 9) <| fJ0_isLatin1_aae02_0 i0
set_option maxRecDepth 100000 in
set_option maxHeartbeats 4000000 in
theorem wJ0_isLatin1_aae02_0 {T : zX} {cl ch : Nat} {σ : zSt} (hC : zOk T cJ0_isLatin1_aae02 RJ0 0 0 cl ch) (hN : zNL T = 1) {r : Int32} (hQ : zRes T (some .boolean) (some (.int r)) σ) (i0 : Nat) (hi_i0 : i0 < 9) (h : fJ0_isLatin1_aae02_0 i0  = some r) : Z T σ 0 [(0, .ref (zSk T i0))] [] := by
  unfold fJ0_isLatin1_aae02_0 at h
  refine z_cs hC kf_J0_38 dJ0_isLatin1_aae02_0 ?_
  refine z_if_eq hC 17 (by decide) dJ0_isLatin1_aae02_3 (fun q => absurd q (by decide)) (fun q => ?_)
  refine z_aload_n hC 0 rfl rfl dJ0_isLatin1_aae02_6 ?_
  refine z_strCod hC hi_i0 kf_J0_15 dJ0_isLatin1_aae02_7 ?_
  refine z_if_ne hC 17 (by decide) dJ0_isLatin1_aae02_10 (fun q => absurd q (by decide)) (fun q => ?_)
  refine z_iconst hC (1 : Int32) (by decide) dJ0_isLatin1_aae02_13 ?_
  refine z_goto hC 18 (by decide) dJ0_isLatin1_aae02_14 ?_
  obtain rfl := z_so h
  exact z_zret hC hQ dJ0_isLatin1_aae02_18 (by decide)
set_option maxRecDepth 100000 in
theorem ctJ0_isLatin1_aae02 {l : Launch} {G : zGt} {mk : zSt → zSt} {cl ch : Nat} (hm : zM mk cl ch) {i0 : Nat} {σ : zSt} {r : Int32} (h : fJ0_isLatin1_aae02 i0  = some r) : zMet l G mk yJ0_isLatin1_aae02 cJ0_isLatin1_aae02 1 (some .boolean) 0 0 [.ref (G.2.2.1 i0)] σ (some (.int r)) σ := by
  unfold fJ0_isLatin1_aae02 at h
  refine z_g h (fun hi_i0 h => ?_)
  refine zMet.of (plainFor_of_name (by decide +kernel)) hm (Nat.le_of_ble_eq_true rfl) (fun T eL eG eM hN hC hQ => ?_)
  subst eL; subst eG; subst eM
  refine z_sub [(0, .ref (zSk T i0))] [0] rfl ?_
  exact wJ0_isLatin1_aae02_0 hC hN hQ _ hi_i0 h
noncomputable def fJ1_charAt_3b067_0 (a0 : Nat) (a1 : Int32) : Option Int32 := zg (vp_in a1 (zLen.getD a0 0)) <| zg (vp_in a1 (zLen.getD a0 0)) <| nm ((((zByt.getD a0 []).getD a1.toNatClampNeg 0) &&& (255 : Int32)).toUInt32 % 65536).toInt32 fun x13_3 => zg (narrow .char (.int x13_3) = .int x13_3) <| some x13_3
noncomputable def fJ1_charAt_3b067 (a0 : Nat) (a1 : Int32) : Option Int32 := zg (a0 < 9) <| fJ1_charAt_3b067_0 a0 a1
set_option maxRecDepth 100000 in
set_option maxHeartbeats 4000000 in
theorem wJ1_charAt_3b067_0 {T : zX} {cl ch : Nat} {σ : zSt} (hC : zOk T cJ1_charAt_3b067 RJ1 2 43 cl ch) (hN : zNL T = 2) {r : Int32} (hQ : zRes T (some .char) (some (.int r)) σ) (a0 : Nat) (a1 : Int32) (hi_a0 : a0 < 9) (h : fJ1_charAt_3b067_0 a0 a1  = some r) : Z T σ 0 [(0, .ref (zSv T a0)), (1, .int a1)] [] := by
  unfold fJ1_charAt_3b067_0 at h
  refine z_iload_n hC 1 rfl rfl dJ1_charAt_3b067_0 ?_
  refine z_aload_n hC 0 rfl rfl dJ1_charAt_3b067_1 ?_
  refine z_svLen hC hi_a0 dJ1_charAt_3b067_2 ?_
  refine z_g h (fun g3_1 h => ?_)
  refine z_cS2v hC (ctJ0_checkIndex_df160 hC.hm (z_ck hi_a0 g3_1).1 (z_ck hi_a0 g3_1).2) kb_J0_checkIndex_df160 km_J1_9 ⟨by decide, by decide⟩ (Nat.le_of_ble_eq_true rfl) dJ1_charAt_3b067_3 ?_
  refine z_aload_n hC 0 rfl rfl dJ1_charAt_3b067_6 ?_
  refine z_iload_n hC 1 rfl rfl dJ1_charAt_3b067_7 ?_
  refine z_g h (fun g8_2 h => ?_)
  refine z_svLd hC hi_a0 g8_2 dJ1_charAt_3b067_8 ?_
  refine z_sipush hC (255 : Int32) (by decide) dJ1_charAt_3b067_9 ?_
  refine z_iand hC dJ1_charAt_3b067_12 ?_
  refine z_i2c hC dJ1_charAt_3b067_13 ?_
  refine z_nmI h (fun x13_3 h => ?_)
  refine z_g h (fun g14_4 h => ?_)
  obtain rfl := z_so h
  exact z_zret hC hQ dJ1_charAt_3b067_14 g14_4
set_option maxRecDepth 100000 in
theorem ctJ1_charAt_3b067 {l : Launch} {G : zGt} {mk : zSt → zSt} {cl ch : Nat} (hm : zM mk cl ch) {a0 : Nat} {a1 : Int32} {σ : zSt} {r : Int32} (h : fJ1_charAt_3b067 a0 a1  = some r) : zMet l G mk yJ1_charAt_3b067 cJ1_charAt_3b067 2 (some .char) 2 43 [.ref (G.2.2.2.1 a0), .int a1] σ (some (.int r)) σ := by
  unfold fJ1_charAt_3b067 at h
  refine z_g h (fun hi_a0 h => ?_)
  refine zMet.of (plainFor_of_name (by decide +kernel)) hm (Nat.le_of_ble_eq_true rfl) (fun T eL eG eM hN hC hQ => ?_)
  subst eL; subst eG; subst eM
  refine z_sub [(0, .ref (zSv T a0)), (1, .int a1)] [0, 1] rfl ?_
  exact wJ1_charAt_3b067_0 hC hN hQ _ _ hi_a0 h
noncomputable def fJ0_charAt_5068e_0 (i0 : Nat) (a1 : Int32) : Option Int32 := bd1 (fJ0_isLatin1_aae02 i0) fun r1_1 => 
    (if r1_1 = 0 then none
    else bd1 (fJ1_charAt_3b067 i0 a1) fun r12_3 => zg (narrow .char (.int r12_3) = .int r12_3) <| some r12_3)
noncomputable def fJ0_charAt_5068e (i0 : Nat) (a1 : Int32) : Option Int32 := zg (i0 < 9) <| fJ0_charAt_5068e_0 i0 a1
set_option maxRecDepth 100000 in
set_option maxHeartbeats 4000000 in
theorem wJ0_charAt_5068e_0 {T : zX} {cl ch : Nat} {σ : zSt} (hC : zOk T cJ0_charAt_5068e RJ0 3 64 cl ch) (hN : zNL T = 2) {r : Int32} (hQ : zRes T (some .char) (some (.int r)) σ) (i0 : Nat) (a1 : Int32) (hi_i0 : i0 < 9) (h : fJ0_charAt_5068e_0 i0 a1  = some r) : Z T σ 0 [(0, .ref (zSk T i0)), (1, .int a1)] [] := by
  unfold fJ0_charAt_5068e_0 at h
  refine z_aload_n hC 0 rfl rfl dJ0_charAt_5068e_0 ?_
  refine z_b1 h (fun r1_1 e_r1_1 h => ?_)
  refine z_cV0r hC (ctJ0_isLatin1_aae02 hC.hm e_r1_1) (rcJ0 hC hi_i0) kb_J0_isLatin1_aae02 km_J0_492 ⟨by decide, by decide⟩ (Nat.le_of_ble_eq_true rfl) dJ0_charAt_5068e_1 ?_
  refine z_if_eq hC 16 (by decide) dJ0_charAt_5068e_4 (fun q4_2 => ?_) (fun q4_2 => ?_)
  · replace h := z_t q4_2 h
    refine z_aload_n hC 0 rfl rfl dJ0_charAt_5068e_16 ?_
    refine z_strVal hC hi_i0 kf_J0_9 dJ0_charAt_5068e_17 ?_
    refine z_iload_n hC 1 rfl rfl dJ0_charAt_5068e_20 ?_
    cases h
  · replace h := z_f q4_2 h
    refine z_aload_n hC 0 rfl rfl dJ0_charAt_5068e_7 ?_
    refine z_strVal hC hi_i0 kf_J0_9 dJ0_charAt_5068e_8 ?_
    refine z_iload_n hC 1 rfl rfl dJ0_charAt_5068e_11 ?_
    refine z_b1 h (fun r12_3 e_r12_3 h => ?_)
    refine z_cS2r hC (ctJ1_charAt_3b067 hC.hm e_r12_3) kb_J1_charAt_3b067 km_J0_495 ⟨by decide, by decide⟩ (Nat.le_of_ble_eq_true rfl) dJ0_charAt_5068e_12 ?_
    refine z_g h (fun g15_4 h => ?_)
    obtain rfl := z_so h
    exact z_zret hC hQ dJ0_charAt_5068e_15 g15_4
set_option maxRecDepth 100000 in
theorem ctJ0_charAt_5068e {l : Launch} {G : zGt} {mk : zSt → zSt} {cl ch : Nat} (hm : zM mk cl ch) {i0 : Nat} {a1 : Int32} {σ : zSt} {r : Int32} (h : fJ0_charAt_5068e i0 a1  = some r) : zMet l G mk yJ0_charAt_5068e cJ0_charAt_5068e 2 (some .char) 3 64 [.ref (G.2.2.1 i0), .int a1] σ (some (.int r)) σ := by
  unfold fJ0_charAt_5068e at h
  refine z_g h (fun hi_i0 h => ?_)
  refine zMet.of (plainFor_of_name (by decide +kernel)) hm (Nat.le_of_ble_eq_true rfl) (fun T eL eG eM hN hC hQ => ?_)
  subst eL; subst eG; subst eM
  refine z_sub [(0, .ref (zSk T i0)), (1, .int a1)] [0, 1] rfl ?_
  exact wJ0_charAt_5068e_0 hC hN hQ _ _ hi_i0 h
