noncomputable def fX5_of_0 (a0 : Int64) (a2 : Int64) : Int64 := 
    (if a0 < (-2147483648 : Int64) then (4294967296 : Int64)
    else 
      (if (2147483647 : Int64) < a2 then (4294967296 : Int64)
      else 
        (if a0 ≤ a2 then ((jshlL a0 (32 : Int32)) ||| (a2 &&& (4294967295 : Int64)))
        else (4294967296 : Int64))))
noncomputable def fX5_of (a0 : Int64) (a2 : Int64) : Int64 := fX5_of_0 a0 a2
set_option maxRecDepth 100000 in
set_option maxHeartbeats 4000000 in
theorem wX5_of_0 {T : zX} {cl ch : Nat} {σ : zSt} (hC : zOk T cX5_of RX5 0 0 cl ch) (hN : zNL T = 4) {r : Int64} (hQ : zRes T (some .long) (some (.long r)) σ) (a0 : Int64) (a2 : Int64)  (h : fX5_of_0 a0 a2  = r) : Z T σ 0 [(0, .long a0), (2, .long a2)] [] := by
  unfold fX5_of_0 at h
  refine z_lload_n hC 0 rfl rfl dX5_of_0 ?_
  refine z_ldc2 hC kc_X5_9 dX5_of_1 ?_
  refine z_cmp_lt hC 22 (by decide) dX5_of_4 dX5_of_5 (fun q4_1 => ?_) (fun q4_1 => ?_)
  · replace h := z_t q4_1 h
    refine z_ldc2 hC kc_X5_15 dX5_of_22 ?_
    subst h
    exact z_lret hC hQ dX5_of_25
  · replace h := z_f q4_1 h
    refine z_lload_n hC 1 rfl rfl dX5_of_8 ?_
    refine z_ldc2 hC kc_X5_11 dX5_of_9 ?_
    refine z_cmp_gt hC 22 (by decide) dX5_of_12 dX5_of_13 (fun q12_2 => ?_) (fun q12_2 => ?_)
    · replace h := z_t q12_2 h
      refine z_ldc2 hC kc_X5_15 dX5_of_22 ?_
      subst h
      exact z_lret hC hQ dX5_of_25
    · replace h := z_f q12_2 h
      refine z_lload_n hC 0 rfl rfl dX5_of_16 ?_
      refine z_lload_n hC 1 rfl rfl dX5_of_17 ?_
      refine z_cmp_le hC 26 (by decide) dX5_of_18 dX5_of_19 (fun q18_3 => ?_) (fun q18_3 => ?_)
      · replace h := z_t q18_3 h
        refine z_lload_n hC 0 rfl rfl dX5_of_26 ?_
        refine z_bipush hC (32 : Int32) (by decide) dX5_of_27 ?_
        refine z_lshl hC dX5_of_29 ?_
        refine z_lload_n hC 1 rfl rfl dX5_of_30 ?_
        refine z_ldc2 hC kc_X5_17 dX5_of_31 ?_
        refine z_land hC dX5_of_34 ?_
        refine z_lor hC dX5_of_35 ?_
        subst h
        exact z_lret hC hQ dX5_of_36
      · replace h := z_f q18_3 h
        refine z_ldc2 hC kc_X5_15 dX5_of_22 ?_
        subst h
        exact z_lret hC hQ dX5_of_25
set_option maxRecDepth 100000 in
theorem ctX5_of {l : Launch} {G : zGt} {mk : zSt → zSt} {cl ch : Nat} (hm : zM mk cl ch) {a0 : Int64} {a2 : Int64} {σ : zSt} : zMet l G mk yX5_of cX5_of 4 (some .long) 0 0 [.long a0, .long a2] σ (some (.long (fX5_of a0 a2 ))) σ := by

  refine zMet.of (plainFor_of_name (by decide +kernel)) hm (Nat.le_of_ble_eq_true rfl) (fun T eL eG eM hN hC hQ => ?_)
  subst eL; subst eG; subst eM
  refine z_sub [(0, .long a0), (2, .long a2)] [0, 1] rfl ?_
  exact wX5_of_0 hC hN hQ _ _  rfl
noncomputable def fX5_highOf_0 (a0 : Int64) : Int64 := (Int32.toInt64 (Int64.toInt32 a0))
noncomputable def fX5_highOf (a0 : Int64) : Int64 := fX5_highOf_0 a0
set_option maxRecDepth 100000 in
set_option maxHeartbeats 4000000 in
theorem wX5_highOf_0 {T : zX} {cl ch : Nat} {σ : zSt} (hC : zOk T cX5_highOf RX5 0 0 cl ch) (hN : zNL T = 2) {r : Int64} (hQ : zRes T (some .long) (some (.long r)) σ) (a0 : Int64)  (h : fX5_highOf_0 a0  = r) : Z T σ 0 [(0, .long a0)] [] := by
  unfold fX5_highOf_0 at h
  refine z_lload_n hC 0 rfl rfl dX5_highOf_0 ?_
  refine z_l2i hC dX5_highOf_1 ?_
  refine z_i2l hC dX5_highOf_2 ?_
  subst h
  exact z_lret hC hQ dX5_highOf_3
set_option maxRecDepth 100000 in
theorem ctX5_highOf {l : Launch} {G : zGt} {mk : zSt → zSt} {cl ch : Nat} (hm : zM mk cl ch) {a0 : Int64} {σ : zSt} : zMet l G mk yX5_highOf cX5_highOf 2 (some .long) 0 0 [.long a0] σ (some (.long (fX5_highOf a0 ))) σ := by

  refine zMet.of (plainFor_of_name (by decide +kernel)) hm (Nat.le_of_ble_eq_true rfl) (fun T eL eG eM hN hC hQ => ?_)
  subst eL; subst eG; subst eM
  refine z_sub [(0, .long a0)] [0] rfl ?_
  exact wX5_highOf_0 hC hN hQ _  rfl
noncomputable def fX5_lowOf_0 (a0 : Int64) : Int64 := (jshrL a0 (32 : Int32))
noncomputable def fX5_lowOf (a0 : Int64) : Int64 := fX5_lowOf_0 a0
set_option maxRecDepth 100000 in
set_option maxHeartbeats 4000000 in
theorem wX5_lowOf_0 {T : zX} {cl ch : Nat} {σ : zSt} (hC : zOk T cX5_lowOf RX5 0 0 cl ch) (hN : zNL T = 2) {r : Int64} (hQ : zRes T (some .long) (some (.long r)) σ) (a0 : Int64)  (h : fX5_lowOf_0 a0  = r) : Z T σ 0 [(0, .long a0)] [] := by
  unfold fX5_lowOf_0 at h
  refine z_lload_n hC 0 rfl rfl dX5_lowOf_0 ?_
  refine z_bipush hC (32 : Int32) (by decide) dX5_lowOf_1 ?_
  refine z_lshr hC dX5_lowOf_3 ?_
  subst h
  exact z_lret hC hQ dX5_lowOf_4
set_option maxRecDepth 100000 in
theorem ctX5_lowOf {l : Launch} {G : zGt} {mk : zSt → zSt} {cl ch : Nat} (hm : zM mk cl ch) {a0 : Int64} {σ : zSt} : zMet l G mk yX5_lowOf cX5_lowOf 2 (some .long) 0 0 [.long a0] σ (some (.long (fX5_lowOf a0 ))) σ := by

  refine zMet.of (plainFor_of_name (by decide +kernel)) hm (Nat.le_of_ble_eq_true rfl) (fun T eL eG eM hN hC hQ => ?_)
  subst eL; subst eG; subst eM
  refine z_sub [(0, .long a0)] [0] rfl ?_
  exact wX5_lowOf_0 hC hN hQ _  rfl
noncomputable def fX5_turned_0 (a0 : Int64) : Int64 := 
    (if a0 = (4294967296 : Int64) then (4294967296 : Int64)
    else (fX5_of (-(fX5_highOf a0)) (-(fX5_lowOf a0))))
noncomputable def fX5_turned (a0 : Int64) : Int64 := fX5_turned_0 a0
set_option maxRecDepth 100000 in
set_option maxHeartbeats 4000000 in
theorem wX5_turned_0 {T : zX} {cl ch : Nat} {σ : zSt} (hC : zOk T cX5_turned RX5 1 23 cl ch) (hN : zNL T = 2) {r : Int64} (hQ : zRes T (some .long) (some (.long r)) σ) (a0 : Int64)  (h : fX5_turned_0 a0  = r) : Z T σ 0 [(0, .long a0)] [] := by
  unfold fX5_turned_0 at h
  refine z_lload_n hC 0 rfl rfl dX5_turned_0 ?_
  refine z_ldc2 hC kc_X5_15 dX5_turned_1 ?_
  refine z_cmp_ne hC 14 (by decide) dX5_turned_4 dX5_turned_5 (fun q4_1 => ?_) (fun q4_1 => ?_)
  · replace h := z_f q4_1 h
    refine z_lload_n hC 0 rfl rfl dX5_turned_14 ?_
    refine z_cS1r hC (ctX5_highOf hC.hm) kb_X5_highOf km_X5_23 ⟨by decide, by decide⟩ (Nat.le_of_ble_eq_true rfl) dX5_turned_15 ?_
    refine z_lneg hC dX5_turned_18 ?_
    refine z_lload_n hC 0 rfl rfl dX5_turned_19 ?_
    refine z_cS1r hC (ctX5_lowOf hC.hm) kb_X5_lowOf km_X5_19 ⟨by decide, by decide⟩ (Nat.le_of_ble_eq_true rfl) dX5_turned_20 ?_
    refine z_lneg hC dX5_turned_23 ?_
    refine z_cS2r hC (ctX5_of hC.hm) kb_X5_of km_X5_30 ⟨by decide, by decide⟩ (Nat.le_of_ble_eq_true rfl) dX5_turned_24 ?_
    subst h
    exact z_lret hC hQ dX5_turned_27
  · replace h := z_t q4_1 h
    refine z_ldc2 hC kc_X5_15 dX5_turned_8 ?_
    refine z_goto hC 27 (by decide) dX5_turned_11 ?_
    subst h
    exact z_lret hC hQ dX5_turned_27
set_option maxRecDepth 100000 in
theorem ctX5_turned {l : Launch} {G : zGt} {mk : zSt → zSt} {cl ch : Nat} (hm : zM mk cl ch) {a0 : Int64} {σ : zSt} : zMet l G mk yX5_turned cX5_turned 2 (some .long) 1 23 [.long a0] σ (some (.long (fX5_turned a0 ))) σ := by

  refine zMet.of (plainFor_of_name (by decide +kernel)) hm (Nat.le_of_ble_eq_true rfl) (fun T eL eG eM hN hC hQ => ?_)
  subst eL; subst eG; subst eM
  refine z_sub [(0, .long a0)] [0] rfl ?_
  exact wX5_turned_0 hC hN hQ _  rfl
noncomputable def fX5_grownDown_6 (K6 : Int64 → Int64 → Int64 → Int64 → Option Int64) (v0 : Int64) (v2 : Int64) (v4 : Int64) (v6 : Int64) : Option Int64 := 
    (if v2 ≤ v6 then 
      (if v4 ≤ (2147483648 : Int64) then some v4
      else some (1099511627776 : Int64))
    else 
      (if (2147483648 : Int64) < v4 then 
        (if v4 ≤ (2147483648 : Int64) then some v4
        else some (1099511627776 : Int64))
      else nm (jshrL (v4 * v0) (20 : Int32)) fun x29_5 => nm (v6 + (1 : Int64)) fun x35_6 => K6 v0 v2 x29_5 x35_6))
noncomputable def fX5_grownDown_L6 : Nat → Int64 → Int64 → Int64 → Int64 → Option Int64
  | 0, _, _, _, _ => none
  | n + 1, v0, v2, v4, v6 => fX5_grownDown_6 (fX5_grownDown_L6 n) v0 v2 v4 v6 
noncomputable def fX5_grownDown_0 (a0 : Int64) (a2 : Int64) : Option Int64 := fX5_grownDown_L6 zFU a0 a2 a0 (1 : Int64)
noncomputable def fX5_grownDown (a0 : Int64) (a2 : Int64) : Option Int64 := fX5_grownDown_0 a0 a2
set_option maxRecDepth 100000 in
set_option maxHeartbeats 4000000 in
theorem wX5_grownDown_6 {T : zX} {cl ch : Nat} {σ : zSt} (hC : zOk T cX5_grownDown RX5 0 0 cl ch) (hN : zNL T = 8) {r : Int64} (hQ : zRes T (some .long) (some (.long r)) σ) (K6 : Int64 → Int64 → Int64 → Int64 → Option Int64) (hK6 : ∀ (v0 : Int64) (v2 : Int64) (v4 : Int64) (v6 : Int64), K6 v0 v2 v4 v6  = some r → Z T σ 6 [(0, .long v0), (2, .long v2), (4, .long v4), (6, .long v6)] []) (v0 : Int64) (v2 : Int64) (v4 : Int64) (v6 : Int64)  (h : fX5_grownDown_6 K6 v0 v2 v4 v6  = some r) : Z T σ 6 [(0, .long v0), (2, .long v2), (4, .long v4), (6, .long v6)] [] := by
  unfold fX5_grownDown_6 at h
  refine z_lload hC 3 rfl dX5_grownDown_6 ?_
  refine z_lload_n hC 1 rfl rfl dX5_grownDown_8 ?_
  refine z_cmp_ge hC 40 (by decide) dX5_grownDown_9 dX5_grownDown_10 (fun q9_1 => ?_) (fun q9_1 => ?_)
  · replace h := z_t q9_1 h
    refine z_lload hC 2 rfl dX5_grownDown_40 ?_
    refine z_ldc2 hC kc_X5_58 dX5_grownDown_42 ?_
    refine z_cmp_le hC 55 (by decide) dX5_grownDown_45 dX5_grownDown_46 (fun q45_2 => ?_) (fun q45_2 => ?_)
    · replace h := z_t q45_2 h
      refine z_lload hC 2 rfl dX5_grownDown_55 ?_
      obtain rfl := z_so h
      exact z_lret hC hQ dX5_grownDown_57
    · replace h := z_f q45_2 h
      refine z_ldc2 hC kc_X5_60 dX5_grownDown_49 ?_
      refine z_goto hC 57 (by decide) dX5_grownDown_52 ?_
      obtain rfl := z_so h
      exact z_lret hC hQ dX5_grownDown_57
  · replace h := z_f q9_1 h
    refine z_lload hC 2 rfl dX5_grownDown_13 ?_
    refine z_ldc2 hC kc_X5_58 dX5_grownDown_15 ?_
    refine z_cmp_gt hC 40 (by decide) dX5_grownDown_18 dX5_grownDown_19 (fun q18_3 => ?_) (fun q18_3 => ?_)
    · replace h := z_t q18_3 h
      refine z_lload hC 2 rfl dX5_grownDown_40 ?_
      refine z_ldc2 hC kc_X5_58 dX5_grownDown_42 ?_
      refine z_cmp_le hC 55 (by decide) dX5_grownDown_45 dX5_grownDown_46 (fun q45_4 => ?_) (fun q45_4 => ?_)
      · replace h := z_t q45_4 h
        refine z_lload hC 2 rfl dX5_grownDown_55 ?_
        obtain rfl := z_so h
        exact z_lret hC hQ dX5_grownDown_57
      · replace h := z_f q45_4 h
        refine z_ldc2 hC kc_X5_60 dX5_grownDown_49 ?_
        refine z_goto hC 57 (by decide) dX5_grownDown_52 ?_
        obtain rfl := z_so h
        exact z_lret hC hQ dX5_grownDown_57
    · replace h := z_f q18_3 h
      refine z_lload hC 2 rfl dX5_grownDown_22 ?_
      refine z_lload_n hC 0 rfl rfl dX5_grownDown_24 ?_
      refine z_lmul hC dX5_grownDown_25 ?_
      refine z_bipush hC (20 : Int32) (by decide) dX5_grownDown_26 ?_
      refine z_lshr hC dX5_grownDown_28 ?_
      refine z_nmL h (fun x29_5 h => ?_)
      refine z_lstore hC [(4, .long x29_5), (0, .long v0), (2, .long v2), (6, .long v6)] (by rw [hN]; decide) rfl dX5_grownDown_29 ?_
      refine z_lload hC 3 rfl dX5_grownDown_31 ?_
      refine z_lconst hC (1 : Int64) (by decide) dX5_grownDown_33 ?_
      refine z_ladd hC dX5_grownDown_34 ?_
      refine z_nmL h (fun x35_6 h => ?_)
      refine z_lstore hC [(6, .long x35_6), (4, .long x29_5), (0, .long v0), (2, .long v2)] (by rw [hN]; decide) rfl dX5_grownDown_35 ?_
      refine z_goto hC 6 (by decide) dX5_grownDown_37 ?_
      refine z_sub [(0, .long v0), (2, .long v2), (4, .long x29_5), (6, .long x35_6)] [2, 3, 1, 0] rfl ?_
      exact hK6 _ _ _ _ h
theorem wX5_grownDown_L6 {T : zX} {cl ch : Nat} {σ : zSt} (hC : zOk T cX5_grownDown RX5 0 0 cl ch) (hN : zNL T = 8) {r : Int64} (hQ : zRes T (some .long) (some (.long r)) σ) (n : Nat) : ∀ (v0 : Int64) (v2 : Int64) (v4 : Int64) (v6 : Int64), fX5_grownDown_L6 n v0 v2 v4 v6  = some r → Z T σ 6 [(0, .long v0), (2, .long v2), (4, .long v4), (6, .long v6)] [] := by
  induction n with
  | zero => intro v0 v2 v4 v6 h; cases h
  | succ n ih => intro v0 v2 v4 v6 h; exact wX5_grownDown_6 hC hN hQ (fX5_grownDown_L6 n) ih v0 v2 v4 v6 h
set_option maxRecDepth 100000 in
set_option maxHeartbeats 4000000 in
theorem wX5_grownDown_0 {T : zX} {cl ch : Nat} {σ : zSt} (hC : zOk T cX5_grownDown RX5 0 0 cl ch) (hN : zNL T = 8) {r : Int64} (hQ : zRes T (some .long) (some (.long r)) σ) (a0 : Int64) (a2 : Int64)  (h : fX5_grownDown_0 a0 a2  = some r) : Z T σ 0 [(0, .long a0), (2, .long a2)] [] := by
  unfold fX5_grownDown_0 at h
  refine z_lload_n hC 0 rfl rfl dX5_grownDown_0 ?_
  refine z_lstore hC [(4, .long a0), (0, .long a0), (2, .long a2)] (by rw [hN]; decide) rfl dX5_grownDown_1 ?_
  refine z_lconst hC (1 : Int64) (by decide) dX5_grownDown_3 ?_
  refine z_lstore hC [(6, .long (1 : Int64)), (4, .long a0), (0, .long a0), (2, .long a2)] (by rw [hN]; decide) rfl dX5_grownDown_4 ?_
  refine z_sub [(0, .long a0), (2, .long a2), (4, .long a0), (6, .long (1 : Int64))] [2, 3, 1, 0] rfl ?_
  exact (wX5_grownDown_L6 hC hN hQ zFU) _ _ _ _ h
set_option maxRecDepth 100000 in
theorem ctX5_grownDown {l : Launch} {G : zGt} {mk : zSt → zSt} {cl ch : Nat} (hm : zM mk cl ch) {a0 : Int64} {a2 : Int64} {σ : zSt} {r : Int64} (h : fX5_grownDown a0 a2  = some r) : zMet l G mk yX5_grownDown cX5_grownDown 8 (some .long) 0 0 [.long a0, .long a2] σ (some (.long r)) σ := by
  unfold fX5_grownDown at h

  refine zMet.of (plainFor_of_name (by decide +kernel)) hm (Nat.le_of_ble_eq_true rfl) (fun T eL eG eM hN hC hQ => ?_)
  subst eL; subst eG; subst eM
  refine z_sub [(0, .long a0), (2, .long a2)] [0, 1] rfl ?_
  exact wX5_grownDown_0 hC hN hQ _ _  h
noncomputable def fX5_grownUp_6 (K6 : Int64 → Int64 → Int64 → Int64 → Option Int64) (v0 : Int64) (v2 : Int64) (v4 : Int64) (v6 : Int64) : Option Int64 := 
    (if v2 ≤ v6 then 
      (if v4 ≤ (2147483648 : Int64) then some v4
      else some (1099511627776 : Int64))
    else 
      (if (2147483648 : Int64) < v4 then 
        (if v4 ≤ (2147483648 : Int64) then some v4
        else some (1099511627776 : Int64))
      else nm (jshrL (((v4 * v0) + (1048576 : Int64)) - (1 : Int64)) (20 : Int32)) fun x35_5 => nm (v6 + (1 : Int64)) fun x41_6 => K6 v0 v2 x35_5 x41_6))
noncomputable def fX5_grownUp_L6 : Nat → Int64 → Int64 → Int64 → Int64 → Option Int64
  | 0, _, _, _, _ => none
  | n + 1, v0, v2, v4, v6 => fX5_grownUp_6 (fX5_grownUp_L6 n) v0 v2 v4 v6 
noncomputable def fX5_grownUp_0 (a0 : Int64) (a2 : Int64) : Option Int64 := fX5_grownUp_L6 zFU a0 a2 a0 (1 : Int64)
noncomputable def fX5_grownUp (a0 : Int64) (a2 : Int64) : Option Int64 := fX5_grownUp_0 a0 a2
set_option maxRecDepth 100000 in
set_option maxHeartbeats 4000000 in
theorem wX5_grownUp_6 {T : zX} {cl ch : Nat} {σ : zSt} (hC : zOk T cX5_grownUp RX5 0 0 cl ch) (hN : zNL T = 8) {r : Int64} (hQ : zRes T (some .long) (some (.long r)) σ) (K6 : Int64 → Int64 → Int64 → Int64 → Option Int64) (hK6 : ∀ (v0 : Int64) (v2 : Int64) (v4 : Int64) (v6 : Int64), K6 v0 v2 v4 v6  = some r → Z T σ 6 [(0, .long v0), (2, .long v2), (4, .long v4), (6, .long v6)] []) (v0 : Int64) (v2 : Int64) (v4 : Int64) (v6 : Int64)  (h : fX5_grownUp_6 K6 v0 v2 v4 v6  = some r) : Z T σ 6 [(0, .long v0), (2, .long v2), (4, .long v4), (6, .long v6)] [] := by
  unfold fX5_grownUp_6 at h
  refine z_lload hC 3 rfl dX5_grownUp_6 ?_
  refine z_lload_n hC 1 rfl rfl dX5_grownUp_8 ?_
  refine z_cmp_ge hC 46 (by decide) dX5_grownUp_9 dX5_grownUp_10 (fun q9_1 => ?_) (fun q9_1 => ?_)
  · replace h := z_t q9_1 h
    refine z_lload hC 2 rfl dX5_grownUp_46 ?_
    refine z_ldc2 hC kc_X5_58 dX5_grownUp_48 ?_
    refine z_cmp_le hC 61 (by decide) dX5_grownUp_51 dX5_grownUp_52 (fun q51_2 => ?_) (fun q51_2 => ?_)
    · replace h := z_t q51_2 h
      refine z_lload hC 2 rfl dX5_grownUp_61 ?_
      obtain rfl := z_so h
      exact z_lret hC hQ dX5_grownUp_63
    · replace h := z_f q51_2 h
      refine z_ldc2 hC kc_X5_60 dX5_grownUp_55 ?_
      refine z_goto hC 63 (by decide) dX5_grownUp_58 ?_
      obtain rfl := z_so h
      exact z_lret hC hQ dX5_grownUp_63
  · replace h := z_f q9_1 h
    refine z_lload hC 2 rfl dX5_grownUp_13 ?_
    refine z_ldc2 hC kc_X5_58 dX5_grownUp_15 ?_
    refine z_cmp_gt hC 46 (by decide) dX5_grownUp_18 dX5_grownUp_19 (fun q18_3 => ?_) (fun q18_3 => ?_)
    · replace h := z_t q18_3 h
      refine z_lload hC 2 rfl dX5_grownUp_46 ?_
      refine z_ldc2 hC kc_X5_58 dX5_grownUp_48 ?_
      refine z_cmp_le hC 61 (by decide) dX5_grownUp_51 dX5_grownUp_52 (fun q51_4 => ?_) (fun q51_4 => ?_)
      · replace h := z_t q51_4 h
        refine z_lload hC 2 rfl dX5_grownUp_61 ?_
        obtain rfl := z_so h
        exact z_lret hC hQ dX5_grownUp_63
      · replace h := z_f q51_4 h
        refine z_ldc2 hC kc_X5_60 dX5_grownUp_55 ?_
        refine z_goto hC 63 (by decide) dX5_grownUp_58 ?_
        obtain rfl := z_so h
        exact z_lret hC hQ dX5_grownUp_63
    · replace h := z_f q18_3 h
      refine z_lload hC 2 rfl dX5_grownUp_22 ?_
      refine z_lload_n hC 0 rfl rfl dX5_grownUp_24 ?_
      refine z_lmul hC dX5_grownUp_25 ?_
      refine z_ldc2 hC kc_X5_62 dX5_grownUp_26 ?_
      refine z_ladd hC dX5_grownUp_29 ?_
      refine z_lconst hC (1 : Int64) (by decide) dX5_grownUp_30 ?_
      refine z_lsub hC dX5_grownUp_31 ?_
      refine z_bipush hC (20 : Int32) (by decide) dX5_grownUp_32 ?_
      refine z_lshr hC dX5_grownUp_34 ?_
      refine z_nmL h (fun x35_5 h => ?_)
      refine z_lstore hC [(4, .long x35_5), (0, .long v0), (2, .long v2), (6, .long v6)] (by rw [hN]; decide) rfl dX5_grownUp_35 ?_
      refine z_lload hC 3 rfl dX5_grownUp_37 ?_
      refine z_lconst hC (1 : Int64) (by decide) dX5_grownUp_39 ?_
      refine z_ladd hC dX5_grownUp_40 ?_
      refine z_nmL h (fun x41_6 h => ?_)
      refine z_lstore hC [(6, .long x41_6), (4, .long x35_5), (0, .long v0), (2, .long v2)] (by rw [hN]; decide) rfl dX5_grownUp_41 ?_
      refine z_goto hC 6 (by decide) dX5_grownUp_43 ?_
      refine z_sub [(0, .long v0), (2, .long v2), (4, .long x35_5), (6, .long x41_6)] [2, 3, 1, 0] rfl ?_
      exact hK6 _ _ _ _ h
theorem wX5_grownUp_L6 {T : zX} {cl ch : Nat} {σ : zSt} (hC : zOk T cX5_grownUp RX5 0 0 cl ch) (hN : zNL T = 8) {r : Int64} (hQ : zRes T (some .long) (some (.long r)) σ) (n : Nat) : ∀ (v0 : Int64) (v2 : Int64) (v4 : Int64) (v6 : Int64), fX5_grownUp_L6 n v0 v2 v4 v6  = some r → Z T σ 6 [(0, .long v0), (2, .long v2), (4, .long v4), (6, .long v6)] [] := by
  induction n with
  | zero => intro v0 v2 v4 v6 h; cases h
  | succ n ih => intro v0 v2 v4 v6 h; exact wX5_grownUp_6 hC hN hQ (fX5_grownUp_L6 n) ih v0 v2 v4 v6 h
set_option maxRecDepth 100000 in
set_option maxHeartbeats 4000000 in
theorem wX5_grownUp_0 {T : zX} {cl ch : Nat} {σ : zSt} (hC : zOk T cX5_grownUp RX5 0 0 cl ch) (hN : zNL T = 8) {r : Int64} (hQ : zRes T (some .long) (some (.long r)) σ) (a0 : Int64) (a2 : Int64)  (h : fX5_grownUp_0 a0 a2  = some r) : Z T σ 0 [(0, .long a0), (2, .long a2)] [] := by
  unfold fX5_grownUp_0 at h
  refine z_lload_n hC 0 rfl rfl dX5_grownUp_0 ?_
  refine z_lstore hC [(4, .long a0), (0, .long a0), (2, .long a2)] (by rw [hN]; decide) rfl dX5_grownUp_1 ?_
  refine z_lconst hC (1 : Int64) (by decide) dX5_grownUp_3 ?_
  refine z_lstore hC [(6, .long (1 : Int64)), (4, .long a0), (0, .long a0), (2, .long a2)] (by rw [hN]; decide) rfl dX5_grownUp_4 ?_
  refine z_sub [(0, .long a0), (2, .long a2), (4, .long a0), (6, .long (1 : Int64))] [2, 3, 1, 0] rfl ?_
  exact (wX5_grownUp_L6 hC hN hQ zFU) _ _ _ _ h
set_option maxRecDepth 100000 in
theorem ctX5_grownUp {l : Launch} {G : zGt} {mk : zSt → zSt} {cl ch : Nat} (hm : zM mk cl ch) {a0 : Int64} {a2 : Int64} {σ : zSt} {r : Int64} (h : fX5_grownUp a0 a2  = some r) : zMet l G mk yX5_grownUp cX5_grownUp 8 (some .long) 0 0 [.long a0, .long a2] σ (some (.long r)) σ := by
  unfold fX5_grownUp at h

  refine zMet.of (plainFor_of_name (by decide +kernel)) hm (Nat.le_of_ble_eq_true rfl) (fun T eL eG eM hN hC hQ => ?_)
  subst eL; subst eG; subst eM
  refine z_sub [(0, .long a0), (2, .long a2)] [0, 1] rfl ?_
  exact wX5_grownUp_0 hC hN hQ _ _  h
noncomputable def fX5_power_56 (v2 : Int64) (v6 : Int64) (t0 : Int64) : Option Int64 := 
    (if (0 : Int64) ≤ v6 then bd1 (fX5_grownUp v6 v2) fun r79_2 => some (fX5_of t0 r79_2)
    else bd1 (fX5_grownDown (-v6) v2) fun r69_3 => nm (-r69_3) fun x82_4 => some (fX5_of t0 x82_4))
noncomputable def fX5_power_110 (v2 : Int64) (v4 : Int64) (v6 : Int64) : Option Int64 := nm (if (if 0 < v6 then v6 else -v6) < (if 0 < v4 then v4 else -v4) then (if 0 < v6 then v6 else -v6) else (if 0 < v4 then v4 else -v4)) fun x120_1 => bd1 (fX5_grownDown x120_1 v2) fun r128_2 => nm (if (if 0 < v6 then v6 else -v6) < (if 0 < v4 then v4 else -v4) then (if 0 < v4 then v4 else -v4) else (if 0 < v6 then v6 else -v6)) fun x141_3 => bd1 (fX5_grownUp x141_3 v2) fun r145_4 => some (fX5_of r128_2 r145_4)
noncomputable def fX5_power_0 (a0 : Int64) (a2 : Int64) : Option Int64 := 
    (if a0 = (4294967296 : Int64) then some (4294967296 : Int64)
    else nm (fX5_lowOf a0) fun x16_2 => nm (fX5_highOf a0) fun x22_3 => 
      (if (a2 &&& (1 : Int64)) = (1 : Int64) then 
        (if (0 : Int64) ≤ x16_2 then bd1 (fX5_grownDown x16_2 a2) fun r53_11 => fX5_power_56 a2 x22_3 r53_11
        else bd1 (fX5_grownUp (-x16_2) a2) fun r43_12 => fX5_power_56 a2 x22_3 (-r43_12))
      else 
        (if (0 : Int64) < x16_2 then fX5_power_110 a2 x16_2 x22_3
        else 
          (if x22_3 < (0 : Int64) then fX5_power_110 a2 x16_2 x22_3
          else bd1 (fX5_grownDown (0 : Int64) a2) fun r128_7 => nm (if (if 0 < x22_3 then x22_3 else -x22_3) < (if 0 < x16_2 then x16_2 else -x16_2) then (if 0 < x16_2 then x16_2 else -x16_2) else (if 0 < x22_3 then x22_3 else -x22_3)) fun x141_8 => bd1 (fX5_grownUp x141_8 a2) fun r145_9 => some (fX5_of r128_7 r145_9)))))
noncomputable def fX5_power (a0 : Int64) (a2 : Int64) : Option Int64 := fX5_power_0 a0 a2
set_option maxRecDepth 100000 in
set_option maxHeartbeats 4000000 in
theorem wX5_power_56 {T : zX} {cl ch : Nat} {σ : zSt} (hC : zOk T cX5_power RX5 1 27 cl ch) (hN : zNL T = 12) {r : Int64} (hQ : zRes T (some .long) (some (.long r)) σ) (v2 : Int64) (v6 : Int64) (t0 : Int64)  (h : fX5_power_56 v2 v6 t0  = some r) : Z T σ 56 [(2, .long v2), (6, .long v6)] [.long t0] := by
  unfold fX5_power_56 at h
  refine z_lstore hC [(8, .long t0), (2, .long v2), (6, .long v6)] (by rw [hN]; decide) rfl dX5_power_56 ?_
  refine z_lload hC 2 rfl dX5_power_58 ?_
  refine z_lconst hC (0 : Int64) (by decide) dX5_power_60 ?_
  refine z_cmp_ge hC 76 (by decide) dX5_power_61 dX5_power_62 (fun q61_1 => ?_) (fun q61_1 => ?_)
  · replace h := z_t q61_1 h
    refine z_lload hC 2 rfl dX5_power_76 ?_
    refine z_lload_n hC 1 rfl rfl dX5_power_78 ?_
    refine z_b1 h (fun r79_2 e_r79_2 h => ?_)
    refine z_cS2r hC (ctX5_grownUp hC.hm e_r79_2) kb_X5_grownUp km_X5_49 ⟨by decide, by decide⟩ (Nat.le_of_ble_eq_true rfl) dX5_power_79 ?_
    refine z_lstore hC [(10, .long r79_2), (8, .long t0), (2, .long v2), (6, .long v6)] (by rw [hN]; decide) rfl dX5_power_82 ?_
    refine z_lload hC 1 rfl dX5_power_84 ?_
    refine z_lload hC 0 rfl dX5_power_86 ?_
    refine z_cS2r hC (ctX5_of hC.hm) kb_X5_of km_X5_30 ⟨by decide, by decide⟩ (Nat.le_of_ble_eq_true rfl) dX5_power_88 ?_
    obtain rfl := z_so h
    exact z_lret hC hQ dX5_power_91
  · replace h := z_f q61_1 h
    refine z_lload hC 2 rfl dX5_power_65 ?_
    refine z_lneg hC dX5_power_67 ?_
    refine z_lload_n hC 1 rfl rfl dX5_power_68 ?_
    refine z_b1 h (fun r69_3 e_r69_3 h => ?_)
    refine z_cS2r hC (ctX5_grownDown hC.hm e_r69_3) kb_X5_grownDown km_X5_52 ⟨by decide, by decide⟩ (Nat.le_of_ble_eq_true rfl) dX5_power_69 ?_
    refine z_lneg hC dX5_power_72 ?_
    refine z_goto hC 82 (by decide) dX5_power_73 ?_
    refine z_nmL h (fun x82_4 h => ?_)
    refine z_lstore hC [(10, .long x82_4), (8, .long t0), (2, .long v2), (6, .long v6)] (by rw [hN]; decide) rfl dX5_power_82 ?_
    refine z_lload hC 1 rfl dX5_power_84 ?_
    refine z_lload hC 0 rfl dX5_power_86 ?_
    refine z_cS2r hC (ctX5_of hC.hm) kb_X5_of km_X5_30 ⟨by decide, by decide⟩ (Nat.le_of_ble_eq_true rfl) dX5_power_88 ?_
    obtain rfl := z_so h
    exact z_lret hC hQ dX5_power_91
set_option maxRecDepth 100000 in
set_option maxHeartbeats 4000000 in
theorem wX5_power_110 {T : zX} {cl ch : Nat} {σ : zSt} (hC : zOk T cX5_power RX5 1 27 cl ch) (hN : zNL T = 12) {r : Int64} (hQ : zRes T (some .long) (some (.long r)) σ) (v2 : Int64) (v4 : Int64) (v6 : Int64)  (h : fX5_power_110 v2 v4 v6  = some r) : Z T σ 110 [(2, .long v2), (4, .long v4), (6, .long v6)] [] := by
  unfold fX5_power_110 at h
  refine z_lload hC 1 rfl dX5_power_110 ?_
  refine z_mabsL hC km_X5_55 (Nat.le_of_ble_eq_true rfl) (Nat.le_of_ble_eq_true rfl) dX5_power_112 ?_
  refine z_lload hC 2 rfl dX5_power_115 ?_
  refine z_mabsL hC km_X5_55 (Nat.le_of_ble_eq_true rfl) (Nat.le_of_ble_eq_true rfl) dX5_power_117 ?_
  refine z_mminL hC km_X5_34 (Nat.le_of_ble_eq_true rfl) (Nat.le_of_ble_eq_true rfl) dX5_power_120 ?_
  refine z_nmL h (fun x120_1 h => ?_)
  refine z_lstore hC [(8, .long x120_1), (2, .long v2), (4, .long v4), (6, .long v6)] (by rw [hN]; decide) rfl dX5_power_123 ?_
  refine z_lload hC 0 rfl dX5_power_125 ?_
  refine z_lload_n hC 1 rfl rfl dX5_power_127 ?_
  refine z_b1 h (fun r128_2 e_r128_2 h => ?_)
  refine z_cS2r hC (ctX5_grownDown hC.hm e_r128_2) kb_X5_grownDown km_X5_52 ⟨by decide, by decide⟩ (Nat.le_of_ble_eq_true rfl) dX5_power_128 ?_
  refine z_lload hC 2 rfl dX5_power_131 ?_
  refine z_mabsL hC km_X5_55 (Nat.le_of_ble_eq_true rfl) (Nat.le_of_ble_eq_true rfl) dX5_power_133 ?_
  refine z_lload hC 3 rfl dX5_power_136 ?_
  refine z_mabsL hC km_X5_55 (Nat.le_of_ble_eq_true rfl) (Nat.le_of_ble_eq_true rfl) dX5_power_138 ?_
  refine z_mmaxL hC km_X5_39 (Nat.le_of_ble_eq_true rfl) (Nat.le_of_ble_eq_true rfl) dX5_power_141 ?_
  refine z_nmL h (fun x141_3 h => ?_)
  refine z_lload_n hC 1 rfl rfl dX5_power_144 ?_
  refine z_b1 h (fun r145_4 e_r145_4 h => ?_)
  refine z_cS2r hC (ctX5_grownUp hC.hm e_r145_4) kb_X5_grownUp km_X5_49 ⟨by decide, by decide⟩ (Nat.le_of_ble_eq_true rfl) dX5_power_145 ?_
  refine z_cS2r hC (ctX5_of hC.hm) kb_X5_of km_X5_30 ⟨by decide, by decide⟩ (Nat.le_of_ble_eq_true rfl) dX5_power_148 ?_
  obtain rfl := z_so h
  exact z_lret hC hQ dX5_power_151
set_option maxRecDepth 100000 in
set_option maxHeartbeats 4000000 in
theorem wX5_power_0 {T : zX} {cl ch : Nat} {σ : zSt} (hC : zOk T cX5_power RX5 1 27 cl ch) (hN : zNL T = 12) {r : Int64} (hQ : zRes T (some .long) (some (.long r)) σ) (a0 : Int64) (a2 : Int64)  (h : fX5_power_0 a0 a2  = some r) : Z T σ 0 [(0, .long a0), (2, .long a2)] [] := by
  unfold fX5_power_0 at h
  refine z_lload_n hC 0 rfl rfl dX5_power_0 ?_
  refine z_ldc2 hC kc_X5_15 dX5_power_1 ?_
  refine z_cmp_ne hC 12 (by decide) dX5_power_4 dX5_power_5 (fun q4_1 => ?_) (fun q4_1 => ?_)
  · replace h := z_f q4_1 h
    refine z_lload_n hC 0 rfl rfl dX5_power_12 ?_
    refine z_cS1r hC (ctX5_lowOf hC.hm) kb_X5_lowOf km_X5_19 ⟨by decide, by decide⟩ (Nat.le_of_ble_eq_true rfl) dX5_power_13 ?_
    refine z_nmL h (fun x16_2 h => ?_)
    refine z_lstore hC [(4, .long x16_2), (0, .long a0), (2, .long a2)] (by rw [hN]; decide) rfl dX5_power_16 ?_
    refine z_lload_n hC 1 rfl rfl dX5_power_18 ?_
    refine z_cS1r hC (ctX5_highOf hC.hm) kb_X5_highOf km_X5_23 ⟨by decide, by decide⟩ (Nat.le_of_ble_eq_true rfl) dX5_power_19 ?_
    refine z_nmL h (fun x22_3 h => ?_)
    refine z_lstore hC [(6, .long x22_3), (4, .long x16_2), (0, .long a0), (2, .long a2)] (by rw [hN]; decide) rfl dX5_power_22 ?_
    refine z_lload_n hC 3 rfl rfl dX5_power_24 ?_
    refine z_lconst hC (1 : Int64) (by decide) dX5_power_25 ?_
    refine z_land hC dX5_power_26 ?_
    refine z_lconst hC (1 : Int64) (by decide) dX5_power_27 ?_
    refine z_cmp_ne hC 92 (by decide) dX5_power_28 dX5_power_29 (fun q28_4 => ?_) (fun q28_4 => ?_)
    · replace h := z_f q28_4 h
      refine z_lload hC 1 rfl dX5_power_92 ?_
      refine z_lconst hC (0 : Int64) (by decide) dX5_power_94 ?_
      refine z_cmp_gt hC 110 (by decide) dX5_power_95 dX5_power_96 (fun q95_5 => ?_) (fun q95_5 => ?_)
      · replace h := z_t q95_5 h
        refine z_sub [(2, .long a2), (4, .long x16_2), (6, .long x22_3)] [3, 1, 0] rfl ?_
        exact (wX5_power_110 hC hN hQ ) _ _ _ h
      · replace h := z_f q95_5 h
        refine z_lload hC 0 rfl dX5_power_99 ?_
        refine z_lconst hC (0 : Int64) (by decide) dX5_power_101 ?_
        refine z_cmp_lt hC 110 (by decide) dX5_power_102 dX5_power_103 (fun q102_6 => ?_) (fun q102_6 => ?_)
        · replace h := z_t q102_6 h
          refine z_sub [(2, .long a2), (4, .long x16_2), (6, .long x22_3)] [3, 1, 0] rfl ?_
          exact (wX5_power_110 hC hN hQ ) _ _ _ h
        · replace h := z_f q102_6 h
          refine z_lconst hC (0 : Int64) (by decide) dX5_power_106 ?_
          refine z_goto hC 123 (by decide) dX5_power_107 ?_
          refine z_lstore hC [(8, .long (0 : Int64)), (6, .long x22_3), (4, .long x16_2), (0, .long a0), (2, .long a2)] (by rw [hN]; decide) rfl dX5_power_123 ?_
          refine z_lload hC 0 rfl dX5_power_125 ?_
          refine z_lload_n hC 4 rfl rfl dX5_power_127 ?_
          refine z_b1 h (fun r128_7 e_r128_7 h => ?_)
          refine z_cS2r hC (ctX5_grownDown hC.hm e_r128_7) kb_X5_grownDown km_X5_52 ⟨by decide, by decide⟩ (Nat.le_of_ble_eq_true rfl) dX5_power_128 ?_
          refine z_lload hC 2 rfl dX5_power_131 ?_
          refine z_mabsL hC km_X5_55 (Nat.le_of_ble_eq_true rfl) (Nat.le_of_ble_eq_true rfl) dX5_power_133 ?_
          refine z_lload hC 1 rfl dX5_power_136 ?_
          refine z_mabsL hC km_X5_55 (Nat.le_of_ble_eq_true rfl) (Nat.le_of_ble_eq_true rfl) dX5_power_138 ?_
          refine z_mmaxL hC km_X5_39 (Nat.le_of_ble_eq_true rfl) (Nat.le_of_ble_eq_true rfl) dX5_power_141 ?_
          refine z_nmL h (fun x141_8 h => ?_)
          refine z_lload_n hC 4 rfl rfl dX5_power_144 ?_
          refine z_b1 h (fun r145_9 e_r145_9 h => ?_)
          refine z_cS2r hC (ctX5_grownUp hC.hm e_r145_9) kb_X5_grownUp km_X5_49 ⟨by decide, by decide⟩ (Nat.le_of_ble_eq_true rfl) dX5_power_145 ?_
          refine z_cS2r hC (ctX5_of hC.hm) kb_X5_of km_X5_30 ⟨by decide, by decide⟩ (Nat.le_of_ble_eq_true rfl) dX5_power_148 ?_
          obtain rfl := z_so h
          exact z_lret hC hQ dX5_power_151
    · replace h := z_t q28_4 h
      refine z_lload hC 1 rfl dX5_power_32 ?_
      refine z_lconst hC (0 : Int64) (by decide) dX5_power_34 ?_
      refine z_cmp_ge hC 50 (by decide) dX5_power_35 dX5_power_36 (fun q35_10 => ?_) (fun q35_10 => ?_)
      · replace h := z_t q35_10 h
        refine z_lload hC 1 rfl dX5_power_50 ?_
        refine z_lload_n hC 3 rfl rfl dX5_power_52 ?_
        refine z_b1 h (fun r53_11 e_r53_11 h => ?_)
        refine z_cS2r hC (ctX5_grownDown hC.hm e_r53_11) kb_X5_grownDown km_X5_52 ⟨by decide, by decide⟩ (Nat.le_of_ble_eq_true rfl) dX5_power_53 ?_
        refine z_sub [(2, .long a2), (6, .long x22_3)] [3, 0] rfl ?_
        exact (wX5_power_56 hC hN hQ ) _ _ _ h
      · replace h := z_f q35_10 h
        refine z_lload hC 1 rfl dX5_power_39 ?_
        refine z_lneg hC dX5_power_41 ?_
        refine z_lload_n hC 3 rfl rfl dX5_power_42 ?_
        refine z_b1 h (fun r43_12 e_r43_12 h => ?_)
        refine z_cS2r hC (ctX5_grownUp hC.hm e_r43_12) kb_X5_grownUp km_X5_49 ⟨by decide, by decide⟩ (Nat.le_of_ble_eq_true rfl) dX5_power_43 ?_
        refine z_lneg hC dX5_power_46 ?_
        refine z_goto hC 56 (by decide) dX5_power_47 ?_
        refine z_sub [(2, .long a2), (6, .long x22_3)] [3, 0] rfl ?_
        exact (wX5_power_56 hC hN hQ ) _ _ _ h
  · replace h := z_t q4_1 h
    refine z_ldc2 hC kc_X5_15 dX5_power_8 ?_
    obtain rfl := z_so h
    exact z_lret hC hQ dX5_power_11
set_option maxRecDepth 100000 in
theorem ctX5_power {l : Launch} {G : zGt} {mk : zSt → zSt} {cl ch : Nat} (hm : zM mk cl ch) {a0 : Int64} {a2 : Int64} {σ : zSt} {r : Int64} (h : fX5_power a0 a2  = some r) : zMet l G mk yX5_power cX5_power 12 (some .long) 1 27 [.long a0, .long a2] σ (some (.long r)) σ := by
  unfold fX5_power at h

  refine zMet.of (plainFor_of_name (by decide +kernel)) hm (Nat.le_of_ble_eq_true rfl) (fun T eL eG eM hN hC hQ => ?_)
  subst eL; subst eG; subst eM
  refine z_sub [(0, .long a0), (2, .long a2)] [0, 1] rfl ?_
  exact wX5_power_0 hC hN hQ _ _  h
noncomputable def fX5_rootDown_6 (K6 : Int64 → Int64 → Int32 → Option Int64) (v0 : Int64) (v2 : Int64) (v4 : Int32) : Option Int64 := 
    (if v4 < 0 then some v2
    else nm (v2 ||| (jshlL (1 : Int64) v4)) fun x17_2 => 
      (if v0 < (x17_2 * x17_2) then nm (v4 + (-1 : Int32)) fun x32_4 => K6 v0 v2 x32_4
      else nm (v4 + (-1 : Int32)) fun x32_5 => K6 v0 x17_2 x32_5))
noncomputable def fX5_rootDown_L6 : Nat → Int64 → Int64 → Int32 → Option Int64
  | 0, _, _, _ => none
  | n + 1, v0, v2, v4 => fX5_rootDown_6 (fX5_rootDown_L6 n) v0 v2 v4 
noncomputable def fX5_rootDown_0 (a0 : Int64) : Option Int64 := fX5_rootDown_L6 zFU a0 (0 : Int64) (26 : Int32)
noncomputable def fX5_rootDown (a0 : Int64) : Option Int64 := fX5_rootDown_0 a0
set_option maxRecDepth 100000 in
set_option maxHeartbeats 4000000 in
theorem wX5_rootDown_6 {T : zX} {cl ch : Nat} {σ : zSt} (hC : zOk T cX5_rootDown RX5 0 0 cl ch) (hN : zNL T = 7) {r : Int64} (hQ : zRes T (some .long) (some (.long r)) σ) (K6 : Int64 → Int64 → Int32 → Option Int64) (hK6 : ∀ (v0 : Int64) (v2 : Int64) (v4 : Int32), K6 v0 v2 v4  = some r → Z T σ 6 [(0, .long v0), (2, .long v2), (4, .int v4)] []) (v0 : Int64) (v2 : Int64) (v4 : Int32)  (h : fX5_rootDown_6 K6 v0 v2 v4  = some r) : Z T σ 6 [(0, .long v0), (2, .long v2), (4, .int v4)] [] := by
  unfold fX5_rootDown_6 at h
  refine z_iload hC 2 rfl dX5_rootDown_6 ?_
  refine z_if_lt hC 38 (by decide) dX5_rootDown_8 (fun q8_1 => ?_) (fun q8_1 => ?_)
  · replace h := z_t q8_1 h
    refine z_lload_n hC 1 rfl rfl dX5_rootDown_38 ?_
    obtain rfl := z_so h
    exact z_lret hC hQ dX5_rootDown_39
  · replace h := z_f q8_1 h
    refine z_lload_n hC 1 rfl rfl dX5_rootDown_11 ?_
    refine z_lconst hC (1 : Int64) (by decide) dX5_rootDown_12 ?_
    refine z_iload hC 2 rfl dX5_rootDown_13 ?_
    refine z_lshl hC dX5_rootDown_15 ?_
    refine z_lor hC dX5_rootDown_16 ?_
    refine z_nmL h (fun x17_2 h => ?_)
    refine z_lstore hC [(5, .long x17_2), (0, .long v0), (2, .long v2), (4, .int v4)] (by rw [hN]; decide) rfl dX5_rootDown_17 ?_
    refine z_lload hC 0 rfl dX5_rootDown_19 ?_
    refine z_lload hC 0 rfl dX5_rootDown_21 ?_
    refine z_lmul hC dX5_rootDown_23 ?_
    refine z_lload_n hC 1 rfl rfl dX5_rootDown_24 ?_
    refine z_cmp_gt hC 32 (by decide) dX5_rootDown_25 dX5_rootDown_26 (fun q25_3 => ?_) (fun q25_3 => ?_)
    · replace h := z_t q25_3 h
      refine z_nmE h (fun x32_4 e_x32_4 h => ?_)
      refine z_iinc hC x32_4 [(4, .int x32_4), (5, .long x17_2), (0, .long v0), (2, .long v2)] 3 rfl (by rw [e_x32_4]; rfl) (by rw [hN]; decide) rfl dX5_rootDown_32 ?_
      refine z_goto hC 6 (by decide) dX5_rootDown_35 ?_
      refine z_sub [(0, .long v0), (2, .long v2), (4, .int x32_4)] [2, 3, 0] rfl ?_
      exact hK6 _ _ _ h
    · replace h := z_f q25_3 h
      refine z_lload hC 0 rfl dX5_rootDown_29 ?_
      refine z_lstore_n hC [(2, .long x17_2), (5, .long x17_2), (0, .long v0), (4, .int v4)] rfl (by rw [hN]; decide) rfl dX5_rootDown_31 ?_
      refine z_nmE h (fun x32_5 e_x32_5 h => ?_)
      refine z_iinc hC x32_5 [(4, .int x32_5), (2, .long x17_2), (5, .long x17_2), (0, .long v0)] 3 rfl (by rw [e_x32_5]; rfl) (by rw [hN]; decide) rfl dX5_rootDown_32 ?_
      refine z_goto hC 6 (by decide) dX5_rootDown_35 ?_
      refine z_sub [(0, .long v0), (2, .long x17_2), (4, .int x32_5)] [3, 1, 0] rfl ?_
      exact hK6 _ _ _ h
theorem wX5_rootDown_L6 {T : zX} {cl ch : Nat} {σ : zSt} (hC : zOk T cX5_rootDown RX5 0 0 cl ch) (hN : zNL T = 7) {r : Int64} (hQ : zRes T (some .long) (some (.long r)) σ) (n : Nat) : ∀ (v0 : Int64) (v2 : Int64) (v4 : Int32), fX5_rootDown_L6 n v0 v2 v4  = some r → Z T σ 6 [(0, .long v0), (2, .long v2), (4, .int v4)] [] := by
  induction n with
  | zero => intro v0 v2 v4 h; cases h
  | succ n ih => intro v0 v2 v4 h; exact wX5_rootDown_6 hC hN hQ (fX5_rootDown_L6 n) ih v0 v2 v4 h
set_option maxRecDepth 100000 in
set_option maxHeartbeats 4000000 in
theorem wX5_rootDown_0 {T : zX} {cl ch : Nat} {σ : zSt} (hC : zOk T cX5_rootDown RX5 0 0 cl ch) (hN : zNL T = 7) {r : Int64} (hQ : zRes T (some .long) (some (.long r)) σ) (a0 : Int64)  (h : fX5_rootDown_0 a0  = some r) : Z T σ 0 [(0, .long a0)] [] := by
  unfold fX5_rootDown_0 at h
  refine z_lconst hC (0 : Int64) (by decide) dX5_rootDown_0 ?_
  refine z_lstore_n hC [(2, .long (0 : Int64)), (0, .long a0)] rfl (by rw [hN]; decide) rfl dX5_rootDown_1 ?_
  refine z_bipush hC (26 : Int32) (by decide) dX5_rootDown_2 ?_
  refine z_istore hC [(4, .int (26 : Int32)), (2, .long (0 : Int64)), (0, .long a0)] (by rw [hN]; decide) rfl dX5_rootDown_4 ?_
  refine z_sub [(0, .long a0), (2, .long (0 : Int64)), (4, .int (26 : Int32))] [2, 1, 0] rfl ?_
  exact (wX5_rootDown_L6 hC hN hQ zFU) _ _ _ h
set_option maxRecDepth 100000 in
theorem ctX5_rootDown {l : Launch} {G : zGt} {mk : zSt → zSt} {cl ch : Nat} (hm : zM mk cl ch) {a0 : Int64} {σ : zSt} {r : Int64} (h : fX5_rootDown a0  = some r) : zMet l G mk yX5_rootDown cX5_rootDown 7 (some .long) 0 0 [.long a0] σ (some (.long r)) σ := by
  unfold fX5_rootDown at h

  refine zMet.of (plainFor_of_name (by decide +kernel)) hm (Nat.le_of_ble_eq_true rfl) (fun T eL eG eM hN hC hQ => ?_)
  subst eL; subst eG; subst eM
  refine z_sub [(0, .long a0)] [0] rfl ?_
  exact wX5_rootDown_0 hC hN hQ _  h
noncomputable def fX5_root_0 (a0 : Int64) : Option Int64 := 
    (if a0 = (4294967296 : Int64) then some (4294967296 : Int64)
    else 
      (if (0 : Int64) ≤ (fX5_lowOf a0) then nm (jshlL (fX5_highOf a0) (20 : Int32)) fun x28_3 => bd1 (fX5_rootDown x28_3) fun r30_4 => bd1 (fX5_rootDown (jshlL (fX5_lowOf a0) (20 : Int32))) fun r42_5 => 
        (if x28_3 ≤ (r30_4 * r30_4) then some (fX5_of r42_5 r30_4)
        else some (fX5_of r42_5 (r30_4 + (1 : Int64))))
      else some (4294967296 : Int64)))
noncomputable def fX5_root (a0 : Int64) : Option Int64 := fX5_root_0 a0
set_option maxRecDepth 100000 in
set_option maxHeartbeats 4000000 in
theorem wX5_root_0 {T : zX} {cl ch : Nat} {σ : zSt} (hC : zOk T cX5_root RX5 1 26 cl ch) (hN : zNL T = 6) {r : Int64} (hQ : zRes T (some .long) (some (.long r)) σ) (a0 : Int64)  (h : fX5_root_0 a0  = some r) : Z T σ 0 [(0, .long a0)] [] := by
  unfold fX5_root_0 at h
  refine z_lload_n hC 0 rfl rfl dX5_root_0 ?_
  refine z_ldc2 hC kc_X5_15 dX5_root_1 ?_
  refine z_cmp_eq hC 17 (by decide) dX5_root_4 dX5_root_5 (fun q4_1 => ?_) (fun q4_1 => ?_)
  · replace h := z_t q4_1 h
    refine z_ldc2 hC kc_X5_15 dX5_root_17 ?_
    obtain rfl := z_so h
    exact z_lret hC hQ dX5_root_20
  · replace h := z_f q4_1 h
    refine z_lload_n hC 0 rfl rfl dX5_root_8 ?_
    refine z_cS1r hC (ctX5_lowOf hC.hm) kb_X5_lowOf km_X5_19 ⟨by decide, by decide⟩ (Nat.le_of_ble_eq_true rfl) dX5_root_9 ?_
    refine z_lconst hC (0 : Int64) (by decide) dX5_root_12 ?_
    refine z_cmp_ge hC 21 (by decide) dX5_root_13 dX5_root_14 (fun q13_2 => ?_) (fun q13_2 => ?_)
    · replace h := z_t q13_2 h
      refine z_lload_n hC 0 rfl rfl dX5_root_21 ?_
      refine z_cS1r hC (ctX5_highOf hC.hm) kb_X5_highOf km_X5_23 ⟨by decide, by decide⟩ (Nat.le_of_ble_eq_true rfl) dX5_root_22 ?_
      refine z_bipush hC (20 : Int32) (by decide) dX5_root_25 ?_
      refine z_lshl hC dX5_root_27 ?_
      refine z_nmL h (fun x28_3 h => ?_)
      refine z_lstore_n hC [(2, .long x28_3), (0, .long a0)] rfl (by rw [hN]; decide) rfl dX5_root_28 ?_
      refine z_lload_n hC 0 rfl rfl dX5_root_29 ?_
      refine z_b1 h (fun r30_4 e_r30_4 h => ?_)
      refine z_cS1r hC (ctX5_rootDown hC.hm e_r30_4) kb_X5_rootDown km_X5_67 ⟨by decide, by decide⟩ (Nat.le_of_ble_eq_true rfl) dX5_root_30 ?_
      refine z_lstore hC [(4, .long r30_4), (2, .long x28_3), (0, .long a0)] (by rw [hN]; decide) rfl dX5_root_33 ?_
      refine z_lload_n hC 2 rfl rfl dX5_root_35 ?_
      refine z_cS1r hC (ctX5_lowOf hC.hm) kb_X5_lowOf km_X5_19 ⟨by decide, by decide⟩ (Nat.le_of_ble_eq_true rfl) dX5_root_36 ?_
      refine z_bipush hC (20 : Int32) (by decide) dX5_root_39 ?_
      refine z_lshl hC dX5_root_41 ?_
      refine z_b1 h (fun r42_5 e_r42_5 h => ?_)
      refine z_cS1r hC (ctX5_rootDown hC.hm e_r42_5) kb_X5_rootDown km_X5_67 ⟨by decide, by decide⟩ (Nat.le_of_ble_eq_true rfl) dX5_root_42 ?_
      refine z_lload hC 0 rfl dX5_root_45 ?_
      refine z_lload hC 0 rfl dX5_root_47 ?_
      refine z_lmul hC dX5_root_49 ?_
      refine z_lload_n hC 1 rfl rfl dX5_root_50 ?_
      refine z_cmp_ge hC 62 (by decide) dX5_root_51 dX5_root_52 (fun q51_6 => ?_) (fun q51_6 => ?_)
      · replace h := z_t q51_6 h
        refine z_lload hC 0 rfl dX5_root_62 ?_
        refine z_cS2r hC (ctX5_of hC.hm) kb_X5_of km_X5_30 ⟨by decide, by decide⟩ (Nat.le_of_ble_eq_true rfl) dX5_root_64 ?_
        obtain rfl := z_so h
        exact z_lret hC hQ dX5_root_67
      · replace h := z_f q51_6 h
        refine z_lload hC 0 rfl dX5_root_55 ?_
        refine z_lconst hC (1 : Int64) (by decide) dX5_root_57 ?_
        refine z_ladd hC dX5_root_58 ?_
        refine z_goto hC 64 (by decide) dX5_root_59 ?_
        refine z_cS2r hC (ctX5_of hC.hm) kb_X5_of km_X5_30 ⟨by decide, by decide⟩ (Nat.le_of_ble_eq_true rfl) dX5_root_64 ?_
        obtain rfl := z_so h
        exact z_lret hC hQ dX5_root_67
    · replace h := z_f q13_2 h
      refine z_ldc2 hC kc_X5_15 dX5_root_17 ?_
      obtain rfl := z_so h
      exact z_lret hC hQ dX5_root_20
set_option maxRecDepth 100000 in
theorem ctX5_root {l : Launch} {G : zGt} {mk : zSt → zSt} {cl ch : Nat} (hm : zM mk cl ch) {a0 : Int64} {σ : zSt} {r : Int64} (h : fX5_root a0  = some r) : zMet l G mk yX5_root cX5_root 6 (some .long) 1 26 [.long a0] σ (some (.long r)) σ := by
  unfold fX5_root at h

  refine zMet.of (plainFor_of_name (by decide +kernel)) hm (Nat.le_of_ble_eq_true rfl) (fun T eL eG eM hN hC hQ => ?_)
  subst eL; subst eG; subst eM
  refine z_sub [(0, .long a0)] [0] rfl ?_
  exact wX5_root_0 hC hN hQ _  h
noncomputable def fX5_size_0 (a0 : Int64) : Int64 := 
    (if a0 = (4294967296 : Int64) then a0
    else 
      (if (fX5_lowOf a0) < (0 : Int64) then 
        (if (0 : Int64) < (fX5_highOf a0) then nm (if (fX5_highOf a0) < (-(fX5_lowOf a0)) then (-(fX5_lowOf a0)) else (fX5_highOf a0)) fun x45_4 => (fX5_of (0 : Int64) x45_4)
        else (fX5_turned a0))
      else a0))
noncomputable def fX5_size (a0 : Int64) : Int64 := fX5_size_0 a0
set_option maxRecDepth 100000 in
set_option maxHeartbeats 4000000 in
theorem wX5_size_0 {T : zX} {cl ch : Nat} {σ : zSt} (hC : zOk T cX5_size RX5 2 44 cl ch) (hN : zNL T = 2) {r : Int64} (hQ : zRes T (some .long) (some (.long r)) σ) (a0 : Int64)  (h : fX5_size_0 a0  = r) : Z T σ 0 [(0, .long a0)] [] := by
  unfold fX5_size_0 at h
  refine z_lload_n hC 0 rfl rfl dX5_size_0 ?_
  refine z_ldc2 hC kc_X5_15 dX5_size_1 ?_
  refine z_cmp_eq hC 17 (by decide) dX5_size_4 dX5_size_5 (fun q4_1 => ?_) (fun q4_1 => ?_)
  · replace h := z_t q4_1 h
    refine z_lload_n hC 0 rfl rfl dX5_size_17 ?_
    subst h
    exact z_lret hC hQ dX5_size_18
  · replace h := z_f q4_1 h
    refine z_lload_n hC 0 rfl rfl dX5_size_8 ?_
    refine z_cS1r hC (ctX5_lowOf hC.hm) kb_X5_lowOf km_X5_19 ⟨by decide, by decide⟩ (Nat.le_of_ble_eq_true rfl) dX5_size_9 ?_
    refine z_lconst hC (0 : Int64) (by decide) dX5_size_12 ?_
    refine z_cmp_lt hC 19 (by decide) dX5_size_13 dX5_size_14 (fun q13_2 => ?_) (fun q13_2 => ?_)
    · replace h := z_t q13_2 h
      refine z_lload_n hC 0 rfl rfl dX5_size_19 ?_
      refine z_cS1r hC (ctX5_highOf hC.hm) kb_X5_highOf km_X5_23 ⟨by decide, by decide⟩ (Nat.le_of_ble_eq_true rfl) dX5_size_20 ?_
      refine z_lconst hC (0 : Int64) (by decide) dX5_size_23 ?_
      refine z_cmp_gt hC 35 (by decide) dX5_size_24 dX5_size_25 (fun q24_3 => ?_) (fun q24_3 => ?_)
      · replace h := z_t q24_3 h
        refine z_lconst hC (0 : Int64) (by decide) dX5_size_35 ?_
        refine z_lload_n hC 0 rfl rfl dX5_size_36 ?_
        refine z_cS1r hC (ctX5_lowOf hC.hm) kb_X5_lowOf km_X5_19 ⟨by decide, by decide⟩ (Nat.le_of_ble_eq_true rfl) dX5_size_37 ?_
        refine z_lneg hC dX5_size_40 ?_
        refine z_lload_n hC 0 rfl rfl dX5_size_41 ?_
        refine z_cS1r hC (ctX5_highOf hC.hm) kb_X5_highOf km_X5_23 ⟨by decide, by decide⟩ (Nat.le_of_ble_eq_true rfl) dX5_size_42 ?_
        refine z_mmaxL hC km_X5_39 (Nat.le_of_ble_eq_true rfl) (Nat.le_of_ble_eq_true rfl) dX5_size_45 ?_
        refine z_nmL h (fun x45_4 h => ?_)
        refine z_cS2r hC (ctX5_of hC.hm) kb_X5_of km_X5_30 ⟨by decide, by decide⟩ (Nat.le_of_ble_eq_true rfl) dX5_size_48 ?_
        subst h
        exact z_lret hC hQ dX5_size_51
      · replace h := z_f q24_3 h
        refine z_lload_n hC 0 rfl rfl dX5_size_28 ?_
        refine z_cS1r hC (ctX5_turned hC.hm) kb_X5_turned km_X5_64 ⟨by decide, by decide⟩ (Nat.le_of_ble_eq_true rfl) dX5_size_29 ?_
        refine z_goto hC 51 (by decide) dX5_size_32 ?_
        subst h
        exact z_lret hC hQ dX5_size_51
    · replace h := z_f q13_2 h
      refine z_lload_n hC 0 rfl rfl dX5_size_17 ?_
      subst h
      exact z_lret hC hQ dX5_size_18
set_option maxRecDepth 100000 in
theorem ctX5_size {l : Launch} {G : zGt} {mk : zSt → zSt} {cl ch : Nat} (hm : zM mk cl ch) {a0 : Int64} {σ : zSt} : zMet l G mk yX5_size cX5_size 2 (some .long) 2 44 [.long a0] σ (some (.long (fX5_size a0 ))) σ := by

  refine zMet.of (plainFor_of_name (by decide +kernel)) hm (Nat.le_of_ble_eq_true rfl) (fun T eL eG eM hN hC hQ => ?_)
  subst eL; subst eG; subst eM
  refine z_sub [(0, .long a0)] [0] rfl ?_
  exact wX5_size_0 hC hN hQ _  rfl
noncomputable def fX5_isHole_0 (a0 : Int64) (a2 : Int64) : Int32 := 
    (if a0 = (4294967296 : Int64) then (1 : Int32)
    else 
      (if a2 = (4294967296 : Int64) then (1 : Int32)
      else (0 : Int32)))
noncomputable def fX5_isHole (a0 : Int64) (a2 : Int64) : Int32 := fX5_isHole_0 a0 a2
set_option maxRecDepth 100000 in
set_option maxHeartbeats 4000000 in
theorem wX5_isHole_0 {T : zX} {cl ch : Nat} {σ : zSt} (hC : zOk T cX5_isHole RX5 0 0 cl ch) (hN : zNL T = 4) {r : Int32} (hQ : zRes T (some .boolean) (some (.int r)) σ) (a0 : Int64) (a2 : Int64)  (h : fX5_isHole_0 a0 a2  = r) : Z T σ 0 [(0, .long a0), (2, .long a2)] [] := by
  unfold fX5_isHole_0 at h
  refine z_lload_n hC 0 rfl rfl dX5_isHole_0 ?_
  refine z_ldc2 hC kc_X5_15 dX5_isHole_1 ?_
  refine z_cmp_eq hC 16 (by decide) dX5_isHole_4 dX5_isHole_5 (fun q4_1 => ?_) (fun q4_1 => ?_)
  · replace h := z_t q4_1 h
    refine z_iconst hC (1 : Int32) (by decide) dX5_isHole_16 ?_
    refine z_goto hC 21 (by decide) dX5_isHole_17 ?_
    subst h
    exact z_zret hC hQ dX5_isHole_21 (by decide)
  · replace h := z_f q4_1 h
    refine z_lload_n hC 1 rfl rfl dX5_isHole_8 ?_
    refine z_ldc2 hC kc_X5_15 dX5_isHole_9 ?_
    refine z_cmp_ne hC 20 (by decide) dX5_isHole_12 dX5_isHole_13 (fun q12_2 => ?_) (fun q12_2 => ?_)
    · replace h := z_f q12_2 h
      refine z_iconst hC (0 : Int32) (by decide) dX5_isHole_20 ?_
      subst h
      exact z_zret hC hQ dX5_isHole_21 (by decide)
    · replace h := z_t q12_2 h
      refine z_iconst hC (1 : Int32) (by decide) dX5_isHole_16 ?_
      refine z_goto hC 21 (by decide) dX5_isHole_17 ?_
      subst h
      exact z_zret hC hQ dX5_isHole_21 (by decide)
set_option maxRecDepth 100000 in
theorem ctX5_isHole {l : Launch} {G : zGt} {mk : zSt → zSt} {cl ch : Nat} (hm : zM mk cl ch) {a0 : Int64} {a2 : Int64} {σ : zSt} : zMet l G mk yX5_isHole cX5_isHole 4 (some .boolean) 0 0 [.long a0, .long a2] σ (some (.int (fX5_isHole a0 a2 ))) σ := by

  refine zMet.of (plainFor_of_name (by decide +kernel)) hm (Nat.le_of_ble_eq_true rfl) (fun T eL eG eM hN hC hQ => ?_)
  subst eL; subst eG; subst eM
  refine z_sub [(0, .long a0), (2, .long a2)] [0, 1] rfl ?_
  exact wX5_isHole_0 hC hN hQ _ _  rfl
noncomputable def fX5_lesser_0 (a0 : Int64) (a2 : Int64) : Int64 := 
    (if (fX5_isHole a0 a2) = 0 then nm (if (fX5_lowOf a2) < (fX5_lowOf a0) then (fX5_lowOf a2) else (fX5_lowOf a0)) fun x22_2 => nm (if (fX5_highOf a2) < (fX5_highOf a0) then (fX5_highOf a2) else (fX5_highOf a0)) fun x33_3 => (fX5_of x22_2 x33_3)
    else (4294967296 : Int64))
noncomputable def fX5_lesser (a0 : Int64) (a2 : Int64) : Int64 := fX5_lesser_0 a0 a2
set_option maxRecDepth 100000 in
set_option maxHeartbeats 4000000 in
theorem wX5_lesser_0 {T : zX} {cl ch : Nat} {σ : zSt} (hC : zOk T cX5_lesser RX5 1 23 cl ch) (hN : zNL T = 4) {r : Int64} (hQ : zRes T (some .long) (some (.long r)) σ) (a0 : Int64) (a2 : Int64)  (h : fX5_lesser_0 a0 a2  = r) : Z T σ 0 [(0, .long a0), (2, .long a2)] [] := by
  unfold fX5_lesser_0 at h
  refine z_lload_n hC 0 rfl rfl dX5_lesser_0 ?_
  refine z_lload_n hC 1 rfl rfl dX5_lesser_1 ?_
  refine z_cS2r hC (ctX5_isHole hC.hm) kb_X5_isHole km_X5_26 ⟨by decide, by decide⟩ (Nat.le_of_ble_eq_true rfl) dX5_lesser_2 ?_
  refine z_if_eq hC 14 (by decide) dX5_lesser_5 (fun q5_1 => ?_) (fun q5_1 => ?_)
  · replace h := z_t q5_1 h
    refine z_lload_n hC 0 rfl rfl dX5_lesser_14 ?_
    refine z_cS1r hC (ctX5_lowOf hC.hm) kb_X5_lowOf km_X5_19 ⟨by decide, by decide⟩ (Nat.le_of_ble_eq_true rfl) dX5_lesser_15 ?_
    refine z_lload_n hC 1 rfl rfl dX5_lesser_18 ?_
    refine z_cS1r hC (ctX5_lowOf hC.hm) kb_X5_lowOf km_X5_19 ⟨by decide, by decide⟩ (Nat.le_of_ble_eq_true rfl) dX5_lesser_19 ?_
    refine z_mminL hC km_X5_34 (Nat.le_of_ble_eq_true rfl) (Nat.le_of_ble_eq_true rfl) dX5_lesser_22 ?_
    refine z_nmL h (fun x22_2 h => ?_)
    refine z_lload_n hC 0 rfl rfl dX5_lesser_25 ?_
    refine z_cS1r hC (ctX5_highOf hC.hm) kb_X5_highOf km_X5_23 ⟨by decide, by decide⟩ (Nat.le_of_ble_eq_true rfl) dX5_lesser_26 ?_
    refine z_lload_n hC 1 rfl rfl dX5_lesser_29 ?_
    refine z_cS1r hC (ctX5_highOf hC.hm) kb_X5_highOf km_X5_23 ⟨by decide, by decide⟩ (Nat.le_of_ble_eq_true rfl) dX5_lesser_30 ?_
    refine z_mminL hC km_X5_34 (Nat.le_of_ble_eq_true rfl) (Nat.le_of_ble_eq_true rfl) dX5_lesser_33 ?_
    refine z_nmL h (fun x33_3 h => ?_)
    refine z_cS2r hC (ctX5_of hC.hm) kb_X5_of km_X5_30 ⟨by decide, by decide⟩ (Nat.le_of_ble_eq_true rfl) dX5_lesser_36 ?_
    subst h
    exact z_lret hC hQ dX5_lesser_39
  · replace h := z_f q5_1 h
    refine z_ldc2 hC kc_X5_15 dX5_lesser_8 ?_
    refine z_goto hC 39 (by decide) dX5_lesser_11 ?_
    subst h
    exact z_lret hC hQ dX5_lesser_39
set_option maxRecDepth 100000 in
theorem ctX5_lesser {l : Launch} {G : zGt} {mk : zSt → zSt} {cl ch : Nat} (hm : zM mk cl ch) {a0 : Int64} {a2 : Int64} {σ : zSt} : zMet l G mk yX5_lesser cX5_lesser 4 (some .long) 1 23 [.long a0, .long a2] σ (some (.long (fX5_lesser a0 a2 ))) σ := by

  refine zMet.of (plainFor_of_name (by decide +kernel)) hm (Nat.le_of_ble_eq_true rfl) (fun T eL eG eM hN hC hQ => ?_)
  subst eL; subst eG; subst eM
  refine z_sub [(0, .long a0), (2, .long a2)] [0, 1] rfl ?_
  exact wX5_lesser_0 hC hN hQ _ _  rfl
noncomputable def fX5_greater_0 (a0 : Int64) (a2 : Int64) : Int64 := 
    (if (fX5_isHole a0 a2) = 0 then nm (if (fX5_lowOf a2) < (fX5_lowOf a0) then (fX5_lowOf a0) else (fX5_lowOf a2)) fun x22_2 => nm (if (fX5_highOf a2) < (fX5_highOf a0) then (fX5_highOf a0) else (fX5_highOf a2)) fun x33_3 => (fX5_of x22_2 x33_3)
    else (4294967296 : Int64))
noncomputable def fX5_greater (a0 : Int64) (a2 : Int64) : Int64 := fX5_greater_0 a0 a2
set_option maxRecDepth 100000 in
set_option maxHeartbeats 4000000 in
theorem wX5_greater_0 {T : zX} {cl ch : Nat} {σ : zSt} (hC : zOk T cX5_greater RX5 1 23 cl ch) (hN : zNL T = 4) {r : Int64} (hQ : zRes T (some .long) (some (.long r)) σ) (a0 : Int64) (a2 : Int64)  (h : fX5_greater_0 a0 a2  = r) : Z T σ 0 [(0, .long a0), (2, .long a2)] [] := by
  unfold fX5_greater_0 at h
  refine z_lload_n hC 0 rfl rfl dX5_greater_0 ?_
  refine z_lload_n hC 1 rfl rfl dX5_greater_1 ?_
  refine z_cS2r hC (ctX5_isHole hC.hm) kb_X5_isHole km_X5_26 ⟨by decide, by decide⟩ (Nat.le_of_ble_eq_true rfl) dX5_greater_2 ?_
  refine z_if_eq hC 14 (by decide) dX5_greater_5 (fun q5_1 => ?_) (fun q5_1 => ?_)
  · replace h := z_t q5_1 h
    refine z_lload_n hC 0 rfl rfl dX5_greater_14 ?_
    refine z_cS1r hC (ctX5_lowOf hC.hm) kb_X5_lowOf km_X5_19 ⟨by decide, by decide⟩ (Nat.le_of_ble_eq_true rfl) dX5_greater_15 ?_
    refine z_lload_n hC 1 rfl rfl dX5_greater_18 ?_
    refine z_cS1r hC (ctX5_lowOf hC.hm) kb_X5_lowOf km_X5_19 ⟨by decide, by decide⟩ (Nat.le_of_ble_eq_true rfl) dX5_greater_19 ?_
    refine z_mmaxL hC km_X5_39 (Nat.le_of_ble_eq_true rfl) (Nat.le_of_ble_eq_true rfl) dX5_greater_22 ?_
    refine z_nmL h (fun x22_2 h => ?_)
    refine z_lload_n hC 0 rfl rfl dX5_greater_25 ?_
    refine z_cS1r hC (ctX5_highOf hC.hm) kb_X5_highOf km_X5_23 ⟨by decide, by decide⟩ (Nat.le_of_ble_eq_true rfl) dX5_greater_26 ?_
    refine z_lload_n hC 1 rfl rfl dX5_greater_29 ?_
    refine z_cS1r hC (ctX5_highOf hC.hm) kb_X5_highOf km_X5_23 ⟨by decide, by decide⟩ (Nat.le_of_ble_eq_true rfl) dX5_greater_30 ?_
    refine z_mmaxL hC km_X5_39 (Nat.le_of_ble_eq_true rfl) (Nat.le_of_ble_eq_true rfl) dX5_greater_33 ?_
    refine z_nmL h (fun x33_3 h => ?_)
    refine z_cS2r hC (ctX5_of hC.hm) kb_X5_of km_X5_30 ⟨by decide, by decide⟩ (Nat.le_of_ble_eq_true rfl) dX5_greater_36 ?_
    subst h
    exact z_lret hC hQ dX5_greater_39
  · replace h := z_f q5_1 h
    refine z_ldc2 hC kc_X5_15 dX5_greater_8 ?_
    refine z_goto hC 39 (by decide) dX5_greater_11 ?_
    subst h
    exact z_lret hC hQ dX5_greater_39
set_option maxRecDepth 100000 in
theorem ctX5_greater {l : Launch} {G : zGt} {mk : zSt → zSt} {cl ch : Nat} (hm : zM mk cl ch) {a0 : Int64} {a2 : Int64} {σ : zSt} : zMet l G mk yX5_greater cX5_greater 4 (some .long) 1 23 [.long a0, .long a2] σ (some (.long (fX5_greater a0 a2 ))) σ := by

  refine zMet.of (plainFor_of_name (by decide +kernel)) hm (Nat.le_of_ble_eq_true rfl) (fun T eL eG eM hN hC hQ => ?_)
  subst eL; subst eG; subst eM
  refine z_sub [(0, .long a0), (2, .long a2)] [0, 1] rfl ?_
  exact wX5_greater_0 hC hN hQ _ _  rfl
noncomputable def fX5_plus_0 (a0 : Int64) (a2 : Int64) : Int64 := 
    (if (fX5_isHole a0 a2) = 0 then nm (fX5_of ((fX5_lowOf a0) + (fX5_lowOf a2)) ((fX5_highOf a0) + (fX5_highOf a2))) fun x32_2 => x32_2
    else (4294967296 : Int64))
noncomputable def fX5_plus (a0 : Int64) (a2 : Int64) : Int64 := fX5_plus_0 a0 a2
set_option maxRecDepth 100000 in
set_option maxHeartbeats 4000000 in
theorem wX5_plus_0 {T : zX} {cl ch : Nat} {σ : zSt} (hC : zOk T cX5_plus RX5 1 23 cl ch) (hN : zNL T = 4) {r : Int64} (hQ : zRes T (some .long) (some (.long r)) σ) (a0 : Int64) (a2 : Int64)  (h : fX5_plus_0 a0 a2  = r) : Z T σ 0 [(0, .long a0), (2, .long a2)] [] := by
  unfold fX5_plus_0 at h
  refine z_lload_n hC 0 rfl rfl dX5_plus_0 ?_
  refine z_lload_n hC 1 rfl rfl dX5_plus_1 ?_
  refine z_cS2r hC (ctX5_isHole hC.hm) kb_X5_isHole km_X5_26 ⟨by decide, by decide⟩ (Nat.le_of_ble_eq_true rfl) dX5_plus_2 ?_
  refine z_if_eq hC 14 (by decide) dX5_plus_5 (fun q5_1 => ?_) (fun q5_1 => ?_)
  · replace h := z_t q5_1 h
    refine z_lload_n hC 0 rfl rfl dX5_plus_14 ?_
    refine z_cS1r hC (ctX5_lowOf hC.hm) kb_X5_lowOf km_X5_19 ⟨by decide, by decide⟩ (Nat.le_of_ble_eq_true rfl) dX5_plus_15 ?_
    refine z_lload_n hC 1 rfl rfl dX5_plus_18 ?_
    refine z_cS1r hC (ctX5_lowOf hC.hm) kb_X5_lowOf km_X5_19 ⟨by decide, by decide⟩ (Nat.le_of_ble_eq_true rfl) dX5_plus_19 ?_
    refine z_ladd hC dX5_plus_22 ?_
    refine z_lload_n hC 0 rfl rfl dX5_plus_23 ?_
    refine z_cS1r hC (ctX5_highOf hC.hm) kb_X5_highOf km_X5_23 ⟨by decide, by decide⟩ (Nat.le_of_ble_eq_true rfl) dX5_plus_24 ?_
    refine z_lload_n hC 1 rfl rfl dX5_plus_27 ?_
    refine z_cS1r hC (ctX5_highOf hC.hm) kb_X5_highOf km_X5_23 ⟨by decide, by decide⟩ (Nat.le_of_ble_eq_true rfl) dX5_plus_28 ?_
    refine z_ladd hC dX5_plus_31 ?_
    refine z_cS2r hC (ctX5_of hC.hm) kb_X5_of km_X5_30 ⟨by decide, by decide⟩ (Nat.le_of_ble_eq_true rfl) dX5_plus_32 ?_
    refine z_nmL h (fun x32_2 h => ?_)
    subst h
    exact z_lret hC hQ dX5_plus_35
  · replace h := z_f q5_1 h
    refine z_ldc2 hC kc_X5_15 dX5_plus_8 ?_
    refine z_goto hC 35 (by decide) dX5_plus_11 ?_
    subst h
    exact z_lret hC hQ dX5_plus_35
set_option maxRecDepth 100000 in
theorem ctX5_plus {l : Launch} {G : zGt} {mk : zSt → zSt} {cl ch : Nat} (hm : zM mk cl ch) {a0 : Int64} {a2 : Int64} {σ : zSt} : zMet l G mk yX5_plus cX5_plus 4 (some .long) 1 23 [.long a0, .long a2] σ (some (.long (fX5_plus a0 a2 ))) σ := by

  refine zMet.of (plainFor_of_name (by decide +kernel)) hm (Nat.le_of_ble_eq_true rfl) (fun T eL eG eM hN hC hQ => ?_)
  subst eL; subst eG; subst eM
  refine z_sub [(0, .long a0), (2, .long a2)] [0, 1] rfl ?_
  exact wX5_plus_0 hC hN hQ _ _  rfl
noncomputable def fX5_minus_0 (a0 : Int64) (a2 : Int64) : Int64 := 
    (if (fX5_isHole a0 a2) = 0 then nm (fX5_of ((fX5_lowOf a0) - (fX5_highOf a2)) ((fX5_highOf a0) - (fX5_lowOf a2))) fun x32_2 => x32_2
    else (4294967296 : Int64))
noncomputable def fX5_minus (a0 : Int64) (a2 : Int64) : Int64 := fX5_minus_0 a0 a2
set_option maxRecDepth 100000 in
set_option maxHeartbeats 4000000 in
theorem wX5_minus_0 {T : zX} {cl ch : Nat} {σ : zSt} (hC : zOk T cX5_minus RX5 1 23 cl ch) (hN : zNL T = 4) {r : Int64} (hQ : zRes T (some .long) (some (.long r)) σ) (a0 : Int64) (a2 : Int64)  (h : fX5_minus_0 a0 a2  = r) : Z T σ 0 [(0, .long a0), (2, .long a2)] [] := by
  unfold fX5_minus_0 at h
  refine z_lload_n hC 0 rfl rfl dX5_minus_0 ?_
  refine z_lload_n hC 1 rfl rfl dX5_minus_1 ?_
  refine z_cS2r hC (ctX5_isHole hC.hm) kb_X5_isHole km_X5_26 ⟨by decide, by decide⟩ (Nat.le_of_ble_eq_true rfl) dX5_minus_2 ?_
  refine z_if_eq hC 14 (by decide) dX5_minus_5 (fun q5_1 => ?_) (fun q5_1 => ?_)
  · replace h := z_t q5_1 h
    refine z_lload_n hC 0 rfl rfl dX5_minus_14 ?_
    refine z_cS1r hC (ctX5_lowOf hC.hm) kb_X5_lowOf km_X5_19 ⟨by decide, by decide⟩ (Nat.le_of_ble_eq_true rfl) dX5_minus_15 ?_
    refine z_lload_n hC 1 rfl rfl dX5_minus_18 ?_
    refine z_cS1r hC (ctX5_highOf hC.hm) kb_X5_highOf km_X5_23 ⟨by decide, by decide⟩ (Nat.le_of_ble_eq_true rfl) dX5_minus_19 ?_
    refine z_lsub hC dX5_minus_22 ?_
    refine z_lload_n hC 0 rfl rfl dX5_minus_23 ?_
    refine z_cS1r hC (ctX5_highOf hC.hm) kb_X5_highOf km_X5_23 ⟨by decide, by decide⟩ (Nat.le_of_ble_eq_true rfl) dX5_minus_24 ?_
    refine z_lload_n hC 1 rfl rfl dX5_minus_27 ?_
    refine z_cS1r hC (ctX5_lowOf hC.hm) kb_X5_lowOf km_X5_19 ⟨by decide, by decide⟩ (Nat.le_of_ble_eq_true rfl) dX5_minus_28 ?_
    refine z_lsub hC dX5_minus_31 ?_
    refine z_cS2r hC (ctX5_of hC.hm) kb_X5_of km_X5_30 ⟨by decide, by decide⟩ (Nat.le_of_ble_eq_true rfl) dX5_minus_32 ?_
    refine z_nmL h (fun x32_2 h => ?_)
    subst h
    exact z_lret hC hQ dX5_minus_35
  · replace h := z_f q5_1 h
    refine z_ldc2 hC kc_X5_15 dX5_minus_8 ?_
    refine z_goto hC 35 (by decide) dX5_minus_11 ?_
    subst h
    exact z_lret hC hQ dX5_minus_35
set_option maxRecDepth 100000 in
theorem ctX5_minus {l : Launch} {G : zGt} {mk : zSt → zSt} {cl ch : Nat} (hm : zM mk cl ch) {a0 : Int64} {a2 : Int64} {σ : zSt} : zMet l G mk yX5_minus cX5_minus 4 (some .long) 1 23 [.long a0, .long a2] σ (some (.long (fX5_minus a0 a2 ))) σ := by

  refine zMet.of (plainFor_of_name (by decide +kernel)) hm (Nat.le_of_ble_eq_true rfl) (fun T eL eG eM hN hC hQ => ?_)
  subst eL; subst eG; subst eM
  refine z_sub [(0, .long a0), (2, .long a2)] [0, 1] rfl ?_
  exact wX5_minus_0 hC hN hQ _ _  rfl
noncomputable def fX5_times_0 (a0 : Int64) (a2 : Int64) : Int64 := 
    (if (fX5_isHole a0 a2) = 0 then nm ((fX5_lowOf a0) * (fX5_lowOf a2)) fun x21_2 => nm ((fX5_lowOf a0) * (fX5_highOf a2)) fun x32_3 => nm ((fX5_highOf a0) * (fX5_lowOf a2)) fun x43_4 => nm ((fX5_highOf a0) * (fX5_highOf a2)) fun x54_5 => nm (if (if x54_5 < x43_4 then x54_5 else x43_4) < (if x32_3 < x21_2 then x32_3 else x21_2) then (if x54_5 < x43_4 then x54_5 else x43_4) else (if x32_3 < x21_2 then x32_3 else x21_2)) fun x70_6 => nm (if (if x54_5 < x43_4 then x43_4 else x54_5) < (if x32_3 < x21_2 then x21_2 else x32_3) then (if x32_3 < x21_2 then x21_2 else x32_3) else (if x54_5 < x43_4 then x43_4 else x54_5)) fun x89_7 => (fX5_of (jshrL x70_6 (20 : Int32)) (-(jshrL (-x89_7) (20 : Int32))))
    else (4294967296 : Int64))
noncomputable def fX5_times (a0 : Int64) (a2 : Int64) : Int64 := fX5_times_0 a0 a2
set_option maxRecDepth 100000 in
set_option maxHeartbeats 4000000 in
theorem wX5_times_0 {T : zX} {cl ch : Nat} {σ : zSt} (hC : zOk T cX5_times RX5 1 23 cl ch) (hN : zNL T = 16) {r : Int64} (hQ : zRes T (some .long) (some (.long r)) σ) (a0 : Int64) (a2 : Int64)  (h : fX5_times_0 a0 a2  = r) : Z T σ 0 [(0, .long a0), (2, .long a2)] [] := by
  unfold fX5_times_0 at h
  refine z_lload_n hC 0 rfl rfl dX5_times_0 ?_
  refine z_lload_n hC 1 rfl rfl dX5_times_1 ?_
  refine z_cS2r hC (ctX5_isHole hC.hm) kb_X5_isHole km_X5_26 ⟨by decide, by decide⟩ (Nat.le_of_ble_eq_true rfl) dX5_times_2 ?_
  refine z_if_eq hC 12 (by decide) dX5_times_5 (fun q5_1 => ?_) (fun q5_1 => ?_)
  · replace h := z_t q5_1 h
    refine z_lload_n hC 0 rfl rfl dX5_times_12 ?_
    refine z_cS1r hC (ctX5_lowOf hC.hm) kb_X5_lowOf km_X5_19 ⟨by decide, by decide⟩ (Nat.le_of_ble_eq_true rfl) dX5_times_13 ?_
    refine z_lload_n hC 1 rfl rfl dX5_times_16 ?_
    refine z_cS1r hC (ctX5_lowOf hC.hm) kb_X5_lowOf km_X5_19 ⟨by decide, by decide⟩ (Nat.le_of_ble_eq_true rfl) dX5_times_17 ?_
    refine z_lmul hC dX5_times_20 ?_
    refine z_nmL h (fun x21_2 h => ?_)
    refine z_lstore hC [(4, .long x21_2), (0, .long a0), (2, .long a2)] (by rw [hN]; decide) rfl dX5_times_21 ?_
    refine z_lload_n hC 1 rfl rfl dX5_times_23 ?_
    refine z_cS1r hC (ctX5_lowOf hC.hm) kb_X5_lowOf km_X5_19 ⟨by decide, by decide⟩ (Nat.le_of_ble_eq_true rfl) dX5_times_24 ?_
    refine z_lload_n hC 2 rfl rfl dX5_times_27 ?_
    refine z_cS1r hC (ctX5_highOf hC.hm) kb_X5_highOf km_X5_23 ⟨by decide, by decide⟩ (Nat.le_of_ble_eq_true rfl) dX5_times_28 ?_
    refine z_lmul hC dX5_times_31 ?_
    refine z_nmL h (fun x32_3 h => ?_)
    refine z_lstore hC [(6, .long x32_3), (4, .long x21_2), (0, .long a0), (2, .long a2)] (by rw [hN]; decide) rfl dX5_times_32 ?_
    refine z_lload_n hC 2 rfl rfl dX5_times_34 ?_
    refine z_cS1r hC (ctX5_highOf hC.hm) kb_X5_highOf km_X5_23 ⟨by decide, by decide⟩ (Nat.le_of_ble_eq_true rfl) dX5_times_35 ?_
    refine z_lload_n hC 3 rfl rfl dX5_times_38 ?_
    refine z_cS1r hC (ctX5_lowOf hC.hm) kb_X5_lowOf km_X5_19 ⟨by decide, by decide⟩ (Nat.le_of_ble_eq_true rfl) dX5_times_39 ?_
    refine z_lmul hC dX5_times_42 ?_
    refine z_nmL h (fun x43_4 h => ?_)
    refine z_lstore hC [(8, .long x43_4), (6, .long x32_3), (4, .long x21_2), (0, .long a0), (2, .long a2)] (by rw [hN]; decide) rfl dX5_times_43 ?_
    refine z_lload_n hC 3 rfl rfl dX5_times_45 ?_
    refine z_cS1r hC (ctX5_highOf hC.hm) kb_X5_highOf km_X5_23 ⟨by decide, by decide⟩ (Nat.le_of_ble_eq_true rfl) dX5_times_46 ?_
    refine z_lload_n hC 4 rfl rfl dX5_times_49 ?_
    refine z_cS1r hC (ctX5_highOf hC.hm) kb_X5_highOf km_X5_23 ⟨by decide, by decide⟩ (Nat.le_of_ble_eq_true rfl) dX5_times_50 ?_
    refine z_lmul hC dX5_times_53 ?_
    refine z_nmL h (fun x54_5 h => ?_)
    refine z_lstore hC [(10, .long x54_5), (8, .long x43_4), (6, .long x32_3), (4, .long x21_2), (0, .long a0), (2, .long a2)] (by rw [hN]; decide) rfl dX5_times_54 ?_
    refine z_lload hC 3 rfl dX5_times_56 ?_
    refine z_lload hC 2 rfl dX5_times_58 ?_
    refine z_mminL hC km_X5_34 (Nat.le_of_ble_eq_true rfl) (Nat.le_of_ble_eq_true rfl) dX5_times_60 ?_
    refine z_lload hC 1 rfl dX5_times_63 ?_
    refine z_lload hC 0 rfl dX5_times_65 ?_
    refine z_mminL hC km_X5_34 (Nat.le_of_ble_eq_true rfl) (Nat.le_of_ble_eq_true rfl) dX5_times_67 ?_
    refine z_mminL hC km_X5_34 (Nat.le_of_ble_eq_true rfl) (Nat.le_of_ble_eq_true rfl) dX5_times_70 ?_
    refine z_nmL h (fun x70_6 h => ?_)
    refine z_lstore hC [(12, .long x70_6), (10, .long x54_5), (8, .long x43_4), (6, .long x32_3), (4, .long x21_2), (0, .long a0), (2, .long a2)] (by rw [hN]; decide) rfl dX5_times_73 ?_
    refine z_lload hC 4 rfl dX5_times_75 ?_
    refine z_lload hC 3 rfl dX5_times_77 ?_
    refine z_mmaxL hC km_X5_39 (Nat.le_of_ble_eq_true rfl) (Nat.le_of_ble_eq_true rfl) dX5_times_79 ?_
    refine z_lload hC 2 rfl dX5_times_82 ?_
    refine z_lload hC 1 rfl dX5_times_84 ?_
    refine z_mmaxL hC km_X5_39 (Nat.le_of_ble_eq_true rfl) (Nat.le_of_ble_eq_true rfl) dX5_times_86 ?_
    refine z_mmaxL hC km_X5_39 (Nat.le_of_ble_eq_true rfl) (Nat.le_of_ble_eq_true rfl) dX5_times_89 ?_
    refine z_nmL h (fun x89_7 h => ?_)
    refine z_lstore hC [(14, .long x89_7), (12, .long x70_6), (10, .long x54_5), (8, .long x43_4), (6, .long x32_3), (4, .long x21_2), (0, .long a0), (2, .long a2)] (by rw [hN]; decide) rfl dX5_times_92 ?_
    refine z_lload hC 1 rfl dX5_times_94 ?_
    refine z_bipush hC (20 : Int32) (by decide) dX5_times_96 ?_
    refine z_lshr hC dX5_times_98 ?_
    refine z_lload hC 0 rfl dX5_times_99 ?_
    refine z_lneg hC dX5_times_101 ?_
    refine z_bipush hC (20 : Int32) (by decide) dX5_times_102 ?_
    refine z_lshr hC dX5_times_104 ?_
    refine z_lneg hC dX5_times_105 ?_
    refine z_cS2r hC (ctX5_of hC.hm) kb_X5_of km_X5_30 ⟨by decide, by decide⟩ (Nat.le_of_ble_eq_true rfl) dX5_times_106 ?_
    subst h
    exact z_lret hC hQ dX5_times_109
  · replace h := z_f q5_1 h
    refine z_ldc2 hC kc_X5_15 dX5_times_8 ?_
    subst h
    exact z_lret hC hQ dX5_times_11
set_option maxRecDepth 100000 in
theorem ctX5_times {l : Launch} {G : zGt} {mk : zSt → zSt} {cl ch : Nat} (hm : zM mk cl ch) {a0 : Int64} {a2 : Int64} {σ : zSt} : zMet l G mk yX5_times cX5_times 16 (some .long) 1 23 [.long a0, .long a2] σ (some (.long (fX5_times a0 a2 ))) σ := by

  refine zMet.of (plainFor_of_name (by decide +kernel)) hm (Nat.le_of_ble_eq_true rfl) (fun T eL eG eM hN hC hQ => ?_)
  subst eL; subst eG; subst eM
  refine z_sub [(0, .long a0), (2, .long a2)] [0, 1] rfl ?_
  exact wX5_times_0 hC hN hQ _ _  rfl
noncomputable def fX5_hasNoZero_0 (a0 : Int64) : Int32 := 
    (if a0 = (4294967296 : Int64) then (0 : Int32)
    else 
      (if (0 : Int64) < (fX5_lowOf a0) then (1 : Int32)
      else 
        (if (0 : Int64) ≤ (fX5_highOf a0) then (0 : Int32)
        else (1 : Int32))))
noncomputable def fX5_hasNoZero (a0 : Int64) : Int32 := fX5_hasNoZero_0 a0
set_option maxRecDepth 100000 in
set_option maxHeartbeats 4000000 in
theorem wX5_hasNoZero_0 {T : zX} {cl ch : Nat} {σ : zSt} (hC : zOk T cX5_hasNoZero RX5 1 21 cl ch) (hN : zNL T = 2) {r : Int32} (hQ : zRes T (some .boolean) (some (.int r)) σ) (a0 : Int64)  (h : fX5_hasNoZero_0 a0  = r) : Z T σ 0 [(0, .long a0)] [] := by
  unfold fX5_hasNoZero_0 at h
  refine z_lload_n hC 0 rfl rfl dX5_hasNoZero_0 ?_
  refine z_ldc2 hC kc_X5_15 dX5_hasNoZero_1 ?_
  refine z_cmp_eq hC 30 (by decide) dX5_hasNoZero_4 dX5_hasNoZero_5 (fun q4_1 => ?_) (fun q4_1 => ?_)
  · replace h := z_t q4_1 h
    refine z_iconst hC (0 : Int32) (by decide) dX5_hasNoZero_30 ?_
    subst h
    exact z_zret hC hQ dX5_hasNoZero_31 (by decide)
  · replace h := z_f q4_1 h
    refine z_lload_n hC 0 rfl rfl dX5_hasNoZero_8 ?_
    refine z_cS1r hC (ctX5_lowOf hC.hm) kb_X5_lowOf km_X5_19 ⟨by decide, by decide⟩ (Nat.le_of_ble_eq_true rfl) dX5_hasNoZero_9 ?_
    refine z_lconst hC (0 : Int64) (by decide) dX5_hasNoZero_12 ?_
    refine z_cmp_gt hC 26 (by decide) dX5_hasNoZero_13 dX5_hasNoZero_14 (fun q13_2 => ?_) (fun q13_2 => ?_)
    · replace h := z_t q13_2 h
      refine z_iconst hC (1 : Int32) (by decide) dX5_hasNoZero_26 ?_
      refine z_goto hC 31 (by decide) dX5_hasNoZero_27 ?_
      subst h
      exact z_zret hC hQ dX5_hasNoZero_31 (by decide)
    · replace h := z_f q13_2 h
      refine z_lload_n hC 0 rfl rfl dX5_hasNoZero_17 ?_
      refine z_cS1r hC (ctX5_highOf hC.hm) kb_X5_highOf km_X5_23 ⟨by decide, by decide⟩ (Nat.le_of_ble_eq_true rfl) dX5_hasNoZero_18 ?_
      refine z_lconst hC (0 : Int64) (by decide) dX5_hasNoZero_21 ?_
      refine z_cmp_ge hC 30 (by decide) dX5_hasNoZero_22 dX5_hasNoZero_23 (fun q22_3 => ?_) (fun q22_3 => ?_)
      · replace h := z_t q22_3 h
        refine z_iconst hC (0 : Int32) (by decide) dX5_hasNoZero_30 ?_
        subst h
        exact z_zret hC hQ dX5_hasNoZero_31 (by decide)
      · replace h := z_f q22_3 h
        refine z_iconst hC (1 : Int32) (by decide) dX5_hasNoZero_26 ?_
        refine z_goto hC 31 (by decide) dX5_hasNoZero_27 ?_
        subst h
        exact z_zret hC hQ dX5_hasNoZero_31 (by decide)
set_option maxRecDepth 100000 in
theorem ctX5_hasNoZero {l : Launch} {G : zGt} {mk : zSt → zSt} {cl ch : Nat} (hm : zM mk cl ch) {a0 : Int64} {σ : zSt} : zMet l G mk yX5_hasNoZero cX5_hasNoZero 2 (some .boolean) 1 21 [.long a0] σ (some (.int (fX5_hasNoZero a0 ))) σ := by

  refine zMet.of (plainFor_of_name (by decide +kernel)) hm (Nat.le_of_ble_eq_true rfl) (fun T eL eG eM hN hC hQ => ?_)
  subst eL; subst eG; subst eM
  refine z_sub [(0, .long a0)] [0] rfl ?_
  exact wX5_hasNoZero_0 hC hN hQ _  rfl
noncomputable def fX5_over_0 (a0 : Int64) (a2 : Int64) : Option Int64 := 
    (if (fX5_isHole a0 a2) = 0 then 
      (if (fX5_hasNoZero a2) = 0 then some (4294967296 : Int64)
      else nm (jshlL (fX5_lowOf a0) (20 : Int32)) fun x26_3 => nm (jshlL (fX5_highOf a0) (20 : Int32)) fun x35_4 => nm (fX5_lowOf a2) fun x41_5 => nm (fX5_highOf a2) fun x47_6 => 
        (if x41_5 = (0 : Int64) then some (4294967296 : Int64)
        else 
          (if x47_6 = (0 : Int64) then some (4294967296 : Int64)
          else bd1 (fJ9_floorDiv_f86c9 x26_3 x41_5) fun r71_9 => bd1 (fJ9_floorDiv_f86c9 x26_3 x47_6) fun r78_10 => bd1 (fJ9_floorDiv_f86c9 x35_4 x41_5) fun r88_11 => bd1 (fJ9_floorDiv_f86c9 x35_4 x47_6) fun r95_12 => nm (if (if r95_12 < r88_11 then r95_12 else r88_11) < (if r78_10 < r71_9 then r78_10 else r71_9) then (if r95_12 < r88_11 then r95_12 else r88_11) else (if r78_10 < r71_9 then r78_10 else r71_9)) fun x101_13 => bd1 (fJ9_floorDiv_f86c9 (-x26_3) x41_5) fun r111_14 => bd1 (fJ9_floorDiv_f86c9 (-x26_3) x47_6) fun r119_15 => bd1 (fJ9_floorDiv_f86c9 (-x35_4) x41_5) fun r130_16 => bd1 (fJ9_floorDiv_f86c9 (-x35_4) x47_6) fun r138_17 => nm (if (if r138_17 < r130_16 then r138_17 else r130_16) < (if r119_15 < r111_14 then r119_15 else r111_14) then (if r138_17 < r130_16 then r138_17 else r130_16) else (if r119_15 < r111_14 then r119_15 else r111_14)) fun x144_18 => nm (-x144_18) fun x148_19 => some (fX5_of x101_13 x148_19))))
    else some (4294967296 : Int64))
noncomputable def fX5_over (a0 : Int64) (a2 : Int64) : Option Int64 := fX5_over_0 a0 a2
set_option maxRecDepth 100000 in
set_option maxHeartbeats 4000000 in
theorem wX5_over_0 {T : zX} {cl ch : Nat} {σ : zSt} (hC : zOk T cX5_over RX5 2 42 cl ch) (hN : zNL T = 16) {r : Int64} (hQ : zRes T (some .long) (some (.long r)) σ) (a0 : Int64) (a2 : Int64)  (h : fX5_over_0 a0 a2  = some r) : Z T σ 0 [(0, .long a0), (2, .long a2)] [] := by
  unfold fX5_over_0 at h
  refine z_lload_n hC 0 rfl rfl dX5_over_0 ?_
  refine z_lload_n hC 1 rfl rfl dX5_over_1 ?_
  refine z_cS2r hC (ctX5_isHole hC.hm) kb_X5_isHole km_X5_26 ⟨by decide, by decide⟩ (Nat.le_of_ble_eq_true rfl) dX5_over_2 ?_
  refine z_if_ne hC 15 (by decide) dX5_over_5 (fun q5_1 => ?_) (fun q5_1 => ?_)
  · replace h := z_f q5_1 h
    refine z_ldc2 hC kc_X5_15 dX5_over_15 ?_
    obtain rfl := z_so h
    exact z_lret hC hQ dX5_over_18
  · replace h := z_t q5_1 h
    refine z_lload_n hC 1 rfl rfl dX5_over_8 ?_
    refine z_cS1r hC (ctX5_hasNoZero hC.hm) kb_X5_hasNoZero km_X5_42 ⟨by decide, by decide⟩ (Nat.le_of_ble_eq_true rfl) dX5_over_9 ?_
    refine z_if_ne hC 19 (by decide) dX5_over_12 (fun q12_2 => ?_) (fun q12_2 => ?_)
    · replace h := z_f q12_2 h
      refine z_lload_n hC 0 rfl rfl dX5_over_19 ?_
      refine z_cS1r hC (ctX5_lowOf hC.hm) kb_X5_lowOf km_X5_19 ⟨by decide, by decide⟩ (Nat.le_of_ble_eq_true rfl) dX5_over_20 ?_
      refine z_bipush hC (20 : Int32) (by decide) dX5_over_23 ?_
      refine z_lshl hC dX5_over_25 ?_
      refine z_nmL h (fun x26_3 h => ?_)
      refine z_lstore hC [(4, .long x26_3), (0, .long a0), (2, .long a2)] (by rw [hN]; decide) rfl dX5_over_26 ?_
      refine z_lload_n hC 1 rfl rfl dX5_over_28 ?_
      refine z_cS1r hC (ctX5_highOf hC.hm) kb_X5_highOf km_X5_23 ⟨by decide, by decide⟩ (Nat.le_of_ble_eq_true rfl) dX5_over_29 ?_
      refine z_bipush hC (20 : Int32) (by decide) dX5_over_32 ?_
      refine z_lshl hC dX5_over_34 ?_
      refine z_nmL h (fun x35_4 h => ?_)
      refine z_lstore hC [(6, .long x35_4), (4, .long x26_3), (0, .long a0), (2, .long a2)] (by rw [hN]; decide) rfl dX5_over_35 ?_
      refine z_lload_n hC 3 rfl rfl dX5_over_37 ?_
      refine z_cS1r hC (ctX5_lowOf hC.hm) kb_X5_lowOf km_X5_19 ⟨by decide, by decide⟩ (Nat.le_of_ble_eq_true rfl) dX5_over_38 ?_
      refine z_nmL h (fun x41_5 h => ?_)
      refine z_lstore hC [(8, .long x41_5), (6, .long x35_4), (4, .long x26_3), (0, .long a0), (2, .long a2)] (by rw [hN]; decide) rfl dX5_over_41 ?_
      refine z_lload_n hC 4 rfl rfl dX5_over_43 ?_
      refine z_cS1r hC (ctX5_highOf hC.hm) kb_X5_highOf km_X5_23 ⟨by decide, by decide⟩ (Nat.le_of_ble_eq_true rfl) dX5_over_44 ?_
      refine z_nmL h (fun x47_6 h => ?_)
      refine z_lstore hC [(10, .long x47_6), (8, .long x41_5), (6, .long x35_4), (4, .long x26_3), (0, .long a0), (2, .long a2)] (by rw [hN]; decide) rfl dX5_over_47 ?_
      refine z_lload hC 1 rfl dX5_over_49 ?_
      refine z_lconst hC (0 : Int64) (by decide) dX5_over_51 ?_
      refine z_cmp_eq hC 63 (by decide) dX5_over_52 dX5_over_53 (fun q52_7 => ?_) (fun q52_7 => ?_)
      · replace h := z_t q52_7 h
        refine z_ldc2 hC kc_X5_15 dX5_over_63 ?_
        obtain rfl := z_so h
        exact z_lret hC hQ dX5_over_66
      · replace h := z_f q52_7 h
        refine z_lload hC 0 rfl dX5_over_56 ?_
        refine z_lconst hC (0 : Int64) (by decide) dX5_over_58 ?_
        refine z_cmp_ne hC 67 (by decide) dX5_over_59 dX5_over_60 (fun q59_8 => ?_) (fun q59_8 => ?_)
        · replace h := z_f q59_8 h
          refine z_lload hC 3 rfl dX5_over_67 ?_
          refine z_lload hC 1 rfl dX5_over_69 ?_
          refine z_b1 h (fun r71_9 e_r71_9 h => ?_)
          refine z_cS2r hC (ctJ9_floorDiv_f86c9 hC.hm e_r71_9) kb_J9_floorDiv_f86c9 km_X5_46 ⟨by decide, by decide⟩ (Nat.le_of_ble_eq_true rfl) dX5_over_71 ?_
          refine z_lload hC 3 rfl dX5_over_74 ?_
          refine z_lload hC 0 rfl dX5_over_76 ?_
          refine z_b1 h (fun r78_10 e_r78_10 h => ?_)
          refine z_cS2r hC (ctJ9_floorDiv_f86c9 hC.hm e_r78_10) kb_J9_floorDiv_f86c9 km_X5_46 ⟨by decide, by decide⟩ (Nat.le_of_ble_eq_true rfl) dX5_over_78 ?_
          refine z_mminL hC km_X5_34 (Nat.le_of_ble_eq_true rfl) (Nat.le_of_ble_eq_true rfl) dX5_over_81 ?_
          refine z_lload hC 2 rfl dX5_over_84 ?_
          refine z_lload hC 1 rfl dX5_over_86 ?_
          refine z_b1 h (fun r88_11 e_r88_11 h => ?_)
          refine z_cS2r hC (ctJ9_floorDiv_f86c9 hC.hm e_r88_11) kb_J9_floorDiv_f86c9 km_X5_46 ⟨by decide, by decide⟩ (Nat.le_of_ble_eq_true rfl) dX5_over_88 ?_
          refine z_lload hC 2 rfl dX5_over_91 ?_
          refine z_lload hC 0 rfl dX5_over_93 ?_
          refine z_b1 h (fun r95_12 e_r95_12 h => ?_)
          refine z_cS2r hC (ctJ9_floorDiv_f86c9 hC.hm e_r95_12) kb_J9_floorDiv_f86c9 km_X5_46 ⟨by decide, by decide⟩ (Nat.le_of_ble_eq_true rfl) dX5_over_95 ?_
          refine z_mminL hC km_X5_34 (Nat.le_of_ble_eq_true rfl) (Nat.le_of_ble_eq_true rfl) dX5_over_98 ?_
          refine z_mminL hC km_X5_34 (Nat.le_of_ble_eq_true rfl) (Nat.le_of_ble_eq_true rfl) dX5_over_101 ?_
          refine z_nmL h (fun x101_13 h => ?_)
          refine z_lstore hC [(12, .long x101_13), (10, .long x47_6), (8, .long x41_5), (6, .long x35_4), (4, .long x26_3), (0, .long a0), (2, .long a2)] (by rw [hN]; decide) rfl dX5_over_104 ?_
          refine z_lload hC 4 rfl dX5_over_106 ?_
          refine z_lneg hC dX5_over_108 ?_
          refine z_lload hC 2 rfl dX5_over_109 ?_
          refine z_b1 h (fun r111_14 e_r111_14 h => ?_)
          refine z_cS2r hC (ctJ9_floorDiv_f86c9 hC.hm e_r111_14) kb_J9_floorDiv_f86c9 km_X5_46 ⟨by decide, by decide⟩ (Nat.le_of_ble_eq_true rfl) dX5_over_111 ?_
          refine z_lload hC 4 rfl dX5_over_114 ?_
          refine z_lneg hC dX5_over_116 ?_
          refine z_lload hC 1 rfl dX5_over_117 ?_
          refine z_b1 h (fun r119_15 e_r119_15 h => ?_)
          refine z_cS2r hC (ctJ9_floorDiv_f86c9 hC.hm e_r119_15) kb_J9_floorDiv_f86c9 km_X5_46 ⟨by decide, by decide⟩ (Nat.le_of_ble_eq_true rfl) dX5_over_119 ?_
          refine z_mminL hC km_X5_34 (Nat.le_of_ble_eq_true rfl) (Nat.le_of_ble_eq_true rfl) dX5_over_122 ?_
          refine z_lload hC 3 rfl dX5_over_125 ?_
          refine z_lneg hC dX5_over_127 ?_
          refine z_lload hC 2 rfl dX5_over_128 ?_
          refine z_b1 h (fun r130_16 e_r130_16 h => ?_)
          refine z_cS2r hC (ctJ9_floorDiv_f86c9 hC.hm e_r130_16) kb_J9_floorDiv_f86c9 km_X5_46 ⟨by decide, by decide⟩ (Nat.le_of_ble_eq_true rfl) dX5_over_130 ?_
          refine z_lload hC 3 rfl dX5_over_133 ?_
          refine z_lneg hC dX5_over_135 ?_
          refine z_lload hC 1 rfl dX5_over_136 ?_
          refine z_b1 h (fun r138_17 e_r138_17 h => ?_)
          refine z_cS2r hC (ctJ9_floorDiv_f86c9 hC.hm e_r138_17) kb_J9_floorDiv_f86c9 km_X5_46 ⟨by decide, by decide⟩ (Nat.le_of_ble_eq_true rfl) dX5_over_138 ?_
          refine z_mminL hC km_X5_34 (Nat.le_of_ble_eq_true rfl) (Nat.le_of_ble_eq_true rfl) dX5_over_141 ?_
          refine z_mminL hC km_X5_34 (Nat.le_of_ble_eq_true rfl) (Nat.le_of_ble_eq_true rfl) dX5_over_144 ?_
          refine z_nmL h (fun x144_18 h => ?_)
          refine z_lneg hC dX5_over_147 ?_
          refine z_nmL h (fun x148_19 h => ?_)
          refine z_lstore hC [(14, .long x148_19), (12, .long x101_13), (10, .long x47_6), (8, .long x41_5), (6, .long x35_4), (4, .long x26_3), (0, .long a0), (2, .long a2)] (by rw [hN]; decide) rfl dX5_over_148 ?_
          refine z_lload hC 1 rfl dX5_over_150 ?_
          refine z_lload hC 0 rfl dX5_over_152 ?_
          refine z_cS2r hC (ctX5_of hC.hm) kb_X5_of km_X5_30 ⟨by decide, by decide⟩ (Nat.le_of_ble_eq_true rfl) dX5_over_154 ?_
          obtain rfl := z_so h
          exact z_lret hC hQ dX5_over_157
        · replace h := z_t q59_8 h
          refine z_ldc2 hC kc_X5_15 dX5_over_63 ?_
          obtain rfl := z_so h
          exact z_lret hC hQ dX5_over_66
    · replace h := z_t q12_2 h
      refine z_ldc2 hC kc_X5_15 dX5_over_15 ?_
      obtain rfl := z_so h
      exact z_lret hC hQ dX5_over_18
set_option maxRecDepth 100000 in
theorem ctX5_over {l : Launch} {G : zGt} {mk : zSt → zSt} {cl ch : Nat} (hm : zM mk cl ch) {a0 : Int64} {a2 : Int64} {σ : zSt} {r : Int64} (h : fX5_over a0 a2  = some r) : zMet l G mk yX5_over cX5_over 16 (some .long) 2 42 [.long a0, .long a2] σ (some (.long r)) σ := by
  unfold fX5_over at h

  refine zMet.of (plainFor_of_name (by decide +kernel)) hm (Nat.le_of_ble_eq_true rfl) (fun T eL eG eM hN hC hQ => ?_)
  subst eL; subst eG; subst eM
  refine z_sub [(0, .long a0), (2, .long a2)] [0, 1] rfl ?_
  exact wX5_over_0 hC hN hQ _ _  h
noncomputable def fX5_together_0 (a0 : Int64) (a2 : Int64) : Int64 := 
    (if (fX5_isHole a0 a2) = 0 then nm (if (fX5_lowOf a2) < (fX5_lowOf a0) then (fX5_lowOf a2) else (fX5_lowOf a0)) fun x22_2 => nm (if (fX5_highOf a2) < (fX5_highOf a0) then (fX5_highOf a0) else (fX5_highOf a2)) fun x33_3 => (fX5_of x22_2 x33_3)
    else (4294967296 : Int64))
noncomputable def fX5_together (a0 : Int64) (a2 : Int64) : Int64 := fX5_together_0 a0 a2
set_option maxRecDepth 100000 in
set_option maxHeartbeats 4000000 in
theorem wX5_together_0 {T : zX} {cl ch : Nat} {σ : zSt} (hC : zOk T cX5_together RX5 1 23 cl ch) (hN : zNL T = 4) {r : Int64} (hQ : zRes T (some .long) (some (.long r)) σ) (a0 : Int64) (a2 : Int64)  (h : fX5_together_0 a0 a2  = r) : Z T σ 0 [(0, .long a0), (2, .long a2)] [] := by
  unfold fX5_together_0 at h
  refine z_lload_n hC 0 rfl rfl dX5_together_0 ?_
  refine z_lload_n hC 1 rfl rfl dX5_together_1 ?_
  refine z_cS2r hC (ctX5_isHole hC.hm) kb_X5_isHole km_X5_26 ⟨by decide, by decide⟩ (Nat.le_of_ble_eq_true rfl) dX5_together_2 ?_
  refine z_if_eq hC 14 (by decide) dX5_together_5 (fun q5_1 => ?_) (fun q5_1 => ?_)
  · replace h := z_t q5_1 h
    refine z_lload_n hC 0 rfl rfl dX5_together_14 ?_
    refine z_cS1r hC (ctX5_lowOf hC.hm) kb_X5_lowOf km_X5_19 ⟨by decide, by decide⟩ (Nat.le_of_ble_eq_true rfl) dX5_together_15 ?_
    refine z_lload_n hC 1 rfl rfl dX5_together_18 ?_
    refine z_cS1r hC (ctX5_lowOf hC.hm) kb_X5_lowOf km_X5_19 ⟨by decide, by decide⟩ (Nat.le_of_ble_eq_true rfl) dX5_together_19 ?_
    refine z_mminL hC km_X5_34 (Nat.le_of_ble_eq_true rfl) (Nat.le_of_ble_eq_true rfl) dX5_together_22 ?_
    refine z_nmL h (fun x22_2 h => ?_)
    refine z_lload_n hC 0 rfl rfl dX5_together_25 ?_
    refine z_cS1r hC (ctX5_highOf hC.hm) kb_X5_highOf km_X5_23 ⟨by decide, by decide⟩ (Nat.le_of_ble_eq_true rfl) dX5_together_26 ?_
    refine z_lload_n hC 1 rfl rfl dX5_together_29 ?_
    refine z_cS1r hC (ctX5_highOf hC.hm) kb_X5_highOf km_X5_23 ⟨by decide, by decide⟩ (Nat.le_of_ble_eq_true rfl) dX5_together_30 ?_
    refine z_mmaxL hC km_X5_39 (Nat.le_of_ble_eq_true rfl) (Nat.le_of_ble_eq_true rfl) dX5_together_33 ?_
    refine z_nmL h (fun x33_3 h => ?_)
    refine z_cS2r hC (ctX5_of hC.hm) kb_X5_of km_X5_30 ⟨by decide, by decide⟩ (Nat.le_of_ble_eq_true rfl) dX5_together_36 ?_
    subst h
    exact z_lret hC hQ dX5_together_39
  · replace h := z_f q5_1 h
    refine z_ldc2 hC kc_X5_15 dX5_together_8 ?_
    refine z_goto hC 39 (by decide) dX5_together_11 ?_
    subst h
    exact z_lret hC hQ dX5_together_39
set_option maxRecDepth 100000 in
theorem ctX5_together {l : Launch} {G : zGt} {mk : zSt → zSt} {cl ch : Nat} (hm : zM mk cl ch) {a0 : Int64} {a2 : Int64} {σ : zSt} : zMet l G mk yX5_together cX5_together 4 (some .long) 1 23 [.long a0, .long a2] σ (some (.long (fX5_together a0 a2 ))) σ := by

  refine zMet.of (plainFor_of_name (by decide +kernel)) hm (Nat.le_of_ble_eq_true rfl) (fun T eL eG eM hN hC hQ => ?_)
  subst eL; subst eG; subst eM
  refine z_sub [(0, .long a0), (2, .long a2)] [0, 1] rfl ?_
  exact wX5_together_0 hC hN hQ _ _  rfl
noncomputable def fX5_isApart_0 (a0 : Int64) (a2 : Int64) : Int32 := 
    (if (fX5_lowOf a2) < (fX5_highOf a0) then (0 : Int32)
    else (1 : Int32))
noncomputable def fX5_isApart (a0 : Int64) (a2 : Int64) : Int32 := fX5_isApart_0 a0 a2
set_option maxRecDepth 100000 in
set_option maxHeartbeats 4000000 in
theorem wX5_isApart_0 {T : zX} {cl ch : Nat} {σ : zSt} (hC : zOk T cX5_isApart RX5 1 21 cl ch) (hN : zNL T = 4) {r : Int32} (hQ : zRes T (some .boolean) (some (.int r)) σ) (a0 : Int64) (a2 : Int64)  (h : fX5_isApart_0 a0 a2  = r) : Z T σ 0 [(0, .long a0), (2, .long a2)] [] := by
  unfold fX5_isApart_0 at h
  refine z_lload_n hC 0 rfl rfl dX5_isApart_0 ?_
  refine z_cS1r hC (ctX5_highOf hC.hm) kb_X5_highOf km_X5_23 ⟨by decide, by decide⟩ (Nat.le_of_ble_eq_true rfl) dX5_isApart_1 ?_
  refine z_lload_n hC 1 rfl rfl dX5_isApart_4 ?_
  refine z_cS1r hC (ctX5_lowOf hC.hm) kb_X5_lowOf km_X5_19 ⟨by decide, by decide⟩ (Nat.le_of_ble_eq_true rfl) dX5_isApart_5 ?_
  refine z_cmp_gt hC 16 (by decide) dX5_isApart_8 dX5_isApart_9 (fun q8_1 => ?_) (fun q8_1 => ?_)
  · replace h := z_t q8_1 h
    refine z_iconst hC (0 : Int32) (by decide) dX5_isApart_16 ?_
    subst h
    exact z_zret hC hQ dX5_isApart_17 (by decide)
  · replace h := z_f q8_1 h
    refine z_iconst hC (1 : Int32) (by decide) dX5_isApart_12 ?_
    refine z_goto hC 17 (by decide) dX5_isApart_13 ?_
    subst h
    exact z_zret hC hQ dX5_isApart_17 (by decide)
set_option maxRecDepth 100000 in
theorem ctX5_isApart {l : Launch} {G : zGt} {mk : zSt → zSt} {cl ch : Nat} (hm : zM mk cl ch) {a0 : Int64} {a2 : Int64} {σ : zSt} : zMet l G mk yX5_isApart cX5_isApart 4 (some .boolean) 1 21 [.long a0, .long a2] σ (some (.int (fX5_isApart a0 a2 ))) σ := by

  refine zMet.of (plainFor_of_name (by decide +kernel)) hm (Nat.le_of_ble_eq_true rfl) (fun T eL eG eM hN hC hQ => ?_)
  subst eL; subst eG; subst eM
  refine z_sub [(0, .long a0), (2, .long a2)] [0, 1] rfl ?_
  exact wX5_isApart_0 hC hN hQ _ _  rfl
