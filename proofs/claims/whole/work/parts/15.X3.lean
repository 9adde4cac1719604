noncomputable def fX3_sign_0 (K0 : zSt → Option (Int32 × zSt))  (σ : zSt) : Option (Int32 × zSt) := 
    (if (gi σ 2 1) ≤ (gi σ 1 2) then bd1 (fX6_byteAt (gi σ 1 2) σ) fun r51_2 => some (r51_2, σ)
    else bd1 (fX6_byteAt (gi σ 1 2) σ) fun r22_3 => 
      (if r22_3 = (32 : Int32) then K0 (si σ 1 2 ((gi σ 1 2) + (1 : Int32)))
      else bd1 (fX6_byteAt (gi σ 1 2) σ) fun r51_5 => some (r51_5, σ)))
noncomputable def fX3_sign_L0 : Nat → zSt → Option (Int32 × zSt)
  | 0, _ => none
  | n + 1, σ => fX3_sign_0 (fX3_sign_L0 n)  σ
noncomputable def fX3_sign  (σ : zSt) : Option (Int32 × zSt) := fX3_sign_L0 zFU  σ
set_option maxRecDepth 100000 in
set_option maxHeartbeats 4000000 in
theorem wX3_sign_0 {T : zX} (hC : zOk T cX3_sign RX3 1 21 0 61) (hN : zNL T = 1) {r : Int32} {σ' : zSt} (hQ : zRes T (some .int) (some (.int r)) σ') (K0 : zSt → Option (Int32 × zSt)) (hK0 : ∀ (τ : zSt), K0  τ = some (r, σ') → Z T τ 0 [(0, .ref (zAd T (1)))] [])   (σ : zSt) (h : fX3_sign_0 K0  σ = some (r, σ')) : Z T σ 0 [(0, .ref (zAd T (1)))] [] := by
  unfold fX3_sign_0 at h
  refine z_aload_n hC 0 rfl rfl dX3_sign_0 ?_
  refine gX3_2 hC kf_X3_29 (gi σ 1 2) rfl dX3_sign_1 ?_
  refine z_aload_n hC 0 rfl rfl dX3_sign_4 ?_
  refine gX3_0 hC kf_X3_12 dX3_sign_5 ?_
  refine gX6_1 hC kf_X3_52 (gi σ 2 1) rfl dX3_sign_8 ?_
  refine z_icmp_ge hC 43 (by decide) dX3_sign_11 (fun q11_1 => ?_) (fun q11_1 => ?_)
  · replace h := z_t q11_1 h
    refine z_aload_n hC 0 rfl rfl dX3_sign_43 ?_
    refine gX3_0 hC kf_X3_12 dX3_sign_44 ?_
    refine z_aload_n hC 0 rfl rfl dX3_sign_47 ?_
    refine gX3_2 hC kf_X3_29 (gi σ 1 2) rfl dX3_sign_48 ?_
    refine z_b1 h (fun r51_2 e_r51_2 h => ?_)
    refine z_cV1r hC (ctX6_byteAt hC.hm e_r51_2) (rcX6 hC) kb_X6_byteAt km_X3_55 ⟨by decide, by decide⟩ (Nat.le_of_ble_eq_true rfl) dX3_sign_51 ?_
    obtain ⟨rfl, rfl⟩ := z_pr h
    exact z_iret hC hQ dX3_sign_54
  · replace h := z_f q11_1 h
    refine z_aload_n hC 0 rfl rfl dX3_sign_14 ?_
    refine gX3_0 hC kf_X3_12 dX3_sign_15 ?_
    refine z_aload_n hC 0 rfl rfl dX3_sign_18 ?_
    refine gX3_2 hC kf_X3_29 (gi σ 1 2) rfl dX3_sign_19 ?_
    refine z_b1 h (fun r22_3 e_r22_3 h => ?_)
    refine z_cV1r hC (ctX6_byteAt hC.hm e_r22_3) (rcX6 hC) kb_X6_byteAt km_X3_55 ⟨by decide, by decide⟩ (Nat.le_of_ble_eq_true rfl) dX3_sign_22 ?_
    refine z_bipush hC (32 : Int32) (by decide) dX3_sign_25 ?_
    refine z_icmp_ne hC 43 (by decide) dX3_sign_27 (fun q27_4 => ?_) (fun q27_4 => ?_)
    · replace h := z_f q27_4 h
      refine z_aload_n hC 0 rfl rfl dX3_sign_43 ?_
      refine gX3_0 hC kf_X3_12 dX3_sign_44 ?_
      refine z_aload_n hC 0 rfl rfl dX3_sign_47 ?_
      refine gX3_2 hC kf_X3_29 (gi σ 1 2) rfl dX3_sign_48 ?_
      refine z_b1 h (fun r51_5 e_r51_5 h => ?_)
      refine z_cV1r hC (ctX6_byteAt hC.hm e_r51_5) (rcX6 hC) kb_X6_byteAt km_X3_55 ⟨by decide, by decide⟩ (Nat.le_of_ble_eq_true rfl) dX3_sign_51 ?_
      obtain ⟨rfl, rfl⟩ := z_pr h
      exact z_iret hC hQ dX3_sign_54
    · replace h := z_t q27_4 h
      refine z_aload_n hC 0 rfl rfl dX3_sign_30 ?_
      refine z_dup hC rfl dX3_sign_31 ?_
      refine gX3_2 hC kf_X3_29 (gi σ 1 2) rfl dX3_sign_32 ?_
      refine z_iconst hC (1 : Int32) (by decide) dX3_sign_35 ?_
      refine z_iadd hC dX3_sign_36 ?_
      refine pX3_2 hC kf_X3_29 dX3_sign_37 ?_
      refine z_goto hC 0 (by decide) dX3_sign_40 ?_
      exact hK0 _ h
theorem wX3_sign_L0 {T : zX} (hC : zOk T cX3_sign RX3 1 21 0 61) (hN : zNL T = 1) {r : Int32} {σ' : zSt} (hQ : zRes T (some .int) (some (.int r)) σ') (n : Nat) : ∀ (σ : zSt), fX3_sign_L0 n  σ = some (r, σ') → Z T σ 0 [(0, .ref (zAd T (1)))] [] := by
  induction n with
  | zero => intro σ h; cases h
  | succ n ih => intro σ h; exact wX3_sign_0 hC hN hQ (fX3_sign_L0 n) ih σ h
set_option maxRecDepth 100000 in
theorem ctX3_sign {l : Launch} {G : zGt} {mk : zSt → zSt} (hm : zM mk 0 61)  {σ : zSt} {r : Int32} {σ' : zSt} (h : fX3_sign  σ = some (r, σ')) : zMet l G mk yX3_sign cX3_sign 1 (some .int) 1 21 [.ref (gA G (1))] σ (some (.int r)) σ' := by
  unfold fX3_sign at h

  refine zMet.of (plainFor_of_name (by decide +kernel)) hm (Nat.le_of_ble_eq_true rfl) (fun T eL eG eM hN hC hQ => ?_)
  subst eL; subst eG; subst eM
  refine z_sub [(0, .ref (zAd T (1)))] [0] rfl ?_
  exact wX3_sign_L0 hC hN hQ zFU   _ h
noncomputable def fX3_refuse_0 (a1 : Int32) (σ : zSt) : Option zSt := 
    (if (gi σ 1 4) = 0 then nm (a1 + ((4 : Int32) * (gi σ 1 2))) fun x16_2 => some (si σ 1 4 x16_2)
    else some σ)
noncomputable def fX3_refuse (a1 : Int32) (σ : zSt) : Option zSt := fX3_refuse_0 a1 σ
set_option maxRecDepth 100000 in
set_option maxHeartbeats 4000000 in
theorem wX3_refuse_0 {T : zX} (hC : zOk T cX3_refuse RX3 0 0 0 61) (hN : zNL T = 2) {σ' : zSt} (hQ : zRes T none (none) σ') (a1 : Int32)  (σ : zSt) (h : fX3_refuse_0 a1 σ = some σ') : Z T σ 0 [(0, .ref (zAd T (1))), (1, .int a1)] [] := by
  unfold fX3_refuse_0 at h
  refine z_aload_n hC 0 rfl rfl dX3_refuse_0 ?_
  refine gX3_4 hC kf_X3_35 (gi σ 1 4) rfl dX3_refuse_1 ?_
  refine z_if_ne hC 19 (by decide) dX3_refuse_4 (fun q4_1 => ?_) (fun q4_1 => ?_)
  · replace h := z_f q4_1 h
    obtain rfl := z_so h
    exact z_vret hC hQ dX3_refuse_19
  · replace h := z_t q4_1 h
    refine z_aload_n hC 0 rfl rfl dX3_refuse_7 ?_
    refine z_iload_n hC 1 rfl rfl dX3_refuse_8 ?_
    refine z_iconst hC (4 : Int32) (by decide) dX3_refuse_9 ?_
    refine z_aload_n hC 0 rfl rfl dX3_refuse_10 ?_
    refine gX3_2 hC kf_X3_29 (gi σ 1 2) rfl dX3_refuse_11 ?_
    refine z_imul hC dX3_refuse_14 ?_
    refine z_iadd hC dX3_refuse_15 ?_
    refine z_nmI h (fun x16_2 h => ?_)
    refine pX3_4 hC kf_X3_35 dX3_refuse_16 ?_
    obtain rfl := z_so h
    exact z_vret hC hQ dX3_refuse_19
set_option maxRecDepth 100000 in
theorem ctX3_refuse {l : Launch} {G : zGt} {mk : zSt → zSt} (hm : zM mk 0 61) {a1 : Int32} {σ : zSt} {σ' : zSt} (h : fX3_refuse a1 σ = some σ') : zMet l G mk yX3_refuse cX3_refuse 2 none 0 0 [.ref (gA G (1)), .int a1] σ (none) σ' := by
  unfold fX3_refuse at h

  refine zMet.of (plainFor_of_name (by decide +kernel)) hm (Nat.le_of_ble_eq_true rfl) (fun T eL eG eM hN hC hQ => ?_)
  subst eL; subst eG; subst eM
  refine z_sub [(0, .ref (zAd T (1))), (1, .int a1)] [0, 1] rfl ?_
  exact wX3_refuse_0 hC hN hQ _  _ h
noncomputable def fX3_meet_0  (σ : zSt) : Option (Int32 × zSt) := 
    (if (gi σ 1 3) < (60 : Int32) then some ((1 : Int32), (si σ 1 3 ((gi σ 1 3) + (1 : Int32))))
    else bd1 (fX3_refuse (3 : Int32) σ) fun s11_2 => some ((0 : Int32), s11_2))
noncomputable def fX3_meet  (σ : zSt) : Option (Int32 × zSt) := fX3_meet_0  σ
set_option maxRecDepth 100000 in
set_option maxHeartbeats 4000000 in
theorem wX3_meet_0 {T : zX} (hC : zOk T cX3_meet RX3 1 21 0 61) (hN : zNL T = 1) {r : Int32} {σ' : zSt} (hQ : zRes T (some .boolean) (some (.int r)) σ')   (σ : zSt) (h : fX3_meet_0  σ = some (r, σ')) : Z T σ 0 [(0, .ref (zAd T (1)))] [] := by
  unfold fX3_meet_0 at h
  refine z_aload_n hC 0 rfl rfl dX3_meet_0 ?_
  refine gX3_3 hC kf_X3_32 (gi σ 1 3) rfl dX3_meet_1 ?_
  refine z_bipush hC (60 : Int32) (by decide) dX3_meet_4 ?_
  refine z_icmp_lt hC 16 (by decide) dX3_meet_6 (fun q6_1 => ?_) (fun q6_1 => ?_)
  · replace h := z_t q6_1 h
    refine z_aload_n hC 0 rfl rfl dX3_meet_16 ?_
    refine z_dup hC rfl dX3_meet_17 ?_
    refine gX3_3 hC kf_X3_32 (gi σ 1 3) rfl dX3_meet_18 ?_
    refine z_iconst hC (1 : Int32) (by decide) dX3_meet_21 ?_
    refine z_iadd hC dX3_meet_22 ?_
    refine pX3_3 hC kf_X3_32 dX3_meet_23 ?_
    refine z_iconst hC (1 : Int32) (by decide) dX3_meet_26 ?_
    obtain ⟨rfl, rfl⟩ := z_pr h
    exact z_zret hC hQ dX3_meet_27 (by decide)
  · replace h := z_f q6_1 h
    refine z_aload_n hC 0 rfl rfl dX3_meet_9 ?_
    refine z_iconst hC (3 : Int32) (by decide) dX3_meet_10 ?_
    refine z_b1 h (fun s11_2 e_s11_2 h => ?_)
    refine z_cV1v hC (ctX3_refuse hC.hm e_s11_2) (rcX3 hC) kb_X3_refuse km_X3_49 ⟨by decide, by decide⟩ (Nat.le_of_ble_eq_true rfl) dX3_meet_11 ?_
    refine z_iconst hC (0 : Int32) (by decide) dX3_meet_14 ?_
    obtain ⟨rfl, rfl⟩ := z_pr h
    exact z_zret hC hQ dX3_meet_15 (by decide)
set_option maxRecDepth 100000 in
theorem ctX3_meet {l : Launch} {G : zGt} {mk : zSt → zSt} (hm : zM mk 0 61)  {σ : zSt} {r : Int32} {σ' : zSt} (h : fX3_meet  σ = some (r, σ')) : zMet l G mk yX3_meet cX3_meet 1 (some .boolean) 1 21 [.ref (gA G (1))] σ (some (.int r)) σ' := by
  unfold fX3_meet at h

  refine zMet.of (plainFor_of_name (by decide +kernel)) hm (Nat.le_of_ble_eq_true rfl) (fun T eL eG eM hN hC hQ => ?_)
  subst eL; subst eG; subst eM
  refine z_sub [(0, .ref (zAd T (1)))] [0] rfl ?_
  exact wX3_meet_0 hC hN hQ   _ h
noncomputable def fX3_emit_0 (a1 : Int32) (a2 : Int64) (a4 : Int32) (σ : zSt) : Option zSt := 
    (if (gi σ 1 4) = 0 then bd1 (fX0_add 9 a1 a2 a4 σ) fun s15_2 => some s15_2
    else some σ)
noncomputable def fX3_emit (a1 : Int32) (a2 : Int64) (a4 : Int32) (σ : zSt) : Option zSt := fX3_emit_0 a1 a2 a4 σ
set_option maxRecDepth 100000 in
set_option maxHeartbeats 4000000 in
theorem wX3_emit_0 {T : zX} (hC : zOk T cX3_emit RX3 1 24 0 61) (hN : zNL T = 5) {σ' : zSt} (hQ : zRes T none (none) σ') (a1 : Int32) (a2 : Int64) (a4 : Int32)  (σ : zSt) (h : fX3_emit_0 a1 a2 a4 σ = some σ') : Z T σ 0 [(0, .ref (zAd T (1))), (1, .int a1), (2, .long a2), (4, .int a4)] [] := by
  unfold fX3_emit_0 at h
  refine z_aload_n hC 0 rfl rfl dX3_emit_0 ?_
  refine gX3_4 hC kf_X3_35 (gi σ 1 4) rfl dX3_emit_1 ?_
  refine z_if_ne hC 18 (by decide) dX3_emit_4 (fun q4_1 => ?_) (fun q4_1 => ?_)
  · replace h := z_f q4_1 h
    obtain rfl := z_so h
    exact z_vret hC hQ dX3_emit_18
  · replace h := z_t q4_1 h
    refine z_aload_n hC 0 rfl rfl dX3_emit_7 ?_
    refine gX3_1 hC kf_X3_21 dX3_emit_8 ?_
    refine z_iload_n hC 1 rfl rfl dX3_emit_11 ?_
    refine z_lload_n hC 2 rfl rfl dX3_emit_12 ?_
    refine z_iload hC 3 rfl dX3_emit_13 ?_
    refine z_b1 h (fun s15_2 e_s15_2 h => ?_)
    refine z_cV3v hC (ctX0_add hC.hm e_s15_2) (rcX0 hC (by decide)) kb_X0_add km_X3_59 ⟨by decide, by decide⟩ (Nat.le_of_ble_eq_true rfl) dX3_emit_15 ?_
    obtain rfl := z_so h
    exact z_vret hC hQ dX3_emit_18
set_option maxRecDepth 100000 in
theorem ctX3_emit {l : Launch} {G : zGt} {mk : zSt → zSt} (hm : zM mk 0 61) {a1 : Int32} {a2 : Int64} {a4 : Int32} {σ : zSt} {σ' : zSt} (h : fX3_emit a1 a2 a4 σ = some σ') : zMet l G mk yX3_emit cX3_emit 5 none 1 24 [.ref (gA G (1)), .int a1, .long a2, .int a4] σ (none) σ' := by
  unfold fX3_emit at h

  refine zMet.of (plainFor_of_name (by decide +kernel)) hm (Nat.le_of_ble_eq_true rfl) (fun T eL eG eM hN hC hQ => ?_)
  subst eL; subst eG; subst eM
  refine z_sub [(0, .ref (zAd T (1))), (1, .int a1), (2, .long a2), (4, .int a4)] [0, 1, 2, 3] rfl ?_
  exact wX3_emit_0 hC hN hQ _ _ _  _ h
noncomputable def fX3_isDigit_0 (a0 : Int32) : Int32 := 
    (if a0 < (48 : Int32) then (0 : Int32)
    else 
      (if (57 : Int32) < a0 then (0 : Int32)
      else (1 : Int32)))
noncomputable def fX3_isDigit (a0 : Int32) : Int32 := fX3_isDigit_0 a0
set_option maxRecDepth 100000 in
set_option maxHeartbeats 4000000 in
theorem wX3_isDigit_0 {T : zX} {cl ch : Nat} {σ : zSt} (hC : zOk T cX3_isDigit RX3 0 0 cl ch) (hN : zNL T = 1) {r : Int32} (hQ : zRes T (some .boolean) (some (.int r)) σ) (a0 : Int32)  (h : fX3_isDigit_0 a0  = r) : Z T σ 0 [(0, .int a0)] [] := by
  unfold fX3_isDigit_0 at h
  refine z_iload_n hC 0 rfl rfl dX3_isDigit_0 ?_
  refine z_bipush hC (48 : Int32) (by decide) dX3_isDigit_1 ?_
  refine z_icmp_lt hC 16 (by decide) dX3_isDigit_3 (fun q3_1 => ?_) (fun q3_1 => ?_)
  · replace h := z_t q3_1 h
    refine z_iconst hC (0 : Int32) (by decide) dX3_isDigit_16 ?_
    subst h
    exact z_zret hC hQ dX3_isDigit_17 (by decide)
  · replace h := z_f q3_1 h
    refine z_iload_n hC 0 rfl rfl dX3_isDigit_6 ?_
    refine z_bipush hC (57 : Int32) (by decide) dX3_isDigit_7 ?_
    refine z_icmp_gt hC 16 (by decide) dX3_isDigit_9 (fun q9_2 => ?_) (fun q9_2 => ?_)
    · replace h := z_t q9_2 h
      refine z_iconst hC (0 : Int32) (by decide) dX3_isDigit_16 ?_
      subst h
      exact z_zret hC hQ dX3_isDigit_17 (by decide)
    · replace h := z_f q9_2 h
      refine z_iconst hC (1 : Int32) (by decide) dX3_isDigit_12 ?_
      refine z_goto hC 17 (by decide) dX3_isDigit_13 ?_
      subst h
      exact z_zret hC hQ dX3_isDigit_17 (by decide)
set_option maxRecDepth 100000 in
theorem ctX3_isDigit {l : Launch} {G : zGt} {mk : zSt → zSt} {cl ch : Nat} (hm : zM mk cl ch) {a0 : Int32} {σ : zSt} : zMet l G mk yX3_isDigit cX3_isDigit 1 (some .boolean) 0 0 [.int a0] σ (some (.int (fX3_isDigit a0 ))) σ := by

  refine zMet.of (plainFor_of_name (by decide +kernel)) hm (Nat.le_of_ble_eq_true rfl) (fun T eL eG eM hN hC hQ => ?_)
  subst eL; subst eG; subst eM
  refine z_sub [(0, .int a0)] [0] rfl ?_
  exact wX3_isDigit_0 hC hN hQ _  rfl
noncomputable def fX3_isWordByte_0 (a0 : Int32) : Int32 := 
    (if (fX3_isDigit a0) = 0 then 
      (if a0 = (46 : Int32) then (1 : Int32)
      else 
        (if a0 < (97 : Int32) then 
          (if a0 < (65 : Int32) then (0 : Int32)
          else 
            (if (90 : Int32) < a0 then (0 : Int32)
            else (1 : Int32)))
        else 
          (if a0 ≤ (122 : Int32) then (1 : Int32)
          else 
            (if a0 < (65 : Int32) then (0 : Int32)
            else 
              (if (90 : Int32) < a0 then (0 : Int32)
              else (1 : Int32))))))
    else (1 : Int32))
noncomputable def fX3_isWordByte (a0 : Int32) : Int32 := fX3_isWordByte_0 a0
set_option maxRecDepth 100000 in
set_option maxHeartbeats 4000000 in
theorem wX3_isWordByte_0 {T : zX} {cl ch : Nat} {σ : zSt} (hC : zOk T cX3_isWordByte RX3 1 20 cl ch) (hN : zNL T = 1) {r : Int32} (hQ : zRes T (some .boolean) (some (.int r)) σ) (a0 : Int32)  (h : fX3_isWordByte_0 a0  = r) : Z T σ 0 [(0, .int a0)] [] := by
  unfold fX3_isWordByte_0 at h
  refine z_iload_n hC 0 rfl rfl dX3_isWordByte_0 ?_
  refine z_cS1r hC (ctX3_isDigit hC.hm) kb_X3_isDigit km_X3_102 ⟨by decide, by decide⟩ (Nat.le_of_ble_eq_true rfl) dX3_isWordByte_1 ?_
  refine z_if_ne hC 37 (by decide) dX3_isWordByte_4 (fun q4_1 => ?_) (fun q4_1 => ?_)
  · replace h := z_f q4_1 h
    refine z_iconst hC (1 : Int32) (by decide) dX3_isWordByte_37 ?_
    refine z_goto hC 42 (by decide) dX3_isWordByte_38 ?_
    subst h
    exact z_zret hC hQ dX3_isWordByte_42 (by decide)
  · replace h := z_t q4_1 h
    refine z_iload_n hC 0 rfl rfl dX3_isWordByte_7 ?_
    refine z_bipush hC (46 : Int32) (by decide) dX3_isWordByte_8 ?_
    refine z_icmp_eq hC 37 (by decide) dX3_isWordByte_10 (fun q10_2 => ?_) (fun q10_2 => ?_)
    · replace h := z_t q10_2 h
      refine z_iconst hC (1 : Int32) (by decide) dX3_isWordByte_37 ?_
      refine z_goto hC 42 (by decide) dX3_isWordByte_38 ?_
      subst h
      exact z_zret hC hQ dX3_isWordByte_42 (by decide)
    · replace h := z_f q10_2 h
      refine z_iload_n hC 0 rfl rfl dX3_isWordByte_13 ?_
      refine z_bipush hC (97 : Int32) (by decide) dX3_isWordByte_14 ?_
      refine z_icmp_lt hC 25 (by decide) dX3_isWordByte_16 (fun q16_3 => ?_) (fun q16_3 => ?_)
      · replace h := z_t q16_3 h
        refine z_iload_n hC 0 rfl rfl dX3_isWordByte_25 ?_
        refine z_bipush hC (65 : Int32) (by decide) dX3_isWordByte_26 ?_
        refine z_icmp_lt hC 41 (by decide) dX3_isWordByte_28 (fun q28_4 => ?_) (fun q28_4 => ?_)
        · replace h := z_t q28_4 h
          refine z_iconst hC (0 : Int32) (by decide) dX3_isWordByte_41 ?_
          subst h
          exact z_zret hC hQ dX3_isWordByte_42 (by decide)
        · replace h := z_f q28_4 h
          refine z_iload_n hC 0 rfl rfl dX3_isWordByte_31 ?_
          refine z_bipush hC (90 : Int32) (by decide) dX3_isWordByte_32 ?_
          refine z_icmp_gt hC 41 (by decide) dX3_isWordByte_34 (fun q34_5 => ?_) (fun q34_5 => ?_)
          · replace h := z_t q34_5 h
            refine z_iconst hC (0 : Int32) (by decide) dX3_isWordByte_41 ?_
            subst h
            exact z_zret hC hQ dX3_isWordByte_42 (by decide)
          · replace h := z_f q34_5 h
            refine z_iconst hC (1 : Int32) (by decide) dX3_isWordByte_37 ?_
            refine z_goto hC 42 (by decide) dX3_isWordByte_38 ?_
            subst h
            exact z_zret hC hQ dX3_isWordByte_42 (by decide)
      · replace h := z_f q16_3 h
        refine z_iload_n hC 0 rfl rfl dX3_isWordByte_19 ?_
        refine z_bipush hC (122 : Int32) (by decide) dX3_isWordByte_20 ?_
        refine z_icmp_le hC 37 (by decide) dX3_isWordByte_22 (fun q22_6 => ?_) (fun q22_6 => ?_)
        · replace h := z_t q22_6 h
          refine z_iconst hC (1 : Int32) (by decide) dX3_isWordByte_37 ?_
          refine z_goto hC 42 (by decide) dX3_isWordByte_38 ?_
          subst h
          exact z_zret hC hQ dX3_isWordByte_42 (by decide)
        · replace h := z_f q22_6 h
          refine z_iload_n hC 0 rfl rfl dX3_isWordByte_25 ?_
          refine z_bipush hC (65 : Int32) (by decide) dX3_isWordByte_26 ?_
          refine z_icmp_lt hC 41 (by decide) dX3_isWordByte_28 (fun q28_7 => ?_) (fun q28_7 => ?_)
          · replace h := z_t q28_7 h
            refine z_iconst hC (0 : Int32) (by decide) dX3_isWordByte_41 ?_
            subst h
            exact z_zret hC hQ dX3_isWordByte_42 (by decide)
          · replace h := z_f q28_7 h
            refine z_iload_n hC 0 rfl rfl dX3_isWordByte_31 ?_
            refine z_bipush hC (90 : Int32) (by decide) dX3_isWordByte_32 ?_
            refine z_icmp_gt hC 41 (by decide) dX3_isWordByte_34 (fun q34_8 => ?_) (fun q34_8 => ?_)
            · replace h := z_t q34_8 h
              refine z_iconst hC (0 : Int32) (by decide) dX3_isWordByte_41 ?_
              subst h
              exact z_zret hC hQ dX3_isWordByte_42 (by decide)
            · replace h := z_f q34_8 h
              refine z_iconst hC (1 : Int32) (by decide) dX3_isWordByte_37 ?_
              refine z_goto hC 42 (by decide) dX3_isWordByte_38 ?_
              subst h
              exact z_zret hC hQ dX3_isWordByte_42 (by decide)
set_option maxRecDepth 100000 in
theorem ctX3_isWordByte {l : Launch} {G : zGt} {mk : zSt → zSt} {cl ch : Nat} (hm : zM mk cl ch) {a0 : Int32} {σ : zSt} : zMet l G mk yX3_isWordByte cX3_isWordByte 1 (some .boolean) 1 20 [.int a0] σ (some (.int (fX3_isWordByte a0 ))) σ := by

  refine zMet.of (plainFor_of_name (by decide +kernel)) hm (Nat.le_of_ble_eq_true rfl) (fun T eL eG eM hN hC hQ => ?_)
  subst eL; subst eG; subst eM
  refine z_sub [(0, .int a0)] [0] rfl ?_
  exact wX3_isWordByte_0 hC hN hQ _  rfl
noncomputable def fX3_isWord_17 (K17 : Nat → Int32 → zSt → Option Int32) (v2 : Nat) (v3 : Int32) (σ : zSt) : Option Int32 := bd1 (fJ0_length_8abf5 v2) fun r19_1 => 
    (if r19_1 ≤ v3 then some (1 : Int32)
    else bd1 (fX6_byteAt ((gi σ 1 2) + v3) σ) fun r35_3 => bd1 (fJ0_charAt_5068e v2 v3) fun r40_4 => 
      (if r35_3 = r40_4 then nm (v3 + (1 : Int32)) fun x48_6 => K17 v2 x48_6 σ
      else some (0 : Int32)))
noncomputable def fX3_isWord_L17 : Nat → Nat → Int32 → zSt → Option Int32
  | 0, _, _, _ => none
  | n + 1, v2, v3, σ => fX3_isWord_17 (fX3_isWord_L17 n) v2 v3 σ
noncomputable def fX3_isWord_0 (a1 : Int32) (a2 : Nat) (σ : zSt) : Option Int32 := bd1 (fJ0_length_8abf5 a2) fun r7_1 => 
    (if (a1 - (gi σ 1 2)) = r7_1 then fX3_isWord_L17 zFU a2 (0 : Int32) σ
    else some (0 : Int32))
noncomputable def fX3_isWord (a1 : Int32) (a2 : Nat) (σ : zSt) : Option Int32 := zg (a2 < 9) <| fX3_isWord_0 a1 a2 σ
set_option maxRecDepth 100000 in
set_option maxHeartbeats 4000000 in
theorem wX3_isWord_17 {T : zX} {σ : zSt} (hC : zOk T cX3_isWord RX3 4 85 0 61) (hN : zNL T = 4) {r : Int32} (hQ : zRes T (some .boolean) (some (.int r)) σ) (K17 : Nat → Int32 → zSt → Option Int32) (hK17 : ∀ (v2 : Nat) (v3 : Int32) (hk_v2 : v2 < 9), K17 v2 v3 σ = some r → Z T σ 17 [(0, .ref (zAd T (1))), (2, .ref (zSk T v2)), (3, .int v3)] []) (v2 : Nat) (v3 : Int32) (hk_v2 : v2 < 9) (h : fX3_isWord_17 K17 v2 v3 σ = some r) : Z T σ 17 [(0, .ref (zAd T (1))), (2, .ref (zSk T v2)), (3, .int v3)] [] := by
  unfold fX3_isWord_17 at h
  refine z_iload_n hC 2 rfl rfl dX3_isWord_17 ?_
  refine z_aload_n hC 1 rfl rfl dX3_isWord_18 ?_
  refine z_b1 h (fun r19_1 e_r19_1 h => ?_)
  refine z_cV0r hC (ctJ0_length_8abf5 hC.hm e_r19_1) (rcJ0 hC hk_v2) kb_J0_length_8abf5 km_X3_132 ⟨by decide, by decide⟩ (Nat.le_of_ble_eq_true rfl) dX3_isWord_19 ?_
  refine z_icmp_ge hC 54 (by decide) dX3_isWord_22 (fun q22_2 => ?_) (fun q22_2 => ?_)
  · replace h := z_t q22_2 h
    refine z_iconst hC (1 : Int32) (by decide) dX3_isWord_54 ?_
    obtain rfl := z_so h
    exact z_zret hC hQ dX3_isWord_55 (by decide)
  · replace h := z_f q22_2 h
    refine z_aload_n hC 0 rfl rfl dX3_isWord_25 ?_
    refine gX3_0 hC kf_X3_12 dX3_isWord_26 ?_
    refine z_aload_n hC 0 rfl rfl dX3_isWord_29 ?_
    refine gX3_2 hC kf_X3_29 (gi σ 1 2) rfl dX3_isWord_30 ?_
    refine z_iload_n hC 2 rfl rfl dX3_isWord_33 ?_
    refine z_iadd hC dX3_isWord_34 ?_
    refine z_b1 h (fun r35_3 e_r35_3 h => ?_)
    refine z_cV1r hC (ctX6_byteAt hC.hm e_r35_3) (rcX6 hC) kb_X6_byteAt km_X3_55 ⟨by decide, by decide⟩ (Nat.le_of_ble_eq_true rfl) dX3_isWord_35 ?_
    refine z_aload_n hC 1 rfl rfl dX3_isWord_38 ?_
    refine z_iload_n hC 2 rfl rfl dX3_isWord_39 ?_
    refine z_b1 h (fun r40_4 e_r40_4 h => ?_)
    refine z_cV1r hC (ctJ0_charAt_5068e hC.hm e_r40_4) (rcJ0 hC hk_v2) kb_J0_charAt_5068e km_X3_137 ⟨by decide, by decide⟩ (Nat.le_of_ble_eq_true rfl) dX3_isWord_40 ?_
    refine z_icmp_eq hC 48 (by decide) dX3_isWord_43 (fun q43_5 => ?_) (fun q43_5 => ?_)
    · replace h := z_t q43_5 h
      refine z_nmE h (fun x48_6 e_x48_6 h => ?_)
      refine z_iinc hC x48_6 [(3, .int x48_6), (0, .ref (zAd T (1))), (2, .ref (zSk T v2))] 2 rfl (by rw [e_x48_6]; rfl) (by rw [hN]; decide) rfl dX3_isWord_48 ?_
      refine z_goto hC 17 (by decide) dX3_isWord_51 ?_
      refine z_sub [(0, .ref (zAd T (1))), (2, .ref (zSk T v2)), (3, .int x48_6)] [1, 2, 0] rfl ?_
      exact hK17 _ _ hk_v2 h
    · replace h := z_f q43_5 h
      refine z_iconst hC (0 : Int32) (by decide) dX3_isWord_46 ?_
      obtain rfl := z_so h
      exact z_zret hC hQ dX3_isWord_47 (by decide)
theorem wX3_isWord_L17 {T : zX} {σ : zSt} (hC : zOk T cX3_isWord RX3 4 85 0 61) (hN : zNL T = 4) {r : Int32} (hQ : zRes T (some .boolean) (some (.int r)) σ) (n : Nat) : ∀ (v2 : Nat) (v3 : Int32) (hk_v2 : v2 < 9), fX3_isWord_L17 n v2 v3 σ = some r → Z T σ 17 [(0, .ref (zAd T (1))), (2, .ref (zSk T v2)), (3, .int v3)] [] := by
  induction n with
  | zero => intro v2 v3 hk_v2 h; cases h
  | succ n ih => intro v2 v3 hk_v2 h; exact wX3_isWord_17 hC hN hQ (fX3_isWord_L17 n) ih v2 v3 hk_v2 h
set_option maxRecDepth 100000 in
set_option maxHeartbeats 4000000 in
theorem wX3_isWord_0 {T : zX} {σ : zSt} (hC : zOk T cX3_isWord RX3 4 85 0 61) (hN : zNL T = 4) {r : Int32} (hQ : zRes T (some .boolean) (some (.int r)) σ) (a1 : Int32) (a2 : Nat) (hi_a2 : a2 < 9) (h : fX3_isWord_0 a1 a2 σ = some r) : Z T σ 0 [(0, .ref (zAd T (1))), (1, .int a1), (2, .ref (zSk T a2))] [] := by
  unfold fX3_isWord_0 at h
  refine z_iload_n hC 1 rfl rfl dX3_isWord_0 ?_
  refine z_aload_n hC 0 rfl rfl dX3_isWord_1 ?_
  refine gX3_2 hC kf_X3_29 (gi σ 1 2) rfl dX3_isWord_2 ?_
  refine z_isub hC dX3_isWord_5 ?_
  refine z_aload_n hC 2 rfl rfl dX3_isWord_6 ?_
  refine z_b1 h (fun r7_1 e_r7_1 h => ?_)
  refine z_cV0r hC (ctJ0_length_8abf5 hC.hm e_r7_1) (rcJ0 hC hi_a2) kb_J0_length_8abf5 km_X3_132 ⟨by decide, by decide⟩ (Nat.le_of_ble_eq_true rfl) dX3_isWord_7 ?_
  refine z_icmp_eq hC 15 (by decide) dX3_isWord_10 (fun q10_2 => ?_) (fun q10_2 => ?_)
  · replace h := z_t q10_2 h
    refine z_iconst hC (0 : Int32) (by decide) dX3_isWord_15 ?_
    refine z_istore_n hC [(3, .int (0 : Int32)), (0, .ref (zAd T (1))), (1, .int a1), (2, .ref (zSk T a2))] rfl (by rw [hN]; decide) rfl dX3_isWord_16 ?_
    refine z_sub [(0, .ref (zAd T (1))), (2, .ref (zSk T a2)), (3, .int (0 : Int32))] [1, 3, 0] rfl ?_
    exact (wX3_isWord_L17 hC hN hQ zFU) _ _ hi_a2 h
  · replace h := z_f q10_2 h
    refine z_iconst hC (0 : Int32) (by decide) dX3_isWord_13 ?_
    obtain rfl := z_so h
    exact z_zret hC hQ dX3_isWord_14 (by decide)
set_option maxRecDepth 100000 in
theorem ctX3_isWord {l : Launch} {G : zGt} {mk : zSt → zSt} (hm : zM mk 0 61) {a1 : Int32} {a2 : Nat} {σ : zSt} {r : Int32} (h : fX3_isWord a1 a2 σ = some r) : zMet l G mk yX3_isWord cX3_isWord 4 (some .boolean) 4 85 [.ref (gA G (1)), .int a1, .ref (G.2.2.1 a2)] σ (some (.int r)) σ := by
  unfold fX3_isWord at h
  refine z_g h (fun hi_a2 h => ?_)
  refine zMet.of (plainFor_of_name (by decide +kernel)) hm (Nat.le_of_ble_eq_true rfl) (fun T eL eG eM hN hC hQ => ?_)
  subst eL; subst eG; subst eM
  refine z_sub [(0, .ref (zAd T (1))), (1, .int a1), (2, .ref (zSk T a2))] [0, 1, 2] rfl ?_
  exact wX3_isWord_0 hC hN hQ _ _ hi_a2 h
noncomputable def fX3_nameOf_0 (a1 : Int32) (σ : zSt) : Option Int32 := bd1 (fX3_isWord a1 1 σ) fun r4_1 => 
    (if r4_1 = 0 then bd1 (fX3_isWord a1 2 σ) fun r16_3 => 
      (if r16_3 = 0 then bd1 (fX3_isWord a1 3 σ) fun r29_5 => 
        (if r29_5 = 0 then bd1 (fX3_isWord a1 4 σ) fun r42_7 => 
          (if r42_7 = 0 then bd1 (fX3_isWord a1 5 σ) fun r55_9 => 
            (if r55_9 = 0 then bd1 (fX3_isWord a1 6 σ) fun r68_11 => 
              (if r68_11 = 0 then bd1 (fX3_isWord a1 7 σ) fun r81_13 => 
                (if r81_13 = 0 then bd1 (fX3_isWord a1 8 σ) fun r94_15 => 
                  (if r94_15 = 0 then some (-1 : Int32)
                  else some (12 : Int32))
                else some (11 : Int32))
              else some (10 : Int32))
            else some (9 : Int32))
          else some (8 : Int32))
        else some (7 : Int32))
      else some (6 : Int32))
    else some (5 : Int32))
noncomputable def fX3_nameOf (a1 : Int32) (σ : zSt) : Option Int32 := fX3_nameOf_0 a1 σ
set_option maxRecDepth 100000 in
set_option maxHeartbeats 4000000 in
theorem wX3_nameOf_0 {T : zX} {σ : zSt} (hC : zOk T cX3_nameOf RX3 5 108 0 61) (hN : zNL T = 2) {r : Int32} (hQ : zRes T (some .int) (some (.int r)) σ) (a1 : Int32)  (h : fX3_nameOf_0 a1 σ = some r) : Z T σ 0 [(0, .ref (zAd T (1))), (1, .int a1)] [] := by
  unfold fX3_nameOf_0 at h
  refine z_aload_n hC 0 rfl rfl dX3_nameOf_0 ?_
  refine z_iload_n hC 1 rfl rfl dX3_nameOf_1 ?_
  refine z_ldcS (i := 1) (tx := "root") hC (by decide +kernel) dX3_nameOf_2 ?_
  refine z_b1 h (fun r4_1 e_r4_1 h => ?_)
  refine z_cV2r hC (ctX3_isWord hC.hm e_r4_1) (rcX3 hC) kb_X3_isWord km_X3_110 ⟨by decide, by decide⟩ (Nat.le_of_ble_eq_true rfl) dX3_nameOf_4 ?_
  refine z_if_eq hC 12 (by decide) dX3_nameOf_7 (fun q7_2 => ?_) (fun q7_2 => ?_)
  · replace h := z_t q7_2 h
    refine z_aload_n hC 0 rfl rfl dX3_nameOf_12 ?_
    refine z_iload_n hC 1 rfl rfl dX3_nameOf_13 ?_
    refine z_ldcS (i := 2) (tx := "exp") hC (by decide +kernel) dX3_nameOf_14 ?_
    refine z_b1 h (fun r16_3 e_r16_3 h => ?_)
    refine z_cV2r hC (ctX3_isWord hC.hm e_r16_3) (rcX3 hC) kb_X3_isWord km_X3_110 ⟨by decide, by decide⟩ (Nat.le_of_ble_eq_true rfl) dX3_nameOf_16 ?_
    refine z_if_eq hC 25 (by decide) dX3_nameOf_19 (fun q19_4 => ?_) (fun q19_4 => ?_)
    · replace h := z_t q19_4 h
      refine z_aload_n hC 0 rfl rfl dX3_nameOf_25 ?_
      refine z_iload_n hC 1 rfl rfl dX3_nameOf_26 ?_
      refine z_ldcS (i := 3) (tx := "log") hC (by decide +kernel) dX3_nameOf_27 ?_
      refine z_b1 h (fun r29_5 e_r29_5 h => ?_)
      refine z_cV2r hC (ctX3_isWord hC.hm e_r29_5) (rcX3 hC) kb_X3_isWord km_X3_110 ⟨by decide, by decide⟩ (Nat.le_of_ble_eq_true rfl) dX3_nameOf_29 ?_
      refine z_if_eq hC 38 (by decide) dX3_nameOf_32 (fun q32_6 => ?_) (fun q32_6 => ?_)
      · replace h := z_t q32_6 h
        refine z_aload_n hC 0 rfl rfl dX3_nameOf_38 ?_
        refine z_iload_n hC 1 rfl rfl dX3_nameOf_39 ?_
        refine z_ldcS (i := 4) (tx := "sin") hC (by decide +kernel) dX3_nameOf_40 ?_
        refine z_b1 h (fun r42_7 e_r42_7 h => ?_)
        refine z_cV2r hC (ctX3_isWord hC.hm e_r42_7) (rcX3 hC) kb_X3_isWord km_X3_110 ⟨by decide, by decide⟩ (Nat.le_of_ble_eq_true rfl) dX3_nameOf_42 ?_
        refine z_if_eq hC 51 (by decide) dX3_nameOf_45 (fun q45_8 => ?_) (fun q45_8 => ?_)
        · replace h := z_t q45_8 h
          refine z_aload_n hC 0 rfl rfl dX3_nameOf_51 ?_
          refine z_iload_n hC 1 rfl rfl dX3_nameOf_52 ?_
          refine z_ldcS (i := 5) (tx := "cos") hC (by decide +kernel) dX3_nameOf_53 ?_
          refine z_b1 h (fun r55_9 e_r55_9 h => ?_)
          refine z_cV2r hC (ctX3_isWord hC.hm e_r55_9) (rcX3 hC) kb_X3_isWord km_X3_110 ⟨by decide, by decide⟩ (Nat.le_of_ble_eq_true rfl) dX3_nameOf_55 ?_
          refine z_if_eq hC 64 (by decide) dX3_nameOf_58 (fun q58_10 => ?_) (fun q58_10 => ?_)
          · replace h := z_t q58_10 h
            refine z_aload_n hC 0 rfl rfl dX3_nameOf_64 ?_
            refine z_iload_n hC 1 rfl rfl dX3_nameOf_65 ?_
            refine z_ldcS (i := 6) (tx := "size") hC (by decide +kernel) dX3_nameOf_66 ?_
            refine z_b1 h (fun r68_11 e_r68_11 h => ?_)
            refine z_cV2r hC (ctX3_isWord hC.hm e_r68_11) (rcX3 hC) kb_X3_isWord km_X3_110 ⟨by decide, by decide⟩ (Nat.le_of_ble_eq_true rfl) dX3_nameOf_68 ?_
            refine z_if_eq hC 77 (by decide) dX3_nameOf_71 (fun q71_12 => ?_) (fun q71_12 => ?_)
            · replace h := z_t q71_12 h
              refine z_aload_n hC 0 rfl rfl dX3_nameOf_77 ?_
              refine z_iload_n hC 1 rfl rfl dX3_nameOf_78 ?_
              refine z_ldcS (i := 7) (tx := "lesser") hC (by decide +kernel) dX3_nameOf_79 ?_
              refine z_b1 h (fun r81_13 e_r81_13 h => ?_)
              refine z_cV2r hC (ctX3_isWord hC.hm e_r81_13) (rcX3 hC) kb_X3_isWord km_X3_110 ⟨by decide, by decide⟩ (Nat.le_of_ble_eq_true rfl) dX3_nameOf_81 ?_
              refine z_if_eq hC 90 (by decide) dX3_nameOf_84 (fun q84_14 => ?_) (fun q84_14 => ?_)
              · replace h := z_t q84_14 h
                refine z_aload_n hC 0 rfl rfl dX3_nameOf_90 ?_
                refine z_iload_n hC 1 rfl rfl dX3_nameOf_91 ?_
                refine z_ldcS (i := 8) (tx := "greater") hC (by decide +kernel) dX3_nameOf_92 ?_
                refine z_b1 h (fun r94_15 e_r94_15 h => ?_)
                refine z_cV2r hC (ctX3_isWord hC.hm e_r94_15) (rcX3 hC) kb_X3_isWord km_X3_110 ⟨by decide, by decide⟩ (Nat.le_of_ble_eq_true rfl) dX3_nameOf_94 ?_
                refine z_if_eq hC 105 (by decide) dX3_nameOf_97 (fun q97_16 => ?_) (fun q97_16 => ?_)
                · replace h := z_t q97_16 h
                  refine z_iconst hC (-1 : Int32) (by decide) dX3_nameOf_105 ?_
                  obtain rfl := z_so h
                  exact z_iret hC hQ dX3_nameOf_106
                · replace h := z_f q97_16 h
                  refine z_bipush hC (12 : Int32) (by decide) dX3_nameOf_100 ?_
                  refine z_goto hC 106 (by decide) dX3_nameOf_102 ?_
                  obtain rfl := z_so h
                  exact z_iret hC hQ dX3_nameOf_106
              · replace h := z_f q84_14 h
                refine z_bipush hC (11 : Int32) (by decide) dX3_nameOf_87 ?_
                obtain rfl := z_so h
                exact z_iret hC hQ dX3_nameOf_89
            · replace h := z_f q71_12 h
              refine z_bipush hC (10 : Int32) (by decide) dX3_nameOf_74 ?_
              obtain rfl := z_so h
              exact z_iret hC hQ dX3_nameOf_76
          · replace h := z_f q58_10 h
            refine z_bipush hC (9 : Int32) (by decide) dX3_nameOf_61 ?_
            obtain rfl := z_so h
            exact z_iret hC hQ dX3_nameOf_63
        · replace h := z_f q45_8 h
          refine z_bipush hC (8 : Int32) (by decide) dX3_nameOf_48 ?_
          obtain rfl := z_so h
          exact z_iret hC hQ dX3_nameOf_50
      · replace h := z_f q32_6 h
        refine z_bipush hC (7 : Int32) (by decide) dX3_nameOf_35 ?_
        obtain rfl := z_so h
        exact z_iret hC hQ dX3_nameOf_37
    · replace h := z_f q19_4 h
      refine z_bipush hC (6 : Int32) (by decide) dX3_nameOf_22 ?_
      obtain rfl := z_so h
      exact z_iret hC hQ dX3_nameOf_24
  · replace h := z_f q7_2 h
    refine z_iconst hC (5 : Int32) (by decide) dX3_nameOf_10 ?_
    obtain rfl := z_so h
    exact z_iret hC hQ dX3_nameOf_11
set_option maxRecDepth 100000 in
theorem ctX3_nameOf {l : Launch} {G : zGt} {mk : zSt → zSt} (hm : zM mk 0 61) {a1 : Int32} {σ : zSt} {r : Int32} (h : fX3_nameOf a1 σ = some r) : zMet l G mk yX3_nameOf cX3_nameOf 2 (some .int) 5 108 [.ref (gA G (1)), .int a1] σ (some (.int r)) σ := by
  unfold fX3_nameOf at h

  refine zMet.of (plainFor_of_name (by decide +kernel)) hm (Nat.le_of_ble_eq_true rfl) (fun T eL eG eM hN hC hQ => ?_)
  subst eL; subst eG; subst eM
  refine z_sub [(0, .ref (zAd T (1))), (1, .int a1)] [0, 1] rfl ?_
  exact wX3_nameOf_0 hC hN hQ _  h
noncomputable def fX3_curveNumber_0  (σ : zSt) : Option Int32 := bd1 (fX6_byteAt ((gi σ 1 2) + (1 : Int32)) σ) fun r10_1 => some (r10_1 - (48 : Int32))
noncomputable def fX3_curveNumber  (σ : zSt) : Option Int32 := fX3_curveNumber_0  σ
set_option maxRecDepth 100000 in
set_option maxHeartbeats 4000000 in
theorem wX3_curveNumber_0 {T : zX} {σ : zSt} (hC : zOk T cX3_curveNumber RX3 1 21 0 61) (hN : zNL T = 1) {r : Int32} (hQ : zRes T (some .int) (some (.int r)) σ)   (h : fX3_curveNumber_0  σ = some r) : Z T σ 0 [(0, .ref (zAd T (1)))] [] := by
  unfold fX3_curveNumber_0 at h
  refine z_aload_n hC 0 rfl rfl dX3_curveNumber_0 ?_
  refine gX3_0 hC kf_X3_12 dX3_curveNumber_1 ?_
  refine z_aload_n hC 0 rfl rfl dX3_curveNumber_4 ?_
  refine gX3_2 hC kf_X3_29 (gi σ 1 2) rfl dX3_curveNumber_5 ?_
  refine z_iconst hC (1 : Int32) (by decide) dX3_curveNumber_8 ?_
  refine z_iadd hC dX3_curveNumber_9 ?_
  refine z_b1 h (fun r10_1 e_r10_1 h => ?_)
  refine z_cV1r hC (ctX6_byteAt hC.hm e_r10_1) (rcX6 hC) kb_X6_byteAt km_X3_55 ⟨by decide, by decide⟩ (Nat.le_of_ble_eq_true rfl) dX3_curveNumber_10 ?_
  refine z_bipush hC (48 : Int32) (by decide) dX3_curveNumber_13 ?_
  refine z_isub hC dX3_curveNumber_15 ?_
  obtain rfl := z_so h
  exact z_iret hC hQ dX3_curveNumber_16
set_option maxRecDepth 100000 in
theorem ctX3_curveNumber {l : Launch} {G : zGt} {mk : zSt → zSt} (hm : zM mk 0 61)  {σ : zSt} {r : Int32} (h : fX3_curveNumber  σ = some r) : zMet l G mk yX3_curveNumber cX3_curveNumber 1 (some .int) 1 21 [.ref (gA G (1))] σ (some (.int r)) σ := by
  unfold fX3_curveNumber at h

  refine zMet.of (plainFor_of_name (by decide +kernel)) hm (Nat.le_of_ble_eq_true rfl) (fun T eL eG eM hN hC hQ => ?_)
  subst eL; subst eG; subst eM
  refine z_sub [(0, .ref (zAd T (1)))] [0] rfl ?_
  exact wX3_curveNumber_0 hC hN hQ   h
noncomputable def fX3_isNumber_95 (K95 : Int32 → Int32 → zSt → Option Int32) (v1 : Int32) (v4 : Int32) (σ : zSt) : Option Int32 := 
    (if v1 ≤ v4 then some (1 : Int32)
    else bd1 (fX6_byteAt v4 σ) fun r107_2 => 
      (if (fX3_isDigit r107_2) = 0 then some (0 : Int32)
      else nm (v4 + (1 : Int32)) fun x118_4 => K95 v1 x118_4 σ))
noncomputable def fX3_isNumber_L95 : Nat → Int32 → Int32 → zSt → Option Int32
  | 0, _, _, _ => none
  | n + 1, v1, v4, σ => fX3_isNumber_95 (fX3_isNumber_L95 n) v1 v4 σ
noncomputable def fX3_isNumber_30 (v1 : Int32) (v2 : Int32) (σ : zSt) : Option Int32 := 
    (if (v2 - (gi σ 1 2)) < (1 : Int32) then some (0 : Int32)
    else 
      (if (v2 - (gi σ 1 2)) ≤ (4 : Int32) then 
        (if v2 = v1 then some (1 : Int32)
        else nm ((v1 - v2) - (1 : Int32)) fun x64_4 => bd1 (fX6_byteAt v2 σ) fun r70_5 => 
          (if r70_5 = (46 : Int32) then 
            (if x64_4 < (1 : Int32) then some (0 : Int32)
            else 
              (if x64_4 ≤ (4 : Int32) then nm (v2 + (1 : Int32)) fun x93_9 => fX3_isNumber_L95 zFU v1 x93_9 σ
              else some (0 : Int32)))
          else some (0 : Int32)))
      else some (0 : Int32)))
noncomputable def fX3_isNumber_5 (K5 : Int32 → Int32 → zSt → Option Int32) (v1 : Int32) (v2 : Int32) (σ : zSt) : Option Int32 := 
    (if v1 ≤ v2 then fX3_isNumber_30 v1 v2 σ
    else bd1 (fX6_byteAt v2 σ) fun r15_2 => 
      (if (fX3_isDigit r15_2) = 0 then fX3_isNumber_30 v1 v2 σ
      else nm (v2 + (1 : Int32)) fun x24_4 => K5 v1 x24_4 σ))
noncomputable def fX3_isNumber_L5 : Nat → Int32 → Int32 → zSt → Option Int32
  | 0, _, _, _ => none
  | n + 1, v1, v2, σ => fX3_isNumber_5 (fX3_isNumber_L5 n) v1 v2 σ
noncomputable def fX3_isNumber_0 (a1 : Int32) (σ : zSt) : Option Int32 := nm (gi σ 1 2) fun x4_1 => fX3_isNumber_L5 zFU a1 x4_1 σ
noncomputable def fX3_isNumber (a1 : Int32) (σ : zSt) : Option Int32 := fX3_isNumber_0 a1 σ
set_option maxRecDepth 100000 in
set_option maxHeartbeats 4000000 in
theorem wX3_isNumber_95 {T : zX} {σ : zSt} (hC : zOk T cX3_isNumber RX3 1 21 0 61) (hN : zNL T = 5) {r : Int32} (hQ : zRes T (some .boolean) (some (.int r)) σ) (K95 : Int32 → Int32 → zSt → Option Int32) (hK95 : ∀ (v1 : Int32) (v4 : Int32), K95 v1 v4 σ = some r → Z T σ 95 [(0, .ref (zAd T (1))), (1, .int v1), (4, .int v4)] []) (v1 : Int32) (v4 : Int32)  (h : fX3_isNumber_95 K95 v1 v4 σ = some r) : Z T σ 95 [(0, .ref (zAd T (1))), (1, .int v1), (4, .int v4)] [] := by
  unfold fX3_isNumber_95 at h
  refine z_iload hC 2 rfl dX3_isNumber_95 ?_
  refine z_iload_n hC 1 rfl rfl dX3_isNumber_97 ?_
  refine z_icmp_ge hC 124 (by decide) dX3_isNumber_98 (fun q98_1 => ?_) (fun q98_1 => ?_)
  · replace h := z_t q98_1 h
    refine z_iconst hC (1 : Int32) (by decide) dX3_isNumber_124 ?_
    obtain rfl := z_so h
    exact z_zret hC hQ dX3_isNumber_125 (by decide)
  · replace h := z_f q98_1 h
    refine z_aload_n hC 0 rfl rfl dX3_isNumber_101 ?_
    refine gX3_0 hC kf_X3_12 dX3_isNumber_102 ?_
    refine z_iload hC 2 rfl dX3_isNumber_105 ?_
    refine z_b1 h (fun r107_2 e_r107_2 h => ?_)
    refine z_cV1r hC (ctX6_byteAt hC.hm e_r107_2) (rcX6 hC) kb_X6_byteAt km_X3_55 ⟨by decide, by decide⟩ (Nat.le_of_ble_eq_true rfl) dX3_isNumber_107 ?_
    refine z_cS1r hC (ctX3_isDigit hC.hm) kb_X3_isDigit km_X3_102 ⟨by decide, by decide⟩ (Nat.le_of_ble_eq_true rfl) dX3_isNumber_110 ?_
    refine z_if_ne hC 118 (by decide) dX3_isNumber_113 (fun q113_3 => ?_) (fun q113_3 => ?_)
    · replace h := z_f q113_3 h
      refine z_nmE h (fun x118_4 e_x118_4 h => ?_)
      refine z_iinc hC x118_4 [(4, .int x118_4), (0, .ref (zAd T (1))), (1, .int v1)] 2 rfl (by rw [e_x118_4]; rfl) (by rw [hN]; decide) rfl dX3_isNumber_118 ?_
      refine z_goto hC 95 (by decide) dX3_isNumber_121 ?_
      refine z_sub [(0, .ref (zAd T (1))), (1, .int v1), (4, .int x118_4)] [1, 2, 0] rfl ?_
      exact hK95 _ _ h
    · replace h := z_t q113_3 h
      refine z_iconst hC (0 : Int32) (by decide) dX3_isNumber_116 ?_
      obtain rfl := z_so h
      exact z_zret hC hQ dX3_isNumber_117 (by decide)
theorem wX3_isNumber_L95 {T : zX} {σ : zSt} (hC : zOk T cX3_isNumber RX3 1 21 0 61) (hN : zNL T = 5) {r : Int32} (hQ : zRes T (some .boolean) (some (.int r)) σ) (n : Nat) : ∀ (v1 : Int32) (v4 : Int32), fX3_isNumber_L95 n v1 v4 σ = some r → Z T σ 95 [(0, .ref (zAd T (1))), (1, .int v1), (4, .int v4)] [] := by
  induction n with
  | zero => intro v1 v4 h; cases h
  | succ n ih => intro v1 v4 h; exact wX3_isNumber_95 hC hN hQ (fX3_isNumber_L95 n) ih v1 v4 h
set_option maxRecDepth 100000 in
set_option maxHeartbeats 4000000 in
theorem wX3_isNumber_30 {T : zX} {σ : zSt} (hC : zOk T cX3_isNumber RX3 1 21 0 61) (hN : zNL T = 5) {r : Int32} (hQ : zRes T (some .boolean) (some (.int r)) σ) (v1 : Int32) (v2 : Int32)  (h : fX3_isNumber_30 v1 v2 σ = some r) : Z T σ 30 [(0, .ref (zAd T (1))), (1, .int v1), (2, .int v2)] [] := by
  unfold fX3_isNumber_30 at h
  refine z_iload_n hC 2 rfl rfl dX3_isNumber_30 ?_
  refine z_aload_n hC 0 rfl rfl dX3_isNumber_31 ?_
  refine gX3_2 hC kf_X3_29 (gi σ 1 2) rfl dX3_isNumber_32 ?_
  refine z_isub hC dX3_isNumber_35 ?_
  refine z_iconst hC (1 : Int32) (by decide) dX3_isNumber_36 ?_
  refine z_icmp_lt hC 50 (by decide) dX3_isNumber_37 (fun q37_1 => ?_) (fun q37_1 => ?_)
  · replace h := z_t q37_1 h
    refine z_iconst hC (0 : Int32) (by decide) dX3_isNumber_50 ?_
    obtain rfl := z_so h
    exact z_zret hC hQ dX3_isNumber_51 (by decide)
  · replace h := z_f q37_1 h
    refine z_iload_n hC 2 rfl rfl dX3_isNumber_40 ?_
    refine z_aload_n hC 0 rfl rfl dX3_isNumber_41 ?_
    refine gX3_2 hC kf_X3_29 (gi σ 1 2) rfl dX3_isNumber_42 ?_
    refine z_isub hC dX3_isNumber_45 ?_
    refine z_iconst hC (4 : Int32) (by decide) dX3_isNumber_46 ?_
    refine z_icmp_le hC 52 (by decide) dX3_isNumber_47 (fun q47_2 => ?_) (fun q47_2 => ?_)
    · replace h := z_t q47_2 h
      refine z_iload_n hC 2 rfl rfl dX3_isNumber_52 ?_
      refine z_iload_n hC 1 rfl rfl dX3_isNumber_53 ?_
      refine z_icmp_ne hC 59 (by decide) dX3_isNumber_54 (fun q54_3 => ?_) (fun q54_3 => ?_)
      · replace h := z_f q54_3 h
        refine z_iload_n hC 1 rfl rfl dX3_isNumber_59 ?_
        refine z_iload_n hC 2 rfl rfl dX3_isNumber_60 ?_
        refine z_isub hC dX3_isNumber_61 ?_
        refine z_iconst hC (1 : Int32) (by decide) dX3_isNumber_62 ?_
        refine z_isub hC dX3_isNumber_63 ?_
        refine z_nmI h (fun x64_4 h => ?_)
        refine z_istore_n hC [(3, .int x64_4), (0, .ref (zAd T (1))), (1, .int v1), (2, .int v2)] rfl (by rw [hN]; decide) rfl dX3_isNumber_64 ?_
        refine z_aload_n hC 1 rfl rfl dX3_isNumber_65 ?_
        refine gX3_0 hC kf_X3_12 dX3_isNumber_66 ?_
        refine z_iload_n hC 3 rfl rfl dX3_isNumber_69 ?_
        refine z_b1 h (fun r70_5 e_r70_5 h => ?_)
        refine z_cV1r hC (ctX6_byteAt hC.hm e_r70_5) (rcX6 hC) kb_X6_byteAt km_X3_55 ⟨by decide, by decide⟩ (Nat.le_of_ble_eq_true rfl) dX3_isNumber_70 ?_
        refine z_bipush hC (46 : Int32) (by decide) dX3_isNumber_73 ?_
        refine z_icmp_ne hC 88 (by decide) dX3_isNumber_75 (fun q75_6 => ?_) (fun q75_6 => ?_)
        · replace h := z_f q75_6 h
          refine z_iconst hC (0 : Int32) (by decide) dX3_isNumber_88 ?_
          obtain rfl := z_so h
          exact z_zret hC hQ dX3_isNumber_89 (by decide)
        · replace h := z_t q75_6 h
          refine z_iload_n hC 0 rfl rfl dX3_isNumber_78 ?_
          refine z_iconst hC (1 : Int32) (by decide) dX3_isNumber_79 ?_
          refine z_icmp_lt hC 88 (by decide) dX3_isNumber_80 (fun q80_7 => ?_) (fun q80_7 => ?_)
          · replace h := z_t q80_7 h
            refine z_iconst hC (0 : Int32) (by decide) dX3_isNumber_88 ?_
            obtain rfl := z_so h
            exact z_zret hC hQ dX3_isNumber_89 (by decide)
          · replace h := z_f q80_7 h
            refine z_iload_n hC 0 rfl rfl dX3_isNumber_83 ?_
            refine z_iconst hC (4 : Int32) (by decide) dX3_isNumber_84 ?_
            refine z_icmp_le hC 90 (by decide) dX3_isNumber_85 (fun q85_8 => ?_) (fun q85_8 => ?_)
            · replace h := z_t q85_8 h
              refine z_iload_n hC 3 rfl rfl dX3_isNumber_90 ?_
              refine z_iconst hC (1 : Int32) (by decide) dX3_isNumber_91 ?_
              refine z_iadd hC dX3_isNumber_92 ?_
              refine z_nmI h (fun x93_9 h => ?_)
              refine z_istore hC [(4, .int x93_9), (3, .int x64_4), (0, .ref (zAd T (1))), (1, .int v1), (2, .int v2)] (by rw [hN]; decide) rfl dX3_isNumber_93 ?_
              refine z_sub [(0, .ref (zAd T (1))), (1, .int v1), (4, .int x93_9)] [2, 3, 0] rfl ?_
              exact (wX3_isNumber_L95 hC hN hQ zFU) _ _ h
            · replace h := z_f q85_8 h
              refine z_iconst hC (0 : Int32) (by decide) dX3_isNumber_88 ?_
              obtain rfl := z_so h
              exact z_zret hC hQ dX3_isNumber_89 (by decide)
      · replace h := z_t q54_3 h
        refine z_iconst hC (1 : Int32) (by decide) dX3_isNumber_57 ?_
        obtain rfl := z_so h
        exact z_zret hC hQ dX3_isNumber_58 (by decide)
    · replace h := z_f q47_2 h
      refine z_iconst hC (0 : Int32) (by decide) dX3_isNumber_50 ?_
      obtain rfl := z_so h
      exact z_zret hC hQ dX3_isNumber_51 (by decide)
set_option maxRecDepth 100000 in
set_option maxHeartbeats 4000000 in
theorem wX3_isNumber_5 {T : zX} {σ : zSt} (hC : zOk T cX3_isNumber RX3 1 21 0 61) (hN : zNL T = 5) {r : Int32} (hQ : zRes T (some .boolean) (some (.int r)) σ) (K5 : Int32 → Int32 → zSt → Option Int32) (hK5 : ∀ (v1 : Int32) (v2 : Int32), K5 v1 v2 σ = some r → Z T σ 5 [(0, .ref (zAd T (1))), (1, .int v1), (2, .int v2)] []) (v1 : Int32) (v2 : Int32)  (h : fX3_isNumber_5 K5 v1 v2 σ = some r) : Z T σ 5 [(0, .ref (zAd T (1))), (1, .int v1), (2, .int v2)] [] := by
  unfold fX3_isNumber_5 at h
  refine z_iload_n hC 2 rfl rfl dX3_isNumber_5 ?_
  refine z_iload_n hC 1 rfl rfl dX3_isNumber_6 ?_
  refine z_icmp_ge hC 30 (by decide) dX3_isNumber_7 (fun q7_1 => ?_) (fun q7_1 => ?_)
  · replace h := z_t q7_1 h
    exact (wX3_isNumber_30 hC hN hQ ) _ _ h
  · replace h := z_f q7_1 h
    refine z_aload_n hC 0 rfl rfl dX3_isNumber_10 ?_
    refine gX3_0 hC kf_X3_12 dX3_isNumber_11 ?_
    refine z_iload_n hC 2 rfl rfl dX3_isNumber_14 ?_
    refine z_b1 h (fun r15_2 e_r15_2 h => ?_)
    refine z_cV1r hC (ctX6_byteAt hC.hm e_r15_2) (rcX6 hC) kb_X6_byteAt km_X3_55 ⟨by decide, by decide⟩ (Nat.le_of_ble_eq_true rfl) dX3_isNumber_15 ?_
    refine z_cS1r hC (ctX3_isDigit hC.hm) kb_X3_isDigit km_X3_102 ⟨by decide, by decide⟩ (Nat.le_of_ble_eq_true rfl) dX3_isNumber_18 ?_
    refine z_if_eq hC 30 (by decide) dX3_isNumber_21 (fun q21_3 => ?_) (fun q21_3 => ?_)
    · replace h := z_t q21_3 h
      exact (wX3_isNumber_30 hC hN hQ ) _ _ h
    · replace h := z_f q21_3 h
      refine z_nmE h (fun x24_4 e_x24_4 h => ?_)
      refine z_iinc hC x24_4 [(2, .int x24_4), (0, .ref (zAd T (1))), (1, .int v1)] 2 rfl (by rw [e_x24_4]; rfl) (by rw [hN]; decide) rfl dX3_isNumber_24 ?_
      refine z_goto hC 5 (by decide) dX3_isNumber_27 ?_
      refine z_sub [(0, .ref (zAd T (1))), (1, .int v1), (2, .int x24_4)] [1, 2, 0] rfl ?_
      exact hK5 _ _ h
theorem wX3_isNumber_L5 {T : zX} {σ : zSt} (hC : zOk T cX3_isNumber RX3 1 21 0 61) (hN : zNL T = 5) {r : Int32} (hQ : zRes T (some .boolean) (some (.int r)) σ) (n : Nat) : ∀ (v1 : Int32) (v2 : Int32), fX3_isNumber_L5 n v1 v2 σ = some r → Z T σ 5 [(0, .ref (zAd T (1))), (1, .int v1), (2, .int v2)] [] := by
  induction n with
  | zero => intro v1 v2 h; cases h
  | succ n ih => intro v1 v2 h; exact wX3_isNumber_5 hC hN hQ (fX3_isNumber_L5 n) ih v1 v2 h
set_option maxRecDepth 100000 in
set_option maxHeartbeats 4000000 in
theorem wX3_isNumber_0 {T : zX} {σ : zSt} (hC : zOk T cX3_isNumber RX3 1 21 0 61) (hN : zNL T = 5) {r : Int32} (hQ : zRes T (some .boolean) (some (.int r)) σ) (a1 : Int32)  (h : fX3_isNumber_0 a1 σ = some r) : Z T σ 0 [(0, .ref (zAd T (1))), (1, .int a1)] [] := by
  unfold fX3_isNumber_0 at h
  refine z_aload_n hC 0 rfl rfl dX3_isNumber_0 ?_
  refine gX3_2 hC kf_X3_29 (gi σ 1 2) rfl dX3_isNumber_1 ?_
  refine z_nmI h (fun x4_1 h => ?_)
  refine z_istore_n hC [(2, .int x4_1), (0, .ref (zAd T (1))), (1, .int a1)] rfl (by rw [hN]; decide) rfl dX3_isNumber_4 ?_
  refine z_sub [(0, .ref (zAd T (1))), (1, .int a1), (2, .int x4_1)] [1, 2, 0] rfl ?_
  exact (wX3_isNumber_L5 hC hN hQ zFU) _ _ h
set_option maxRecDepth 100000 in
theorem ctX3_isNumber {l : Launch} {G : zGt} {mk : zSt → zSt} (hm : zM mk 0 61) {a1 : Int32} {σ : zSt} {r : Int32} (h : fX3_isNumber a1 σ = some r) : zMet l G mk yX3_isNumber cX3_isNumber 5 (some .boolean) 1 21 [.ref (gA G (1)), .int a1] σ (some (.int r)) σ := by
  unfold fX3_isNumber at h

  refine zMet.of (plainFor_of_name (by decide +kernel)) hm (Nat.le_of_ble_eq_true rfl) (fun T eL eG eM hN hC hQ => ?_)
  subst eL; subst eG; subst eM
  refine z_sub [(0, .ref (zAd T (1))), (1, .int a1)] [0, 1] rfl ?_
  exact wX3_isNumber_0 hC hN hQ _  h
noncomputable def fX3_kindOf_0 (a1 : Int32) (σ : zSt) : Option Int32 := bd1 (fX6_byteAt (gi σ 1 2) σ) fun r8_1 => 
    (if (fX3_isDigit r8_1) = 0 then bd1 (fX3_isWord a1 0 σ) fun r35_3 => 
      (if r35_3 = 0 then 
        (if (a1 - (gi σ 1 2)) = (2 : Int32) then bd1 (fX6_byteAt (gi σ 1 2) σ) fun r61_7 => 
          (if r61_7 = (99 : Int32) then bd1 (fX3_curveNumber σ) fun r70_10 => 
            (if r70_10 < 0 then some (-1 : Int32)
            else 
              (if (8 : Int32) ≤ r70_10 then some (-1 : Int32)
              else some (2 : Int32)))
          else bd1 (fX3_nameOf a1 σ) fun r92_9 => some r92_9)
        else bd1 (fX3_nameOf a1 σ) fun r92_6 => some r92_6)
      else some (0 : Int32))
    else bd1 (fX3_isNumber a1 σ) fun r19_13 => 
      (if r19_13 = 0 then some (-1 : Int32)
      else some (1 : Int32)))
noncomputable def fX3_kindOf (a1 : Int32) (σ : zSt) : Option Int32 := fX3_kindOf_0 a1 σ
set_option maxRecDepth 100000 in
set_option maxHeartbeats 4000000 in
theorem wX3_kindOf_0 {T : zX} {σ : zSt} (hC : zOk T cX3_kindOf RX3 6 129 0 61) (hN : zNL T = 3) {r : Int32} (hQ : zRes T (some .int) (some (.int r)) σ) (a1 : Int32)  (h : fX3_kindOf_0 a1 σ = some r) : Z T σ 0 [(0, .ref (zAd T (1))), (1, .int a1)] [] := by
  unfold fX3_kindOf_0 at h
  refine z_aload_n hC 0 rfl rfl dX3_kindOf_0 ?_
  refine gX3_0 hC kf_X3_12 dX3_kindOf_1 ?_
  refine z_aload_n hC 0 rfl rfl dX3_kindOf_4 ?_
  refine gX3_2 hC kf_X3_29 (gi σ 1 2) rfl dX3_kindOf_5 ?_
  refine z_b1 h (fun r8_1 e_r8_1 h => ?_)
  refine z_cV1r hC (ctX6_byteAt hC.hm e_r8_1) (rcX6 hC) kb_X6_byteAt km_X3_55 ⟨by decide, by decide⟩ (Nat.le_of_ble_eq_true rfl) dX3_kindOf_8 ?_
  refine z_cS1r hC (ctX3_isDigit hC.hm) kb_X3_isDigit km_X3_102 ⟨by decide, by decide⟩ (Nat.le_of_ble_eq_true rfl) dX3_kindOf_11 ?_
  refine z_if_eq hC 31 (by decide) dX3_kindOf_14 (fun q14_2 => ?_) (fun q14_2 => ?_)
  · replace h := z_t q14_2 h
    refine z_aload_n hC 0 rfl rfl dX3_kindOf_31 ?_
    refine z_iload_n hC 1 rfl rfl dX3_kindOf_32 ?_
    refine z_ldcS (i := 0) (tx := "x") hC (by decide +kernel) dX3_kindOf_33 ?_
    refine z_b1 h (fun r35_3 e_r35_3 h => ?_)
    refine z_cV2r hC (ctX3_isWord hC.hm e_r35_3) (rcX3 hC) kb_X3_isWord km_X3_110 ⟨by decide, by decide⟩ (Nat.le_of_ble_eq_true rfl) dX3_kindOf_35 ?_
    refine z_if_eq hC 43 (by decide) dX3_kindOf_38 (fun q38_4 => ?_) (fun q38_4 => ?_)
    · replace h := z_t q38_4 h
      refine z_iload_n hC 1 rfl rfl dX3_kindOf_43 ?_
      refine z_aload_n hC 0 rfl rfl dX3_kindOf_44 ?_
      refine gX3_2 hC kf_X3_29 (gi σ 1 2) rfl dX3_kindOf_45 ?_
      refine z_isub hC dX3_kindOf_48 ?_
      refine z_iconst hC (2 : Int32) (by decide) dX3_kindOf_49 ?_
      refine z_icmp_ne hC 90 (by decide) dX3_kindOf_50 (fun q50_5 => ?_) (fun q50_5 => ?_)
      · replace h := z_f q50_5 h
        refine z_aload_n hC 0 rfl rfl dX3_kindOf_90 ?_
        refine z_iload_n hC 1 rfl rfl dX3_kindOf_91 ?_
        refine z_b1 h (fun r92_6 e_r92_6 h => ?_)
        refine z_cV1r hC (ctX3_nameOf hC.hm e_r92_6) (rcX3 hC) kb_X3_nameOf km_X3_114 ⟨by decide, by decide⟩ (Nat.le_of_ble_eq_true rfl) dX3_kindOf_92 ?_
        obtain rfl := z_so h
        exact z_iret hC hQ dX3_kindOf_95
      · replace h := z_t q50_5 h
        refine z_aload_n hC 0 rfl rfl dX3_kindOf_53 ?_
        refine gX3_0 hC kf_X3_12 dX3_kindOf_54 ?_
        refine z_aload_n hC 0 rfl rfl dX3_kindOf_57 ?_
        refine gX3_2 hC kf_X3_29 (gi σ 1 2) rfl dX3_kindOf_58 ?_
        refine z_b1 h (fun r61_7 e_r61_7 h => ?_)
        refine z_cV1r hC (ctX6_byteAt hC.hm e_r61_7) (rcX6 hC) kb_X6_byteAt km_X3_55 ⟨by decide, by decide⟩ (Nat.le_of_ble_eq_true rfl) dX3_kindOf_61 ?_
        refine z_bipush hC (99 : Int32) (by decide) dX3_kindOf_64 ?_
        refine z_icmp_ne hC 90 (by decide) dX3_kindOf_66 (fun q66_8 => ?_) (fun q66_8 => ?_)
        · replace h := z_f q66_8 h
          refine z_aload_n hC 0 rfl rfl dX3_kindOf_90 ?_
          refine z_iload_n hC 1 rfl rfl dX3_kindOf_91 ?_
          refine z_b1 h (fun r92_9 e_r92_9 h => ?_)
          refine z_cV1r hC (ctX3_nameOf hC.hm e_r92_9) (rcX3 hC) kb_X3_nameOf km_X3_114 ⟨by decide, by decide⟩ (Nat.le_of_ble_eq_true rfl) dX3_kindOf_92 ?_
          obtain rfl := z_so h
          exact z_iret hC hQ dX3_kindOf_95
        · replace h := z_t q66_8 h
          refine z_aload_n hC 0 rfl rfl dX3_kindOf_69 ?_
          refine z_b1 h (fun r70_10 e_r70_10 h => ?_)
          refine z_cV0r hC (ctX3_curveNumber hC.hm e_r70_10) (rcX3 hC) kb_X3_curveNumber km_X3_99 ⟨by decide, by decide⟩ (Nat.le_of_ble_eq_true rfl) dX3_kindOf_70 ?_
          refine z_istore_n hC [(2, .int r70_10), (0, .ref (zAd T (1))), (1, .int a1)] rfl (by rw [hN]; decide) rfl dX3_kindOf_73 ?_
          refine z_iload_n hC 0 rfl rfl dX3_kindOf_74 ?_
          refine z_if_lt hC 88 (by decide) dX3_kindOf_75 (fun q75_11 => ?_) (fun q75_11 => ?_)
          · replace h := z_t q75_11 h
            refine z_iconst hC (-1 : Int32) (by decide) dX3_kindOf_88 ?_
            obtain rfl := z_so h
            exact z_iret hC hQ dX3_kindOf_89
          · replace h := z_f q75_11 h
            refine z_iload_n hC 0 rfl rfl dX3_kindOf_78 ?_
            refine z_bipush hC (8 : Int32) (by decide) dX3_kindOf_79 ?_
            refine z_icmp_ge hC 88 (by decide) dX3_kindOf_81 (fun q81_12 => ?_) (fun q81_12 => ?_)
            · replace h := z_t q81_12 h
              refine z_iconst hC (-1 : Int32) (by decide) dX3_kindOf_88 ?_
              obtain rfl := z_so h
              exact z_iret hC hQ dX3_kindOf_89
            · replace h := z_f q81_12 h
              refine z_iconst hC (2 : Int32) (by decide) dX3_kindOf_84 ?_
              refine z_goto hC 89 (by decide) dX3_kindOf_85 ?_
              obtain rfl := z_so h
              exact z_iret hC hQ dX3_kindOf_89
    · replace h := z_f q38_4 h
      refine z_iconst hC (0 : Int32) (by decide) dX3_kindOf_41 ?_
      obtain rfl := z_so h
      exact z_iret hC hQ dX3_kindOf_42
  · replace h := z_f q14_2 h
    refine z_aload_n hC 0 rfl rfl dX3_kindOf_17 ?_
    refine z_iload_n hC 1 rfl rfl dX3_kindOf_18 ?_
    refine z_b1 h (fun r19_13 e_r19_13 h => ?_)
    refine z_cV1r hC (ctX3_isNumber hC.hm e_r19_13) (rcX3 hC) kb_X3_isNumber km_X3_105 ⟨by decide, by decide⟩ (Nat.le_of_ble_eq_true rfl) dX3_kindOf_19 ?_
    refine z_if_eq hC 29 (by decide) dX3_kindOf_22 (fun q22_14 => ?_) (fun q22_14 => ?_)
    · replace h := z_t q22_14 h
      refine z_iconst hC (-1 : Int32) (by decide) dX3_kindOf_29 ?_
      obtain rfl := z_so h
      exact z_iret hC hQ dX3_kindOf_30
    · replace h := z_f q22_14 h
      refine z_iconst hC (1 : Int32) (by decide) dX3_kindOf_25 ?_
      refine z_goto hC 30 (by decide) dX3_kindOf_26 ?_
      obtain rfl := z_so h
      exact z_iret hC hQ dX3_kindOf_30
set_option maxRecDepth 100000 in
theorem ctX3_kindOf {l : Launch} {G : zGt} {mk : zSt → zSt} (hm : zM mk 0 61) {a1 : Int32} {σ : zSt} {r : Int32} (h : fX3_kindOf a1 σ = some r) : zMet l G mk yX3_kindOf cX3_kindOf 3 (some .int) 6 129 [.ref (gA G (1)), .int a1] σ (some (.int r)) σ := by
  unfold fX3_kindOf at h

  refine zMet.of (plainFor_of_name (by decide +kernel)) hm (Nat.le_of_ble_eq_true rfl) (fun T eL eG eM hN hC hQ => ?_)
  subst eL; subst eG; subst eM
  refine z_sub [(0, .ref (zAd T (1))), (1, .int a1)] [0, 1] rfl ?_
  exact wX3_kindOf_0 hC hN hQ _  h
noncomputable def fX3_number_14 (K14 : Int32 → Int64 → Int64 → Int32 → Int32 → zSt → Option Int64) (v1 : Int32) (v2 : Int64) (v4 : Int64) (v6 : Int32) (v7 : Int32) (σ : zSt) : Option Int64 := 
    (if v1 ≤ v7 then 
      (if (1 : Int64) ≤ v4 then nm (v2 * (1048576 : Int64)) fun x99_3 => zg (¬ v4 = 0) <| zg (¬ v4 = 0) <| some (fX5_of (x99_3 / v4) (((x99_3 + v4) - (1 : Int64)) / v4))
      else some (4294967296 : Int64))
    else bd1 (fX6_byteAt v7 σ) fun r26_6 => 
      (if (fX3_isDigit r26_6) = 0 then nm (v7 + (1 : Int32)) fun x77_8 => K14 v1 v2 v4 (1 : Int32) x77_8 σ
      else nm (((v2 * (10 : Int64)) + (Int32.toInt64 r26_6)) - (48 : Int64)) fun x52_9 => 
        (if v6 = 0 then nm (v7 + (1 : Int32)) fun x77_11 => K14 v1 x52_9 v4 v6 x77_11 σ
        else nm (v4 * (10 : Int64)) fun x69_12 => nm (v7 + (1 : Int32)) fun x77_13 => K14 v1 x52_9 x69_12 v6 x77_13 σ)))
noncomputable def fX3_number_L14 : Nat → Int32 → Int64 → Int64 → Int32 → Int32 → zSt → Option Int64
  | 0, _, _, _, _, _, _ => none
  | n + 1, v1, v2, v4, v6, v7, σ => fX3_number_14 (fX3_number_L14 n) v1 v2 v4 v6 v7 σ
noncomputable def fX3_number_0 (a1 : Int32) (σ : zSt) : Option Int64 := nm (gi σ 1 2) fun x12_1 => fX3_number_L14 zFU a1 (0 : Int64) (1 : Int64) (0 : Int32) x12_1 σ
noncomputable def fX3_number (a1 : Int32) (σ : zSt) : Option Int64 := fX3_number_0 a1 σ
set_option maxRecDepth 100000 in
set_option maxHeartbeats 4000000 in
theorem wX3_number_14 {T : zX} {σ : zSt} (hC : zOk T cX3_number RX3 1 23 0 61) (hN : zNL T = 9) {r : Int64} (hQ : zRes T (some .long) (some (.long r)) σ) (K14 : Int32 → Int64 → Int64 → Int32 → Int32 → zSt → Option Int64) (hK14 : ∀ (v1 : Int32) (v2 : Int64) (v4 : Int64) (v6 : Int32) (v7 : Int32), K14 v1 v2 v4 v6 v7 σ = some r → Z T σ 14 [(0, .ref (zAd T (1))), (1, .int v1), (2, .long v2), (4, .long v4), (6, .int v6), (7, .int v7)] []) (v1 : Int32) (v2 : Int64) (v4 : Int64) (v6 : Int32) (v7 : Int32)  (h : fX3_number_14 K14 v1 v2 v4 v6 v7 σ = some r) : Z T σ 14 [(0, .ref (zAd T (1))), (1, .int v1), (2, .long v2), (4, .long v4), (6, .int v6), (7, .int v7)] [] := by
  unfold fX3_number_14 at h
  refine z_iload hC 5 rfl dX3_number_14 ?_
  refine z_iload_n hC 1 rfl rfl dX3_number_16 ?_
  refine z_icmp_ge hC 83 (by decide) dX3_number_17 (fun q17_1 => ?_) (fun q17_1 => ?_)
  · replace h := z_t q17_1 h
    refine z_lload hC 3 rfl dX3_number_83 ?_
    refine z_lconst hC (1 : Int64) (by decide) dX3_number_85 ?_
    refine z_cmp_ge hC 94 (by decide) dX3_number_86 dX3_number_87 (fun q86_2 => ?_) (fun q86_2 => ?_)
    · replace h := z_t q86_2 h
      refine z_lload_n hC 2 rfl rfl dX3_number_94 ?_
      refine z_ldc2 hC kc_X3_149 dX3_number_95 ?_
      refine z_lmul hC dX3_number_98 ?_
      refine z_nmL h (fun x99_3 h => ?_)
      refine z_lstore hC [(7, .long x99_3), (0, .ref (zAd T (1))), (1, .int v1), (2, .long v2), (4, .long v4), (6, .int v6)] (by rw [hN]; decide) rfl dX3_number_99 ?_
      refine z_lload hC 0 rfl dX3_number_101 ?_
      refine z_lload hC 4 rfl dX3_number_103 ?_
      refine z_g h (fun g105_4 h => ?_)
      refine z_ldiv hC g105_4 dX3_number_105 ?_
      refine z_lload hC 0 rfl dX3_number_106 ?_
      refine z_lload hC 4 rfl dX3_number_108 ?_
      refine z_ladd hC dX3_number_110 ?_
      refine z_lconst hC (1 : Int64) (by decide) dX3_number_111 ?_
      refine z_lsub hC dX3_number_112 ?_
      refine z_lload hC 4 rfl dX3_number_113 ?_
      refine z_g h (fun g115_5 h => ?_)
      refine z_ldiv hC g115_5 dX3_number_115 ?_
      refine z_cS2r hC (ctX5_of hC.hm) kb_X5_of km_X3_151 ⟨by decide, by decide⟩ (Nat.le_of_ble_eq_true rfl) dX3_number_116 ?_
      obtain rfl := z_so h
      exact z_lret hC hQ dX3_number_119
    · replace h := z_f q86_2 h
      refine z_ldc2 hC kc_X3_147 dX3_number_90 ?_
      obtain rfl := z_so h
      exact z_lret hC hQ dX3_number_93
  · replace h := z_f q17_1 h
    refine z_aload_n hC 0 rfl rfl dX3_number_20 ?_
    refine gX3_0 hC kf_X3_12 dX3_number_21 ?_
    refine z_iload hC 5 rfl dX3_number_24 ?_
    refine z_b1 h (fun r26_6 e_r26_6 h => ?_)
    refine z_cV1r hC (ctX6_byteAt hC.hm e_r26_6) (rcX6 hC) kb_X6_byteAt km_X3_55 ⟨by decide, by decide⟩ (Nat.le_of_ble_eq_true rfl) dX3_number_26 ?_
    refine z_istore hC [(8, .int r26_6), (0, .ref (zAd T (1))), (1, .int v1), (2, .long v2), (4, .long v4), (6, .int v6), (7, .int v7)] (by rw [hN]; decide) rfl dX3_number_29 ?_
    refine z_iload hC 0 rfl dX3_number_31 ?_
    refine z_cS1r hC (ctX3_isDigit hC.hm) kb_X3_isDigit km_X3_102 ⟨by decide, by decide⟩ (Nat.le_of_ble_eq_true rfl) dX3_number_33 ?_
    refine z_if_eq hC 74 (by decide) dX3_number_36 (fun q36_7 => ?_) (fun q36_7 => ?_)
    · replace h := z_t q36_7 h
      refine z_iconst hC (1 : Int32) (by decide) dX3_number_74 ?_
      refine z_istore hC [(6, .int (1 : Int32)), (8, .int r26_6), (0, .ref (zAd T (1))), (1, .int v1), (2, .long v2), (4, .long v4), (7, .int v7)] (by rw [hN]; decide) rfl dX3_number_75 ?_
      refine z_nmE h (fun x77_8 e_x77_8 h => ?_)
      refine z_iinc hC x77_8 [(7, .int x77_8), (6, .int (1 : Int32)), (8, .int r26_6), (0, .ref (zAd T (1))), (1, .int v1), (2, .long v2), (4, .long v4)] 6 rfl (by rw [e_x77_8]; rfl) (by rw [hN]; decide) rfl dX3_number_77 ?_
      refine z_goto hC 14 (by decide) dX3_number_80 ?_
      refine z_sub [(0, .ref (zAd T (1))), (1, .int v1), (2, .long v2), (4, .long v4), (6, .int (1 : Int32)), (7, .int x77_8)] [3, 4, 5, 6, 1, 0] rfl ?_
      exact hK14 _ _ _ _ _ h
    · replace h := z_f q36_7 h
      refine z_lload_n hC 3 rfl rfl dX3_number_39 ?_
      refine z_ldc2 hC kc_X3_141 dX3_number_40 ?_
      refine z_lmul hC dX3_number_43 ?_
      refine z_iload hC 0 rfl dX3_number_44 ?_
      refine z_i2l hC dX3_number_46 ?_
      refine z_ladd hC dX3_number_47 ?_
      refine z_ldc2 hC kc_X3_143 dX3_number_48 ?_
      refine z_lsub hC dX3_number_51 ?_
      refine z_nmL h (fun x52_9 h => ?_)
      refine z_lstore_n hC [(2, .long x52_9), (8, .int r26_6), (0, .ref (zAd T (1))), (1, .int v1), (4, .long v4), (6, .int v6), (7, .int v7)] rfl (by rw [hN]; decide) rfl dX3_number_52 ?_
      refine z_iload hC 5 rfl dX3_number_53 ?_
      refine z_if_eq hC 67 (by decide) dX3_number_55 (fun q55_10 => ?_) (fun q55_10 => ?_)
      · replace h := z_t q55_10 h
        refine z_lload hC 4 rfl dX3_number_67 ?_
        refine z_lstore hC [(4, .long v4), (2, .long x52_9), (8, .int r26_6), (0, .ref (zAd T (1))), (1, .int v1), (6, .int v6), (7, .int v7)] (by rw [hN]; decide) rfl dX3_number_69 ?_
        refine z_goto hC 77 (by decide) dX3_number_71 ?_
        refine z_nmE h (fun x77_11 e_x77_11 h => ?_)
        refine z_iinc hC x77_11 [(7, .int x77_11), (4, .long v4), (2, .long x52_9), (8, .int r26_6), (0, .ref (zAd T (1))), (1, .int v1), (6, .int v6)] 6 rfl (by rw [e_x77_11]; rfl) (by rw [hN]; decide) rfl dX3_number_77 ?_
        refine z_goto hC 14 (by decide) dX3_number_80 ?_
        refine z_sub [(0, .ref (zAd T (1))), (1, .int v1), (2, .long x52_9), (4, .long v4), (6, .int v6), (7, .int x77_11)] [4, 5, 2, 1, 6, 0] rfl ?_
        exact hK14 _ _ _ _ _ h
      · replace h := z_f q55_10 h
        refine z_lload hC 4 rfl dX3_number_58 ?_
        refine z_ldc2 hC kc_X3_141 dX3_number_60 ?_
        refine z_lmul hC dX3_number_63 ?_
        refine z_goto hC 69 (by decide) dX3_number_64 ?_
        refine z_nmL h (fun x69_12 h => ?_)
        refine z_lstore hC [(4, .long x69_12), (2, .long x52_9), (8, .int r26_6), (0, .ref (zAd T (1))), (1, .int v1), (6, .int v6), (7, .int v7)] (by rw [hN]; decide) rfl dX3_number_69 ?_
        refine z_goto hC 77 (by decide) dX3_number_71 ?_
        refine z_nmE h (fun x77_13 e_x77_13 h => ?_)
        refine z_iinc hC x77_13 [(7, .int x77_13), (4, .long x69_12), (2, .long x52_9), (8, .int r26_6), (0, .ref (zAd T (1))), (1, .int v1), (6, .int v6)] 6 rfl (by rw [e_x77_13]; rfl) (by rw [hN]; decide) rfl dX3_number_77 ?_
        refine z_goto hC 14 (by decide) dX3_number_80 ?_
        refine z_sub [(0, .ref (zAd T (1))), (1, .int v1), (2, .long x52_9), (4, .long x69_12), (6, .int v6), (7, .int x77_13)] [4, 5, 2, 1, 6, 0] rfl ?_
        exact hK14 _ _ _ _ _ h
theorem wX3_number_L14 {T : zX} {σ : zSt} (hC : zOk T cX3_number RX3 1 23 0 61) (hN : zNL T = 9) {r : Int64} (hQ : zRes T (some .long) (some (.long r)) σ) (n : Nat) : ∀ (v1 : Int32) (v2 : Int64) (v4 : Int64) (v6 : Int32) (v7 : Int32), fX3_number_L14 n v1 v2 v4 v6 v7 σ = some r → Z T σ 14 [(0, .ref (zAd T (1))), (1, .int v1), (2, .long v2), (4, .long v4), (6, .int v6), (7, .int v7)] [] := by
  induction n with
  | zero => intro v1 v2 v4 v6 v7 h; cases h
  | succ n ih => intro v1 v2 v4 v6 v7 h; exact wX3_number_14 hC hN hQ (fX3_number_L14 n) ih v1 v2 v4 v6 v7 h
set_option maxRecDepth 100000 in
set_option maxHeartbeats 4000000 in
theorem wX3_number_0 {T : zX} {σ : zSt} (hC : zOk T cX3_number RX3 1 23 0 61) (hN : zNL T = 9) {r : Int64} (hQ : zRes T (some .long) (some (.long r)) σ) (a1 : Int32)  (h : fX3_number_0 a1 σ = some r) : Z T σ 0 [(0, .ref (zAd T (1))), (1, .int a1)] [] := by
  unfold fX3_number_0 at h
  refine z_lconst hC (0 : Int64) (by decide) dX3_number_0 ?_
  refine z_lstore_n hC [(2, .long (0 : Int64)), (0, .ref (zAd T (1))), (1, .int a1)] rfl (by rw [hN]; decide) rfl dX3_number_1 ?_
  refine z_lconst hC (1 : Int64) (by decide) dX3_number_2 ?_
  refine z_lstore hC [(4, .long (1 : Int64)), (2, .long (0 : Int64)), (0, .ref (zAd T (1))), (1, .int a1)] (by rw [hN]; decide) rfl dX3_number_3 ?_
  refine z_iconst hC (0 : Int32) (by decide) dX3_number_5 ?_
  refine z_istore hC [(6, .int (0 : Int32)), (4, .long (1 : Int64)), (2, .long (0 : Int64)), (0, .ref (zAd T (1))), (1, .int a1)] (by rw [hN]; decide) rfl dX3_number_6 ?_
  refine z_aload_n hC 3 rfl rfl dX3_number_8 ?_
  refine gX3_2 hC kf_X3_29 (gi σ 1 2) rfl dX3_number_9 ?_
  refine z_nmI h (fun x12_1 h => ?_)
  refine z_istore hC [(7, .int x12_1), (6, .int (0 : Int32)), (4, .long (1 : Int64)), (2, .long (0 : Int64)), (0, .ref (zAd T (1))), (1, .int a1)] (by rw [hN]; decide) rfl dX3_number_12 ?_
  refine z_sub [(0, .ref (zAd T (1))), (1, .int a1), (2, .long (0 : Int64)), (4, .long (1 : Int64)), (6, .int (0 : Int32)), (7, .int x12_1)] [4, 5, 3, 2, 1, 0] rfl ?_
  exact (wX3_number_L14 hC hN hQ zFU) _ _ _ _ _ h
set_option maxRecDepth 100000 in
theorem ctX3_number {l : Launch} {G : zGt} {mk : zSt → zSt} (hm : zM mk 0 61) {a1 : Int32} {σ : zSt} {r : Int64} (h : fX3_number a1 σ = some r) : zMet l G mk yX3_number cX3_number 9 (some .long) 1 23 [.ref (gA G (1)), .int a1] σ (some (.long r)) σ := by
  unfold fX3_number at h

  refine zMet.of (plainFor_of_name (by decide +kernel)) hm (Nat.le_of_ble_eq_true rfl) (fun T eL eG eM hN hC hQ => ?_)
  subst eL; subst eG; subst eM
  refine z_sub [(0, .ref (zAd T (1))), (1, .int a1)] [0, 1] rfl ?_
  exact wX3_number_0 hC hN hQ _  h
noncomputable def fX3_word_119 (v1 : Int32) (v2 : Int32) (σ : zSt) : Option (Int32 × zSt) := bd1 (fX3_curveNumber σ) fun r122_1 => bd1 (fX3_emit (2 : Int32) (Int32.toInt64 r122_1) (0 : Int32) σ) fun s127_2 => 
    (if (2 : Int32) < v2 then some (v2, (si s127_2 1 2 v1))
    else some ((-2 : Int32), (si s127_2 1 2 v1)))
noncomputable def fX3_word_36 (v1 : Int32) (σ : zSt) : Option (Int32 × zSt) := bd1 (fX3_kindOf v1 σ) fun r38_1 => 
    (if r38_1 = (-1 : Int32) then bd1 (fX3_refuse (1 : Int32) σ) fun s49_18 => some ((-2 : Int32), s49_18)
    else bd2 (fX3_meet σ) fun r56_3 s56_4 => 
      (if r56_3 = 0 then some ((-2 : Int32), s56_4)
      else 
        (if r38_1 = 0 then bd1 (fX3_emit (0 : Int32) (0 : Int64) (0 : Int32) s56_4) fun s73_16 => 
          (if (2 : Int32) < r38_1 then some (r38_1, (si s73_16 1 2 v1))
          else some ((-2 : Int32), (si s73_16 1 2 v1)))
        else 
          (if r38_1 = (1 : Int32) then bd1 (fX3_number v1 s56_4) fun r88_13 => bd1 (fX3_emit (1 : Int32) r88_13 (0 : Int32) s56_4) fun s92_14 => 
            (if (2 : Int32) < r38_1 then some (r38_1, (si s92_14 1 2 v1))
            else some ((-2 : Int32), (si s92_14 1 2 v1)))
          else 
            (if r38_1 = (2 : Int32) then bd1 (fX3_curveNumber s56_4) fun r104_10 => 
              (if r104_10 < (gi s56_4 1 5) then fX3_word_119 v1 r38_1 s56_4
              else bd1 (fX3_refuse (2 : Int32) s56_4) fun s116_12 => fX3_word_119 v1 r38_1 s116_12)
            else 
              (if (2 : Int32) < r38_1 then some (r38_1, (si s56_4 1 2 v1))
              else some ((-2 : Int32), (si s56_4 1 2 v1))))))))
noncomputable def fX3_word_5 (K5 : Int32 → zSt → Option (Int32 × zSt)) (v1 : Int32) (σ : zSt) : Option (Int32 × zSt) := 
    (if (gi σ 2 1) ≤ v1 then fX3_word_36 v1 σ
    else bd1 (fX6_byteAt v1 σ) fun r21_2 => 
      (if (fX3_isWordByte r21_2) = 0 then fX3_word_36 v1 σ
      else nm (v1 + (1 : Int32)) fun x30_4 => K5 x30_4 σ))
noncomputable def fX3_word_L5 : Nat → Int32 → zSt → Option (Int32 × zSt)
  | 0, _, _ => none
  | n + 1, v1, σ => fX3_word_5 (fX3_word_L5 n) v1 σ
noncomputable def fX3_word_0  (σ : zSt) : Option (Int32 × zSt) := nm (gi σ 1 2) fun x4_1 => fX3_word_L5 zFU x4_1 σ
noncomputable def fX3_word  (σ : zSt) : Option (Int32 × zSt) := fX3_word_0  σ
set_option maxRecDepth 100000 in
set_option maxHeartbeats 4000000 in
theorem wX3_word_119 {T : zX} (hC : zOk T cX3_word RX3 7 151 0 61) (hN : zNL T = 3) {r : Int32} {σ' : zSt} (hQ : zRes T (some .int) (some (.int r)) σ') (v1 : Int32) (v2 : Int32)  (σ : zSt) (h : fX3_word_119 v1 v2 σ = some (r, σ')) : Z T σ 119 [(0, .ref (zAd T (1))), (1, .int v1), (2, .int v2)] [] := by
  unfold fX3_word_119 at h
  refine z_aload_n hC 0 rfl rfl dX3_word_119 ?_
  refine z_iconst hC (2 : Int32) (by decide) dX3_word_120 ?_
  refine z_aload_n hC 0 rfl rfl dX3_word_121 ?_
  refine z_b1 h (fun r122_1 e_r122_1 h => ?_)
  refine z_cV0r hC (ctX3_curveNumber hC.hm e_r122_1) (rcX3 hC) kb_X3_curveNumber km_X3_99 ⟨by decide, by decide⟩ (Nat.le_of_ble_eq_true rfl) dX3_word_122 ?_
  refine z_i2l hC dX3_word_125 ?_
  refine z_iconst hC (0 : Int32) (by decide) dX3_word_126 ?_
  refine z_b1 h (fun s127_2 e_s127_2 h => ?_)
  refine z_cV3v hC (ctX3_emit hC.hm e_s127_2) (rcX3 hC) kb_X3_emit km_X3_70 ⟨by decide, by decide⟩ (Nat.le_of_ble_eq_true rfl) dX3_word_127 ?_
  refine z_aload_n hC 0 rfl rfl dX3_word_130 ?_
  refine z_iload_n hC 1 rfl rfl dX3_word_131 ?_
  refine pX3_2 hC kf_X3_29 dX3_word_132 ?_
  refine z_iload_n hC 2 rfl rfl dX3_word_135 ?_
  refine z_iconst hC (2 : Int32) (by decide) dX3_word_136 ?_
  refine z_icmp_gt hC 145 (by decide) dX3_word_137 (fun q137_3 => ?_) (fun q137_3 => ?_)
  · replace h := z_t q137_3 h
    refine z_iload_n hC 2 rfl rfl dX3_word_145 ?_
    obtain ⟨rfl, rfl⟩ := z_pr h
    exact z_iret hC hQ dX3_word_146
  · replace h := z_f q137_3 h
    refine z_bipush hC (-2 : Int32) (by decide) dX3_word_140 ?_
    refine z_goto hC 146 (by decide) dX3_word_142 ?_
    obtain ⟨rfl, rfl⟩ := z_pr h
    exact z_iret hC hQ dX3_word_146
set_option maxRecDepth 100000 in
set_option maxHeartbeats 4000000 in
theorem wX3_word_36 {T : zX} (hC : zOk T cX3_word RX3 7 151 0 61) (hN : zNL T = 3) {r : Int32} {σ' : zSt} (hQ : zRes T (some .int) (some (.int r)) σ') (v1 : Int32)  (σ : zSt) (h : fX3_word_36 v1 σ = some (r, σ')) : Z T σ 36 [(0, .ref (zAd T (1))), (1, .int v1)] [] := by
  unfold fX3_word_36 at h
  refine z_aload_n hC 0 rfl rfl dX3_word_36 ?_
  refine z_iload_n hC 1 rfl rfl dX3_word_37 ?_
  refine z_b1 h (fun r38_1 e_r38_1 h => ?_)
  refine z_cV1r hC (ctX3_kindOf hC.hm e_r38_1) (rcX3 hC) kb_X3_kindOf km_X3_92 ⟨by decide, by decide⟩ (Nat.le_of_ble_eq_true rfl) dX3_word_38 ?_
  refine z_istore_n hC [(2, .int r38_1), (0, .ref (zAd T (1))), (1, .int v1)] rfl (by rw [hN]; decide) rfl dX3_word_41 ?_
  refine z_iload_n hC 0 rfl rfl dX3_word_42 ?_
  refine z_iconst hC (-1 : Int32) (by decide) dX3_word_43 ?_
  refine z_icmp_ne hC 55 (by decide) dX3_word_44 (fun q44_2 => ?_) (fun q44_2 => ?_)
  · replace h := z_f q44_2 h
    refine z_aload_n hC 1 rfl rfl dX3_word_55 ?_
    refine z_b2 h (fun r56_3 s56_4 e_r56_3 h => ?_)
    refine z_cV0r hC (ctX3_meet hC.hm e_r56_3) (rcX3 hC) kb_X3_meet km_X3_66 ⟨by decide, by decide⟩ (Nat.le_of_ble_eq_true rfl) dX3_word_56 ?_
    refine z_if_ne hC 65 (by decide) dX3_word_59 (fun q59_5 => ?_) (fun q59_5 => ?_)
    · replace h := z_f q59_5 h
      refine z_iload_n hC 0 rfl rfl dX3_word_65 ?_
      refine z_if_ne hC 79 (by decide) dX3_word_66 (fun q66_6 => ?_) (fun q66_6 => ?_)
      · replace h := z_f q66_6 h
        refine z_iload_n hC 0 rfl rfl dX3_word_79 ?_
        refine z_iconst hC (1 : Int32) (by decide) dX3_word_80 ?_
        refine z_icmp_ne hC 98 (by decide) dX3_word_81 (fun q81_7 => ?_) (fun q81_7 => ?_)
        · replace h := z_f q81_7 h
          refine z_iload_n hC 0 rfl rfl dX3_word_98 ?_
          refine z_iconst hC (2 : Int32) (by decide) dX3_word_99 ?_
          refine z_icmp_ne hC 130 (by decide) dX3_word_100 (fun q100_8 => ?_) (fun q100_8 => ?_)
          · replace h := z_f q100_8 h
            refine z_aload_n hC 1 rfl rfl dX3_word_130 ?_
            refine z_iload_n hC 2 rfl rfl dX3_word_131 ?_
            refine pX3_2 hC kf_X3_29 dX3_word_132 ?_
            refine z_iload_n hC 0 rfl rfl dX3_word_135 ?_
            refine z_iconst hC (2 : Int32) (by decide) dX3_word_136 ?_
            refine z_icmp_gt hC 145 (by decide) dX3_word_137 (fun q137_9 => ?_) (fun q137_9 => ?_)
            · replace h := z_t q137_9 h
              refine z_iload_n hC 0 rfl rfl dX3_word_145 ?_
              obtain ⟨rfl, rfl⟩ := z_pr h
              exact z_iret hC hQ dX3_word_146
            · replace h := z_f q137_9 h
              refine z_bipush hC (-2 : Int32) (by decide) dX3_word_140 ?_
              refine z_goto hC 146 (by decide) dX3_word_142 ?_
              obtain ⟨rfl, rfl⟩ := z_pr h
              exact z_iret hC hQ dX3_word_146
          · replace h := z_t q100_8 h
            refine z_aload_n hC 1 rfl rfl dX3_word_103 ?_
            refine z_b1 h (fun r104_10 e_r104_10 h => ?_)
            refine z_cV0r hC (ctX3_curveNumber hC.hm e_r104_10) (rcX3 hC) kb_X3_curveNumber km_X3_99 ⟨by decide, by decide⟩ (Nat.le_of_ble_eq_true rfl) dX3_word_104 ?_
            refine z_aload_n hC 1 rfl rfl dX3_word_107 ?_
            refine gX3_5 hC kf_X3_38 (gi s56_4 1 5) rfl dX3_word_108 ?_
            refine z_icmp_lt hC 119 (by decide) dX3_word_111 (fun q111_11 => ?_) (fun q111_11 => ?_)
            · replace h := z_t q111_11 h
              refine z_sub [(0, .ref (zAd T (1))), (1, .int v1), (2, .int r38_1)] [1, 2, 0] rfl ?_
              exact (wX3_word_119 hC hN hQ ) _ _ _ h
            · replace h := z_f q111_11 h
              refine z_aload_n hC 1 rfl rfl dX3_word_114 ?_
              refine z_iconst hC (2 : Int32) (by decide) dX3_word_115 ?_
              refine z_b1 h (fun s116_12 e_s116_12 h => ?_)
              refine z_cV1v hC (ctX3_refuse hC.hm e_s116_12) (rcX3 hC) kb_X3_refuse km_X3_49 ⟨by decide, by decide⟩ (Nat.le_of_ble_eq_true rfl) dX3_word_116 ?_
              refine z_sub [(0, .ref (zAd T (1))), (1, .int v1), (2, .int r38_1)] [1, 2, 0] rfl ?_
              exact (wX3_word_119 hC hN hQ ) _ _ _ h
        · replace h := z_t q81_7 h
          refine z_aload_n hC 1 rfl rfl dX3_word_84 ?_
          refine z_iconst hC (1 : Int32) (by decide) dX3_word_85 ?_
          refine z_aload_n hC 1 rfl rfl dX3_word_86 ?_
          refine z_iload_n hC 2 rfl rfl dX3_word_87 ?_
          refine z_b1 h (fun r88_13 e_r88_13 h => ?_)
          refine z_cV1r hC (ctX3_number hC.hm e_r88_13) (rcX3 hC) kb_X3_number km_X3_95 ⟨by decide, by decide⟩ (Nat.le_of_ble_eq_true rfl) dX3_word_88 ?_
          refine z_iconst hC (0 : Int32) (by decide) dX3_word_91 ?_
          refine z_b1 h (fun s92_14 e_s92_14 h => ?_)
          refine z_cV3v hC (ctX3_emit hC.hm e_s92_14) (rcX3 hC) kb_X3_emit km_X3_70 ⟨by decide, by decide⟩ (Nat.le_of_ble_eq_true rfl) dX3_word_92 ?_
          refine z_goto hC 130 (by decide) dX3_word_95 ?_
          refine z_aload_n hC 1 rfl rfl dX3_word_130 ?_
          refine z_iload_n hC 2 rfl rfl dX3_word_131 ?_
          refine pX3_2 hC kf_X3_29 dX3_word_132 ?_
          refine z_iload_n hC 0 rfl rfl dX3_word_135 ?_
          refine z_iconst hC (2 : Int32) (by decide) dX3_word_136 ?_
          refine z_icmp_gt hC 145 (by decide) dX3_word_137 (fun q137_15 => ?_) (fun q137_15 => ?_)
          · replace h := z_t q137_15 h
            refine z_iload_n hC 0 rfl rfl dX3_word_145 ?_
            obtain ⟨rfl, rfl⟩ := z_pr h
            exact z_iret hC hQ dX3_word_146
          · replace h := z_f q137_15 h
            refine z_bipush hC (-2 : Int32) (by decide) dX3_word_140 ?_
            refine z_goto hC 146 (by decide) dX3_word_142 ?_
            obtain ⟨rfl, rfl⟩ := z_pr h
            exact z_iret hC hQ dX3_word_146
      · replace h := z_t q66_6 h
        refine z_aload_n hC 1 rfl rfl dX3_word_69 ?_
        refine z_iconst hC (0 : Int32) (by decide) dX3_word_70 ?_
        refine z_lconst hC (0 : Int64) (by decide) dX3_word_71 ?_
        refine z_iconst hC (0 : Int32) (by decide) dX3_word_72 ?_
        refine z_b1 h (fun s73_16 e_s73_16 h => ?_)
        refine z_cV3v hC (ctX3_emit hC.hm e_s73_16) (rcX3 hC) kb_X3_emit km_X3_70 ⟨by decide, by decide⟩ (Nat.le_of_ble_eq_true rfl) dX3_word_73 ?_
        refine z_goto hC 130 (by decide) dX3_word_76 ?_
        refine z_aload_n hC 1 rfl rfl dX3_word_130 ?_
        refine z_iload_n hC 2 rfl rfl dX3_word_131 ?_
        refine pX3_2 hC kf_X3_29 dX3_word_132 ?_
        refine z_iload_n hC 0 rfl rfl dX3_word_135 ?_
        refine z_iconst hC (2 : Int32) (by decide) dX3_word_136 ?_
        refine z_icmp_gt hC 145 (by decide) dX3_word_137 (fun q137_17 => ?_) (fun q137_17 => ?_)
        · replace h := z_t q137_17 h
          refine z_iload_n hC 0 rfl rfl dX3_word_145 ?_
          obtain ⟨rfl, rfl⟩ := z_pr h
          exact z_iret hC hQ dX3_word_146
        · replace h := z_f q137_17 h
          refine z_bipush hC (-2 : Int32) (by decide) dX3_word_140 ?_
          refine z_goto hC 146 (by decide) dX3_word_142 ?_
          obtain ⟨rfl, rfl⟩ := z_pr h
          exact z_iret hC hQ dX3_word_146
    · replace h := z_t q59_5 h
      refine z_bipush hC (-2 : Int32) (by decide) dX3_word_62 ?_
      obtain ⟨rfl, rfl⟩ := z_pr h
      exact z_iret hC hQ dX3_word_64
  · replace h := z_t q44_2 h
    refine z_aload_n hC 1 rfl rfl dX3_word_47 ?_
    refine z_iconst hC (1 : Int32) (by decide) dX3_word_48 ?_
    refine z_b1 h (fun s49_18 e_s49_18 h => ?_)
    refine z_cV1v hC (ctX3_refuse hC.hm e_s49_18) (rcX3 hC) kb_X3_refuse km_X3_49 ⟨by decide, by decide⟩ (Nat.le_of_ble_eq_true rfl) dX3_word_49 ?_
    refine z_bipush hC (-2 : Int32) (by decide) dX3_word_52 ?_
    obtain ⟨rfl, rfl⟩ := z_pr h
    exact z_iret hC hQ dX3_word_54
set_option maxRecDepth 100000 in
set_option maxHeartbeats 4000000 in
theorem wX3_word_5 {T : zX} (hC : zOk T cX3_word RX3 7 151 0 61) (hN : zNL T = 3) {r : Int32} {σ' : zSt} (hQ : zRes T (some .int) (some (.int r)) σ') (K5 : Int32 → zSt → Option (Int32 × zSt)) (hK5 : ∀ (v1 : Int32) (τ : zSt), K5 v1 τ = some (r, σ') → Z T τ 5 [(0, .ref (zAd T (1))), (1, .int v1)] []) (v1 : Int32)  (σ : zSt) (h : fX3_word_5 K5 v1 σ = some (r, σ')) : Z T σ 5 [(0, .ref (zAd T (1))), (1, .int v1)] [] := by
  unfold fX3_word_5 at h
  refine z_iload_n hC 1 rfl rfl dX3_word_5 ?_
  refine z_aload_n hC 0 rfl rfl dX3_word_6 ?_
  refine gX3_0 hC kf_X3_12 dX3_word_7 ?_
  refine gX6_1 hC kf_X3_52 (gi σ 2 1) rfl dX3_word_10 ?_
  refine z_icmp_ge hC 36 (by decide) dX3_word_13 (fun q13_1 => ?_) (fun q13_1 => ?_)
  · replace h := z_t q13_1 h
    exact (wX3_word_36 hC hN hQ ) _ _ h
  · replace h := z_f q13_1 h
    refine z_aload_n hC 0 rfl rfl dX3_word_16 ?_
    refine gX3_0 hC kf_X3_12 dX3_word_17 ?_
    refine z_iload_n hC 1 rfl rfl dX3_word_20 ?_
    refine z_b1 h (fun r21_2 e_r21_2 h => ?_)
    refine z_cV1r hC (ctX6_byteAt hC.hm e_r21_2) (rcX6 hC) kb_X6_byteAt km_X3_55 ⟨by decide, by decide⟩ (Nat.le_of_ble_eq_true rfl) dX3_word_21 ?_
    refine z_cS1r hC (ctX3_isWordByte hC.hm) kb_X3_isWordByte km_X3_88 ⟨by decide, by decide⟩ (Nat.le_of_ble_eq_true rfl) dX3_word_24 ?_
    refine z_if_eq hC 36 (by decide) dX3_word_27 (fun q27_3 => ?_) (fun q27_3 => ?_)
    · replace h := z_t q27_3 h
      exact (wX3_word_36 hC hN hQ ) _ _ h
    · replace h := z_f q27_3 h
      refine z_nmE h (fun x30_4 e_x30_4 h => ?_)
      refine z_iinc hC x30_4 [(1, .int x30_4), (0, .ref (zAd T (1)))] 1 rfl (by rw [e_x30_4]; rfl) (by rw [hN]; decide) rfl dX3_word_30 ?_
      refine z_goto hC 5 (by decide) dX3_word_33 ?_
      refine z_sub [(0, .ref (zAd T (1))), (1, .int x30_4)] [1, 0] rfl ?_
      exact hK5 _ _ h
theorem wX3_word_L5 {T : zX} (hC : zOk T cX3_word RX3 7 151 0 61) (hN : zNL T = 3) {r : Int32} {σ' : zSt} (hQ : zRes T (some .int) (some (.int r)) σ') (n : Nat) : ∀ (v1 : Int32) (σ : zSt), fX3_word_L5 n v1 σ = some (r, σ') → Z T σ 5 [(0, .ref (zAd T (1))), (1, .int v1)] [] := by
  induction n with
  | zero => intro v1 σ h; cases h
  | succ n ih => intro v1 σ h; exact wX3_word_5 hC hN hQ (fX3_word_L5 n) ih v1 σ h
set_option maxRecDepth 100000 in
set_option maxHeartbeats 4000000 in
theorem wX3_word_0 {T : zX} (hC : zOk T cX3_word RX3 7 151 0 61) (hN : zNL T = 3) {r : Int32} {σ' : zSt} (hQ : zRes T (some .int) (some (.int r)) σ')   (σ : zSt) (h : fX3_word_0  σ = some (r, σ')) : Z T σ 0 [(0, .ref (zAd T (1)))] [] := by
  unfold fX3_word_0 at h
  refine z_aload_n hC 0 rfl rfl dX3_word_0 ?_
  refine gX3_2 hC kf_X3_29 (gi σ 1 2) rfl dX3_word_1 ?_
  refine z_nmI h (fun x4_1 h => ?_)
  refine z_istore_n hC [(1, .int x4_1), (0, .ref (zAd T (1)))] rfl (by rw [hN]; decide) rfl dX3_word_4 ?_
  refine z_sub [(0, .ref (zAd T (1))), (1, .int x4_1)] [1, 0] rfl ?_
  exact (wX3_word_L5 hC hN hQ zFU) _ _ h
set_option maxRecDepth 100000 in
theorem ctX3_word {l : Launch} {G : zGt} {mk : zSt → zSt} (hm : zM mk 0 61)  {σ : zSt} {r : Int32} {σ' : zSt} (h : fX3_word  σ = some (r, σ')) : zMet l G mk yX3_word cX3_word 3 (some .int) 7 151 [.ref (gA G (1))] σ (some (.int r)) σ' := by
  unfold fX3_word at h

  refine zMet.of (plainFor_of_name (by decide +kernel)) hm (Nat.le_of_ble_eq_true rfl) (fun T eL eG eM hN hC hQ => ?_)
  subst eL; subst eG; subst eM
  refine z_sub [(0, .ref (zAd T (1)))] [0] rfl ?_
  exact wX3_word_0 hC hN hQ   _ h
noncomputable def fX3_pass_0 (a1 : Int32) (σ : zSt) : Option zSt := 
    (if (gi σ 1 4) = 0 then bd2 (fX3_sign σ) fun r8_2 s8_3 => 
      (if r8_2 = a1 then some (si s8_3 1 2 ((gi s8_3 1 2) + (1 : Int32)))
      else bd1 (fX3_refuse (1 : Int32) s8_3) fun s17_5 => some (si s17_5 1 2 ((gi s17_5 1 2) + (1 : Int32))))
    else some (si σ 1 2 ((gi σ 1 2) + (1 : Int32))))
noncomputable def fX3_pass (a1 : Int32) (σ : zSt) : Option zSt := fX3_pass_0 a1 σ
set_option maxRecDepth 100000 in
set_option maxHeartbeats 4000000 in
theorem wX3_pass_0 {T : zX} (hC : zOk T cX3_pass RX3 2 41 0 61) (hN : zNL T = 2) {σ' : zSt} (hQ : zRes T none (none) σ') (a1 : Int32)  (σ : zSt) (h : fX3_pass_0 a1 σ = some σ') : Z T σ 0 [(0, .ref (zAd T (1))), (1, .int a1)] [] := by
  unfold fX3_pass_0 at h
  refine z_aload_n hC 0 rfl rfl dX3_pass_0 ?_
  refine gX3_4 hC kf_X3_35 (gi σ 1 4) rfl dX3_pass_1 ?_
  refine z_if_ne hC 20 (by decide) dX3_pass_4 (fun q4_1 => ?_) (fun q4_1 => ?_)
  · replace h := z_f q4_1 h
    refine z_aload_n hC 0 rfl rfl dX3_pass_20 ?_
    refine z_dup hC rfl dX3_pass_21 ?_
    refine gX3_2 hC kf_X3_29 (gi σ 1 2) rfl dX3_pass_22 ?_
    refine z_iconst hC (1 : Int32) (by decide) dX3_pass_25 ?_
    refine z_iadd hC dX3_pass_26 ?_
    refine pX3_2 hC kf_X3_29 dX3_pass_27 ?_
    obtain rfl := z_so h
    exact z_vret hC hQ dX3_pass_30
  · replace h := z_t q4_1 h
    refine z_aload_n hC 0 rfl rfl dX3_pass_7 ?_
    refine z_b2 h (fun r8_2 s8_3 e_r8_2 h => ?_)
    refine z_cV0r hC (ctX3_sign hC.hm e_r8_2) (rcX3 hC) kb_X3_sign km_X3_45 ⟨by decide, by decide⟩ (Nat.le_of_ble_eq_true rfl) dX3_pass_8 ?_
    refine z_iload_n hC 1 rfl rfl dX3_pass_11 ?_
    refine z_icmp_eq hC 20 (by decide) dX3_pass_12 (fun q12_4 => ?_) (fun q12_4 => ?_)
    · replace h := z_t q12_4 h
      refine z_aload_n hC 0 rfl rfl dX3_pass_20 ?_
      refine z_dup hC rfl dX3_pass_21 ?_
      refine gX3_2 hC kf_X3_29 (gi s8_3 1 2) rfl dX3_pass_22 ?_
      refine z_iconst hC (1 : Int32) (by decide) dX3_pass_25 ?_
      refine z_iadd hC dX3_pass_26 ?_
      refine pX3_2 hC kf_X3_29 dX3_pass_27 ?_
      obtain rfl := z_so h
      exact z_vret hC hQ dX3_pass_30
    · replace h := z_f q12_4 h
      refine z_aload_n hC 0 rfl rfl dX3_pass_15 ?_
      refine z_iconst hC (1 : Int32) (by decide) dX3_pass_16 ?_
      refine z_b1 h (fun s17_5 e_s17_5 h => ?_)
      refine z_cV1v hC (ctX3_refuse hC.hm e_s17_5) (rcX3 hC) kb_X3_refuse km_X3_49 ⟨by decide, by decide⟩ (Nat.le_of_ble_eq_true rfl) dX3_pass_17 ?_
      refine z_aload_n hC 0 rfl rfl dX3_pass_20 ?_
      refine z_dup hC rfl dX3_pass_21 ?_
      refine gX3_2 hC kf_X3_29 (gi s17_5 1 2) rfl dX3_pass_22 ?_
      refine z_iconst hC (1 : Int32) (by decide) dX3_pass_25 ?_
      refine z_iadd hC dX3_pass_26 ?_
      refine pX3_2 hC kf_X3_29 dX3_pass_27 ?_
      obtain rfl := z_so h
      exact z_vret hC hQ dX3_pass_30
set_option maxRecDepth 100000 in
theorem ctX3_pass {l : Launch} {G : zGt} {mk : zSt → zSt} (hm : zM mk 0 61) {a1 : Int32} {σ : zSt} {σ' : zSt} (h : fX3_pass a1 σ = some σ') : zMet l G mk yX3_pass cX3_pass 2 none 2 41 [.ref (gA G (1)), .int a1] σ (none) σ' := by
  unfold fX3_pass at h

  refine zMet.of (plainFor_of_name (by decide +kernel)) hm (Nat.le_of_ble_eq_true rfl) (fun T eL eG eM hN hC hQ => ?_)
  subst eL; subst eG; subst eM
  refine z_sub [(0, .ref (zAd T (1))), (1, .int a1)] [0, 1] rfl ?_
  exact wX3_pass_0 hC hN hQ _  _ h
def G3_ok (T : zX) (F : Nat → Int32 → zSt → Option zSt) (gf gl : Nat) : Prop := (∀ (a : Int32) (σ : zSt) (σ' : zSt), F 0 a σ = some σ' → zMet (zL T) (zGr T) (zMk T) yX3_sum cX3_sum 5 none gf gl [.ref (gA (zGr T) 1), .int a] σ none σ') ∧ (∀ (a : Int32) (σ : zSt) (σ' : zSt), F 1 a σ = some σ' → zMet (zL T) (zGr T) (zMk T) yX3_term cX3_term 5 none gf gl [.ref (gA (zGr T) 1), .int a] σ none σ') ∧ (∀ (a : Int32) (σ : zSt) (σ' : zSt), F 2 a σ = some σ' → zMet (zL T) (zGr T) (zMk T) yX3_power cX3_power 4 none gf gl [.ref (gA (zGr T) 1), .int a] σ none σ') ∧ (∀ (a : Int32) (σ : zSt) (σ' : zSt), F 3 a σ = some σ' → zMet (zL T) (zGr T) (zMk T) yX3_piece cX3_piece 4 none gf gl [.ref (gA (zGr T) 1), .int a] σ none σ') ∧ (∀ (a : Int32) (σ : zSt) (σ' : zSt), F 4 a σ = some σ' → zMet (zL T) (zGr T) (zMk T) yX3_inside cX3_inside 2 none gf gl [.ref (gA (zGr T) 1), .int a] σ none σ')
noncomputable def fX3_sum_38 (F : Nat → Int32 → zSt → Option zSt) (K7 : Int32 → Int32 → zSt → Option zSt) (v1 : Int32) (v2 : Int32) (v3 : Int32) (σ : zSt) : Option zSt := bd2 (fX3_meet σ) fun r39_1 s39_2 => 
    (if r39_1 = 0 then some s39_2
    else nm ((gi (si s39_2 1 2 ((gi s39_2 1 2) + (1 : Int32))) (21 + 4 * 9) 3) - (1 : Int32)) fun x64_4 => bd1 (F 1 v1 (si s39_2 1 2 ((gi s39_2 1 2) + (1 : Int32)))) fun s69_5 => 
      (if v3 = (43 : Int32) then bd1 (fX3_emit (13 : Int32) (0 : Int64) x64_4 s69_5) fun s89_9 => nm (v2 + (1 : Int32)) fun x92_10 => K7 v1 x92_10 s89_9
      else bd1 (fX3_emit (14 : Int32) (0 : Int64) x64_4 s69_5) fun s89_7 => nm (v2 + (1 : Int32)) fun x92_8 => K7 v1 x92_8 s89_7))
noncomputable def fX3_sum_7 (F : Nat → Int32 → zSt → Option zSt) (K7 : Int32 → Int32 → zSt → Option zSt) (v1 : Int32) (v2 : Int32) (σ : zSt) : Option zSt := 
    (if (200 : Int32) ≤ v2 then some σ
    else 
      (if (gi σ 1 4) = 0 then bd2 (fX3_sign σ) fun r22_3 s22_4 => 
        (if r22_3 = (43 : Int32) then fX3_sum_38 F K7 v1 v2 r22_3 s22_4
        else 
          (if r22_3 = (45 : Int32) then fX3_sum_38 F K7 v1 v2 r22_3 s22_4
          else some s22_4))
      else some σ))
noncomputable def fX3_sum_L7 (F : Nat → Int32 → zSt → Option zSt) : Nat → Int32 → Int32 → zSt → Option zSt
  | 0, _, _, _ => none
  | n + 1, v1, v2, σ => fX3_sum_7 F (fX3_sum_L7 F n) v1 v2 σ
noncomputable def fX3_sum_0 (F : Nat → Int32 → zSt → Option zSt) (a1 : Int32) (σ : zSt) : Option zSt := bd1 (F 1 a1 σ) fun s2_1 => fX3_sum_L7 F zFU a1 (0 : Int32) s2_1
noncomputable def fX3_sum (F : Nat → Int32 → zSt → Option zSt) (a1 : Int32) (σ : zSt) : Option zSt := fX3_sum_0 F a1 σ
set_option maxRecDepth 100000 in
set_option maxHeartbeats 4000000 in
theorem wX3_sum_38 {T : zX} {fr lo gf gl : Nat} (hC : zOk T cX3_sum RX3 fr lo 0 61) (hN : zNL T = 5) {σ' : zSt} (hQ : zRes T none (none) σ') (hfr : gf + 1 ≤ fr ∧ 8 ≤ fr) (hlo : gl + 24 ≤ lo ∧ 173 ≤ lo) (F : Nat → Int32 → zSt → Option zSt) (hF : G3_ok T F gf gl) (K7 : Int32 → Int32 → zSt → Option zSt) (hK7 : ∀ (v1 : Int32) (v2 : Int32) (τ : zSt), K7 v1 v2 τ = some σ' → Z T τ 7 [(0, .ref (zAd T (1))), (1, .int v1), (2, .int v2)] []) (v1 : Int32) (v2 : Int32) (v3 : Int32)  (σ : zSt) (h : fX3_sum_38 F K7 v1 v2 v3 σ = some σ') : Z T σ 38 [(0, .ref (zAd T (1))), (1, .int v1), (2, .int v2), (3, .int v3)] [] := by
  unfold fX3_sum_38 at h
  refine z_aload_n hC 0 rfl rfl dX3_sum_38 ?_
  refine z_b2 h (fun r39_1 s39_2 e_r39_1 h => ?_)
  refine z_cV0r hC (ctX3_meet hC.hm e_r39_1) (rcX3 hC) kb_X3_meet km_X3_66 ⟨by omega, by omega⟩ (Nat.le_of_ble_eq_true rfl) dX3_sum_39 ?_
  refine z_if_ne hC 46 (by decide) dX3_sum_42 (fun q42_3 => ?_) (fun q42_3 => ?_)
  · replace h := z_f q42_3 h
    refine z_aload_n hC 0 rfl rfl dX3_sum_46 ?_
    refine z_dup hC rfl dX3_sum_47 ?_
    refine gX3_2 hC kf_X3_29 (gi s39_2 1 2) rfl dX3_sum_48 ?_
    refine z_iconst hC (1 : Int32) (by decide) dX3_sum_51 ?_
    refine z_iadd hC dX3_sum_52 ?_
    refine pX3_2 hC kf_X3_29 dX3_sum_53 ?_
    refine z_aload_n hC 0 rfl rfl dX3_sum_56 ?_
    refine gX3_1 hC kf_X3_21 dX3_sum_57 ?_
    refine gX0_3 hC (by decide) kf_X3_25 (gi (si s39_2 1 2 ((gi s39_2 1 2) + (1 : Int32))) (21 + 4 * 9) 3) rfl dX3_sum_60 ?_
    refine z_iconst hC (1 : Int32) (by decide) dX3_sum_63 ?_
    refine z_isub hC dX3_sum_64 ?_
    refine z_nmI h (fun x64_4 h => ?_)
    refine z_istore hC [(4, .int x64_4), (0, .ref (zAd T (1))), (1, .int v1), (2, .int v2), (3, .int v3)] (by rw [hN]; decide) rfl dX3_sum_65 ?_
    refine z_aload_n hC 1 rfl rfl dX3_sum_67 ?_
    refine z_iload_n hC 2 rfl rfl dX3_sum_68 ?_
    refine z_b1 h (fun s69_5 e_s69_5 h => ?_)
    refine z_cV1v hC (hF.2.1 _ _ _ e_s69_5) (rcX3 hC) kb_X3_term km_X3_63 ⟨by omega, by omega⟩ (Nat.le_of_ble_eq_true rfl) dX3_sum_69 ?_
    refine z_aload_n hC 1 rfl rfl dX3_sum_72 ?_
    refine z_iload_n hC 4 rfl rfl dX3_sum_73 ?_
    refine z_bipush hC (43 : Int32) (by decide) dX3_sum_74 ?_
    refine z_icmp_ne hC 84 (by decide) dX3_sum_76 (fun q76_6 => ?_) (fun q76_6 => ?_)
    · replace h := z_f q76_6 h
      refine z_bipush hC (14 : Int32) (by decide) dX3_sum_84 ?_
      refine z_lconst hC (0 : Int64) (by decide) dX3_sum_86 ?_
      refine z_iload hC 0 rfl dX3_sum_87 ?_
      refine z_b1 h (fun s89_7 e_s89_7 h => ?_)
      refine z_cV3v hC (ctX3_emit hC.hm e_s89_7) (rcX3 hC) kb_X3_emit km_X3_70 ⟨by omega, by omega⟩ (Nat.le_of_ble_eq_true rfl) dX3_sum_89 ?_
      refine z_nmE h (fun x92_8 e_x92_8 h => ?_)
      refine z_iinc hC x92_8 [(2, .int x92_8), (4, .int x64_4), (0, .ref (zAd T (1))), (1, .int v1), (3, .int v3)] 3 rfl (by rw [e_x92_8]; rfl) (by rw [hN]; decide) rfl dX3_sum_92 ?_
      refine z_goto hC 7 (by decide) dX3_sum_95 ?_
      refine z_sub [(0, .ref (zAd T (1))), (1, .int v1), (2, .int x92_8)] [2, 3, 0] rfl ?_
      exact hK7 _ _ _ h
    · replace h := z_t q76_6 h
      refine z_bipush hC (13 : Int32) (by decide) dX3_sum_79 ?_
      refine z_goto hC 86 (by decide) dX3_sum_81 ?_
      refine z_lconst hC (0 : Int64) (by decide) dX3_sum_86 ?_
      refine z_iload hC 0 rfl dX3_sum_87 ?_
      refine z_b1 h (fun s89_9 e_s89_9 h => ?_)
      refine z_cV3v hC (ctX3_emit hC.hm e_s89_9) (rcX3 hC) kb_X3_emit km_X3_70 ⟨by omega, by omega⟩ (Nat.le_of_ble_eq_true rfl) dX3_sum_89 ?_
      refine z_nmE h (fun x92_10 e_x92_10 h => ?_)
      refine z_iinc hC x92_10 [(2, .int x92_10), (4, .int x64_4), (0, .ref (zAd T (1))), (1, .int v1), (3, .int v3)] 3 rfl (by rw [e_x92_10]; rfl) (by rw [hN]; decide) rfl dX3_sum_92 ?_
      refine z_goto hC 7 (by decide) dX3_sum_95 ?_
      refine z_sub [(0, .ref (zAd T (1))), (1, .int v1), (2, .int x92_10)] [2, 3, 0] rfl ?_
      exact hK7 _ _ _ h
  · replace h := z_t q42_3 h
    obtain rfl := z_so h
    exact z_vret hC hQ dX3_sum_45
set_option maxRecDepth 100000 in
set_option maxHeartbeats 4000000 in
theorem wX3_sum_7 {T : zX} {fr lo gf gl : Nat} (hC : zOk T cX3_sum RX3 fr lo 0 61) (hN : zNL T = 5) {σ' : zSt} (hQ : zRes T none (none) σ') (hfr : gf + 1 ≤ fr ∧ 8 ≤ fr) (hlo : gl + 24 ≤ lo ∧ 173 ≤ lo) (F : Nat → Int32 → zSt → Option zSt) (hF : G3_ok T F gf gl) (K7 : Int32 → Int32 → zSt → Option zSt) (hK7 : ∀ (v1 : Int32) (v2 : Int32) (τ : zSt), K7 v1 v2 τ = some σ' → Z T τ 7 [(0, .ref (zAd T (1))), (1, .int v1), (2, .int v2)] []) (v1 : Int32) (v2 : Int32)  (σ : zSt) (h : fX3_sum_7 F K7 v1 v2 σ = some σ') : Z T σ 7 [(0, .ref (zAd T (1))), (1, .int v1), (2, .int v2)] [] := by
  unfold fX3_sum_7 at h
  refine z_iload_n hC 2 rfl rfl dX3_sum_7 ?_
  refine z_sipush hC (200 : Int32) (by decide) dX3_sum_8 ?_
  refine z_icmp_ge hC 98 (by decide) dX3_sum_11 (fun q11_1 => ?_) (fun q11_1 => ?_)
  · replace h := z_t q11_1 h
    obtain rfl := z_so h
    exact z_vret hC hQ dX3_sum_98
  · replace h := z_f q11_1 h
    refine z_aload_n hC 0 rfl rfl dX3_sum_14 ?_
    refine gX3_4 hC kf_X3_35 (gi σ 1 4) rfl dX3_sum_15 ?_
    refine z_if_ne hC 98 (by decide) dX3_sum_18 (fun q18_2 => ?_) (fun q18_2 => ?_)
    · replace h := z_f q18_2 h
      obtain rfl := z_so h
      exact z_vret hC hQ dX3_sum_98
    · replace h := z_t q18_2 h
      refine z_aload_n hC 0 rfl rfl dX3_sum_21 ?_
      refine z_b2 h (fun r22_3 s22_4 e_r22_3 h => ?_)
      refine z_cV0r hC (ctX3_sign hC.hm e_r22_3) (rcX3 hC) kb_X3_sign km_X3_45 ⟨by omega, by omega⟩ (Nat.le_of_ble_eq_true rfl) dX3_sum_22 ?_
      refine z_istore_n hC [(3, .int r22_3), (0, .ref (zAd T (1))), (1, .int v1), (2, .int v2)] rfl (by rw [hN]; decide) rfl dX3_sum_25 ?_
      refine z_iload_n hC 0 rfl rfl dX3_sum_26 ?_
      refine z_bipush hC (43 : Int32) (by decide) dX3_sum_27 ?_
      refine z_icmp_eq hC 38 (by decide) dX3_sum_29 (fun q29_5 => ?_) (fun q29_5 => ?_)
      · replace h := z_t q29_5 h
        refine z_sub [(0, .ref (zAd T (1))), (1, .int v1), (2, .int v2), (3, .int r22_3)] [1, 2, 3, 0] rfl ?_
        exact (wX3_sum_38 hC hN hQ hfr hlo F hF K7 hK7 ) _ _ _ _ h
      · replace h := z_f q29_5 h
        refine z_iload_n hC 0 rfl rfl dX3_sum_32 ?_
        refine z_bipush hC (45 : Int32) (by decide) dX3_sum_33 ?_
        refine z_icmp_ne hC 45 (by decide) dX3_sum_35 (fun q35_6 => ?_) (fun q35_6 => ?_)
        · replace h := z_f q35_6 h
          obtain rfl := z_so h
          exact z_vret hC hQ dX3_sum_45
        · replace h := z_t q35_6 h
          refine z_sub [(0, .ref (zAd T (1))), (1, .int v1), (2, .int v2), (3, .int r22_3)] [1, 2, 3, 0] rfl ?_
          exact (wX3_sum_38 hC hN hQ hfr hlo F hF K7 hK7 ) _ _ _ _ h
theorem wX3_sum_L7 {T : zX} {fr lo gf gl : Nat} (hC : zOk T cX3_sum RX3 fr lo 0 61) (hN : zNL T = 5) {σ' : zSt} (hQ : zRes T none (none) σ') (hfr : gf + 1 ≤ fr ∧ 8 ≤ fr) (hlo : gl + 24 ≤ lo ∧ 173 ≤ lo) (F : Nat → Int32 → zSt → Option zSt) (hF : G3_ok T F gf gl) (n : Nat) : ∀ (v1 : Int32) (v2 : Int32) (σ : zSt), fX3_sum_L7 F n v1 v2 σ = some σ' → Z T σ 7 [(0, .ref (zAd T (1))), (1, .int v1), (2, .int v2)] [] := by
  induction n with
  | zero => intro v1 v2 σ h; cases h
  | succ n ih => intro v1 v2 σ h; exact wX3_sum_7 hC hN hQ hfr hlo F hF (fX3_sum_L7 F n) ih v1 v2 σ h
set_option maxRecDepth 100000 in
set_option maxHeartbeats 4000000 in
theorem wX3_sum_0 {T : zX} {fr lo gf gl : Nat} (hC : zOk T cX3_sum RX3 fr lo 0 61) (hN : zNL T = 5) {σ' : zSt} (hQ : zRes T none (none) σ') (hfr : gf + 1 ≤ fr ∧ 8 ≤ fr) (hlo : gl + 24 ≤ lo ∧ 173 ≤ lo) (F : Nat → Int32 → zSt → Option zSt) (hF : G3_ok T F gf gl) (a1 : Int32)  (σ : zSt) (h : fX3_sum_0 F a1 σ = some σ') : Z T σ 0 [(0, .ref (zAd T (1))), (1, .int a1)] [] := by
  unfold fX3_sum_0 at h
  refine z_aload_n hC 0 rfl rfl dX3_sum_0 ?_
  refine z_iload_n hC 1 rfl rfl dX3_sum_1 ?_
  refine z_b1 h (fun s2_1 e_s2_1 h => ?_)
  refine z_cV1v hC (hF.2.1 _ _ _ e_s2_1) (rcX3 hC) kb_X3_term km_X3_63 ⟨by omega, by omega⟩ (Nat.le_of_ble_eq_true rfl) dX3_sum_2 ?_
  refine z_iconst hC (0 : Int32) (by decide) dX3_sum_5 ?_
  refine z_istore_n hC [(2, .int (0 : Int32)), (0, .ref (zAd T (1))), (1, .int a1)] rfl (by rw [hN]; decide) rfl dX3_sum_6 ?_
  refine z_sub [(0, .ref (zAd T (1))), (1, .int a1), (2, .int (0 : Int32))] [1, 2, 0] rfl ?_
  exact (wX3_sum_L7 hC hN hQ hfr hlo F hF zFU) _ _ _ h
noncomputable def fX3_term_38 (F : Nat → Int32 → zSt → Option zSt) (K7 : Int32 → Int32 → zSt → Option zSt) (v1 : Int32) (v2 : Int32) (v3 : Int32) (σ : zSt) : Option zSt := bd2 (fX3_meet σ) fun r39_1 s39_2 => 
    (if r39_1 = 0 then some s39_2
    else nm ((gi (si s39_2 1 2 ((gi s39_2 1 2) + (1 : Int32))) (21 + 4 * 9) 3) - (1 : Int32)) fun x64_4 => bd1 (F 2 v1 (si s39_2 1 2 ((gi s39_2 1 2) + (1 : Int32)))) fun s69_5 => 
      (if v3 = (42 : Int32) then bd1 (fX3_emit (15 : Int32) (0 : Int64) x64_4 s69_5) fun s89_9 => nm (v2 + (1 : Int32)) fun x92_10 => K7 v1 x92_10 s89_9
      else bd1 (fX3_emit (16 : Int32) (0 : Int64) x64_4 s69_5) fun s89_7 => nm (v2 + (1 : Int32)) fun x92_8 => K7 v1 x92_8 s89_7))
noncomputable def fX3_term_7 (F : Nat → Int32 → zSt → Option zSt) (K7 : Int32 → Int32 → zSt → Option zSt) (v1 : Int32) (v2 : Int32) (σ : zSt) : Option zSt := 
    (if (200 : Int32) ≤ v2 then some σ
    else 
      (if (gi σ 1 4) = 0 then bd2 (fX3_sign σ) fun r22_3 s22_4 => 
        (if r22_3 = (42 : Int32) then fX3_term_38 F K7 v1 v2 r22_3 s22_4
        else 
          (if r22_3 = (47 : Int32) then fX3_term_38 F K7 v1 v2 r22_3 s22_4
          else some s22_4))
      else some σ))
noncomputable def fX3_term_L7 (F : Nat → Int32 → zSt → Option zSt) : Nat → Int32 → Int32 → zSt → Option zSt
  | 0, _, _, _ => none
  | n + 1, v1, v2, σ => fX3_term_7 F (fX3_term_L7 F n) v1 v2 σ
noncomputable def fX3_term_0 (F : Nat → Int32 → zSt → Option zSt) (a1 : Int32) (σ : zSt) : Option zSt := bd1 (F 2 a1 σ) fun s2_1 => fX3_term_L7 F zFU a1 (0 : Int32) s2_1
noncomputable def fX3_term (F : Nat → Int32 → zSt → Option zSt) (a1 : Int32) (σ : zSt) : Option zSt := fX3_term_0 F a1 σ
set_option maxRecDepth 100000 in
set_option maxHeartbeats 4000000 in
theorem wX3_term_38 {T : zX} {fr lo gf gl : Nat} (hC : zOk T cX3_term RX3 fr lo 0 61) (hN : zNL T = 5) {σ' : zSt} (hQ : zRes T none (none) σ') (hfr : gf + 1 ≤ fr ∧ 8 ≤ fr) (hlo : gl + 24 ≤ lo ∧ 173 ≤ lo) (F : Nat → Int32 → zSt → Option zSt) (hF : G3_ok T F gf gl) (K7 : Int32 → Int32 → zSt → Option zSt) (hK7 : ∀ (v1 : Int32) (v2 : Int32) (τ : zSt), K7 v1 v2 τ = some σ' → Z T τ 7 [(0, .ref (zAd T (1))), (1, .int v1), (2, .int v2)] []) (v1 : Int32) (v2 : Int32) (v3 : Int32)  (σ : zSt) (h : fX3_term_38 F K7 v1 v2 v3 σ = some σ') : Z T σ 38 [(0, .ref (zAd T (1))), (1, .int v1), (2, .int v2), (3, .int v3)] [] := by
  unfold fX3_term_38 at h
  refine z_aload_n hC 0 rfl rfl dX3_term_38 ?_
  refine z_b2 h (fun r39_1 s39_2 e_r39_1 h => ?_)
  refine z_cV0r hC (ctX3_meet hC.hm e_r39_1) (rcX3 hC) kb_X3_meet km_X3_66 ⟨by omega, by omega⟩ (Nat.le_of_ble_eq_true rfl) dX3_term_39 ?_
  refine z_if_ne hC 46 (by decide) dX3_term_42 (fun q42_3 => ?_) (fun q42_3 => ?_)
  · replace h := z_f q42_3 h
    refine z_aload_n hC 0 rfl rfl dX3_term_46 ?_
    refine z_dup hC rfl dX3_term_47 ?_
    refine gX3_2 hC kf_X3_29 (gi s39_2 1 2) rfl dX3_term_48 ?_
    refine z_iconst hC (1 : Int32) (by decide) dX3_term_51 ?_
    refine z_iadd hC dX3_term_52 ?_
    refine pX3_2 hC kf_X3_29 dX3_term_53 ?_
    refine z_aload_n hC 0 rfl rfl dX3_term_56 ?_
    refine gX3_1 hC kf_X3_21 dX3_term_57 ?_
    refine gX0_3 hC (by decide) kf_X3_25 (gi (si s39_2 1 2 ((gi s39_2 1 2) + (1 : Int32))) (21 + 4 * 9) 3) rfl dX3_term_60 ?_
    refine z_iconst hC (1 : Int32) (by decide) dX3_term_63 ?_
    refine z_isub hC dX3_term_64 ?_
    refine z_nmI h (fun x64_4 h => ?_)
    refine z_istore hC [(4, .int x64_4), (0, .ref (zAd T (1))), (1, .int v1), (2, .int v2), (3, .int v3)] (by rw [hN]; decide) rfl dX3_term_65 ?_
    refine z_aload_n hC 1 rfl rfl dX3_term_67 ?_
    refine z_iload_n hC 2 rfl rfl dX3_term_68 ?_
    refine z_b1 h (fun s69_5 e_s69_5 h => ?_)
    refine z_cV1v hC (hF.2.2.1 _ _ _ e_s69_5) (rcX3 hC) kb_X3_power km_X3_73 ⟨by omega, by omega⟩ (Nat.le_of_ble_eq_true rfl) dX3_term_69 ?_
    refine z_aload_n hC 1 rfl rfl dX3_term_72 ?_
    refine z_iload_n hC 4 rfl rfl dX3_term_73 ?_
    refine z_bipush hC (42 : Int32) (by decide) dX3_term_74 ?_
    refine z_icmp_ne hC 84 (by decide) dX3_term_76 (fun q76_6 => ?_) (fun q76_6 => ?_)
    · replace h := z_f q76_6 h
      refine z_bipush hC (16 : Int32) (by decide) dX3_term_84 ?_
      refine z_lconst hC (0 : Int64) (by decide) dX3_term_86 ?_
      refine z_iload hC 0 rfl dX3_term_87 ?_
      refine z_b1 h (fun s89_7 e_s89_7 h => ?_)
      refine z_cV3v hC (ctX3_emit hC.hm e_s89_7) (rcX3 hC) kb_X3_emit km_X3_70 ⟨by omega, by omega⟩ (Nat.le_of_ble_eq_true rfl) dX3_term_89 ?_
      refine z_nmE h (fun x92_8 e_x92_8 h => ?_)
      refine z_iinc hC x92_8 [(2, .int x92_8), (4, .int x64_4), (0, .ref (zAd T (1))), (1, .int v1), (3, .int v3)] 3 rfl (by rw [e_x92_8]; rfl) (by rw [hN]; decide) rfl dX3_term_92 ?_
      refine z_goto hC 7 (by decide) dX3_term_95 ?_
      refine z_sub [(0, .ref (zAd T (1))), (1, .int v1), (2, .int x92_8)] [2, 3, 0] rfl ?_
      exact hK7 _ _ _ h
    · replace h := z_t q76_6 h
      refine z_bipush hC (15 : Int32) (by decide) dX3_term_79 ?_
      refine z_goto hC 86 (by decide) dX3_term_81 ?_
      refine z_lconst hC (0 : Int64) (by decide) dX3_term_86 ?_
      refine z_iload hC 0 rfl dX3_term_87 ?_
      refine z_b1 h (fun s89_9 e_s89_9 h => ?_)
      refine z_cV3v hC (ctX3_emit hC.hm e_s89_9) (rcX3 hC) kb_X3_emit km_X3_70 ⟨by omega, by omega⟩ (Nat.le_of_ble_eq_true rfl) dX3_term_89 ?_
      refine z_nmE h (fun x92_10 e_x92_10 h => ?_)
      refine z_iinc hC x92_10 [(2, .int x92_10), (4, .int x64_4), (0, .ref (zAd T (1))), (1, .int v1), (3, .int v3)] 3 rfl (by rw [e_x92_10]; rfl) (by rw [hN]; decide) rfl dX3_term_92 ?_
      refine z_goto hC 7 (by decide) dX3_term_95 ?_
      refine z_sub [(0, .ref (zAd T (1))), (1, .int v1), (2, .int x92_10)] [2, 3, 0] rfl ?_
      exact hK7 _ _ _ h
  · replace h := z_t q42_3 h
    obtain rfl := z_so h
    exact z_vret hC hQ dX3_term_45
set_option maxRecDepth 100000 in
set_option maxHeartbeats 4000000 in
theorem wX3_term_7 {T : zX} {fr lo gf gl : Nat} (hC : zOk T cX3_term RX3 fr lo 0 61) (hN : zNL T = 5) {σ' : zSt} (hQ : zRes T none (none) σ') (hfr : gf + 1 ≤ fr ∧ 8 ≤ fr) (hlo : gl + 24 ≤ lo ∧ 173 ≤ lo) (F : Nat → Int32 → zSt → Option zSt) (hF : G3_ok T F gf gl) (K7 : Int32 → Int32 → zSt → Option zSt) (hK7 : ∀ (v1 : Int32) (v2 : Int32) (τ : zSt), K7 v1 v2 τ = some σ' → Z T τ 7 [(0, .ref (zAd T (1))), (1, .int v1), (2, .int v2)] []) (v1 : Int32) (v2 : Int32)  (σ : zSt) (h : fX3_term_7 F K7 v1 v2 σ = some σ') : Z T σ 7 [(0, .ref (zAd T (1))), (1, .int v1), (2, .int v2)] [] := by
  unfold fX3_term_7 at h
  refine z_iload_n hC 2 rfl rfl dX3_term_7 ?_
  refine z_sipush hC (200 : Int32) (by decide) dX3_term_8 ?_
  refine z_icmp_ge hC 98 (by decide) dX3_term_11 (fun q11_1 => ?_) (fun q11_1 => ?_)
  · replace h := z_t q11_1 h
    obtain rfl := z_so h
    exact z_vret hC hQ dX3_term_98
  · replace h := z_f q11_1 h
    refine z_aload_n hC 0 rfl rfl dX3_term_14 ?_
    refine gX3_4 hC kf_X3_35 (gi σ 1 4) rfl dX3_term_15 ?_
    refine z_if_ne hC 98 (by decide) dX3_term_18 (fun q18_2 => ?_) (fun q18_2 => ?_)
    · replace h := z_f q18_2 h
      obtain rfl := z_so h
      exact z_vret hC hQ dX3_term_98
    · replace h := z_t q18_2 h
      refine z_aload_n hC 0 rfl rfl dX3_term_21 ?_
      refine z_b2 h (fun r22_3 s22_4 e_r22_3 h => ?_)
      refine z_cV0r hC (ctX3_sign hC.hm e_r22_3) (rcX3 hC) kb_X3_sign km_X3_45 ⟨by omega, by omega⟩ (Nat.le_of_ble_eq_true rfl) dX3_term_22 ?_
      refine z_istore_n hC [(3, .int r22_3), (0, .ref (zAd T (1))), (1, .int v1), (2, .int v2)] rfl (by rw [hN]; decide) rfl dX3_term_25 ?_
      refine z_iload_n hC 0 rfl rfl dX3_term_26 ?_
      refine z_bipush hC (42 : Int32) (by decide) dX3_term_27 ?_
      refine z_icmp_eq hC 38 (by decide) dX3_term_29 (fun q29_5 => ?_) (fun q29_5 => ?_)
      · replace h := z_t q29_5 h
        refine z_sub [(0, .ref (zAd T (1))), (1, .int v1), (2, .int v2), (3, .int r22_3)] [1, 2, 3, 0] rfl ?_
        exact (wX3_term_38 hC hN hQ hfr hlo F hF K7 hK7 ) _ _ _ _ h
      · replace h := z_f q29_5 h
        refine z_iload_n hC 0 rfl rfl dX3_term_32 ?_
        refine z_bipush hC (47 : Int32) (by decide) dX3_term_33 ?_
        refine z_icmp_ne hC 45 (by decide) dX3_term_35 (fun q35_6 => ?_) (fun q35_6 => ?_)
        · replace h := z_f q35_6 h
          obtain rfl := z_so h
          exact z_vret hC hQ dX3_term_45
        · replace h := z_t q35_6 h
          refine z_sub [(0, .ref (zAd T (1))), (1, .int v1), (2, .int v2), (3, .int r22_3)] [1, 2, 3, 0] rfl ?_
          exact (wX3_term_38 hC hN hQ hfr hlo F hF K7 hK7 ) _ _ _ _ h
theorem wX3_term_L7 {T : zX} {fr lo gf gl : Nat} (hC : zOk T cX3_term RX3 fr lo 0 61) (hN : zNL T = 5) {σ' : zSt} (hQ : zRes T none (none) σ') (hfr : gf + 1 ≤ fr ∧ 8 ≤ fr) (hlo : gl + 24 ≤ lo ∧ 173 ≤ lo) (F : Nat → Int32 → zSt → Option zSt) (hF : G3_ok T F gf gl) (n : Nat) : ∀ (v1 : Int32) (v2 : Int32) (σ : zSt), fX3_term_L7 F n v1 v2 σ = some σ' → Z T σ 7 [(0, .ref (zAd T (1))), (1, .int v1), (2, .int v2)] [] := by
  induction n with
  | zero => intro v1 v2 σ h; cases h
  | succ n ih => intro v1 v2 σ h; exact wX3_term_7 hC hN hQ hfr hlo F hF (fX3_term_L7 F n) ih v1 v2 σ h
set_option maxRecDepth 100000 in
set_option maxHeartbeats 4000000 in
theorem wX3_term_0 {T : zX} {fr lo gf gl : Nat} (hC : zOk T cX3_term RX3 fr lo 0 61) (hN : zNL T = 5) {σ' : zSt} (hQ : zRes T none (none) σ') (hfr : gf + 1 ≤ fr ∧ 8 ≤ fr) (hlo : gl + 24 ≤ lo ∧ 173 ≤ lo) (F : Nat → Int32 → zSt → Option zSt) (hF : G3_ok T F gf gl) (a1 : Int32)  (σ : zSt) (h : fX3_term_0 F a1 σ = some σ') : Z T σ 0 [(0, .ref (zAd T (1))), (1, .int a1)] [] := by
  unfold fX3_term_0 at h
  refine z_aload_n hC 0 rfl rfl dX3_term_0 ?_
  refine z_iload_n hC 1 rfl rfl dX3_term_1 ?_
  refine z_b1 h (fun s2_1 e_s2_1 h => ?_)
  refine z_cV1v hC (hF.2.2.1 _ _ _ e_s2_1) (rcX3 hC) kb_X3_power km_X3_73 ⟨by omega, by omega⟩ (Nat.le_of_ble_eq_true rfl) dX3_term_2 ?_
  refine z_iconst hC (0 : Int32) (by decide) dX3_term_5 ?_
  refine z_istore_n hC [(2, .int (0 : Int32)), (0, .ref (zAd T (1))), (1, .int a1)] rfl (by rw [hN]; decide) rfl dX3_term_6 ?_
  refine z_sub [(0, .ref (zAd T (1))), (1, .int a1), (2, .int (0 : Int32))] [1, 2, 0] rfl ?_
  exact (wX3_term_L7 hC hN hQ hfr hlo F hF zFU) _ _ _ h
noncomputable def fX3_power_99 (F : Nat → Int32 → zSt → Option zSt) (v2 : Int32) (v3 : Int32) (σ : zSt) : Option zSt := bd1 (fX3_emit (4 : Int32) (Int32.toInt64 v3) (0 : Int32) (si σ 1 2 ((gi σ 1 2) + (1 : Int32)))) fun s114_1 => 
    (if v2 = 0 then some s114_1
    else bd1 (fX3_emit (3 : Int32) (0 : Int64) (0 : Int32) s114_1) fun s125_3 => some s125_3)
noncomputable def fX3_power_37 (F : Nat → Int32 → zSt → Option zSt) (v1 : Int32) (v2 : Int32) (σ : zSt) : Option zSt := bd1 (F 3 v1 σ) fun s39_1 => 
    (if (gi s39_1 1 4) = 0 then bd2 (fX3_sign s39_1) fun r50_5 s50_6 => 
      (if r50_5 = (94 : Int32) then bd2 (fX3_meet s50_6) fun r59_10 s59_11 => 
        (if r59_10 = 0 then 
          (if v2 = 0 then some s59_11
          else bd1 (fX3_emit (3 : Int32) (0 : Int64) (0 : Int32) s59_11) fun s125_14 => some s125_14)
        else nm ((gi s59_11 1 2) + (1 : Int32)) fun x72_15 => bd2 (fX3_sign (si s59_11 1 2 x72_15)) fun r76_16 s76_17 => nm (r76_16 - (48 : Int32)) fun x82_18 => 
          (if x82_18 < (1 : Int32) then bd1 (fX3_refuse (1 : Int32) s76_17) fun s96_20 => fX3_power_99 F v2 x82_18 s96_20
          else 
            (if x82_18 ≤ (9 : Int32) then fX3_power_99 F v2 x82_18 s76_17
            else bd1 (fX3_refuse (1 : Int32) s76_17) fun s96_22 => fX3_power_99 F v2 x82_18 s96_22)))
      else 
        (if v2 = 0 then some s50_6
        else bd1 (fX3_emit (3 : Int32) (0 : Int64) (0 : Int32) s50_6) fun s125_9 => some s125_9))
    else 
      (if v2 = 0 then some s39_1
      else bd1 (fX3_emit (3 : Int32) (0 : Int64) (0 : Int32) s39_1) fun s125_4 => some s125_4))
noncomputable def fX3_power_0 (F : Nat → Int32 → zSt → Option zSt) (a1 : Int32) (σ : zSt) : Option zSt := bd2 (fX3_sign σ) fun r1_1 s1_2 => 
    (if r1_1 = (45 : Int32) then bd2 (fX3_meet s1_2) fun r20_4 s20_5 => 
      (if r20_4 = 0 then some s20_5
      else fX3_power_37 F a1 (1 : Int32) (si s20_5 1 2 ((gi s20_5 1 2) + (1 : Int32))))
    else fX3_power_37 F a1 (0 : Int32) s1_2)
noncomputable def fX3_power (F : Nat → Int32 → zSt → Option zSt) (a1 : Int32) (σ : zSt) : Option zSt := fX3_power_0 F a1 σ
set_option maxRecDepth 100000 in
set_option maxHeartbeats 4000000 in
theorem wX3_power_99 {T : zX} {fr lo gf gl : Nat} (hC : zOk T cX3_power RX3 fr lo 0 61) (hN : zNL T = 4) {σ' : zSt} (hQ : zRes T none (none) σ') (hfr : gf + 1 ≤ fr ∧ 8 ≤ fr) (hlo : gl + 24 ≤ lo ∧ 173 ≤ lo) (F : Nat → Int32 → zSt → Option zSt) (hF : G3_ok T F gf gl) (v2 : Int32) (v3 : Int32)  (σ : zSt) (h : fX3_power_99 F v2 v3 σ = some σ') : Z T σ 99 [(0, .ref (zAd T (1))), (2, .int v2), (3, .int v3)] [] := by
  unfold fX3_power_99 at h
  refine z_aload_n hC 0 rfl rfl dX3_power_99 ?_
  refine z_dup hC rfl dX3_power_100 ?_
  refine gX3_2 hC kf_X3_29 (gi σ 1 2) rfl dX3_power_101 ?_
  refine z_iconst hC (1 : Int32) (by decide) dX3_power_104 ?_
  refine z_iadd hC dX3_power_105 ?_
  refine pX3_2 hC kf_X3_29 dX3_power_106 ?_
  refine z_aload_n hC 0 rfl rfl dX3_power_109 ?_
  refine z_iconst hC (4 : Int32) (by decide) dX3_power_110 ?_
  refine z_iload_n hC 2 rfl rfl dX3_power_111 ?_
  refine z_i2l hC dX3_power_112 ?_
  refine z_iconst hC (0 : Int32) (by decide) dX3_power_113 ?_
  refine z_b1 h (fun s114_1 e_s114_1 h => ?_)
  refine z_cV3v hC (ctX3_emit hC.hm e_s114_1) (rcX3 hC) kb_X3_emit km_X3_70 ⟨by omega, by omega⟩ (Nat.le_of_ble_eq_true rfl) dX3_power_114 ?_
  refine z_iload_n hC 1 rfl rfl dX3_power_117 ?_
  refine z_if_eq hC 128 (by decide) dX3_power_118 (fun q118_2 => ?_) (fun q118_2 => ?_)
  · replace h := z_t q118_2 h
    obtain rfl := z_so h
    exact z_vret hC hQ dX3_power_128
  · replace h := z_f q118_2 h
    refine z_aload_n hC 0 rfl rfl dX3_power_121 ?_
    refine z_iconst hC (3 : Int32) (by decide) dX3_power_122 ?_
    refine z_lconst hC (0 : Int64) (by decide) dX3_power_123 ?_
    refine z_iconst hC (0 : Int32) (by decide) dX3_power_124 ?_
    refine z_b1 h (fun s125_3 e_s125_3 h => ?_)
    refine z_cV3v hC (ctX3_emit hC.hm e_s125_3) (rcX3 hC) kb_X3_emit km_X3_70 ⟨by omega, by omega⟩ (Nat.le_of_ble_eq_true rfl) dX3_power_125 ?_
    obtain rfl := z_so h
    exact z_vret hC hQ dX3_power_128
set_option maxRecDepth 100000 in
set_option maxHeartbeats 4000000 in
theorem wX3_power_37 {T : zX} {fr lo gf gl : Nat} (hC : zOk T cX3_power RX3 fr lo 0 61) (hN : zNL T = 4) {σ' : zSt} (hQ : zRes T none (none) σ') (hfr : gf + 1 ≤ fr ∧ 8 ≤ fr) (hlo : gl + 24 ≤ lo ∧ 173 ≤ lo) (F : Nat → Int32 → zSt → Option zSt) (hF : G3_ok T F gf gl) (v1 : Int32) (v2 : Int32)  (σ : zSt) (h : fX3_power_37 F v1 v2 σ = some σ') : Z T σ 37 [(0, .ref (zAd T (1))), (1, .int v1), (2, .int v2)] [] := by
  unfold fX3_power_37 at h
  refine z_aload_n hC 0 rfl rfl dX3_power_37 ?_
  refine z_iload_n hC 1 rfl rfl dX3_power_38 ?_
  refine z_b1 h (fun s39_1 e_s39_1 h => ?_)
  refine z_cV1v hC (hF.2.2.2.1 _ _ _ e_s39_1) (rcX3 hC) kb_X3_piece km_X3_76 ⟨by omega, by omega⟩ (Nat.le_of_ble_eq_true rfl) dX3_power_39 ?_
  refine z_aload_n hC 0 rfl rfl dX3_power_42 ?_
  refine gX3_4 hC kf_X3_35 (gi s39_1 1 4) rfl dX3_power_43 ?_
  refine z_if_ne hC 117 (by decide) dX3_power_46 (fun q46_2 => ?_) (fun q46_2 => ?_)
  · replace h := z_f q46_2 h
    refine z_iload_n hC 2 rfl rfl dX3_power_117 ?_
    refine z_if_eq hC 128 (by decide) dX3_power_118 (fun q118_3 => ?_) (fun q118_3 => ?_)
    · replace h := z_t q118_3 h
      obtain rfl := z_so h
      exact z_vret hC hQ dX3_power_128
    · replace h := z_f q118_3 h
      refine z_aload_n hC 0 rfl rfl dX3_power_121 ?_
      refine z_iconst hC (3 : Int32) (by decide) dX3_power_122 ?_
      refine z_lconst hC (0 : Int64) (by decide) dX3_power_123 ?_
      refine z_iconst hC (0 : Int32) (by decide) dX3_power_124 ?_
      refine z_b1 h (fun s125_4 e_s125_4 h => ?_)
      refine z_cV3v hC (ctX3_emit hC.hm e_s125_4) (rcX3 hC) kb_X3_emit km_X3_70 ⟨by omega, by omega⟩ (Nat.le_of_ble_eq_true rfl) dX3_power_125 ?_
      obtain rfl := z_so h
      exact z_vret hC hQ dX3_power_128
  · replace h := z_t q46_2 h
    refine z_aload_n hC 0 rfl rfl dX3_power_49 ?_
    refine z_b2 h (fun r50_5 s50_6 e_r50_5 h => ?_)
    refine z_cV0r hC (ctX3_sign hC.hm e_r50_5) (rcX3 hC) kb_X3_sign km_X3_45 ⟨by omega, by omega⟩ (Nat.le_of_ble_eq_true rfl) dX3_power_50 ?_
    refine z_bipush hC (94 : Int32) (by decide) dX3_power_53 ?_
    refine z_icmp_ne hC 117 (by decide) dX3_power_55 (fun q55_7 => ?_) (fun q55_7 => ?_)
    · replace h := z_f q55_7 h
      refine z_iload_n hC 2 rfl rfl dX3_power_117 ?_
      refine z_if_eq hC 128 (by decide) dX3_power_118 (fun q118_8 => ?_) (fun q118_8 => ?_)
      · replace h := z_t q118_8 h
        obtain rfl := z_so h
        exact z_vret hC hQ dX3_power_128
      · replace h := z_f q118_8 h
        refine z_aload_n hC 0 rfl rfl dX3_power_121 ?_
        refine z_iconst hC (3 : Int32) (by decide) dX3_power_122 ?_
        refine z_lconst hC (0 : Int64) (by decide) dX3_power_123 ?_
        refine z_iconst hC (0 : Int32) (by decide) dX3_power_124 ?_
        refine z_b1 h (fun s125_9 e_s125_9 h => ?_)
        refine z_cV3v hC (ctX3_emit hC.hm e_s125_9) (rcX3 hC) kb_X3_emit km_X3_70 ⟨by omega, by omega⟩ (Nat.le_of_ble_eq_true rfl) dX3_power_125 ?_
        obtain rfl := z_so h
        exact z_vret hC hQ dX3_power_128
    · replace h := z_t q55_7 h
      refine z_aload_n hC 0 rfl rfl dX3_power_58 ?_
      refine z_b2 h (fun r59_10 s59_11 e_r59_10 h => ?_)
      refine z_cV0r hC (ctX3_meet hC.hm e_r59_10) (rcX3 hC) kb_X3_meet km_X3_66 ⟨by omega, by omega⟩ (Nat.le_of_ble_eq_true rfl) dX3_power_59 ?_
      refine z_if_eq hC 117 (by decide) dX3_power_62 (fun q62_12 => ?_) (fun q62_12 => ?_)
      · replace h := z_t q62_12 h
        refine z_iload_n hC 2 rfl rfl dX3_power_117 ?_
        refine z_if_eq hC 128 (by decide) dX3_power_118 (fun q118_13 => ?_) (fun q118_13 => ?_)
        · replace h := z_t q118_13 h
          obtain rfl := z_so h
          exact z_vret hC hQ dX3_power_128
        · replace h := z_f q118_13 h
          refine z_aload_n hC 0 rfl rfl dX3_power_121 ?_
          refine z_iconst hC (3 : Int32) (by decide) dX3_power_122 ?_
          refine z_lconst hC (0 : Int64) (by decide) dX3_power_123 ?_
          refine z_iconst hC (0 : Int32) (by decide) dX3_power_124 ?_
          refine z_b1 h (fun s125_14 e_s125_14 h => ?_)
          refine z_cV3v hC (ctX3_emit hC.hm e_s125_14) (rcX3 hC) kb_X3_emit km_X3_70 ⟨by omega, by omega⟩ (Nat.le_of_ble_eq_true rfl) dX3_power_125 ?_
          obtain rfl := z_so h
          exact z_vret hC hQ dX3_power_128
      · replace h := z_f q62_12 h
        refine z_aload_n hC 0 rfl rfl dX3_power_65 ?_
        refine z_dup hC rfl dX3_power_66 ?_
        refine gX3_2 hC kf_X3_29 (gi s59_11 1 2) rfl dX3_power_67 ?_
        refine z_iconst hC (1 : Int32) (by decide) dX3_power_70 ?_
        refine z_iadd hC dX3_power_71 ?_
        refine z_nmI h (fun x72_15 h => ?_)
        refine pX3_2 hC kf_X3_29 dX3_power_72 ?_
        refine z_aload_n hC 0 rfl rfl dX3_power_75 ?_
        refine z_b2 h (fun r76_16 s76_17 e_r76_16 h => ?_)
        refine z_cV0r hC (ctX3_sign hC.hm e_r76_16) (rcX3 hC) kb_X3_sign km_X3_45 ⟨by omega, by omega⟩ (Nat.le_of_ble_eq_true rfl) dX3_power_76 ?_
        refine z_bipush hC (48 : Int32) (by decide) dX3_power_79 ?_
        refine z_isub hC dX3_power_81 ?_
        refine z_nmI h (fun x82_18 h => ?_)
        refine z_istore_n hC [(3, .int x82_18), (0, .ref (zAd T (1))), (1, .int v1), (2, .int v2)] rfl (by rw [hN]; decide) rfl dX3_power_82 ?_
        refine z_iload_n hC 0 rfl rfl dX3_power_83 ?_
        refine z_iconst hC (1 : Int32) (by decide) dX3_power_84 ?_
        refine z_icmp_lt hC 94 (by decide) dX3_power_85 (fun q85_19 => ?_) (fun q85_19 => ?_)
        · replace h := z_t q85_19 h
          refine z_aload_n hC 1 rfl rfl dX3_power_94 ?_
          refine z_iconst hC (1 : Int32) (by decide) dX3_power_95 ?_
          refine z_b1 h (fun s96_20 e_s96_20 h => ?_)
          refine z_cV1v hC (ctX3_refuse hC.hm e_s96_20) (rcX3 hC) kb_X3_refuse km_X3_49 ⟨by omega, by omega⟩ (Nat.le_of_ble_eq_true rfl) dX3_power_96 ?_
          refine z_sub [(0, .ref (zAd T (1))), (2, .int v2), (3, .int x82_18)] [1, 3, 0] rfl ?_
          exact (wX3_power_99 hC hN hQ hfr hlo F hF ) _ _ _ h
        · replace h := z_f q85_19 h
          refine z_iload_n hC 0 rfl rfl dX3_power_88 ?_
          refine z_bipush hC (9 : Int32) (by decide) dX3_power_89 ?_
          refine z_icmp_le hC 99 (by decide) dX3_power_91 (fun q91_21 => ?_) (fun q91_21 => ?_)
          · replace h := z_t q91_21 h
            refine z_sub [(0, .ref (zAd T (1))), (2, .int v2), (3, .int x82_18)] [1, 3, 0] rfl ?_
            exact (wX3_power_99 hC hN hQ hfr hlo F hF ) _ _ _ h
          · replace h := z_f q91_21 h
            refine z_aload_n hC 1 rfl rfl dX3_power_94 ?_
            refine z_iconst hC (1 : Int32) (by decide) dX3_power_95 ?_
            refine z_b1 h (fun s96_22 e_s96_22 h => ?_)
            refine z_cV1v hC (ctX3_refuse hC.hm e_s96_22) (rcX3 hC) kb_X3_refuse km_X3_49 ⟨by omega, by omega⟩ (Nat.le_of_ble_eq_true rfl) dX3_power_96 ?_
            refine z_sub [(0, .ref (zAd T (1))), (2, .int v2), (3, .int x82_18)] [1, 3, 0] rfl ?_
            exact (wX3_power_99 hC hN hQ hfr hlo F hF ) _ _ _ h
set_option maxRecDepth 100000 in
set_option maxHeartbeats 4000000 in
theorem wX3_power_0 {T : zX} {fr lo gf gl : Nat} (hC : zOk T cX3_power RX3 fr lo 0 61) (hN : zNL T = 4) {σ' : zSt} (hQ : zRes T none (none) σ') (hfr : gf + 1 ≤ fr ∧ 8 ≤ fr) (hlo : gl + 24 ≤ lo ∧ 173 ≤ lo) (F : Nat → Int32 → zSt → Option zSt) (hF : G3_ok T F gf gl) (a1 : Int32)  (σ : zSt) (h : fX3_power_0 F a1 σ = some σ') : Z T σ 0 [(0, .ref (zAd T (1))), (1, .int a1)] [] := by
  unfold fX3_power_0 at h
  refine z_aload_n hC 0 rfl rfl dX3_power_0 ?_
  refine z_b2 h (fun r1_1 s1_2 e_r1_1 h => ?_)
  refine z_cV0r hC (ctX3_sign hC.hm e_r1_1) (rcX3 hC) kb_X3_sign km_X3_45 ⟨by omega, by omega⟩ (Nat.le_of_ble_eq_true rfl) dX3_power_1 ?_
  refine z_bipush hC (45 : Int32) (by decide) dX3_power_4 ?_
  refine z_icmp_ne hC 13 (by decide) dX3_power_6 (fun q6_3 => ?_) (fun q6_3 => ?_)
  · replace h := z_f q6_3 h
    refine z_iconst hC (0 : Int32) (by decide) dX3_power_13 ?_
    refine z_istore_n hC [(2, .int (0 : Int32)), (0, .ref (zAd T (1))), (1, .int a1)] rfl (by rw [hN]; decide) rfl dX3_power_14 ?_
    refine z_iload_n hC 0 rfl rfl dX3_power_15 ?_
    refine z_if_eq hC 37 (by decide) dX3_power_16 (fun q => ?_) (fun q => absurd q (by decide))
    refine z_sub [(0, .ref (zAd T (1))), (1, .int a1), (2, .int (0 : Int32))] [1, 2, 0] rfl ?_
    exact (wX3_power_37 hC hN hQ hfr hlo F hF ) _ _ _ h
  · replace h := z_t q6_3 h
    refine z_iconst hC (1 : Int32) (by decide) dX3_power_9 ?_
    refine z_goto hC 14 (by decide) dX3_power_10 ?_
    refine z_istore_n hC [(2, .int (1 : Int32)), (0, .ref (zAd T (1))), (1, .int a1)] rfl (by rw [hN]; decide) rfl dX3_power_14 ?_
    refine z_iload_n hC 0 rfl rfl dX3_power_15 ?_
    refine z_if_eq hC 37 (by decide) dX3_power_16 (fun q => absurd q (by decide)) (fun q => ?_)
    refine z_aload_n hC 1 rfl rfl dX3_power_19 ?_
    refine z_b2 h (fun r20_4 s20_5 e_r20_4 h => ?_)
    refine z_cV0r hC (ctX3_meet hC.hm e_r20_4) (rcX3 hC) kb_X3_meet km_X3_66 ⟨by omega, by omega⟩ (Nat.le_of_ble_eq_true rfl) dX3_power_20 ?_
    refine z_if_ne hC 27 (by decide) dX3_power_23 (fun q23_6 => ?_) (fun q23_6 => ?_)
    · replace h := z_f q23_6 h
      refine z_aload_n hC 1 rfl rfl dX3_power_27 ?_
      refine z_dup hC rfl dX3_power_28 ?_
      refine gX3_2 hC kf_X3_29 (gi s20_5 1 2) rfl dX3_power_29 ?_
      refine z_iconst hC (1 : Int32) (by decide) dX3_power_32 ?_
      refine z_iadd hC dX3_power_33 ?_
      refine pX3_2 hC kf_X3_29 dX3_power_34 ?_
      refine z_sub [(0, .ref (zAd T (1))), (1, .int a1), (2, .int (1 : Int32))] [1, 2, 0] rfl ?_
      exact (wX3_power_37 hC hN hQ hfr hlo F hF ) _ _ _ h
    · replace h := z_t q23_6 h
      obtain rfl := z_so h
      exact z_vret hC hQ dX3_power_26
noncomputable def fX3_piece_93 (F : Nat → Int32 → zSt → Option zSt) (v1 : Int32) (v2 : Int32) (v3 : Int32) (σ : zSt) : Option zSt := bd1 (F 4 v1 σ) fun s95_1 => bd1 (fX3_pass (41 : Int32) s95_1) fun s101_2 => 
    (if v2 = (-1 : Int32) then some s101_2
    else bd1 (fX3_emit v2 (0 : Int64) v3 s101_2) fun s113_4 => some s113_4)
noncomputable def fX3_piece_52 (F : Nat → Int32 → zSt → Option zSt) (v1 : Int32) (v2 : Int32) (σ : zSt) : Option zSt := bd1 (fX3_pass (40 : Int32) σ) fun s55_1 => 
    (if v2 = (11 : Int32) then bd1 (F 4 v1 s55_1) fun s74_3 => bd1 (fX3_pass (44 : Int32) s74_3) fun s80_4 => nm ((gi s80_4 (21 + 4 * 9) 3) - (1 : Int32)) fun x92_5 => fX3_piece_93 F v1 v2 x92_5 s80_4
    else 
      (if v2 = (12 : Int32) then bd1 (F 4 v1 s55_1) fun s74_7 => bd1 (fX3_pass (44 : Int32) s74_7) fun s80_8 => nm ((gi s80_8 (21 + 4 * 9) 3) - (1 : Int32)) fun x92_9 => fX3_piece_93 F v1 v2 x92_9 s80_8
      else fX3_piece_93 F v1 v2 (0 : Int32) s55_1))
noncomputable def fX3_piece_17 (F : Nat → Int32 → zSt → Option zSt) (v1 : Int32) (t0 : Int32) (σ : zSt) : Option zSt := 
    (if (gi σ 1 4) = 0 then 
      (if t0 = (-2 : Int32) then some σ
      else bd2 (fX3_sign σ) fun r33_3 s33_4 => 
        (if r33_3 = (40 : Int32) then 
          (if v1 < (12 : Int32) then fX3_piece_52 F v1 t0 s33_4
          else bd1 (fX3_refuse (3 : Int32) s33_4) fun s49_7 => fX3_piece_52 F v1 t0 s49_7)
        else fX3_piece_52 F v1 t0 s33_4))
    else some σ)
noncomputable def fX3_piece_0 (F : Nat → Int32 → zSt → Option zSt) (a1 : Int32) (σ : zSt) : Option zSt := bd2 (fX3_sign σ) fun r1_1 s1_2 => 
    (if r1_1 = (40 : Int32) then fX3_piece_17 F a1 (-1 : Int32) s1_2
    else bd2 (fX3_word s1_2) fun r14_4 s14_5 => fX3_piece_17 F a1 r14_4 s14_5)
noncomputable def fX3_piece (F : Nat → Int32 → zSt → Option zSt) (a1 : Int32) (σ : zSt) : Option zSt := fX3_piece_0 F a1 σ
set_option maxRecDepth 100000 in
set_option maxHeartbeats 4000000 in
theorem wX3_piece_93 {T : zX} {fr lo gf gl : Nat} (hC : zOk T cX3_piece RX3 fr lo 0 61) (hN : zNL T = 4) {σ' : zSt} (hQ : zRes T none (none) σ') (hfr : gf + 1 ≤ fr ∧ 8 ≤ fr) (hlo : gl + 24 ≤ lo ∧ 173 ≤ lo) (F : Nat → Int32 → zSt → Option zSt) (hF : G3_ok T F gf gl) (v1 : Int32) (v2 : Int32) (v3 : Int32)  (σ : zSt) (h : fX3_piece_93 F v1 v2 v3 σ = some σ') : Z T σ 93 [(0, .ref (zAd T (1))), (1, .int v1), (2, .int v2), (3, .int v3)] [] := by
  unfold fX3_piece_93 at h
  refine z_aload_n hC 0 rfl rfl dX3_piece_93 ?_
  refine z_iload_n hC 1 rfl rfl dX3_piece_94 ?_
  refine z_b1 h (fun s95_1 e_s95_1 h => ?_)
  refine z_cV1v hC (hF.2.2.2.2 _ _ _ e_s95_1) (rcX3 hC) kb_X3_inside km_X3_85 ⟨by omega, by omega⟩ (Nat.le_of_ble_eq_true rfl) dX3_piece_95 ?_
  refine z_aload_n hC 0 rfl rfl dX3_piece_98 ?_
  refine z_bipush hC (41 : Int32) (by decide) dX3_piece_99 ?_
  refine z_b1 h (fun s101_2 e_s101_2 h => ?_)
  refine z_cV1v hC (ctX3_pass hC.hm e_s101_2) (rcX3 hC) kb_X3_pass km_X3_82 ⟨by omega, by omega⟩ (Nat.le_of_ble_eq_true rfl) dX3_piece_101 ?_
  refine z_iload_n hC 2 rfl rfl dX3_piece_104 ?_
  refine z_iconst hC (-1 : Int32) (by decide) dX3_piece_105 ?_
  refine z_icmp_eq hC 116 (by decide) dX3_piece_106 (fun q106_3 => ?_) (fun q106_3 => ?_)
  · replace h := z_t q106_3 h
    obtain rfl := z_so h
    exact z_vret hC hQ dX3_piece_116
  · replace h := z_f q106_3 h
    refine z_aload_n hC 0 rfl rfl dX3_piece_109 ?_
    refine z_iload_n hC 2 rfl rfl dX3_piece_110 ?_
    refine z_lconst hC (0 : Int64) (by decide) dX3_piece_111 ?_
    refine z_iload_n hC 3 rfl rfl dX3_piece_112 ?_
    refine z_b1 h (fun s113_4 e_s113_4 h => ?_)
    refine z_cV3v hC (ctX3_emit hC.hm e_s113_4) (rcX3 hC) kb_X3_emit km_X3_70 ⟨by omega, by omega⟩ (Nat.le_of_ble_eq_true rfl) dX3_piece_113 ?_
    obtain rfl := z_so h
    exact z_vret hC hQ dX3_piece_116
set_option maxRecDepth 100000 in
set_option maxHeartbeats 4000000 in
theorem wX3_piece_52 {T : zX} {fr lo gf gl : Nat} (hC : zOk T cX3_piece RX3 fr lo 0 61) (hN : zNL T = 4) {σ' : zSt} (hQ : zRes T none (none) σ') (hfr : gf + 1 ≤ fr ∧ 8 ≤ fr) (hlo : gl + 24 ≤ lo ∧ 173 ≤ lo) (F : Nat → Int32 → zSt → Option zSt) (hF : G3_ok T F gf gl) (v1 : Int32) (v2 : Int32)  (σ : zSt) (h : fX3_piece_52 F v1 v2 σ = some σ') : Z T σ 52 [(0, .ref (zAd T (1))), (1, .int v1), (2, .int v2)] [] := by
  unfold fX3_piece_52 at h
  refine z_aload_n hC 0 rfl rfl dX3_piece_52 ?_
  refine z_bipush hC (40 : Int32) (by decide) dX3_piece_53 ?_
  refine z_b1 h (fun s55_1 e_s55_1 h => ?_)
  refine z_cV1v hC (ctX3_pass hC.hm e_s55_1) (rcX3 hC) kb_X3_pass km_X3_82 ⟨by omega, by omega⟩ (Nat.le_of_ble_eq_true rfl) dX3_piece_55 ?_
  refine z_iconst hC (0 : Int32) (by decide) dX3_piece_58 ?_
  refine z_istore_n hC [(3, .int (0 : Int32)), (0, .ref (zAd T (1))), (1, .int v1), (2, .int v2)] rfl (by rw [hN]; decide) rfl dX3_piece_59 ?_
  refine z_iload_n hC 3 rfl rfl dX3_piece_60 ?_
  refine z_bipush hC (11 : Int32) (by decide) dX3_piece_61 ?_
  refine z_icmp_eq hC 72 (by decide) dX3_piece_63 (fun q63_2 => ?_) (fun q63_2 => ?_)
  · replace h := z_t q63_2 h
    refine z_aload_n hC 1 rfl rfl dX3_piece_72 ?_
    refine z_iload_n hC 2 rfl rfl dX3_piece_73 ?_
    refine z_b1 h (fun s74_3 e_s74_3 h => ?_)
    refine z_cV1v hC (hF.2.2.2.2 _ _ _ e_s74_3) (rcX3 hC) kb_X3_inside km_X3_85 ⟨by omega, by omega⟩ (Nat.le_of_ble_eq_true rfl) dX3_piece_74 ?_
    refine z_aload_n hC 1 rfl rfl dX3_piece_77 ?_
    refine z_bipush hC (44 : Int32) (by decide) dX3_piece_78 ?_
    refine z_b1 h (fun s80_4 e_s80_4 h => ?_)
    refine z_cV1v hC (ctX3_pass hC.hm e_s80_4) (rcX3 hC) kb_X3_pass km_X3_82 ⟨by omega, by omega⟩ (Nat.le_of_ble_eq_true rfl) dX3_piece_80 ?_
    refine z_aload_n hC 1 rfl rfl dX3_piece_83 ?_
    refine gX3_1 hC kf_X3_21 dX3_piece_84 ?_
    refine gX0_3 hC (by decide) kf_X3_25 (gi s80_4 (21 + 4 * 9) 3) rfl dX3_piece_87 ?_
    refine z_iconst hC (1 : Int32) (by decide) dX3_piece_90 ?_
    refine z_isub hC dX3_piece_91 ?_
    refine z_nmI h (fun x92_5 h => ?_)
    refine z_istore_n hC [(3, .int x92_5), (0, .ref (zAd T (1))), (1, .int v1), (2, .int v2)] rfl (by rw [hN]; decide) rfl dX3_piece_92 ?_
    refine z_sub [(0, .ref (zAd T (1))), (1, .int v1), (2, .int v2), (3, .int x92_5)] [1, 2, 3, 0] rfl ?_
    exact (wX3_piece_93 hC hN hQ hfr hlo F hF ) _ _ _ _ h
  · replace h := z_f q63_2 h
    refine z_iload_n hC 3 rfl rfl dX3_piece_66 ?_
    refine z_bipush hC (12 : Int32) (by decide) dX3_piece_67 ?_
    refine z_icmp_ne hC 93 (by decide) dX3_piece_69 (fun q69_6 => ?_) (fun q69_6 => ?_)
    · replace h := z_f q69_6 h
      refine z_sub [(0, .ref (zAd T (1))), (1, .int v1), (2, .int v2), (3, .int (0 : Int32))] [1, 2, 3, 0] rfl ?_
      exact (wX3_piece_93 hC hN hQ hfr hlo F hF ) _ _ _ _ h
    · replace h := z_t q69_6 h
      refine z_aload_n hC 1 rfl rfl dX3_piece_72 ?_
      refine z_iload_n hC 2 rfl rfl dX3_piece_73 ?_
      refine z_b1 h (fun s74_7 e_s74_7 h => ?_)
      refine z_cV1v hC (hF.2.2.2.2 _ _ _ e_s74_7) (rcX3 hC) kb_X3_inside km_X3_85 ⟨by omega, by omega⟩ (Nat.le_of_ble_eq_true rfl) dX3_piece_74 ?_
      refine z_aload_n hC 1 rfl rfl dX3_piece_77 ?_
      refine z_bipush hC (44 : Int32) (by decide) dX3_piece_78 ?_
      refine z_b1 h (fun s80_8 e_s80_8 h => ?_)
      refine z_cV1v hC (ctX3_pass hC.hm e_s80_8) (rcX3 hC) kb_X3_pass km_X3_82 ⟨by omega, by omega⟩ (Nat.le_of_ble_eq_true rfl) dX3_piece_80 ?_
      refine z_aload_n hC 1 rfl rfl dX3_piece_83 ?_
      refine gX3_1 hC kf_X3_21 dX3_piece_84 ?_
      refine gX0_3 hC (by decide) kf_X3_25 (gi s80_8 (21 + 4 * 9) 3) rfl dX3_piece_87 ?_
      refine z_iconst hC (1 : Int32) (by decide) dX3_piece_90 ?_
      refine z_isub hC dX3_piece_91 ?_
      refine z_nmI h (fun x92_9 h => ?_)
      refine z_istore_n hC [(3, .int x92_9), (0, .ref (zAd T (1))), (1, .int v1), (2, .int v2)] rfl (by rw [hN]; decide) rfl dX3_piece_92 ?_
      refine z_sub [(0, .ref (zAd T (1))), (1, .int v1), (2, .int v2), (3, .int x92_9)] [1, 2, 3, 0] rfl ?_
      exact (wX3_piece_93 hC hN hQ hfr hlo F hF ) _ _ _ _ h
set_option maxRecDepth 100000 in
set_option maxHeartbeats 4000000 in
theorem wX3_piece_17 {T : zX} {fr lo gf gl : Nat} (hC : zOk T cX3_piece RX3 fr lo 0 61) (hN : zNL T = 4) {σ' : zSt} (hQ : zRes T none (none) σ') (hfr : gf + 1 ≤ fr ∧ 8 ≤ fr) (hlo : gl + 24 ≤ lo ∧ 173 ≤ lo) (F : Nat → Int32 → zSt → Option zSt) (hF : G3_ok T F gf gl) (v1 : Int32) (t0 : Int32)  (σ : zSt) (h : fX3_piece_17 F v1 t0 σ = some σ') : Z T σ 17 [(0, .ref (zAd T (1))), (1, .int v1)] [.int t0] := by
  unfold fX3_piece_17 at h
  refine z_istore_n hC [(2, .int t0), (0, .ref (zAd T (1))), (1, .int v1)] rfl (by rw [hN]; decide) rfl dX3_piece_17 ?_
  refine z_aload_n hC 1 rfl rfl dX3_piece_18 ?_
  refine gX3_4 hC kf_X3_35 (gi σ 1 4) rfl dX3_piece_19 ?_
  refine z_if_ne hC 31 (by decide) dX3_piece_22 (fun q22_1 => ?_) (fun q22_1 => ?_)
  · replace h := z_f q22_1 h
    obtain rfl := z_so h
    exact z_vret hC hQ dX3_piece_31
  · replace h := z_t q22_1 h
    refine z_iload_n hC 0 rfl rfl dX3_piece_25 ?_
    refine z_bipush hC (-2 : Int32) (by decide) dX3_piece_26 ?_
    refine z_icmp_ne hC 32 (by decide) dX3_piece_28 (fun q28_2 => ?_) (fun q28_2 => ?_)
    · replace h := z_f q28_2 h
      refine z_aload_n hC 1 rfl rfl dX3_piece_32 ?_
      refine z_b2 h (fun r33_3 s33_4 e_r33_3 h => ?_)
      refine z_cV0r hC (ctX3_sign hC.hm e_r33_3) (rcX3 hC) kb_X3_sign km_X3_45 ⟨by omega, by omega⟩ (Nat.le_of_ble_eq_true rfl) dX3_piece_33 ?_
      refine z_bipush hC (40 : Int32) (by decide) dX3_piece_36 ?_
      refine z_icmp_ne hC 52 (by decide) dX3_piece_38 (fun q38_5 => ?_) (fun q38_5 => ?_)
      · replace h := z_f q38_5 h
        refine z_sub [(0, .ref (zAd T (1))), (1, .int v1), (2, .int t0)] [1, 2, 0] rfl ?_
        exact (wX3_piece_52 hC hN hQ hfr hlo F hF ) _ _ _ h
      · replace h := z_t q38_5 h
        refine z_iload_n hC 2 rfl rfl dX3_piece_41 ?_
        refine z_bipush hC (12 : Int32) (by decide) dX3_piece_42 ?_
        refine z_icmp_lt hC 52 (by decide) dX3_piece_44 (fun q44_6 => ?_) (fun q44_6 => ?_)
        · replace h := z_t q44_6 h
          refine z_sub [(0, .ref (zAd T (1))), (1, .int v1), (2, .int t0)] [1, 2, 0] rfl ?_
          exact (wX3_piece_52 hC hN hQ hfr hlo F hF ) _ _ _ h
        · replace h := z_f q44_6 h
          refine z_aload_n hC 1 rfl rfl dX3_piece_47 ?_
          refine z_iconst hC (3 : Int32) (by decide) dX3_piece_48 ?_
          refine z_b1 h (fun s49_7 e_s49_7 h => ?_)
          refine z_cV1v hC (ctX3_refuse hC.hm e_s49_7) (rcX3 hC) kb_X3_refuse km_X3_49 ⟨by omega, by omega⟩ (Nat.le_of_ble_eq_true rfl) dX3_piece_49 ?_
          refine z_sub [(0, .ref (zAd T (1))), (1, .int v1), (2, .int t0)] [1, 2, 0] rfl ?_
          exact (wX3_piece_52 hC hN hQ hfr hlo F hF ) _ _ _ h
    · replace h := z_t q28_2 h
      obtain rfl := z_so h
      exact z_vret hC hQ dX3_piece_31
set_option maxRecDepth 100000 in
set_option maxHeartbeats 4000000 in
theorem wX3_piece_0 {T : zX} {fr lo gf gl : Nat} (hC : zOk T cX3_piece RX3 fr lo 0 61) (hN : zNL T = 4) {σ' : zSt} (hQ : zRes T none (none) σ') (hfr : gf + 1 ≤ fr ∧ 8 ≤ fr) (hlo : gl + 24 ≤ lo ∧ 173 ≤ lo) (F : Nat → Int32 → zSt → Option zSt) (hF : G3_ok T F gf gl) (a1 : Int32)  (σ : zSt) (h : fX3_piece_0 F a1 σ = some σ') : Z T σ 0 [(0, .ref (zAd T (1))), (1, .int a1)] [] := by
  unfold fX3_piece_0 at h
  refine z_aload_n hC 0 rfl rfl dX3_piece_0 ?_
  refine z_b2 h (fun r1_1 s1_2 e_r1_1 h => ?_)
  refine z_cV0r hC (ctX3_sign hC.hm e_r1_1) (rcX3 hC) kb_X3_sign km_X3_45 ⟨by omega, by omega⟩ (Nat.le_of_ble_eq_true rfl) dX3_piece_1 ?_
  refine z_bipush hC (40 : Int32) (by decide) dX3_piece_4 ?_
  refine z_icmp_ne hC 13 (by decide) dX3_piece_6 (fun q6_3 => ?_) (fun q6_3 => ?_)
  · replace h := z_f q6_3 h
    refine z_aload_n hC 0 rfl rfl dX3_piece_13 ?_
    refine z_b2 h (fun r14_4 s14_5 e_r14_4 h => ?_)
    refine z_cV0r hC (ctX3_word hC.hm e_r14_4) (rcX3 hC) kb_X3_word km_X3_79 ⟨by omega, by omega⟩ (Nat.le_of_ble_eq_true rfl) dX3_piece_14 ?_
    exact (wX3_piece_17 hC hN hQ hfr hlo F hF ) _ _ _ h
  · replace h := z_t q6_3 h
    refine z_iconst hC (-1 : Int32) (by decide) dX3_piece_9 ?_
    refine z_goto hC 17 (by decide) dX3_piece_10 ?_
    exact (wX3_piece_17 hC hN hQ hfr hlo F hF ) _ _ _ h
noncomputable def fX3_inside_0 (F : Nat → Int32 → zSt → Option zSt) (a1 : Int32) (σ : zSt) : Option zSt := 
    (if (gi σ 1 4) = 0 then bd1 (F 0 (a1 + (1 : Int32)) σ) fun s11_2 => some s11_2
    else some σ)
noncomputable def fX3_inside (F : Nat → Int32 → zSt → Option zSt) (a1 : Int32) (σ : zSt) : Option zSt := fX3_inside_0 F a1 σ
set_option maxRecDepth 100000 in
set_option maxHeartbeats 4000000 in
theorem wX3_inside_0 {T : zX} {fr lo gf gl : Nat} (hC : zOk T cX3_inside RX3 fr lo 0 61) (hN : zNL T = 2) {σ' : zSt} (hQ : zRes T none (none) σ') (hfr : gf + 1 ≤ fr ∧ 8 ≤ fr) (hlo : gl + 24 ≤ lo ∧ 173 ≤ lo) (F : Nat → Int32 → zSt → Option zSt) (hF : G3_ok T F gf gl) (a1 : Int32)  (σ : zSt) (h : fX3_inside_0 F a1 σ = some σ') : Z T σ 0 [(0, .ref (zAd T (1))), (1, .int a1)] [] := by
  unfold fX3_inside_0 at h
  refine z_aload_n hC 0 rfl rfl dX3_inside_0 ?_
  refine gX3_4 hC kf_X3_35 (gi σ 1 4) rfl dX3_inside_1 ?_
  refine z_if_ne hC 14 (by decide) dX3_inside_4 (fun q4_1 => ?_) (fun q4_1 => ?_)
  · replace h := z_f q4_1 h
    obtain rfl := z_so h
    exact z_vret hC hQ dX3_inside_14
  · replace h := z_t q4_1 h
    refine z_aload_n hC 0 rfl rfl dX3_inside_7 ?_
    refine z_iload_n hC 1 rfl rfl dX3_inside_8 ?_
    refine z_iconst hC (1 : Int32) (by decide) dX3_inside_9 ?_
    refine z_iadd hC dX3_inside_10 ?_
    refine z_b1 h (fun s11_2 e_s11_2 h => ?_)
    refine z_cV1v hC (hF.1 _ _ _ e_s11_2) (rcX3 hC) kb_X3_sum km_X3_41 ⟨by omega, by omega⟩ (Nat.le_of_ble_eq_true rfl) dX3_inside_11 ?_
    obtain rfl := z_so h
    exact z_vret hC hQ dX3_inside_14
noncomputable def G3 : Nat → Nat → Int32 → zSt → Option zSt
  | 0, _, _, _ => none
  | n + 1, i, a, σ => if i = 0 then fX3_sum (G3 n) a σ else if i = 1 then fX3_term (G3 n) a σ else if i = 2 then fX3_power (G3 n) a σ else if i = 3 then fX3_piece (G3 n) a σ else fX3_inside (G3 n) a σ
set_option maxRecDepth 100000 in
theorem sX3_sum {l : Launch} {G : zGt} {mk : zSt → zSt} (hm : zM mk 0 61) {gf gl : Nat} (F : Nat → Int32 → zSt → Option zSt) (hF : ∀ T : zX, zL T = l → zGr T = G → zMk T = mk → G3_ok T F gf gl) (hb : 8 ≤ gf + 1 ∧ 173 ≤ gl + 24) {a1 : Int32} {σ : zSt} {σ' : zSt} (h : fX3_sum F a1 σ = some σ') : zMet l G mk yX3_sum cX3_sum 5 none (gf + 1) (gl + 24) [.ref (gA G (1)), .int a1] σ (none) σ' := by
  unfold fX3_sum at h
  refine zMet.of (plainFor_of_name (by decide +kernel)) hm (Nat.le_of_ble_eq_true rfl) (fun T eL eG eM hN hC hQ => ?_)
  have hF2 := hF T eL eG eM
  subst eL; subst eG; subst eM
  refine z_sub [(0, .ref (zAd T (1))), (1, .int a1)] [0, 1] rfl ?_
  exact wX3_sum_0 hC hN hQ ⟨Nat.le_refl _, hb.1⟩ ⟨Nat.le_refl _, hb.2⟩ F hF2 _ _ h
set_option maxRecDepth 100000 in
theorem sX3_term {l : Launch} {G : zGt} {mk : zSt → zSt} (hm : zM mk 0 61) {gf gl : Nat} (F : Nat → Int32 → zSt → Option zSt) (hF : ∀ T : zX, zL T = l → zGr T = G → zMk T = mk → G3_ok T F gf gl) (hb : 8 ≤ gf + 1 ∧ 173 ≤ gl + 24) {a1 : Int32} {σ : zSt} {σ' : zSt} (h : fX3_term F a1 σ = some σ') : zMet l G mk yX3_term cX3_term 5 none (gf + 1) (gl + 24) [.ref (gA G (1)), .int a1] σ (none) σ' := by
  unfold fX3_term at h
  refine zMet.of (plainFor_of_name (by decide +kernel)) hm (Nat.le_of_ble_eq_true rfl) (fun T eL eG eM hN hC hQ => ?_)
  have hF2 := hF T eL eG eM
  subst eL; subst eG; subst eM
  refine z_sub [(0, .ref (zAd T (1))), (1, .int a1)] [0, 1] rfl ?_
  exact wX3_term_0 hC hN hQ ⟨Nat.le_refl _, hb.1⟩ ⟨Nat.le_refl _, hb.2⟩ F hF2 _ _ h
set_option maxRecDepth 100000 in
theorem sX3_power {l : Launch} {G : zGt} {mk : zSt → zSt} (hm : zM mk 0 61) {gf gl : Nat} (F : Nat → Int32 → zSt → Option zSt) (hF : ∀ T : zX, zL T = l → zGr T = G → zMk T = mk → G3_ok T F gf gl) (hb : 8 ≤ gf + 1 ∧ 173 ≤ gl + 24) {a1 : Int32} {σ : zSt} {σ' : zSt} (h : fX3_power F a1 σ = some σ') : zMet l G mk yX3_power cX3_power 4 none (gf + 1) (gl + 24) [.ref (gA G (1)), .int a1] σ (none) σ' := by
  unfold fX3_power at h
  refine zMet.of (plainFor_of_name (by decide +kernel)) hm (Nat.le_of_ble_eq_true rfl) (fun T eL eG eM hN hC hQ => ?_)
  have hF2 := hF T eL eG eM
  subst eL; subst eG; subst eM
  refine z_sub [(0, .ref (zAd T (1))), (1, .int a1)] [0, 1] rfl ?_
  exact wX3_power_0 hC hN hQ ⟨Nat.le_refl _, hb.1⟩ ⟨Nat.le_refl _, hb.2⟩ F hF2 _ _ h
set_option maxRecDepth 100000 in
theorem sX3_piece {l : Launch} {G : zGt} {mk : zSt → zSt} (hm : zM mk 0 61) {gf gl : Nat} (F : Nat → Int32 → zSt → Option zSt) (hF : ∀ T : zX, zL T = l → zGr T = G → zMk T = mk → G3_ok T F gf gl) (hb : 8 ≤ gf + 1 ∧ 173 ≤ gl + 24) {a1 : Int32} {σ : zSt} {σ' : zSt} (h : fX3_piece F a1 σ = some σ') : zMet l G mk yX3_piece cX3_piece 4 none (gf + 1) (gl + 24) [.ref (gA G (1)), .int a1] σ (none) σ' := by
  unfold fX3_piece at h
  refine zMet.of (plainFor_of_name (by decide +kernel)) hm (Nat.le_of_ble_eq_true rfl) (fun T eL eG eM hN hC hQ => ?_)
  have hF2 := hF T eL eG eM
  subst eL; subst eG; subst eM
  refine z_sub [(0, .ref (zAd T (1))), (1, .int a1)] [0, 1] rfl ?_
  exact wX3_piece_0 hC hN hQ ⟨Nat.le_refl _, hb.1⟩ ⟨Nat.le_refl _, hb.2⟩ F hF2 _ _ h
set_option maxRecDepth 100000 in
theorem sX3_inside {l : Launch} {G : zGt} {mk : zSt → zSt} (hm : zM mk 0 61) {gf gl : Nat} (F : Nat → Int32 → zSt → Option zSt) (hF : ∀ T : zX, zL T = l → zGr T = G → zMk T = mk → G3_ok T F gf gl) (hb : 8 ≤ gf + 1 ∧ 173 ≤ gl + 24) {a1 : Int32} {σ : zSt} {σ' : zSt} (h : fX3_inside F a1 σ = some σ') : zMet l G mk yX3_inside cX3_inside 2 none (gf + 1) (gl + 24) [.ref (gA G (1)), .int a1] σ (none) σ' := by
  unfold fX3_inside at h
  refine zMet.of (plainFor_of_name (by decide +kernel)) hm (Nat.le_of_ble_eq_true rfl) (fun T eL eG eM hN hC hQ => ?_)
  have hF2 := hF T eL eG eM
  subst eL; subst eG; subst eM
  refine z_sub [(0, .ref (zAd T (1))), (1, .int a1)] [0, 1] rfl ?_
  exact wX3_inside_0 hC hN hQ ⟨Nat.le_refl _, hb.1⟩ ⟨Nat.le_refl _, hb.2⟩ F hF2 _ _ h
theorem G3_all {l : Launch} {G : zGt} {mk : zSt → zSt} (hm : zM mk 0 61) : ∀ n : Nat, (∀ (a : Int32) (σ : zSt) (σ' : zSt), G3 n 0 a σ = some σ' → zMet l G mk yX3_sum cX3_sum 5 none (8 + n) (173 + 24 * n) [.ref (gA G 1), .int a] σ none σ') ∧ (∀ (a : Int32) (σ : zSt) (σ' : zSt), G3 n 1 a σ = some σ' → zMet l G mk yX3_term cX3_term 5 none (8 + n) (173 + 24 * n) [.ref (gA G 1), .int a] σ none σ') ∧ (∀ (a : Int32) (σ : zSt) (σ' : zSt), G3 n 2 a σ = some σ' → zMet l G mk yX3_power cX3_power 4 none (8 + n) (173 + 24 * n) [.ref (gA G 1), .int a] σ none σ') ∧ (∀ (a : Int32) (σ : zSt) (σ' : zSt), G3 n 3 a σ = some σ' → zMet l G mk yX3_piece cX3_piece 4 none (8 + n) (173 + 24 * n) [.ref (gA G 1), .int a] σ none σ') ∧ (∀ (a : Int32) (σ : zSt) (σ' : zSt), G3 n 4 a σ = some σ' → zMet l G mk yX3_inside cX3_inside 2 none (8 + n) (173 + 24 * n) [.ref (gA G 1), .int a] σ none σ') := by
  intro n
  induction n with
  | zero => exact ⟨fun a σ σ1 h => (by cases h), fun a σ σ1 h => (by cases h), fun a σ σ1 h => (by cases h), fun a σ σ1 h => (by cases h), fun a σ σ1 h => (by cases h)⟩
  | succ n ih =>
    have hF : ∀ T : zX, zL T = l → zGr T = G → zMk T = mk → G3_ok T (G3 n) (8 + n) (173 + 24 * n) := fun T e1 e2 e3 => by subst e1; subst e2; subst e3; exact ih
    have hb : 8 ≤ 8 + n + 1 ∧ 173 ≤ 173 + 24 * n + 24 := ⟨by omega, by omega⟩
    have e2 : 173 + 24 * (n + 1) = 173 + 24 * n + 24 := by omega
    rw [e2]
    exact ⟨fun a σ σ1 h => sX3_sum hm (G3 n) hF hb h, fun a σ σ1 h => sX3_term hm (G3 n) hF hb h, fun a σ σ1 h => sX3_power hm (G3 n) hF hb h, fun a σ σ1 h => sX3_piece hm (G3 n) hF hb h, fun a σ σ1 h => sX3_inside hm (G3 n) hF hb h⟩
theorem ctTop_G3 {l : Launch} {G : zGt} {mk : zSt → zSt} (hm : zM mk 0 61) {a : Int32} {σ : zSt} {σ' : zSt} (h : G3 70 0 a σ = some σ') : zMet l G mk yX3_sum cX3_sum 5 none 78 1853 [.ref (gA G 1), .int a] σ none σ' := (G3_all hm 70).1 a σ σ' h
noncomputable def fX3_read_0 (a1 : Int32) (σ : zSt) : Option (Int32 × zSt) := bd1 (G3 70 0 (0 : Int32) (si (si (si (si (si σ (21 + 4 * 9) 3 (0 : Int32)) 1 2 (0 : Int32)) 1 3 (0 : Int32)) 1 4 (0 : Int32)) 1 5 a1)) fun s30_1 => 
    (if (gi s30_1 1 4) = 0 then bd2 (fX3_sign s30_1) fun r41_3 s41_4 => 
      (if r41_3 = (-1 : Int32) then some ((gi s41_4 1 4), s41_4)
      else bd1 (fX3_refuse (1 : Int32) s41_4) fun s50_6 => some ((gi s50_6 1 4), s50_6))
    else some ((gi s30_1 1 4), s30_1))
noncomputable def fX3_read (a1 : Int32) (σ : zSt) : Option (Int32 × zSt) := fX3_read_0 a1 σ
set_option maxRecDepth 100000 in
set_option maxHeartbeats 4000000 in
theorem wX3_read_0 {T : zX} (hC : zOk T cX3_read RX3 79 1877 0 61) (hN : zNL T = 2) {r : Int32} {σ' : zSt} (hQ : zRes T (some .int) (some (.int r)) σ') (a1 : Int32)  (σ : zSt) (h : fX3_read_0 a1 σ = some (r, σ')) : Z T σ 0 [(0, .ref (zAd T (1))), (1, .int a1)] [] := by
  unfold fX3_read_0 at h
  refine z_aload_n hC 0 rfl rfl dX3_read_0 ?_
  refine gX3_1 hC kf_X3_21 dX3_read_1 ?_
  refine z_iconst hC (0 : Int32) (by decide) dX3_read_4 ?_
  refine pX0_3 hC (by decide) kf_X3_25 dX3_read_5 ?_
  refine z_aload_n hC 0 rfl rfl dX3_read_8 ?_
  refine z_iconst hC (0 : Int32) (by decide) dX3_read_9 ?_
  refine pX3_2 hC kf_X3_29 dX3_read_10 ?_
  refine z_aload_n hC 0 rfl rfl dX3_read_13 ?_
  refine z_iconst hC (0 : Int32) (by decide) dX3_read_14 ?_
  refine pX3_3 hC kf_X3_32 dX3_read_15 ?_
  refine z_aload_n hC 0 rfl rfl dX3_read_18 ?_
  refine z_iconst hC (0 : Int32) (by decide) dX3_read_19 ?_
  refine pX3_4 hC kf_X3_35 dX3_read_20 ?_
  refine z_aload_n hC 0 rfl rfl dX3_read_23 ?_
  refine z_iload_n hC 1 rfl rfl dX3_read_24 ?_
  refine pX3_5 hC kf_X3_38 dX3_read_25 ?_
  refine z_aload_n hC 0 rfl rfl dX3_read_28 ?_
  refine z_iconst hC (0 : Int32) (by decide) dX3_read_29 ?_
  refine z_b1 h (fun s30_1 e_s30_1 h => ?_)
  refine z_cV1v hC (ctTop_G3 hC.hm e_s30_1) (rcX3 hC) kb_X3_sum km_X3_41 ⟨by decide, by decide⟩ (Nat.le_of_ble_eq_true rfl) dX3_read_30 ?_
  refine z_aload_n hC 0 rfl rfl dX3_read_33 ?_
  refine gX3_4 hC kf_X3_35 (gi s30_1 1 4) rfl dX3_read_34 ?_
  refine z_if_ne hC 53 (by decide) dX3_read_37 (fun q37_2 => ?_) (fun q37_2 => ?_)
  · replace h := z_f q37_2 h
    refine z_aload_n hC 0 rfl rfl dX3_read_53 ?_
    refine gX3_4 hC kf_X3_35 (gi s30_1 1 4) rfl dX3_read_54 ?_
    obtain ⟨rfl, rfl⟩ := z_pr h
    exact z_iret hC hQ dX3_read_57
  · replace h := z_t q37_2 h
    refine z_aload_n hC 0 rfl rfl dX3_read_40 ?_
    refine z_b2 h (fun r41_3 s41_4 e_r41_3 h => ?_)
    refine z_cV0r hC (ctX3_sign hC.hm e_r41_3) (rcX3 hC) kb_X3_sign km_X3_45 ⟨by decide, by decide⟩ (Nat.le_of_ble_eq_true rfl) dX3_read_41 ?_
    refine z_iconst hC (-1 : Int32) (by decide) dX3_read_44 ?_
    refine z_icmp_eq hC 53 (by decide) dX3_read_45 (fun q45_5 => ?_) (fun q45_5 => ?_)
    · replace h := z_t q45_5 h
      refine z_aload_n hC 0 rfl rfl dX3_read_53 ?_
      refine gX3_4 hC kf_X3_35 (gi s41_4 1 4) rfl dX3_read_54 ?_
      obtain ⟨rfl, rfl⟩ := z_pr h
      exact z_iret hC hQ dX3_read_57
    · replace h := z_f q45_5 h
      refine z_aload_n hC 0 rfl rfl dX3_read_48 ?_
      refine z_iconst hC (1 : Int32) (by decide) dX3_read_49 ?_
      refine z_b1 h (fun s50_6 e_s50_6 h => ?_)
      refine z_cV1v hC (ctX3_refuse hC.hm e_s50_6) (rcX3 hC) kb_X3_refuse km_X3_49 ⟨by decide, by decide⟩ (Nat.le_of_ble_eq_true rfl) dX3_read_50 ?_
      refine z_aload_n hC 0 rfl rfl dX3_read_53 ?_
      refine gX3_4 hC kf_X3_35 (gi s50_6 1 4) rfl dX3_read_54 ?_
      obtain ⟨rfl, rfl⟩ := z_pr h
      exact z_iret hC hQ dX3_read_57
set_option maxRecDepth 100000 in
theorem ctX3_read {l : Launch} {G : zGt} {mk : zSt → zSt} (hm : zM mk 0 61) {a1 : Int32} {σ : zSt} {r : Int32} {σ' : zSt} (h : fX3_read a1 σ = some (r, σ')) : zMet l G mk yX3_read cX3_read 2 (some .int) 79 1877 [.ref (gA G (1)), .int a1] σ (some (.int r)) σ' := by
  unfold fX3_read at h

  refine zMet.of (plainFor_of_name (by decide +kernel)) hm (Nat.le_of_ble_eq_true rfl) (fun T eL eG eM hN hC hQ => ?_)
  subst eL; subst eG; subst eM
  refine z_sub [(0, .ref (zAd T (1))), (1, .int a1)] [0, 1] rfl ?_
  exact wX3_read_0 hC hN hQ _  _ h
