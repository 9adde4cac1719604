noncomputable def fX9_put_3 (K3 : Int32 → Int32 → zSt → Option zSt) (v1 : Int32) (v2 : Int32) (σ : zSt) : Option zSt := 
    (if v2 < 0 then some σ
    else zg (vp_in (gi σ 61 2) 200) <| nm (v2 + (-8 : Int32)) fun x30_3 => K3 v1 x30_3 (si (si σ 62 (gi σ 61 2).toNatClampNeg (vp_nar .byte (jshrI v1 v2).toInt8.toInt32)) 61 2 ((gi σ 61 2) + (1 : Int32))))
noncomputable def fX9_put_L3 : Nat → Int32 → Int32 → zSt → Option zSt
  | 0, _, _, _ => none
  | n + 1, v1, v2, σ => fX9_put_3 (fX9_put_L3 n) v1 v2 σ
noncomputable def fX9_put_0 (a1 : Int32) (σ : zSt) : Option zSt := fX9_put_L3 zFU a1 (24 : Int32) σ
noncomputable def fX9_put (a1 : Int32) (σ : zSt) : Option zSt := fX9_put_0 a1 σ
set_option maxRecDepth 100000 in
set_option maxHeartbeats 4000000 in
theorem wX9_put_3 {T : zX} (hC : zOk T cX9_put RX9 0 0 61 85) (hN : zNL T = 3) {σ' : zSt} (hQ : zRes T none (none) σ') (K3 : Int32 → Int32 → zSt → Option zSt) (hK3 : ∀ (v1 : Int32) (v2 : Int32) (τ : zSt), K3 v1 v2 τ = some σ' → Z T τ 3 [(0, .ref (zAd T (61))), (1, .int v1), (2, .int v2)] []) (v1 : Int32) (v2 : Int32)  (σ : zSt) (h : fX9_put_3 K3 v1 v2 σ = some σ') : Z T σ 3 [(0, .ref (zAd T (61))), (1, .int v1), (2, .int v2)] [] := by
  unfold fX9_put_3 at h
  refine z_iload_n hC 2 rfl rfl dX9_put_3 ?_
  refine z_if_lt hC 36 (by decide) dX9_put_4 (fun q4_1 => ?_) (fun q4_1 => ?_)
  · replace h := z_t q4_1 h
    obtain rfl := z_so h
    exact z_vret hC hQ dX9_put_36
  · replace h := z_f q4_1 h
    refine z_aload_n hC 0 rfl rfl dX9_put_7 ?_
    refine gX9_1 hC kf_X9_7 dX9_put_8 ?_
    refine z_aload_n hC 0 rfl rfl dX9_put_11 ?_
    refine gX9_2 hC kf_X9_86 (gi σ 61 2) rfl dX9_put_12 ?_
    refine z_iload_n hC 1 rfl rfl dX9_put_15 ?_
    refine z_iload_n hC 2 rfl rfl dX9_put_16 ?_
    refine z_ishr hC dX9_put_17 ?_
    refine z_i2b hC dX9_put_18 ?_
    refine z_g h (fun g19_2 h => ?_)
    refine z_bast hC 62 ⟨by decide, by decide⟩ (zS_62 _) g19_2 dX9_put_19 ?_
    refine z_aload_n hC 0 rfl rfl dX9_put_20 ?_
    refine z_dup hC rfl dX9_put_21 ?_
    refine gX9_2 hC kf_X9_86 (gi σ 61 2) rfl dX9_put_22 ?_
    refine z_iconst hC (1 : Int32) (by decide) dX9_put_25 ?_
    refine z_iadd hC dX9_put_26 ?_
    refine pX9_2 hC kf_X9_86 dX9_put_27 ?_
    refine z_nmE h (fun x30_3 e_x30_3 h => ?_)
    refine z_iinc hC x30_3 [(2, .int x30_3), (0, .ref (zAd T (61))), (1, .int v1)] 2 rfl (by rw [e_x30_3]; rfl) (by rw [hN]; decide) rfl dX9_put_30 ?_
    refine z_goto hC 3 (by decide) dX9_put_33 ?_
    refine z_sub [(0, .ref (zAd T (61))), (1, .int v1), (2, .int x30_3)] [1, 2, 0] rfl ?_
    exact hK3 _ _ _ h
theorem wX9_put_L3 {T : zX} (hC : zOk T cX9_put RX9 0 0 61 85) (hN : zNL T = 3) {σ' : zSt} (hQ : zRes T none (none) σ') (n : Nat) : ∀ (v1 : Int32) (v2 : Int32) (σ : zSt), fX9_put_L3 n v1 v2 σ = some σ' → Z T σ 3 [(0, .ref (zAd T (61))), (1, .int v1), (2, .int v2)] [] := by
  induction n with
  | zero => intro v1 v2 σ h; cases h
  | succ n ih => intro v1 v2 σ h; exact wX9_put_3 hC hN hQ (fX9_put_L3 n) ih v1 v2 σ h
set_option maxRecDepth 100000 in
set_option maxHeartbeats 4000000 in
theorem wX9_put_0 {T : zX} (hC : zOk T cX9_put RX9 0 0 61 85) (hN : zNL T = 3) {σ' : zSt} (hQ : zRes T none (none) σ') (a1 : Int32)  (σ : zSt) (h : fX9_put_0 a1 σ = some σ') : Z T σ 0 [(0, .ref (zAd T (61))), (1, .int a1)] [] := by
  unfold fX9_put_0 at h
  refine z_bipush hC (24 : Int32) (by decide) dX9_put_0 ?_
  refine z_istore_n hC [(2, .int (24 : Int32)), (0, .ref (zAd T (61))), (1, .int a1)] rfl (by rw [hN]; decide) rfl dX9_put_2 ?_
  refine z_sub [(0, .ref (zAd T (61))), (1, .int a1), (2, .int (24 : Int32))] [1, 2, 0] rfl ?_
  exact (wX9_put_L3 hC hN hQ zFU) _ _ _ h
set_option maxRecDepth 100000 in
theorem ctX9_put {l : Launch} {G : zGt} {mk : zSt → zSt} (hm : zM mk 61 85) {a1 : Int32} {σ : zSt} {σ' : zSt} (h : fX9_put a1 σ = some σ') : zMet l G mk yX9_put cX9_put 3 none 0 0 [.ref (gA G (61)), .int a1] σ (none) σ' := by
  unfold fX9_put at h

  refine zMet.of (plainFor_of_name (by decide +kernel)) hm (Nat.le_of_ble_eq_true rfl) (fun T eL eG eM hN hC hQ => ?_)
  subst eL; subst eG; subst eM
  refine z_sub [(0, .ref (zAd T (61))), (1, .int a1)] [0, 1] rfl ?_
  exact wX9_put_0 hC hN hQ _  _ h
noncomputable def fX9_feed_0 (a1 : Int32) (a2 : Int32) (a3 : Int32) (a4 : Int32) (a5 : Int32) (σ : zSt) : Option (Int32 × zSt) := 
    (if ((gi σ 61 2) + (20 : Int32)) ≤ (200 : Int32) then bd1 (fX9_put a1 σ) fun s17_2 => bd1 (fX9_put a2 s17_2) fun s22_3 => bd1 (fX9_put a3 s22_3) fun s27_4 => bd1 (fX9_put a4 s27_4) fun s33_5 => bd1 (fX9_put a5 s33_5) fun s39_6 => some ((gi s39_6 61 2), s39_6)
    else some ((-1 : Int32), σ))
noncomputable def fX9_feed (a1 : Int32) (a2 : Int32) (a3 : Int32) (a4 : Int32) (a5 : Int32) (σ : zSt) : Option (Int32 × zSt) := fX9_feed_0 a1 a2 a3 a4 a5 σ
set_option maxRecDepth 100000 in
set_option maxHeartbeats 4000000 in
theorem wX9_feed_0 {T : zX} (hC : zOk T cX9_feed RX9 1 22 61 85) (hN : zNL T = 6) {r : Int32} {σ' : zSt} (hQ : zRes T (some .int) (some (.int r)) σ') (a1 : Int32) (a2 : Int32) (a3 : Int32) (a4 : Int32) (a5 : Int32)  (σ : zSt) (h : fX9_feed_0 a1 a2 a3 a4 a5 σ = some (r, σ')) : Z T σ 0 [(0, .ref (zAd T (61))), (1, .int a1), (2, .int a2), (3, .int a3), (4, .int a4), (5, .int a5)] [] := by
  unfold fX9_feed_0 at h
  refine z_aload_n hC 0 rfl rfl dX9_feed_0 ?_
  refine gX9_2 hC kf_X9_86 (gi σ 61 2) rfl dX9_feed_1 ?_
  refine z_bipush hC (20 : Int32) (by decide) dX9_feed_4 ?_
  refine z_iadd hC dX9_feed_6 ?_
  refine z_sipush hC (200 : Int32) (by decide) dX9_feed_7 ?_
  refine z_icmp_le hC 15 (by decide) dX9_feed_10 (fun q10_1 => ?_) (fun q10_1 => ?_)
  · replace h := z_t q10_1 h
    refine z_aload_n hC 0 rfl rfl dX9_feed_15 ?_
    refine z_iload_n hC 1 rfl rfl dX9_feed_16 ?_
    refine z_b1 h (fun s17_2 e_s17_2 h => ?_)
    refine z_cV1v hC (ctX9_put hC.hm e_s17_2) (rcX9 hC) kb_X9_put km_X9_89 ⟨by decide, by decide⟩ (Nat.le_of_ble_eq_true rfl) dX9_feed_17 ?_
    refine z_aload_n hC 0 rfl rfl dX9_feed_20 ?_
    refine z_iload_n hC 2 rfl rfl dX9_feed_21 ?_
    refine z_b1 h (fun s22_3 e_s22_3 h => ?_)
    refine z_cV1v hC (ctX9_put hC.hm e_s22_3) (rcX9 hC) kb_X9_put km_X9_89 ⟨by decide, by decide⟩ (Nat.le_of_ble_eq_true rfl) dX9_feed_22 ?_
    refine z_aload_n hC 0 rfl rfl dX9_feed_25 ?_
    refine z_iload_n hC 3 rfl rfl dX9_feed_26 ?_
    refine z_b1 h (fun s27_4 e_s27_4 h => ?_)
    refine z_cV1v hC (ctX9_put hC.hm e_s27_4) (rcX9 hC) kb_X9_put km_X9_89 ⟨by decide, by decide⟩ (Nat.le_of_ble_eq_true rfl) dX9_feed_27 ?_
    refine z_aload_n hC 0 rfl rfl dX9_feed_30 ?_
    refine z_iload hC 4 rfl dX9_feed_31 ?_
    refine z_b1 h (fun s33_5 e_s33_5 h => ?_)
    refine z_cV1v hC (ctX9_put hC.hm e_s33_5) (rcX9 hC) kb_X9_put km_X9_89 ⟨by decide, by decide⟩ (Nat.le_of_ble_eq_true rfl) dX9_feed_33 ?_
    refine z_aload_n hC 0 rfl rfl dX9_feed_36 ?_
    refine z_iload hC 5 rfl dX9_feed_37 ?_
    refine z_b1 h (fun s39_6 e_s39_6 h => ?_)
    refine z_cV1v hC (ctX9_put hC.hm e_s39_6) (rcX9 hC) kb_X9_put km_X9_89 ⟨by decide, by decide⟩ (Nat.le_of_ble_eq_true rfl) dX9_feed_39 ?_
    refine z_aload_n hC 0 rfl rfl dX9_feed_42 ?_
    refine gX9_2 hC kf_X9_86 (gi s39_6 61 2) rfl dX9_feed_43 ?_
    obtain ⟨rfl, rfl⟩ := z_pr h
    exact z_iret hC hQ dX9_feed_46
  · replace h := z_f q10_1 h
    refine z_iconst hC (-1 : Int32) (by decide) dX9_feed_13 ?_
    obtain ⟨rfl, rfl⟩ := z_pr h
    exact z_iret hC hQ dX9_feed_14
set_option maxRecDepth 100000 in
theorem ctX9_feed {l : Launch} {G : zGt} {mk : zSt → zSt} (hm : zM mk 61 85) {a1 : Int32} {a2 : Int32} {a3 : Int32} {a4 : Int32} {a5 : Int32} {σ : zSt} {r : Int32} {σ' : zSt} (h : fX9_feed a1 a2 a3 a4 a5 σ = some (r, σ')) : zMet l G mk yX9_feed cX9_feed 6 (some .int) 1 22 [.ref (gA G (61)), .int a1, .int a2, .int a3, .int a4, .int a5] σ (some (.int r)) σ' := by
  unfold fX9_feed at h

  refine zMet.of (plainFor_of_name (by decide +kernel)) hm (Nat.le_of_ble_eq_true rfl) (fun T eL eG eM hN hC hQ => ?_)
  subst eL; subst eG; subst eM
  refine z_sub [(0, .ref (zAd T (61))), (1, .int a1), (2, .int a2), (3, .int a3), (4, .int a4), (5, .int a5)] [0, 1, 2, 3, 4, 5] rfl ?_
  exact wX9_feed_0 hC hN hQ _ _ _ _ _  _ h
noncomputable def fX9_end_0 (a1 : Int32) (σ : zSt) : Option (Int32 × zSt) := 
    (if a1 < 0 then some ((-1 : Int32), σ)
    else 
      (if a1 ≤ (gi σ 61 2) then some (a1, (si σ 61 2 a1))
      else some ((-1 : Int32), σ)))
noncomputable def fX9_end (a1 : Int32) (σ : zSt) : Option (Int32 × zSt) := fX9_end_0 a1 σ
set_option maxRecDepth 100000 in
set_option maxHeartbeats 4000000 in
theorem wX9_end_0 {T : zX} (hC : zOk T cX9_end RX9 0 0 61 85) (hN : zNL T = 2) {r : Int32} {σ' : zSt} (hQ : zRes T (some .int) (some (.int r)) σ') (a1 : Int32)  (σ : zSt) (h : fX9_end_0 a1 σ = some (r, σ')) : Z T σ 0 [(0, .ref (zAd T (61))), (1, .int a1)] [] := by
  unfold fX9_end_0 at h
  refine z_iload_n hC 1 rfl rfl dX9_end_0 ?_
  refine z_if_lt hC 12 (by decide) dX9_end_1 (fun q1_1 => ?_) (fun q1_1 => ?_)
  · replace h := z_t q1_1 h
    refine z_iconst hC (-1 : Int32) (by decide) dX9_end_12 ?_
    obtain ⟨rfl, rfl⟩ := z_pr h
    exact z_iret hC hQ dX9_end_13
  · replace h := z_f q1_1 h
    refine z_iload_n hC 1 rfl rfl dX9_end_4 ?_
    refine z_aload_n hC 0 rfl rfl dX9_end_5 ?_
    refine gX9_2 hC kf_X9_86 (gi σ 61 2) rfl dX9_end_6 ?_
    refine z_icmp_le hC 14 (by decide) dX9_end_9 (fun q9_2 => ?_) (fun q9_2 => ?_)
    · replace h := z_t q9_2 h
      refine z_aload_n hC 0 rfl rfl dX9_end_14 ?_
      refine z_iload_n hC 1 rfl rfl dX9_end_15 ?_
      refine pX9_2 hC kf_X9_86 dX9_end_16 ?_
      refine z_iload_n hC 1 rfl rfl dX9_end_19 ?_
      obtain ⟨rfl, rfl⟩ := z_pr h
      exact z_iret hC hQ dX9_end_20
    · replace h := z_f q9_2 h
      refine z_iconst hC (-1 : Int32) (by decide) dX9_end_12 ?_
      obtain ⟨rfl, rfl⟩ := z_pr h
      exact z_iret hC hQ dX9_end_13
set_option maxRecDepth 100000 in
theorem ctX9_end {l : Launch} {G : zGt} {mk : zSt → zSt} (hm : zM mk 61 85) {a1 : Int32} {σ : zSt} {r : Int32} {σ' : zSt} (h : fX9_end a1 σ = some (r, σ')) : zMet l G mk yX9_end cX9_end 2 (some .int) 0 0 [.ref (gA G (61)), .int a1] σ (some (.int r)) σ' := by
  unfold fX9_end at h

  refine zMet.of (plainFor_of_name (by decide +kernel)) hm (Nat.le_of_ble_eq_true rfl) (fun T eL eG eM hN hC hQ => ?_)
  subst eL; subst eG; subst eM
  refine z_sub [(0, .ref (zAd T (61))), (1, .int a1)] [0, 1] rfl ?_
  exact wX9_end_0 hC hN hQ _  _ h
noncomputable def fX9_bad_0  (σ : zSt) : Int32 := 
    (if (gi σ 61 11) ≤ 0 then (0 : Int32)
    else (1 : Int32))
noncomputable def fX9_bad  (σ : zSt) : Int32 := fX9_bad_0  σ
set_option maxRecDepth 100000 in
set_option maxHeartbeats 4000000 in
theorem wX9_bad_0 {T : zX} {σ : zSt} (hC : zOk T cX9_bad RX9 0 0 61 85) (hN : zNL T = 1) {r : Int32} (hQ : zRes T (some .boolean) (some (.int r)) σ)   (h : fX9_bad_0  σ = r) : Z T σ 0 [(0, .ref (zAd T (61)))] [] := by
  unfold fX9_bad_0 at h
  refine z_aload_n hC 0 rfl rfl dX9_bad_0 ?_
  refine gX9_11 hC kf_X9_93 (gi σ 61 11) rfl dX9_bad_1 ?_
  refine z_if_le hC 11 (by decide) dX9_bad_4 (fun q4_1 => ?_) (fun q4_1 => ?_)
  · replace h := z_t q4_1 h
    refine z_iconst hC (0 : Int32) (by decide) dX9_bad_11 ?_
    subst h
    exact z_zret hC hQ dX9_bad_12 (by decide)
  · replace h := z_f q4_1 h
    refine z_iconst hC (1 : Int32) (by decide) dX9_bad_7 ?_
    refine z_goto hC 12 (by decide) dX9_bad_8 ?_
    subst h
    exact z_zret hC hQ dX9_bad_12 (by decide)
set_option maxRecDepth 100000 in
theorem ctX9_bad {l : Launch} {G : zGt} {mk : zSt → zSt} (hm : zM mk 61 85)  {σ : zSt} : zMet l G mk yX9_bad cX9_bad 1 (some .boolean) 0 0 [.ref (gA G (61))] σ (some (.int (fX9_bad  σ))) σ := by

  refine zMet.of (plainFor_of_name (by decide +kernel)) hm (Nat.le_of_ble_eq_true rfl) (fun T eL eG eM hN hC hQ => ?_)
  subst eL; subst eG; subst eM
  refine z_sub [(0, .ref (zAd T (61)))] [0] rfl ?_
  exact wX9_bad_0 hC hN hQ   rfl
noncomputable def fX9_fails_0 (a1 : Int32) (a2 : Int32) (σ : zSt) : Option (Int32 × zSt) := 
    (if (gi σ 61 11) = 0 then some ((0 : Int32), (si (si σ 61 11 a1) 61 12 a2))
    else some ((0 : Int32), σ))
noncomputable def fX9_fails (a1 : Int32) (a2 : Int32) (σ : zSt) : Option (Int32 × zSt) := fX9_fails_0 a1 a2 σ
set_option maxRecDepth 100000 in
set_option maxHeartbeats 4000000 in
theorem wX9_fails_0 {T : zX} (hC : zOk T cX9_fails RX9 0 0 61 85) (hN : zNL T = 3) {r : Int32} {σ' : zSt} (hQ : zRes T (some .int) (some (.int r)) σ') (a1 : Int32) (a2 : Int32)  (σ : zSt) (h : fX9_fails_0 a1 a2 σ = some (r, σ')) : Z T σ 0 [(0, .ref (zAd T (61))), (1, .int a1), (2, .int a2)] [] := by
  unfold fX9_fails_0 at h
  refine z_aload_n hC 0 rfl rfl dX9_fails_0 ?_
  refine gX9_11 hC kf_X9_93 (gi σ 61 11) rfl dX9_fails_1 ?_
  refine z_if_ne hC 17 (by decide) dX9_fails_4 (fun q4_1 => ?_) (fun q4_1 => ?_)
  · replace h := z_f q4_1 h
    refine z_iconst hC (0 : Int32) (by decide) dX9_fails_17 ?_
    obtain ⟨rfl, rfl⟩ := z_pr h
    exact z_iret hC hQ dX9_fails_18
  · replace h := z_t q4_1 h
    refine z_aload_n hC 0 rfl rfl dX9_fails_7 ?_
    refine z_iload_n hC 1 rfl rfl dX9_fails_8 ?_
    refine pX9_11 hC kf_X9_93 dX9_fails_9 ?_
    refine z_aload_n hC 0 rfl rfl dX9_fails_12 ?_
    refine z_iload_n hC 2 rfl rfl dX9_fails_13 ?_
    refine pX9_12 hC kf_X9_96 dX9_fails_14 ?_
    refine z_iconst hC (0 : Int32) (by decide) dX9_fails_17 ?_
    obtain ⟨rfl, rfl⟩ := z_pr h
    exact z_iret hC hQ dX9_fails_18
set_option maxRecDepth 100000 in
theorem ctX9_fails {l : Launch} {G : zGt} {mk : zSt → zSt} (hm : zM mk 61 85) {a1 : Int32} {a2 : Int32} {σ : zSt} {r : Int32} {σ' : zSt} (h : fX9_fails a1 a2 σ = some (r, σ')) : zMet l G mk yX9_fails cX9_fails 3 (some .int) 0 0 [.ref (gA G (61)), .int a1, .int a2] σ (some (.int r)) σ' := by
  unfold fX9_fails at h

  refine zMet.of (plainFor_of_name (by decide +kernel)) hm (Nat.le_of_ble_eq_true rfl) (fun T eL eG eM hN hC hQ => ?_)
  subst eL; subst eG; subst eM
  refine z_sub [(0, .ref (zAd T (61))), (1, .int a1), (2, .int a2)] [0, 1, 2] rfl ?_
  exact wX9_fails_0 hC hN hQ _ _  _ h
noncomputable def fX9_peek_38  (σ : zSt) : Option (Int32 × zSt) := 
    (if (gi σ 61 2) ≤ (gi σ 61 10) then some ((-1 : Int32), σ)
    else zg (vp_in (gi σ 61 10) 200) <| some (((gi σ 62 (gi σ 61 10).toNatClampNeg) &&& (255 : Int32)), σ))
noncomputable def fX9_peek_0 (K0 : zSt → Option (Int32 × zSt))  (σ : zSt) : Option (Int32 × zSt) := 
    (if (gi σ 61 2) ≤ (gi σ 61 10) then fX9_peek_38 σ
    else zg (vp_in (gi σ 61 10) 200) <| 
      (if (gi σ 62 (gi σ 61 10).toNatClampNeg) = (32 : Int32) then K0 (si σ 61 10 ((gi σ 61 10) + (1 : Int32)))
      else fX9_peek_38 σ))
noncomputable def fX9_peek_L0 : Nat → zSt → Option (Int32 × zSt)
  | 0, _ => none
  | n + 1, σ => fX9_peek_0 (fX9_peek_L0 n)  σ
noncomputable def fX9_peek  (σ : zSt) : Option (Int32 × zSt) := fX9_peek_L0 zFU  σ
set_option maxRecDepth 100000 in
set_option maxHeartbeats 4000000 in
theorem wX9_peek_38 {T : zX} (hC : zOk T cX9_peek RX9 0 0 61 85) (hN : zNL T = 1) {r : Int32} {σ' : zSt} (hQ : zRes T (some .int) (some (.int r)) σ')   (σ : zSt) (h : fX9_peek_38  σ = some (r, σ')) : Z T σ 38 [(0, .ref (zAd T (61)))] [] := by
  unfold fX9_peek_38 at h
  refine z_aload_n hC 0 rfl rfl dX9_peek_38 ?_
  refine gX9_10 hC kf_X9_99 (gi σ 61 10) rfl dX9_peek_39 ?_
  refine z_aload_n hC 0 rfl rfl dX9_peek_42 ?_
  refine gX9_2 hC kf_X9_86 (gi σ 61 2) rfl dX9_peek_43 ?_
  refine z_icmp_ge hC 65 (by decide) dX9_peek_46 (fun q46_1 => ?_) (fun q46_1 => ?_)
  · replace h := z_t q46_1 h
    refine z_iconst hC (-1 : Int32) (by decide) dX9_peek_65 ?_
    obtain ⟨rfl, rfl⟩ := z_pr h
    exact z_iret hC hQ dX9_peek_66
  · replace h := z_f q46_1 h
    refine z_aload_n hC 0 rfl rfl dX9_peek_49 ?_
    refine gX9_1 hC kf_X9_7 dX9_peek_50 ?_
    refine z_aload_n hC 0 rfl rfl dX9_peek_53 ?_
    refine gX9_10 hC kf_X9_99 (gi σ 61 10) rfl dX9_peek_54 ?_
    refine z_g h (fun g57_2 h => ?_)
    refine z_bald hC 62 ⟨by decide, by decide⟩ (zS_62 _ _ _) g57_2 (gi σ 62 (gi σ 61 10).toNatClampNeg) rfl dX9_peek_57 ?_
    refine z_sipush hC (255 : Int32) (by decide) dX9_peek_58 ?_
    refine z_iand hC dX9_peek_61 ?_
    refine z_goto hC 66 (by decide) dX9_peek_62 ?_
    obtain ⟨rfl, rfl⟩ := z_pr h
    exact z_iret hC hQ dX9_peek_66
set_option maxRecDepth 100000 in
set_option maxHeartbeats 4000000 in
theorem wX9_peek_0 {T : zX} (hC : zOk T cX9_peek RX9 0 0 61 85) (hN : zNL T = 1) {r : Int32} {σ' : zSt} (hQ : zRes T (some .int) (some (.int r)) σ') (K0 : zSt → Option (Int32 × zSt)) (hK0 : ∀ (τ : zSt), K0  τ = some (r, σ') → Z T τ 0 [(0, .ref (zAd T (61)))] [])   (σ : zSt) (h : fX9_peek_0 K0  σ = some (r, σ')) : Z T σ 0 [(0, .ref (zAd T (61)))] [] := by
  unfold fX9_peek_0 at h
  refine z_aload_n hC 0 rfl rfl dX9_peek_0 ?_
  refine gX9_10 hC kf_X9_99 (gi σ 61 10) rfl dX9_peek_1 ?_
  refine z_aload_n hC 0 rfl rfl dX9_peek_4 ?_
  refine gX9_2 hC kf_X9_86 (gi σ 61 2) rfl dX9_peek_5 ?_
  refine z_icmp_ge hC 38 (by decide) dX9_peek_8 (fun q8_1 => ?_) (fun q8_1 => ?_)
  · replace h := z_t q8_1 h
    exact (wX9_peek_38 hC hN hQ ) _ h
  · replace h := z_f q8_1 h
    refine z_aload_n hC 0 rfl rfl dX9_peek_11 ?_
    refine gX9_1 hC kf_X9_7 dX9_peek_12 ?_
    refine z_aload_n hC 0 rfl rfl dX9_peek_15 ?_
    refine gX9_10 hC kf_X9_99 (gi σ 61 10) rfl dX9_peek_16 ?_
    refine z_g h (fun g19_2 h => ?_)
    refine z_bald hC 62 ⟨by decide, by decide⟩ (zS_62 _ _ _) g19_2 (gi σ 62 (gi σ 61 10).toNatClampNeg) rfl dX9_peek_19 ?_
    refine z_bipush hC (32 : Int32) (by decide) dX9_peek_20 ?_
    refine z_icmp_ne hC 38 (by decide) dX9_peek_22 (fun q22_3 => ?_) (fun q22_3 => ?_)
    · replace h := z_f q22_3 h
      exact (wX9_peek_38 hC hN hQ ) _ h
    · replace h := z_t q22_3 h
      refine z_aload_n hC 0 rfl rfl dX9_peek_25 ?_
      refine z_dup hC rfl dX9_peek_26 ?_
      refine gX9_10 hC kf_X9_99 (gi σ 61 10) rfl dX9_peek_27 ?_
      refine z_iconst hC (1 : Int32) (by decide) dX9_peek_30 ?_
      refine z_iadd hC dX9_peek_31 ?_
      refine pX9_10 hC kf_X9_99 dX9_peek_32 ?_
      refine z_goto hC 0 (by decide) dX9_peek_35 ?_
      exact hK0 _ h
theorem wX9_peek_L0 {T : zX} (hC : zOk T cX9_peek RX9 0 0 61 85) (hN : zNL T = 1) {r : Int32} {σ' : zSt} (hQ : zRes T (some .int) (some (.int r)) σ') (n : Nat) : ∀ (σ : zSt), fX9_peek_L0 n  σ = some (r, σ') → Z T σ 0 [(0, .ref (zAd T (61)))] [] := by
  induction n with
  | zero => intro σ h; cases h
  | succ n ih => intro σ h; exact wX9_peek_0 hC hN hQ (fX9_peek_L0 n) ih σ h
set_option maxRecDepth 100000 in
theorem ctX9_peek {l : Launch} {G : zGt} {mk : zSt → zSt} (hm : zM mk 61 85)  {σ : zSt} {r : Int32} {σ' : zSt} (h : fX9_peek  σ = some (r, σ')) : zMet l G mk yX9_peek cX9_peek 1 (some .int) 0 0 [.ref (gA G (61))] σ (some (.int r)) σ' := by
  unfold fX9_peek at h

  refine zMet.of (plainFor_of_name (by decide +kernel)) hm (Nat.le_of_ble_eq_true rfl) (fun T eL eG eM hN hC hQ => ?_)
  subst eL; subst eG; subst eM
  refine z_sub [(0, .ref (zAd T (61)))] [0] rfl ?_
  exact wX9_peek_L0 hC hN hQ zFU   _ h
noncomputable def fX9_isDigit_0 (a1 : Int32) (σ : zSt) : Option Int32 := 
    (if (gi σ 61 2) ≤ a1 then some (0 : Int32)
    else zg (vp_in a1 200) <| 
      (if (gi σ 62 a1.toNatClampNeg) < (48 : Int32) then some (0 : Int32)
      else zg (vp_in a1 200) <| 
        (if (57 : Int32) < (gi σ 62 a1.toNatClampNeg) then some (0 : Int32)
        else some (1 : Int32))))
noncomputable def fX9_isDigit (a1 : Int32) (σ : zSt) : Option Int32 := fX9_isDigit_0 a1 σ
set_option maxRecDepth 100000 in
set_option maxHeartbeats 4000000 in
theorem wX9_isDigit_0 {T : zX} {σ : zSt} (hC : zOk T cX9_isDigit RX9 0 0 61 85) (hN : zNL T = 2) {r : Int32} (hQ : zRes T (some .boolean) (some (.int r)) σ) (a1 : Int32)  (h : fX9_isDigit_0 a1 σ = some r) : Z T σ 0 [(0, .ref (zAd T (61))), (1, .int a1)] [] := by
  unfold fX9_isDigit_0 at h
  refine z_iload_n hC 1 rfl rfl dX9_isDigit_0 ?_
  refine z_aload_n hC 0 rfl rfl dX9_isDigit_1 ?_
  refine gX9_2 hC kf_X9_86 (gi σ 61 2) rfl dX9_isDigit_2 ?_
  refine z_icmp_ge hC 34 (by decide) dX9_isDigit_5 (fun q5_1 => ?_) (fun q5_1 => ?_)
  · replace h := z_t q5_1 h
    refine z_iconst hC (0 : Int32) (by decide) dX9_isDigit_34 ?_
    obtain rfl := z_so h
    exact z_zret hC hQ dX9_isDigit_35 (by decide)
  · replace h := z_f q5_1 h
    refine z_aload_n hC 0 rfl rfl dX9_isDigit_8 ?_
    refine gX9_1 hC kf_X9_7 dX9_isDigit_9 ?_
    refine z_iload_n hC 1 rfl rfl dX9_isDigit_12 ?_
    refine z_g h (fun g13_2 h => ?_)
    refine z_bald hC 62 ⟨by decide, by decide⟩ (zS_62 _ _ _) g13_2 (gi σ 62 a1.toNatClampNeg) rfl dX9_isDigit_13 ?_
    refine z_bipush hC (48 : Int32) (by decide) dX9_isDigit_14 ?_
    refine z_icmp_lt hC 34 (by decide) dX9_isDigit_16 (fun q16_3 => ?_) (fun q16_3 => ?_)
    · replace h := z_t q16_3 h
      refine z_iconst hC (0 : Int32) (by decide) dX9_isDigit_34 ?_
      obtain rfl := z_so h
      exact z_zret hC hQ dX9_isDigit_35 (by decide)
    · replace h := z_f q16_3 h
      refine z_aload_n hC 0 rfl rfl dX9_isDigit_19 ?_
      refine gX9_1 hC kf_X9_7 dX9_isDigit_20 ?_
      refine z_iload_n hC 1 rfl rfl dX9_isDigit_23 ?_
      refine z_g h (fun g24_4 h => ?_)
      refine z_bald hC 62 ⟨by decide, by decide⟩ (zS_62 _ _ _) g24_4 (gi σ 62 a1.toNatClampNeg) rfl dX9_isDigit_24 ?_
      refine z_bipush hC (57 : Int32) (by decide) dX9_isDigit_25 ?_
      refine z_icmp_gt hC 34 (by decide) dX9_isDigit_27 (fun q27_5 => ?_) (fun q27_5 => ?_)
      · replace h := z_t q27_5 h
        refine z_iconst hC (0 : Int32) (by decide) dX9_isDigit_34 ?_
        obtain rfl := z_so h
        exact z_zret hC hQ dX9_isDigit_35 (by decide)
      · replace h := z_f q27_5 h
        refine z_iconst hC (1 : Int32) (by decide) dX9_isDigit_30 ?_
        refine z_goto hC 35 (by decide) dX9_isDigit_31 ?_
        obtain rfl := z_so h
        exact z_zret hC hQ dX9_isDigit_35 (by decide)
set_option maxRecDepth 100000 in
theorem ctX9_isDigit {l : Launch} {G : zGt} {mk : zSt → zSt} (hm : zM mk 61 85) {a1 : Int32} {σ : zSt} {r : Int32} (h : fX9_isDigit a1 σ = some r) : zMet l G mk yX9_isDigit cX9_isDigit 2 (some .boolean) 0 0 [.ref (gA G (61)), .int a1] σ (some (.int r)) σ := by
  unfold fX9_isDigit at h

  refine zMet.of (plainFor_of_name (by decide +kernel)) hm (Nat.le_of_ble_eq_true rfl) (fun T eL eG eM hN hC hQ => ?_)
  subst eL; subst eG; subst eM
  refine z_sub [(0, .ref (zAd T (61))), (1, .int a1)] [0, 1] rfl ?_
  exact wX9_isDigit_0 hC hN hQ _  h
noncomputable def fX9_meets_0 (a1 : Int32) (σ : zSt) : Option zSt := 
    (if ((gi σ 61 15) + (1 : Int32)) ≤ (60 : Int32) then some (si σ 61 15 ((gi σ 61 15) + (1 : Int32)))
    else bd2 (fX9_fails (3 : Int32) a1 (si σ 61 15 ((gi σ 61 15) + (1 : Int32)))) fun r22_2 s22_3 => some s22_3)
noncomputable def fX9_meets (a1 : Int32) (σ : zSt) : Option zSt := fX9_meets_0 a1 σ
set_option maxRecDepth 100000 in
set_option maxHeartbeats 4000000 in
theorem wX9_meets_0 {T : zX} (hC : zOk T cX9_meets RX9 1 22 61 85) (hN : zNL T = 2) {σ' : zSt} (hQ : zRes T none (none) σ') (a1 : Int32)  (σ : zSt) (h : fX9_meets_0 a1 σ = some σ') : Z T σ 0 [(0, .ref (zAd T (61))), (1, .int a1)] [] := by
  unfold fX9_meets_0 at h
  refine z_aload_n hC 0 rfl rfl dX9_meets_0 ?_
  refine z_dup hC rfl dX9_meets_1 ?_
  refine gX9_15 hC kf_X9_102 (gi σ 61 15) rfl dX9_meets_2 ?_
  refine z_iconst hC (1 : Int32) (by decide) dX9_meets_5 ?_
  refine z_iadd hC dX9_meets_6 ?_
  refine pX9_15 hC kf_X9_102 dX9_meets_7 ?_
  refine z_aload_n hC 0 rfl rfl dX9_meets_10 ?_
  refine gX9_15 hC kf_X9_102 ((gi σ 61 15) + (1 : Int32)) rfl dX9_meets_11 ?_
  refine z_bipush hC (60 : Int32) (by decide) dX9_meets_14 ?_
  refine z_icmp_le hC 26 (by decide) dX9_meets_16 (fun q16_1 => ?_) (fun q16_1 => ?_)
  · replace h := z_t q16_1 h
    obtain rfl := z_so h
    exact z_vret hC hQ dX9_meets_26
  · replace h := z_f q16_1 h
    refine z_aload_n hC 0 rfl rfl dX9_meets_19 ?_
    refine z_iconst hC (3 : Int32) (by decide) dX9_meets_20 ?_
    refine z_iload_n hC 1 rfl rfl dX9_meets_21 ?_
    refine z_b2 h (fun r22_2 s22_3 e_r22_2 h => ?_)
    refine z_cV2r hC (ctX9_fails hC.hm e_r22_2) (rcX9 hC) kb_X9_fails km_X9_105 ⟨by decide, by decide⟩ (Nat.le_of_ble_eq_true rfl) dX9_meets_22 ?_
    refine z_pop hC rfl dX9_meets_25 ?_
    obtain rfl := z_so h
    exact z_vret hC hQ dX9_meets_26
set_option maxRecDepth 100000 in
theorem ctX9_meets {l : Launch} {G : zGt} {mk : zSt → zSt} (hm : zM mk 61 85) {a1 : Int32} {σ : zSt} {σ' : zSt} (h : fX9_meets a1 σ = some σ') : zMet l G mk yX9_meets cX9_meets 2 none 1 22 [.ref (gA G (61)), .int a1] σ (none) σ' := by
  unfold fX9_meets at h

  refine zMet.of (plainFor_of_name (by decide +kernel)) hm (Nat.le_of_ble_eq_true rfl) (fun T eL eG eM hN hC hQ => ?_)
  subst eL; subst eG; subst eM
  refine z_sub [(0, .ref (zAd T (61))), (1, .int a1)] [0, 1] rfl ?_
  exact wX9_meets_0 hC hN hQ _  _ h
noncomputable def fX9_make_0 (a1 : Int32) (a2 : Int32) (a3 : Int32) (σ : zSt) : Option (Int32 × zSt) := 
    (if (fX9_bad σ) = 0 then nm (((60 : Int32) * (gi σ 61 3)) + (gi σ 61 13)) fun x21_2 => zg (vp_in x21_2 480) <| zg (vp_in x21_2 480) <| zg (vp_in x21_2 480) <| some (x21_2, (si (si (si (si σ 64 x21_2.toNatClampNeg a1) 65 x21_2.toNatClampNeg a2) 66 x21_2.toNatClampNeg a3) 61 13 ((gi σ 61 13) + (1 : Int32))))
    else some ((0 : Int32), σ))
noncomputable def fX9_make (a1 : Int32) (a2 : Int32) (a3 : Int32) (σ : zSt) : Option (Int32 × zSt) := fX9_make_0 a1 a2 a3 σ
set_option maxRecDepth 100000 in
set_option maxHeartbeats 4000000 in
theorem wX9_make_0 {T : zX} (hC : zOk T cX9_make RX9 1 20 61 85) (hN : zNL T = 5) {r : Int32} {σ' : zSt} (hQ : zRes T (some .int) (some (.int r)) σ') (a1 : Int32) (a2 : Int32) (a3 : Int32)  (σ : zSt) (h : fX9_make_0 a1 a2 a3 σ = some (r, σ')) : Z T σ 0 [(0, .ref (zAd T (61))), (1, .int a1), (2, .int a2), (3, .int a3)] [] := by
  unfold fX9_make_0 at h
  refine z_aload_n hC 0 rfl rfl dX9_make_0 ?_
  refine z_cV0r hC (ctX9_bad hC.hm) (rcX9 hC) kb_X9_bad km_X9_109 ⟨by decide, by decide⟩ (Nat.le_of_ble_eq_true rfl) dX9_make_1 ?_
  refine z_if_eq hC 9 (by decide) dX9_make_4 (fun q4_1 => ?_) (fun q4_1 => ?_)
  · replace h := z_t q4_1 h
    refine z_bipush hC (60 : Int32) (by decide) dX9_make_9 ?_
    refine z_aload_n hC 0 rfl rfl dX9_make_11 ?_
    refine gX9_3 hC kf_X9_113 (gi σ 61 3) rfl dX9_make_12 ?_
    refine z_imul hC dX9_make_15 ?_
    refine z_aload_n hC 0 rfl rfl dX9_make_16 ?_
    refine gX9_13 hC kf_X9_116 (gi σ 61 13) rfl dX9_make_17 ?_
    refine z_iadd hC dX9_make_20 ?_
    refine z_nmI h (fun x21_2 h => ?_)
    refine z_istore hC [(4, .int x21_2), (0, .ref (zAd T (61))), (1, .int a1), (2, .int a2), (3, .int a3)] (by rw [hN]; decide) rfl dX9_make_21 ?_
    refine z_aload_n hC 1 rfl rfl dX9_make_23 ?_
    refine gX9_5 hC kf_X9_17 dX9_make_24 ?_
    refine z_iload hC 0 rfl dX9_make_27 ?_
    refine z_iload_n hC 2 rfl rfl dX9_make_29 ?_
    refine z_g h (fun g30_3 h => ?_)
    refine z_iast hC 64 ⟨by decide, by decide⟩ (zS_64 _) g30_3 dX9_make_30 ?_
    refine z_aload_n hC 1 rfl rfl dX9_make_31 ?_
    refine gX9_6 hC kf_X9_20 dX9_make_32 ?_
    refine z_iload hC 0 rfl dX9_make_35 ?_
    refine z_iload_n hC 3 rfl rfl dX9_make_37 ?_
    refine z_g h (fun g38_4 h => ?_)
    refine z_iast hC 65 ⟨by decide, by decide⟩ (zS_65 _) g38_4 dX9_make_38 ?_
    refine z_aload_n hC 1 rfl rfl dX9_make_39 ?_
    refine gX9_7 hC kf_X9_23 dX9_make_40 ?_
    refine z_iload hC 0 rfl dX9_make_43 ?_
    refine z_iload_n hC 4 rfl rfl dX9_make_45 ?_
    refine z_g h (fun g46_5 h => ?_)
    refine z_iast hC 66 ⟨by decide, by decide⟩ (zS_66 _) g46_5 dX9_make_46 ?_
    refine z_aload_n hC 1 rfl rfl dX9_make_47 ?_
    refine z_dup hC rfl dX9_make_48 ?_
    refine gX9_13 hC kf_X9_116 (gi σ 61 13) rfl dX9_make_49 ?_
    refine z_iconst hC (1 : Int32) (by decide) dX9_make_52 ?_
    refine z_iadd hC dX9_make_53 ?_
    refine pX9_13 hC kf_X9_116 dX9_make_54 ?_
    refine z_iload hC 0 rfl dX9_make_57 ?_
    obtain ⟨rfl, rfl⟩ := z_pr h
    exact z_iret hC hQ dX9_make_59
  · replace h := z_f q4_1 h
    refine z_iconst hC (0 : Int32) (by decide) dX9_make_7 ?_
    obtain ⟨rfl, rfl⟩ := z_pr h
    exact z_iret hC hQ dX9_make_8
set_option maxRecDepth 100000 in
theorem ctX9_make {l : Launch} {G : zGt} {mk : zSt → zSt} (hm : zM mk 61 85) {a1 : Int32} {a2 : Int32} {a3 : Int32} {σ : zSt} {r : Int32} {σ' : zSt} (h : fX9_make a1 a2 a3 σ = some (r, σ')) : zMet l G mk yX9_make cX9_make 5 (some .int) 1 20 [.ref (gA G (61)), .int a1, .int a2, .int a3] σ (some (.int r)) σ' := by
  unfold fX9_make at h

  refine zMet.of (plainFor_of_name (by decide +kernel)) hm (Nat.le_of_ble_eq_true rfl) (fun T eL eG eM hN hC hQ => ?_)
  subst eL; subst eG; subst eM
  refine z_sub [(0, .ref (zAd T (61))), (1, .int a1), (2, .int a2), (3, .int a3)] [0, 1, 2, 3] rfl ?_
  exact wX9_make_0 hC hN hQ _ _ _  _ h
noncomputable def fX9_wordEnd_54 (K5 : Int32 → zSt → Option Int32) (v1 : Int32) (σ : zSt) : Option Int32 := zg (vp_in v1 200) <| 
    (if (gi σ 62 v1.toNatClampNeg) < (65 : Int32) then some v1
    else zg (vp_in v1 200) <| 
      (if (90 : Int32) < (gi σ 62 v1.toNatClampNeg) then some v1
      else nm (v1 + (1 : Int32)) fun x76_5 => K5 x76_5 σ))
noncomputable def fX9_wordEnd_5 (K5 : Int32 → zSt → Option Int32) (v1 : Int32) (σ : zSt) : Option Int32 := 
    (if (gi σ 61 2) ≤ v1 then some v1
    else bd1 (fX9_isDigit v1 σ) fun r15_2 => 
      (if r15_2 = 0 then zg (vp_in v1 200) <| 
        (if (gi σ 62 v1.toNatClampNeg) = (46 : Int32) then nm (v1 + (1 : Int32)) fun x76_7 => K5 x76_7 σ
        else zg (vp_in v1 200) <| 
          (if (gi σ 62 v1.toNatClampNeg) < (97 : Int32) then fX9_wordEnd_54 K5 v1 σ
          else zg (vp_in v1 200) <| 
            (if (gi σ 62 v1.toNatClampNeg) ≤ (122 : Int32) then nm (v1 + (1 : Int32)) fun x76_12 => K5 x76_12 σ
            else fX9_wordEnd_54 K5 v1 σ)))
      else nm (v1 + (1 : Int32)) fun x76_4 => K5 x76_4 σ))
noncomputable def fX9_wordEnd_L5 : Nat → Int32 → zSt → Option Int32
  | 0, _, _ => none
  | n + 1, v1, σ => fX9_wordEnd_5 (fX9_wordEnd_L5 n) v1 σ
noncomputable def fX9_wordEnd_0  (σ : zSt) : Option Int32 := nm (gi σ 61 10) fun x4_1 => fX9_wordEnd_L5 zFU x4_1 σ
noncomputable def fX9_wordEnd  (σ : zSt) : Option Int32 := fX9_wordEnd_0  σ
set_option maxRecDepth 100000 in
set_option maxHeartbeats 4000000 in
theorem wX9_wordEnd_54 {T : zX} {σ : zSt} (hC : zOk T cX9_wordEnd RX9 1 21 61 85) (hN : zNL T = 2) {r : Int32} (hQ : zRes T (some .int) (some (.int r)) σ) (K5 : Int32 → zSt → Option Int32) (hK5 : ∀ (v1 : Int32), K5 v1 σ = some r → Z T σ 5 [(0, .ref (zAd T (61))), (1, .int v1)] []) (v1 : Int32)  (h : fX9_wordEnd_54 K5 v1 σ = some r) : Z T σ 54 [(0, .ref (zAd T (61))), (1, .int v1)] [] := by
  unfold fX9_wordEnd_54 at h
  refine z_aload_n hC 0 rfl rfl dX9_wordEnd_54 ?_
  refine gX9_1 hC kf_X9_7 dX9_wordEnd_55 ?_
  refine z_iload_n hC 1 rfl rfl dX9_wordEnd_58 ?_
  refine z_g h (fun g59_1 h => ?_)
  refine z_bald hC 62 ⟨by decide, by decide⟩ (zS_62 _ _ _) g59_1 (gi σ 62 v1.toNatClampNeg) rfl dX9_wordEnd_59 ?_
  refine z_bipush hC (65 : Int32) (by decide) dX9_wordEnd_60 ?_
  refine z_icmp_lt hC 82 (by decide) dX9_wordEnd_62 (fun q62_2 => ?_) (fun q62_2 => ?_)
  · replace h := z_t q62_2 h
    refine z_iload_n hC 1 rfl rfl dX9_wordEnd_82 ?_
    obtain rfl := z_so h
    exact z_iret hC hQ dX9_wordEnd_83
  · replace h := z_f q62_2 h
    refine z_aload_n hC 0 rfl rfl dX9_wordEnd_65 ?_
    refine gX9_1 hC kf_X9_7 dX9_wordEnd_66 ?_
    refine z_iload_n hC 1 rfl rfl dX9_wordEnd_69 ?_
    refine z_g h (fun g70_3 h => ?_)
    refine z_bald hC 62 ⟨by decide, by decide⟩ (zS_62 _ _ _) g70_3 (gi σ 62 v1.toNatClampNeg) rfl dX9_wordEnd_70 ?_
    refine z_bipush hC (90 : Int32) (by decide) dX9_wordEnd_71 ?_
    refine z_icmp_gt hC 82 (by decide) dX9_wordEnd_73 (fun q73_4 => ?_) (fun q73_4 => ?_)
    · replace h := z_t q73_4 h
      refine z_iload_n hC 1 rfl rfl dX9_wordEnd_82 ?_
      obtain rfl := z_so h
      exact z_iret hC hQ dX9_wordEnd_83
    · replace h := z_f q73_4 h
      refine z_nmE h (fun x76_5 e_x76_5 h => ?_)
      refine z_iinc hC x76_5 [(1, .int x76_5), (0, .ref (zAd T (61)))] 1 rfl (by rw [e_x76_5]; rfl) (by rw [hN]; decide) rfl dX9_wordEnd_76 ?_
      refine z_goto hC 5 (by decide) dX9_wordEnd_79 ?_
      refine z_sub [(0, .ref (zAd T (61))), (1, .int x76_5)] [1, 0] rfl ?_
      exact hK5 _ h
set_option maxRecDepth 100000 in
set_option maxHeartbeats 4000000 in
theorem wX9_wordEnd_5 {T : zX} {σ : zSt} (hC : zOk T cX9_wordEnd RX9 1 21 61 85) (hN : zNL T = 2) {r : Int32} (hQ : zRes T (some .int) (some (.int r)) σ) (K5 : Int32 → zSt → Option Int32) (hK5 : ∀ (v1 : Int32), K5 v1 σ = some r → Z T σ 5 [(0, .ref (zAd T (61))), (1, .int v1)] []) (v1 : Int32)  (h : fX9_wordEnd_5 K5 v1 σ = some r) : Z T σ 5 [(0, .ref (zAd T (61))), (1, .int v1)] [] := by
  unfold fX9_wordEnd_5 at h
  refine z_iload_n hC 1 rfl rfl dX9_wordEnd_5 ?_
  refine z_aload_n hC 0 rfl rfl dX9_wordEnd_6 ?_
  refine gX9_2 hC kf_X9_86 (gi σ 61 2) rfl dX9_wordEnd_7 ?_
  refine z_icmp_ge hC 82 (by decide) dX9_wordEnd_10 (fun q10_1 => ?_) (fun q10_1 => ?_)
  · replace h := z_t q10_1 h
    refine z_iload_n hC 1 rfl rfl dX9_wordEnd_82 ?_
    obtain rfl := z_so h
    exact z_iret hC hQ dX9_wordEnd_83
  · replace h := z_f q10_1 h
    refine z_aload_n hC 0 rfl rfl dX9_wordEnd_13 ?_
    refine z_iload_n hC 1 rfl rfl dX9_wordEnd_14 ?_
    refine z_b1 h (fun r15_2 e_r15_2 h => ?_)
    refine z_cV1r hC (ctX9_isDigit hC.hm e_r15_2) (rcX9 hC) kb_X9_isDigit km_X9_139 ⟨by decide, by decide⟩ (Nat.le_of_ble_eq_true rfl) dX9_wordEnd_15 ?_
    refine z_if_ne hC 76 (by decide) dX9_wordEnd_18 (fun q18_3 => ?_) (fun q18_3 => ?_)
    · replace h := z_f q18_3 h
      refine z_nmE h (fun x76_4 e_x76_4 h => ?_)
      refine z_iinc hC x76_4 [(1, .int x76_4), (0, .ref (zAd T (61)))] 1 rfl (by rw [e_x76_4]; rfl) (by rw [hN]; decide) rfl dX9_wordEnd_76 ?_
      refine z_goto hC 5 (by decide) dX9_wordEnd_79 ?_
      refine z_sub [(0, .ref (zAd T (61))), (1, .int x76_4)] [1, 0] rfl ?_
      exact hK5 _ h
    · replace h := z_t q18_3 h
      refine z_aload_n hC 0 rfl rfl dX9_wordEnd_21 ?_
      refine gX9_1 hC kf_X9_7 dX9_wordEnd_22 ?_
      refine z_iload_n hC 1 rfl rfl dX9_wordEnd_25 ?_
      refine z_g h (fun g26_5 h => ?_)
      refine z_bald hC 62 ⟨by decide, by decide⟩ (zS_62 _ _ _) g26_5 (gi σ 62 v1.toNatClampNeg) rfl dX9_wordEnd_26 ?_
      refine z_bipush hC (46 : Int32) (by decide) dX9_wordEnd_27 ?_
      refine z_icmp_eq hC 76 (by decide) dX9_wordEnd_29 (fun q29_6 => ?_) (fun q29_6 => ?_)
      · replace h := z_t q29_6 h
        refine z_nmE h (fun x76_7 e_x76_7 h => ?_)
        refine z_iinc hC x76_7 [(1, .int x76_7), (0, .ref (zAd T (61)))] 1 rfl (by rw [e_x76_7]; rfl) (by rw [hN]; decide) rfl dX9_wordEnd_76 ?_
        refine z_goto hC 5 (by decide) dX9_wordEnd_79 ?_
        refine z_sub [(0, .ref (zAd T (61))), (1, .int x76_7)] [1, 0] rfl ?_
        exact hK5 _ h
      · replace h := z_f q29_6 h
        refine z_aload_n hC 0 rfl rfl dX9_wordEnd_32 ?_
        refine gX9_1 hC kf_X9_7 dX9_wordEnd_33 ?_
        refine z_iload_n hC 1 rfl rfl dX9_wordEnd_36 ?_
        refine z_g h (fun g37_8 h => ?_)
        refine z_bald hC 62 ⟨by decide, by decide⟩ (zS_62 _ _ _) g37_8 (gi σ 62 v1.toNatClampNeg) rfl dX9_wordEnd_37 ?_
        refine z_bipush hC (97 : Int32) (by decide) dX9_wordEnd_38 ?_
        refine z_icmp_lt hC 54 (by decide) dX9_wordEnd_40 (fun q40_9 => ?_) (fun q40_9 => ?_)
        · replace h := z_t q40_9 h
          exact (wX9_wordEnd_54 hC hN hQ K5 hK5 ) _ h
        · replace h := z_f q40_9 h
          refine z_aload_n hC 0 rfl rfl dX9_wordEnd_43 ?_
          refine gX9_1 hC kf_X9_7 dX9_wordEnd_44 ?_
          refine z_iload_n hC 1 rfl rfl dX9_wordEnd_47 ?_
          refine z_g h (fun g48_10 h => ?_)
          refine z_bald hC 62 ⟨by decide, by decide⟩ (zS_62 _ _ _) g48_10 (gi σ 62 v1.toNatClampNeg) rfl dX9_wordEnd_48 ?_
          refine z_bipush hC (122 : Int32) (by decide) dX9_wordEnd_49 ?_
          refine z_icmp_le hC 76 (by decide) dX9_wordEnd_51 (fun q51_11 => ?_) (fun q51_11 => ?_)
          · replace h := z_t q51_11 h
            refine z_nmE h (fun x76_12 e_x76_12 h => ?_)
            refine z_iinc hC x76_12 [(1, .int x76_12), (0, .ref (zAd T (61)))] 1 rfl (by rw [e_x76_12]; rfl) (by rw [hN]; decide) rfl dX9_wordEnd_76 ?_
            refine z_goto hC 5 (by decide) dX9_wordEnd_79 ?_
            refine z_sub [(0, .ref (zAd T (61))), (1, .int x76_12)] [1, 0] rfl ?_
            exact hK5 _ h
          · replace h := z_f q51_11 h
            exact (wX9_wordEnd_54 hC hN hQ K5 hK5 ) _ h
theorem wX9_wordEnd_L5 {T : zX} {σ : zSt} (hC : zOk T cX9_wordEnd RX9 1 21 61 85) (hN : zNL T = 2) {r : Int32} (hQ : zRes T (some .int) (some (.int r)) σ) (n : Nat) : ∀ (v1 : Int32), fX9_wordEnd_L5 n v1 σ = some r → Z T σ 5 [(0, .ref (zAd T (61))), (1, .int v1)] [] := by
  induction n with
  | zero => intro v1 h; cases h
  | succ n ih => intro v1 h; exact wX9_wordEnd_5 hC hN hQ (fX9_wordEnd_L5 n) ih v1 h
set_option maxRecDepth 100000 in
set_option maxHeartbeats 4000000 in
theorem wX9_wordEnd_0 {T : zX} {σ : zSt} (hC : zOk T cX9_wordEnd RX9 1 21 61 85) (hN : zNL T = 2) {r : Int32} (hQ : zRes T (some .int) (some (.int r)) σ)   (h : fX9_wordEnd_0  σ = some r) : Z T σ 0 [(0, .ref (zAd T (61)))] [] := by
  unfold fX9_wordEnd_0 at h
  refine z_aload_n hC 0 rfl rfl dX9_wordEnd_0 ?_
  refine gX9_10 hC kf_X9_99 (gi σ 61 10) rfl dX9_wordEnd_1 ?_
  refine z_nmI h (fun x4_1 h => ?_)
  refine z_istore_n hC [(1, .int x4_1), (0, .ref (zAd T (61)))] rfl (by rw [hN]; decide) rfl dX9_wordEnd_4 ?_
  refine z_sub [(0, .ref (zAd T (61))), (1, .int x4_1)] [1, 0] rfl ?_
  exact (wX9_wordEnd_L5 hC hN hQ zFU) _ h
set_option maxRecDepth 100000 in
theorem ctX9_wordEnd {l : Launch} {G : zGt} {mk : zSt → zSt} (hm : zM mk 61 85)  {σ : zSt} {r : Int32} (h : fX9_wordEnd  σ = some r) : zMet l G mk yX9_wordEnd cX9_wordEnd 2 (some .int) 1 21 [.ref (gA G (61))] σ (some (.int r)) σ := by
  unfold fX9_wordEnd at h

  refine zMet.of (plainFor_of_name (by decide +kernel)) hm (Nat.le_of_ble_eq_true rfl) (fun T eL eG eM hN hC hQ => ?_)
  subst eL; subst eG; subst eM
  refine z_sub [(0, .ref (zAd T (61)))] [0] rfl ?_
  exact wX9_wordEnd_0 hC hN hQ   h
noncomputable def fX9_stands_22 (K22 : Nat → Int32 → Int32 → zSt → Option Int32) (v1 : Nat) (v3 : Int32) (v4 : Int32) (σ : zSt) : Option Int32 := bd1 (fJ0_length_8abf5 v1) fun r25_1 => 
    (if r25_1 ≤ v4 then zg (narrow .boolean (.int v3) = .int v3) <| some v3
    else 
      (if v3 = 0 then zg (narrow .boolean (.int v3) = .int v3) <| some v3
      else zg (vp_in ((gi σ 61 10) + v4) 200) <| bd1 (fJ0_charAt_5068e v1 v4) fun r50_7 => 
        (if (gi σ 62 ((gi σ 61 10) + v4).toNatClampNeg) = r50_7 then nm (v4 + (1 : Int32)) fun x62_10 => K22 v1 (1 : Int32) x62_10 σ
        else nm (v4 + (1 : Int32)) fun x62_9 => K22 v1 (0 : Int32) x62_9 σ)))
noncomputable def fX9_stands_L22 : Nat → Nat → Int32 → Int32 → zSt → Option Int32
  | 0, _, _, _, _ => none
  | n + 1, v1, v3, v4, σ => fX9_stands_22 (fX9_stands_L22 n) v1 v3 v4 σ
noncomputable def fX9_stands_0 (a1 : Nat) (a2 : Int32) (σ : zSt) : Option Int32 := bd1 (fJ0_length_8abf5 a1) fun r7_1 => 
    (if (a2 - (gi σ 61 10)) = r7_1 then fX9_stands_L22 zFU a1 (1 : Int32) (0 : Int32) σ
    else fX9_stands_L22 zFU a1 (0 : Int32) (0 : Int32) σ)
noncomputable def fX9_stands (a1 : Nat) (a2 : Int32) (σ : zSt) : Option Int32 := zg (a1 < 9) <| fX9_stands_0 a1 a2 σ
set_option maxRecDepth 100000 in
set_option maxHeartbeats 4000000 in
theorem wX9_stands_22 {T : zX} {σ : zSt} (hC : zOk T cX9_stands RX9 4 85 61 85) (hN : zNL T = 5) {r : Int32} (hQ : zRes T (some .boolean) (some (.int r)) σ) (K22 : Nat → Int32 → Int32 → zSt → Option Int32) (hK22 : ∀ (v1 : Nat) (v3 : Int32) (v4 : Int32) (hk_v1 : v1 < 9), K22 v1 v3 v4 σ = some r → Z T σ 22 [(0, .ref (zAd T (61))), (1, .ref (zSk T v1)), (3, .int v3), (4, .int v4)] []) (v1 : Nat) (v3 : Int32) (v4 : Int32) (hk_v1 : v1 < 9) (h : fX9_stands_22 K22 v1 v3 v4 σ = some r) : Z T σ 22 [(0, .ref (zAd T (61))), (1, .ref (zSk T v1)), (3, .int v3), (4, .int v4)] [] := by
  unfold fX9_stands_22 at h
  refine z_iload hC 3 rfl dX9_stands_22 ?_
  refine z_aload_n hC 1 rfl rfl dX9_stands_24 ?_
  refine z_b1 h (fun r25_1 e_r25_1 h => ?_)
  refine z_cV0r hC (ctJ0_length_8abf5 hC.hm e_r25_1) (rcJ0 hC hk_v1) kb_J0_length_8abf5 km_X9_143 ⟨by decide, by decide⟩ (Nat.le_of_ble_eq_true rfl) dX9_stands_25 ?_
  refine z_icmp_ge hC 68 (by decide) dX9_stands_28 (fun q28_2 => ?_) (fun q28_2 => ?_)
  · replace h := z_t q28_2 h
    refine z_iload_n hC 2 rfl rfl dX9_stands_68 ?_
    refine z_g h (fun g69_3 h => ?_)
    obtain rfl := z_so h
    exact z_zret hC hQ dX9_stands_69 g69_3
  · replace h := z_f q28_2 h
    refine z_iload_n hC 2 rfl rfl dX9_stands_31 ?_
    refine z_if_eq hC 68 (by decide) dX9_stands_32 (fun q32_4 => ?_) (fun q32_4 => ?_)
    · replace h := z_t q32_4 h
      refine z_iload_n hC 2 rfl rfl dX9_stands_68 ?_
      refine z_g h (fun g69_5 h => ?_)
      obtain rfl := z_so h
      exact z_zret hC hQ dX9_stands_69 g69_5
    · replace h := z_f q32_4 h
      refine z_aload_n hC 0 rfl rfl dX9_stands_35 ?_
      refine gX9_1 hC kf_X9_7 dX9_stands_36 ?_
      refine z_aload_n hC 0 rfl rfl dX9_stands_39 ?_
      refine gX9_10 hC kf_X9_99 (gi σ 61 10) rfl dX9_stands_40 ?_
      refine z_iload hC 3 rfl dX9_stands_43 ?_
      refine z_iadd hC dX9_stands_45 ?_
      refine z_g h (fun g46_6 h => ?_)
      refine z_bald hC 62 ⟨by decide, by decide⟩ (zS_62 _ _ _) g46_6 (gi σ 62 ((gi σ 61 10) + v4).toNatClampNeg) rfl dX9_stands_46 ?_
      refine z_aload_n hC 1 rfl rfl dX9_stands_47 ?_
      refine z_iload hC 3 rfl dX9_stands_48 ?_
      refine z_b1 h (fun r50_7 e_r50_7 h => ?_)
      refine z_cV1r hC (ctJ0_charAt_5068e hC.hm e_r50_7) (rcJ0 hC hk_v1) kb_J0_charAt_5068e km_X9_148 ⟨by decide, by decide⟩ (Nat.le_of_ble_eq_true rfl) dX9_stands_50 ?_
      refine z_icmp_ne hC 60 (by decide) dX9_stands_53 (fun q53_8 => ?_) (fun q53_8 => ?_)
      · replace h := z_f q53_8 h
        refine z_iconst hC (0 : Int32) (by decide) dX9_stands_60 ?_
        refine z_istore_n hC [(3, .int (0 : Int32)), (0, .ref (zAd T (61))), (1, .ref (zSk T v1)), (4, .int v4)] rfl (by rw [hN]; decide) rfl dX9_stands_61 ?_
        refine z_nmE h (fun x62_9 e_x62_9 h => ?_)
        refine z_iinc hC x62_9 [(4, .int x62_9), (3, .int (0 : Int32)), (0, .ref (zAd T (61))), (1, .ref (zSk T v1))] 3 rfl (by rw [e_x62_9]; rfl) (by rw [hN]; decide) rfl dX9_stands_62 ?_
        refine z_goto hC 22 (by decide) dX9_stands_65 ?_
        refine z_sub [(0, .ref (zAd T (61))), (1, .ref (zSk T v1)), (3, .int (0 : Int32)), (4, .int x62_9)] [2, 3, 1, 0] rfl ?_
        exact hK22 _ _ _ hk_v1 h
      · replace h := z_t q53_8 h
        refine z_iconst hC (1 : Int32) (by decide) dX9_stands_56 ?_
        refine z_goto hC 61 (by decide) dX9_stands_57 ?_
        refine z_istore_n hC [(3, .int (1 : Int32)), (0, .ref (zAd T (61))), (1, .ref (zSk T v1)), (4, .int v4)] rfl (by rw [hN]; decide) rfl dX9_stands_61 ?_
        refine z_nmE h (fun x62_10 e_x62_10 h => ?_)
        refine z_iinc hC x62_10 [(4, .int x62_10), (3, .int (1 : Int32)), (0, .ref (zAd T (61))), (1, .ref (zSk T v1))] 3 rfl (by rw [e_x62_10]; rfl) (by rw [hN]; decide) rfl dX9_stands_62 ?_
        refine z_goto hC 22 (by decide) dX9_stands_65 ?_
        refine z_sub [(0, .ref (zAd T (61))), (1, .ref (zSk T v1)), (3, .int (1 : Int32)), (4, .int x62_10)] [2, 3, 1, 0] rfl ?_
        exact hK22 _ _ _ hk_v1 h
theorem wX9_stands_L22 {T : zX} {σ : zSt} (hC : zOk T cX9_stands RX9 4 85 61 85) (hN : zNL T = 5) {r : Int32} (hQ : zRes T (some .boolean) (some (.int r)) σ) (n : Nat) : ∀ (v1 : Nat) (v3 : Int32) (v4 : Int32) (hk_v1 : v1 < 9), fX9_stands_L22 n v1 v3 v4 σ = some r → Z T σ 22 [(0, .ref (zAd T (61))), (1, .ref (zSk T v1)), (3, .int v3), (4, .int v4)] [] := by
  induction n with
  | zero => intro v1 v3 v4 hk_v1 h; cases h
  | succ n ih => intro v1 v3 v4 hk_v1 h; exact wX9_stands_22 hC hN hQ (fX9_stands_L22 n) ih v1 v3 v4 hk_v1 h
set_option maxRecDepth 100000 in
set_option maxHeartbeats 4000000 in
theorem wX9_stands_0 {T : zX} {σ : zSt} (hC : zOk T cX9_stands RX9 4 85 61 85) (hN : zNL T = 5) {r : Int32} (hQ : zRes T (some .boolean) (some (.int r)) σ) (a1 : Nat) (a2 : Int32) (hi_a1 : a1 < 9) (h : fX9_stands_0 a1 a2 σ = some r) : Z T σ 0 [(0, .ref (zAd T (61))), (1, .ref (zSk T a1)), (2, .int a2)] [] := by
  unfold fX9_stands_0 at h
  refine z_iload_n hC 2 rfl rfl dX9_stands_0 ?_
  refine z_aload_n hC 0 rfl rfl dX9_stands_1 ?_
  refine gX9_10 hC kf_X9_99 (gi σ 61 10) rfl dX9_stands_2 ?_
  refine z_isub hC dX9_stands_5 ?_
  refine z_aload_n hC 1 rfl rfl dX9_stands_6 ?_
  refine z_b1 h (fun r7_1 e_r7_1 h => ?_)
  refine z_cV0r hC (ctJ0_length_8abf5 hC.hm e_r7_1) (rcJ0 hC hi_a1) kb_J0_length_8abf5 km_X9_143 ⟨by decide, by decide⟩ (Nat.le_of_ble_eq_true rfl) dX9_stands_7 ?_
  refine z_icmp_ne hC 17 (by decide) dX9_stands_10 (fun q10_2 => ?_) (fun q10_2 => ?_)
  · replace h := z_f q10_2 h
    refine z_iconst hC (0 : Int32) (by decide) dX9_stands_17 ?_
    refine z_istore_n hC [(3, .int (0 : Int32)), (0, .ref (zAd T (61))), (1, .ref (zSk T a1)), (2, .int a2)] rfl (by rw [hN]; decide) rfl dX9_stands_18 ?_
    refine z_iconst hC (0 : Int32) (by decide) dX9_stands_19 ?_
    refine z_istore hC [(4, .int (0 : Int32)), (3, .int (0 : Int32)), (0, .ref (zAd T (61))), (1, .ref (zSk T a1)), (2, .int a2)] (by rw [hN]; decide) rfl dX9_stands_20 ?_
    refine z_sub [(0, .ref (zAd T (61))), (1, .ref (zSk T a1)), (3, .int (0 : Int32)), (4, .int (0 : Int32))] [2, 3, 1, 0] rfl ?_
    exact (wX9_stands_L22 hC hN hQ zFU) _ _ _ hi_a1 h
  · replace h := z_t q10_2 h
    refine z_iconst hC (1 : Int32) (by decide) dX9_stands_13 ?_
    refine z_goto hC 18 (by decide) dX9_stands_14 ?_
    refine z_istore_n hC [(3, .int (1 : Int32)), (0, .ref (zAd T (61))), (1, .ref (zSk T a1)), (2, .int a2)] rfl (by rw [hN]; decide) rfl dX9_stands_18 ?_
    refine z_iconst hC (0 : Int32) (by decide) dX9_stands_19 ?_
    refine z_istore hC [(4, .int (0 : Int32)), (3, .int (1 : Int32)), (0, .ref (zAd T (61))), (1, .ref (zSk T a1)), (2, .int a2)] (by rw [hN]; decide) rfl dX9_stands_20 ?_
    refine z_sub [(0, .ref (zAd T (61))), (1, .ref (zSk T a1)), (3, .int (1 : Int32)), (4, .int (0 : Int32))] [2, 3, 1, 0] rfl ?_
    exact (wX9_stands_L22 hC hN hQ zFU) _ _ _ hi_a1 h
set_option maxRecDepth 100000 in
theorem ctX9_stands {l : Launch} {G : zGt} {mk : zSt → zSt} (hm : zM mk 61 85) {a1 : Nat} {a2 : Int32} {σ : zSt} {r : Int32} (h : fX9_stands a1 a2 σ = some r) : zMet l G mk yX9_stands cX9_stands 5 (some .boolean) 4 85 [.ref (gA G (61)), .ref (G.2.2.1 a1), .int a2] σ (some (.int r)) σ := by
  unfold fX9_stands at h
  refine z_g h (fun hi_a1 h => ?_)
  refine zMet.of (plainFor_of_name (by decide +kernel)) hm (Nat.le_of_ble_eq_true rfl) (fun T eL eG eM hN hC hQ => ?_)
  subst eL; subst eG; subst eM
  refine z_sub [(0, .ref (zAd T (61))), (1, .ref (zSk T a1)), (2, .int a2)] [0, 1, 2] rfl ?_
  exact wX9_stands_0 hC hN hQ _ _ hi_a1 h
noncomputable def fX9_isNumber_94 (v1 : Int32) (v2 : Int32) (v3 : Int32) (σ : zSt) : Option Int32 := 
    (if v3 ≤ (v2 + (1 : Int32)) then some (0 : Int32)
    else 
      (if v3 = v1 then some (1 : Int32)
      else some (0 : Int32)))
noncomputable def fX9_isNumber_73 (K73 : Int32 → Int32 → Int32 → zSt → Option Int32) (v1 : Int32) (v2 : Int32) (v3 : Int32) (σ : zSt) : Option Int32 := bd1 (fX9_isDigit v3 σ) fun r75_1 => 
    (if r75_1 = 0 then fX9_isNumber_94 v1 v2 v3 σ
    else 
      (if (v2 + (5 : Int32)) ≤ v3 then fX9_isNumber_94 v1 v2 v3 σ
      else nm (v3 + (1 : Int32)) fun x88_4 => K73 v1 v2 x88_4 σ))
noncomputable def fX9_isNumber_L73 : Nat → Int32 → Int32 → Int32 → zSt → Option Int32
  | 0, _, _, _, _ => none
  | n + 1, v1, v2, v3, σ => fX9_isNumber_73 (fX9_isNumber_L73 n) v1 v2 v3 σ
noncomputable def fX9_isNumber_29 (v1 : Int32) (v2 : Int32) (σ : zSt) : Option Int32 := 
    (if v2 = (gi σ 61 10) then 
      (if v2 ≤ (gi σ 61 10) then some (0 : Int32)
      else some (1 : Int32))
    else 
      (if v2 = v1 then 
        (if v2 ≤ (gi σ 61 10) then some (0 : Int32)
        else some (1 : Int32))
      else zg (vp_in v2 200) <| 
        (if (gi σ 62 v2.toNatClampNeg) = (46 : Int32) then nm (v2 + (1 : Int32)) fun x72_6 => fX9_isNumber_L73 zFU v1 v2 x72_6 σ
        else some (0 : Int32))))
noncomputable def fX9_isNumber_5 (K5 : Int32 → Int32 → zSt → Option Int32) (v1 : Int32) (v2 : Int32) (σ : zSt) : Option Int32 := bd1 (fX9_isDigit v2 σ) fun r7_1 => 
    (if r7_1 = 0 then fX9_isNumber_29 v1 v2 σ
    else 
      (if ((gi σ 61 10) + (4 : Int32)) ≤ v2 then fX9_isNumber_29 v1 v2 σ
      else nm (v2 + (1 : Int32)) fun x23_4 => K5 v1 x23_4 σ))
noncomputable def fX9_isNumber_L5 : Nat → Int32 → Int32 → zSt → Option Int32
  | 0, _, _, _ => none
  | n + 1, v1, v2, σ => fX9_isNumber_5 (fX9_isNumber_L5 n) v1 v2 σ
noncomputable def fX9_isNumber_0 (a1 : Int32) (σ : zSt) : Option Int32 := nm (gi σ 61 10) fun x4_1 => fX9_isNumber_L5 zFU a1 x4_1 σ
noncomputable def fX9_isNumber (a1 : Int32) (σ : zSt) : Option Int32 := fX9_isNumber_0 a1 σ
set_option maxRecDepth 100000 in
set_option maxHeartbeats 4000000 in
theorem wX9_isNumber_94 {T : zX} {σ : zSt} (hC : zOk T cX9_isNumber RX9 1 21 61 85) (hN : zNL T = 4) {r : Int32} (hQ : zRes T (some .boolean) (some (.int r)) σ) (v1 : Int32) (v2 : Int32) (v3 : Int32)  (h : fX9_isNumber_94 v1 v2 v3 σ = some r) : Z T σ 94 [(1, .int v1), (2, .int v2), (3, .int v3)] [] := by
  unfold fX9_isNumber_94 at h
  refine z_iload_n hC 2 rfl rfl dX9_isNumber_94 ?_
  refine z_iload_n hC 1 rfl rfl dX9_isNumber_95 ?_
  refine z_iconst hC (1 : Int32) (by decide) dX9_isNumber_96 ?_
  refine z_iadd hC dX9_isNumber_97 ?_
  refine z_icmp_le hC 110 (by decide) dX9_isNumber_98 (fun q98_1 => ?_) (fun q98_1 => ?_)
  · replace h := z_t q98_1 h
    refine z_iconst hC (0 : Int32) (by decide) dX9_isNumber_110 ?_
    obtain rfl := z_so h
    exact z_zret hC hQ dX9_isNumber_111 (by decide)
  · replace h := z_f q98_1 h
    refine z_iload_n hC 2 rfl rfl dX9_isNumber_101 ?_
    refine z_iload_n hC 0 rfl rfl dX9_isNumber_102 ?_
    refine z_icmp_ne hC 110 (by decide) dX9_isNumber_103 (fun q103_2 => ?_) (fun q103_2 => ?_)
    · replace h := z_f q103_2 h
      refine z_iconst hC (0 : Int32) (by decide) dX9_isNumber_110 ?_
      obtain rfl := z_so h
      exact z_zret hC hQ dX9_isNumber_111 (by decide)
    · replace h := z_t q103_2 h
      refine z_iconst hC (1 : Int32) (by decide) dX9_isNumber_106 ?_
      refine z_goto hC 111 (by decide) dX9_isNumber_107 ?_
      obtain rfl := z_so h
      exact z_zret hC hQ dX9_isNumber_111 (by decide)
set_option maxRecDepth 100000 in
set_option maxHeartbeats 4000000 in
theorem wX9_isNumber_73 {T : zX} {σ : zSt} (hC : zOk T cX9_isNumber RX9 1 21 61 85) (hN : zNL T = 4) {r : Int32} (hQ : zRes T (some .boolean) (some (.int r)) σ) (K73 : Int32 → Int32 → Int32 → zSt → Option Int32) (hK73 : ∀ (v1 : Int32) (v2 : Int32) (v3 : Int32), K73 v1 v2 v3 σ = some r → Z T σ 73 [(0, .ref (zAd T (61))), (1, .int v1), (2, .int v2), (3, .int v3)] []) (v1 : Int32) (v2 : Int32) (v3 : Int32)  (h : fX9_isNumber_73 K73 v1 v2 v3 σ = some r) : Z T σ 73 [(0, .ref (zAd T (61))), (1, .int v1), (2, .int v2), (3, .int v3)] [] := by
  unfold fX9_isNumber_73 at h
  refine z_aload_n hC 0 rfl rfl dX9_isNumber_73 ?_
  refine z_iload_n hC 3 rfl rfl dX9_isNumber_74 ?_
  refine z_b1 h (fun r75_1 e_r75_1 h => ?_)
  refine z_cV1r hC (ctX9_isDigit hC.hm e_r75_1) (rcX9 hC) kb_X9_isDigit km_X9_139 ⟨by decide, by decide⟩ (Nat.le_of_ble_eq_true rfl) dX9_isNumber_75 ?_
  refine z_if_eq hC 94 (by decide) dX9_isNumber_78 (fun q78_2 => ?_) (fun q78_2 => ?_)
  · replace h := z_t q78_2 h
    refine z_sub [(1, .int v1), (2, .int v2), (3, .int v3)] [1, 2, 3] rfl ?_
    exact (wX9_isNumber_94 hC hN hQ ) _ _ _ h
  · replace h := z_f q78_2 h
    refine z_iload_n hC 3 rfl rfl dX9_isNumber_81 ?_
    refine z_iload_n hC 2 rfl rfl dX9_isNumber_82 ?_
    refine z_iconst hC (5 : Int32) (by decide) dX9_isNumber_83 ?_
    refine z_iadd hC dX9_isNumber_84 ?_
    refine z_icmp_ge hC 94 (by decide) dX9_isNumber_85 (fun q85_3 => ?_) (fun q85_3 => ?_)
    · replace h := z_t q85_3 h
      refine z_sub [(1, .int v1), (2, .int v2), (3, .int v3)] [1, 2, 3] rfl ?_
      exact (wX9_isNumber_94 hC hN hQ ) _ _ _ h
    · replace h := z_f q85_3 h
      refine z_nmE h (fun x88_4 e_x88_4 h => ?_)
      refine z_iinc hC x88_4 [(3, .int x88_4), (0, .ref (zAd T (61))), (1, .int v1), (2, .int v2)] 3 rfl (by rw [e_x88_4]; rfl) (by rw [hN]; decide) rfl dX9_isNumber_88 ?_
      refine z_goto hC 73 (by decide) dX9_isNumber_91 ?_
      refine z_sub [(0, .ref (zAd T (61))), (1, .int v1), (2, .int v2), (3, .int x88_4)] [1, 2, 3, 0] rfl ?_
      exact hK73 _ _ _ h
theorem wX9_isNumber_L73 {T : zX} {σ : zSt} (hC : zOk T cX9_isNumber RX9 1 21 61 85) (hN : zNL T = 4) {r : Int32} (hQ : zRes T (some .boolean) (some (.int r)) σ) (n : Nat) : ∀ (v1 : Int32) (v2 : Int32) (v3 : Int32), fX9_isNumber_L73 n v1 v2 v3 σ = some r → Z T σ 73 [(0, .ref (zAd T (61))), (1, .int v1), (2, .int v2), (3, .int v3)] [] := by
  induction n with
  | zero => intro v1 v2 v3 h; cases h
  | succ n ih => intro v1 v2 v3 h; exact wX9_isNumber_73 hC hN hQ (fX9_isNumber_L73 n) ih v1 v2 v3 h
set_option maxRecDepth 100000 in
set_option maxHeartbeats 4000000 in
theorem wX9_isNumber_29 {T : zX} {σ : zSt} (hC : zOk T cX9_isNumber RX9 1 21 61 85) (hN : zNL T = 4) {r : Int32} (hQ : zRes T (some .boolean) (some (.int r)) σ) (v1 : Int32) (v2 : Int32)  (h : fX9_isNumber_29 v1 v2 σ = some r) : Z T σ 29 [(0, .ref (zAd T (61))), (1, .int v1), (2, .int v2)] [] := by
  unfold fX9_isNumber_29 at h
  refine z_iload_n hC 2 rfl rfl dX9_isNumber_29 ?_
  refine z_aload_n hC 0 rfl rfl dX9_isNumber_30 ?_
  refine gX9_10 hC kf_X9_99 (gi σ 61 10) rfl dX9_isNumber_31 ?_
  refine z_icmp_eq hC 42 (by decide) dX9_isNumber_34 (fun q34_1 => ?_) (fun q34_1 => ?_)
  · replace h := z_t q34_1 h
    refine z_iload_n hC 2 rfl rfl dX9_isNumber_42 ?_
    refine z_aload_n hC 0 rfl rfl dX9_isNumber_43 ?_
    refine gX9_10 hC kf_X9_99 (gi σ 61 10) rfl dX9_isNumber_44 ?_
    refine z_icmp_le hC 54 (by decide) dX9_isNumber_47 (fun q47_2 => ?_) (fun q47_2 => ?_)
    · replace h := z_t q47_2 h
      refine z_iconst hC (0 : Int32) (by decide) dX9_isNumber_54 ?_
      obtain rfl := z_so h
      exact z_zret hC hQ dX9_isNumber_55 (by decide)
    · replace h := z_f q47_2 h
      refine z_iconst hC (1 : Int32) (by decide) dX9_isNumber_50 ?_
      refine z_goto hC 55 (by decide) dX9_isNumber_51 ?_
      obtain rfl := z_so h
      exact z_zret hC hQ dX9_isNumber_55 (by decide)
  · replace h := z_f q34_1 h
    refine z_iload_n hC 2 rfl rfl dX9_isNumber_37 ?_
    refine z_iload_n hC 1 rfl rfl dX9_isNumber_38 ?_
    refine z_icmp_ne hC 56 (by decide) dX9_isNumber_39 (fun q39_3 => ?_) (fun q39_3 => ?_)
    · replace h := z_f q39_3 h
      refine z_aload_n hC 0 rfl rfl dX9_isNumber_56 ?_
      refine gX9_1 hC kf_X9_7 dX9_isNumber_57 ?_
      refine z_iload_n hC 2 rfl rfl dX9_isNumber_60 ?_
      refine z_g h (fun g61_4 h => ?_)
      refine z_bald hC 62 ⟨by decide, by decide⟩ (zS_62 _ _ _) g61_4 (gi σ 62 v2.toNatClampNeg) rfl dX9_isNumber_61 ?_
      refine z_bipush hC (46 : Int32) (by decide) dX9_isNumber_62 ?_
      refine z_icmp_eq hC 69 (by decide) dX9_isNumber_64 (fun q64_5 => ?_) (fun q64_5 => ?_)
      · replace h := z_t q64_5 h
        refine z_iload_n hC 2 rfl rfl dX9_isNumber_69 ?_
        refine z_iconst hC (1 : Int32) (by decide) dX9_isNumber_70 ?_
        refine z_iadd hC dX9_isNumber_71 ?_
        refine z_nmI h (fun x72_6 h => ?_)
        refine z_istore_n hC [(3, .int x72_6), (0, .ref (zAd T (61))), (1, .int v1), (2, .int v2)] rfl (by rw [hN]; decide) rfl dX9_isNumber_72 ?_
        refine z_sub [(0, .ref (zAd T (61))), (1, .int v1), (2, .int v2), (3, .int x72_6)] [1, 2, 3, 0] rfl ?_
        exact (wX9_isNumber_L73 hC hN hQ zFU) _ _ _ h
      · replace h := z_f q64_5 h
        refine z_iconst hC (0 : Int32) (by decide) dX9_isNumber_67 ?_
        obtain rfl := z_so h
        exact z_zret hC hQ dX9_isNumber_68 (by decide)
    · replace h := z_t q39_3 h
      refine z_iload_n hC 2 rfl rfl dX9_isNumber_42 ?_
      refine z_aload_n hC 0 rfl rfl dX9_isNumber_43 ?_
      refine gX9_10 hC kf_X9_99 (gi σ 61 10) rfl dX9_isNumber_44 ?_
      refine z_icmp_le hC 54 (by decide) dX9_isNumber_47 (fun q47_7 => ?_) (fun q47_7 => ?_)
      · replace h := z_t q47_7 h
        refine z_iconst hC (0 : Int32) (by decide) dX9_isNumber_54 ?_
        obtain rfl := z_so h
        exact z_zret hC hQ dX9_isNumber_55 (by decide)
      · replace h := z_f q47_7 h
        refine z_iconst hC (1 : Int32) (by decide) dX9_isNumber_50 ?_
        refine z_goto hC 55 (by decide) dX9_isNumber_51 ?_
        obtain rfl := z_so h
        exact z_zret hC hQ dX9_isNumber_55 (by decide)
set_option maxRecDepth 100000 in
set_option maxHeartbeats 4000000 in
theorem wX9_isNumber_5 {T : zX} {σ : zSt} (hC : zOk T cX9_isNumber RX9 1 21 61 85) (hN : zNL T = 4) {r : Int32} (hQ : zRes T (some .boolean) (some (.int r)) σ) (K5 : Int32 → Int32 → zSt → Option Int32) (hK5 : ∀ (v1 : Int32) (v2 : Int32), K5 v1 v2 σ = some r → Z T σ 5 [(0, .ref (zAd T (61))), (1, .int v1), (2, .int v2)] []) (v1 : Int32) (v2 : Int32)  (h : fX9_isNumber_5 K5 v1 v2 σ = some r) : Z T σ 5 [(0, .ref (zAd T (61))), (1, .int v1), (2, .int v2)] [] := by
  unfold fX9_isNumber_5 at h
  refine z_aload_n hC 0 rfl rfl dX9_isNumber_5 ?_
  refine z_iload_n hC 2 rfl rfl dX9_isNumber_6 ?_
  refine z_b1 h (fun r7_1 e_r7_1 h => ?_)
  refine z_cV1r hC (ctX9_isDigit hC.hm e_r7_1) (rcX9 hC) kb_X9_isDigit km_X9_139 ⟨by decide, by decide⟩ (Nat.le_of_ble_eq_true rfl) dX9_isNumber_7 ?_
  refine z_if_eq hC 29 (by decide) dX9_isNumber_10 (fun q10_2 => ?_) (fun q10_2 => ?_)
  · replace h := z_t q10_2 h
    exact (wX9_isNumber_29 hC hN hQ ) _ _ h
  · replace h := z_f q10_2 h
    refine z_iload_n hC 2 rfl rfl dX9_isNumber_13 ?_
    refine z_aload_n hC 0 rfl rfl dX9_isNumber_14 ?_
    refine gX9_10 hC kf_X9_99 (gi σ 61 10) rfl dX9_isNumber_15 ?_
    refine z_iconst hC (4 : Int32) (by decide) dX9_isNumber_18 ?_
    refine z_iadd hC dX9_isNumber_19 ?_
    refine z_icmp_ge hC 29 (by decide) dX9_isNumber_20 (fun q20_3 => ?_) (fun q20_3 => ?_)
    · replace h := z_t q20_3 h
      exact (wX9_isNumber_29 hC hN hQ ) _ _ h
    · replace h := z_f q20_3 h
      refine z_nmE h (fun x23_4 e_x23_4 h => ?_)
      refine z_iinc hC x23_4 [(2, .int x23_4), (0, .ref (zAd T (61))), (1, .int v1)] 2 rfl (by rw [e_x23_4]; rfl) (by rw [hN]; decide) rfl dX9_isNumber_23 ?_
      refine z_goto hC 5 (by decide) dX9_isNumber_26 ?_
      refine z_sub [(0, .ref (zAd T (61))), (1, .int v1), (2, .int x23_4)] [1, 2, 0] rfl ?_
      exact hK5 _ _ h
theorem wX9_isNumber_L5 {T : zX} {σ : zSt} (hC : zOk T cX9_isNumber RX9 1 21 61 85) (hN : zNL T = 4) {r : Int32} (hQ : zRes T (some .boolean) (some (.int r)) σ) (n : Nat) : ∀ (v1 : Int32) (v2 : Int32), fX9_isNumber_L5 n v1 v2 σ = some r → Z T σ 5 [(0, .ref (zAd T (61))), (1, .int v1), (2, .int v2)] [] := by
  induction n with
  | zero => intro v1 v2 h; cases h
  | succ n ih => intro v1 v2 h; exact wX9_isNumber_5 hC hN hQ (fX9_isNumber_L5 n) ih v1 v2 h
set_option maxRecDepth 100000 in
set_option maxHeartbeats 4000000 in
theorem wX9_isNumber_0 {T : zX} {σ : zSt} (hC : zOk T cX9_isNumber RX9 1 21 61 85) (hN : zNL T = 4) {r : Int32} (hQ : zRes T (some .boolean) (some (.int r)) σ) (a1 : Int32)  (h : fX9_isNumber_0 a1 σ = some r) : Z T σ 0 [(0, .ref (zAd T (61))), (1, .int a1)] [] := by
  unfold fX9_isNumber_0 at h
  refine z_aload_n hC 0 rfl rfl dX9_isNumber_0 ?_
  refine gX9_10 hC kf_X9_99 (gi σ 61 10) rfl dX9_isNumber_1 ?_
  refine z_nmI h (fun x4_1 h => ?_)
  refine z_istore_n hC [(2, .int x4_1), (0, .ref (zAd T (61))), (1, .int a1)] rfl (by rw [hN]; decide) rfl dX9_isNumber_4 ?_
  refine z_sub [(0, .ref (zAd T (61))), (1, .int a1), (2, .int x4_1)] [1, 2, 0] rfl ?_
  exact (wX9_isNumber_L5 hC hN hQ zFU) _ _ h
set_option maxRecDepth 100000 in
theorem ctX9_isNumber {l : Launch} {G : zGt} {mk : zSt → zSt} (hm : zM mk 61 85) {a1 : Int32} {σ : zSt} {r : Int32} (h : fX9_isNumber a1 σ = some r) : zMet l G mk yX9_isNumber cX9_isNumber 4 (some .boolean) 1 21 [.ref (gA G (61)), .int a1] σ (some (.int r)) σ := by
  unfold fX9_isNumber at h

  refine zMet.of (plainFor_of_name (by decide +kernel)) hm (Nat.le_of_ble_eq_true rfl) (fun T eL eG eM hN hC hQ => ?_)
  subst eL; subst eG; subst eM
  refine z_sub [(0, .ref (zAd T (61))), (1, .int a1)] [0, 1] rfl ?_
  exact wX9_isNumber_0 hC hN hQ _  h
noncomputable def fX9_opens_0  (σ : zSt) : Option zSt := 
    (if (gi σ 61 14) < (12 : Int32) then some (si (si σ 61 14 ((gi σ 61 14) + (1 : Int32))) 61 10 ((gi σ 61 10) + (1 : Int32)))
    else bd2 (fX9_fails (3 : Int32) (gi σ 61 10) σ) fun r15_2 s15_3 => some s15_3)
noncomputable def fX9_opens  (σ : zSt) : Option zSt := fX9_opens_0  σ
set_option maxRecDepth 100000 in
set_option maxHeartbeats 4000000 in
theorem wX9_opens_0 {T : zX} (hC : zOk T cX9_opens RX9 1 22 61 85) (hN : zNL T = 1) {σ' : zSt} (hQ : zRes T none (none) σ')   (σ : zSt) (h : fX9_opens_0  σ = some σ') : Z T σ 0 [(0, .ref (zAd T (61)))] [] := by
  unfold fX9_opens_0 at h
  refine z_aload_n hC 0 rfl rfl dX9_opens_0 ?_
  refine gX9_14 hC kf_X9_171 (gi σ 61 14) rfl dX9_opens_1 ?_
  refine z_bipush hC (12 : Int32) (by decide) dX9_opens_4 ?_
  refine z_icmp_lt hC 20 (by decide) dX9_opens_6 (fun q6_1 => ?_) (fun q6_1 => ?_)
  · replace h := z_t q6_1 h
    refine z_aload_n hC 0 rfl rfl dX9_opens_20 ?_
    refine z_dup hC rfl dX9_opens_21 ?_
    refine gX9_14 hC kf_X9_171 (gi σ 61 14) rfl dX9_opens_22 ?_
    refine z_iconst hC (1 : Int32) (by decide) dX9_opens_25 ?_
    refine z_iadd hC dX9_opens_26 ?_
    refine pX9_14 hC kf_X9_171 dX9_opens_27 ?_
    refine z_aload_n hC 0 rfl rfl dX9_opens_30 ?_
    refine z_dup hC rfl dX9_opens_31 ?_
    refine gX9_10 hC kf_X9_99 (gi σ 61 10) rfl dX9_opens_32 ?_
    refine z_iconst hC (1 : Int32) (by decide) dX9_opens_35 ?_
    refine z_iadd hC dX9_opens_36 ?_
    refine pX9_10 hC kf_X9_99 dX9_opens_37 ?_
    obtain rfl := z_so h
    exact z_vret hC hQ dX9_opens_40
  · replace h := z_f q6_1 h
    refine z_aload_n hC 0 rfl rfl dX9_opens_9 ?_
    refine z_iconst hC (3 : Int32) (by decide) dX9_opens_10 ?_
    refine z_aload_n hC 0 rfl rfl dX9_opens_11 ?_
    refine gX9_10 hC kf_X9_99 (gi σ 61 10) rfl dX9_opens_12 ?_
    refine z_b2 h (fun r15_2 s15_3 e_r15_2 h => ?_)
    refine z_cV2r hC (ctX9_fails hC.hm e_r15_2) (rcX9 hC) kb_X9_fails km_X9_105 ⟨by decide, by decide⟩ (Nat.le_of_ble_eq_true rfl) dX9_opens_15 ?_
    refine z_pop hC rfl dX9_opens_18 ?_
    obtain rfl := z_so h
    exact z_vret hC hQ dX9_opens_19
set_option maxRecDepth 100000 in
theorem ctX9_opens {l : Launch} {G : zGt} {mk : zSt → zSt} (hm : zM mk 61 85)  {σ : zSt} {σ' : zSt} (h : fX9_opens  σ = some σ') : zMet l G mk yX9_opens cX9_opens 1 none 1 22 [.ref (gA G (61))] σ (none) σ' := by
  unfold fX9_opens at h

  refine zMet.of (plainFor_of_name (by decide +kernel)) hm (Nat.le_of_ble_eq_true rfl) (fun T eL eG eM hN hC hQ => ?_)
  subst eL; subst eG; subst eM
  refine z_sub [(0, .ref (zAd T (61)))] [0] rfl ?_
  exact wX9_opens_0 hC hN hQ   _ h
noncomputable def fX9_need_0 (a1 : Int32) (σ : zSt) : Option zSt := 
    (if (fX9_bad σ) = 0 then bd2 (fX9_peek σ) fun r9_2 s9_3 => 
      (if r9_2 = a1 then 
        (if a1 = (40 : Int32) then bd1 (fX9_opens s9_3) fun s34_7 => some s34_7
        else nm ((gi s9_3 61 10) + (1 : Int32)) fun x45_6 => some (si s9_3 61 10 x45_6))
      else bd2 (fX9_fails (1 : Int32) (gi s9_3 61 10) s9_3) fun r22_8 s22_9 => some s22_9)
    else some σ)
noncomputable def fX9_need (a1 : Int32) (σ : zSt) : Option zSt := fX9_need_0 a1 σ
set_option maxRecDepth 100000 in
set_option maxHeartbeats 4000000 in
theorem wX9_need_0 {T : zX} (hC : zOk T cX9_need RX9 2 42 61 85) (hN : zNL T = 2) {σ' : zSt} (hQ : zRes T none (none) σ') (a1 : Int32)  (σ : zSt) (h : fX9_need_0 a1 σ = some σ') : Z T σ 0 [(0, .ref (zAd T (61))), (1, .int a1)] [] := by
  unfold fX9_need_0 at h
  refine z_aload_n hC 0 rfl rfl dX9_need_0 ?_
  refine z_cV0r hC (ctX9_bad hC.hm) (rcX9 hC) kb_X9_bad km_X9_109 ⟨by decide, by decide⟩ (Nat.le_of_ble_eq_true rfl) dX9_need_1 ?_
  refine z_if_eq hC 8 (by decide) dX9_need_4 (fun q4_1 => ?_) (fun q4_1 => ?_)
  · replace h := z_t q4_1 h
    refine z_aload_n hC 0 rfl rfl dX9_need_8 ?_
    refine z_b2 h (fun r9_2 s9_3 e_r9_2 h => ?_)
    refine z_cV0r hC (ctX9_peek hC.hm e_r9_2) (rcX9 hC) kb_X9_peek km_X9_123 ⟨by decide, by decide⟩ (Nat.le_of_ble_eq_true rfl) dX9_need_9 ?_
    refine z_iload_n hC 1 rfl rfl dX9_need_12 ?_
    refine z_icmp_eq hC 27 (by decide) dX9_need_13 (fun q13_4 => ?_) (fun q13_4 => ?_)
    · replace h := z_t q13_4 h
      refine z_iload_n hC 1 rfl rfl dX9_need_27 ?_
      refine z_bipush hC (40 : Int32) (by decide) dX9_need_28 ?_
      refine z_icmp_ne hC 38 (by decide) dX9_need_30 (fun q30_5 => ?_) (fun q30_5 => ?_)
      · replace h := z_f q30_5 h
        refine z_aload_n hC 0 rfl rfl dX9_need_38 ?_
        refine z_dup hC rfl dX9_need_39 ?_
        refine gX9_10 hC kf_X9_99 (gi s9_3 61 10) rfl dX9_need_40 ?_
        refine z_iconst hC (1 : Int32) (by decide) dX9_need_43 ?_
        refine z_iadd hC dX9_need_44 ?_
        refine z_nmI h (fun x45_6 h => ?_)
        refine pX9_10 hC kf_X9_99 dX9_need_45 ?_
        obtain rfl := z_so h
        exact z_vret hC hQ dX9_need_48
      · replace h := z_t q30_5 h
        refine z_aload_n hC 0 rfl rfl dX9_need_33 ?_
        refine z_b1 h (fun s34_7 e_s34_7 h => ?_)
        refine z_cV0v hC (ctX9_opens hC.hm e_s34_7) (rcX9 hC) kb_X9_opens km_X9_168 ⟨by decide, by decide⟩ (Nat.le_of_ble_eq_true rfl) dX9_need_34 ?_
        obtain rfl := z_so h
        exact z_vret hC hQ dX9_need_37
    · replace h := z_f q13_4 h
      refine z_aload_n hC 0 rfl rfl dX9_need_16 ?_
      refine z_iconst hC (1 : Int32) (by decide) dX9_need_17 ?_
      refine z_aload_n hC 0 rfl rfl dX9_need_18 ?_
      refine gX9_10 hC kf_X9_99 (gi s9_3 61 10) rfl dX9_need_19 ?_
      refine z_b2 h (fun r22_8 s22_9 e_r22_8 h => ?_)
      refine z_cV2r hC (ctX9_fails hC.hm e_r22_8) (rcX9 hC) kb_X9_fails km_X9_105 ⟨by decide, by decide⟩ (Nat.le_of_ble_eq_true rfl) dX9_need_22 ?_
      refine z_pop hC rfl dX9_need_25 ?_
      obtain rfl := z_so h
      exact z_vret hC hQ dX9_need_26
  · replace h := z_f q4_1 h
    obtain rfl := z_so h
    exact z_vret hC hQ dX9_need_7
set_option maxRecDepth 100000 in
theorem ctX9_need {l : Launch} {G : zGt} {mk : zSt → zSt} (hm : zM mk 61 85) {a1 : Int32} {σ : zSt} {σ' : zSt} (h : fX9_need a1 σ = some σ') : zMet l G mk yX9_need cX9_need 2 none 2 42 [.ref (gA G (61)), .int a1] σ (none) σ' := by
  unfold fX9_need at h

  refine zMet.of (plainFor_of_name (by decide +kernel)) hm (Nat.le_of_ble_eq_true rfl) (fun T eL eG eM hN hC hQ => ?_)
  subst eL; subst eG; subst eM
  refine z_sub [(0, .ref (zAd T (61))), (1, .int a1)] [0, 1] rfl ?_
  exact wX9_need_0 hC hN hQ _  _ h
noncomputable def fX9_down_0 (a0 : Int64) (a2 : Int64) : Option Int64 := zg (¬ a2 = 0) <| nm (a0 / a2) fun x3_2 => zg (¬ a2 = 0) <| 
    (if (jremL a0 a2) = (0 : Int64) then some x3_2
    else 
      (if (0 : Int64) ≤ a0 then 
        (if (0 : Int64) ≤ a2 then some x3_2
        else some (x3_2 - (1 : Int64)))
      else 
        (if (0 : Int64) ≤ a2 then some (x3_2 - (1 : Int64))
        else some x3_2)))
noncomputable def fX9_down (a0 : Int64) (a2 : Int64) : Option Int64 := fX9_down_0 a0 a2
set_option maxRecDepth 100000 in
set_option maxHeartbeats 4000000 in
theorem wX9_down_0 {T : zX} {cl ch : Nat} {σ : zSt} (hC : zOk T cX9_down RX9 0 0 cl ch) (hN : zNL T = 6) {r : Int64} (hQ : zRes T (some .long) (some (.long r)) σ) (a0 : Int64) (a2 : Int64)  (h : fX9_down_0 a0 a2  = some r) : Z T σ 0 [(0, .long a0), (2, .long a2)] [] := by
  unfold fX9_down_0 at h
  refine z_lload_n hC 0 rfl rfl dX9_down_0 ?_
  refine z_lload_n hC 1 rfl rfl dX9_down_1 ?_
  refine z_g h (fun g2_1 h => ?_)
  refine z_ldiv hC g2_1 dX9_down_2 ?_
  refine z_nmL h (fun x3_2 h => ?_)
  refine z_lstore hC [(4, .long x3_2), (0, .long a0), (2, .long a2)] (by rw [hN]; decide) rfl dX9_down_3 ?_
  refine z_lload_n hC 1 rfl rfl dX9_down_5 ?_
  refine z_lload_n hC 2 rfl rfl dX9_down_6 ?_
  refine z_g h (fun g7_3 h => ?_)
  refine z_lrem hC g7_3 dX9_down_7 ?_
  refine z_lconst hC (0 : Int64) (by decide) dX9_down_8 ?_
  refine z_cmp_eq hC 45 (by decide) dX9_down_9 dX9_down_10 (fun q9_4 => ?_) (fun q9_4 => ?_)
  · replace h := z_t q9_4 h
    refine z_lload hC 0 rfl dX9_down_45 ?_
    obtain rfl := z_so h
    exact z_lret hC hQ dX9_down_47
  · replace h := z_f q9_4 h
    refine z_lload_n hC 1 rfl rfl dX9_down_13 ?_
    refine z_lconst hC (0 : Int64) (by decide) dX9_down_14 ?_
    refine z_cmp_ge hC 23 (by decide) dX9_down_15 dX9_down_16 (fun q15_5 => ?_) (fun q15_5 => ?_)
    · replace h := z_t q15_5 h
      refine z_iconst hC (0 : Int32) (by decide) dX9_down_23 ?_
      refine z_lload_n hC 2 rfl rfl dX9_down_24 ?_
      refine z_lconst hC (0 : Int64) (by decide) dX9_down_25 ?_
      refine z_cmp_ge hC 34 (by decide) dX9_down_26 dX9_down_27 (fun q26_6 => ?_) (fun q26_6 => ?_)
      · replace h := z_t q26_6 h
        refine z_iconst hC (0 : Int32) (by decide) dX9_down_34 ?_
        refine z_icmp_eq hC 45 (by decide) dX9_down_35 (fun q => ?_) (fun q => absurd q (by decide))
        refine z_lload hC 0 rfl dX9_down_45 ?_
        obtain rfl := z_so h
        exact z_lret hC hQ dX9_down_47
      · replace h := z_f q26_6 h
        refine z_iconst hC (1 : Int32) (by decide) dX9_down_30 ?_
        refine z_goto hC 35 (by decide) dX9_down_31 ?_
        refine z_icmp_eq hC 45 (by decide) dX9_down_35 (fun q => absurd q (by decide)) (fun q => ?_)
        refine z_lload hC 0 rfl dX9_down_38 ?_
        refine z_lconst hC (1 : Int64) (by decide) dX9_down_40 ?_
        refine z_lsub hC dX9_down_41 ?_
        refine z_goto hC 47 (by decide) dX9_down_42 ?_
        obtain rfl := z_so h
        exact z_lret hC hQ dX9_down_47
    · replace h := z_f q15_5 h
      refine z_iconst hC (1 : Int32) (by decide) dX9_down_19 ?_
      refine z_goto hC 24 (by decide) dX9_down_20 ?_
      refine z_lload_n hC 2 rfl rfl dX9_down_24 ?_
      refine z_lconst hC (0 : Int64) (by decide) dX9_down_25 ?_
      refine z_cmp_ge hC 34 (by decide) dX9_down_26 dX9_down_27 (fun q26_7 => ?_) (fun q26_7 => ?_)
      · replace h := z_t q26_7 h
        refine z_iconst hC (0 : Int32) (by decide) dX9_down_34 ?_
        refine z_icmp_eq hC 45 (by decide) dX9_down_35 (fun q => absurd q (by decide)) (fun q => ?_)
        refine z_lload hC 0 rfl dX9_down_38 ?_
        refine z_lconst hC (1 : Int64) (by decide) dX9_down_40 ?_
        refine z_lsub hC dX9_down_41 ?_
        refine z_goto hC 47 (by decide) dX9_down_42 ?_
        obtain rfl := z_so h
        exact z_lret hC hQ dX9_down_47
      · replace h := z_f q26_7 h
        refine z_iconst hC (1 : Int32) (by decide) dX9_down_30 ?_
        refine z_goto hC 35 (by decide) dX9_down_31 ?_
        refine z_icmp_eq hC 45 (by decide) dX9_down_35 (fun q => ?_) (fun q => absurd q (by decide))
        refine z_lload hC 0 rfl dX9_down_45 ?_
        obtain rfl := z_so h
        exact z_lret hC hQ dX9_down_47
set_option maxRecDepth 100000 in
theorem ctX9_down {l : Launch} {G : zGt} {mk : zSt → zSt} {cl ch : Nat} (hm : zM mk cl ch) {a0 : Int64} {a2 : Int64} {σ : zSt} {r : Int64} (h : fX9_down a0 a2  = some r) : zMet l G mk yX9_down cX9_down 6 (some .long) 0 0 [.long a0, .long a2] σ (some (.long r)) σ := by
  unfold fX9_down at h

  refine zMet.of (plainFor_of_name (by decide +kernel)) hm (Nat.le_of_ble_eq_true rfl) (fun T eL eG eM hN hC hQ => ?_)
  subst eL; subst eG; subst eM
  refine z_sub [(0, .long a0), (2, .long a2)] [0, 1] rfl ?_
  exact wX9_down_0 hC hN hQ _ _  h
noncomputable def fX9_up_0 (a0 : Int64) (a2 : Int64) : Option Int64 := zg (¬ a2 = 0) <| nm (a0 / a2) fun x3_2 => zg (¬ a2 = 0) <| 
    (if (jremL a0 a2) = (0 : Int64) then some x3_2
    else 
      (if (0 : Int64) ≤ a0 then 
        (if (0 : Int64) ≤ a2 then some (x3_2 + (1 : Int64))
        else some x3_2)
      else 
        (if (0 : Int64) ≤ a2 then some x3_2
        else some (x3_2 + (1 : Int64)))))
noncomputable def fX9_up (a0 : Int64) (a2 : Int64) : Option Int64 := fX9_up_0 a0 a2
set_option maxRecDepth 100000 in
set_option maxHeartbeats 4000000 in
theorem wX9_up_0 {T : zX} {cl ch : Nat} {σ : zSt} (hC : zOk T cX9_up RX9 0 0 cl ch) (hN : zNL T = 6) {r : Int64} (hQ : zRes T (some .long) (some (.long r)) σ) (a0 : Int64) (a2 : Int64)  (h : fX9_up_0 a0 a2  = some r) : Z T σ 0 [(0, .long a0), (2, .long a2)] [] := by
  unfold fX9_up_0 at h
  refine z_lload_n hC 0 rfl rfl dX9_up_0 ?_
  refine z_lload_n hC 1 rfl rfl dX9_up_1 ?_
  refine z_g h (fun g2_1 h => ?_)
  refine z_ldiv hC g2_1 dX9_up_2 ?_
  refine z_nmL h (fun x3_2 h => ?_)
  refine z_lstore hC [(4, .long x3_2), (0, .long a0), (2, .long a2)] (by rw [hN]; decide) rfl dX9_up_3 ?_
  refine z_lload_n hC 1 rfl rfl dX9_up_5 ?_
  refine z_lload_n hC 2 rfl rfl dX9_up_6 ?_
  refine z_g h (fun g7_3 h => ?_)
  refine z_lrem hC g7_3 dX9_up_7 ?_
  refine z_lconst hC (0 : Int64) (by decide) dX9_up_8 ?_
  refine z_cmp_eq hC 45 (by decide) dX9_up_9 dX9_up_10 (fun q9_4 => ?_) (fun q9_4 => ?_)
  · replace h := z_t q9_4 h
    refine z_lload hC 0 rfl dX9_up_45 ?_
    obtain rfl := z_so h
    exact z_lret hC hQ dX9_up_47
  · replace h := z_f q9_4 h
    refine z_lload_n hC 1 rfl rfl dX9_up_13 ?_
    refine z_lconst hC (0 : Int64) (by decide) dX9_up_14 ?_
    refine z_cmp_ge hC 23 (by decide) dX9_up_15 dX9_up_16 (fun q15_5 => ?_) (fun q15_5 => ?_)
    · replace h := z_t q15_5 h
      refine z_iconst hC (0 : Int32) (by decide) dX9_up_23 ?_
      refine z_lload_n hC 2 rfl rfl dX9_up_24 ?_
      refine z_lconst hC (0 : Int64) (by decide) dX9_up_25 ?_
      refine z_cmp_ge hC 34 (by decide) dX9_up_26 dX9_up_27 (fun q26_6 => ?_) (fun q26_6 => ?_)
      · replace h := z_t q26_6 h
        refine z_iconst hC (0 : Int32) (by decide) dX9_up_34 ?_
        refine z_icmp_ne hC 45 (by decide) dX9_up_35 (fun q => absurd q (by decide)) (fun q => ?_)
        refine z_lload hC 0 rfl dX9_up_38 ?_
        refine z_lconst hC (1 : Int64) (by decide) dX9_up_40 ?_
        refine z_ladd hC dX9_up_41 ?_
        refine z_goto hC 47 (by decide) dX9_up_42 ?_
        obtain rfl := z_so h
        exact z_lret hC hQ dX9_up_47
      · replace h := z_f q26_6 h
        refine z_iconst hC (1 : Int32) (by decide) dX9_up_30 ?_
        refine z_goto hC 35 (by decide) dX9_up_31 ?_
        refine z_icmp_ne hC 45 (by decide) dX9_up_35 (fun q => ?_) (fun q => absurd q (by decide))
        refine z_lload hC 0 rfl dX9_up_45 ?_
        obtain rfl := z_so h
        exact z_lret hC hQ dX9_up_47
    · replace h := z_f q15_5 h
      refine z_iconst hC (1 : Int32) (by decide) dX9_up_19 ?_
      refine z_goto hC 24 (by decide) dX9_up_20 ?_
      refine z_lload_n hC 2 rfl rfl dX9_up_24 ?_
      refine z_lconst hC (0 : Int64) (by decide) dX9_up_25 ?_
      refine z_cmp_ge hC 34 (by decide) dX9_up_26 dX9_up_27 (fun q26_7 => ?_) (fun q26_7 => ?_)
      · replace h := z_t q26_7 h
        refine z_iconst hC (0 : Int32) (by decide) dX9_up_34 ?_
        refine z_icmp_ne hC 45 (by decide) dX9_up_35 (fun q => ?_) (fun q => absurd q (by decide))
        refine z_lload hC 0 rfl dX9_up_45 ?_
        obtain rfl := z_so h
        exact z_lret hC hQ dX9_up_47
      · replace h := z_f q26_7 h
        refine z_iconst hC (1 : Int32) (by decide) dX9_up_30 ?_
        refine z_goto hC 35 (by decide) dX9_up_31 ?_
        refine z_icmp_ne hC 45 (by decide) dX9_up_35 (fun q => absurd q (by decide)) (fun q => ?_)
        refine z_lload hC 0 rfl dX9_up_38 ?_
        refine z_lconst hC (1 : Int64) (by decide) dX9_up_40 ?_
        refine z_ladd hC dX9_up_41 ?_
        refine z_goto hC 47 (by decide) dX9_up_42 ?_
        obtain rfl := z_so h
        exact z_lret hC hQ dX9_up_47
set_option maxRecDepth 100000 in
theorem ctX9_up {l : Launch} {G : zGt} {mk : zSt → zSt} {cl ch : Nat} (hm : zM mk cl ch) {a0 : Int64} {a2 : Int64} {σ : zSt} {r : Int64} (h : fX9_up a0 a2  = some r) : zMet l G mk yX9_up cX9_up 6 (some .long) 0 0 [.long a0, .long a2] σ (some (.long r)) σ := by
  unfold fX9_up at h

  refine zMet.of (plainFor_of_name (by decide +kernel)) hm (Nat.le_of_ble_eq_true rfl) (fun T eL eG eM hN hC hQ => ?_)
  subst eL; subst eG; subst eM
  refine z_sub [(0, .long a0), (2, .long a2)] [0, 1] rfl ?_
  exact wX9_up_0 hC hN hQ _ _  h
noncomputable def fX9_number_172 (v1 : Int64) (v3 : Int64) (σ : zSt) : Option (Int32 × zSt) := bd2 (fX9_make (1 : Int32) (0 : Int32) (0 : Int32) σ) fun r176_1 s176_2 => bd1 (fX9_down (v1 * (1048576 : Int64)) v3) fun r193_3 => zg (vp_in r176_1 480) <| bd1 (fX9_up (v1 * (1048576 : Int64)) v3) fun r209_5 => zg (vp_in r176_1 480) <| some (r176_1, (sl (sl s176_2 67 r176_1.toNatClampNeg r193_3) 68 r176_1.toNatClampNeg r209_5))
noncomputable def fX9_number_112 (K112 : Int64 → Int64 → Int32 → zSt → Option (Int32 × zSt)) (v1 : Int64) (v3 : Int64) (v5 : Int32) (σ : zSt) : Option (Int32 × zSt) := 
    (if (4 : Int32) ≤ v5 then fX9_number_172 v1 v3 σ
    else bd1 (fX9_isDigit (gi σ 61 10) σ) fun r123_2 => 
      (if r123_2 = 0 then fX9_number_172 v1 v3 σ
      else zg (vp_in (gi σ 61 10) 200) <| nm (((10 : Int64) * v1) + (Int32.toInt64 (gi σ 62 (gi σ 61 10).toNatClampNeg))) fun x144_5 => nm (x144_5 - (48 : Int64)) fun x149_6 => nm ((10 : Int64) * v3) fun x155_7 => nm (v5 + (1 : Int32)) fun x166_8 => K112 x149_6 x155_7 x166_8 (si σ 61 10 ((gi σ 61 10) + (1 : Int32)))))
noncomputable def fX9_number_L112 : Nat → Int64 → Int64 → Int32 → zSt → Option (Int32 × zSt)
  | 0, _, _, _, _ => none
  | n + 1, v1, v3, v5, σ => fX9_number_112 (fX9_number_L112 n) v1 v3 v5 σ
noncomputable def fX9_number_61 (v1 : Int64) (v3 : Int64) (σ : zSt) : Option (Int32 × zSt) := 
    (if (gi σ 61 2) ≤ (gi σ 61 10) then fX9_number_172 v1 v3 σ
    else zg (vp_in (gi σ 61 10) 200) <| 
      (if (gi σ 62 (gi σ 61 10).toNatClampNeg) = (46 : Int32) then bd1 (fX9_isDigit ((gi σ 61 10) + (1 : Int32)) σ) fun r93_4 => 
        (if r93_4 = 0 then fX9_number_172 v1 v3 σ
        else fX9_number_L112 zFU v1 v3 (0 : Int32) (si σ 61 10 ((gi σ 61 10) + (1 : Int32))))
      else fX9_number_172 v1 v3 σ))
noncomputable def fX9_number_7 (K7 : Int64 → Int64 → Int32 → zSt → Option (Int32 × zSt)) (v1 : Int64) (v3 : Int64) (v5 : Int32) (σ : zSt) : Option (Int32 × zSt) := 
    (if (4 : Int32) ≤ v5 then fX9_number_61 v1 v3 σ
    else bd1 (fX9_isDigit (gi σ 61 10) σ) fun r18_2 => 
      (if r18_2 = 0 then fX9_number_61 v1 v3 σ
      else zg (vp_in (gi σ 61 10) 200) <| nm (((10 : Int64) * v1) + (Int32.toInt64 (gi σ 62 (gi σ 61 10).toNatClampNeg))) fun x39_5 => nm (x39_5 - (48 : Int64)) fun x44_6 => nm (v5 + (1 : Int32)) fun x55_7 => K7 x44_6 v3 x55_7 (si σ 61 10 ((gi σ 61 10) + (1 : Int32)))))
noncomputable def fX9_number_L7 : Nat → Int64 → Int64 → Int32 → zSt → Option (Int32 × zSt)
  | 0, _, _, _, _ => none
  | n + 1, v1, v3, v5, σ => fX9_number_7 (fX9_number_L7 n) v1 v3 v5 σ
noncomputable def fX9_number_0  (σ : zSt) : Option (Int32 × zSt) := fX9_number_L7 zFU (0 : Int64) (1 : Int64) (0 : Int32) σ
noncomputable def fX9_number  (σ : zSt) : Option (Int32 × zSt) := fX9_number_0  σ
set_option maxRecDepth 100000 in
set_option maxHeartbeats 4000000 in
theorem wX9_number_172 {T : zX} (hC : zOk T cX9_number RX9 2 44 61 85) (hN : zNL T = 6) {r : Int32} {σ' : zSt} (hQ : zRes T (some .int) (some (.int r)) σ') (v1 : Int64) (v3 : Int64)  (σ : zSt) (h : fX9_number_172 v1 v3 σ = some (r, σ')) : Z T σ 172 [(0, .ref (zAd T (61))), (1, .long v1), (3, .long v3)] [] := by
  unfold fX9_number_172 at h
  refine z_aload_n hC 0 rfl rfl dX9_number_172 ?_
  refine z_iconst hC (1 : Int32) (by decide) dX9_number_173 ?_
  refine z_iconst hC (0 : Int32) (by decide) dX9_number_174 ?_
  refine z_iconst hC (0 : Int32) (by decide) dX9_number_175 ?_
  refine z_b2 h (fun r176_1 s176_2 e_r176_1 h => ?_)
  refine z_cV3r hC (ctX9_make hC.hm e_r176_1) (rcX9 hC) kb_X9_make km_X9_129 ⟨by decide, by decide⟩ (Nat.le_of_ble_eq_true rfl) dX9_number_176 ?_
  refine z_istore hC [(5, .int r176_1), (0, .ref (zAd T (61))), (1, .long v1), (3, .long v3)] (by rw [hN]; decide) rfl dX9_number_179 ?_
  refine z_aload_n hC 1 rfl rfl dX9_number_181 ?_
  refine gX9_8 hC kf_X9_26 dX9_number_182 ?_
  refine z_iload hC 0 rfl dX9_number_185 ?_
  refine z_lload_n hC 2 rfl rfl dX9_number_187 ?_
  refine z_ldc2 hC kc_X9_207 dX9_number_188 ?_
  refine z_lmul hC dX9_number_191 ?_
  refine z_lload_n hC 3 rfl rfl dX9_number_192 ?_
  refine z_b1 h (fun r193_3 e_r193_3 h => ?_)
  refine z_cS2r hC (ctX9_down hC.hm e_r193_3) kb_X9_down km_X9_209 ⟨by decide, by decide⟩ (Nat.le_of_ble_eq_true rfl) dX9_number_193 ?_
  refine z_g h (fun g196_4 h => ?_)
  refine z_last hC 67 ⟨by decide, by decide⟩ (zS_67 _) g196_4 dX9_number_196 ?_
  refine z_aload_n hC 1 rfl rfl dX9_number_197 ?_
  refine gX9_9 hC kf_X9_30 dX9_number_198 ?_
  refine z_iload hC 0 rfl dX9_number_201 ?_
  refine z_lload_n hC 2 rfl rfl dX9_number_203 ?_
  refine z_ldc2 hC kc_X9_207 dX9_number_204 ?_
  refine z_lmul hC dX9_number_207 ?_
  refine z_lload_n hC 3 rfl rfl dX9_number_208 ?_
  refine z_b1 h (fun r209_5 e_r209_5 h => ?_)
  refine z_cS2r hC (ctX9_up hC.hm e_r209_5) kb_X9_up km_X9_213 ⟨by decide, by decide⟩ (Nat.le_of_ble_eq_true rfl) dX9_number_209 ?_
  refine z_g h (fun g212_6 h => ?_)
  refine z_last hC 68 ⟨by decide, by decide⟩ (zS_68 _) g212_6 dX9_number_212 ?_
  refine z_iload hC 0 rfl dX9_number_213 ?_
  obtain ⟨rfl, rfl⟩ := z_pr h
  exact z_iret hC hQ dX9_number_215
set_option maxRecDepth 100000 in
set_option maxHeartbeats 4000000 in
theorem wX9_number_112 {T : zX} (hC : zOk T cX9_number RX9 2 44 61 85) (hN : zNL T = 6) {r : Int32} {σ' : zSt} (hQ : zRes T (some .int) (some (.int r)) σ') (K112 : Int64 → Int64 → Int32 → zSt → Option (Int32 × zSt)) (hK112 : ∀ (v1 : Int64) (v3 : Int64) (v5 : Int32) (τ : zSt), K112 v1 v3 v5 τ = some (r, σ') → Z T τ 112 [(0, .ref (zAd T (61))), (1, .long v1), (3, .long v3), (5, .int v5)] []) (v1 : Int64) (v3 : Int64) (v5 : Int32)  (σ : zSt) (h : fX9_number_112 K112 v1 v3 v5 σ = some (r, σ')) : Z T σ 112 [(0, .ref (zAd T (61))), (1, .long v1), (3, .long v3), (5, .int v5)] [] := by
  unfold fX9_number_112 at h
  refine z_iload hC 3 rfl dX9_number_112 ?_
  refine z_iconst hC (4 : Int32) (by decide) dX9_number_114 ?_
  refine z_icmp_ge hC 172 (by decide) dX9_number_115 (fun q115_1 => ?_) (fun q115_1 => ?_)
  · replace h := z_t q115_1 h
    refine z_sub [(0, .ref (zAd T (61))), (1, .long v1), (3, .long v3)] [0, 1, 2] rfl ?_
    exact (wX9_number_172 hC hN hQ ) _ _ _ h
  · replace h := z_f q115_1 h
    refine z_aload_n hC 0 rfl rfl dX9_number_118 ?_
    refine z_aload_n hC 0 rfl rfl dX9_number_119 ?_
    refine gX9_10 hC kf_X9_99 (gi σ 61 10) rfl dX9_number_120 ?_
    refine z_b1 h (fun r123_2 e_r123_2 h => ?_)
    refine z_cV1r hC (ctX9_isDigit hC.hm e_r123_2) (rcX9 hC) kb_X9_isDigit km_X9_139 ⟨by decide, by decide⟩ (Nat.le_of_ble_eq_true rfl) dX9_number_123 ?_
    refine z_if_eq hC 172 (by decide) dX9_number_126 (fun q126_3 => ?_) (fun q126_3 => ?_)
    · replace h := z_t q126_3 h
      refine z_sub [(0, .ref (zAd T (61))), (1, .long v1), (3, .long v3)] [0, 1, 2] rfl ?_
      exact (wX9_number_172 hC hN hQ ) _ _ _ h
    · replace h := z_f q126_3 h
      refine z_ldc2 hC kc_X9_203 dX9_number_129 ?_
      refine z_lload_n hC 1 rfl rfl dX9_number_132 ?_
      refine z_lmul hC dX9_number_133 ?_
      refine z_aload_n hC 0 rfl rfl dX9_number_134 ?_
      refine gX9_1 hC kf_X9_7 dX9_number_135 ?_
      refine z_aload_n hC 0 rfl rfl dX9_number_138 ?_
      refine gX9_10 hC kf_X9_99 (gi σ 61 10) rfl dX9_number_139 ?_
      refine z_g h (fun g142_4 h => ?_)
      refine z_bald hC 62 ⟨by decide, by decide⟩ (zS_62 _ _ _) g142_4 (gi σ 62 (gi σ 61 10).toNatClampNeg) rfl dX9_number_142 ?_
      refine z_i2l hC dX9_number_143 ?_
      refine z_ladd hC dX9_number_144 ?_
      refine z_nmL h (fun x144_5 h => ?_)
      refine z_ldc2 hC kc_X9_205 dX9_number_145 ?_
      refine z_lsub hC dX9_number_148 ?_
      refine z_nmL h (fun x149_6 h => ?_)
      refine z_lstore_n hC [(1, .long x149_6), (0, .ref (zAd T (61))), (3, .long v3), (5, .int v5)] rfl (by rw [hN]; decide) rfl dX9_number_149 ?_
      refine z_ldc2 hC kc_X9_203 dX9_number_150 ?_
      refine z_lload_n hC 2 rfl rfl dX9_number_153 ?_
      refine z_lmul hC dX9_number_154 ?_
      refine z_nmL h (fun x155_7 h => ?_)
      refine z_lstore_n hC [(3, .long x155_7), (1, .long x149_6), (0, .ref (zAd T (61))), (5, .int v5)] rfl (by rw [hN]; decide) rfl dX9_number_155 ?_
      refine z_aload_n hC 2 rfl rfl dX9_number_156 ?_
      refine z_dup hC rfl dX9_number_157 ?_
      refine gX9_10 hC kf_X9_99 (gi σ 61 10) rfl dX9_number_158 ?_
      refine z_iconst hC (1 : Int32) (by decide) dX9_number_161 ?_
      refine z_iadd hC dX9_number_162 ?_
      refine pX9_10 hC kf_X9_99 dX9_number_163 ?_
      refine z_nmE h (fun x166_8 e_x166_8 h => ?_)
      refine z_iinc hC x166_8 [(5, .int x166_8), (3, .long x155_7), (1, .long x149_6), (0, .ref (zAd T (61)))] 3 rfl (by rw [e_x166_8]; rfl) (by rw [hN]; decide) rfl dX9_number_166 ?_
      refine z_goto hC 112 (by decide) dX9_number_169 ?_
      refine z_sub [(0, .ref (zAd T (61))), (1, .long x149_6), (3, .long x155_7), (5, .int x166_8)] [3, 2, 1, 0] rfl ?_
      exact hK112 _ _ _ _ h
theorem wX9_number_L112 {T : zX} (hC : zOk T cX9_number RX9 2 44 61 85) (hN : zNL T = 6) {r : Int32} {σ' : zSt} (hQ : zRes T (some .int) (some (.int r)) σ') (n : Nat) : ∀ (v1 : Int64) (v3 : Int64) (v5 : Int32) (σ : zSt), fX9_number_L112 n v1 v3 v5 σ = some (r, σ') → Z T σ 112 [(0, .ref (zAd T (61))), (1, .long v1), (3, .long v3), (5, .int v5)] [] := by
  induction n with
  | zero => intro v1 v3 v5 σ h; cases h
  | succ n ih => intro v1 v3 v5 σ h; exact wX9_number_112 hC hN hQ (fX9_number_L112 n) ih v1 v3 v5 σ h
set_option maxRecDepth 100000 in
set_option maxHeartbeats 4000000 in
theorem wX9_number_61 {T : zX} (hC : zOk T cX9_number RX9 2 44 61 85) (hN : zNL T = 6) {r : Int32} {σ' : zSt} (hQ : zRes T (some .int) (some (.int r)) σ') (v1 : Int64) (v3 : Int64)  (σ : zSt) (h : fX9_number_61 v1 v3 σ = some (r, σ')) : Z T σ 61 [(0, .ref (zAd T (61))), (1, .long v1), (3, .long v3)] [] := by
  unfold fX9_number_61 at h
  refine z_aload_n hC 0 rfl rfl dX9_number_61 ?_
  refine gX9_10 hC kf_X9_99 (gi σ 61 10) rfl dX9_number_62 ?_
  refine z_aload_n hC 0 rfl rfl dX9_number_65 ?_
  refine gX9_2 hC kf_X9_86 (gi σ 61 2) rfl dX9_number_66 ?_
  refine z_icmp_ge hC 172 (by decide) dX9_number_69 (fun q69_1 => ?_) (fun q69_1 => ?_)
  · replace h := z_t q69_1 h
    exact (wX9_number_172 hC hN hQ ) _ _ _ h
  · replace h := z_f q69_1 h
    refine z_aload_n hC 0 rfl rfl dX9_number_72 ?_
    refine gX9_1 hC kf_X9_7 dX9_number_73 ?_
    refine z_aload_n hC 0 rfl rfl dX9_number_76 ?_
    refine gX9_10 hC kf_X9_99 (gi σ 61 10) rfl dX9_number_77 ?_
    refine z_g h (fun g80_2 h => ?_)
    refine z_bald hC 62 ⟨by decide, by decide⟩ (zS_62 _ _ _) g80_2 (gi σ 62 (gi σ 61 10).toNatClampNeg) rfl dX9_number_80 ?_
    refine z_bipush hC (46 : Int32) (by decide) dX9_number_81 ?_
    refine z_icmp_ne hC 172 (by decide) dX9_number_83 (fun q83_3 => ?_) (fun q83_3 => ?_)
    · replace h := z_f q83_3 h
      exact (wX9_number_172 hC hN hQ ) _ _ _ h
    · replace h := z_t q83_3 h
      refine z_aload_n hC 0 rfl rfl dX9_number_86 ?_
      refine z_aload_n hC 0 rfl rfl dX9_number_87 ?_
      refine gX9_10 hC kf_X9_99 (gi σ 61 10) rfl dX9_number_88 ?_
      refine z_iconst hC (1 : Int32) (by decide) dX9_number_91 ?_
      refine z_iadd hC dX9_number_92 ?_
      refine z_b1 h (fun r93_4 e_r93_4 h => ?_)
      refine z_cV1r hC (ctX9_isDigit hC.hm e_r93_4) (rcX9 hC) kb_X9_isDigit km_X9_139 ⟨by decide, by decide⟩ (Nat.le_of_ble_eq_true rfl) dX9_number_93 ?_
      refine z_if_eq hC 172 (by decide) dX9_number_96 (fun q96_5 => ?_) (fun q96_5 => ?_)
      · replace h := z_t q96_5 h
        exact (wX9_number_172 hC hN hQ ) _ _ _ h
      · replace h := z_f q96_5 h
        refine z_aload_n hC 0 rfl rfl dX9_number_99 ?_
        refine z_dup hC rfl dX9_number_100 ?_
        refine gX9_10 hC kf_X9_99 (gi σ 61 10) rfl dX9_number_101 ?_
        refine z_iconst hC (1 : Int32) (by decide) dX9_number_104 ?_
        refine z_iadd hC dX9_number_105 ?_
        refine pX9_10 hC kf_X9_99 dX9_number_106 ?_
        refine z_iconst hC (0 : Int32) (by decide) dX9_number_109 ?_
        refine z_istore hC [(5, .int (0 : Int32)), (0, .ref (zAd T (61))), (1, .long v1), (3, .long v3)] (by rw [hN]; decide) rfl dX9_number_110 ?_
        refine z_sub [(0, .ref (zAd T (61))), (1, .long v1), (3, .long v3), (5, .int (0 : Int32))] [1, 2, 3, 0] rfl ?_
        exact (wX9_number_L112 hC hN hQ zFU) _ _ _ _ h
set_option maxRecDepth 100000 in
set_option maxHeartbeats 4000000 in
theorem wX9_number_7 {T : zX} (hC : zOk T cX9_number RX9 2 44 61 85) (hN : zNL T = 6) {r : Int32} {σ' : zSt} (hQ : zRes T (some .int) (some (.int r)) σ') (K7 : Int64 → Int64 → Int32 → zSt → Option (Int32 × zSt)) (hK7 : ∀ (v1 : Int64) (v3 : Int64) (v5 : Int32) (τ : zSt), K7 v1 v3 v5 τ = some (r, σ') → Z T τ 7 [(0, .ref (zAd T (61))), (1, .long v1), (3, .long v3), (5, .int v5)] []) (v1 : Int64) (v3 : Int64) (v5 : Int32)  (σ : zSt) (h : fX9_number_7 K7 v1 v3 v5 σ = some (r, σ')) : Z T σ 7 [(0, .ref (zAd T (61))), (1, .long v1), (3, .long v3), (5, .int v5)] [] := by
  unfold fX9_number_7 at h
  refine z_iload hC 3 rfl dX9_number_7 ?_
  refine z_iconst hC (4 : Int32) (by decide) dX9_number_9 ?_
  refine z_icmp_ge hC 61 (by decide) dX9_number_10 (fun q10_1 => ?_) (fun q10_1 => ?_)
  · replace h := z_t q10_1 h
    refine z_sub [(0, .ref (zAd T (61))), (1, .long v1), (3, .long v3)] [0, 1, 2] rfl ?_
    exact (wX9_number_61 hC hN hQ ) _ _ _ h
  · replace h := z_f q10_1 h
    refine z_aload_n hC 0 rfl rfl dX9_number_13 ?_
    refine z_aload_n hC 0 rfl rfl dX9_number_14 ?_
    refine gX9_10 hC kf_X9_99 (gi σ 61 10) rfl dX9_number_15 ?_
    refine z_b1 h (fun r18_2 e_r18_2 h => ?_)
    refine z_cV1r hC (ctX9_isDigit hC.hm e_r18_2) (rcX9 hC) kb_X9_isDigit km_X9_139 ⟨by decide, by decide⟩ (Nat.le_of_ble_eq_true rfl) dX9_number_18 ?_
    refine z_if_eq hC 61 (by decide) dX9_number_21 (fun q21_3 => ?_) (fun q21_3 => ?_)
    · replace h := z_t q21_3 h
      refine z_sub [(0, .ref (zAd T (61))), (1, .long v1), (3, .long v3)] [0, 1, 2] rfl ?_
      exact (wX9_number_61 hC hN hQ ) _ _ _ h
    · replace h := z_f q21_3 h
      refine z_ldc2 hC kc_X9_203 dX9_number_24 ?_
      refine z_lload_n hC 1 rfl rfl dX9_number_27 ?_
      refine z_lmul hC dX9_number_28 ?_
      refine z_aload_n hC 0 rfl rfl dX9_number_29 ?_
      refine gX9_1 hC kf_X9_7 dX9_number_30 ?_
      refine z_aload_n hC 0 rfl rfl dX9_number_33 ?_
      refine gX9_10 hC kf_X9_99 (gi σ 61 10) rfl dX9_number_34 ?_
      refine z_g h (fun g37_4 h => ?_)
      refine z_bald hC 62 ⟨by decide, by decide⟩ (zS_62 _ _ _) g37_4 (gi σ 62 (gi σ 61 10).toNatClampNeg) rfl dX9_number_37 ?_
      refine z_i2l hC dX9_number_38 ?_
      refine z_ladd hC dX9_number_39 ?_
      refine z_nmL h (fun x39_5 h => ?_)
      refine z_ldc2 hC kc_X9_205 dX9_number_40 ?_
      refine z_lsub hC dX9_number_43 ?_
      refine z_nmL h (fun x44_6 h => ?_)
      refine z_lstore_n hC [(1, .long x44_6), (0, .ref (zAd T (61))), (3, .long v3), (5, .int v5)] rfl (by rw [hN]; decide) rfl dX9_number_44 ?_
      refine z_aload_n hC 1 rfl rfl dX9_number_45 ?_
      refine z_dup hC rfl dX9_number_46 ?_
      refine gX9_10 hC kf_X9_99 (gi σ 61 10) rfl dX9_number_47 ?_
      refine z_iconst hC (1 : Int32) (by decide) dX9_number_50 ?_
      refine z_iadd hC dX9_number_51 ?_
      refine pX9_10 hC kf_X9_99 dX9_number_52 ?_
      refine z_nmE h (fun x55_7 e_x55_7 h => ?_)
      refine z_iinc hC x55_7 [(5, .int x55_7), (1, .long x44_6), (0, .ref (zAd T (61))), (3, .long v3)] 3 rfl (by rw [e_x55_7]; rfl) (by rw [hN]; decide) rfl dX9_number_55 ?_
      refine z_goto hC 7 (by decide) dX9_number_58 ?_
      refine z_sub [(0, .ref (zAd T (61))), (1, .long x44_6), (3, .long v3), (5, .int x55_7)] [2, 1, 3, 0] rfl ?_
      exact hK7 _ _ _ _ h
theorem wX9_number_L7 {T : zX} (hC : zOk T cX9_number RX9 2 44 61 85) (hN : zNL T = 6) {r : Int32} {σ' : zSt} (hQ : zRes T (some .int) (some (.int r)) σ') (n : Nat) : ∀ (v1 : Int64) (v3 : Int64) (v5 : Int32) (σ : zSt), fX9_number_L7 n v1 v3 v5 σ = some (r, σ') → Z T σ 7 [(0, .ref (zAd T (61))), (1, .long v1), (3, .long v3), (5, .int v5)] [] := by
  induction n with
  | zero => intro v1 v3 v5 σ h; cases h
  | succ n ih => intro v1 v3 v5 σ h; exact wX9_number_7 hC hN hQ (fX9_number_L7 n) ih v1 v3 v5 σ h
set_option maxRecDepth 100000 in
set_option maxHeartbeats 4000000 in
theorem wX9_number_0 {T : zX} (hC : zOk T cX9_number RX9 2 44 61 85) (hN : zNL T = 6) {r : Int32} {σ' : zSt} (hQ : zRes T (some .int) (some (.int r)) σ')   (σ : zSt) (h : fX9_number_0  σ = some (r, σ')) : Z T σ 0 [(0, .ref (zAd T (61)))] [] := by
  unfold fX9_number_0 at h
  refine z_lconst hC (0 : Int64) (by decide) dX9_number_0 ?_
  refine z_lstore_n hC [(1, .long (0 : Int64)), (0, .ref (zAd T (61)))] rfl (by rw [hN]; decide) rfl dX9_number_1 ?_
  refine z_lconst hC (1 : Int64) (by decide) dX9_number_2 ?_
  refine z_lstore_n hC [(3, .long (1 : Int64)), (1, .long (0 : Int64)), (0, .ref (zAd T (61)))] rfl (by rw [hN]; decide) rfl dX9_number_3 ?_
  refine z_iconst hC (0 : Int32) (by decide) dX9_number_4 ?_
  refine z_istore hC [(5, .int (0 : Int32)), (3, .long (1 : Int64)), (1, .long (0 : Int64)), (0, .ref (zAd T (61)))] (by rw [hN]; decide) rfl dX9_number_5 ?_
  refine z_sub [(0, .ref (zAd T (61))), (1, .long (0 : Int64)), (3, .long (1 : Int64)), (5, .int (0 : Int32))] [3, 2, 1, 0] rfl ?_
  exact (wX9_number_L7 hC hN hQ zFU) _ _ _ _ h
set_option maxRecDepth 100000 in
theorem ctX9_number {l : Launch} {G : zGt} {mk : zSt → zSt} (hm : zM mk 61 85)  {σ : zSt} {r : Int32} {σ' : zSt} (h : fX9_number  σ = some (r, σ')) : zMet l G mk yX9_number cX9_number 6 (some .int) 2 44 [.ref (gA G (61))] σ (some (.int r)) σ' := by
  unfold fX9_number at h

  refine zMet.of (plainFor_of_name (by decide +kernel)) hm (Nat.le_of_ble_eq_true rfl) (fun T eL eG eM hN hC hQ => ?_)
  subst eL; subst eG; subst eM
  refine z_sub [(0, .ref (zAd T (61)))] [0] rfl ?_
  exact wX9_number_0 hC hN hQ   _ h
noncomputable def fX9_nameOf_0 (a1 : Int32) : Nat := 
    (
    if a1 = 9 then 1 else 
    if a1 = 10 then 2 else 
    if a1 = 11 then 3 else 
    if a1 = 12 then 4 else 
    if a1 = 13 then 5 else 
    if a1 = 14 then 6 else 
    if a1 = 15 then 7 else 8)
noncomputable def fX9_nameOf (a1 : Int32) : Nat := fX9_nameOf_0 a1
set_option maxRecDepth 100000 in
set_option maxHeartbeats 4000000 in
theorem wX9_nameOf_0 {T : zX} {σ : zSt} (hC : zOk T cX9_nameOf RX9 0 0 61 85) (hN : zNL T = 2) {r : Nat} (hQ : zRes T (some (.object "java/lang/String")) (some (.ref (zSk T r))) σ) (a1 : Int32)  (h : fX9_nameOf_0 a1  = r) : Z T σ 0 [(1, .int a1)] [] := by
  unfold fX9_nameOf_0 at h
  refine z_iload_n hC 0 rfl rfl dX9_nameOf_0 ?_
  refine z_ite h (fun q1_1 h => ?_) (fun q1_1 h => ?_)
  · refine z_tabIn hC (43) 44 (by rw [q1_1]; decide) (by rw [q1_1]; decide) (by rw [q1_1]; decide +kernel) (by decide) dX9_nameOf_1 ?_
    refine z_ldcS (i := 1) (tx := "root") hC (by decide +kernel) dX9_nameOf_44 ?_
    subst h
    exact z_aret hC hQ dX9_nameOf_46
  ·
    refine z_ite h (fun q1_2 h => ?_) (fun q1_2 h => ?_)
    · refine z_tabIn hC (46) 47 (by rw [q1_2]; decide) (by rw [q1_2]; decide) (by rw [q1_2]; decide +kernel) (by decide) dX9_nameOf_1 ?_
      refine z_ldcS (i := 2) (tx := "exp") hC (by decide +kernel) dX9_nameOf_47 ?_
      subst h
      exact z_aret hC hQ dX9_nameOf_49
    ·
      refine z_ite h (fun q1_3 h => ?_) (fun q1_3 h => ?_)
      · refine z_tabIn hC (49) 50 (by rw [q1_3]; decide) (by rw [q1_3]; decide) (by rw [q1_3]; decide +kernel) (by decide) dX9_nameOf_1 ?_
        refine z_ldcS (i := 3) (tx := "log") hC (by decide +kernel) dX9_nameOf_50 ?_
        subst h
        exact z_aret hC hQ dX9_nameOf_52
      ·
        refine z_ite h (fun q1_4 h => ?_) (fun q1_4 h => ?_)
        · refine z_tabIn hC (52) 53 (by rw [q1_4]; decide) (by rw [q1_4]; decide) (by rw [q1_4]; decide +kernel) (by decide) dX9_nameOf_1 ?_
          refine z_ldcS (i := 4) (tx := "sin") hC (by decide +kernel) dX9_nameOf_53 ?_
          subst h
          exact z_aret hC hQ dX9_nameOf_55
        ·
          refine z_ite h (fun q1_5 h => ?_) (fun q1_5 h => ?_)
          · refine z_tabIn hC (55) 56 (by rw [q1_5]; decide) (by rw [q1_5]; decide) (by rw [q1_5]; decide +kernel) (by decide) dX9_nameOf_1 ?_
            refine z_ldcS (i := 5) (tx := "cos") hC (by decide +kernel) dX9_nameOf_56 ?_
            subst h
            exact z_aret hC hQ dX9_nameOf_58
          ·
            refine z_ite h (fun q1_6 h => ?_) (fun q1_6 h => ?_)
            · refine z_tabIn hC (58) 59 (by rw [q1_6]; decide) (by rw [q1_6]; decide) (by rw [q1_6]; decide +kernel) (by decide) dX9_nameOf_1 ?_
              refine z_ldcS (i := 6) (tx := "size") hC (by decide +kernel) dX9_nameOf_59 ?_
              subst h
              exact z_aret hC hQ dX9_nameOf_61
            ·
              refine z_ite h (fun q1_7 h => ?_) (fun q1_7 h => ?_)
              · refine z_tabIn hC (61) 62 (by rw [q1_7]; decide) (by rw [q1_7]; decide) (by rw [q1_7]; decide +kernel) (by decide) dX9_nameOf_1 ?_
                refine z_ldcS (i := 7) (tx := "lesser") hC (by decide +kernel) dX9_nameOf_62 ?_
                subst h
                exact z_aret hC hQ dX9_nameOf_64
              ·
                refine z_tabD hC 7 65 (by decide) (fun i hi => by
                    have hi2 : i = 0 ∨ i = 1 ∨ i = 2 ∨ i = 3 ∨ i = 4 ∨ i = 5 ∨ i = 6 := by omega
                    rcases hi2 with rfl | rfl | rfl | rfl | rfl | rfl | rfl
                    · exact Or.inr (fun e => q1_1 (e.symm.trans (by decide)))
                    · exact Or.inr (fun e => q1_2 (e.symm.trans (by decide)))
                    · exact Or.inr (fun e => q1_3 (e.symm.trans (by decide)))
                    · exact Or.inr (fun e => q1_4 (e.symm.trans (by decide)))
                    · exact Or.inr (fun e => q1_5 (e.symm.trans (by decide)))
                    · exact Or.inr (fun e => q1_6 (e.symm.trans (by decide)))
                    · exact Or.inr (fun e => q1_7 (e.symm.trans (by decide)))) (by decide) dX9_nameOf_1 ?_
                refine z_ldcS (i := 8) (tx := "greater") hC (by decide +kernel) dX9_nameOf_65 ?_
                subst h
                exact z_aret hC hQ dX9_nameOf_67
set_option maxRecDepth 100000 in
theorem ctX9_nameOf {l : Launch} {G : zGt} {mk : zSt → zSt} (hm : zM mk 61 85) {a1 : Int32} {σ : zSt} : zMet l G mk yX9_nameOf cX9_nameOf 2 (some (.object "java/lang/String")) 0 0 [.ref (gA G (61)), .int a1] σ (some (.ref (G.2.2.1 (fX9_nameOf a1 )))) σ := by

  refine zMet.of (plainFor_of_name (by decide +kernel)) hm (Nat.le_of_ble_eq_true rfl) (fun T eL eG eM hN hC hQ => ?_)
  subst eL; subst eG; subst eM
  refine z_sub [(1, .int a1)] [1] rfl ?_
  exact wX9_nameOf_0 hC hN hQ _  rfl
def G9_ok (T : zX) (F : Nat → Int32 → zSt → Option (Int32 × zSt)) (gf gl : Nat) : Prop := (∀ (a : Int32) (σ : zSt) (r : Int32) (σ' : zSt), F 0 a σ = some (r, σ') → zMet (zL T) (zGr T) (zMk T) yX9_sum cX9_sum 4 (some .int) gf gl [.ref (gA (zGr T) 61)] σ (some (.int r)) σ') ∧ (∀ (a : Int32) (σ : zSt) (r : Int32) (σ' : zSt), F 1 a σ = some (r, σ') → zMet (zL T) (zGr T) (zMk T) yX9_term cX9_term 4 (some .int) gf gl [.ref (gA (zGr T) 61)] σ (some (.int r)) σ') ∧ (∀ (a : Int32) (σ : zSt) (r : Int32) (σ' : zSt), F 2 a σ = some (r, σ') → zMet (zL T) (zGr T) (zMk T) yX9_power cX9_power 4 (some .int) gf gl [.ref (gA (zGr T) 61)] σ (some (.int r)) σ') ∧ (∀ (a : Int32) (σ : zSt) (r : Int32) (σ' : zSt), F 3 a σ = some (r, σ') → zMet (zL T) (zGr T) (zMk T) yX9_part cX9_part 4 (some .int) gf gl [.ref (gA (zGr T) 61)] σ (some (.int r)) σ') ∧ (∀ (a : Int32) (σ : zSt) (r : Int32) (σ' : zSt), F 4 a σ = some (r, σ') → zMet (zL T) (zGr T) (zMk T) yX9_named cX9_named 4 (some .int) gf gl [.ref (gA (zGr T) 61), .int a] σ (some (.int r)) σ')
noncomputable def fX9_sum_45 (F : Nat → Int32 → zSt → Option (Int32 × zSt)) (K5 : Int32 → zSt → Option (Int32 × zSt)) (v1 : Int32) (t0 : Int32) (σ : zSt) : Option (Int32 × zSt) := bd1 (fX9_meets (gi σ 61 10) σ) fun s51_1 => nm ((gi s51_1 61 10) + (1 : Int32)) fun x61_2 => 
    (if (fX9_bad (si s51_1 61 10 x61_2)) = 0 then bd2 (F 1 0 (si s51_1 61 10 x61_2)) fun r76_4 s76_5 => bd2 (fX9_make t0 v1 r76_4 s76_5) fun r84_6 s84_7 => K5 r84_6 s84_7
    else bd2 (fX9_make t0 v1 (0 : Int32) (si s51_1 61 10 x61_2)) fun r84_8 s84_9 => K5 r84_8 s84_9)
noncomputable def fX9_sum_5 (F : Nat → Int32 → zSt → Option (Int32 × zSt)) (K5 : Int32 → zSt → Option (Int32 × zSt)) (v1 : Int32) (σ : zSt) : Option (Int32 × zSt) := 
    (if (fX9_bad σ) = 0 then bd2 (fX9_peek σ) fun r13_2 s13_3 => 
      (if r13_2 = (43 : Int32) then bd2 (fX9_peek s13_3) fun r31_5 s31_6 => 
        (if r31_5 = (43 : Int32) then fX9_sum_45 F K5 v1 (5 : Int32) s31_6
        else fX9_sum_45 F K5 v1 (6 : Int32) s31_6)
      else bd2 (fX9_peek s13_3) fun r22_8 s22_9 => 
        (if r22_8 = (45 : Int32) then bd2 (fX9_peek s22_9) fun r31_11 s31_12 => 
          (if r31_11 = (43 : Int32) then fX9_sum_45 F K5 v1 (5 : Int32) s31_12
          else fX9_sum_45 F K5 v1 (6 : Int32) s31_12)
        else some (v1, s22_9)))
    else some (v1, σ))
noncomputable def fX9_sum_L5 (F : Nat → Int32 → zSt → Option (Int32 × zSt)) : Nat → Int32 → zSt → Option (Int32 × zSt)
  | 0, _, _ => none
  | n + 1, v1, σ => fX9_sum_5 F (fX9_sum_L5 F n) v1 σ
noncomputable def fX9_sum_0 (F : Nat → Int32 → zSt → Option (Int32 × zSt))  (σ : zSt) : Option (Int32 × zSt) := bd2 (F 1 0 σ) fun r1_1 s1_2 => fX9_sum_L5 F zFU r1_1 s1_2
noncomputable def fX9_sum (F : Nat → Int32 → zSt → Option (Int32 × zSt))  (σ : zSt) : Option (Int32 × zSt) := fX9_sum_0 F  σ
set_option maxRecDepth 100000 in
set_option maxHeartbeats 4000000 in
theorem wX9_sum_45 {T : zX} {fr lo gf gl : Nat} (hC : zOk T cX9_sum RX9 fr lo 61 85) (hN : zNL T = 4) {r : Int32} {σ' : zSt} (hQ : zRes T (some .int) (some (.int r)) σ') (hfr : gf + 1 ≤ fr ∧ 5 ≤ fr) (hlo : gl + 23 ≤ lo ∧ 109 ≤ lo) (F : Nat → Int32 → zSt → Option (Int32 × zSt)) (hF : G9_ok T F gf gl) (K5 : Int32 → zSt → Option (Int32 × zSt)) (hK5 : ∀ (v1 : Int32) (τ : zSt), K5 v1 τ = some (r, σ') → Z T τ 5 [(0, .ref (zAd T (61))), (1, .int v1)] []) (v1 : Int32) (t0 : Int32)  (σ : zSt) (h : fX9_sum_45 F K5 v1 t0 σ = some (r, σ')) : Z T σ 45 [(0, .ref (zAd T (61))), (1, .int v1)] [.int t0] := by
  unfold fX9_sum_45 at h
  refine z_istore_n hC [(2, .int t0), (0, .ref (zAd T (61))), (1, .int v1)] rfl (by rw [hN]; decide) rfl dX9_sum_45 ?_
  refine z_aload_n hC 1 rfl rfl dX9_sum_46 ?_
  refine z_aload_n hC 1 rfl rfl dX9_sum_47 ?_
  refine gX9_10 hC kf_X9_99 (gi σ 61 10) rfl dX9_sum_48 ?_
  refine z_b1 h (fun s51_1 e_s51_1 h => ?_)
  refine z_cV1v hC (ctX9_meets hC.hm e_s51_1) (rcX9 hC) kb_X9_meets km_X9_126 ⟨by omega, by omega⟩ (Nat.le_of_ble_eq_true rfl) dX9_sum_51 ?_
  refine z_aload_n hC 1 rfl rfl dX9_sum_54 ?_
  refine z_dup hC rfl dX9_sum_55 ?_
  refine gX9_10 hC kf_X9_99 (gi s51_1 61 10) rfl dX9_sum_56 ?_
  refine z_iconst hC (1 : Int32) (by decide) dX9_sum_59 ?_
  refine z_iadd hC dX9_sum_60 ?_
  refine z_nmI h (fun x61_2 h => ?_)
  refine pX9_10 hC kf_X9_99 dX9_sum_61 ?_
  refine z_aload_n hC 1 rfl rfl dX9_sum_64 ?_
  refine z_cV0r hC (ctX9_bad hC.hm) (rcX9 hC) kb_X9_bad km_X9_109 ⟨by omega, by omega⟩ (Nat.le_of_ble_eq_true rfl) dX9_sum_65 ?_
  refine z_if_eq hC 75 (by decide) dX9_sum_68 (fun q68_3 => ?_) (fun q68_3 => ?_)
  · replace h := z_t q68_3 h
    refine z_aload_n hC 1 rfl rfl dX9_sum_75 ?_
    refine z_b2 h (fun r76_4 s76_5 e_r76_4 h => ?_)
    refine z_cV0r hC (hF.2.1 _ _ _ _ e_r76_4) (rcX9 hC) kb_X9_term km_X9_119 ⟨by omega, by omega⟩ (Nat.le_of_ble_eq_true rfl) dX9_sum_76 ?_
    refine z_istore_n hC [(3, .int r76_4), (2, .int t0), (0, .ref (zAd T (61))), (1, .int v1)] rfl (by rw [hN]; decide) rfl dX9_sum_79 ?_
    refine z_aload_n hC 2 rfl rfl dX9_sum_80 ?_
    refine z_iload_n hC 1 rfl rfl dX9_sum_81 ?_
    refine z_iload_n hC 3 rfl rfl dX9_sum_82 ?_
    refine z_iload_n hC 0 rfl rfl dX9_sum_83 ?_
    refine z_b2 h (fun r84_6 s84_7 e_r84_6 h => ?_)
    refine z_cV3r hC (ctX9_make hC.hm e_r84_6) (rcX9 hC) kb_X9_make km_X9_129 ⟨by omega, by omega⟩ (Nat.le_of_ble_eq_true rfl) dX9_sum_84 ?_
    refine z_istore_n hC [(1, .int r84_6), (3, .int r76_4), (2, .int t0), (0, .ref (zAd T (61)))] rfl (by rw [hN]; decide) rfl dX9_sum_87 ?_
    refine z_goto hC 5 (by decide) dX9_sum_88 ?_
    refine z_sub [(0, .ref (zAd T (61))), (1, .int r84_6)] [3, 0] rfl ?_
    exact hK5 _ _ h
  · replace h := z_f q68_3 h
    refine z_iconst hC (0 : Int32) (by decide) dX9_sum_71 ?_
    refine z_goto hC 79 (by decide) dX9_sum_72 ?_
    refine z_istore_n hC [(3, .int (0 : Int32)), (2, .int t0), (0, .ref (zAd T (61))), (1, .int v1)] rfl (by rw [hN]; decide) rfl dX9_sum_79 ?_
    refine z_aload_n hC 2 rfl rfl dX9_sum_80 ?_
    refine z_iload_n hC 1 rfl rfl dX9_sum_81 ?_
    refine z_iload_n hC 3 rfl rfl dX9_sum_82 ?_
    refine z_iload_n hC 0 rfl rfl dX9_sum_83 ?_
    refine z_b2 h (fun r84_8 s84_9 e_r84_8 h => ?_)
    refine z_cV3r hC (ctX9_make hC.hm e_r84_8) (rcX9 hC) kb_X9_make km_X9_129 ⟨by omega, by omega⟩ (Nat.le_of_ble_eq_true rfl) dX9_sum_84 ?_
    refine z_istore_n hC [(1, .int r84_8), (3, .int (0 : Int32)), (2, .int t0), (0, .ref (zAd T (61)))] rfl (by rw [hN]; decide) rfl dX9_sum_87 ?_
    refine z_goto hC 5 (by decide) dX9_sum_88 ?_
    refine z_sub [(0, .ref (zAd T (61))), (1, .int r84_8)] [3, 0] rfl ?_
    exact hK5 _ _ h
set_option maxRecDepth 100000 in
set_option maxHeartbeats 4000000 in
theorem wX9_sum_5 {T : zX} {fr lo gf gl : Nat} (hC : zOk T cX9_sum RX9 fr lo 61 85) (hN : zNL T = 4) {r : Int32} {σ' : zSt} (hQ : zRes T (some .int) (some (.int r)) σ') (hfr : gf + 1 ≤ fr ∧ 5 ≤ fr) (hlo : gl + 23 ≤ lo ∧ 109 ≤ lo) (F : Nat → Int32 → zSt → Option (Int32 × zSt)) (hF : G9_ok T F gf gl) (K5 : Int32 → zSt → Option (Int32 × zSt)) (hK5 : ∀ (v1 : Int32) (τ : zSt), K5 v1 τ = some (r, σ') → Z T τ 5 [(0, .ref (zAd T (61))), (1, .int v1)] []) (v1 : Int32)  (σ : zSt) (h : fX9_sum_5 F K5 v1 σ = some (r, σ')) : Z T σ 5 [(0, .ref (zAd T (61))), (1, .int v1)] [] := by
  unfold fX9_sum_5 at h
  refine z_aload_n hC 0 rfl rfl dX9_sum_5 ?_
  refine z_cV0r hC (ctX9_bad hC.hm) (rcX9 hC) kb_X9_bad km_X9_109 ⟨by omega, by omega⟩ (Nat.le_of_ble_eq_true rfl) dX9_sum_6 ?_
  refine z_if_ne hC 91 (by decide) dX9_sum_9 (fun q9_1 => ?_) (fun q9_1 => ?_)
  · replace h := z_f q9_1 h
    refine z_iload_n hC 1 rfl rfl dX9_sum_91 ?_
    obtain ⟨rfl, rfl⟩ := z_pr h
    exact z_iret hC hQ dX9_sum_92
  · replace h := z_t q9_1 h
    refine z_aload_n hC 0 rfl rfl dX9_sum_12 ?_
    refine z_b2 h (fun r13_2 s13_3 e_r13_2 h => ?_)
    refine z_cV0r hC (ctX9_peek hC.hm e_r13_2) (rcX9 hC) kb_X9_peek km_X9_123 ⟨by omega, by omega⟩ (Nat.le_of_ble_eq_true rfl) dX9_sum_13 ?_
    refine z_bipush hC (43 : Int32) (by decide) dX9_sum_16 ?_
    refine z_icmp_eq hC 30 (by decide) dX9_sum_18 (fun q18_4 => ?_) (fun q18_4 => ?_)
    · replace h := z_t q18_4 h
      refine z_aload_n hC 0 rfl rfl dX9_sum_30 ?_
      refine z_b2 h (fun r31_5 s31_6 e_r31_5 h => ?_)
      refine z_cV0r hC (ctX9_peek hC.hm e_r31_5) (rcX9 hC) kb_X9_peek km_X9_123 ⟨by omega, by omega⟩ (Nat.le_of_ble_eq_true rfl) dX9_sum_31 ?_
      refine z_bipush hC (43 : Int32) (by decide) dX9_sum_34 ?_
      refine z_icmp_ne hC 43 (by decide) dX9_sum_36 (fun q36_7 => ?_) (fun q36_7 => ?_)
      · replace h := z_f q36_7 h
        refine z_bipush hC (6 : Int32) (by decide) dX9_sum_43 ?_
        exact (wX9_sum_45 hC hN hQ hfr hlo F hF K5 hK5 ) _ _ _ h
      · replace h := z_t q36_7 h
        refine z_iconst hC (5 : Int32) (by decide) dX9_sum_39 ?_
        refine z_goto hC 45 (by decide) dX9_sum_40 ?_
        exact (wX9_sum_45 hC hN hQ hfr hlo F hF K5 hK5 ) _ _ _ h
    · replace h := z_f q18_4 h
      refine z_aload_n hC 0 rfl rfl dX9_sum_21 ?_
      refine z_b2 h (fun r22_8 s22_9 e_r22_8 h => ?_)
      refine z_cV0r hC (ctX9_peek hC.hm e_r22_8) (rcX9 hC) kb_X9_peek km_X9_123 ⟨by omega, by omega⟩ (Nat.le_of_ble_eq_true rfl) dX9_sum_22 ?_
      refine z_bipush hC (45 : Int32) (by decide) dX9_sum_25 ?_
      refine z_icmp_ne hC 91 (by decide) dX9_sum_27 (fun q27_10 => ?_) (fun q27_10 => ?_)
      · replace h := z_f q27_10 h
        refine z_iload_n hC 1 rfl rfl dX9_sum_91 ?_
        obtain ⟨rfl, rfl⟩ := z_pr h
        exact z_iret hC hQ dX9_sum_92
      · replace h := z_t q27_10 h
        refine z_aload_n hC 0 rfl rfl dX9_sum_30 ?_
        refine z_b2 h (fun r31_11 s31_12 e_r31_11 h => ?_)
        refine z_cV0r hC (ctX9_peek hC.hm e_r31_11) (rcX9 hC) kb_X9_peek km_X9_123 ⟨by omega, by omega⟩ (Nat.le_of_ble_eq_true rfl) dX9_sum_31 ?_
        refine z_bipush hC (43 : Int32) (by decide) dX9_sum_34 ?_
        refine z_icmp_ne hC 43 (by decide) dX9_sum_36 (fun q36_13 => ?_) (fun q36_13 => ?_)
        · replace h := z_f q36_13 h
          refine z_bipush hC (6 : Int32) (by decide) dX9_sum_43 ?_
          exact (wX9_sum_45 hC hN hQ hfr hlo F hF K5 hK5 ) _ _ _ h
        · replace h := z_t q36_13 h
          refine z_iconst hC (5 : Int32) (by decide) dX9_sum_39 ?_
          refine z_goto hC 45 (by decide) dX9_sum_40 ?_
          exact (wX9_sum_45 hC hN hQ hfr hlo F hF K5 hK5 ) _ _ _ h
theorem wX9_sum_L5 {T : zX} {fr lo gf gl : Nat} (hC : zOk T cX9_sum RX9 fr lo 61 85) (hN : zNL T = 4) {r : Int32} {σ' : zSt} (hQ : zRes T (some .int) (some (.int r)) σ') (hfr : gf + 1 ≤ fr ∧ 5 ≤ fr) (hlo : gl + 23 ≤ lo ∧ 109 ≤ lo) (F : Nat → Int32 → zSt → Option (Int32 × zSt)) (hF : G9_ok T F gf gl) (n : Nat) : ∀ (v1 : Int32) (σ : zSt), fX9_sum_L5 F n v1 σ = some (r, σ') → Z T σ 5 [(0, .ref (zAd T (61))), (1, .int v1)] [] := by
  induction n with
  | zero => intro v1 σ h; cases h
  | succ n ih => intro v1 σ h; exact wX9_sum_5 hC hN hQ hfr hlo F hF (fX9_sum_L5 F n) ih v1 σ h
set_option maxRecDepth 100000 in
set_option maxHeartbeats 4000000 in
theorem wX9_sum_0 {T : zX} {fr lo gf gl : Nat} (hC : zOk T cX9_sum RX9 fr lo 61 85) (hN : zNL T = 4) {r : Int32} {σ' : zSt} (hQ : zRes T (some .int) (some (.int r)) σ') (hfr : gf + 1 ≤ fr ∧ 5 ≤ fr) (hlo : gl + 23 ≤ lo ∧ 109 ≤ lo) (F : Nat → Int32 → zSt → Option (Int32 × zSt)) (hF : G9_ok T F gf gl)   (σ : zSt) (h : fX9_sum_0 F  σ = some (r, σ')) : Z T σ 0 [(0, .ref (zAd T (61)))] [] := by
  unfold fX9_sum_0 at h
  refine z_aload_n hC 0 rfl rfl dX9_sum_0 ?_
  refine z_b2 h (fun r1_1 s1_2 e_r1_1 h => ?_)
  refine z_cV0r hC (hF.2.1 _ _ _ _ e_r1_1) (rcX9 hC) kb_X9_term km_X9_119 ⟨by omega, by omega⟩ (Nat.le_of_ble_eq_true rfl) dX9_sum_1 ?_
  refine z_istore_n hC [(1, .int r1_1), (0, .ref (zAd T (61)))] rfl (by rw [hN]; decide) rfl dX9_sum_4 ?_
  refine z_sub [(0, .ref (zAd T (61))), (1, .int r1_1)] [1, 0] rfl ?_
  exact (wX9_sum_L5 hC hN hQ hfr hlo F hF zFU) _ _ h
noncomputable def fX9_term_46 (F : Nat → Int32 → zSt → Option (Int32 × zSt)) (K5 : Int32 → zSt → Option (Int32 × zSt)) (v1 : Int32) (t0 : Int32) (σ : zSt) : Option (Int32 × zSt) := bd1 (fX9_meets (gi σ 61 10) σ) fun s52_1 => nm ((gi s52_1 61 10) + (1 : Int32)) fun x62_2 => 
    (if (fX9_bad (si s52_1 61 10 x62_2)) = 0 then bd2 (F 2 0 (si s52_1 61 10 x62_2)) fun r77_4 s77_5 => bd2 (fX9_make t0 v1 r77_4 s77_5) fun r85_6 s85_7 => K5 r85_6 s85_7
    else bd2 (fX9_make t0 v1 (0 : Int32) (si s52_1 61 10 x62_2)) fun r85_8 s85_9 => K5 r85_8 s85_9)
noncomputable def fX9_term_5 (F : Nat → Int32 → zSt → Option (Int32 × zSt)) (K5 : Int32 → zSt → Option (Int32 × zSt)) (v1 : Int32) (σ : zSt) : Option (Int32 × zSt) := 
    (if (fX9_bad σ) = 0 then bd2 (fX9_peek σ) fun r13_2 s13_3 => 
      (if r13_2 = (42 : Int32) then bd2 (fX9_peek s13_3) fun r31_5 s31_6 => 
        (if r31_5 = (42 : Int32) then fX9_term_46 F K5 v1 (7 : Int32) s31_6
        else fX9_term_46 F K5 v1 (8 : Int32) s31_6)
      else bd2 (fX9_peek s13_3) fun r22_8 s22_9 => 
        (if r22_8 = (47 : Int32) then bd2 (fX9_peek s22_9) fun r31_11 s31_12 => 
          (if r31_11 = (42 : Int32) then fX9_term_46 F K5 v1 (7 : Int32) s31_12
          else fX9_term_46 F K5 v1 (8 : Int32) s31_12)
        else some (v1, s22_9)))
    else some (v1, σ))
noncomputable def fX9_term_L5 (F : Nat → Int32 → zSt → Option (Int32 × zSt)) : Nat → Int32 → zSt → Option (Int32 × zSt)
  | 0, _, _ => none
  | n + 1, v1, σ => fX9_term_5 F (fX9_term_L5 F n) v1 σ
noncomputable def fX9_term_0 (F : Nat → Int32 → zSt → Option (Int32 × zSt))  (σ : zSt) : Option (Int32 × zSt) := bd2 (F 2 0 σ) fun r1_1 s1_2 => fX9_term_L5 F zFU r1_1 s1_2
noncomputable def fX9_term (F : Nat → Int32 → zSt → Option (Int32 × zSt))  (σ : zSt) : Option (Int32 × zSt) := fX9_term_0 F  σ
set_option maxRecDepth 100000 in
set_option maxHeartbeats 4000000 in
theorem wX9_term_46 {T : zX} {fr lo gf gl : Nat} (hC : zOk T cX9_term RX9 fr lo 61 85) (hN : zNL T = 4) {r : Int32} {σ' : zSt} (hQ : zRes T (some .int) (some (.int r)) σ') (hfr : gf + 1 ≤ fr ∧ 5 ≤ fr) (hlo : gl + 23 ≤ lo ∧ 109 ≤ lo) (F : Nat → Int32 → zSt → Option (Int32 × zSt)) (hF : G9_ok T F gf gl) (K5 : Int32 → zSt → Option (Int32 × zSt)) (hK5 : ∀ (v1 : Int32) (τ : zSt), K5 v1 τ = some (r, σ') → Z T τ 5 [(0, .ref (zAd T (61))), (1, .int v1)] []) (v1 : Int32) (t0 : Int32)  (σ : zSt) (h : fX9_term_46 F K5 v1 t0 σ = some (r, σ')) : Z T σ 46 [(0, .ref (zAd T (61))), (1, .int v1)] [.int t0] := by
  unfold fX9_term_46 at h
  refine z_istore_n hC [(2, .int t0), (0, .ref (zAd T (61))), (1, .int v1)] rfl (by rw [hN]; decide) rfl dX9_term_46 ?_
  refine z_aload_n hC 1 rfl rfl dX9_term_47 ?_
  refine z_aload_n hC 1 rfl rfl dX9_term_48 ?_
  refine gX9_10 hC kf_X9_99 (gi σ 61 10) rfl dX9_term_49 ?_
  refine z_b1 h (fun s52_1 e_s52_1 h => ?_)
  refine z_cV1v hC (ctX9_meets hC.hm e_s52_1) (rcX9 hC) kb_X9_meets km_X9_126 ⟨by omega, by omega⟩ (Nat.le_of_ble_eq_true rfl) dX9_term_52 ?_
  refine z_aload_n hC 1 rfl rfl dX9_term_55 ?_
  refine z_dup hC rfl dX9_term_56 ?_
  refine gX9_10 hC kf_X9_99 (gi s52_1 61 10) rfl dX9_term_57 ?_
  refine z_iconst hC (1 : Int32) (by decide) dX9_term_60 ?_
  refine z_iadd hC dX9_term_61 ?_
  refine z_nmI h (fun x62_2 h => ?_)
  refine pX9_10 hC kf_X9_99 dX9_term_62 ?_
  refine z_aload_n hC 1 rfl rfl dX9_term_65 ?_
  refine z_cV0r hC (ctX9_bad hC.hm) (rcX9 hC) kb_X9_bad km_X9_109 ⟨by omega, by omega⟩ (Nat.le_of_ble_eq_true rfl) dX9_term_66 ?_
  refine z_if_eq hC 76 (by decide) dX9_term_69 (fun q69_3 => ?_) (fun q69_3 => ?_)
  · replace h := z_t q69_3 h
    refine z_aload_n hC 1 rfl rfl dX9_term_76 ?_
    refine z_b2 h (fun r77_4 s77_5 e_r77_4 h => ?_)
    refine z_cV0r hC (hF.2.2.1 _ _ _ _ e_r77_4) (rcX9 hC) kb_X9_power km_X9_133 ⟨by omega, by omega⟩ (Nat.le_of_ble_eq_true rfl) dX9_term_77 ?_
    refine z_istore_n hC [(3, .int r77_4), (2, .int t0), (0, .ref (zAd T (61))), (1, .int v1)] rfl (by rw [hN]; decide) rfl dX9_term_80 ?_
    refine z_aload_n hC 2 rfl rfl dX9_term_81 ?_
    refine z_iload_n hC 1 rfl rfl dX9_term_82 ?_
    refine z_iload_n hC 3 rfl rfl dX9_term_83 ?_
    refine z_iload_n hC 0 rfl rfl dX9_term_84 ?_
    refine z_b2 h (fun r85_6 s85_7 e_r85_6 h => ?_)
    refine z_cV3r hC (ctX9_make hC.hm e_r85_6) (rcX9 hC) kb_X9_make km_X9_129 ⟨by omega, by omega⟩ (Nat.le_of_ble_eq_true rfl) dX9_term_85 ?_
    refine z_istore_n hC [(1, .int r85_6), (3, .int r77_4), (2, .int t0), (0, .ref (zAd T (61)))] rfl (by rw [hN]; decide) rfl dX9_term_88 ?_
    refine z_goto hC 5 (by decide) dX9_term_89 ?_
    refine z_sub [(0, .ref (zAd T (61))), (1, .int r85_6)] [3, 0] rfl ?_
    exact hK5 _ _ h
  · replace h := z_f q69_3 h
    refine z_iconst hC (0 : Int32) (by decide) dX9_term_72 ?_
    refine z_goto hC 80 (by decide) dX9_term_73 ?_
    refine z_istore_n hC [(3, .int (0 : Int32)), (2, .int t0), (0, .ref (zAd T (61))), (1, .int v1)] rfl (by rw [hN]; decide) rfl dX9_term_80 ?_
    refine z_aload_n hC 2 rfl rfl dX9_term_81 ?_
    refine z_iload_n hC 1 rfl rfl dX9_term_82 ?_
    refine z_iload_n hC 3 rfl rfl dX9_term_83 ?_
    refine z_iload_n hC 0 rfl rfl dX9_term_84 ?_
    refine z_b2 h (fun r85_8 s85_9 e_r85_8 h => ?_)
    refine z_cV3r hC (ctX9_make hC.hm e_r85_8) (rcX9 hC) kb_X9_make km_X9_129 ⟨by omega, by omega⟩ (Nat.le_of_ble_eq_true rfl) dX9_term_85 ?_
    refine z_istore_n hC [(1, .int r85_8), (3, .int (0 : Int32)), (2, .int t0), (0, .ref (zAd T (61)))] rfl (by rw [hN]; decide) rfl dX9_term_88 ?_
    refine z_goto hC 5 (by decide) dX9_term_89 ?_
    refine z_sub [(0, .ref (zAd T (61))), (1, .int r85_8)] [3, 0] rfl ?_
    exact hK5 _ _ h
set_option maxRecDepth 100000 in
set_option maxHeartbeats 4000000 in
theorem wX9_term_5 {T : zX} {fr lo gf gl : Nat} (hC : zOk T cX9_term RX9 fr lo 61 85) (hN : zNL T = 4) {r : Int32} {σ' : zSt} (hQ : zRes T (some .int) (some (.int r)) σ') (hfr : gf + 1 ≤ fr ∧ 5 ≤ fr) (hlo : gl + 23 ≤ lo ∧ 109 ≤ lo) (F : Nat → Int32 → zSt → Option (Int32 × zSt)) (hF : G9_ok T F gf gl) (K5 : Int32 → zSt → Option (Int32 × zSt)) (hK5 : ∀ (v1 : Int32) (τ : zSt), K5 v1 τ = some (r, σ') → Z T τ 5 [(0, .ref (zAd T (61))), (1, .int v1)] []) (v1 : Int32)  (σ : zSt) (h : fX9_term_5 F K5 v1 σ = some (r, σ')) : Z T σ 5 [(0, .ref (zAd T (61))), (1, .int v1)] [] := by
  unfold fX9_term_5 at h
  refine z_aload_n hC 0 rfl rfl dX9_term_5 ?_
  refine z_cV0r hC (ctX9_bad hC.hm) (rcX9 hC) kb_X9_bad km_X9_109 ⟨by omega, by omega⟩ (Nat.le_of_ble_eq_true rfl) dX9_term_6 ?_
  refine z_if_ne hC 92 (by decide) dX9_term_9 (fun q9_1 => ?_) (fun q9_1 => ?_)
  · replace h := z_f q9_1 h
    refine z_iload_n hC 1 rfl rfl dX9_term_92 ?_
    obtain ⟨rfl, rfl⟩ := z_pr h
    exact z_iret hC hQ dX9_term_93
  · replace h := z_t q9_1 h
    refine z_aload_n hC 0 rfl rfl dX9_term_12 ?_
    refine z_b2 h (fun r13_2 s13_3 e_r13_2 h => ?_)
    refine z_cV0r hC (ctX9_peek hC.hm e_r13_2) (rcX9 hC) kb_X9_peek km_X9_123 ⟨by omega, by omega⟩ (Nat.le_of_ble_eq_true rfl) dX9_term_13 ?_
    refine z_bipush hC (42 : Int32) (by decide) dX9_term_16 ?_
    refine z_icmp_eq hC 30 (by decide) dX9_term_18 (fun q18_4 => ?_) (fun q18_4 => ?_)
    · replace h := z_t q18_4 h
      refine z_aload_n hC 0 rfl rfl dX9_term_30 ?_
      refine z_b2 h (fun r31_5 s31_6 e_r31_5 h => ?_)
      refine z_cV0r hC (ctX9_peek hC.hm e_r31_5) (rcX9 hC) kb_X9_peek km_X9_123 ⟨by omega, by omega⟩ (Nat.le_of_ble_eq_true rfl) dX9_term_31 ?_
      refine z_bipush hC (42 : Int32) (by decide) dX9_term_34 ?_
      refine z_icmp_ne hC 44 (by decide) dX9_term_36 (fun q36_7 => ?_) (fun q36_7 => ?_)
      · replace h := z_f q36_7 h
        refine z_bipush hC (8 : Int32) (by decide) dX9_term_44 ?_
        exact (wX9_term_46 hC hN hQ hfr hlo F hF K5 hK5 ) _ _ _ h
      · replace h := z_t q36_7 h
        refine z_bipush hC (7 : Int32) (by decide) dX9_term_39 ?_
        refine z_goto hC 46 (by decide) dX9_term_41 ?_
        exact (wX9_term_46 hC hN hQ hfr hlo F hF K5 hK5 ) _ _ _ h
    · replace h := z_f q18_4 h
      refine z_aload_n hC 0 rfl rfl dX9_term_21 ?_
      refine z_b2 h (fun r22_8 s22_9 e_r22_8 h => ?_)
      refine z_cV0r hC (ctX9_peek hC.hm e_r22_8) (rcX9 hC) kb_X9_peek km_X9_123 ⟨by omega, by omega⟩ (Nat.le_of_ble_eq_true rfl) dX9_term_22 ?_
      refine z_bipush hC (47 : Int32) (by decide) dX9_term_25 ?_
      refine z_icmp_ne hC 92 (by decide) dX9_term_27 (fun q27_10 => ?_) (fun q27_10 => ?_)
      · replace h := z_f q27_10 h
        refine z_iload_n hC 1 rfl rfl dX9_term_92 ?_
        obtain ⟨rfl, rfl⟩ := z_pr h
        exact z_iret hC hQ dX9_term_93
      · replace h := z_t q27_10 h
        refine z_aload_n hC 0 rfl rfl dX9_term_30 ?_
        refine z_b2 h (fun r31_11 s31_12 e_r31_11 h => ?_)
        refine z_cV0r hC (ctX9_peek hC.hm e_r31_11) (rcX9 hC) kb_X9_peek km_X9_123 ⟨by omega, by omega⟩ (Nat.le_of_ble_eq_true rfl) dX9_term_31 ?_
        refine z_bipush hC (42 : Int32) (by decide) dX9_term_34 ?_
        refine z_icmp_ne hC 44 (by decide) dX9_term_36 (fun q36_13 => ?_) (fun q36_13 => ?_)
        · replace h := z_f q36_13 h
          refine z_bipush hC (8 : Int32) (by decide) dX9_term_44 ?_
          exact (wX9_term_46 hC hN hQ hfr hlo F hF K5 hK5 ) _ _ _ h
        · replace h := z_t q36_13 h
          refine z_bipush hC (7 : Int32) (by decide) dX9_term_39 ?_
          refine z_goto hC 46 (by decide) dX9_term_41 ?_
          exact (wX9_term_46 hC hN hQ hfr hlo F hF K5 hK5 ) _ _ _ h
theorem wX9_term_L5 {T : zX} {fr lo gf gl : Nat} (hC : zOk T cX9_term RX9 fr lo 61 85) (hN : zNL T = 4) {r : Int32} {σ' : zSt} (hQ : zRes T (some .int) (some (.int r)) σ') (hfr : gf + 1 ≤ fr ∧ 5 ≤ fr) (hlo : gl + 23 ≤ lo ∧ 109 ≤ lo) (F : Nat → Int32 → zSt → Option (Int32 × zSt)) (hF : G9_ok T F gf gl) (n : Nat) : ∀ (v1 : Int32) (σ : zSt), fX9_term_L5 F n v1 σ = some (r, σ') → Z T σ 5 [(0, .ref (zAd T (61))), (1, .int v1)] [] := by
  induction n with
  | zero => intro v1 σ h; cases h
  | succ n ih => intro v1 σ h; exact wX9_term_5 hC hN hQ hfr hlo F hF (fX9_term_L5 F n) ih v1 σ h
set_option maxRecDepth 100000 in
set_option maxHeartbeats 4000000 in
theorem wX9_term_0 {T : zX} {fr lo gf gl : Nat} (hC : zOk T cX9_term RX9 fr lo 61 85) (hN : zNL T = 4) {r : Int32} {σ' : zSt} (hQ : zRes T (some .int) (some (.int r)) σ') (hfr : gf + 1 ≤ fr ∧ 5 ≤ fr) (hlo : gl + 23 ≤ lo ∧ 109 ≤ lo) (F : Nat → Int32 → zSt → Option (Int32 × zSt)) (hF : G9_ok T F gf gl)   (σ : zSt) (h : fX9_term_0 F  σ = some (r, σ')) : Z T σ 0 [(0, .ref (zAd T (61)))] [] := by
  unfold fX9_term_0 at h
  refine z_aload_n hC 0 rfl rfl dX9_term_0 ?_
  refine z_b2 h (fun r1_1 s1_2 e_r1_1 h => ?_)
  refine z_cV0r hC (hF.2.2.1 _ _ _ _ e_r1_1) (rcX9 hC) kb_X9_power km_X9_133 ⟨by omega, by omega⟩ (Nat.le_of_ble_eq_true rfl) dX9_term_1 ?_
  refine z_istore_n hC [(1, .int r1_1), (0, .ref (zAd T (61)))] rfl (by rw [hN]; decide) rfl dX9_term_4 ?_
  refine z_sub [(0, .ref (zAd T (61))), (1, .int r1_1)] [1, 0] rfl ?_
  exact (wX9_term_L5 hC hN hQ hfr hlo F hF zFU) _ _ h
noncomputable def fX9_power_130 (F : Nat → Int32 → zSt → Option (Int32 × zSt)) (v1 : Int32) (v2 : Int32) (v3 : Int32) (σ : zSt) : Option (Int32 × zSt) := bd2 (fX9_make (4 : Int32) v2 (v3 - (48 : Int32)) (si σ 61 10 ((gi σ 61 10) + (1 : Int32)))) fun r147_1 s147_2 => 
    (if v1 = 0 then some (r147_1, s147_2)
    else bd2 (fX9_make (3 : Int32) r147_1 (0 : Int32) s147_2) fun r159_4 s159_5 => some (r159_4, s159_5))
noncomputable def fX9_power_100 (F : Nat → Int32 → zSt → Option (Int32 × zSt)) (v1 : Int32) (v2 : Int32) (t0 : Int32) (σ : zSt) : Option (Int32 × zSt) := 
    (if (fX9_bad σ) = 0 then 
      (if t0 < (49 : Int32) then bd2 (fX9_fails (1 : Int32) (gi σ 61 10) σ) fun r126_3 s126_4 => some (r126_3, s126_4)
      else 
        (if t0 ≤ (57 : Int32) then fX9_power_130 F v1 v2 t0 σ
        else bd2 (fX9_fails (1 : Int32) (gi σ 61 10) σ) fun r126_6 s126_7 => some (r126_6, s126_7)))
    else fX9_power_130 F v1 v2 t0 σ)
noncomputable def fX9_power_37 (F : Nat → Int32 → zSt → Option (Int32 × zSt)) (v1 : Int32) (σ : zSt) : Option (Int32 × zSt) := 
    (if (fX9_bad σ) = 0 then bd2 (F 3 0 σ) fun r47_2 s47_3 => 
      (if (fX9_bad s47_3) = 0 then bd2 (fX9_peek s47_3) fun r59_8 s59_9 => 
        (if r59_8 = (94 : Int32) then bd1 (fX9_meets (gi s59_9 61 10) s59_9) fun s72_14 => nm ((gi s72_14 61 10) + (1 : Int32)) fun x82_15 => 
          (if (fX9_bad (si s72_14 61 10 x82_15)) = 0 then bd2 (fX9_peek (si s72_14 61 10 x82_15)) fun r97_17 s97_18 => fX9_power_100 F v1 r47_2 r97_17 s97_18
          else fX9_power_100 F v1 r47_2 (0 : Int32) (si s72_14 61 10 x82_15))
        else 
          (if v1 = 0 then some (r47_2, s59_9)
          else bd2 (fX9_make (3 : Int32) r47_2 (0 : Int32) s59_9) fun r159_12 s159_13 => some (r159_12, s159_13)))
      else 
        (if v1 = 0 then some (r47_2, s47_3)
        else bd2 (fX9_make (3 : Int32) r47_2 (0 : Int32) s47_3) fun r159_6 s159_7 => some (r159_6, s159_7)))
    else some ((0 : Int32), σ))
noncomputable def fX9_power_0 (F : Nat → Int32 → zSt → Option (Int32 × zSt))  (σ : zSt) : Option (Int32 × zSt) := bd2 (fX9_peek σ) fun r1_1 s1_2 => 
    (if r1_1 = (45 : Int32) then bd1 (fX9_meets (gi s1_2 61 10) s1_2) fun s24_4 => nm ((gi s24_4 61 10) + (1 : Int32)) fun x34_5 => fX9_power_37 F (1 : Int32) (si s24_4 61 10 x34_5)
    else fX9_power_37 F (0 : Int32) s1_2)
noncomputable def fX9_power (F : Nat → Int32 → zSt → Option (Int32 × zSt))  (σ : zSt) : Option (Int32 × zSt) := fX9_power_0 F  σ
set_option maxRecDepth 100000 in
set_option maxHeartbeats 4000000 in
theorem wX9_power_130 {T : zX} {fr lo gf gl : Nat} (hC : zOk T cX9_power RX9 fr lo 61 85) (hN : zNL T = 4) {r : Int32} {σ' : zSt} (hQ : zRes T (some .int) (some (.int r)) σ') (hfr : gf + 1 ≤ fr ∧ 5 ≤ fr) (hlo : gl + 23 ≤ lo ∧ 109 ≤ lo) (F : Nat → Int32 → zSt → Option (Int32 × zSt)) (hF : G9_ok T F gf gl) (v1 : Int32) (v2 : Int32) (v3 : Int32)  (σ : zSt) (h : fX9_power_130 F v1 v2 v3 σ = some (r, σ')) : Z T σ 130 [(0, .ref (zAd T (61))), (1, .int v1), (2, .int v2), (3, .int v3)] [] := by
  unfold fX9_power_130 at h
  refine z_aload_n hC 0 rfl rfl dX9_power_130 ?_
  refine z_dup hC rfl dX9_power_131 ?_
  refine gX9_10 hC kf_X9_99 (gi σ 61 10) rfl dX9_power_132 ?_
  refine z_iconst hC (1 : Int32) (by decide) dX9_power_135 ?_
  refine z_iadd hC dX9_power_136 ?_
  refine pX9_10 hC kf_X9_99 dX9_power_137 ?_
  refine z_aload_n hC 0 rfl rfl dX9_power_140 ?_
  refine z_iconst hC (4 : Int32) (by decide) dX9_power_141 ?_
  refine z_iload_n hC 2 rfl rfl dX9_power_142 ?_
  refine z_iload_n hC 3 rfl rfl dX9_power_143 ?_
  refine z_bipush hC (48 : Int32) (by decide) dX9_power_144 ?_
  refine z_isub hC dX9_power_146 ?_
  refine z_b2 h (fun r147_1 s147_2 e_r147_1 h => ?_)
  refine z_cV3r hC (ctX9_make hC.hm e_r147_1) (rcX9 hC) kb_X9_make km_X9_129 ⟨by omega, by omega⟩ (Nat.le_of_ble_eq_true rfl) dX9_power_147 ?_
  refine z_istore_n hC [(2, .int r147_1), (0, .ref (zAd T (61))), (1, .int v1), (3, .int v3)] rfl (by rw [hN]; decide) rfl dX9_power_150 ?_
  refine z_iload_n hC 2 rfl rfl dX9_power_151 ?_
  refine z_if_eq hC 165 (by decide) dX9_power_152 (fun q152_3 => ?_) (fun q152_3 => ?_)
  · replace h := z_t q152_3 h
    refine z_iload_n hC 0 rfl rfl dX9_power_165 ?_
    obtain ⟨rfl, rfl⟩ := z_pr h
    exact z_iret hC hQ dX9_power_166
  · replace h := z_f q152_3 h
    refine z_aload_n hC 1 rfl rfl dX9_power_155 ?_
    refine z_iconst hC (3 : Int32) (by decide) dX9_power_156 ?_
    refine z_iload_n hC 0 rfl rfl dX9_power_157 ?_
    refine z_iconst hC (0 : Int32) (by decide) dX9_power_158 ?_
    refine z_b2 h (fun r159_4 s159_5 e_r159_4 h => ?_)
    refine z_cV3r hC (ctX9_make hC.hm e_r159_4) (rcX9 hC) kb_X9_make km_X9_129 ⟨by omega, by omega⟩ (Nat.le_of_ble_eq_true rfl) dX9_power_159 ?_
    refine z_goto hC 166 (by decide) dX9_power_162 ?_
    obtain ⟨rfl, rfl⟩ := z_pr h
    exact z_iret hC hQ dX9_power_166
set_option maxRecDepth 100000 in
set_option maxHeartbeats 4000000 in
theorem wX9_power_100 {T : zX} {fr lo gf gl : Nat} (hC : zOk T cX9_power RX9 fr lo 61 85) (hN : zNL T = 4) {r : Int32} {σ' : zSt} (hQ : zRes T (some .int) (some (.int r)) σ') (hfr : gf + 1 ≤ fr ∧ 5 ≤ fr) (hlo : gl + 23 ≤ lo ∧ 109 ≤ lo) (F : Nat → Int32 → zSt → Option (Int32 × zSt)) (hF : G9_ok T F gf gl) (v1 : Int32) (v2 : Int32) (t0 : Int32)  (σ : zSt) (h : fX9_power_100 F v1 v2 t0 σ = some (r, σ')) : Z T σ 100 [(0, .ref (zAd T (61))), (1, .int v1), (2, .int v2)] [.int t0] := by
  unfold fX9_power_100 at h
  refine z_istore_n hC [(3, .int t0), (0, .ref (zAd T (61))), (1, .int v1), (2, .int v2)] rfl (by rw [hN]; decide) rfl dX9_power_100 ?_
  refine z_aload_n hC 1 rfl rfl dX9_power_101 ?_
  refine z_cV0r hC (ctX9_bad hC.hm) (rcX9 hC) kb_X9_bad km_X9_109 ⟨by omega, by omega⟩ (Nat.le_of_ble_eq_true rfl) dX9_power_102 ?_
  refine z_if_ne hC 130 (by decide) dX9_power_105 (fun q105_1 => ?_) (fun q105_1 => ?_)
  · replace h := z_f q105_1 h
    refine z_sub [(0, .ref (zAd T (61))), (1, .int v1), (2, .int v2), (3, .int t0)] [1, 2, 3, 0] rfl ?_
    exact (wX9_power_130 hC hN hQ hfr hlo F hF ) _ _ _ _ h
  · replace h := z_t q105_1 h
    refine z_iload_n hC 0 rfl rfl dX9_power_108 ?_
    refine z_bipush hC (49 : Int32) (by decide) dX9_power_109 ?_
    refine z_icmp_lt hC 120 (by decide) dX9_power_111 (fun q111_2 => ?_) (fun q111_2 => ?_)
    · replace h := z_t q111_2 h
      refine z_aload_n hC 1 rfl rfl dX9_power_120 ?_
      refine z_iconst hC (1 : Int32) (by decide) dX9_power_121 ?_
      refine z_aload_n hC 1 rfl rfl dX9_power_122 ?_
      refine gX9_10 hC kf_X9_99 (gi σ 61 10) rfl dX9_power_123 ?_
      refine z_b2 h (fun r126_3 s126_4 e_r126_3 h => ?_)
      refine z_cV2r hC (ctX9_fails hC.hm e_r126_3) (rcX9 hC) kb_X9_fails km_X9_105 ⟨by omega, by omega⟩ (Nat.le_of_ble_eq_true rfl) dX9_power_126 ?_
      obtain ⟨rfl, rfl⟩ := z_pr h
      exact z_iret hC hQ dX9_power_129
    · replace h := z_f q111_2 h
      refine z_iload_n hC 0 rfl rfl dX9_power_114 ?_
      refine z_bipush hC (57 : Int32) (by decide) dX9_power_115 ?_
      refine z_icmp_le hC 130 (by decide) dX9_power_117 (fun q117_5 => ?_) (fun q117_5 => ?_)
      · replace h := z_t q117_5 h
        refine z_sub [(0, .ref (zAd T (61))), (1, .int v1), (2, .int v2), (3, .int t0)] [1, 2, 3, 0] rfl ?_
        exact (wX9_power_130 hC hN hQ hfr hlo F hF ) _ _ _ _ h
      · replace h := z_f q117_5 h
        refine z_aload_n hC 1 rfl rfl dX9_power_120 ?_
        refine z_iconst hC (1 : Int32) (by decide) dX9_power_121 ?_
        refine z_aload_n hC 1 rfl rfl dX9_power_122 ?_
        refine gX9_10 hC kf_X9_99 (gi σ 61 10) rfl dX9_power_123 ?_
        refine z_b2 h (fun r126_6 s126_7 e_r126_6 h => ?_)
        refine z_cV2r hC (ctX9_fails hC.hm e_r126_6) (rcX9 hC) kb_X9_fails km_X9_105 ⟨by omega, by omega⟩ (Nat.le_of_ble_eq_true rfl) dX9_power_126 ?_
        obtain ⟨rfl, rfl⟩ := z_pr h
        exact z_iret hC hQ dX9_power_129
set_option maxRecDepth 100000 in
set_option maxHeartbeats 4000000 in
theorem wX9_power_37 {T : zX} {fr lo gf gl : Nat} (hC : zOk T cX9_power RX9 fr lo 61 85) (hN : zNL T = 4) {r : Int32} {σ' : zSt} (hQ : zRes T (some .int) (some (.int r)) σ') (hfr : gf + 1 ≤ fr ∧ 5 ≤ fr) (hlo : gl + 23 ≤ lo ∧ 109 ≤ lo) (F : Nat → Int32 → zSt → Option (Int32 × zSt)) (hF : G9_ok T F gf gl) (v1 : Int32)  (σ : zSt) (h : fX9_power_37 F v1 σ = some (r, σ')) : Z T σ 37 [(0, .ref (zAd T (61))), (1, .int v1)] [] := by
  unfold fX9_power_37 at h
  refine z_aload_n hC 0 rfl rfl dX9_power_37 ?_
  refine z_cV0r hC (ctX9_bad hC.hm) (rcX9 hC) kb_X9_bad km_X9_109 ⟨by omega, by omega⟩ (Nat.le_of_ble_eq_true rfl) dX9_power_38 ?_
  refine z_if_eq hC 46 (by decide) dX9_power_41 (fun q41_1 => ?_) (fun q41_1 => ?_)
  · replace h := z_t q41_1 h
    refine z_aload_n hC 0 rfl rfl dX9_power_46 ?_
    refine z_b2 h (fun r47_2 s47_3 e_r47_2 h => ?_)
    refine z_cV0r hC (hF.2.2.2.1 _ _ _ _ e_r47_2) (rcX9 hC) kb_X9_part km_X9_136 ⟨by omega, by omega⟩ (Nat.le_of_ble_eq_true rfl) dX9_power_47 ?_
    refine z_istore_n hC [(2, .int r47_2), (0, .ref (zAd T (61))), (1, .int v1)] rfl (by rw [hN]; decide) rfl dX9_power_50 ?_
    refine z_aload_n hC 1 rfl rfl dX9_power_51 ?_
    refine z_cV0r hC (ctX9_bad hC.hm) (rcX9 hC) kb_X9_bad km_X9_109 ⟨by omega, by omega⟩ (Nat.le_of_ble_eq_true rfl) dX9_power_52 ?_
    refine z_if_ne hC 151 (by decide) dX9_power_55 (fun q55_4 => ?_) (fun q55_4 => ?_)
    · replace h := z_f q55_4 h
      refine z_iload_n hC 2 rfl rfl dX9_power_151 ?_
      refine z_if_eq hC 165 (by decide) dX9_power_152 (fun q152_5 => ?_) (fun q152_5 => ?_)
      · replace h := z_t q152_5 h
        refine z_iload_n hC 0 rfl rfl dX9_power_165 ?_
        obtain ⟨rfl, rfl⟩ := z_pr h
        exact z_iret hC hQ dX9_power_166
      · replace h := z_f q152_5 h
        refine z_aload_n hC 1 rfl rfl dX9_power_155 ?_
        refine z_iconst hC (3 : Int32) (by decide) dX9_power_156 ?_
        refine z_iload_n hC 0 rfl rfl dX9_power_157 ?_
        refine z_iconst hC (0 : Int32) (by decide) dX9_power_158 ?_
        refine z_b2 h (fun r159_6 s159_7 e_r159_6 h => ?_)
        refine z_cV3r hC (ctX9_make hC.hm e_r159_6) (rcX9 hC) kb_X9_make km_X9_129 ⟨by omega, by omega⟩ (Nat.le_of_ble_eq_true rfl) dX9_power_159 ?_
        refine z_goto hC 166 (by decide) dX9_power_162 ?_
        obtain ⟨rfl, rfl⟩ := z_pr h
        exact z_iret hC hQ dX9_power_166
    · replace h := z_t q55_4 h
      refine z_aload_n hC 1 rfl rfl dX9_power_58 ?_
      refine z_b2 h (fun r59_8 s59_9 e_r59_8 h => ?_)
      refine z_cV0r hC (ctX9_peek hC.hm e_r59_8) (rcX9 hC) kb_X9_peek km_X9_123 ⟨by omega, by omega⟩ (Nat.le_of_ble_eq_true rfl) dX9_power_59 ?_
      refine z_bipush hC (94 : Int32) (by decide) dX9_power_62 ?_
      refine z_icmp_ne hC 151 (by decide) dX9_power_64 (fun q64_10 => ?_) (fun q64_10 => ?_)
      · replace h := z_f q64_10 h
        refine z_iload_n hC 2 rfl rfl dX9_power_151 ?_
        refine z_if_eq hC 165 (by decide) dX9_power_152 (fun q152_11 => ?_) (fun q152_11 => ?_)
        · replace h := z_t q152_11 h
          refine z_iload_n hC 0 rfl rfl dX9_power_165 ?_
          obtain ⟨rfl, rfl⟩ := z_pr h
          exact z_iret hC hQ dX9_power_166
        · replace h := z_f q152_11 h
          refine z_aload_n hC 1 rfl rfl dX9_power_155 ?_
          refine z_iconst hC (3 : Int32) (by decide) dX9_power_156 ?_
          refine z_iload_n hC 0 rfl rfl dX9_power_157 ?_
          refine z_iconst hC (0 : Int32) (by decide) dX9_power_158 ?_
          refine z_b2 h (fun r159_12 s159_13 e_r159_12 h => ?_)
          refine z_cV3r hC (ctX9_make hC.hm e_r159_12) (rcX9 hC) kb_X9_make km_X9_129 ⟨by omega, by omega⟩ (Nat.le_of_ble_eq_true rfl) dX9_power_159 ?_
          refine z_goto hC 166 (by decide) dX9_power_162 ?_
          obtain ⟨rfl, rfl⟩ := z_pr h
          exact z_iret hC hQ dX9_power_166
      · replace h := z_t q64_10 h
        refine z_aload_n hC 1 rfl rfl dX9_power_67 ?_
        refine z_aload_n hC 1 rfl rfl dX9_power_68 ?_
        refine gX9_10 hC kf_X9_99 (gi s59_9 61 10) rfl dX9_power_69 ?_
        refine z_b1 h (fun s72_14 e_s72_14 h => ?_)
        refine z_cV1v hC (ctX9_meets hC.hm e_s72_14) (rcX9 hC) kb_X9_meets km_X9_126 ⟨by omega, by omega⟩ (Nat.le_of_ble_eq_true rfl) dX9_power_72 ?_
        refine z_aload_n hC 1 rfl rfl dX9_power_75 ?_
        refine z_dup hC rfl dX9_power_76 ?_
        refine gX9_10 hC kf_X9_99 (gi s72_14 61 10) rfl dX9_power_77 ?_
        refine z_iconst hC (1 : Int32) (by decide) dX9_power_80 ?_
        refine z_iadd hC dX9_power_81 ?_
        refine z_nmI h (fun x82_15 h => ?_)
        refine pX9_10 hC kf_X9_99 dX9_power_82 ?_
        refine z_aload_n hC 1 rfl rfl dX9_power_85 ?_
        refine z_cV0r hC (ctX9_bad hC.hm) (rcX9 hC) kb_X9_bad km_X9_109 ⟨by omega, by omega⟩ (Nat.le_of_ble_eq_true rfl) dX9_power_86 ?_
        refine z_if_eq hC 96 (by decide) dX9_power_89 (fun q89_16 => ?_) (fun q89_16 => ?_)
        · replace h := z_t q89_16 h
          refine z_aload_n hC 1 rfl rfl dX9_power_96 ?_
          refine z_b2 h (fun r97_17 s97_18 e_r97_17 h => ?_)
          refine z_cV0r hC (ctX9_peek hC.hm e_r97_17) (rcX9 hC) kb_X9_peek km_X9_123 ⟨by omega, by omega⟩ (Nat.le_of_ble_eq_true rfl) dX9_power_97 ?_
          refine z_sub [(0, .ref (zAd T (61))), (1, .int v1), (2, .int r47_2)] [1, 2, 0] rfl ?_
          exact (wX9_power_100 hC hN hQ hfr hlo F hF ) _ _ _ _ h
        · replace h := z_f q89_16 h
          refine z_iconst hC (0 : Int32) (by decide) dX9_power_92 ?_
          refine z_goto hC 100 (by decide) dX9_power_93 ?_
          refine z_sub [(0, .ref (zAd T (61))), (1, .int v1), (2, .int r47_2)] [1, 2, 0] rfl ?_
          exact (wX9_power_100 hC hN hQ hfr hlo F hF ) _ _ _ _ h
  · replace h := z_f q41_1 h
    refine z_iconst hC (0 : Int32) (by decide) dX9_power_44 ?_
    obtain ⟨rfl, rfl⟩ := z_pr h
    exact z_iret hC hQ dX9_power_45
set_option maxRecDepth 100000 in
set_option maxHeartbeats 4000000 in
theorem wX9_power_0 {T : zX} {fr lo gf gl : Nat} (hC : zOk T cX9_power RX9 fr lo 61 85) (hN : zNL T = 4) {r : Int32} {σ' : zSt} (hQ : zRes T (some .int) (some (.int r)) σ') (hfr : gf + 1 ≤ fr ∧ 5 ≤ fr) (hlo : gl + 23 ≤ lo ∧ 109 ≤ lo) (F : Nat → Int32 → zSt → Option (Int32 × zSt)) (hF : G9_ok T F gf gl)   (σ : zSt) (h : fX9_power_0 F  σ = some (r, σ')) : Z T σ 0 [(0, .ref (zAd T (61)))] [] := by
  unfold fX9_power_0 at h
  refine z_aload_n hC 0 rfl rfl dX9_power_0 ?_
  refine z_b2 h (fun r1_1 s1_2 e_r1_1 h => ?_)
  refine z_cV0r hC (ctX9_peek hC.hm e_r1_1) (rcX9 hC) kb_X9_peek km_X9_123 ⟨by omega, by omega⟩ (Nat.le_of_ble_eq_true rfl) dX9_power_1 ?_
  refine z_bipush hC (45 : Int32) (by decide) dX9_power_4 ?_
  refine z_icmp_ne hC 13 (by decide) dX9_power_6 (fun q6_3 => ?_) (fun q6_3 => ?_)
  · replace h := z_f q6_3 h
    refine z_iconst hC (0 : Int32) (by decide) dX9_power_13 ?_
    refine z_istore_n hC [(1, .int (0 : Int32)), (0, .ref (zAd T (61)))] rfl (by rw [hN]; decide) rfl dX9_power_14 ?_
    refine z_iload_n hC 0 rfl rfl dX9_power_15 ?_
    refine z_if_eq hC 37 (by decide) dX9_power_16 (fun q => ?_) (fun q => absurd q (by decide))
    refine z_sub [(0, .ref (zAd T (61))), (1, .int (0 : Int32))] [1, 0] rfl ?_
    exact (wX9_power_37 hC hN hQ hfr hlo F hF ) _ _ h
  · replace h := z_t q6_3 h
    refine z_iconst hC (1 : Int32) (by decide) dX9_power_9 ?_
    refine z_goto hC 14 (by decide) dX9_power_10 ?_
    refine z_istore_n hC [(1, .int (1 : Int32)), (0, .ref (zAd T (61)))] rfl (by rw [hN]; decide) rfl dX9_power_14 ?_
    refine z_iload_n hC 0 rfl rfl dX9_power_15 ?_
    refine z_if_eq hC 37 (by decide) dX9_power_16 (fun q => absurd q (by decide)) (fun q => ?_)
    refine z_aload_n hC 1 rfl rfl dX9_power_19 ?_
    refine z_aload_n hC 1 rfl rfl dX9_power_20 ?_
    refine gX9_10 hC kf_X9_99 (gi s1_2 61 10) rfl dX9_power_21 ?_
    refine z_b1 h (fun s24_4 e_s24_4 h => ?_)
    refine z_cV1v hC (ctX9_meets hC.hm e_s24_4) (rcX9 hC) kb_X9_meets km_X9_126 ⟨by omega, by omega⟩ (Nat.le_of_ble_eq_true rfl) dX9_power_24 ?_
    refine z_aload_n hC 1 rfl rfl dX9_power_27 ?_
    refine z_dup hC rfl dX9_power_28 ?_
    refine gX9_10 hC kf_X9_99 (gi s24_4 61 10) rfl dX9_power_29 ?_
    refine z_iconst hC (1 : Int32) (by decide) dX9_power_32 ?_
    refine z_iadd hC dX9_power_33 ?_
    refine z_nmI h (fun x34_5 h => ?_)
    refine pX9_10 hC kf_X9_99 dX9_power_34 ?_
    refine z_sub [(0, .ref (zAd T (61))), (1, .int (1 : Int32))] [1, 0] rfl ?_
    exact (wX9_power_37 hC hN hQ hfr hlo F hF ) _ _ h
noncomputable def fX9_part_125 (F : Nat → Int32 → zSt → Option (Int32 × zSt)) (K125 : Int32 → Int32 → Int32 → zSt → Option (Int32 × zSt)) (v1 : Int32) (v2 : Int32) (v3 : Int32) (σ : zSt) : Option (Int32 × zSt) := 
    (if (16 : Int32) < v3 then 
      (if v1 = (99 : Int32) then 
        (if v2 = ((gi σ 61 10) + (2 : Int32)) then bd1 (fX9_isDigit ((gi σ 61 10) + (1 : Int32)) σ) fun r179_8 => 
          (if r179_8 = 0 then bd2 (fX9_fails (1 : Int32) (gi σ 61 10) σ) fun r273_10 s273_11 => some (r273_10, s273_11)
          else zg (vp_in ((gi σ 61 10) + (1 : Int32)) 200) <| 
            (if (56 : Int32) ≤ (gi σ 62 ((gi σ 61 10) + (1 : Int32)).toNatClampNeg) then bd2 (fX9_fails (1 : Int32) (gi σ 61 10) σ) fun r273_14 s273_15 => some (r273_14, s273_15)
            else bd1 (fX9_meets (gi σ 61 10) σ) fun s206_16 => zg (vp_in ((gi s206_16 61 10) + (1 : Int32)) 200) <| nm ((gi s206_16 62 ((gi s206_16 61 10) + (1 : Int32)).toNatClampNeg) - (48 : Int32)) fun x222_18 => 
              (if (fX9_bad s206_16) = 0 then 
                (if x222_18 < (gi s206_16 61 3) then nm ((gi s206_16 61 10) + (2 : Int32)) fun x256_24 => bd2 (fX9_make (2 : Int32) x222_18 (0 : Int32) (si s206_16 61 10 x256_24)) fun r263_25 s263_26 => some (r263_25, s263_26)
                else bd2 (fX9_fails (2 : Int32) (gi s206_16 61 10) s206_16) fun r245_27 s245_28 => nm ((gi s245_28 61 10) + (2 : Int32)) fun x256_29 => bd2 (fX9_make (2 : Int32) x222_18 (0 : Int32) (si s245_28 61 10 x256_29)) fun r263_30 s263_31 => some (r263_30, s263_31))
              else nm ((gi s206_16 61 10) + (2 : Int32)) fun x256_20 => bd2 (fX9_make (2 : Int32) x222_18 (0 : Int32) (si s206_16 61 10 x256_20)) fun r263_21 s263_22 => some (r263_21, s263_22))))
        else bd2 (fX9_fails (1 : Int32) (gi σ 61 10) σ) fun r273_6 s273_7 => some (r273_6, s273_7))
      else bd2 (fX9_fails (1 : Int32) (gi σ 61 10) σ) fun r273_3 s273_4 => some (r273_3, s273_4))
    else zg ((fX9_nameOf v3) < 9) <| bd1 (fX9_stands (fX9_nameOf v3) v2 σ) fun r138_33 => 
      (if r138_33 = 0 then nm (v3 + (1 : Int32)) fun x150_35 => K125 v1 v2 x150_35 σ
      else bd2 (F 4 v3 σ) fun r146_36 s146_37 => some (r146_36, s146_37)))
noncomputable def fX9_part_L125 (F : Nat → Int32 → zSt → Option (Int32 × zSt)) : Nat → Int32 → Int32 → Int32 → zSt → Option (Int32 × zSt)
  | 0, _, _, _, _ => none
  | n + 1, v1, v2, v3, σ => fX9_part_125 F (fX9_part_L125 F n) v1 v2 v3 σ
noncomputable def fX9_part_0 (F : Nat → Int32 → zSt → Option (Int32 × zSt))  (σ : zSt) : Option (Int32 × zSt) := bd2 (fX9_peek σ) fun r1_1 s1_2 => bd1 (fX9_wordEnd s1_2) fun r6_3 => bd1 (fX9_stands 0 r6_3 s1_2) fun r14_4 => 
    (if r14_4 = 0 then bd1 (fX9_isNumber r6_3 s1_2) fun r48_6 => 
      (if r48_6 = 0 then 
        (if r1_1 = (40 : Int32) then bd1 (fX9_opens s1_2) fun s85_9 => 
          (if (fX9_bad s85_9) = 0 then bd2 (F 0 0 s85_9) fun r100_11 s100_12 => bd1 (fX9_need (41 : Int32) s100_12) fun s107_13 => nm ((gi s107_13 61 14) - (1 : Int32)) fun x117_14 => some (r100_11, (si s107_13 61 14 x117_14))
          else bd1 (fX9_need (41 : Int32) s85_9) fun s107_15 => nm ((gi s107_15 61 14) - (1 : Int32)) fun x117_16 => some ((0 : Int32), (si s107_15 61 14 x117_16)))
        else fX9_part_L125 F zFU r1_1 r6_3 (9 : Int32) s1_2)
      else bd1 (fX9_meets (gi s1_2 61 10) s1_2) fun s59_17 => 
        (if (fX9_bad s59_17) = 0 then bd2 (fX9_number s59_17) fun r74_19 s74_20 => some (r74_19, s74_20)
        else some ((0 : Int32), s59_17)))
    else bd1 (fX9_meets (gi s1_2 61 10) s1_2) fun s25_21 => nm ((gi s25_21 61 10) + (1 : Int32)) fun x35_22 => bd2 (fX9_make (0 : Int32) (0 : Int32) (0 : Int32) (si s25_21 61 10 x35_22)) fun r42_23 s42_24 => some (r42_23, s42_24))
noncomputable def fX9_part (F : Nat → Int32 → zSt → Option (Int32 × zSt))  (σ : zSt) : Option (Int32 × zSt) := fX9_part_0 F  σ
set_option maxRecDepth 100000 in
set_option maxHeartbeats 4000000 in
theorem wX9_part_125 {T : zX} {fr lo gf gl : Nat} (hC : zOk T cX9_part RX9 fr lo 61 85) (hN : zNL T = 4) {r : Int32} {σ' : zSt} (hQ : zRes T (some .int) (some (.int r)) σ') (hfr : gf + 1 ≤ fr ∧ 5 ≤ fr) (hlo : gl + 23 ≤ lo ∧ 109 ≤ lo) (F : Nat → Int32 → zSt → Option (Int32 × zSt)) (hF : G9_ok T F gf gl) (K125 : Int32 → Int32 → Int32 → zSt → Option (Int32 × zSt)) (hK125 : ∀ (v1 : Int32) (v2 : Int32) (v3 : Int32) (τ : zSt), K125 v1 v2 v3 τ = some (r, σ') → Z T τ 125 [(0, .ref (zAd T (61))), (1, .int v1), (2, .int v2), (3, .int v3)] []) (v1 : Int32) (v2 : Int32) (v3 : Int32)  (σ : zSt) (h : fX9_part_125 F K125 v1 v2 v3 σ = some (r, σ')) : Z T σ 125 [(0, .ref (zAd T (61))), (1, .int v1), (2, .int v2), (3, .int v3)] [] := by
  unfold fX9_part_125 at h
  refine z_iload_n hC 3 rfl rfl dX9_part_125 ?_
  refine z_bipush hC (16 : Int32) (by decide) dX9_part_126 ?_
  refine z_icmp_gt hC 156 (by decide) dX9_part_128 (fun q128_1 => ?_) (fun q128_1 => ?_)
  · replace h := z_t q128_1 h
    refine z_iload_n hC 1 rfl rfl dX9_part_156 ?_
    refine z_bipush hC (99 : Int32) (by decide) dX9_part_157 ?_
    refine z_icmp_ne hC 267 (by decide) dX9_part_159 (fun q159_2 => ?_) (fun q159_2 => ?_)
    · replace h := z_f q159_2 h
      refine z_aload_n hC 0 rfl rfl dX9_part_267 ?_
      refine z_iconst hC (1 : Int32) (by decide) dX9_part_268 ?_
      refine z_aload_n hC 0 rfl rfl dX9_part_269 ?_
      refine gX9_10 hC kf_X9_99 (gi σ 61 10) rfl dX9_part_270 ?_
      refine z_b2 h (fun r273_3 s273_4 e_r273_3 h => ?_)
      refine z_cV2r hC (ctX9_fails hC.hm e_r273_3) (rcX9 hC) kb_X9_fails km_X9_105 ⟨by omega, by omega⟩ (Nat.le_of_ble_eq_true rfl) dX9_part_273 ?_
      obtain ⟨rfl, rfl⟩ := z_pr h
      exact z_iret hC hQ dX9_part_276
    · replace h := z_t q159_2 h
      refine z_iload_n hC 2 rfl rfl dX9_part_162 ?_
      refine z_aload_n hC 0 rfl rfl dX9_part_163 ?_
      refine gX9_10 hC kf_X9_99 (gi σ 61 10) rfl dX9_part_164 ?_
      refine z_iconst hC (2 : Int32) (by decide) dX9_part_167 ?_
      refine z_iadd hC dX9_part_168 ?_
      refine z_icmp_ne hC 267 (by decide) dX9_part_169 (fun q169_5 => ?_) (fun q169_5 => ?_)
      · replace h := z_f q169_5 h
        refine z_aload_n hC 0 rfl rfl dX9_part_267 ?_
        refine z_iconst hC (1 : Int32) (by decide) dX9_part_268 ?_
        refine z_aload_n hC 0 rfl rfl dX9_part_269 ?_
        refine gX9_10 hC kf_X9_99 (gi σ 61 10) rfl dX9_part_270 ?_
        refine z_b2 h (fun r273_6 s273_7 e_r273_6 h => ?_)
        refine z_cV2r hC (ctX9_fails hC.hm e_r273_6) (rcX9 hC) kb_X9_fails km_X9_105 ⟨by omega, by omega⟩ (Nat.le_of_ble_eq_true rfl) dX9_part_273 ?_
        obtain ⟨rfl, rfl⟩ := z_pr h
        exact z_iret hC hQ dX9_part_276
      · replace h := z_t q169_5 h
        refine z_aload_n hC 0 rfl rfl dX9_part_172 ?_
        refine z_aload_n hC 0 rfl rfl dX9_part_173 ?_
        refine gX9_10 hC kf_X9_99 (gi σ 61 10) rfl dX9_part_174 ?_
        refine z_iconst hC (1 : Int32) (by decide) dX9_part_177 ?_
        refine z_iadd hC dX9_part_178 ?_
        refine z_b1 h (fun r179_8 e_r179_8 h => ?_)
        refine z_cV1r hC (ctX9_isDigit hC.hm e_r179_8) (rcX9 hC) kb_X9_isDigit km_X9_139 ⟨by omega, by omega⟩ (Nat.le_of_ble_eq_true rfl) dX9_part_179 ?_
        refine z_if_eq hC 267 (by decide) dX9_part_182 (fun q182_9 => ?_) (fun q182_9 => ?_)
        · replace h := z_t q182_9 h
          refine z_aload_n hC 0 rfl rfl dX9_part_267 ?_
          refine z_iconst hC (1 : Int32) (by decide) dX9_part_268 ?_
          refine z_aload_n hC 0 rfl rfl dX9_part_269 ?_
          refine gX9_10 hC kf_X9_99 (gi σ 61 10) rfl dX9_part_270 ?_
          refine z_b2 h (fun r273_10 s273_11 e_r273_10 h => ?_)
          refine z_cV2r hC (ctX9_fails hC.hm e_r273_10) (rcX9 hC) kb_X9_fails km_X9_105 ⟨by omega, by omega⟩ (Nat.le_of_ble_eq_true rfl) dX9_part_273 ?_
          obtain ⟨rfl, rfl⟩ := z_pr h
          exact z_iret hC hQ dX9_part_276
        · replace h := z_f q182_9 h
          refine z_aload_n hC 0 rfl rfl dX9_part_185 ?_
          refine gX9_1 hC kf_X9_7 dX9_part_186 ?_
          refine z_aload_n hC 0 rfl rfl dX9_part_189 ?_
          refine gX9_10 hC kf_X9_99 (gi σ 61 10) rfl dX9_part_190 ?_
          refine z_iconst hC (1 : Int32) (by decide) dX9_part_193 ?_
          refine z_iadd hC dX9_part_194 ?_
          refine z_g h (fun g195_12 h => ?_)
          refine z_bald hC 62 ⟨by decide, by decide⟩ (zS_62 _ _ _) g195_12 (gi σ 62 ((gi σ 61 10) + (1 : Int32)).toNatClampNeg) rfl dX9_part_195 ?_
          refine z_bipush hC (56 : Int32) (by decide) dX9_part_196 ?_
          refine z_icmp_ge hC 267 (by decide) dX9_part_198 (fun q198_13 => ?_) (fun q198_13 => ?_)
          · replace h := z_t q198_13 h
            refine z_aload_n hC 0 rfl rfl dX9_part_267 ?_
            refine z_iconst hC (1 : Int32) (by decide) dX9_part_268 ?_
            refine z_aload_n hC 0 rfl rfl dX9_part_269 ?_
            refine gX9_10 hC kf_X9_99 (gi σ 61 10) rfl dX9_part_270 ?_
            refine z_b2 h (fun r273_14 s273_15 e_r273_14 h => ?_)
            refine z_cV2r hC (ctX9_fails hC.hm e_r273_14) (rcX9 hC) kb_X9_fails km_X9_105 ⟨by omega, by omega⟩ (Nat.le_of_ble_eq_true rfl) dX9_part_273 ?_
            obtain ⟨rfl, rfl⟩ := z_pr h
            exact z_iret hC hQ dX9_part_276
          · replace h := z_f q198_13 h
            refine z_aload_n hC 0 rfl rfl dX9_part_201 ?_
            refine z_aload_n hC 0 rfl rfl dX9_part_202 ?_
            refine gX9_10 hC kf_X9_99 (gi σ 61 10) rfl dX9_part_203 ?_
            refine z_b1 h (fun s206_16 e_s206_16 h => ?_)
            refine z_cV1v hC (ctX9_meets hC.hm e_s206_16) (rcX9 hC) kb_X9_meets km_X9_126 ⟨by omega, by omega⟩ (Nat.le_of_ble_eq_true rfl) dX9_part_206 ?_
            refine z_aload_n hC 0 rfl rfl dX9_part_209 ?_
            refine gX9_1 hC kf_X9_7 dX9_part_210 ?_
            refine z_aload_n hC 0 rfl rfl dX9_part_213 ?_
            refine gX9_10 hC kf_X9_99 (gi s206_16 61 10) rfl dX9_part_214 ?_
            refine z_iconst hC (1 : Int32) (by decide) dX9_part_217 ?_
            refine z_iadd hC dX9_part_218 ?_
            refine z_g h (fun g219_17 h => ?_)
            refine z_bald hC 62 ⟨by decide, by decide⟩ (zS_62 _ _ _) g219_17 (gi s206_16 62 ((gi s206_16 61 10) + (1 : Int32)).toNatClampNeg) rfl dX9_part_219 ?_
            refine z_bipush hC (48 : Int32) (by decide) dX9_part_220 ?_
            refine z_isub hC dX9_part_222 ?_
            refine z_nmI h (fun x222_18 h => ?_)
            refine z_istore_n hC [(3, .int x222_18), (0, .ref (zAd T (61))), (1, .int v1), (2, .int v2)] rfl (by rw [hN]; decide) rfl dX9_part_223 ?_
            refine z_aload_n hC 1 rfl rfl dX9_part_224 ?_
            refine z_cV0r hC (ctX9_bad hC.hm) (rcX9 hC) kb_X9_bad km_X9_109 ⟨by omega, by omega⟩ (Nat.le_of_ble_eq_true rfl) dX9_part_225 ?_
            refine z_if_ne hC 249 (by decide) dX9_part_228 (fun q228_19 => ?_) (fun q228_19 => ?_)
            · replace h := z_f q228_19 h
              refine z_aload_n hC 1 rfl rfl dX9_part_249 ?_
              refine z_dup hC rfl dX9_part_250 ?_
              refine gX9_10 hC kf_X9_99 (gi s206_16 61 10) rfl dX9_part_251 ?_
              refine z_iconst hC (2 : Int32) (by decide) dX9_part_254 ?_
              refine z_iadd hC dX9_part_255 ?_
              refine z_nmI h (fun x256_20 h => ?_)
              refine pX9_10 hC kf_X9_99 dX9_part_256 ?_
              refine z_aload_n hC 1 rfl rfl dX9_part_259 ?_
              refine z_iconst hC (2 : Int32) (by decide) dX9_part_260 ?_
              refine z_iload_n hC 0 rfl rfl dX9_part_261 ?_
              refine z_iconst hC (0 : Int32) (by decide) dX9_part_262 ?_
              refine z_b2 h (fun r263_21 s263_22 e_r263_21 h => ?_)
              refine z_cV3r hC (ctX9_make hC.hm e_r263_21) (rcX9 hC) kb_X9_make km_X9_129 ⟨by omega, by omega⟩ (Nat.le_of_ble_eq_true rfl) dX9_part_263 ?_
              obtain ⟨rfl, rfl⟩ := z_pr h
              exact z_iret hC hQ dX9_part_266
            · replace h := z_t q228_19 h
              refine z_iload_n hC 0 rfl rfl dX9_part_231 ?_
              refine z_aload_n hC 1 rfl rfl dX9_part_232 ?_
              refine gX9_3 hC kf_X9_113 (gi s206_16 61 3) rfl dX9_part_233 ?_
              refine z_icmp_lt hC 249 (by decide) dX9_part_236 (fun q236_23 => ?_) (fun q236_23 => ?_)
              · replace h := z_t q236_23 h
                refine z_aload_n hC 1 rfl rfl dX9_part_249 ?_
                refine z_dup hC rfl dX9_part_250 ?_
                refine gX9_10 hC kf_X9_99 (gi s206_16 61 10) rfl dX9_part_251 ?_
                refine z_iconst hC (2 : Int32) (by decide) dX9_part_254 ?_
                refine z_iadd hC dX9_part_255 ?_
                refine z_nmI h (fun x256_24 h => ?_)
                refine pX9_10 hC kf_X9_99 dX9_part_256 ?_
                refine z_aload_n hC 1 rfl rfl dX9_part_259 ?_
                refine z_iconst hC (2 : Int32) (by decide) dX9_part_260 ?_
                refine z_iload_n hC 0 rfl rfl dX9_part_261 ?_
                refine z_iconst hC (0 : Int32) (by decide) dX9_part_262 ?_
                refine z_b2 h (fun r263_25 s263_26 e_r263_25 h => ?_)
                refine z_cV3r hC (ctX9_make hC.hm e_r263_25) (rcX9 hC) kb_X9_make km_X9_129 ⟨by omega, by omega⟩ (Nat.le_of_ble_eq_true rfl) dX9_part_263 ?_
                obtain ⟨rfl, rfl⟩ := z_pr h
                exact z_iret hC hQ dX9_part_266
              · replace h := z_f q236_23 h
                refine z_aload_n hC 1 rfl rfl dX9_part_239 ?_
                refine z_iconst hC (2 : Int32) (by decide) dX9_part_240 ?_
                refine z_aload_n hC 1 rfl rfl dX9_part_241 ?_
                refine gX9_10 hC kf_X9_99 (gi s206_16 61 10) rfl dX9_part_242 ?_
                refine z_b2 h (fun r245_27 s245_28 e_r245_27 h => ?_)
                refine z_cV2r hC (ctX9_fails hC.hm e_r245_27) (rcX9 hC) kb_X9_fails km_X9_105 ⟨by omega, by omega⟩ (Nat.le_of_ble_eq_true rfl) dX9_part_245 ?_
                refine z_pop hC rfl dX9_part_248 ?_
                refine z_aload_n hC 1 rfl rfl dX9_part_249 ?_
                refine z_dup hC rfl dX9_part_250 ?_
                refine gX9_10 hC kf_X9_99 (gi s245_28 61 10) rfl dX9_part_251 ?_
                refine z_iconst hC (2 : Int32) (by decide) dX9_part_254 ?_
                refine z_iadd hC dX9_part_255 ?_
                refine z_nmI h (fun x256_29 h => ?_)
                refine pX9_10 hC kf_X9_99 dX9_part_256 ?_
                refine z_aload_n hC 1 rfl rfl dX9_part_259 ?_
                refine z_iconst hC (2 : Int32) (by decide) dX9_part_260 ?_
                refine z_iload_n hC 0 rfl rfl dX9_part_261 ?_
                refine z_iconst hC (0 : Int32) (by decide) dX9_part_262 ?_
                refine z_b2 h (fun r263_30 s263_31 e_r263_30 h => ?_)
                refine z_cV3r hC (ctX9_make hC.hm e_r263_30) (rcX9 hC) kb_X9_make km_X9_129 ⟨by omega, by omega⟩ (Nat.le_of_ble_eq_true rfl) dX9_part_263 ?_
                obtain ⟨rfl, rfl⟩ := z_pr h
                exact z_iret hC hQ dX9_part_266
  · replace h := z_f q128_1 h
    refine z_aload_n hC 0 rfl rfl dX9_part_131 ?_
    refine z_aload_n hC 0 rfl rfl dX9_part_132 ?_
    refine z_iload_n hC 3 rfl rfl dX9_part_133 ?_
    refine z_cV1r hC (ctX9_nameOf hC.hm) (rcX9 hC) kb_X9_nameOf km_X9_195 ⟨by omega, by omega⟩ (Nat.le_of_ble_eq_true rfl) dX9_part_134 ?_
    refine z_g h (fun hk134_32 h => ?_)
    refine z_iload_n hC 2 rfl rfl dX9_part_137 ?_
    refine z_b1 h (fun r138_33 e_r138_33 h => ?_)
    refine z_cV2r hC (ctX9_stands hC.hm e_r138_33) (rcX9 hC) kb_X9_stands km_X9_179 ⟨by omega, by omega⟩ (Nat.le_of_ble_eq_true rfl) dX9_part_138 ?_
    refine z_if_eq hC 150 (by decide) dX9_part_141 (fun q141_34 => ?_) (fun q141_34 => ?_)
    · replace h := z_t q141_34 h
      refine z_nmE h (fun x150_35 e_x150_35 h => ?_)
      refine z_iinc hC x150_35 [(3, .int x150_35), (0, .ref (zAd T (61))), (1, .int v1), (2, .int v2)] 3 rfl (by rw [e_x150_35]; rfl) (by rw [hN]; decide) rfl dX9_part_150 ?_
      refine z_goto hC 125 (by decide) dX9_part_153 ?_
      refine z_sub [(0, .ref (zAd T (61))), (1, .int v1), (2, .int v2), (3, .int x150_35)] [1, 2, 3, 0] rfl ?_
      exact hK125 _ _ _ _ h
    · replace h := z_f q141_34 h
      refine z_aload_n hC 0 rfl rfl dX9_part_144 ?_
      refine z_iload_n hC 3 rfl rfl dX9_part_145 ?_
      refine z_b2 h (fun r146_36 s146_37 e_r146_36 h => ?_)
      refine z_cV1r hC (hF.2.2.2.2 _ _ _ _ e_r146_36) (rcX9 hC) kb_X9_named km_X9_199 ⟨by omega, by omega⟩ (Nat.le_of_ble_eq_true rfl) dX9_part_146 ?_
      obtain ⟨rfl, rfl⟩ := z_pr h
      exact z_iret hC hQ dX9_part_149
theorem wX9_part_L125 {T : zX} {fr lo gf gl : Nat} (hC : zOk T cX9_part RX9 fr lo 61 85) (hN : zNL T = 4) {r : Int32} {σ' : zSt} (hQ : zRes T (some .int) (some (.int r)) σ') (hfr : gf + 1 ≤ fr ∧ 5 ≤ fr) (hlo : gl + 23 ≤ lo ∧ 109 ≤ lo) (F : Nat → Int32 → zSt → Option (Int32 × zSt)) (hF : G9_ok T F gf gl) (n : Nat) : ∀ (v1 : Int32) (v2 : Int32) (v3 : Int32) (σ : zSt), fX9_part_L125 F n v1 v2 v3 σ = some (r, σ') → Z T σ 125 [(0, .ref (zAd T (61))), (1, .int v1), (2, .int v2), (3, .int v3)] [] := by
  induction n with
  | zero => intro v1 v2 v3 σ h; cases h
  | succ n ih => intro v1 v2 v3 σ h; exact wX9_part_125 hC hN hQ hfr hlo F hF (fX9_part_L125 F n) ih v1 v2 v3 σ h
set_option maxRecDepth 100000 in
set_option maxHeartbeats 4000000 in
theorem wX9_part_0 {T : zX} {fr lo gf gl : Nat} (hC : zOk T cX9_part RX9 fr lo 61 85) (hN : zNL T = 4) {r : Int32} {σ' : zSt} (hQ : zRes T (some .int) (some (.int r)) σ') (hfr : gf + 1 ≤ fr ∧ 5 ≤ fr) (hlo : gl + 23 ≤ lo ∧ 109 ≤ lo) (F : Nat → Int32 → zSt → Option (Int32 × zSt)) (hF : G9_ok T F gf gl)   (σ : zSt) (h : fX9_part_0 F  σ = some (r, σ')) : Z T σ 0 [(0, .ref (zAd T (61)))] [] := by
  unfold fX9_part_0 at h
  refine z_aload_n hC 0 rfl rfl dX9_part_0 ?_
  refine z_b2 h (fun r1_1 s1_2 e_r1_1 h => ?_)
  refine z_cV0r hC (ctX9_peek hC.hm e_r1_1) (rcX9 hC) kb_X9_peek km_X9_123 ⟨by omega, by omega⟩ (Nat.le_of_ble_eq_true rfl) dX9_part_1 ?_
  refine z_istore_n hC [(1, .int r1_1), (0, .ref (zAd T (61)))] rfl (by rw [hN]; decide) rfl dX9_part_4 ?_
  refine z_aload_n hC 1 rfl rfl dX9_part_5 ?_
  refine z_b1 h (fun r6_3 e_r6_3 h => ?_)
  refine z_cV0r hC (ctX9_wordEnd hC.hm e_r6_3) (rcX9 hC) kb_X9_wordEnd km_X9_174 ⟨by omega, by omega⟩ (Nat.le_of_ble_eq_true rfl) dX9_part_6 ?_
  refine z_istore_n hC [(2, .int r6_3), (1, .int r1_1), (0, .ref (zAd T (61)))] rfl (by rw [hN]; decide) rfl dX9_part_9 ?_
  refine z_aload_n hC 2 rfl rfl dX9_part_10 ?_
  refine z_ldcS (i := 0) (tx := "x") hC (by decide +kernel) dX9_part_11 ?_
  refine z_iload_n hC 0 rfl rfl dX9_part_13 ?_
  refine z_b1 h (fun r14_4 e_r14_4 h => ?_)
  refine z_cV2r hC (ctX9_stands hC.hm e_r14_4) (rcX9 hC) kb_X9_stands km_X9_179 ⟨by omega, by omega⟩ (Nat.le_of_ble_eq_true rfl) dX9_part_14 ?_
  refine z_if_eq hC 46 (by decide) dX9_part_17 (fun q17_5 => ?_) (fun q17_5 => ?_)
  · replace h := z_t q17_5 h
    refine z_aload_n hC 2 rfl rfl dX9_part_46 ?_
    refine z_iload_n hC 0 rfl rfl dX9_part_47 ?_
    refine z_b1 h (fun r48_6 e_r48_6 h => ?_)
    refine z_cV1r hC (ctX9_isNumber hC.hm e_r48_6) (rcX9 hC) kb_X9_isNumber km_X9_183 ⟨by omega, by omega⟩ (Nat.le_of_ble_eq_true rfl) dX9_part_48 ?_
    refine z_if_eq hC 78 (by decide) dX9_part_51 (fun q51_7 => ?_) (fun q51_7 => ?_)
    · replace h := z_t q51_7 h
      refine z_iload_n hC 1 rfl rfl dX9_part_78 ?_
      refine z_bipush hC (40 : Int32) (by decide) dX9_part_79 ?_
      refine z_icmp_ne hC 122 (by decide) dX9_part_81 (fun q81_8 => ?_) (fun q81_8 => ?_)
      · replace h := z_f q81_8 h
        refine z_bipush hC (9 : Int32) (by decide) dX9_part_122 ?_
        refine z_istore_n hC [(3, .int (9 : Int32)), (2, .int r6_3), (1, .int r1_1), (0, .ref (zAd T (61)))] rfl (by rw [hN]; decide) rfl dX9_part_124 ?_
        refine z_sub [(0, .ref (zAd T (61))), (1, .int r1_1), (2, .int r6_3), (3, .int (9 : Int32))] [3, 2, 1, 0] rfl ?_
        exact (wX9_part_L125 hC hN hQ hfr hlo F hF zFU) _ _ _ _ h
      · replace h := z_t q81_8 h
        refine z_aload_n hC 2 rfl rfl dX9_part_84 ?_
        refine z_b1 h (fun s85_9 e_s85_9 h => ?_)
        refine z_cV0v hC (ctX9_opens hC.hm e_s85_9) (rcX9 hC) kb_X9_opens km_X9_168 ⟨by omega, by omega⟩ (Nat.le_of_ble_eq_true rfl) dX9_part_85 ?_
        refine z_aload_n hC 2 rfl rfl dX9_part_88 ?_
        refine z_cV0r hC (ctX9_bad hC.hm) (rcX9 hC) kb_X9_bad km_X9_109 ⟨by omega, by omega⟩ (Nat.le_of_ble_eq_true rfl) dX9_part_89 ?_
        refine z_if_eq hC 99 (by decide) dX9_part_92 (fun q92_10 => ?_) (fun q92_10 => ?_)
        · replace h := z_t q92_10 h
          refine z_aload_n hC 2 rfl rfl dX9_part_99 ?_
          refine z_b2 h (fun r100_11 s100_12 e_r100_11 h => ?_)
          refine z_cV0r hC (hF.1 _ _ _ _ e_r100_11) (rcX9 hC) kb_X9_sum km_X9_189 ⟨by omega, by omega⟩ (Nat.le_of_ble_eq_true rfl) dX9_part_100 ?_
          refine z_istore_n hC [(3, .int r100_11), (2, .int r6_3), (1, .int r1_1), (0, .ref (zAd T (61)))] rfl (by rw [hN]; decide) rfl dX9_part_103 ?_
          refine z_aload_n hC 3 rfl rfl dX9_part_104 ?_
          refine z_bipush hC (41 : Int32) (by decide) dX9_part_105 ?_
          refine z_b1 h (fun s107_13 e_s107_13 h => ?_)
          refine z_cV1v hC (ctX9_need hC.hm e_s107_13) (rcX9 hC) kb_X9_need km_X9_192 ⟨by omega, by omega⟩ (Nat.le_of_ble_eq_true rfl) dX9_part_107 ?_
          refine z_aload_n hC 3 rfl rfl dX9_part_110 ?_
          refine z_dup hC rfl dX9_part_111 ?_
          refine gX9_14 hC kf_X9_171 (gi s107_13 61 14) rfl dX9_part_112 ?_
          refine z_iconst hC (1 : Int32) (by decide) dX9_part_115 ?_
          refine z_isub hC dX9_part_116 ?_
          refine z_nmI h (fun x117_14 h => ?_)
          refine pX9_14 hC kf_X9_171 dX9_part_117 ?_
          refine z_iload_n hC 0 rfl rfl dX9_part_120 ?_
          obtain ⟨rfl, rfl⟩ := z_pr h
          exact z_iret hC hQ dX9_part_121
        · replace h := z_f q92_10 h
          refine z_iconst hC (0 : Int32) (by decide) dX9_part_95 ?_
          refine z_goto hC 103 (by decide) dX9_part_96 ?_
          refine z_istore_n hC [(3, .int (0 : Int32)), (2, .int r6_3), (1, .int r1_1), (0, .ref (zAd T (61)))] rfl (by rw [hN]; decide) rfl dX9_part_103 ?_
          refine z_aload_n hC 3 rfl rfl dX9_part_104 ?_
          refine z_bipush hC (41 : Int32) (by decide) dX9_part_105 ?_
          refine z_b1 h (fun s107_15 e_s107_15 h => ?_)
          refine z_cV1v hC (ctX9_need hC.hm e_s107_15) (rcX9 hC) kb_X9_need km_X9_192 ⟨by omega, by omega⟩ (Nat.le_of_ble_eq_true rfl) dX9_part_107 ?_
          refine z_aload_n hC 3 rfl rfl dX9_part_110 ?_
          refine z_dup hC rfl dX9_part_111 ?_
          refine gX9_14 hC kf_X9_171 (gi s107_15 61 14) rfl dX9_part_112 ?_
          refine z_iconst hC (1 : Int32) (by decide) dX9_part_115 ?_
          refine z_isub hC dX9_part_116 ?_
          refine z_nmI h (fun x117_16 h => ?_)
          refine pX9_14 hC kf_X9_171 dX9_part_117 ?_
          refine z_iload_n hC 0 rfl rfl dX9_part_120 ?_
          obtain ⟨rfl, rfl⟩ := z_pr h
          exact z_iret hC hQ dX9_part_121
    · replace h := z_f q51_7 h
      refine z_aload_n hC 2 rfl rfl dX9_part_54 ?_
      refine z_aload_n hC 2 rfl rfl dX9_part_55 ?_
      refine gX9_10 hC kf_X9_99 (gi s1_2 61 10) rfl dX9_part_56 ?_
      refine z_b1 h (fun s59_17 e_s59_17 h => ?_)
      refine z_cV1v hC (ctX9_meets hC.hm e_s59_17) (rcX9 hC) kb_X9_meets km_X9_126 ⟨by omega, by omega⟩ (Nat.le_of_ble_eq_true rfl) dX9_part_59 ?_
      refine z_aload_n hC 2 rfl rfl dX9_part_62 ?_
      refine z_cV0r hC (ctX9_bad hC.hm) (rcX9 hC) kb_X9_bad km_X9_109 ⟨by omega, by omega⟩ (Nat.le_of_ble_eq_true rfl) dX9_part_63 ?_
      refine z_if_eq hC 73 (by decide) dX9_part_66 (fun q66_18 => ?_) (fun q66_18 => ?_)
      · replace h := z_t q66_18 h
        refine z_aload_n hC 2 rfl rfl dX9_part_73 ?_
        refine z_b2 h (fun r74_19 s74_20 e_r74_19 h => ?_)
        refine z_cV0r hC (ctX9_number hC.hm e_r74_19) (rcX9 hC) kb_X9_number km_X9_186 ⟨by omega, by omega⟩ (Nat.le_of_ble_eq_true rfl) dX9_part_74 ?_
        obtain ⟨rfl, rfl⟩ := z_pr h
        exact z_iret hC hQ dX9_part_77
      · replace h := z_f q66_18 h
        refine z_iconst hC (0 : Int32) (by decide) dX9_part_69 ?_
        refine z_goto hC 77 (by decide) dX9_part_70 ?_
        obtain ⟨rfl, rfl⟩ := z_pr h
        exact z_iret hC hQ dX9_part_77
  · replace h := z_f q17_5 h
    refine z_aload_n hC 2 rfl rfl dX9_part_20 ?_
    refine z_aload_n hC 2 rfl rfl dX9_part_21 ?_
    refine gX9_10 hC kf_X9_99 (gi s1_2 61 10) rfl dX9_part_22 ?_
    refine z_b1 h (fun s25_21 e_s25_21 h => ?_)
    refine z_cV1v hC (ctX9_meets hC.hm e_s25_21) (rcX9 hC) kb_X9_meets km_X9_126 ⟨by omega, by omega⟩ (Nat.le_of_ble_eq_true rfl) dX9_part_25 ?_
    refine z_aload_n hC 2 rfl rfl dX9_part_28 ?_
    refine z_dup hC rfl dX9_part_29 ?_
    refine gX9_10 hC kf_X9_99 (gi s25_21 61 10) rfl dX9_part_30 ?_
    refine z_iconst hC (1 : Int32) (by decide) dX9_part_33 ?_
    refine z_iadd hC dX9_part_34 ?_
    refine z_nmI h (fun x35_22 h => ?_)
    refine pX9_10 hC kf_X9_99 dX9_part_35 ?_
    refine z_aload_n hC 2 rfl rfl dX9_part_38 ?_
    refine z_iconst hC (0 : Int32) (by decide) dX9_part_39 ?_
    refine z_iconst hC (0 : Int32) (by decide) dX9_part_40 ?_
    refine z_iconst hC (0 : Int32) (by decide) dX9_part_41 ?_
    refine z_b2 h (fun r42_23 s42_24 e_r42_23 h => ?_)
    refine z_cV3r hC (ctX9_make hC.hm e_r42_23) (rcX9 hC) kb_X9_make km_X9_129 ⟨by omega, by omega⟩ (Nat.le_of_ble_eq_true rfl) dX9_part_42 ?_
    obtain ⟨rfl, rfl⟩ := z_pr h
    exact z_iret hC hQ dX9_part_45
noncomputable def fX9_named_86 (F : Nat → Int32 → zSt → Option (Int32 × zSt)) (v1 : Int32) (v2 : Int32) (v3 : Int32) (σ : zSt) : Option (Int32 × zSt) := bd1 (fX9_need (41 : Int32) σ) fun s89_1 => nm ((gi s89_1 61 14) - (1 : Int32)) fun x99_2 => bd2 (fX9_make v1 v2 v3 (si s89_1 61 14 x99_2)) fun r106_3 s106_4 => some (r106_3, s106_4)
noncomputable def fX9_named_55 (F : Nat → Int32 → zSt → Option (Int32 × zSt)) (v1 : Int32) (t0 : Int32) (σ : zSt) : Option (Int32 × zSt) := 
    (if v1 < (15 : Int32) then fX9_named_86 F v1 t0 (0 : Int32) σ
    else bd1 (fX9_need (44 : Int32) σ) fun s67_2 => 
      (if (fX9_bad s67_2) = 0 then bd2 (F 0 0 s67_2) fun r82_4 s82_5 => fX9_named_86 F v1 t0 r82_4 s82_5
      else fX9_named_86 F v1 t0 (0 : Int32) s67_2))
noncomputable def fX9_named_0 (F : Nat → Int32 → zSt → Option (Int32 × zSt)) (a1 : Int32) (σ : zSt) : Option (Int32 × zSt) := bd1 (fX9_meets (gi σ 61 10) σ) fun s5_1 => 
    (if (fX9_bad s5_1) = 0 then zg ((fX9_nameOf a1) < 9) <| bd1 (fJ0_length_8abf5 (fX9_nameOf a1)) fun r27_4 => bd1 (fX9_need (40 : Int32) (si s5_1 61 10 ((gi s5_1 61 10) + r27_4))) fun s37_5 => 
      (if (fX9_bad s37_5) = 0 then bd2 (F 0 0 s37_5) fun r52_7 s52_8 => fX9_named_55 F a1 r52_7 s52_8
      else fX9_named_55 F a1 (0 : Int32) s37_5)
    else some ((0 : Int32), s5_1))
noncomputable def fX9_named (F : Nat → Int32 → zSt → Option (Int32 × zSt)) (a1 : Int32) (σ : zSt) : Option (Int32 × zSt) := fX9_named_0 F a1 σ
set_option maxRecDepth 100000 in
set_option maxHeartbeats 4000000 in
theorem wX9_named_86 {T : zX} {fr lo gf gl : Nat} (hC : zOk T cX9_named RX9 fr lo 61 85) (hN : zNL T = 4) {r : Int32} {σ' : zSt} (hQ : zRes T (some .int) (some (.int r)) σ') (hfr : gf + 1 ≤ fr ∧ 5 ≤ fr) (hlo : gl + 23 ≤ lo ∧ 109 ≤ lo) (F : Nat → Int32 → zSt → Option (Int32 × zSt)) (hF : G9_ok T F gf gl) (v1 : Int32) (v2 : Int32) (v3 : Int32)  (σ : zSt) (h : fX9_named_86 F v1 v2 v3 σ = some (r, σ')) : Z T σ 86 [(0, .ref (zAd T (61))), (1, .int v1), (2, .int v2), (3, .int v3)] [] := by
  unfold fX9_named_86 at h
  refine z_aload_n hC 0 rfl rfl dX9_named_86 ?_
  refine z_bipush hC (41 : Int32) (by decide) dX9_named_87 ?_
  refine z_b1 h (fun s89_1 e_s89_1 h => ?_)
  refine z_cV1v hC (ctX9_need hC.hm e_s89_1) (rcX9 hC) kb_X9_need km_X9_192 ⟨by omega, by omega⟩ (Nat.le_of_ble_eq_true rfl) dX9_named_89 ?_
  refine z_aload_n hC 0 rfl rfl dX9_named_92 ?_
  refine z_dup hC rfl dX9_named_93 ?_
  refine gX9_14 hC kf_X9_171 (gi s89_1 61 14) rfl dX9_named_94 ?_
  refine z_iconst hC (1 : Int32) (by decide) dX9_named_97 ?_
  refine z_isub hC dX9_named_98 ?_
  refine z_nmI h (fun x99_2 h => ?_)
  refine pX9_14 hC kf_X9_171 dX9_named_99 ?_
  refine z_aload_n hC 0 rfl rfl dX9_named_102 ?_
  refine z_iload_n hC 1 rfl rfl dX9_named_103 ?_
  refine z_iload_n hC 2 rfl rfl dX9_named_104 ?_
  refine z_iload_n hC 3 rfl rfl dX9_named_105 ?_
  refine z_b2 h (fun r106_3 s106_4 e_r106_3 h => ?_)
  refine z_cV3r hC (ctX9_make hC.hm e_r106_3) (rcX9 hC) kb_X9_make km_X9_129 ⟨by omega, by omega⟩ (Nat.le_of_ble_eq_true rfl) dX9_named_106 ?_
  obtain ⟨rfl, rfl⟩ := z_pr h
  exact z_iret hC hQ dX9_named_109
set_option maxRecDepth 100000 in
set_option maxHeartbeats 4000000 in
theorem wX9_named_55 {T : zX} {fr lo gf gl : Nat} (hC : zOk T cX9_named RX9 fr lo 61 85) (hN : zNL T = 4) {r : Int32} {σ' : zSt} (hQ : zRes T (some .int) (some (.int r)) σ') (hfr : gf + 1 ≤ fr ∧ 5 ≤ fr) (hlo : gl + 23 ≤ lo ∧ 109 ≤ lo) (F : Nat → Int32 → zSt → Option (Int32 × zSt)) (hF : G9_ok T F gf gl) (v1 : Int32) (t0 : Int32)  (σ : zSt) (h : fX9_named_55 F v1 t0 σ = some (r, σ')) : Z T σ 55 [(0, .ref (zAd T (61))), (1, .int v1)] [.int t0] := by
  unfold fX9_named_55 at h
  refine z_istore_n hC [(2, .int t0), (0, .ref (zAd T (61))), (1, .int v1)] rfl (by rw [hN]; decide) rfl dX9_named_55 ?_
  refine z_iconst hC (0 : Int32) (by decide) dX9_named_56 ?_
  refine z_istore_n hC [(3, .int (0 : Int32)), (2, .int t0), (0, .ref (zAd T (61))), (1, .int v1)] rfl (by rw [hN]; decide) rfl dX9_named_57 ?_
  refine z_iload_n hC 3 rfl rfl dX9_named_58 ?_
  refine z_bipush hC (15 : Int32) (by decide) dX9_named_59 ?_
  refine z_icmp_lt hC 86 (by decide) dX9_named_61 (fun q61_1 => ?_) (fun q61_1 => ?_)
  · replace h := z_t q61_1 h
    refine z_sub [(0, .ref (zAd T (61))), (1, .int v1), (2, .int t0), (3, .int (0 : Int32))] [2, 3, 1, 0] rfl ?_
    exact (wX9_named_86 hC hN hQ hfr hlo F hF ) _ _ _ _ h
  · replace h := z_f q61_1 h
    refine z_aload_n hC 2 rfl rfl dX9_named_64 ?_
    refine z_bipush hC (44 : Int32) (by decide) dX9_named_65 ?_
    refine z_b1 h (fun s67_2 e_s67_2 h => ?_)
    refine z_cV1v hC (ctX9_need hC.hm e_s67_2) (rcX9 hC) kb_X9_need km_X9_192 ⟨by omega, by omega⟩ (Nat.le_of_ble_eq_true rfl) dX9_named_67 ?_
    refine z_aload_n hC 2 rfl rfl dX9_named_70 ?_
    refine z_cV0r hC (ctX9_bad hC.hm) (rcX9 hC) kb_X9_bad km_X9_109 ⟨by omega, by omega⟩ (Nat.le_of_ble_eq_true rfl) dX9_named_71 ?_
    refine z_if_eq hC 81 (by decide) dX9_named_74 (fun q74_3 => ?_) (fun q74_3 => ?_)
    · replace h := z_t q74_3 h
      refine z_aload_n hC 2 rfl rfl dX9_named_81 ?_
      refine z_b2 h (fun r82_4 s82_5 e_r82_4 h => ?_)
      refine z_cV0r hC (hF.1 _ _ _ _ e_r82_4) (rcX9 hC) kb_X9_sum km_X9_189 ⟨by omega, by omega⟩ (Nat.le_of_ble_eq_true rfl) dX9_named_82 ?_
      refine z_istore_n hC [(3, .int r82_4), (2, .int t0), (0, .ref (zAd T (61))), (1, .int v1)] rfl (by rw [hN]; decide) rfl dX9_named_85 ?_
      refine z_sub [(0, .ref (zAd T (61))), (1, .int v1), (2, .int t0), (3, .int r82_4)] [2, 3, 1, 0] rfl ?_
      exact (wX9_named_86 hC hN hQ hfr hlo F hF ) _ _ _ _ h
    · replace h := z_f q74_3 h
      refine z_iconst hC (0 : Int32) (by decide) dX9_named_77 ?_
      refine z_goto hC 85 (by decide) dX9_named_78 ?_
      refine z_istore_n hC [(3, .int (0 : Int32)), (2, .int t0), (0, .ref (zAd T (61))), (1, .int v1)] rfl (by rw [hN]; decide) rfl dX9_named_85 ?_
      refine z_sub [(0, .ref (zAd T (61))), (1, .int v1), (2, .int t0), (3, .int (0 : Int32))] [2, 3, 1, 0] rfl ?_
      exact (wX9_named_86 hC hN hQ hfr hlo F hF ) _ _ _ _ h
set_option maxRecDepth 100000 in
set_option maxHeartbeats 4000000 in
theorem wX9_named_0 {T : zX} {fr lo gf gl : Nat} (hC : zOk T cX9_named RX9 fr lo 61 85) (hN : zNL T = 4) {r : Int32} {σ' : zSt} (hQ : zRes T (some .int) (some (.int r)) σ') (hfr : gf + 1 ≤ fr ∧ 5 ≤ fr) (hlo : gl + 23 ≤ lo ∧ 109 ≤ lo) (F : Nat → Int32 → zSt → Option (Int32 × zSt)) (hF : G9_ok T F gf gl) (a1 : Int32)  (σ : zSt) (h : fX9_named_0 F a1 σ = some (r, σ')) : Z T σ 0 [(0, .ref (zAd T (61))), (1, .int a1)] [] := by
  unfold fX9_named_0 at h
  refine z_aload_n hC 0 rfl rfl dX9_named_0 ?_
  refine z_aload_n hC 0 rfl rfl dX9_named_1 ?_
  refine gX9_10 hC kf_X9_99 (gi σ 61 10) rfl dX9_named_2 ?_
  refine z_b1 h (fun s5_1 e_s5_1 h => ?_)
  refine z_cV1v hC (ctX9_meets hC.hm e_s5_1) (rcX9 hC) kb_X9_meets km_X9_126 ⟨by omega, by omega⟩ (Nat.le_of_ble_eq_true rfl) dX9_named_5 ?_
  refine z_aload_n hC 0 rfl rfl dX9_named_8 ?_
  refine z_cV0r hC (ctX9_bad hC.hm) (rcX9 hC) kb_X9_bad km_X9_109 ⟨by omega, by omega⟩ (Nat.le_of_ble_eq_true rfl) dX9_named_9 ?_
  refine z_if_eq hC 17 (by decide) dX9_named_12 (fun q12_2 => ?_) (fun q12_2 => ?_)
  · replace h := z_t q12_2 h
    refine z_aload_n hC 0 rfl rfl dX9_named_17 ?_
    refine z_dup hC rfl dX9_named_18 ?_
    refine gX9_10 hC kf_X9_99 (gi s5_1 61 10) rfl dX9_named_19 ?_
    refine z_aload_n hC 0 rfl rfl dX9_named_22 ?_
    refine z_iload_n hC 1 rfl rfl dX9_named_23 ?_
    refine z_cV1r hC (ctX9_nameOf hC.hm) (rcX9 hC) kb_X9_nameOf km_X9_195 ⟨by omega, by omega⟩ (Nat.le_of_ble_eq_true rfl) dX9_named_24 ?_
    refine z_g h (fun hk24_3 h => ?_)
    refine z_b1 h (fun r27_4 e_r27_4 h => ?_)
    refine z_cV0r hC (ctJ0_length_8abf5 hC.hm e_r27_4) (rcJ0 hC hk24_3) kb_J0_length_8abf5 km_X9_143 ⟨by omega, by omega⟩ (Nat.le_of_ble_eq_true rfl) dX9_named_27 ?_
    refine z_iadd hC dX9_named_30 ?_
    refine pX9_10 hC kf_X9_99 dX9_named_31 ?_
    refine z_aload_n hC 0 rfl rfl dX9_named_34 ?_
    refine z_bipush hC (40 : Int32) (by decide) dX9_named_35 ?_
    refine z_b1 h (fun s37_5 e_s37_5 h => ?_)
    refine z_cV1v hC (ctX9_need hC.hm e_s37_5) (rcX9 hC) kb_X9_need km_X9_192 ⟨by omega, by omega⟩ (Nat.le_of_ble_eq_true rfl) dX9_named_37 ?_
    refine z_aload_n hC 0 rfl rfl dX9_named_40 ?_
    refine z_cV0r hC (ctX9_bad hC.hm) (rcX9 hC) kb_X9_bad km_X9_109 ⟨by omega, by omega⟩ (Nat.le_of_ble_eq_true rfl) dX9_named_41 ?_
    refine z_if_eq hC 51 (by decide) dX9_named_44 (fun q44_6 => ?_) (fun q44_6 => ?_)
    · replace h := z_t q44_6 h
      refine z_aload_n hC 0 rfl rfl dX9_named_51 ?_
      refine z_b2 h (fun r52_7 s52_8 e_r52_7 h => ?_)
      refine z_cV0r hC (hF.1 _ _ _ _ e_r52_7) (rcX9 hC) kb_X9_sum km_X9_189 ⟨by omega, by omega⟩ (Nat.le_of_ble_eq_true rfl) dX9_named_52 ?_
      exact (wX9_named_55 hC hN hQ hfr hlo F hF ) _ _ _ h
    · replace h := z_f q44_6 h
      refine z_iconst hC (0 : Int32) (by decide) dX9_named_47 ?_
      refine z_goto hC 55 (by decide) dX9_named_48 ?_
      exact (wX9_named_55 hC hN hQ hfr hlo F hF ) _ _ _ h
  · replace h := z_f q12_2 h
    refine z_iconst hC (0 : Int32) (by decide) dX9_named_15 ?_
    obtain ⟨rfl, rfl⟩ := z_pr h
    exact z_iret hC hQ dX9_named_16
noncomputable def G9 : Nat → Nat → Int32 → zSt → Option (Int32 × zSt)
  | 0, _, _, _ => none
  | n + 1, i, a, σ => if i = 0 then fX9_sum (G9 n) σ else if i = 1 then fX9_term (G9 n) σ else if i = 2 then fX9_power (G9 n) σ else if i = 3 then fX9_part (G9 n) σ else fX9_named (G9 n) a σ
set_option maxRecDepth 100000 in
theorem sX9_sum {l : Launch} {G : zGt} {mk : zSt → zSt} (hm : zM mk 61 85) {gf gl : Nat} (F : Nat → Int32 → zSt → Option (Int32 × zSt)) (hF : ∀ T : zX, zL T = l → zGr T = G → zMk T = mk → G9_ok T F gf gl) (hb : 5 ≤ gf + 1 ∧ 109 ≤ gl + 23)  {σ : zSt} {r : Int32} {σ' : zSt} (h : fX9_sum F  σ = some (r, σ')) : zMet l G mk yX9_sum cX9_sum 4 (some .int) (gf + 1) (gl + 23) [.ref (gA G (61))] σ (some (.int r)) σ' := by
  unfold fX9_sum at h
  refine zMet.of (plainFor_of_name (by decide +kernel)) hm (Nat.le_of_ble_eq_true rfl) (fun T eL eG eM hN hC hQ => ?_)
  have hF2 := hF T eL eG eM
  subst eL; subst eG; subst eM
  refine z_sub [(0, .ref (zAd T (61)))] [0] rfl ?_
  exact wX9_sum_0 hC hN hQ ⟨Nat.le_refl _, hb.1⟩ ⟨Nat.le_refl _, hb.2⟩ F hF2  _ h
set_option maxRecDepth 100000 in
theorem sX9_term {l : Launch} {G : zGt} {mk : zSt → zSt} (hm : zM mk 61 85) {gf gl : Nat} (F : Nat → Int32 → zSt → Option (Int32 × zSt)) (hF : ∀ T : zX, zL T = l → zGr T = G → zMk T = mk → G9_ok T F gf gl) (hb : 5 ≤ gf + 1 ∧ 109 ≤ gl + 23)  {σ : zSt} {r : Int32} {σ' : zSt} (h : fX9_term F  σ = some (r, σ')) : zMet l G mk yX9_term cX9_term 4 (some .int) (gf + 1) (gl + 23) [.ref (gA G (61))] σ (some (.int r)) σ' := by
  unfold fX9_term at h
  refine zMet.of (plainFor_of_name (by decide +kernel)) hm (Nat.le_of_ble_eq_true rfl) (fun T eL eG eM hN hC hQ => ?_)
  have hF2 := hF T eL eG eM
  subst eL; subst eG; subst eM
  refine z_sub [(0, .ref (zAd T (61)))] [0] rfl ?_
  exact wX9_term_0 hC hN hQ ⟨Nat.le_refl _, hb.1⟩ ⟨Nat.le_refl _, hb.2⟩ F hF2  _ h
set_option maxRecDepth 100000 in
theorem sX9_power {l : Launch} {G : zGt} {mk : zSt → zSt} (hm : zM mk 61 85) {gf gl : Nat} (F : Nat → Int32 → zSt → Option (Int32 × zSt)) (hF : ∀ T : zX, zL T = l → zGr T = G → zMk T = mk → G9_ok T F gf gl) (hb : 5 ≤ gf + 1 ∧ 109 ≤ gl + 23)  {σ : zSt} {r : Int32} {σ' : zSt} (h : fX9_power F  σ = some (r, σ')) : zMet l G mk yX9_power cX9_power 4 (some .int) (gf + 1) (gl + 23) [.ref (gA G (61))] σ (some (.int r)) σ' := by
  unfold fX9_power at h
  refine zMet.of (plainFor_of_name (by decide +kernel)) hm (Nat.le_of_ble_eq_true rfl) (fun T eL eG eM hN hC hQ => ?_)
  have hF2 := hF T eL eG eM
  subst eL; subst eG; subst eM
  refine z_sub [(0, .ref (zAd T (61)))] [0] rfl ?_
  exact wX9_power_0 hC hN hQ ⟨Nat.le_refl _, hb.1⟩ ⟨Nat.le_refl _, hb.2⟩ F hF2  _ h
set_option maxRecDepth 100000 in
theorem sX9_part {l : Launch} {G : zGt} {mk : zSt → zSt} (hm : zM mk 61 85) {gf gl : Nat} (F : Nat → Int32 → zSt → Option (Int32 × zSt)) (hF : ∀ T : zX, zL T = l → zGr T = G → zMk T = mk → G9_ok T F gf gl) (hb : 5 ≤ gf + 1 ∧ 109 ≤ gl + 23)  {σ : zSt} {r : Int32} {σ' : zSt} (h : fX9_part F  σ = some (r, σ')) : zMet l G mk yX9_part cX9_part 4 (some .int) (gf + 1) (gl + 23) [.ref (gA G (61))] σ (some (.int r)) σ' := by
  unfold fX9_part at h
  refine zMet.of (plainFor_of_name (by decide +kernel)) hm (Nat.le_of_ble_eq_true rfl) (fun T eL eG eM hN hC hQ => ?_)
  have hF2 := hF T eL eG eM
  subst eL; subst eG; subst eM
  refine z_sub [(0, .ref (zAd T (61)))] [0] rfl ?_
  exact wX9_part_0 hC hN hQ ⟨Nat.le_refl _, hb.1⟩ ⟨Nat.le_refl _, hb.2⟩ F hF2  _ h
set_option maxRecDepth 100000 in
theorem sX9_named {l : Launch} {G : zGt} {mk : zSt → zSt} (hm : zM mk 61 85) {gf gl : Nat} (F : Nat → Int32 → zSt → Option (Int32 × zSt)) (hF : ∀ T : zX, zL T = l → zGr T = G → zMk T = mk → G9_ok T F gf gl) (hb : 5 ≤ gf + 1 ∧ 109 ≤ gl + 23) {a1 : Int32} {σ : zSt} {r : Int32} {σ' : zSt} (h : fX9_named F a1 σ = some (r, σ')) : zMet l G mk yX9_named cX9_named 4 (some .int) (gf + 1) (gl + 23) [.ref (gA G (61)), .int a1] σ (some (.int r)) σ' := by
  unfold fX9_named at h
  refine zMet.of (plainFor_of_name (by decide +kernel)) hm (Nat.le_of_ble_eq_true rfl) (fun T eL eG eM hN hC hQ => ?_)
  have hF2 := hF T eL eG eM
  subst eL; subst eG; subst eM
  refine z_sub [(0, .ref (zAd T (61))), (1, .int a1)] [0, 1] rfl ?_
  exact wX9_named_0 hC hN hQ ⟨Nat.le_refl _, hb.1⟩ ⟨Nat.le_refl _, hb.2⟩ F hF2 _ _ h
theorem G9_all {l : Launch} {G : zGt} {mk : zSt → zSt} (hm : zM mk 61 85) : ∀ n : Nat, (∀ (a : Int32) (σ : zSt) (r : Int32) (σ' : zSt), G9 n 0 a σ = some (r, σ') → zMet l G mk yX9_sum cX9_sum 4 (some .int) (5 + n) (109 + 23 * n) [.ref (gA G 61)] σ (some (.int r)) σ') ∧ (∀ (a : Int32) (σ : zSt) (r : Int32) (σ' : zSt), G9 n 1 a σ = some (r, σ') → zMet l G mk yX9_term cX9_term 4 (some .int) (5 + n) (109 + 23 * n) [.ref (gA G 61)] σ (some (.int r)) σ') ∧ (∀ (a : Int32) (σ : zSt) (r : Int32) (σ' : zSt), G9 n 2 a σ = some (r, σ') → zMet l G mk yX9_power cX9_power 4 (some .int) (5 + n) (109 + 23 * n) [.ref (gA G 61)] σ (some (.int r)) σ') ∧ (∀ (a : Int32) (σ : zSt) (r : Int32) (σ' : zSt), G9 n 3 a σ = some (r, σ') → zMet l G mk yX9_part cX9_part 4 (some .int) (5 + n) (109 + 23 * n) [.ref (gA G 61)] σ (some (.int r)) σ') ∧ (∀ (a : Int32) (σ : zSt) (r : Int32) (σ' : zSt), G9 n 4 a σ = some (r, σ') → zMet l G mk yX9_named cX9_named 4 (some .int) (5 + n) (109 + 23 * n) [.ref (gA G 61), .int a] σ (some (.int r)) σ') := by
  intro n
  induction n with
  | zero => exact ⟨fun a σ r σ1 h => (by cases h), fun a σ r σ1 h => (by cases h), fun a σ r σ1 h => (by cases h), fun a σ r σ1 h => (by cases h), fun a σ r σ1 h => (by cases h)⟩
  | succ n ih =>
    have hF : ∀ T : zX, zL T = l → zGr T = G → zMk T = mk → G9_ok T (G9 n) (5 + n) (109 + 23 * n) := fun T e1 e2 e3 => by subst e1; subst e2; subst e3; exact ih
    have hb : 5 ≤ 5 + n + 1 ∧ 109 ≤ 109 + 23 * n + 23 := ⟨by omega, by omega⟩
    have e2 : 109 + 23 * (n + 1) = 109 + 23 * n + 23 := by omega
    rw [e2]
    exact ⟨fun a σ r σ1 h => sX9_sum hm (G9 n) hF hb h, fun a σ r σ1 h => sX9_term hm (G9 n) hF hb h, fun a σ r σ1 h => sX9_power hm (G9 n) hF hb h, fun a σ r σ1 h => sX9_part hm (G9 n) hF hb h, fun a σ r σ1 h => sX9_named hm (G9 n) hF hb h⟩
theorem ctTop_G9 {l : Launch} {G : zGt} {mk : zSt → zSt} (hm : zM mk 61 85) {a : Int32} {σ : zSt} {r : Int32} {σ' : zSt} (h : G9 70 0 a σ = some (r, σ')) : zMet l G mk yX9_sum cX9_sum 4 (some .int) 75 1719 [.ref (gA G 61)] σ (some (.int r)) σ' := (G9_all hm 70).1 a σ r σ' h
noncomputable def fX9_curve_71  (σ : zSt) : Option (Int32 × zSt) := 
    (if (fX9_bad (si σ 61 2 (0 : Int32))) = 0 then zg (vp_in (gi σ 61 3) 8) <| some ((((gi σ 61 3) + (1 : Int32)) - (1 : Int32)), (si (si (si σ 61 2 (0 : Int32)) 63 (gi σ 61 3).toNatClampNeg (gi σ 61 13)) 61 3 ((gi σ 61 3) + (1 : Int32))))
    else some (((-2 : Int32) - ((gi σ 61 11) + ((4 : Int32) * (gi σ 61 12)))), (si σ 61 2 (0 : Int32))))
noncomputable def fX9_curve_0  (σ : zSt) : Option (Int32 × zSt) := 
    (if (gi σ 61 3) = (8 : Int32) then some ((-1 : Int32), (si σ 61 2 (0 : Int32)))
    else bd2 (G9 70 0 0 (si (si (si (si (si σ 61 10 (0 : Int32)) 61 11 (0 : Int32)) 61 13 (0 : Int32)) 61 14 (0 : Int32)) 61 15 (0 : Int32))) fun r42_2 s42_3 => 
      (if (fX9_bad s42_3) = 0 then bd2 (fX9_peek s42_3) fun r54_5 s54_6 => 
        (if r54_5 = (-1 : Int32) then fX9_curve_71 s54_6
        else bd2 (fX9_fails (1 : Int32) (gi s54_6 61 10) s54_6) fun r67_8 s67_9 => fX9_curve_71 s67_9)
      else fX9_curve_71 s42_3))
noncomputable def fX9_curve  (σ : zSt) : Option (Int32 × zSt) := fX9_curve_0  σ
set_option maxRecDepth 100000 in
set_option maxHeartbeats 4000000 in
theorem wX9_curve_71 {T : zX} (hC : zOk T cX9_curve RX9 76 1742 61 85) (hN : zNL T = 1) {r : Int32} {σ' : zSt} (hQ : zRes T (some .int) (some (.int r)) σ')   (σ : zSt) (h : fX9_curve_71  σ = some (r, σ')) : Z T σ 71 [(0, .ref (zAd T (61)))] [] := by
  unfold fX9_curve_71 at h
  refine z_aload_n hC 0 rfl rfl dX9_curve_71 ?_
  refine z_iconst hC (0 : Int32) (by decide) dX9_curve_72 ?_
  refine pX9_2 hC kf_X9_86 dX9_curve_73 ?_
  refine z_aload_n hC 0 rfl rfl dX9_curve_76 ?_
  refine z_cV0r hC (ctX9_bad hC.hm) (rcX9 hC) kb_X9_bad km_X9_109 ⟨by decide, by decide⟩ (Nat.le_of_ble_eq_true rfl) dX9_curve_77 ?_
  refine z_if_eq hC 98 (by decide) dX9_curve_80 (fun q80_1 => ?_) (fun q80_1 => ?_)
  · replace h := z_t q80_1 h
    refine z_aload_n hC 0 rfl rfl dX9_curve_98 ?_
    refine gX9_4 hC kf_X9_13 dX9_curve_99 ?_
    refine z_aload_n hC 0 rfl rfl dX9_curve_102 ?_
    refine gX9_3 hC kf_X9_113 (gi σ 61 3) rfl dX9_curve_103 ?_
    refine z_aload_n hC 0 rfl rfl dX9_curve_106 ?_
    refine gX9_13 hC kf_X9_116 (gi σ 61 13) rfl dX9_curve_107 ?_
    refine z_g h (fun g110_2 h => ?_)
    refine z_iast hC 63 ⟨by decide, by decide⟩ (zS_63 _) g110_2 dX9_curve_110 ?_
    refine z_aload_n hC 0 rfl rfl dX9_curve_111 ?_
    refine z_dup hC rfl dX9_curve_112 ?_
    refine gX9_3 hC kf_X9_113 (gi σ 61 3) rfl dX9_curve_113 ?_
    refine z_iconst hC (1 : Int32) (by decide) dX9_curve_116 ?_
    refine z_iadd hC dX9_curve_117 ?_
    refine pX9_3 hC kf_X9_113 dX9_curve_118 ?_
    refine z_aload_n hC 0 rfl rfl dX9_curve_121 ?_
    refine gX9_3 hC kf_X9_113 ((gi σ 61 3) + (1 : Int32)) rfl dX9_curve_122 ?_
    refine z_iconst hC (1 : Int32) (by decide) dX9_curve_125 ?_
    refine z_isub hC dX9_curve_126 ?_
    obtain ⟨rfl, rfl⟩ := z_pr h
    exact z_iret hC hQ dX9_curve_127
  · replace h := z_f q80_1 h
    refine z_bipush hC (-2 : Int32) (by decide) dX9_curve_83 ?_
    refine z_aload_n hC 0 rfl rfl dX9_curve_85 ?_
    refine gX9_11 hC kf_X9_93 (gi σ 61 11) rfl dX9_curve_86 ?_
    refine z_iconst hC (4 : Int32) (by decide) dX9_curve_89 ?_
    refine z_aload_n hC 0 rfl rfl dX9_curve_90 ?_
    refine gX9_12 hC kf_X9_96 (gi σ 61 12) rfl dX9_curve_91 ?_
    refine z_imul hC dX9_curve_94 ?_
    refine z_iadd hC dX9_curve_95 ?_
    refine z_isub hC dX9_curve_96 ?_
    obtain ⟨rfl, rfl⟩ := z_pr h
    exact z_iret hC hQ dX9_curve_97
set_option maxRecDepth 100000 in
set_option maxHeartbeats 4000000 in
theorem wX9_curve_0 {T : zX} (hC : zOk T cX9_curve RX9 76 1742 61 85) (hN : zNL T = 1) {r : Int32} {σ' : zSt} (hQ : zRes T (some .int) (some (.int r)) σ')   (σ : zSt) (h : fX9_curve_0  σ = some (r, σ')) : Z T σ 0 [(0, .ref (zAd T (61)))] [] := by
  unfold fX9_curve_0 at h
  refine z_aload_n hC 0 rfl rfl dX9_curve_0 ?_
  refine gX9_3 hC kf_X9_113 (gi σ 61 3) rfl dX9_curve_1 ?_
  refine z_bipush hC (8 : Int32) (by decide) dX9_curve_4 ?_
  refine z_icmp_ne hC 16 (by decide) dX9_curve_6 (fun q6_1 => ?_) (fun q6_1 => ?_)
  · replace h := z_f q6_1 h
    refine z_aload_n hC 0 rfl rfl dX9_curve_16 ?_
    refine z_iconst hC (0 : Int32) (by decide) dX9_curve_17 ?_
    refine pX9_10 hC kf_X9_99 dX9_curve_18 ?_
    refine z_aload_n hC 0 rfl rfl dX9_curve_21 ?_
    refine z_iconst hC (0 : Int32) (by decide) dX9_curve_22 ?_
    refine pX9_11 hC kf_X9_93 dX9_curve_23 ?_
    refine z_aload_n hC 0 rfl rfl dX9_curve_26 ?_
    refine z_iconst hC (0 : Int32) (by decide) dX9_curve_27 ?_
    refine pX9_13 hC kf_X9_116 dX9_curve_28 ?_
    refine z_aload_n hC 0 rfl rfl dX9_curve_31 ?_
    refine z_iconst hC (0 : Int32) (by decide) dX9_curve_32 ?_
    refine pX9_14 hC kf_X9_171 dX9_curve_33 ?_
    refine z_aload_n hC 0 rfl rfl dX9_curve_36 ?_
    refine z_iconst hC (0 : Int32) (by decide) dX9_curve_37 ?_
    refine pX9_15 hC kf_X9_102 dX9_curve_38 ?_
    refine z_aload_n hC 0 rfl rfl dX9_curve_41 ?_
    refine z_b2 h (fun r42_2 s42_3 e_r42_2 h => ?_)
    refine z_cV0r hC (ctTop_G9 hC.hm e_r42_2) (rcX9 hC) kb_X9_sum km_X9_189 ⟨by decide, by decide⟩ (Nat.le_of_ble_eq_true rfl) dX9_curve_42 ?_
    refine z_pop hC rfl dX9_curve_45 ?_
    refine z_aload_n hC 0 rfl rfl dX9_curve_46 ?_
    refine z_cV0r hC (ctX9_bad hC.hm) (rcX9 hC) kb_X9_bad km_X9_109 ⟨by decide, by decide⟩ (Nat.le_of_ble_eq_true rfl) dX9_curve_47 ?_
    refine z_if_ne hC 71 (by decide) dX9_curve_50 (fun q50_4 => ?_) (fun q50_4 => ?_)
    · replace h := z_f q50_4 h
      exact (wX9_curve_71 hC hN hQ ) _ h
    · replace h := z_t q50_4 h
      refine z_aload_n hC 0 rfl rfl dX9_curve_53 ?_
      refine z_b2 h (fun r54_5 s54_6 e_r54_5 h => ?_)
      refine z_cV0r hC (ctX9_peek hC.hm e_r54_5) (rcX9 hC) kb_X9_peek km_X9_123 ⟨by decide, by decide⟩ (Nat.le_of_ble_eq_true rfl) dX9_curve_54 ?_
      refine z_iconst hC (-1 : Int32) (by decide) dX9_curve_57 ?_
      refine z_icmp_eq hC 71 (by decide) dX9_curve_58 (fun q58_7 => ?_) (fun q58_7 => ?_)
      · replace h := z_t q58_7 h
        exact (wX9_curve_71 hC hN hQ ) _ h
      · replace h := z_f q58_7 h
        refine z_aload_n hC 0 rfl rfl dX9_curve_61 ?_
        refine z_iconst hC (1 : Int32) (by decide) dX9_curve_62 ?_
        refine z_aload_n hC 0 rfl rfl dX9_curve_63 ?_
        refine gX9_10 hC kf_X9_99 (gi s54_6 61 10) rfl dX9_curve_64 ?_
        refine z_b2 h (fun r67_8 s67_9 e_r67_8 h => ?_)
        refine z_cV2r hC (ctX9_fails hC.hm e_r67_8) (rcX9 hC) kb_X9_fails km_X9_105 ⟨by decide, by decide⟩ (Nat.le_of_ble_eq_true rfl) dX9_curve_67 ?_
        refine z_pop hC rfl dX9_curve_70 ?_
        exact (wX9_curve_71 hC hN hQ ) _ h
  · replace h := z_t q6_1 h
    refine z_aload_n hC 0 rfl rfl dX9_curve_9 ?_
    refine z_iconst hC (0 : Int32) (by decide) dX9_curve_10 ?_
    refine pX9_2 hC kf_X9_86 dX9_curve_11 ?_
    refine z_iconst hC (-1 : Int32) (by decide) dX9_curve_14 ?_
    obtain ⟨rfl, rfl⟩ := z_pr h
    exact z_iret hC hQ dX9_curve_15
set_option maxRecDepth 100000 in
theorem ctX9_curve {l : Launch} {G : zGt} {mk : zSt → zSt} (hm : zM mk 61 85)  {σ : zSt} {r : Int32} {σ' : zSt} (h : fX9_curve  σ = some (r, σ')) : zMet l G mk yX9_curve cX9_curve 1 (some .int) 76 1742 [.ref (gA G (61))] σ (some (.int r)) σ' := by
  unfold fX9_curve at h

  refine zMet.of (plainFor_of_name (by decide +kernel)) hm (Nat.le_of_ble_eq_true rfl) (fun T eL eG eM hN hC hQ => ?_)
  subst eL; subst eG; subst eM
  refine z_sub [(0, .ref (zAd T (61)))] [0] rfl ?_
  exact wX9_curve_0 hC hN hQ   _ h
noncomputable def fX9_drop_0  (σ : zSt) : Option (Int32 × zSt) := 
    (if (gi σ 61 3) = 0 then some ((-1 : Int32), σ)
    else some (((gi σ 61 3) - (1 : Int32)), (si σ 61 3 ((gi σ 61 3) - (1 : Int32)))))
noncomputable def fX9_drop  (σ : zSt) : Option (Int32 × zSt) := fX9_drop_0  σ
set_option maxRecDepth 100000 in
set_option maxHeartbeats 4000000 in
theorem wX9_drop_0 {T : zX} (hC : zOk T cX9_drop RX9 0 0 61 85) (hN : zNL T = 1) {r : Int32} {σ' : zSt} (hQ : zRes T (some .int) (some (.int r)) σ')   (σ : zSt) (h : fX9_drop_0  σ = some (r, σ')) : Z T σ 0 [(0, .ref (zAd T (61)))] [] := by
  unfold fX9_drop_0 at h
  refine z_aload_n hC 0 rfl rfl dX9_drop_0 ?_
  refine gX9_3 hC kf_X9_113 (gi σ 61 3) rfl dX9_drop_1 ?_
  refine z_if_ne hC 9 (by decide) dX9_drop_4 (fun q4_1 => ?_) (fun q4_1 => ?_)
  · replace h := z_f q4_1 h
    refine z_aload_n hC 0 rfl rfl dX9_drop_9 ?_
    refine z_dup hC rfl dX9_drop_10 ?_
    refine gX9_3 hC kf_X9_113 (gi σ 61 3) rfl dX9_drop_11 ?_
    refine z_iconst hC (1 : Int32) (by decide) dX9_drop_14 ?_
    refine z_isub hC dX9_drop_15 ?_
    refine pX9_3 hC kf_X9_113 dX9_drop_16 ?_
    refine z_aload_n hC 0 rfl rfl dX9_drop_19 ?_
    refine gX9_3 hC kf_X9_113 ((gi σ 61 3) - (1 : Int32)) rfl dX9_drop_20 ?_
    obtain ⟨rfl, rfl⟩ := z_pr h
    exact z_iret hC hQ dX9_drop_23
  · replace h := z_t q4_1 h
    refine z_iconst hC (-1 : Int32) (by decide) dX9_drop_7 ?_
    obtain ⟨rfl, rfl⟩ := z_pr h
    exact z_iret hC hQ dX9_drop_8
set_option maxRecDepth 100000 in
theorem ctX9_drop {l : Launch} {G : zGt} {mk : zSt → zSt} (hm : zM mk 61 85)  {σ : zSt} {r : Int32} {σ' : zSt} (h : fX9_drop  σ = some (r, σ')) : zMet l G mk yX9_drop cX9_drop 1 (some .int) 0 0 [.ref (gA G (61))] σ (some (.int r)) σ' := by
  unfold fX9_drop at h

  refine zMet.of (plainFor_of_name (by decide +kernel)) hm (Nat.le_of_ble_eq_true rfl) (fun T eL eG eM hN hC hQ => ?_)
  subst eL; subst eG; subst eM
  refine z_sub [(0, .ref (zAd T (61)))] [0] rfl ?_
  exact wX9_drop_0 hC hN hQ   _ h
noncomputable def fX9_has_0 (a1 : Int32) (σ : zSt) : Int32 := 
    (if a1 < 0 then (0 : Int32)
    else 
      (if (gi σ 61 3) ≤ a1 then (0 : Int32)
      else (1 : Int32)))
noncomputable def fX9_has (a1 : Int32) (σ : zSt) : Int32 := fX9_has_0 a1 σ
set_option maxRecDepth 100000 in
set_option maxHeartbeats 4000000 in
theorem wX9_has_0 {T : zX} {σ : zSt} (hC : zOk T cX9_has RX9 0 0 61 85) (hN : zNL T = 2) {r : Int32} (hQ : zRes T (some .boolean) (some (.int r)) σ) (a1 : Int32)  (h : fX9_has_0 a1 σ = r) : Z T σ 0 [(0, .ref (zAd T (61))), (1, .int a1)] [] := by
  unfold fX9_has_0 at h
  refine z_iload_n hC 1 rfl rfl dX9_has_0 ?_
  refine z_if_lt hC 16 (by decide) dX9_has_1 (fun q1_1 => ?_) (fun q1_1 => ?_)
  · replace h := z_t q1_1 h
    refine z_iconst hC (0 : Int32) (by decide) dX9_has_16 ?_
    subst h
    exact z_zret hC hQ dX9_has_17 (by decide)
  · replace h := z_f q1_1 h
    refine z_iload_n hC 1 rfl rfl dX9_has_4 ?_
    refine z_aload_n hC 0 rfl rfl dX9_has_5 ?_
    refine gX9_3 hC kf_X9_113 (gi σ 61 3) rfl dX9_has_6 ?_
    refine z_icmp_ge hC 16 (by decide) dX9_has_9 (fun q9_2 => ?_) (fun q9_2 => ?_)
    · replace h := z_t q9_2 h
      refine z_iconst hC (0 : Int32) (by decide) dX9_has_16 ?_
      subst h
      exact z_zret hC hQ dX9_has_17 (by decide)
    · replace h := z_f q9_2 h
      refine z_iconst hC (1 : Int32) (by decide) dX9_has_12 ?_
      refine z_goto hC 17 (by decide) dX9_has_13 ?_
      subst h
      exact z_zret hC hQ dX9_has_17 (by decide)
set_option maxRecDepth 100000 in
theorem ctX9_has {l : Launch} {G : zGt} {mk : zSt → zSt} (hm : zM mk 61 85) {a1 : Int32} {σ : zSt} : zMet l G mk yX9_has cX9_has 2 (some .boolean) 0 0 [.ref (gA G (61)), .int a1] σ (some (.int (fX9_has a1 σ))) σ := by

  refine zMet.of (plainFor_of_name (by decide +kernel)) hm (Nat.le_of_ble_eq_true rfl) (fun T eL eG eM hN hC hQ => ?_)
  subst eL; subst eG; subst eM
  refine z_sub [(0, .ref (zAd T (61))), (1, .int a1)] [0, 1] rfl ?_
  exact wX9_has_0 hC hN hQ _  rfl
noncomputable def fX9_looks_311 (K9 : Int32 → Int32 → zSt → Option zSt) (v1 : Int32) (v2 : Int32) (v3 : Int32) (v6 : Int32) (σ : zSt) : Option zSt := 
    (if v6 ≤ (1000 : Int32) then zg (vp_in v3 480) <| nm (v2 + (1 : Int32)) fun x333_3 => K9 v1 x333_3 (si σ 71 v3.toNatClampNeg v6)
    else zg (vp_in v3 480) <| nm (v2 + (1 : Int32)) fun x333_5 => K9 v1 x333_5 (si σ 71 v3.toNatClampNeg (1000 : Int32)))
noncomputable def fX9_looks_133 (K9 : Int32 → Int32 → zSt → Option zSt) (v1 : Int32) (v2 : Int32) (v3 : Int32) (v4 : Int32) (v5 : Int32) (σ : zSt) : Option zSt := zg (vp_in v3 480) <| nm (gi σ 64 v3.toNatClampNeg) fun x142_2 => 
    (
    if x142_2 = 0 then fX9_looks_311 K9 v1 v2 v3 (1 : Int32) σ else 
    if x142_2 = 1 then fX9_looks_311 K9 v1 v2 v3 (0 : Int32) σ else 
    if x142_2 = 2 then zg (vp_in v3 480) <| zg (vp_in (gi σ 65 v3.toNatClampNeg) 8) <| nm (gi σ 70 (gi σ 65 v3.toNatClampNeg).toNatClampNeg) fun x211_8 => fX9_looks_311 K9 v1 v2 v3 x211_8 σ else 
    if x142_2 = 3 then fX9_looks_311 K9 v1 v2 v3 v4 σ else 
    if x142_2 = 4 then 
              (if v4 = (-1 : Int32) then fX9_looks_311 K9 v1 v2 v3 (-1 : Int32) σ
              else zg (vp_in v3 480) <| nm (v4 * (gi σ 66 v3.toNatClampNeg)) fun x242_13 => fX9_looks_311 K9 v1 v2 v3 x242_13 σ) else 
    if x142_2 = 5 then 
                (if v4 = (-1 : Int32) then fX9_looks_311 K9 v1 v2 v3 (-1 : Int32) σ
                else 
                  (if v5 = (-1 : Int32) then fX9_looks_311 K9 v1 v2 v3 (-1 : Int32) σ
                  else 
                    (if v4 ≤ v5 then fX9_looks_311 K9 v1 v2 v3 v5 σ
                    else fX9_looks_311 K9 v1 v2 v3 v4 σ))) else 
    if x142_2 = 6 then 
                  (if v4 = (-1 : Int32) then fX9_looks_311 K9 v1 v2 v3 (-1 : Int32) σ
                  else 
                    (if v5 = (-1 : Int32) then fX9_looks_311 K9 v1 v2 v3 (-1 : Int32) σ
                    else 
                      (if v4 ≤ v5 then fX9_looks_311 K9 v1 v2 v3 v5 σ
                      else fX9_looks_311 K9 v1 v2 v3 v4 σ))) else 
    if x142_2 = 7 then 
                    (if v4 = (-1 : Int32) then fX9_looks_311 K9 v1 v2 v3 (-1 : Int32) σ
                    else 
                      (if v5 = (-1 : Int32) then fX9_looks_311 K9 v1 v2 v3 (-1 : Int32) σ
                      else nm (v4 + v5) fun x303_25 => fX9_looks_311 K9 v1 v2 v3 x303_25 σ)) else fX9_looks_311 K9 v1 v2 v3 (-1 : Int32) σ)
noncomputable def fX9_looks_89 (K9 : Int32 → Int32 → zSt → Option zSt) (v1 : Int32) (v2 : Int32) (v3 : Int32) (v4 : Int32) (t0 : Int32) (σ : zSt) : Option zSt := zg (vp_in v3 480) <| 
    (if (14 : Int32) ≤ (gi σ 64 v3.toNatClampNeg) then zg (vp_in v1 8) <| fX9_looks_133 K9 v1 v2 v3 v4 t0 (si σ 69 v1.toNatClampNeg (0 : Int32))
    else zg (vp_in v3 480) <| 
      (if (gi σ 64 v3.toNatClampNeg) = (2 : Int32) then zg (vp_in v3 480) <| zg (vp_in (gi σ 65 v3.toNatClampNeg) 8) <| 
        (if (gi σ 69 (gi σ 65 v3.toNatClampNeg).toNatClampNeg) = 0 then zg (vp_in v1 8) <| fX9_looks_133 K9 v1 v2 v3 v4 t0 (si σ 69 v1.toNatClampNeg (0 : Int32))
        else fX9_looks_133 K9 v1 v2 v3 v4 t0 σ)
      else fX9_looks_133 K9 v1 v2 v3 v4 t0 σ))
noncomputable def fX9_looks_9 (K9 : Int32 → Int32 → zSt → Option zSt) (v1 : Int32) (v2 : Int32) (σ : zSt) : Option zSt := zg (vp_in v1 8) <| 
    (if (gi σ 63 v1.toNatClampNeg) ≤ v2 then zg (vp_in v1 8) <| zg (vp_in ((((60 : Int32) * v1) + (gi σ 63 v1.toNatClampNeg)) - (1 : Int32)) 480) <| nm (gi σ 71 ((((60 : Int32) * v1) + (gi σ 63 v1.toNatClampNeg)) - (1 : Int32)).toNatClampNeg) fun x361_5 => zg (vp_in v1 8) <| some (si σ 70 v1.toNatClampNeg x361_5)
    else nm (((60 : Int32) * v1) + v2) fun x25_7 => zg (vp_in x25_7 480) <| 
      (if (gi σ 64 x25_7.toNatClampNeg) ≤ (2 : Int32) then zg (vp_in x25_7 480) <| 
        (if (gi σ 64 x25_7.toNatClampNeg) < (5 : Int32) then fX9_looks_89 K9 v1 v2 x25_7 (0 : Int32) (0 : Int32) σ
        else zg (vp_in x25_7 480) <| 
          (if (8 : Int32) < (gi σ 64 x25_7.toNatClampNeg) then fX9_looks_89 K9 v1 v2 x25_7 (0 : Int32) (0 : Int32) σ
          else zg (vp_in x25_7 480) <| zg (vp_in (gi σ 66 x25_7.toNatClampNeg) 480) <| fX9_looks_89 K9 v1 v2 x25_7 (0 : Int32) (gi σ 71 (gi σ 66 x25_7.toNatClampNeg).toNatClampNeg) σ))
      else zg (vp_in x25_7 480) <| zg (vp_in (gi σ 65 x25_7.toNatClampNeg) 480) <| nm (gi σ 71 (gi σ 65 x25_7.toNatClampNeg).toNatClampNeg) fun x51_18 => zg (vp_in x25_7 480) <| 
        (if (gi σ 64 x25_7.toNatClampNeg) < (5 : Int32) then fX9_looks_89 K9 v1 v2 x25_7 x51_18 (0 : Int32) σ
        else zg (vp_in x25_7 480) <| 
          (if (8 : Int32) < (gi σ 64 x25_7.toNatClampNeg) then fX9_looks_89 K9 v1 v2 x25_7 x51_18 (0 : Int32) σ
          else zg (vp_in x25_7 480) <| zg (vp_in (gi σ 66 x25_7.toNatClampNeg) 480) <| fX9_looks_89 K9 v1 v2 x25_7 x51_18 (gi σ 71 (gi σ 66 x25_7.toNatClampNeg).toNatClampNeg) σ))))
noncomputable def fX9_looks_L9 : Nat → Int32 → Int32 → zSt → Option zSt
  | 0, _, _, _ => none
  | n + 1, v1, v2, σ => fX9_looks_9 (fX9_looks_L9 n) v1 v2 σ
noncomputable def fX9_looks_0 (a1 : Int32) (σ : zSt) : Option zSt := zg (vp_in a1 8) <| fX9_looks_L9 zFU a1 (0 : Int32) (si σ 69 a1.toNatClampNeg (1 : Int32))
noncomputable def fX9_looks (a1 : Int32) (σ : zSt) : Option zSt := fX9_looks_0 a1 σ
set_option maxRecDepth 100000 in
set_option maxHeartbeats 4000000 in
theorem wX9_looks_311 {T : zX} (hC : zOk T cX9_looks RX9 0 0 61 85) (hN : zNL T = 7) {σ' : zSt} (hQ : zRes T none (none) σ') (K9 : Int32 → Int32 → zSt → Option zSt) (hK9 : ∀ (v1 : Int32) (v2 : Int32) (τ : zSt), K9 v1 v2 τ = some σ' → Z T τ 9 [(0, .ref (zAd T (61))), (1, .int v1), (2, .int v2)] []) (v1 : Int32) (v2 : Int32) (v3 : Int32) (v6 : Int32)  (σ : zSt) (h : fX9_looks_311 K9 v1 v2 v3 v6 σ = some σ') : Z T σ 311 [(0, .ref (zAd T (61))), (1, .int v1), (2, .int v2), (3, .int v3), (6, .int v6)] [] := by
  unfold fX9_looks_311 at h
  refine z_aload_n hC 0 rfl rfl dX9_looks_311 ?_
  refine gX9_18 hC kf_X9_39 dX9_looks_312 ?_
  refine z_iload_n hC 3 rfl rfl dX9_looks_315 ?_
  refine z_iload hC 4 rfl dX9_looks_316 ?_
  refine z_sipush hC (1000 : Int32) (by decide) dX9_looks_318 ?_
  refine z_icmp_le hC 330 (by decide) dX9_looks_321 (fun q321_1 => ?_) (fun q321_1 => ?_)
  · replace h := z_t q321_1 h
    refine z_iload hC 4 rfl dX9_looks_330 ?_
    refine z_g h (fun g332_2 h => ?_)
    refine z_iast hC 71 ⟨by decide, by decide⟩ (zS_71 _) g332_2 dX9_looks_332 ?_
    refine z_nmE h (fun x333_3 e_x333_3 h => ?_)
    refine z_iinc hC x333_3 [(2, .int x333_3), (0, .ref (zAd T (61))), (1, .int v1), (3, .int v3), (6, .int v6)] 2 rfl (by rw [e_x333_3]; rfl) (by rw [hN]; decide) rfl dX9_looks_333 ?_
    refine z_goto hC 9 (by decide) dX9_looks_336 ?_
    refine z_sub [(0, .ref (zAd T (61))), (1, .int v1), (2, .int x333_3)] [1, 2, 0] rfl ?_
    exact hK9 _ _ _ h
  · replace h := z_f q321_1 h
    refine z_sipush hC (1000 : Int32) (by decide) dX9_looks_324 ?_
    refine z_goto hC 332 (by decide) dX9_looks_327 ?_
    refine z_g h (fun g332_4 h => ?_)
    refine z_iast hC 71 ⟨by decide, by decide⟩ (zS_71 _) g332_4 dX9_looks_332 ?_
    refine z_nmE h (fun x333_5 e_x333_5 h => ?_)
    refine z_iinc hC x333_5 [(2, .int x333_5), (0, .ref (zAd T (61))), (1, .int v1), (3, .int v3), (6, .int v6)] 2 rfl (by rw [e_x333_5]; rfl) (by rw [hN]; decide) rfl dX9_looks_333 ?_
    refine z_goto hC 9 (by decide) dX9_looks_336 ?_
    refine z_sub [(0, .ref (zAd T (61))), (1, .int v1), (2, .int x333_5)] [1, 2, 0] rfl ?_
    exact hK9 _ _ _ h
set_option maxRecDepth 100000 in
set_option maxHeartbeats 4000000 in
theorem wX9_looks_133 {T : zX} (hC : zOk T cX9_looks RX9 0 0 61 85) (hN : zNL T = 7) {σ' : zSt} (hQ : zRes T none (none) σ') (K9 : Int32 → Int32 → zSt → Option zSt) (hK9 : ∀ (v1 : Int32) (v2 : Int32) (τ : zSt), K9 v1 v2 τ = some σ' → Z T τ 9 [(0, .ref (zAd T (61))), (1, .int v1), (2, .int v2)] []) (v1 : Int32) (v2 : Int32) (v3 : Int32) (v4 : Int32) (v5 : Int32)  (σ : zSt) (h : fX9_looks_133 K9 v1 v2 v3 v4 v5 σ = some σ') : Z T σ 133 [(0, .ref (zAd T (61))), (1, .int v1), (2, .int v2), (3, .int v3), (4, .int v4), (5, .int v5)] [] := by
  unfold fX9_looks_133 at h
  refine z_iconst hC (-1 : Int32) (by decide) dX9_looks_133 ?_
  refine z_istore hC [(6, .int (-1 : Int32)), (0, .ref (zAd T (61))), (1, .int v1), (2, .int v2), (3, .int v3), (4, .int v4), (5, .int v5)] (by rw [hN]; decide) rfl dX9_looks_134 ?_
  refine z_aload_n hC 1 rfl rfl dX9_looks_136 ?_
  refine gX9_5 hC kf_X9_17 dX9_looks_137 ?_
  refine z_iload_n hC 4 rfl rfl dX9_looks_140 ?_
  refine z_g h (fun g141_1 h => ?_)
  refine z_iald hC 64 ⟨by decide, by decide⟩ (zS_64 _ _ _) g141_1 (gi σ 64 v3.toNatClampNeg) rfl dX9_looks_141 ?_
  refine z_nmI h (fun x142_2 h => ?_)
  refine z_ite h (fun q142_3 h => ?_) (fun q142_3 h => ?_)
  · refine z_tabIn hC (46) 188 (by rw [q142_3]; decide) (by rw [q142_3]; decide) (by rw [q142_3]; decide +kernel) (by decide) dX9_looks_142 ?_
    refine z_iconst hC (1 : Int32) (by decide) dX9_looks_188 ?_
    refine z_istore hC [(6, .int (1 : Int32)), (0, .ref (zAd T (61))), (1, .int v1), (2, .int v2), (3, .int v3), (4, .int v4), (5, .int v5)] (by rw [hN]; decide) rfl dX9_looks_189 ?_
    refine z_goto hC 311 (by decide) dX9_looks_191 ?_
    refine z_sub [(0, .ref (zAd T (61))), (1, .int v1), (2, .int v2), (3, .int v3), (6, .int (1 : Int32))] [1, 2, 3, 4, 0] rfl ?_
    exact (wX9_looks_311 hC hN hQ K9 hK9 ) _ _ _ _ _ h
  ·
    refine z_ite h (fun q142_4 h => ?_) (fun q142_4 h => ?_)
    · refine z_tabIn hC (52) 194 (by rw [q142_4]; decide) (by rw [q142_4]; decide) (by rw [q142_4]; decide +kernel) (by decide) dX9_looks_142 ?_
      refine z_iconst hC (0 : Int32) (by decide) dX9_looks_194 ?_
      refine z_istore hC [(6, .int (0 : Int32)), (0, .ref (zAd T (61))), (1, .int v1), (2, .int v2), (3, .int v3), (4, .int v4), (5, .int v5)] (by rw [hN]; decide) rfl dX9_looks_195 ?_
      refine z_goto hC 311 (by decide) dX9_looks_197 ?_
      refine z_sub [(0, .ref (zAd T (61))), (1, .int v1), (2, .int v2), (3, .int v3), (6, .int (0 : Int32))] [1, 2, 3, 4, 0] rfl ?_
      exact (wX9_looks_311 hC hN hQ K9 hK9 ) _ _ _ _ _ h
    ·
      refine z_ite h (fun q142_5 h => ?_) (fun q142_5 h => ?_)
      · refine z_tabIn hC (58) 200 (by rw [q142_5]; decide) (by rw [q142_5]; decide) (by rw [q142_5]; decide +kernel) (by decide) dX9_looks_142 ?_
        refine z_aload_n hC 1 rfl rfl dX9_looks_200 ?_
        refine gX9_17 hC kf_X9_36 dX9_looks_201 ?_
        refine z_aload_n hC 1 rfl rfl dX9_looks_204 ?_
        refine gX9_6 hC kf_X9_20 dX9_looks_205 ?_
        refine z_iload_n hC 4 rfl rfl dX9_looks_208 ?_
        refine z_g h (fun g209_6 h => ?_)
        refine z_iald hC 65 ⟨by decide, by decide⟩ (zS_65 _ _ _) g209_6 (gi σ 65 v3.toNatClampNeg) rfl dX9_looks_209 ?_
        refine z_g h (fun g210_7 h => ?_)
        refine z_iald hC 70 ⟨by decide, by decide⟩ (zS_70 _ _ _) g210_7 (gi σ 70 (gi σ 65 v3.toNatClampNeg).toNatClampNeg) rfl dX9_looks_210 ?_
        refine z_nmI h (fun x211_8 h => ?_)
        refine z_istore hC [(6, .int x211_8), (0, .ref (zAd T (61))), (1, .int v1), (2, .int v2), (3, .int v3), (4, .int v4), (5, .int v5)] (by rw [hN]; decide) rfl dX9_looks_211 ?_
        refine z_goto hC 311 (by decide) dX9_looks_213 ?_
        refine z_sub [(0, .ref (zAd T (61))), (1, .int v1), (2, .int v2), (3, .int v3), (6, .int x211_8)] [1, 2, 3, 4, 0] rfl ?_
        exact (wX9_looks_311 hC hN hQ K9 hK9 ) _ _ _ _ _ h
      ·
        refine z_ite h (fun q142_9 h => ?_) (fun q142_9 h => ?_)
        · refine z_tabIn hC (74) 216 (by rw [q142_9]; decide) (by rw [q142_9]; decide) (by rw [q142_9]; decide +kernel) (by decide) dX9_looks_142 ?_
          refine z_iload hC 5 rfl dX9_looks_216 ?_
          refine z_istore hC [(6, .int v4), (0, .ref (zAd T (61))), (1, .int v1), (2, .int v2), (3, .int v3), (4, .int v4), (5, .int v5)] (by rw [hN]; decide) rfl dX9_looks_218 ?_
          refine z_goto hC 311 (by decide) dX9_looks_220 ?_
          refine z_sub [(0, .ref (zAd T (61))), (1, .int v1), (2, .int v2), (3, .int v3), (6, .int v4)] [1, 2, 3, 4, 0] rfl ?_
          exact (wX9_looks_311 hC hN hQ K9 hK9 ) _ _ _ _ _ h
        ·
          refine z_ite h (fun q142_10 h => ?_) (fun q142_10 h => ?_)
          · refine z_tabIn hC (81) 223 (by rw [q142_10]; decide) (by rw [q142_10]; decide) (by rw [q142_10]; decide +kernel) (by decide) dX9_looks_142 ?_
            refine z_iload hC 5 rfl dX9_looks_223 ?_
            refine z_iconst hC (-1 : Int32) (by decide) dX9_looks_225 ?_
            refine z_icmp_ne hC 233 (by decide) dX9_looks_226 (fun q226_11 => ?_) (fun q226_11 => ?_)
            · replace h := z_f q226_11 h
              refine z_iload hC 5 rfl dX9_looks_233 ?_
              refine z_aload_n hC 1 rfl rfl dX9_looks_235 ?_
              refine gX9_7 hC kf_X9_23 dX9_looks_236 ?_
              refine z_iload_n hC 4 rfl rfl dX9_looks_239 ?_
              refine z_g h (fun g240_12 h => ?_)
              refine z_iald hC 66 ⟨by decide, by decide⟩ (zS_66 _ _ _) g240_12 (gi σ 66 v3.toNatClampNeg) rfl dX9_looks_240 ?_
              refine z_imul hC dX9_looks_241 ?_
              refine z_nmI h (fun x242_13 h => ?_)
              refine z_istore hC [(6, .int x242_13), (0, .ref (zAd T (61))), (1, .int v1), (2, .int v2), (3, .int v3), (4, .int v4), (5, .int v5)] (by rw [hN]; decide) rfl dX9_looks_242 ?_
              refine z_goto hC 311 (by decide) dX9_looks_244 ?_
              refine z_sub [(0, .ref (zAd T (61))), (1, .int v1), (2, .int v2), (3, .int v3), (6, .int x242_13)] [1, 2, 3, 4, 0] rfl ?_
              exact (wX9_looks_311 hC hN hQ K9 hK9 ) _ _ _ _ _ h
            · replace h := z_t q226_11 h
              refine z_iconst hC (-1 : Int32) (by decide) dX9_looks_229 ?_
              refine z_goto hC 242 (by decide) dX9_looks_230 ?_
              refine z_istore hC [(6, .int (-1 : Int32)), (0, .ref (zAd T (61))), (1, .int v1), (2, .int v2), (3, .int v3), (4, .int v4), (5, .int v5)] (by rw [hN]; decide) rfl dX9_looks_242 ?_
              refine z_goto hC 311 (by decide) dX9_looks_244 ?_
              refine z_sub [(0, .ref (zAd T (61))), (1, .int v1), (2, .int v2), (3, .int v3), (6, .int (-1 : Int32))] [1, 2, 3, 4, 0] rfl ?_
              exact (wX9_looks_311 hC hN hQ K9 hK9 ) _ _ _ _ _ h
          ·
            refine z_ite h (fun q142_14 h => ?_) (fun q142_14 h => ?_)
            · refine z_tabIn hC (105) 247 (by rw [q142_14]; decide) (by rw [q142_14]; decide) (by rw [q142_14]; decide +kernel) (by decide) dX9_looks_142 ?_
              refine z_iload hC 5 rfl dX9_looks_247 ?_
              refine z_iconst hC (-1 : Int32) (by decide) dX9_looks_249 ?_
              refine z_icmp_eq hC 259 (by decide) dX9_looks_250 (fun q250_15 => ?_) (fun q250_15 => ?_)
              · replace h := z_t q250_15 h
                refine z_iconst hC (-1 : Int32) (by decide) dX9_looks_259 ?_
                refine z_goto hC 277 (by decide) dX9_looks_260 ?_
                refine z_istore hC [(6, .int (-1 : Int32)), (0, .ref (zAd T (61))), (1, .int v1), (2, .int v2), (3, .int v3), (4, .int v4), (5, .int v5)] (by rw [hN]; decide) rfl dX9_looks_277 ?_
                refine z_goto hC 311 (by decide) dX9_looks_279 ?_
                refine z_sub [(0, .ref (zAd T (61))), (1, .int v1), (2, .int v2), (3, .int v3), (6, .int (-1 : Int32))] [1, 2, 3, 4, 0] rfl ?_
                exact (wX9_looks_311 hC hN hQ K9 hK9 ) _ _ _ _ _ h
              · replace h := z_f q250_15 h
                refine z_iload hC 6 rfl dX9_looks_253 ?_
                refine z_iconst hC (-1 : Int32) (by decide) dX9_looks_255 ?_
                refine z_icmp_ne hC 263 (by decide) dX9_looks_256 (fun q256_16 => ?_) (fun q256_16 => ?_)
                · replace h := z_f q256_16 h
                  refine z_iload hC 5 rfl dX9_looks_263 ?_
                  refine z_iload hC 6 rfl dX9_looks_265 ?_
                  refine z_icmp_le hC 275 (by decide) dX9_looks_267 (fun q267_17 => ?_) (fun q267_17 => ?_)
                  · replace h := z_t q267_17 h
                    refine z_iload hC 6 rfl dX9_looks_275 ?_
                    refine z_istore hC [(6, .int v5), (0, .ref (zAd T (61))), (1, .int v1), (2, .int v2), (3, .int v3), (4, .int v4), (5, .int v5)] (by rw [hN]; decide) rfl dX9_looks_277 ?_
                    refine z_goto hC 311 (by decide) dX9_looks_279 ?_
                    refine z_sub [(0, .ref (zAd T (61))), (1, .int v1), (2, .int v2), (3, .int v3), (6, .int v5)] [1, 2, 3, 4, 0] rfl ?_
                    exact (wX9_looks_311 hC hN hQ K9 hK9 ) _ _ _ _ _ h
                  · replace h := z_f q267_17 h
                    refine z_iload hC 5 rfl dX9_looks_270 ?_
                    refine z_goto hC 277 (by decide) dX9_looks_272 ?_
                    refine z_istore hC [(6, .int v4), (0, .ref (zAd T (61))), (1, .int v1), (2, .int v2), (3, .int v3), (4, .int v4), (5, .int v5)] (by rw [hN]; decide) rfl dX9_looks_277 ?_
                    refine z_goto hC 311 (by decide) dX9_looks_279 ?_
                    refine z_sub [(0, .ref (zAd T (61))), (1, .int v1), (2, .int v2), (3, .int v3), (6, .int v4)] [1, 2, 3, 4, 0] rfl ?_
                    exact (wX9_looks_311 hC hN hQ K9 hK9 ) _ _ _ _ _ h
                · replace h := z_t q256_16 h
                  refine z_iconst hC (-1 : Int32) (by decide) dX9_looks_259 ?_
                  refine z_goto hC 277 (by decide) dX9_looks_260 ?_
                  refine z_istore hC [(6, .int (-1 : Int32)), (0, .ref (zAd T (61))), (1, .int v1), (2, .int v2), (3, .int v3), (4, .int v4), (5, .int v5)] (by rw [hN]; decide) rfl dX9_looks_277 ?_
                  refine z_goto hC 311 (by decide) dX9_looks_279 ?_
                  refine z_sub [(0, .ref (zAd T (61))), (1, .int v1), (2, .int v2), (3, .int v3), (6, .int (-1 : Int32))] [1, 2, 3, 4, 0] rfl ?_
                  exact (wX9_looks_311 hC hN hQ K9 hK9 ) _ _ _ _ _ h
            ·
              refine z_ite h (fun q142_18 h => ?_) (fun q142_18 h => ?_)
              · refine z_tabIn hC (105) 247 (by rw [q142_18]; decide) (by rw [q142_18]; decide) (by rw [q142_18]; decide +kernel) (by decide) dX9_looks_142 ?_
                refine z_iload hC 5 rfl dX9_looks_247 ?_
                refine z_iconst hC (-1 : Int32) (by decide) dX9_looks_249 ?_
                refine z_icmp_eq hC 259 (by decide) dX9_looks_250 (fun q250_19 => ?_) (fun q250_19 => ?_)
                · replace h := z_t q250_19 h
                  refine z_iconst hC (-1 : Int32) (by decide) dX9_looks_259 ?_
                  refine z_goto hC 277 (by decide) dX9_looks_260 ?_
                  refine z_istore hC [(6, .int (-1 : Int32)), (0, .ref (zAd T (61))), (1, .int v1), (2, .int v2), (3, .int v3), (4, .int v4), (5, .int v5)] (by rw [hN]; decide) rfl dX9_looks_277 ?_
                  refine z_goto hC 311 (by decide) dX9_looks_279 ?_
                  refine z_sub [(0, .ref (zAd T (61))), (1, .int v1), (2, .int v2), (3, .int v3), (6, .int (-1 : Int32))] [1, 2, 3, 4, 0] rfl ?_
                  exact (wX9_looks_311 hC hN hQ K9 hK9 ) _ _ _ _ _ h
                · replace h := z_f q250_19 h
                  refine z_iload hC 6 rfl dX9_looks_253 ?_
                  refine z_iconst hC (-1 : Int32) (by decide) dX9_looks_255 ?_
                  refine z_icmp_ne hC 263 (by decide) dX9_looks_256 (fun q256_20 => ?_) (fun q256_20 => ?_)
                  · replace h := z_f q256_20 h
                    refine z_iload hC 5 rfl dX9_looks_263 ?_
                    refine z_iload hC 6 rfl dX9_looks_265 ?_
                    refine z_icmp_le hC 275 (by decide) dX9_looks_267 (fun q267_21 => ?_) (fun q267_21 => ?_)
                    · replace h := z_t q267_21 h
                      refine z_iload hC 6 rfl dX9_looks_275 ?_
                      refine z_istore hC [(6, .int v5), (0, .ref (zAd T (61))), (1, .int v1), (2, .int v2), (3, .int v3), (4, .int v4), (5, .int v5)] (by rw [hN]; decide) rfl dX9_looks_277 ?_
                      refine z_goto hC 311 (by decide) dX9_looks_279 ?_
                      refine z_sub [(0, .ref (zAd T (61))), (1, .int v1), (2, .int v2), (3, .int v3), (6, .int v5)] [1, 2, 3, 4, 0] rfl ?_
                      exact (wX9_looks_311 hC hN hQ K9 hK9 ) _ _ _ _ _ h
                    · replace h := z_f q267_21 h
                      refine z_iload hC 5 rfl dX9_looks_270 ?_
                      refine z_goto hC 277 (by decide) dX9_looks_272 ?_
                      refine z_istore hC [(6, .int v4), (0, .ref (zAd T (61))), (1, .int v1), (2, .int v2), (3, .int v3), (4, .int v4), (5, .int v5)] (by rw [hN]; decide) rfl dX9_looks_277 ?_
                      refine z_goto hC 311 (by decide) dX9_looks_279 ?_
                      refine z_sub [(0, .ref (zAd T (61))), (1, .int v1), (2, .int v2), (3, .int v3), (6, .int v4)] [1, 2, 3, 4, 0] rfl ?_
                      exact (wX9_looks_311 hC hN hQ K9 hK9 ) _ _ _ _ _ h
                  · replace h := z_t q256_20 h
                    refine z_iconst hC (-1 : Int32) (by decide) dX9_looks_259 ?_
                    refine z_goto hC 277 (by decide) dX9_looks_260 ?_
                    refine z_istore hC [(6, .int (-1 : Int32)), (0, .ref (zAd T (61))), (1, .int v1), (2, .int v2), (3, .int v3), (4, .int v4), (5, .int v5)] (by rw [hN]; decide) rfl dX9_looks_277 ?_
                    refine z_goto hC 311 (by decide) dX9_looks_279 ?_
                    refine z_sub [(0, .ref (zAd T (61))), (1, .int v1), (2, .int v2), (3, .int v3), (6, .int (-1 : Int32))] [1, 2, 3, 4, 0] rfl ?_
                    exact (wX9_looks_311 hC hN hQ K9 hK9 ) _ _ _ _ _ h
              ·
                refine z_ite h (fun q142_22 h => ?_) (fun q142_22 h => ?_)
                · refine z_tabIn hC (140) 282 (by rw [q142_22]; decide) (by rw [q142_22]; decide) (by rw [q142_22]; decide +kernel) (by decide) dX9_looks_142 ?_
                  refine z_iload hC 5 rfl dX9_looks_282 ?_
                  refine z_iconst hC (-1 : Int32) (by decide) dX9_looks_284 ?_
                  refine z_icmp_eq hC 294 (by decide) dX9_looks_285 (fun q285_23 => ?_) (fun q285_23 => ?_)
                  · replace h := z_t q285_23 h
                    refine z_iconst hC (-1 : Int32) (by decide) dX9_looks_294 ?_
                    refine z_goto hC 303 (by decide) dX9_looks_295 ?_
                    refine z_istore hC [(6, .int (-1 : Int32)), (0, .ref (zAd T (61))), (1, .int v1), (2, .int v2), (3, .int v3), (4, .int v4), (5, .int v5)] (by rw [hN]; decide) rfl dX9_looks_303 ?_
                    refine z_goto hC 311 (by decide) dX9_looks_305 ?_
                    refine z_sub [(0, .ref (zAd T (61))), (1, .int v1), (2, .int v2), (3, .int v3), (6, .int (-1 : Int32))] [1, 2, 3, 4, 0] rfl ?_
                    exact (wX9_looks_311 hC hN hQ K9 hK9 ) _ _ _ _ _ h
                  · replace h := z_f q285_23 h
                    refine z_iload hC 6 rfl dX9_looks_288 ?_
                    refine z_iconst hC (-1 : Int32) (by decide) dX9_looks_290 ?_
                    refine z_icmp_ne hC 298 (by decide) dX9_looks_291 (fun q291_24 => ?_) (fun q291_24 => ?_)
                    · replace h := z_f q291_24 h
                      refine z_iload hC 5 rfl dX9_looks_298 ?_
                      refine z_iload hC 6 rfl dX9_looks_300 ?_
                      refine z_iadd hC dX9_looks_302 ?_
                      refine z_nmI h (fun x303_25 h => ?_)
                      refine z_istore hC [(6, .int x303_25), (0, .ref (zAd T (61))), (1, .int v1), (2, .int v2), (3, .int v3), (4, .int v4), (5, .int v5)] (by rw [hN]; decide) rfl dX9_looks_303 ?_
                      refine z_goto hC 311 (by decide) dX9_looks_305 ?_
                      refine z_sub [(0, .ref (zAd T (61))), (1, .int v1), (2, .int v2), (3, .int v3), (6, .int x303_25)] [1, 2, 3, 4, 0] rfl ?_
                      exact (wX9_looks_311 hC hN hQ K9 hK9 ) _ _ _ _ _ h
                    · replace h := z_t q291_24 h
                      refine z_iconst hC (-1 : Int32) (by decide) dX9_looks_294 ?_
                      refine z_goto hC 303 (by decide) dX9_looks_295 ?_
                      refine z_istore hC [(6, .int (-1 : Int32)), (0, .ref (zAd T (61))), (1, .int v1), (2, .int v2), (3, .int v3), (4, .int v4), (5, .int v5)] (by rw [hN]; decide) rfl dX9_looks_303 ?_
                      refine z_goto hC 311 (by decide) dX9_looks_305 ?_
                      refine z_sub [(0, .ref (zAd T (61))), (1, .int v1), (2, .int v2), (3, .int v3), (6, .int (-1 : Int32))] [1, 2, 3, 4, 0] rfl ?_
                      exact (wX9_looks_311 hC hN hQ K9 hK9 ) _ _ _ _ _ h
                ·
                  refine z_tabD hC 8 308 (by decide) (fun i hi => by
                      have hi2 : i = 0 ∨ i = 1 ∨ i = 2 ∨ i = 3 ∨ i = 4 ∨ i = 5 ∨ i = 6 ∨ i = 7 := by omega
                      rcases hi2 with rfl | rfl | rfl | rfl | rfl | rfl | rfl | rfl
                      · exact Or.inr (fun e => q142_3 (e.symm.trans (by decide)))
                      · exact Or.inr (fun e => q142_4 (e.symm.trans (by decide)))
                      · exact Or.inr (fun e => q142_5 (e.symm.trans (by decide)))
                      · exact Or.inr (fun e => q142_9 (e.symm.trans (by decide)))
                      · exact Or.inr (fun e => q142_10 (e.symm.trans (by decide)))
                      · exact Or.inr (fun e => q142_14 (e.symm.trans (by decide)))
                      · exact Or.inr (fun e => q142_18 (e.symm.trans (by decide)))
                      · exact Or.inr (fun e => q142_22 (e.symm.trans (by decide)))) (by decide) dX9_looks_142 ?_
                  refine z_iconst hC (-1 : Int32) (by decide) dX9_looks_308 ?_
                  refine z_istore hC [(6, .int (-1 : Int32)), (0, .ref (zAd T (61))), (1, .int v1), (2, .int v2), (3, .int v3), (4, .int v4), (5, .int v5)] (by rw [hN]; decide) rfl dX9_looks_309 ?_
                  refine z_sub [(0, .ref (zAd T (61))), (1, .int v1), (2, .int v2), (3, .int v3), (6, .int (-1 : Int32))] [1, 2, 3, 4, 0] rfl ?_
                  exact (wX9_looks_311 hC hN hQ K9 hK9 ) _ _ _ _ _ h
set_option maxRecDepth 100000 in
set_option maxHeartbeats 4000000 in
theorem wX9_looks_89 {T : zX} (hC : zOk T cX9_looks RX9 0 0 61 85) (hN : zNL T = 7) {σ' : zSt} (hQ : zRes T none (none) σ') (K9 : Int32 → Int32 → zSt → Option zSt) (hK9 : ∀ (v1 : Int32) (v2 : Int32) (τ : zSt), K9 v1 v2 τ = some σ' → Z T τ 9 [(0, .ref (zAd T (61))), (1, .int v1), (2, .int v2)] []) (v1 : Int32) (v2 : Int32) (v3 : Int32) (v4 : Int32) (t0 : Int32)  (σ : zSt) (h : fX9_looks_89 K9 v1 v2 v3 v4 t0 σ = some σ') : Z T σ 89 [(0, .ref (zAd T (61))), (1, .int v1), (2, .int v2), (3, .int v3), (4, .int v4)] [.int t0] := by
  unfold fX9_looks_89 at h
  refine z_istore hC [(5, .int t0), (0, .ref (zAd T (61))), (1, .int v1), (2, .int v2), (3, .int v3), (4, .int v4)] (by rw [hN]; decide) rfl dX9_looks_89 ?_
  refine z_aload_n hC 1 rfl rfl dX9_looks_91 ?_
  refine gX9_5 hC kf_X9_17 dX9_looks_92 ?_
  refine z_iload_n hC 4 rfl rfl dX9_looks_95 ?_
  refine z_g h (fun g96_1 h => ?_)
  refine z_iald hC 64 ⟨by decide, by decide⟩ (zS_64 _ _ _) g96_1 (gi σ 64 v3.toNatClampNeg) rfl dX9_looks_96 ?_
  refine z_bipush hC (14 : Int32) (by decide) dX9_looks_97 ?_
  refine z_icmp_ge hC 126 (by decide) dX9_looks_99 (fun q99_2 => ?_) (fun q99_2 => ?_)
  · replace h := z_t q99_2 h
    refine z_aload_n hC 1 rfl rfl dX9_looks_126 ?_
    refine gX9_16 hC kf_X9_33 dX9_looks_127 ?_
    refine z_iload_n hC 2 rfl rfl dX9_looks_130 ?_
    refine z_iconst hC (0 : Int32) (by decide) dX9_looks_131 ?_
    refine z_g h (fun g132_3 h => ?_)
    refine z_iast hC 69 ⟨by decide, by decide⟩ (zS_69 _) g132_3 dX9_looks_132 ?_
    refine z_sub [(0, .ref (zAd T (61))), (1, .int v1), (2, .int v2), (3, .int v3), (4, .int v4), (5, .int t0)] [1, 2, 3, 4, 5, 0] rfl ?_
    exact (wX9_looks_133 hC hN hQ K9 hK9 ) _ _ _ _ _ _ h
  · replace h := z_f q99_2 h
    refine z_aload_n hC 1 rfl rfl dX9_looks_102 ?_
    refine gX9_5 hC kf_X9_17 dX9_looks_103 ?_
    refine z_iload_n hC 4 rfl rfl dX9_looks_106 ?_
    refine z_g h (fun g107_4 h => ?_)
    refine z_iald hC 64 ⟨by decide, by decide⟩ (zS_64 _ _ _) g107_4 (gi σ 64 v3.toNatClampNeg) rfl dX9_looks_107 ?_
    refine z_iconst hC (2 : Int32) (by decide) dX9_looks_108 ?_
    refine z_icmp_ne hC 133 (by decide) dX9_looks_109 (fun q109_5 => ?_) (fun q109_5 => ?_)
    · replace h := z_f q109_5 h
      refine z_sub [(0, .ref (zAd T (61))), (1, .int v1), (2, .int v2), (3, .int v3), (4, .int v4), (5, .int t0)] [1, 2, 3, 4, 5, 0] rfl ?_
      exact (wX9_looks_133 hC hN hQ K9 hK9 ) _ _ _ _ _ _ h
    · replace h := z_t q109_5 h
      refine z_aload_n hC 1 rfl rfl dX9_looks_112 ?_
      refine gX9_16 hC kf_X9_33 dX9_looks_113 ?_
      refine z_aload_n hC 1 rfl rfl dX9_looks_116 ?_
      refine gX9_6 hC kf_X9_20 dX9_looks_117 ?_
      refine z_iload_n hC 4 rfl rfl dX9_looks_120 ?_
      refine z_g h (fun g121_6 h => ?_)
      refine z_iald hC 65 ⟨by decide, by decide⟩ (zS_65 _ _ _) g121_6 (gi σ 65 v3.toNatClampNeg) rfl dX9_looks_121 ?_
      refine z_g h (fun g122_7 h => ?_)
      refine z_iald hC 69 ⟨by decide, by decide⟩ (zS_69 _ _ _) g122_7 (gi σ 69 (gi σ 65 v3.toNatClampNeg).toNatClampNeg) rfl dX9_looks_122 ?_
      refine z_if_ne hC 133 (by decide) dX9_looks_123 (fun q123_8 => ?_) (fun q123_8 => ?_)
      · replace h := z_f q123_8 h
        refine z_sub [(0, .ref (zAd T (61))), (1, .int v1), (2, .int v2), (3, .int v3), (4, .int v4), (5, .int t0)] [1, 2, 3, 4, 5, 0] rfl ?_
        exact (wX9_looks_133 hC hN hQ K9 hK9 ) _ _ _ _ _ _ h
      · replace h := z_t q123_8 h
        refine z_aload_n hC 1 rfl rfl dX9_looks_126 ?_
        refine gX9_16 hC kf_X9_33 dX9_looks_127 ?_
        refine z_iload_n hC 2 rfl rfl dX9_looks_130 ?_
        refine z_iconst hC (0 : Int32) (by decide) dX9_looks_131 ?_
        refine z_g h (fun g132_9 h => ?_)
        refine z_iast hC 69 ⟨by decide, by decide⟩ (zS_69 _) g132_9 dX9_looks_132 ?_
        refine z_sub [(0, .ref (zAd T (61))), (1, .int v1), (2, .int v2), (3, .int v3), (4, .int v4), (5, .int t0)] [1, 2, 3, 4, 5, 0] rfl ?_
        exact (wX9_looks_133 hC hN hQ K9 hK9 ) _ _ _ _ _ _ h
set_option maxRecDepth 100000 in
set_option maxHeartbeats 4000000 in
theorem wX9_looks_9 {T : zX} (hC : zOk T cX9_looks RX9 0 0 61 85) (hN : zNL T = 7) {σ' : zSt} (hQ : zRes T none (none) σ') (K9 : Int32 → Int32 → zSt → Option zSt) (hK9 : ∀ (v1 : Int32) (v2 : Int32) (τ : zSt), K9 v1 v2 τ = some σ' → Z T τ 9 [(0, .ref (zAd T (61))), (1, .int v1), (2, .int v2)] []) (v1 : Int32) (v2 : Int32)  (σ : zSt) (h : fX9_looks_9 K9 v1 v2 σ = some σ') : Z T σ 9 [(0, .ref (zAd T (61))), (1, .int v1), (2, .int v2)] [] := by
  unfold fX9_looks_9 at h
  refine z_iload_n hC 2 rfl rfl dX9_looks_9 ?_
  refine z_aload_n hC 0 rfl rfl dX9_looks_10 ?_
  refine gX9_4 hC kf_X9_13 dX9_looks_11 ?_
  refine z_iload_n hC 1 rfl rfl dX9_looks_14 ?_
  refine z_g h (fun g15_1 h => ?_)
  refine z_iald hC 63 ⟨by decide, by decide⟩ (zS_63 _ _ _) g15_1 (gi σ 63 v1.toNatClampNeg) rfl dX9_looks_15 ?_
  refine z_icmp_ge hC 339 (by decide) dX9_looks_16 (fun q16_2 => ?_) (fun q16_2 => ?_)
  · replace h := z_t q16_2 h
    refine z_aload_n hC 0 rfl rfl dX9_looks_339 ?_
    refine gX9_17 hC kf_X9_36 dX9_looks_340 ?_
    refine z_iload_n hC 1 rfl rfl dX9_looks_343 ?_
    refine z_aload_n hC 0 rfl rfl dX9_looks_344 ?_
    refine gX9_18 hC kf_X9_39 dX9_looks_345 ?_
    refine z_bipush hC (60 : Int32) (by decide) dX9_looks_348 ?_
    refine z_iload_n hC 1 rfl rfl dX9_looks_350 ?_
    refine z_imul hC dX9_looks_351 ?_
    refine z_aload_n hC 0 rfl rfl dX9_looks_352 ?_
    refine gX9_4 hC kf_X9_13 dX9_looks_353 ?_
    refine z_iload_n hC 1 rfl rfl dX9_looks_356 ?_
    refine z_g h (fun g357_3 h => ?_)
    refine z_iald hC 63 ⟨by decide, by decide⟩ (zS_63 _ _ _) g357_3 (gi σ 63 v1.toNatClampNeg) rfl dX9_looks_357 ?_
    refine z_iadd hC dX9_looks_358 ?_
    refine z_iconst hC (1 : Int32) (by decide) dX9_looks_359 ?_
    refine z_isub hC dX9_looks_360 ?_
    refine z_g h (fun g361_4 h => ?_)
    refine z_iald hC 71 ⟨by decide, by decide⟩ (zS_71 _ _ _) g361_4 (gi σ 71 ((((60 : Int32) * v1) + (gi σ 63 v1.toNatClampNeg)) - (1 : Int32)).toNatClampNeg) rfl dX9_looks_361 ?_
    refine z_nmI h (fun x361_5 h => ?_)
    refine z_g h (fun g362_6 h => ?_)
    refine z_iast hC 70 ⟨by decide, by decide⟩ (zS_70 _) g362_6 dX9_looks_362 ?_
    obtain rfl := z_so h
    exact z_vret hC hQ dX9_looks_363
  · replace h := z_f q16_2 h
    refine z_bipush hC (60 : Int32) (by decide) dX9_looks_19 ?_
    refine z_iload_n hC 1 rfl rfl dX9_looks_21 ?_
    refine z_imul hC dX9_looks_22 ?_
    refine z_iload_n hC 2 rfl rfl dX9_looks_23 ?_
    refine z_iadd hC dX9_looks_24 ?_
    refine z_nmI h (fun x25_7 h => ?_)
    refine z_istore_n hC [(3, .int x25_7), (0, .ref (zAd T (61))), (1, .int v1), (2, .int v2)] rfl (by rw [hN]; decide) rfl dX9_looks_25 ?_
    refine z_aload_n hC 1 rfl rfl dX9_looks_26 ?_
    refine gX9_5 hC kf_X9_17 dX9_looks_27 ?_
    refine z_iload_n hC 0 rfl rfl dX9_looks_30 ?_
    refine z_g h (fun g31_8 h => ?_)
    refine z_iald hC 64 ⟨by decide, by decide⟩ (zS_64 _ _ _) g31_8 (gi σ 64 x25_7.toNatClampNeg) rfl dX9_looks_31 ?_
    refine z_iconst hC (2 : Int32) (by decide) dX9_looks_32 ?_
    refine z_icmp_le hC 50 (by decide) dX9_looks_33 (fun q33_9 => ?_) (fun q33_9 => ?_)
    · replace h := z_t q33_9 h
      refine z_iconst hC (0 : Int32) (by decide) dX9_looks_50 ?_
      refine z_istore hC [(4, .int (0 : Int32)), (3, .int x25_7), (0, .ref (zAd T (61))), (1, .int v1), (2, .int v2)] (by rw [hN]; decide) rfl dX9_looks_51 ?_
      refine z_aload_n hC 2 rfl rfl dX9_looks_53 ?_
      refine gX9_5 hC kf_X9_17 dX9_looks_54 ?_
      refine z_iload_n hC 1 rfl rfl dX9_looks_57 ?_
      refine z_g h (fun g58_10 h => ?_)
      refine z_iald hC 64 ⟨by decide, by decide⟩ (zS_64 _ _ _) g58_10 (gi σ 64 x25_7.toNatClampNeg) rfl dX9_looks_58 ?_
      refine z_iconst hC (5 : Int32) (by decide) dX9_looks_59 ?_
      refine z_icmp_lt hC 88 (by decide) dX9_looks_60 (fun q60_11 => ?_) (fun q60_11 => ?_)
      · replace h := z_t q60_11 h
        refine z_iconst hC (0 : Int32) (by decide) dX9_looks_88 ?_
        refine z_sub [(0, .ref (zAd T (61))), (1, .int v1), (2, .int v2), (3, .int x25_7), (4, .int (0 : Int32))] [2, 3, 4, 1, 0] rfl ?_
        exact (wX9_looks_89 hC hN hQ K9 hK9 ) _ _ _ _ _ _ h
      · replace h := z_f q60_11 h
        refine z_aload_n hC 2 rfl rfl dX9_looks_63 ?_
        refine gX9_5 hC kf_X9_17 dX9_looks_64 ?_
        refine z_iload_n hC 1 rfl rfl dX9_looks_67 ?_
        refine z_g h (fun g68_12 h => ?_)
        refine z_iald hC 64 ⟨by decide, by decide⟩ (zS_64 _ _ _) g68_12 (gi σ 64 x25_7.toNatClampNeg) rfl dX9_looks_68 ?_
        refine z_bipush hC (8 : Int32) (by decide) dX9_looks_69 ?_
        refine z_icmp_gt hC 88 (by decide) dX9_looks_71 (fun q71_13 => ?_) (fun q71_13 => ?_)
        · replace h := z_t q71_13 h
          refine z_iconst hC (0 : Int32) (by decide) dX9_looks_88 ?_
          refine z_sub [(0, .ref (zAd T (61))), (1, .int v1), (2, .int v2), (3, .int x25_7), (4, .int (0 : Int32))] [2, 3, 4, 1, 0] rfl ?_
          exact (wX9_looks_89 hC hN hQ K9 hK9 ) _ _ _ _ _ _ h
        · replace h := z_f q71_13 h
          refine z_aload_n hC 2 rfl rfl dX9_looks_74 ?_
          refine gX9_18 hC kf_X9_39 dX9_looks_75 ?_
          refine z_aload_n hC 2 rfl rfl dX9_looks_78 ?_
          refine gX9_7 hC kf_X9_23 dX9_looks_79 ?_
          refine z_iload_n hC 1 rfl rfl dX9_looks_82 ?_
          refine z_g h (fun g83_14 h => ?_)
          refine z_iald hC 66 ⟨by decide, by decide⟩ (zS_66 _ _ _) g83_14 (gi σ 66 x25_7.toNatClampNeg) rfl dX9_looks_83 ?_
          refine z_g h (fun g84_15 h => ?_)
          refine z_iald hC 71 ⟨by decide, by decide⟩ (zS_71 _ _ _) g84_15 (gi σ 71 (gi σ 66 x25_7.toNatClampNeg).toNatClampNeg) rfl dX9_looks_84 ?_
          refine z_goto hC 89 (by decide) dX9_looks_85 ?_
          refine z_sub [(0, .ref (zAd T (61))), (1, .int v1), (2, .int v2), (3, .int x25_7), (4, .int (0 : Int32))] [2, 3, 4, 1, 0] rfl ?_
          exact (wX9_looks_89 hC hN hQ K9 hK9 ) _ _ _ _ _ _ h
    · replace h := z_f q33_9 h
      refine z_aload_n hC 1 rfl rfl dX9_looks_36 ?_
      refine gX9_18 hC kf_X9_39 dX9_looks_37 ?_
      refine z_aload_n hC 1 rfl rfl dX9_looks_40 ?_
      refine gX9_6 hC kf_X9_20 dX9_looks_41 ?_
      refine z_iload_n hC 0 rfl rfl dX9_looks_44 ?_
      refine z_g h (fun g45_16 h => ?_)
      refine z_iald hC 65 ⟨by decide, by decide⟩ (zS_65 _ _ _) g45_16 (gi σ 65 x25_7.toNatClampNeg) rfl dX9_looks_45 ?_
      refine z_g h (fun g46_17 h => ?_)
      refine z_iald hC 71 ⟨by decide, by decide⟩ (zS_71 _ _ _) g46_17 (gi σ 71 (gi σ 65 x25_7.toNatClampNeg).toNatClampNeg) rfl dX9_looks_46 ?_
      refine z_goto hC 51 (by decide) dX9_looks_47 ?_
      refine z_nmI h (fun x51_18 h => ?_)
      refine z_istore hC [(4, .int x51_18), (3, .int x25_7), (0, .ref (zAd T (61))), (1, .int v1), (2, .int v2)] (by rw [hN]; decide) rfl dX9_looks_51 ?_
      refine z_aload_n hC 2 rfl rfl dX9_looks_53 ?_
      refine gX9_5 hC kf_X9_17 dX9_looks_54 ?_
      refine z_iload_n hC 1 rfl rfl dX9_looks_57 ?_
      refine z_g h (fun g58_19 h => ?_)
      refine z_iald hC 64 ⟨by decide, by decide⟩ (zS_64 _ _ _) g58_19 (gi σ 64 x25_7.toNatClampNeg) rfl dX9_looks_58 ?_
      refine z_iconst hC (5 : Int32) (by decide) dX9_looks_59 ?_
      refine z_icmp_lt hC 88 (by decide) dX9_looks_60 (fun q60_20 => ?_) (fun q60_20 => ?_)
      · replace h := z_t q60_20 h
        refine z_iconst hC (0 : Int32) (by decide) dX9_looks_88 ?_
        refine z_sub [(0, .ref (zAd T (61))), (1, .int v1), (2, .int v2), (3, .int x25_7), (4, .int x51_18)] [2, 3, 4, 1, 0] rfl ?_
        exact (wX9_looks_89 hC hN hQ K9 hK9 ) _ _ _ _ _ _ h
      · replace h := z_f q60_20 h
        refine z_aload_n hC 2 rfl rfl dX9_looks_63 ?_
        refine gX9_5 hC kf_X9_17 dX9_looks_64 ?_
        refine z_iload_n hC 1 rfl rfl dX9_looks_67 ?_
        refine z_g h (fun g68_21 h => ?_)
        refine z_iald hC 64 ⟨by decide, by decide⟩ (zS_64 _ _ _) g68_21 (gi σ 64 x25_7.toNatClampNeg) rfl dX9_looks_68 ?_
        refine z_bipush hC (8 : Int32) (by decide) dX9_looks_69 ?_
        refine z_icmp_gt hC 88 (by decide) dX9_looks_71 (fun q71_22 => ?_) (fun q71_22 => ?_)
        · replace h := z_t q71_22 h
          refine z_iconst hC (0 : Int32) (by decide) dX9_looks_88 ?_
          refine z_sub [(0, .ref (zAd T (61))), (1, .int v1), (2, .int v2), (3, .int x25_7), (4, .int x51_18)] [2, 3, 4, 1, 0] rfl ?_
          exact (wX9_looks_89 hC hN hQ K9 hK9 ) _ _ _ _ _ _ h
        · replace h := z_f q71_22 h
          refine z_aload_n hC 2 rfl rfl dX9_looks_74 ?_
          refine gX9_18 hC kf_X9_39 dX9_looks_75 ?_
          refine z_aload_n hC 2 rfl rfl dX9_looks_78 ?_
          refine gX9_7 hC kf_X9_23 dX9_looks_79 ?_
          refine z_iload_n hC 1 rfl rfl dX9_looks_82 ?_
          refine z_g h (fun g83_23 h => ?_)
          refine z_iald hC 66 ⟨by decide, by decide⟩ (zS_66 _ _ _) g83_23 (gi σ 66 x25_7.toNatClampNeg) rfl dX9_looks_83 ?_
          refine z_g h (fun g84_24 h => ?_)
          refine z_iald hC 71 ⟨by decide, by decide⟩ (zS_71 _ _ _) g84_24 (gi σ 71 (gi σ 66 x25_7.toNatClampNeg).toNatClampNeg) rfl dX9_looks_84 ?_
          refine z_goto hC 89 (by decide) dX9_looks_85 ?_
          refine z_sub [(0, .ref (zAd T (61))), (1, .int v1), (2, .int v2), (3, .int x25_7), (4, .int x51_18)] [2, 3, 4, 1, 0] rfl ?_
          exact (wX9_looks_89 hC hN hQ K9 hK9 ) _ _ _ _ _ _ h
theorem wX9_looks_L9 {T : zX} (hC : zOk T cX9_looks RX9 0 0 61 85) (hN : zNL T = 7) {σ' : zSt} (hQ : zRes T none (none) σ') (n : Nat) : ∀ (v1 : Int32) (v2 : Int32) (σ : zSt), fX9_looks_L9 n v1 v2 σ = some σ' → Z T σ 9 [(0, .ref (zAd T (61))), (1, .int v1), (2, .int v2)] [] := by
  induction n with
  | zero => intro v1 v2 σ h; cases h
  | succ n ih => intro v1 v2 σ h; exact wX9_looks_9 hC hN hQ (fX9_looks_L9 n) ih v1 v2 σ h
set_option maxRecDepth 100000 in
set_option maxHeartbeats 4000000 in
theorem wX9_looks_0 {T : zX} (hC : zOk T cX9_looks RX9 0 0 61 85) (hN : zNL T = 7) {σ' : zSt} (hQ : zRes T none (none) σ') (a1 : Int32)  (σ : zSt) (h : fX9_looks_0 a1 σ = some σ') : Z T σ 0 [(0, .ref (zAd T (61))), (1, .int a1)] [] := by
  unfold fX9_looks_0 at h
  refine z_aload_n hC 0 rfl rfl dX9_looks_0 ?_
  refine gX9_16 hC kf_X9_33 dX9_looks_1 ?_
  refine z_iload_n hC 1 rfl rfl dX9_looks_4 ?_
  refine z_iconst hC (1 : Int32) (by decide) dX9_looks_5 ?_
  refine z_g h (fun g6_1 h => ?_)
  refine z_iast hC 69 ⟨by decide, by decide⟩ (zS_69 _) g6_1 dX9_looks_6 ?_
  refine z_iconst hC (0 : Int32) (by decide) dX9_looks_7 ?_
  refine z_istore_n hC [(2, .int (0 : Int32)), (0, .ref (zAd T (61))), (1, .int a1)] rfl (by rw [hN]; decide) rfl dX9_looks_8 ?_
  refine z_sub [(0, .ref (zAd T (61))), (1, .int a1), (2, .int (0 : Int32))] [1, 2, 0] rfl ?_
  exact (wX9_looks_L9 hC hN hQ zFU) _ _ _ h
set_option maxRecDepth 100000 in
theorem ctX9_looks {l : Launch} {G : zGt} {mk : zSt → zSt} (hm : zM mk 61 85) {a1 : Int32} {σ : zSt} {σ' : zSt} (h : fX9_looks a1 σ = some σ') : zMet l G mk yX9_looks cX9_looks 7 none 0 0 [.ref (gA G (61)), .int a1] σ (none) σ' := by
  unfold fX9_looks at h

  refine zMet.of (plainFor_of_name (by decide +kernel)) hm (Nat.le_of_ble_eq_true rfl) (fun T eL eG eM hN hC hQ => ?_)
  subst eL; subst eG; subst eM
  refine z_sub [(0, .ref (zAd T (61))), (1, .int a1)] [0, 1] rfl ?_
  exact wX9_looks_0 hC hN hQ _  _ h
noncomputable def fX9_about_12 (K12 : Int32 → Int32 → Int32 → zSt → Option (Int32 × zSt)) (v1 : Int32) (v2 : Int32) (v3 : Int32) (σ : zSt) : Option (Int32 × zSt) := 
    (if v1 < v3 then 
      (if v2 = 0 then zg (vp_in v1 8) <| some ((gi σ 63 v1.toNatClampNeg), σ)
      else 
        (if v2 = (1 : Int32) then zg (vp_in v1 8) <| some ((gi σ 69 v1.toNatClampNeg), σ)
        else 
          (if v2 = (2 : Int32) then zg (vp_in v1 8) <| some ((gi σ 70 v1.toNatClampNeg), σ)
          else some ((-1 : Int32), σ))))
    else bd1 (fX9_looks v3 σ) fun s19_8 => nm (v3 + (1 : Int32)) fun x22_9 => K12 v1 v2 x22_9 s19_8)
noncomputable def fX9_about_L12 : Nat → Int32 → Int32 → Int32 → zSt → Option (Int32 × zSt)
  | 0, _, _, _, _ => none
  | n + 1, v1, v2, v3, σ => fX9_about_12 (fX9_about_L12 n) v1 v2 v3 σ
noncomputable def fX9_about_0 (a1 : Int32) (a2 : Int32) (σ : zSt) : Option (Int32 × zSt) := 
    (if (fX9_has a1 σ) = 0 then some ((-1 : Int32), σ)
    else fX9_about_L12 zFU a1 a2 (0 : Int32) σ)
noncomputable def fX9_about (a1 : Int32) (a2 : Int32) (σ : zSt) : Option (Int32 × zSt) := fX9_about_0 a1 a2 σ
set_option maxRecDepth 100000 in
set_option maxHeartbeats 4000000 in
theorem wX9_about_12 {T : zX} (hC : zOk T cX9_about RX9 1 26 61 85) (hN : zNL T = 4) {r : Int32} {σ' : zSt} (hQ : zRes T (some .int) (some (.int r)) σ') (K12 : Int32 → Int32 → Int32 → zSt → Option (Int32 × zSt)) (hK12 : ∀ (v1 : Int32) (v2 : Int32) (v3 : Int32) (τ : zSt), K12 v1 v2 v3 τ = some (r, σ') → Z T τ 12 [(0, .ref (zAd T (61))), (1, .int v1), (2, .int v2), (3, .int v3)] []) (v1 : Int32) (v2 : Int32) (v3 : Int32)  (σ : zSt) (h : fX9_about_12 K12 v1 v2 v3 σ = some (r, σ')) : Z T σ 12 [(0, .ref (zAd T (61))), (1, .int v1), (2, .int v2), (3, .int v3)] [] := by
  unfold fX9_about_12 at h
  refine z_iload_n hC 3 rfl rfl dX9_about_12 ?_
  refine z_iload_n hC 1 rfl rfl dX9_about_13 ?_
  refine z_icmp_gt hC 28 (by decide) dX9_about_14 (fun q14_1 => ?_) (fun q14_1 => ?_)
  · replace h := z_t q14_1 h
    refine z_iload_n hC 2 rfl rfl dX9_about_28 ?_
    refine z_if_ne hC 41 (by decide) dX9_about_29 (fun q29_2 => ?_) (fun q29_2 => ?_)
    · replace h := z_f q29_2 h
      refine z_iload_n hC 2 rfl rfl dX9_about_41 ?_
      refine z_iconst hC (1 : Int32) (by decide) dX9_about_42 ?_
      refine z_icmp_ne hC 55 (by decide) dX9_about_43 (fun q43_3 => ?_) (fun q43_3 => ?_)
      · replace h := z_f q43_3 h
        refine z_iload_n hC 2 rfl rfl dX9_about_55 ?_
        refine z_iconst hC (2 : Int32) (by decide) dX9_about_56 ?_
        refine z_icmp_ne hC 69 (by decide) dX9_about_57 (fun q57_4 => ?_) (fun q57_4 => ?_)
        · replace h := z_f q57_4 h
          refine z_iconst hC (-1 : Int32) (by decide) dX9_about_69 ?_
          obtain ⟨rfl, rfl⟩ := z_pr h
          exact z_iret hC hQ dX9_about_70
        · replace h := z_t q57_4 h
          refine z_aload_n hC 0 rfl rfl dX9_about_60 ?_
          refine gX9_17 hC kf_X9_36 dX9_about_61 ?_
          refine z_iload_n hC 1 rfl rfl dX9_about_64 ?_
          refine z_g h (fun g65_5 h => ?_)
          refine z_iald hC 70 ⟨by decide, by decide⟩ (zS_70 _ _ _) g65_5 (gi σ 70 v1.toNatClampNeg) rfl dX9_about_65 ?_
          refine z_goto hC 70 (by decide) dX9_about_66 ?_
          obtain ⟨rfl, rfl⟩ := z_pr h
          exact z_iret hC hQ dX9_about_70
      · replace h := z_t q43_3 h
        refine z_aload_n hC 0 rfl rfl dX9_about_46 ?_
        refine gX9_16 hC kf_X9_33 dX9_about_47 ?_
        refine z_iload_n hC 1 rfl rfl dX9_about_50 ?_
        refine z_g h (fun g51_6 h => ?_)
        refine z_iald hC 69 ⟨by decide, by decide⟩ (zS_69 _ _ _) g51_6 (gi σ 69 v1.toNatClampNeg) rfl dX9_about_51 ?_
        refine z_goto hC 70 (by decide) dX9_about_52 ?_
        obtain ⟨rfl, rfl⟩ := z_pr h
        exact z_iret hC hQ dX9_about_70
    · replace h := z_t q29_2 h
      refine z_aload_n hC 0 rfl rfl dX9_about_32 ?_
      refine gX9_4 hC kf_X9_13 dX9_about_33 ?_
      refine z_iload_n hC 1 rfl rfl dX9_about_36 ?_
      refine z_g h (fun g37_7 h => ?_)
      refine z_iald hC 63 ⟨by decide, by decide⟩ (zS_63 _ _ _) g37_7 (gi σ 63 v1.toNatClampNeg) rfl dX9_about_37 ?_
      refine z_goto hC 70 (by decide) dX9_about_38 ?_
      obtain ⟨rfl, rfl⟩ := z_pr h
      exact z_iret hC hQ dX9_about_70
  · replace h := z_f q14_1 h
    refine z_aload_n hC 0 rfl rfl dX9_about_17 ?_
    refine z_iload_n hC 3 rfl rfl dX9_about_18 ?_
    refine z_b1 h (fun s19_8 e_s19_8 h => ?_)
    refine z_cV1v hC (ctX9_looks hC.hm e_s19_8) (rcX9 hC) kb_X9_looks km_X9_219 ⟨by decide, by decide⟩ (Nat.le_of_ble_eq_true rfl) dX9_about_19 ?_
    refine z_nmE h (fun x22_9 e_x22_9 h => ?_)
    refine z_iinc hC x22_9 [(3, .int x22_9), (0, .ref (zAd T (61))), (1, .int v1), (2, .int v2)] 3 rfl (by rw [e_x22_9]; rfl) (by rw [hN]; decide) rfl dX9_about_22 ?_
    refine z_goto hC 12 (by decide) dX9_about_25 ?_
    refine z_sub [(0, .ref (zAd T (61))), (1, .int v1), (2, .int v2), (3, .int x22_9)] [1, 2, 3, 0] rfl ?_
    exact hK12 _ _ _ _ h
theorem wX9_about_L12 {T : zX} (hC : zOk T cX9_about RX9 1 26 61 85) (hN : zNL T = 4) {r : Int32} {σ' : zSt} (hQ : zRes T (some .int) (some (.int r)) σ') (n : Nat) : ∀ (v1 : Int32) (v2 : Int32) (v3 : Int32) (σ : zSt), fX9_about_L12 n v1 v2 v3 σ = some (r, σ') → Z T σ 12 [(0, .ref (zAd T (61))), (1, .int v1), (2, .int v2), (3, .int v3)] [] := by
  induction n with
  | zero => intro v1 v2 v3 σ h; cases h
  | succ n ih => intro v1 v2 v3 σ h; exact wX9_about_12 hC hN hQ (fX9_about_L12 n) ih v1 v2 v3 σ h
set_option maxRecDepth 100000 in
set_option maxHeartbeats 4000000 in
theorem wX9_about_0 {T : zX} (hC : zOk T cX9_about RX9 1 26 61 85) (hN : zNL T = 4) {r : Int32} {σ' : zSt} (hQ : zRes T (some .int) (some (.int r)) σ') (a1 : Int32) (a2 : Int32)  (σ : zSt) (h : fX9_about_0 a1 a2 σ = some (r, σ')) : Z T σ 0 [(0, .ref (zAd T (61))), (1, .int a1), (2, .int a2)] [] := by
  unfold fX9_about_0 at h
  refine z_aload_n hC 0 rfl rfl dX9_about_0 ?_
  refine z_iload_n hC 1 rfl rfl dX9_about_1 ?_
  refine z_cV1r hC (ctX9_has hC.hm) (rcX9 hC) kb_X9_has km_X9_216 ⟨by decide, by decide⟩ (Nat.le_of_ble_eq_true rfl) dX9_about_2 ?_
  refine z_if_ne hC 10 (by decide) dX9_about_5 (fun q5_1 => ?_) (fun q5_1 => ?_)
  · replace h := z_f q5_1 h
    refine z_iconst hC (0 : Int32) (by decide) dX9_about_10 ?_
    refine z_istore_n hC [(3, .int (0 : Int32)), (0, .ref (zAd T (61))), (1, .int a1), (2, .int a2)] rfl (by rw [hN]; decide) rfl dX9_about_11 ?_
    refine z_sub [(0, .ref (zAd T (61))), (1, .int a1), (2, .int a2), (3, .int (0 : Int32))] [1, 2, 3, 0] rfl ?_
    exact (wX9_about_L12 hC hN hQ zFU) _ _ _ _ h
  · replace h := z_t q5_1 h
    refine z_iconst hC (-1 : Int32) (by decide) dX9_about_8 ?_
    obtain ⟨rfl, rfl⟩ := z_pr h
    exact z_iret hC hQ dX9_about_9
set_option maxRecDepth 100000 in
theorem ctX9_about {l : Launch} {G : zGt} {mk : zSt → zSt} (hm : zM mk 61 85) {a1 : Int32} {a2 : Int32} {σ : zSt} {r : Int32} {σ' : zSt} (h : fX9_about a1 a2 σ = some (r, σ')) : zMet l G mk yX9_about cX9_about 4 (some .int) 1 26 [.ref (gA G (61)), .int a1, .int a2] σ (some (.int r)) σ' := by
  unfold fX9_about at h

  refine zMet.of (plainFor_of_name (by decide +kernel)) hm (Nat.le_of_ble_eq_true rfl) (fun T eL eG eM hN hC hQ => ?_)
  subst eL; subst eG; subst eM
  refine z_sub [(0, .ref (zAd T (61))), (1, .int a1), (2, .int a2)] [0, 1, 2] rfl ?_
  exact wX9_about_0 hC hN hQ _ _  _ h
noncomputable def fX9_is_0 (a1 : Int64) (a3 : Int64) (σ : zSt) : Option zSt := 
    (if a1 < (-2147483648 : Int64) then some (si (sl (sl σ 61 19 a1) 61 20 a3) 61 21 (1 : Int32))
    else 
      (if (2147483647 : Int64) < a1 then some (si (sl (sl σ 61 19 a1) 61 20 a3) 61 21 (1 : Int32))
      else 
        (if a3 < (-2147483648 : Int64) then some (si (sl (sl σ 61 19 a1) 61 20 a3) 61 21 (1 : Int32))
        else 
          (if a3 ≤ (2147483647 : Int64) then some (si (sl (sl σ 61 19 a1) 61 20 a3) 61 21 (0 : Int32))
          else some (si (sl (sl σ 61 19 a1) 61 20 a3) 61 21 (1 : Int32))))))
noncomputable def fX9_is (a1 : Int64) (a3 : Int64) (σ : zSt) : Option zSt := fX9_is_0 a1 a3 σ
set_option maxRecDepth 100000 in
set_option maxHeartbeats 4000000 in
theorem wX9_is_0 {T : zX} (hC : zOk T cX9_is RX9 0 0 61 85) (hN : zNL T = 5) {σ' : zSt} (hQ : zRes T none (none) σ') (a1 : Int64) (a3 : Int64)  (σ : zSt) (h : fX9_is_0 a1 a3 σ = some σ') : Z T σ 0 [(0, .ref (zAd T (61))), (1, .long a1), (3, .long a3)] [] := by
  unfold fX9_is_0 at h
  refine z_aload_n hC 0 rfl rfl dX9_is_0 ?_
  refine z_lload_n hC 1 rfl rfl dX9_is_1 ?_
  refine pX9_19 hC kf_X9_222 dX9_is_2 ?_
  refine z_aload_n hC 0 rfl rfl dX9_is_5 ?_
  refine z_lload_n hC 2 rfl rfl dX9_is_6 ?_
  refine pX9_20 hC kf_X9_226 dX9_is_7 ?_
  refine z_aload_n hC 0 rfl rfl dX9_is_10 ?_
  refine z_lload_n hC 1 rfl rfl dX9_is_11 ?_
  refine z_ldc2 hC kc_X9_229 dX9_is_12 ?_
  refine z_cmp_lt hC 43 (by decide) dX9_is_15 dX9_is_16 (fun q15_1 => ?_) (fun q15_1 => ?_)
  · replace h := z_t q15_1 h
    refine z_iconst hC (1 : Int32) (by decide) dX9_is_43 ?_
    refine z_goto hC 48 (by decide) dX9_is_44 ?_
    refine pX9_21 hC kf_X9_233 (by decide) dX9_is_48 ?_
    obtain rfl := z_so h
    exact z_vret hC hQ dX9_is_51
  · replace h := z_f q15_1 h
    refine z_lload_n hC 1 rfl rfl dX9_is_19 ?_
    refine z_ldc2 hC kc_X9_231 dX9_is_20 ?_
    refine z_cmp_gt hC 43 (by decide) dX9_is_23 dX9_is_24 (fun q23_2 => ?_) (fun q23_2 => ?_)
    · replace h := z_t q23_2 h
      refine z_iconst hC (1 : Int32) (by decide) dX9_is_43 ?_
      refine z_goto hC 48 (by decide) dX9_is_44 ?_
      refine pX9_21 hC kf_X9_233 (by decide) dX9_is_48 ?_
      obtain rfl := z_so h
      exact z_vret hC hQ dX9_is_51
    · replace h := z_f q23_2 h
      refine z_lload_n hC 2 rfl rfl dX9_is_27 ?_
      refine z_ldc2 hC kc_X9_229 dX9_is_28 ?_
      refine z_cmp_lt hC 43 (by decide) dX9_is_31 dX9_is_32 (fun q31_3 => ?_) (fun q31_3 => ?_)
      · replace h := z_t q31_3 h
        refine z_iconst hC (1 : Int32) (by decide) dX9_is_43 ?_
        refine z_goto hC 48 (by decide) dX9_is_44 ?_
        refine pX9_21 hC kf_X9_233 (by decide) dX9_is_48 ?_
        obtain rfl := z_so h
        exact z_vret hC hQ dX9_is_51
      · replace h := z_f q31_3 h
        refine z_lload_n hC 2 rfl rfl dX9_is_35 ?_
        refine z_ldc2 hC kc_X9_231 dX9_is_36 ?_
        refine z_cmp_le hC 47 (by decide) dX9_is_39 dX9_is_40 (fun q39_4 => ?_) (fun q39_4 => ?_)
        · replace h := z_t q39_4 h
          refine z_iconst hC (0 : Int32) (by decide) dX9_is_47 ?_
          refine pX9_21 hC kf_X9_233 (by decide) dX9_is_48 ?_
          obtain rfl := z_so h
          exact z_vret hC hQ dX9_is_51
        · replace h := z_f q39_4 h
          refine z_iconst hC (1 : Int32) (by decide) dX9_is_43 ?_
          refine z_goto hC 48 (by decide) dX9_is_44 ?_
          refine pX9_21 hC kf_X9_233 (by decide) dX9_is_48 ?_
          obtain rfl := z_so h
          exact z_vret hC hQ dX9_is_51
set_option maxRecDepth 100000 in
theorem ctX9_is {l : Launch} {G : zGt} {mk : zSt → zSt} (hm : zM mk 61 85) {a1 : Int64} {a3 : Int64} {σ : zSt} {σ' : zSt} (h : fX9_is a1 a3 σ = some σ') : zMet l G mk yX9_is cX9_is 5 none 0 0 [.ref (gA G (61)), .long a1, .long a3] σ (none) σ' := by
  unfold fX9_is at h

  refine zMet.of (plainFor_of_name (by decide +kernel)) hm (Nat.le_of_ble_eq_true rfl) (fun T eL eG eM hN hC hQ => ?_)
  subst eL; subst eG; subst eM
  refine z_sub [(0, .ref (zAd T (61))), (1, .long a1), (3, .long a3)] [0, 1, 2] rfl ?_
  exact wX9_is_0 hC hN hQ _ _  _ h
noncomputable def fX9_isHole_0  (σ : zSt) : Option zSt := some (si σ 61 21 (1 : Int32))
noncomputable def fX9_isHole  (σ : zSt) : Option zSt := fX9_isHole_0  σ
set_option maxRecDepth 100000 in
set_option maxHeartbeats 4000000 in
theorem wX9_isHole_0 {T : zX} (hC : zOk T cX9_isHole RX9 0 0 61 85) (hN : zNL T = 1) {σ' : zSt} (hQ : zRes T none (none) σ')   (σ : zSt) (h : fX9_isHole_0  σ = some σ') : Z T σ 0 [(0, .ref (zAd T (61)))] [] := by
  unfold fX9_isHole_0 at h
  refine z_aload_n hC 0 rfl rfl dX9_isHole_0 ?_
  refine z_iconst hC (1 : Int32) (by decide) dX9_isHole_1 ?_
  refine pX9_21 hC kf_X9_233 (by decide) dX9_isHole_2 ?_
  obtain rfl := z_so h
  exact z_vret hC hQ dX9_isHole_5
set_option maxRecDepth 100000 in
theorem ctX9_isHole {l : Launch} {G : zGt} {mk : zSt → zSt} (hm : zM mk 61 85)  {σ : zSt} {σ' : zSt} (h : fX9_isHole  σ = some σ') : zMet l G mk yX9_isHole cX9_isHole 1 none 0 0 [.ref (gA G (61))] σ (none) σ' := by
  unfold fX9_isHole at h

  refine zMet.of (plainFor_of_name (by decide +kernel)) hm (Nat.le_of_ble_eq_true rfl) (fun T eL eG eM hN hC hQ => ?_)
  subst eL; subst eG; subst eM
  refine z_sub [(0, .ref (zAd T (61)))] [0] rfl ?_
  exact wX9_isHole_0 hC hN hQ   _ h
noncomputable def fX9_less_0 (a0 : Int64) (a2 : Int64) : Int64 := 
    (if a2 ≤ a0 then a2
    else a0)
noncomputable def fX9_less (a0 : Int64) (a2 : Int64) : Int64 := fX9_less_0 a0 a2
set_option maxRecDepth 100000 in
set_option maxHeartbeats 4000000 in
theorem wX9_less_0 {T : zX} {cl ch : Nat} {σ : zSt} (hC : zOk T cX9_less RX9 0 0 cl ch) (hN : zNL T = 4) {r : Int64} (hQ : zRes T (some .long) (some (.long r)) σ) (a0 : Int64) (a2 : Int64)  (h : fX9_less_0 a0 a2  = r) : Z T σ 0 [(0, .long a0), (2, .long a2)] [] := by
  unfold fX9_less_0 at h
  refine z_lload_n hC 0 rfl rfl dX9_less_0 ?_
  refine z_lload_n hC 1 rfl rfl dX9_less_1 ?_
  refine z_cmp_ge hC 10 (by decide) dX9_less_2 dX9_less_3 (fun q2_1 => ?_) (fun q2_1 => ?_)
  · replace h := z_t q2_1 h
    refine z_lload_n hC 1 rfl rfl dX9_less_10 ?_
    subst h
    exact z_lret hC hQ dX9_less_11
  · replace h := z_f q2_1 h
    refine z_lload_n hC 0 rfl rfl dX9_less_6 ?_
    refine z_goto hC 11 (by decide) dX9_less_7 ?_
    subst h
    exact z_lret hC hQ dX9_less_11
set_option maxRecDepth 100000 in
theorem ctX9_less {l : Launch} {G : zGt} {mk : zSt → zSt} {cl ch : Nat} (hm : zM mk cl ch) {a0 : Int64} {a2 : Int64} {σ : zSt} : zMet l G mk yX9_less cX9_less 4 (some .long) 0 0 [.long a0, .long a2] σ (some (.long (fX9_less a0 a2 ))) σ := by

  refine zMet.of (plainFor_of_name (by decide +kernel)) hm (Nat.le_of_ble_eq_true rfl) (fun T eL eG eM hN hC hQ => ?_)
  subst eL; subst eG; subst eM
  refine z_sub [(0, .long a0), (2, .long a2)] [0, 1] rfl ?_
  exact wX9_less_0 hC hN hQ _ _  rfl
noncomputable def fX9_more_0 (a0 : Int64) (a2 : Int64) : Int64 := 
    (if a0 ≤ a2 then a2
    else a0)
noncomputable def fX9_more (a0 : Int64) (a2 : Int64) : Int64 := fX9_more_0 a0 a2
set_option maxRecDepth 100000 in
set_option maxHeartbeats 4000000 in
theorem wX9_more_0 {T : zX} {cl ch : Nat} {σ : zSt} (hC : zOk T cX9_more RX9 0 0 cl ch) (hN : zNL T = 4) {r : Int64} (hQ : zRes T (some .long) (some (.long r)) σ) (a0 : Int64) (a2 : Int64)  (h : fX9_more_0 a0 a2  = r) : Z T σ 0 [(0, .long a0), (2, .long a2)] [] := by
  unfold fX9_more_0 at h
  refine z_lload_n hC 0 rfl rfl dX9_more_0 ?_
  refine z_lload_n hC 1 rfl rfl dX9_more_1 ?_
  refine z_cmp_le hC 10 (by decide) dX9_more_2 dX9_more_3 (fun q2_1 => ?_) (fun q2_1 => ?_)
  · replace h := z_t q2_1 h
    refine z_lload_n hC 1 rfl rfl dX9_more_10 ?_
    subst h
    exact z_lret hC hQ dX9_more_11
  · replace h := z_f q2_1 h
    refine z_lload_n hC 0 rfl rfl dX9_more_6 ?_
    refine z_goto hC 11 (by decide) dX9_more_7 ?_
    subst h
    exact z_lret hC hQ dX9_more_11
set_option maxRecDepth 100000 in
theorem ctX9_more {l : Launch} {G : zGt} {mk : zSt → zSt} {cl ch : Nat} (hm : zM mk cl ch) {a0 : Int64} {a2 : Int64} {σ : zSt} : zMet l G mk yX9_more cX9_more 4 (some .long) 0 0 [.long a0, .long a2] σ (some (.long (fX9_more a0 a2 ))) σ := by

  refine zMet.of (plainFor_of_name (by decide +kernel)) hm (Nat.le_of_ble_eq_true rfl) (fun T eL eG eM hN hC hQ => ?_)
  subst eL; subst eG; subst eM
  refine z_sub [(0, .long a0), (2, .long a2)] [0, 1] rfl ?_
  exact wX9_more_0 hC hN hQ _ _  rfl
noncomputable def fX9_times_0 (a1 : Int64) (a3 : Int64) (a5 : Int64) (a7 : Int64) (σ : zSt) : Option zSt := nm (fX9_less (fX9_less (a1 * a5) (a1 * a7)) (fX9_less (a3 * a5) (a3 * a7))) fun x22_1 => nm (fX9_more (fX9_more (a1 * a5) (a1 * a7)) (fX9_more (a3 * a5) (a3 * a7))) fun x49_2 => bd1 (fX9_down x22_1 (1048576 : Int64)) fun r60_3 => bd1 (fX9_up x49_2 (1048576 : Int64)) fun r68_4 => bd1 (fX9_is r60_3 r68_4 σ) fun s71_5 => some s71_5
noncomputable def fX9_times (a1 : Int64) (a3 : Int64) (a5 : Int64) (a7 : Int64) (σ : zSt) : Option zSt := fX9_times_0 a1 a3 a5 a7 σ
set_option maxRecDepth 100000 in
set_option maxHeartbeats 4000000 in
theorem wX9_times_0 {T : zX} (hC : zOk T cX9_times RX9 1 25 61 85) (hN : zNL T = 13) {σ' : zSt} (hQ : zRes T none (none) σ') (a1 : Int64) (a3 : Int64) (a5 : Int64) (a7 : Int64)  (σ : zSt) (h : fX9_times_0 a1 a3 a5 a7 σ = some σ') : Z T σ 0 [(0, .ref (zAd T (61))), (1, .long a1), (3, .long a3), (5, .long a5), (7, .long a7)] [] := by
  unfold fX9_times_0 at h
  refine z_lload_n hC 1 rfl rfl dX9_times_0 ?_
  refine z_lload hC 3 rfl dX9_times_1 ?_
  refine z_lmul hC dX9_times_3 ?_
  refine z_lload_n hC 1 rfl rfl dX9_times_4 ?_
  refine z_lload hC 4 rfl dX9_times_5 ?_
  refine z_lmul hC dX9_times_7 ?_
  refine z_cS2r hC (ctX9_less hC.hm) kb_X9_less km_X9_237 ⟨by decide, by decide⟩ (Nat.le_of_ble_eq_true rfl) dX9_times_8 ?_
  refine z_lload_n hC 2 rfl rfl dX9_times_11 ?_
  refine z_lload hC 3 rfl dX9_times_12 ?_
  refine z_lmul hC dX9_times_14 ?_
  refine z_lload_n hC 2 rfl rfl dX9_times_15 ?_
  refine z_lload hC 4 rfl dX9_times_16 ?_
  refine z_lmul hC dX9_times_18 ?_
  refine z_cS2r hC (ctX9_less hC.hm) kb_X9_less km_X9_237 ⟨by decide, by decide⟩ (Nat.le_of_ble_eq_true rfl) dX9_times_19 ?_
  refine z_cS2r hC (ctX9_less hC.hm) kb_X9_less km_X9_237 ⟨by decide, by decide⟩ (Nat.le_of_ble_eq_true rfl) dX9_times_22 ?_
  refine z_nmL h (fun x22_1 h => ?_)
  refine z_lstore hC [(9, .long x22_1), (0, .ref (zAd T (61))), (1, .long a1), (3, .long a3), (5, .long a5), (7, .long a7)] (by rw [hN]; decide) rfl dX9_times_25 ?_
  refine z_lload_n hC 2 rfl rfl dX9_times_27 ?_
  refine z_lload hC 4 rfl dX9_times_28 ?_
  refine z_lmul hC dX9_times_30 ?_
  refine z_lload_n hC 2 rfl rfl dX9_times_31 ?_
  refine z_lload hC 5 rfl dX9_times_32 ?_
  refine z_lmul hC dX9_times_34 ?_
  refine z_cS2r hC (ctX9_more hC.hm) kb_X9_more km_X9_240 ⟨by decide, by decide⟩ (Nat.le_of_ble_eq_true rfl) dX9_times_35 ?_
  refine z_lload_n hC 3 rfl rfl dX9_times_38 ?_
  refine z_lload hC 4 rfl dX9_times_39 ?_
  refine z_lmul hC dX9_times_41 ?_
  refine z_lload_n hC 3 rfl rfl dX9_times_42 ?_
  refine z_lload hC 5 rfl dX9_times_43 ?_
  refine z_lmul hC dX9_times_45 ?_
  refine z_cS2r hC (ctX9_more hC.hm) kb_X9_more km_X9_240 ⟨by decide, by decide⟩ (Nat.le_of_ble_eq_true rfl) dX9_times_46 ?_
  refine z_cS2r hC (ctX9_more hC.hm) kb_X9_more km_X9_240 ⟨by decide, by decide⟩ (Nat.le_of_ble_eq_true rfl) dX9_times_49 ?_
  refine z_nmL h (fun x49_2 h => ?_)
  refine z_lstore hC [(11, .long x49_2), (9, .long x22_1), (0, .ref (zAd T (61))), (1, .long a1), (3, .long a3), (5, .long a5), (7, .long a7)] (by rw [hN]; decide) rfl dX9_times_52 ?_
  refine z_aload_n hC 2 rfl rfl dX9_times_54 ?_
  refine z_lload hC 1 rfl dX9_times_55 ?_
  refine z_ldc2 hC kc_X9_207 dX9_times_57 ?_
  refine z_b1 h (fun r60_3 e_r60_3 h => ?_)
  refine z_cS2r hC (ctX9_down hC.hm e_r60_3) kb_X9_down km_X9_209 ⟨by decide, by decide⟩ (Nat.le_of_ble_eq_true rfl) dX9_times_60 ?_
  refine z_lload hC 0 rfl dX9_times_63 ?_
  refine z_ldc2 hC kc_X9_207 dX9_times_65 ?_
  refine z_b1 h (fun r68_4 e_r68_4 h => ?_)
  refine z_cS2r hC (ctX9_up hC.hm e_r68_4) kb_X9_up km_X9_213 ⟨by decide, by decide⟩ (Nat.le_of_ble_eq_true rfl) dX9_times_68 ?_
  refine z_b1 h (fun s71_5 e_s71_5 h => ?_)
  refine z_cV2v hC (ctX9_is hC.hm e_s71_5) (rcX9 hC) kb_X9_is km_X9_243 ⟨by decide, by decide⟩ (Nat.le_of_ble_eq_true rfl) dX9_times_71 ?_
  obtain rfl := z_so h
  exact z_vret hC hQ dX9_times_74
set_option maxRecDepth 100000 in
theorem ctX9_times {l : Launch} {G : zGt} {mk : zSt → zSt} (hm : zM mk 61 85) {a1 : Int64} {a3 : Int64} {a5 : Int64} {a7 : Int64} {σ : zSt} {σ' : zSt} (h : fX9_times a1 a3 a5 a7 σ = some σ') : zMet l G mk yX9_times cX9_times 13 none 1 25 [.ref (gA G (61)), .long a1, .long a3, .long a5, .long a7] σ (none) σ' := by
  unfold fX9_times at h

  refine zMet.of (plainFor_of_name (by decide +kernel)) hm (Nat.le_of_ble_eq_true rfl) (fun T eL eG eM hN hC hQ => ?_)
  subst eL; subst eG; subst eM
  refine z_sub [(0, .ref (zAd T (61))), (1, .long a1), (3, .long a3), (5, .long a5), (7, .long a7)] [0, 1, 2, 3, 4] rfl ?_
  exact wX9_times_0 hC hN hQ _ _ _ _  _ h
noncomputable def fX9_by_19 (v1 : Int64) (v3 : Int64) (v5 : Int64) (v7 : Int64) (σ : zSt) : Option zSt := bd1 (fX9_down (v1 * (1048576 : Int64)) v5) fun r26_1 => bd1 (fX9_down (v1 * (1048576 : Int64)) v7) fun r36_2 => bd1 (fX9_down (v3 * (1048576 : Int64)) v5) fun r49_3 => bd1 (fX9_down (v3 * (1048576 : Int64)) v7) fun r59_4 => nm (fX9_less (fX9_less r26_1 r36_2) (fX9_less r49_3 r59_4)) fun x68_5 => bd1 (fX9_up (v1 * (1048576 : Int64)) v5) fun r77_6 => bd1 (fX9_up (v1 * (1048576 : Int64)) v7) fun r87_7 => bd1 (fX9_up (v3 * (1048576 : Int64)) v5) fun r100_8 => bd1 (fX9_up (v3 * (1048576 : Int64)) v7) fun r110_9 => nm (fX9_more (fX9_more r77_6 r87_7) (fX9_more r100_8 r110_9)) fun x119_10 => bd1 (fX9_is x68_5 x119_10 σ) fun s126_11 => some s126_11
noncomputable def fX9_by_0 (a1 : Int64) (a3 : Int64) (a5 : Int64) (a7 : Int64) (σ : zSt) : Option zSt := 
    (if (0 : Int64) < a5 then fX9_by_19 a1 a3 a5 a7 σ
    else 
      (if a7 < (0 : Int64) then fX9_by_19 a1 a3 a5 a7 σ
      else bd1 (fX9_isHole σ) fun s15_3 => some s15_3))
noncomputable def fX9_by (a1 : Int64) (a3 : Int64) (a5 : Int64) (a7 : Int64) (σ : zSt) : Option zSt := fX9_by_0 a1 a3 a5 a7 σ
set_option maxRecDepth 100000 in
set_option maxHeartbeats 4000000 in
theorem wX9_by_19 {T : zX} (hC : zOk T cX9_by RX9 1 25 61 85) (hN : zNL T = 13) {σ' : zSt} (hQ : zRes T none (none) σ') (v1 : Int64) (v3 : Int64) (v5 : Int64) (v7 : Int64)  (σ : zSt) (h : fX9_by_19 v1 v3 v5 v7 σ = some σ') : Z T σ 19 [(0, .ref (zAd T (61))), (1, .long v1), (3, .long v3), (5, .long v5), (7, .long v7)] [] := by
  unfold fX9_by_19 at h
  refine z_lload_n hC 1 rfl rfl dX9_by_19 ?_
  refine z_ldc2 hC kc_X9_207 dX9_by_20 ?_
  refine z_lmul hC dX9_by_23 ?_
  refine z_lload hC 3 rfl dX9_by_24 ?_
  refine z_b1 h (fun r26_1 e_r26_1 h => ?_)
  refine z_cS2r hC (ctX9_down hC.hm e_r26_1) kb_X9_down km_X9_209 ⟨by decide, by decide⟩ (Nat.le_of_ble_eq_true rfl) dX9_by_26 ?_
  refine z_lload_n hC 1 rfl rfl dX9_by_29 ?_
  refine z_ldc2 hC kc_X9_207 dX9_by_30 ?_
  refine z_lmul hC dX9_by_33 ?_
  refine z_lload hC 4 rfl dX9_by_34 ?_
  refine z_b1 h (fun r36_2 e_r36_2 h => ?_)
  refine z_cS2r hC (ctX9_down hC.hm e_r36_2) kb_X9_down km_X9_209 ⟨by decide, by decide⟩ (Nat.le_of_ble_eq_true rfl) dX9_by_36 ?_
  refine z_cS2r hC (ctX9_less hC.hm) kb_X9_less km_X9_237 ⟨by decide, by decide⟩ (Nat.le_of_ble_eq_true rfl) dX9_by_39 ?_
  refine z_lload_n hC 2 rfl rfl dX9_by_42 ?_
  refine z_ldc2 hC kc_X9_207 dX9_by_43 ?_
  refine z_lmul hC dX9_by_46 ?_
  refine z_lload hC 3 rfl dX9_by_47 ?_
  refine z_b1 h (fun r49_3 e_r49_3 h => ?_)
  refine z_cS2r hC (ctX9_down hC.hm e_r49_3) kb_X9_down km_X9_209 ⟨by decide, by decide⟩ (Nat.le_of_ble_eq_true rfl) dX9_by_49 ?_
  refine z_lload_n hC 2 rfl rfl dX9_by_52 ?_
  refine z_ldc2 hC kc_X9_207 dX9_by_53 ?_
  refine z_lmul hC dX9_by_56 ?_
  refine z_lload hC 4 rfl dX9_by_57 ?_
  refine z_b1 h (fun r59_4 e_r59_4 h => ?_)
  refine z_cS2r hC (ctX9_down hC.hm e_r59_4) kb_X9_down km_X9_209 ⟨by decide, by decide⟩ (Nat.le_of_ble_eq_true rfl) dX9_by_59 ?_
  refine z_cS2r hC (ctX9_less hC.hm) kb_X9_less km_X9_237 ⟨by decide, by decide⟩ (Nat.le_of_ble_eq_true rfl) dX9_by_62 ?_
  refine z_cS2r hC (ctX9_less hC.hm) kb_X9_less km_X9_237 ⟨by decide, by decide⟩ (Nat.le_of_ble_eq_true rfl) dX9_by_65 ?_
  refine z_nmL h (fun x68_5 h => ?_)
  refine z_lstore hC [(9, .long x68_5), (0, .ref (zAd T (61))), (1, .long v1), (3, .long v3), (5, .long v5), (7, .long v7)] (by rw [hN]; decide) rfl dX9_by_68 ?_
  refine z_lload_n hC 2 rfl rfl dX9_by_70 ?_
  refine z_ldc2 hC kc_X9_207 dX9_by_71 ?_
  refine z_lmul hC dX9_by_74 ?_
  refine z_lload hC 4 rfl dX9_by_75 ?_
  refine z_b1 h (fun r77_6 e_r77_6 h => ?_)
  refine z_cS2r hC (ctX9_up hC.hm e_r77_6) kb_X9_up km_X9_213 ⟨by decide, by decide⟩ (Nat.le_of_ble_eq_true rfl) dX9_by_77 ?_
  refine z_lload_n hC 2 rfl rfl dX9_by_80 ?_
  refine z_ldc2 hC kc_X9_207 dX9_by_81 ?_
  refine z_lmul hC dX9_by_84 ?_
  refine z_lload hC 5 rfl dX9_by_85 ?_
  refine z_b1 h (fun r87_7 e_r87_7 h => ?_)
  refine z_cS2r hC (ctX9_up hC.hm e_r87_7) kb_X9_up km_X9_213 ⟨by decide, by decide⟩ (Nat.le_of_ble_eq_true rfl) dX9_by_87 ?_
  refine z_cS2r hC (ctX9_more hC.hm) kb_X9_more km_X9_240 ⟨by decide, by decide⟩ (Nat.le_of_ble_eq_true rfl) dX9_by_90 ?_
  refine z_lload_n hC 3 rfl rfl dX9_by_93 ?_
  refine z_ldc2 hC kc_X9_207 dX9_by_94 ?_
  refine z_lmul hC dX9_by_97 ?_
  refine z_lload hC 4 rfl dX9_by_98 ?_
  refine z_b1 h (fun r100_8 e_r100_8 h => ?_)
  refine z_cS2r hC (ctX9_up hC.hm e_r100_8) kb_X9_up km_X9_213 ⟨by decide, by decide⟩ (Nat.le_of_ble_eq_true rfl) dX9_by_100 ?_
  refine z_lload_n hC 3 rfl rfl dX9_by_103 ?_
  refine z_ldc2 hC kc_X9_207 dX9_by_104 ?_
  refine z_lmul hC dX9_by_107 ?_
  refine z_lload hC 5 rfl dX9_by_108 ?_
  refine z_b1 h (fun r110_9 e_r110_9 h => ?_)
  refine z_cS2r hC (ctX9_up hC.hm e_r110_9) kb_X9_up km_X9_213 ⟨by decide, by decide⟩ (Nat.le_of_ble_eq_true rfl) dX9_by_110 ?_
  refine z_cS2r hC (ctX9_more hC.hm) kb_X9_more km_X9_240 ⟨by decide, by decide⟩ (Nat.le_of_ble_eq_true rfl) dX9_by_113 ?_
  refine z_cS2r hC (ctX9_more hC.hm) kb_X9_more km_X9_240 ⟨by decide, by decide⟩ (Nat.le_of_ble_eq_true rfl) dX9_by_116 ?_
  refine z_nmL h (fun x119_10 h => ?_)
  refine z_lstore hC [(11, .long x119_10), (9, .long x68_5), (0, .ref (zAd T (61))), (1, .long v1), (3, .long v3), (5, .long v5), (7, .long v7)] (by rw [hN]; decide) rfl dX9_by_119 ?_
  refine z_aload_n hC 2 rfl rfl dX9_by_121 ?_
  refine z_lload hC 1 rfl dX9_by_122 ?_
  refine z_lload hC 0 rfl dX9_by_124 ?_
  refine z_b1 h (fun s126_11 e_s126_11 h => ?_)
  refine z_cV2v hC (ctX9_is hC.hm e_s126_11) (rcX9 hC) kb_X9_is km_X9_243 ⟨by decide, by decide⟩ (Nat.le_of_ble_eq_true rfl) dX9_by_126 ?_
  obtain rfl := z_so h
  exact z_vret hC hQ dX9_by_129
set_option maxRecDepth 100000 in
set_option maxHeartbeats 4000000 in
theorem wX9_by_0 {T : zX} (hC : zOk T cX9_by RX9 1 25 61 85) (hN : zNL T = 13) {σ' : zSt} (hQ : zRes T none (none) σ') (a1 : Int64) (a3 : Int64) (a5 : Int64) (a7 : Int64)  (σ : zSt) (h : fX9_by_0 a1 a3 a5 a7 σ = some σ') : Z T σ 0 [(0, .ref (zAd T (61))), (1, .long a1), (3, .long a3), (5, .long a5), (7, .long a7)] [] := by
  unfold fX9_by_0 at h
  refine z_lload hC 3 rfl dX9_by_0 ?_
  refine z_lconst hC (0 : Int64) (by decide) dX9_by_2 ?_
  refine z_cmp_gt hC 19 (by decide) dX9_by_3 dX9_by_4 (fun q3_1 => ?_) (fun q3_1 => ?_)
  · replace h := z_t q3_1 h
    exact (wX9_by_19 hC hN hQ ) _ _ _ _ _ h
  · replace h := z_f q3_1 h
    refine z_lload hC 4 rfl dX9_by_7 ?_
    refine z_lconst hC (0 : Int64) (by decide) dX9_by_9 ?_
    refine z_cmp_lt hC 19 (by decide) dX9_by_10 dX9_by_11 (fun q10_2 => ?_) (fun q10_2 => ?_)
    · replace h := z_t q10_2 h
      exact (wX9_by_19 hC hN hQ ) _ _ _ _ _ h
    · replace h := z_f q10_2 h
      refine z_aload_n hC 0 rfl rfl dX9_by_14 ?_
      refine z_b1 h (fun s15_3 e_s15_3 h => ?_)
      refine z_cV0v hC (ctX9_isHole hC.hm e_s15_3) (rcX9 hC) kb_X9_isHole km_X9_247 ⟨by decide, by decide⟩ (Nat.le_of_ble_eq_true rfl) dX9_by_15 ?_
      obtain rfl := z_so h
      exact z_vret hC hQ dX9_by_18
set_option maxRecDepth 100000 in
theorem ctX9_by {l : Launch} {G : zGt} {mk : zSt → zSt} (hm : zM mk 61 85) {a1 : Int64} {a3 : Int64} {a5 : Int64} {a7 : Int64} {σ : zSt} {σ' : zSt} (h : fX9_by a1 a3 a5 a7 σ = some σ') : zMet l G mk yX9_by cX9_by 13 none 1 25 [.ref (gA G (61)), .long a1, .long a3, .long a5, .long a7] σ (none) σ' := by
  unfold fX9_by at h

  refine zMet.of (plainFor_of_name (by decide +kernel)) hm (Nat.le_of_ble_eq_true rfl) (fun T eL eG eM hN hC hQ => ?_)
  subst eL; subst eG; subst eM
  refine z_sub [(0, .ref (zAd T (61))), (1, .long a1), (3, .long a3), (5, .long a5), (7, .long a7)] [0, 1, 2, 3, 4] rfl ?_
  exact wX9_by_0 hC hN hQ _ _ _ _  _ h
noncomputable def fX9_size_72 (K31 : Int64 → Int32 → Int32 → Int64 → Int32 → zSt → Option (Int64 × zSt)) (v1 : Int64) (v3 : Int32) (v4 : Int32) (v7 : Int32) (t0 : Int64) (σ : zSt) : Option (Int64 × zSt) := 
    (if t0 ≤ (2147483648 : Int64) then nm (v7 + (1 : Int32)) fun x92_2 => K31 v1 v3 v4 t0 x92_2 (si σ 61 22 (0 : Int32))
    else nm (v7 + (1 : Int32)) fun x92_3 => K31 v1 v3 v4 t0 x92_3 (si σ 61 22 (1 : Int32)))
noncomputable def fX9_size_31 (K31 : Int64 → Int32 → Int32 → Int64 → Int32 → zSt → Option (Int64 × zSt)) (v1 : Int64) (v3 : Int32) (v4 : Int32) (v5 : Int64) (v7 : Int32) (σ : zSt) : Option (Int64 × zSt) := 
    (if v3 ≤ v7 then some (v5, σ)
    else 
      (if (gi σ 61 22) = 0 then 
        (if v4 = 0 then bd1 (fX9_down (v5 * v1) (1048576 : Int64)) fun r69_4 => fX9_size_72 K31 v1 v3 v4 v7 r69_4 σ
        else bd1 (fX9_up (v5 * v1) (1048576 : Int64)) fun r56_5 => fX9_size_72 K31 v1 v3 v4 v7 r56_5 σ)
      else some (v5, σ)))
noncomputable def fX9_size_L31 : Nat → Int64 → Int32 → Int32 → Int64 → Int32 → zSt → Option (Int64 × zSt)
  | 0, _, _, _, _, _, _ => none
  | n + 1, v1, v3, v4, v5, v7, σ => fX9_size_31 (fX9_size_L31 n) v1 v3 v4 v5 v7 σ
noncomputable def fX9_size_0 (a1 : Int64) (a3 : Int32) (a4 : Int32) (σ : zSt) : Option (Int64 × zSt) := 
    (if (gi σ 61 22) = 0 then 
      (if a1 ≤ (2147483648 : Int64) then fX9_size_L31 zFU a1 a3 a4 a1 (1 : Int32) (si σ 61 22 (0 : Int32))
      else fX9_size_L31 zFU a1 a3 a4 a1 (1 : Int32) (si σ 61 22 (1 : Int32)))
    else fX9_size_L31 zFU a1 a3 a4 a1 (1 : Int32) (si σ 61 22 (1 : Int32)))
noncomputable def fX9_size (a1 : Int64) (a3 : Int32) (a4 : Int32) (σ : zSt) : Option (Int64 × zSt) := fX9_size_0 a1 a3 a4 σ
set_option maxRecDepth 100000 in
set_option maxHeartbeats 4000000 in
theorem wX9_size_72 {T : zX} (hC : zOk T cX9_size RX9 1 25 61 85) (hN : zNL T = 8) {r : Int64} {σ' : zSt} (hQ : zRes T (some .long) (some (.long r)) σ') (K31 : Int64 → Int32 → Int32 → Int64 → Int32 → zSt → Option (Int64 × zSt)) (hK31 : ∀ (v1 : Int64) (v3 : Int32) (v4 : Int32) (v5 : Int64) (v7 : Int32) (τ : zSt), K31 v1 v3 v4 v5 v7 τ = some (r, σ') → Z T τ 31 [(0, .ref (zAd T (61))), (1, .long v1), (3, .int v3), (4, .int v4), (5, .long v5), (7, .int v7)] []) (v1 : Int64) (v3 : Int32) (v4 : Int32) (v7 : Int32) (t0 : Int64)  (σ : zSt) (h : fX9_size_72 K31 v1 v3 v4 v7 t0 σ = some (r, σ')) : Z T σ 72 [(0, .ref (zAd T (61))), (1, .long v1), (3, .int v3), (4, .int v4), (7, .int v7)] [.long t0] := by
  unfold fX9_size_72 at h
  refine z_lstore hC [(5, .long t0), (0, .ref (zAd T (61))), (1, .long v1), (3, .int v3), (4, .int v4), (7, .int v7)] (by rw [hN]; decide) rfl dX9_size_72 ?_
  refine z_aload_n hC 1 rfl rfl dX9_size_74 ?_
  refine z_lload hC 0 rfl dX9_size_75 ?_
  refine z_ldc2 hC kc_X9_253 dX9_size_77 ?_
  refine z_cmp_le hC 88 (by decide) dX9_size_80 dX9_size_81 (fun q80_1 => ?_) (fun q80_1 => ?_)
  · replace h := z_t q80_1 h
    refine z_iconst hC (0 : Int32) (by decide) dX9_size_88 ?_
    refine pX9_22 hC kf_X9_250 (by decide) dX9_size_89 ?_
    refine z_nmE h (fun x92_2 e_x92_2 h => ?_)
    refine z_iinc hC x92_2 [(7, .int x92_2), (5, .long t0), (0, .ref (zAd T (61))), (1, .long v1), (3, .int v3), (4, .int v4)] 5 rfl (by rw [e_x92_2]; rfl) (by rw [hN]; decide) rfl dX9_size_92 ?_
    refine z_goto hC 31 (by decide) dX9_size_95 ?_
    refine z_sub [(0, .ref (zAd T (61))), (1, .long v1), (3, .int v3), (4, .int v4), (5, .long t0), (7, .int x92_2)] [2, 3, 4, 5, 1, 0] rfl ?_
    exact hK31 _ _ _ _ _ _ h
  · replace h := z_f q80_1 h
    refine z_iconst hC (1 : Int32) (by decide) dX9_size_84 ?_
    refine z_goto hC 89 (by decide) dX9_size_85 ?_
    refine pX9_22 hC kf_X9_250 (by decide) dX9_size_89 ?_
    refine z_nmE h (fun x92_3 e_x92_3 h => ?_)
    refine z_iinc hC x92_3 [(7, .int x92_3), (5, .long t0), (0, .ref (zAd T (61))), (1, .long v1), (3, .int v3), (4, .int v4)] 5 rfl (by rw [e_x92_3]; rfl) (by rw [hN]; decide) rfl dX9_size_92 ?_
    refine z_goto hC 31 (by decide) dX9_size_95 ?_
    refine z_sub [(0, .ref (zAd T (61))), (1, .long v1), (3, .int v3), (4, .int v4), (5, .long t0), (7, .int x92_3)] [2, 3, 4, 5, 1, 0] rfl ?_
    exact hK31 _ _ _ _ _ _ h
set_option maxRecDepth 100000 in
set_option maxHeartbeats 4000000 in
theorem wX9_size_31 {T : zX} (hC : zOk T cX9_size RX9 1 25 61 85) (hN : zNL T = 8) {r : Int64} {σ' : zSt} (hQ : zRes T (some .long) (some (.long r)) σ') (K31 : Int64 → Int32 → Int32 → Int64 → Int32 → zSt → Option (Int64 × zSt)) (hK31 : ∀ (v1 : Int64) (v3 : Int32) (v4 : Int32) (v5 : Int64) (v7 : Int32) (τ : zSt), K31 v1 v3 v4 v5 v7 τ = some (r, σ') → Z T τ 31 [(0, .ref (zAd T (61))), (1, .long v1), (3, .int v3), (4, .int v4), (5, .long v5), (7, .int v7)] []) (v1 : Int64) (v3 : Int32) (v4 : Int32) (v5 : Int64) (v7 : Int32)  (σ : zSt) (h : fX9_size_31 K31 v1 v3 v4 v5 v7 σ = some (r, σ')) : Z T σ 31 [(0, .ref (zAd T (61))), (1, .long v1), (3, .int v3), (4, .int v4), (5, .long v5), (7, .int v7)] [] := by
  unfold fX9_size_31 at h
  refine z_iload hC 5 rfl dX9_size_31 ?_
  refine z_iload_n hC 2 rfl rfl dX9_size_33 ?_
  refine z_icmp_ge hC 98 (by decide) dX9_size_34 (fun q34_1 => ?_) (fun q34_1 => ?_)
  · replace h := z_t q34_1 h
    refine z_lload hC 4 rfl dX9_size_98 ?_
    obtain ⟨rfl, rfl⟩ := z_pr h
    exact z_lret hC hQ dX9_size_100
  · replace h := z_f q34_1 h
    refine z_aload_n hC 0 rfl rfl dX9_size_37 ?_
    refine gX9_22 hC kf_X9_250 (gi σ 61 22) rfl dX9_size_38 ?_
    refine z_if_ne hC 98 (by decide) dX9_size_41 (fun q41_2 => ?_) (fun q41_2 => ?_)
    · replace h := z_f q41_2 h
      refine z_lload hC 4 rfl dX9_size_98 ?_
      obtain ⟨rfl, rfl⟩ := z_pr h
      exact z_lret hC hQ dX9_size_100
    · replace h := z_t q41_2 h
      refine z_iload hC 3 rfl dX9_size_44 ?_
      refine z_if_eq hC 62 (by decide) dX9_size_46 (fun q46_3 => ?_) (fun q46_3 => ?_)
      · replace h := z_t q46_3 h
        refine z_lload hC 4 rfl dX9_size_62 ?_
        refine z_lload_n hC 1 rfl rfl dX9_size_64 ?_
        refine z_lmul hC dX9_size_65 ?_
        refine z_ldc2 hC kc_X9_207 dX9_size_66 ?_
        refine z_b1 h (fun r69_4 e_r69_4 h => ?_)
        refine z_cS2r hC (ctX9_down hC.hm e_r69_4) kb_X9_down km_X9_209 ⟨by decide, by decide⟩ (Nat.le_of_ble_eq_true rfl) dX9_size_69 ?_
        refine z_sub [(0, .ref (zAd T (61))), (1, .long v1), (3, .int v3), (4, .int v4), (7, .int v7)] [0, 1, 2, 3, 5] rfl ?_
        exact (wX9_size_72 hC hN hQ K31 hK31 ) _ _ _ _ _ _ h
      · replace h := z_f q46_3 h
        refine z_lload hC 4 rfl dX9_size_49 ?_
        refine z_lload_n hC 1 rfl rfl dX9_size_51 ?_
        refine z_lmul hC dX9_size_52 ?_
        refine z_ldc2 hC kc_X9_207 dX9_size_53 ?_
        refine z_b1 h (fun r56_5 e_r56_5 h => ?_)
        refine z_cS2r hC (ctX9_up hC.hm e_r56_5) kb_X9_up km_X9_213 ⟨by decide, by decide⟩ (Nat.le_of_ble_eq_true rfl) dX9_size_56 ?_
        refine z_goto hC 72 (by decide) dX9_size_59 ?_
        refine z_sub [(0, .ref (zAd T (61))), (1, .long v1), (3, .int v3), (4, .int v4), (7, .int v7)] [0, 1, 2, 3, 5] rfl ?_
        exact (wX9_size_72 hC hN hQ K31 hK31 ) _ _ _ _ _ _ h
theorem wX9_size_L31 {T : zX} (hC : zOk T cX9_size RX9 1 25 61 85) (hN : zNL T = 8) {r : Int64} {σ' : zSt} (hQ : zRes T (some .long) (some (.long r)) σ') (n : Nat) : ∀ (v1 : Int64) (v3 : Int32) (v4 : Int32) (v5 : Int64) (v7 : Int32) (σ : zSt), fX9_size_L31 n v1 v3 v4 v5 v7 σ = some (r, σ') → Z T σ 31 [(0, .ref (zAd T (61))), (1, .long v1), (3, .int v3), (4, .int v4), (5, .long v5), (7, .int v7)] [] := by
  induction n with
  | zero => intro v1 v3 v4 v5 v7 σ h; cases h
  | succ n ih => intro v1 v3 v4 v5 v7 σ h; exact wX9_size_31 hC hN hQ (fX9_size_L31 n) ih v1 v3 v4 v5 v7 σ h
set_option maxRecDepth 100000 in
set_option maxHeartbeats 4000000 in
theorem wX9_size_0 {T : zX} (hC : zOk T cX9_size RX9 1 25 61 85) (hN : zNL T = 8) {r : Int64} {σ' : zSt} (hQ : zRes T (some .long) (some (.long r)) σ') (a1 : Int64) (a3 : Int32) (a4 : Int32)  (σ : zSt) (h : fX9_size_0 a1 a3 a4 σ = some (r, σ')) : Z T σ 0 [(0, .ref (zAd T (61))), (1, .long a1), (3, .int a3), (4, .int a4)] [] := by
  unfold fX9_size_0 at h
  refine z_lload_n hC 1 rfl rfl dX9_size_0 ?_
  refine z_lstore hC [(5, .long a1), (0, .ref (zAd T (61))), (1, .long a1), (3, .int a3), (4, .int a4)] (by rw [hN]; decide) rfl dX9_size_1 ?_
  refine z_aload_n hC 1 rfl rfl dX9_size_3 ?_
  refine z_aload_n hC 1 rfl rfl dX9_size_4 ?_
  refine gX9_22 hC kf_X9_250 (gi σ 61 22) rfl dX9_size_5 ?_
  refine z_if_ne hC 20 (by decide) dX9_size_8 (fun q8_1 => ?_) (fun q8_1 => ?_)
  · replace h := z_f q8_1 h
    refine z_iconst hC (1 : Int32) (by decide) dX9_size_20 ?_
    refine z_goto hC 25 (by decide) dX9_size_21 ?_
    refine pX9_22 hC kf_X9_250 (by decide) dX9_size_25 ?_
    refine z_iconst hC (1 : Int32) (by decide) dX9_size_28 ?_
    refine z_istore hC [(7, .int (1 : Int32)), (5, .long a1), (0, .ref (zAd T (61))), (1, .long a1), (3, .int a3), (4, .int a4)] (by rw [hN]; decide) rfl dX9_size_29 ?_
    refine z_sub [(0, .ref (zAd T (61))), (1, .long a1), (3, .int a3), (4, .int a4), (5, .long a1), (7, .int (1 : Int32))] [2, 3, 4, 5, 1, 0] rfl ?_
    exact (wX9_size_L31 hC hN hQ zFU) _ _ _ _ _ _ h
  · replace h := z_t q8_1 h
    refine z_lload hC 0 rfl dX9_size_11 ?_
    refine z_ldc2 hC kc_X9_253 dX9_size_13 ?_
    refine z_cmp_le hC 24 (by decide) dX9_size_16 dX9_size_17 (fun q16_2 => ?_) (fun q16_2 => ?_)
    · replace h := z_t q16_2 h
      refine z_iconst hC (0 : Int32) (by decide) dX9_size_24 ?_
      refine pX9_22 hC kf_X9_250 (by decide) dX9_size_25 ?_
      refine z_iconst hC (1 : Int32) (by decide) dX9_size_28 ?_
      refine z_istore hC [(7, .int (1 : Int32)), (5, .long a1), (0, .ref (zAd T (61))), (1, .long a1), (3, .int a3), (4, .int a4)] (by rw [hN]; decide) rfl dX9_size_29 ?_
      refine z_sub [(0, .ref (zAd T (61))), (1, .long a1), (3, .int a3), (4, .int a4), (5, .long a1), (7, .int (1 : Int32))] [2, 3, 4, 5, 1, 0] rfl ?_
      exact (wX9_size_L31 hC hN hQ zFU) _ _ _ _ _ _ h
    · replace h := z_f q16_2 h
      refine z_iconst hC (1 : Int32) (by decide) dX9_size_20 ?_
      refine z_goto hC 25 (by decide) dX9_size_21 ?_
      refine pX9_22 hC kf_X9_250 (by decide) dX9_size_25 ?_
      refine z_iconst hC (1 : Int32) (by decide) dX9_size_28 ?_
      refine z_istore hC [(7, .int (1 : Int32)), (5, .long a1), (0, .ref (zAd T (61))), (1, .long a1), (3, .int a3), (4, .int a4)] (by rw [hN]; decide) rfl dX9_size_29 ?_
      refine z_sub [(0, .ref (zAd T (61))), (1, .long a1), (3, .int a3), (4, .int a4), (5, .long a1), (7, .int (1 : Int32))] [2, 3, 4, 5, 1, 0] rfl ?_
      exact (wX9_size_L31 hC hN hQ zFU) _ _ _ _ _ _ h
set_option maxRecDepth 100000 in
theorem ctX9_size {l : Launch} {G : zGt} {mk : zSt → zSt} (hm : zM mk 61 85) {a1 : Int64} {a3 : Int32} {a4 : Int32} {σ : zSt} {r : Int64} {σ' : zSt} (h : fX9_size a1 a3 a4 σ = some (r, σ')) : zMet l G mk yX9_size cX9_size 8 (some .long) 1 25 [.ref (gA G (61)), .long a1, .int a3, .int a4] σ (some (.long r)) σ' := by
  unfold fX9_size at h

  refine zMet.of (plainFor_of_name (by decide +kernel)) hm (Nat.le_of_ble_eq_true rfl) (fun T eL eG eM hN hC hQ => ?_)
  subst eL; subst eG; subst eM
  refine z_sub [(0, .ref (zAd T (61))), (1, .long a1), (3, .int a3), (4, .int a4)] [0, 1, 2, 3] rfl ?_
  exact wX9_size_0 hC hN hQ _ _ _  _ h
noncomputable def fX9_power__40 (v3 : Int64) (v5 : Int32) (t0 : Int64) (σ : zSt) : Option zSt := 
    (if (0 : Int64) ≤ v3 then bd2 (fX9_size v3 v5 (1 : Int32) σ) fun r66_2 s66_3 => 
      (if (gi s66_3 61 22) = 0 then bd1 (fX9_is t0 r66_2 s66_3) fun s169_5 => some s169_5
      else bd1 (fX9_isHole s66_3) fun s158_6 => some s158_6)
    else bd2 (fX9_size (-v3) v5 (0 : Int32) σ) fun r54_7 s54_8 => nm (-r54_7) fun x69_9 => 
      (if (gi s54_8 61 22) = 0 then bd1 (fX9_is t0 x69_9 s54_8) fun s169_11 => some s169_11
      else bd1 (fX9_isHole s54_8) fun s158_12 => some s158_12))
noncomputable def fX9_power__126 (v5 : Int32) (v10 : Int64) (v12 : Int64) (t0 : Int64) (σ : zSt) : Option zSt := bd2 (fX9_size t0 v5 (0 : Int32) σ) fun r129_1 s129_2 => bd2 (fX9_size (fX9_more v10 v12) v5 (1 : Int32) s129_2) fun r145_3 s145_4 => 
    (if (gi s145_4 61 22) = 0 then bd1 (fX9_is r129_1 r145_3 s145_4) fun s169_6 => some s169_6
    else bd1 (fX9_isHole s145_4) fun s158_7 => some s158_7)
noncomputable def fX9_power__100 (v1 : Int64) (v3 : Int64) (v5 : Int32) (v10 : Int64) (t0 : Int64) (σ : zSt) : Option zSt := 
    (if (0 : Int64) < v1 then fX9_power__126 v5 v10 t0 (fX9_less v10 t0) σ
    else 
      (if v3 < (0 : Int64) then fX9_power__126 v5 v10 t0 (fX9_less v10 t0) σ
      else fX9_power__126 v5 v10 t0 (0 : Int64) σ))
noncomputable def fX9_power__0 (a1 : Int64) (a3 : Int64) (a5 : Int32) (σ : zSt) : Option zSt := 
    (if (jremI a5 (2 : Int32)) = (1 : Int32) then 
      (if (0 : Int64) ≤ a1 then bd2 (fX9_size a1 a5 (0 : Int32) (si σ 61 22 (0 : Int32))) fun r37_7 s37_8 => fX9_power__40 a3 a5 r37_7 s37_8
      else bd2 (fX9_size (-a1) a5 (1 : Int32) (si σ 61 22 (0 : Int32))) fun r25_9 s25_10 => fX9_power__40 a3 a5 (-r25_9) s25_10)
    else 
      (if (0 : Int64) ≤ a1 then 
        (if (0 : Int64) ≤ a3 then fX9_power__100 a1 a3 a5 a1 a3 (si σ 61 22 (0 : Int32))
        else fX9_power__100 a1 a3 a5 a1 (-a3) (si σ 61 22 (0 : Int32)))
      else nm (-a1) fun x86_4 => 
        (if (0 : Int64) ≤ a3 then fX9_power__100 a1 a3 a5 x86_4 a3 (si σ 61 22 (0 : Int32))
        else fX9_power__100 a1 a3 a5 x86_4 (-a3) (si σ 61 22 (0 : Int32)))))
noncomputable def fX9_power_ (a1 : Int64) (a3 : Int64) (a5 : Int32) (σ : zSt) : Option zSt := fX9_power__0 a1 a3 a5 σ
set_option maxRecDepth 100000 in
set_option maxHeartbeats 4000000 in
theorem wX9_power__40 {T : zX} (hC : zOk T cX9_power_ RX9 2 52 61 85) (hN : zNL T = 14) {σ' : zSt} (hQ : zRes T none (none) σ') (v3 : Int64) (v5 : Int32) (t0 : Int64)  (σ : zSt) (h : fX9_power__40 v3 v5 t0 σ = some σ') : Z T σ 40 [(0, .ref (zAd T (61))), (3, .long v3), (5, .int v5)] [.long t0] := by
  unfold fX9_power__40 at h
  refine z_lstore hC [(6, .long t0), (0, .ref (zAd T (61))), (3, .long v3), (5, .int v5)] (by rw [hN]; decide) rfl dX9_power__40 ?_
  refine z_lload_n hC 2 rfl rfl dX9_power__42 ?_
  refine z_lconst hC (0 : Int64) (by decide) dX9_power__43 ?_
  refine z_cmp_ge hC 61 (by decide) dX9_power__44 dX9_power__45 (fun q44_1 => ?_) (fun q44_1 => ?_)
  · replace h := z_t q44_1 h
    refine z_aload_n hC 1 rfl rfl dX9_power__61 ?_
    refine z_lload_n hC 2 rfl rfl dX9_power__62 ?_
    refine z_iload hC 3 rfl dX9_power__63 ?_
    refine z_iconst hC (1 : Int32) (by decide) dX9_power__65 ?_
    refine z_b2 h (fun r66_2 s66_3 e_r66_2 h => ?_)
    refine z_cV3r hC (ctX9_size hC.hm e_r66_2) (rcX9 hC) kb_X9_size km_X9_255 ⟨by decide, by decide⟩ (Nat.le_of_ble_eq_true rfl) dX9_power__66 ?_
    refine z_lstore hC [(8, .long r66_2), (6, .long t0), (0, .ref (zAd T (61))), (3, .long v3), (5, .int v5)] (by rw [hN]; decide) rfl dX9_power__69 ?_
    refine z_goto hC 150 (by decide) dX9_power__71 ?_
    refine z_aload_n hC 2 rfl rfl dX9_power__150 ?_
    refine gX9_22 hC kf_X9_250 (gi s66_3 61 22) rfl dX9_power__151 ?_
    refine z_if_eq hC 164 (by decide) dX9_power__154 (fun q154_4 => ?_) (fun q154_4 => ?_)
    · replace h := z_t q154_4 h
      refine z_aload_n hC 2 rfl rfl dX9_power__164 ?_
      refine z_lload hC 1 rfl dX9_power__165 ?_
      refine z_lload hC 0 rfl dX9_power__167 ?_
      refine z_b1 h (fun s169_5 e_s169_5 h => ?_)
      refine z_cV2v hC (ctX9_is hC.hm e_s169_5) (rcX9 hC) kb_X9_is km_X9_243 ⟨by decide, by decide⟩ (Nat.le_of_ble_eq_true rfl) dX9_power__169 ?_
      obtain rfl := z_so h
      exact z_vret hC hQ dX9_power__172
    · replace h := z_f q154_4 h
      refine z_aload_n hC 2 rfl rfl dX9_power__157 ?_
      refine z_b1 h (fun s158_6 e_s158_6 h => ?_)
      refine z_cV0v hC (ctX9_isHole hC.hm e_s158_6) (rcX9 hC) kb_X9_isHole km_X9_247 ⟨by decide, by decide⟩ (Nat.le_of_ble_eq_true rfl) dX9_power__158 ?_
      refine z_goto hC 172 (by decide) dX9_power__161 ?_
      obtain rfl := z_so h
      exact z_vret hC hQ dX9_power__172
  · replace h := z_f q44_1 h
    refine z_aload_n hC 1 rfl rfl dX9_power__48 ?_
    refine z_lload_n hC 2 rfl rfl dX9_power__49 ?_
    refine z_lneg hC dX9_power__50 ?_
    refine z_iload hC 3 rfl dX9_power__51 ?_
    refine z_iconst hC (0 : Int32) (by decide) dX9_power__53 ?_
    refine z_b2 h (fun r54_7 s54_8 e_r54_7 h => ?_)
    refine z_cV3r hC (ctX9_size hC.hm e_r54_7) (rcX9 hC) kb_X9_size km_X9_255 ⟨by decide, by decide⟩ (Nat.le_of_ble_eq_true rfl) dX9_power__54 ?_
    refine z_lneg hC dX9_power__57 ?_
    refine z_goto hC 69 (by decide) dX9_power__58 ?_
    refine z_nmL h (fun x69_9 h => ?_)
    refine z_lstore hC [(8, .long x69_9), (6, .long t0), (0, .ref (zAd T (61))), (3, .long v3), (5, .int v5)] (by rw [hN]; decide) rfl dX9_power__69 ?_
    refine z_goto hC 150 (by decide) dX9_power__71 ?_
    refine z_aload_n hC 2 rfl rfl dX9_power__150 ?_
    refine gX9_22 hC kf_X9_250 (gi s54_8 61 22) rfl dX9_power__151 ?_
    refine z_if_eq hC 164 (by decide) dX9_power__154 (fun q154_10 => ?_) (fun q154_10 => ?_)
    · replace h := z_t q154_10 h
      refine z_aload_n hC 2 rfl rfl dX9_power__164 ?_
      refine z_lload hC 1 rfl dX9_power__165 ?_
      refine z_lload hC 0 rfl dX9_power__167 ?_
      refine z_b1 h (fun s169_11 e_s169_11 h => ?_)
      refine z_cV2v hC (ctX9_is hC.hm e_s169_11) (rcX9 hC) kb_X9_is km_X9_243 ⟨by decide, by decide⟩ (Nat.le_of_ble_eq_true rfl) dX9_power__169 ?_
      obtain rfl := z_so h
      exact z_vret hC hQ dX9_power__172
    · replace h := z_f q154_10 h
      refine z_aload_n hC 2 rfl rfl dX9_power__157 ?_
      refine z_b1 h (fun s158_12 e_s158_12 h => ?_)
      refine z_cV0v hC (ctX9_isHole hC.hm e_s158_12) (rcX9 hC) kb_X9_isHole km_X9_247 ⟨by decide, by decide⟩ (Nat.le_of_ble_eq_true rfl) dX9_power__158 ?_
      refine z_goto hC 172 (by decide) dX9_power__161 ?_
      obtain rfl := z_so h
      exact z_vret hC hQ dX9_power__172
set_option maxRecDepth 100000 in
set_option maxHeartbeats 4000000 in
theorem wX9_power__126 {T : zX} (hC : zOk T cX9_power_ RX9 2 52 61 85) (hN : zNL T = 14) {σ' : zSt} (hQ : zRes T none (none) σ') (v5 : Int32) (v10 : Int64) (v12 : Int64) (t0 : Int64)  (σ : zSt) (h : fX9_power__126 v5 v10 v12 t0 σ = some σ') : Z T σ 126 [(0, .ref (zAd T (61))), (5, .int v5), (10, .long v10), (12, .long v12)] [.long t0, .ref (zAd T (61))] := by
  unfold fX9_power__126 at h
  refine z_iload hC 1 rfl dX9_power__126 ?_
  refine z_iconst hC (0 : Int32) (by decide) dX9_power__128 ?_
  refine z_b2 h (fun r129_1 s129_2 e_r129_1 h => ?_)
  refine z_cV3r hC (ctX9_size hC.hm e_r129_1) (rcX9 hC) kb_X9_size km_X9_255 ⟨by decide, by decide⟩ (Nat.le_of_ble_eq_true rfl) dX9_power__129 ?_
  refine z_lstore hC [(6, .long r129_1), (0, .ref (zAd T (61))), (5, .int v5), (10, .long v10), (12, .long v12)] (by rw [hN]; decide) rfl dX9_power__132 ?_
  refine z_aload_n hC 1 rfl rfl dX9_power__134 ?_
  refine z_lload hC 3 rfl dX9_power__135 ?_
  refine z_lload hC 4 rfl dX9_power__137 ?_
  refine z_cS2r hC (ctX9_more hC.hm) kb_X9_more km_X9_240 ⟨by decide, by decide⟩ (Nat.le_of_ble_eq_true rfl) dX9_power__139 ?_
  refine z_iload hC 2 rfl dX9_power__142 ?_
  refine z_iconst hC (1 : Int32) (by decide) dX9_power__144 ?_
  refine z_b2 h (fun r145_3 s145_4 e_r145_3 h => ?_)
  refine z_cV3r hC (ctX9_size hC.hm e_r145_3) (rcX9 hC) kb_X9_size km_X9_255 ⟨by decide, by decide⟩ (Nat.le_of_ble_eq_true rfl) dX9_power__145 ?_
  refine z_lstore hC [(8, .long r145_3), (6, .long r129_1), (0, .ref (zAd T (61))), (5, .int v5), (10, .long v10), (12, .long v12)] (by rw [hN]; decide) rfl dX9_power__148 ?_
  refine z_aload_n hC 2 rfl rfl dX9_power__150 ?_
  refine gX9_22 hC kf_X9_250 (gi s145_4 61 22) rfl dX9_power__151 ?_
  refine z_if_eq hC 164 (by decide) dX9_power__154 (fun q154_5 => ?_) (fun q154_5 => ?_)
  · replace h := z_t q154_5 h
    refine z_aload_n hC 2 rfl rfl dX9_power__164 ?_
    refine z_lload hC 1 rfl dX9_power__165 ?_
    refine z_lload hC 0 rfl dX9_power__167 ?_
    refine z_b1 h (fun s169_6 e_s169_6 h => ?_)
    refine z_cV2v hC (ctX9_is hC.hm e_s169_6) (rcX9 hC) kb_X9_is km_X9_243 ⟨by decide, by decide⟩ (Nat.le_of_ble_eq_true rfl) dX9_power__169 ?_
    obtain rfl := z_so h
    exact z_vret hC hQ dX9_power__172
  · replace h := z_f q154_5 h
    refine z_aload_n hC 2 rfl rfl dX9_power__157 ?_
    refine z_b1 h (fun s158_7 e_s158_7 h => ?_)
    refine z_cV0v hC (ctX9_isHole hC.hm e_s158_7) (rcX9 hC) kb_X9_isHole km_X9_247 ⟨by decide, by decide⟩ (Nat.le_of_ble_eq_true rfl) dX9_power__158 ?_
    refine z_goto hC 172 (by decide) dX9_power__161 ?_
    obtain rfl := z_so h
    exact z_vret hC hQ dX9_power__172
set_option maxRecDepth 100000 in
set_option maxHeartbeats 4000000 in
theorem wX9_power__100 {T : zX} (hC : zOk T cX9_power_ RX9 2 52 61 85) (hN : zNL T = 14) {σ' : zSt} (hQ : zRes T none (none) σ') (v1 : Int64) (v3 : Int64) (v5 : Int32) (v10 : Int64) (t0 : Int64)  (σ : zSt) (h : fX9_power__100 v1 v3 v5 v10 t0 σ = some σ') : Z T σ 100 [(0, .ref (zAd T (61))), (1, .long v1), (3, .long v3), (5, .int v5), (10, .long v10)] [.long t0] := by
  unfold fX9_power__100 at h
  refine z_lstore hC [(12, .long t0), (0, .ref (zAd T (61))), (1, .long v1), (3, .long v3), (5, .int v5), (10, .long v10)] (by rw [hN]; decide) rfl dX9_power__100 ?_
  refine z_aload_n hC 1 rfl rfl dX9_power__102 ?_
  refine z_lload_n hC 2 rfl rfl dX9_power__103 ?_
  refine z_lconst hC (0 : Int64) (by decide) dX9_power__104 ?_
  refine z_cmp_gt hC 119 (by decide) dX9_power__105 dX9_power__106 (fun q105_1 => ?_) (fun q105_1 => ?_)
  · replace h := z_t q105_1 h
    refine z_lload hC 5 rfl dX9_power__119 ?_
    refine z_lload hC 0 rfl dX9_power__121 ?_
    refine z_cS2r hC (ctX9_less hC.hm) kb_X9_less km_X9_237 ⟨by decide, by decide⟩ (Nat.le_of_ble_eq_true rfl) dX9_power__123 ?_
    refine z_sub [(0, .ref (zAd T (61))), (5, .int v5), (10, .long v10), (12, .long t0)] [1, 4, 5, 0] rfl ?_
    exact (wX9_power__126 hC hN hQ ) _ _ _ _ _ h
  · replace h := z_f q105_1 h
    refine z_lload_n hC 3 rfl rfl dX9_power__109 ?_
    refine z_lconst hC (0 : Int64) (by decide) dX9_power__110 ?_
    refine z_cmp_lt hC 119 (by decide) dX9_power__111 dX9_power__112 (fun q111_2 => ?_) (fun q111_2 => ?_)
    · replace h := z_t q111_2 h
      refine z_lload hC 5 rfl dX9_power__119 ?_
      refine z_lload hC 0 rfl dX9_power__121 ?_
      refine z_cS2r hC (ctX9_less hC.hm) kb_X9_less km_X9_237 ⟨by decide, by decide⟩ (Nat.le_of_ble_eq_true rfl) dX9_power__123 ?_
      refine z_sub [(0, .ref (zAd T (61))), (5, .int v5), (10, .long v10), (12, .long t0)] [1, 4, 5, 0] rfl ?_
      exact (wX9_power__126 hC hN hQ ) _ _ _ _ _ h
    · replace h := z_f q111_2 h
      refine z_lconst hC (0 : Int64) (by decide) dX9_power__115 ?_
      refine z_goto hC 126 (by decide) dX9_power__116 ?_
      refine z_sub [(0, .ref (zAd T (61))), (5, .int v5), (10, .long v10), (12, .long t0)] [1, 4, 5, 0] rfl ?_
      exact (wX9_power__126 hC hN hQ ) _ _ _ _ _ h
set_option maxRecDepth 100000 in
set_option maxHeartbeats 4000000 in
theorem wX9_power__0 {T : zX} (hC : zOk T cX9_power_ RX9 2 52 61 85) (hN : zNL T = 14) {σ' : zSt} (hQ : zRes T none (none) σ') (a1 : Int64) (a3 : Int64) (a5 : Int32)  (σ : zSt) (h : fX9_power__0 a1 a3 a5 σ = some σ') : Z T σ 0 [(0, .ref (zAd T (61))), (1, .long a1), (3, .long a3), (5, .int a5)] [] := by
  unfold fX9_power__0 at h
  refine z_aload_n hC 0 rfl rfl dX9_power__0 ?_
  refine z_iconst hC (0 : Int32) (by decide) dX9_power__1 ?_
  refine pX9_22 hC kf_X9_250 (by decide) dX9_power__2 ?_
  refine z_iload hC 3 rfl dX9_power__5 ?_
  refine z_iconst hC (2 : Int32) (by decide) dX9_power__7 ?_
  refine z_irem hC (by decide) dX9_power__8 ?_
  refine z_iconst hC (1 : Int32) (by decide) dX9_power__9 ?_
  refine z_icmp_ne hC 74 (by decide) dX9_power__10 (fun q10_1 => ?_) (fun q10_1 => ?_)
  · replace h := z_f q10_1 h
    refine z_lload_n hC 1 rfl rfl dX9_power__74 ?_
    refine z_lconst hC (0 : Int64) (by decide) dX9_power__75 ?_
    refine z_cmp_ge hC 85 (by decide) dX9_power__76 dX9_power__77 (fun q76_2 => ?_) (fun q76_2 => ?_)
    · replace h := z_t q76_2 h
      refine z_lload_n hC 1 rfl rfl dX9_power__85 ?_
      refine z_lstore hC [(10, .long a1), (0, .ref (zAd T (61))), (1, .long a1), (3, .long a3), (5, .int a5)] (by rw [hN]; decide) rfl dX9_power__86 ?_
      refine z_lload_n hC 3 rfl rfl dX9_power__88 ?_
      refine z_lconst hC (0 : Int64) (by decide) dX9_power__89 ?_
      refine z_cmp_ge hC 99 (by decide) dX9_power__90 dX9_power__91 (fun q90_3 => ?_) (fun q90_3 => ?_)
      · replace h := z_t q90_3 h
        refine z_lload_n hC 3 rfl rfl dX9_power__99 ?_
        refine z_sub [(0, .ref (zAd T (61))), (1, .long a1), (3, .long a3), (5, .int a5), (10, .long a1)] [1, 2, 3, 4, 0] rfl ?_
        exact (wX9_power__100 hC hN hQ ) _ _ _ _ _ _ h
      · replace h := z_f q90_3 h
        refine z_lload_n hC 3 rfl rfl dX9_power__94 ?_
        refine z_lneg hC dX9_power__95 ?_
        refine z_goto hC 100 (by decide) dX9_power__96 ?_
        refine z_sub [(0, .ref (zAd T (61))), (1, .long a1), (3, .long a3), (5, .int a5), (10, .long a1)] [1, 2, 3, 4, 0] rfl ?_
        exact (wX9_power__100 hC hN hQ ) _ _ _ _ _ _ h
    · replace h := z_f q76_2 h
      refine z_lload_n hC 1 rfl rfl dX9_power__80 ?_
      refine z_lneg hC dX9_power__81 ?_
      refine z_goto hC 86 (by decide) dX9_power__82 ?_
      refine z_nmL h (fun x86_4 h => ?_)
      refine z_lstore hC [(10, .long x86_4), (0, .ref (zAd T (61))), (1, .long a1), (3, .long a3), (5, .int a5)] (by rw [hN]; decide) rfl dX9_power__86 ?_
      refine z_lload_n hC 3 rfl rfl dX9_power__88 ?_
      refine z_lconst hC (0 : Int64) (by decide) dX9_power__89 ?_
      refine z_cmp_ge hC 99 (by decide) dX9_power__90 dX9_power__91 (fun q90_5 => ?_) (fun q90_5 => ?_)
      · replace h := z_t q90_5 h
        refine z_lload_n hC 3 rfl rfl dX9_power__99 ?_
        refine z_sub [(0, .ref (zAd T (61))), (1, .long a1), (3, .long a3), (5, .int a5), (10, .long x86_4)] [1, 2, 3, 4, 0] rfl ?_
        exact (wX9_power__100 hC hN hQ ) _ _ _ _ _ _ h
      · replace h := z_f q90_5 h
        refine z_lload_n hC 3 rfl rfl dX9_power__94 ?_
        refine z_lneg hC dX9_power__95 ?_
        refine z_goto hC 100 (by decide) dX9_power__96 ?_
        refine z_sub [(0, .ref (zAd T (61))), (1, .long a1), (3, .long a3), (5, .int a5), (10, .long x86_4)] [1, 2, 3, 4, 0] rfl ?_
        exact (wX9_power__100 hC hN hQ ) _ _ _ _ _ _ h
  · replace h := z_t q10_1 h
    refine z_lload_n hC 1 rfl rfl dX9_power__13 ?_
    refine z_lconst hC (0 : Int64) (by decide) dX9_power__14 ?_
    refine z_cmp_ge hC 32 (by decide) dX9_power__15 dX9_power__16 (fun q15_6 => ?_) (fun q15_6 => ?_)
    · replace h := z_t q15_6 h
      refine z_aload_n hC 0 rfl rfl dX9_power__32 ?_
      refine z_lload_n hC 1 rfl rfl dX9_power__33 ?_
      refine z_iload hC 3 rfl dX9_power__34 ?_
      refine z_iconst hC (0 : Int32) (by decide) dX9_power__36 ?_
      refine z_b2 h (fun r37_7 s37_8 e_r37_7 h => ?_)
      refine z_cV3r hC (ctX9_size hC.hm e_r37_7) (rcX9 hC) kb_X9_size km_X9_255 ⟨by decide, by decide⟩ (Nat.le_of_ble_eq_true rfl) dX9_power__37 ?_
      refine z_sub [(0, .ref (zAd T (61))), (3, .long a3), (5, .int a5)] [0, 2, 3] rfl ?_
      exact (wX9_power__40 hC hN hQ ) _ _ _ _ h
    · replace h := z_f q15_6 h
      refine z_aload_n hC 0 rfl rfl dX9_power__19 ?_
      refine z_lload_n hC 1 rfl rfl dX9_power__20 ?_
      refine z_lneg hC dX9_power__21 ?_
      refine z_iload hC 3 rfl dX9_power__22 ?_
      refine z_iconst hC (1 : Int32) (by decide) dX9_power__24 ?_
      refine z_b2 h (fun r25_9 s25_10 e_r25_9 h => ?_)
      refine z_cV3r hC (ctX9_size hC.hm e_r25_9) (rcX9 hC) kb_X9_size km_X9_255 ⟨by decide, by decide⟩ (Nat.le_of_ble_eq_true rfl) dX9_power__25 ?_
      refine z_lneg hC dX9_power__28 ?_
      refine z_goto hC 40 (by decide) dX9_power__29 ?_
      refine z_sub [(0, .ref (zAd T (61))), (3, .long a3), (5, .int a5)] [0, 2, 3] rfl ?_
      exact (wX9_power__40 hC hN hQ ) _ _ _ _ h
set_option maxRecDepth 100000 in
theorem ctX9_power_ {l : Launch} {G : zGt} {mk : zSt → zSt} (hm : zM mk 61 85) {a1 : Int64} {a3 : Int64} {a5 : Int32} {σ : zSt} {σ' : zSt} (h : fX9_power_ a1 a3 a5 σ = some σ') : zMet l G mk yX9_power_ cX9_power_ 14 none 2 52 [.ref (gA G (61)), .long a1, .long a3, .int a5] σ (none) σ' := by
  unfold fX9_power_ at h

  refine zMet.of (plainFor_of_name (by decide +kernel)) hm (Nat.le_of_ble_eq_true rfl) (fun T eL eG eM hN hC hQ => ?_)
  subst eL; subst eG; subst eM
  refine z_sub [(0, .ref (zAd T (61))), (1, .long a1), (3, .long a3), (5, .int a5)] [0, 1, 2, 3] rfl ?_
  exact wX9_power__0 hC hN hQ _ _ _  _ h
noncomputable def fX9_rootDown_7 (K7 : Int64 → Int64 → Int64 → Option Int64) (v0 : Int64) (v2 : Int64) (v4 : Int64) : Option Int64 := 
    (if v4 ≤ (0 : Int64) then some v2
    else 
      (if v0 < ((v2 + v4) * (v2 + v4)) then nm (jshrL v4 (1 : Int32)) fun x37_3 => K7 v0 v2 x37_3
      else nm (v2 + v4) fun x32_4 => nm (jshrL v4 (1 : Int32)) fun x37_5 => K7 v0 x32_4 x37_5))
noncomputable def fX9_rootDown_L7 : Nat → Int64 → Int64 → Int64 → Option Int64
  | 0, _, _, _ => none
  | n + 1, v0, v2, v4 => fX9_rootDown_7 (fX9_rootDown_L7 n) v0 v2 v4 
noncomputable def fX9_rootDown_0 (a0 : Int64) : Option Int64 := fX9_rootDown_L7 zFU a0 (0 : Int64) (67108864 : Int64)
noncomputable def fX9_rootDown (a0 : Int64) : Option Int64 := fX9_rootDown_0 a0
set_option maxRecDepth 100000 in
set_option maxHeartbeats 4000000 in
theorem wX9_rootDown_7 {T : zX} {cl ch : Nat} {σ : zSt} (hC : zOk T cX9_rootDown RX9 0 0 cl ch) (hN : zNL T = 6) {r : Int64} (hQ : zRes T (some .long) (some (.long r)) σ) (K7 : Int64 → Int64 → Int64 → Option Int64) (hK7 : ∀ (v0 : Int64) (v2 : Int64) (v4 : Int64), K7 v0 v2 v4  = some r → Z T σ 7 [(0, .long v0), (2, .long v2), (4, .long v4)] []) (v0 : Int64) (v2 : Int64) (v4 : Int64)  (h : fX9_rootDown_7 K7 v0 v2 v4  = some r) : Z T σ 7 [(0, .long v0), (2, .long v2), (4, .long v4)] [] := by
  unfold fX9_rootDown_7 at h
  refine z_lload hC 2 rfl dX9_rootDown_7 ?_
  refine z_lconst hC (0 : Int64) (by decide) dX9_rootDown_9 ?_
  refine z_cmp_le hC 42 (by decide) dX9_rootDown_10 dX9_rootDown_11 (fun q10_1 => ?_) (fun q10_1 => ?_)
  · replace h := z_t q10_1 h
    refine z_lload_n hC 1 rfl rfl dX9_rootDown_42 ?_
    obtain rfl := z_so h
    exact z_lret hC hQ dX9_rootDown_43
  · replace h := z_f q10_1 h
    refine z_lload_n hC 1 rfl rfl dX9_rootDown_14 ?_
    refine z_lload hC 2 rfl dX9_rootDown_15 ?_
    refine z_ladd hC dX9_rootDown_17 ?_
    refine z_lload_n hC 1 rfl rfl dX9_rootDown_18 ?_
    refine z_lload hC 2 rfl dX9_rootDown_19 ?_
    refine z_ladd hC dX9_rootDown_21 ?_
    refine z_lmul hC dX9_rootDown_22 ?_
    refine z_lload_n hC 0 rfl rfl dX9_rootDown_23 ?_
    refine z_cmp_gt hC 33 (by decide) dX9_rootDown_24 dX9_rootDown_25 (fun q24_2 => ?_) (fun q24_2 => ?_)
    · replace h := z_t q24_2 h
      refine z_lload hC 2 rfl dX9_rootDown_33 ?_
      refine z_iconst hC (1 : Int32) (by decide) dX9_rootDown_35 ?_
      refine z_lshr hC dX9_rootDown_36 ?_
      refine z_nmL h (fun x37_3 h => ?_)
      refine z_lstore hC [(4, .long x37_3), (0, .long v0), (2, .long v2)] (by rw [hN]; decide) rfl dX9_rootDown_37 ?_
      refine z_goto hC 7 (by decide) dX9_rootDown_39 ?_
      refine z_sub [(0, .long v0), (2, .long v2), (4, .long x37_3)] [1, 2, 0] rfl ?_
      exact hK7 _ _ _ h
    · replace h := z_f q24_2 h
      refine z_lload_n hC 1 rfl rfl dX9_rootDown_28 ?_
      refine z_lload hC 2 rfl dX9_rootDown_29 ?_
      refine z_ladd hC dX9_rootDown_31 ?_
      refine z_nmL h (fun x32_4 h => ?_)
      refine z_lstore_n hC [(2, .long x32_4), (0, .long v0), (4, .long v4)] rfl (by rw [hN]; decide) rfl dX9_rootDown_32 ?_
      refine z_lload hC 2 rfl dX9_rootDown_33 ?_
      refine z_iconst hC (1 : Int32) (by decide) dX9_rootDown_35 ?_
      refine z_lshr hC dX9_rootDown_36 ?_
      refine z_nmL h (fun x37_5 h => ?_)
      refine z_lstore hC [(4, .long x37_5), (2, .long x32_4), (0, .long v0)] (by rw [hN]; decide) rfl dX9_rootDown_37 ?_
      refine z_goto hC 7 (by decide) dX9_rootDown_39 ?_
      refine z_sub [(0, .long v0), (2, .long x32_4), (4, .long x37_5)] [2, 1, 0] rfl ?_
      exact hK7 _ _ _ h
theorem wX9_rootDown_L7 {T : zX} {cl ch : Nat} {σ : zSt} (hC : zOk T cX9_rootDown RX9 0 0 cl ch) (hN : zNL T = 6) {r : Int64} (hQ : zRes T (some .long) (some (.long r)) σ) (n : Nat) : ∀ (v0 : Int64) (v2 : Int64) (v4 : Int64), fX9_rootDown_L7 n v0 v2 v4  = some r → Z T σ 7 [(0, .long v0), (2, .long v2), (4, .long v4)] [] := by
  induction n with
  | zero => intro v0 v2 v4 h; cases h
  | succ n ih => intro v0 v2 v4 h; exact wX9_rootDown_7 hC hN hQ (fX9_rootDown_L7 n) ih v0 v2 v4 h
set_option maxRecDepth 100000 in
set_option maxHeartbeats 4000000 in
theorem wX9_rootDown_0 {T : zX} {cl ch : Nat} {σ : zSt} (hC : zOk T cX9_rootDown RX9 0 0 cl ch) (hN : zNL T = 6) {r : Int64} (hQ : zRes T (some .long) (some (.long r)) σ) (a0 : Int64)  (h : fX9_rootDown_0 a0  = some r) : Z T σ 0 [(0, .long a0)] [] := by
  unfold fX9_rootDown_0 at h
  refine z_lconst hC (0 : Int64) (by decide) dX9_rootDown_0 ?_
  refine z_lstore_n hC [(2, .long (0 : Int64)), (0, .long a0)] rfl (by rw [hN]; decide) rfl dX9_rootDown_1 ?_
  refine z_ldc2 hC kc_X9_258 dX9_rootDown_2 ?_
  refine z_lstore hC [(4, .long (67108864 : Int64)), (2, .long (0 : Int64)), (0, .long a0)] (by rw [hN]; decide) rfl dX9_rootDown_5 ?_
  refine z_sub [(0, .long a0), (2, .long (0 : Int64)), (4, .long (67108864 : Int64))] [2, 1, 0] rfl ?_
  exact (wX9_rootDown_L7 hC hN hQ zFU) _ _ _ h
set_option maxRecDepth 100000 in
theorem ctX9_rootDown {l : Launch} {G : zGt} {mk : zSt → zSt} {cl ch : Nat} (hm : zM mk cl ch) {a0 : Int64} {σ : zSt} {r : Int64} (h : fX9_rootDown a0  = some r) : zMet l G mk yX9_rootDown cX9_rootDown 6 (some .long) 0 0 [.long a0] σ (some (.long r)) σ := by
  unfold fX9_rootDown at h

  refine zMet.of (plainFor_of_name (by decide +kernel)) hm (Nat.le_of_ble_eq_true rfl) (fun T eL eG eM hN hC hQ => ?_)
  subst eL; subst eG; subst eM
  refine z_sub [(0, .long a0)] [0] rfl ?_
  exact wX9_rootDown_0 hC hN hQ _  h
noncomputable def fX9_root_0 (a1 : Int64) (a3 : Int64) (σ : zSt) : Option zSt := 
    (if (0 : Int64) ≤ a1 then bd1 (fX9_rootDown (a3 * (1048576 : Int64))) fun r16_2 => bd1 (fX9_rootDown (a1 * (1048576 : Int64))) fun r27_3 => 
      (if (r16_2 * r16_2) = (a3 * (1048576 : Int64)) then bd1 (fX9_is r27_3 r16_2 σ) fun s53_6 => some s53_6
      else bd1 (fX9_is r27_3 (r16_2 + (1 : Int64)) σ) fun s53_5 => some s53_5)
    else bd1 (fX9_isHole σ) fun s7_7 => some s7_7)
noncomputable def fX9_root (a1 : Int64) (a3 : Int64) (σ : zSt) : Option zSt := fX9_root_0 a1 a3 σ
set_option maxRecDepth 100000 in
set_option maxHeartbeats 4000000 in
theorem wX9_root_0 {T : zX} (hC : zOk T cX9_root RX9 1 25 61 85) (hN : zNL T = 7) {σ' : zSt} (hQ : zRes T none (none) σ') (a1 : Int64) (a3 : Int64)  (σ : zSt) (h : fX9_root_0 a1 a3 σ = some σ') : Z T σ 0 [(0, .ref (zAd T (61))), (1, .long a1), (3, .long a3)] [] := by
  unfold fX9_root_0 at h
  refine z_lload_n hC 1 rfl rfl dX9_root_0 ?_
  refine z_lconst hC (0 : Int64) (by decide) dX9_root_1 ?_
  refine z_cmp_ge hC 11 (by decide) dX9_root_2 dX9_root_3 (fun q2_1 => ?_) (fun q2_1 => ?_)
  · replace h := z_t q2_1 h
    refine z_lload_n hC 2 rfl rfl dX9_root_11 ?_
    refine z_ldc2 hC kc_X9_207 dX9_root_12 ?_
    refine z_lmul hC dX9_root_15 ?_
    refine z_b1 h (fun r16_2 e_r16_2 h => ?_)
    refine z_cS1r hC (ctX9_rootDown hC.hm e_r16_2) kb_X9_rootDown km_X9_260 ⟨by decide, by decide⟩ (Nat.le_of_ble_eq_true rfl) dX9_root_16 ?_
    refine z_lstore hC [(5, .long r16_2), (0, .ref (zAd T (61))), (1, .long a1), (3, .long a3)] (by rw [hN]; decide) rfl dX9_root_19 ?_
    refine z_aload_n hC 1 rfl rfl dX9_root_21 ?_
    refine z_lload_n hC 2 rfl rfl dX9_root_22 ?_
    refine z_ldc2 hC kc_X9_207 dX9_root_23 ?_
    refine z_lmul hC dX9_root_26 ?_
    refine z_b1 h (fun r27_3 e_r27_3 h => ?_)
    refine z_cS1r hC (ctX9_rootDown hC.hm e_r27_3) kb_X9_rootDown km_X9_260 ⟨by decide, by decide⟩ (Nat.le_of_ble_eq_true rfl) dX9_root_27 ?_
    refine z_lload hC 0 rfl dX9_root_30 ?_
    refine z_lload hC 0 rfl dX9_root_32 ?_
    refine z_lmul hC dX9_root_34 ?_
    refine z_lload_n hC 3 rfl rfl dX9_root_35 ?_
    refine z_ldc2 hC kc_X9_207 dX9_root_36 ?_
    refine z_lmul hC dX9_root_39 ?_
    refine z_cmp_ne hC 49 (by decide) dX9_root_40 dX9_root_41 (fun q40_4 => ?_) (fun q40_4 => ?_)
    · replace h := z_f q40_4 h
      refine z_lload hC 0 rfl dX9_root_49 ?_
      refine z_lconst hC (1 : Int64) (by decide) dX9_root_51 ?_
      refine z_ladd hC dX9_root_52 ?_
      refine z_b1 h (fun s53_5 e_s53_5 h => ?_)
      refine z_cV2v hC (ctX9_is hC.hm e_s53_5) (rcX9 hC) kb_X9_is km_X9_243 ⟨by decide, by decide⟩ (Nat.le_of_ble_eq_true rfl) dX9_root_53 ?_
      obtain rfl := z_so h
      exact z_vret hC hQ dX9_root_56
    · replace h := z_t q40_4 h
      refine z_lload hC 0 rfl dX9_root_44 ?_
      refine z_goto hC 53 (by decide) dX9_root_46 ?_
      refine z_b1 h (fun s53_6 e_s53_6 h => ?_)
      refine z_cV2v hC (ctX9_is hC.hm e_s53_6) (rcX9 hC) kb_X9_is km_X9_243 ⟨by decide, by decide⟩ (Nat.le_of_ble_eq_true rfl) dX9_root_53 ?_
      obtain rfl := z_so h
      exact z_vret hC hQ dX9_root_56
  · replace h := z_f q2_1 h
    refine z_aload_n hC 0 rfl rfl dX9_root_6 ?_
    refine z_b1 h (fun s7_7 e_s7_7 h => ?_)
    refine z_cV0v hC (ctX9_isHole hC.hm e_s7_7) (rcX9 hC) kb_X9_isHole km_X9_247 ⟨by decide, by decide⟩ (Nat.le_of_ble_eq_true rfl) dX9_root_7 ?_
    obtain rfl := z_so h
    exact z_vret hC hQ dX9_root_10
set_option maxRecDepth 100000 in
theorem ctX9_root {l : Launch} {G : zGt} {mk : zSt → zSt} (hm : zM mk 61 85) {a1 : Int64} {a3 : Int64} {σ : zSt} {σ' : zSt} (h : fX9_root a1 a3 σ = some σ') : zMet l G mk yX9_root cX9_root 7 none 1 25 [.ref (gA G (61)), .long a1, .long a3] σ (none) σ' := by
  unfold fX9_root at h

  refine zMet.of (plainFor_of_name (by decide +kernel)) hm (Nat.le_of_ble_eq_true rfl) (fun T eL eG eM hN hC hQ => ?_)
  subst eL; subst eG; subst eM
  refine z_sub [(0, .ref (zAd T (61))), (1, .long a1), (3, .long a3)] [0, 1, 2] rfl ?_
  exact wX9_root_0 hC hN hQ _ _  _ h
noncomputable def fX9_cut_0 (a0 : Int64) (a2 : Int64) (a4 : Int32) : Option Int64 := 
    (if a4 = 0 then bd1 (fX9_down a0 a2) fun r15_2 => some r15_2
    else bd1 (fX9_up a0 a2) fun r7_3 => some r7_3)
noncomputable def fX9_cut (a0 : Int64) (a2 : Int64) (a4 : Int32) : Option Int64 := fX9_cut_0 a0 a2 a4
set_option maxRecDepth 100000 in
set_option maxHeartbeats 4000000 in
theorem wX9_cut_0 {T : zX} {cl ch : Nat} {σ : zSt} (hC : zOk T cX9_cut RX9 1 25 cl ch) (hN : zNL T = 5) {r : Int64} (hQ : zRes T (some .long) (some (.long r)) σ) (a0 : Int64) (a2 : Int64) (a4 : Int32)  (h : fX9_cut_0 a0 a2 a4  = some r) : Z T σ 0 [(0, .long a0), (2, .long a2), (4, .int a4)] [] := by
  unfold fX9_cut_0 at h
  refine z_iload hC 2 rfl dX9_cut_0 ?_
  refine z_if_eq hC 13 (by decide) dX9_cut_2 (fun q2_1 => ?_) (fun q2_1 => ?_)
  · replace h := z_t q2_1 h
    refine z_lload_n hC 0 rfl rfl dX9_cut_13 ?_
    refine z_lload_n hC 1 rfl rfl dX9_cut_14 ?_
    refine z_b1 h (fun r15_2 e_r15_2 h => ?_)
    refine z_cS2r hC (ctX9_down hC.hm e_r15_2) kb_X9_down km_X9_209 ⟨by decide, by decide⟩ (Nat.le_of_ble_eq_true rfl) dX9_cut_15 ?_
    obtain rfl := z_so h
    exact z_lret hC hQ dX9_cut_18
  · replace h := z_f q2_1 h
    refine z_lload_n hC 0 rfl rfl dX9_cut_5 ?_
    refine z_lload_n hC 1 rfl rfl dX9_cut_6 ?_
    refine z_b1 h (fun r7_3 e_r7_3 h => ?_)
    refine z_cS2r hC (ctX9_up hC.hm e_r7_3) kb_X9_up km_X9_213 ⟨by decide, by decide⟩ (Nat.le_of_ble_eq_true rfl) dX9_cut_7 ?_
    refine z_goto hC 18 (by decide) dX9_cut_10 ?_
    obtain rfl := z_so h
    exact z_lret hC hQ dX9_cut_18
set_option maxRecDepth 100000 in
theorem ctX9_cut {l : Launch} {G : zGt} {mk : zSt → zSt} {cl ch : Nat} (hm : zM mk cl ch) {a0 : Int64} {a2 : Int64} {a4 : Int32} {σ : zSt} {r : Int64} (h : fX9_cut a0 a2 a4  = some r) : zMet l G mk yX9_cut cX9_cut 5 (some .long) 1 25 [.long a0, .long a2, .int a4] σ (some (.long r)) σ := by
  unfold fX9_cut at h

  refine zMet.of (plainFor_of_name (by decide +kernel)) hm (Nat.le_of_ble_eq_true rfl) (fun T eL eG eM hN hC hQ => ?_)
  subst eL; subst eG; subst eM
  refine z_sub [(0, .long a0), (2, .long a2), (4, .int a4)] [0, 1, 2] rfl ?_
  exact wX9_cut_0 hC hN hQ _ _ _  h
noncomputable def fX9_power___150 (K150 : Int32 → Int64 → Int64 → Option Int64) (v2 : Int32) (v3 : Int64) (v7 : Int64) : Option Int64 := 
    (if (0 : Int64) ≤ v3 then bd1 (fX9_cut v7 (16 : Int64) v2) fun r194_2 => some r194_2
    else 
      (if v2 = 0 then bd1 (fX9_cut (v7 * (6171992 : Int64)) (16777216 : Int64) v2) fun r176_4 => nm (v3 + (1 : Int64)) fun x184_5 => K150 v2 x184_5 r176_4
      else bd1 (fX9_cut (v7 * (6171993 : Int64)) (16777216 : Int64) v2) fun r176_6 => nm (v3 + (1 : Int64)) fun x184_7 => K150 v2 x184_7 r176_6))
noncomputable def fX9_power___L150 : Nat → Int32 → Int64 → Int64 → Option Int64
  | 0, _, _, _ => none
  | n + 1, v2, v3, v7 => fX9_power___150 (fX9_power___L150 n) v2 v3 v7 
noncomputable def fX9_power___112 (K112 : Int32 → Int64 → Int64 → Option Int64) (v2 : Int32) (v3 : Int64) (v7 : Int64) : Option Int64 := 
    (if v3 ≤ (0 : Int64) then fX9_power___L150 zFU v2 v3 v7
    else 
      (if v2 = 0 then bd1 (fX9_cut (v7 * (45605201 : Int64)) (16777216 : Int64) v2) fun r138_3 => nm (v3 - (1 : Int64)) fun x146_4 => K112 v2 x146_4 r138_3
      else bd1 (fX9_cut (v7 * (45605202 : Int64)) (16777216 : Int64) v2) fun r138_5 => nm (v3 - (1 : Int64)) fun x146_6 => K112 v2 x146_6 r138_5))
noncomputable def fX9_power___L112 : Nat → Int32 → Int64 → Int64 → Option Int64
  | 0, _, _, _ => none
  | n + 1, v2, v3, v7 => fX9_power___112 (fX9_power___L112 n) v2 v3 v7 
noncomputable def fX9_power___51 (K51 : Int32 → Int64 → Int64 → Int64 → Int64 → Int32 → Option Int64) (v2 : Int32) (v3 : Int64) (v5 : Int64) (v7 : Int64) (v9 : Int64) (v11 : Int32) : Option Int64 := 
    (if (14 : Int32) < v11 then 
      (if v2 = 0 then nm (v7 + (0 : Int64)) fun x110_3 => fX9_power___L112 zFU v2 v3 x110_3
      else nm (v7 + (1 : Int64)) fun x110_4 => fX9_power___L112 zFU v2 v3 x110_4)
    else 
      (if v11 ≤ (1 : Int32) then nm (v7 + v9) fun x90_6 => nm (v11 + (1 : Int32)) fun x92_7 => K51 v2 v3 v5 x90_6 v9 x92_7
      else bd1 (fX9_cut (v9 * v5) (16777216 : Int64) v2) fun r73_8 => bd1 (fX9_cut r73_8 (Int32.toInt64 v11) v2) fun r80_9 => nm (v7 + r80_9) fun x90_10 => nm (v11 + (1 : Int32)) fun x92_11 => K51 v2 v3 v5 x90_10 r80_9 x92_11))
noncomputable def fX9_power___L51 : Nat → Int32 → Int64 → Int64 → Int64 → Int64 → Int32 → Option Int64
  | 0, _, _, _, _, _, _ => none
  | n + 1, v2, v3, v5, v7, v9, v11 => fX9_power___51 (fX9_power___L51 n) v2 v3 v5 v7 v9 v11 
noncomputable def fX9_power___0 (a0 : Int64) (a2 : Int32) : Option Int64 := 
    (if (-14680064 : Int64) ≤ a0 then bd1 (fX9_down a0 (1048576 : Int64)) fun r22_2 => nm ((16 : Int64) * (a0 - (r22_2 * (1048576 : Int64)))) fun x37_3 => fX9_power___L51 zFU a2 r22_2 x37_3 (16777216 : Int64) x37_3 (1 : Int32)
    else 
      (if a2 = 0 then some (0 : Int64)
      else some (1 : Int64)))
noncomputable def fX9_power__ (a0 : Int64) (a2 : Int32) : Option Int64 := fX9_power___0 a0 a2
set_option maxRecDepth 100000 in
set_option maxHeartbeats 4000000 in
theorem wX9_power___150 {T : zX} {cl ch : Nat} {σ : zSt} (hC : zOk T cX9_power__ RX9 2 49 cl ch) (hN : zNL T = 12) {r : Int64} (hQ : zRes T (some .long) (some (.long r)) σ) (K150 : Int32 → Int64 → Int64 → Option Int64) (hK150 : ∀ (v2 : Int32) (v3 : Int64) (v7 : Int64), K150 v2 v3 v7  = some r → Z T σ 150 [(2, .int v2), (3, .long v3), (7, .long v7)] []) (v2 : Int32) (v3 : Int64) (v7 : Int64)  (h : fX9_power___150 K150 v2 v3 v7  = some r) : Z T σ 150 [(2, .int v2), (3, .long v3), (7, .long v7)] [] := by
  unfold fX9_power___150 at h
  refine z_lload_n hC 1 rfl rfl dX9_power___150 ?_
  refine z_lconst hC (0 : Int64) (by decide) dX9_power___151 ?_
  refine z_cmp_ge hC 188 (by decide) dX9_power___152 dX9_power___153 (fun q152_1 => ?_) (fun q152_1 => ?_)
  · replace h := z_t q152_1 h
    refine z_lload hC 2 rfl dX9_power___188 ?_
    refine z_ldc2 hC kc_X9_266 dX9_power___190 ?_
    refine z_iload_n hC 0 rfl rfl dX9_power___193 ?_
    refine z_b1 h (fun r194_2 e_r194_2 h => ?_)
    refine z_cS3r hC (ctX9_cut hC.hm e_r194_2) kb_X9_cut km_X9_270 ⟨by decide, by decide⟩ (Nat.le_of_ble_eq_true rfl) dX9_power___194 ?_
    obtain rfl := z_so h
    exact z_lret hC hQ dX9_power___197
  · replace h := z_f q152_1 h
    refine z_lload hC 2 rfl dX9_power___156 ?_
    refine z_iload_n hC 0 rfl rfl dX9_power___158 ?_
    refine z_if_eq hC 168 (by decide) dX9_power___159 (fun q159_3 => ?_) (fun q159_3 => ?_)
    · replace h := z_t q159_3 h
      refine z_ldc2 hC kc_X9_280 dX9_power___168 ?_
      refine z_lmul hC dX9_power___171 ?_
      refine z_ldc2 hC kc_X9_268 dX9_power___172 ?_
      refine z_iload_n hC 0 rfl rfl dX9_power___175 ?_
      refine z_b1 h (fun r176_4 e_r176_4 h => ?_)
      refine z_cS3r hC (ctX9_cut hC.hm e_r176_4) kb_X9_cut km_X9_270 ⟨by decide, by decide⟩ (Nat.le_of_ble_eq_true rfl) dX9_power___176 ?_
      refine z_lstore hC [(7, .long r176_4), (2, .int v2), (3, .long v3)] (by rw [hN]; decide) rfl dX9_power___179 ?_
      refine z_lload_n hC 2 rfl rfl dX9_power___181 ?_
      refine z_lconst hC (1 : Int64) (by decide) dX9_power___182 ?_
      refine z_ladd hC dX9_power___183 ?_
      refine z_nmL h (fun x184_5 h => ?_)
      refine z_lstore_n hC [(3, .long x184_5), (7, .long r176_4), (2, .int v2)] rfl (by rw [hN]; decide) rfl dX9_power___184 ?_
      refine z_goto hC 150 (by decide) dX9_power___185 ?_
      refine z_sub [(2, .int v2), (3, .long x184_5), (7, .long r176_4)] [2, 0, 1] rfl ?_
      exact hK150 _ _ _ h
    · replace h := z_f q159_3 h
      refine z_ldc2 hC kc_X9_278 dX9_power___162 ?_
      refine z_goto hC 171 (by decide) dX9_power___165 ?_
      refine z_lmul hC dX9_power___171 ?_
      refine z_ldc2 hC kc_X9_268 dX9_power___172 ?_
      refine z_iload_n hC 0 rfl rfl dX9_power___175 ?_
      refine z_b1 h (fun r176_6 e_r176_6 h => ?_)
      refine z_cS3r hC (ctX9_cut hC.hm e_r176_6) kb_X9_cut km_X9_270 ⟨by decide, by decide⟩ (Nat.le_of_ble_eq_true rfl) dX9_power___176 ?_
      refine z_lstore hC [(7, .long r176_6), (2, .int v2), (3, .long v3)] (by rw [hN]; decide) rfl dX9_power___179 ?_
      refine z_lload_n hC 2 rfl rfl dX9_power___181 ?_
      refine z_lconst hC (1 : Int64) (by decide) dX9_power___182 ?_
      refine z_ladd hC dX9_power___183 ?_
      refine z_nmL h (fun x184_7 h => ?_)
      refine z_lstore_n hC [(3, .long x184_7), (7, .long r176_6), (2, .int v2)] rfl (by rw [hN]; decide) rfl dX9_power___184 ?_
      refine z_goto hC 150 (by decide) dX9_power___185 ?_
      refine z_sub [(2, .int v2), (3, .long x184_7), (7, .long r176_6)] [2, 0, 1] rfl ?_
      exact hK150 _ _ _ h
theorem wX9_power___L150 {T : zX} {cl ch : Nat} {σ : zSt} (hC : zOk T cX9_power__ RX9 2 49 cl ch) (hN : zNL T = 12) {r : Int64} (hQ : zRes T (some .long) (some (.long r)) σ) (n : Nat) : ∀ (v2 : Int32) (v3 : Int64) (v7 : Int64), fX9_power___L150 n v2 v3 v7  = some r → Z T σ 150 [(2, .int v2), (3, .long v3), (7, .long v7)] [] := by
  induction n with
  | zero => intro v2 v3 v7 h; cases h
  | succ n ih => intro v2 v3 v7 h; exact wX9_power___150 hC hN hQ (fX9_power___L150 n) ih v2 v3 v7 h
set_option maxRecDepth 100000 in
set_option maxHeartbeats 4000000 in
theorem wX9_power___112 {T : zX} {cl ch : Nat} {σ : zSt} (hC : zOk T cX9_power__ RX9 2 49 cl ch) (hN : zNL T = 12) {r : Int64} (hQ : zRes T (some .long) (some (.long r)) σ) (K112 : Int32 → Int64 → Int64 → Option Int64) (hK112 : ∀ (v2 : Int32) (v3 : Int64) (v7 : Int64), K112 v2 v3 v7  = some r → Z T σ 112 [(2, .int v2), (3, .long v3), (7, .long v7)] []) (v2 : Int32) (v3 : Int64) (v7 : Int64)  (h : fX9_power___112 K112 v2 v3 v7  = some r) : Z T σ 112 [(2, .int v2), (3, .long v3), (7, .long v7)] [] := by
  unfold fX9_power___112 at h
  refine z_lload_n hC 1 rfl rfl dX9_power___112 ?_
  refine z_lconst hC (0 : Int64) (by decide) dX9_power___113 ?_
  refine z_cmp_le hC 150 (by decide) dX9_power___114 dX9_power___115 (fun q114_1 => ?_) (fun q114_1 => ?_)
  · replace h := z_t q114_1 h
    exact (wX9_power___L150 hC hN hQ zFU) _ _ _ h
  · replace h := z_f q114_1 h
    refine z_lload hC 2 rfl dX9_power___118 ?_
    refine z_iload_n hC 0 rfl rfl dX9_power___120 ?_
    refine z_if_eq hC 130 (by decide) dX9_power___121 (fun q121_2 => ?_) (fun q121_2 => ?_)
    · replace h := z_t q121_2 h
      refine z_ldc2 hC kc_X9_276 dX9_power___130 ?_
      refine z_lmul hC dX9_power___133 ?_
      refine z_ldc2 hC kc_X9_268 dX9_power___134 ?_
      refine z_iload_n hC 0 rfl rfl dX9_power___137 ?_
      refine z_b1 h (fun r138_3 e_r138_3 h => ?_)
      refine z_cS3r hC (ctX9_cut hC.hm e_r138_3) kb_X9_cut km_X9_270 ⟨by decide, by decide⟩ (Nat.le_of_ble_eq_true rfl) dX9_power___138 ?_
      refine z_lstore hC [(7, .long r138_3), (2, .int v2), (3, .long v3)] (by rw [hN]; decide) rfl dX9_power___141 ?_
      refine z_lload_n hC 2 rfl rfl dX9_power___143 ?_
      refine z_lconst hC (1 : Int64) (by decide) dX9_power___144 ?_
      refine z_lsub hC dX9_power___145 ?_
      refine z_nmL h (fun x146_4 h => ?_)
      refine z_lstore_n hC [(3, .long x146_4), (7, .long r138_3), (2, .int v2)] rfl (by rw [hN]; decide) rfl dX9_power___146 ?_
      refine z_goto hC 112 (by decide) dX9_power___147 ?_
      refine z_sub [(2, .int v2), (3, .long x146_4), (7, .long r138_3)] [2, 0, 1] rfl ?_
      exact hK112 _ _ _ h
    · replace h := z_f q121_2 h
      refine z_ldc2 hC kc_X9_274 dX9_power___124 ?_
      refine z_goto hC 133 (by decide) dX9_power___127 ?_
      refine z_lmul hC dX9_power___133 ?_
      refine z_ldc2 hC kc_X9_268 dX9_power___134 ?_
      refine z_iload_n hC 0 rfl rfl dX9_power___137 ?_
      refine z_b1 h (fun r138_5 e_r138_5 h => ?_)
      refine z_cS3r hC (ctX9_cut hC.hm e_r138_5) kb_X9_cut km_X9_270 ⟨by decide, by decide⟩ (Nat.le_of_ble_eq_true rfl) dX9_power___138 ?_
      refine z_lstore hC [(7, .long r138_5), (2, .int v2), (3, .long v3)] (by rw [hN]; decide) rfl dX9_power___141 ?_
      refine z_lload_n hC 2 rfl rfl dX9_power___143 ?_
      refine z_lconst hC (1 : Int64) (by decide) dX9_power___144 ?_
      refine z_lsub hC dX9_power___145 ?_
      refine z_nmL h (fun x146_6 h => ?_)
      refine z_lstore_n hC [(3, .long x146_6), (7, .long r138_5), (2, .int v2)] rfl (by rw [hN]; decide) rfl dX9_power___146 ?_
      refine z_goto hC 112 (by decide) dX9_power___147 ?_
      refine z_sub [(2, .int v2), (3, .long x146_6), (7, .long r138_5)] [2, 0, 1] rfl ?_
      exact hK112 _ _ _ h
theorem wX9_power___L112 {T : zX} {cl ch : Nat} {σ : zSt} (hC : zOk T cX9_power__ RX9 2 49 cl ch) (hN : zNL T = 12) {r : Int64} (hQ : zRes T (some .long) (some (.long r)) σ) (n : Nat) : ∀ (v2 : Int32) (v3 : Int64) (v7 : Int64), fX9_power___L112 n v2 v3 v7  = some r → Z T σ 112 [(2, .int v2), (3, .long v3), (7, .long v7)] [] := by
  induction n with
  | zero => intro v2 v3 v7 h; cases h
  | succ n ih => intro v2 v3 v7 h; exact wX9_power___112 hC hN hQ (fX9_power___L112 n) ih v2 v3 v7 h
set_option maxRecDepth 100000 in
set_option maxHeartbeats 4000000 in
theorem wX9_power___51 {T : zX} {cl ch : Nat} {σ : zSt} (hC : zOk T cX9_power__ RX9 2 49 cl ch) (hN : zNL T = 12) {r : Int64} (hQ : zRes T (some .long) (some (.long r)) σ) (K51 : Int32 → Int64 → Int64 → Int64 → Int64 → Int32 → Option Int64) (hK51 : ∀ (v2 : Int32) (v3 : Int64) (v5 : Int64) (v7 : Int64) (v9 : Int64) (v11 : Int32), K51 v2 v3 v5 v7 v9 v11  = some r → Z T σ 51 [(2, .int v2), (3, .long v3), (5, .long v5), (7, .long v7), (9, .long v9), (11, .int v11)] []) (v2 : Int32) (v3 : Int64) (v5 : Int64) (v7 : Int64) (v9 : Int64) (v11 : Int32)  (h : fX9_power___51 K51 v2 v3 v5 v7 v9 v11  = some r) : Z T σ 51 [(2, .int v2), (3, .long v3), (5, .long v5), (7, .long v7), (9, .long v9), (11, .int v11)] [] := by
  unfold fX9_power___51 at h
  refine z_iload hC 5 rfl dX9_power___51 ?_
  refine z_bipush hC (14 : Int32) (by decide) dX9_power___53 ?_
  refine z_icmp_gt hC 98 (by decide) dX9_power___55 (fun q55_1 => ?_) (fun q55_1 => ?_)
  · replace h := z_t q55_1 h
    refine z_lload hC 3 rfl dX9_power___98 ?_
    refine z_iload_n hC 0 rfl rfl dX9_power___100 ?_
    refine z_if_eq hC 108 (by decide) dX9_power___101 (fun q101_2 => ?_) (fun q101_2 => ?_)
    · replace h := z_t q101_2 h
      refine z_lconst hC (0 : Int64) (by decide) dX9_power___108 ?_
      refine z_ladd hC dX9_power___109 ?_
      refine z_nmL h (fun x110_3 h => ?_)
      refine z_lstore hC [(7, .long x110_3), (2, .int v2), (3, .long v3), (5, .long v5), (9, .long v9), (11, .int v11)] (by rw [hN]; decide) rfl dX9_power___110 ?_
      refine z_sub [(2, .int v2), (3, .long v3), (7, .long x110_3)] [1, 2, 0] rfl ?_
      exact (wX9_power___L112 hC hN hQ zFU) _ _ _ h
    · replace h := z_f q101_2 h
      refine z_lconst hC (1 : Int64) (by decide) dX9_power___104 ?_
      refine z_goto hC 109 (by decide) dX9_power___105 ?_
      refine z_ladd hC dX9_power___109 ?_
      refine z_nmL h (fun x110_4 h => ?_)
      refine z_lstore hC [(7, .long x110_4), (2, .int v2), (3, .long v3), (5, .long v5), (9, .long v9), (11, .int v11)] (by rw [hN]; decide) rfl dX9_power___110 ?_
      refine z_sub [(2, .int v2), (3, .long v3), (7, .long x110_4)] [1, 2, 0] rfl ?_
      exact (wX9_power___L112 hC hN hQ zFU) _ _ _ h
  · replace h := z_f q55_1 h
    refine z_iload hC 5 rfl dX9_power___58 ?_
    refine z_iconst hC (1 : Int32) (by decide) dX9_power___60 ?_
    refine z_icmp_le hC 85 (by decide) dX9_power___61 (fun q61_5 => ?_) (fun q61_5 => ?_)
    · replace h := z_t q61_5 h
      refine z_lload hC 3 rfl dX9_power___85 ?_
      refine z_lload hC 4 rfl dX9_power___87 ?_
      refine z_ladd hC dX9_power___89 ?_
      refine z_nmL h (fun x90_6 h => ?_)
      refine z_lstore hC [(7, .long x90_6), (2, .int v2), (3, .long v3), (5, .long v5), (9, .long v9), (11, .int v11)] (by rw [hN]; decide) rfl dX9_power___90 ?_
      refine z_nmE h (fun x92_7 e_x92_7 h => ?_)
      refine z_iinc hC x92_7 [(11, .int x92_7), (7, .long x90_6), (2, .int v2), (3, .long v3), (5, .long v5), (9, .long v9)] 5 rfl (by rw [e_x92_7]; rfl) (by rw [hN]; decide) rfl dX9_power___92 ?_
      refine z_goto hC 51 (by decide) dX9_power___95 ?_
      refine z_sub [(2, .int v2), (3, .long v3), (5, .long v5), (7, .long x90_6), (9, .long v9), (11, .int x92_7)] [2, 3, 4, 1, 5, 0] rfl ?_
      exact hK51 _ _ _ _ _ _ h
    · replace h := z_f q61_5 h
      refine z_lload hC 4 rfl dX9_power___64 ?_
      refine z_lload hC 2 rfl dX9_power___66 ?_
      refine z_lmul hC dX9_power___68 ?_
      refine z_ldc2 hC kc_X9_268 dX9_power___69 ?_
      refine z_iload_n hC 0 rfl rfl dX9_power___72 ?_
      refine z_b1 h (fun r73_8 e_r73_8 h => ?_)
      refine z_cS3r hC (ctX9_cut hC.hm e_r73_8) kb_X9_cut km_X9_270 ⟨by decide, by decide⟩ (Nat.le_of_ble_eq_true rfl) dX9_power___73 ?_
      refine z_iload hC 5 rfl dX9_power___76 ?_
      refine z_i2l hC dX9_power___78 ?_
      refine z_iload_n hC 0 rfl rfl dX9_power___79 ?_
      refine z_b1 h (fun r80_9 e_r80_9 h => ?_)
      refine z_cS3r hC (ctX9_cut hC.hm e_r80_9) kb_X9_cut km_X9_270 ⟨by decide, by decide⟩ (Nat.le_of_ble_eq_true rfl) dX9_power___80 ?_
      refine z_lstore hC [(9, .long r80_9), (2, .int v2), (3, .long v3), (5, .long v5), (7, .long v7), (11, .int v11)] (by rw [hN]; decide) rfl dX9_power___83 ?_
      refine z_lload hC 4 rfl dX9_power___85 ?_
      refine z_lload hC 0 rfl dX9_power___87 ?_
      refine z_ladd hC dX9_power___89 ?_
      refine z_nmL h (fun x90_10 h => ?_)
      refine z_lstore hC [(7, .long x90_10), (9, .long r80_9), (2, .int v2), (3, .long v3), (5, .long v5), (11, .int v11)] (by rw [hN]; decide) rfl dX9_power___90 ?_
      refine z_nmE h (fun x92_11 e_x92_11 h => ?_)
      refine z_iinc hC x92_11 [(11, .int x92_11), (7, .long x90_10), (9, .long r80_9), (2, .int v2), (3, .long v3), (5, .long v5)] 5 rfl (by rw [e_x92_11]; rfl) (by rw [hN]; decide) rfl dX9_power___92 ?_
      refine z_goto hC 51 (by decide) dX9_power___95 ?_
      refine z_sub [(2, .int v2), (3, .long v3), (5, .long v5), (7, .long x90_10), (9, .long r80_9), (11, .int x92_11)] [3, 4, 5, 1, 2, 0] rfl ?_
      exact hK51 _ _ _ _ _ _ h
theorem wX9_power___L51 {T : zX} {cl ch : Nat} {σ : zSt} (hC : zOk T cX9_power__ RX9 2 49 cl ch) (hN : zNL T = 12) {r : Int64} (hQ : zRes T (some .long) (some (.long r)) σ) (n : Nat) : ∀ (v2 : Int32) (v3 : Int64) (v5 : Int64) (v7 : Int64) (v9 : Int64) (v11 : Int32), fX9_power___L51 n v2 v3 v5 v7 v9 v11  = some r → Z T σ 51 [(2, .int v2), (3, .long v3), (5, .long v5), (7, .long v7), (9, .long v9), (11, .int v11)] [] := by
  induction n with
  | zero => intro v2 v3 v5 v7 v9 v11 h; cases h
  | succ n ih => intro v2 v3 v5 v7 v9 v11 h; exact wX9_power___51 hC hN hQ (fX9_power___L51 n) ih v2 v3 v5 v7 v9 v11 h
set_option maxRecDepth 100000 in
set_option maxHeartbeats 4000000 in
theorem wX9_power___0 {T : zX} {cl ch : Nat} {σ : zSt} (hC : zOk T cX9_power__ RX9 2 49 cl ch) (hN : zNL T = 12) {r : Int64} (hQ : zRes T (some .long) (some (.long r)) σ) (a0 : Int64) (a2 : Int32)  (h : fX9_power___0 a0 a2  = some r) : Z T σ 0 [(0, .long a0), (2, .int a2)] [] := by
  unfold fX9_power___0 at h
  refine z_lload_n hC 0 rfl rfl dX9_power___0 ?_
  refine z_ldc2 hC kc_X9_264 dX9_power___1 ?_
  refine z_cmp_ge hC 18 (by decide) dX9_power___4 dX9_power___5 (fun q4_1 => ?_) (fun q4_1 => ?_)
  · replace h := z_t q4_1 h
    refine z_lload_n hC 0 rfl rfl dX9_power___18 ?_
    refine z_ldc2 hC kc_X9_207 dX9_power___19 ?_
    refine z_b1 h (fun r22_2 e_r22_2 h => ?_)
    refine z_cS2r hC (ctX9_down hC.hm e_r22_2) kb_X9_down km_X9_209 ⟨by decide, by decide⟩ (Nat.le_of_ble_eq_true rfl) dX9_power___22 ?_
    refine z_lstore_n hC [(3, .long r22_2), (0, .long a0), (2, .int a2)] rfl (by rw [hN]; decide) rfl dX9_power___25 ?_
    refine z_ldc2 hC kc_X9_266 dX9_power___26 ?_
    refine z_lload_n hC 1 rfl rfl dX9_power___29 ?_
    refine z_lload_n hC 0 rfl rfl dX9_power___30 ?_
    refine z_ldc2 hC kc_X9_207 dX9_power___31 ?_
    refine z_lmul hC dX9_power___34 ?_
    refine z_lsub hC dX9_power___35 ?_
    refine z_lmul hC dX9_power___36 ?_
    refine z_nmL h (fun x37_3 h => ?_)
    refine z_lstore hC [(5, .long x37_3), (3, .long r22_2), (0, .long a0), (2, .int a2)] (by rw [hN]; decide) rfl dX9_power___37 ?_
    refine z_ldc2 hC kc_X9_268 dX9_power___39 ?_
    refine z_lstore hC [(7, .long (16777216 : Int64)), (5, .long x37_3), (3, .long r22_2), (0, .long a0), (2, .int a2)] (by rw [hN]; decide) rfl dX9_power___42 ?_
    refine z_lload hC 1 rfl dX9_power___44 ?_
    refine z_lstore hC [(9, .long x37_3), (7, .long (16777216 : Int64)), (5, .long x37_3), (3, .long r22_2), (0, .long a0), (2, .int a2)] (by rw [hN]; decide) rfl dX9_power___46 ?_
    refine z_iconst hC (1 : Int32) (by decide) dX9_power___48 ?_
    refine z_istore hC [(11, .int (1 : Int32)), (9, .long x37_3), (7, .long (16777216 : Int64)), (5, .long x37_3), (3, .long r22_2), (0, .long a0), (2, .int a2)] (by rw [hN]; decide) rfl dX9_power___49 ?_
    refine z_sub [(2, .int a2), (3, .long r22_2), (5, .long x37_3), (7, .long (16777216 : Int64)), (9, .long x37_3), (11, .int (1 : Int32))] [6, 4, 3, 2, 1, 0] rfl ?_
    exact (wX9_power___L51 hC hN hQ zFU) _ _ _ _ _ _ h
  · replace h := z_f q4_1 h
    refine z_iload_n hC 1 rfl rfl dX9_power___8 ?_
    refine z_if_eq hC 16 (by decide) dX9_power___9 (fun q9_4 => ?_) (fun q9_4 => ?_)
    · replace h := z_t q9_4 h
      refine z_lconst hC (0 : Int64) (by decide) dX9_power___16 ?_
      obtain rfl := z_so h
      exact z_lret hC hQ dX9_power___17
    · replace h := z_f q9_4 h
      refine z_lconst hC (1 : Int64) (by decide) dX9_power___12 ?_
      refine z_goto hC 17 (by decide) dX9_power___13 ?_
      obtain rfl := z_so h
      exact z_lret hC hQ dX9_power___17
set_option maxRecDepth 100000 in
theorem ctX9_power__ {l : Launch} {G : zGt} {mk : zSt → zSt} {cl ch : Nat} (hm : zM mk cl ch) {a0 : Int64} {a2 : Int32} {σ : zSt} {r : Int64} (h : fX9_power__ a0 a2  = some r) : zMet l G mk yX9_power__ cX9_power__ 12 (some .long) 2 49 [.long a0, .int a2] σ (some (.long r)) σ := by
  unfold fX9_power__ at h

  refine zMet.of (plainFor_of_name (by decide +kernel)) hm (Nat.le_of_ble_eq_true rfl) (fun T eL eG eM hN hC hQ => ?_)
  subst eL; subst eG; subst eM
  refine z_sub [(0, .long a0), (2, .int a2)] [0, 1] rfl ?_
  exact wX9_power___0 hC hN hQ _ _  h
noncomputable def fX9_exp_0 (a1 : Int64) (a3 : Int64) (σ : zSt) : Option zSt := 
    (if a3 ≤ (7994000 : Int64) then bd1 (fX9_power__ a1 (0 : Int32)) fun r16_2 => bd1 (fX9_power__ a3 (1 : Int32)) fun r21_3 => bd1 (fX9_is r16_2 r21_3 σ) fun s24_4 => some s24_4
    else bd1 (fX9_isHole σ) fun s9_5 => some s9_5)
noncomputable def fX9_exp (a1 : Int64) (a3 : Int64) (σ : zSt) : Option zSt := fX9_exp_0 a1 a3 σ
set_option maxRecDepth 100000 in
set_option maxHeartbeats 4000000 in
theorem wX9_exp_0 {T : zX} (hC : zOk T cX9_exp RX9 3 80 61 85) (hN : zNL T = 5) {σ' : zSt} (hQ : zRes T none (none) σ') (a1 : Int64) (a3 : Int64)  (σ : zSt) (h : fX9_exp_0 a1 a3 σ = some σ') : Z T σ 0 [(0, .ref (zAd T (61))), (1, .long a1), (3, .long a3)] [] := by
  unfold fX9_exp_0 at h
  refine z_lload_n hC 2 rfl rfl dX9_exp_0 ?_
  refine z_ldc2 hC kc_X9_282 dX9_exp_1 ?_
  refine z_cmp_le hC 13 (by decide) dX9_exp_4 dX9_exp_5 (fun q4_1 => ?_) (fun q4_1 => ?_)
  · replace h := z_t q4_1 h
    refine z_aload_n hC 0 rfl rfl dX9_exp_13 ?_
    refine z_lload_n hC 1 rfl rfl dX9_exp_14 ?_
    refine z_iconst hC (0 : Int32) (by decide) dX9_exp_15 ?_
    refine z_b1 h (fun r16_2 e_r16_2 h => ?_)
    refine z_cS2r hC (ctX9_power__ hC.hm e_r16_2) kb_X9_power__ km_X9_284 ⟨by decide, by decide⟩ (Nat.le_of_ble_eq_true rfl) dX9_exp_16 ?_
    refine z_lload_n hC 2 rfl rfl dX9_exp_19 ?_
    refine z_iconst hC (1 : Int32) (by decide) dX9_exp_20 ?_
    refine z_b1 h (fun r21_3 e_r21_3 h => ?_)
    refine z_cS2r hC (ctX9_power__ hC.hm e_r21_3) kb_X9_power__ km_X9_284 ⟨by decide, by decide⟩ (Nat.le_of_ble_eq_true rfl) dX9_exp_21 ?_
    refine z_b1 h (fun s24_4 e_s24_4 h => ?_)
    refine z_cV2v hC (ctX9_is hC.hm e_s24_4) (rcX9 hC) kb_X9_is km_X9_243 ⟨by decide, by decide⟩ (Nat.le_of_ble_eq_true rfl) dX9_exp_24 ?_
    obtain rfl := z_so h
    exact z_vret hC hQ dX9_exp_27
  · replace h := z_f q4_1 h
    refine z_aload_n hC 0 rfl rfl dX9_exp_8 ?_
    refine z_b1 h (fun s9_5 e_s9_5 h => ?_)
    refine z_cV0v hC (ctX9_isHole hC.hm e_s9_5) (rcX9 hC) kb_X9_isHole km_X9_247 ⟨by decide, by decide⟩ (Nat.le_of_ble_eq_true rfl) dX9_exp_9 ?_
    obtain rfl := z_so h
    exact z_vret hC hQ dX9_exp_12
set_option maxRecDepth 100000 in
theorem ctX9_exp {l : Launch} {G : zGt} {mk : zSt → zSt} (hm : zM mk 61 85) {a1 : Int64} {a3 : Int64} {σ : zSt} {σ' : zSt} (h : fX9_exp a1 a3 σ = some σ') : zMet l G mk yX9_exp cX9_exp 5 none 3 80 [.ref (gA G (61)), .long a1, .long a3] σ (none) σ' := by
  unfold fX9_exp at h

  refine zMet.of (plainFor_of_name (by decide +kernel)) hm (Nat.le_of_ble_eq_true rfl) (fun T eL eG eM hN hC hQ => ?_)
  subst eL; subst eG; subst eM
  refine z_sub [(0, .ref (zAd T (61))), (1, .long a1), (3, .long a3)] [0, 1, 2] rfl ?_
  exact wX9_exp_0 hC hN hQ _ _  _ h
noncomputable def fX9_halved_9 (K9 : Int64 → Int32 → Int64 → Int64 → Option Int64) (v0 : Int64) (v2 : Int32) (v3 : Int64) (v5 : Int64) : Option Int64 := 
    (if v5 ≤ v3 then some v3
    else bd1 (fX9_down ((v3 + v5) + (1 : Int64)) (2 : Int64)) fun r25_2 => 
      (if v2 = 0 then bd1 (fX9_power__ r25_2 (0 : Int32)) fun r56_4 => 
        (if v0 ≤ r56_4 then nm (r25_2 - (1 : Int64)) fun x86_6 => K9 v0 v2 v3 x86_6
        else K9 v0 v2 r25_2 v5)
      else bd1 (fX9_power__ r25_2 (1 : Int32)) fun r37_7 => 
        (if v0 < r37_7 then nm (r25_2 - (1 : Int64)) fun x86_9 => K9 v0 v2 v3 x86_9
        else K9 v0 v2 r25_2 v5)))
noncomputable def fX9_halved_L9 : Nat → Int64 → Int32 → Int64 → Int64 → Option Int64
  | 0, _, _, _, _ => none
  | n + 1, v0, v2, v3, v5 => fX9_halved_9 (fX9_halved_L9 n) v0 v2 v3 v5 
noncomputable def fX9_halved_0 (a0 : Int64) (a2 : Int32) : Option Int64 := fX9_halved_L9 zFU a0 a2 (-14680064 : Int64) (7994000 : Int64)
noncomputable def fX9_halved (a0 : Int64) (a2 : Int32) : Option Int64 := fX9_halved_0 a0 a2
set_option maxRecDepth 100000 in
set_option maxHeartbeats 4000000 in
theorem wX9_halved_9 {T : zX} {cl ch : Nat} {σ : zSt} (hC : zOk T cX9_halved RX9 3 80 cl ch) (hN : zNL T = 10) {r : Int64} (hQ : zRes T (some .long) (some (.long r)) σ) (K9 : Int64 → Int32 → Int64 → Int64 → Option Int64) (hK9 : ∀ (v0 : Int64) (v2 : Int32) (v3 : Int64) (v5 : Int64), K9 v0 v2 v3 v5  = some r → Z T σ 9 [(0, .long v0), (2, .int v2), (3, .long v3), (5, .long v5)] []) (v0 : Int64) (v2 : Int32) (v3 : Int64) (v5 : Int64)  (h : fX9_halved_9 K9 v0 v2 v3 v5  = some r) : Z T σ 9 [(0, .long v0), (2, .int v2), (3, .long v3), (5, .long v5)] [] := by
  unfold fX9_halved_9 at h
  refine z_lload_n hC 2 rfl rfl dX9_halved_9 ?_
  refine z_lload hC 3 rfl dX9_halved_10 ?_
  refine z_cmp_ge hC 91 (by decide) dX9_halved_12 dX9_halved_13 (fun q12_1 => ?_) (fun q12_1 => ?_)
  · replace h := z_t q12_1 h
    refine z_lload_n hC 2 rfl rfl dX9_halved_91 ?_
    obtain rfl := z_so h
    exact z_lret hC hQ dX9_halved_92
  · replace h := z_f q12_1 h
    refine z_lload_n hC 2 rfl rfl dX9_halved_16 ?_
    refine z_lload hC 3 rfl dX9_halved_17 ?_
    refine z_ladd hC dX9_halved_19 ?_
    refine z_lconst hC (1 : Int64) (by decide) dX9_halved_20 ?_
    refine z_ladd hC dX9_halved_21 ?_
    refine z_ldc2 hC kc_X9_292 dX9_halved_22 ?_
    refine z_b1 h (fun r25_2 e_r25_2 h => ?_)
    refine z_cS2r hC (ctX9_down hC.hm e_r25_2) kb_X9_down km_X9_209 ⟨by decide, by decide⟩ (Nat.le_of_ble_eq_true rfl) dX9_halved_25 ?_
    refine z_lstore hC [(7, .long r25_2), (0, .long v0), (2, .int v2), (3, .long v3), (5, .long v5)] (by rw [hN]; decide) rfl dX9_halved_28 ?_
    refine z_iload_n hC 2 rfl rfl dX9_halved_30 ?_
    refine z_if_eq hC 53 (by decide) dX9_halved_31 (fun q31_3 => ?_) (fun q31_3 => ?_)
    · replace h := z_t q31_3 h
      refine z_lload hC 0 rfl dX9_halved_53 ?_
      refine z_iconst hC (0 : Int32) (by decide) dX9_halved_55 ?_
      refine z_b1 h (fun r56_4 e_r56_4 h => ?_)
      refine z_cS2r hC (ctX9_power__ hC.hm e_r56_4) kb_X9_power__ km_X9_284 ⟨by decide, by decide⟩ (Nat.le_of_ble_eq_true rfl) dX9_halved_56 ?_
      refine z_lload_n hC 1 rfl rfl dX9_halved_59 ?_
      refine z_cmp_ge hC 68 (by decide) dX9_halved_60 dX9_halved_61 (fun q60_5 => ?_) (fun q60_5 => ?_)
      · replace h := z_t q60_5 h
        refine z_iconst hC (0 : Int32) (by decide) dX9_halved_68 ?_
        refine z_istore hC [(9, .int (0 : Int32)), (7, .long r25_2), (0, .long v0), (2, .int v2), (3, .long v3), (5, .long v5)] (by rw [hN]; decide) rfl dX9_halved_69 ?_
        refine z_iload hC 0 rfl dX9_halved_71 ?_
        refine z_if_eq hC 82 (by decide) dX9_halved_73 (fun q => ?_) (fun q => absurd q (by decide))
        refine z_lload hC 1 rfl dX9_halved_82 ?_
        refine z_lconst hC (1 : Int64) (by decide) dX9_halved_84 ?_
        refine z_lsub hC dX9_halved_85 ?_
        refine z_nmL h (fun x86_6 h => ?_)
        refine z_lstore hC [(5, .long x86_6), (9, .int (0 : Int32)), (7, .long r25_2), (0, .long v0), (2, .int v2), (3, .long v3)] (by rw [hN]; decide) rfl dX9_halved_86 ?_
        refine z_goto hC 9 (by decide) dX9_halved_88 ?_
        refine z_sub [(0, .long v0), (2, .int v2), (3, .long v3), (5, .long x86_6)] [3, 4, 5, 0] rfl ?_
        exact hK9 _ _ _ _ h
      · replace h := z_f q60_5 h
        refine z_iconst hC (1 : Int32) (by decide) dX9_halved_64 ?_
        refine z_goto hC 69 (by decide) dX9_halved_65 ?_
        refine z_istore hC [(9, .int (1 : Int32)), (7, .long r25_2), (0, .long v0), (2, .int v2), (3, .long v3), (5, .long v5)] (by rw [hN]; decide) rfl dX9_halved_69 ?_
        refine z_iload hC 0 rfl dX9_halved_71 ?_
        refine z_if_eq hC 82 (by decide) dX9_halved_73 (fun q => absurd q (by decide)) (fun q => ?_)
        refine z_lload hC 1 rfl dX9_halved_76 ?_
        refine z_lstore_n hC [(3, .long r25_2), (9, .int (1 : Int32)), (7, .long r25_2), (0, .long v0), (2, .int v2), (5, .long v5)] rfl (by rw [hN]; decide) rfl dX9_halved_78 ?_
        refine z_goto hC 88 (by decide) dX9_halved_79 ?_
        refine z_goto hC 9 (by decide) dX9_halved_88 ?_
        refine z_sub [(0, .long v0), (2, .int v2), (3, .long r25_2), (5, .long v5)] [3, 4, 0, 5] rfl ?_
        exact hK9 _ _ _ _ h
    · replace h := z_f q31_3 h
      refine z_lload hC 0 rfl dX9_halved_34 ?_
      refine z_iconst hC (1 : Int32) (by decide) dX9_halved_36 ?_
      refine z_b1 h (fun r37_7 e_r37_7 h => ?_)
      refine z_cS2r hC (ctX9_power__ hC.hm e_r37_7) kb_X9_power__ km_X9_284 ⟨by decide, by decide⟩ (Nat.le_of_ble_eq_true rfl) dX9_halved_37 ?_
      refine z_lload_n hC 1 rfl rfl dX9_halved_40 ?_
      refine z_cmp_gt hC 49 (by decide) dX9_halved_41 dX9_halved_42 (fun q41_8 => ?_) (fun q41_8 => ?_)
      · replace h := z_t q41_8 h
        refine z_iconst hC (0 : Int32) (by decide) dX9_halved_49 ?_
        refine z_goto hC 69 (by decide) dX9_halved_50 ?_
        refine z_istore hC [(9, .int (0 : Int32)), (7, .long r25_2), (0, .long v0), (2, .int v2), (3, .long v3), (5, .long v5)] (by rw [hN]; decide) rfl dX9_halved_69 ?_
        refine z_iload hC 0 rfl dX9_halved_71 ?_
        refine z_if_eq hC 82 (by decide) dX9_halved_73 (fun q => ?_) (fun q => absurd q (by decide))
        refine z_lload hC 1 rfl dX9_halved_82 ?_
        refine z_lconst hC (1 : Int64) (by decide) dX9_halved_84 ?_
        refine z_lsub hC dX9_halved_85 ?_
        refine z_nmL h (fun x86_9 h => ?_)
        refine z_lstore hC [(5, .long x86_9), (9, .int (0 : Int32)), (7, .long r25_2), (0, .long v0), (2, .int v2), (3, .long v3)] (by rw [hN]; decide) rfl dX9_halved_86 ?_
        refine z_goto hC 9 (by decide) dX9_halved_88 ?_
        refine z_sub [(0, .long v0), (2, .int v2), (3, .long v3), (5, .long x86_9)] [3, 4, 5, 0] rfl ?_
        exact hK9 _ _ _ _ h
      · replace h := z_f q41_8 h
        refine z_iconst hC (1 : Int32) (by decide) dX9_halved_45 ?_
        refine z_goto hC 69 (by decide) dX9_halved_46 ?_
        refine z_istore hC [(9, .int (1 : Int32)), (7, .long r25_2), (0, .long v0), (2, .int v2), (3, .long v3), (5, .long v5)] (by rw [hN]; decide) rfl dX9_halved_69 ?_
        refine z_iload hC 0 rfl dX9_halved_71 ?_
        refine z_if_eq hC 82 (by decide) dX9_halved_73 (fun q => absurd q (by decide)) (fun q => ?_)
        refine z_lload hC 1 rfl dX9_halved_76 ?_
        refine z_lstore_n hC [(3, .long r25_2), (9, .int (1 : Int32)), (7, .long r25_2), (0, .long v0), (2, .int v2), (5, .long v5)] rfl (by rw [hN]; decide) rfl dX9_halved_78 ?_
        refine z_goto hC 88 (by decide) dX9_halved_79 ?_
        refine z_goto hC 9 (by decide) dX9_halved_88 ?_
        refine z_sub [(0, .long v0), (2, .int v2), (3, .long r25_2), (5, .long v5)] [3, 4, 0, 5] rfl ?_
        exact hK9 _ _ _ _ h
theorem wX9_halved_L9 {T : zX} {cl ch : Nat} {σ : zSt} (hC : zOk T cX9_halved RX9 3 80 cl ch) (hN : zNL T = 10) {r : Int64} (hQ : zRes T (some .long) (some (.long r)) σ) (n : Nat) : ∀ (v0 : Int64) (v2 : Int32) (v3 : Int64) (v5 : Int64), fX9_halved_L9 n v0 v2 v3 v5  = some r → Z T σ 9 [(0, .long v0), (2, .int v2), (3, .long v3), (5, .long v5)] [] := by
  induction n with
  | zero => intro v0 v2 v3 v5 h; cases h
  | succ n ih => intro v0 v2 v3 v5 h; exact wX9_halved_9 hC hN hQ (fX9_halved_L9 n) ih v0 v2 v3 v5 h
set_option maxRecDepth 100000 in
set_option maxHeartbeats 4000000 in
theorem wX9_halved_0 {T : zX} {cl ch : Nat} {σ : zSt} (hC : zOk T cX9_halved RX9 3 80 cl ch) (hN : zNL T = 10) {r : Int64} (hQ : zRes T (some .long) (some (.long r)) σ) (a0 : Int64) (a2 : Int32)  (h : fX9_halved_0 a0 a2  = some r) : Z T σ 0 [(0, .long a0), (2, .int a2)] [] := by
  unfold fX9_halved_0 at h
  refine z_ldc2 hC kc_X9_264 dX9_halved_0 ?_
  refine z_lstore_n hC [(3, .long (-14680064 : Int64)), (0, .long a0), (2, .int a2)] rfl (by rw [hN]; decide) rfl dX9_halved_3 ?_
  refine z_ldc2 hC kc_X9_282 dX9_halved_4 ?_
  refine z_lstore hC [(5, .long (7994000 : Int64)), (3, .long (-14680064 : Int64)), (0, .long a0), (2, .int a2)] (by rw [hN]; decide) rfl dX9_halved_7 ?_
  refine z_sub [(0, .long a0), (2, .int a2), (3, .long (-14680064 : Int64)), (5, .long (7994000 : Int64))] [2, 3, 1, 0] rfl ?_
  exact (wX9_halved_L9 hC hN hQ zFU) _ _ _ _ h
set_option maxRecDepth 100000 in
theorem ctX9_halved {l : Launch} {G : zGt} {mk : zSt → zSt} {cl ch : Nat} (hm : zM mk cl ch) {a0 : Int64} {a2 : Int32} {σ : zSt} {r : Int64} (h : fX9_halved a0 a2  = some r) : zMet l G mk yX9_halved cX9_halved 10 (some .long) 3 80 [.long a0, .int a2] σ (some (.long r)) σ := by
  unfold fX9_halved at h

  refine zMet.of (plainFor_of_name (by decide +kernel)) hm (Nat.le_of_ble_eq_true rfl) (fun T eL eG eM hN hC hQ => ?_)
  subst eL; subst eG; subst eM
  refine z_sub [(0, .long a0), (2, .int a2)] [0, 1] rfl ?_
  exact wX9_halved_0 hC hN hQ _ _  h
noncomputable def fX9_log_0 (a1 : Int64) (a3 : Int64) (σ : zSt) : Option zSt := 
    (if (0 : Int64) < a1 then bd1 (fX9_halved a1 (1 : Int32)) fun r13_2 => bd1 (fX9_halved a3 (0 : Int32)) fun r20_3 => 
      (if r20_3 = (7994000 : Int64) then bd1 (fX9_is r13_2 (7995393 : Int64) σ) fun s47_6 => some s47_6
      else bd1 (fX9_is r13_2 (r20_3 + (1 : Int64)) σ) fun s47_5 => some s47_5)
    else bd1 (fX9_isHole σ) fun s7_7 => some s7_7)
noncomputable def fX9_log (a1 : Int64) (a3 : Int64) (σ : zSt) : Option zSt := fX9_log_0 a1 a3 σ
set_option maxRecDepth 100000 in
set_option maxHeartbeats 4000000 in
theorem wX9_log_0 {T : zX} (hC : zOk T cX9_log RX9 4 109 61 85) (hN : zNL T = 9) {σ' : zSt} (hQ : zRes T none (none) σ') (a1 : Int64) (a3 : Int64)  (σ : zSt) (h : fX9_log_0 a1 a3 σ = some σ') : Z T σ 0 [(0, .ref (zAd T (61))), (1, .long a1), (3, .long a3)] [] := by
  unfold fX9_log_0 at h
  refine z_lload_n hC 1 rfl rfl dX9_log_0 ?_
  refine z_lconst hC (0 : Int64) (by decide) dX9_log_1 ?_
  refine z_cmp_gt hC 11 (by decide) dX9_log_2 dX9_log_3 (fun q2_1 => ?_) (fun q2_1 => ?_)
  · replace h := z_t q2_1 h
    refine z_lload_n hC 1 rfl rfl dX9_log_11 ?_
    refine z_iconst hC (1 : Int32) (by decide) dX9_log_12 ?_
    refine z_b1 h (fun r13_2 e_r13_2 h => ?_)
    refine z_cS2r hC (ctX9_halved hC.hm e_r13_2) kb_X9_halved km_X9_287 ⟨by decide, by decide⟩ (Nat.le_of_ble_eq_true rfl) dX9_log_13 ?_
    refine z_lstore hC [(5, .long r13_2), (0, .ref (zAd T (61))), (1, .long a1), (3, .long a3)] (by rw [hN]; decide) rfl dX9_log_16 ?_
    refine z_lload_n hC 3 rfl rfl dX9_log_18 ?_
    refine z_iconst hC (0 : Int32) (by decide) dX9_log_19 ?_
    refine z_b1 h (fun r20_3 e_r20_3 h => ?_)
    refine z_cS2r hC (ctX9_halved hC.hm e_r20_3) kb_X9_halved km_X9_287 ⟨by decide, by decide⟩ (Nat.le_of_ble_eq_true rfl) dX9_log_20 ?_
    refine z_lstore hC [(7, .long r20_3), (5, .long r13_2), (0, .ref (zAd T (61))), (1, .long a1), (3, .long a3)] (by rw [hN]; decide) rfl dX9_log_23 ?_
    refine z_aload_n hC 2 rfl rfl dX9_log_25 ?_
    refine z_lload hC 1 rfl dX9_log_26 ?_
    refine z_lload hC 0 rfl dX9_log_28 ?_
    refine z_ldc2 hC kc_X9_282 dX9_log_30 ?_
    refine z_cmp_ne hC 43 (by decide) dX9_log_33 dX9_log_34 (fun q33_4 => ?_) (fun q33_4 => ?_)
    · replace h := z_f q33_4 h
      refine z_lload hC 0 rfl dX9_log_43 ?_
      refine z_lconst hC (1 : Int64) (by decide) dX9_log_45 ?_
      refine z_ladd hC dX9_log_46 ?_
      refine z_b1 h (fun s47_5 e_s47_5 h => ?_)
      refine z_cV2v hC (ctX9_is hC.hm e_s47_5) (rcX9 hC) kb_X9_is km_X9_243 ⟨by decide, by decide⟩ (Nat.le_of_ble_eq_true rfl) dX9_log_47 ?_
      obtain rfl := z_so h
      exact z_vret hC hQ dX9_log_50
    · replace h := z_t q33_4 h
      refine z_ldc2 hC kc_X9_290 dX9_log_37 ?_
      refine z_goto hC 47 (by decide) dX9_log_40 ?_
      refine z_b1 h (fun s47_6 e_s47_6 h => ?_)
      refine z_cV2v hC (ctX9_is hC.hm e_s47_6) (rcX9 hC) kb_X9_is km_X9_243 ⟨by decide, by decide⟩ (Nat.le_of_ble_eq_true rfl) dX9_log_47 ?_
      obtain rfl := z_so h
      exact z_vret hC hQ dX9_log_50
  · replace h := z_f q2_1 h
    refine z_aload_n hC 0 rfl rfl dX9_log_6 ?_
    refine z_b1 h (fun s7_7 e_s7_7 h => ?_)
    refine z_cV0v hC (ctX9_isHole hC.hm e_s7_7) (rcX9 hC) kb_X9_isHole km_X9_247 ⟨by decide, by decide⟩ (Nat.le_of_ble_eq_true rfl) dX9_log_7 ?_
    obtain rfl := z_so h
    exact z_vret hC hQ dX9_log_10
set_option maxRecDepth 100000 in
theorem ctX9_log {l : Launch} {G : zGt} {mk : zSt → zSt} (hm : zM mk 61 85) {a1 : Int64} {a3 : Int64} {σ : zSt} {σ' : zSt} (h : fX9_log a1 a3 σ = some σ') : zMet l G mk yX9_log cX9_log 9 none 4 109 [.ref (gA G (61)), .long a1, .long a3] σ (none) σ' := by
  unfold fX9_log at h

  refine zMet.of (plainFor_of_name (by decide +kernel)) hm (Nat.le_of_ble_eq_true rfl) (fun T eL eG eM hN hC hQ => ?_)
  subst eL; subst eG; subst eM
  refine z_sub [(0, .ref (zAd T (61))), (1, .long a1), (3, .long a3)] [0, 1, 2] rfl ?_
  exact wX9_log_0 hC hN hQ _ _  _ h
noncomputable def fX9_wave_326 (v8 : Int64) (v25 : Int64) (t0 : Int64) (σ : zSt) : Option zSt := bd1 (fX9_up t0 (16 : Int64)) fun r329_1 => nm (r329_1 + v8) fun x335_2 => bd1 (fX9_is (fX9_more (-1048576 : Int64) (fX9_less (1048576 : Int64) v25)) (fX9_less (1048576 : Int64) (fX9_more (-1048576 : Int64) x335_2)) σ) fun s366_3 => some s366_3
noncomputable def fX9_wave_287 (v8 : Int64) (v20 : Int64) (v22 : Int64) (t0 : Int32) (σ : zSt) : Option zSt := 
    (if t0 = 0 then bd1 (fX9_down v20 (16 : Int64)) fun r305_2 => nm (r305_2 - v8) fun x311_3 => 
      (if t0 = 0 then fX9_wave_326 v8 x311_3 v22 σ
      else fX9_wave_326 v8 x311_3 (-v20) σ)
    else bd1 (fX9_down (-v22) (16 : Int64)) fun r305_5 => nm (r305_5 - v8) fun x311_6 => 
      (if t0 = 0 then fX9_wave_326 v8 x311_6 v22 σ
      else fX9_wave_326 v8 x311_6 (-v20) σ))
noncomputable def fX9_wave_241 (K132 : Int32 → Int64 → Int64 → Int64 → Int64 → Int64 → Int64 → Int64 → Int64 → Int32 → zSt → Option zSt) (v5 : Int32) (v6 : Int64) (v8 : Int64) (v12 : Int64) (v14 : Int64) (v16 : Int64) (v18 : Int64) (v22 : Int64) (v24 : Int32) (t0 : Int64) (t1 : Int64) (σ : zSt) : Option zSt := nm (t1 + t0) fun x242_1 => 
    (if (jremI v24 (2 : Int32)) = 0 then nm (v22 + v18) fun x262_5 => nm (v24 + (1 : Int32)) fun x264_6 => K132 v5 v6 v8 v12 v14 v16 v18 x242_1 x262_5 x264_6 σ
    else nm (v22 + (-v16)) fun x262_3 => nm (v24 + (1 : Int32)) fun x264_4 => K132 v5 v6 v8 v12 v14 v16 v18 x242_1 x262_3 x264_4 σ)
noncomputable def fX9_wave_186 (K132 : Int32 → Int64 → Int64 → Int64 → Int64 → Int64 → Int64 → Int64 → Int64 → Int32 → zSt → Option zSt) (v5 : Int32) (v6 : Int64) (v8 : Int64) (v12 : Int64) (v14 : Int64) (v16 : Int64) (v18 : Int64) (v20 : Int64) (v22 : Int64) (v24 : Int32) (t0 : Int64) (σ : zSt) : Option zSt := bd1 (fX9_down (v16 * v12) (16777216 : Int64)) fun r196_1 => bd1 (fX9_down r196_1 t0) fun r201_2 => bd1 (fX9_up (v18 * v14) (16777216 : Int64)) fun r214_3 => bd1 (fX9_up r214_3 t0) fun r219_4 => 
    (if (jremI v24 (2 : Int32)) = 0 then fX9_wave_241 K132 v5 v6 v8 v12 v14 r201_2 r219_4 v22 v24 r201_2 v20 σ
    else fX9_wave_241 K132 v5 v6 v8 v12 v14 r201_2 r219_4 v22 v24 (-r219_4) v20 σ)
noncomputable def fX9_wave_132 (K132 : Int32 → Int64 → Int64 → Int64 → Int64 → Int64 → Int64 → Int64 → Int64 → Int32 → zSt → Option zSt) (v5 : Int32) (v6 : Int64) (v8 : Int64) (v12 : Int64) (v14 : Int64) (v16 : Int64) (v18 : Int64) (v20 : Int64) (v22 : Int64) (v24 : Int32) (σ : zSt) : Option zSt := 
    (if (20 : Int32) ≤ v24 then 
      (if v5 = 0 then fX9_wave_287 v8 v20 v22 (0 : Int32) σ
      else 
        (if (0 : Int64) ≤ v6 then fX9_wave_287 v8 v20 v22 (0 : Int32) σ
        else fX9_wave_287 v8 v20 v22 (1 : Int32) σ))
    else 
      (if v24 ≤ 0 then 
        (if (jremI v24 (2 : Int32)) = 0 then fX9_wave_241 K132 v5 v6 v8 v12 v14 v16 v18 v22 v24 v16 v20 σ
        else fX9_wave_241 K132 v5 v6 v8 v12 v14 v16 v18 v22 v24 (-v18) v20 σ)
      else 
        (if v5 = 0 then nm (((((2 : Int64) * (Int32.toInt64 v24)) - (1 : Int64)) * (2 : Int64)) * (Int32.toInt64 v24)) fun x185_7 => fX9_wave_186 K132 v5 v6 v8 v12 v14 v16 v18 v20 v22 v24 x185_7 σ
        else nm (((2 : Int64) * (Int32.toInt64 v24)) * (((2 : Int64) * (Int32.toInt64 v24)) + (1 : Int64))) fun x165_8 => fX9_wave_186 K132 v5 v6 v8 v12 v14 v16 v18 v20 v22 v24 x165_8 σ)))
noncomputable def fX9_wave_L132 : Nat → Int32 → Int64 → Int64 → Int64 → Int64 → Int64 → Int64 → Int64 → Int64 → Int32 → zSt → Option zSt
  | 0, _, _, _, _, _, _, _, _, _, _, _ => none
  | n + 1, v5, v6, v8, v12, v14, v16, v18, v20, v22, v24, σ => fX9_wave_132 (fX9_wave_L132 n) v5 v6 v8 v12 v14 v16 v18 v20 v22 v24 σ
noncomputable def fX9_wave_73 (v5 : Int32) (v6 : Int64) (v8 : Int64) (t0 : Int64) (t1 : Int64) (σ : zSt) : Option zSt := nm (t1 * t0) fun x74_1 => bd1 (fX9_down (x74_1 * x74_1) (16777216 : Int64)) fun r84_2 => bd1 (fX9_up (x74_1 * x74_1) (16777216 : Int64)) fun r97_3 => 
    (if v5 = 0 then fX9_wave_L132 zFU v5 v6 v8 r84_2 r97_3 (16777216 : Int64) (16777216 : Int64) (-1 : Int64) (1 : Int64) (0 : Int32) σ
    else fX9_wave_L132 zFU v5 v6 v8 r84_2 r97_3 x74_1 x74_1 (-1 : Int64) (1 : Int64) (0 : Int32) σ)
noncomputable def fX9_wave_0 (a1 : Int64) (a3 : Int64) (a5 : Int32) (σ : zSt) : Option zSt := bd1 (fX9_down (a1 + a3) (2 : Int64)) fun r6_1 => nm (a3 - r6_1) fun x15_2 => 
    (if (6815744 : Int64) < r6_1 then bd1 (fX9_is (-1048576 : Int64) (1048576 : Int64) σ) fun s51_4 => some s51_4
    else 
      (if r6_1 < (-6815744 : Int64) then bd1 (fX9_is (-1048576 : Int64) (1048576 : Int64) σ) fun s51_6 => some s51_6
      else 
        (if x15_2 ≤ (1048576 : Int64) then 
          (if (0 : Int64) ≤ r6_1 then fX9_wave_73 a5 r6_1 x15_2 r6_1 (16 : Int64) σ
          else fX9_wave_73 a5 r6_1 x15_2 (-r6_1) (16 : Int64) σ)
        else bd1 (fX9_is (-1048576 : Int64) (1048576 : Int64) σ) fun s51_9 => some s51_9)))
noncomputable def fX9_wave (a1 : Int64) (a3 : Int64) (a5 : Int32) (σ : zSt) : Option zSt := fX9_wave_0 a1 a3 a5 σ
set_option maxRecDepth 100000 in
set_option maxHeartbeats 4000000 in
theorem wX9_wave_326 {T : zX} (hC : zOk T cX9_wave RX9 1 25 61 85) (hN : zNL T = 29) {σ' : zSt} (hQ : zRes T none (none) σ') (v8 : Int64) (v25 : Int64) (t0 : Int64)  (σ : zSt) (h : fX9_wave_326 v8 v25 t0 σ = some σ') : Z T σ 326 [(0, .ref (zAd T (61))), (8, .long v8), (25, .long v25)] [.long t0] := by
  unfold fX9_wave_326 at h
  refine z_ldc2 hC kc_X9_266 dX9_wave_326 ?_
  refine z_b1 h (fun r329_1 e_r329_1 h => ?_)
  refine z_cS2r hC (ctX9_up hC.hm e_r329_1) kb_X9_up km_X9_213 ⟨by decide, by decide⟩ (Nat.le_of_ble_eq_true rfl) dX9_wave_329 ?_
  refine z_lload hC 1 rfl dX9_wave_332 ?_
  refine z_ladd hC dX9_wave_334 ?_
  refine z_nmL h (fun x335_2 h => ?_)
  refine z_lstore hC [(27, .long x335_2), (0, .ref (zAd T (61))), (8, .long v8), (25, .long v25)] (by rw [hN]; decide) rfl dX9_wave_335 ?_
  refine z_aload_n hC 1 rfl rfl dX9_wave_337 ?_
  refine z_ldc2 hC kc_X9_298 dX9_wave_338 ?_
  refine z_ldc2 hC kc_X9_207 dX9_wave_341 ?_
  refine z_lload hC 3 rfl dX9_wave_344 ?_
  refine z_cS2r hC (ctX9_less hC.hm) kb_X9_less km_X9_237 ⟨by decide, by decide⟩ (Nat.le_of_ble_eq_true rfl) dX9_wave_346 ?_
  refine z_cS2r hC (ctX9_more hC.hm) kb_X9_more km_X9_240 ⟨by decide, by decide⟩ (Nat.le_of_ble_eq_true rfl) dX9_wave_349 ?_
  refine z_ldc2 hC kc_X9_207 dX9_wave_352 ?_
  refine z_ldc2 hC kc_X9_298 dX9_wave_355 ?_
  refine z_lload hC 0 rfl dX9_wave_358 ?_
  refine z_cS2r hC (ctX9_more hC.hm) kb_X9_more km_X9_240 ⟨by decide, by decide⟩ (Nat.le_of_ble_eq_true rfl) dX9_wave_360 ?_
  refine z_cS2r hC (ctX9_less hC.hm) kb_X9_less km_X9_237 ⟨by decide, by decide⟩ (Nat.le_of_ble_eq_true rfl) dX9_wave_363 ?_
  refine z_b1 h (fun s366_3 e_s366_3 h => ?_)
  refine z_cV2v hC (ctX9_is hC.hm e_s366_3) (rcX9 hC) kb_X9_is km_X9_243 ⟨by decide, by decide⟩ (Nat.le_of_ble_eq_true rfl) dX9_wave_366 ?_
  obtain rfl := z_so h
  exact z_vret hC hQ dX9_wave_369
set_option maxRecDepth 100000 in
set_option maxHeartbeats 4000000 in
theorem wX9_wave_287 {T : zX} (hC : zOk T cX9_wave RX9 1 25 61 85) (hN : zNL T = 29) {σ' : zSt} (hQ : zRes T none (none) σ') (v8 : Int64) (v20 : Int64) (v22 : Int64) (t0 : Int32)  (σ : zSt) (h : fX9_wave_287 v8 v20 v22 t0 σ = some σ') : Z T σ 287 [(0, .ref (zAd T (61))), (8, .long v8), (20, .long v20), (22, .long v22)] [.int t0] := by
  unfold fX9_wave_287 at h
  refine z_istore hC [(24, .int t0), (0, .ref (zAd T (61))), (8, .long v8), (20, .long v20), (22, .long v22)] (by rw [hN]; decide) rfl dX9_wave_287 ?_
  refine z_iload hC 0 rfl dX9_wave_289 ?_
  refine z_if_eq hC 300 (by decide) dX9_wave_291 (fun q291_1 => ?_) (fun q291_1 => ?_)
  · replace h := z_t q291_1 h
    refine z_lload hC 3 rfl dX9_wave_300 ?_
    refine z_ldc2 hC kc_X9_266 dX9_wave_302 ?_
    refine z_b1 h (fun r305_2 e_r305_2 h => ?_)
    refine z_cS2r hC (ctX9_down hC.hm e_r305_2) kb_X9_down km_X9_209 ⟨by decide, by decide⟩ (Nat.le_of_ble_eq_true rfl) dX9_wave_305 ?_
    refine z_lload hC 2 rfl dX9_wave_308 ?_
    refine z_lsub hC dX9_wave_310 ?_
    refine z_nmL h (fun x311_3 h => ?_)
    refine z_lstore hC [(25, .long x311_3), (24, .int t0), (0, .ref (zAd T (61))), (8, .long v8), (20, .long v20), (22, .long v22)] (by rw [hN]; decide) rfl dX9_wave_311 ?_
    refine z_iload hC 1 rfl dX9_wave_313 ?_
    refine z_if_eq hC 324 (by decide) dX9_wave_315 (fun q315_4 => ?_) (fun q315_4 => ?_)
    · replace h := z_t q315_4 h
      refine z_lload hC 5 rfl dX9_wave_324 ?_
      refine z_sub [(0, .ref (zAd T (61))), (8, .long v8), (25, .long x311_3)] [2, 3, 0] rfl ?_
      exact (wX9_wave_326 hC hN hQ ) _ _ _ _ h
    · replace h := z_f q315_4 h
      refine z_lload hC 4 rfl dX9_wave_318 ?_
      refine z_lneg hC dX9_wave_320 ?_
      refine z_goto hC 326 (by decide) dX9_wave_321 ?_
      refine z_sub [(0, .ref (zAd T (61))), (8, .long v8), (25, .long x311_3)] [2, 3, 0] rfl ?_
      exact (wX9_wave_326 hC hN hQ ) _ _ _ _ h
  · replace h := z_f q291_1 h
    refine z_lload hC 4 rfl dX9_wave_294 ?_
    refine z_lneg hC dX9_wave_296 ?_
    refine z_goto hC 302 (by decide) dX9_wave_297 ?_
    refine z_ldc2 hC kc_X9_266 dX9_wave_302 ?_
    refine z_b1 h (fun r305_5 e_r305_5 h => ?_)
    refine z_cS2r hC (ctX9_down hC.hm e_r305_5) kb_X9_down km_X9_209 ⟨by decide, by decide⟩ (Nat.le_of_ble_eq_true rfl) dX9_wave_305 ?_
    refine z_lload hC 2 rfl dX9_wave_308 ?_
    refine z_lsub hC dX9_wave_310 ?_
    refine z_nmL h (fun x311_6 h => ?_)
    refine z_lstore hC [(25, .long x311_6), (24, .int t0), (0, .ref (zAd T (61))), (8, .long v8), (20, .long v20), (22, .long v22)] (by rw [hN]; decide) rfl dX9_wave_311 ?_
    refine z_iload hC 1 rfl dX9_wave_313 ?_
    refine z_if_eq hC 324 (by decide) dX9_wave_315 (fun q315_7 => ?_) (fun q315_7 => ?_)
    · replace h := z_t q315_7 h
      refine z_lload hC 5 rfl dX9_wave_324 ?_
      refine z_sub [(0, .ref (zAd T (61))), (8, .long v8), (25, .long x311_6)] [2, 3, 0] rfl ?_
      exact (wX9_wave_326 hC hN hQ ) _ _ _ _ h
    · replace h := z_f q315_7 h
      refine z_lload hC 4 rfl dX9_wave_318 ?_
      refine z_lneg hC dX9_wave_320 ?_
      refine z_goto hC 326 (by decide) dX9_wave_321 ?_
      refine z_sub [(0, .ref (zAd T (61))), (8, .long v8), (25, .long x311_6)] [2, 3, 0] rfl ?_
      exact (wX9_wave_326 hC hN hQ ) _ _ _ _ h
set_option maxRecDepth 100000 in
set_option maxHeartbeats 4000000 in
theorem wX9_wave_241 {T : zX} (hC : zOk T cX9_wave RX9 1 25 61 85) (hN : zNL T = 29) {σ' : zSt} (hQ : zRes T none (none) σ') (K132 : Int32 → Int64 → Int64 → Int64 → Int64 → Int64 → Int64 → Int64 → Int64 → Int32 → zSt → Option zSt) (hK132 : ∀ (v5 : Int32) (v6 : Int64) (v8 : Int64) (v12 : Int64) (v14 : Int64) (v16 : Int64) (v18 : Int64) (v20 : Int64) (v22 : Int64) (v24 : Int32) (τ : zSt), K132 v5 v6 v8 v12 v14 v16 v18 v20 v22 v24 τ = some σ' → Z T τ 132 [(0, .ref (zAd T (61))), (5, .int v5), (6, .long v6), (8, .long v8), (12, .long v12), (14, .long v14), (16, .long v16), (18, .long v18), (20, .long v20), (22, .long v22), (24, .int v24)] []) (v5 : Int32) (v6 : Int64) (v8 : Int64) (v12 : Int64) (v14 : Int64) (v16 : Int64) (v18 : Int64) (v22 : Int64) (v24 : Int32) (t0 : Int64) (t1 : Int64)  (σ : zSt) (h : fX9_wave_241 K132 v5 v6 v8 v12 v14 v16 v18 v22 v24 t0 t1 σ = some σ') : Z T σ 241 [(0, .ref (zAd T (61))), (5, .int v5), (6, .long v6), (8, .long v8), (12, .long v12), (14, .long v14), (16, .long v16), (18, .long v18), (22, .long v22), (24, .int v24)] [.long t0, .long t1] := by
  unfold fX9_wave_241 at h
  refine z_ladd hC dX9_wave_241 ?_
  refine z_nmL h (fun x242_1 h => ?_)
  refine z_lstore hC [(20, .long x242_1), (0, .ref (zAd T (61))), (5, .int v5), (6, .long v6), (8, .long v8), (12, .long v12), (14, .long v14), (16, .long v16), (18, .long v18), (22, .long v22), (24, .int v24)] (by rw [hN]; decide) rfl dX9_wave_242 ?_
  refine z_lload hC 9 rfl dX9_wave_244 ?_
  refine z_iload hC 10 rfl dX9_wave_246 ?_
  refine z_iconst hC (2 : Int32) (by decide) dX9_wave_248 ?_
  refine z_irem hC (by decide) dX9_wave_249 ?_
  refine z_if_ne hC 258 (by decide) dX9_wave_250 (fun q250_2 => ?_) (fun q250_2 => ?_)
  · replace h := z_f q250_2 h
    refine z_lload hC 7 rfl dX9_wave_258 ?_
    refine z_lneg hC dX9_wave_260 ?_
    refine z_ladd hC dX9_wave_261 ?_
    refine z_nmL h (fun x262_3 h => ?_)
    refine z_lstore hC [(22, .long x262_3), (20, .long x242_1), (0, .ref (zAd T (61))), (5, .int v5), (6, .long v6), (8, .long v8), (12, .long v12), (14, .long v14), (16, .long v16), (18, .long v18), (24, .int v24)] (by rw [hN]; decide) rfl dX9_wave_262 ?_
    refine z_nmE h (fun x264_4 e_x264_4 h => ?_)
    refine z_iinc hC x264_4 [(24, .int x264_4), (22, .long x262_3), (20, .long x242_1), (0, .ref (zAd T (61))), (5, .int v5), (6, .long v6), (8, .long v8), (12, .long v12), (14, .long v14), (16, .long v16), (18, .long v18)] 10 rfl (by rw [e_x264_4]; rfl) (by rw [hN]; decide) rfl dX9_wave_264 ?_
    refine z_goto hC 132 (by decide) dX9_wave_267 ?_
    refine z_sub [(0, .ref (zAd T (61))), (5, .int v5), (6, .long v6), (8, .long v8), (12, .long v12), (14, .long v14), (16, .long v16), (18, .long v18), (20, .long x242_1), (22, .long x262_3), (24, .int x264_4)] [3, 4, 5, 6, 7, 8, 9, 10, 2, 1, 0] rfl ?_
    exact hK132 _ _ _ _ _ _ _ _ _ _ _ h
  · replace h := z_t q250_2 h
    refine z_lload hC 8 rfl dX9_wave_253 ?_
    refine z_goto hC 261 (by decide) dX9_wave_255 ?_
    refine z_ladd hC dX9_wave_261 ?_
    refine z_nmL h (fun x262_5 h => ?_)
    refine z_lstore hC [(22, .long x262_5), (20, .long x242_1), (0, .ref (zAd T (61))), (5, .int v5), (6, .long v6), (8, .long v8), (12, .long v12), (14, .long v14), (16, .long v16), (18, .long v18), (24, .int v24)] (by rw [hN]; decide) rfl dX9_wave_262 ?_
    refine z_nmE h (fun x264_6 e_x264_6 h => ?_)
    refine z_iinc hC x264_6 [(24, .int x264_6), (22, .long x262_5), (20, .long x242_1), (0, .ref (zAd T (61))), (5, .int v5), (6, .long v6), (8, .long v8), (12, .long v12), (14, .long v14), (16, .long v16), (18, .long v18)] 10 rfl (by rw [e_x264_6]; rfl) (by rw [hN]; decide) rfl dX9_wave_264 ?_
    refine z_goto hC 132 (by decide) dX9_wave_267 ?_
    refine z_sub [(0, .ref (zAd T (61))), (5, .int v5), (6, .long v6), (8, .long v8), (12, .long v12), (14, .long v14), (16, .long v16), (18, .long v18), (20, .long x242_1), (22, .long x262_5), (24, .int x264_6)] [3, 4, 5, 6, 7, 8, 9, 10, 2, 1, 0] rfl ?_
    exact hK132 _ _ _ _ _ _ _ _ _ _ _ h
set_option maxRecDepth 100000 in
set_option maxHeartbeats 4000000 in
theorem wX9_wave_186 {T : zX} (hC : zOk T cX9_wave RX9 1 25 61 85) (hN : zNL T = 29) {σ' : zSt} (hQ : zRes T none (none) σ') (K132 : Int32 → Int64 → Int64 → Int64 → Int64 → Int64 → Int64 → Int64 → Int64 → Int32 → zSt → Option zSt) (hK132 : ∀ (v5 : Int32) (v6 : Int64) (v8 : Int64) (v12 : Int64) (v14 : Int64) (v16 : Int64) (v18 : Int64) (v20 : Int64) (v22 : Int64) (v24 : Int32) (τ : zSt), K132 v5 v6 v8 v12 v14 v16 v18 v20 v22 v24 τ = some σ' → Z T τ 132 [(0, .ref (zAd T (61))), (5, .int v5), (6, .long v6), (8, .long v8), (12, .long v12), (14, .long v14), (16, .long v16), (18, .long v18), (20, .long v20), (22, .long v22), (24, .int v24)] []) (v5 : Int32) (v6 : Int64) (v8 : Int64) (v12 : Int64) (v14 : Int64) (v16 : Int64) (v18 : Int64) (v20 : Int64) (v22 : Int64) (v24 : Int32) (t0 : Int64)  (σ : zSt) (h : fX9_wave_186 K132 v5 v6 v8 v12 v14 v16 v18 v20 v22 v24 t0 σ = some σ') : Z T σ 186 [(0, .ref (zAd T (61))), (5, .int v5), (6, .long v6), (8, .long v8), (12, .long v12), (14, .long v14), (16, .long v16), (18, .long v18), (20, .long v20), (22, .long v22), (24, .int v24)] [.long t0] := by
  unfold fX9_wave_186 at h
  refine z_lstore hC [(25, .long t0), (0, .ref (zAd T (61))), (5, .int v5), (6, .long v6), (8, .long v8), (12, .long v12), (14, .long v14), (16, .long v16), (18, .long v18), (20, .long v20), (22, .long v22), (24, .int v24)] (by rw [hN]; decide) rfl dX9_wave_186 ?_
  refine z_lload hC 7 rfl dX9_wave_188 ?_
  refine z_lload hC 5 rfl dX9_wave_190 ?_
  refine z_lmul hC dX9_wave_192 ?_
  refine z_ldc2 hC kc_X9_268 dX9_wave_193 ?_
  refine z_b1 h (fun r196_1 e_r196_1 h => ?_)
  refine z_cS2r hC (ctX9_down hC.hm e_r196_1) kb_X9_down km_X9_209 ⟨by decide, by decide⟩ (Nat.le_of_ble_eq_true rfl) dX9_wave_196 ?_
  refine z_lload hC 0 rfl dX9_wave_199 ?_
  refine z_b1 h (fun r201_2 e_r201_2 h => ?_)
  refine z_cS2r hC (ctX9_down hC.hm e_r201_2) kb_X9_down km_X9_209 ⟨by decide, by decide⟩ (Nat.le_of_ble_eq_true rfl) dX9_wave_201 ?_
  refine z_lstore hC [(16, .long r201_2), (25, .long t0), (0, .ref (zAd T (61))), (5, .int v5), (6, .long v6), (8, .long v8), (12, .long v12), (14, .long v14), (18, .long v18), (20, .long v20), (22, .long v22), (24, .int v24)] (by rw [hN]; decide) rfl dX9_wave_204 ?_
  refine z_lload hC 8 rfl dX9_wave_206 ?_
  refine z_lload hC 7 rfl dX9_wave_208 ?_
  refine z_lmul hC dX9_wave_210 ?_
  refine z_ldc2 hC kc_X9_268 dX9_wave_211 ?_
  refine z_b1 h (fun r214_3 e_r214_3 h => ?_)
  refine z_cS2r hC (ctX9_up hC.hm e_r214_3) kb_X9_up km_X9_213 ⟨by decide, by decide⟩ (Nat.le_of_ble_eq_true rfl) dX9_wave_214 ?_
  refine z_lload hC 1 rfl dX9_wave_217 ?_
  refine z_b1 h (fun r219_4 e_r219_4 h => ?_)
  refine z_cS2r hC (ctX9_up hC.hm e_r219_4) kb_X9_up km_X9_213 ⟨by decide, by decide⟩ (Nat.le_of_ble_eq_true rfl) dX9_wave_219 ?_
  refine z_lstore hC [(18, .long r219_4), (16, .long r201_2), (25, .long t0), (0, .ref (zAd T (61))), (5, .int v5), (6, .long v6), (8, .long v8), (12, .long v12), (14, .long v14), (20, .long v20), (22, .long v22), (24, .int v24)] (by rw [hN]; decide) rfl dX9_wave_222 ?_
  refine z_lload hC 9 rfl dX9_wave_224 ?_
  refine z_iload hC 11 rfl dX9_wave_226 ?_
  refine z_iconst hC (2 : Int32) (by decide) dX9_wave_228 ?_
  refine z_irem hC (by decide) dX9_wave_229 ?_
  refine z_if_ne hC 238 (by decide) dX9_wave_230 (fun q230_5 => ?_) (fun q230_5 => ?_)
  · replace h := z_f q230_5 h
    refine z_lload hC 0 rfl dX9_wave_238 ?_
    refine z_lneg hC dX9_wave_240 ?_
    refine z_sub [(0, .ref (zAd T (61))), (5, .int v5), (6, .long v6), (8, .long v8), (12, .long v12), (14, .long v14), (16, .long r201_2), (18, .long r219_4), (22, .long v22), (24, .int v24)] [3, 4, 5, 6, 7, 8, 1, 0, 10, 11] rfl ?_
    exact (wX9_wave_241 hC hN hQ K132 hK132 ) _ _ _ _ _ _ _ _ _ _ _ _ h
  · replace h := z_t q230_5 h
    refine z_lload hC 1 rfl dX9_wave_233 ?_
    refine z_goto hC 241 (by decide) dX9_wave_235 ?_
    refine z_sub [(0, .ref (zAd T (61))), (5, .int v5), (6, .long v6), (8, .long v8), (12, .long v12), (14, .long v14), (16, .long r201_2), (18, .long r219_4), (22, .long v22), (24, .int v24)] [3, 4, 5, 6, 7, 8, 1, 0, 10, 11] rfl ?_
    exact (wX9_wave_241 hC hN hQ K132 hK132 ) _ _ _ _ _ _ _ _ _ _ _ _ h
set_option maxRecDepth 100000 in
set_option maxHeartbeats 4000000 in
theorem wX9_wave_132 {T : zX} (hC : zOk T cX9_wave RX9 1 25 61 85) (hN : zNL T = 29) {σ' : zSt} (hQ : zRes T none (none) σ') (K132 : Int32 → Int64 → Int64 → Int64 → Int64 → Int64 → Int64 → Int64 → Int64 → Int32 → zSt → Option zSt) (hK132 : ∀ (v5 : Int32) (v6 : Int64) (v8 : Int64) (v12 : Int64) (v14 : Int64) (v16 : Int64) (v18 : Int64) (v20 : Int64) (v22 : Int64) (v24 : Int32) (τ : zSt), K132 v5 v6 v8 v12 v14 v16 v18 v20 v22 v24 τ = some σ' → Z T τ 132 [(0, .ref (zAd T (61))), (5, .int v5), (6, .long v6), (8, .long v8), (12, .long v12), (14, .long v14), (16, .long v16), (18, .long v18), (20, .long v20), (22, .long v22), (24, .int v24)] []) (v5 : Int32) (v6 : Int64) (v8 : Int64) (v12 : Int64) (v14 : Int64) (v16 : Int64) (v18 : Int64) (v20 : Int64) (v22 : Int64) (v24 : Int32)  (σ : zSt) (h : fX9_wave_132 K132 v5 v6 v8 v12 v14 v16 v18 v20 v22 v24 σ = some σ') : Z T σ 132 [(0, .ref (zAd T (61))), (5, .int v5), (6, .long v6), (8, .long v8), (12, .long v12), (14, .long v14), (16, .long v16), (18, .long v18), (20, .long v20), (22, .long v22), (24, .int v24)] [] := by
  unfold fX9_wave_132 at h
  refine z_iload hC 10 rfl dX9_wave_132 ?_
  refine z_bipush hC (20 : Int32) (by decide) dX9_wave_134 ?_
  refine z_icmp_ge hC 270 (by decide) dX9_wave_136 (fun q136_1 => ?_) (fun q136_1 => ?_)
  · replace h := z_t q136_1 h
    refine z_iload hC 1 rfl dX9_wave_270 ?_
    refine z_if_eq hC 286 (by decide) dX9_wave_272 (fun q272_2 => ?_) (fun q272_2 => ?_)
    · replace h := z_t q272_2 h
      refine z_iconst hC (0 : Int32) (by decide) dX9_wave_286 ?_
      refine z_sub [(0, .ref (zAd T (61))), (8, .long v8), (20, .long v20), (22, .long v22)] [0, 3, 8, 9] rfl ?_
      exact (wX9_wave_287 hC hN hQ ) _ _ _ _ _ h
    · replace h := z_f q272_2 h
      refine z_lload hC 2 rfl dX9_wave_275 ?_
      refine z_lconst hC (0 : Int64) (by decide) dX9_wave_277 ?_
      refine z_cmp_ge hC 286 (by decide) dX9_wave_278 dX9_wave_279 (fun q278_3 => ?_) (fun q278_3 => ?_)
      · replace h := z_t q278_3 h
        refine z_iconst hC (0 : Int32) (by decide) dX9_wave_286 ?_
        refine z_sub [(0, .ref (zAd T (61))), (8, .long v8), (20, .long v20), (22, .long v22)] [0, 3, 8, 9] rfl ?_
        exact (wX9_wave_287 hC hN hQ ) _ _ _ _ _ h
      · replace h := z_f q278_3 h
        refine z_iconst hC (1 : Int32) (by decide) dX9_wave_282 ?_
        refine z_goto hC 287 (by decide) dX9_wave_283 ?_
        refine z_sub [(0, .ref (zAd T (61))), (8, .long v8), (20, .long v20), (22, .long v22)] [0, 3, 8, 9] rfl ?_
        exact (wX9_wave_287 hC hN hQ ) _ _ _ _ _ h
  · replace h := z_f q136_1 h
    refine z_iload hC 10 rfl dX9_wave_139 ?_
    refine z_if_le hC 224 (by decide) dX9_wave_141 (fun q141_4 => ?_) (fun q141_4 => ?_)
    · replace h := z_t q141_4 h
      refine z_lload hC 8 rfl dX9_wave_224 ?_
      refine z_iload hC 10 rfl dX9_wave_226 ?_
      refine z_iconst hC (2 : Int32) (by decide) dX9_wave_228 ?_
      refine z_irem hC (by decide) dX9_wave_229 ?_
      refine z_if_ne hC 238 (by decide) dX9_wave_230 (fun q230_5 => ?_) (fun q230_5 => ?_)
      · replace h := z_f q230_5 h
        refine z_lload hC 7 rfl dX9_wave_238 ?_
        refine z_lneg hC dX9_wave_240 ?_
        refine z_sub [(0, .ref (zAd T (61))), (5, .int v5), (6, .long v6), (8, .long v8), (12, .long v12), (14, .long v14), (16, .long v16), (18, .long v18), (22, .long v22), (24, .int v24)] [0, 1, 2, 3, 4, 5, 6, 7, 9, 10] rfl ?_
        exact (wX9_wave_241 hC hN hQ K132 hK132 ) _ _ _ _ _ _ _ _ _ _ _ _ h
      · replace h := z_t q230_5 h
        refine z_lload hC 6 rfl dX9_wave_233 ?_
        refine z_goto hC 241 (by decide) dX9_wave_235 ?_
        refine z_sub [(0, .ref (zAd T (61))), (5, .int v5), (6, .long v6), (8, .long v8), (12, .long v12), (14, .long v14), (16, .long v16), (18, .long v18), (22, .long v22), (24, .int v24)] [0, 1, 2, 3, 4, 5, 6, 7, 9, 10] rfl ?_
        exact (wX9_wave_241 hC hN hQ K132 hK132 ) _ _ _ _ _ _ _ _ _ _ _ _ h
    · replace h := z_f q141_4 h
      refine z_iload hC 1 rfl dX9_wave_144 ?_
      refine z_if_eq hC 169 (by decide) dX9_wave_146 (fun q146_6 => ?_) (fun q146_6 => ?_)
      · replace h := z_t q146_6 h
        refine z_ldc2 hC kc_X9_292 dX9_wave_169 ?_
        refine z_iload hC 10 rfl dX9_wave_172 ?_
        refine z_i2l hC dX9_wave_174 ?_
        refine z_lmul hC dX9_wave_175 ?_
        refine z_lconst hC (1 : Int64) (by decide) dX9_wave_176 ?_
        refine z_lsub hC dX9_wave_177 ?_
        refine z_ldc2 hC kc_X9_292 dX9_wave_178 ?_
        refine z_lmul hC dX9_wave_181 ?_
        refine z_iload hC 10 rfl dX9_wave_182 ?_
        refine z_i2l hC dX9_wave_184 ?_
        refine z_lmul hC dX9_wave_185 ?_
        refine z_nmL h (fun x185_7 h => ?_)
        exact (wX9_wave_186 hC hN hQ K132 hK132 ) _ _ _ _ _ _ _ _ _ _ _ _ h
      · replace h := z_f q146_6 h
        refine z_ldc2 hC kc_X9_292 dX9_wave_149 ?_
        refine z_iload hC 10 rfl dX9_wave_152 ?_
        refine z_i2l hC dX9_wave_154 ?_
        refine z_lmul hC dX9_wave_155 ?_
        refine z_ldc2 hC kc_X9_292 dX9_wave_156 ?_
        refine z_iload hC 10 rfl dX9_wave_159 ?_
        refine z_i2l hC dX9_wave_161 ?_
        refine z_lmul hC dX9_wave_162 ?_
        refine z_lconst hC (1 : Int64) (by decide) dX9_wave_163 ?_
        refine z_ladd hC dX9_wave_164 ?_
        refine z_lmul hC dX9_wave_165 ?_
        refine z_nmL h (fun x165_8 h => ?_)
        refine z_goto hC 186 (by decide) dX9_wave_166 ?_
        exact (wX9_wave_186 hC hN hQ K132 hK132 ) _ _ _ _ _ _ _ _ _ _ _ _ h
theorem wX9_wave_L132 {T : zX} (hC : zOk T cX9_wave RX9 1 25 61 85) (hN : zNL T = 29) {σ' : zSt} (hQ : zRes T none (none) σ') (n : Nat) : ∀ (v5 : Int32) (v6 : Int64) (v8 : Int64) (v12 : Int64) (v14 : Int64) (v16 : Int64) (v18 : Int64) (v20 : Int64) (v22 : Int64) (v24 : Int32) (σ : zSt), fX9_wave_L132 n v5 v6 v8 v12 v14 v16 v18 v20 v22 v24 σ = some σ' → Z T σ 132 [(0, .ref (zAd T (61))), (5, .int v5), (6, .long v6), (8, .long v8), (12, .long v12), (14, .long v14), (16, .long v16), (18, .long v18), (20, .long v20), (22, .long v22), (24, .int v24)] [] := by
  induction n with
  | zero => intro v5 v6 v8 v12 v14 v16 v18 v20 v22 v24 σ h; cases h
  | succ n ih => intro v5 v6 v8 v12 v14 v16 v18 v20 v22 v24 σ h; exact wX9_wave_132 hC hN hQ (fX9_wave_L132 n) ih v5 v6 v8 v12 v14 v16 v18 v20 v22 v24 σ h
set_option maxRecDepth 100000 in
set_option maxHeartbeats 4000000 in
theorem wX9_wave_73 {T : zX} (hC : zOk T cX9_wave RX9 1 25 61 85) (hN : zNL T = 29) {σ' : zSt} (hQ : zRes T none (none) σ') (v5 : Int32) (v6 : Int64) (v8 : Int64) (t0 : Int64) (t1 : Int64)  (σ : zSt) (h : fX9_wave_73 v5 v6 v8 t0 t1 σ = some σ') : Z T σ 73 [(0, .ref (zAd T (61))), (5, .int v5), (6, .long v6), (8, .long v8)] [.long t0, .long t1] := by
  unfold fX9_wave_73 at h
  refine z_lmul hC dX9_wave_73 ?_
  refine z_nmL h (fun x74_1 h => ?_)
  refine z_lstore hC [(10, .long x74_1), (0, .ref (zAd T (61))), (5, .int v5), (6, .long v6), (8, .long v8)] (by rw [hN]; decide) rfl dX9_wave_74 ?_
  refine z_lload hC 0 rfl dX9_wave_76 ?_
  refine z_lload hC 0 rfl dX9_wave_78 ?_
  refine z_lmul hC dX9_wave_80 ?_
  refine z_ldc2 hC kc_X9_268 dX9_wave_81 ?_
  refine z_b1 h (fun r84_2 e_r84_2 h => ?_)
  refine z_cS2r hC (ctX9_down hC.hm e_r84_2) kb_X9_down km_X9_209 ⟨by decide, by decide⟩ (Nat.le_of_ble_eq_true rfl) dX9_wave_84 ?_
  refine z_lstore hC [(12, .long r84_2), (10, .long x74_1), (0, .ref (zAd T (61))), (5, .int v5), (6, .long v6), (8, .long v8)] (by rw [hN]; decide) rfl dX9_wave_87 ?_
  refine z_lload hC 1 rfl dX9_wave_89 ?_
  refine z_lload hC 1 rfl dX9_wave_91 ?_
  refine z_lmul hC dX9_wave_93 ?_
  refine z_ldc2 hC kc_X9_268 dX9_wave_94 ?_
  refine z_b1 h (fun r97_3 e_r97_3 h => ?_)
  refine z_cS2r hC (ctX9_up hC.hm e_r97_3) kb_X9_up km_X9_213 ⟨by decide, by decide⟩ (Nat.le_of_ble_eq_true rfl) dX9_wave_97 ?_
  refine z_lstore hC [(14, .long r97_3), (12, .long r84_2), (10, .long x74_1), (0, .ref (zAd T (61))), (5, .int v5), (6, .long v6), (8, .long v8)] (by rw [hN]; decide) rfl dX9_wave_100 ?_
  refine z_iload hC 4 rfl dX9_wave_102 ?_
  refine z_if_eq hC 112 (by decide) dX9_wave_104 (fun q104_4 => ?_) (fun q104_4 => ?_)
  · replace h := z_t q104_4 h
    refine z_ldc2 hC kc_X9_268 dX9_wave_112 ?_
    refine z_lstore hC [(16, .long (16777216 : Int64)), (14, .long r97_3), (12, .long r84_2), (10, .long x74_1), (0, .ref (zAd T (61))), (5, .int v5), (6, .long v6), (8, .long v8)] (by rw [hN]; decide) rfl dX9_wave_115 ?_
    refine z_lload hC 0 rfl dX9_wave_117 ?_
    refine z_lstore hC [(18, .long (16777216 : Int64)), (16, .long (16777216 : Int64)), (14, .long r97_3), (12, .long r84_2), (10, .long x74_1), (0, .ref (zAd T (61))), (5, .int v5), (6, .long v6), (8, .long v8)] (by rw [hN]; decide) rfl dX9_wave_119 ?_
    refine z_ldc2 hC kc_X9_300 dX9_wave_121 ?_
    refine z_lstore hC [(20, .long (-1 : Int64)), (18, .long (16777216 : Int64)), (16, .long (16777216 : Int64)), (14, .long r97_3), (12, .long r84_2), (10, .long x74_1), (0, .ref (zAd T (61))), (5, .int v5), (6, .long v6), (8, .long v8)] (by rw [hN]; decide) rfl dX9_wave_124 ?_
    refine z_lconst hC (1 : Int64) (by decide) dX9_wave_126 ?_
    refine z_lstore hC [(22, .long (1 : Int64)), (20, .long (-1 : Int64)), (18, .long (16777216 : Int64)), (16, .long (16777216 : Int64)), (14, .long r97_3), (12, .long r84_2), (10, .long x74_1), (0, .ref (zAd T (61))), (5, .int v5), (6, .long v6), (8, .long v8)] (by rw [hN]; decide) rfl dX9_wave_127 ?_
    refine z_iconst hC (0 : Int32) (by decide) dX9_wave_129 ?_
    refine z_istore hC [(24, .int (0 : Int32)), (22, .long (1 : Int64)), (20, .long (-1 : Int64)), (18, .long (16777216 : Int64)), (16, .long (16777216 : Int64)), (14, .long r97_3), (12, .long r84_2), (10, .long x74_1), (0, .ref (zAd T (61))), (5, .int v5), (6, .long v6), (8, .long v8)] (by rw [hN]; decide) rfl dX9_wave_130 ?_
    refine z_sub [(0, .ref (zAd T (61))), (5, .int v5), (6, .long v6), (8, .long v8), (12, .long r84_2), (14, .long r97_3), (16, .long (16777216 : Int64)), (18, .long (16777216 : Int64)), (20, .long (-1 : Int64)), (22, .long (1 : Int64)), (24, .int (0 : Int32))] [8, 9, 10, 11, 6, 5, 4, 3, 2, 1, 0] rfl ?_
    exact (wX9_wave_L132 hC hN hQ zFU) _ _ _ _ _ _ _ _ _ _ _ h
  · replace h := z_f q104_4 h
    refine z_lload hC 2 rfl dX9_wave_107 ?_
    refine z_goto hC 115 (by decide) dX9_wave_109 ?_
    refine z_lstore hC [(16, .long x74_1), (14, .long r97_3), (12, .long r84_2), (10, .long x74_1), (0, .ref (zAd T (61))), (5, .int v5), (6, .long v6), (8, .long v8)] (by rw [hN]; decide) rfl dX9_wave_115 ?_
    refine z_lload hC 0 rfl dX9_wave_117 ?_
    refine z_lstore hC [(18, .long x74_1), (16, .long x74_1), (14, .long r97_3), (12, .long r84_2), (10, .long x74_1), (0, .ref (zAd T (61))), (5, .int v5), (6, .long v6), (8, .long v8)] (by rw [hN]; decide) rfl dX9_wave_119 ?_
    refine z_ldc2 hC kc_X9_300 dX9_wave_121 ?_
    refine z_lstore hC [(20, .long (-1 : Int64)), (18, .long x74_1), (16, .long x74_1), (14, .long r97_3), (12, .long r84_2), (10, .long x74_1), (0, .ref (zAd T (61))), (5, .int v5), (6, .long v6), (8, .long v8)] (by rw [hN]; decide) rfl dX9_wave_124 ?_
    refine z_lconst hC (1 : Int64) (by decide) dX9_wave_126 ?_
    refine z_lstore hC [(22, .long (1 : Int64)), (20, .long (-1 : Int64)), (18, .long x74_1), (16, .long x74_1), (14, .long r97_3), (12, .long r84_2), (10, .long x74_1), (0, .ref (zAd T (61))), (5, .int v5), (6, .long v6), (8, .long v8)] (by rw [hN]; decide) rfl dX9_wave_127 ?_
    refine z_iconst hC (0 : Int32) (by decide) dX9_wave_129 ?_
    refine z_istore hC [(24, .int (0 : Int32)), (22, .long (1 : Int64)), (20, .long (-1 : Int64)), (18, .long x74_1), (16, .long x74_1), (14, .long r97_3), (12, .long r84_2), (10, .long x74_1), (0, .ref (zAd T (61))), (5, .int v5), (6, .long v6), (8, .long v8)] (by rw [hN]; decide) rfl dX9_wave_130 ?_
    refine z_sub [(0, .ref (zAd T (61))), (5, .int v5), (6, .long v6), (8, .long v8), (12, .long r84_2), (14, .long r97_3), (16, .long x74_1), (18, .long x74_1), (20, .long (-1 : Int64)), (22, .long (1 : Int64)), (24, .int (0 : Int32))] [8, 9, 10, 11, 6, 5, 4, 3, 2, 1, 0] rfl ?_
    exact (wX9_wave_L132 hC hN hQ zFU) _ _ _ _ _ _ _ _ _ _ _ h
set_option maxRecDepth 100000 in
set_option maxHeartbeats 4000000 in
theorem wX9_wave_0 {T : zX} (hC : zOk T cX9_wave RX9 1 25 61 85) (hN : zNL T = 29) {σ' : zSt} (hQ : zRes T none (none) σ') (a1 : Int64) (a3 : Int64) (a5 : Int32)  (σ : zSt) (h : fX9_wave_0 a1 a3 a5 σ = some σ') : Z T σ 0 [(0, .ref (zAd T (61))), (1, .long a1), (3, .long a3), (5, .int a5)] [] := by
  unfold fX9_wave_0 at h
  refine z_lload_n hC 1 rfl rfl dX9_wave_0 ?_
  refine z_lload_n hC 2 rfl rfl dX9_wave_1 ?_
  refine z_ladd hC dX9_wave_2 ?_
  refine z_ldc2 hC kc_X9_292 dX9_wave_3 ?_
  refine z_b1 h (fun r6_1 e_r6_1 h => ?_)
  refine z_cS2r hC (ctX9_down hC.hm e_r6_1) kb_X9_down km_X9_209 ⟨by decide, by decide⟩ (Nat.le_of_ble_eq_true rfl) dX9_wave_6 ?_
  refine z_lstore hC [(6, .long r6_1), (0, .ref (zAd T (61))), (1, .long a1), (3, .long a3), (5, .int a5)] (by rw [hN]; decide) rfl dX9_wave_9 ?_
  refine z_lload_n hC 3 rfl rfl dX9_wave_11 ?_
  refine z_lload hC 0 rfl dX9_wave_12 ?_
  refine z_lsub hC dX9_wave_14 ?_
  refine z_nmL h (fun x15_2 h => ?_)
  refine z_lstore hC [(8, .long x15_2), (6, .long r6_1), (0, .ref (zAd T (61))), (1, .long a1), (3, .long a3), (5, .int a5)] (by rw [hN]; decide) rfl dX9_wave_15 ?_
  refine z_lload hC 1 rfl dX9_wave_17 ?_
  refine z_ldc2 hC kc_X9_294 dX9_wave_19 ?_
  refine z_cmp_gt hC 44 (by decide) dX9_wave_22 dX9_wave_23 (fun q22_3 => ?_) (fun q22_3 => ?_)
  · replace h := z_t q22_3 h
    refine z_aload_n hC 2 rfl rfl dX9_wave_44 ?_
    refine z_ldc2 hC kc_X9_298 dX9_wave_45 ?_
    refine z_ldc2 hC kc_X9_207 dX9_wave_48 ?_
    refine z_b1 h (fun s51_4 e_s51_4 h => ?_)
    refine z_cV2v hC (ctX9_is hC.hm e_s51_4) (rcX9 hC) kb_X9_is km_X9_243 ⟨by decide, by decide⟩ (Nat.le_of_ble_eq_true rfl) dX9_wave_51 ?_
    obtain rfl := z_so h
    exact z_vret hC hQ dX9_wave_54
  · replace h := z_f q22_3 h
    refine z_lload hC 1 rfl dX9_wave_26 ?_
    refine z_ldc2 hC kc_X9_296 dX9_wave_28 ?_
    refine z_cmp_lt hC 44 (by decide) dX9_wave_31 dX9_wave_32 (fun q31_5 => ?_) (fun q31_5 => ?_)
    · replace h := z_t q31_5 h
      refine z_aload_n hC 2 rfl rfl dX9_wave_44 ?_
      refine z_ldc2 hC kc_X9_298 dX9_wave_45 ?_
      refine z_ldc2 hC kc_X9_207 dX9_wave_48 ?_
      refine z_b1 h (fun s51_6 e_s51_6 h => ?_)
      refine z_cV2v hC (ctX9_is hC.hm e_s51_6) (rcX9 hC) kb_X9_is km_X9_243 ⟨by decide, by decide⟩ (Nat.le_of_ble_eq_true rfl) dX9_wave_51 ?_
      obtain rfl := z_so h
      exact z_vret hC hQ dX9_wave_54
    · replace h := z_f q31_5 h
      refine z_lload hC 0 rfl dX9_wave_35 ?_
      refine z_ldc2 hC kc_X9_207 dX9_wave_37 ?_
      refine z_cmp_le hC 55 (by decide) dX9_wave_40 dX9_wave_41 (fun q40_7 => ?_) (fun q40_7 => ?_)
      · replace h := z_t q40_7 h
        refine z_ldc2 hC kc_X9_266 dX9_wave_55 ?_
        refine z_lload hC 1 rfl dX9_wave_58 ?_
        refine z_lconst hC (0 : Int64) (by decide) dX9_wave_60 ?_
        refine z_cmp_ge hC 71 (by decide) dX9_wave_61 dX9_wave_62 (fun q61_8 => ?_) (fun q61_8 => ?_)
        · replace h := z_t q61_8 h
          refine z_lload hC 1 rfl dX9_wave_71 ?_
          refine z_sub [(0, .ref (zAd T (61))), (5, .int a5), (6, .long r6_1), (8, .long x15_2)] [2, 5, 1, 0] rfl ?_
          exact (wX9_wave_73 hC hN hQ ) _ _ _ _ _ _ h
        · replace h := z_f q61_8 h
          refine z_lload hC 1 rfl dX9_wave_65 ?_
          refine z_lneg hC dX9_wave_67 ?_
          refine z_goto hC 73 (by decide) dX9_wave_68 ?_
          refine z_sub [(0, .ref (zAd T (61))), (5, .int a5), (6, .long r6_1), (8, .long x15_2)] [2, 5, 1, 0] rfl ?_
          exact (wX9_wave_73 hC hN hQ ) _ _ _ _ _ _ h
      · replace h := z_f q40_7 h
        refine z_aload_n hC 2 rfl rfl dX9_wave_44 ?_
        refine z_ldc2 hC kc_X9_298 dX9_wave_45 ?_
        refine z_ldc2 hC kc_X9_207 dX9_wave_48 ?_
        refine z_b1 h (fun s51_9 e_s51_9 h => ?_)
        refine z_cV2v hC (ctX9_is hC.hm e_s51_9) (rcX9 hC) kb_X9_is km_X9_243 ⟨by decide, by decide⟩ (Nat.le_of_ble_eq_true rfl) dX9_wave_51 ?_
        obtain rfl := z_so h
        exact z_vret hC hQ dX9_wave_54
set_option maxRecDepth 100000 in
theorem ctX9_wave {l : Launch} {G : zGt} {mk : zSt → zSt} (hm : zM mk 61 85) {a1 : Int64} {a3 : Int64} {a5 : Int32} {σ : zSt} {σ' : zSt} (h : fX9_wave a1 a3 a5 σ = some σ') : zMet l G mk yX9_wave cX9_wave 29 none 1 25 [.ref (gA G (61)), .long a1, .long a3, .int a5] σ (none) σ' := by
  unfold fX9_wave at h

  refine zMet.of (plainFor_of_name (by decide +kernel)) hm (Nat.le_of_ble_eq_true rfl) (fun T eL eG eM hN hC hQ => ?_)
  subst eL; subst eG; subst eM
  refine z_sub [(0, .ref (zAd T (61))), (1, .long a1), (3, .long a3), (5, .int a5)] [0, 1, 2, 3] rfl ?_
  exact wX9_wave_0 hC hN hQ _ _ _  _ h
noncomputable def fX9_keepValue_0 (a1 : Int32) (σ : zSt) : Option zSt := zg (vp_in a1 480) <| zg (vp_in a1 480) <| zg (vp_in a1 480) <| some (si (sl (sl σ 72 a1.toNatClampNeg (gl σ 61 19)) 73 a1.toNatClampNeg (gl σ 61 20)) 76 a1.toNatClampNeg (vp_nar .boolean (gi σ 61 21)))
noncomputable def fX9_keepValue (a1 : Int32) (σ : zSt) : Option zSt := fX9_keepValue_0 a1 σ
set_option maxRecDepth 100000 in
set_option maxHeartbeats 4000000 in
theorem wX9_keepValue_0 {T : zX} (hC : zOk T cX9_keepValue RX9 0 0 61 85) (hN : zNL T = 2) {σ' : zSt} (hQ : zRes T none (none) σ') (a1 : Int32)  (σ : zSt) (h : fX9_keepValue_0 a1 σ = some σ') : Z T σ 0 [(0, .ref (zAd T (61))), (1, .int a1)] [] := by
  unfold fX9_keepValue_0 at h
  refine z_aload_n hC 0 rfl rfl dX9_keepValue_0 ?_
  refine gX9_23 hC kf_X9_42 dX9_keepValue_1 ?_
  refine z_iload_n hC 1 rfl rfl dX9_keepValue_4 ?_
  refine z_aload_n hC 0 rfl rfl dX9_keepValue_5 ?_
  refine gX9_19 hC kf_X9_222 (gl σ 61 19) rfl dX9_keepValue_6 ?_
  refine z_g h (fun g9_1 h => ?_)
  refine z_last hC 72 ⟨by decide, by decide⟩ (zS_72 _) g9_1 dX9_keepValue_9 ?_
  refine z_aload_n hC 0 rfl rfl dX9_keepValue_10 ?_
  refine gX9_24 hC kf_X9_45 dX9_keepValue_11 ?_
  refine z_iload_n hC 1 rfl rfl dX9_keepValue_14 ?_
  refine z_aload_n hC 0 rfl rfl dX9_keepValue_15 ?_
  refine gX9_20 hC kf_X9_226 (gl σ 61 20) rfl dX9_keepValue_16 ?_
  refine z_g h (fun g19_2 h => ?_)
  refine z_last hC 73 ⟨by decide, by decide⟩ (zS_73 _) g19_2 dX9_keepValue_19 ?_
  refine z_aload_n hC 0 rfl rfl dX9_keepValue_20 ?_
  refine gX9_27 hC kf_X9_54 dX9_keepValue_21 ?_
  refine z_iload_n hC 1 rfl rfl dX9_keepValue_24 ?_
  refine z_aload_n hC 0 rfl rfl dX9_keepValue_25 ?_
  refine gX9_21 hC kf_X9_233 (gi σ 61 21) rfl dX9_keepValue_26 ?_
  refine z_g h (fun g29_3 h => ?_)
  refine z_zast hC 76 ⟨by decide, by decide⟩ (zS_76 _) g29_3 dX9_keepValue_29 ?_
  obtain rfl := z_so h
  exact z_vret hC hQ dX9_keepValue_30
set_option maxRecDepth 100000 in
theorem ctX9_keepValue {l : Launch} {G : zGt} {mk : zSt → zSt} (hm : zM mk 61 85) {a1 : Int32} {σ : zSt} {σ' : zSt} (h : fX9_keepValue a1 σ = some σ') : zMet l G mk yX9_keepValue cX9_keepValue 2 none 0 0 [.ref (gA G (61)), .int a1] σ (none) σ' := by
  unfold fX9_keepValue at h

  refine zMet.of (plainFor_of_name (by decide +kernel)) hm (Nat.le_of_ble_eq_true rfl) (fun T eL eG eM hN hC hQ => ?_)
  subst eL; subst eG; subst eM
  refine z_sub [(0, .ref (zAd T (61))), (1, .int a1)] [0, 1] rfl ?_
  exact wX9_keepValue_0 hC hN hQ _  _ h
noncomputable def fX9_lastOf_0 (a1 : Int32) (σ : zSt) : Option Int32 := zg (vp_in a1 8) <| some ((((60 : Int32) * a1) + (gi σ 63 a1.toNatClampNeg)) - (1 : Int32))
noncomputable def fX9_lastOf (a1 : Int32) (σ : zSt) : Option Int32 := fX9_lastOf_0 a1 σ
set_option maxRecDepth 100000 in
set_option maxHeartbeats 4000000 in
theorem wX9_lastOf_0 {T : zX} {σ : zSt} (hC : zOk T cX9_lastOf RX9 0 0 61 85) (hN : zNL T = 2) {r : Int32} (hQ : zRes T (some .int) (some (.int r)) σ) (a1 : Int32)  (h : fX9_lastOf_0 a1 σ = some r) : Z T σ 0 [(0, .ref (zAd T (61))), (1, .int a1)] [] := by
  unfold fX9_lastOf_0 at h
  refine z_bipush hC (60 : Int32) (by decide) dX9_lastOf_0 ?_
  refine z_iload_n hC 1 rfl rfl dX9_lastOf_2 ?_
  refine z_imul hC dX9_lastOf_3 ?_
  refine z_aload_n hC 0 rfl rfl dX9_lastOf_4 ?_
  refine gX9_4 hC kf_X9_13 dX9_lastOf_5 ?_
  refine z_iload_n hC 1 rfl rfl dX9_lastOf_8 ?_
  refine z_g h (fun g9_1 h => ?_)
  refine z_iald hC 63 ⟨by decide, by decide⟩ (zS_63 _ _ _) g9_1 (gi σ 63 a1.toNatClampNeg) rfl dX9_lastOf_9 ?_
  refine z_iadd hC dX9_lastOf_10 ?_
  refine z_iconst hC (1 : Int32) (by decide) dX9_lastOf_11 ?_
  refine z_isub hC dX9_lastOf_12 ?_
  obtain rfl := z_so h
  exact z_iret hC hQ dX9_lastOf_13
set_option maxRecDepth 100000 in
theorem ctX9_lastOf {l : Launch} {G : zGt} {mk : zSt → zSt} (hm : zM mk 61 85) {a1 : Int32} {σ : zSt} {r : Int32} (h : fX9_lastOf a1 σ = some r) : zMet l G mk yX9_lastOf cX9_lastOf 2 (some .int) 0 0 [.ref (gA G (61)), .int a1] σ (some (.int r)) σ := by
  unfold fX9_lastOf at h

  refine zMet.of (plainFor_of_name (by decide +kernel)) hm (Nat.le_of_ble_eq_true rfl) (fun T eL eG eM hN hC hQ => ?_)
  subst eL; subst eG; subst eM
  refine z_sub [(0, .ref (zAd T (61))), (1, .int a1)] [0, 1] rfl ?_
  exact wX9_lastOf_0 hC hN hQ _  h
noncomputable def fX9_size__0 (a1 : Int64) (a3 : Int64) (σ : zSt) : Option zSt := 
    (if a1 < (0 : Int64) then 
      (if (0 : Int64) < a3 then bd1 (fX9_is (0 : Int64) (fX9_more (-a1) a3) σ) fun s40_3 => some s40_3
      else bd1 (fX9_is (-a3) (-a1) σ) fun s26_4 => some s26_4)
    else bd1 (fX9_is a1 a3 σ) fun s9_5 => some s9_5)
noncomputable def fX9_size_ (a1 : Int64) (a3 : Int64) (σ : zSt) : Option zSt := fX9_size__0 a1 a3 σ
set_option maxRecDepth 100000 in
set_option maxHeartbeats 4000000 in
theorem wX9_size__0 {T : zX} (hC : zOk T cX9_size_ RX9 1 24 61 85) (hN : zNL T = 5) {σ' : zSt} (hQ : zRes T none (none) σ') (a1 : Int64) (a3 : Int64)  (σ : zSt) (h : fX9_size__0 a1 a3 σ = some σ') : Z T σ 0 [(0, .ref (zAd T (61))), (1, .long a1), (3, .long a3)] [] := by
  unfold fX9_size__0 at h
  refine z_lload_n hC 1 rfl rfl dX9_size__0 ?_
  refine z_lconst hC (0 : Int64) (by decide) dX9_size__1 ?_
  refine z_cmp_lt hC 15 (by decide) dX9_size__2 dX9_size__3 (fun q2_1 => ?_) (fun q2_1 => ?_)
  · replace h := z_t q2_1 h
    refine z_lload_n hC 2 rfl rfl dX9_size__15 ?_
    refine z_lconst hC (0 : Int64) (by decide) dX9_size__16 ?_
    refine z_cmp_gt hC 32 (by decide) dX9_size__17 dX9_size__18 (fun q17_2 => ?_) (fun q17_2 => ?_)
    · replace h := z_t q17_2 h
      refine z_aload_n hC 0 rfl rfl dX9_size__32 ?_
      refine z_lconst hC (0 : Int64) (by decide) dX9_size__33 ?_
      refine z_lload_n hC 1 rfl rfl dX9_size__34 ?_
      refine z_lneg hC dX9_size__35 ?_
      refine z_lload_n hC 2 rfl rfl dX9_size__36 ?_
      refine z_cS2r hC (ctX9_more hC.hm) kb_X9_more km_X9_240 ⟨by decide, by decide⟩ (Nat.le_of_ble_eq_true rfl) dX9_size__37 ?_
      refine z_b1 h (fun s40_3 e_s40_3 h => ?_)
      refine z_cV2v hC (ctX9_is hC.hm e_s40_3) (rcX9 hC) kb_X9_is km_X9_243 ⟨by decide, by decide⟩ (Nat.le_of_ble_eq_true rfl) dX9_size__40 ?_
      obtain rfl := z_so h
      exact z_vret hC hQ dX9_size__43
    · replace h := z_f q17_2 h
      refine z_aload_n hC 0 rfl rfl dX9_size__21 ?_
      refine z_lload_n hC 2 rfl rfl dX9_size__22 ?_
      refine z_lneg hC dX9_size__23 ?_
      refine z_lload_n hC 1 rfl rfl dX9_size__24 ?_
      refine z_lneg hC dX9_size__25 ?_
      refine z_b1 h (fun s26_4 e_s26_4 h => ?_)
      refine z_cV2v hC (ctX9_is hC.hm e_s26_4) (rcX9 hC) kb_X9_is km_X9_243 ⟨by decide, by decide⟩ (Nat.le_of_ble_eq_true rfl) dX9_size__26 ?_
      refine z_goto hC 43 (by decide) dX9_size__29 ?_
      obtain rfl := z_so h
      exact z_vret hC hQ dX9_size__43
  · replace h := z_f q2_1 h
    refine z_aload_n hC 0 rfl rfl dX9_size__6 ?_
    refine z_lload_n hC 1 rfl rfl dX9_size__7 ?_
    refine z_lload_n hC 2 rfl rfl dX9_size__8 ?_
    refine z_b1 h (fun s9_5 e_s9_5 h => ?_)
    refine z_cV2v hC (ctX9_is hC.hm e_s9_5) (rcX9 hC) kb_X9_is km_X9_243 ⟨by decide, by decide⟩ (Nat.le_of_ble_eq_true rfl) dX9_size__9 ?_
    refine z_goto hC 43 (by decide) dX9_size__12 ?_
    obtain rfl := z_so h
    exact z_vret hC hQ dX9_size__43
set_option maxRecDepth 100000 in
theorem ctX9_size_ {l : Launch} {G : zGt} {mk : zSt → zSt} (hm : zM mk 61 85) {a1 : Int64} {a3 : Int64} {σ : zSt} {σ' : zSt} (h : fX9_size_ a1 a3 σ = some σ') : zMet l G mk yX9_size_ cX9_size_ 5 none 1 24 [.ref (gA G (61)), .long a1, .long a3] σ (none) σ' := by
  unfold fX9_size_ at h

  refine zMet.of (plainFor_of_name (by decide +kernel)) hm (Nat.le_of_ble_eq_true rfl) (fun T eL eG eM hN hC hQ => ?_)
  subst eL; subst eG; subst eM
  refine z_sub [(0, .ref (zAd T (61))), (1, .long a1), (3, .long a3)] [0, 1, 2] rfl ?_
  exact wX9_size__0 hC hN hQ _ _  _ h
noncomputable def fX9_value_209 (v1 : Int32) (v7 : Int32) (v9 : Int64) (v11 : Int64) (v13 : Int64) (t0 : Int64) (σ : zSt) : Option zSt := zg (vp_in v1 480) <| nm (gi σ 64 v1.toNatClampNeg) fun x217_2 => 
    (
    if x217_2 = 2 then bd1 (fX9_is v9 v11 σ) fun s293_4 => some s293_4 else 
    if x217_2 = 3 then bd1 (fX9_is (-v11) (-v9) σ) fun s306_6 => some s306_6 else 
    if x217_2 = 4 then bd1 (fX9_power_ v9 v11 v7 σ) fun s319_8 => some s319_8 else 
    if x217_2 = 5 then bd1 (fX9_is (v9 + v13) (v11 + t0) σ) fun s336_10 => some s336_10 else 
    if x217_2 = 6 then bd1 (fX9_is (v9 - t0) (v11 - v13) σ) fun s353_12 => some s353_12 else 
    if x217_2 = 7 then bd1 (fX9_times v9 v11 v13 t0 σ) fun s368_14 => some s368_14 else 
    if x217_2 = 8 then bd1 (fX9_by v9 v11 v13 t0 σ) fun s383_16 => some s383_16 else 
    if x217_2 = 9 then bd1 (fX9_root v9 v11 σ) fun s394_18 => some s394_18 else 
    if x217_2 = 10 then bd1 (fX9_exp v9 v11 σ) fun s405_20 => some s405_20 else 
    if x217_2 = 11 then bd1 (fX9_log v9 v11 σ) fun s416_22 => some s416_22 else 
    if x217_2 = 12 then bd1 (fX9_wave v9 v11 (1 : Int32) σ) fun s428_24 => some s428_24 else 
    if x217_2 = 13 then bd1 (fX9_wave v9 v11 (0 : Int32) σ) fun s440_26 => some s440_26 else 
    if x217_2 = 14 then bd1 (fX9_size_ v9 v11 σ) fun s451_28 => some s451_28 else 
    if x217_2 = 15 then bd1 (fX9_is (fX9_less v9 v13) (fX9_less v11 t0) σ) fun s472_30 => some s472_30 else bd1 (fX9_is (fX9_more v9 v13) (fX9_more v11 t0) σ) fun s493_31 => some s493_31)
noncomputable def fX9_value_157 (v1 : Int32) (v6 : Int32) (v7 : Int32) (v8 : Int32) (σ : zSt) : Option zSt := zg (vp_in v6 480) <| nm (gl σ 72 v6.toNatClampNeg) fun x164_2 => zg (vp_in v6 480) <| nm (gl σ 73 v6.toNatClampNeg) fun x173_4 => 
    (if v8 = 0 then 
      (if v8 = 0 then fX9_value_209 v1 v7 x164_2 x173_4 (0 : Int64) (0 : Int64) σ
      else zg (vp_in v7 480) <| fX9_value_209 v1 v7 x164_2 x173_4 (0 : Int64) (gl σ 73 v7.toNatClampNeg) σ)
    else zg (vp_in v7 480) <| nm (gl σ 72 v7.toNatClampNeg) fun x191_9 => 
      (if v8 = 0 then fX9_value_209 v1 v7 x164_2 x173_4 x191_9 (0 : Int64) σ
      else zg (vp_in v7 480) <| fX9_value_209 v1 v7 x164_2 x173_4 x191_9 (gl σ 73 v7.toNatClampNeg) σ))
noncomputable def fX9_value_120 (v1 : Int32) (v6 : Int32) (v7 : Int32) (σ : zSt) : Option zSt := zg (vp_in v6 480) <| 
    (if (gi σ 76 v6.toNatClampNeg) = 0 then zg (vp_in v7 480) <| 
      (if (gi σ 76 v7.toNatClampNeg) = 0 then fX9_value_157 v1 v6 v7 (1 : Int32) σ
      else bd1 (fX9_isHole σ) fun s153_6 => some s153_6)
    else bd1 (fX9_isHole σ) fun s153_3 => some s153_3)
noncomputable def fX9_value_109 (v1 : Int32) (v6 : Int32) (v7 : Int32) (σ : zSt) : Option zSt := zg (vp_in v1 480) <| 
    (if (gi σ 64 v1.toNatClampNeg) < (15 : Int32) then zg (vp_in v6 480) <| 
      (if (gi σ 76 v6.toNatClampNeg) = 0 then fX9_value_157 v1 v6 v7 (0 : Int32) σ
      else bd1 (fX9_isHole σ) fun s153_5 => some s153_5)
    else fX9_value_120 v1 v6 v7 σ)
noncomputable def fX9_value_34 (v1 : Int32) (v2 : Int64) (v4 : Int64) (t0 : Int32) (σ : zSt) : Option zSt := zg (vp_in v1 480) <| nm (gi σ 66 v1.toNatClampNeg) fun x42_2 => zg (vp_in v1 480) <| 
    (if (gi σ 64 v1.toNatClampNeg) = 0 then bd1 (fX9_is v2 v4 σ) fun s57_14 => some s57_14
    else zg (vp_in v1 480) <| 
      (if (gi σ 64 v1.toNatClampNeg) = (1 : Int32) then zg (vp_in v1 480) <| zg (vp_in v1 480) <| bd1 (fX9_is (gl σ 67 v1.toNatClampNeg) (gl σ 68 v1.toNatClampNeg) σ) fun s84_13 => some s84_13
      else zg (vp_in v1 480) <| 
        (if (gi σ 64 v1.toNatClampNeg) < (5 : Int32) then fX9_value_109 v1 t0 x42_2 σ
        else zg (vp_in v1 480) <| 
          (if (gi σ 64 v1.toNatClampNeg) ≤ (8 : Int32) then fX9_value_120 v1 t0 x42_2 σ
          else fX9_value_109 v1 t0 x42_2 σ))))
noncomputable def fX9_value_0 (a1 : Int32) (a2 : Int64) (a4 : Int64) (σ : zSt) : Option zSt := zg (vp_in a1 480) <| 
    (if (gi σ 64 a1.toNatClampNeg) = (2 : Int32) then zg (vp_in a1 480) <| bd1 (fX9_lastOf (gi σ 65 a1.toNatClampNeg) (si σ 61 21 (0 : Int32))) fun r22_5 => fX9_value_34 a1 a2 a4 r22_5 (si σ 61 21 (0 : Int32))
    else zg (vp_in a1 480) <| fX9_value_34 a1 a2 a4 (gi σ 65 a1.toNatClampNeg) (si σ 61 21 (0 : Int32)))
noncomputable def fX9_value (a1 : Int32) (a2 : Int64) (a4 : Int64) (σ : zSt) : Option zSt := fX9_value_0 a1 a2 a4 σ
set_option maxRecDepth 100000 in
set_option maxHeartbeats 4000000 in
theorem wX9_value_209 {T : zX} (hC : zOk T cX9_value RX9 5 137 61 85) (hN : zNL T = 17) {σ' : zSt} (hQ : zRes T none (none) σ') (v1 : Int32) (v7 : Int32) (v9 : Int64) (v11 : Int64) (v13 : Int64) (t0 : Int64)  (σ : zSt) (h : fX9_value_209 v1 v7 v9 v11 v13 t0 σ = some σ') : Z T σ 209 [(0, .ref (zAd T (61))), (1, .int v1), (7, .int v7), (9, .long v9), (11, .long v11), (13, .long v13)] [.long t0] := by
  unfold fX9_value_209 at h
  refine z_lstore hC [(15, .long t0), (0, .ref (zAd T (61))), (1, .int v1), (7, .int v7), (9, .long v9), (11, .long v11), (13, .long v13)] (by rw [hN]; decide) rfl dX9_value_209 ?_
  refine z_aload_n hC 1 rfl rfl dX9_value_211 ?_
  refine gX9_5 hC kf_X9_17 dX9_value_212 ?_
  refine z_iload_n hC 2 rfl rfl dX9_value_215 ?_
  refine z_g h (fun g216_1 h => ?_)
  refine z_iald hC 64 ⟨by decide, by decide⟩ (zS_64 _ _ _) g216_1 (gi σ 64 v1.toNatClampNeg) rfl dX9_value_216 ?_
  refine z_nmI h (fun x217_2 h => ?_)
  refine z_ite h (fun q217_3 h => ?_) (fun q217_3 h => ?_)
  · refine z_tabIn hC (71) 288 (by rw [q217_3]; decide) (by rw [q217_3]; decide) (by rw [q217_3]; decide +kernel) (by decide) dX9_value_217 ?_
    refine z_aload_n hC 1 rfl rfl dX9_value_288 ?_
    refine z_lload hC 4 rfl dX9_value_289 ?_
    refine z_lload hC 5 rfl dX9_value_291 ?_
    refine z_b1 h (fun s293_4 e_s293_4 h => ?_)
    refine z_cV2v hC (ctX9_is hC.hm e_s293_4) (rcX9 hC) kb_X9_is km_X9_243 ⟨by decide, by decide⟩ (Nat.le_of_ble_eq_true rfl) dX9_value_293 ?_
    refine z_goto hC 496 (by decide) dX9_value_296 ?_
    obtain rfl := z_so h
    exact z_vret hC hQ dX9_value_496
  ·
    refine z_ite h (fun q217_5 h => ?_) (fun q217_5 h => ?_)
    · refine z_tabIn hC (82) 299 (by rw [q217_5]; decide) (by rw [q217_5]; decide) (by rw [q217_5]; decide +kernel) (by decide) dX9_value_217 ?_
      refine z_aload_n hC 1 rfl rfl dX9_value_299 ?_
      refine z_lload hC 5 rfl dX9_value_300 ?_
      refine z_lneg hC dX9_value_302 ?_
      refine z_lload hC 4 rfl dX9_value_303 ?_
      refine z_lneg hC dX9_value_305 ?_
      refine z_b1 h (fun s306_6 e_s306_6 h => ?_)
      refine z_cV2v hC (ctX9_is hC.hm e_s306_6) (rcX9 hC) kb_X9_is km_X9_243 ⟨by decide, by decide⟩ (Nat.le_of_ble_eq_true rfl) dX9_value_306 ?_
      refine z_goto hC 496 (by decide) dX9_value_309 ?_
      obtain rfl := z_so h
      exact z_vret hC hQ dX9_value_496
    ·
      refine z_ite h (fun q217_7 h => ?_) (fun q217_7 h => ?_)
      · refine z_tabIn hC (95) 312 (by rw [q217_7]; decide) (by rw [q217_7]; decide) (by rw [q217_7]; decide +kernel) (by decide) dX9_value_217 ?_
        refine z_aload_n hC 1 rfl rfl dX9_value_312 ?_
        refine z_lload hC 4 rfl dX9_value_313 ?_
        refine z_lload hC 5 rfl dX9_value_315 ?_
        refine z_iload hC 3 rfl dX9_value_317 ?_
        refine z_b1 h (fun s319_8 e_s319_8 h => ?_)
        refine z_cV3v hC (ctX9_power_ hC.hm e_s319_8) (rcX9 hC) kb_X9_power_ km_X9_312 ⟨by decide, by decide⟩ (Nat.le_of_ble_eq_true rfl) dX9_value_319 ?_
        refine z_goto hC 496 (by decide) dX9_value_322 ?_
        obtain rfl := z_so h
        exact z_vret hC hQ dX9_value_496
      ·
        refine z_ite h (fun q217_9 h => ?_) (fun q217_9 h => ?_)
        · refine z_tabIn hC (108) 325 (by rw [q217_9]; decide) (by rw [q217_9]; decide) (by rw [q217_9]; decide +kernel) (by decide) dX9_value_217 ?_
          refine z_aload_n hC 1 rfl rfl dX9_value_325 ?_
          refine z_lload hC 4 rfl dX9_value_326 ?_
          refine z_lload hC 6 rfl dX9_value_328 ?_
          refine z_ladd hC dX9_value_330 ?_
          refine z_lload hC 5 rfl dX9_value_331 ?_
          refine z_lload hC 0 rfl dX9_value_333 ?_
          refine z_ladd hC dX9_value_335 ?_
          refine z_b1 h (fun s336_10 e_s336_10 h => ?_)
          refine z_cV2v hC (ctX9_is hC.hm e_s336_10) (rcX9 hC) kb_X9_is km_X9_243 ⟨by decide, by decide⟩ (Nat.le_of_ble_eq_true rfl) dX9_value_336 ?_
          refine z_goto hC 496 (by decide) dX9_value_339 ?_
          obtain rfl := z_so h
          exact z_vret hC hQ dX9_value_496
        ·
          refine z_ite h (fun q217_11 h => ?_) (fun q217_11 h => ?_)
          · refine z_tabIn hC (125) 342 (by rw [q217_11]; decide) (by rw [q217_11]; decide) (by rw [q217_11]; decide +kernel) (by decide) dX9_value_217 ?_
            refine z_aload_n hC 1 rfl rfl dX9_value_342 ?_
            refine z_lload hC 4 rfl dX9_value_343 ?_
            refine z_lload hC 0 rfl dX9_value_345 ?_
            refine z_lsub hC dX9_value_347 ?_
            refine z_lload hC 5 rfl dX9_value_348 ?_
            refine z_lload hC 6 rfl dX9_value_350 ?_
            refine z_lsub hC dX9_value_352 ?_
            refine z_b1 h (fun s353_12 e_s353_12 h => ?_)
            refine z_cV2v hC (ctX9_is hC.hm e_s353_12) (rcX9 hC) kb_X9_is km_X9_243 ⟨by decide, by decide⟩ (Nat.le_of_ble_eq_true rfl) dX9_value_353 ?_
            refine z_goto hC 496 (by decide) dX9_value_356 ?_
            obtain rfl := z_so h
            exact z_vret hC hQ dX9_value_496
          ·
            refine z_ite h (fun q217_13 h => ?_) (fun q217_13 h => ?_)
            · refine z_tabIn hC (142) 359 (by rw [q217_13]; decide) (by rw [q217_13]; decide) (by rw [q217_13]; decide +kernel) (by decide) dX9_value_217 ?_
              refine z_aload_n hC 1 rfl rfl dX9_value_359 ?_
              refine z_lload hC 4 rfl dX9_value_360 ?_
              refine z_lload hC 5 rfl dX9_value_362 ?_
              refine z_lload hC 6 rfl dX9_value_364 ?_
              refine z_lload hC 0 rfl dX9_value_366 ?_
              refine z_b1 h (fun s368_14 e_s368_14 h => ?_)
              refine z_cV4v hC (ctX9_times hC.hm e_s368_14) (rcX9 hC) kb_X9_times km_X9_315 ⟨by decide, by decide⟩ (Nat.le_of_ble_eq_true rfl) dX9_value_368 ?_
              refine z_goto hC 496 (by decide) dX9_value_371 ?_
              obtain rfl := z_so h
              exact z_vret hC hQ dX9_value_496
            ·
              refine z_ite h (fun q217_15 h => ?_) (fun q217_15 h => ?_)
              · refine z_tabIn hC (157) 374 (by rw [q217_15]; decide) (by rw [q217_15]; decide) (by rw [q217_15]; decide +kernel) (by decide) dX9_value_217 ?_
                refine z_aload_n hC 1 rfl rfl dX9_value_374 ?_
                refine z_lload hC 4 rfl dX9_value_375 ?_
                refine z_lload hC 5 rfl dX9_value_377 ?_
                refine z_lload hC 6 rfl dX9_value_379 ?_
                refine z_lload hC 0 rfl dX9_value_381 ?_
                refine z_b1 h (fun s383_16 e_s383_16 h => ?_)
                refine z_cV4v hC (ctX9_by hC.hm e_s383_16) (rcX9 hC) kb_X9_by km_X9_319 ⟨by decide, by decide⟩ (Nat.le_of_ble_eq_true rfl) dX9_value_383 ?_
                refine z_goto hC 496 (by decide) dX9_value_386 ?_
                obtain rfl := z_so h
                exact z_vret hC hQ dX9_value_496
              ·
                refine z_ite h (fun q217_17 h => ?_) (fun q217_17 h => ?_)
                · refine z_tabIn hC (172) 389 (by rw [q217_17]; decide) (by rw [q217_17]; decide) (by rw [q217_17]; decide +kernel) (by decide) dX9_value_217 ?_
                  refine z_aload_n hC 1 rfl rfl dX9_value_389 ?_
                  refine z_lload hC 4 rfl dX9_value_390 ?_
                  refine z_lload hC 5 rfl dX9_value_392 ?_
                  refine z_b1 h (fun s394_18 e_s394_18 h => ?_)
                  refine z_cV2v hC (ctX9_root hC.hm e_s394_18) (rcX9 hC) kb_X9_root km_X9_322 ⟨by decide, by decide⟩ (Nat.le_of_ble_eq_true rfl) dX9_value_394 ?_
                  refine z_goto hC 496 (by decide) dX9_value_397 ?_
                  obtain rfl := z_so h
                  exact z_vret hC hQ dX9_value_496
                ·
                  refine z_ite h (fun q217_19 h => ?_) (fun q217_19 h => ?_)
                  · refine z_tabIn hC (183) 400 (by rw [q217_19]; decide) (by rw [q217_19]; decide) (by rw [q217_19]; decide +kernel) (by decide) dX9_value_217 ?_
                    refine z_aload_n hC 1 rfl rfl dX9_value_400 ?_
                    refine z_lload hC 4 rfl dX9_value_401 ?_
                    refine z_lload hC 5 rfl dX9_value_403 ?_
                    refine z_b1 h (fun s405_20 e_s405_20 h => ?_)
                    refine z_cV2v hC (ctX9_exp hC.hm e_s405_20) (rcX9 hC) kb_X9_exp km_X9_324 ⟨by decide, by decide⟩ (Nat.le_of_ble_eq_true rfl) dX9_value_405 ?_
                    refine z_goto hC 496 (by decide) dX9_value_408 ?_
                    obtain rfl := z_so h
                    exact z_vret hC hQ dX9_value_496
                  ·
                    refine z_ite h (fun q217_21 h => ?_) (fun q217_21 h => ?_)
                    · refine z_tabIn hC (194) 411 (by rw [q217_21]; decide) (by rw [q217_21]; decide) (by rw [q217_21]; decide +kernel) (by decide) dX9_value_217 ?_
                      refine z_aload_n hC 1 rfl rfl dX9_value_411 ?_
                      refine z_lload hC 4 rfl dX9_value_412 ?_
                      refine z_lload hC 5 rfl dX9_value_414 ?_
                      refine z_b1 h (fun s416_22 e_s416_22 h => ?_)
                      refine z_cV2v hC (ctX9_log hC.hm e_s416_22) (rcX9 hC) kb_X9_log km_X9_326 ⟨by decide, by decide⟩ (Nat.le_of_ble_eq_true rfl) dX9_value_416 ?_
                      refine z_goto hC 496 (by decide) dX9_value_419 ?_
                      obtain rfl := z_so h
                      exact z_vret hC hQ dX9_value_496
                    ·
                      refine z_ite h (fun q217_23 h => ?_) (fun q217_23 h => ?_)
                      · refine z_tabIn hC (205) 422 (by rw [q217_23]; decide) (by rw [q217_23]; decide) (by rw [q217_23]; decide +kernel) (by decide) dX9_value_217 ?_
                        refine z_aload_n hC 1 rfl rfl dX9_value_422 ?_
                        refine z_lload hC 4 rfl dX9_value_423 ?_
                        refine z_lload hC 5 rfl dX9_value_425 ?_
                        refine z_iconst hC (1 : Int32) (by decide) dX9_value_427 ?_
                        refine z_b1 h (fun s428_24 e_s428_24 h => ?_)
                        refine z_cV3v hC (ctX9_wave hC.hm e_s428_24) (rcX9 hC) kb_X9_wave km_X9_328 ⟨by decide, by decide⟩ (Nat.le_of_ble_eq_true rfl) dX9_value_428 ?_
                        refine z_goto hC 496 (by decide) dX9_value_431 ?_
                        obtain rfl := z_so h
                        exact z_vret hC hQ dX9_value_496
                      ·
                        refine z_ite h (fun q217_25 h => ?_) (fun q217_25 h => ?_)
                        · refine z_tabIn hC (217) 434 (by rw [q217_25]; decide) (by rw [q217_25]; decide) (by rw [q217_25]; decide +kernel) (by decide) dX9_value_217 ?_
                          refine z_aload_n hC 1 rfl rfl dX9_value_434 ?_
                          refine z_lload hC 4 rfl dX9_value_435 ?_
                          refine z_lload hC 5 rfl dX9_value_437 ?_
                          refine z_iconst hC (0 : Int32) (by decide) dX9_value_439 ?_
                          refine z_b1 h (fun s440_26 e_s440_26 h => ?_)
                          refine z_cV3v hC (ctX9_wave hC.hm e_s440_26) (rcX9 hC) kb_X9_wave km_X9_328 ⟨by decide, by decide⟩ (Nat.le_of_ble_eq_true rfl) dX9_value_440 ?_
                          refine z_goto hC 496 (by decide) dX9_value_443 ?_
                          obtain rfl := z_so h
                          exact z_vret hC hQ dX9_value_496
                        ·
                          refine z_ite h (fun q217_27 h => ?_) (fun q217_27 h => ?_)
                          · refine z_tabIn hC (229) 446 (by rw [q217_27]; decide) (by rw [q217_27]; decide) (by rw [q217_27]; decide +kernel) (by decide) dX9_value_217 ?_
                            refine z_aload_n hC 1 rfl rfl dX9_value_446 ?_
                            refine z_lload hC 4 rfl dX9_value_447 ?_
                            refine z_lload hC 5 rfl dX9_value_449 ?_
                            refine z_b1 h (fun s451_28 e_s451_28 h => ?_)
                            refine z_cV2v hC (ctX9_size_ hC.hm e_s451_28) (rcX9 hC) kb_X9_size_ km_X9_332 ⟨by decide, by decide⟩ (Nat.le_of_ble_eq_true rfl) dX9_value_451 ?_
                            refine z_goto hC 496 (by decide) dX9_value_454 ?_
                            obtain rfl := z_so h
                            exact z_vret hC hQ dX9_value_496
                          ·
                            refine z_ite h (fun q217_29 h => ?_) (fun q217_29 h => ?_)
                            · refine z_tabIn hC (240) 457 (by rw [q217_29]; decide) (by rw [q217_29]; decide) (by rw [q217_29]; decide +kernel) (by decide) dX9_value_217 ?_
                              refine z_aload_n hC 1 rfl rfl dX9_value_457 ?_
                              refine z_lload hC 4 rfl dX9_value_458 ?_
                              refine z_lload hC 6 rfl dX9_value_460 ?_
                              refine z_cS2r hC (ctX9_less hC.hm) kb_X9_less km_X9_237 ⟨by decide, by decide⟩ (Nat.le_of_ble_eq_true rfl) dX9_value_462 ?_
                              refine z_lload hC 5 rfl dX9_value_465 ?_
                              refine z_lload hC 0 rfl dX9_value_467 ?_
                              refine z_cS2r hC (ctX9_less hC.hm) kb_X9_less km_X9_237 ⟨by decide, by decide⟩ (Nat.le_of_ble_eq_true rfl) dX9_value_469 ?_
                              refine z_b1 h (fun s472_30 e_s472_30 h => ?_)
                              refine z_cV2v hC (ctX9_is hC.hm e_s472_30) (rcX9 hC) kb_X9_is km_X9_243 ⟨by decide, by decide⟩ (Nat.le_of_ble_eq_true rfl) dX9_value_472 ?_
                              refine z_goto hC 496 (by decide) dX9_value_475 ?_
                              obtain rfl := z_so h
                              exact z_vret hC hQ dX9_value_496
                            ·
                              refine z_tabD hC 14 478 (by decide) (fun i hi => by
                                  have hi2 : i = 0 ∨ i = 1 ∨ i = 2 ∨ i = 3 ∨ i = 4 ∨ i = 5 ∨ i = 6 ∨ i = 7 ∨ i = 8 ∨ i = 9 ∨ i = 10 ∨ i = 11 ∨ i = 12 ∨ i = 13 := by omega
                                  rcases hi2 with rfl | rfl | rfl | rfl | rfl | rfl | rfl | rfl | rfl | rfl | rfl | rfl | rfl | rfl
                                  · exact Or.inr (fun e => q217_3 (e.symm.trans (by decide)))
                                  · exact Or.inr (fun e => q217_5 (e.symm.trans (by decide)))
                                  · exact Or.inr (fun e => q217_7 (e.symm.trans (by decide)))
                                  · exact Or.inr (fun e => q217_9 (e.symm.trans (by decide)))
                                  · exact Or.inr (fun e => q217_11 (e.symm.trans (by decide)))
                                  · exact Or.inr (fun e => q217_13 (e.symm.trans (by decide)))
                                  · exact Or.inr (fun e => q217_15 (e.symm.trans (by decide)))
                                  · exact Or.inr (fun e => q217_17 (e.symm.trans (by decide)))
                                  · exact Or.inr (fun e => q217_19 (e.symm.trans (by decide)))
                                  · exact Or.inr (fun e => q217_21 (e.symm.trans (by decide)))
                                  · exact Or.inr (fun e => q217_23 (e.symm.trans (by decide)))
                                  · exact Or.inr (fun e => q217_25 (e.symm.trans (by decide)))
                                  · exact Or.inr (fun e => q217_27 (e.symm.trans (by decide)))
                                  · exact Or.inr (fun e => q217_29 (e.symm.trans (by decide)))) (by decide) dX9_value_217 ?_
                              refine z_aload_n hC 1 rfl rfl dX9_value_478 ?_
                              refine z_lload hC 4 rfl dX9_value_479 ?_
                              refine z_lload hC 6 rfl dX9_value_481 ?_
                              refine z_cS2r hC (ctX9_more hC.hm) kb_X9_more km_X9_240 ⟨by decide, by decide⟩ (Nat.le_of_ble_eq_true rfl) dX9_value_483 ?_
                              refine z_lload hC 5 rfl dX9_value_486 ?_
                              refine z_lload hC 0 rfl dX9_value_488 ?_
                              refine z_cS2r hC (ctX9_more hC.hm) kb_X9_more km_X9_240 ⟨by decide, by decide⟩ (Nat.le_of_ble_eq_true rfl) dX9_value_490 ?_
                              refine z_b1 h (fun s493_31 e_s493_31 h => ?_)
                              refine z_cV2v hC (ctX9_is hC.hm e_s493_31) (rcX9 hC) kb_X9_is km_X9_243 ⟨by decide, by decide⟩ (Nat.le_of_ble_eq_true rfl) dX9_value_493 ?_
                              obtain rfl := z_so h
                              exact z_vret hC hQ dX9_value_496
set_option maxRecDepth 100000 in
set_option maxHeartbeats 4000000 in
theorem wX9_value_157 {T : zX} (hC : zOk T cX9_value RX9 5 137 61 85) (hN : zNL T = 17) {σ' : zSt} (hQ : zRes T none (none) σ') (v1 : Int32) (v6 : Int32) (v7 : Int32) (v8 : Int32)  (σ : zSt) (h : fX9_value_157 v1 v6 v7 v8 σ = some σ') : Z T σ 157 [(0, .ref (zAd T (61))), (1, .int v1), (6, .int v6), (7, .int v7), (8, .int v8)] [] := by
  unfold fX9_value_157 at h
  refine z_aload_n hC 0 rfl rfl dX9_value_157 ?_
  refine gX9_23 hC kf_X9_42 dX9_value_158 ?_
  refine z_iload hC 2 rfl dX9_value_161 ?_
  refine z_g h (fun g163_1 h => ?_)
  refine z_lald hC 72 ⟨by decide, by decide⟩ (zS_72 _ _ _) g163_1 (gl σ 72 v6.toNatClampNeg) rfl dX9_value_163 ?_
  refine z_nmL h (fun x164_2 h => ?_)
  refine z_lstore hC [(9, .long x164_2), (0, .ref (zAd T (61))), (1, .int v1), (6, .int v6), (7, .int v7), (8, .int v8)] (by rw [hN]; decide) rfl dX9_value_164 ?_
  refine z_aload_n hC 1 rfl rfl dX9_value_166 ?_
  refine gX9_24 hC kf_X9_45 dX9_value_167 ?_
  refine z_iload hC 3 rfl dX9_value_170 ?_
  refine z_g h (fun g172_3 h => ?_)
  refine z_lald hC 73 ⟨by decide, by decide⟩ (zS_73 _ _ _) g172_3 (gl σ 73 v6.toNatClampNeg) rfl dX9_value_172 ?_
  refine z_nmL h (fun x173_4 h => ?_)
  refine z_lstore hC [(11, .long x173_4), (9, .long x164_2), (0, .ref (zAd T (61))), (1, .int v1), (6, .int v6), (7, .int v7), (8, .int v8)] (by rw [hN]; decide) rfl dX9_value_173 ?_
  refine z_iload hC 6 rfl dX9_value_175 ?_
  refine z_if_eq hC 190 (by decide) dX9_value_177 (fun q177_5 => ?_) (fun q177_5 => ?_)
  · replace h := z_t q177_5 h
    refine z_lconst hC (0 : Int64) (by decide) dX9_value_190 ?_
    refine z_lstore hC [(13, .long (0 : Int64)), (11, .long x173_4), (9, .long x164_2), (0, .ref (zAd T (61))), (1, .int v1), (6, .int v6), (7, .int v7), (8, .int v8)] (by rw [hN]; decide) rfl dX9_value_191 ?_
    refine z_iload hC 7 rfl dX9_value_193 ?_
    refine z_if_eq hC 208 (by decide) dX9_value_195 (fun q195_6 => ?_) (fun q195_6 => ?_)
    · replace h := z_t q195_6 h
      refine z_lconst hC (0 : Int64) (by decide) dX9_value_208 ?_
      refine z_sub [(0, .ref (zAd T (61))), (1, .int v1), (7, .int v7), (9, .long x164_2), (11, .long x173_4), (13, .long (0 : Int64))] [3, 4, 6, 2, 1, 0] rfl ?_
      exact (wX9_value_209 hC hN hQ ) _ _ _ _ _ _ _ h
    · replace h := z_f q195_6 h
      refine z_aload_n hC 3 rfl rfl dX9_value_198 ?_
      refine gX9_24 hC kf_X9_45 dX9_value_199 ?_
      refine z_iload hC 6 rfl dX9_value_202 ?_
      refine z_g h (fun g204_7 h => ?_)
      refine z_lald hC 73 ⟨by decide, by decide⟩ (zS_73 _ _ _) g204_7 (gl σ 73 v7.toNatClampNeg) rfl dX9_value_204 ?_
      refine z_goto hC 209 (by decide) dX9_value_205 ?_
      refine z_sub [(0, .ref (zAd T (61))), (1, .int v1), (7, .int v7), (9, .long x164_2), (11, .long x173_4), (13, .long (0 : Int64))] [3, 4, 6, 2, 1, 0] rfl ?_
      exact (wX9_value_209 hC hN hQ ) _ _ _ _ _ _ _ h
  · replace h := z_f q177_5 h
    refine z_aload_n hC 2 rfl rfl dX9_value_180 ?_
    refine gX9_23 hC kf_X9_42 dX9_value_181 ?_
    refine z_iload hC 5 rfl dX9_value_184 ?_
    refine z_g h (fun g186_8 h => ?_)
    refine z_lald hC 72 ⟨by decide, by decide⟩ (zS_72 _ _ _) g186_8 (gl σ 72 v7.toNatClampNeg) rfl dX9_value_186 ?_
    refine z_goto hC 191 (by decide) dX9_value_187 ?_
    refine z_nmL h (fun x191_9 h => ?_)
    refine z_lstore hC [(13, .long x191_9), (11, .long x173_4), (9, .long x164_2), (0, .ref (zAd T (61))), (1, .int v1), (6, .int v6), (7, .int v7), (8, .int v8)] (by rw [hN]; decide) rfl dX9_value_191 ?_
    refine z_iload hC 7 rfl dX9_value_193 ?_
    refine z_if_eq hC 208 (by decide) dX9_value_195 (fun q195_10 => ?_) (fun q195_10 => ?_)
    · replace h := z_t q195_10 h
      refine z_lconst hC (0 : Int64) (by decide) dX9_value_208 ?_
      refine z_sub [(0, .ref (zAd T (61))), (1, .int v1), (7, .int v7), (9, .long x164_2), (11, .long x173_4), (13, .long x191_9)] [3, 4, 6, 2, 1, 0] rfl ?_
      exact (wX9_value_209 hC hN hQ ) _ _ _ _ _ _ _ h
    · replace h := z_f q195_10 h
      refine z_aload_n hC 3 rfl rfl dX9_value_198 ?_
      refine gX9_24 hC kf_X9_45 dX9_value_199 ?_
      refine z_iload hC 6 rfl dX9_value_202 ?_
      refine z_g h (fun g204_11 h => ?_)
      refine z_lald hC 73 ⟨by decide, by decide⟩ (zS_73 _ _ _) g204_11 (gl σ 73 v7.toNatClampNeg) rfl dX9_value_204 ?_
      refine z_goto hC 209 (by decide) dX9_value_205 ?_
      refine z_sub [(0, .ref (zAd T (61))), (1, .int v1), (7, .int v7), (9, .long x164_2), (11, .long x173_4), (13, .long x191_9)] [3, 4, 6, 2, 1, 0] rfl ?_
      exact (wX9_value_209 hC hN hQ ) _ _ _ _ _ _ _ h
set_option maxRecDepth 100000 in
set_option maxHeartbeats 4000000 in
theorem wX9_value_120 {T : zX} (hC : zOk T cX9_value RX9 5 137 61 85) (hN : zNL T = 17) {σ' : zSt} (hQ : zRes T none (none) σ') (v1 : Int32) (v6 : Int32) (v7 : Int32)  (σ : zSt) (h : fX9_value_120 v1 v6 v7 σ = some σ') : Z T σ 120 [(0, .ref (zAd T (61))), (1, .int v1), (6, .int v6), (7, .int v7)] [] := by
  unfold fX9_value_120 at h
  refine z_iconst hC (1 : Int32) (by decide) dX9_value_120 ?_
  refine z_goto hC 125 (by decide) dX9_value_121 ?_
  refine z_istore hC [(8, .int (1 : Int32)), (0, .ref (zAd T (61))), (1, .int v1), (6, .int v6), (7, .int v7)] (by rw [hN]; decide) rfl dX9_value_125 ?_
  refine z_aload_n hC 1 rfl rfl dX9_value_127 ?_
  refine gX9_27 hC kf_X9_54 dX9_value_128 ?_
  refine z_iload hC 3 rfl dX9_value_131 ?_
  refine z_g h (fun g133_1 h => ?_)
  refine z_zald hC 76 ⟨by decide, by decide⟩ (zS_76 _ _ _) g133_1 (gi σ 76 v6.toNatClampNeg) rfl dX9_value_133 ?_
  refine z_if_ne hC 152 (by decide) dX9_value_134 (fun q134_2 => ?_) (fun q134_2 => ?_)
  · replace h := z_f q134_2 h
    refine z_aload_n hC 1 rfl rfl dX9_value_152 ?_
    refine z_b1 h (fun s153_3 e_s153_3 h => ?_)
    refine z_cV0v hC (ctX9_isHole hC.hm e_s153_3) (rcX9 hC) kb_X9_isHole km_X9_247 ⟨by decide, by decide⟩ (Nat.le_of_ble_eq_true rfl) dX9_value_153 ?_
    obtain rfl := z_so h
    exact z_vret hC hQ dX9_value_156
  · replace h := z_t q134_2 h
    refine z_iload hC 0 rfl dX9_value_137 ?_
    refine z_if_eq hC 157 (by decide) dX9_value_139 (fun q => absurd q (by decide)) (fun q => ?_)
    refine z_aload_n hC 1 rfl rfl dX9_value_142 ?_
    refine gX9_27 hC kf_X9_54 dX9_value_143 ?_
    refine z_iload hC 4 rfl dX9_value_146 ?_
    refine z_g h (fun g148_4 h => ?_)
    refine z_zald hC 76 ⟨by decide, by decide⟩ (zS_76 _ _ _) g148_4 (gi σ 76 v7.toNatClampNeg) rfl dX9_value_148 ?_
    refine z_if_eq hC 157 (by decide) dX9_value_149 (fun q149_5 => ?_) (fun q149_5 => ?_)
    · replace h := z_t q149_5 h
      refine z_sub [(0, .ref (zAd T (61))), (1, .int v1), (6, .int v6), (7, .int v7), (8, .int (1 : Int32))] [1, 2, 3, 4, 0] rfl ?_
      exact (wX9_value_157 hC hN hQ ) _ _ _ _ _ h
    · replace h := z_f q149_5 h
      refine z_aload_n hC 1 rfl rfl dX9_value_152 ?_
      refine z_b1 h (fun s153_6 e_s153_6 h => ?_)
      refine z_cV0v hC (ctX9_isHole hC.hm e_s153_6) (rcX9 hC) kb_X9_isHole km_X9_247 ⟨by decide, by decide⟩ (Nat.le_of_ble_eq_true rfl) dX9_value_153 ?_
      obtain rfl := z_so h
      exact z_vret hC hQ dX9_value_156
set_option maxRecDepth 100000 in
set_option maxHeartbeats 4000000 in
theorem wX9_value_109 {T : zX} (hC : zOk T cX9_value RX9 5 137 61 85) (hN : zNL T = 17) {σ' : zSt} (hQ : zRes T none (none) σ') (v1 : Int32) (v6 : Int32) (v7 : Int32)  (σ : zSt) (h : fX9_value_109 v1 v6 v7 σ = some σ') : Z T σ 109 [(0, .ref (zAd T (61))), (1, .int v1), (6, .int v6), (7, .int v7)] [] := by
  unfold fX9_value_109 at h
  refine z_aload_n hC 0 rfl rfl dX9_value_109 ?_
  refine gX9_5 hC kf_X9_17 dX9_value_110 ?_
  refine z_iload_n hC 1 rfl rfl dX9_value_113 ?_
  refine z_g h (fun g114_1 h => ?_)
  refine z_iald hC 64 ⟨by decide, by decide⟩ (zS_64 _ _ _) g114_1 (gi σ 64 v1.toNatClampNeg) rfl dX9_value_114 ?_
  refine z_bipush hC (15 : Int32) (by decide) dX9_value_115 ?_
  refine z_icmp_lt hC 124 (by decide) dX9_value_117 (fun q117_2 => ?_) (fun q117_2 => ?_)
  · replace h := z_t q117_2 h
    refine z_iconst hC (0 : Int32) (by decide) dX9_value_124 ?_
    refine z_istore hC [(8, .int (0 : Int32)), (0, .ref (zAd T (61))), (1, .int v1), (6, .int v6), (7, .int v7)] (by rw [hN]; decide) rfl dX9_value_125 ?_
    refine z_aload_n hC 1 rfl rfl dX9_value_127 ?_
    refine gX9_27 hC kf_X9_54 dX9_value_128 ?_
    refine z_iload hC 3 rfl dX9_value_131 ?_
    refine z_g h (fun g133_3 h => ?_)
    refine z_zald hC 76 ⟨by decide, by decide⟩ (zS_76 _ _ _) g133_3 (gi σ 76 v6.toNatClampNeg) rfl dX9_value_133 ?_
    refine z_if_ne hC 152 (by decide) dX9_value_134 (fun q134_4 => ?_) (fun q134_4 => ?_)
    · replace h := z_f q134_4 h
      refine z_aload_n hC 1 rfl rfl dX9_value_152 ?_
      refine z_b1 h (fun s153_5 e_s153_5 h => ?_)
      refine z_cV0v hC (ctX9_isHole hC.hm e_s153_5) (rcX9 hC) kb_X9_isHole km_X9_247 ⟨by decide, by decide⟩ (Nat.le_of_ble_eq_true rfl) dX9_value_153 ?_
      obtain rfl := z_so h
      exact z_vret hC hQ dX9_value_156
    · replace h := z_t q134_4 h
      refine z_iload hC 0 rfl dX9_value_137 ?_
      refine z_if_eq hC 157 (by decide) dX9_value_139 (fun q => ?_) (fun q => absurd q (by decide))
      refine z_sub [(0, .ref (zAd T (61))), (1, .int v1), (6, .int v6), (7, .int v7), (8, .int (0 : Int32))] [1, 2, 3, 4, 0] rfl ?_
      exact (wX9_value_157 hC hN hQ ) _ _ _ _ _ h
  · replace h := z_f q117_2 h
    exact (wX9_value_120 hC hN hQ ) _ _ _ _ h
set_option maxRecDepth 100000 in
set_option maxHeartbeats 4000000 in
theorem wX9_value_34 {T : zX} (hC : zOk T cX9_value RX9 5 137 61 85) (hN : zNL T = 17) {σ' : zSt} (hQ : zRes T none (none) σ') (v1 : Int32) (v2 : Int64) (v4 : Int64) (t0 : Int32)  (σ : zSt) (h : fX9_value_34 v1 v2 v4 t0 σ = some σ') : Z T σ 34 [(0, .ref (zAd T (61))), (1, .int v1), (2, .long v2), (4, .long v4)] [.int t0] := by
  unfold fX9_value_34 at h
  refine z_istore hC [(6, .int t0), (0, .ref (zAd T (61))), (1, .int v1), (2, .long v2), (4, .long v4)] (by rw [hN]; decide) rfl dX9_value_34 ?_
  refine z_aload_n hC 1 rfl rfl dX9_value_36 ?_
  refine gX9_7 hC kf_X9_23 dX9_value_37 ?_
  refine z_iload_n hC 2 rfl rfl dX9_value_40 ?_
  refine z_g h (fun g41_1 h => ?_)
  refine z_iald hC 66 ⟨by decide, by decide⟩ (zS_66 _ _ _) g41_1 (gi σ 66 v1.toNatClampNeg) rfl dX9_value_41 ?_
  refine z_nmI h (fun x42_2 h => ?_)
  refine z_istore hC [(7, .int x42_2), (6, .int t0), (0, .ref (zAd T (61))), (1, .int v1), (2, .long v2), (4, .long v4)] (by rw [hN]; decide) rfl dX9_value_42 ?_
  refine z_aload_n hC 2 rfl rfl dX9_value_44 ?_
  refine gX9_5 hC kf_X9_17 dX9_value_45 ?_
  refine z_iload_n hC 3 rfl rfl dX9_value_48 ?_
  refine z_g h (fun g49_3 h => ?_)
  refine z_iald hC 64 ⟨by decide, by decide⟩ (zS_64 _ _ _) g49_3 (gi σ 64 v1.toNatClampNeg) rfl dX9_value_49 ?_
  refine z_if_ne hC 61 (by decide) dX9_value_50 (fun q50_4 => ?_) (fun q50_4 => ?_)
  · replace h := z_f q50_4 h
    refine z_aload_n hC 2 rfl rfl dX9_value_61 ?_
    refine gX9_5 hC kf_X9_17 dX9_value_62 ?_
    refine z_iload_n hC 3 rfl rfl dX9_value_65 ?_
    refine z_g h (fun g66_5 h => ?_)
    refine z_iald hC 64 ⟨by decide, by decide⟩ (zS_64 _ _ _) g66_5 (gi σ 64 v1.toNatClampNeg) rfl dX9_value_66 ?_
    refine z_iconst hC (1 : Int32) (by decide) dX9_value_67 ?_
    refine z_icmp_ne hC 88 (by decide) dX9_value_68 (fun q68_6 => ?_) (fun q68_6 => ?_)
    · replace h := z_f q68_6 h
      refine z_aload_n hC 2 rfl rfl dX9_value_88 ?_
      refine gX9_5 hC kf_X9_17 dX9_value_89 ?_
      refine z_iload_n hC 3 rfl rfl dX9_value_92 ?_
      refine z_g h (fun g93_7 h => ?_)
      refine z_iald hC 64 ⟨by decide, by decide⟩ (zS_64 _ _ _) g93_7 (gi σ 64 v1.toNatClampNeg) rfl dX9_value_93 ?_
      refine z_iconst hC (5 : Int32) (by decide) dX9_value_94 ?_
      refine z_icmp_lt hC 109 (by decide) dX9_value_95 (fun q95_8 => ?_) (fun q95_8 => ?_)
      · replace h := z_t q95_8 h
        refine z_sub [(0, .ref (zAd T (61))), (1, .int v1), (6, .int t0), (7, .int x42_2)] [2, 3, 1, 0] rfl ?_
        exact (wX9_value_109 hC hN hQ ) _ _ _ _ h
      · replace h := z_f q95_8 h
        refine z_aload_n hC 2 rfl rfl dX9_value_98 ?_
        refine gX9_5 hC kf_X9_17 dX9_value_99 ?_
        refine z_iload_n hC 3 rfl rfl dX9_value_102 ?_
        refine z_g h (fun g103_9 h => ?_)
        refine z_iald hC 64 ⟨by decide, by decide⟩ (zS_64 _ _ _) g103_9 (gi σ 64 v1.toNatClampNeg) rfl dX9_value_103 ?_
        refine z_bipush hC (8 : Int32) (by decide) dX9_value_104 ?_
        refine z_icmp_le hC 120 (by decide) dX9_value_106 (fun q106_10 => ?_) (fun q106_10 => ?_)
        · replace h := z_t q106_10 h
          refine z_sub [(0, .ref (zAd T (61))), (1, .int v1), (6, .int t0), (7, .int x42_2)] [2, 3, 1, 0] rfl ?_
          exact (wX9_value_120 hC hN hQ ) _ _ _ _ h
        · replace h := z_f q106_10 h
          refine z_sub [(0, .ref (zAd T (61))), (1, .int v1), (6, .int t0), (7, .int x42_2)] [2, 3, 1, 0] rfl ?_
          exact (wX9_value_109 hC hN hQ ) _ _ _ _ h
    · replace h := z_t q68_6 h
      refine z_aload_n hC 2 rfl rfl dX9_value_71 ?_
      refine z_aload_n hC 2 rfl rfl dX9_value_72 ?_
      refine gX9_8 hC kf_X9_26 dX9_value_73 ?_
      refine z_iload_n hC 3 rfl rfl dX9_value_76 ?_
      refine z_g h (fun g77_11 h => ?_)
      refine z_lald hC 67 ⟨by decide, by decide⟩ (zS_67 _ _ _) g77_11 (gl σ 67 v1.toNatClampNeg) rfl dX9_value_77 ?_
      refine z_aload_n hC 2 rfl rfl dX9_value_78 ?_
      refine gX9_9 hC kf_X9_30 dX9_value_79 ?_
      refine z_iload_n hC 3 rfl rfl dX9_value_82 ?_
      refine z_g h (fun g83_12 h => ?_)
      refine z_lald hC 68 ⟨by decide, by decide⟩ (zS_68 _ _ _) g83_12 (gl σ 68 v1.toNatClampNeg) rfl dX9_value_83 ?_
      refine z_b1 h (fun s84_13 e_s84_13 h => ?_)
      refine z_cV2v hC (ctX9_is hC.hm e_s84_13) (rcX9 hC) kb_X9_is km_X9_243 ⟨by decide, by decide⟩ (Nat.le_of_ble_eq_true rfl) dX9_value_84 ?_
      obtain rfl := z_so h
      exact z_vret hC hQ dX9_value_87
  · replace h := z_t q50_4 h
    refine z_aload_n hC 2 rfl rfl dX9_value_53 ?_
    refine z_lload_n hC 4 rfl rfl dX9_value_54 ?_
    refine z_lload hC 5 rfl dX9_value_55 ?_
    refine z_b1 h (fun s57_14 e_s57_14 h => ?_)
    refine z_cV2v hC (ctX9_is hC.hm e_s57_14) (rcX9 hC) kb_X9_is km_X9_243 ⟨by decide, by decide⟩ (Nat.le_of_ble_eq_true rfl) dX9_value_57 ?_
    obtain rfl := z_so h
    exact z_vret hC hQ dX9_value_60
set_option maxRecDepth 100000 in
set_option maxHeartbeats 4000000 in
theorem wX9_value_0 {T : zX} (hC : zOk T cX9_value RX9 5 137 61 85) (hN : zNL T = 17) {σ' : zSt} (hQ : zRes T none (none) σ') (a1 : Int32) (a2 : Int64) (a4 : Int64)  (σ : zSt) (h : fX9_value_0 a1 a2 a4 σ = some σ') : Z T σ 0 [(0, .ref (zAd T (61))), (1, .int a1), (2, .long a2), (4, .long a4)] [] := by
  unfold fX9_value_0 at h
  refine z_aload_n hC 0 rfl rfl dX9_value_0 ?_
  refine z_iconst hC (0 : Int32) (by decide) dX9_value_1 ?_
  refine pX9_21 hC kf_X9_233 (by decide) dX9_value_2 ?_
  refine z_aload_n hC 0 rfl rfl dX9_value_5 ?_
  refine gX9_5 hC kf_X9_17 dX9_value_6 ?_
  refine z_iload_n hC 1 rfl rfl dX9_value_9 ?_
  refine z_g h (fun g10_1 h => ?_)
  refine z_iald hC 64 ⟨by decide, by decide⟩ (zS_64 _ _ _) g10_1 (gi σ 64 a1.toNatClampNeg) rfl dX9_value_10 ?_
  refine z_iconst hC (2 : Int32) (by decide) dX9_value_11 ?_
  refine z_icmp_ne hC 28 (by decide) dX9_value_12 (fun q12_2 => ?_) (fun q12_2 => ?_)
  · replace h := z_f q12_2 h
    refine z_aload_n hC 0 rfl rfl dX9_value_28 ?_
    refine gX9_6 hC kf_X9_20 dX9_value_29 ?_
    refine z_iload_n hC 1 rfl rfl dX9_value_32 ?_
    refine z_g h (fun g33_3 h => ?_)
    refine z_iald hC 65 ⟨by decide, by decide⟩ (zS_65 _ _ _) g33_3 (gi σ 65 a1.toNatClampNeg) rfl dX9_value_33 ?_
    exact (wX9_value_34 hC hN hQ ) _ _ _ _ _ h
  · replace h := z_t q12_2 h
    refine z_aload_n hC 0 rfl rfl dX9_value_15 ?_
    refine z_aload_n hC 0 rfl rfl dX9_value_16 ?_
    refine gX9_6 hC kf_X9_20 dX9_value_17 ?_
    refine z_iload_n hC 1 rfl rfl dX9_value_20 ?_
    refine z_g h (fun g21_4 h => ?_)
    refine z_iald hC 65 ⟨by decide, by decide⟩ (zS_65 _ _ _) g21_4 (gi σ 65 a1.toNatClampNeg) rfl dX9_value_21 ?_
    refine z_b1 h (fun r22_5 e_r22_5 h => ?_)
    refine z_cV1r hC (ctX9_lastOf hC.hm e_r22_5) (rcX9 hC) kb_X9_lastOf km_X9_302 ⟨by decide, by decide⟩ (Nat.le_of_ble_eq_true rfl) dX9_value_22 ?_
    refine z_goto hC 34 (by decide) dX9_value_25 ?_
    exact (wX9_value_34 hC hN hQ ) _ _ _ _ _ h
set_option maxRecDepth 100000 in
theorem ctX9_value {l : Launch} {G : zGt} {mk : zSt → zSt} (hm : zM mk 61 85) {a1 : Int32} {a2 : Int64} {a4 : Int64} {σ : zSt} {σ' : zSt} (h : fX9_value a1 a2 a4 σ = some σ') : zMet l G mk yX9_value cX9_value 17 none 5 137 [.ref (gA G (61)), .int a1, .long a2, .long a4] σ (none) σ' := by
  unfold fX9_value at h

  refine zMet.of (plainFor_of_name (by decide +kernel)) hm (Nat.le_of_ble_eq_true rfl) (fun T eL eG eM hN hC hQ => ?_)
  subst eL; subst eG; subst eM
  refine z_sub [(0, .ref (zAd T (61))), (1, .int a1), (2, .long a2), (4, .long a4)] [0, 1, 2, 3] rfl ?_
  exact wX9_value_0 hC hN hQ _ _ _  _ h
noncomputable def fX9_values_16 (K3 : Int32 → Int64 → Int64 → Int32 → zSt → Option zSt) (K16 : Int32 → Int64 → Int64 → Int32 → Int32 → zSt → Option zSt) (v1 : Int32) (v2 : Int64) (v4 : Int64) (v6 : Int32) (v7 : Int32) (σ : zSt) : Option zSt := bd1 (fX9_lastOf v6 σ) fun r21_1 => 
    (if r21_1 < v7 then nm (v6 + (1 : Int32)) fun x48_3 => K3 v1 v2 v4 x48_3 σ
    else bd1 (fX9_value v7 v2 v4 σ) fun s33_4 => bd1 (fX9_keepValue v7 s33_4) fun s39_5 => nm (v7 + (1 : Int32)) fun x42_6 => K16 v1 v2 v4 v6 x42_6 s39_5)
noncomputable def fX9_values_L16 (K3 : Int32 → Int64 → Int64 → Int32 → zSt → Option zSt) : Nat → Int32 → Int64 → Int64 → Int32 → Int32 → zSt → Option zSt
  | 0, _, _, _, _, _, _ => none
  | n + 1, v1, v2, v4, v6, v7, σ => fX9_values_16 K3 (fX9_values_L16 K3 n) v1 v2 v4 v6 v7 σ
noncomputable def fX9_values_3 (K3 : Int32 → Int64 → Int64 → Int32 → zSt → Option zSt) (v1 : Int32) (v2 : Int64) (v4 : Int64) (v6 : Int32) (σ : zSt) : Option zSt := 
    (if v1 < v6 then some σ
    else nm ((60 : Int32) * v6) fun x14_2 => fX9_values_L16 K3 zFU v1 v2 v4 v6 x14_2 σ)
noncomputable def fX9_values_L3 : Nat → Int32 → Int64 → Int64 → Int32 → zSt → Option zSt
  | 0, _, _, _, _, _ => none
  | n + 1, v1, v2, v4, v6, σ => fX9_values_3 (fX9_values_L3 n) v1 v2 v4 v6 σ
noncomputable def fX9_values_0 (a1 : Int32) (a2 : Int64) (a4 : Int64) (σ : zSt) : Option zSt := fX9_values_L3 zFU a1 a2 a4 (0 : Int32) σ
noncomputable def fX9_values (a1 : Int32) (a2 : Int64) (a4 : Int64) (σ : zSt) : Option zSt := fX9_values_0 a1 a2 a4 σ
set_option maxRecDepth 100000 in
set_option maxHeartbeats 4000000 in
theorem wX9_values_16 {T : zX} (hC : zOk T cX9_values RX9 6 173 61 85) (hN : zNL T = 8) {σ' : zSt} (hQ : zRes T none (none) σ') (K3 : Int32 → Int64 → Int64 → Int32 → zSt → Option zSt) (hK3 : ∀ (v1 : Int32) (v2 : Int64) (v4 : Int64) (v6 : Int32) (τ : zSt), K3 v1 v2 v4 v6 τ = some σ' → Z T τ 3 [(0, .ref (zAd T (61))), (1, .int v1), (2, .long v2), (4, .long v4), (6, .int v6)] []) (K16 : Int32 → Int64 → Int64 → Int32 → Int32 → zSt → Option zSt) (hK16 : ∀ (v1 : Int32) (v2 : Int64) (v4 : Int64) (v6 : Int32) (v7 : Int32) (τ : zSt), K16 v1 v2 v4 v6 v7 τ = some σ' → Z T τ 16 [(0, .ref (zAd T (61))), (1, .int v1), (2, .long v2), (4, .long v4), (6, .int v6), (7, .int v7)] []) (v1 : Int32) (v2 : Int64) (v4 : Int64) (v6 : Int32) (v7 : Int32)  (σ : zSt) (h : fX9_values_16 K3 K16 v1 v2 v4 v6 v7 σ = some σ') : Z T σ 16 [(0, .ref (zAd T (61))), (1, .int v1), (2, .long v2), (4, .long v4), (6, .int v6), (7, .int v7)] [] := by
  unfold fX9_values_16 at h
  refine z_iload hC 5 rfl dX9_values_16 ?_
  refine z_aload_n hC 0 rfl rfl dX9_values_18 ?_
  refine z_iload hC 4 rfl dX9_values_19 ?_
  refine z_b1 h (fun r21_1 e_r21_1 h => ?_)
  refine z_cV1r hC (ctX9_lastOf hC.hm e_r21_1) (rcX9 hC) kb_X9_lastOf km_X9_302 ⟨by decide, by decide⟩ (Nat.le_of_ble_eq_true rfl) dX9_values_21 ?_
  refine z_icmp_gt hC 48 (by decide) dX9_values_24 (fun q24_2 => ?_) (fun q24_2 => ?_)
  · replace h := z_t q24_2 h
    refine z_nmE h (fun x48_3 e_x48_3 h => ?_)
    refine z_iinc hC x48_3 [(6, .int x48_3), (0, .ref (zAd T (61))), (1, .int v1), (2, .long v2), (4, .long v4), (7, .int v7)] 4 rfl (by rw [e_x48_3]; rfl) (by rw [hN]; decide) rfl dX9_values_48 ?_
    refine z_goto hC 3 (by decide) dX9_values_51 ?_
    refine z_sub [(0, .ref (zAd T (61))), (1, .int v1), (2, .long v2), (4, .long v4), (6, .int x48_3)] [1, 2, 3, 4, 0] rfl ?_
    exact hK3 _ _ _ _ _ h
  · replace h := z_f q24_2 h
    refine z_aload_n hC 0 rfl rfl dX9_values_27 ?_
    refine z_iload hC 5 rfl dX9_values_28 ?_
    refine z_lload_n hC 2 rfl rfl dX9_values_30 ?_
    refine z_lload hC 3 rfl dX9_values_31 ?_
    refine z_b1 h (fun s33_4 e_s33_4 h => ?_)
    refine z_cV3v hC (ctX9_value hC.hm e_s33_4) (rcX9 hC) kb_X9_value km_X9_305 ⟨by decide, by decide⟩ (Nat.le_of_ble_eq_true rfl) dX9_values_33 ?_
    refine z_aload_n hC 0 rfl rfl dX9_values_36 ?_
    refine z_iload hC 5 rfl dX9_values_37 ?_
    refine z_b1 h (fun s39_5 e_s39_5 h => ?_)
    refine z_cV1v hC (ctX9_keepValue hC.hm e_s39_5) (rcX9 hC) kb_X9_keepValue km_X9_309 ⟨by decide, by decide⟩ (Nat.le_of_ble_eq_true rfl) dX9_values_39 ?_
    refine z_nmE h (fun x42_6 e_x42_6 h => ?_)
    refine z_iinc hC x42_6 [(7, .int x42_6), (0, .ref (zAd T (61))), (1, .int v1), (2, .long v2), (4, .long v4), (6, .int v6)] 5 rfl (by rw [e_x42_6]; rfl) (by rw [hN]; decide) rfl dX9_values_42 ?_
    refine z_goto hC 16 (by decide) dX9_values_45 ?_
    refine z_sub [(0, .ref (zAd T (61))), (1, .int v1), (2, .long v2), (4, .long v4), (6, .int v6), (7, .int x42_6)] [1, 2, 3, 4, 5, 0] rfl ?_
    exact hK16 _ _ _ _ _ _ h
theorem wX9_values_L16 {T : zX} (hC : zOk T cX9_values RX9 6 173 61 85) (hN : zNL T = 8) {σ' : zSt} (hQ : zRes T none (none) σ') (K3 : Int32 → Int64 → Int64 → Int32 → zSt → Option zSt) (hK3 : ∀ (v1 : Int32) (v2 : Int64) (v4 : Int64) (v6 : Int32) (τ : zSt), K3 v1 v2 v4 v6 τ = some σ' → Z T τ 3 [(0, .ref (zAd T (61))), (1, .int v1), (2, .long v2), (4, .long v4), (6, .int v6)] []) (n : Nat) : ∀ (v1 : Int32) (v2 : Int64) (v4 : Int64) (v6 : Int32) (v7 : Int32) (σ : zSt), fX9_values_L16 K3 n v1 v2 v4 v6 v7 σ = some σ' → Z T σ 16 [(0, .ref (zAd T (61))), (1, .int v1), (2, .long v2), (4, .long v4), (6, .int v6), (7, .int v7)] [] := by
  induction n with
  | zero => intro v1 v2 v4 v6 v7 σ h; cases h
  | succ n ih => intro v1 v2 v4 v6 v7 σ h; exact wX9_values_16 hC hN hQ K3 hK3 (fX9_values_L16 K3 n) ih v1 v2 v4 v6 v7 σ h
set_option maxRecDepth 100000 in
set_option maxHeartbeats 4000000 in
theorem wX9_values_3 {T : zX} (hC : zOk T cX9_values RX9 6 173 61 85) (hN : zNL T = 8) {σ' : zSt} (hQ : zRes T none (none) σ') (K3 : Int32 → Int64 → Int64 → Int32 → zSt → Option zSt) (hK3 : ∀ (v1 : Int32) (v2 : Int64) (v4 : Int64) (v6 : Int32) (τ : zSt), K3 v1 v2 v4 v6 τ = some σ' → Z T τ 3 [(0, .ref (zAd T (61))), (1, .int v1), (2, .long v2), (4, .long v4), (6, .int v6)] []) (v1 : Int32) (v2 : Int64) (v4 : Int64) (v6 : Int32)  (σ : zSt) (h : fX9_values_3 K3 v1 v2 v4 v6 σ = some σ') : Z T σ 3 [(0, .ref (zAd T (61))), (1, .int v1), (2, .long v2), (4, .long v4), (6, .int v6)] [] := by
  unfold fX9_values_3 at h
  refine z_iload hC 4 rfl dX9_values_3 ?_
  refine z_iload_n hC 1 rfl rfl dX9_values_5 ?_
  refine z_icmp_gt hC 54 (by decide) dX9_values_6 (fun q6_1 => ?_) (fun q6_1 => ?_)
  · replace h := z_t q6_1 h
    obtain rfl := z_so h
    exact z_vret hC hQ dX9_values_54
  · replace h := z_f q6_1 h
    refine z_bipush hC (60 : Int32) (by decide) dX9_values_9 ?_
    refine z_iload hC 4 rfl dX9_values_11 ?_
    refine z_imul hC dX9_values_13 ?_
    refine z_nmI h (fun x14_2 h => ?_)
    refine z_istore hC [(7, .int x14_2), (0, .ref (zAd T (61))), (1, .int v1), (2, .long v2), (4, .long v4), (6, .int v6)] (by rw [hN]; decide) rfl dX9_values_14 ?_
    refine z_sub [(0, .ref (zAd T (61))), (1, .int v1), (2, .long v2), (4, .long v4), (6, .int v6), (7, .int x14_2)] [1, 2, 3, 4, 5, 0] rfl ?_
    exact (wX9_values_L16 hC hN hQ K3 hK3 zFU) _ _ _ _ _ _ h
theorem wX9_values_L3 {T : zX} (hC : zOk T cX9_values RX9 6 173 61 85) (hN : zNL T = 8) {σ' : zSt} (hQ : zRes T none (none) σ') (n : Nat) : ∀ (v1 : Int32) (v2 : Int64) (v4 : Int64) (v6 : Int32) (σ : zSt), fX9_values_L3 n v1 v2 v4 v6 σ = some σ' → Z T σ 3 [(0, .ref (zAd T (61))), (1, .int v1), (2, .long v2), (4, .long v4), (6, .int v6)] [] := by
  induction n with
  | zero => intro v1 v2 v4 v6 σ h; cases h
  | succ n ih => intro v1 v2 v4 v6 σ h; exact wX9_values_3 hC hN hQ (fX9_values_L3 n) ih v1 v2 v4 v6 σ h
set_option maxRecDepth 100000 in
set_option maxHeartbeats 4000000 in
theorem wX9_values_0 {T : zX} (hC : zOk T cX9_values RX9 6 173 61 85) (hN : zNL T = 8) {σ' : zSt} (hQ : zRes T none (none) σ') (a1 : Int32) (a2 : Int64) (a4 : Int64)  (σ : zSt) (h : fX9_values_0 a1 a2 a4 σ = some σ') : Z T σ 0 [(0, .ref (zAd T (61))), (1, .int a1), (2, .long a2), (4, .long a4)] [] := by
  unfold fX9_values_0 at h
  refine z_iconst hC (0 : Int32) (by decide) dX9_values_0 ?_
  refine z_istore hC [(6, .int (0 : Int32)), (0, .ref (zAd T (61))), (1, .int a1), (2, .long a2), (4, .long a4)] (by rw [hN]; decide) rfl dX9_values_1 ?_
  refine z_sub [(0, .ref (zAd T (61))), (1, .int a1), (2, .long a2), (4, .long a4), (6, .int (0 : Int32))] [1, 2, 3, 4, 0] rfl ?_
  exact (wX9_values_L3 hC hN hQ zFU) _ _ _ _ _ h
set_option maxRecDepth 100000 in
theorem ctX9_values {l : Launch} {G : zGt} {mk : zSt → zSt} (hm : zM mk 61 85) {a1 : Int32} {a2 : Int64} {a4 : Int64} {σ : zSt} {σ' : zSt} (h : fX9_values a1 a2 a4 σ = some σ') : zMet l G mk yX9_values cX9_values 8 none 6 173 [.ref (gA G (61)), .int a1, .long a2, .long a4] σ (none) σ' := by
  unfold fX9_values at h

  refine zMet.of (plainFor_of_name (by decide +kernel)) hm (Nat.le_of_ble_eq_true rfl) (fun T eL eG eM hN hC hQ => ?_)
  subst eL; subst eG; subst eM
  refine z_sub [(0, .ref (zAd T (61))), (1, .int a1), (2, .long a2), (4, .long a4)] [0, 1, 2, 3] rfl ?_
  exact wX9_values_0 hC hN hQ _ _ _  _ h
noncomputable def fX9_chosen_142 (t0 : Int32) (σ : zSt) : Option zSt := zg (vp_in t0 480) <| 
    (if (gi σ 77 t0.toNatClampNeg) = 0 then zg (vp_in t0 480) <| zg (vp_in t0 480) <| bd1 (fX9_is (gl σ 74 t0.toNatClampNeg) (gl σ 75 t0.toNatClampNeg) σ) fun s176_5 => some s176_5
    else bd1 (fX9_isHole σ) fun s155_6 => some s155_6)
noncomputable def fX9_chosen_120 (v2 : Int32) (v3 : Int32) (v5 : Int32) (t0 : Int32) (σ : zSt) : Option zSt := 
    (if v5 = 0 then 
      (if t0 = 0 then zg (vp_in v2 480) <| 
        (if (gi σ 77 v2.toNatClampNeg) = 0 then zg (vp_in v3 480) <| 
          (if (gi σ 77 v3.toNatClampNeg) = 0 then zg (vp_in v2 480) <| zg (vp_in v3 480) <| zg (vp_in v2 480) <| zg (vp_in v3 480) <| bd1 (fX9_is (fX9_less (gl σ 74 v2.toNatClampNeg) (gl σ 74 v3.toNatClampNeg)) (fX9_more (gl σ 75 v2.toNatClampNeg) (gl σ 75 v3.toNatClampNeg)) σ) fun s234_13 => some s234_13
          else bd1 (fX9_isHole σ) fun s199_14 => some s199_14)
        else bd1 (fX9_isHole σ) fun s199_6 => some s199_6)
      else 
        (if v5 = 0 then fX9_chosen_142 v3 σ
        else fX9_chosen_142 v2 σ))
    else 
      (if v5 = 0 then fX9_chosen_142 v3 σ
      else fX9_chosen_142 v2 σ))
noncomputable def fX9_chosen_68 (v2 : Int32) (v3 : Int32) (v4 : Int32) (t0 : Int32) (σ : zSt) : Option zSt := 
    (if v4 = 0 then zg (vp_in v3 480) <| zg (vp_in v2 480) <| 
      (if (gl σ 72 v3.toNatClampNeg) < (gl σ 73 v2.toNatClampNeg) then fX9_chosen_120 v2 v3 t0 (0 : Int32) σ
      else fX9_chosen_120 v2 v3 t0 (1 : Int32) σ)
    else zg (vp_in v3 480) <| zg (vp_in v2 480) <| 
      (if (gl σ 72 v2.toNatClampNeg) < (gl σ 73 v3.toNatClampNeg) then fX9_chosen_120 v2 v3 t0 (0 : Int32) σ
      else fX9_chosen_120 v2 v3 t0 (1 : Int32) σ))
noncomputable def fX9_chosen_16 (v2 : Int32) (v3 : Int32) (t0 : Int32) (σ : zSt) : Option zSt := 
    (if t0 = 0 then zg (vp_in v2 480) <| zg (vp_in v3 480) <| 
      (if (gl σ 72 v2.toNatClampNeg) < (gl σ 73 v3.toNatClampNeg) then fX9_chosen_68 v2 v3 t0 (0 : Int32) σ
      else fX9_chosen_68 v2 v3 t0 (1 : Int32) σ)
    else zg (vp_in v2 480) <| zg (vp_in v3 480) <| 
      (if (gl σ 72 v3.toNatClampNeg) < (gl σ 73 v2.toNatClampNeg) then fX9_chosen_68 v2 v3 t0 (0 : Int32) σ
      else fX9_chosen_68 v2 v3 t0 (1 : Int32) σ))
noncomputable def fX9_chosen_0 (a1 : Int32) (a2 : Int32) (a3 : Int32) (σ : zSt) : Option zSt := zg (vp_in a1 480) <| 
    (if (gi σ 64 a1.toNatClampNeg) = (15 : Int32) then fX9_chosen_16 a2 a3 (1 : Int32) σ
    else fX9_chosen_16 a2 a3 (0 : Int32) σ)
noncomputable def fX9_chosen (a1 : Int32) (a2 : Int32) (a3 : Int32) (σ : zSt) : Option zSt := fX9_chosen_0 a1 a2 a3 σ
set_option maxRecDepth 100000 in
set_option maxHeartbeats 4000000 in
theorem wX9_chosen_142 {T : zX} (hC : zOk T cX9_chosen RX9 1 24 61 85) (hN : zNL T = 8) {σ' : zSt} (hQ : zRes T none (none) σ') (t0 : Int32)  (σ : zSt) (h : fX9_chosen_142 t0 σ = some σ') : Z T σ 142 [(0, .ref (zAd T (61)))] [.int t0] := by
  unfold fX9_chosen_142 at h
  refine z_istore hC [(7, .int t0), (0, .ref (zAd T (61)))] (by rw [hN]; decide) rfl dX9_chosen_142 ?_
  refine z_aload_n hC 1 rfl rfl dX9_chosen_144 ?_
  refine gX9_28 hC kf_X9_58 dX9_chosen_145 ?_
  refine z_iload hC 0 rfl dX9_chosen_148 ?_
  refine z_g h (fun g150_1 h => ?_)
  refine z_zald hC 77 ⟨by decide, by decide⟩ (zS_77 _ _ _) g150_1 (gi σ 77 t0.toNatClampNeg) rfl dX9_chosen_150 ?_
  refine z_if_eq hC 161 (by decide) dX9_chosen_151 (fun q151_2 => ?_) (fun q151_2 => ?_)
  · replace h := z_t q151_2 h
    refine z_aload_n hC 1 rfl rfl dX9_chosen_161 ?_
    refine z_aload_n hC 1 rfl rfl dX9_chosen_162 ?_
    refine gX9_25 hC kf_X9_48 dX9_chosen_163 ?_
    refine z_iload hC 0 rfl dX9_chosen_166 ?_
    refine z_g h (fun g168_3 h => ?_)
    refine z_lald hC 74 ⟨by decide, by decide⟩ (zS_74 _ _ _) g168_3 (gl σ 74 t0.toNatClampNeg) rfl dX9_chosen_168 ?_
    refine z_aload_n hC 1 rfl rfl dX9_chosen_169 ?_
    refine gX9_26 hC kf_X9_51 dX9_chosen_170 ?_
    refine z_iload hC 0 rfl dX9_chosen_173 ?_
    refine z_g h (fun g175_4 h => ?_)
    refine z_lald hC 75 ⟨by decide, by decide⟩ (zS_75 _ _ _) g175_4 (gl σ 75 t0.toNatClampNeg) rfl dX9_chosen_175 ?_
    refine z_b1 h (fun s176_5 e_s176_5 h => ?_)
    refine z_cV2v hC (ctX9_is hC.hm e_s176_5) (rcX9 hC) kb_X9_is km_X9_243 ⟨by decide, by decide⟩ (Nat.le_of_ble_eq_true rfl) dX9_chosen_176 ?_
    obtain rfl := z_so h
    exact z_vret hC hQ dX9_chosen_179
  · replace h := z_f q151_2 h
    refine z_aload_n hC 1 rfl rfl dX9_chosen_154 ?_
    refine z_b1 h (fun s155_6 e_s155_6 h => ?_)
    refine z_cV0v hC (ctX9_isHole hC.hm e_s155_6) (rcX9 hC) kb_X9_isHole km_X9_247 ⟨by decide, by decide⟩ (Nat.le_of_ble_eq_true rfl) dX9_chosen_155 ?_
    refine z_goto hC 179 (by decide) dX9_chosen_158 ?_
    obtain rfl := z_so h
    exact z_vret hC hQ dX9_chosen_179
set_option maxRecDepth 100000 in
set_option maxHeartbeats 4000000 in
theorem wX9_chosen_120 {T : zX} (hC : zOk T cX9_chosen RX9 1 24 61 85) (hN : zNL T = 8) {σ' : zSt} (hQ : zRes T none (none) σ') (v2 : Int32) (v3 : Int32) (v5 : Int32) (t0 : Int32)  (σ : zSt) (h : fX9_chosen_120 v2 v3 v5 t0 σ = some σ') : Z T σ 120 [(0, .ref (zAd T (61))), (2, .int v2), (3, .int v3), (5, .int v5)] [.int t0] := by
  unfold fX9_chosen_120 at h
  refine z_istore hC [(6, .int t0), (0, .ref (zAd T (61))), (2, .int v2), (3, .int v3), (5, .int v5)] (by rw [hN]; decide) rfl dX9_chosen_120 ?_
  refine z_iload hC 4 rfl dX9_chosen_122 ?_
  refine z_if_ne hC 132 (by decide) dX9_chosen_124 (fun q124_1 => ?_) (fun q124_1 => ?_)
  · replace h := z_f q124_1 h
    refine z_iload hC 4 rfl dX9_chosen_132 ?_
    refine z_if_eq hC 141 (by decide) dX9_chosen_134 (fun q134_2 => ?_) (fun q134_2 => ?_)
    · replace h := z_t q134_2 h
      refine z_iload_n hC 3 rfl rfl dX9_chosen_141 ?_
      refine z_sub [(0, .ref (zAd T (61)))] [1] rfl ?_
      exact (wX9_chosen_142 hC hN hQ ) _ _ h
    · replace h := z_f q134_2 h
      refine z_iload_n hC 2 rfl rfl dX9_chosen_137 ?_
      refine z_goto hC 142 (by decide) dX9_chosen_138 ?_
      refine z_sub [(0, .ref (zAd T (61)))] [1] rfl ?_
      exact (wX9_chosen_142 hC hN hQ ) _ _ h
  · replace h := z_t q124_1 h
    refine z_iload hC 0 rfl dX9_chosen_127 ?_
    refine z_if_eq hC 180 (by decide) dX9_chosen_129 (fun q129_3 => ?_) (fun q129_3 => ?_)
    · replace h := z_t q129_3 h
      refine z_aload_n hC 1 rfl rfl dX9_chosen_180 ?_
      refine gX9_28 hC kf_X9_58 dX9_chosen_181 ?_
      refine z_iload_n hC 2 rfl rfl dX9_chosen_184 ?_
      refine z_g h (fun g185_4 h => ?_)
      refine z_zald hC 77 ⟨by decide, by decide⟩ (zS_77 _ _ _) g185_4 (gi σ 77 v2.toNatClampNeg) rfl dX9_chosen_185 ?_
      refine z_if_ne hC 198 (by decide) dX9_chosen_186 (fun q186_5 => ?_) (fun q186_5 => ?_)
      · replace h := z_f q186_5 h
        refine z_aload_n hC 1 rfl rfl dX9_chosen_198 ?_
        refine z_b1 h (fun s199_6 e_s199_6 h => ?_)
        refine z_cV0v hC (ctX9_isHole hC.hm e_s199_6) (rcX9 hC) kb_X9_isHole km_X9_247 ⟨by decide, by decide⟩ (Nat.le_of_ble_eq_true rfl) dX9_chosen_199 ?_
        obtain rfl := z_so h
        exact z_vret hC hQ dX9_chosen_202
      · replace h := z_t q186_5 h
        refine z_aload_n hC 1 rfl rfl dX9_chosen_189 ?_
        refine gX9_28 hC kf_X9_58 dX9_chosen_190 ?_
        refine z_iload_n hC 3 rfl rfl dX9_chosen_193 ?_
        refine z_g h (fun g194_7 h => ?_)
        refine z_zald hC 77 ⟨by decide, by decide⟩ (zS_77 _ _ _) g194_7 (gi σ 77 v3.toNatClampNeg) rfl dX9_chosen_194 ?_
        refine z_if_eq hC 203 (by decide) dX9_chosen_195 (fun q195_8 => ?_) (fun q195_8 => ?_)
        · replace h := z_t q195_8 h
          refine z_aload_n hC 1 rfl rfl dX9_chosen_203 ?_
          refine z_aload_n hC 1 rfl rfl dX9_chosen_204 ?_
          refine gX9_25 hC kf_X9_48 dX9_chosen_205 ?_
          refine z_iload_n hC 2 rfl rfl dX9_chosen_208 ?_
          refine z_g h (fun g209_9 h => ?_)
          refine z_lald hC 74 ⟨by decide, by decide⟩ (zS_74 _ _ _) g209_9 (gl σ 74 v2.toNatClampNeg) rfl dX9_chosen_209 ?_
          refine z_aload_n hC 1 rfl rfl dX9_chosen_210 ?_
          refine gX9_25 hC kf_X9_48 dX9_chosen_211 ?_
          refine z_iload_n hC 3 rfl rfl dX9_chosen_214 ?_
          refine z_g h (fun g215_10 h => ?_)
          refine z_lald hC 74 ⟨by decide, by decide⟩ (zS_74 _ _ _) g215_10 (gl σ 74 v3.toNatClampNeg) rfl dX9_chosen_215 ?_
          refine z_cS2r hC (ctX9_less hC.hm) kb_X9_less km_X9_237 ⟨by decide, by decide⟩ (Nat.le_of_ble_eq_true rfl) dX9_chosen_216 ?_
          refine z_aload_n hC 1 rfl rfl dX9_chosen_219 ?_
          refine gX9_26 hC kf_X9_51 dX9_chosen_220 ?_
          refine z_iload_n hC 2 rfl rfl dX9_chosen_223 ?_
          refine z_g h (fun g224_11 h => ?_)
          refine z_lald hC 75 ⟨by decide, by decide⟩ (zS_75 _ _ _) g224_11 (gl σ 75 v2.toNatClampNeg) rfl dX9_chosen_224 ?_
          refine z_aload_n hC 1 rfl rfl dX9_chosen_225 ?_
          refine gX9_26 hC kf_X9_51 dX9_chosen_226 ?_
          refine z_iload_n hC 3 rfl rfl dX9_chosen_229 ?_
          refine z_g h (fun g230_12 h => ?_)
          refine z_lald hC 75 ⟨by decide, by decide⟩ (zS_75 _ _ _) g230_12 (gl σ 75 v3.toNatClampNeg) rfl dX9_chosen_230 ?_
          refine z_cS2r hC (ctX9_more hC.hm) kb_X9_more km_X9_240 ⟨by decide, by decide⟩ (Nat.le_of_ble_eq_true rfl) dX9_chosen_231 ?_
          refine z_b1 h (fun s234_13 e_s234_13 h => ?_)
          refine z_cV2v hC (ctX9_is hC.hm e_s234_13) (rcX9 hC) kb_X9_is km_X9_243 ⟨by decide, by decide⟩ (Nat.le_of_ble_eq_true rfl) dX9_chosen_234 ?_
          obtain rfl := z_so h
          exact z_vret hC hQ dX9_chosen_237
        · replace h := z_f q195_8 h
          refine z_aload_n hC 1 rfl rfl dX9_chosen_198 ?_
          refine z_b1 h (fun s199_14 e_s199_14 h => ?_)
          refine z_cV0v hC (ctX9_isHole hC.hm e_s199_14) (rcX9 hC) kb_X9_isHole km_X9_247 ⟨by decide, by decide⟩ (Nat.le_of_ble_eq_true rfl) dX9_chosen_199 ?_
          obtain rfl := z_so h
          exact z_vret hC hQ dX9_chosen_202
    · replace h := z_f q129_3 h
      refine z_iload hC 4 rfl dX9_chosen_132 ?_
      refine z_if_eq hC 141 (by decide) dX9_chosen_134 (fun q134_15 => ?_) (fun q134_15 => ?_)
      · replace h := z_t q134_15 h
        refine z_iload_n hC 3 rfl rfl dX9_chosen_141 ?_
        refine z_sub [(0, .ref (zAd T (61)))] [1] rfl ?_
        exact (wX9_chosen_142 hC hN hQ ) _ _ h
      · replace h := z_f q134_15 h
        refine z_iload_n hC 2 rfl rfl dX9_chosen_137 ?_
        refine z_goto hC 142 (by decide) dX9_chosen_138 ?_
        refine z_sub [(0, .ref (zAd T (61)))] [1] rfl ?_
        exact (wX9_chosen_142 hC hN hQ ) _ _ h
set_option maxRecDepth 100000 in
set_option maxHeartbeats 4000000 in
theorem wX9_chosen_68 {T : zX} (hC : zOk T cX9_chosen RX9 1 24 61 85) (hN : zNL T = 8) {σ' : zSt} (hQ : zRes T none (none) σ') (v2 : Int32) (v3 : Int32) (v4 : Int32) (t0 : Int32)  (σ : zSt) (h : fX9_chosen_68 v2 v3 v4 t0 σ = some σ') : Z T σ 68 [(0, .ref (zAd T (61))), (2, .int v2), (3, .int v3), (4, .int v4)] [.int t0] := by
  unfold fX9_chosen_68 at h
  refine z_istore hC [(5, .int t0), (0, .ref (zAd T (61))), (2, .int v2), (3, .int v3), (4, .int v4)] (by rw [hN]; decide) rfl dX9_chosen_68 ?_
  refine z_iload hC 4 rfl dX9_chosen_70 ?_
  refine z_if_eq hC 99 (by decide) dX9_chosen_72 (fun q72_1 => ?_) (fun q72_1 => ?_)
  · replace h := z_t q72_1 h
    refine z_aload_n hC 1 rfl rfl dX9_chosen_99 ?_
    refine gX9_23 hC kf_X9_42 dX9_chosen_100 ?_
    refine z_iload_n hC 3 rfl rfl dX9_chosen_103 ?_
    refine z_g h (fun g104_2 h => ?_)
    refine z_lald hC 72 ⟨by decide, by decide⟩ (zS_72 _ _ _) g104_2 (gl σ 72 v3.toNatClampNeg) rfl dX9_chosen_104 ?_
    refine z_aload_n hC 1 rfl rfl dX9_chosen_105 ?_
    refine gX9_24 hC kf_X9_45 dX9_chosen_106 ?_
    refine z_iload_n hC 2 rfl rfl dX9_chosen_109 ?_
    refine z_g h (fun g110_3 h => ?_)
    refine z_lald hC 73 ⟨by decide, by decide⟩ (zS_73 _ _ _) g110_3 (gl σ 73 v2.toNatClampNeg) rfl dX9_chosen_110 ?_
    refine z_cmp_lt hC 119 (by decide) dX9_chosen_111 dX9_chosen_112 (fun q111_4 => ?_) (fun q111_4 => ?_)
    · replace h := z_t q111_4 h
      refine z_iconst hC (0 : Int32) (by decide) dX9_chosen_119 ?_
      refine z_sub [(0, .ref (zAd T (61))), (2, .int v2), (3, .int v3), (5, .int t0)] [1, 2, 3, 0] rfl ?_
      exact (wX9_chosen_120 hC hN hQ ) _ _ _ _ _ h
    · replace h := z_f q111_4 h
      refine z_iconst hC (1 : Int32) (by decide) dX9_chosen_115 ?_
      refine z_goto hC 120 (by decide) dX9_chosen_116 ?_
      refine z_sub [(0, .ref (zAd T (61))), (2, .int v2), (3, .int v3), (5, .int t0)] [1, 2, 3, 0] rfl ?_
      exact (wX9_chosen_120 hC hN hQ ) _ _ _ _ _ h
  · replace h := z_f q72_1 h
    refine z_aload_n hC 1 rfl rfl dX9_chosen_75 ?_
    refine gX9_24 hC kf_X9_45 dX9_chosen_76 ?_
    refine z_iload_n hC 3 rfl rfl dX9_chosen_79 ?_
    refine z_g h (fun g80_5 h => ?_)
    refine z_lald hC 73 ⟨by decide, by decide⟩ (zS_73 _ _ _) g80_5 (gl σ 73 v3.toNatClampNeg) rfl dX9_chosen_80 ?_
    refine z_aload_n hC 1 rfl rfl dX9_chosen_81 ?_
    refine gX9_23 hC kf_X9_42 dX9_chosen_82 ?_
    refine z_iload_n hC 2 rfl rfl dX9_chosen_85 ?_
    refine z_g h (fun g86_6 h => ?_)
    refine z_lald hC 72 ⟨by decide, by decide⟩ (zS_72 _ _ _) g86_6 (gl σ 72 v2.toNatClampNeg) rfl dX9_chosen_86 ?_
    refine z_cmp_gt hC 95 (by decide) dX9_chosen_87 dX9_chosen_88 (fun q87_7 => ?_) (fun q87_7 => ?_)
    · replace h := z_t q87_7 h
      refine z_iconst hC (0 : Int32) (by decide) dX9_chosen_95 ?_
      refine z_goto hC 120 (by decide) dX9_chosen_96 ?_
      refine z_sub [(0, .ref (zAd T (61))), (2, .int v2), (3, .int v3), (5, .int t0)] [1, 2, 3, 0] rfl ?_
      exact (wX9_chosen_120 hC hN hQ ) _ _ _ _ _ h
    · replace h := z_f q87_7 h
      refine z_iconst hC (1 : Int32) (by decide) dX9_chosen_91 ?_
      refine z_goto hC 120 (by decide) dX9_chosen_92 ?_
      refine z_sub [(0, .ref (zAd T (61))), (2, .int v2), (3, .int v3), (5, .int t0)] [1, 2, 3, 0] rfl ?_
      exact (wX9_chosen_120 hC hN hQ ) _ _ _ _ _ h
set_option maxRecDepth 100000 in
set_option maxHeartbeats 4000000 in
theorem wX9_chosen_16 {T : zX} (hC : zOk T cX9_chosen RX9 1 24 61 85) (hN : zNL T = 8) {σ' : zSt} (hQ : zRes T none (none) σ') (v2 : Int32) (v3 : Int32) (t0 : Int32)  (σ : zSt) (h : fX9_chosen_16 v2 v3 t0 σ = some σ') : Z T σ 16 [(0, .ref (zAd T (61))), (2, .int v2), (3, .int v3)] [.int t0] := by
  unfold fX9_chosen_16 at h
  refine z_istore hC [(4, .int t0), (0, .ref (zAd T (61))), (2, .int v2), (3, .int v3)] (by rw [hN]; decide) rfl dX9_chosen_16 ?_
  refine z_iload hC 0 rfl dX9_chosen_18 ?_
  refine z_if_eq hC 47 (by decide) dX9_chosen_20 (fun q20_1 => ?_) (fun q20_1 => ?_)
  · replace h := z_t q20_1 h
    refine z_aload_n hC 1 rfl rfl dX9_chosen_47 ?_
    refine gX9_23 hC kf_X9_42 dX9_chosen_48 ?_
    refine z_iload_n hC 2 rfl rfl dX9_chosen_51 ?_
    refine z_g h (fun g52_2 h => ?_)
    refine z_lald hC 72 ⟨by decide, by decide⟩ (zS_72 _ _ _) g52_2 (gl σ 72 v2.toNatClampNeg) rfl dX9_chosen_52 ?_
    refine z_aload_n hC 1 rfl rfl dX9_chosen_53 ?_
    refine gX9_24 hC kf_X9_45 dX9_chosen_54 ?_
    refine z_iload_n hC 3 rfl rfl dX9_chosen_57 ?_
    refine z_g h (fun g58_3 h => ?_)
    refine z_lald hC 73 ⟨by decide, by decide⟩ (zS_73 _ _ _) g58_3 (gl σ 73 v3.toNatClampNeg) rfl dX9_chosen_58 ?_
    refine z_cmp_lt hC 67 (by decide) dX9_chosen_59 dX9_chosen_60 (fun q59_4 => ?_) (fun q59_4 => ?_)
    · replace h := z_t q59_4 h
      refine z_iconst hC (0 : Int32) (by decide) dX9_chosen_67 ?_
      refine z_sub [(0, .ref (zAd T (61))), (2, .int v2), (3, .int v3), (4, .int t0)] [1, 2, 3, 0] rfl ?_
      exact (wX9_chosen_68 hC hN hQ ) _ _ _ _ _ h
    · replace h := z_f q59_4 h
      refine z_iconst hC (1 : Int32) (by decide) dX9_chosen_63 ?_
      refine z_goto hC 68 (by decide) dX9_chosen_64 ?_
      refine z_sub [(0, .ref (zAd T (61))), (2, .int v2), (3, .int v3), (4, .int t0)] [1, 2, 3, 0] rfl ?_
      exact (wX9_chosen_68 hC hN hQ ) _ _ _ _ _ h
  · replace h := z_f q20_1 h
    refine z_aload_n hC 1 rfl rfl dX9_chosen_23 ?_
    refine gX9_24 hC kf_X9_45 dX9_chosen_24 ?_
    refine z_iload_n hC 2 rfl rfl dX9_chosen_27 ?_
    refine z_g h (fun g28_5 h => ?_)
    refine z_lald hC 73 ⟨by decide, by decide⟩ (zS_73 _ _ _) g28_5 (gl σ 73 v2.toNatClampNeg) rfl dX9_chosen_28 ?_
    refine z_aload_n hC 1 rfl rfl dX9_chosen_29 ?_
    refine gX9_23 hC kf_X9_42 dX9_chosen_30 ?_
    refine z_iload_n hC 3 rfl rfl dX9_chosen_33 ?_
    refine z_g h (fun g34_6 h => ?_)
    refine z_lald hC 72 ⟨by decide, by decide⟩ (zS_72 _ _ _) g34_6 (gl σ 72 v3.toNatClampNeg) rfl dX9_chosen_34 ?_
    refine z_cmp_gt hC 43 (by decide) dX9_chosen_35 dX9_chosen_36 (fun q35_7 => ?_) (fun q35_7 => ?_)
    · replace h := z_t q35_7 h
      refine z_iconst hC (0 : Int32) (by decide) dX9_chosen_43 ?_
      refine z_goto hC 68 (by decide) dX9_chosen_44 ?_
      refine z_sub [(0, .ref (zAd T (61))), (2, .int v2), (3, .int v3), (4, .int t0)] [1, 2, 3, 0] rfl ?_
      exact (wX9_chosen_68 hC hN hQ ) _ _ _ _ _ h
    · replace h := z_f q35_7 h
      refine z_iconst hC (1 : Int32) (by decide) dX9_chosen_39 ?_
      refine z_goto hC 68 (by decide) dX9_chosen_40 ?_
      refine z_sub [(0, .ref (zAd T (61))), (2, .int v2), (3, .int v3), (4, .int t0)] [1, 2, 3, 0] rfl ?_
      exact (wX9_chosen_68 hC hN hQ ) _ _ _ _ _ h
set_option maxRecDepth 100000 in
set_option maxHeartbeats 4000000 in
theorem wX9_chosen_0 {T : zX} (hC : zOk T cX9_chosen RX9 1 24 61 85) (hN : zNL T = 8) {σ' : zSt} (hQ : zRes T none (none) σ') (a1 : Int32) (a2 : Int32) (a3 : Int32)  (σ : zSt) (h : fX9_chosen_0 a1 a2 a3 σ = some σ') : Z T σ 0 [(0, .ref (zAd T (61))), (1, .int a1), (2, .int a2), (3, .int a3)] [] := by
  unfold fX9_chosen_0 at h
  refine z_aload_n hC 0 rfl rfl dX9_chosen_0 ?_
  refine gX9_5 hC kf_X9_17 dX9_chosen_1 ?_
  refine z_iload_n hC 1 rfl rfl dX9_chosen_4 ?_
  refine z_g h (fun g5_1 h => ?_)
  refine z_iald hC 64 ⟨by decide, by decide⟩ (zS_64 _ _ _) g5_1 (gi σ 64 a1.toNatClampNeg) rfl dX9_chosen_5 ?_
  refine z_bipush hC (15 : Int32) (by decide) dX9_chosen_6 ?_
  refine z_icmp_ne hC 15 (by decide) dX9_chosen_8 (fun q8_2 => ?_) (fun q8_2 => ?_)
  · replace h := z_f q8_2 h
    refine z_iconst hC (0 : Int32) (by decide) dX9_chosen_15 ?_
    refine z_sub [(0, .ref (zAd T (61))), (2, .int a2), (3, .int a3)] [0, 2, 3] rfl ?_
    exact (wX9_chosen_16 hC hN hQ ) _ _ _ _ h
  · replace h := z_t q8_2 h
    refine z_iconst hC (1 : Int32) (by decide) dX9_chosen_11 ?_
    refine z_goto hC 16 (by decide) dX9_chosen_12 ?_
    refine z_sub [(0, .ref (zAd T (61))), (2, .int a2), (3, .int a3)] [0, 2, 3] rfl ?_
    exact (wX9_chosen_16 hC hN hQ ) _ _ _ _ h
set_option maxRecDepth 100000 in
theorem ctX9_chosen {l : Launch} {G : zGt} {mk : zSt → zSt} (hm : zM mk 61 85) {a1 : Int32} {a2 : Int32} {a3 : Int32} {σ : zSt} {σ' : zSt} (h : fX9_chosen a1 a2 a3 σ = some σ') : zMet l G mk yX9_chosen cX9_chosen 8 none 1 24 [.ref (gA G (61)), .int a1, .int a2, .int a3] σ (none) σ' := by
  unfold fX9_chosen at h

  refine zMet.of (plainFor_of_name (by decide +kernel)) hm (Nat.le_of_ble_eq_true rfl) (fun T eL eG eM hN hC hQ => ?_)
  subst eL; subst eG; subst eM
  refine z_sub [(0, .ref (zAd T (61))), (1, .int a1), (2, .int a2), (3, .int a3)] [0, 1, 2, 3] rfl ?_
  exact wX9_chosen_0 hC hN hQ _ _ _  _ h
noncomputable def fX9_thenTimes_0 (a1 : Int64) (a3 : Int64) (σ : zSt) : Option zSt := 
    (if (gi σ 61 21) = 0 then bd1 (fX9_times (gl σ 61 19) (gl σ 61 20) a1 a3 σ) fun s18_2 => some s18_2
    else some σ)
noncomputable def fX9_thenTimes (a1 : Int64) (a3 : Int64) (σ : zSt) : Option zSt := fX9_thenTimes_0 a1 a3 σ
set_option maxRecDepth 100000 in
set_option maxHeartbeats 4000000 in
theorem wX9_thenTimes_0 {T : zX} (hC : zOk T cX9_thenTimes RX9 2 57 61 85) (hN : zNL T = 5) {σ' : zSt} (hQ : zRes T none (none) σ') (a1 : Int64) (a3 : Int64)  (σ : zSt) (h : fX9_thenTimes_0 a1 a3 σ = some σ') : Z T σ 0 [(0, .ref (zAd T (61))), (1, .long a1), (3, .long a3)] [] := by
  unfold fX9_thenTimes_0 at h
  refine z_aload_n hC 0 rfl rfl dX9_thenTimes_0 ?_
  refine gX9_21 hC kf_X9_233 (gi σ 61 21) rfl dX9_thenTimes_1 ?_
  refine z_if_ne hC 21 (by decide) dX9_thenTimes_4 (fun q4_1 => ?_) (fun q4_1 => ?_)
  · replace h := z_f q4_1 h
    obtain rfl := z_so h
    exact z_vret hC hQ dX9_thenTimes_21
  · replace h := z_t q4_1 h
    refine z_aload_n hC 0 rfl rfl dX9_thenTimes_7 ?_
    refine z_aload_n hC 0 rfl rfl dX9_thenTimes_8 ?_
    refine gX9_19 hC kf_X9_222 (gl σ 61 19) rfl dX9_thenTimes_9 ?_
    refine z_aload_n hC 0 rfl rfl dX9_thenTimes_12 ?_
    refine gX9_20 hC kf_X9_226 (gl σ 61 20) rfl dX9_thenTimes_13 ?_
    refine z_lload_n hC 1 rfl rfl dX9_thenTimes_16 ?_
    refine z_lload_n hC 2 rfl rfl dX9_thenTimes_17 ?_
    refine z_b1 h (fun s18_2 e_s18_2 h => ?_)
    refine z_cV4v hC (ctX9_times hC.hm e_s18_2) (rcX9 hC) kb_X9_times km_X9_315 ⟨by decide, by decide⟩ (Nat.le_of_ble_eq_true rfl) dX9_thenTimes_18 ?_
    obtain rfl := z_so h
    exact z_vret hC hQ dX9_thenTimes_21
set_option maxRecDepth 100000 in
theorem ctX9_thenTimes {l : Launch} {G : zGt} {mk : zSt → zSt} (hm : zM mk 61 85) {a1 : Int64} {a3 : Int64} {σ : zSt} {σ' : zSt} (h : fX9_thenTimes a1 a3 σ = some σ') : zMet l G mk yX9_thenTimes cX9_thenTimes 5 none 2 57 [.ref (gA G (61)), .long a1, .long a3] σ (none) σ' := by
  unfold fX9_thenTimes at h

  refine zMet.of (plainFor_of_name (by decide +kernel)) hm (Nat.le_of_ble_eq_true rfl) (fun T eL eG eM hN hC hQ => ?_)
  subst eL; subst eG; subst eM
  refine z_sub [(0, .ref (zAd T (61))), (1, .long a1), (3, .long a3)] [0, 1, 2] rfl ?_
  exact wX9_thenTimes_0 hC hN hQ _ _  _ h
noncomputable def fX9_products_0 (a1 : Int32) (a2 : Int32) (a3 : Int32) (σ : zSt) : Option zSt := zg (vp_in a2 480) <| zg (vp_in a2 480) <| zg (vp_in a3 480) <| zg (vp_in a3 480) <| bd1 (fX9_times (gl σ 74 a2.toNatClampNeg) (gl σ 75 a2.toNatClampNeg) (gl σ 72 a3.toNatClampNeg) (gl σ 73 a3.toNatClampNeg) σ) fun s25_5 => nm (gl s25_5 61 19) fun x32_6 => nm (gl s25_5 61 20) fun x38_7 => nm (gi s25_5 61 21) fun x44_8 => zg (vp_in a2 480) <| zg (vp_in a2 480) <| zg (vp_in a3 480) <| zg (vp_in a3 480) <| bd1 (fX9_times (gl s25_5 72 a2.toNatClampNeg) (gl s25_5 73 a2.toNatClampNeg) (gl s25_5 74 a3.toNatClampNeg) (gl s25_5 75 a3.toNatClampNeg) s25_5) fun s71_13 => 
    (if x44_8 = 0 then 
      (if (gi s71_13 61 21) = 0 then zg (vp_in a1 480) <| 
        (if (gi s71_13 64 a1.toNatClampNeg) = (7 : Int32) then bd1 (fX9_is (x32_6 + (gl s71_13 61 19)) (x38_7 + (gl s71_13 61 20)) s71_13) fun s117_28 => some s117_28
        else bd1 (fX9_is (x32_6 - (gl s71_13 61 20)) (x38_7 - (gl s71_13 61 19)) s71_13) fun s136_19 => nm (gl s136_19 61 19) fun x143_20 => nm (gl s136_19 61 20) fun x149_21 => 
          (if (gi s136_19 61 21) = 0 then zg (vp_in a3 480) <| zg (vp_in a3 480) <| bd1 (fX9_power_ (gl s136_19 72 a3.toNatClampNeg) (gl s136_19 73 a3.toNatClampNeg) (2 : Int32) s136_19) fun s173_25 => 
            (if (gi s173_25 61 21) = 0 then bd1 (fX9_by x143_20 x149_21 (gl s173_25 61 19) (gl s173_25 61 20) s173_25) fun s196_27 => some s196_27
            else some s173_25)
          else some s136_19))
      else bd1 (fX9_isHole s71_13) fun s87_29 => some s87_29)
    else bd1 (fX9_isHole s71_13) fun s87_15 => some s87_15)
noncomputable def fX9_products (a1 : Int32) (a2 : Int32) (a3 : Int32) (σ : zSt) : Option zSt := fX9_products_0 a1 a2 a3 σ
set_option maxRecDepth 100000 in
set_option maxHeartbeats 4000000 in
theorem wX9_products_0 {T : zX} (hC : zOk T cX9_products RX9 3 85 61 85) (hN : zNL T = 9) {σ' : zSt} (hQ : zRes T none (none) σ') (a1 : Int32) (a2 : Int32) (a3 : Int32)  (σ : zSt) (h : fX9_products_0 a1 a2 a3 σ = some σ') : Z T σ 0 [(0, .ref (zAd T (61))), (1, .int a1), (2, .int a2), (3, .int a3)] [] := by
  unfold fX9_products_0 at h
  refine z_aload_n hC 0 rfl rfl dX9_products_0 ?_
  refine z_aload_n hC 0 rfl rfl dX9_products_1 ?_
  refine gX9_25 hC kf_X9_48 dX9_products_2 ?_
  refine z_iload_n hC 2 rfl rfl dX9_products_5 ?_
  refine z_g h (fun g6_1 h => ?_)
  refine z_lald hC 74 ⟨by decide, by decide⟩ (zS_74 _ _ _) g6_1 (gl σ 74 a2.toNatClampNeg) rfl dX9_products_6 ?_
  refine z_aload_n hC 0 rfl rfl dX9_products_7 ?_
  refine gX9_26 hC kf_X9_51 dX9_products_8 ?_
  refine z_iload_n hC 2 rfl rfl dX9_products_11 ?_
  refine z_g h (fun g12_2 h => ?_)
  refine z_lald hC 75 ⟨by decide, by decide⟩ (zS_75 _ _ _) g12_2 (gl σ 75 a2.toNatClampNeg) rfl dX9_products_12 ?_
  refine z_aload_n hC 0 rfl rfl dX9_products_13 ?_
  refine gX9_23 hC kf_X9_42 dX9_products_14 ?_
  refine z_iload_n hC 3 rfl rfl dX9_products_17 ?_
  refine z_g h (fun g18_3 h => ?_)
  refine z_lald hC 72 ⟨by decide, by decide⟩ (zS_72 _ _ _) g18_3 (gl σ 72 a3.toNatClampNeg) rfl dX9_products_18 ?_
  refine z_aload_n hC 0 rfl rfl dX9_products_19 ?_
  refine gX9_24 hC kf_X9_45 dX9_products_20 ?_
  refine z_iload_n hC 3 rfl rfl dX9_products_23 ?_
  refine z_g h (fun g24_4 h => ?_)
  refine z_lald hC 73 ⟨by decide, by decide⟩ (zS_73 _ _ _) g24_4 (gl σ 73 a3.toNatClampNeg) rfl dX9_products_24 ?_
  refine z_b1 h (fun s25_5 e_s25_5 h => ?_)
  refine z_cV4v hC (ctX9_times hC.hm e_s25_5) (rcX9 hC) kb_X9_times km_X9_315 ⟨by decide, by decide⟩ (Nat.le_of_ble_eq_true rfl) dX9_products_25 ?_
  refine z_aload_n hC 0 rfl rfl dX9_products_28 ?_
  refine gX9_19 hC kf_X9_222 (gl s25_5 61 19) rfl dX9_products_29 ?_
  refine z_nmL h (fun x32_6 h => ?_)
  refine z_lstore hC [(4, .long x32_6), (0, .ref (zAd T (61))), (1, .int a1), (2, .int a2), (3, .int a3)] (by rw [hN]; decide) rfl dX9_products_32 ?_
  refine z_aload_n hC 1 rfl rfl dX9_products_34 ?_
  refine gX9_20 hC kf_X9_226 (gl s25_5 61 20) rfl dX9_products_35 ?_
  refine z_nmL h (fun x38_7 h => ?_)
  refine z_lstore hC [(6, .long x38_7), (4, .long x32_6), (0, .ref (zAd T (61))), (1, .int a1), (2, .int a2), (3, .int a3)] (by rw [hN]; decide) rfl dX9_products_38 ?_
  refine z_aload_n hC 2 rfl rfl dX9_products_40 ?_
  refine gX9_21 hC kf_X9_233 (gi s25_5 61 21) rfl dX9_products_41 ?_
  refine z_nmI h (fun x44_8 h => ?_)
  refine z_istore hC [(8, .int x44_8), (6, .long x38_7), (4, .long x32_6), (0, .ref (zAd T (61))), (1, .int a1), (2, .int a2), (3, .int a3)] (by rw [hN]; decide) rfl dX9_products_44 ?_
  refine z_aload_n hC 3 rfl rfl dX9_products_46 ?_
  refine z_aload_n hC 3 rfl rfl dX9_products_47 ?_
  refine gX9_23 hC kf_X9_42 dX9_products_48 ?_
  refine z_iload_n hC 5 rfl rfl dX9_products_51 ?_
  refine z_g h (fun g52_9 h => ?_)
  refine z_lald hC 72 ⟨by decide, by decide⟩ (zS_72 _ _ _) g52_9 (gl s25_5 72 a2.toNatClampNeg) rfl dX9_products_52 ?_
  refine z_aload_n hC 3 rfl rfl dX9_products_53 ?_
  refine gX9_24 hC kf_X9_45 dX9_products_54 ?_
  refine z_iload_n hC 5 rfl rfl dX9_products_57 ?_
  refine z_g h (fun g58_10 h => ?_)
  refine z_lald hC 73 ⟨by decide, by decide⟩ (zS_73 _ _ _) g58_10 (gl s25_5 73 a2.toNatClampNeg) rfl dX9_products_58 ?_
  refine z_aload_n hC 3 rfl rfl dX9_products_59 ?_
  refine gX9_25 hC kf_X9_48 dX9_products_60 ?_
  refine z_iload_n hC 6 rfl rfl dX9_products_63 ?_
  refine z_g h (fun g64_11 h => ?_)
  refine z_lald hC 74 ⟨by decide, by decide⟩ (zS_74 _ _ _) g64_11 (gl s25_5 74 a3.toNatClampNeg) rfl dX9_products_64 ?_
  refine z_aload_n hC 3 rfl rfl dX9_products_65 ?_
  refine gX9_26 hC kf_X9_51 dX9_products_66 ?_
  refine z_iload_n hC 6 rfl rfl dX9_products_69 ?_
  refine z_g h (fun g70_12 h => ?_)
  refine z_lald hC 75 ⟨by decide, by decide⟩ (zS_75 _ _ _) g70_12 (gl s25_5 75 a3.toNatClampNeg) rfl dX9_products_70 ?_
  refine z_b1 h (fun s71_13 e_s71_13 h => ?_)
  refine z_cV4v hC (ctX9_times hC.hm e_s71_13) (rcX9 hC) kb_X9_times km_X9_315 ⟨by decide, by decide⟩ (Nat.le_of_ble_eq_true rfl) dX9_products_71 ?_
  refine z_iload hC 0 rfl dX9_products_74 ?_
  refine z_if_ne hC 86 (by decide) dX9_products_76 (fun q76_14 => ?_) (fun q76_14 => ?_)
  · replace h := z_f q76_14 h
    refine z_aload_n hC 3 rfl rfl dX9_products_86 ?_
    refine z_b1 h (fun s87_15 e_s87_15 h => ?_)
    refine z_cV0v hC (ctX9_isHole hC.hm e_s87_15) (rcX9 hC) kb_X9_isHole km_X9_247 ⟨by decide, by decide⟩ (Nat.le_of_ble_eq_true rfl) dX9_products_87 ?_
    obtain rfl := z_so h
    exact z_vret hC hQ dX9_products_90
  · replace h := z_t q76_14 h
    refine z_aload_n hC 3 rfl rfl dX9_products_79 ?_
    refine gX9_21 hC kf_X9_233 (gi s71_13 61 21) rfl dX9_products_80 ?_
    refine z_if_eq hC 91 (by decide) dX9_products_83 (fun q83_16 => ?_) (fun q83_16 => ?_)
    · replace h := z_t q83_16 h
      refine z_aload_n hC 3 rfl rfl dX9_products_91 ?_
      refine gX9_5 hC kf_X9_17 dX9_products_92 ?_
      refine z_iload_n hC 4 rfl rfl dX9_products_95 ?_
      refine z_g h (fun g96_17 h => ?_)
      refine z_iald hC 64 ⟨by decide, by decide⟩ (zS_64 _ _ _) g96_17 (gi s71_13 64 a1.toNatClampNeg) rfl dX9_products_96 ?_
      refine z_bipush hC (7 : Int32) (by decide) dX9_products_97 ?_
      refine z_icmp_ne hC 121 (by decide) dX9_products_99 (fun q99_18 => ?_) (fun q99_18 => ?_)
      · replace h := z_f q99_18 h
        refine z_aload_n hC 3 rfl rfl dX9_products_121 ?_
        refine z_lload hC 2 rfl dX9_products_122 ?_
        refine z_aload_n hC 3 rfl rfl dX9_products_124 ?_
        refine gX9_20 hC kf_X9_226 (gl s71_13 61 20) rfl dX9_products_125 ?_
        refine z_lsub hC dX9_products_128 ?_
        refine z_lload hC 1 rfl dX9_products_129 ?_
        refine z_aload_n hC 3 rfl rfl dX9_products_131 ?_
        refine gX9_19 hC kf_X9_222 (gl s71_13 61 19) rfl dX9_products_132 ?_
        refine z_lsub hC dX9_products_135 ?_
        refine z_b1 h (fun s136_19 e_s136_19 h => ?_)
        refine z_cV2v hC (ctX9_is hC.hm e_s136_19) (rcX9 hC) kb_X9_is km_X9_243 ⟨by decide, by decide⟩ (Nat.le_of_ble_eq_true rfl) dX9_products_136 ?_
        refine z_aload_n hC 3 rfl rfl dX9_products_139 ?_
        refine gX9_19 hC kf_X9_222 (gl s136_19 61 19) rfl dX9_products_140 ?_
        refine z_nmL h (fun x143_20 h => ?_)
        refine z_lstore hC [(4, .long x143_20), (8, .int x44_8), (6, .long x38_7), (0, .ref (zAd T (61))), (1, .int a1), (2, .int a2), (3, .int a3)] (by rw [hN]; decide) rfl dX9_products_143 ?_
        refine z_aload_n hC 3 rfl rfl dX9_products_145 ?_
        refine gX9_20 hC kf_X9_226 (gl s136_19 61 20) rfl dX9_products_146 ?_
        refine z_nmL h (fun x149_21 h => ?_)
        refine z_lstore hC [(6, .long x149_21), (4, .long x143_20), (8, .int x44_8), (0, .ref (zAd T (61))), (1, .int a1), (2, .int a2), (3, .int a3)] (by rw [hN]; decide) rfl dX9_products_149 ?_
        refine z_aload_n hC 3 rfl rfl dX9_products_151 ?_
        refine gX9_21 hC kf_X9_233 (gi s136_19 61 21) rfl dX9_products_152 ?_
        refine z_if_eq hC 159 (by decide) dX9_products_155 (fun q155_22 => ?_) (fun q155_22 => ?_)
        · replace h := z_t q155_22 h
          refine z_aload_n hC 3 rfl rfl dX9_products_159 ?_
          refine z_aload_n hC 3 rfl rfl dX9_products_160 ?_
          refine gX9_23 hC kf_X9_42 dX9_products_161 ?_
          refine z_iload_n hC 6 rfl rfl dX9_products_164 ?_
          refine z_g h (fun g165_23 h => ?_)
          refine z_lald hC 72 ⟨by decide, by decide⟩ (zS_72 _ _ _) g165_23 (gl s136_19 72 a3.toNatClampNeg) rfl dX9_products_165 ?_
          refine z_aload_n hC 3 rfl rfl dX9_products_166 ?_
          refine gX9_24 hC kf_X9_45 dX9_products_167 ?_
          refine z_iload_n hC 6 rfl rfl dX9_products_170 ?_
          refine z_g h (fun g171_24 h => ?_)
          refine z_lald hC 73 ⟨by decide, by decide⟩ (zS_73 _ _ _) g171_24 (gl s136_19 73 a3.toNatClampNeg) rfl dX9_products_171 ?_
          refine z_iconst hC (2 : Int32) (by decide) dX9_products_172 ?_
          refine z_b1 h (fun s173_25 e_s173_25 h => ?_)
          refine z_cV3v hC (ctX9_power_ hC.hm e_s173_25) (rcX9 hC) kb_X9_power_ km_X9_312 ⟨by decide, by decide⟩ (Nat.le_of_ble_eq_true rfl) dX9_products_173 ?_
          refine z_aload_n hC 3 rfl rfl dX9_products_176 ?_
          refine gX9_21 hC kf_X9_233 (gi s173_25 61 21) rfl dX9_products_177 ?_
          refine z_if_ne hC 199 (by decide) dX9_products_180 (fun q180_26 => ?_) (fun q180_26 => ?_)
          · replace h := z_f q180_26 h
            obtain rfl := z_so h
            exact z_vret hC hQ dX9_products_199
          · replace h := z_t q180_26 h
            refine z_aload_n hC 3 rfl rfl dX9_products_183 ?_
            refine z_lload hC 1 rfl dX9_products_184 ?_
            refine z_lload hC 0 rfl dX9_products_186 ?_
            refine z_aload_n hC 3 rfl rfl dX9_products_188 ?_
            refine gX9_19 hC kf_X9_222 (gl s173_25 61 19) rfl dX9_products_189 ?_
            refine z_aload_n hC 3 rfl rfl dX9_products_192 ?_
            refine gX9_20 hC kf_X9_226 (gl s173_25 61 20) rfl dX9_products_193 ?_
            refine z_b1 h (fun s196_27 e_s196_27 h => ?_)
            refine z_cV4v hC (ctX9_by hC.hm e_s196_27) (rcX9 hC) kb_X9_by km_X9_319 ⟨by decide, by decide⟩ (Nat.le_of_ble_eq_true rfl) dX9_products_196 ?_
            obtain rfl := z_so h
            exact z_vret hC hQ dX9_products_199
        · replace h := z_f q155_22 h
          obtain rfl := z_so h
          exact z_vret hC hQ dX9_products_158
      · replace h := z_t q99_18 h
        refine z_aload_n hC 3 rfl rfl dX9_products_102 ?_
        refine z_lload hC 2 rfl dX9_products_103 ?_
        refine z_aload_n hC 3 rfl rfl dX9_products_105 ?_
        refine gX9_19 hC kf_X9_222 (gl s71_13 61 19) rfl dX9_products_106 ?_
        refine z_ladd hC dX9_products_109 ?_
        refine z_lload hC 1 rfl dX9_products_110 ?_
        refine z_aload_n hC 3 rfl rfl dX9_products_112 ?_
        refine gX9_20 hC kf_X9_226 (gl s71_13 61 20) rfl dX9_products_113 ?_
        refine z_ladd hC dX9_products_116 ?_
        refine z_b1 h (fun s117_28 e_s117_28 h => ?_)
        refine z_cV2v hC (ctX9_is hC.hm e_s117_28) (rcX9 hC) kb_X9_is km_X9_243 ⟨by decide, by decide⟩ (Nat.le_of_ble_eq_true rfl) dX9_products_117 ?_
        obtain rfl := z_so h
        exact z_vret hC hQ dX9_products_120
    · replace h := z_f q83_16 h
      refine z_aload_n hC 3 rfl rfl dX9_products_86 ?_
      refine z_b1 h (fun s87_29 e_s87_29 h => ?_)
      refine z_cV0v hC (ctX9_isHole hC.hm e_s87_29) (rcX9 hC) kb_X9_isHole km_X9_247 ⟨by decide, by decide⟩ (Nat.le_of_ble_eq_true rfl) dX9_products_87 ?_
      obtain rfl := z_so h
      exact z_vret hC hQ dX9_products_90
set_option maxRecDepth 100000 in
theorem ctX9_products {l : Launch} {G : zGt} {mk : zSt → zSt} (hm : zM mk 61 85) {a1 : Int32} {a2 : Int32} {a3 : Int32} {σ : zSt} {σ' : zSt} (h : fX9_products a1 a2 a3 σ = some σ') : zMet l G mk yX9_products cX9_products 9 none 3 85 [.ref (gA G (61)), .int a1, .int a2, .int a3] σ (none) σ' := by
  unfold fX9_products at h

  refine zMet.of (plainFor_of_name (by decide +kernel)) hm (Nat.le_of_ble_eq_true rfl) (fun T eL eG eM hN hC hQ => ?_)
  subst eL; subst eG; subst eM
  refine z_sub [(0, .ref (zAd T (61))), (1, .int a1), (2, .int a2), (3, .int a3)] [0, 1, 2, 3] rfl ?_
  exact wX9_products_0 hC hN hQ _ _ _  _ h
noncomputable def fX9_sizes_0 (a1 : Int64) (a3 : Int64) (a5 : Int64) (a7 : Int64) (σ : zSt) : Option zSt := 
    (if a5 < (0 : Int64) then bd1 (fX9_is (-a3) (-a1) σ) fun s21_2 => 
      (if (gi s21_2 61 21) = 0 then 
        (if a7 ≤ (0 : Int64) then some s21_2
        else bd1 (fX9_is (fX9_less a1 (-a3)) (fX9_more a3 (-a1)) s21_2) fun s51_5 => some s51_5)
      else some s21_2)
    else bd1 (fX9_is a1 a3 σ) fun s10_6 => some s10_6)
noncomputable def fX9_sizes (a1 : Int64) (a3 : Int64) (a5 : Int64) (a7 : Int64) (σ : zSt) : Option zSt := fX9_sizes_0 a1 a3 a5 a7 σ
set_option maxRecDepth 100000 in
set_option maxHeartbeats 4000000 in
theorem wX9_sizes_0 {T : zX} (hC : zOk T cX9_sizes RX9 1 24 61 85) (hN : zNL T = 9) {σ' : zSt} (hQ : zRes T none (none) σ') (a1 : Int64) (a3 : Int64) (a5 : Int64) (a7 : Int64)  (σ : zSt) (h : fX9_sizes_0 a1 a3 a5 a7 σ = some σ') : Z T σ 0 [(0, .ref (zAd T (61))), (1, .long a1), (3, .long a3), (5, .long a5), (7, .long a7)] [] := by
  unfold fX9_sizes_0 at h
  refine z_lload hC 3 rfl dX9_sizes_0 ?_
  refine z_lconst hC (0 : Int64) (by decide) dX9_sizes_2 ?_
  refine z_cmp_lt hC 16 (by decide) dX9_sizes_3 dX9_sizes_4 (fun q3_1 => ?_) (fun q3_1 => ?_)
  · replace h := z_t q3_1 h
    refine z_aload_n hC 0 rfl rfl dX9_sizes_16 ?_
    refine z_lload_n hC 2 rfl rfl dX9_sizes_17 ?_
    refine z_lneg hC dX9_sizes_18 ?_
    refine z_lload_n hC 1 rfl rfl dX9_sizes_19 ?_
    refine z_lneg hC dX9_sizes_20 ?_
    refine z_b1 h (fun s21_2 e_s21_2 h => ?_)
    refine z_cV2v hC (ctX9_is hC.hm e_s21_2) (rcX9 hC) kb_X9_is km_X9_243 ⟨by decide, by decide⟩ (Nat.le_of_ble_eq_true rfl) dX9_sizes_21 ?_
    refine z_aload_n hC 0 rfl rfl dX9_sizes_24 ?_
    refine gX9_21 hC kf_X9_233 (gi s21_2 61 21) rfl dX9_sizes_25 ?_
    refine z_if_ne hC 54 (by decide) dX9_sizes_28 (fun q28_3 => ?_) (fun q28_3 => ?_)
    · replace h := z_f q28_3 h
      obtain rfl := z_so h
      exact z_vret hC hQ dX9_sizes_54
    · replace h := z_t q28_3 h
      refine z_lload hC 4 rfl dX9_sizes_31 ?_
      refine z_lconst hC (0 : Int64) (by decide) dX9_sizes_33 ?_
      refine z_cmp_le hC 54 (by decide) dX9_sizes_34 dX9_sizes_35 (fun q34_4 => ?_) (fun q34_4 => ?_)
      · replace h := z_t q34_4 h
        obtain rfl := z_so h
        exact z_vret hC hQ dX9_sizes_54
      · replace h := z_f q34_4 h
        refine z_aload_n hC 0 rfl rfl dX9_sizes_38 ?_
        refine z_lload_n hC 1 rfl rfl dX9_sizes_39 ?_
        refine z_lload_n hC 2 rfl rfl dX9_sizes_40 ?_
        refine z_lneg hC dX9_sizes_41 ?_
        refine z_cS2r hC (ctX9_less hC.hm) kb_X9_less km_X9_237 ⟨by decide, by decide⟩ (Nat.le_of_ble_eq_true rfl) dX9_sizes_42 ?_
        refine z_lload_n hC 2 rfl rfl dX9_sizes_45 ?_
        refine z_lload_n hC 1 rfl rfl dX9_sizes_46 ?_
        refine z_lneg hC dX9_sizes_47 ?_
        refine z_cS2r hC (ctX9_more hC.hm) kb_X9_more km_X9_240 ⟨by decide, by decide⟩ (Nat.le_of_ble_eq_true rfl) dX9_sizes_48 ?_
        refine z_b1 h (fun s51_5 e_s51_5 h => ?_)
        refine z_cV2v hC (ctX9_is hC.hm e_s51_5) (rcX9 hC) kb_X9_is km_X9_243 ⟨by decide, by decide⟩ (Nat.le_of_ble_eq_true rfl) dX9_sizes_51 ?_
        obtain rfl := z_so h
        exact z_vret hC hQ dX9_sizes_54
  · replace h := z_f q3_1 h
    refine z_aload_n hC 0 rfl rfl dX9_sizes_7 ?_
    refine z_lload_n hC 1 rfl rfl dX9_sizes_8 ?_
    refine z_lload_n hC 2 rfl rfl dX9_sizes_9 ?_
    refine z_b1 h (fun s10_6 e_s10_6 h => ?_)
    refine z_cV2v hC (ctX9_is hC.hm e_s10_6) (rcX9 hC) kb_X9_is km_X9_243 ⟨by decide, by decide⟩ (Nat.le_of_ble_eq_true rfl) dX9_sizes_10 ?_
    refine z_goto hC 54 (by decide) dX9_sizes_13 ?_
    obtain rfl := z_so h
    exact z_vret hC hQ dX9_sizes_54
set_option maxRecDepth 100000 in
theorem ctX9_sizes {l : Launch} {G : zGt} {mk : zSt → zSt} (hm : zM mk 61 85) {a1 : Int64} {a3 : Int64} {a5 : Int64} {a7 : Int64} {σ : zSt} {σ' : zSt} (h : fX9_sizes a1 a3 a5 a7 σ = some σ') : zMet l G mk yX9_sizes cX9_sizes 9 none 1 24 [.ref (gA G (61)), .long a1, .long a3, .long a5, .long a7] σ (none) σ' := by
  unfold fX9_sizes at h

  refine zMet.of (plainFor_of_name (by decide +kernel)) hm (Nat.le_of_ble_eq_true rfl) (fun T eL eG eM hN hC hQ => ?_)
  subst eL; subst eG; subst eM
  refine z_sub [(0, .ref (zAd T (61))), (1, .long a1), (3, .long a3), (5, .long a5), (7, .long a7)] [0, 1, 2, 3, 4] rfl ?_
  exact wX9_sizes_0 hC hN hQ _ _ _ _  _ h
noncomputable def fX9_slope_160 (v1 : Int32) (v2 : Int32) (v3 : Int32) (σ : zSt) : Option zSt := zg (vp_in v2 480) <| nm (gl σ 74 v2.toNatClampNeg) fun x166_2 => zg (vp_in v2 480) <| nm (gl σ 75 v2.toNatClampNeg) fun x174_4 => zg (vp_in v2 480) <| nm (gl σ 72 v2.toNatClampNeg) fun x182_6 => zg (vp_in v2 480) <| nm (gl σ 73 v2.toNatClampNeg) fun x190_8 => zg (vp_in v1 480) <| nm (gi σ 64 v1.toNatClampNeg) fun x198_10 => 
    (
    if x198_10 = 2 then bd1 (fX9_is x166_2 x174_4 σ) fun s265_12 => some s265_12 else 
    if x198_10 = 3 then bd1 (fX9_is (-x174_4) (-x166_2) σ) fun s278_14 => some s278_14 else 
    if x198_10 = 4 then 
          (if v3 = (1 : Int32) then bd1 (fX9_is x166_2 x174_4 σ) fun s354_20 => some s354_20
          else bd1 (fX9_power_ x182_6 x190_8 (v3 - (1 : Int32)) σ) fun s368_17 => bd1 (fX9_thenTimes ((Int32.toInt64 v3) * (1048576 : Int64)) ((Int32.toInt64 v3) * (1048576 : Int64)) s368_17) fun s384_18 => bd1 (fX9_thenTimes x166_2 x174_4 s384_18) fun s392_19 => some s392_19) else 
    if x198_10 = 5 then zg (vp_in v3 480) <| zg (vp_in v3 480) <| bd1 (fX9_is (x166_2 + (gl σ 74 v3.toNatClampNeg)) (x174_4 + (gl σ 75 v3.toNatClampNeg)) σ) fun s303_24 => some s303_24 else 
    if x198_10 = 6 then zg (vp_in v3 480) <| zg (vp_in v3 480) <| bd1 (fX9_is (x166_2 - (gl σ 75 v3.toNatClampNeg)) (x174_4 - (gl σ 74 v3.toNatClampNeg)) σ) fun s328_28 => some s328_28 else 
    if x198_10 = 7 then bd1 (fX9_products v1 v2 v3 σ) fun s338_30 => some s338_30 else 
    if x198_10 = 8 then bd1 (fX9_products v1 v2 v3 σ) fun s338_32 => some s338_32 else 
    if x198_10 = 9 then zg (vp_in v1 480) <| zg (vp_in v1 480) <| bd1 (fX9_times (2097152 : Int64) (2097152 : Int64) (gl σ 72 v1.toNatClampNeg) (gl σ 73 v1.toNatClampNeg) σ) fun s417_36 => 
                    (if (gi s417_36 61 21) = 0 then bd1 (fX9_by x166_2 x174_4 (gl s417_36 61 19) (gl s417_36 61 20) s417_36) fun s440_38 => some s440_38
                    else some s417_36) else 
    if x198_10 = 10 then zg (vp_in v1 480) <| zg (vp_in v1 480) <| bd1 (fX9_times (gl σ 72 v1.toNatClampNeg) (gl σ 73 v1.toNatClampNeg) x166_2 x174_4 σ) fun s463_42 => some s463_42 else 
    if x198_10 = 11 then bd1 (fX9_by x166_2 x174_4 x182_6 x190_8 σ) fun s478_44 => some s478_44 else 
    if x198_10 = 12 then bd1 (fX9_wave x182_6 x190_8 (0 : Int32) σ) fun s490_46 => bd1 (fX9_thenTimes x166_2 x174_4 s490_46) fun s498_47 => some s498_47 else 
    if x198_10 = 13 then bd1 (fX9_wave x182_6 x190_8 (1 : Int32) σ) fun s510_49 => bd1 (fX9_thenTimes x166_2 x174_4 s510_49) fun s518_50 => 
                            (if (gi s518_50 61 21) = 0 then bd1 (fX9_is (-(gl s518_50 61 20)) (-(gl s518_50 61 19)) s518_50) fun s539_52 => some s539_52
                            else some s518_50) else bd1 (fX9_sizes x166_2 x174_4 x182_6 x190_8 σ) fun s554_53 => some s554_53)
noncomputable def fX9_slope_111 (v1 : Int32) (v2 : Int32) (v3 : Int32) (t0 : Int32) (σ : zSt) : Option zSt := zg (vp_in v1 480) <| 
    (if (gi σ 64 v1.toNatClampNeg) < (15 : Int32) then zg (vp_in v2 480) <| 
      (if (gi σ 77 v2.toNatClampNeg) = 0 then 
        (if t0 = 0 then fX9_slope_160 v1 v2 v3 σ
        else zg (vp_in v3 480) <| 
          (if (gi σ 77 v3.toNatClampNeg) = 0 then fX9_slope_160 v1 v2 v3 σ
          else bd1 (fX9_isHole σ) fun s156_9 => some s156_9))
      else bd1 (fX9_isHole σ) fun s156_5 => some s156_5)
    else bd1 (fX9_chosen v1 v2 v3 σ) fun s128_10 => some s128_10)
noncomputable def fX9_slope_29 (v1 : Int32) (t0 : Int32) (σ : zSt) : Option zSt := zg (vp_in v1 480) <| nm (gi σ 66 v1.toNatClampNeg) fun x36_2 => zg (vp_in v1 480) <| 
    (if (gi σ 64 v1.toNatClampNeg) = 0 then bd1 (fX9_is (1048576 : Int64) (1048576 : Int64) σ) fun s53_16 => some s53_16
    else zg (vp_in v1 480) <| 
      (if (gi σ 64 v1.toNatClampNeg) = (1 : Int32) then bd1 (fX9_is (0 : Int64) (0 : Int64) σ) fun s70_15 => some s70_15
      else zg (vp_in v1 480) <| 
        (if (gi σ 64 v1.toNatClampNeg) < (5 : Int32) then zg (vp_in v1 480) <| 
          (if (gi σ 64 v1.toNatClampNeg) < (15 : Int32) then fX9_slope_111 v1 t0 x36_2 (0 : Int32) σ
          else fX9_slope_111 v1 t0 x36_2 (1 : Int32) σ)
        else zg (vp_in v1 480) <| 
          (if (gi σ 64 v1.toNatClampNeg) ≤ (8 : Int32) then fX9_slope_111 v1 t0 x36_2 (1 : Int32) σ
          else zg (vp_in v1 480) <| 
            (if (gi σ 64 v1.toNatClampNeg) < (15 : Int32) then fX9_slope_111 v1 t0 x36_2 (0 : Int32) σ
            else fX9_slope_111 v1 t0 x36_2 (1 : Int32) σ)))))
noncomputable def fX9_slope_0 (a1 : Int32) (σ : zSt) : Option zSt := zg (vp_in a1 480) <| 
    (if (gi σ 64 a1.toNatClampNeg) = (2 : Int32) then zg (vp_in a1 480) <| bd1 (fX9_lastOf (gi σ 65 a1.toNatClampNeg) σ) fun r17_5 => fX9_slope_29 a1 r17_5 σ
    else zg (vp_in a1 480) <| fX9_slope_29 a1 (gi σ 65 a1.toNatClampNeg) σ)
noncomputable def fX9_slope (a1 : Int32) (σ : zSt) : Option zSt := fX9_slope_0 a1 σ
set_option maxRecDepth 100000 in
set_option maxHeartbeats 4000000 in
theorem wX9_slope_160 {T : zX} (hC : zOk T cX9_slope RX9 4 113 61 85) (hN : zNL T = 13) {σ' : zSt} (hQ : zRes T none (none) σ') (v1 : Int32) (v2 : Int32) (v3 : Int32)  (σ : zSt) (h : fX9_slope_160 v1 v2 v3 σ = some σ') : Z T σ 160 [(0, .ref (zAd T (61))), (1, .int v1), (2, .int v2), (3, .int v3)] [] := by
  unfold fX9_slope_160 at h
  refine z_aload_n hC 0 rfl rfl dX9_slope_160 ?_
  refine gX9_25 hC kf_X9_48 dX9_slope_161 ?_
  refine z_iload_n hC 2 rfl rfl dX9_slope_164 ?_
  refine z_g h (fun g165_1 h => ?_)
  refine z_lald hC 74 ⟨by decide, by decide⟩ (zS_74 _ _ _) g165_1 (gl σ 74 v2.toNatClampNeg) rfl dX9_slope_165 ?_
  refine z_nmL h (fun x166_2 h => ?_)
  refine z_lstore hC [(5, .long x166_2), (0, .ref (zAd T (61))), (1, .int v1), (2, .int v2), (3, .int v3)] (by rw [hN]; decide) rfl dX9_slope_166 ?_
  refine z_aload_n hC 1 rfl rfl dX9_slope_168 ?_
  refine gX9_26 hC kf_X9_51 dX9_slope_169 ?_
  refine z_iload_n hC 3 rfl rfl dX9_slope_172 ?_
  refine z_g h (fun g173_3 h => ?_)
  refine z_lald hC 75 ⟨by decide, by decide⟩ (zS_75 _ _ _) g173_3 (gl σ 75 v2.toNatClampNeg) rfl dX9_slope_173 ?_
  refine z_nmL h (fun x174_4 h => ?_)
  refine z_lstore hC [(7, .long x174_4), (5, .long x166_2), (0, .ref (zAd T (61))), (1, .int v1), (2, .int v2), (3, .int v3)] (by rw [hN]; decide) rfl dX9_slope_174 ?_
  refine z_aload_n hC 2 rfl rfl dX9_slope_176 ?_
  refine gX9_23 hC kf_X9_42 dX9_slope_177 ?_
  refine z_iload_n hC 4 rfl rfl dX9_slope_180 ?_
  refine z_g h (fun g181_5 h => ?_)
  refine z_lald hC 72 ⟨by decide, by decide⟩ (zS_72 _ _ _) g181_5 (gl σ 72 v2.toNatClampNeg) rfl dX9_slope_181 ?_
  refine z_nmL h (fun x182_6 h => ?_)
  refine z_lstore hC [(9, .long x182_6), (7, .long x174_4), (5, .long x166_2), (0, .ref (zAd T (61))), (1, .int v1), (2, .int v2), (3, .int v3)] (by rw [hN]; decide) rfl dX9_slope_182 ?_
  refine z_aload_n hC 3 rfl rfl dX9_slope_184 ?_
  refine gX9_24 hC kf_X9_45 dX9_slope_185 ?_
  refine z_iload_n hC 5 rfl rfl dX9_slope_188 ?_
  refine z_g h (fun g189_7 h => ?_)
  refine z_lald hC 73 ⟨by decide, by decide⟩ (zS_73 _ _ _) g189_7 (gl σ 73 v2.toNatClampNeg) rfl dX9_slope_189 ?_
  refine z_nmL h (fun x190_8 h => ?_)
  refine z_lstore hC [(11, .long x190_8), (9, .long x182_6), (7, .long x174_4), (5, .long x166_2), (0, .ref (zAd T (61))), (1, .int v1), (2, .int v2), (3, .int v3)] (by rw [hN]; decide) rfl dX9_slope_190 ?_
  refine z_aload_n hC 4 rfl rfl dX9_slope_192 ?_
  refine gX9_5 hC kf_X9_17 dX9_slope_193 ?_
  refine z_iload_n hC 5 rfl rfl dX9_slope_196 ?_
  refine z_g h (fun g197_9 h => ?_)
  refine z_iald hC 64 ⟨by decide, by decide⟩ (zS_64 _ _ _) g197_9 (gi σ 64 v1.toNatClampNeg) rfl dX9_slope_197 ?_
  refine z_nmI h (fun x198_10 h => ?_)
  refine z_ite h (fun q198_11 h => ?_) (fun q198_11 h => ?_)
  · refine z_tabIn hC (62) 260 (by rw [q198_11]; decide) (by rw [q198_11]; decide) (by rw [q198_11]; decide +kernel) (by decide) dX9_slope_198 ?_
    refine z_aload_n hC 4 rfl rfl dX9_slope_260 ?_
    refine z_lload hC 3 rfl dX9_slope_261 ?_
    refine z_lload hC 2 rfl dX9_slope_263 ?_
    refine z_b1 h (fun s265_12 e_s265_12 h => ?_)
    refine z_cV2v hC (ctX9_is hC.hm e_s265_12) (rcX9 hC) kb_X9_is km_X9_243 ⟨by decide, by decide⟩ (Nat.le_of_ble_eq_true rfl) dX9_slope_265 ?_
    refine z_goto hC 557 (by decide) dX9_slope_268 ?_
    obtain rfl := z_so h
    exact z_vret hC hQ dX9_slope_557
  ·
    refine z_ite h (fun q198_13 h => ?_) (fun q198_13 h => ?_)
    · refine z_tabIn hC (73) 271 (by rw [q198_13]; decide) (by rw [q198_13]; decide) (by rw [q198_13]; decide +kernel) (by decide) dX9_slope_198 ?_
      refine z_aload_n hC 4 rfl rfl dX9_slope_271 ?_
      refine z_lload hC 2 rfl dX9_slope_272 ?_
      refine z_lneg hC dX9_slope_274 ?_
      refine z_lload hC 3 rfl dX9_slope_275 ?_
      refine z_lneg hC dX9_slope_277 ?_
      refine z_b1 h (fun s278_14 e_s278_14 h => ?_)
      refine z_cV2v hC (ctX9_is hC.hm e_s278_14) (rcX9 hC) kb_X9_is km_X9_243 ⟨by decide, by decide⟩ (Nat.le_of_ble_eq_true rfl) dX9_slope_278 ?_
      refine z_goto hC 557 (by decide) dX9_slope_281 ?_
      obtain rfl := z_so h
      exact z_vret hC hQ dX9_slope_557
    ·
      refine z_ite h (fun q198_15 h => ?_) (fun q198_15 h => ?_)
      · refine z_tabIn hC (146) 344 (by rw [q198_15]; decide) (by rw [q198_15]; decide) (by rw [q198_15]; decide +kernel) (by decide) dX9_slope_198 ?_
        refine z_iload_n hC 7 rfl rfl dX9_slope_344 ?_
        refine z_iconst hC (1 : Int32) (by decide) dX9_slope_345 ?_
        refine z_icmp_ne hC 360 (by decide) dX9_slope_346 (fun q346_16 => ?_) (fun q346_16 => ?_)
        · replace h := z_f q346_16 h
          refine z_aload_n hC 4 rfl rfl dX9_slope_360 ?_
          refine z_lload hC 1 rfl dX9_slope_361 ?_
          refine z_lload hC 0 rfl dX9_slope_363 ?_
          refine z_iload_n hC 7 rfl rfl dX9_slope_365 ?_
          refine z_iconst hC (1 : Int32) (by decide) dX9_slope_366 ?_
          refine z_isub hC dX9_slope_367 ?_
          refine z_b1 h (fun s368_17 e_s368_17 h => ?_)
          refine z_cV3v hC (ctX9_power_ hC.hm e_s368_17) (rcX9 hC) kb_X9_power_ km_X9_312 ⟨by decide, by decide⟩ (Nat.le_of_ble_eq_true rfl) dX9_slope_368 ?_
          refine z_aload_n hC 4 rfl rfl dX9_slope_371 ?_
          refine z_iload_n hC 7 rfl rfl dX9_slope_372 ?_
          refine z_i2l hC dX9_slope_373 ?_
          refine z_ldc2 hC kc_X9_207 dX9_slope_374 ?_
          refine z_lmul hC dX9_slope_377 ?_
          refine z_iload_n hC 7 rfl rfl dX9_slope_378 ?_
          refine z_i2l hC dX9_slope_379 ?_
          refine z_ldc2 hC kc_X9_207 dX9_slope_380 ?_
          refine z_lmul hC dX9_slope_383 ?_
          refine z_b1 h (fun s384_18 e_s384_18 h => ?_)
          refine z_cV2v hC (ctX9_thenTimes hC.hm e_s384_18) (rcX9 hC) kb_X9_thenTimes km_X9_347 ⟨by decide, by decide⟩ (Nat.le_of_ble_eq_true rfl) dX9_slope_384 ?_
          refine z_aload_n hC 4 rfl rfl dX9_slope_387 ?_
          refine z_lload hC 3 rfl dX9_slope_388 ?_
          refine z_lload hC 2 rfl dX9_slope_390 ?_
          refine z_b1 h (fun s392_19 e_s392_19 h => ?_)
          refine z_cV2v hC (ctX9_thenTimes hC.hm e_s392_19) (rcX9 hC) kb_X9_thenTimes km_X9_347 ⟨by decide, by decide⟩ (Nat.le_of_ble_eq_true rfl) dX9_slope_392 ?_
          refine z_goto hC 557 (by decide) dX9_slope_395 ?_
          obtain rfl := z_so h
          exact z_vret hC hQ dX9_slope_557
        · replace h := z_t q346_16 h
          refine z_aload_n hC 4 rfl rfl dX9_slope_349 ?_
          refine z_lload hC 3 rfl dX9_slope_350 ?_
          refine z_lload hC 2 rfl dX9_slope_352 ?_
          refine z_b1 h (fun s354_20 e_s354_20 h => ?_)
          refine z_cV2v hC (ctX9_is hC.hm e_s354_20) (rcX9 hC) kb_X9_is km_X9_243 ⟨by decide, by decide⟩ (Nat.le_of_ble_eq_true rfl) dX9_slope_354 ?_
          refine z_goto hC 557 (by decide) dX9_slope_357 ?_
          obtain rfl := z_so h
          exact z_vret hC hQ dX9_slope_557
      ·
        refine z_ite h (fun q198_21 h => ?_) (fun q198_21 h => ?_)
        · refine z_tabIn hC (86) 284 (by rw [q198_21]; decide) (by rw [q198_21]; decide) (by rw [q198_21]; decide +kernel) (by decide) dX9_slope_198 ?_
          refine z_aload_n hC 4 rfl rfl dX9_slope_284 ?_
          refine z_lload hC 3 rfl dX9_slope_285 ?_
          refine z_aload_n hC 4 rfl rfl dX9_slope_287 ?_
          refine gX9_25 hC kf_X9_48 dX9_slope_288 ?_
          refine z_iload_n hC 7 rfl rfl dX9_slope_291 ?_
          refine z_g h (fun g292_22 h => ?_)
          refine z_lald hC 74 ⟨by decide, by decide⟩ (zS_74 _ _ _) g292_22 (gl σ 74 v3.toNatClampNeg) rfl dX9_slope_292 ?_
          refine z_ladd hC dX9_slope_293 ?_
          refine z_lload hC 2 rfl dX9_slope_294 ?_
          refine z_aload_n hC 4 rfl rfl dX9_slope_296 ?_
          refine gX9_26 hC kf_X9_51 dX9_slope_297 ?_
          refine z_iload_n hC 7 rfl rfl dX9_slope_300 ?_
          refine z_g h (fun g301_23 h => ?_)
          refine z_lald hC 75 ⟨by decide, by decide⟩ (zS_75 _ _ _) g301_23 (gl σ 75 v3.toNatClampNeg) rfl dX9_slope_301 ?_
          refine z_ladd hC dX9_slope_302 ?_
          refine z_b1 h (fun s303_24 e_s303_24 h => ?_)
          refine z_cV2v hC (ctX9_is hC.hm e_s303_24) (rcX9 hC) kb_X9_is km_X9_243 ⟨by decide, by decide⟩ (Nat.le_of_ble_eq_true rfl) dX9_slope_303 ?_
          refine z_goto hC 557 (by decide) dX9_slope_306 ?_
          obtain rfl := z_so h
          exact z_vret hC hQ dX9_slope_557
        ·
          refine z_ite h (fun q198_25 h => ?_) (fun q198_25 h => ?_)
          · refine z_tabIn hC (111) 309 (by rw [q198_25]; decide) (by rw [q198_25]; decide) (by rw [q198_25]; decide +kernel) (by decide) dX9_slope_198 ?_
            refine z_aload_n hC 4 rfl rfl dX9_slope_309 ?_
            refine z_lload hC 3 rfl dX9_slope_310 ?_
            refine z_aload_n hC 4 rfl rfl dX9_slope_312 ?_
            refine gX9_26 hC kf_X9_51 dX9_slope_313 ?_
            refine z_iload_n hC 7 rfl rfl dX9_slope_316 ?_
            refine z_g h (fun g317_26 h => ?_)
            refine z_lald hC 75 ⟨by decide, by decide⟩ (zS_75 _ _ _) g317_26 (gl σ 75 v3.toNatClampNeg) rfl dX9_slope_317 ?_
            refine z_lsub hC dX9_slope_318 ?_
            refine z_lload hC 2 rfl dX9_slope_319 ?_
            refine z_aload_n hC 4 rfl rfl dX9_slope_321 ?_
            refine gX9_25 hC kf_X9_48 dX9_slope_322 ?_
            refine z_iload_n hC 7 rfl rfl dX9_slope_325 ?_
            refine z_g h (fun g326_27 h => ?_)
            refine z_lald hC 74 ⟨by decide, by decide⟩ (zS_74 _ _ _) g326_27 (gl σ 74 v3.toNatClampNeg) rfl dX9_slope_326 ?_
            refine z_lsub hC dX9_slope_327 ?_
            refine z_b1 h (fun s328_28 e_s328_28 h => ?_)
            refine z_cV2v hC (ctX9_is hC.hm e_s328_28) (rcX9 hC) kb_X9_is km_X9_243 ⟨by decide, by decide⟩ (Nat.le_of_ble_eq_true rfl) dX9_slope_328 ?_
            refine z_goto hC 557 (by decide) dX9_slope_331 ?_
            obtain rfl := z_so h
            exact z_vret hC hQ dX9_slope_557
          ·
            refine z_ite h (fun q198_29 h => ?_) (fun q198_29 h => ?_)
            · refine z_tabIn hC (136) 334 (by rw [q198_29]; decide) (by rw [q198_29]; decide) (by rw [q198_29]; decide +kernel) (by decide) dX9_slope_198 ?_
              refine z_aload_n hC 4 rfl rfl dX9_slope_334 ?_
              refine z_iload_n hC 5 rfl rfl dX9_slope_335 ?_
              refine z_iload_n hC 6 rfl rfl dX9_slope_336 ?_
              refine z_iload_n hC 7 rfl rfl dX9_slope_337 ?_
              refine z_b1 h (fun s338_30 e_s338_30 h => ?_)
              refine z_cV3v hC (ctX9_products hC.hm e_s338_30) (rcX9 hC) kb_X9_products km_X9_344 ⟨by decide, by decide⟩ (Nat.le_of_ble_eq_true rfl) dX9_slope_338 ?_
              refine z_goto hC 557 (by decide) dX9_slope_341 ?_
              obtain rfl := z_so h
              exact z_vret hC hQ dX9_slope_557
            ·
              refine z_ite h (fun q198_31 h => ?_) (fun q198_31 h => ?_)
              · refine z_tabIn hC (136) 334 (by rw [q198_31]; decide) (by rw [q198_31]; decide) (by rw [q198_31]; decide +kernel) (by decide) dX9_slope_198 ?_
                refine z_aload_n hC 4 rfl rfl dX9_slope_334 ?_
                refine z_iload_n hC 5 rfl rfl dX9_slope_335 ?_
                refine z_iload_n hC 6 rfl rfl dX9_slope_336 ?_
                refine z_iload_n hC 7 rfl rfl dX9_slope_337 ?_
                refine z_b1 h (fun s338_32 e_s338_32 h => ?_)
                refine z_cV3v hC (ctX9_products hC.hm e_s338_32) (rcX9 hC) kb_X9_products km_X9_344 ⟨by decide, by decide⟩ (Nat.le_of_ble_eq_true rfl) dX9_slope_338 ?_
                refine z_goto hC 557 (by decide) dX9_slope_341 ?_
                obtain rfl := z_so h
                exact z_vret hC hQ dX9_slope_557
              ·
                refine z_ite h (fun q198_33 h => ?_) (fun q198_33 h => ?_)
                · refine z_tabIn hC (200) 398 (by rw [q198_33]; decide) (by rw [q198_33]; decide) (by rw [q198_33]; decide +kernel) (by decide) dX9_slope_198 ?_
                  refine z_aload_n hC 4 rfl rfl dX9_slope_398 ?_
                  refine z_ldc2 hC kc_X9_350 dX9_slope_399 ?_
                  refine z_ldc2 hC kc_X9_350 dX9_slope_402 ?_
                  refine z_aload_n hC 4 rfl rfl dX9_slope_405 ?_
                  refine gX9_23 hC kf_X9_42 dX9_slope_406 ?_
                  refine z_iload_n hC 5 rfl rfl dX9_slope_409 ?_
                  refine z_g h (fun g410_34 h => ?_)
                  refine z_lald hC 72 ⟨by decide, by decide⟩ (zS_72 _ _ _) g410_34 (gl σ 72 v1.toNatClampNeg) rfl dX9_slope_410 ?_
                  refine z_aload_n hC 4 rfl rfl dX9_slope_411 ?_
                  refine gX9_24 hC kf_X9_45 dX9_slope_412 ?_
                  refine z_iload_n hC 5 rfl rfl dX9_slope_415 ?_
                  refine z_g h (fun g416_35 h => ?_)
                  refine z_lald hC 73 ⟨by decide, by decide⟩ (zS_73 _ _ _) g416_35 (gl σ 73 v1.toNatClampNeg) rfl dX9_slope_416 ?_
                  refine z_b1 h (fun s417_36 e_s417_36 h => ?_)
                  refine z_cV4v hC (ctX9_times hC.hm e_s417_36) (rcX9 hC) kb_X9_times km_X9_315 ⟨by decide, by decide⟩ (Nat.le_of_ble_eq_true rfl) dX9_slope_417 ?_
                  refine z_aload_n hC 4 rfl rfl dX9_slope_420 ?_
                  refine gX9_21 hC kf_X9_233 (gi s417_36 61 21) rfl dX9_slope_421 ?_
                  refine z_if_ne hC 557 (by decide) dX9_slope_424 (fun q424_37 => ?_) (fun q424_37 => ?_)
                  · replace h := z_f q424_37 h
                    obtain rfl := z_so h
                    exact z_vret hC hQ dX9_slope_557
                  · replace h := z_t q424_37 h
                    refine z_aload_n hC 4 rfl rfl dX9_slope_427 ?_
                    refine z_lload hC 3 rfl dX9_slope_428 ?_
                    refine z_lload hC 2 rfl dX9_slope_430 ?_
                    refine z_aload_n hC 4 rfl rfl dX9_slope_432 ?_
                    refine gX9_19 hC kf_X9_222 (gl s417_36 61 19) rfl dX9_slope_433 ?_
                    refine z_aload_n hC 4 rfl rfl dX9_slope_436 ?_
                    refine gX9_20 hC kf_X9_226 (gl s417_36 61 20) rfl dX9_slope_437 ?_
                    refine z_b1 h (fun s440_38 e_s440_38 h => ?_)
                    refine z_cV4v hC (ctX9_by hC.hm e_s440_38) (rcX9 hC) kb_X9_by km_X9_319 ⟨by decide, by decide⟩ (Nat.le_of_ble_eq_true rfl) dX9_slope_440 ?_
                    refine z_goto hC 557 (by decide) dX9_slope_443 ?_
                    obtain rfl := z_so h
                    exact z_vret hC hQ dX9_slope_557
                ·
                  refine z_ite h (fun q198_39 h => ?_) (fun q198_39 h => ?_)
                  · refine z_tabIn hC (248) 446 (by rw [q198_39]; decide) (by rw [q198_39]; decide) (by rw [q198_39]; decide +kernel) (by decide) dX9_slope_198 ?_
                    refine z_aload_n hC 4 rfl rfl dX9_slope_446 ?_
                    refine z_aload_n hC 4 rfl rfl dX9_slope_447 ?_
                    refine gX9_23 hC kf_X9_42 dX9_slope_448 ?_
                    refine z_iload_n hC 5 rfl rfl dX9_slope_451 ?_
                    refine z_g h (fun g452_40 h => ?_)
                    refine z_lald hC 72 ⟨by decide, by decide⟩ (zS_72 _ _ _) g452_40 (gl σ 72 v1.toNatClampNeg) rfl dX9_slope_452 ?_
                    refine z_aload_n hC 4 rfl rfl dX9_slope_453 ?_
                    refine gX9_24 hC kf_X9_45 dX9_slope_454 ?_
                    refine z_iload_n hC 5 rfl rfl dX9_slope_457 ?_
                    refine z_g h (fun g458_41 h => ?_)
                    refine z_lald hC 73 ⟨by decide, by decide⟩ (zS_73 _ _ _) g458_41 (gl σ 73 v1.toNatClampNeg) rfl dX9_slope_458 ?_
                    refine z_lload hC 3 rfl dX9_slope_459 ?_
                    refine z_lload hC 2 rfl dX9_slope_461 ?_
                    refine z_b1 h (fun s463_42 e_s463_42 h => ?_)
                    refine z_cV4v hC (ctX9_times hC.hm e_s463_42) (rcX9 hC) kb_X9_times km_X9_315 ⟨by decide, by decide⟩ (Nat.le_of_ble_eq_true rfl) dX9_slope_463 ?_
                    refine z_goto hC 557 (by decide) dX9_slope_466 ?_
                    obtain rfl := z_so h
                    exact z_vret hC hQ dX9_slope_557
                  ·
                    refine z_ite h (fun q198_43 h => ?_) (fun q198_43 h => ?_)
                    · refine z_tabIn hC (271) 469 (by rw [q198_43]; decide) (by rw [q198_43]; decide) (by rw [q198_43]; decide +kernel) (by decide) dX9_slope_198 ?_
                      refine z_aload_n hC 4 rfl rfl dX9_slope_469 ?_
                      refine z_lload hC 3 rfl dX9_slope_470 ?_
                      refine z_lload hC 2 rfl dX9_slope_472 ?_
                      refine z_lload hC 1 rfl dX9_slope_474 ?_
                      refine z_lload hC 0 rfl dX9_slope_476 ?_
                      refine z_b1 h (fun s478_44 e_s478_44 h => ?_)
                      refine z_cV4v hC (ctX9_by hC.hm e_s478_44) (rcX9 hC) kb_X9_by km_X9_319 ⟨by decide, by decide⟩ (Nat.le_of_ble_eq_true rfl) dX9_slope_478 ?_
                      refine z_goto hC 557 (by decide) dX9_slope_481 ?_
                      obtain rfl := z_so h
                      exact z_vret hC hQ dX9_slope_557
                    ·
                      refine z_ite h (fun q198_45 h => ?_) (fun q198_45 h => ?_)
                      · refine z_tabIn hC (286) 484 (by rw [q198_45]; decide) (by rw [q198_45]; decide) (by rw [q198_45]; decide +kernel) (by decide) dX9_slope_198 ?_
                        refine z_aload_n hC 4 rfl rfl dX9_slope_484 ?_
                        refine z_lload hC 1 rfl dX9_slope_485 ?_
                        refine z_lload hC 0 rfl dX9_slope_487 ?_
                        refine z_iconst hC (0 : Int32) (by decide) dX9_slope_489 ?_
                        refine z_b1 h (fun s490_46 e_s490_46 h => ?_)
                        refine z_cV3v hC (ctX9_wave hC.hm e_s490_46) (rcX9 hC) kb_X9_wave km_X9_328 ⟨by decide, by decide⟩ (Nat.le_of_ble_eq_true rfl) dX9_slope_490 ?_
                        refine z_aload_n hC 4 rfl rfl dX9_slope_493 ?_
                        refine z_lload hC 3 rfl dX9_slope_494 ?_
                        refine z_lload hC 2 rfl dX9_slope_496 ?_
                        refine z_b1 h (fun s498_47 e_s498_47 h => ?_)
                        refine z_cV2v hC (ctX9_thenTimes hC.hm e_s498_47) (rcX9 hC) kb_X9_thenTimes km_X9_347 ⟨by decide, by decide⟩ (Nat.le_of_ble_eq_true rfl) dX9_slope_498 ?_
                        refine z_goto hC 557 (by decide) dX9_slope_501 ?_
                        obtain rfl := z_so h
                        exact z_vret hC hQ dX9_slope_557
                      ·
                        refine z_ite h (fun q198_48 h => ?_) (fun q198_48 h => ?_)
                        · refine z_tabIn hC (306) 504 (by rw [q198_48]; decide) (by rw [q198_48]; decide) (by rw [q198_48]; decide +kernel) (by decide) dX9_slope_198 ?_
                          refine z_aload_n hC 4 rfl rfl dX9_slope_504 ?_
                          refine z_lload hC 1 rfl dX9_slope_505 ?_
                          refine z_lload hC 0 rfl dX9_slope_507 ?_
                          refine z_iconst hC (1 : Int32) (by decide) dX9_slope_509 ?_
                          refine z_b1 h (fun s510_49 e_s510_49 h => ?_)
                          refine z_cV3v hC (ctX9_wave hC.hm e_s510_49) (rcX9 hC) kb_X9_wave km_X9_328 ⟨by decide, by decide⟩ (Nat.le_of_ble_eq_true rfl) dX9_slope_510 ?_
                          refine z_aload_n hC 4 rfl rfl dX9_slope_513 ?_
                          refine z_lload hC 3 rfl dX9_slope_514 ?_
                          refine z_lload hC 2 rfl dX9_slope_516 ?_
                          refine z_b1 h (fun s518_50 e_s518_50 h => ?_)
                          refine z_cV2v hC (ctX9_thenTimes hC.hm e_s518_50) (rcX9 hC) kb_X9_thenTimes km_X9_347 ⟨by decide, by decide⟩ (Nat.le_of_ble_eq_true rfl) dX9_slope_518 ?_
                          refine z_aload_n hC 4 rfl rfl dX9_slope_521 ?_
                          refine gX9_21 hC kf_X9_233 (gi s518_50 61 21) rfl dX9_slope_522 ?_
                          refine z_if_ne hC 557 (by decide) dX9_slope_525 (fun q525_51 => ?_) (fun q525_51 => ?_)
                          · replace h := z_f q525_51 h
                            obtain rfl := z_so h
                            exact z_vret hC hQ dX9_slope_557
                          · replace h := z_t q525_51 h
                            refine z_aload_n hC 4 rfl rfl dX9_slope_528 ?_
                            refine z_aload_n hC 4 rfl rfl dX9_slope_529 ?_
                            refine gX9_20 hC kf_X9_226 (gl s518_50 61 20) rfl dX9_slope_530 ?_
                            refine z_lneg hC dX9_slope_533 ?_
                            refine z_aload_n hC 4 rfl rfl dX9_slope_534 ?_
                            refine gX9_19 hC kf_X9_222 (gl s518_50 61 19) rfl dX9_slope_535 ?_
                            refine z_lneg hC dX9_slope_538 ?_
                            refine z_b1 h (fun s539_52 e_s539_52 h => ?_)
                            refine z_cV2v hC (ctX9_is hC.hm e_s539_52) (rcX9 hC) kb_X9_is km_X9_243 ⟨by decide, by decide⟩ (Nat.le_of_ble_eq_true rfl) dX9_slope_539 ?_
                            refine z_goto hC 557 (by decide) dX9_slope_542 ?_
                            obtain rfl := z_so h
                            exact z_vret hC hQ dX9_slope_557
                        ·
                          refine z_tabD hC 12 545 (by decide) (fun i hi => by
                              have hi2 : i = 0 ∨ i = 1 ∨ i = 2 ∨ i = 3 ∨ i = 4 ∨ i = 5 ∨ i = 6 ∨ i = 7 ∨ i = 8 ∨ i = 9 ∨ i = 10 ∨ i = 11 := by omega
                              rcases hi2 with rfl | rfl | rfl | rfl | rfl | rfl | rfl | rfl | rfl | rfl | rfl | rfl
                              · exact Or.inr (fun e => q198_11 (e.symm.trans (by decide)))
                              · exact Or.inr (fun e => q198_13 (e.symm.trans (by decide)))
                              · exact Or.inr (fun e => q198_15 (e.symm.trans (by decide)))
                              · exact Or.inr (fun e => q198_21 (e.symm.trans (by decide)))
                              · exact Or.inr (fun e => q198_25 (e.symm.trans (by decide)))
                              · exact Or.inr (fun e => q198_29 (e.symm.trans (by decide)))
                              · exact Or.inr (fun e => q198_31 (e.symm.trans (by decide)))
                              · exact Or.inr (fun e => q198_33 (e.symm.trans (by decide)))
                              · exact Or.inr (fun e => q198_39 (e.symm.trans (by decide)))
                              · exact Or.inr (fun e => q198_43 (e.symm.trans (by decide)))
                              · exact Or.inr (fun e => q198_45 (e.symm.trans (by decide)))
                              · exact Or.inr (fun e => q198_48 (e.symm.trans (by decide)))) (by decide) dX9_slope_198 ?_
                          refine z_aload_n hC 4 rfl rfl dX9_slope_545 ?_
                          refine z_lload hC 3 rfl dX9_slope_546 ?_
                          refine z_lload hC 2 rfl dX9_slope_548 ?_
                          refine z_lload hC 1 rfl dX9_slope_550 ?_
                          refine z_lload hC 0 rfl dX9_slope_552 ?_
                          refine z_b1 h (fun s554_53 e_s554_53 h => ?_)
                          refine z_cV4v hC (ctX9_sizes hC.hm e_s554_53) (rcX9 hC) kb_X9_sizes km_X9_352 ⟨by decide, by decide⟩ (Nat.le_of_ble_eq_true rfl) dX9_slope_554 ?_
                          obtain rfl := z_so h
                          exact z_vret hC hQ dX9_slope_557
set_option maxRecDepth 100000 in
set_option maxHeartbeats 4000000 in
theorem wX9_slope_111 {T : zX} (hC : zOk T cX9_slope RX9 4 113 61 85) (hN : zNL T = 13) {σ' : zSt} (hQ : zRes T none (none) σ') (v1 : Int32) (v2 : Int32) (v3 : Int32) (t0 : Int32)  (σ : zSt) (h : fX9_slope_111 v1 v2 v3 t0 σ = some σ') : Z T σ 111 [(0, .ref (zAd T (61))), (1, .int v1), (2, .int v2), (3, .int v3)] [.int t0] := by
  unfold fX9_slope_111 at h
  refine z_istore hC [(4, .int t0), (0, .ref (zAd T (61))), (1, .int v1), (2, .int v2), (3, .int v3)] (by rw [hN]; decide) rfl dX9_slope_111 ?_
  refine z_aload_n hC 1 rfl rfl dX9_slope_113 ?_
  refine gX9_5 hC kf_X9_17 dX9_slope_114 ?_
  refine z_iload_n hC 2 rfl rfl dX9_slope_117 ?_
  refine z_g h (fun g118_1 h => ?_)
  refine z_iald hC 64 ⟨by decide, by decide⟩ (zS_64 _ _ _) g118_1 (gi σ 64 v1.toNatClampNeg) rfl dX9_slope_118 ?_
  refine z_bipush hC (15 : Int32) (by decide) dX9_slope_119 ?_
  refine z_icmp_lt hC 132 (by decide) dX9_slope_121 (fun q121_2 => ?_) (fun q121_2 => ?_)
  · replace h := z_t q121_2 h
    refine z_aload_n hC 1 rfl rfl dX9_slope_132 ?_
    refine gX9_28 hC kf_X9_58 dX9_slope_133 ?_
    refine z_iload_n hC 3 rfl rfl dX9_slope_136 ?_
    refine z_g h (fun g137_3 h => ?_)
    refine z_zald hC 77 ⟨by decide, by decide⟩ (zS_77 _ _ _) g137_3 (gi σ 77 v2.toNatClampNeg) rfl dX9_slope_137 ?_
    refine z_if_ne hC 155 (by decide) dX9_slope_138 (fun q138_4 => ?_) (fun q138_4 => ?_)
    · replace h := z_f q138_4 h
      refine z_aload_n hC 1 rfl rfl dX9_slope_155 ?_
      refine z_b1 h (fun s156_5 e_s156_5 h => ?_)
      refine z_cV0v hC (ctX9_isHole hC.hm e_s156_5) (rcX9 hC) kb_X9_isHole km_X9_247 ⟨by decide, by decide⟩ (Nat.le_of_ble_eq_true rfl) dX9_slope_156 ?_
      obtain rfl := z_so h
      exact z_vret hC hQ dX9_slope_159
    · replace h := z_t q138_4 h
      refine z_iload hC 0 rfl dX9_slope_141 ?_
      refine z_if_eq hC 160 (by decide) dX9_slope_143 (fun q143_6 => ?_) (fun q143_6 => ?_)
      · replace h := z_t q143_6 h
        refine z_sub [(0, .ref (zAd T (61))), (1, .int v1), (2, .int v2), (3, .int v3)] [1, 2, 3, 4] rfl ?_
        exact (wX9_slope_160 hC hN hQ ) _ _ _ _ h
      · replace h := z_f q143_6 h
        refine z_aload_n hC 1 rfl rfl dX9_slope_146 ?_
        refine gX9_28 hC kf_X9_58 dX9_slope_147 ?_
        refine z_iload_n hC 4 rfl rfl dX9_slope_150 ?_
        refine z_g h (fun g151_7 h => ?_)
        refine z_zald hC 77 ⟨by decide, by decide⟩ (zS_77 _ _ _) g151_7 (gi σ 77 v3.toNatClampNeg) rfl dX9_slope_151 ?_
        refine z_if_eq hC 160 (by decide) dX9_slope_152 (fun q152_8 => ?_) (fun q152_8 => ?_)
        · replace h := z_t q152_8 h
          refine z_sub [(0, .ref (zAd T (61))), (1, .int v1), (2, .int v2), (3, .int v3)] [1, 2, 3, 4] rfl ?_
          exact (wX9_slope_160 hC hN hQ ) _ _ _ _ h
        · replace h := z_f q152_8 h
          refine z_aload_n hC 1 rfl rfl dX9_slope_155 ?_
          refine z_b1 h (fun s156_9 e_s156_9 h => ?_)
          refine z_cV0v hC (ctX9_isHole hC.hm e_s156_9) (rcX9 hC) kb_X9_isHole km_X9_247 ⟨by decide, by decide⟩ (Nat.le_of_ble_eq_true rfl) dX9_slope_156 ?_
          obtain rfl := z_so h
          exact z_vret hC hQ dX9_slope_159
  · replace h := z_f q121_2 h
    refine z_aload_n hC 1 rfl rfl dX9_slope_124 ?_
    refine z_iload_n hC 2 rfl rfl dX9_slope_125 ?_
    refine z_iload_n hC 3 rfl rfl dX9_slope_126 ?_
    refine z_iload_n hC 4 rfl rfl dX9_slope_127 ?_
    refine z_b1 h (fun s128_10 e_s128_10 h => ?_)
    refine z_cV3v hC (ctX9_chosen hC.hm e_s128_10) (rcX9 hC) kb_X9_chosen km_X9_340 ⟨by decide, by decide⟩ (Nat.le_of_ble_eq_true rfl) dX9_slope_128 ?_
    obtain rfl := z_so h
    exact z_vret hC hQ dX9_slope_131
set_option maxRecDepth 100000 in
set_option maxHeartbeats 4000000 in
theorem wX9_slope_29 {T : zX} (hC : zOk T cX9_slope RX9 4 113 61 85) (hN : zNL T = 13) {σ' : zSt} (hQ : zRes T none (none) σ') (v1 : Int32) (t0 : Int32)  (σ : zSt) (h : fX9_slope_29 v1 t0 σ = some σ') : Z T σ 29 [(0, .ref (zAd T (61))), (1, .int v1)] [.int t0] := by
  unfold fX9_slope_29 at h
  refine z_istore_n hC [(2, .int t0), (0, .ref (zAd T (61))), (1, .int v1)] rfl (by rw [hN]; decide) rfl dX9_slope_29 ?_
  refine z_aload_n hC 1 rfl rfl dX9_slope_30 ?_
  refine gX9_7 hC kf_X9_23 dX9_slope_31 ?_
  refine z_iload_n hC 2 rfl rfl dX9_slope_34 ?_
  refine z_g h (fun g35_1 h => ?_)
  refine z_iald hC 66 ⟨by decide, by decide⟩ (zS_66 _ _ _) g35_1 (gi σ 66 v1.toNatClampNeg) rfl dX9_slope_35 ?_
  refine z_nmI h (fun x36_2 h => ?_)
  refine z_istore_n hC [(3, .int x36_2), (2, .int t0), (0, .ref (zAd T (61))), (1, .int v1)] rfl (by rw [hN]; decide) rfl dX9_slope_36 ?_
  refine z_aload_n hC 2 rfl rfl dX9_slope_37 ?_
  refine gX9_5 hC kf_X9_17 dX9_slope_38 ?_
  refine z_iload_n hC 3 rfl rfl dX9_slope_41 ?_
  refine z_g h (fun g42_3 h => ?_)
  refine z_iald hC 64 ⟨by decide, by decide⟩ (zS_64 _ _ _) g42_3 (gi σ 64 v1.toNatClampNeg) rfl dX9_slope_42 ?_
  refine z_if_ne hC 57 (by decide) dX9_slope_43 (fun q43_4 => ?_) (fun q43_4 => ?_)
  · replace h := z_f q43_4 h
    refine z_aload_n hC 2 rfl rfl dX9_slope_57 ?_
    refine gX9_5 hC kf_X9_17 dX9_slope_58 ?_
    refine z_iload_n hC 3 rfl rfl dX9_slope_61 ?_
    refine z_g h (fun g62_5 h => ?_)
    refine z_iald hC 64 ⟨by decide, by decide⟩ (zS_64 _ _ _) g62_5 (gi σ 64 v1.toNatClampNeg) rfl dX9_slope_62 ?_
    refine z_iconst hC (1 : Int32) (by decide) dX9_slope_63 ?_
    refine z_icmp_ne hC 74 (by decide) dX9_slope_64 (fun q64_6 => ?_) (fun q64_6 => ?_)
    · replace h := z_f q64_6 h
      refine z_aload_n hC 2 rfl rfl dX9_slope_74 ?_
      refine gX9_5 hC kf_X9_17 dX9_slope_75 ?_
      refine z_iload_n hC 3 rfl rfl dX9_slope_78 ?_
      refine z_g h (fun g79_7 h => ?_)
      refine z_iald hC 64 ⟨by decide, by decide⟩ (zS_64 _ _ _) g79_7 (gi σ 64 v1.toNatClampNeg) rfl dX9_slope_79 ?_
      refine z_iconst hC (5 : Int32) (by decide) dX9_slope_80 ?_
      refine z_icmp_lt hC 95 (by decide) dX9_slope_81 (fun q81_8 => ?_) (fun q81_8 => ?_)
      · replace h := z_t q81_8 h
        refine z_aload_n hC 2 rfl rfl dX9_slope_95 ?_
        refine gX9_5 hC kf_X9_17 dX9_slope_96 ?_
        refine z_iload_n hC 3 rfl rfl dX9_slope_99 ?_
        refine z_g h (fun g100_9 h => ?_)
        refine z_iald hC 64 ⟨by decide, by decide⟩ (zS_64 _ _ _) g100_9 (gi σ 64 v1.toNatClampNeg) rfl dX9_slope_100 ?_
        refine z_bipush hC (15 : Int32) (by decide) dX9_slope_101 ?_
        refine z_icmp_lt hC 110 (by decide) dX9_slope_103 (fun q103_10 => ?_) (fun q103_10 => ?_)
        · replace h := z_t q103_10 h
          refine z_iconst hC (0 : Int32) (by decide) dX9_slope_110 ?_
          refine z_sub [(0, .ref (zAd T (61))), (1, .int v1), (2, .int t0), (3, .int x36_2)] [2, 3, 1, 0] rfl ?_
          exact (wX9_slope_111 hC hN hQ ) _ _ _ _ _ h
        · replace h := z_f q103_10 h
          refine z_iconst hC (1 : Int32) (by decide) dX9_slope_106 ?_
          refine z_goto hC 111 (by decide) dX9_slope_107 ?_
          refine z_sub [(0, .ref (zAd T (61))), (1, .int v1), (2, .int t0), (3, .int x36_2)] [2, 3, 1, 0] rfl ?_
          exact (wX9_slope_111 hC hN hQ ) _ _ _ _ _ h
      · replace h := z_f q81_8 h
        refine z_aload_n hC 2 rfl rfl dX9_slope_84 ?_
        refine gX9_5 hC kf_X9_17 dX9_slope_85 ?_
        refine z_iload_n hC 3 rfl rfl dX9_slope_88 ?_
        refine z_g h (fun g89_11 h => ?_)
        refine z_iald hC 64 ⟨by decide, by decide⟩ (zS_64 _ _ _) g89_11 (gi σ 64 v1.toNatClampNeg) rfl dX9_slope_89 ?_
        refine z_bipush hC (8 : Int32) (by decide) dX9_slope_90 ?_
        refine z_icmp_le hC 106 (by decide) dX9_slope_92 (fun q92_12 => ?_) (fun q92_12 => ?_)
        · replace h := z_t q92_12 h
          refine z_iconst hC (1 : Int32) (by decide) dX9_slope_106 ?_
          refine z_goto hC 111 (by decide) dX9_slope_107 ?_
          refine z_sub [(0, .ref (zAd T (61))), (1, .int v1), (2, .int t0), (3, .int x36_2)] [2, 3, 1, 0] rfl ?_
          exact (wX9_slope_111 hC hN hQ ) _ _ _ _ _ h
        · replace h := z_f q92_12 h
          refine z_aload_n hC 2 rfl rfl dX9_slope_95 ?_
          refine gX9_5 hC kf_X9_17 dX9_slope_96 ?_
          refine z_iload_n hC 3 rfl rfl dX9_slope_99 ?_
          refine z_g h (fun g100_13 h => ?_)
          refine z_iald hC 64 ⟨by decide, by decide⟩ (zS_64 _ _ _) g100_13 (gi σ 64 v1.toNatClampNeg) rfl dX9_slope_100 ?_
          refine z_bipush hC (15 : Int32) (by decide) dX9_slope_101 ?_
          refine z_icmp_lt hC 110 (by decide) dX9_slope_103 (fun q103_14 => ?_) (fun q103_14 => ?_)
          · replace h := z_t q103_14 h
            refine z_iconst hC (0 : Int32) (by decide) dX9_slope_110 ?_
            refine z_sub [(0, .ref (zAd T (61))), (1, .int v1), (2, .int t0), (3, .int x36_2)] [2, 3, 1, 0] rfl ?_
            exact (wX9_slope_111 hC hN hQ ) _ _ _ _ _ h
          · replace h := z_f q103_14 h
            refine z_iconst hC (1 : Int32) (by decide) dX9_slope_106 ?_
            refine z_goto hC 111 (by decide) dX9_slope_107 ?_
            refine z_sub [(0, .ref (zAd T (61))), (1, .int v1), (2, .int t0), (3, .int x36_2)] [2, 3, 1, 0] rfl ?_
            exact (wX9_slope_111 hC hN hQ ) _ _ _ _ _ h
    · replace h := z_t q64_6 h
      refine z_aload_n hC 2 rfl rfl dX9_slope_67 ?_
      refine z_lconst hC (0 : Int64) (by decide) dX9_slope_68 ?_
      refine z_lconst hC (0 : Int64) (by decide) dX9_slope_69 ?_
      refine z_b1 h (fun s70_15 e_s70_15 h => ?_)
      refine z_cV2v hC (ctX9_is hC.hm e_s70_15) (rcX9 hC) kb_X9_is km_X9_243 ⟨by decide, by decide⟩ (Nat.le_of_ble_eq_true rfl) dX9_slope_70 ?_
      obtain rfl := z_so h
      exact z_vret hC hQ dX9_slope_73
  · replace h := z_t q43_4 h
    refine z_aload_n hC 2 rfl rfl dX9_slope_46 ?_
    refine z_ldc2 hC kc_X9_207 dX9_slope_47 ?_
    refine z_ldc2 hC kc_X9_207 dX9_slope_50 ?_
    refine z_b1 h (fun s53_16 e_s53_16 h => ?_)
    refine z_cV2v hC (ctX9_is hC.hm e_s53_16) (rcX9 hC) kb_X9_is km_X9_243 ⟨by decide, by decide⟩ (Nat.le_of_ble_eq_true rfl) dX9_slope_53 ?_
    obtain rfl := z_so h
    exact z_vret hC hQ dX9_slope_56
set_option maxRecDepth 100000 in
set_option maxHeartbeats 4000000 in
theorem wX9_slope_0 {T : zX} (hC : zOk T cX9_slope RX9 4 113 61 85) (hN : zNL T = 13) {σ' : zSt} (hQ : zRes T none (none) σ') (a1 : Int32)  (σ : zSt) (h : fX9_slope_0 a1 σ = some σ') : Z T σ 0 [(0, .ref (zAd T (61))), (1, .int a1)] [] := by
  unfold fX9_slope_0 at h
  refine z_aload_n hC 0 rfl rfl dX9_slope_0 ?_
  refine gX9_5 hC kf_X9_17 dX9_slope_1 ?_
  refine z_iload_n hC 1 rfl rfl dX9_slope_4 ?_
  refine z_g h (fun g5_1 h => ?_)
  refine z_iald hC 64 ⟨by decide, by decide⟩ (zS_64 _ _ _) g5_1 (gi σ 64 a1.toNatClampNeg) rfl dX9_slope_5 ?_
  refine z_iconst hC (2 : Int32) (by decide) dX9_slope_6 ?_
  refine z_icmp_ne hC 23 (by decide) dX9_slope_7 (fun q7_2 => ?_) (fun q7_2 => ?_)
  · replace h := z_f q7_2 h
    refine z_aload_n hC 0 rfl rfl dX9_slope_23 ?_
    refine gX9_6 hC kf_X9_20 dX9_slope_24 ?_
    refine z_iload_n hC 1 rfl rfl dX9_slope_27 ?_
    refine z_g h (fun g28_3 h => ?_)
    refine z_iald hC 65 ⟨by decide, by decide⟩ (zS_65 _ _ _) g28_3 (gi σ 65 a1.toNatClampNeg) rfl dX9_slope_28 ?_
    exact (wX9_slope_29 hC hN hQ ) _ _ _ h
  · replace h := z_t q7_2 h
    refine z_aload_n hC 0 rfl rfl dX9_slope_10 ?_
    refine z_aload_n hC 0 rfl rfl dX9_slope_11 ?_
    refine gX9_6 hC kf_X9_20 dX9_slope_12 ?_
    refine z_iload_n hC 1 rfl rfl dX9_slope_15 ?_
    refine z_g h (fun g16_4 h => ?_)
    refine z_iald hC 65 ⟨by decide, by decide⟩ (zS_65 _ _ _) g16_4 (gi σ 65 a1.toNatClampNeg) rfl dX9_slope_16 ?_
    refine z_b1 h (fun r17_5 e_r17_5 h => ?_)
    refine z_cV1r hC (ctX9_lastOf hC.hm e_r17_5) (rcX9 hC) kb_X9_lastOf km_X9_302 ⟨by decide, by decide⟩ (Nat.le_of_ble_eq_true rfl) dX9_slope_17 ?_
    refine z_goto hC 29 (by decide) dX9_slope_20 ?_
    exact (wX9_slope_29 hC hN hQ ) _ _ _ h
set_option maxRecDepth 100000 in
theorem ctX9_slope {l : Launch} {G : zGt} {mk : zSt → zSt} (hm : zM mk 61 85) {a1 : Int32} {σ : zSt} {σ' : zSt} (h : fX9_slope a1 σ = some σ') : zMet l G mk yX9_slope cX9_slope 13 none 4 113 [.ref (gA G (61)), .int a1] σ (none) σ' := by
  unfold fX9_slope at h

  refine zMet.of (plainFor_of_name (by decide +kernel)) hm (Nat.le_of_ble_eq_true rfl) (fun T eL eG eM hN hC hQ => ?_)
  subst eL; subst eG; subst eM
  refine z_sub [(0, .ref (zAd T (61))), (1, .int a1)] [0, 1] rfl ?_
  exact wX9_slope_0 hC hN hQ _  _ h
noncomputable def fX9_slopes_63 (K11 : Int32 → Int32 → zSt → Option zSt) (K24 : Int32 → Int32 → Int32 → zSt → Option zSt) (v1 : Int32) (v6 : Int32) (v7 : Int32) (σ : zSt) : Option zSt := zg (vp_in v7 480) <| zg (vp_in v7 480) <| zg (vp_in v7 480) <| nm (v7 + (1 : Int32)) fun x96_4 => K24 v1 v6 x96_4 (si (sl (sl σ 74 v7.toNatClampNeg (gl σ 61 19)) 75 v7.toNatClampNeg (gl σ 61 20)) 77 v7.toNatClampNeg (vp_nar .boolean (gi σ 61 21)))
noncomputable def fX9_slopes_24 (K11 : Int32 → Int32 → zSt → Option zSt) (K24 : Int32 → Int32 → Int32 → zSt → Option zSt) (v1 : Int32) (v6 : Int32) (v7 : Int32) (σ : zSt) : Option zSt := bd1 (fX9_lastOf v6 σ) fun r29_1 => 
    (if r29_1 < v7 then nm (v6 + (1 : Int32)) fun x102_3 => K11 v1 x102_3 σ
    else zg (vp_in v7 480) <| 
      (if (gi σ 76 v7.toNatClampNeg) = 0 then bd1 (fX9_slope v7 (si σ 61 21 (0 : Int32))) fun s60_6 => fX9_slopes_63 K11 K24 v1 v6 v7 s60_6
      else bd1 (fX9_isHole (si σ 61 21 (0 : Int32))) fun s51_7 => fX9_slopes_63 K11 K24 v1 v6 v7 s51_7))
noncomputable def fX9_slopes_L24 (K11 : Int32 → Int32 → zSt → Option zSt) : Nat → Int32 → Int32 → Int32 → zSt → Option zSt
  | 0, _, _, _, _ => none
  | n + 1, v1, v6, v7, σ => fX9_slopes_24 K11 (fX9_slopes_L24 K11 n) v1 v6 v7 σ
noncomputable def fX9_slopes_11 (K11 : Int32 → Int32 → zSt → Option zSt) (v1 : Int32) (v6 : Int32) (σ : zSt) : Option zSt := 
    (if v1 < v6 then some σ
    else nm ((60 : Int32) * v6) fun x22_2 => fX9_slopes_L24 K11 zFU v1 v6 x22_2 σ)
noncomputable def fX9_slopes_L11 : Nat → Int32 → Int32 → zSt → Option zSt
  | 0, _, _, _ => none
  | n + 1, v1, v6, σ => fX9_slopes_11 (fX9_slopes_L11 n) v1 v6 σ
noncomputable def fX9_slopes_0 (a1 : Int32) (a2 : Int64) (a4 : Int64) (σ : zSt) : Option zSt := bd1 (fX9_values a1 a2 a4 σ) fun s5_1 => fX9_slopes_L11 zFU a1 (0 : Int32) s5_1
noncomputable def fX9_slopes (a1 : Int32) (a2 : Int64) (a4 : Int64) (σ : zSt) : Option zSt := fX9_slopes_0 a1 a2 a4 σ
set_option maxRecDepth 100000 in
set_option maxHeartbeats 4000000 in
theorem wX9_slopes_63 {T : zX} (hC : zOk T cX9_slopes RX9 7 200 61 85) (hN : zNL T = 8) {σ' : zSt} (hQ : zRes T none (none) σ') (K11 : Int32 → Int32 → zSt → Option zSt) (hK11 : ∀ (v1 : Int32) (v6 : Int32) (τ : zSt), K11 v1 v6 τ = some σ' → Z T τ 11 [(0, .ref (zAd T (61))), (1, .int v1), (6, .int v6)] []) (K24 : Int32 → Int32 → Int32 → zSt → Option zSt) (hK24 : ∀ (v1 : Int32) (v6 : Int32) (v7 : Int32) (τ : zSt), K24 v1 v6 v7 τ = some σ' → Z T τ 24 [(0, .ref (zAd T (61))), (1, .int v1), (6, .int v6), (7, .int v7)] []) (v1 : Int32) (v6 : Int32) (v7 : Int32)  (σ : zSt) (h : fX9_slopes_63 K11 K24 v1 v6 v7 σ = some σ') : Z T σ 63 [(0, .ref (zAd T (61))), (1, .int v1), (6, .int v6), (7, .int v7)] [] := by
  unfold fX9_slopes_63 at h
  refine z_aload_n hC 0 rfl rfl dX9_slopes_63 ?_
  refine gX9_25 hC kf_X9_48 dX9_slopes_64 ?_
  refine z_iload hC 3 rfl dX9_slopes_67 ?_
  refine z_aload_n hC 0 rfl rfl dX9_slopes_69 ?_
  refine gX9_19 hC kf_X9_222 (gl σ 61 19) rfl dX9_slopes_70 ?_
  refine z_g h (fun g73_1 h => ?_)
  refine z_last hC 74 ⟨by decide, by decide⟩ (zS_74 _) g73_1 dX9_slopes_73 ?_
  refine z_aload_n hC 0 rfl rfl dX9_slopes_74 ?_
  refine gX9_26 hC kf_X9_51 dX9_slopes_75 ?_
  refine z_iload hC 3 rfl dX9_slopes_78 ?_
  refine z_aload_n hC 0 rfl rfl dX9_slopes_80 ?_
  refine gX9_20 hC kf_X9_226 (gl σ 61 20) rfl dX9_slopes_81 ?_
  refine z_g h (fun g84_2 h => ?_)
  refine z_last hC 75 ⟨by decide, by decide⟩ (zS_75 _) g84_2 dX9_slopes_84 ?_
  refine z_aload_n hC 0 rfl rfl dX9_slopes_85 ?_
  refine gX9_28 hC kf_X9_58 dX9_slopes_86 ?_
  refine z_iload hC 3 rfl dX9_slopes_89 ?_
  refine z_aload_n hC 0 rfl rfl dX9_slopes_91 ?_
  refine gX9_21 hC kf_X9_233 (gi σ 61 21) rfl dX9_slopes_92 ?_
  refine z_g h (fun g95_3 h => ?_)
  refine z_zast hC 77 ⟨by decide, by decide⟩ (zS_77 _) g95_3 dX9_slopes_95 ?_
  refine z_nmE h (fun x96_4 e_x96_4 h => ?_)
  refine z_iinc hC x96_4 [(7, .int x96_4), (0, .ref (zAd T (61))), (1, .int v1), (6, .int v6)] 3 rfl (by rw [e_x96_4]; rfl) (by rw [hN]; decide) rfl dX9_slopes_96 ?_
  refine z_goto hC 24 (by decide) dX9_slopes_99 ?_
  refine z_sub [(0, .ref (zAd T (61))), (1, .int v1), (6, .int v6), (7, .int x96_4)] [1, 2, 3, 0] rfl ?_
  exact hK24 _ _ _ _ h
set_option maxRecDepth 100000 in
set_option maxHeartbeats 4000000 in
theorem wX9_slopes_24 {T : zX} (hC : zOk T cX9_slopes RX9 7 200 61 85) (hN : zNL T = 8) {σ' : zSt} (hQ : zRes T none (none) σ') (K11 : Int32 → Int32 → zSt → Option zSt) (hK11 : ∀ (v1 : Int32) (v6 : Int32) (τ : zSt), K11 v1 v6 τ = some σ' → Z T τ 11 [(0, .ref (zAd T (61))), (1, .int v1), (6, .int v6)] []) (K24 : Int32 → Int32 → Int32 → zSt → Option zSt) (hK24 : ∀ (v1 : Int32) (v6 : Int32) (v7 : Int32) (τ : zSt), K24 v1 v6 v7 τ = some σ' → Z T τ 24 [(0, .ref (zAd T (61))), (1, .int v1), (6, .int v6), (7, .int v7)] []) (v1 : Int32) (v6 : Int32) (v7 : Int32)  (σ : zSt) (h : fX9_slopes_24 K11 K24 v1 v6 v7 σ = some σ') : Z T σ 24 [(0, .ref (zAd T (61))), (1, .int v1), (6, .int v6), (7, .int v7)] [] := by
  unfold fX9_slopes_24 at h
  refine z_iload hC 3 rfl dX9_slopes_24 ?_
  refine z_aload_n hC 0 rfl rfl dX9_slopes_26 ?_
  refine z_iload hC 2 rfl dX9_slopes_27 ?_
  refine z_b1 h (fun r29_1 e_r29_1 h => ?_)
  refine z_cV1r hC (ctX9_lastOf hC.hm e_r29_1) (rcX9 hC) kb_X9_lastOf km_X9_302 ⟨by decide, by decide⟩ (Nat.le_of_ble_eq_true rfl) dX9_slopes_29 ?_
  refine z_icmp_gt hC 102 (by decide) dX9_slopes_32 (fun q32_2 => ?_) (fun q32_2 => ?_)
  · replace h := z_t q32_2 h
    refine z_nmE h (fun x102_3 e_x102_3 h => ?_)
    refine z_iinc hC x102_3 [(6, .int x102_3), (0, .ref (zAd T (61))), (1, .int v1), (7, .int v7)] 2 rfl (by rw [e_x102_3]; rfl) (by rw [hN]; decide) rfl dX9_slopes_102 ?_
    refine z_goto hC 11 (by decide) dX9_slopes_105 ?_
    refine z_sub [(0, .ref (zAd T (61))), (1, .int v1), (6, .int x102_3)] [1, 2, 0] rfl ?_
    exact hK11 _ _ _ h
  · replace h := z_f q32_2 h
    refine z_aload_n hC 0 rfl rfl dX9_slopes_35 ?_
    refine z_iconst hC (0 : Int32) (by decide) dX9_slopes_36 ?_
    refine pX9_21 hC kf_X9_233 (by decide) dX9_slopes_37 ?_
    refine z_aload_n hC 0 rfl rfl dX9_slopes_40 ?_
    refine gX9_27 hC kf_X9_54 dX9_slopes_41 ?_
    refine z_iload hC 3 rfl dX9_slopes_44 ?_
    refine z_g h (fun g46_4 h => ?_)
    refine z_zald hC 76 ⟨by decide, by decide⟩ (zS_76 _ _ _) g46_4 (gi σ 76 v7.toNatClampNeg) rfl dX9_slopes_46 ?_
    refine z_if_eq hC 57 (by decide) dX9_slopes_47 (fun q47_5 => ?_) (fun q47_5 => ?_)
    · replace h := z_t q47_5 h
      refine z_aload_n hC 0 rfl rfl dX9_slopes_57 ?_
      refine z_iload hC 3 rfl dX9_slopes_58 ?_
      refine z_b1 h (fun s60_6 e_s60_6 h => ?_)
      refine z_cV1v hC (ctX9_slope hC.hm e_s60_6) (rcX9 hC) kb_X9_slope km_X9_337 ⟨by decide, by decide⟩ (Nat.le_of_ble_eq_true rfl) dX9_slopes_60 ?_
      exact (wX9_slopes_63 hC hN hQ K11 hK11 K24 hK24 ) _ _ _ _ h
    · replace h := z_f q47_5 h
      refine z_aload_n hC 0 rfl rfl dX9_slopes_50 ?_
      refine z_b1 h (fun s51_7 e_s51_7 h => ?_)
      refine z_cV0v hC (ctX9_isHole hC.hm e_s51_7) (rcX9 hC) kb_X9_isHole km_X9_247 ⟨by decide, by decide⟩ (Nat.le_of_ble_eq_true rfl) dX9_slopes_51 ?_
      refine z_goto hC 63 (by decide) dX9_slopes_54 ?_
      exact (wX9_slopes_63 hC hN hQ K11 hK11 K24 hK24 ) _ _ _ _ h
theorem wX9_slopes_L24 {T : zX} (hC : zOk T cX9_slopes RX9 7 200 61 85) (hN : zNL T = 8) {σ' : zSt} (hQ : zRes T none (none) σ') (K11 : Int32 → Int32 → zSt → Option zSt) (hK11 : ∀ (v1 : Int32) (v6 : Int32) (τ : zSt), K11 v1 v6 τ = some σ' → Z T τ 11 [(0, .ref (zAd T (61))), (1, .int v1), (6, .int v6)] []) (n : Nat) : ∀ (v1 : Int32) (v6 : Int32) (v7 : Int32) (σ : zSt), fX9_slopes_L24 K11 n v1 v6 v7 σ = some σ' → Z T σ 24 [(0, .ref (zAd T (61))), (1, .int v1), (6, .int v6), (7, .int v7)] [] := by
  induction n with
  | zero => intro v1 v6 v7 σ h; cases h
  | succ n ih => intro v1 v6 v7 σ h; exact wX9_slopes_24 hC hN hQ K11 hK11 (fX9_slopes_L24 K11 n) ih v1 v6 v7 σ h
set_option maxRecDepth 100000 in
set_option maxHeartbeats 4000000 in
theorem wX9_slopes_11 {T : zX} (hC : zOk T cX9_slopes RX9 7 200 61 85) (hN : zNL T = 8) {σ' : zSt} (hQ : zRes T none (none) σ') (K11 : Int32 → Int32 → zSt → Option zSt) (hK11 : ∀ (v1 : Int32) (v6 : Int32) (τ : zSt), K11 v1 v6 τ = some σ' → Z T τ 11 [(0, .ref (zAd T (61))), (1, .int v1), (6, .int v6)] []) (v1 : Int32) (v6 : Int32)  (σ : zSt) (h : fX9_slopes_11 K11 v1 v6 σ = some σ') : Z T σ 11 [(0, .ref (zAd T (61))), (1, .int v1), (6, .int v6)] [] := by
  unfold fX9_slopes_11 at h
  refine z_iload hC 2 rfl dX9_slopes_11 ?_
  refine z_iload_n hC 1 rfl rfl dX9_slopes_13 ?_
  refine z_icmp_gt hC 108 (by decide) dX9_slopes_14 (fun q14_1 => ?_) (fun q14_1 => ?_)
  · replace h := z_t q14_1 h
    obtain rfl := z_so h
    exact z_vret hC hQ dX9_slopes_108
  · replace h := z_f q14_1 h
    refine z_bipush hC (60 : Int32) (by decide) dX9_slopes_17 ?_
    refine z_iload hC 2 rfl dX9_slopes_19 ?_
    refine z_imul hC dX9_slopes_21 ?_
    refine z_nmI h (fun x22_2 h => ?_)
    refine z_istore hC [(7, .int x22_2), (0, .ref (zAd T (61))), (1, .int v1), (6, .int v6)] (by rw [hN]; decide) rfl dX9_slopes_22 ?_
    refine z_sub [(0, .ref (zAd T (61))), (1, .int v1), (6, .int v6), (7, .int x22_2)] [1, 2, 3, 0] rfl ?_
    exact (wX9_slopes_L24 hC hN hQ K11 hK11 zFU) _ _ _ _ h
theorem wX9_slopes_L11 {T : zX} (hC : zOk T cX9_slopes RX9 7 200 61 85) (hN : zNL T = 8) {σ' : zSt} (hQ : zRes T none (none) σ') (n : Nat) : ∀ (v1 : Int32) (v6 : Int32) (σ : zSt), fX9_slopes_L11 n v1 v6 σ = some σ' → Z T σ 11 [(0, .ref (zAd T (61))), (1, .int v1), (6, .int v6)] [] := by
  induction n with
  | zero => intro v1 v6 σ h; cases h
  | succ n ih => intro v1 v6 σ h; exact wX9_slopes_11 hC hN hQ (fX9_slopes_L11 n) ih v1 v6 σ h
set_option maxRecDepth 100000 in
set_option maxHeartbeats 4000000 in
theorem wX9_slopes_0 {T : zX} (hC : zOk T cX9_slopes RX9 7 200 61 85) (hN : zNL T = 8) {σ' : zSt} (hQ : zRes T none (none) σ') (a1 : Int32) (a2 : Int64) (a4 : Int64)  (σ : zSt) (h : fX9_slopes_0 a1 a2 a4 σ = some σ') : Z T σ 0 [(0, .ref (zAd T (61))), (1, .int a1), (2, .long a2), (4, .long a4)] [] := by
  unfold fX9_slopes_0 at h
  refine z_aload_n hC 0 rfl rfl dX9_slopes_0 ?_
  refine z_iload_n hC 1 rfl rfl dX9_slopes_1 ?_
  refine z_lload_n hC 2 rfl rfl dX9_slopes_2 ?_
  refine z_lload hC 3 rfl dX9_slopes_3 ?_
  refine z_b1 h (fun s5_1 e_s5_1 h => ?_)
  refine z_cV3v hC (ctX9_values hC.hm e_s5_1) (rcX9 hC) kb_X9_values km_X9_334 ⟨by decide, by decide⟩ (Nat.le_of_ble_eq_true rfl) dX9_slopes_5 ?_
  refine z_iconst hC (0 : Int32) (by decide) dX9_slopes_8 ?_
  refine z_istore hC [(6, .int (0 : Int32)), (0, .ref (zAd T (61))), (1, .int a1), (2, .long a2), (4, .long a4)] (by rw [hN]; decide) rfl dX9_slopes_9 ?_
  refine z_sub [(0, .ref (zAd T (61))), (1, .int a1), (6, .int (0 : Int32))] [1, 2, 0] rfl ?_
  exact (wX9_slopes_L11 hC hN hQ zFU) _ _ _ h
set_option maxRecDepth 100000 in
theorem ctX9_slopes {l : Launch} {G : zGt} {mk : zSt → zSt} (hm : zM mk 61 85) {a1 : Int32} {a2 : Int64} {a4 : Int64} {σ : zSt} {σ' : zSt} (h : fX9_slopes a1 a2 a4 σ = some σ') : zMet l G mk yX9_slopes cX9_slopes 8 none 7 200 [.ref (gA G (61)), .int a1, .long a2, .long a4] σ (none) σ' := by
  unfold fX9_slopes at h

  refine zMet.of (plainFor_of_name (by decide +kernel)) hm (Nat.le_of_ble_eq_true rfl) (fun T eL eG eM hN hC hQ => ?_)
  subst eL; subst eG; subst eM
  refine z_sub [(0, .ref (zAd T (61))), (1, .int a1), (2, .long a2), (4, .long a4)] [0, 1, 2, 3] rfl ?_
  exact wX9_slopes_0 hC hN hQ _ _ _  _ h
noncomputable def fX9_shut_0 (a1 : Int32) (a2 : Int64) (a4 : Int64) (σ : zSt) : Option (Int32 × zSt) := bd1 (fX9_values a1 a2 a4 σ) fun s5_1 => bd1 (fX9_lastOf a1 s5_1) fun r10_2 => zg (vp_in r10_2 480) <| nm (gl s5_1 72 r10_2.toNatClampNeg) fun x23_4 => zg (vp_in r10_2 480) <| nm (gl s5_1 73 r10_2.toNatClampNeg) fun x34_6 => zg (vp_in r10_2 480) <| 
    (if (gi s5_1 76 r10_2.toNatClampNeg) = 0 then some ((1 : Int32), (sl (sl s5_1 61 29 x23_4) 61 30 x34_6))
    else some ((0 : Int32), (sl (sl s5_1 61 29 x23_4) 61 30 x34_6)))
noncomputable def fX9_shut (a1 : Int32) (a2 : Int64) (a4 : Int64) (σ : zSt) : Option (Int32 × zSt) := fX9_shut_0 a1 a2 a4 σ
set_option maxRecDepth 100000 in
set_option maxHeartbeats 4000000 in
theorem wX9_shut_0 {T : zX} (hC : zOk T cX9_shut RX9 7 200 61 85) (hN : zNL T = 7) {r : Int32} {σ' : zSt} (hQ : zRes T (some .boolean) (some (.int r)) σ') (a1 : Int32) (a2 : Int64) (a4 : Int64)  (σ : zSt) (h : fX9_shut_0 a1 a2 a4 σ = some (r, σ')) : Z T σ 0 [(0, .ref (zAd T (61))), (1, .int a1), (2, .long a2), (4, .long a4)] [] := by
  unfold fX9_shut_0 at h
  refine z_aload_n hC 0 rfl rfl dX9_shut_0 ?_
  refine z_iload_n hC 1 rfl rfl dX9_shut_1 ?_
  refine z_lload_n hC 2 rfl rfl dX9_shut_2 ?_
  refine z_lload hC 3 rfl dX9_shut_3 ?_
  refine z_b1 h (fun s5_1 e_s5_1 h => ?_)
  refine z_cV3v hC (ctX9_values hC.hm e_s5_1) (rcX9 hC) kb_X9_values km_X9_334 ⟨by decide, by decide⟩ (Nat.le_of_ble_eq_true rfl) dX9_shut_5 ?_
  refine z_aload_n hC 0 rfl rfl dX9_shut_8 ?_
  refine z_iload_n hC 1 rfl rfl dX9_shut_9 ?_
  refine z_b1 h (fun r10_2 e_r10_2 h => ?_)
  refine z_cV1r hC (ctX9_lastOf hC.hm e_r10_2) (rcX9 hC) kb_X9_lastOf km_X9_302 ⟨by decide, by decide⟩ (Nat.le_of_ble_eq_true rfl) dX9_shut_10 ?_
  refine z_istore hC [(6, .int r10_2), (0, .ref (zAd T (61))), (1, .int a1), (2, .long a2), (4, .long a4)] (by rw [hN]; decide) rfl dX9_shut_13 ?_
  refine z_aload_n hC 1 rfl rfl dX9_shut_15 ?_
  refine z_aload_n hC 1 rfl rfl dX9_shut_16 ?_
  refine gX9_23 hC kf_X9_42 dX9_shut_17 ?_
  refine z_iload hC 0 rfl dX9_shut_20 ?_
  refine z_g h (fun g22_3 h => ?_)
  refine z_lald hC 72 ⟨by decide, by decide⟩ (zS_72 _ _ _) g22_3 (gl s5_1 72 r10_2.toNatClampNeg) rfl dX9_shut_22 ?_
  refine z_nmL h (fun x23_4 h => ?_)
  refine pX9_29 hC kf_X9_355 dX9_shut_23 ?_
  refine z_aload_n hC 1 rfl rfl dX9_shut_26 ?_
  refine z_aload_n hC 1 rfl rfl dX9_shut_27 ?_
  refine gX9_24 hC kf_X9_45 dX9_shut_28 ?_
  refine z_iload hC 0 rfl dX9_shut_31 ?_
  refine z_g h (fun g33_5 h => ?_)
  refine z_lald hC 73 ⟨by decide, by decide⟩ (zS_73 _ _ _) g33_5 (gl s5_1 73 r10_2.toNatClampNeg) rfl dX9_shut_33 ?_
  refine z_nmL h (fun x34_6 h => ?_)
  refine pX9_30 hC kf_X9_358 dX9_shut_34 ?_
  refine z_aload_n hC 1 rfl rfl dX9_shut_37 ?_
  refine gX9_27 hC kf_X9_54 dX9_shut_38 ?_
  refine z_iload hC 0 rfl dX9_shut_41 ?_
  refine z_g h (fun g43_7 h => ?_)
  refine z_zald hC 76 ⟨by decide, by decide⟩ (zS_76 _ _ _) g43_7 (gi s5_1 76 r10_2.toNatClampNeg) rfl dX9_shut_43 ?_
  refine z_if_ne hC 51 (by decide) dX9_shut_44 (fun q44_8 => ?_) (fun q44_8 => ?_)
  · replace h := z_f q44_8 h
    refine z_iconst hC (0 : Int32) (by decide) dX9_shut_51 ?_
    obtain ⟨rfl, rfl⟩ := z_pr h
    exact z_zret hC hQ dX9_shut_52 (by decide)
  · replace h := z_t q44_8 h
    refine z_iconst hC (1 : Int32) (by decide) dX9_shut_47 ?_
    refine z_goto hC 52 (by decide) dX9_shut_48 ?_
    obtain ⟨rfl, rfl⟩ := z_pr h
    exact z_zret hC hQ dX9_shut_52 (by decide)
set_option maxRecDepth 100000 in
theorem ctX9_shut {l : Launch} {G : zGt} {mk : zSt → zSt} (hm : zM mk 61 85) {a1 : Int32} {a2 : Int64} {a4 : Int64} {σ : zSt} {r : Int32} {σ' : zSt} (h : fX9_shut a1 a2 a4 σ = some (r, σ')) : zMet l G mk yX9_shut cX9_shut 7 (some .boolean) 7 200 [.ref (gA G (61)), .int a1, .long a2, .long a4] σ (some (.int r)) σ' := by
  unfold fX9_shut at h

  refine zMet.of (plainFor_of_name (by decide +kernel)) hm (Nat.le_of_ble_eq_true rfl) (fun T eL eG eM hN hC hQ => ?_)
  subst eL; subst eG; subst eM
  refine z_sub [(0, .ref (zAd T (61))), (1, .int a1), (2, .long a2), (4, .long a4)] [0, 1, 2, 3] rfl ?_
  exact wX9_shut_0 hC hN hQ _ _ _  _ h
noncomputable def fX9_shutSlope_0 (a1 : Int32) (a2 : Int64) (a4 : Int64) (σ : zSt) : Option (Int32 × zSt) := bd1 (fX9_slopes a1 a2 a4 σ) fun s5_1 => bd1 (fX9_lastOf a1 s5_1) fun r10_2 => zg (vp_in r10_2 480) <| nm (gl s5_1 74 r10_2.toNatClampNeg) fun x23_4 => zg (vp_in r10_2 480) <| nm (gl s5_1 75 r10_2.toNatClampNeg) fun x34_6 => zg (vp_in r10_2 480) <| 
    (if (gi s5_1 77 r10_2.toNatClampNeg) = 0 then some ((1 : Int32), (sl (sl s5_1 61 29 x23_4) 61 30 x34_6))
    else some ((0 : Int32), (sl (sl s5_1 61 29 x23_4) 61 30 x34_6)))
noncomputable def fX9_shutSlope (a1 : Int32) (a2 : Int64) (a4 : Int64) (σ : zSt) : Option (Int32 × zSt) := fX9_shutSlope_0 a1 a2 a4 σ
set_option maxRecDepth 100000 in
set_option maxHeartbeats 4000000 in
theorem wX9_shutSlope_0 {T : zX} (hC : zOk T cX9_shutSlope RX9 8 227 61 85) (hN : zNL T = 7) {r : Int32} {σ' : zSt} (hQ : zRes T (some .boolean) (some (.int r)) σ') (a1 : Int32) (a2 : Int64) (a4 : Int64)  (σ : zSt) (h : fX9_shutSlope_0 a1 a2 a4 σ = some (r, σ')) : Z T σ 0 [(0, .ref (zAd T (61))), (1, .int a1), (2, .long a2), (4, .long a4)] [] := by
  unfold fX9_shutSlope_0 at h
  refine z_aload_n hC 0 rfl rfl dX9_shutSlope_0 ?_
  refine z_iload_n hC 1 rfl rfl dX9_shutSlope_1 ?_
  refine z_lload_n hC 2 rfl rfl dX9_shutSlope_2 ?_
  refine z_lload hC 3 rfl dX9_shutSlope_3 ?_
  refine z_b1 h (fun s5_1 e_s5_1 h => ?_)
  refine z_cV3v hC (ctX9_slopes hC.hm e_s5_1) (rcX9 hC) kb_X9_slopes km_X9_361 ⟨by decide, by decide⟩ (Nat.le_of_ble_eq_true rfl) dX9_shutSlope_5 ?_
  refine z_aload_n hC 0 rfl rfl dX9_shutSlope_8 ?_
  refine z_iload_n hC 1 rfl rfl dX9_shutSlope_9 ?_
  refine z_b1 h (fun r10_2 e_r10_2 h => ?_)
  refine z_cV1r hC (ctX9_lastOf hC.hm e_r10_2) (rcX9 hC) kb_X9_lastOf km_X9_302 ⟨by decide, by decide⟩ (Nat.le_of_ble_eq_true rfl) dX9_shutSlope_10 ?_
  refine z_istore hC [(6, .int r10_2), (0, .ref (zAd T (61))), (1, .int a1), (2, .long a2), (4, .long a4)] (by rw [hN]; decide) rfl dX9_shutSlope_13 ?_
  refine z_aload_n hC 1 rfl rfl dX9_shutSlope_15 ?_
  refine z_aload_n hC 1 rfl rfl dX9_shutSlope_16 ?_
  refine gX9_25 hC kf_X9_48 dX9_shutSlope_17 ?_
  refine z_iload hC 0 rfl dX9_shutSlope_20 ?_
  refine z_g h (fun g22_3 h => ?_)
  refine z_lald hC 74 ⟨by decide, by decide⟩ (zS_74 _ _ _) g22_3 (gl s5_1 74 r10_2.toNatClampNeg) rfl dX9_shutSlope_22 ?_
  refine z_nmL h (fun x23_4 h => ?_)
  refine pX9_29 hC kf_X9_355 dX9_shutSlope_23 ?_
  refine z_aload_n hC 1 rfl rfl dX9_shutSlope_26 ?_
  refine z_aload_n hC 1 rfl rfl dX9_shutSlope_27 ?_
  refine gX9_26 hC kf_X9_51 dX9_shutSlope_28 ?_
  refine z_iload hC 0 rfl dX9_shutSlope_31 ?_
  refine z_g h (fun g33_5 h => ?_)
  refine z_lald hC 75 ⟨by decide, by decide⟩ (zS_75 _ _ _) g33_5 (gl s5_1 75 r10_2.toNatClampNeg) rfl dX9_shutSlope_33 ?_
  refine z_nmL h (fun x34_6 h => ?_)
  refine pX9_30 hC kf_X9_358 dX9_shutSlope_34 ?_
  refine z_aload_n hC 1 rfl rfl dX9_shutSlope_37 ?_
  refine gX9_28 hC kf_X9_58 dX9_shutSlope_38 ?_
  refine z_iload hC 0 rfl dX9_shutSlope_41 ?_
  refine z_g h (fun g43_7 h => ?_)
  refine z_zald hC 77 ⟨by decide, by decide⟩ (zS_77 _ _ _) g43_7 (gi s5_1 77 r10_2.toNatClampNeg) rfl dX9_shutSlope_43 ?_
  refine z_if_ne hC 51 (by decide) dX9_shutSlope_44 (fun q44_8 => ?_) (fun q44_8 => ?_)
  · replace h := z_f q44_8 h
    refine z_iconst hC (0 : Int32) (by decide) dX9_shutSlope_51 ?_
    obtain ⟨rfl, rfl⟩ := z_pr h
    exact z_zret hC hQ dX9_shutSlope_52 (by decide)
  · replace h := z_t q44_8 h
    refine z_iconst hC (1 : Int32) (by decide) dX9_shutSlope_47 ?_
    refine z_goto hC 52 (by decide) dX9_shutSlope_48 ?_
    obtain ⟨rfl, rfl⟩ := z_pr h
    exact z_zret hC hQ dX9_shutSlope_52 (by decide)
set_option maxRecDepth 100000 in
theorem ctX9_shutSlope {l : Launch} {G : zGt} {mk : zSt → zSt} (hm : zM mk 61 85) {a1 : Int32} {a2 : Int64} {a4 : Int64} {σ : zSt} {r : Int32} {σ' : zSt} (h : fX9_shutSlope a1 a2 a4 σ = some (r, σ')) : zMet l G mk yX9_shutSlope cX9_shutSlope 7 (some .boolean) 8 227 [.ref (gA G (61)), .int a1, .long a2, .long a4] σ (some (.int r)) σ' := by
  unfold fX9_shutSlope at h

  refine zMet.of (plainFor_of_name (by decide +kernel)) hm (Nat.le_of_ble_eq_true rfl) (fun T eL eG eM hN hC hQ => ?_)
  subst eL; subst eG; subst eM
  refine z_sub [(0, .ref (zAd T (61))), (1, .int a1), (2, .long a2), (4, .long a4)] [0, 1, 2, 3] rfl ?_
  exact wX9_shutSlope_0 hC hN hQ _ _ _  _ h
noncomputable def fX9_tells_0 (a1 : Int32) (a2 : Int64) (a4 : Int64) (σ : zSt) : Option (Int32 × zSt) := 
    (if a1 = 0 then some ((1 : Int32), σ)
    else some ((0 : Int32), (sl (sl σ 61 31 a2) 61 32 a4)))
noncomputable def fX9_tells (a1 : Int32) (a2 : Int64) (a4 : Int64) (σ : zSt) : Option (Int32 × zSt) := fX9_tells_0 a1 a2 a4 σ
set_option maxRecDepth 100000 in
set_option maxHeartbeats 4000000 in
theorem wX9_tells_0 {T : zX} (hC : zOk T cX9_tells RX9 0 0 61 85) (hN : zNL T = 6) {r : Int32} {σ' : zSt} (hQ : zRes T (some .int) (some (.int r)) σ') (a1 : Int32) (a2 : Int64) (a4 : Int64)  (σ : zSt) (h : fX9_tells_0 a1 a2 a4 σ = some (r, σ')) : Z T σ 0 [(0, .ref (zAd T (61))), (1, .int a1), (2, .long a2), (4, .long a4)] [] := by
  unfold fX9_tells_0 at h
  refine z_iload_n hC 1 rfl rfl dX9_tells_0 ?_
  refine z_if_ne hC 6 (by decide) dX9_tells_1 (fun q1_1 => ?_) (fun q1_1 => ?_)
  · replace h := z_f q1_1 h
    refine z_aload_n hC 0 rfl rfl dX9_tells_6 ?_
    refine z_lload_n hC 2 rfl rfl dX9_tells_7 ?_
    refine pX9_31 hC kf_X9_364 dX9_tells_8 ?_
    refine z_aload_n hC 0 rfl rfl dX9_tells_11 ?_
    refine z_lload hC 3 rfl dX9_tells_12 ?_
    refine pX9_32 hC kf_X9_367 dX9_tells_14 ?_
    refine z_iconst hC (0 : Int32) (by decide) dX9_tells_17 ?_
    obtain ⟨rfl, rfl⟩ := z_pr h
    exact z_iret hC hQ dX9_tells_18
  · replace h := z_t q1_1 h
    refine z_iconst hC (1 : Int32) (by decide) dX9_tells_4 ?_
    obtain ⟨rfl, rfl⟩ := z_pr h
    exact z_iret hC hQ dX9_tells_5
set_option maxRecDepth 100000 in
theorem ctX9_tells {l : Launch} {G : zGt} {mk : zSt → zSt} (hm : zM mk 61 85) {a1 : Int32} {a2 : Int64} {a4 : Int64} {σ : zSt} {r : Int32} {σ' : zSt} (h : fX9_tells a1 a2 a4 σ = some (r, σ')) : zMet l G mk yX9_tells cX9_tells 6 (some .int) 0 0 [.ref (gA G (61)), .int a1, .long a2, .long a4] σ (some (.int r)) σ' := by
  unfold fX9_tells at h

  refine zMet.of (plainFor_of_name (by decide +kernel)) hm (Nat.le_of_ble_eq_true rfl) (fun T eL eG eM hN hC hQ => ?_)
  subst eL; subst eG; subst eM
  refine z_sub [(0, .ref (zAd T (61))), (1, .int a1), (2, .long a2), (4, .long a4)] [0, 1, 2, 3] rfl ?_
  exact wX9_tells_0 hC hN hQ _ _ _  _ h
noncomputable def fX9_at_0 (a1 : Int32) (a2 : Int32) (a3 : Int32) (σ : zSt) : Option (Int32 × zSt) := 
    (if (fX9_has a1 σ) = 0 then some ((-1 : Int32), σ)
    else 
      (if a2 ≤ a3 then bd2 (fX9_shut a1 (Int32.toInt64 a2) (Int32.toInt64 a3) σ) fun r21_3 s21_4 => bd2 (fX9_tells r21_3 (gl s21_4 61 29) (gl s21_4 61 30) s21_4) fun r37_5 s37_6 => some (r37_5, s37_6)
      else some ((-1 : Int32), σ)))
noncomputable def fX9_at (a1 : Int32) (a2 : Int32) (a3 : Int32) (σ : zSt) : Option (Int32 × zSt) := fX9_at_0 a1 a2 a3 σ
set_option maxRecDepth 100000 in
set_option maxHeartbeats 4000000 in
theorem wX9_at_0 {T : zX} (hC : zOk T cX9_at RX9 8 226 61 85) (hN : zNL T = 5) {r : Int32} {σ' : zSt} (hQ : zRes T (some .int) (some (.int r)) σ') (a1 : Int32) (a2 : Int32) (a3 : Int32)  (σ : zSt) (h : fX9_at_0 a1 a2 a3 σ = some (r, σ')) : Z T σ 0 [(0, .ref (zAd T (61))), (1, .int a1), (2, .int a2), (3, .int a3)] [] := by
  unfold fX9_at_0 at h
  refine z_aload_n hC 0 rfl rfl dX9_at_0 ?_
  refine z_iload_n hC 1 rfl rfl dX9_at_1 ?_
  refine z_cV1r hC (ctX9_has hC.hm) (rcX9 hC) kb_X9_has km_X9_216 ⟨by decide, by decide⟩ (Nat.le_of_ble_eq_true rfl) dX9_at_2 ?_
  refine z_if_eq hC 13 (by decide) dX9_at_5 (fun q5_1 => ?_) (fun q5_1 => ?_)
  · replace h := z_t q5_1 h
    refine z_iconst hC (-1 : Int32) (by decide) dX9_at_13 ?_
    obtain ⟨rfl, rfl⟩ := z_pr h
    exact z_iret hC hQ dX9_at_14
  · replace h := z_f q5_1 h
    refine z_iload_n hC 2 rfl rfl dX9_at_8 ?_
    refine z_iload_n hC 3 rfl rfl dX9_at_9 ?_
    refine z_icmp_le hC 15 (by decide) dX9_at_10 (fun q10_2 => ?_) (fun q10_2 => ?_)
    · replace h := z_t q10_2 h
      refine z_aload_n hC 0 rfl rfl dX9_at_15 ?_
      refine z_iload_n hC 1 rfl rfl dX9_at_16 ?_
      refine z_iload_n hC 2 rfl rfl dX9_at_17 ?_
      refine z_i2l hC dX9_at_18 ?_
      refine z_iload_n hC 3 rfl rfl dX9_at_19 ?_
      refine z_i2l hC dX9_at_20 ?_
      refine z_b2 h (fun r21_3 s21_4 e_r21_3 h => ?_)
      refine z_cV3r hC (ctX9_shut hC.hm e_r21_3) (rcX9 hC) kb_X9_shut km_X9_370 ⟨by decide, by decide⟩ (Nat.le_of_ble_eq_true rfl) dX9_at_21 ?_
      refine z_istore hC [(4, .int r21_3), (0, .ref (zAd T (61))), (1, .int a1), (2, .int a2), (3, .int a3)] (by rw [hN]; decide) rfl dX9_at_24 ?_
      refine z_aload_n hC 1 rfl rfl dX9_at_26 ?_
      refine z_iload hC 0 rfl dX9_at_27 ?_
      refine z_aload_n hC 1 rfl rfl dX9_at_29 ?_
      refine gX9_29 hC kf_X9_355 (gl s21_4 61 29) rfl dX9_at_30 ?_
      refine z_aload_n hC 1 rfl rfl dX9_at_33 ?_
      refine gX9_30 hC kf_X9_358 (gl s21_4 61 30) rfl dX9_at_34 ?_
      refine z_b2 h (fun r37_5 s37_6 e_r37_5 h => ?_)
      refine z_cV3r hC (ctX9_tells hC.hm e_r37_5) (rcX9 hC) kb_X9_tells km_X9_374 ⟨by decide, by decide⟩ (Nat.le_of_ble_eq_true rfl) dX9_at_37 ?_
      obtain ⟨rfl, rfl⟩ := z_pr h
      exact z_iret hC hQ dX9_at_40
    · replace h := z_f q10_2 h
      refine z_iconst hC (-1 : Int32) (by decide) dX9_at_13 ?_
      obtain ⟨rfl, rfl⟩ := z_pr h
      exact z_iret hC hQ dX9_at_14
set_option maxRecDepth 100000 in
theorem ctX9_at {l : Launch} {G : zGt} {mk : zSt → zSt} (hm : zM mk 61 85) {a1 : Int32} {a2 : Int32} {a3 : Int32} {σ : zSt} {r : Int32} {σ' : zSt} (h : fX9_at a1 a2 a3 σ = some (r, σ')) : zMet l G mk yX9_at cX9_at 5 (some .int) 8 226 [.ref (gA G (61)), .int a1, .int a2, .int a3] σ (some (.int r)) σ' := by
  unfold fX9_at at h

  refine zMet.of (plainFor_of_name (by decide +kernel)) hm (Nat.le_of_ble_eq_true rfl) (fun T eL eG eM hN hC hQ => ?_)
  subst eL; subst eG; subst eM
  refine z_sub [(0, .ref (zAd T (61))), (1, .int a1), (2, .int a2), (3, .int a3)] [0, 1, 2, 3] rfl ?_
  exact wX9_at_0 hC hN hQ _ _ _  _ h
noncomputable def fX9_slope__0 (a1 : Int32) (a2 : Int32) (a3 : Int32) (σ : zSt) : Option (Int32 × zSt) := 
    (if (fX9_has a1 σ) = 0 then some ((-1 : Int32), σ)
    else 
      (if a2 ≤ a3 then bd2 (fX9_shutSlope a1 (Int32.toInt64 a2) (Int32.toInt64 a3) σ) fun r21_3 s21_4 => bd2 (fX9_tells r21_3 (gl s21_4 61 29) (gl s21_4 61 30) s21_4) fun r37_5 s37_6 => some (r37_5, s37_6)
      else some ((-1 : Int32), σ)))
noncomputable def fX9_slope_ (a1 : Int32) (a2 : Int32) (a3 : Int32) (σ : zSt) : Option (Int32 × zSt) := fX9_slope__0 a1 a2 a3 σ
set_option maxRecDepth 100000 in
set_option maxHeartbeats 4000000 in
theorem wX9_slope__0 {T : zX} (hC : zOk T cX9_slope_ RX9 9 253 61 85) (hN : zNL T = 5) {r : Int32} {σ' : zSt} (hQ : zRes T (some .int) (some (.int r)) σ') (a1 : Int32) (a2 : Int32) (a3 : Int32)  (σ : zSt) (h : fX9_slope__0 a1 a2 a3 σ = some (r, σ')) : Z T σ 0 [(0, .ref (zAd T (61))), (1, .int a1), (2, .int a2), (3, .int a3)] [] := by
  unfold fX9_slope__0 at h
  refine z_aload_n hC 0 rfl rfl dX9_slope__0 ?_
  refine z_iload_n hC 1 rfl rfl dX9_slope__1 ?_
  refine z_cV1r hC (ctX9_has hC.hm) (rcX9 hC) kb_X9_has km_X9_216 ⟨by decide, by decide⟩ (Nat.le_of_ble_eq_true rfl) dX9_slope__2 ?_
  refine z_if_eq hC 13 (by decide) dX9_slope__5 (fun q5_1 => ?_) (fun q5_1 => ?_)
  · replace h := z_t q5_1 h
    refine z_iconst hC (-1 : Int32) (by decide) dX9_slope__13 ?_
    obtain ⟨rfl, rfl⟩ := z_pr h
    exact z_iret hC hQ dX9_slope__14
  · replace h := z_f q5_1 h
    refine z_iload_n hC 2 rfl rfl dX9_slope__8 ?_
    refine z_iload_n hC 3 rfl rfl dX9_slope__9 ?_
    refine z_icmp_le hC 15 (by decide) dX9_slope__10 (fun q10_2 => ?_) (fun q10_2 => ?_)
    · replace h := z_t q10_2 h
      refine z_aload_n hC 0 rfl rfl dX9_slope__15 ?_
      refine z_iload_n hC 1 rfl rfl dX9_slope__16 ?_
      refine z_iload_n hC 2 rfl rfl dX9_slope__17 ?_
      refine z_i2l hC dX9_slope__18 ?_
      refine z_iload_n hC 3 rfl rfl dX9_slope__19 ?_
      refine z_i2l hC dX9_slope__20 ?_
      refine z_b2 h (fun r21_3 s21_4 e_r21_3 h => ?_)
      refine z_cV3r hC (ctX9_shutSlope hC.hm e_r21_3) (rcX9 hC) kb_X9_shutSlope km_X9_378 ⟨by decide, by decide⟩ (Nat.le_of_ble_eq_true rfl) dX9_slope__21 ?_
      refine z_istore hC [(4, .int r21_3), (0, .ref (zAd T (61))), (1, .int a1), (2, .int a2), (3, .int a3)] (by rw [hN]; decide) rfl dX9_slope__24 ?_
      refine z_aload_n hC 1 rfl rfl dX9_slope__26 ?_
      refine z_iload hC 0 rfl dX9_slope__27 ?_
      refine z_aload_n hC 1 rfl rfl dX9_slope__29 ?_
      refine gX9_29 hC kf_X9_355 (gl s21_4 61 29) rfl dX9_slope__30 ?_
      refine z_aload_n hC 1 rfl rfl dX9_slope__33 ?_
      refine gX9_30 hC kf_X9_358 (gl s21_4 61 30) rfl dX9_slope__34 ?_
      refine z_b2 h (fun r37_5 s37_6 e_r37_5 h => ?_)
      refine z_cV3r hC (ctX9_tells hC.hm e_r37_5) (rcX9 hC) kb_X9_tells km_X9_374 ⟨by decide, by decide⟩ (Nat.le_of_ble_eq_true rfl) dX9_slope__37 ?_
      obtain ⟨rfl, rfl⟩ := z_pr h
      exact z_iret hC hQ dX9_slope__40
    · replace h := z_f q10_2 h
      refine z_iconst hC (-1 : Int32) (by decide) dX9_slope__13 ?_
      obtain ⟨rfl, rfl⟩ := z_pr h
      exact z_iret hC hQ dX9_slope__14
set_option maxRecDepth 100000 in
theorem ctX9_slope_ {l : Launch} {G : zGt} {mk : zSt → zSt} (hm : zM mk 61 85) {a1 : Int32} {a2 : Int32} {a3 : Int32} {σ : zSt} {r : Int32} {σ' : zSt} (h : fX9_slope_ a1 a2 a3 σ = some (r, σ')) : zMet l G mk yX9_slope_ cX9_slope_ 5 (some .int) 9 253 [.ref (gA G (61)), .int a1, .int a2, .int a3] σ (some (.int r)) σ' := by
  unfold fX9_slope_ at h

  refine zMet.of (plainFor_of_name (by decide +kernel)) hm (Nat.le_of_ble_eq_true rfl) (fun T eL eG eM hN hC hQ => ?_)
  subst eL; subst eG; subst eM
  refine z_sub [(0, .ref (zAd T (61))), (1, .int a1), (2, .int a2), (3, .int a3)] [0, 1, 2, 3] rfl ?_
  exact wX9_slope__0 hC hN hQ _ _ _  _ h
noncomputable def fX9_halve_5 (K5 : Int32 → Int32 → zSt → Option zSt) (v1 : Int32) (v2 : Int32) (σ : zSt) : Option zSt := 
    (if v2 ≤ (v1 + (1 : Int32)) then zg (vp_in v1 260) <| zg (vp_in v1 260) <| bd1 (fX9_down ((gl σ 78 v1.toNatClampNeg) + (gl σ 79 v1.toNatClampNeg)) (2 : Int64)) fun r90_4 => zg (vp_in v1 260) <| zg (vp_in (v1 + (1 : Int32)) 260) <| zg (vp_in (v1 + (1 : Int32)) 260) <| zg (vp_in v1 260) <| some (si (sl (sl (sl σ 79 (v1 + (1 : Int32)).toNatClampNeg (gl σ 79 v1.toNatClampNeg)) 78 (v1 + (1 : Int32)).toNatClampNeg r90_4) 79 v1.toNatClampNeg r90_4) 61 33 ((gi σ 61 33) + (1 : Int32)))
    else zg (vp_in (v2 - (1 : Int32)) 260) <| zg (vp_in v2 260) <| zg (vp_in (v2 - (1 : Int32)) 260) <| zg (vp_in v2 260) <| zg (vp_in (v2 - (1 : Int32)) 260) <| zg (vp_in v2 260) <| zg (vp_in (v2 - (1 : Int32)) 260) <| zg (vp_in v2 260) <| nm (v2 + (-1 : Int32)) fun x68_17 => K5 v1 x68_17 (sl (sl (sl (sl σ 78 v2.toNatClampNeg (gl σ 78 (v2 - (1 : Int32)).toNatClampNeg)) 79 v2.toNatClampNeg (gl σ 79 (v2 - (1 : Int32)).toNatClampNeg)) 80 v2.toNatClampNeg (gl σ 80 (v2 - (1 : Int32)).toNatClampNeg)) 81 v2.toNatClampNeg (gl σ 81 (v2 - (1 : Int32)).toNatClampNeg)))
noncomputable def fX9_halve_L5 : Nat → Int32 → Int32 → zSt → Option zSt
  | 0, _, _, _ => none
  | n + 1, v1, v2, σ => fX9_halve_5 (fX9_halve_L5 n) v1 v2 σ
noncomputable def fX9_halve_0 (a1 : Int32) (σ : zSt) : Option zSt := nm (gi σ 61 33) fun x4_1 => fX9_halve_L5 zFU a1 x4_1 σ
noncomputable def fX9_halve (a1 : Int32) (σ : zSt) : Option zSt := fX9_halve_0 a1 σ
set_option maxRecDepth 100000 in
set_option maxHeartbeats 4000000 in
theorem wX9_halve_5 {T : zX} (hC : zOk T cX9_halve RX9 1 25 61 85) (hN : zNL T = 4) {σ' : zSt} (hQ : zRes T none (none) σ') (K5 : Int32 → Int32 → zSt → Option zSt) (hK5 : ∀ (v1 : Int32) (v2 : Int32) (τ : zSt), K5 v1 v2 τ = some σ' → Z T τ 5 [(0, .ref (zAd T (61))), (1, .int v1), (2, .int v2)] []) (v1 : Int32) (v2 : Int32)  (σ : zSt) (h : fX9_halve_5 K5 v1 v2 σ = some σ') : Z T σ 5 [(0, .ref (zAd T (61))), (1, .int v1), (2, .int v2)] [] := by
  unfold fX9_halve_5 at h
  refine z_iload_n hC 2 rfl rfl dX9_halve_5 ?_
  refine z_iload_n hC 1 rfl rfl dX9_halve_6 ?_
  refine z_iconst hC (1 : Int32) (by decide) dX9_halve_7 ?_
  refine z_iadd hC dX9_halve_8 ?_
  refine z_icmp_le hC 74 (by decide) dX9_halve_9 (fun q9_1 => ?_) (fun q9_1 => ?_)
  · replace h := z_t q9_1 h
    refine z_aload_n hC 0 rfl rfl dX9_halve_74 ?_
    refine gX9_34 hC kf_X9_61 dX9_halve_75 ?_
    refine z_iload_n hC 1 rfl rfl dX9_halve_78 ?_
    refine z_g h (fun g79_2 h => ?_)
    refine z_lald hC 78 ⟨by decide, by decide⟩ (zS_78 _ _ _) g79_2 (gl σ 78 v1.toNatClampNeg) rfl dX9_halve_79 ?_
    refine z_aload_n hC 0 rfl rfl dX9_halve_80 ?_
    refine gX9_35 hC kf_X9_64 dX9_halve_81 ?_
    refine z_iload_n hC 1 rfl rfl dX9_halve_84 ?_
    refine z_g h (fun g85_3 h => ?_)
    refine z_lald hC 79 ⟨by decide, by decide⟩ (zS_79 _ _ _) g85_3 (gl σ 79 v1.toNatClampNeg) rfl dX9_halve_85 ?_
    refine z_ladd hC dX9_halve_86 ?_
    refine z_ldc2 hC kc_X9_292 dX9_halve_87 ?_
    refine z_b1 h (fun r90_4 e_r90_4 h => ?_)
    refine z_cS2r hC (ctX9_down hC.hm e_r90_4) kb_X9_down km_X9_209 ⟨by decide, by decide⟩ (Nat.le_of_ble_eq_true rfl) dX9_halve_90 ?_
    refine z_lstore_n hC [(2, .long r90_4), (0, .ref (zAd T (61))), (1, .int v1)] rfl (by rw [hN]; decide) rfl dX9_halve_93 ?_
    refine z_aload_n hC 1 rfl rfl dX9_halve_94 ?_
    refine gX9_35 hC kf_X9_64 dX9_halve_95 ?_
    refine z_iload_n hC 2 rfl rfl dX9_halve_98 ?_
    refine z_iconst hC (1 : Int32) (by decide) dX9_halve_99 ?_
    refine z_iadd hC dX9_halve_100 ?_
    refine z_aload_n hC 1 rfl rfl dX9_halve_101 ?_
    refine gX9_35 hC kf_X9_64 dX9_halve_102 ?_
    refine z_iload_n hC 2 rfl rfl dX9_halve_105 ?_
    refine z_g h (fun g106_5 h => ?_)
    refine z_lald hC 79 ⟨by decide, by decide⟩ (zS_79 _ _ _) g106_5 (gl σ 79 v1.toNatClampNeg) rfl dX9_halve_106 ?_
    refine z_g h (fun g107_6 h => ?_)
    refine z_last hC 79 ⟨by decide, by decide⟩ (zS_79 _) g107_6 dX9_halve_107 ?_
    refine z_aload_n hC 1 rfl rfl dX9_halve_108 ?_
    refine gX9_34 hC kf_X9_61 dX9_halve_109 ?_
    refine z_iload_n hC 2 rfl rfl dX9_halve_112 ?_
    refine z_iconst hC (1 : Int32) (by decide) dX9_halve_113 ?_
    refine z_iadd hC dX9_halve_114 ?_
    refine z_lload_n hC 0 rfl rfl dX9_halve_115 ?_
    refine z_g h (fun g116_7 h => ?_)
    refine z_last hC 78 ⟨by decide, by decide⟩ (zS_78 _) g116_7 dX9_halve_116 ?_
    refine z_aload_n hC 1 rfl rfl dX9_halve_117 ?_
    refine gX9_35 hC kf_X9_64 dX9_halve_118 ?_
    refine z_iload_n hC 2 rfl rfl dX9_halve_121 ?_
    refine z_lload_n hC 0 rfl rfl dX9_halve_122 ?_
    refine z_g h (fun g123_8 h => ?_)
    refine z_last hC 79 ⟨by decide, by decide⟩ (zS_79 _) g123_8 dX9_halve_123 ?_
    refine z_aload_n hC 1 rfl rfl dX9_halve_124 ?_
    refine z_dup hC rfl dX9_halve_125 ?_
    refine gX9_33 hC kf_X9_381 (gi σ 61 33) rfl dX9_halve_126 ?_
    refine z_iconst hC (1 : Int32) (by decide) dX9_halve_129 ?_
    refine z_iadd hC dX9_halve_130 ?_
    refine pX9_33 hC kf_X9_381 dX9_halve_131 ?_
    obtain rfl := z_so h
    exact z_vret hC hQ dX9_halve_134
  · replace h := z_f q9_1 h
    refine z_aload_n hC 0 rfl rfl dX9_halve_12 ?_
    refine gX9_34 hC kf_X9_61 dX9_halve_13 ?_
    refine z_iload_n hC 2 rfl rfl dX9_halve_16 ?_
    refine z_aload_n hC 0 rfl rfl dX9_halve_17 ?_
    refine gX9_34 hC kf_X9_61 dX9_halve_18 ?_
    refine z_iload_n hC 2 rfl rfl dX9_halve_21 ?_
    refine z_iconst hC (1 : Int32) (by decide) dX9_halve_22 ?_
    refine z_isub hC dX9_halve_23 ?_
    refine z_g h (fun g24_9 h => ?_)
    refine z_lald hC 78 ⟨by decide, by decide⟩ (zS_78 _ _ _) g24_9 (gl σ 78 (v2 - (1 : Int32)).toNatClampNeg) rfl dX9_halve_24 ?_
    refine z_g h (fun g25_10 h => ?_)
    refine z_last hC 78 ⟨by decide, by decide⟩ (zS_78 _) g25_10 dX9_halve_25 ?_
    refine z_aload_n hC 0 rfl rfl dX9_halve_26 ?_
    refine gX9_35 hC kf_X9_64 dX9_halve_27 ?_
    refine z_iload_n hC 2 rfl rfl dX9_halve_30 ?_
    refine z_aload_n hC 0 rfl rfl dX9_halve_31 ?_
    refine gX9_35 hC kf_X9_64 dX9_halve_32 ?_
    refine z_iload_n hC 2 rfl rfl dX9_halve_35 ?_
    refine z_iconst hC (1 : Int32) (by decide) dX9_halve_36 ?_
    refine z_isub hC dX9_halve_37 ?_
    refine z_g h (fun g38_11 h => ?_)
    refine z_lald hC 79 ⟨by decide, by decide⟩ (zS_79 _ _ _) g38_11 (gl σ 79 (v2 - (1 : Int32)).toNatClampNeg) rfl dX9_halve_38 ?_
    refine z_g h (fun g39_12 h => ?_)
    refine z_last hC 79 ⟨by decide, by decide⟩ (zS_79 _) g39_12 dX9_halve_39 ?_
    refine z_aload_n hC 0 rfl rfl dX9_halve_40 ?_
    refine gX9_36 hC kf_X9_67 dX9_halve_41 ?_
    refine z_iload_n hC 2 rfl rfl dX9_halve_44 ?_
    refine z_aload_n hC 0 rfl rfl dX9_halve_45 ?_
    refine gX9_36 hC kf_X9_67 dX9_halve_46 ?_
    refine z_iload_n hC 2 rfl rfl dX9_halve_49 ?_
    refine z_iconst hC (1 : Int32) (by decide) dX9_halve_50 ?_
    refine z_isub hC dX9_halve_51 ?_
    refine z_g h (fun g52_13 h => ?_)
    refine z_lald hC 80 ⟨by decide, by decide⟩ (zS_80 _ _ _) g52_13 (gl σ 80 (v2 - (1 : Int32)).toNatClampNeg) rfl dX9_halve_52 ?_
    refine z_g h (fun g53_14 h => ?_)
    refine z_last hC 80 ⟨by decide, by decide⟩ (zS_80 _) g53_14 dX9_halve_53 ?_
    refine z_aload_n hC 0 rfl rfl dX9_halve_54 ?_
    refine gX9_37 hC kf_X9_70 dX9_halve_55 ?_
    refine z_iload_n hC 2 rfl rfl dX9_halve_58 ?_
    refine z_aload_n hC 0 rfl rfl dX9_halve_59 ?_
    refine gX9_37 hC kf_X9_70 dX9_halve_60 ?_
    refine z_iload_n hC 2 rfl rfl dX9_halve_63 ?_
    refine z_iconst hC (1 : Int32) (by decide) dX9_halve_64 ?_
    refine z_isub hC dX9_halve_65 ?_
    refine z_g h (fun g66_15 h => ?_)
    refine z_lald hC 81 ⟨by decide, by decide⟩ (zS_81 _ _ _) g66_15 (gl σ 81 (v2 - (1 : Int32)).toNatClampNeg) rfl dX9_halve_66 ?_
    refine z_g h (fun g67_16 h => ?_)
    refine z_last hC 81 ⟨by decide, by decide⟩ (zS_81 _) g67_16 dX9_halve_67 ?_
    refine z_nmE h (fun x68_17 e_x68_17 h => ?_)
    refine z_iinc hC x68_17 [(2, .int x68_17), (0, .ref (zAd T (61))), (1, .int v1)] 2 rfl (by rw [e_x68_17]; rfl) (by rw [hN]; decide) rfl dX9_halve_68 ?_
    refine z_goto hC 5 (by decide) dX9_halve_71 ?_
    refine z_sub [(0, .ref (zAd T (61))), (1, .int v1), (2, .int x68_17)] [1, 2, 0] rfl ?_
    exact hK5 _ _ _ h
theorem wX9_halve_L5 {T : zX} (hC : zOk T cX9_halve RX9 1 25 61 85) (hN : zNL T = 4) {σ' : zSt} (hQ : zRes T none (none) σ') (n : Nat) : ∀ (v1 : Int32) (v2 : Int32) (σ : zSt), fX9_halve_L5 n v1 v2 σ = some σ' → Z T σ 5 [(0, .ref (zAd T (61))), (1, .int v1), (2, .int v2)] [] := by
  induction n with
  | zero => intro v1 v2 σ h; cases h
  | succ n ih => intro v1 v2 σ h; exact wX9_halve_5 hC hN hQ (fX9_halve_L5 n) ih v1 v2 σ h
set_option maxRecDepth 100000 in
set_option maxHeartbeats 4000000 in
theorem wX9_halve_0 {T : zX} (hC : zOk T cX9_halve RX9 1 25 61 85) (hN : zNL T = 4) {σ' : zSt} (hQ : zRes T none (none) σ') (a1 : Int32)  (σ : zSt) (h : fX9_halve_0 a1 σ = some σ') : Z T σ 0 [(0, .ref (zAd T (61))), (1, .int a1)] [] := by
  unfold fX9_halve_0 at h
  refine z_aload_n hC 0 rfl rfl dX9_halve_0 ?_
  refine gX9_33 hC kf_X9_381 (gi σ 61 33) rfl dX9_halve_1 ?_
  refine z_nmI h (fun x4_1 h => ?_)
  refine z_istore_n hC [(2, .int x4_1), (0, .ref (zAd T (61))), (1, .int a1)] rfl (by rw [hN]; decide) rfl dX9_halve_4 ?_
  refine z_sub [(0, .ref (zAd T (61))), (1, .int a1), (2, .int x4_1)] [1, 2, 0] rfl ?_
  exact (wX9_halve_L5 hC hN hQ zFU) _ _ _ h
set_option maxRecDepth 100000 in
theorem ctX9_halve {l : Launch} {G : zGt} {mk : zSt → zSt} (hm : zM mk 61 85) {a1 : Int32} {σ : zSt} {σ' : zSt} (h : fX9_halve a1 σ = some σ') : zMet l G mk yX9_halve cX9_halve 4 none 1 25 [.ref (gA G (61)), .int a1] σ (none) σ' := by
  unfold fX9_halve at h

  refine zMet.of (plainFor_of_name (by decide +kernel)) hm (Nat.le_of_ble_eq_true rfl) (fun T eL eG eM hN hC hQ => ?_)
  subst eL; subst eG; subst eM
  refine z_sub [(0, .ref (zAd T (61))), (1, .int a1)] [0, 1] rfl ?_
  exact wX9_halve_0 hC hN hQ _  _ h
noncomputable def fX9_sumOf_0 (a1 : Int32) (a2 : Int32) (σ : zSt) : Option (Int32 × zSt) := zg (vp_in a2 260) <| nm (gl σ 78 a2.toNatClampNeg) fun x6_2 => zg (vp_in a2 260) <| nm (gl σ 79 a2.toNatClampNeg) fun x13_4 => nm (x13_4 - x6_2) fun x19_5 => bd2 (fX9_shut a1 x6_2 x13_4 σ) fun r26_6 s26_7 => 
    (if r26_6 = 0 then some ((0 : Int32), s26_7)
    else bd1 (fX9_down ((gl s26_7 61 29) * x19_5) (1048576 : Int64)) fun r49_9 => zg (vp_in a2 260) <| bd1 (fX9_up ((gl s26_7 61 30) * x19_5) (1048576 : Int64)) fun r68_11 => zg (vp_in a2 260) <| bd2 (fX9_shutSlope a1 x6_2 x13_4 (sl (sl s26_7 80 a2.toNatClampNeg r49_9) 81 a2.toNatClampNeg r68_11)) fun r77_13 s77_14 => 
      (if r77_13 = 0 then some ((1 : Int32), s77_14)
      else bd1 (fX9_up (((gl s77_14 61 30) - (gl s77_14 61 29)) * x19_5) (1048576 : Int64)) fun r100_16 => 
        (if (2147483647 : Int64) < r100_16 then some ((1 : Int32), s77_14)
        else bd1 (fX9_down (x6_2 + x13_4) (2 : Int64)) fun r123_18 => bd1 (fX9_up (x6_2 + x13_4) (2 : Int64)) fun r133_19 => bd2 (fX9_shut a1 r123_18 r133_19 s77_14) fun r136_20 s136_21 => 
          (if r136_20 = 0 then some ((1 : Int32), s136_21)
          else bd1 (fX9_up (r100_16 * x19_5) (8388608 : Int64)) fun r152_23 => bd1 (fX9_down ((gl s136_21 61 29) * x19_5) (1048576 : Int64)) fun r172_24 => zg (vp_in a2 260) <| bd1 (fX9_up ((gl s136_21 61 30) * x19_5) (1048576 : Int64)) fun r194_26 => zg (vp_in a2 260) <| some ((1 : Int32), (sl (sl s136_21 80 a2.toNatClampNeg (r172_24 - r152_23)) 81 a2.toNatClampNeg (r194_26 + r152_23)))))))
noncomputable def fX9_sumOf (a1 : Int32) (a2 : Int32) (σ : zSt) : Option (Int32 × zSt) := fX9_sumOf_0 a1 a2 σ
set_option maxRecDepth 100000 in
set_option maxHeartbeats 4000000 in
theorem wX9_sumOf_0 {T : zX} (hC : zOk T cX9_sumOf RX9 9 253 61 85) (hN : zNL T = 13) {r : Int32} {σ' : zSt} (hQ : zRes T (some .boolean) (some (.int r)) σ') (a1 : Int32) (a2 : Int32)  (σ : zSt) (h : fX9_sumOf_0 a1 a2 σ = some (r, σ')) : Z T σ 0 [(0, .ref (zAd T (61))), (1, .int a1), (2, .int a2)] [] := by
  unfold fX9_sumOf_0 at h
  refine z_aload_n hC 0 rfl rfl dX9_sumOf_0 ?_
  refine gX9_34 hC kf_X9_61 dX9_sumOf_1 ?_
  refine z_iload_n hC 2 rfl rfl dX9_sumOf_4 ?_
  refine z_g h (fun g5_1 h => ?_)
  refine z_lald hC 78 ⟨by decide, by decide⟩ (zS_78 _ _ _) g5_1 (gl σ 78 a2.toNatClampNeg) rfl dX9_sumOf_5 ?_
  refine z_nmL h (fun x6_2 h => ?_)
  refine z_lstore_n hC [(3, .long x6_2), (0, .ref (zAd T (61))), (1, .int a1), (2, .int a2)] rfl (by rw [hN]; decide) rfl dX9_sumOf_6 ?_
  refine z_aload_n hC 1 rfl rfl dX9_sumOf_7 ?_
  refine gX9_35 hC kf_X9_64 dX9_sumOf_8 ?_
  refine z_iload_n hC 3 rfl rfl dX9_sumOf_11 ?_
  refine z_g h (fun g12_3 h => ?_)
  refine z_lald hC 79 ⟨by decide, by decide⟩ (zS_79 _ _ _) g12_3 (gl σ 79 a2.toNatClampNeg) rfl dX9_sumOf_12 ?_
  refine z_nmL h (fun x13_4 h => ?_)
  refine z_lstore hC [(5, .long x13_4), (3, .long x6_2), (0, .ref (zAd T (61))), (1, .int a1), (2, .int a2)] (by rw [hN]; decide) rfl dX9_sumOf_13 ?_
  refine z_lload hC 0 rfl dX9_sumOf_15 ?_
  refine z_lload_n hC 1 rfl rfl dX9_sumOf_17 ?_
  refine z_lsub hC dX9_sumOf_18 ?_
  refine z_nmL h (fun x19_5 h => ?_)
  refine z_lstore hC [(7, .long x19_5), (5, .long x13_4), (3, .long x6_2), (0, .ref (zAd T (61))), (1, .int a1), (2, .int a2)] (by rw [hN]; decide) rfl dX9_sumOf_19 ?_
  refine z_aload_n hC 3 rfl rfl dX9_sumOf_21 ?_
  refine z_iload_n hC 4 rfl rfl dX9_sumOf_22 ?_
  refine z_lload_n hC 2 rfl rfl dX9_sumOf_23 ?_
  refine z_lload hC 1 rfl dX9_sumOf_24 ?_
  refine z_b2 h (fun r26_6 s26_7 e_r26_6 h => ?_)
  refine z_cV3r hC (ctX9_shut hC.hm e_r26_6) (rcX9 hC) kb_X9_shut km_X9_370 ⟨by decide, by decide⟩ (Nat.le_of_ble_eq_true rfl) dX9_sumOf_26 ?_
  refine z_if_ne hC 34 (by decide) dX9_sumOf_29 (fun q29_8 => ?_) (fun q29_8 => ?_)
  · replace h := z_f q29_8 h
    refine z_aload_n hC 3 rfl rfl dX9_sumOf_34 ?_
    refine gX9_36 hC kf_X9_67 dX9_sumOf_35 ?_
    refine z_iload_n hC 5 rfl rfl dX9_sumOf_38 ?_
    refine z_aload_n hC 3 rfl rfl dX9_sumOf_39 ?_
    refine gX9_29 hC kf_X9_355 (gl s26_7 61 29) rfl dX9_sumOf_40 ?_
    refine z_lload hC 0 rfl dX9_sumOf_43 ?_
    refine z_lmul hC dX9_sumOf_45 ?_
    refine z_ldc2 hC kc_X9_207 dX9_sumOf_46 ?_
    refine z_b1 h (fun r49_9 e_r49_9 h => ?_)
    refine z_cS2r hC (ctX9_down hC.hm e_r49_9) kb_X9_down km_X9_209 ⟨by decide, by decide⟩ (Nat.le_of_ble_eq_true rfl) dX9_sumOf_49 ?_
    refine z_g h (fun g52_10 h => ?_)
    refine z_last hC 80 ⟨by decide, by decide⟩ (zS_80 _) g52_10 dX9_sumOf_52 ?_
    refine z_aload_n hC 3 rfl rfl dX9_sumOf_53 ?_
    refine gX9_37 hC kf_X9_70 dX9_sumOf_54 ?_
    refine z_iload_n hC 5 rfl rfl dX9_sumOf_57 ?_
    refine z_aload_n hC 3 rfl rfl dX9_sumOf_58 ?_
    refine gX9_30 hC kf_X9_358 (gl s26_7 61 30) rfl dX9_sumOf_59 ?_
    refine z_lload hC 0 rfl dX9_sumOf_62 ?_
    refine z_lmul hC dX9_sumOf_64 ?_
    refine z_ldc2 hC kc_X9_207 dX9_sumOf_65 ?_
    refine z_b1 h (fun r68_11 e_r68_11 h => ?_)
    refine z_cS2r hC (ctX9_up hC.hm e_r68_11) kb_X9_up km_X9_213 ⟨by decide, by decide⟩ (Nat.le_of_ble_eq_true rfl) dX9_sumOf_68 ?_
    refine z_g h (fun g71_12 h => ?_)
    refine z_last hC 81 ⟨by decide, by decide⟩ (zS_81 _) g71_12 dX9_sumOf_71 ?_
    refine z_aload_n hC 3 rfl rfl dX9_sumOf_72 ?_
    refine z_iload_n hC 4 rfl rfl dX9_sumOf_73 ?_
    refine z_lload_n hC 2 rfl rfl dX9_sumOf_74 ?_
    refine z_lload hC 1 rfl dX9_sumOf_75 ?_
    refine z_b2 h (fun r77_13 s77_14 e_r77_13 h => ?_)
    refine z_cV3r hC (ctX9_shutSlope hC.hm e_r77_13) (rcX9 hC) kb_X9_shutSlope km_X9_378 ⟨by decide, by decide⟩ (Nat.le_of_ble_eq_true rfl) dX9_sumOf_77 ?_
    refine z_if_ne hC 85 (by decide) dX9_sumOf_80 (fun q80_15 => ?_) (fun q80_15 => ?_)
    · replace h := z_f q80_15 h
      refine z_aload_n hC 3 rfl rfl dX9_sumOf_85 ?_
      refine gX9_30 hC kf_X9_358 (gl s77_14 61 30) rfl dX9_sumOf_86 ?_
      refine z_aload_n hC 3 rfl rfl dX9_sumOf_89 ?_
      refine gX9_29 hC kf_X9_355 (gl s77_14 61 29) rfl dX9_sumOf_90 ?_
      refine z_lsub hC dX9_sumOf_93 ?_
      refine z_lload hC 0 rfl dX9_sumOf_94 ?_
      refine z_lmul hC dX9_sumOf_96 ?_
      refine z_ldc2 hC kc_X9_207 dX9_sumOf_97 ?_
      refine z_b1 h (fun r100_16 e_r100_16 h => ?_)
      refine z_cS2r hC (ctX9_up hC.hm e_r100_16) kb_X9_up km_X9_213 ⟨by decide, by decide⟩ (Nat.le_of_ble_eq_true rfl) dX9_sumOf_100 ?_
      refine z_lstore hC [(9, .long r100_16), (7, .long x19_5), (5, .long x13_4), (3, .long x6_2), (0, .ref (zAd T (61))), (1, .int a1), (2, .int a2)] (by rw [hN]; decide) rfl dX9_sumOf_103 ?_
      refine z_lload hC 0 rfl dX9_sumOf_105 ?_
      refine z_ldc2 hC kc_X9_231 dX9_sumOf_107 ?_
      refine z_cmp_gt hC 142 (by decide) dX9_sumOf_110 dX9_sumOf_111 (fun q110_17 => ?_) (fun q110_17 => ?_)
      · replace h := z_t q110_17 h
        refine z_iconst hC (1 : Int32) (by decide) dX9_sumOf_142 ?_
        obtain ⟨rfl, rfl⟩ := z_pr h
        exact z_zret hC hQ dX9_sumOf_143 (by decide)
      · replace h := z_f q110_17 h
        refine z_aload_n hC 4 rfl rfl dX9_sumOf_114 ?_
        refine z_iload_n hC 5 rfl rfl dX9_sumOf_115 ?_
        refine z_lload_n hC 3 rfl rfl dX9_sumOf_116 ?_
        refine z_lload hC 2 rfl dX9_sumOf_117 ?_
        refine z_ladd hC dX9_sumOf_119 ?_
        refine z_ldc2 hC kc_X9_292 dX9_sumOf_120 ?_
        refine z_b1 h (fun r123_18 e_r123_18 h => ?_)
        refine z_cS2r hC (ctX9_down hC.hm e_r123_18) kb_X9_down km_X9_209 ⟨by decide, by decide⟩ (Nat.le_of_ble_eq_true rfl) dX9_sumOf_123 ?_
        refine z_lload_n hC 3 rfl rfl dX9_sumOf_126 ?_
        refine z_lload hC 2 rfl dX9_sumOf_127 ?_
        refine z_ladd hC dX9_sumOf_129 ?_
        refine z_ldc2 hC kc_X9_292 dX9_sumOf_130 ?_
        refine z_b1 h (fun r133_19 e_r133_19 h => ?_)
        refine z_cS2r hC (ctX9_up hC.hm e_r133_19) kb_X9_up km_X9_213 ⟨by decide, by decide⟩ (Nat.le_of_ble_eq_true rfl) dX9_sumOf_133 ?_
        refine z_b2 h (fun r136_20 s136_21 e_r136_20 h => ?_)
        refine z_cV3r hC (ctX9_shut hC.hm e_r136_20) (rcX9 hC) kb_X9_shut km_X9_370 ⟨by decide, by decide⟩ (Nat.le_of_ble_eq_true rfl) dX9_sumOf_136 ?_
        refine z_if_ne hC 144 (by decide) dX9_sumOf_139 (fun q139_22 => ?_) (fun q139_22 => ?_)
        · replace h := z_f q139_22 h
          refine z_lload hC 0 rfl dX9_sumOf_144 ?_
          refine z_lload hC 1 rfl dX9_sumOf_146 ?_
          refine z_lmul hC dX9_sumOf_148 ?_
          refine z_ldc2 hC kc_X9_384 dX9_sumOf_149 ?_
          refine z_b1 h (fun r152_23 e_r152_23 h => ?_)
          refine z_cS2r hC (ctX9_up hC.hm e_r152_23) kb_X9_up km_X9_213 ⟨by decide, by decide⟩ (Nat.le_of_ble_eq_true rfl) dX9_sumOf_152 ?_
          refine z_lstore hC [(11, .long r152_23), (9, .long r100_16), (7, .long x19_5), (5, .long x13_4), (3, .long x6_2), (0, .ref (zAd T (61))), (1, .int a1), (2, .int a2)] (by rw [hN]; decide) rfl dX9_sumOf_155 ?_
          refine z_aload_n hC 5 rfl rfl dX9_sumOf_157 ?_
          refine gX9_36 hC kf_X9_67 dX9_sumOf_158 ?_
          refine z_iload_n hC 7 rfl rfl dX9_sumOf_161 ?_
          refine z_aload_n hC 5 rfl rfl dX9_sumOf_162 ?_
          refine gX9_29 hC kf_X9_355 (gl s136_21 61 29) rfl dX9_sumOf_163 ?_
          refine z_lload hC 2 rfl dX9_sumOf_166 ?_
          refine z_lmul hC dX9_sumOf_168 ?_
          refine z_ldc2 hC kc_X9_207 dX9_sumOf_169 ?_
          refine z_b1 h (fun r172_24 e_r172_24 h => ?_)
          refine z_cS2r hC (ctX9_down hC.hm e_r172_24) kb_X9_down km_X9_209 ⟨by decide, by decide⟩ (Nat.le_of_ble_eq_true rfl) dX9_sumOf_172 ?_
          refine z_lload hC 0 rfl dX9_sumOf_175 ?_
          refine z_lsub hC dX9_sumOf_177 ?_
          refine z_g h (fun g178_25 h => ?_)
          refine z_last hC 80 ⟨by decide, by decide⟩ (zS_80 _) g178_25 dX9_sumOf_178 ?_
          refine z_aload_n hC 5 rfl rfl dX9_sumOf_179 ?_
          refine gX9_37 hC kf_X9_70 dX9_sumOf_180 ?_
          refine z_iload_n hC 7 rfl rfl dX9_sumOf_183 ?_
          refine z_aload_n hC 5 rfl rfl dX9_sumOf_184 ?_
          refine gX9_30 hC kf_X9_358 (gl s136_21 61 30) rfl dX9_sumOf_185 ?_
          refine z_lload hC 2 rfl dX9_sumOf_188 ?_
          refine z_lmul hC dX9_sumOf_190 ?_
          refine z_ldc2 hC kc_X9_207 dX9_sumOf_191 ?_
          refine z_b1 h (fun r194_26 e_r194_26 h => ?_)
          refine z_cS2r hC (ctX9_up hC.hm e_r194_26) kb_X9_up km_X9_213 ⟨by decide, by decide⟩ (Nat.le_of_ble_eq_true rfl) dX9_sumOf_194 ?_
          refine z_lload hC 0 rfl dX9_sumOf_197 ?_
          refine z_ladd hC dX9_sumOf_199 ?_
          refine z_g h (fun g200_27 h => ?_)
          refine z_last hC 81 ⟨by decide, by decide⟩ (zS_81 _) g200_27 dX9_sumOf_200 ?_
          refine z_iconst hC (1 : Int32) (by decide) dX9_sumOf_201 ?_
          obtain ⟨rfl, rfl⟩ := z_pr h
          exact z_zret hC hQ dX9_sumOf_202 (by decide)
        · replace h := z_t q139_22 h
          refine z_iconst hC (1 : Int32) (by decide) dX9_sumOf_142 ?_
          obtain ⟨rfl, rfl⟩ := z_pr h
          exact z_zret hC hQ dX9_sumOf_143 (by decide)
    · replace h := z_t q80_15 h
      refine z_iconst hC (1 : Int32) (by decide) dX9_sumOf_83 ?_
      obtain ⟨rfl, rfl⟩ := z_pr h
      exact z_zret hC hQ dX9_sumOf_84 (by decide)
  · replace h := z_t q29_8 h
    refine z_iconst hC (0 : Int32) (by decide) dX9_sumOf_32 ?_
    obtain ⟨rfl, rfl⟩ := z_pr h
    exact z_zret hC hQ dX9_sumOf_33 (by decide)
set_option maxRecDepth 100000 in
theorem ctX9_sumOf {l : Launch} {G : zGt} {mk : zSt → zSt} (hm : zM mk 61 85) {a1 : Int32} {a2 : Int32} {σ : zSt} {r : Int32} {σ' : zSt} (h : fX9_sumOf a1 a2 σ = some (r, σ')) : zMet l G mk yX9_sumOf cX9_sumOf 13 (some .boolean) 9 253 [.ref (gA G (61)), .int a1, .int a2] σ (some (.int r)) σ' := by
  unfold fX9_sumOf at h

  refine zMet.of (plainFor_of_name (by decide +kernel)) hm (Nat.le_of_ble_eq_true rfl) (fun T eL eG eM hN hC hQ => ?_)
  subst eL; subst eG; subst eM
  refine z_sub [(0, .ref (zAd T (61))), (1, .int a1), (2, .int a2)] [0, 1, 2] rfl ?_
  exact wX9_sumOf_0 hC hN hQ _ _  _ h
noncomputable def fX9_area_250 (K104 : Int32 → Int32 → Int64 → Int64 → Int64 → Int32 → zSt → Option (Int32 × zSt)) (K250 : Int32 → Int32 → Int64 → Int64 → Int64 → Int32 → Int64 → Int64 → Int32 → zSt → Option (Int32 × zSt)) (v1 : Int32) (v4 : Int32) (v5 : Int64) (v9 : Int64) (v11 : Int64) (v13 : Int32) (v15 : Int64) (v17 : Int64) (v19 : Int32) (σ : zSt) : Option (Int32 × zSt) := 
    (if (gi σ 61 33) ≤ v19 then nm (fX9_more v9 v15) fun x296_2 => nm (fX9_less v11 v17) fun x305_3 => nm (v13 + (1 : Int32)) fun x307_4 => K104 v1 v4 v5 x296_2 x305_3 x307_4 σ
    else zg (vp_in v19 260) <| nm (v15 + (gl σ 80 v19.toNatClampNeg)) fun x269_6 => zg (vp_in v19 260) <| nm (v17 + (gl σ 81 v19.toNatClampNeg)) fun x281_8 => nm (v19 + (1 : Int32)) fun x283_9 => K250 v1 v4 v5 v9 v11 v13 x269_6 x281_8 x283_9 σ)
noncomputable def fX9_area_L250 (K104 : Int32 → Int32 → Int64 → Int64 → Int64 → Int32 → zSt → Option (Int32 × zSt)) : Nat → Int32 → Int32 → Int64 → Int64 → Int64 → Int32 → Int64 → Int64 → Int32 → zSt → Option (Int32 × zSt)
  | 0, _, _, _, _, _, _, _, _, _, _ => none
  | n + 1, v1, v4, v5, v9, v11, v13, v15, v17, v19, σ => fX9_area_250 K104 (fX9_area_L250 K104 n) v1 v4 v5 v9 v11 v13 v15 v17 v19 σ
noncomputable def fX9_area_128 (K104 : Int32 → Int32 → Int64 → Int64 → Int64 → Int32 → zSt → Option (Int32 × zSt)) (K128 : Int32 → Int32 → Int64 → Int64 → Int64 → Int32 → Int32 → Int32 → zSt → Option (Int32 × zSt)) (v1 : Int32) (v4 : Int32) (v5 : Int64) (v9 : Int64) (v11 : Int64) (v13 : Int32) (v14 : Int32) (v15 : Int32) (σ : zSt) : Option (Int32 × zSt) := 
    (if (gi σ 61 33) ≤ v15 then zg (vp_in v14 260) <| zg (vp_in v14 260) <| 
      (if (2 : Int64) ≤ ((gl σ 79 v14.toNatClampNeg) - (gl σ 78 v14.toNatClampNeg)) then bd1 (fX9_halve v14 σ) fun s214_5 => bd2 (fX9_sumOf v1 v14 s214_5) fun r221_6 s221_7 => 
        (if r221_6 = 0 then some ((1 : Int32), s221_7)
        else bd2 (fX9_sumOf v1 (v14 + (1 : Int32)) s221_7) fun r233_9 s233_10 => 
          (if r233_9 = 0 then some ((1 : Int32), s233_10)
          else fX9_area_L250 K104 zFU v1 v4 v5 v9 v11 v13 (0 : Int64) (0 : Int64) (0 : Int32) s233_10))
      else bd2 (fX9_tells (1 : Int32) v9 v11 (si σ 61 38 (gi σ 61 33))) fun r327_12 s327_13 => some (r327_12, s327_13))
    else zg (vp_in v15 260) <| zg (vp_in v15 260) <| zg (vp_in v14 260) <| zg (vp_in v14 260) <| 
      (if ((gl σ 81 v15.toNatClampNeg) - (gl σ 80 v15.toNatClampNeg)) ≤ ((gl σ 81 v14.toNatClampNeg) - (gl σ 80 v14.toNatClampNeg)) then nm (v15 + (1 : Int32)) fun x180_19 => K128 v1 v4 v5 v9 v11 v13 v14 x180_19 σ
      else nm (v15 + (1 : Int32)) fun x180_20 => K128 v1 v4 v5 v9 v11 v13 v15 x180_20 σ))
noncomputable def fX9_area_L128 (K104 : Int32 → Int32 → Int64 → Int64 → Int64 → Int32 → zSt → Option (Int32 × zSt)) : Nat → Int32 → Int32 → Int64 → Int64 → Int64 → Int32 → Int32 → Int32 → zSt → Option (Int32 × zSt)
  | 0, _, _, _, _, _, _, _, _, _ => none
  | n + 1, v1, v4, v5, v9, v11, v13, v14, v15, σ => fX9_area_128 K104 (fX9_area_L128 K104 n) v1 v4 v5 v9 v11 v13 v14 v15 σ
noncomputable def fX9_area_104 (K104 : Int32 → Int32 → Int64 → Int64 → Int64 → Int32 → zSt → Option (Int32 × zSt)) (v1 : Int32) (v4 : Int32) (v5 : Int64) (v9 : Int64) (v11 : Int64) (v13 : Int32) (σ : zSt) : Option (Int32 × zSt) := 
    (if v4 ≤ v13 then bd2 (fX9_tells (1 : Int32) v9 v11 (si σ 61 38 (gi σ 61 33))) fun r327_2 s327_3 => some (r327_2, s327_3)
    else 
      (if (v11 - v9) ≤ v5 then bd2 (fX9_tells (1 : Int32) v9 v11 (si σ 61 38 (gi σ 61 33))) fun r327_5 s327_6 => some (r327_5, s327_6)
      else fX9_area_L128 K104 zFU v1 v4 v5 v9 v11 v13 (0 : Int32) (1 : Int32) σ))
noncomputable def fX9_area_L104 : Nat → Int32 → Int32 → Int64 → Int64 → Int64 → Int32 → zSt → Option (Int32 × zSt)
  | 0, _, _, _, _, _, _, _ => none
  | n + 1, v1, v4, v5, v9, v11, v13, σ => fX9_area_104 (fX9_area_L104 n) v1 v4 v5 v9 v11 v13 σ
noncomputable def fX9_area_0 (a1 : Int32) (a2 : Int32) (a3 : Int32) (a4 : Int32) (a5 : Int64) (σ : zSt) : Option (Int32 × zSt) := nm ((Int32.toInt64 a3) - (Int32.toInt64 a2)) fun x5_1 => 
    (if (fX9_has a1 σ) = 0 then some ((-1 : Int32), σ)
    else 
      (if x5_1 < (1 : Int64) then some ((-1 : Int32), σ)
      else 
        (if (1073741824 : Int64) < x5_1 then some ((-1 : Int32), σ)
        else 
          (if a4 < 0 then some ((-1 : Int32), σ)
          else 
            (if (200 : Int32) < a4 then some ((-1 : Int32), σ)
            else 
              (if (0 : Int64) ≤ a5 then bd2 (fX9_sumOf a1 (0 : Int32) (sl (sl (si σ 61 33 (1 : Int32)) 78 (0 : Int32).toNatClampNeg (Int32.toInt64 a2)) 79 (0 : Int32).toNatClampNeg (Int32.toInt64 a3))) fun r77_8 s77_9 => 
                (if r77_8 = 0 then some ((1 : Int32), s77_9)
                else nm (gl s77_9 80 (0 : Int32).toNatClampNeg) fun x91_11 => nm (gl s77_9 81 (0 : Int32).toNatClampNeg) fun x99_12 => fX9_area_L104 zFU a1 a4 a5 x91_11 x99_12 (0 : Int32) s77_9)
              else some ((-1 : Int32), σ)))))))
noncomputable def fX9_area (a1 : Int32) (a2 : Int32) (a3 : Int32) (a4 : Int32) (a5 : Int64) (σ : zSt) : Option (Int32 × zSt) := fX9_area_0 a1 a2 a3 a4 a5 σ
set_option maxRecDepth 100000 in
set_option maxHeartbeats 4000000 in
theorem wX9_area_250 {T : zX} (hC : zOk T cX9_area RX9 10 285 61 85) (hN : zNL T = 20) {r : Int32} {σ' : zSt} (hQ : zRes T (some .int) (some (.int r)) σ') (K104 : Int32 → Int32 → Int64 → Int64 → Int64 → Int32 → zSt → Option (Int32 × zSt)) (hK104 : ∀ (v1 : Int32) (v4 : Int32) (v5 : Int64) (v9 : Int64) (v11 : Int64) (v13 : Int32) (τ : zSt), K104 v1 v4 v5 v9 v11 v13 τ = some (r, σ') → Z T τ 104 [(0, .ref (zAd T (61))), (1, .int v1), (4, .int v4), (5, .long v5), (9, .long v9), (11, .long v11), (13, .int v13)] []) (K250 : Int32 → Int32 → Int64 → Int64 → Int64 → Int32 → Int64 → Int64 → Int32 → zSt → Option (Int32 × zSt)) (hK250 : ∀ (v1 : Int32) (v4 : Int32) (v5 : Int64) (v9 : Int64) (v11 : Int64) (v13 : Int32) (v15 : Int64) (v17 : Int64) (v19 : Int32) (τ : zSt), K250 v1 v4 v5 v9 v11 v13 v15 v17 v19 τ = some (r, σ') → Z T τ 250 [(0, .ref (zAd T (61))), (1, .int v1), (4, .int v4), (5, .long v5), (9, .long v9), (11, .long v11), (13, .int v13), (15, .long v15), (17, .long v17), (19, .int v19)] []) (v1 : Int32) (v4 : Int32) (v5 : Int64) (v9 : Int64) (v11 : Int64) (v13 : Int32) (v15 : Int64) (v17 : Int64) (v19 : Int32)  (σ : zSt) (h : fX9_area_250 K104 K250 v1 v4 v5 v9 v11 v13 v15 v17 v19 σ = some (r, σ')) : Z T σ 250 [(0, .ref (zAd T (61))), (1, .int v1), (4, .int v4), (5, .long v5), (9, .long v9), (11, .long v11), (13, .int v13), (15, .long v15), (17, .long v17), (19, .int v19)] [] := by
  unfold fX9_area_250 at h
  refine z_iload hC 9 rfl dX9_area_250 ?_
  refine z_aload_n hC 0 rfl rfl dX9_area_252 ?_
  refine gX9_33 hC kf_X9_381 (gi σ 61 33) rfl dX9_area_253 ?_
  refine z_icmp_ge hC 289 (by decide) dX9_area_256 (fun q256_1 => ?_) (fun q256_1 => ?_)
  · replace h := z_t q256_1 h
    refine z_lload hC 4 rfl dX9_area_289 ?_
    refine z_lload hC 7 rfl dX9_area_291 ?_
    refine z_cS2r hC (ctX9_more hC.hm) kb_X9_more km_X9_240 ⟨by decide, by decide⟩ (Nat.le_of_ble_eq_true rfl) dX9_area_293 ?_
    refine z_nmL h (fun x296_2 h => ?_)
    refine z_lstore hC [(9, .long x296_2), (0, .ref (zAd T (61))), (1, .int v1), (4, .int v4), (5, .long v5), (11, .long v11), (13, .int v13), (15, .long v15), (17, .long v17), (19, .int v19)] (by rw [hN]; decide) rfl dX9_area_296 ?_
    refine z_lload hC 5 rfl dX9_area_298 ?_
    refine z_lload hC 8 rfl dX9_area_300 ?_
    refine z_cS2r hC (ctX9_less hC.hm) kb_X9_less km_X9_237 ⟨by decide, by decide⟩ (Nat.le_of_ble_eq_true rfl) dX9_area_302 ?_
    refine z_nmL h (fun x305_3 h => ?_)
    refine z_lstore hC [(11, .long x305_3), (9, .long x296_2), (0, .ref (zAd T (61))), (1, .int v1), (4, .int v4), (5, .long v5), (13, .int v13), (15, .long v15), (17, .long v17), (19, .int v19)] (by rw [hN]; decide) rfl dX9_area_305 ?_
    refine z_nmE h (fun x307_4 e_x307_4 h => ?_)
    refine z_iinc hC x307_4 [(13, .int x307_4), (11, .long x305_3), (9, .long x296_2), (0, .ref (zAd T (61))), (1, .int v1), (4, .int v4), (5, .long v5), (15, .long v15), (17, .long v17), (19, .int v19)] 6 rfl (by rw [e_x307_4]; rfl) (by rw [hN]; decide) rfl dX9_area_307 ?_
    refine z_goto hC 104 (by decide) dX9_area_310 ?_
    refine z_sub [(0, .ref (zAd T (61))), (1, .int v1), (4, .int v4), (5, .long v5), (9, .long x296_2), (11, .long x305_3), (13, .int x307_4)] [3, 4, 5, 6, 2, 1, 0] rfl ?_
    exact hK104 _ _ _ _ _ _ _ h
  · replace h := z_f q256_1 h
    refine z_lload hC 7 rfl dX9_area_259 ?_
    refine z_aload_n hC 0 rfl rfl dX9_area_261 ?_
    refine gX9_36 hC kf_X9_67 dX9_area_262 ?_
    refine z_iload hC 9 rfl dX9_area_265 ?_
    refine z_g h (fun g267_5 h => ?_)
    refine z_lald hC 80 ⟨by decide, by decide⟩ (zS_80 _ _ _) g267_5 (gl σ 80 v19.toNatClampNeg) rfl dX9_area_267 ?_
    refine z_ladd hC dX9_area_268 ?_
    refine z_nmL h (fun x269_6 h => ?_)
    refine z_lstore hC [(15, .long x269_6), (0, .ref (zAd T (61))), (1, .int v1), (4, .int v4), (5, .long v5), (9, .long v9), (11, .long v11), (13, .int v13), (17, .long v17), (19, .int v19)] (by rw [hN]; decide) rfl dX9_area_269 ?_
    refine z_lload hC 8 rfl dX9_area_271 ?_
    refine z_aload_n hC 1 rfl rfl dX9_area_273 ?_
    refine gX9_37 hC kf_X9_70 dX9_area_274 ?_
    refine z_iload hC 9 rfl dX9_area_277 ?_
    refine z_g h (fun g279_7 h => ?_)
    refine z_lald hC 81 ⟨by decide, by decide⟩ (zS_81 _ _ _) g279_7 (gl σ 81 v19.toNatClampNeg) rfl dX9_area_279 ?_
    refine z_ladd hC dX9_area_280 ?_
    refine z_nmL h (fun x281_8 h => ?_)
    refine z_lstore hC [(17, .long x281_8), (15, .long x269_6), (0, .ref (zAd T (61))), (1, .int v1), (4, .int v4), (5, .long v5), (9, .long v9), (11, .long v11), (13, .int v13), (19, .int v19)] (by rw [hN]; decide) rfl dX9_area_281 ?_
    refine z_nmE h (fun x283_9 e_x283_9 h => ?_)
    refine z_iinc hC x283_9 [(19, .int x283_9), (17, .long x281_8), (15, .long x269_6), (0, .ref (zAd T (61))), (1, .int v1), (4, .int v4), (5, .long v5), (9, .long v9), (11, .long v11), (13, .int v13)] 9 rfl (by rw [e_x283_9]; rfl) (by rw [hN]; decide) rfl dX9_area_283 ?_
    refine z_goto hC 250 (by decide) dX9_area_286 ?_
    refine z_sub [(0, .ref (zAd T (61))), (1, .int v1), (4, .int v4), (5, .long v5), (9, .long v9), (11, .long v11), (13, .int v13), (15, .long x269_6), (17, .long x281_8), (19, .int x283_9)] [3, 4, 5, 6, 7, 8, 9, 2, 1, 0] rfl ?_
    exact hK250 _ _ _ _ _ _ _ _ _ _ h
theorem wX9_area_L250 {T : zX} (hC : zOk T cX9_area RX9 10 285 61 85) (hN : zNL T = 20) {r : Int32} {σ' : zSt} (hQ : zRes T (some .int) (some (.int r)) σ') (K104 : Int32 → Int32 → Int64 → Int64 → Int64 → Int32 → zSt → Option (Int32 × zSt)) (hK104 : ∀ (v1 : Int32) (v4 : Int32) (v5 : Int64) (v9 : Int64) (v11 : Int64) (v13 : Int32) (τ : zSt), K104 v1 v4 v5 v9 v11 v13 τ = some (r, σ') → Z T τ 104 [(0, .ref (zAd T (61))), (1, .int v1), (4, .int v4), (5, .long v5), (9, .long v9), (11, .long v11), (13, .int v13)] []) (n : Nat) : ∀ (v1 : Int32) (v4 : Int32) (v5 : Int64) (v9 : Int64) (v11 : Int64) (v13 : Int32) (v15 : Int64) (v17 : Int64) (v19 : Int32) (σ : zSt), fX9_area_L250 K104 n v1 v4 v5 v9 v11 v13 v15 v17 v19 σ = some (r, σ') → Z T σ 250 [(0, .ref (zAd T (61))), (1, .int v1), (4, .int v4), (5, .long v5), (9, .long v9), (11, .long v11), (13, .int v13), (15, .long v15), (17, .long v17), (19, .int v19)] [] := by
  induction n with
  | zero => intro v1 v4 v5 v9 v11 v13 v15 v17 v19 σ h; cases h
  | succ n ih => intro v1 v4 v5 v9 v11 v13 v15 v17 v19 σ h; exact wX9_area_250 hC hN hQ K104 hK104 (fX9_area_L250 K104 n) ih v1 v4 v5 v9 v11 v13 v15 v17 v19 σ h
set_option maxRecDepth 100000 in
set_option maxHeartbeats 4000000 in
theorem wX9_area_128 {T : zX} (hC : zOk T cX9_area RX9 10 285 61 85) (hN : zNL T = 20) {r : Int32} {σ' : zSt} (hQ : zRes T (some .int) (some (.int r)) σ') (K104 : Int32 → Int32 → Int64 → Int64 → Int64 → Int32 → zSt → Option (Int32 × zSt)) (hK104 : ∀ (v1 : Int32) (v4 : Int32) (v5 : Int64) (v9 : Int64) (v11 : Int64) (v13 : Int32) (τ : zSt), K104 v1 v4 v5 v9 v11 v13 τ = some (r, σ') → Z T τ 104 [(0, .ref (zAd T (61))), (1, .int v1), (4, .int v4), (5, .long v5), (9, .long v9), (11, .long v11), (13, .int v13)] []) (K128 : Int32 → Int32 → Int64 → Int64 → Int64 → Int32 → Int32 → Int32 → zSt → Option (Int32 × zSt)) (hK128 : ∀ (v1 : Int32) (v4 : Int32) (v5 : Int64) (v9 : Int64) (v11 : Int64) (v13 : Int32) (v14 : Int32) (v15 : Int32) (τ : zSt), K128 v1 v4 v5 v9 v11 v13 v14 v15 τ = some (r, σ') → Z T τ 128 [(0, .ref (zAd T (61))), (1, .int v1), (4, .int v4), (5, .long v5), (9, .long v9), (11, .long v11), (13, .int v13), (14, .int v14), (15, .int v15)] []) (v1 : Int32) (v4 : Int32) (v5 : Int64) (v9 : Int64) (v11 : Int64) (v13 : Int32) (v14 : Int32) (v15 : Int32)  (σ : zSt) (h : fX9_area_128 K104 K128 v1 v4 v5 v9 v11 v13 v14 v15 σ = some (r, σ')) : Z T σ 128 [(0, .ref (zAd T (61))), (1, .int v1), (4, .int v4), (5, .long v5), (9, .long v9), (11, .long v11), (13, .int v13), (14, .int v14), (15, .int v15)] [] := by
  unfold fX9_area_128 at h
  refine z_iload hC 8 rfl dX9_area_128 ?_
  refine z_aload_n hC 0 rfl rfl dX9_area_130 ?_
  refine gX9_33 hC kf_X9_381 (gi σ 61 33) rfl dX9_area_131 ?_
  refine z_icmp_ge hC 186 (by decide) dX9_area_134 (fun q134_1 => ?_) (fun q134_1 => ?_)
  · replace h := z_t q134_1 h
    refine z_aload_n hC 0 rfl rfl dX9_area_186 ?_
    refine gX9_35 hC kf_X9_64 dX9_area_187 ?_
    refine z_iload hC 7 rfl dX9_area_190 ?_
    refine z_g h (fun g192_2 h => ?_)
    refine z_lald hC 79 ⟨by decide, by decide⟩ (zS_79 _ _ _) g192_2 (gl σ 79 v14.toNatClampNeg) rfl dX9_area_192 ?_
    refine z_aload_n hC 0 rfl rfl dX9_area_193 ?_
    refine gX9_34 hC kf_X9_61 dX9_area_194 ?_
    refine z_iload hC 7 rfl dX9_area_197 ?_
    refine z_g h (fun g199_3 h => ?_)
    refine z_lald hC 78 ⟨by decide, by decide⟩ (zS_78 _ _ _) g199_3 (gl σ 78 v14.toNatClampNeg) rfl dX9_area_199 ?_
    refine z_lsub hC dX9_area_200 ?_
    refine z_ldc2 hC kc_X9_292 dX9_area_201 ?_
    refine z_cmp_ge hC 211 (by decide) dX9_area_204 dX9_area_205 (fun q204_4 => ?_) (fun q204_4 => ?_)
    · replace h := z_t q204_4 h
      refine z_aload_n hC 0 rfl rfl dX9_area_211 ?_
      refine z_iload hC 7 rfl dX9_area_212 ?_
      refine z_b1 h (fun s214_5 e_s214_5 h => ?_)
      refine z_cV1v hC (ctX9_halve hC.hm e_s214_5) (rcX9 hC) kb_X9_halve km_X9_392 ⟨by decide, by decide⟩ (Nat.le_of_ble_eq_true rfl) dX9_area_214 ?_
      refine z_aload_n hC 0 rfl rfl dX9_area_217 ?_
      refine z_iload_n hC 1 rfl rfl dX9_area_218 ?_
      refine z_iload hC 7 rfl dX9_area_219 ?_
      refine z_b2 h (fun r221_6 s221_7 e_r221_6 h => ?_)
      refine z_cV2r hC (ctX9_sumOf hC.hm e_r221_6) (rcX9 hC) kb_X9_sumOf km_X9_388 ⟨by decide, by decide⟩ (Nat.le_of_ble_eq_true rfl) dX9_area_221 ?_
      refine z_if_eq hC 239 (by decide) dX9_area_224 (fun q224_8 => ?_) (fun q224_8 => ?_)
      · replace h := z_t q224_8 h
        refine z_iconst hC (1 : Int32) (by decide) dX9_area_239 ?_
        obtain ⟨rfl, rfl⟩ := z_pr h
        exact z_iret hC hQ dX9_area_240
      · replace h := z_f q224_8 h
        refine z_aload_n hC 0 rfl rfl dX9_area_227 ?_
        refine z_iload_n hC 1 rfl rfl dX9_area_228 ?_
        refine z_iload hC 7 rfl dX9_area_229 ?_
        refine z_iconst hC (1 : Int32) (by decide) dX9_area_231 ?_
        refine z_iadd hC dX9_area_232 ?_
        refine z_b2 h (fun r233_9 s233_10 e_r233_9 h => ?_)
        refine z_cV2r hC (ctX9_sumOf hC.hm e_r233_9) (rcX9 hC) kb_X9_sumOf km_X9_388 ⟨by decide, by decide⟩ (Nat.le_of_ble_eq_true rfl) dX9_area_233 ?_
        refine z_if_ne hC 241 (by decide) dX9_area_236 (fun q236_11 => ?_) (fun q236_11 => ?_)
        · replace h := z_f q236_11 h
          refine z_lconst hC (0 : Int64) (by decide) dX9_area_241 ?_
          refine z_lstore hC [(15, .long (0 : Int64)), (0, .ref (zAd T (61))), (1, .int v1), (4, .int v4), (5, .long v5), (9, .long v9), (11, .long v11), (13, .int v13), (14, .int v14)] (by rw [hN]; decide) rfl dX9_area_242 ?_
          refine z_lconst hC (0 : Int64) (by decide) dX9_area_244 ?_
          refine z_lstore hC [(17, .long (0 : Int64)), (15, .long (0 : Int64)), (0, .ref (zAd T (61))), (1, .int v1), (4, .int v4), (5, .long v5), (9, .long v9), (11, .long v11), (13, .int v13), (14, .int v14)] (by rw [hN]; decide) rfl dX9_area_245 ?_
          refine z_iconst hC (0 : Int32) (by decide) dX9_area_247 ?_
          refine z_istore hC [(19, .int (0 : Int32)), (17, .long (0 : Int64)), (15, .long (0 : Int64)), (0, .ref (zAd T (61))), (1, .int v1), (4, .int v4), (5, .long v5), (9, .long v9), (11, .long v11), (13, .int v13), (14, .int v14)] (by rw [hN]; decide) rfl dX9_area_248 ?_
          refine z_sub [(0, .ref (zAd T (61))), (1, .int v1), (4, .int v4), (5, .long v5), (9, .long v9), (11, .long v11), (13, .int v13), (15, .long (0 : Int64)), (17, .long (0 : Int64)), (19, .int (0 : Int32))] [3, 4, 5, 6, 7, 8, 9, 2, 1, 0] rfl ?_
          exact (wX9_area_L250 hC hN hQ K104 hK104 zFU) _ _ _ _ _ _ _ _ _ _ h
        · replace h := z_t q236_11 h
          refine z_iconst hC (1 : Int32) (by decide) dX9_area_239 ?_
          obtain ⟨rfl, rfl⟩ := z_pr h
          exact z_iret hC hQ dX9_area_240
    · replace h := z_f q204_4 h
      refine z_goto hC 313 (by decide) dX9_area_208 ?_
      refine z_aload_n hC 0 rfl rfl dX9_area_313 ?_
      refine z_aload_n hC 0 rfl rfl dX9_area_314 ?_
      refine gX9_33 hC kf_X9_381 (gi σ 61 33) rfl dX9_area_315 ?_
      refine pX9_38 hC kf_X9_395 dX9_area_318 ?_
      refine z_aload_n hC 0 rfl rfl dX9_area_321 ?_
      refine z_iconst hC (1 : Int32) (by decide) dX9_area_322 ?_
      refine z_lload hC 4 rfl dX9_area_323 ?_
      refine z_lload hC 5 rfl dX9_area_325 ?_
      refine z_b2 h (fun r327_12 s327_13 e_r327_12 h => ?_)
      refine z_cV3r hC (ctX9_tells hC.hm e_r327_12) (rcX9 hC) kb_X9_tells km_X9_374 ⟨by decide, by decide⟩ (Nat.le_of_ble_eq_true rfl) dX9_area_327 ?_
      obtain ⟨rfl, rfl⟩ := z_pr h
      exact z_iret hC hQ dX9_area_330
  · replace h := z_f q134_1 h
    refine z_aload_n hC 0 rfl rfl dX9_area_137 ?_
    refine gX9_37 hC kf_X9_70 dX9_area_138 ?_
    refine z_iload hC 8 rfl dX9_area_141 ?_
    refine z_g h (fun g143_14 h => ?_)
    refine z_lald hC 81 ⟨by decide, by decide⟩ (zS_81 _ _ _) g143_14 (gl σ 81 v15.toNatClampNeg) rfl dX9_area_143 ?_
    refine z_aload_n hC 0 rfl rfl dX9_area_144 ?_
    refine gX9_36 hC kf_X9_67 dX9_area_145 ?_
    refine z_iload hC 8 rfl dX9_area_148 ?_
    refine z_g h (fun g150_15 h => ?_)
    refine z_lald hC 80 ⟨by decide, by decide⟩ (zS_80 _ _ _) g150_15 (gl σ 80 v15.toNatClampNeg) rfl dX9_area_150 ?_
    refine z_lsub hC dX9_area_151 ?_
    refine z_aload_n hC 0 rfl rfl dX9_area_152 ?_
    refine gX9_37 hC kf_X9_70 dX9_area_153 ?_
    refine z_iload hC 7 rfl dX9_area_156 ?_
    refine z_g h (fun g158_16 h => ?_)
    refine z_lald hC 81 ⟨by decide, by decide⟩ (zS_81 _ _ _) g158_16 (gl σ 81 v14.toNatClampNeg) rfl dX9_area_158 ?_
    refine z_aload_n hC 0 rfl rfl dX9_area_159 ?_
    refine gX9_36 hC kf_X9_67 dX9_area_160 ?_
    refine z_iload hC 7 rfl dX9_area_163 ?_
    refine z_g h (fun g165_17 h => ?_)
    refine z_lald hC 80 ⟨by decide, by decide⟩ (zS_80 _ _ _) g165_17 (gl σ 80 v14.toNatClampNeg) rfl dX9_area_165 ?_
    refine z_lsub hC dX9_area_166 ?_
    refine z_cmp_le hC 176 (by decide) dX9_area_167 dX9_area_168 (fun q167_18 => ?_) (fun q167_18 => ?_)
    · replace h := z_t q167_18 h
      refine z_iload hC 7 rfl dX9_area_176 ?_
      refine z_istore hC [(14, .int v14), (0, .ref (zAd T (61))), (1, .int v1), (4, .int v4), (5, .long v5), (9, .long v9), (11, .long v11), (13, .int v13), (15, .int v15)] (by rw [hN]; decide) rfl dX9_area_178 ?_
      refine z_nmE h (fun x180_19 e_x180_19 h => ?_)
      refine z_iinc hC x180_19 [(15, .int x180_19), (14, .int v14), (0, .ref (zAd T (61))), (1, .int v1), (4, .int v4), (5, .long v5), (9, .long v9), (11, .long v11), (13, .int v13)] 8 rfl (by rw [e_x180_19]; rfl) (by rw [hN]; decide) rfl dX9_area_180 ?_
      refine z_goto hC 128 (by decide) dX9_area_183 ?_
      refine z_sub [(0, .ref (zAd T (61))), (1, .int v1), (4, .int v4), (5, .long v5), (9, .long v9), (11, .long v11), (13, .int v13), (14, .int v14), (15, .int x180_19)] [2, 3, 4, 5, 6, 7, 8, 1, 0] rfl ?_
      exact hK128 _ _ _ _ _ _ _ _ _ h
    · replace h := z_f q167_18 h
      refine z_iload hC 8 rfl dX9_area_171 ?_
      refine z_goto hC 178 (by decide) dX9_area_173 ?_
      refine z_istore hC [(14, .int v15), (0, .ref (zAd T (61))), (1, .int v1), (4, .int v4), (5, .long v5), (9, .long v9), (11, .long v11), (13, .int v13), (15, .int v15)] (by rw [hN]; decide) rfl dX9_area_178 ?_
      refine z_nmE h (fun x180_20 e_x180_20 h => ?_)
      refine z_iinc hC x180_20 [(15, .int x180_20), (14, .int v15), (0, .ref (zAd T (61))), (1, .int v1), (4, .int v4), (5, .long v5), (9, .long v9), (11, .long v11), (13, .int v13)] 8 rfl (by rw [e_x180_20]; rfl) (by rw [hN]; decide) rfl dX9_area_180 ?_
      refine z_goto hC 128 (by decide) dX9_area_183 ?_
      refine z_sub [(0, .ref (zAd T (61))), (1, .int v1), (4, .int v4), (5, .long v5), (9, .long v9), (11, .long v11), (13, .int v13), (14, .int v15), (15, .int x180_20)] [2, 3, 4, 5, 6, 7, 8, 1, 0] rfl ?_
      exact hK128 _ _ _ _ _ _ _ _ _ h
theorem wX9_area_L128 {T : zX} (hC : zOk T cX9_area RX9 10 285 61 85) (hN : zNL T = 20) {r : Int32} {σ' : zSt} (hQ : zRes T (some .int) (some (.int r)) σ') (K104 : Int32 → Int32 → Int64 → Int64 → Int64 → Int32 → zSt → Option (Int32 × zSt)) (hK104 : ∀ (v1 : Int32) (v4 : Int32) (v5 : Int64) (v9 : Int64) (v11 : Int64) (v13 : Int32) (τ : zSt), K104 v1 v4 v5 v9 v11 v13 τ = some (r, σ') → Z T τ 104 [(0, .ref (zAd T (61))), (1, .int v1), (4, .int v4), (5, .long v5), (9, .long v9), (11, .long v11), (13, .int v13)] []) (n : Nat) : ∀ (v1 : Int32) (v4 : Int32) (v5 : Int64) (v9 : Int64) (v11 : Int64) (v13 : Int32) (v14 : Int32) (v15 : Int32) (σ : zSt), fX9_area_L128 K104 n v1 v4 v5 v9 v11 v13 v14 v15 σ = some (r, σ') → Z T σ 128 [(0, .ref (zAd T (61))), (1, .int v1), (4, .int v4), (5, .long v5), (9, .long v9), (11, .long v11), (13, .int v13), (14, .int v14), (15, .int v15)] [] := by
  induction n with
  | zero => intro v1 v4 v5 v9 v11 v13 v14 v15 σ h; cases h
  | succ n ih => intro v1 v4 v5 v9 v11 v13 v14 v15 σ h; exact wX9_area_128 hC hN hQ K104 hK104 (fX9_area_L128 K104 n) ih v1 v4 v5 v9 v11 v13 v14 v15 σ h
set_option maxRecDepth 100000 in
set_option maxHeartbeats 4000000 in
theorem wX9_area_104 {T : zX} (hC : zOk T cX9_area RX9 10 285 61 85) (hN : zNL T = 20) {r : Int32} {σ' : zSt} (hQ : zRes T (some .int) (some (.int r)) σ') (K104 : Int32 → Int32 → Int64 → Int64 → Int64 → Int32 → zSt → Option (Int32 × zSt)) (hK104 : ∀ (v1 : Int32) (v4 : Int32) (v5 : Int64) (v9 : Int64) (v11 : Int64) (v13 : Int32) (τ : zSt), K104 v1 v4 v5 v9 v11 v13 τ = some (r, σ') → Z T τ 104 [(0, .ref (zAd T (61))), (1, .int v1), (4, .int v4), (5, .long v5), (9, .long v9), (11, .long v11), (13, .int v13)] []) (v1 : Int32) (v4 : Int32) (v5 : Int64) (v9 : Int64) (v11 : Int64) (v13 : Int32)  (σ : zSt) (h : fX9_area_104 K104 v1 v4 v5 v9 v11 v13 σ = some (r, σ')) : Z T σ 104 [(0, .ref (zAd T (61))), (1, .int v1), (4, .int v4), (5, .long v5), (9, .long v9), (11, .long v11), (13, .int v13)] [] := by
  unfold fX9_area_104 at h
  refine z_iload hC 6 rfl dX9_area_104 ?_
  refine z_iload hC 2 rfl dX9_area_106 ?_
  refine z_icmp_ge hC 313 (by decide) dX9_area_108 (fun q108_1 => ?_) (fun q108_1 => ?_)
  · replace h := z_t q108_1 h
    refine z_aload_n hC 0 rfl rfl dX9_area_313 ?_
    refine z_aload_n hC 0 rfl rfl dX9_area_314 ?_
    refine gX9_33 hC kf_X9_381 (gi σ 61 33) rfl dX9_area_315 ?_
    refine pX9_38 hC kf_X9_395 dX9_area_318 ?_
    refine z_aload_n hC 0 rfl rfl dX9_area_321 ?_
    refine z_iconst hC (1 : Int32) (by decide) dX9_area_322 ?_
    refine z_lload hC 4 rfl dX9_area_323 ?_
    refine z_lload hC 5 rfl dX9_area_325 ?_
    refine z_b2 h (fun r327_2 s327_3 e_r327_2 h => ?_)
    refine z_cV3r hC (ctX9_tells hC.hm e_r327_2) (rcX9 hC) kb_X9_tells km_X9_374 ⟨by decide, by decide⟩ (Nat.le_of_ble_eq_true rfl) dX9_area_327 ?_
    obtain ⟨rfl, rfl⟩ := z_pr h
    exact z_iret hC hQ dX9_area_330
  · replace h := z_f q108_1 h
    refine z_lload hC 5 rfl dX9_area_111 ?_
    refine z_lload hC 4 rfl dX9_area_113 ?_
    refine z_lsub hC dX9_area_115 ?_
    refine z_lload hC 3 rfl dX9_area_116 ?_
    refine z_cmp_le hC 313 (by decide) dX9_area_118 dX9_area_119 (fun q118_4 => ?_) (fun q118_4 => ?_)
    · replace h := z_t q118_4 h
      refine z_aload_n hC 0 rfl rfl dX9_area_313 ?_
      refine z_aload_n hC 0 rfl rfl dX9_area_314 ?_
      refine gX9_33 hC kf_X9_381 (gi σ 61 33) rfl dX9_area_315 ?_
      refine pX9_38 hC kf_X9_395 dX9_area_318 ?_
      refine z_aload_n hC 0 rfl rfl dX9_area_321 ?_
      refine z_iconst hC (1 : Int32) (by decide) dX9_area_322 ?_
      refine z_lload hC 4 rfl dX9_area_323 ?_
      refine z_lload hC 5 rfl dX9_area_325 ?_
      refine z_b2 h (fun r327_5 s327_6 e_r327_5 h => ?_)
      refine z_cV3r hC (ctX9_tells hC.hm e_r327_5) (rcX9 hC) kb_X9_tells km_X9_374 ⟨by decide, by decide⟩ (Nat.le_of_ble_eq_true rfl) dX9_area_327 ?_
      obtain ⟨rfl, rfl⟩ := z_pr h
      exact z_iret hC hQ dX9_area_330
    · replace h := z_f q118_4 h
      refine z_iconst hC (0 : Int32) (by decide) dX9_area_122 ?_
      refine z_istore hC [(14, .int (0 : Int32)), (0, .ref (zAd T (61))), (1, .int v1), (4, .int v4), (5, .long v5), (9, .long v9), (11, .long v11), (13, .int v13)] (by rw [hN]; decide) rfl dX9_area_123 ?_
      refine z_iconst hC (1 : Int32) (by decide) dX9_area_125 ?_
      refine z_istore hC [(15, .int (1 : Int32)), (14, .int (0 : Int32)), (0, .ref (zAd T (61))), (1, .int v1), (4, .int v4), (5, .long v5), (9, .long v9), (11, .long v11), (13, .int v13)] (by rw [hN]; decide) rfl dX9_area_126 ?_
      refine z_sub [(0, .ref (zAd T (61))), (1, .int v1), (4, .int v4), (5, .long v5), (9, .long v9), (11, .long v11), (13, .int v13), (14, .int (0 : Int32)), (15, .int (1 : Int32))] [2, 3, 4, 5, 6, 7, 8, 1, 0] rfl ?_
      exact (wX9_area_L128 hC hN hQ K104 hK104 zFU) _ _ _ _ _ _ _ _ _ h
theorem wX9_area_L104 {T : zX} (hC : zOk T cX9_area RX9 10 285 61 85) (hN : zNL T = 20) {r : Int32} {σ' : zSt} (hQ : zRes T (some .int) (some (.int r)) σ') (n : Nat) : ∀ (v1 : Int32) (v4 : Int32) (v5 : Int64) (v9 : Int64) (v11 : Int64) (v13 : Int32) (σ : zSt), fX9_area_L104 n v1 v4 v5 v9 v11 v13 σ = some (r, σ') → Z T σ 104 [(0, .ref (zAd T (61))), (1, .int v1), (4, .int v4), (5, .long v5), (9, .long v9), (11, .long v11), (13, .int v13)] [] := by
  induction n with
  | zero => intro v1 v4 v5 v9 v11 v13 σ h; cases h
  | succ n ih => intro v1 v4 v5 v9 v11 v13 σ h; exact wX9_area_104 hC hN hQ (fX9_area_L104 n) ih v1 v4 v5 v9 v11 v13 σ h
set_option maxRecDepth 100000 in
set_option maxHeartbeats 4000000 in
theorem wX9_area_0 {T : zX} (hC : zOk T cX9_area RX9 10 285 61 85) (hN : zNL T = 20) {r : Int32} {σ' : zSt} (hQ : zRes T (some .int) (some (.int r)) σ') (a1 : Int32) (a2 : Int32) (a3 : Int32) (a4 : Int32) (a5 : Int64)  (σ : zSt) (h : fX9_area_0 a1 a2 a3 a4 a5 σ = some (r, σ')) : Z T σ 0 [(0, .ref (zAd T (61))), (1, .int a1), (2, .int a2), (3, .int a3), (4, .int a4), (5, .long a5)] [] := by
  unfold fX9_area_0 at h
  refine z_iload_n hC 3 rfl rfl dX9_area_0 ?_
  refine z_i2l hC dX9_area_1 ?_
  refine z_iload_n hC 2 rfl rfl dX9_area_2 ?_
  refine z_i2l hC dX9_area_3 ?_
  refine z_lsub hC dX9_area_4 ?_
  refine z_nmL h (fun x5_1 h => ?_)
  refine z_lstore hC [(7, .long x5_1), (0, .ref (zAd T (61))), (1, .int a1), (2, .int a2), (3, .int a3), (4, .int a4), (5, .long a5)] (by rw [hN]; decide) rfl dX9_area_5 ?_
  refine z_aload_n hC 1 rfl rfl dX9_area_7 ?_
  refine z_iload_n hC 2 rfl rfl dX9_area_8 ?_
  refine z_cV1r hC (ctX9_has hC.hm) (rcX9 hC) kb_X9_has km_X9_216 ⟨by decide, by decide⟩ (Nat.le_of_ble_eq_true rfl) dX9_area_9 ?_
  refine z_if_eq hC 51 (by decide) dX9_area_12 (fun q12_2 => ?_) (fun q12_2 => ?_)
  · replace h := z_t q12_2 h
    refine z_iconst hC (-1 : Int32) (by decide) dX9_area_51 ?_
    obtain ⟨rfl, rfl⟩ := z_pr h
    exact z_iret hC hQ dX9_area_52
  · replace h := z_f q12_2 h
    refine z_lload hC 0 rfl dX9_area_15 ?_
    refine z_lconst hC (1 : Int64) (by decide) dX9_area_17 ?_
    refine z_cmp_lt hC 51 (by decide) dX9_area_18 dX9_area_19 (fun q18_3 => ?_) (fun q18_3 => ?_)
    · replace h := z_t q18_3 h
      refine z_iconst hC (-1 : Int32) (by decide) dX9_area_51 ?_
      obtain ⟨rfl, rfl⟩ := z_pr h
      exact z_iret hC hQ dX9_area_52
    · replace h := z_f q18_3 h
      refine z_lload hC 0 rfl dX9_area_22 ?_
      refine z_ldc2 hC kc_X9_386 dX9_area_24 ?_
      refine z_cmp_gt hC 51 (by decide) dX9_area_27 dX9_area_28 (fun q27_4 => ?_) (fun q27_4 => ?_)
      · replace h := z_t q27_4 h
        refine z_iconst hC (-1 : Int32) (by decide) dX9_area_51 ?_
        obtain ⟨rfl, rfl⟩ := z_pr h
        exact z_iret hC hQ dX9_area_52
      · replace h := z_f q27_4 h
        refine z_iload hC 5 rfl dX9_area_31 ?_
        refine z_if_lt hC 51 (by decide) dX9_area_33 (fun q33_5 => ?_) (fun q33_5 => ?_)
        · replace h := z_t q33_5 h
          refine z_iconst hC (-1 : Int32) (by decide) dX9_area_51 ?_
          obtain ⟨rfl, rfl⟩ := z_pr h
          exact z_iret hC hQ dX9_area_52
        · replace h := z_f q33_5 h
          refine z_iload hC 5 rfl dX9_area_36 ?_
          refine z_sipush hC (200 : Int32) (by decide) dX9_area_38 ?_
          refine z_icmp_gt hC 51 (by decide) dX9_area_41 (fun q41_6 => ?_) (fun q41_6 => ?_)
          · replace h := z_t q41_6 h
            refine z_iconst hC (-1 : Int32) (by decide) dX9_area_51 ?_
            obtain ⟨rfl, rfl⟩ := z_pr h
            exact z_iret hC hQ dX9_area_52
          · replace h := z_f q41_6 h
            refine z_lload hC 6 rfl dX9_area_44 ?_
            refine z_lconst hC (0 : Int64) (by decide) dX9_area_46 ?_
            refine z_cmp_ge hC 53 (by decide) dX9_area_47 dX9_area_48 (fun q47_7 => ?_) (fun q47_7 => ?_)
            · replace h := z_t q47_7 h
              refine z_aload_n hC 1 rfl rfl dX9_area_53 ?_
              refine z_iconst hC (1 : Int32) (by decide) dX9_area_54 ?_
              refine pX9_33 hC kf_X9_381 dX9_area_55 ?_
              refine z_aload_n hC 1 rfl rfl dX9_area_58 ?_
              refine gX9_34 hC kf_X9_61 dX9_area_59 ?_
              refine z_iconst hC (0 : Int32) (by decide) dX9_area_62 ?_
              refine z_iload_n hC 3 rfl rfl dX9_area_63 ?_
              refine z_i2l hC dX9_area_64 ?_
              refine z_last hC 78 ⟨by decide, by decide⟩ (zS_78 _) (by unfold vp_in; decide) dX9_area_65 ?_
              refine z_aload_n hC 1 rfl rfl dX9_area_66 ?_
              refine gX9_35 hC kf_X9_64 dX9_area_67 ?_
              refine z_iconst hC (0 : Int32) (by decide) dX9_area_70 ?_
              refine z_iload_n hC 4 rfl rfl dX9_area_71 ?_
              refine z_i2l hC dX9_area_72 ?_
              refine z_last hC 79 ⟨by decide, by decide⟩ (zS_79 _) (by unfold vp_in; decide) dX9_area_73 ?_
              refine z_aload_n hC 1 rfl rfl dX9_area_74 ?_
              refine z_iload_n hC 2 rfl rfl dX9_area_75 ?_
              refine z_iconst hC (0 : Int32) (by decide) dX9_area_76 ?_
              refine z_b2 h (fun r77_8 s77_9 e_r77_8 h => ?_)
              refine z_cV2r hC (ctX9_sumOf hC.hm e_r77_8) (rcX9 hC) kb_X9_sumOf km_X9_388 ⟨by decide, by decide⟩ (Nat.le_of_ble_eq_true rfl) dX9_area_77 ?_
              refine z_if_ne hC 85 (by decide) dX9_area_80 (fun q80_10 => ?_) (fun q80_10 => ?_)
              · replace h := z_f q80_10 h
                refine z_aload_n hC 1 rfl rfl dX9_area_85 ?_
                refine gX9_36 hC kf_X9_67 dX9_area_86 ?_
                refine z_iconst hC (0 : Int32) (by decide) dX9_area_89 ?_
                refine z_lald hC 80 ⟨by decide, by decide⟩ (zS_80 _ _ _) (by unfold vp_in; decide) (gl s77_9 80 (0 : Int32).toNatClampNeg) rfl dX9_area_90 ?_
                refine z_nmL h (fun x91_11 h => ?_)
                refine z_lstore hC [(9, .long x91_11), (7, .long x5_1), (0, .ref (zAd T (61))), (1, .int a1), (2, .int a2), (3, .int a3), (4, .int a4), (5, .long a5)] (by rw [hN]; decide) rfl dX9_area_91 ?_
                refine z_aload_n hC 2 rfl rfl dX9_area_93 ?_
                refine gX9_37 hC kf_X9_70 dX9_area_94 ?_
                refine z_iconst hC (0 : Int32) (by decide) dX9_area_97 ?_
                refine z_lald hC 81 ⟨by decide, by decide⟩ (zS_81 _ _ _) (by unfold vp_in; decide) (gl s77_9 81 (0 : Int32).toNatClampNeg) rfl dX9_area_98 ?_
                refine z_nmL h (fun x99_12 h => ?_)
                refine z_lstore hC [(11, .long x99_12), (9, .long x91_11), (7, .long x5_1), (0, .ref (zAd T (61))), (1, .int a1), (2, .int a2), (3, .int a3), (4, .int a4), (5, .long a5)] (by rw [hN]; decide) rfl dX9_area_99 ?_
                refine z_iconst hC (0 : Int32) (by decide) dX9_area_101 ?_
                refine z_istore hC [(13, .int (0 : Int32)), (11, .long x99_12), (9, .long x91_11), (7, .long x5_1), (0, .ref (zAd T (61))), (1, .int a1), (2, .int a2), (3, .int a3), (4, .int a4), (5, .long a5)] (by rw [hN]; decide) rfl dX9_area_102 ?_
                refine z_sub [(0, .ref (zAd T (61))), (1, .int a1), (4, .int a4), (5, .long a5), (9, .long x91_11), (11, .long x99_12), (13, .int (0 : Int32))] [4, 5, 8, 9, 2, 1, 0] rfl ?_
                exact (wX9_area_L104 hC hN hQ zFU) _ _ _ _ _ _ _ h
              · replace h := z_t q80_10 h
                refine z_iconst hC (1 : Int32) (by decide) dX9_area_83 ?_
                obtain ⟨rfl, rfl⟩ := z_pr h
                exact z_iret hC hQ dX9_area_84
            · replace h := z_f q47_7 h
              refine z_iconst hC (-1 : Int32) (by decide) dX9_area_51 ?_
              obtain ⟨rfl, rfl⟩ := z_pr h
              exact z_iret hC hQ dX9_area_52
set_option maxRecDepth 100000 in
theorem ctX9_area {l : Launch} {G : zGt} {mk : zSt → zSt} (hm : zM mk 61 85) {a1 : Int32} {a2 : Int32} {a3 : Int32} {a4 : Int32} {a5 : Int64} {σ : zSt} {r : Int32} {σ' : zSt} (h : fX9_area a1 a2 a3 a4 a5 σ = some (r, σ')) : zMet l G mk yX9_area cX9_area 20 (some .int) 10 285 [.ref (gA G (61)), .int a1, .int a2, .int a3, .int a4, .long a5] σ (some (.int r)) σ' := by
  unfold fX9_area at h

  refine zMet.of (plainFor_of_name (by decide +kernel)) hm (Nat.le_of_ble_eq_true rfl) (fun T eL eG eM hN hC hQ => ?_)
  subst eL; subst eG; subst eM
  refine z_sub [(0, .ref (zAd T (61))), (1, .int a1), (2, .int a2), (3, .int a3), (4, .int a4), (5, .long a5)] [0, 1, 2, 3, 4, 5] rfl ?_
  exact wX9_area_0 hC hN hQ _ _ _ _ _  _ h
noncomputable def fX9_signOf_0 (a1 : Int32) (a2 : Int64) (σ : zSt) : Option (Int32 × zSt) := bd2 (fX9_shut a1 a2 a2 σ) fun r4_1 s4_2 => 
    (if r4_1 = 0 then some ((0 : Int32), s4_2)
    else 
      (if (0 : Int64) ≤ (gl s4_2 61 30) then 
        (if (gl s4_2 61 29) ≤ (0 : Int64) then some ((0 : Int32), s4_2)
        else some ((1 : Int32), s4_2))
      else some ((-1 : Int32), s4_2)))
noncomputable def fX9_signOf (a1 : Int32) (a2 : Int64) (σ : zSt) : Option (Int32 × zSt) := fX9_signOf_0 a1 a2 σ
set_option maxRecDepth 100000 in
set_option maxHeartbeats 4000000 in
theorem wX9_signOf_0 {T : zX} (hC : zOk T cX9_signOf RX9 8 226 61 85) (hN : zNL T = 4) {r : Int32} {σ' : zSt} (hQ : zRes T (some .int) (some (.int r)) σ') (a1 : Int32) (a2 : Int64)  (σ : zSt) (h : fX9_signOf_0 a1 a2 σ = some (r, σ')) : Z T σ 0 [(0, .ref (zAd T (61))), (1, .int a1), (2, .long a2)] [] := by
  unfold fX9_signOf_0 at h
  refine z_aload_n hC 0 rfl rfl dX9_signOf_0 ?_
  refine z_iload_n hC 1 rfl rfl dX9_signOf_1 ?_
  refine z_lload_n hC 2 rfl rfl dX9_signOf_2 ?_
  refine z_lload_n hC 2 rfl rfl dX9_signOf_3 ?_
  refine z_b2 h (fun r4_1 s4_2 e_r4_1 h => ?_)
  refine z_cV3r hC (ctX9_shut hC.hm e_r4_1) (rcX9 hC) kb_X9_shut km_X9_370 ⟨by decide, by decide⟩ (Nat.le_of_ble_eq_true rfl) dX9_signOf_4 ?_
  refine z_if_ne hC 14 (by decide) dX9_signOf_7 (fun q7_3 => ?_) (fun q7_3 => ?_)
  · replace h := z_f q7_3 h
    refine z_aload_n hC 0 rfl rfl dX9_signOf_14 ?_
    refine gX9_30 hC kf_X9_358 (gl s4_2 61 30) rfl dX9_signOf_15 ?_
    refine z_lconst hC (0 : Int64) (by decide) dX9_signOf_18 ?_
    refine z_cmp_ge hC 27 (by decide) dX9_signOf_19 dX9_signOf_20 (fun q19_4 => ?_) (fun q19_4 => ?_)
    · replace h := z_t q19_4 h
      refine z_aload_n hC 0 rfl rfl dX9_signOf_27 ?_
      refine gX9_29 hC kf_X9_355 (gl s4_2 61 29) rfl dX9_signOf_28 ?_
      refine z_lconst hC (0 : Int64) (by decide) dX9_signOf_31 ?_
      refine z_cmp_le hC 40 (by decide) dX9_signOf_32 dX9_signOf_33 (fun q32_5 => ?_) (fun q32_5 => ?_)
      · replace h := z_t q32_5 h
        refine z_iconst hC (0 : Int32) (by decide) dX9_signOf_40 ?_
        obtain ⟨rfl, rfl⟩ := z_pr h
        exact z_iret hC hQ dX9_signOf_41
      · replace h := z_f q32_5 h
        refine z_iconst hC (1 : Int32) (by decide) dX9_signOf_36 ?_
        refine z_goto hC 41 (by decide) dX9_signOf_37 ?_
        obtain ⟨rfl, rfl⟩ := z_pr h
        exact z_iret hC hQ dX9_signOf_41
    · replace h := z_f q19_4 h
      refine z_iconst hC (-1 : Int32) (by decide) dX9_signOf_23 ?_
      refine z_goto hC 41 (by decide) dX9_signOf_24 ?_
      obtain ⟨rfl, rfl⟩ := z_pr h
      exact z_iret hC hQ dX9_signOf_41
  · replace h := z_t q7_3 h
    refine z_iconst hC (0 : Int32) (by decide) dX9_signOf_10 ?_
    refine z_goto hC 41 (by decide) dX9_signOf_11 ?_
    obtain ⟨rfl, rfl⟩ := z_pr h
    exact z_iret hC hQ dX9_signOf_41
set_option maxRecDepth 100000 in
theorem ctX9_signOf {l : Launch} {G : zGt} {mk : zSt → zSt} (hm : zM mk 61 85) {a1 : Int32} {a2 : Int64} {σ : zSt} {r : Int32} {σ' : zSt} (h : fX9_signOf a1 a2 σ = some (r, σ')) : zMet l G mk yX9_signOf cX9_signOf 4 (some .int) 8 226 [.ref (gA G (61)), .int a1, .long a2] σ (some (.int r)) σ' := by
  unfold fX9_signOf at h

  refine zMet.of (plainFor_of_name (by decide +kernel)) hm (Nat.le_of_ble_eq_true rfl) (fun T eL eG eM hN hC hQ => ?_)
  subst eL; subst eG; subst eM
  refine z_sub [(0, .ref (zAd T (61))), (1, .int a1), (2, .long a2)] [0, 1, 2] rfl ?_
  exact wX9_signOf_0 hC hN hQ _ _  _ h
noncomputable def fX9_looked_62 (v1 : Int32) (v2 : Int64) (v4 : Int64) (σ : zSt) : Option (Int32 × zSt) := bd2 (fX9_signOf v1 v2 σ) fun r65_1 s65_2 => bd2 (fX9_signOf v1 v4 s65_2) fun r74_3 s74_4 => 
    (if 0 ≤ (r65_1 * r74_3) then some ((-1 : Int32), s74_4)
    else some ((1 : Int32), s74_4))
noncomputable def fX9_looked_31 (v1 : Int32) (v2 : Int64) (v4 : Int64) (σ : zSt) : Option (Int32 × zSt) := bd2 (fX9_shutSlope v1 v2 v4 σ) fun r36_1 s36_2 => 
    (if r36_1 = 0 then some ((-1 : Int32), s36_2)
    else 
      (if (0 : Int64) < (gl s36_2 61 29) then fX9_looked_62 v1 v2 v4 s36_2
      else 
        (if (gl s36_2 61 30) < (0 : Int64) then fX9_looked_62 v1 v2 v4 s36_2
        else some ((-1 : Int32), s36_2))))
noncomputable def fX9_looked_0 (a1 : Int32) (a2 : Int64) (a4 : Int64) (σ : zSt) : Option (Int32 × zSt) := bd2 (fX9_shut a1 a2 a4 σ) fun r5_1 s5_2 => 
    (if r5_1 = 0 then fX9_looked_31 a1 a2 a4 s5_2
    else 
      (if (0 : Int64) < (gl s5_2 61 29) then some ((0 : Int32), s5_2)
      else 
        (if (0 : Int64) ≤ (gl s5_2 61 30) then fX9_looked_31 a1 a2 a4 s5_2
        else some ((0 : Int32), s5_2))))
noncomputable def fX9_looked (a1 : Int32) (a2 : Int64) (a4 : Int64) (σ : zSt) : Option (Int32 × zSt) := fX9_looked_0 a1 a2 a4 σ
set_option maxRecDepth 100000 in
set_option maxHeartbeats 4000000 in
theorem wX9_looked_62 {T : zX} (hC : zOk T cX9_looked RX9 9 253 61 85) (hN : zNL T = 8) {r : Int32} {σ' : zSt} (hQ : zRes T (some .int) (some (.int r)) σ') (v1 : Int32) (v2 : Int64) (v4 : Int64)  (σ : zSt) (h : fX9_looked_62 v1 v2 v4 σ = some (r, σ')) : Z T σ 62 [(0, .ref (zAd T (61))), (1, .int v1), (2, .long v2), (4, .long v4)] [] := by
  unfold fX9_looked_62 at h
  refine z_aload_n hC 0 rfl rfl dX9_looked_62 ?_
  refine z_iload_n hC 1 rfl rfl dX9_looked_63 ?_
  refine z_lload_n hC 2 rfl rfl dX9_looked_64 ?_
  refine z_b2 h (fun r65_1 s65_2 e_r65_1 h => ?_)
  refine z_cV2r hC (ctX9_signOf hC.hm e_r65_1) (rcX9 hC) kb_X9_signOf km_X9_398 ⟨by decide, by decide⟩ (Nat.le_of_ble_eq_true rfl) dX9_looked_65 ?_
  refine z_istore hC [(6, .int r65_1), (0, .ref (zAd T (61))), (1, .int v1), (2, .long v2), (4, .long v4)] (by rw [hN]; decide) rfl dX9_looked_68 ?_
  refine z_aload_n hC 1 rfl rfl dX9_looked_70 ?_
  refine z_iload_n hC 2 rfl rfl dX9_looked_71 ?_
  refine z_lload hC 4 rfl dX9_looked_72 ?_
  refine z_b2 h (fun r74_3 s74_4 e_r74_3 h => ?_)
  refine z_cV2r hC (ctX9_signOf hC.hm e_r74_3) (rcX9 hC) kb_X9_signOf km_X9_398 ⟨by decide, by decide⟩ (Nat.le_of_ble_eq_true rfl) dX9_looked_74 ?_
  refine z_istore hC [(7, .int r74_3), (6, .int r65_1), (0, .ref (zAd T (61))), (1, .int v1), (2, .long v2), (4, .long v4)] (by rw [hN]; decide) rfl dX9_looked_77 ?_
  refine z_iload hC 1 rfl dX9_looked_79 ?_
  refine z_iload hC 0 rfl dX9_looked_81 ?_
  refine z_imul hC dX9_looked_83 ?_
  refine z_if_ge hC 91 (by decide) dX9_looked_84 (fun q84_5 => ?_) (fun q84_5 => ?_)
  · replace h := z_t q84_5 h
    refine z_iconst hC (-1 : Int32) (by decide) dX9_looked_91 ?_
    obtain ⟨rfl, rfl⟩ := z_pr h
    exact z_iret hC hQ dX9_looked_92
  · replace h := z_f q84_5 h
    refine z_iconst hC (1 : Int32) (by decide) dX9_looked_87 ?_
    refine z_goto hC 92 (by decide) dX9_looked_88 ?_
    obtain ⟨rfl, rfl⟩ := z_pr h
    exact z_iret hC hQ dX9_looked_92
set_option maxRecDepth 100000 in
set_option maxHeartbeats 4000000 in
theorem wX9_looked_31 {T : zX} (hC : zOk T cX9_looked RX9 9 253 61 85) (hN : zNL T = 8) {r : Int32} {σ' : zSt} (hQ : zRes T (some .int) (some (.int r)) σ') (v1 : Int32) (v2 : Int64) (v4 : Int64)  (σ : zSt) (h : fX9_looked_31 v1 v2 v4 σ = some (r, σ')) : Z T σ 31 [(0, .ref (zAd T (61))), (1, .int v1), (2, .long v2), (4, .long v4)] [] := by
  unfold fX9_looked_31 at h
  refine z_aload_n hC 0 rfl rfl dX9_looked_31 ?_
  refine z_iload_n hC 1 rfl rfl dX9_looked_32 ?_
  refine z_lload_n hC 2 rfl rfl dX9_looked_33 ?_
  refine z_lload hC 3 rfl dX9_looked_34 ?_
  refine z_b2 h (fun r36_1 s36_2 e_r36_1 h => ?_)
  refine z_cV3r hC (ctX9_shutSlope hC.hm e_r36_1) (rcX9 hC) kb_X9_shutSlope km_X9_378 ⟨by decide, by decide⟩ (Nat.le_of_ble_eq_true rfl) dX9_looked_36 ?_
  refine z_if_eq hC 60 (by decide) dX9_looked_39 (fun q39_3 => ?_) (fun q39_3 => ?_)
  · replace h := z_t q39_3 h
    refine z_iconst hC (-1 : Int32) (by decide) dX9_looked_60 ?_
    obtain ⟨rfl, rfl⟩ := z_pr h
    exact z_iret hC hQ dX9_looked_61
  · replace h := z_f q39_3 h
    refine z_aload_n hC 0 rfl rfl dX9_looked_42 ?_
    refine gX9_29 hC kf_X9_355 (gl s36_2 61 29) rfl dX9_looked_43 ?_
    refine z_lconst hC (0 : Int64) (by decide) dX9_looked_46 ?_
    refine z_cmp_gt hC 62 (by decide) dX9_looked_47 dX9_looked_48 (fun q47_4 => ?_) (fun q47_4 => ?_)
    · replace h := z_t q47_4 h
      exact (wX9_looked_62 hC hN hQ ) _ _ _ _ h
    · replace h := z_f q47_4 h
      refine z_aload_n hC 0 rfl rfl dX9_looked_51 ?_
      refine gX9_30 hC kf_X9_358 (gl s36_2 61 30) rfl dX9_looked_52 ?_
      refine z_lconst hC (0 : Int64) (by decide) dX9_looked_55 ?_
      refine z_cmp_lt hC 62 (by decide) dX9_looked_56 dX9_looked_57 (fun q56_5 => ?_) (fun q56_5 => ?_)
      · replace h := z_t q56_5 h
        exact (wX9_looked_62 hC hN hQ ) _ _ _ _ h
      · replace h := z_f q56_5 h
        refine z_iconst hC (-1 : Int32) (by decide) dX9_looked_60 ?_
        obtain ⟨rfl, rfl⟩ := z_pr h
        exact z_iret hC hQ dX9_looked_61
set_option maxRecDepth 100000 in
set_option maxHeartbeats 4000000 in
theorem wX9_looked_0 {T : zX} (hC : zOk T cX9_looked RX9 9 253 61 85) (hN : zNL T = 8) {r : Int32} {σ' : zSt} (hQ : zRes T (some .int) (some (.int r)) σ') (a1 : Int32) (a2 : Int64) (a4 : Int64)  (σ : zSt) (h : fX9_looked_0 a1 a2 a4 σ = some (r, σ')) : Z T σ 0 [(0, .ref (zAd T (61))), (1, .int a1), (2, .long a2), (4, .long a4)] [] := by
  unfold fX9_looked_0 at h
  refine z_aload_n hC 0 rfl rfl dX9_looked_0 ?_
  refine z_iload_n hC 1 rfl rfl dX9_looked_1 ?_
  refine z_lload_n hC 2 rfl rfl dX9_looked_2 ?_
  refine z_lload hC 3 rfl dX9_looked_3 ?_
  refine z_b2 h (fun r5_1 s5_2 e_r5_1 h => ?_)
  refine z_cV3r hC (ctX9_shut hC.hm e_r5_1) (rcX9 hC) kb_X9_shut km_X9_370 ⟨by decide, by decide⟩ (Nat.le_of_ble_eq_true rfl) dX9_looked_5 ?_
  refine z_if_eq hC 31 (by decide) dX9_looked_8 (fun q8_3 => ?_) (fun q8_3 => ?_)
  · replace h := z_t q8_3 h
    exact (wX9_looked_31 hC hN hQ ) _ _ _ _ h
  · replace h := z_f q8_3 h
    refine z_aload_n hC 0 rfl rfl dX9_looked_11 ?_
    refine gX9_29 hC kf_X9_355 (gl s5_2 61 29) rfl dX9_looked_12 ?_
    refine z_lconst hC (0 : Int64) (by decide) dX9_looked_15 ?_
    refine z_cmp_gt hC 29 (by decide) dX9_looked_16 dX9_looked_17 (fun q16_4 => ?_) (fun q16_4 => ?_)
    · replace h := z_t q16_4 h
      refine z_iconst hC (0 : Int32) (by decide) dX9_looked_29 ?_
      obtain ⟨rfl, rfl⟩ := z_pr h
      exact z_iret hC hQ dX9_looked_30
    · replace h := z_f q16_4 h
      refine z_aload_n hC 0 rfl rfl dX9_looked_20 ?_
      refine gX9_30 hC kf_X9_358 (gl s5_2 61 30) rfl dX9_looked_21 ?_
      refine z_lconst hC (0 : Int64) (by decide) dX9_looked_24 ?_
      refine z_cmp_ge hC 31 (by decide) dX9_looked_25 dX9_looked_26 (fun q25_5 => ?_) (fun q25_5 => ?_)
      · replace h := z_t q25_5 h
        exact (wX9_looked_31 hC hN hQ ) _ _ _ _ h
      · replace h := z_f q25_5 h
        refine z_iconst hC (0 : Int32) (by decide) dX9_looked_29 ?_
        obtain ⟨rfl, rfl⟩ := z_pr h
        exact z_iret hC hQ dX9_looked_30
set_option maxRecDepth 100000 in
theorem ctX9_looked {l : Launch} {G : zGt} {mk : zSt → zSt} (hm : zM mk 61 85) {a1 : Int32} {a2 : Int64} {a4 : Int64} {σ : zSt} {r : Int32} {σ' : zSt} (h : fX9_looked a1 a2 a4 σ = some (r, σ')) : zMet l G mk yX9_looked cX9_looked 8 (some .int) 9 253 [.ref (gA G (61)), .int a1, .long a2, .long a4] σ (some (.int r)) σ' := by
  unfold fX9_looked at h

  refine zMet.of (plainFor_of_name (by decide +kernel)) hm (Nat.le_of_ble_eq_true rfl) (fun T eL eG eM hN hC hQ => ?_)
  subst eL; subst eG; subst eM
  refine z_sub [(0, .ref (zAd T (61))), (1, .int a1), (2, .long a2), (4, .long a4)] [0, 1, 2, 3] rfl ?_
  exact wX9_looked_0 hC hN hQ _ _ _  _ h
noncomputable def fX9_roots_254 (K47 : Int32 → Int32 → zSt → Option (Int32 × zSt)) (v1 : Int32) (v4 : Int32) (v5 : Int64) (v7 : Int64) (v9 : Int32) (σ : zSt) : Option (Int32 × zSt) := zg (vp_in (gi σ 61 40) 130) <| zg (vp_in (gi σ 61 40) 130) <| zg (vp_in (gi σ 61 40) 130) <| K47 v1 v4 (si (si (sl (sl σ 82 (gi σ 61 40).toNatClampNeg v5) 83 (gi σ 61 40).toNatClampNeg v7) 84 (gi σ 61 40).toNatClampNeg v9) 61 40 ((gi σ 61 40) + (1 : Int32)))
noncomputable def fX9_roots_132 (K47 : Int32 → Int32 → zSt → Option (Int32 × zSt)) (v1 : Int32) (v4 : Int32) (v5 : Int64) (v7 : Int64) (v9 : Int32) (σ : zSt) : Option (Int32 × zSt) := 
    (if v9 = (-1 : Int32) then bd1 (fX9_down (v5 + v7) (2 : Int64)) fun r146_7 => zg (vp_in (gi σ 61 33) 260) <| zg (vp_in (gi σ 61 33) 260) <| zg (vp_in ((gi σ 61 33) + (1 : Int32)) 260) <| zg (vp_in ((gi σ 61 33) + (1 : Int32)) 260) <| K47 v1 v4 (si (sl (sl (sl (sl σ 78 (gi σ 61 33).toNatClampNeg r146_7) 79 (gi σ 61 33).toNatClampNeg v7) 78 ((gi σ 61 33) + (1 : Int32)).toNatClampNeg v5) 79 ((gi σ 61 33) + (1 : Int32)).toNatClampNeg r146_7) 61 33 ((gi σ 61 33) + (2 : Int32)))
    else 
      (if v9 = 0 then 
        (if (gi σ 61 40) ≤ 0 then fX9_roots_254 K47 v1 v4 v5 v7 v9 σ
        else zg (vp_in ((gi σ 61 40) - (1 : Int32)) 130) <| 
          (if (gi σ 84 ((gi σ 61 40) - (1 : Int32)).toNatClampNeg) = 0 then zg (vp_in ((gi σ 61 40) - (1 : Int32)) 130) <| K47 v1 v4 (sl σ 83 ((gi σ 61 40) - (1 : Int32)).toNatClampNeg v7)
          else fX9_roots_254 K47 v1 v4 v5 v7 v9 σ))
      else fX9_roots_254 K47 v1 v4 v5 v7 v9 σ))
noncomputable def fX9_roots_47 (K47 : Int32 → Int32 → zSt → Option (Int32 × zSt)) (v1 : Int32) (v4 : Int32) (σ : zSt) : Option (Int32 × zSt) := 
    (if (gi σ 61 33) ≤ 0 then some ((gi σ 61 40), σ)
    else zg (vp_in ((gi σ 61 33) - (1 : Int32)) 260) <| nm (gl σ 78 ((gi σ 61 33) - (1 : Int32)).toNatClampNeg) fun x73_3 => zg (vp_in ((gi σ 61 33) - (1 : Int32)) 260) <| nm (gl σ 79 ((gi σ 61 33) - (1 : Int32)).toNatClampNeg) fun x84_5 => bd2 (fX9_looked v1 x73_3 x84_5 (si σ 61 33 ((gi σ 61 33) - (1 : Int32)))) fun r92_6 s92_7 => 
      (if r92_6 = (-1 : Int32) then 
        (if (x84_5 - x73_3) ≤ (Int32.toInt64 v4) then fX9_roots_132 K47 v1 v4 x73_3 x84_5 (2 : Int32) s92_7
        else 
          (if ((gi s92_7 61 40) + (gi s92_7 61 33)) < (59 : Int32) then fX9_roots_132 K47 v1 v4 x73_3 x84_5 r92_6 s92_7
          else fX9_roots_132 K47 v1 v4 x73_3 x84_5 (2 : Int32) s92_7))
      else fX9_roots_132 K47 v1 v4 x73_3 x84_5 r92_6 s92_7))
noncomputable def fX9_roots_L47 : Nat → Int32 → Int32 → zSt → Option (Int32 × zSt)
  | 0, _, _, _ => none
  | n + 1, v1, v4, σ => fX9_roots_47 (fX9_roots_L47 n) v1 v4 σ
noncomputable def fX9_roots_0 (a1 : Int32) (a2 : Int32) (a3 : Int32) (a4 : Int32) (σ : zSt) : Option (Int32 × zSt) := 
    (if (fX9_has a1 σ) = 0 then some ((-1 : Int32), σ)
    else 
      (if a3 ≤ a2 then some ((-1 : Int32), σ)
      else 
        (if (1 : Int32) ≤ a4 then fX9_roots_L47 zFU a1 a4 (sl (sl (si (si σ 61 40 (0 : Int32)) 61 33 (1 : Int32)) 78 (0 : Int32).toNatClampNeg (Int32.toInt64 a2)) 79 (0 : Int32).toNatClampNeg (Int32.toInt64 a3))
        else some ((-1 : Int32), σ))))
noncomputable def fX9_roots (a1 : Int32) (a2 : Int32) (a3 : Int32) (a4 : Int32) (σ : zSt) : Option (Int32 × zSt) := fX9_roots_0 a1 a2 a3 a4 σ
set_option maxRecDepth 100000 in
set_option maxHeartbeats 4000000 in
theorem wX9_roots_254 {T : zX} (hC : zOk T cX9_roots RX9 10 280 61 85) (hN : zNL T = 12) {r : Int32} {σ' : zSt} (hQ : zRes T (some .int) (some (.int r)) σ') (K47 : Int32 → Int32 → zSt → Option (Int32 × zSt)) (hK47 : ∀ (v1 : Int32) (v4 : Int32) (τ : zSt), K47 v1 v4 τ = some (r, σ') → Z T τ 47 [(0, .ref (zAd T (61))), (1, .int v1), (4, .int v4)] []) (v1 : Int32) (v4 : Int32) (v5 : Int64) (v7 : Int64) (v9 : Int32)  (σ : zSt) (h : fX9_roots_254 K47 v1 v4 v5 v7 v9 σ = some (r, σ')) : Z T σ 254 [(0, .ref (zAd T (61))), (1, .int v1), (4, .int v4), (5, .long v5), (7, .long v7), (9, .int v9)] [] := by
  unfold fX9_roots_254 at h
  refine z_aload_n hC 0 rfl rfl dX9_roots_254 ?_
  refine gX9_41 hC kf_X9_73 dX9_roots_255 ?_
  refine z_aload_n hC 0 rfl rfl dX9_roots_258 ?_
  refine gX9_40 hC kf_X9_402 (gi σ 61 40) rfl dX9_roots_259 ?_
  refine z_lload hC 3 rfl dX9_roots_262 ?_
  refine z_g h (fun g264_1 h => ?_)
  refine z_last hC 82 ⟨by decide, by decide⟩ (zS_82 _) g264_1 dX9_roots_264 ?_
  refine z_aload_n hC 0 rfl rfl dX9_roots_265 ?_
  refine gX9_42 hC kf_X9_76 dX9_roots_266 ?_
  refine z_aload_n hC 0 rfl rfl dX9_roots_269 ?_
  refine gX9_40 hC kf_X9_402 (gi σ 61 40) rfl dX9_roots_270 ?_
  refine z_lload hC 4 rfl dX9_roots_273 ?_
  refine z_g h (fun g275_2 h => ?_)
  refine z_last hC 83 ⟨by decide, by decide⟩ (zS_83 _) g275_2 dX9_roots_275 ?_
  refine z_aload_n hC 0 rfl rfl dX9_roots_276 ?_
  refine gX9_43 hC kf_X9_79 dX9_roots_277 ?_
  refine z_aload_n hC 0 rfl rfl dX9_roots_280 ?_
  refine gX9_40 hC kf_X9_402 (gi σ 61 40) rfl dX9_roots_281 ?_
  refine z_iload hC 5 rfl dX9_roots_284 ?_
  refine z_g h (fun g286_3 h => ?_)
  refine z_iast hC 84 ⟨by decide, by decide⟩ (zS_84 _) g286_3 dX9_roots_286 ?_
  refine z_aload_n hC 0 rfl rfl dX9_roots_287 ?_
  refine z_dup hC rfl dX9_roots_288 ?_
  refine gX9_40 hC kf_X9_402 (gi σ 61 40) rfl dX9_roots_289 ?_
  refine z_iconst hC (1 : Int32) (by decide) dX9_roots_292 ?_
  refine z_iadd hC dX9_roots_293 ?_
  refine pX9_40 hC kf_X9_402 dX9_roots_294 ?_
  refine z_goto hC 47 (by decide) dX9_roots_297 ?_
  refine z_sub [(0, .ref (zAd T (61))), (1, .int v1), (4, .int v4)] [0, 1, 2] rfl ?_
  exact hK47 _ _ _ h
set_option maxRecDepth 100000 in
set_option maxHeartbeats 4000000 in
theorem wX9_roots_132 {T : zX} (hC : zOk T cX9_roots RX9 10 280 61 85) (hN : zNL T = 12) {r : Int32} {σ' : zSt} (hQ : zRes T (some .int) (some (.int r)) σ') (K47 : Int32 → Int32 → zSt → Option (Int32 × zSt)) (hK47 : ∀ (v1 : Int32) (v4 : Int32) (τ : zSt), K47 v1 v4 τ = some (r, σ') → Z T τ 47 [(0, .ref (zAd T (61))), (1, .int v1), (4, .int v4)] []) (v1 : Int32) (v4 : Int32) (v5 : Int64) (v7 : Int64) (v9 : Int32)  (σ : zSt) (h : fX9_roots_132 K47 v1 v4 v5 v7 v9 σ = some (r, σ')) : Z T σ 132 [(0, .ref (zAd T (61))), (1, .int v1), (4, .int v4), (5, .long v5), (7, .long v7), (9, .int v9)] [] := by
  unfold fX9_roots_132 at h
  refine z_iload hC 5 rfl dX9_roots_132 ?_
  refine z_iconst hC (-1 : Int32) (by decide) dX9_roots_134 ?_
  refine z_icmp_ne hC 212 (by decide) dX9_roots_135 (fun q135_1 => ?_) (fun q135_1 => ?_)
  · replace h := z_f q135_1 h
    refine z_iload hC 5 rfl dX9_roots_212 ?_
    refine z_if_ne hC 254 (by decide) dX9_roots_214 (fun q214_2 => ?_) (fun q214_2 => ?_)
    · replace h := z_f q214_2 h
      exact (wX9_roots_254 hC hN hQ K47 hK47 ) _ _ _ _ _ _ h
    · replace h := z_t q214_2 h
      refine z_aload_n hC 0 rfl rfl dX9_roots_217 ?_
      refine gX9_40 hC kf_X9_402 (gi σ 61 40) rfl dX9_roots_218 ?_
      refine z_if_le hC 254 (by decide) dX9_roots_221 (fun q221_3 => ?_) (fun q221_3 => ?_)
      · replace h := z_t q221_3 h
        exact (wX9_roots_254 hC hN hQ K47 hK47 ) _ _ _ _ _ _ h
      · replace h := z_f q221_3 h
        refine z_aload_n hC 0 rfl rfl dX9_roots_224 ?_
        refine gX9_43 hC kf_X9_79 dX9_roots_225 ?_
        refine z_aload_n hC 0 rfl rfl dX9_roots_228 ?_
        refine gX9_40 hC kf_X9_402 (gi σ 61 40) rfl dX9_roots_229 ?_
        refine z_iconst hC (1 : Int32) (by decide) dX9_roots_232 ?_
        refine z_isub hC dX9_roots_233 ?_
        refine z_g h (fun g234_4 h => ?_)
        refine z_iald hC 84 ⟨by decide, by decide⟩ (zS_84 _ _ _) g234_4 (gi σ 84 ((gi σ 61 40) - (1 : Int32)).toNatClampNeg) rfl dX9_roots_234 ?_
        refine z_if_ne hC 254 (by decide) dX9_roots_235 (fun q235_5 => ?_) (fun q235_5 => ?_)
        · replace h := z_f q235_5 h
          exact (wX9_roots_254 hC hN hQ K47 hK47 ) _ _ _ _ _ _ h
        · replace h := z_t q235_5 h
          refine z_aload_n hC 0 rfl rfl dX9_roots_238 ?_
          refine gX9_42 hC kf_X9_76 dX9_roots_239 ?_
          refine z_aload_n hC 0 rfl rfl dX9_roots_242 ?_
          refine gX9_40 hC kf_X9_402 (gi σ 61 40) rfl dX9_roots_243 ?_
          refine z_iconst hC (1 : Int32) (by decide) dX9_roots_246 ?_
          refine z_isub hC dX9_roots_247 ?_
          refine z_lload hC 4 rfl dX9_roots_248 ?_
          refine z_g h (fun g250_6 h => ?_)
          refine z_last hC 83 ⟨by decide, by decide⟩ (zS_83 _) g250_6 dX9_roots_250 ?_
          refine z_goto hC 297 (by decide) dX9_roots_251 ?_
          refine z_goto hC 47 (by decide) dX9_roots_297 ?_
          refine z_sub [(0, .ref (zAd T (61))), (1, .int v1), (4, .int v4)] [0, 1, 2] rfl ?_
          exact hK47 _ _ _ h
  · replace h := z_t q135_1 h
    refine z_lload hC 3 rfl dX9_roots_138 ?_
    refine z_lload hC 4 rfl dX9_roots_140 ?_
    refine z_ladd hC dX9_roots_142 ?_
    refine z_ldc2 hC kc_X9_292 dX9_roots_143 ?_
    refine z_b1 h (fun r146_7 e_r146_7 h => ?_)
    refine z_cS2r hC (ctX9_down hC.hm e_r146_7) kb_X9_down km_X9_209 ⟨by decide, by decide⟩ (Nat.le_of_ble_eq_true rfl) dX9_roots_146 ?_
    refine z_lstore hC [(10, .long r146_7), (0, .ref (zAd T (61))), (1, .int v1), (4, .int v4), (5, .long v5), (7, .long v7), (9, .int v9)] (by rw [hN]; decide) rfl dX9_roots_149 ?_
    refine z_aload_n hC 1 rfl rfl dX9_roots_151 ?_
    refine gX9_34 hC kf_X9_61 dX9_roots_152 ?_
    refine z_aload_n hC 1 rfl rfl dX9_roots_155 ?_
    refine gX9_33 hC kf_X9_381 (gi σ 61 33) rfl dX9_roots_156 ?_
    refine z_lload hC 0 rfl dX9_roots_159 ?_
    refine z_g h (fun g161_8 h => ?_)
    refine z_last hC 78 ⟨by decide, by decide⟩ (zS_78 _) g161_8 dX9_roots_161 ?_
    refine z_aload_n hC 1 rfl rfl dX9_roots_162 ?_
    refine gX9_35 hC kf_X9_64 dX9_roots_163 ?_
    refine z_aload_n hC 1 rfl rfl dX9_roots_166 ?_
    refine gX9_33 hC kf_X9_381 (gi σ 61 33) rfl dX9_roots_167 ?_
    refine z_lload hC 5 rfl dX9_roots_170 ?_
    refine z_g h (fun g172_9 h => ?_)
    refine z_last hC 79 ⟨by decide, by decide⟩ (zS_79 _) g172_9 dX9_roots_172 ?_
    refine z_aload_n hC 1 rfl rfl dX9_roots_173 ?_
    refine gX9_34 hC kf_X9_61 dX9_roots_174 ?_
    refine z_aload_n hC 1 rfl rfl dX9_roots_177 ?_
    refine gX9_33 hC kf_X9_381 (gi σ 61 33) rfl dX9_roots_178 ?_
    refine z_iconst hC (1 : Int32) (by decide) dX9_roots_181 ?_
    refine z_iadd hC dX9_roots_182 ?_
    refine z_lload hC 4 rfl dX9_roots_183 ?_
    refine z_g h (fun g185_10 h => ?_)
    refine z_last hC 78 ⟨by decide, by decide⟩ (zS_78 _) g185_10 dX9_roots_185 ?_
    refine z_aload_n hC 1 rfl rfl dX9_roots_186 ?_
    refine gX9_35 hC kf_X9_64 dX9_roots_187 ?_
    refine z_aload_n hC 1 rfl rfl dX9_roots_190 ?_
    refine gX9_33 hC kf_X9_381 (gi σ 61 33) rfl dX9_roots_191 ?_
    refine z_iconst hC (1 : Int32) (by decide) dX9_roots_194 ?_
    refine z_iadd hC dX9_roots_195 ?_
    refine z_lload hC 0 rfl dX9_roots_196 ?_
    refine z_g h (fun g198_11 h => ?_)
    refine z_last hC 79 ⟨by decide, by decide⟩ (zS_79 _) g198_11 dX9_roots_198 ?_
    refine z_aload_n hC 1 rfl rfl dX9_roots_199 ?_
    refine z_dup hC rfl dX9_roots_200 ?_
    refine gX9_33 hC kf_X9_381 (gi σ 61 33) rfl dX9_roots_201 ?_
    refine z_iconst hC (2 : Int32) (by decide) dX9_roots_204 ?_
    refine z_iadd hC dX9_roots_205 ?_
    refine pX9_33 hC kf_X9_381 dX9_roots_206 ?_
    refine z_goto hC 297 (by decide) dX9_roots_209 ?_
    refine z_goto hC 47 (by decide) dX9_roots_297 ?_
    refine z_sub [(0, .ref (zAd T (61))), (1, .int v1), (4, .int v4)] [1, 2, 3] rfl ?_
    exact hK47 _ _ _ h
set_option maxRecDepth 100000 in
set_option maxHeartbeats 4000000 in
theorem wX9_roots_47 {T : zX} (hC : zOk T cX9_roots RX9 10 280 61 85) (hN : zNL T = 12) {r : Int32} {σ' : zSt} (hQ : zRes T (some .int) (some (.int r)) σ') (K47 : Int32 → Int32 → zSt → Option (Int32 × zSt)) (hK47 : ∀ (v1 : Int32) (v4 : Int32) (τ : zSt), K47 v1 v4 τ = some (r, σ') → Z T τ 47 [(0, .ref (zAd T (61))), (1, .int v1), (4, .int v4)] []) (v1 : Int32) (v4 : Int32)  (σ : zSt) (h : fX9_roots_47 K47 v1 v4 σ = some (r, σ')) : Z T σ 47 [(0, .ref (zAd T (61))), (1, .int v1), (4, .int v4)] [] := by
  unfold fX9_roots_47 at h
  refine z_aload_n hC 0 rfl rfl dX9_roots_47 ?_
  refine gX9_33 hC kf_X9_381 (gi σ 61 33) rfl dX9_roots_48 ?_
  refine z_if_le hC 300 (by decide) dX9_roots_51 (fun q51_1 => ?_) (fun q51_1 => ?_)
  · replace h := z_t q51_1 h
    refine z_aload_n hC 0 rfl rfl dX9_roots_300 ?_
    refine gX9_40 hC kf_X9_402 (gi σ 61 40) rfl dX9_roots_301 ?_
    obtain ⟨rfl, rfl⟩ := z_pr h
    exact z_iret hC hQ dX9_roots_304
  · replace h := z_f q51_1 h
    refine z_aload_n hC 0 rfl rfl dX9_roots_54 ?_
    refine z_dup hC rfl dX9_roots_55 ?_
    refine gX9_33 hC kf_X9_381 (gi σ 61 33) rfl dX9_roots_56 ?_
    refine z_iconst hC (1 : Int32) (by decide) dX9_roots_59 ?_
    refine z_isub hC dX9_roots_60 ?_
    refine pX9_33 hC kf_X9_381 dX9_roots_61 ?_
    refine z_aload_n hC 0 rfl rfl dX9_roots_64 ?_
    refine gX9_34 hC kf_X9_61 dX9_roots_65 ?_
    refine z_aload_n hC 0 rfl rfl dX9_roots_68 ?_
    refine gX9_33 hC kf_X9_381 ((gi σ 61 33) - (1 : Int32)) rfl dX9_roots_69 ?_
    refine z_g h (fun g72_2 h => ?_)
    refine z_lald hC 78 ⟨by decide, by decide⟩ (zS_78 _ _ _) g72_2 (gl σ 78 ((gi σ 61 33) - (1 : Int32)).toNatClampNeg) rfl dX9_roots_72 ?_
    refine z_nmL h (fun x73_3 h => ?_)
    refine z_lstore hC [(5, .long x73_3), (0, .ref (zAd T (61))), (1, .int v1), (4, .int v4)] (by rw [hN]; decide) rfl dX9_roots_73 ?_
    refine z_aload_n hC 1 rfl rfl dX9_roots_75 ?_
    refine gX9_35 hC kf_X9_64 dX9_roots_76 ?_
    refine z_aload_n hC 1 rfl rfl dX9_roots_79 ?_
    refine gX9_33 hC kf_X9_381 ((gi σ 61 33) - (1 : Int32)) rfl dX9_roots_80 ?_
    refine z_g h (fun g83_4 h => ?_)
    refine z_lald hC 79 ⟨by decide, by decide⟩ (zS_79 _ _ _) g83_4 (gl σ 79 ((gi σ 61 33) - (1 : Int32)).toNatClampNeg) rfl dX9_roots_83 ?_
    refine z_nmL h (fun x84_5 h => ?_)
    refine z_lstore hC [(7, .long x84_5), (5, .long x73_3), (0, .ref (zAd T (61))), (1, .int v1), (4, .int v4)] (by rw [hN]; decide) rfl dX9_roots_84 ?_
    refine z_aload_n hC 2 rfl rfl dX9_roots_86 ?_
    refine z_iload_n hC 3 rfl rfl dX9_roots_87 ?_
    refine z_lload hC 1 rfl dX9_roots_88 ?_
    refine z_lload hC 0 rfl dX9_roots_90 ?_
    refine z_b2 h (fun r92_6 s92_7 e_r92_6 h => ?_)
    refine z_cV3r hC (ctX9_looked hC.hm e_r92_6) (rcX9 hC) kb_X9_looked km_X9_405 ⟨by decide, by decide⟩ (Nat.le_of_ble_eq_true rfl) dX9_roots_92 ?_
    refine z_istore hC [(9, .int r92_6), (7, .long x84_5), (5, .long x73_3), (0, .ref (zAd T (61))), (1, .int v1), (4, .int v4)] (by rw [hN]; decide) rfl dX9_roots_95 ?_
    refine z_iload hC 0 rfl dX9_roots_97 ?_
    refine z_iconst hC (-1 : Int32) (by decide) dX9_roots_99 ?_
    refine z_icmp_ne hC 132 (by decide) dX9_roots_100 (fun q100_8 => ?_) (fun q100_8 => ?_)
    · replace h := z_f q100_8 h
      refine z_sub [(0, .ref (zAd T (61))), (1, .int v1), (4, .int v4), (5, .long x73_3), (7, .long x84_5), (9, .int r92_6)] [3, 4, 5, 2, 1, 0] rfl ?_
      exact (wX9_roots_132 hC hN hQ K47 hK47 ) _ _ _ _ _ _ h
    · replace h := z_t q100_8 h
      refine z_lload hC 1 rfl dX9_roots_103 ?_
      refine z_lload hC 2 rfl dX9_roots_105 ?_
      refine z_lsub hC dX9_roots_107 ?_
      refine z_iload hC 5 rfl dX9_roots_108 ?_
      refine z_i2l hC dX9_roots_110 ?_
      refine z_cmp_le hC 129 (by decide) dX9_roots_111 dX9_roots_112 (fun q111_9 => ?_) (fun q111_9 => ?_)
      · replace h := z_t q111_9 h
        refine z_iconst hC (2 : Int32) (by decide) dX9_roots_129 ?_
        refine z_istore hC [(9, .int (2 : Int32)), (7, .long x84_5), (5, .long x73_3), (0, .ref (zAd T (61))), (1, .int v1), (4, .int v4)] (by rw [hN]; decide) rfl dX9_roots_130 ?_
        refine z_sub [(0, .ref (zAd T (61))), (1, .int v1), (4, .int v4), (5, .long x73_3), (7, .long x84_5), (9, .int (2 : Int32))] [3, 4, 5, 2, 1, 0] rfl ?_
        exact (wX9_roots_132 hC hN hQ K47 hK47 ) _ _ _ _ _ _ h
      · replace h := z_f q111_9 h
        refine z_aload_n hC 3 rfl rfl dX9_roots_115 ?_
        refine gX9_40 hC kf_X9_402 (gi s92_7 61 40) rfl dX9_roots_116 ?_
        refine z_aload_n hC 3 rfl rfl dX9_roots_119 ?_
        refine gX9_33 hC kf_X9_381 (gi s92_7 61 33) rfl dX9_roots_120 ?_
        refine z_iadd hC dX9_roots_123 ?_
        refine z_bipush hC (59 : Int32) (by decide) dX9_roots_124 ?_
        refine z_icmp_lt hC 132 (by decide) dX9_roots_126 (fun q126_10 => ?_) (fun q126_10 => ?_)
        · replace h := z_t q126_10 h
          refine z_sub [(0, .ref (zAd T (61))), (1, .int v1), (4, .int v4), (5, .long x73_3), (7, .long x84_5), (9, .int r92_6)] [3, 4, 5, 2, 1, 0] rfl ?_
          exact (wX9_roots_132 hC hN hQ K47 hK47 ) _ _ _ _ _ _ h
        · replace h := z_f q126_10 h
          refine z_iconst hC (2 : Int32) (by decide) dX9_roots_129 ?_
          refine z_istore hC [(9, .int (2 : Int32)), (7, .long x84_5), (5, .long x73_3), (0, .ref (zAd T (61))), (1, .int v1), (4, .int v4)] (by rw [hN]; decide) rfl dX9_roots_130 ?_
          refine z_sub [(0, .ref (zAd T (61))), (1, .int v1), (4, .int v4), (5, .long x73_3), (7, .long x84_5), (9, .int (2 : Int32))] [3, 4, 5, 2, 1, 0] rfl ?_
          exact (wX9_roots_132 hC hN hQ K47 hK47 ) _ _ _ _ _ _ h
theorem wX9_roots_L47 {T : zX} (hC : zOk T cX9_roots RX9 10 280 61 85) (hN : zNL T = 12) {r : Int32} {σ' : zSt} (hQ : zRes T (some .int) (some (.int r)) σ') (n : Nat) : ∀ (v1 : Int32) (v4 : Int32) (σ : zSt), fX9_roots_L47 n v1 v4 σ = some (r, σ') → Z T σ 47 [(0, .ref (zAd T (61))), (1, .int v1), (4, .int v4)] [] := by
  induction n with
  | zero => intro v1 v4 σ h; cases h
  | succ n ih => intro v1 v4 σ h; exact wX9_roots_47 hC hN hQ (fX9_roots_L47 n) ih v1 v4 σ h
set_option maxRecDepth 100000 in
set_option maxHeartbeats 4000000 in
theorem wX9_roots_0 {T : zX} (hC : zOk T cX9_roots RX9 10 280 61 85) (hN : zNL T = 12) {r : Int32} {σ' : zSt} (hQ : zRes T (some .int) (some (.int r)) σ') (a1 : Int32) (a2 : Int32) (a3 : Int32) (a4 : Int32)  (σ : zSt) (h : fX9_roots_0 a1 a2 a3 a4 σ = some (r, σ')) : Z T σ 0 [(0, .ref (zAd T (61))), (1, .int a1), (2, .int a2), (3, .int a3), (4, .int a4)] [] := by
  unfold fX9_roots_0 at h
  refine z_aload_n hC 0 rfl rfl dX9_roots_0 ?_
  refine z_iload_n hC 1 rfl rfl dX9_roots_1 ?_
  refine z_cV1r hC (ctX9_has hC.hm) (rcX9 hC) kb_X9_has km_X9_216 ⟨by decide, by decide⟩ (Nat.le_of_ble_eq_true rfl) dX9_roots_2 ?_
  refine z_if_eq hC 19 (by decide) dX9_roots_5 (fun q5_1 => ?_) (fun q5_1 => ?_)
  · replace h := z_t q5_1 h
    refine z_iconst hC (-1 : Int32) (by decide) dX9_roots_19 ?_
    obtain ⟨rfl, rfl⟩ := z_pr h
    exact z_iret hC hQ dX9_roots_20
  · replace h := z_f q5_1 h
    refine z_iload_n hC 2 rfl rfl dX9_roots_8 ?_
    refine z_iload_n hC 3 rfl rfl dX9_roots_9 ?_
    refine z_icmp_ge hC 19 (by decide) dX9_roots_10 (fun q10_2 => ?_) (fun q10_2 => ?_)
    · replace h := z_t q10_2 h
      refine z_iconst hC (-1 : Int32) (by decide) dX9_roots_19 ?_
      obtain ⟨rfl, rfl⟩ := z_pr h
      exact z_iret hC hQ dX9_roots_20
    · replace h := z_f q10_2 h
      refine z_iload hC 4 rfl dX9_roots_13 ?_
      refine z_iconst hC (1 : Int32) (by decide) dX9_roots_15 ?_
      refine z_icmp_ge hC 21 (by decide) dX9_roots_16 (fun q16_3 => ?_) (fun q16_3 => ?_)
      · replace h := z_t q16_3 h
        refine z_aload_n hC 0 rfl rfl dX9_roots_21 ?_
        refine z_iconst hC (0 : Int32) (by decide) dX9_roots_22 ?_
        refine pX9_40 hC kf_X9_402 dX9_roots_23 ?_
        refine z_aload_n hC 0 rfl rfl dX9_roots_26 ?_
        refine z_iconst hC (1 : Int32) (by decide) dX9_roots_27 ?_
        refine pX9_33 hC kf_X9_381 dX9_roots_28 ?_
        refine z_aload_n hC 0 rfl rfl dX9_roots_31 ?_
        refine gX9_34 hC kf_X9_61 dX9_roots_32 ?_
        refine z_iconst hC (0 : Int32) (by decide) dX9_roots_35 ?_
        refine z_iload_n hC 2 rfl rfl dX9_roots_36 ?_
        refine z_i2l hC dX9_roots_37 ?_
        refine z_last hC 78 ⟨by decide, by decide⟩ (zS_78 _) (by unfold vp_in; decide) dX9_roots_38 ?_
        refine z_aload_n hC 0 rfl rfl dX9_roots_39 ?_
        refine gX9_35 hC kf_X9_64 dX9_roots_40 ?_
        refine z_iconst hC (0 : Int32) (by decide) dX9_roots_43 ?_
        refine z_iload_n hC 3 rfl rfl dX9_roots_44 ?_
        refine z_i2l hC dX9_roots_45 ?_
        refine z_last hC 79 ⟨by decide, by decide⟩ (zS_79 _) (by unfold vp_in; decide) dX9_roots_46 ?_
        refine z_sub [(0, .ref (zAd T (61))), (1, .int a1), (4, .int a4)] [0, 1, 4] rfl ?_
        exact (wX9_roots_L47 hC hN hQ zFU) _ _ _ h
      · replace h := z_f q16_3 h
        refine z_iconst hC (-1 : Int32) (by decide) dX9_roots_19 ?_
        obtain ⟨rfl, rfl⟩ := z_pr h
        exact z_iret hC hQ dX9_roots_20
set_option maxRecDepth 100000 in
theorem ctX9_roots {l : Launch} {G : zGt} {mk : zSt → zSt} (hm : zM mk 61 85) {a1 : Int32} {a2 : Int32} {a3 : Int32} {a4 : Int32} {σ : zSt} {r : Int32} {σ' : zSt} (h : fX9_roots a1 a2 a3 a4 σ = some (r, σ')) : zMet l G mk yX9_roots cX9_roots 12 (some .int) 10 280 [.ref (gA G (61)), .int a1, .int a2, .int a3, .int a4] σ (some (.int r)) σ' := by
  unfold fX9_roots at h

  refine zMet.of (plainFor_of_name (by decide +kernel)) hm (Nat.le_of_ble_eq_true rfl) (fun T eL eG eM hN hC hQ => ?_)
  subst eL; subst eG; subst eM
  refine z_sub [(0, .ref (zAd T (61))), (1, .int a1), (2, .int a2), (3, .int a3), (4, .int a4)] [0, 1, 2, 3, 4] rfl ?_
  exact wX9_roots_0 hC hN hQ _ _ _ _  _ h
noncomputable def fX9_part__0 (a1 : Int32) (a2 : Int32) (σ : zSt) : Option Int32 := 
    (if a1 < 0 then some (0 : Int32)
    else 
      (if a1 < (gi σ 61 40) then 
        (if a2 = 0 then zg (vp_in a1 130) <| some (Int64.toInt32 (gl σ 82 a1.toNatClampNeg))
        else 
          (if a2 = (1 : Int32) then zg (vp_in a1 130) <| some (Int64.toInt32 (gl σ 83 a1.toNatClampNeg))
          else 
            (if a2 = (2 : Int32) then zg (vp_in a1 130) <| some (gi σ 84 a1.toNatClampNeg)
            else some (0 : Int32))))
      else some (0 : Int32)))
noncomputable def fX9_part_ (a1 : Int32) (a2 : Int32) (σ : zSt) : Option Int32 := fX9_part__0 a1 a2 σ
set_option maxRecDepth 100000 in
set_option maxHeartbeats 4000000 in
theorem wX9_part__0 {T : zX} {σ : zSt} (hC : zOk T cX9_part_ RX9 0 0 61 85) (hN : zNL T = 3) {r : Int32} (hQ : zRes T (some .int) (some (.int r)) σ) (a1 : Int32) (a2 : Int32)  (h : fX9_part__0 a1 a2 σ = some r) : Z T σ 0 [(0, .ref (zAd T (61))), (1, .int a1), (2, .int a2)] [] := by
  unfold fX9_part__0 at h
  refine z_iload_n hC 1 rfl rfl dX9_part__0 ?_
  refine z_if_lt hC 12 (by decide) dX9_part__1 (fun q1_1 => ?_) (fun q1_1 => ?_)
  · replace h := z_t q1_1 h
    refine z_iconst hC (0 : Int32) (by decide) dX9_part__12 ?_
    obtain rfl := z_so h
    exact z_iret hC hQ dX9_part__13
  · replace h := z_f q1_1 h
    refine z_iload_n hC 1 rfl rfl dX9_part__4 ?_
    refine z_aload_n hC 0 rfl rfl dX9_part__5 ?_
    refine gX9_40 hC kf_X9_402 (gi σ 61 40) rfl dX9_part__6 ?_
    refine z_icmp_lt hC 14 (by decide) dX9_part__9 (fun q9_2 => ?_) (fun q9_2 => ?_)
    · replace h := z_t q9_2 h
      refine z_iload_n hC 2 rfl rfl dX9_part__14 ?_
      refine z_if_ne hC 28 (by decide) dX9_part__15 (fun q15_3 => ?_) (fun q15_3 => ?_)
      · replace h := z_f q15_3 h
        refine z_iload_n hC 2 rfl rfl dX9_part__28 ?_
        refine z_iconst hC (1 : Int32) (by decide) dX9_part__29 ?_
        refine z_icmp_ne hC 43 (by decide) dX9_part__30 (fun q30_4 => ?_) (fun q30_4 => ?_)
        · replace h := z_f q30_4 h
          refine z_iload_n hC 2 rfl rfl dX9_part__43 ?_
          refine z_iconst hC (2 : Int32) (by decide) dX9_part__44 ?_
          refine z_icmp_ne hC 57 (by decide) dX9_part__45 (fun q45_5 => ?_) (fun q45_5 => ?_)
          · replace h := z_f q45_5 h
            refine z_iconst hC (0 : Int32) (by decide) dX9_part__57 ?_
            obtain rfl := z_so h
            exact z_iret hC hQ dX9_part__58
          · replace h := z_t q45_5 h
            refine z_aload_n hC 0 rfl rfl dX9_part__48 ?_
            refine gX9_43 hC kf_X9_79 dX9_part__49 ?_
            refine z_iload_n hC 1 rfl rfl dX9_part__52 ?_
            refine z_g h (fun g53_6 h => ?_)
            refine z_iald hC 84 ⟨by decide, by decide⟩ (zS_84 _ _ _) g53_6 (gi σ 84 a1.toNatClampNeg) rfl dX9_part__53 ?_
            refine z_goto hC 58 (by decide) dX9_part__54 ?_
            obtain rfl := z_so h
            exact z_iret hC hQ dX9_part__58
        · replace h := z_t q30_4 h
          refine z_aload_n hC 0 rfl rfl dX9_part__33 ?_
          refine gX9_42 hC kf_X9_76 dX9_part__34 ?_
          refine z_iload_n hC 1 rfl rfl dX9_part__37 ?_
          refine z_g h (fun g38_7 h => ?_)
          refine z_lald hC 83 ⟨by decide, by decide⟩ (zS_83 _ _ _) g38_7 (gl σ 83 a1.toNatClampNeg) rfl dX9_part__38 ?_
          refine z_l2i hC dX9_part__39 ?_
          refine z_goto hC 58 (by decide) dX9_part__40 ?_
          obtain rfl := z_so h
          exact z_iret hC hQ dX9_part__58
      · replace h := z_t q15_3 h
        refine z_aload_n hC 0 rfl rfl dX9_part__18 ?_
        refine gX9_41 hC kf_X9_73 dX9_part__19 ?_
        refine z_iload_n hC 1 rfl rfl dX9_part__22 ?_
        refine z_g h (fun g23_8 h => ?_)
        refine z_lald hC 82 ⟨by decide, by decide⟩ (zS_82 _ _ _) g23_8 (gl σ 82 a1.toNatClampNeg) rfl dX9_part__23 ?_
        refine z_l2i hC dX9_part__24 ?_
        refine z_goto hC 58 (by decide) dX9_part__25 ?_
        obtain rfl := z_so h
        exact z_iret hC hQ dX9_part__58
    · replace h := z_f q9_2 h
      refine z_iconst hC (0 : Int32) (by decide) dX9_part__12 ?_
      obtain rfl := z_so h
      exact z_iret hC hQ dX9_part__13
set_option maxRecDepth 100000 in
theorem ctX9_part_ {l : Launch} {G : zGt} {mk : zSt → zSt} (hm : zM mk 61 85) {a1 : Int32} {a2 : Int32} {σ : zSt} {r : Int32} (h : fX9_part_ a1 a2 σ = some r) : zMet l G mk yX9_part_ cX9_part_ 3 (some .int) 0 0 [.ref (gA G (61)), .int a1, .int a2] σ (some (.int r)) σ := by
  unfold fX9_part_ at h

  refine zMet.of (plainFor_of_name (by decide +kernel)) hm (Nat.le_of_ble_eq_true rfl) (fun T eL eG eM hN hC hQ => ?_)
  subst eL; subst eG; subst eM
  refine z_sub [(0, .ref (zAd T (61))), (1, .int a1), (2, .int a2)] [0, 1, 2] rfl ?_
  exact wX9_part__0 hC hN hQ _ _  h
noncomputable def fX9_shutOf_0 (a1 : Int32) (a2 : Int64) (a4 : Int64) (a6 : Int32) (σ : zSt) : Option (Int32 × zSt) := bd2 (fX9_shut a1 a2 a4 σ) fun r5_1 s5_2 => 
    (if r5_1 = 0 then some ((0 : Int32), s5_2)
    else 
      (if a6 = 0 then some ((1 : Int32), s5_2)
      else bd1 (fX9_is (-(gl s5_2 61 30)) (-(gl s5_2 61 29)) s5_2) fun s29_5 => 
        (if (gi s29_5 61 21) = 0 then some ((1 : Int32), (sl (sl s29_5 61 29 (gl s29_5 61 19)) 61 30 (gl s29_5 61 20)))
        else some ((0 : Int32), (sl (sl s29_5 61 29 (gl s29_5 61 19)) 61 30 (gl s29_5 61 20))))))
noncomputable def fX9_shutOf (a1 : Int32) (a2 : Int64) (a4 : Int64) (a6 : Int32) (σ : zSt) : Option (Int32 × zSt) := fX9_shutOf_0 a1 a2 a4 a6 σ
set_option maxRecDepth 100000 in
set_option maxHeartbeats 4000000 in
theorem wX9_shutOf_0 {T : zX} (hC : zOk T cX9_shutOf RX9 8 226 61 85) (hN : zNL T = 7) {r : Int32} {σ' : zSt} (hQ : zRes T (some .boolean) (some (.int r)) σ') (a1 : Int32) (a2 : Int64) (a4 : Int64) (a6 : Int32)  (σ : zSt) (h : fX9_shutOf_0 a1 a2 a4 a6 σ = some (r, σ')) : Z T σ 0 [(0, .ref (zAd T (61))), (1, .int a1), (2, .long a2), (4, .long a4), (6, .int a6)] [] := by
  unfold fX9_shutOf_0 at h
  refine z_aload_n hC 0 rfl rfl dX9_shutOf_0 ?_
  refine z_iload_n hC 1 rfl rfl dX9_shutOf_1 ?_
  refine z_lload_n hC 2 rfl rfl dX9_shutOf_2 ?_
  refine z_lload hC 3 rfl dX9_shutOf_3 ?_
  refine z_b2 h (fun r5_1 s5_2 e_r5_1 h => ?_)
  refine z_cV3r hC (ctX9_shut hC.hm e_r5_1) (rcX9 hC) kb_X9_shut km_X9_370 ⟨by decide, by decide⟩ (Nat.le_of_ble_eq_true rfl) dX9_shutOf_5 ?_
  refine z_if_ne hC 13 (by decide) dX9_shutOf_8 (fun q8_3 => ?_) (fun q8_3 => ?_)
  · replace h := z_f q8_3 h
    refine z_iload hC 4 rfl dX9_shutOf_13 ?_
    refine z_if_eq hC 61 (by decide) dX9_shutOf_15 (fun q15_4 => ?_) (fun q15_4 => ?_)
    · replace h := z_t q15_4 h
      refine z_iconst hC (1 : Int32) (by decide) dX9_shutOf_61 ?_
      obtain ⟨rfl, rfl⟩ := z_pr h
      exact z_zret hC hQ dX9_shutOf_62 (by decide)
    · replace h := z_f q15_4 h
      refine z_aload_n hC 0 rfl rfl dX9_shutOf_18 ?_
      refine z_aload_n hC 0 rfl rfl dX9_shutOf_19 ?_
      refine gX9_30 hC kf_X9_358 (gl s5_2 61 30) rfl dX9_shutOf_20 ?_
      refine z_lneg hC dX9_shutOf_23 ?_
      refine z_aload_n hC 0 rfl rfl dX9_shutOf_24 ?_
      refine gX9_29 hC kf_X9_355 (gl s5_2 61 29) rfl dX9_shutOf_25 ?_
      refine z_lneg hC dX9_shutOf_28 ?_
      refine z_b1 h (fun s29_5 e_s29_5 h => ?_)
      refine z_cV2v hC (ctX9_is hC.hm e_s29_5) (rcX9 hC) kb_X9_is km_X9_243 ⟨by decide, by decide⟩ (Nat.le_of_ble_eq_true rfl) dX9_shutOf_29 ?_
      refine z_aload_n hC 0 rfl rfl dX9_shutOf_32 ?_
      refine z_aload_n hC 0 rfl rfl dX9_shutOf_33 ?_
      refine gX9_19 hC kf_X9_222 (gl s29_5 61 19) rfl dX9_shutOf_34 ?_
      refine pX9_29 hC kf_X9_355 dX9_shutOf_37 ?_
      refine z_aload_n hC 0 rfl rfl dX9_shutOf_40 ?_
      refine z_aload_n hC 0 rfl rfl dX9_shutOf_41 ?_
      refine gX9_20 hC kf_X9_226 (gl s29_5 61 20) rfl dX9_shutOf_42 ?_
      refine pX9_30 hC kf_X9_358 dX9_shutOf_45 ?_
      refine z_aload_n hC 0 rfl rfl dX9_shutOf_48 ?_
      refine gX9_21 hC kf_X9_233 (gi s29_5 61 21) rfl dX9_shutOf_49 ?_
      refine z_if_ne hC 59 (by decide) dX9_shutOf_52 (fun q52_6 => ?_) (fun q52_6 => ?_)
      · replace h := z_f q52_6 h
        refine z_iconst hC (0 : Int32) (by decide) dX9_shutOf_59 ?_
        obtain ⟨rfl, rfl⟩ := z_pr h
        exact z_zret hC hQ dX9_shutOf_60 (by decide)
      · replace h := z_t q52_6 h
        refine z_iconst hC (1 : Int32) (by decide) dX9_shutOf_55 ?_
        refine z_goto hC 60 (by decide) dX9_shutOf_56 ?_
        obtain ⟨rfl, rfl⟩ := z_pr h
        exact z_zret hC hQ dX9_shutOf_60 (by decide)
  · replace h := z_t q8_3 h
    refine z_iconst hC (0 : Int32) (by decide) dX9_shutOf_11 ?_
    obtain ⟨rfl, rfl⟩ := z_pr h
    exact z_zret hC hQ dX9_shutOf_12 (by decide)
set_option maxRecDepth 100000 in
theorem ctX9_shutOf {l : Launch} {G : zGt} {mk : zSt → zSt} (hm : zM mk 61 85) {a1 : Int32} {a2 : Int64} {a4 : Int64} {a6 : Int32} {σ : zSt} {r : Int32} {σ' : zSt} (h : fX9_shutOf a1 a2 a4 a6 σ = some (r, σ')) : zMet l G mk yX9_shutOf cX9_shutOf 7 (some .boolean) 8 226 [.ref (gA G (61)), .int a1, .long a2, .long a4, .int a6] σ (some (.int r)) σ' := by
  unfold fX9_shutOf at h

  refine zMet.of (plainFor_of_name (by decide +kernel)) hm (Nat.le_of_ble_eq_true rfl) (fun T eL eG eM hN hC hQ => ?_)
  subst eL; subst eG; subst eM
  refine z_sub [(0, .ref (zAd T (61))), (1, .int a1), (2, .long a2), (4, .long a4), (6, .int a6)] [0, 1, 2, 3, 4] rfl ?_
  exact wX9_shutOf_0 hC hN hQ _ _ _ _  _ h
noncomputable def fX9_lowOf_0 (a1 : Int32) (a2 : Int32) (a3 : Int32) (σ : zSt) : Option (Int32 × zSt) := zg (vp_in a2 260) <| zg (vp_in a2 260) <| bd2 (fX9_shutOf a1 (gl σ 78 a2.toNatClampNeg) (gl σ 79 a2.toNatClampNeg) a3 σ) fun r15_3 s15_4 => zg (vp_in a2 260) <| zg (vp_in a2 260) <| zg (vp_in a2 260) <| bd1 (fX9_down ((gl s15_4 78 a2.toNatClampNeg) + (gl s15_4 79 a2.toNatClampNeg)) (2 : Int64)) fun r46_8 => 
    (if r15_3 = 0 then zg (vp_in a2 260) <| some ((0 : Int32), (sl (sl s15_4 80 a2.toNatClampNeg (gl s15_4 61 29)) 81 a2.toNatClampNeg (gl s15_4 61 30)))
    else bd2 (fX9_shutOf a1 r46_8 r46_8 a3 (sl s15_4 80 a2.toNatClampNeg (gl s15_4 61 29))) fun r63_11 s63_12 => 
      (if r63_11 = 0 then zg (vp_in a2 260) <| some ((0 : Int32), (sl s63_12 81 a2.toNatClampNeg (gl s63_12 61 30)))
      else zg (vp_in a2 260) <| some ((1 : Int32), (sl s63_12 81 a2.toNatClampNeg (gl s63_12 61 30)))))
noncomputable def fX9_lowOf (a1 : Int32) (a2 : Int32) (a3 : Int32) (σ : zSt) : Option (Int32 × zSt) := fX9_lowOf_0 a1 a2 a3 σ
set_option maxRecDepth 100000 in
set_option maxHeartbeats 4000000 in
theorem wX9_lowOf_0 {T : zX} (hC : zOk T cX9_lowOf RX9 9 252 61 85) (hN : zNL T = 7) {r : Int32} {σ' : zSt} (hQ : zRes T (some .boolean) (some (.int r)) σ') (a1 : Int32) (a2 : Int32) (a3 : Int32)  (σ : zSt) (h : fX9_lowOf_0 a1 a2 a3 σ = some (r, σ')) : Z T σ 0 [(0, .ref (zAd T (61))), (1, .int a1), (2, .int a2), (3, .int a3)] [] := by
  unfold fX9_lowOf_0 at h
  refine z_aload_n hC 0 rfl rfl dX9_lowOf_0 ?_
  refine z_iload_n hC 1 rfl rfl dX9_lowOf_1 ?_
  refine z_aload_n hC 0 rfl rfl dX9_lowOf_2 ?_
  refine gX9_34 hC kf_X9_61 dX9_lowOf_3 ?_
  refine z_iload_n hC 2 rfl rfl dX9_lowOf_6 ?_
  refine z_g h (fun g7_1 h => ?_)
  refine z_lald hC 78 ⟨by decide, by decide⟩ (zS_78 _ _ _) g7_1 (gl σ 78 a2.toNatClampNeg) rfl dX9_lowOf_7 ?_
  refine z_aload_n hC 0 rfl rfl dX9_lowOf_8 ?_
  refine gX9_35 hC kf_X9_64 dX9_lowOf_9 ?_
  refine z_iload_n hC 2 rfl rfl dX9_lowOf_12 ?_
  refine z_g h (fun g13_2 h => ?_)
  refine z_lald hC 79 ⟨by decide, by decide⟩ (zS_79 _ _ _) g13_2 (gl σ 79 a2.toNatClampNeg) rfl dX9_lowOf_13 ?_
  refine z_iload_n hC 3 rfl rfl dX9_lowOf_14 ?_
  refine z_b2 h (fun r15_3 s15_4 e_r15_3 h => ?_)
  refine z_cV4r hC (ctX9_shutOf hC.hm e_r15_3) (rcX9 hC) kb_X9_shutOf km_X9_409 ⟨by decide, by decide⟩ (Nat.le_of_ble_eq_true rfl) dX9_lowOf_15 ?_
  refine z_istore hC [(4, .int r15_3), (0, .ref (zAd T (61))), (1, .int a1), (2, .int a2), (3, .int a3)] (by rw [hN]; decide) rfl dX9_lowOf_18 ?_
  refine z_aload_n hC 1 rfl rfl dX9_lowOf_20 ?_
  refine gX9_36 hC kf_X9_67 dX9_lowOf_21 ?_
  refine z_iload_n hC 3 rfl rfl dX9_lowOf_24 ?_
  refine z_aload_n hC 1 rfl rfl dX9_lowOf_25 ?_
  refine gX9_29 hC kf_X9_355 (gl s15_4 61 29) rfl dX9_lowOf_26 ?_
  refine z_g h (fun g29_5 h => ?_)
  refine z_last hC 80 ⟨by decide, by decide⟩ (zS_80 _) g29_5 dX9_lowOf_29 ?_
  refine z_aload_n hC 1 rfl rfl dX9_lowOf_30 ?_
  refine gX9_34 hC kf_X9_61 dX9_lowOf_31 ?_
  refine z_iload_n hC 3 rfl rfl dX9_lowOf_34 ?_
  refine z_g h (fun g35_6 h => ?_)
  refine z_lald hC 78 ⟨by decide, by decide⟩ (zS_78 _ _ _) g35_6 (gl s15_4 78 a2.toNatClampNeg) rfl dX9_lowOf_35 ?_
  refine z_aload_n hC 1 rfl rfl dX9_lowOf_36 ?_
  refine gX9_35 hC kf_X9_64 dX9_lowOf_37 ?_
  refine z_iload_n hC 3 rfl rfl dX9_lowOf_40 ?_
  refine z_g h (fun g41_7 h => ?_)
  refine z_lald hC 79 ⟨by decide, by decide⟩ (zS_79 _ _ _) g41_7 (gl s15_4 79 a2.toNatClampNeg) rfl dX9_lowOf_41 ?_
  refine z_ladd hC dX9_lowOf_42 ?_
  refine z_ldc2 hC kc_X9_292 dX9_lowOf_43 ?_
  refine z_b1 h (fun r46_8 e_r46_8 h => ?_)
  refine z_cS2r hC (ctX9_down hC.hm e_r46_8) kb_X9_down km_X9_209 ⟨by decide, by decide⟩ (Nat.le_of_ble_eq_true rfl) dX9_lowOf_46 ?_
  refine z_lstore hC [(5, .long r46_8), (4, .int r15_3), (0, .ref (zAd T (61))), (1, .int a1), (2, .int a2), (3, .int a3)] (by rw [hN]; decide) rfl dX9_lowOf_49 ?_
  refine z_iload hC 1 rfl dX9_lowOf_51 ?_
  refine z_if_eq hC 73 (by decide) dX9_lowOf_53 (fun q53_9 => ?_) (fun q53_9 => ?_)
  · replace h := z_t q53_9 h
    refine z_iconst hC (0 : Int32) (by decide) dX9_lowOf_73 ?_
    refine z_istore hC [(4, .int (0 : Int32)), (5, .long r46_8), (0, .ref (zAd T (61))), (1, .int a1), (2, .int a2), (3, .int a3)] (by rw [hN]; decide) rfl dX9_lowOf_74 ?_
    refine z_aload_n hC 2 rfl rfl dX9_lowOf_76 ?_
    refine gX9_37 hC kf_X9_70 dX9_lowOf_77 ?_
    refine z_iload_n hC 4 rfl rfl dX9_lowOf_80 ?_
    refine z_aload_n hC 2 rfl rfl dX9_lowOf_81 ?_
    refine gX9_30 hC kf_X9_358 (gl s15_4 61 30) rfl dX9_lowOf_82 ?_
    refine z_g h (fun g85_10 h => ?_)
    refine z_last hC 81 ⟨by decide, by decide⟩ (zS_81 _) g85_10 dX9_lowOf_85 ?_
    refine z_iload hC 0 rfl dX9_lowOf_86 ?_
    obtain ⟨rfl, rfl⟩ := z_pr h
    exact z_zret hC hQ dX9_lowOf_88 (by decide)
  · replace h := z_f q53_9 h
    refine z_aload_n hC 2 rfl rfl dX9_lowOf_56 ?_
    refine z_iload_n hC 3 rfl rfl dX9_lowOf_57 ?_
    refine z_lload hC 0 rfl dX9_lowOf_58 ?_
    refine z_lload hC 0 rfl dX9_lowOf_60 ?_
    refine z_iload_n hC 5 rfl rfl dX9_lowOf_62 ?_
    refine z_b2 h (fun r63_11 s63_12 e_r63_11 h => ?_)
    refine z_cV4r hC (ctX9_shutOf hC.hm e_r63_11) (rcX9 hC) kb_X9_shutOf km_X9_409 ⟨by decide, by decide⟩ (Nat.le_of_ble_eq_true rfl) dX9_lowOf_63 ?_
    refine z_if_eq hC 73 (by decide) dX9_lowOf_66 (fun q66_13 => ?_) (fun q66_13 => ?_)
    · replace h := z_t q66_13 h
      refine z_iconst hC (0 : Int32) (by decide) dX9_lowOf_73 ?_
      refine z_istore hC [(4, .int (0 : Int32)), (5, .long r46_8), (0, .ref (zAd T (61))), (1, .int a1), (2, .int a2), (3, .int a3)] (by rw [hN]; decide) rfl dX9_lowOf_74 ?_
      refine z_aload_n hC 2 rfl rfl dX9_lowOf_76 ?_
      refine gX9_37 hC kf_X9_70 dX9_lowOf_77 ?_
      refine z_iload_n hC 4 rfl rfl dX9_lowOf_80 ?_
      refine z_aload_n hC 2 rfl rfl dX9_lowOf_81 ?_
      refine gX9_30 hC kf_X9_358 (gl s63_12 61 30) rfl dX9_lowOf_82 ?_
      refine z_g h (fun g85_14 h => ?_)
      refine z_last hC 81 ⟨by decide, by decide⟩ (zS_81 _) g85_14 dX9_lowOf_85 ?_
      refine z_iload hC 0 rfl dX9_lowOf_86 ?_
      obtain ⟨rfl, rfl⟩ := z_pr h
      exact z_zret hC hQ dX9_lowOf_88 (by decide)
    · replace h := z_f q66_13 h
      refine z_iconst hC (1 : Int32) (by decide) dX9_lowOf_69 ?_
      refine z_goto hC 74 (by decide) dX9_lowOf_70 ?_
      refine z_istore hC [(4, .int (1 : Int32)), (5, .long r46_8), (0, .ref (zAd T (61))), (1, .int a1), (2, .int a2), (3, .int a3)] (by rw [hN]; decide) rfl dX9_lowOf_74 ?_
      refine z_aload_n hC 2 rfl rfl dX9_lowOf_76 ?_
      refine gX9_37 hC kf_X9_70 dX9_lowOf_77 ?_
      refine z_iload_n hC 4 rfl rfl dX9_lowOf_80 ?_
      refine z_aload_n hC 2 rfl rfl dX9_lowOf_81 ?_
      refine gX9_30 hC kf_X9_358 (gl s63_12 61 30) rfl dX9_lowOf_82 ?_
      refine z_g h (fun g85_15 h => ?_)
      refine z_last hC 81 ⟨by decide, by decide⟩ (zS_81 _) g85_15 dX9_lowOf_85 ?_
      refine z_iload hC 0 rfl dX9_lowOf_86 ?_
      obtain ⟨rfl, rfl⟩ := z_pr h
      exact z_zret hC hQ dX9_lowOf_88 (by decide)
set_option maxRecDepth 100000 in
theorem ctX9_lowOf {l : Launch} {G : zGt} {mk : zSt → zSt} (hm : zM mk 61 85) {a1 : Int32} {a2 : Int32} {a3 : Int32} {σ : zSt} {r : Int32} {σ' : zSt} (h : fX9_lowOf a1 a2 a3 σ = some (r, σ')) : zMet l G mk yX9_lowOf cX9_lowOf 7 (some .boolean) 9 252 [.ref (gA G (61)), .int a1, .int a2, .int a3] σ (some (.int r)) σ' := by
  unfold fX9_lowOf at h

  refine zMet.of (plainFor_of_name (by decide +kernel)) hm (Nat.le_of_ble_eq_true rfl) (fun T eL eG eM hN hC hQ => ?_)
  subst eL; subst eG; subst eM
  refine z_sub [(0, .ref (zAd T (61))), (1, .int a1), (2, .int a2), (3, .int a3)] [0, 1, 2, 3] rfl ?_
  exact wX9_lowOf_0 hC hN hQ _ _ _  _ h
noncomputable def fX9_least_4 (K4 : Int32 → Int32 → zSt → Option Int32) (v1 : Int32) (v2 : Int32) (σ : zSt) : Option Int32 := 
    (if (gi σ 61 33) ≤ v2 then some v1
    else zg (vp_in v2 260) <| zg (vp_in v1 260) <| 
      (if (gl σ 80 v1.toNatClampNeg) ≤ (gl σ 80 v2.toNatClampNeg) then nm (v2 + (1 : Int32)) fun x34_5 => K4 v1 x34_5 σ
      else nm (v2 + (1 : Int32)) fun x34_6 => K4 v2 x34_6 σ))
noncomputable def fX9_least_L4 : Nat → Int32 → Int32 → zSt → Option Int32
  | 0, _, _, _ => none
  | n + 1, v1, v2, σ => fX9_least_4 (fX9_least_L4 n) v1 v2 σ
noncomputable def fX9_least_0  (σ : zSt) : Option Int32 := fX9_least_L4 zFU (0 : Int32) (1 : Int32) σ
noncomputable def fX9_least  (σ : zSt) : Option Int32 := fX9_least_0  σ
set_option maxRecDepth 100000 in
set_option maxHeartbeats 4000000 in
theorem wX9_least_4 {T : zX} {σ : zSt} (hC : zOk T cX9_least RX9 0 0 61 85) (hN : zNL T = 3) {r : Int32} (hQ : zRes T (some .int) (some (.int r)) σ) (K4 : Int32 → Int32 → zSt → Option Int32) (hK4 : ∀ (v1 : Int32) (v2 : Int32), K4 v1 v2 σ = some r → Z T σ 4 [(0, .ref (zAd T (61))), (1, .int v1), (2, .int v2)] []) (v1 : Int32) (v2 : Int32)  (h : fX9_least_4 K4 v1 v2 σ = some r) : Z T σ 4 [(0, .ref (zAd T (61))), (1, .int v1), (2, .int v2)] [] := by
  unfold fX9_least_4 at h
  refine z_iload_n hC 2 rfl rfl dX9_least_4 ?_
  refine z_aload_n hC 0 rfl rfl dX9_least_5 ?_
  refine gX9_33 hC kf_X9_381 (gi σ 61 33) rfl dX9_least_6 ?_
  refine z_icmp_ge hC 40 (by decide) dX9_least_9 (fun q9_1 => ?_) (fun q9_1 => ?_)
  · replace h := z_t q9_1 h
    refine z_iload_n hC 1 rfl rfl dX9_least_40 ?_
    obtain rfl := z_so h
    exact z_iret hC hQ dX9_least_41
  · replace h := z_f q9_1 h
    refine z_aload_n hC 0 rfl rfl dX9_least_12 ?_
    refine gX9_36 hC kf_X9_67 dX9_least_13 ?_
    refine z_iload_n hC 2 rfl rfl dX9_least_16 ?_
    refine z_g h (fun g17_2 h => ?_)
    refine z_lald hC 80 ⟨by decide, by decide⟩ (zS_80 _ _ _) g17_2 (gl σ 80 v2.toNatClampNeg) rfl dX9_least_17 ?_
    refine z_aload_n hC 0 rfl rfl dX9_least_18 ?_
    refine gX9_36 hC kf_X9_67 dX9_least_19 ?_
    refine z_iload_n hC 1 rfl rfl dX9_least_22 ?_
    refine z_g h (fun g23_3 h => ?_)
    refine z_lald hC 80 ⟨by decide, by decide⟩ (zS_80 _ _ _) g23_3 (gl σ 80 v1.toNatClampNeg) rfl dX9_least_23 ?_
    refine z_cmp_ge hC 32 (by decide) dX9_least_24 dX9_least_25 (fun q24_4 => ?_) (fun q24_4 => ?_)
    · replace h := z_t q24_4 h
      refine z_iload_n hC 1 rfl rfl dX9_least_32 ?_
      refine z_istore_n hC [(1, .int v1), (0, .ref (zAd T (61))), (2, .int v2)] rfl (by rw [hN]; decide) rfl dX9_least_33 ?_
      refine z_nmE h (fun x34_5 e_x34_5 h => ?_)
      refine z_iinc hC x34_5 [(2, .int x34_5), (1, .int v1), (0, .ref (zAd T (61)))] 2 rfl (by rw [e_x34_5]; rfl) (by rw [hN]; decide) rfl dX9_least_34 ?_
      refine z_goto hC 4 (by decide) dX9_least_37 ?_
      refine z_sub [(0, .ref (zAd T (61))), (1, .int v1), (2, .int x34_5)] [2, 1, 0] rfl ?_
      exact hK4 _ _ h
    · replace h := z_f q24_4 h
      refine z_iload_n hC 2 rfl rfl dX9_least_28 ?_
      refine z_goto hC 33 (by decide) dX9_least_29 ?_
      refine z_istore_n hC [(1, .int v2), (0, .ref (zAd T (61))), (2, .int v2)] rfl (by rw [hN]; decide) rfl dX9_least_33 ?_
      refine z_nmE h (fun x34_6 e_x34_6 h => ?_)
      refine z_iinc hC x34_6 [(2, .int x34_6), (1, .int v2), (0, .ref (zAd T (61)))] 2 rfl (by rw [e_x34_6]; rfl) (by rw [hN]; decide) rfl dX9_least_34 ?_
      refine z_goto hC 4 (by decide) dX9_least_37 ?_
      refine z_sub [(0, .ref (zAd T (61))), (1, .int v2), (2, .int x34_6)] [2, 1, 0] rfl ?_
      exact hK4 _ _ h
theorem wX9_least_L4 {T : zX} {σ : zSt} (hC : zOk T cX9_least RX9 0 0 61 85) (hN : zNL T = 3) {r : Int32} (hQ : zRes T (some .int) (some (.int r)) σ) (n : Nat) : ∀ (v1 : Int32) (v2 : Int32), fX9_least_L4 n v1 v2 σ = some r → Z T σ 4 [(0, .ref (zAd T (61))), (1, .int v1), (2, .int v2)] [] := by
  induction n with
  | zero => intro v1 v2 h; cases h
  | succ n ih => intro v1 v2 h; exact wX9_least_4 hC hN hQ (fX9_least_L4 n) ih v1 v2 h
set_option maxRecDepth 100000 in
set_option maxHeartbeats 4000000 in
theorem wX9_least_0 {T : zX} {σ : zSt} (hC : zOk T cX9_least RX9 0 0 61 85) (hN : zNL T = 3) {r : Int32} (hQ : zRes T (some .int) (some (.int r)) σ)   (h : fX9_least_0  σ = some r) : Z T σ 0 [(0, .ref (zAd T (61)))] [] := by
  unfold fX9_least_0 at h
  refine z_iconst hC (0 : Int32) (by decide) dX9_least_0 ?_
  refine z_istore_n hC [(1, .int (0 : Int32)), (0, .ref (zAd T (61)))] rfl (by rw [hN]; decide) rfl dX9_least_1 ?_
  refine z_iconst hC (1 : Int32) (by decide) dX9_least_2 ?_
  refine z_istore_n hC [(2, .int (1 : Int32)), (1, .int (0 : Int32)), (0, .ref (zAd T (61)))] rfl (by rw [hN]; decide) rfl dX9_least_3 ?_
  refine z_sub [(0, .ref (zAd T (61))), (1, .int (0 : Int32)), (2, .int (1 : Int32))] [2, 1, 0] rfl ?_
  exact (wX9_least_L4 hC hN hQ zFU) _ _ h
set_option maxRecDepth 100000 in
theorem ctX9_least {l : Launch} {G : zGt} {mk : zSt → zSt} (hm : zM mk 61 85)  {σ : zSt} {r : Int32} (h : fX9_least  σ = some r) : zMet l G mk yX9_least cX9_least 3 (some .int) 0 0 [.ref (gA G (61))] σ (some (.int r)) σ := by
  unfold fX9_least at h

  refine zMet.of (plainFor_of_name (by decide +kernel)) hm (Nat.le_of_ble_eq_true rfl) (fun T eL eG eM hN hC hQ => ?_)
  subst eL; subst eG; subst eM
  refine z_sub [(0, .ref (zAd T (61)))] [0] rfl ?_
  exact wX9_least_0 hC hN hQ   h
noncomputable def fX9_extreme_162 (K162 : Int32 → Int64 → Int64 → Int32 → zSt → Option (Int32 × zSt)) (v5 : Int32) (v6 : Int64) (v8 : Int64) (v10 : Int32) (σ : zSt) : Option (Int32 × zSt) := 
    (if (gi σ 61 33) ≤ v10 then 
      (if v5 = 0 then bd2 (fX9_tells (1 : Int32) v6 v8 (si σ 61 38 (gi σ 61 33))) fun r224_3 s224_4 => some (r224_3, s224_4)
      else bd2 (fX9_tells (1 : Int32) (-v8) (-v6) (si σ 61 38 (gi σ 61 33))) fun r212_5 s212_6 => some (r212_5, s212_6))
    else zg (vp_in v10 260) <| nm (fX9_less v8 (gl σ 81 v10.toNatClampNeg)) fun x183_8 => nm (v10 + (1 : Int32)) fun x185_9 => K162 v5 v6 x183_8 x185_9 σ)
noncomputable def fX9_extreme_L162 : Nat → Int32 → Int64 → Int64 → Int32 → zSt → Option (Int32 × zSt)
  | 0, _, _, _, _, _ => none
  | n + 1, v5, v6, v8, v10, σ => fX9_extreme_162 (fX9_extreme_L162 n) v5 v6 v8 v10 σ
noncomputable def fX9_extreme_65 (K65 : Int32 → Int32 → Int32 → Int32 → zSt → Option (Int32 × zSt)) (v1 : Int32) (v4 : Int32) (v5 : Int32) (v6 : Int32) (σ : zSt) : Option (Int32 × zSt) := 
    (if v4 ≤ v6 then bd1 (fX9_least σ) fun r148_2 => zg (vp_in r148_2 260) <| nm (gl σ 80 r148_2.toNatClampNeg) fun x152_4 => fX9_extreme_L162 zFU v5 x152_4 (2147483648 : Int64) (0 : Int32) σ
    else bd1 (fX9_least σ) fun r73_5 => zg (vp_in r73_5 260) <| zg (vp_in r73_5 260) <| 
      (if (2 : Int64) ≤ ((gl σ 79 r73_5.toNatClampNeg) - (gl σ 78 r73_5.toNatClampNeg)) then bd1 (fX9_halve r73_5 σ) fun s106_9 => bd2 (fX9_lowOf v1 r73_5 v5 s106_9) fun r115_10 s115_11 => 
        (if r115_10 = 0 then some ((1 : Int32), s115_11)
        else bd2 (fX9_lowOf v1 (r73_5 + (1 : Int32)) v5 s115_11) fun r129_13 s129_14 => 
          (if r129_13 = 0 then some ((1 : Int32), s129_14)
          else nm (v6 + (1 : Int32)) fun x137_16 => K65 v1 v4 v5 x137_16 s129_14))
      else bd1 (fX9_least σ) fun r148_17 => zg (vp_in r148_17 260) <| nm (gl σ 80 r148_17.toNatClampNeg) fun x152_19 => fX9_extreme_L162 zFU v5 x152_19 (2147483648 : Int64) (0 : Int32) σ))
noncomputable def fX9_extreme_L65 : Nat → Int32 → Int32 → Int32 → Int32 → zSt → Option (Int32 × zSt)
  | 0, _, _, _, _, _ => none
  | n + 1, v1, v4, v5, v6, σ => fX9_extreme_65 (fX9_extreme_L65 n) v1 v4 v5 v6 σ
noncomputable def fX9_extreme_0 (a1 : Int32) (a2 : Int32) (a3 : Int32) (a4 : Int32) (a5 : Int32) (σ : zSt) : Option (Int32 × zSt) := 
    (if (fX9_has a1 σ) = 0 then some ((-1 : Int32), σ)
    else 
      (if a3 < a2 then some ((-1 : Int32), σ)
      else 
        (if a4 < 0 then some ((-1 : Int32), σ)
        else 
          (if a4 ≤ (200 : Int32) then bd2 (fX9_lowOf a1 (0 : Int32) a5 (sl (sl (si σ 61 33 (1 : Int32)) 78 (0 : Int32).toNatClampNeg (Int32.toInt64 a2)) 79 (0 : Int32).toNatClampNeg (Int32.toInt64 a3))) fun r54_5 s54_6 => 
            (if r54_5 = 0 then some ((1 : Int32), s54_6)
            else fX9_extreme_L65 zFU a1 a4 a5 (0 : Int32) s54_6)
          else some ((-1 : Int32), σ)))))
noncomputable def fX9_extreme (a1 : Int32) (a2 : Int32) (a3 : Int32) (a4 : Int32) (a5 : Int32) (σ : zSt) : Option (Int32 × zSt) := fX9_extreme_0 a1 a2 a3 a4 a5 σ
set_option maxRecDepth 100000 in
set_option maxHeartbeats 4000000 in
theorem wX9_extreme_162 {T : zX} (hC : zOk T cX9_extreme RX9 10 278 61 85) (hN : zNL T = 11) {r : Int32} {σ' : zSt} (hQ : zRes T (some .int) (some (.int r)) σ') (K162 : Int32 → Int64 → Int64 → Int32 → zSt → Option (Int32 × zSt)) (hK162 : ∀ (v5 : Int32) (v6 : Int64) (v8 : Int64) (v10 : Int32) (τ : zSt), K162 v5 v6 v8 v10 τ = some (r, σ') → Z T τ 162 [(0, .ref (zAd T (61))), (5, .int v5), (6, .long v6), (8, .long v8), (10, .int v10)] []) (v5 : Int32) (v6 : Int64) (v8 : Int64) (v10 : Int32)  (σ : zSt) (h : fX9_extreme_162 K162 v5 v6 v8 v10 σ = some (r, σ')) : Z T σ 162 [(0, .ref (zAd T (61))), (5, .int v5), (6, .long v6), (8, .long v8), (10, .int v10)] [] := by
  unfold fX9_extreme_162 at h
  refine z_iload hC 4 rfl dX9_extreme_162 ?_
  refine z_aload_n hC 0 rfl rfl dX9_extreme_164 ?_
  refine gX9_33 hC kf_X9_381 (gi σ 61 33) rfl dX9_extreme_165 ?_
  refine z_icmp_ge hC 191 (by decide) dX9_extreme_168 (fun q168_1 => ?_) (fun q168_1 => ?_)
  · replace h := z_t q168_1 h
    refine z_aload_n hC 0 rfl rfl dX9_extreme_191 ?_
    refine z_aload_n hC 0 rfl rfl dX9_extreme_192 ?_
    refine gX9_33 hC kf_X9_381 (gi σ 61 33) rfl dX9_extreme_193 ?_
    refine pX9_38 hC kf_X9_395 dX9_extreme_196 ?_
    refine z_iload hC 1 rfl dX9_extreme_199 ?_
    refine z_if_eq hC 218 (by decide) dX9_extreme_201 (fun q201_2 => ?_) (fun q201_2 => ?_)
    · replace h := z_t q201_2 h
      refine z_aload_n hC 0 rfl rfl dX9_extreme_218 ?_
      refine z_iconst hC (1 : Int32) (by decide) dX9_extreme_219 ?_
      refine z_lload hC 2 rfl dX9_extreme_220 ?_
      refine z_lload hC 3 rfl dX9_extreme_222 ?_
      refine z_b2 h (fun r224_3 s224_4 e_r224_3 h => ?_)
      refine z_cV3r hC (ctX9_tells hC.hm e_r224_3) (rcX9 hC) kb_X9_tells km_X9_374 ⟨by decide, by decide⟩ (Nat.le_of_ble_eq_true rfl) dX9_extreme_224 ?_
      obtain ⟨rfl, rfl⟩ := z_pr h
      exact z_iret hC hQ dX9_extreme_227
    · replace h := z_f q201_2 h
      refine z_aload_n hC 0 rfl rfl dX9_extreme_204 ?_
      refine z_iconst hC (1 : Int32) (by decide) dX9_extreme_205 ?_
      refine z_lload hC 3 rfl dX9_extreme_206 ?_
      refine z_lneg hC dX9_extreme_208 ?_
      refine z_lload hC 2 rfl dX9_extreme_209 ?_
      refine z_lneg hC dX9_extreme_211 ?_
      refine z_b2 h (fun r212_5 s212_6 e_r212_5 h => ?_)
      refine z_cV3r hC (ctX9_tells hC.hm e_r212_5) (rcX9 hC) kb_X9_tells km_X9_374 ⟨by decide, by decide⟩ (Nat.le_of_ble_eq_true rfl) dX9_extreme_212 ?_
      refine z_goto hC 227 (by decide) dX9_extreme_215 ?_
      obtain ⟨rfl, rfl⟩ := z_pr h
      exact z_iret hC hQ dX9_extreme_227
  · replace h := z_f q168_1 h
    refine z_lload hC 3 rfl dX9_extreme_171 ?_
    refine z_aload_n hC 0 rfl rfl dX9_extreme_173 ?_
    refine gX9_37 hC kf_X9_70 dX9_extreme_174 ?_
    refine z_iload hC 4 rfl dX9_extreme_177 ?_
    refine z_g h (fun g179_7 h => ?_)
    refine z_lald hC 81 ⟨by decide, by decide⟩ (zS_81 _ _ _) g179_7 (gl σ 81 v10.toNatClampNeg) rfl dX9_extreme_179 ?_
    refine z_cS2r hC (ctX9_less hC.hm) kb_X9_less km_X9_237 ⟨by decide, by decide⟩ (Nat.le_of_ble_eq_true rfl) dX9_extreme_180 ?_
    refine z_nmL h (fun x183_8 h => ?_)
    refine z_lstore hC [(8, .long x183_8), (0, .ref (zAd T (61))), (5, .int v5), (6, .long v6), (10, .int v10)] (by rw [hN]; decide) rfl dX9_extreme_183 ?_
    refine z_nmE h (fun x185_9 e_x185_9 h => ?_)
    refine z_iinc hC x185_9 [(10, .int x185_9), (8, .long x183_8), (0, .ref (zAd T (61))), (5, .int v5), (6, .long v6)] 4 rfl (by rw [e_x185_9]; rfl) (by rw [hN]; decide) rfl dX9_extreme_185 ?_
    refine z_goto hC 162 (by decide) dX9_extreme_188 ?_
    refine z_sub [(0, .ref (zAd T (61))), (5, .int v5), (6, .long v6), (8, .long x183_8), (10, .int x185_9)] [2, 3, 4, 1, 0] rfl ?_
    exact hK162 _ _ _ _ _ h
theorem wX9_extreme_L162 {T : zX} (hC : zOk T cX9_extreme RX9 10 278 61 85) (hN : zNL T = 11) {r : Int32} {σ' : zSt} (hQ : zRes T (some .int) (some (.int r)) σ') (n : Nat) : ∀ (v5 : Int32) (v6 : Int64) (v8 : Int64) (v10 : Int32) (σ : zSt), fX9_extreme_L162 n v5 v6 v8 v10 σ = some (r, σ') → Z T σ 162 [(0, .ref (zAd T (61))), (5, .int v5), (6, .long v6), (8, .long v8), (10, .int v10)] [] := by
  induction n with
  | zero => intro v5 v6 v8 v10 σ h; cases h
  | succ n ih => intro v5 v6 v8 v10 σ h; exact wX9_extreme_162 hC hN hQ (fX9_extreme_L162 n) ih v5 v6 v8 v10 σ h
set_option maxRecDepth 100000 in
set_option maxHeartbeats 4000000 in
theorem wX9_extreme_65 {T : zX} (hC : zOk T cX9_extreme RX9 10 278 61 85) (hN : zNL T = 11) {r : Int32} {σ' : zSt} (hQ : zRes T (some .int) (some (.int r)) σ') (K65 : Int32 → Int32 → Int32 → Int32 → zSt → Option (Int32 × zSt)) (hK65 : ∀ (v1 : Int32) (v4 : Int32) (v5 : Int32) (v6 : Int32) (τ : zSt), K65 v1 v4 v5 v6 τ = some (r, σ') → Z T τ 65 [(0, .ref (zAd T (61))), (1, .int v1), (4, .int v4), (5, .int v5), (6, .int v6)] []) (v1 : Int32) (v4 : Int32) (v5 : Int32) (v6 : Int32)  (σ : zSt) (h : fX9_extreme_65 K65 v1 v4 v5 v6 σ = some (r, σ')) : Z T σ 65 [(0, .ref (zAd T (61))), (1, .int v1), (4, .int v4), (5, .int v5), (6, .int v6)] [] := by
  unfold fX9_extreme_65 at h
  refine z_iload hC 4 rfl dX9_extreme_65 ?_
  refine z_iload hC 2 rfl dX9_extreme_67 ?_
  refine z_icmp_ge hC 143 (by decide) dX9_extreme_69 (fun q69_1 => ?_) (fun q69_1 => ?_)
  · replace h := z_t q69_1 h
    refine z_aload_n hC 0 rfl rfl dX9_extreme_143 ?_
    refine gX9_36 hC kf_X9_67 dX9_extreme_144 ?_
    refine z_aload_n hC 0 rfl rfl dX9_extreme_147 ?_
    refine z_b1 h (fun r148_2 e_r148_2 h => ?_)
    refine z_cV0r hC (ctX9_least hC.hm e_r148_2) (rcX9 hC) kb_X9_least km_X9_417 ⟨by decide, by decide⟩ (Nat.le_of_ble_eq_true rfl) dX9_extreme_148 ?_
    refine z_g h (fun g151_3 h => ?_)
    refine z_lald hC 80 ⟨by decide, by decide⟩ (zS_80 _ _ _) g151_3 (gl σ 80 r148_2.toNatClampNeg) rfl dX9_extreme_151 ?_
    refine z_nmL h (fun x152_4 h => ?_)
    refine z_lstore hC [(6, .long x152_4), (0, .ref (zAd T (61))), (1, .int v1), (4, .int v4), (5, .int v5)] (by rw [hN]; decide) rfl dX9_extreme_152 ?_
    refine z_ldc2 hC kc_X9_253 dX9_extreme_154 ?_
    refine z_lstore hC [(8, .long (2147483648 : Int64)), (6, .long x152_4), (0, .ref (zAd T (61))), (1, .int v1), (4, .int v4), (5, .int v5)] (by rw [hN]; decide) rfl dX9_extreme_157 ?_
    refine z_iconst hC (0 : Int32) (by decide) dX9_extreme_159 ?_
    refine z_istore hC [(10, .int (0 : Int32)), (8, .long (2147483648 : Int64)), (6, .long x152_4), (0, .ref (zAd T (61))), (1, .int v1), (4, .int v4), (5, .int v5)] (by rw [hN]; decide) rfl dX9_extreme_160 ?_
    refine z_sub [(0, .ref (zAd T (61))), (5, .int v5), (6, .long x152_4), (8, .long (2147483648 : Int64)), (10, .int (0 : Int32))] [3, 6, 2, 1, 0] rfl ?_
    exact (wX9_extreme_L162 hC hN hQ zFU) _ _ _ _ _ h
  · replace h := z_f q69_1 h
    refine z_aload_n hC 0 rfl rfl dX9_extreme_72 ?_
    refine z_b1 h (fun r73_5 e_r73_5 h => ?_)
    refine z_cV0r hC (ctX9_least hC.hm e_r73_5) (rcX9 hC) kb_X9_least km_X9_417 ⟨by decide, by decide⟩ (Nat.le_of_ble_eq_true rfl) dX9_extreme_73 ?_
    refine z_istore hC [(7, .int r73_5), (0, .ref (zAd T (61))), (1, .int v1), (4, .int v4), (5, .int v5), (6, .int v6)] (by rw [hN]; decide) rfl dX9_extreme_76 ?_
    refine z_aload_n hC 1 rfl rfl dX9_extreme_78 ?_
    refine gX9_35 hC kf_X9_64 dX9_extreme_79 ?_
    refine z_iload hC 0 rfl dX9_extreme_82 ?_
    refine z_g h (fun g84_6 h => ?_)
    refine z_lald hC 79 ⟨by decide, by decide⟩ (zS_79 _ _ _) g84_6 (gl σ 79 r73_5.toNatClampNeg) rfl dX9_extreme_84 ?_
    refine z_aload_n hC 1 rfl rfl dX9_extreme_85 ?_
    refine gX9_34 hC kf_X9_61 dX9_extreme_86 ?_
    refine z_iload hC 0 rfl dX9_extreme_89 ?_
    refine z_g h (fun g91_7 h => ?_)
    refine z_lald hC 78 ⟨by decide, by decide⟩ (zS_78 _ _ _) g91_7 (gl σ 78 r73_5.toNatClampNeg) rfl dX9_extreme_91 ?_
    refine z_lsub hC dX9_extreme_92 ?_
    refine z_ldc2 hC kc_X9_292 dX9_extreme_93 ?_
    refine z_cmp_ge hC 103 (by decide) dX9_extreme_96 dX9_extreme_97 (fun q96_8 => ?_) (fun q96_8 => ?_)
    · replace h := z_t q96_8 h
      refine z_aload_n hC 1 rfl rfl dX9_extreme_103 ?_
      refine z_iload hC 0 rfl dX9_extreme_104 ?_
      refine z_b1 h (fun s106_9 e_s106_9 h => ?_)
      refine z_cV1v hC (ctX9_halve hC.hm e_s106_9) (rcX9 hC) kb_X9_halve km_X9_392 ⟨by decide, by decide⟩ (Nat.le_of_ble_eq_true rfl) dX9_extreme_106 ?_
      refine z_aload_n hC 1 rfl rfl dX9_extreme_109 ?_
      refine z_iload_n hC 2 rfl rfl dX9_extreme_110 ?_
      refine z_iload hC 0 rfl dX9_extreme_111 ?_
      refine z_iload hC 4 rfl dX9_extreme_113 ?_
      refine z_b2 h (fun r115_10 s115_11 e_r115_10 h => ?_)
      refine z_cV3r hC (ctX9_lowOf hC.hm e_r115_10) (rcX9 hC) kb_X9_lowOf km_X9_413 ⟨by decide, by decide⟩ (Nat.le_of_ble_eq_true rfl) dX9_extreme_115 ?_
      refine z_if_eq hC 135 (by decide) dX9_extreme_118 (fun q118_12 => ?_) (fun q118_12 => ?_)
      · replace h := z_t q118_12 h
        refine z_iconst hC (1 : Int32) (by decide) dX9_extreme_135 ?_
        obtain ⟨rfl, rfl⟩ := z_pr h
        exact z_iret hC hQ dX9_extreme_136
      · replace h := z_f q118_12 h
        refine z_aload_n hC 1 rfl rfl dX9_extreme_121 ?_
        refine z_iload_n hC 2 rfl rfl dX9_extreme_122 ?_
        refine z_iload hC 0 rfl dX9_extreme_123 ?_
        refine z_iconst hC (1 : Int32) (by decide) dX9_extreme_125 ?_
        refine z_iadd hC dX9_extreme_126 ?_
        refine z_iload hC 4 rfl dX9_extreme_127 ?_
        refine z_b2 h (fun r129_13 s129_14 e_r129_13 h => ?_)
        refine z_cV3r hC (ctX9_lowOf hC.hm e_r129_13) (rcX9 hC) kb_X9_lowOf km_X9_413 ⟨by decide, by decide⟩ (Nat.le_of_ble_eq_true rfl) dX9_extreme_129 ?_
        refine z_if_ne hC 137 (by decide) dX9_extreme_132 (fun q132_15 => ?_) (fun q132_15 => ?_)
        · replace h := z_f q132_15 h
          refine z_nmE h (fun x137_16 e_x137_16 h => ?_)
          refine z_iinc hC x137_16 [(6, .int x137_16), (7, .int r73_5), (0, .ref (zAd T (61))), (1, .int v1), (4, .int v4), (5, .int v5)] 5 rfl (by rw [e_x137_16]; rfl) (by rw [hN]; decide) rfl dX9_extreme_137 ?_
          refine z_goto hC 65 (by decide) dX9_extreme_140 ?_
          refine z_sub [(0, .ref (zAd T (61))), (1, .int v1), (4, .int v4), (5, .int v5), (6, .int x137_16)] [2, 3, 4, 5, 0] rfl ?_
          exact hK65 _ _ _ _ _ h
        · replace h := z_t q132_15 h
          refine z_iconst hC (1 : Int32) (by decide) dX9_extreme_135 ?_
          obtain ⟨rfl, rfl⟩ := z_pr h
          exact z_iret hC hQ dX9_extreme_136
    · replace h := z_f q96_8 h
      refine z_goto hC 143 (by decide) dX9_extreme_100 ?_
      refine z_aload_n hC 1 rfl rfl dX9_extreme_143 ?_
      refine gX9_36 hC kf_X9_67 dX9_extreme_144 ?_
      refine z_aload_n hC 1 rfl rfl dX9_extreme_147 ?_
      refine z_b1 h (fun r148_17 e_r148_17 h => ?_)
      refine z_cV0r hC (ctX9_least hC.hm e_r148_17) (rcX9 hC) kb_X9_least km_X9_417 ⟨by decide, by decide⟩ (Nat.le_of_ble_eq_true rfl) dX9_extreme_148 ?_
      refine z_g h (fun g151_18 h => ?_)
      refine z_lald hC 80 ⟨by decide, by decide⟩ (zS_80 _ _ _) g151_18 (gl σ 80 r148_17.toNatClampNeg) rfl dX9_extreme_151 ?_
      refine z_nmL h (fun x152_19 h => ?_)
      refine z_lstore hC [(6, .long x152_19), (0, .ref (zAd T (61))), (1, .int v1), (4, .int v4), (5, .int v5)] (by rw [hN]; decide) rfl dX9_extreme_152 ?_
      refine z_ldc2 hC kc_X9_253 dX9_extreme_154 ?_
      refine z_lstore hC [(8, .long (2147483648 : Int64)), (6, .long x152_19), (0, .ref (zAd T (61))), (1, .int v1), (4, .int v4), (5, .int v5)] (by rw [hN]; decide) rfl dX9_extreme_157 ?_
      refine z_iconst hC (0 : Int32) (by decide) dX9_extreme_159 ?_
      refine z_istore hC [(10, .int (0 : Int32)), (8, .long (2147483648 : Int64)), (6, .long x152_19), (0, .ref (zAd T (61))), (1, .int v1), (4, .int v4), (5, .int v5)] (by rw [hN]; decide) rfl dX9_extreme_160 ?_
      refine z_sub [(0, .ref (zAd T (61))), (5, .int v5), (6, .long x152_19), (8, .long (2147483648 : Int64)), (10, .int (0 : Int32))] [3, 6, 2, 1, 0] rfl ?_
      exact (wX9_extreme_L162 hC hN hQ zFU) _ _ _ _ _ h
theorem wX9_extreme_L65 {T : zX} (hC : zOk T cX9_extreme RX9 10 278 61 85) (hN : zNL T = 11) {r : Int32} {σ' : zSt} (hQ : zRes T (some .int) (some (.int r)) σ') (n : Nat) : ∀ (v1 : Int32) (v4 : Int32) (v5 : Int32) (v6 : Int32) (σ : zSt), fX9_extreme_L65 n v1 v4 v5 v6 σ = some (r, σ') → Z T σ 65 [(0, .ref (zAd T (61))), (1, .int v1), (4, .int v4), (5, .int v5), (6, .int v6)] [] := by
  induction n with
  | zero => intro v1 v4 v5 v6 σ h; cases h
  | succ n ih => intro v1 v4 v5 v6 σ h; exact wX9_extreme_65 hC hN hQ (fX9_extreme_L65 n) ih v1 v4 v5 v6 σ h
set_option maxRecDepth 100000 in
set_option maxHeartbeats 4000000 in
theorem wX9_extreme_0 {T : zX} (hC : zOk T cX9_extreme RX9 10 278 61 85) (hN : zNL T = 11) {r : Int32} {σ' : zSt} (hQ : zRes T (some .int) (some (.int r)) σ') (a1 : Int32) (a2 : Int32) (a3 : Int32) (a4 : Int32) (a5 : Int32)  (σ : zSt) (h : fX9_extreme_0 a1 a2 a3 a4 a5 σ = some (r, σ')) : Z T σ 0 [(0, .ref (zAd T (61))), (1, .int a1), (2, .int a2), (3, .int a3), (4, .int a4), (5, .int a5)] [] := by
  unfold fX9_extreme_0 at h
  refine z_aload_n hC 0 rfl rfl dX9_extreme_0 ?_
  refine z_iload_n hC 1 rfl rfl dX9_extreme_1 ?_
  refine z_cV1r hC (ctX9_has hC.hm) (rcX9 hC) kb_X9_has km_X9_216 ⟨by decide, by decide⟩ (Nat.le_of_ble_eq_true rfl) dX9_extreme_2 ?_
  refine z_if_eq hC 26 (by decide) dX9_extreme_5 (fun q5_1 => ?_) (fun q5_1 => ?_)
  · replace h := z_t q5_1 h
    refine z_iconst hC (-1 : Int32) (by decide) dX9_extreme_26 ?_
    obtain ⟨rfl, rfl⟩ := z_pr h
    exact z_iret hC hQ dX9_extreme_27
  · replace h := z_f q5_1 h
    refine z_iload_n hC 2 rfl rfl dX9_extreme_8 ?_
    refine z_iload_n hC 3 rfl rfl dX9_extreme_9 ?_
    refine z_icmp_gt hC 26 (by decide) dX9_extreme_10 (fun q10_2 => ?_) (fun q10_2 => ?_)
    · replace h := z_t q10_2 h
      refine z_iconst hC (-1 : Int32) (by decide) dX9_extreme_26 ?_
      obtain ⟨rfl, rfl⟩ := z_pr h
      exact z_iret hC hQ dX9_extreme_27
    · replace h := z_f q10_2 h
      refine z_iload hC 4 rfl dX9_extreme_13 ?_
      refine z_if_lt hC 26 (by decide) dX9_extreme_15 (fun q15_3 => ?_) (fun q15_3 => ?_)
      · replace h := z_t q15_3 h
        refine z_iconst hC (-1 : Int32) (by decide) dX9_extreme_26 ?_
        obtain ⟨rfl, rfl⟩ := z_pr h
        exact z_iret hC hQ dX9_extreme_27
      · replace h := z_f q15_3 h
        refine z_iload hC 4 rfl dX9_extreme_18 ?_
        refine z_sipush hC (200 : Int32) (by decide) dX9_extreme_20 ?_
        refine z_icmp_le hC 28 (by decide) dX9_extreme_23 (fun q23_4 => ?_) (fun q23_4 => ?_)
        · replace h := z_t q23_4 h
          refine z_aload_n hC 0 rfl rfl dX9_extreme_28 ?_
          refine z_iconst hC (1 : Int32) (by decide) dX9_extreme_29 ?_
          refine pX9_33 hC kf_X9_381 dX9_extreme_30 ?_
          refine z_aload_n hC 0 rfl rfl dX9_extreme_33 ?_
          refine gX9_34 hC kf_X9_61 dX9_extreme_34 ?_
          refine z_iconst hC (0 : Int32) (by decide) dX9_extreme_37 ?_
          refine z_iload_n hC 2 rfl rfl dX9_extreme_38 ?_
          refine z_i2l hC dX9_extreme_39 ?_
          refine z_last hC 78 ⟨by decide, by decide⟩ (zS_78 _) (by unfold vp_in; decide) dX9_extreme_40 ?_
          refine z_aload_n hC 0 rfl rfl dX9_extreme_41 ?_
          refine gX9_35 hC kf_X9_64 dX9_extreme_42 ?_
          refine z_iconst hC (0 : Int32) (by decide) dX9_extreme_45 ?_
          refine z_iload_n hC 3 rfl rfl dX9_extreme_46 ?_
          refine z_i2l hC dX9_extreme_47 ?_
          refine z_last hC 79 ⟨by decide, by decide⟩ (zS_79 _) (by unfold vp_in; decide) dX9_extreme_48 ?_
          refine z_aload_n hC 0 rfl rfl dX9_extreme_49 ?_
          refine z_iload_n hC 1 rfl rfl dX9_extreme_50 ?_
          refine z_iconst hC (0 : Int32) (by decide) dX9_extreme_51 ?_
          refine z_iload hC 5 rfl dX9_extreme_52 ?_
          refine z_b2 h (fun r54_5 s54_6 e_r54_5 h => ?_)
          refine z_cV3r hC (ctX9_lowOf hC.hm e_r54_5) (rcX9 hC) kb_X9_lowOf km_X9_413 ⟨by decide, by decide⟩ (Nat.le_of_ble_eq_true rfl) dX9_extreme_54 ?_
          refine z_if_ne hC 62 (by decide) dX9_extreme_57 (fun q57_7 => ?_) (fun q57_7 => ?_)
          · replace h := z_f q57_7 h
            refine z_iconst hC (0 : Int32) (by decide) dX9_extreme_62 ?_
            refine z_istore hC [(6, .int (0 : Int32)), (0, .ref (zAd T (61))), (1, .int a1), (2, .int a2), (3, .int a3), (4, .int a4), (5, .int a5)] (by rw [hN]; decide) rfl dX9_extreme_63 ?_
            refine z_sub [(0, .ref (zAd T (61))), (1, .int a1), (4, .int a4), (5, .int a5), (6, .int (0 : Int32))] [1, 2, 5, 6, 0] rfl ?_
            exact (wX9_extreme_L65 hC hN hQ zFU) _ _ _ _ _ h
          · replace h := z_t q57_7 h
            refine z_iconst hC (1 : Int32) (by decide) dX9_extreme_60 ?_
            obtain ⟨rfl, rfl⟩ := z_pr h
            exact z_iret hC hQ dX9_extreme_61
        · replace h := z_f q23_4 h
          refine z_iconst hC (-1 : Int32) (by decide) dX9_extreme_26 ?_
          obtain ⟨rfl, rfl⟩ := z_pr h
          exact z_iret hC hQ dX9_extreme_27
set_option maxRecDepth 100000 in
theorem ctX9_extreme {l : Launch} {G : zGt} {mk : zSt → zSt} (hm : zM mk 61 85) {a1 : Int32} {a2 : Int32} {a3 : Int32} {a4 : Int32} {a5 : Int32} {σ : zSt} {r : Int32} {σ' : zSt} (h : fX9_extreme a1 a2 a3 a4 a5 σ = some (r, σ')) : zMet l G mk yX9_extreme cX9_extreme 11 (some .int) 10 278 [.ref (gA G (61)), .int a1, .int a2, .int a3, .int a4, .int a5] σ (some (.int r)) σ' := by
  unfold fX9_extreme at h

  refine zMet.of (plainFor_of_name (by decide +kernel)) hm (Nat.le_of_ble_eq_true rfl) (fun T eL eG eM hN hC hQ => ?_)
  subst eL; subst eG; subst eM
  refine z_sub [(0, .ref (zAd T (61))), (1, .int a1), (2, .int a2), (3, .int a3), (4, .int a4), (5, .int a5)] [0, 1, 2, 3, 4, 5] rfl ?_
  exact wX9_extreme_0 hC hN hQ _ _ _ _ _  _ h
noncomputable def fX9_least__0 (a1 : Int32) (a2 : Int32) (a3 : Int32) (a4 : Int32) (σ : zSt) : Option (Int32 × zSt) := bd2 (fX9_extreme a1 a2 a3 a4 (0 : Int32) σ) fun r7_1 s7_2 => some (r7_1, s7_2)
noncomputable def fX9_least_ (a1 : Int32) (a2 : Int32) (a3 : Int32) (a4 : Int32) (σ : zSt) : Option (Int32 × zSt) := fX9_least__0 a1 a2 a3 a4 σ
set_option maxRecDepth 100000 in
set_option maxHeartbeats 4000000 in
theorem wX9_least__0 {T : zX} (hC : zOk T cX9_least_ RX9 11 308 61 85) (hN : zNL T = 5) {r : Int32} {σ' : zSt} (hQ : zRes T (some .int) (some (.int r)) σ') (a1 : Int32) (a2 : Int32) (a3 : Int32) (a4 : Int32)  (σ : zSt) (h : fX9_least__0 a1 a2 a3 a4 σ = some (r, σ')) : Z T σ 0 [(0, .ref (zAd T (61))), (1, .int a1), (2, .int a2), (3, .int a3), (4, .int a4)] [] := by
  unfold fX9_least__0 at h
  refine z_aload_n hC 0 rfl rfl dX9_least__0 ?_
  refine z_iload_n hC 1 rfl rfl dX9_least__1 ?_
  refine z_iload_n hC 2 rfl rfl dX9_least__2 ?_
  refine z_iload_n hC 3 rfl rfl dX9_least__3 ?_
  refine z_iload hC 4 rfl dX9_least__4 ?_
  refine z_iconst hC (0 : Int32) (by decide) dX9_least__6 ?_
  refine z_b2 h (fun r7_1 s7_2 e_r7_1 h => ?_)
  refine z_cV5r hC (ctX9_extreme hC.hm e_r7_1) (rcX9 hC) kb_X9_extreme km_X9_420 ⟨by decide, by decide⟩ (Nat.le_of_ble_eq_true rfl) dX9_least__7 ?_
  obtain ⟨rfl, rfl⟩ := z_pr h
  exact z_iret hC hQ dX9_least__10
set_option maxRecDepth 100000 in
theorem ctX9_least_ {l : Launch} {G : zGt} {mk : zSt → zSt} (hm : zM mk 61 85) {a1 : Int32} {a2 : Int32} {a3 : Int32} {a4 : Int32} {σ : zSt} {r : Int32} {σ' : zSt} (h : fX9_least_ a1 a2 a3 a4 σ = some (r, σ')) : zMet l G mk yX9_least_ cX9_least_ 5 (some .int) 11 308 [.ref (gA G (61)), .int a1, .int a2, .int a3, .int a4] σ (some (.int r)) σ' := by
  unfold fX9_least_ at h

  refine zMet.of (plainFor_of_name (by decide +kernel)) hm (Nat.le_of_ble_eq_true rfl) (fun T eL eG eM hN hC hQ => ?_)
  subst eL; subst eG; subst eM
  refine z_sub [(0, .ref (zAd T (61))), (1, .int a1), (2, .int a2), (3, .int a3), (4, .int a4)] [0, 1, 2, 3, 4] rfl ?_
  exact wX9_least__0 hC hN hQ _ _ _ _  _ h
noncomputable def fX9_greatest_0 (a1 : Int32) (a2 : Int32) (a3 : Int32) (a4 : Int32) (σ : zSt) : Option (Int32 × zSt) := bd2 (fX9_extreme a1 a2 a3 a4 (1 : Int32) σ) fun r7_1 s7_2 => some (r7_1, s7_2)
noncomputable def fX9_greatest (a1 : Int32) (a2 : Int32) (a3 : Int32) (a4 : Int32) (σ : zSt) : Option (Int32 × zSt) := fX9_greatest_0 a1 a2 a3 a4 σ
set_option maxRecDepth 100000 in
set_option maxHeartbeats 4000000 in
theorem wX9_greatest_0 {T : zX} (hC : zOk T cX9_greatest RX9 11 308 61 85) (hN : zNL T = 5) {r : Int32} {σ' : zSt} (hQ : zRes T (some .int) (some (.int r)) σ') (a1 : Int32) (a2 : Int32) (a3 : Int32) (a4 : Int32)  (σ : zSt) (h : fX9_greatest_0 a1 a2 a3 a4 σ = some (r, σ')) : Z T σ 0 [(0, .ref (zAd T (61))), (1, .int a1), (2, .int a2), (3, .int a3), (4, .int a4)] [] := by
  unfold fX9_greatest_0 at h
  refine z_aload_n hC 0 rfl rfl dX9_greatest_0 ?_
  refine z_iload_n hC 1 rfl rfl dX9_greatest_1 ?_
  refine z_iload_n hC 2 rfl rfl dX9_greatest_2 ?_
  refine z_iload_n hC 3 rfl rfl dX9_greatest_3 ?_
  refine z_iload hC 4 rfl dX9_greatest_4 ?_
  refine z_iconst hC (1 : Int32) (by decide) dX9_greatest_6 ?_
  refine z_b2 h (fun r7_1 s7_2 e_r7_1 h => ?_)
  refine z_cV5r hC (ctX9_extreme hC.hm e_r7_1) (rcX9 hC) kb_X9_extreme km_X9_420 ⟨by decide, by decide⟩ (Nat.le_of_ble_eq_true rfl) dX9_greatest_7 ?_
  obtain ⟨rfl, rfl⟩ := z_pr h
  exact z_iret hC hQ dX9_greatest_10
set_option maxRecDepth 100000 in
theorem ctX9_greatest {l : Launch} {G : zGt} {mk : zSt → zSt} (hm : zM mk 61 85) {a1 : Int32} {a2 : Int32} {a3 : Int32} {a4 : Int32} {σ : zSt} {r : Int32} {σ' : zSt} (h : fX9_greatest a1 a2 a3 a4 σ = some (r, σ')) : zMet l G mk yX9_greatest cX9_greatest 5 (some .int) 11 308 [.ref (gA G (61)), .int a1, .int a2, .int a3, .int a4] σ (some (.int r)) σ' := by
  unfold fX9_greatest at h

  refine zMet.of (plainFor_of_name (by decide +kernel)) hm (Nat.le_of_ble_eq_true rfl) (fun T eL eG eM hN hC hQ => ?_)
  subst eL; subst eG; subst eM
  refine z_sub [(0, .ref (zAd T (61))), (1, .int a1), (2, .int a2), (3, .int a3), (4, .int a4)] [0, 1, 2, 3, 4] rfl ?_
  exact wX9_greatest_0 hC hN hQ _ _ _ _  _ h
noncomputable def fX9_isNotAbove_0 (a1 : Int32) (a2 : Int64) (a4 : Int32) (σ : zSt) : Option (Int32 × zSt) := bd2 (fX9_shut a1 a2 a2 σ) fun r4_1 s4_2 => 
    (if r4_1 = 0 then some ((0 : Int32), s4_2)
    else 
      (if (Int32.toInt64 a4) < (gl s4_2 61 30) then some ((0 : Int32), s4_2)
      else some ((1 : Int32), s4_2)))
noncomputable def fX9_isNotAbove (a1 : Int32) (a2 : Int64) (a4 : Int32) (σ : zSt) : Option (Int32 × zSt) := fX9_isNotAbove_0 a1 a2 a4 σ
set_option maxRecDepth 100000 in
set_option maxHeartbeats 4000000 in
theorem wX9_isNotAbove_0 {T : zX} (hC : zOk T cX9_isNotAbove RX9 8 226 61 85) (hN : zNL T = 5) {r : Int32} {σ' : zSt} (hQ : zRes T (some .boolean) (some (.int r)) σ') (a1 : Int32) (a2 : Int64) (a4 : Int32)  (σ : zSt) (h : fX9_isNotAbove_0 a1 a2 a4 σ = some (r, σ')) : Z T σ 0 [(0, .ref (zAd T (61))), (1, .int a1), (2, .long a2), (4, .int a4)] [] := by
  unfold fX9_isNotAbove_0 at h
  refine z_aload_n hC 0 rfl rfl dX9_isNotAbove_0 ?_
  refine z_iload_n hC 1 rfl rfl dX9_isNotAbove_1 ?_
  refine z_lload_n hC 2 rfl rfl dX9_isNotAbove_2 ?_
  refine z_lload_n hC 2 rfl rfl dX9_isNotAbove_3 ?_
  refine z_b2 h (fun r4_1 s4_2 e_r4_1 h => ?_)
  refine z_cV3r hC (ctX9_shut hC.hm e_r4_1) (rcX9 hC) kb_X9_shut km_X9_370 ⟨by decide, by decide⟩ (Nat.le_of_ble_eq_true rfl) dX9_isNotAbove_4 ?_
  refine z_if_eq hC 25 (by decide) dX9_isNotAbove_7 (fun q7_3 => ?_) (fun q7_3 => ?_)
  · replace h := z_t q7_3 h
    refine z_iconst hC (0 : Int32) (by decide) dX9_isNotAbove_25 ?_
    obtain ⟨rfl, rfl⟩ := z_pr h
    exact z_zret hC hQ dX9_isNotAbove_26 (by decide)
  · replace h := z_f q7_3 h
    refine z_aload_n hC 0 rfl rfl dX9_isNotAbove_10 ?_
    refine gX9_30 hC kf_X9_358 (gl s4_2 61 30) rfl dX9_isNotAbove_11 ?_
    refine z_iload hC 3 rfl dX9_isNotAbove_14 ?_
    refine z_i2l hC dX9_isNotAbove_16 ?_
    refine z_cmp_gt hC 25 (by decide) dX9_isNotAbove_17 dX9_isNotAbove_18 (fun q17_4 => ?_) (fun q17_4 => ?_)
    · replace h := z_t q17_4 h
      refine z_iconst hC (0 : Int32) (by decide) dX9_isNotAbove_25 ?_
      obtain ⟨rfl, rfl⟩ := z_pr h
      exact z_zret hC hQ dX9_isNotAbove_26 (by decide)
    · replace h := z_f q17_4 h
      refine z_iconst hC (1 : Int32) (by decide) dX9_isNotAbove_21 ?_
      refine z_goto hC 26 (by decide) dX9_isNotAbove_22 ?_
      obtain ⟨rfl, rfl⟩ := z_pr h
      exact z_zret hC hQ dX9_isNotAbove_26 (by decide)
set_option maxRecDepth 100000 in
theorem ctX9_isNotAbove {l : Launch} {G : zGt} {mk : zSt → zSt} (hm : zM mk 61 85) {a1 : Int32} {a2 : Int64} {a4 : Int32} {σ : zSt} {r : Int32} {σ' : zSt} (h : fX9_isNotAbove a1 a2 a4 σ = some (r, σ')) : zMet l G mk yX9_isNotAbove cX9_isNotAbove 5 (some .boolean) 8 226 [.ref (gA G (61)), .int a1, .long a2, .int a4] σ (some (.int r)) σ' := by
  unfold fX9_isNotAbove at h

  refine zMet.of (plainFor_of_name (by decide +kernel)) hm (Nat.le_of_ble_eq_true rfl) (fun T eL eG eM hN hC hQ => ?_)
  subst eL; subst eG; subst eM
  refine z_sub [(0, .ref (zAd T (61))), (1, .int a1), (2, .long a2), (4, .int a4)] [0, 1, 2, 3] rfl ?_
  exact wX9_isNotAbove_0 hC hN hQ _ _ _  _ h
noncomputable def fX9_never_193 (K58 : Int32 → Int32 → Int32 → Int32 → zSt → Option (Int32 × zSt)) (v1 : Int32) (v4 : Int32) (v5 : Int32) (v6 : Int32) (v7 : Int64) (v9 : Int64) (v11 : Int64) (t0 : Int64) (σ : zSt) : Option (Int32 × zSt) := 
    (if t0 = v11 then bd2 (fX9_isNotAbove v1 v11 v4 σ) fun r209_4 s209_5 => 
      (if r209_4 = 0 then 
        (if (2 : Int64) ≤ (v9 - v7) then zg (vp_in (gi s209_5 61 33) 260) <| zg (vp_in (gi s209_5 61 33) 260) <| zg (vp_in ((gi s209_5 61 33) + (1 : Int32)) 260) <| zg (vp_in ((gi s209_5 61 33) + (1 : Int32)) 260) <| nm ((gi s209_5 61 33) + (2 : Int32)) fun x298_12 => K58 v1 v4 v5 v6 (si (sl (sl (sl (sl s209_5 78 (gi s209_5 61 33).toNatClampNeg v11) 79 (gi s209_5 61 33).toNatClampNeg v9) 78 ((gi s209_5 61 33) + (1 : Int32)).toNatClampNeg v7) 79 ((gi s209_5 61 33) + (1 : Int32)).toNatClampNeg v11) 61 33 x298_12)
        else K58 v1 v4 v5 (1 : Int32) s209_5)
      else bd2 (fX9_tells (1 : Int32) t0 t0 s209_5) fun r221_13 s221_14 => some (r221_13, s221_14))
    else bd2 (fX9_tells (1 : Int32) t0 t0 σ) fun r221_2 s221_3 => some (r221_2, s221_3))
noncomputable def fX9_never_144 (K58 : Int32 → Int32 → Int32 → Int32 → zSt → Option (Int32 × zSt)) (v1 : Int32) (v4 : Int32) (v5 : Int32) (v6 : Int32) (v7 : Int64) (v9 : Int64) (σ : zSt) : Option (Int32 × zSt) := bd1 (fX9_down (v7 + v9) (2 : Int64)) fun r152_1 => bd2 (fX9_isNotAbove v1 v7 v4 σ) fun r163_2 s163_3 => 
    (if r163_2 = 0 then bd2 (fX9_isNotAbove v1 v9 v4 s163_3) fun r180_5 s180_6 => 
      (if r180_5 = 0 then fX9_never_193 K58 v1 v4 v5 v6 v7 v9 r152_1 r152_1 s180_6
      else fX9_never_193 K58 v1 v4 v5 v6 v7 v9 r152_1 v9 s180_6)
    else fX9_never_193 K58 v1 v4 v5 v6 v7 v9 r152_1 v7 s163_3)
noncomputable def fX9_never_58 (K58 : Int32 → Int32 → Int32 → Int32 → zSt → Option (Int32 × zSt)) (v1 : Int32) (v4 : Int32) (v5 : Int32) (v6 : Int32) (σ : zSt) : Option (Int32 × zSt) := 
    (if (gi σ 61 33) ≤ 0 then 
      (if v6 = 0 then some ((1 : Int32), σ)
      else some ((2 : Int32), σ))
    else 
      (if (gi σ 61 39) = v5 then some ((2 : Int32), σ)
      else zg (vp_in ((gi σ 61 33) - (1 : Int32)) 260) <| nm (gl σ 78 ((gi σ 61 33) - (1 : Int32)).toNatClampNeg) fun x105_5 => zg (vp_in ((gi σ 61 33) - (1 : Int32)) 260) <| nm (gl σ 79 ((gi σ 61 33) - (1 : Int32)).toNatClampNeg) fun x116_7 => bd2 (fX9_shut v1 x105_5 x116_7 (si (si σ 61 39 ((gi σ 61 39) + (1 : Int32))) 61 33 ((gi σ 61 33) - (1 : Int32)))) fun r124_8 s124_9 => 
        (if r124_8 = 0 then fX9_never_144 K58 v1 v4 v5 v6 x105_5 x116_7 s124_9
        else 
          (if (gl s124_9 61 29) ≤ (Int32.toInt64 v4) then fX9_never_144 K58 v1 v4 v5 v6 x105_5 x116_7 s124_9
          else K58 v1 v4 v5 v6 s124_9))))
noncomputable def fX9_never_L58 : Nat → Int32 → Int32 → Int32 → Int32 → zSt → Option (Int32 × zSt)
  | 0, _, _, _, _, _ => none
  | n + 1, v1, v4, v5, v6, σ => fX9_never_58 (fX9_never_L58 n) v1 v4 v5 v6 σ
noncomputable def fX9_never_0 (a1 : Int32) (a2 : Int32) (a3 : Int32) (a4 : Int32) (a5 : Int32) (σ : zSt) : Option (Int32 × zSt) := 
    (if (fX9_has a1 σ) = 0 then some ((-1 : Int32), σ)
    else 
      (if a3 < a2 then some ((-1 : Int32), σ)
      else 
        (if a5 < (1 : Int32) then some ((-1 : Int32), σ)
        else 
          (if a5 ≤ (400 : Int32) then fX9_never_L58 zFU a1 a4 a5 (0 : Int32) (si (sl (sl (si σ 61 33 (1 : Int32)) 78 (0 : Int32).toNatClampNeg (Int32.toInt64 a2)) 79 (0 : Int32).toNatClampNeg (Int32.toInt64 a3)) 61 39 (0 : Int32))
          else some ((-1 : Int32), σ)))))
noncomputable def fX9_never (a1 : Int32) (a2 : Int32) (a3 : Int32) (a4 : Int32) (a5 : Int32) (σ : zSt) : Option (Int32 × zSt) := fX9_never_0 a1 a2 a3 a4 a5 σ
set_option maxRecDepth 100000 in
set_option maxHeartbeats 4000000 in
theorem wX9_never_193 {T : zX} (hC : zOk T cX9_never RX9 9 250 61 85) (hN : zNL T = 15) {r : Int32} {σ' : zSt} (hQ : zRes T (some .int) (some (.int r)) σ') (K58 : Int32 → Int32 → Int32 → Int32 → zSt → Option (Int32 × zSt)) (hK58 : ∀ (v1 : Int32) (v4 : Int32) (v5 : Int32) (v6 : Int32) (τ : zSt), K58 v1 v4 v5 v6 τ = some (r, σ') → Z T τ 58 [(0, .ref (zAd T (61))), (1, .int v1), (4, .int v4), (5, .int v5), (6, .int v6)] []) (v1 : Int32) (v4 : Int32) (v5 : Int32) (v6 : Int32) (v7 : Int64) (v9 : Int64) (v11 : Int64) (t0 : Int64)  (σ : zSt) (h : fX9_never_193 K58 v1 v4 v5 v6 v7 v9 v11 t0 σ = some (r, σ')) : Z T σ 193 [(0, .ref (zAd T (61))), (1, .int v1), (4, .int v4), (5, .int v5), (6, .int v6), (7, .long v7), (9, .long v9), (11, .long v11)] [.long t0] := by
  unfold fX9_never_193 at h
  refine z_lstore hC [(13, .long t0), (0, .ref (zAd T (61))), (1, .int v1), (4, .int v4), (5, .int v5), (6, .int v6), (7, .long v7), (9, .long v9), (11, .long v11)] (by rw [hN]; decide) rfl dX9_never_193 ?_
  refine z_lload hC 0 rfl dX9_never_195 ?_
  refine z_lload hC 8 rfl dX9_never_197 ?_
  refine z_cmp_ne hC 215 (by decide) dX9_never_199 dX9_never_200 (fun q199_1 => ?_) (fun q199_1 => ?_)
  · replace h := z_f q199_1 h
    refine z_aload_n hC 1 rfl rfl dX9_never_215 ?_
    refine z_iconst hC (1 : Int32) (by decide) dX9_never_216 ?_
    refine z_lload hC 0 rfl dX9_never_217 ?_
    refine z_lload hC 0 rfl dX9_never_219 ?_
    refine z_b2 h (fun r221_2 s221_3 e_r221_2 h => ?_)
    refine z_cV3r hC (ctX9_tells hC.hm e_r221_2) (rcX9 hC) kb_X9_tells km_X9_374 ⟨by decide, by decide⟩ (Nat.le_of_ble_eq_true rfl) dX9_never_221 ?_
    obtain ⟨rfl, rfl⟩ := z_pr h
    exact z_iret hC hQ dX9_never_224
  · replace h := z_t q199_1 h
    refine z_aload_n hC 1 rfl rfl dX9_never_203 ?_
    refine z_iload_n hC 2 rfl rfl dX9_never_204 ?_
    refine z_lload hC 8 rfl dX9_never_205 ?_
    refine z_iload hC 3 rfl dX9_never_207 ?_
    refine z_b2 h (fun r209_4 s209_5 e_r209_4 h => ?_)
    refine z_cV3r hC (ctX9_isNotAbove hC.hm e_r209_4) (rcX9 hC) kb_X9_isNotAbove km_X9_427 ⟨by decide, by decide⟩ (Nat.le_of_ble_eq_true rfl) dX9_never_209 ?_
    refine z_if_eq hC 225 (by decide) dX9_never_212 (fun q212_6 => ?_) (fun q212_6 => ?_)
    · replace h := z_t q212_6 h
      refine z_lload hC 7 rfl dX9_never_225 ?_
      refine z_lload hC 6 rfl dX9_never_227 ?_
      refine z_lsub hC dX9_never_229 ?_
      refine z_ldc2 hC kc_X9_292 dX9_never_230 ?_
      refine z_cmp_ge hC 243 (by decide) dX9_never_233 dX9_never_234 (fun q233_7 => ?_) (fun q233_7 => ?_)
      · replace h := z_t q233_7 h
        refine z_aload_n hC 1 rfl rfl dX9_never_243 ?_
        refine gX9_34 hC kf_X9_61 dX9_never_244 ?_
        refine z_aload_n hC 1 rfl rfl dX9_never_247 ?_
        refine gX9_33 hC kf_X9_381 (gi s209_5 61 33) rfl dX9_never_248 ?_
        refine z_lload hC 8 rfl dX9_never_251 ?_
        refine z_g h (fun g253_8 h => ?_)
        refine z_last hC 78 ⟨by decide, by decide⟩ (zS_78 _) g253_8 dX9_never_253 ?_
        refine z_aload_n hC 1 rfl rfl dX9_never_254 ?_
        refine gX9_35 hC kf_X9_64 dX9_never_255 ?_
        refine z_aload_n hC 1 rfl rfl dX9_never_258 ?_
        refine gX9_33 hC kf_X9_381 (gi s209_5 61 33) rfl dX9_never_259 ?_
        refine z_lload hC 7 rfl dX9_never_262 ?_
        refine z_g h (fun g264_9 h => ?_)
        refine z_last hC 79 ⟨by decide, by decide⟩ (zS_79 _) g264_9 dX9_never_264 ?_
        refine z_aload_n hC 1 rfl rfl dX9_never_265 ?_
        refine gX9_34 hC kf_X9_61 dX9_never_266 ?_
        refine z_aload_n hC 1 rfl rfl dX9_never_269 ?_
        refine gX9_33 hC kf_X9_381 (gi s209_5 61 33) rfl dX9_never_270 ?_
        refine z_iconst hC (1 : Int32) (by decide) dX9_never_273 ?_
        refine z_iadd hC dX9_never_274 ?_
        refine z_lload hC 6 rfl dX9_never_275 ?_
        refine z_g h (fun g277_10 h => ?_)
        refine z_last hC 78 ⟨by decide, by decide⟩ (zS_78 _) g277_10 dX9_never_277 ?_
        refine z_aload_n hC 1 rfl rfl dX9_never_278 ?_
        refine gX9_35 hC kf_X9_64 dX9_never_279 ?_
        refine z_aload_n hC 1 rfl rfl dX9_never_282 ?_
        refine gX9_33 hC kf_X9_381 (gi s209_5 61 33) rfl dX9_never_283 ?_
        refine z_iconst hC (1 : Int32) (by decide) dX9_never_286 ?_
        refine z_iadd hC dX9_never_287 ?_
        refine z_lload hC 8 rfl dX9_never_288 ?_
        refine z_g h (fun g290_11 h => ?_)
        refine z_last hC 79 ⟨by decide, by decide⟩ (zS_79 _) g290_11 dX9_never_290 ?_
        refine z_aload_n hC 1 rfl rfl dX9_never_291 ?_
        refine z_dup hC rfl dX9_never_292 ?_
        refine gX9_33 hC kf_X9_381 (gi s209_5 61 33) rfl dX9_never_293 ?_
        refine z_iconst hC (2 : Int32) (by decide) dX9_never_296 ?_
        refine z_iadd hC dX9_never_297 ?_
        refine z_nmI h (fun x298_12 h => ?_)
        refine pX9_33 hC kf_X9_381 dX9_never_298 ?_
        refine z_goto hC 58 (by decide) dX9_never_301 ?_
        refine z_sub [(0, .ref (zAd T (61))), (1, .int v1), (4, .int v4), (5, .int v5), (6, .int v6)] [1, 2, 3, 4, 5] rfl ?_
        exact hK58 _ _ _ _ _ h
      · replace h := z_f q233_7 h
        refine z_iconst hC (1 : Int32) (by decide) dX9_never_237 ?_
        refine z_istore hC [(6, .int (1 : Int32)), (13, .long t0), (0, .ref (zAd T (61))), (1, .int v1), (4, .int v4), (5, .int v5), (7, .long v7), (9, .long v9), (11, .long v11)] (by rw [hN]; decide) rfl dX9_never_238 ?_
        refine z_goto hC 58 (by decide) dX9_never_240 ?_
        refine z_sub [(0, .ref (zAd T (61))), (1, .int v1), (4, .int v4), (5, .int v5), (6, .int (1 : Int32))] [2, 3, 4, 5, 0] rfl ?_
        exact hK58 _ _ _ _ _ h
    · replace h := z_f q212_6 h
      refine z_aload_n hC 1 rfl rfl dX9_never_215 ?_
      refine z_iconst hC (1 : Int32) (by decide) dX9_never_216 ?_
      refine z_lload hC 0 rfl dX9_never_217 ?_
      refine z_lload hC 0 rfl dX9_never_219 ?_
      refine z_b2 h (fun r221_13 s221_14 e_r221_13 h => ?_)
      refine z_cV3r hC (ctX9_tells hC.hm e_r221_13) (rcX9 hC) kb_X9_tells km_X9_374 ⟨by decide, by decide⟩ (Nat.le_of_ble_eq_true rfl) dX9_never_221 ?_
      obtain ⟨rfl, rfl⟩ := z_pr h
      exact z_iret hC hQ dX9_never_224
set_option maxRecDepth 100000 in
set_option maxHeartbeats 4000000 in
theorem wX9_never_144 {T : zX} (hC : zOk T cX9_never RX9 9 250 61 85) (hN : zNL T = 15) {r : Int32} {σ' : zSt} (hQ : zRes T (some .int) (some (.int r)) σ') (K58 : Int32 → Int32 → Int32 → Int32 → zSt → Option (Int32 × zSt)) (hK58 : ∀ (v1 : Int32) (v4 : Int32) (v5 : Int32) (v6 : Int32) (τ : zSt), K58 v1 v4 v5 v6 τ = some (r, σ') → Z T τ 58 [(0, .ref (zAd T (61))), (1, .int v1), (4, .int v4), (5, .int v5), (6, .int v6)] []) (v1 : Int32) (v4 : Int32) (v5 : Int32) (v6 : Int32) (v7 : Int64) (v9 : Int64)  (σ : zSt) (h : fX9_never_144 K58 v1 v4 v5 v6 v7 v9 σ = some (r, σ')) : Z T σ 144 [(0, .ref (zAd T (61))), (1, .int v1), (4, .int v4), (5, .int v5), (6, .int v6), (7, .long v7), (9, .long v9)] [] := by
  unfold fX9_never_144 at h
  refine z_lload hC 5 rfl dX9_never_144 ?_
  refine z_lload hC 6 rfl dX9_never_146 ?_
  refine z_ladd hC dX9_never_148 ?_
  refine z_ldc2 hC kc_X9_292 dX9_never_149 ?_
  refine z_b1 h (fun r152_1 e_r152_1 h => ?_)
  refine z_cS2r hC (ctX9_down hC.hm e_r152_1) kb_X9_down km_X9_209 ⟨by decide, by decide⟩ (Nat.le_of_ble_eq_true rfl) dX9_never_152 ?_
  refine z_lstore hC [(11, .long r152_1), (0, .ref (zAd T (61))), (1, .int v1), (4, .int v4), (5, .int v5), (6, .int v6), (7, .long v7), (9, .long v9)] (by rw [hN]; decide) rfl dX9_never_155 ?_
  refine z_aload_n hC 1 rfl rfl dX9_never_157 ?_
  refine z_iload_n hC 2 rfl rfl dX9_never_158 ?_
  refine z_lload hC 6 rfl dX9_never_159 ?_
  refine z_iload hC 3 rfl dX9_never_161 ?_
  refine z_b2 h (fun r163_2 s163_3 e_r163_2 h => ?_)
  refine z_cV3r hC (ctX9_isNotAbove hC.hm e_r163_2) (rcX9 hC) kb_X9_isNotAbove km_X9_427 ⟨by decide, by decide⟩ (Nat.le_of_ble_eq_true rfl) dX9_never_163 ?_
  refine z_if_eq hC 174 (by decide) dX9_never_166 (fun q166_4 => ?_) (fun q166_4 => ?_)
  · replace h := z_t q166_4 h
    refine z_aload_n hC 1 rfl rfl dX9_never_174 ?_
    refine z_iload_n hC 2 rfl rfl dX9_never_175 ?_
    refine z_lload hC 7 rfl dX9_never_176 ?_
    refine z_iload hC 3 rfl dX9_never_178 ?_
    refine z_b2 h (fun r180_5 s180_6 e_r180_5 h => ?_)
    refine z_cV3r hC (ctX9_isNotAbove hC.hm e_r180_5) (rcX9 hC) kb_X9_isNotAbove km_X9_427 ⟨by decide, by decide⟩ (Nat.le_of_ble_eq_true rfl) dX9_never_180 ?_
    refine z_if_eq hC 191 (by decide) dX9_never_183 (fun q183_7 => ?_) (fun q183_7 => ?_)
    · replace h := z_t q183_7 h
      refine z_lload hC 0 rfl dX9_never_191 ?_
      refine z_sub [(0, .ref (zAd T (61))), (1, .int v1), (4, .int v4), (5, .int v5), (6, .int v6), (7, .long v7), (9, .long v9), (11, .long r152_1)] [1, 2, 3, 4, 5, 6, 7, 0] rfl ?_
      exact (wX9_never_193 hC hN hQ K58 hK58 ) _ _ _ _ _ _ _ _ _ h
    · replace h := z_f q183_7 h
      refine z_lload hC 7 rfl dX9_never_186 ?_
      refine z_goto hC 193 (by decide) dX9_never_188 ?_
      refine z_sub [(0, .ref (zAd T (61))), (1, .int v1), (4, .int v4), (5, .int v5), (6, .int v6), (7, .long v7), (9, .long v9), (11, .long r152_1)] [1, 2, 3, 4, 5, 6, 7, 0] rfl ?_
      exact (wX9_never_193 hC hN hQ K58 hK58 ) _ _ _ _ _ _ _ _ _ h
  · replace h := z_f q166_4 h
    refine z_lload hC 6 rfl dX9_never_169 ?_
    refine z_goto hC 193 (by decide) dX9_never_171 ?_
    refine z_sub [(0, .ref (zAd T (61))), (1, .int v1), (4, .int v4), (5, .int v5), (6, .int v6), (7, .long v7), (9, .long v9), (11, .long r152_1)] [1, 2, 3, 4, 5, 6, 7, 0] rfl ?_
    exact (wX9_never_193 hC hN hQ K58 hK58 ) _ _ _ _ _ _ _ _ _ h
set_option maxRecDepth 100000 in
set_option maxHeartbeats 4000000 in
theorem wX9_never_58 {T : zX} (hC : zOk T cX9_never RX9 9 250 61 85) (hN : zNL T = 15) {r : Int32} {σ' : zSt} (hQ : zRes T (some .int) (some (.int r)) σ') (K58 : Int32 → Int32 → Int32 → Int32 → zSt → Option (Int32 × zSt)) (hK58 : ∀ (v1 : Int32) (v4 : Int32) (v5 : Int32) (v6 : Int32) (τ : zSt), K58 v1 v4 v5 v6 τ = some (r, σ') → Z T τ 58 [(0, .ref (zAd T (61))), (1, .int v1), (4, .int v4), (5, .int v5), (6, .int v6)] []) (v1 : Int32) (v4 : Int32) (v5 : Int32) (v6 : Int32)  (σ : zSt) (h : fX9_never_58 K58 v1 v4 v5 v6 σ = some (r, σ')) : Z T σ 58 [(0, .ref (zAd T (61))), (1, .int v1), (4, .int v4), (5, .int v5), (6, .int v6)] [] := by
  unfold fX9_never_58 at h
  refine z_aload_n hC 0 rfl rfl dX9_never_58 ?_
  refine gX9_33 hC kf_X9_381 (gi σ 61 33) rfl dX9_never_59 ?_
  refine z_if_le hC 304 (by decide) dX9_never_62 (fun q62_1 => ?_) (fun q62_1 => ?_)
  · replace h := z_t q62_1 h
    refine z_iload hC 4 rfl dX9_never_304 ?_
    refine z_if_eq hC 313 (by decide) dX9_never_306 (fun q306_2 => ?_) (fun q306_2 => ?_)
    · replace h := z_t q306_2 h
      refine z_iconst hC (1 : Int32) (by decide) dX9_never_313 ?_
      obtain ⟨rfl, rfl⟩ := z_pr h
      exact z_iret hC hQ dX9_never_314
    · replace h := z_f q306_2 h
      refine z_iconst hC (2 : Int32) (by decide) dX9_never_309 ?_
      refine z_goto hC 314 (by decide) dX9_never_310 ?_
      obtain ⟨rfl, rfl⟩ := z_pr h
      exact z_iret hC hQ dX9_never_314
  · replace h := z_f q62_1 h
    refine z_aload_n hC 0 rfl rfl dX9_never_65 ?_
    refine gX9_39 hC kf_X9_424 (gi σ 61 39) rfl dX9_never_66 ?_
    refine z_iload hC 3 rfl dX9_never_69 ?_
    refine z_icmp_ne hC 76 (by decide) dX9_never_71 (fun q71_3 => ?_) (fun q71_3 => ?_)
    · replace h := z_f q71_3 h
      refine z_aload_n hC 0 rfl rfl dX9_never_76 ?_
      refine z_dup hC rfl dX9_never_77 ?_
      refine gX9_39 hC kf_X9_424 (gi σ 61 39) rfl dX9_never_78 ?_
      refine z_iconst hC (1 : Int32) (by decide) dX9_never_81 ?_
      refine z_iadd hC dX9_never_82 ?_
      refine pX9_39 hC kf_X9_424 dX9_never_83 ?_
      refine z_aload_n hC 0 rfl rfl dX9_never_86 ?_
      refine z_dup hC rfl dX9_never_87 ?_
      refine gX9_33 hC kf_X9_381 (gi σ 61 33) rfl dX9_never_88 ?_
      refine z_iconst hC (1 : Int32) (by decide) dX9_never_91 ?_
      refine z_isub hC dX9_never_92 ?_
      refine pX9_33 hC kf_X9_381 dX9_never_93 ?_
      refine z_aload_n hC 0 rfl rfl dX9_never_96 ?_
      refine gX9_34 hC kf_X9_61 dX9_never_97 ?_
      refine z_aload_n hC 0 rfl rfl dX9_never_100 ?_
      refine gX9_33 hC kf_X9_381 ((gi σ 61 33) - (1 : Int32)) rfl dX9_never_101 ?_
      refine z_g h (fun g104_4 h => ?_)
      refine z_lald hC 78 ⟨by decide, by decide⟩ (zS_78 _ _ _) g104_4 (gl σ 78 ((gi σ 61 33) - (1 : Int32)).toNatClampNeg) rfl dX9_never_104 ?_
      refine z_nmL h (fun x105_5 h => ?_)
      refine z_lstore hC [(7, .long x105_5), (0, .ref (zAd T (61))), (1, .int v1), (4, .int v4), (5, .int v5), (6, .int v6)] (by rw [hN]; decide) rfl dX9_never_105 ?_
      refine z_aload_n hC 1 rfl rfl dX9_never_107 ?_
      refine gX9_35 hC kf_X9_64 dX9_never_108 ?_
      refine z_aload_n hC 1 rfl rfl dX9_never_111 ?_
      refine gX9_33 hC kf_X9_381 ((gi σ 61 33) - (1 : Int32)) rfl dX9_never_112 ?_
      refine z_g h (fun g115_6 h => ?_)
      refine z_lald hC 79 ⟨by decide, by decide⟩ (zS_79 _ _ _) g115_6 (gl σ 79 ((gi σ 61 33) - (1 : Int32)).toNatClampNeg) rfl dX9_never_115 ?_
      refine z_nmL h (fun x116_7 h => ?_)
      refine z_lstore hC [(9, .long x116_7), (7, .long x105_5), (0, .ref (zAd T (61))), (1, .int v1), (4, .int v4), (5, .int v5), (6, .int v6)] (by rw [hN]; decide) rfl dX9_never_116 ?_
      refine z_aload_n hC 2 rfl rfl dX9_never_118 ?_
      refine z_iload_n hC 3 rfl rfl dX9_never_119 ?_
      refine z_lload hC 1 rfl dX9_never_120 ?_
      refine z_lload hC 0 rfl dX9_never_122 ?_
      refine z_b2 h (fun r124_8 s124_9 e_r124_8 h => ?_)
      refine z_cV3r hC (ctX9_shut hC.hm e_r124_8) (rcX9 hC) kb_X9_shut km_X9_370 ⟨by decide, by decide⟩ (Nat.le_of_ble_eq_true rfl) dX9_never_124 ?_
      refine z_if_eq hC 144 (by decide) dX9_never_127 (fun q127_10 => ?_) (fun q127_10 => ?_)
      · replace h := z_t q127_10 h
        refine z_sub [(0, .ref (zAd T (61))), (1, .int v1), (4, .int v4), (5, .int v5), (6, .int v6), (7, .long x105_5), (9, .long x116_7)] [2, 3, 4, 5, 6, 1, 0] rfl ?_
        exact (wX9_never_144 hC hN hQ K58 hK58 ) _ _ _ _ _ _ _ h
      · replace h := z_f q127_10 h
        refine z_aload_n hC 2 rfl rfl dX9_never_130 ?_
        refine gX9_29 hC kf_X9_355 (gl s124_9 61 29) rfl dX9_never_131 ?_
        refine z_iload hC 4 rfl dX9_never_134 ?_
        refine z_i2l hC dX9_never_136 ?_
        refine z_cmp_le hC 144 (by decide) dX9_never_137 dX9_never_138 (fun q137_11 => ?_) (fun q137_11 => ?_)
        · replace h := z_t q137_11 h
          refine z_sub [(0, .ref (zAd T (61))), (1, .int v1), (4, .int v4), (5, .int v5), (6, .int v6), (7, .long x105_5), (9, .long x116_7)] [2, 3, 4, 5, 6, 1, 0] rfl ?_
          exact (wX9_never_144 hC hN hQ K58 hK58 ) _ _ _ _ _ _ _ h
        · replace h := z_f q137_11 h
          refine z_goto hC 58 (by decide) dX9_never_141 ?_
          refine z_sub [(0, .ref (zAd T (61))), (1, .int v1), (4, .int v4), (5, .int v5), (6, .int v6)] [2, 3, 4, 5, 6] rfl ?_
          exact hK58 _ _ _ _ _ h
    · replace h := z_t q71_3 h
      refine z_iconst hC (2 : Int32) (by decide) dX9_never_74 ?_
      obtain ⟨rfl, rfl⟩ := z_pr h
      exact z_iret hC hQ dX9_never_75
theorem wX9_never_L58 {T : zX} (hC : zOk T cX9_never RX9 9 250 61 85) (hN : zNL T = 15) {r : Int32} {σ' : zSt} (hQ : zRes T (some .int) (some (.int r)) σ') (n : Nat) : ∀ (v1 : Int32) (v4 : Int32) (v5 : Int32) (v6 : Int32) (σ : zSt), fX9_never_L58 n v1 v4 v5 v6 σ = some (r, σ') → Z T σ 58 [(0, .ref (zAd T (61))), (1, .int v1), (4, .int v4), (5, .int v5), (6, .int v6)] [] := by
  induction n with
  | zero => intro v1 v4 v5 v6 σ h; cases h
  | succ n ih => intro v1 v4 v5 v6 σ h; exact wX9_never_58 hC hN hQ (fX9_never_L58 n) ih v1 v4 v5 v6 σ h
set_option maxRecDepth 100000 in
set_option maxHeartbeats 4000000 in
theorem wX9_never_0 {T : zX} (hC : zOk T cX9_never RX9 9 250 61 85) (hN : zNL T = 15) {r : Int32} {σ' : zSt} (hQ : zRes T (some .int) (some (.int r)) σ') (a1 : Int32) (a2 : Int32) (a3 : Int32) (a4 : Int32) (a5 : Int32)  (σ : zSt) (h : fX9_never_0 a1 a2 a3 a4 a5 σ = some (r, σ')) : Z T σ 0 [(0, .ref (zAd T (61))), (1, .int a1), (2, .int a2), (3, .int a3), (4, .int a4), (5, .int a5)] [] := by
  unfold fX9_never_0 at h
  refine z_aload_n hC 0 rfl rfl dX9_never_0 ?_
  refine z_iload_n hC 1 rfl rfl dX9_never_1 ?_
  refine z_cV1r hC (ctX9_has hC.hm) (rcX9 hC) kb_X9_has km_X9_216 ⟨by decide, by decide⟩ (Nat.le_of_ble_eq_true rfl) dX9_never_2 ?_
  refine z_if_eq hC 27 (by decide) dX9_never_5 (fun q5_1 => ?_) (fun q5_1 => ?_)
  · replace h := z_t q5_1 h
    refine z_iconst hC (-1 : Int32) (by decide) dX9_never_27 ?_
    obtain ⟨rfl, rfl⟩ := z_pr h
    exact z_iret hC hQ dX9_never_28
  · replace h := z_f q5_1 h
    refine z_iload_n hC 2 rfl rfl dX9_never_8 ?_
    refine z_iload_n hC 3 rfl rfl dX9_never_9 ?_
    refine z_icmp_gt hC 27 (by decide) dX9_never_10 (fun q10_2 => ?_) (fun q10_2 => ?_)
    · replace h := z_t q10_2 h
      refine z_iconst hC (-1 : Int32) (by decide) dX9_never_27 ?_
      obtain ⟨rfl, rfl⟩ := z_pr h
      exact z_iret hC hQ dX9_never_28
    · replace h := z_f q10_2 h
      refine z_iload hC 5 rfl dX9_never_13 ?_
      refine z_iconst hC (1 : Int32) (by decide) dX9_never_15 ?_
      refine z_icmp_lt hC 27 (by decide) dX9_never_16 (fun q16_3 => ?_) (fun q16_3 => ?_)
      · replace h := z_t q16_3 h
        refine z_iconst hC (-1 : Int32) (by decide) dX9_never_27 ?_
        obtain ⟨rfl, rfl⟩ := z_pr h
        exact z_iret hC hQ dX9_never_28
      · replace h := z_f q16_3 h
        refine z_iload hC 5 rfl dX9_never_19 ?_
        refine z_sipush hC (400 : Int32) (by decide) dX9_never_21 ?_
        refine z_icmp_le hC 29 (by decide) dX9_never_24 (fun q24_4 => ?_) (fun q24_4 => ?_)
        · replace h := z_t q24_4 h
          refine z_aload_n hC 0 rfl rfl dX9_never_29 ?_
          refine z_iconst hC (1 : Int32) (by decide) dX9_never_30 ?_
          refine pX9_33 hC kf_X9_381 dX9_never_31 ?_
          refine z_aload_n hC 0 rfl rfl dX9_never_34 ?_
          refine gX9_34 hC kf_X9_61 dX9_never_35 ?_
          refine z_iconst hC (0 : Int32) (by decide) dX9_never_38 ?_
          refine z_iload_n hC 2 rfl rfl dX9_never_39 ?_
          refine z_i2l hC dX9_never_40 ?_
          refine z_last hC 78 ⟨by decide, by decide⟩ (zS_78 _) (by unfold vp_in; decide) dX9_never_41 ?_
          refine z_aload_n hC 0 rfl rfl dX9_never_42 ?_
          refine gX9_35 hC kf_X9_64 dX9_never_43 ?_
          refine z_iconst hC (0 : Int32) (by decide) dX9_never_46 ?_
          refine z_iload_n hC 3 rfl rfl dX9_never_47 ?_
          refine z_i2l hC dX9_never_48 ?_
          refine z_last hC 79 ⟨by decide, by decide⟩ (zS_79 _) (by unfold vp_in; decide) dX9_never_49 ?_
          refine z_aload_n hC 0 rfl rfl dX9_never_50 ?_
          refine z_iconst hC (0 : Int32) (by decide) dX9_never_51 ?_
          refine pX9_39 hC kf_X9_424 dX9_never_52 ?_
          refine z_iconst hC (0 : Int32) (by decide) dX9_never_55 ?_
          refine z_istore hC [(6, .int (0 : Int32)), (0, .ref (zAd T (61))), (1, .int a1), (2, .int a2), (3, .int a3), (4, .int a4), (5, .int a5)] (by rw [hN]; decide) rfl dX9_never_56 ?_
          refine z_sub [(0, .ref (zAd T (61))), (1, .int a1), (4, .int a4), (5, .int a5), (6, .int (0 : Int32))] [1, 2, 5, 6, 0] rfl ?_
          exact (wX9_never_L58 hC hN hQ zFU) _ _ _ _ _ h
        · replace h := z_f q24_4 h
          refine z_iconst hC (-1 : Int32) (by decide) dX9_never_27 ?_
          obtain ⟨rfl, rfl⟩ := z_pr h
          exact z_iret hC hQ dX9_never_28
set_option maxRecDepth 100000 in
theorem ctX9_never {l : Launch} {G : zGt} {mk : zSt → zSt} (hm : zM mk 61 85) {a1 : Int32} {a2 : Int32} {a3 : Int32} {a4 : Int32} {a5 : Int32} {σ : zSt} {r : Int32} {σ' : zSt} (h : fX9_never a1 a2 a3 a4 a5 σ = some (r, σ')) : zMet l G mk yX9_never cX9_never 15 (some .int) 9 250 [.ref (gA G (61)), .int a1, .int a2, .int a3, .int a4, .int a5] σ (some (.int r)) σ' := by
  unfold fX9_never at h

  refine zMet.of (plainFor_of_name (by decide +kernel)) hm (Nat.le_of_ble_eq_true rfl) (fun T eL eG eM hN hC hQ => ?_)
  subst eL; subst eG; subst eM
  refine z_sub [(0, .ref (zAd T (61))), (1, .int a1), (2, .int a2), (3, .int a3), (4, .int a4), (5, .int a5)] [0, 1, 2, 3, 4, 5] rfl ?_
  exact wX9_never_0 hC hN hQ _ _ _ _ _  _ h
noncomputable def fX9_low_0  (σ : zSt) : Int64 := (gl σ 61 31)
noncomputable def fX9_low  (σ : zSt) : Int64 := fX9_low_0  σ
set_option maxRecDepth 100000 in
set_option maxHeartbeats 4000000 in
theorem wX9_low_0 {T : zX} {σ : zSt} (hC : zOk T cX9_low RX9 0 0 61 85) (hN : zNL T = 1) {r : Int64} (hQ : zRes T (some .long) (some (.long r)) σ)   (h : fX9_low_0  σ = r) : Z T σ 0 [(0, .ref (zAd T (61)))] [] := by
  unfold fX9_low_0 at h
  refine z_aload_n hC 0 rfl rfl dX9_low_0 ?_
  refine gX9_31 hC kf_X9_364 (gl σ 61 31) rfl dX9_low_1 ?_
  subst h
  exact z_lret hC hQ dX9_low_4
set_option maxRecDepth 100000 in
theorem ctX9_low {l : Launch} {G : zGt} {mk : zSt → zSt} (hm : zM mk 61 85)  {σ : zSt} : zMet l G mk yX9_low cX9_low 1 (some .long) 0 0 [.ref (gA G (61))] σ (some (.long (fX9_low  σ))) σ := by

  refine zMet.of (plainFor_of_name (by decide +kernel)) hm (Nat.le_of_ble_eq_true rfl) (fun T eL eG eM hN hC hQ => ?_)
  subst eL; subst eG; subst eM
  refine z_sub [(0, .ref (zAd T (61)))] [0] rfl ?_
  exact wX9_low_0 hC hN hQ   rfl
noncomputable def fX9_high_0  (σ : zSt) : Int64 := (gl σ 61 32)
noncomputable def fX9_high  (σ : zSt) : Int64 := fX9_high_0  σ
set_option maxRecDepth 100000 in
set_option maxHeartbeats 4000000 in
theorem wX9_high_0 {T : zX} {σ : zSt} (hC : zOk T cX9_high RX9 0 0 61 85) (hN : zNL T = 1) {r : Int64} (hQ : zRes T (some .long) (some (.long r)) σ)   (h : fX9_high_0  σ = r) : Z T σ 0 [(0, .ref (zAd T (61)))] [] := by
  unfold fX9_high_0 at h
  refine z_aload_n hC 0 rfl rfl dX9_high_0 ?_
  refine gX9_32 hC kf_X9_367 (gl σ 61 32) rfl dX9_high_1 ?_
  subst h
  exact z_lret hC hQ dX9_high_4
set_option maxRecDepth 100000 in
theorem ctX9_high {l : Launch} {G : zGt} {mk : zSt → zSt} (hm : zM mk 61 85)  {σ : zSt} : zMet l G mk yX9_high cX9_high 1 (some .long) 0 0 [.ref (gA G (61))] σ (some (.long (fX9_high  σ))) σ := by

  refine zMet.of (plainFor_of_name (by decide +kernel)) hm (Nat.le_of_ble_eq_true rfl) (fun T eL eG eM hN hC hQ => ?_)
  subst eL; subst eG; subst eM
  refine z_sub [(0, .ref (zAd T (61)))] [0] rfl ?_
  exact wX9_high_0 hC hN hQ   rfl
noncomputable def fX9_count_0 (a1 : Int32) (σ : zSt) : Int32 := 
    (
    if a1 = 0 then (gi σ 61 3) else 
    if a1 = 1 then (gi σ 61 2) else 
    if a1 = 2 then (gi σ 61 38) else 
    if a1 = 3 then (gi σ 61 39) else 
    if a1 = 4 then (gi σ 61 40) else (-1 : Int32))
noncomputable def fX9_count (a1 : Int32) (σ : zSt) : Int32 := fX9_count_0 a1 σ
set_option maxRecDepth 100000 in
set_option maxHeartbeats 4000000 in
theorem wX9_count_0 {T : zX} {σ : zSt} (hC : zOk T cX9_count RX9 0 0 61 85) (hN : zNL T = 2) {r : Int32} (hQ : zRes T (some .int) (some (.int r)) σ) (a1 : Int32)  (h : fX9_count_0 a1 σ = r) : Z T σ 0 [(0, .ref (zAd T (61))), (1, .int a1)] [] := by
  unfold fX9_count_0 at h
  refine z_iload_n hC 1 rfl rfl dX9_count_0 ?_
  refine z_ite h (fun q1_1 h => ?_) (fun q1_1 h => ?_)
  · refine z_tabIn hC (35) 36 (by rw [q1_1]; decide) (by rw [q1_1]; decide) (by rw [q1_1]; decide +kernel) (by decide) dX9_count_1 ?_
    refine z_aload_n hC 0 rfl rfl dX9_count_36 ?_
    refine gX9_3 hC kf_X9_113 (gi σ 61 3) rfl dX9_count_37 ?_
    subst h
    exact z_iret hC hQ dX9_count_40
  ·
    refine z_ite h (fun q1_2 h => ?_) (fun q1_2 h => ?_)
    · refine z_tabIn hC (40) 41 (by rw [q1_2]; decide) (by rw [q1_2]; decide) (by rw [q1_2]; decide +kernel) (by decide) dX9_count_1 ?_
      refine z_aload_n hC 0 rfl rfl dX9_count_41 ?_
      refine gX9_2 hC kf_X9_86 (gi σ 61 2) rfl dX9_count_42 ?_
      subst h
      exact z_iret hC hQ dX9_count_45
    ·
      refine z_ite h (fun q1_3 h => ?_) (fun q1_3 h => ?_)
      · refine z_tabIn hC (45) 46 (by rw [q1_3]; decide) (by rw [q1_3]; decide) (by rw [q1_3]; decide +kernel) (by decide) dX9_count_1 ?_
        refine z_aload_n hC 0 rfl rfl dX9_count_46 ?_
        refine gX9_38 hC kf_X9_395 (gi σ 61 38) rfl dX9_count_47 ?_
        subst h
        exact z_iret hC hQ dX9_count_50
      ·
        refine z_ite h (fun q1_4 h => ?_) (fun q1_4 h => ?_)
        · refine z_tabIn hC (50) 51 (by rw [q1_4]; decide) (by rw [q1_4]; decide) (by rw [q1_4]; decide +kernel) (by decide) dX9_count_1 ?_
          refine z_aload_n hC 0 rfl rfl dX9_count_51 ?_
          refine gX9_39 hC kf_X9_424 (gi σ 61 39) rfl dX9_count_52 ?_
          subst h
          exact z_iret hC hQ dX9_count_55
        ·
          refine z_ite h (fun q1_5 h => ?_) (fun q1_5 h => ?_)
          · refine z_tabIn hC (55) 56 (by rw [q1_5]; decide) (by rw [q1_5]; decide) (by rw [q1_5]; decide +kernel) (by decide) dX9_count_1 ?_
            refine z_aload_n hC 0 rfl rfl dX9_count_56 ?_
            refine gX9_40 hC kf_X9_402 (gi σ 61 40) rfl dX9_count_57 ?_
            subst h
            exact z_iret hC hQ dX9_count_60
          ·
            refine z_tabD hC 5 61 (by decide) (fun i hi => by
                have hi2 : i = 0 ∨ i = 1 ∨ i = 2 ∨ i = 3 ∨ i = 4 := by omega
                rcases hi2 with rfl | rfl | rfl | rfl | rfl
                · exact Or.inr (fun e => q1_1 (e.symm.trans (by decide)))
                · exact Or.inr (fun e => q1_2 (e.symm.trans (by decide)))
                · exact Or.inr (fun e => q1_3 (e.symm.trans (by decide)))
                · exact Or.inr (fun e => q1_4 (e.symm.trans (by decide)))
                · exact Or.inr (fun e => q1_5 (e.symm.trans (by decide)))) (by decide) dX9_count_1 ?_
            refine z_iconst hC (-1 : Int32) (by decide) dX9_count_61 ?_
            subst h
            exact z_iret hC hQ dX9_count_62
set_option maxRecDepth 100000 in
theorem ctX9_count {l : Launch} {G : zGt} {mk : zSt → zSt} (hm : zM mk 61 85) {a1 : Int32} {σ : zSt} : zMet l G mk yX9_count cX9_count 2 (some .int) 0 0 [.ref (gA G (61)), .int a1] σ (some (.int (fX9_count a1 σ))) σ := by

  refine zMet.of (plainFor_of_name (by decide +kernel)) hm (Nat.le_of_ble_eq_true rfl) (fun T eL eG eM hN hC hQ => ?_)
  subst eL; subst eG; subst eM
  refine z_sub [(0, .ref (zAd T (61))), (1, .int a1)] [0, 1] rfl ?_
  exact wX9_count_0 hC hN hQ _  rfl
