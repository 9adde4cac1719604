noncomputable def fX8_feed_0 (a1 : Int32) (a2 : Int32) (a3 : Int32) (a4 : Int32) (a5 : Int32) (σ : zSt) : Option (Int32 × zSt) := 
    (if ((gi σ 2 1) + (20 : Int32)) ≤ (200 : Int32) then bd1 (fX6_take a1 σ) fun s28_2 => bd1 (fX6_take a2 s28_2) fun s34_3 => bd1 (fX6_take a3 s34_3) fun s40_4 => bd1 (fX6_take a4 s40_4) fun s47_5 => bd1 (fX6_take a5 s47_5) fun s54_6 => some ((gi s54_6 2 1), s54_6)
    else some ((-1 : Int32), σ))
noncomputable def fX8_feed (a1 : Int32) (a2 : Int32) (a3 : Int32) (a4 : Int32) (a5 : Int32) (σ : zSt) : Option (Int32 × zSt) := fX8_feed_0 a1 a2 a3 a4 a5 σ
set_option maxRecDepth 100000 in
set_option maxHeartbeats 4000000 in
theorem wX8_feed_0 {T : zX} (hC : zOk T cX8_feed RX8 1 22 0 61) (hN : zNL T = 7) {r : Int32} {σ' : zSt} (hQ : zRes T (some .int) (some (.int r)) σ') (a1 : Int32) (a2 : Int32) (a3 : Int32) (a4 : Int32) (a5 : Int32)  (σ : zSt) (h : fX8_feed_0 a1 a2 a3 a4 a5 σ = some (r, σ')) : Z T σ 0 [(0, .ref (zAd T (0))), (1, .int a1), (2, .int a2), (3, .int a3), (4, .int a4), (5, .int a5)] [] := by
  unfold fX8_feed_0 at h
  refine z_aload_n hC 0 rfl rfl dX8_feed_0 ?_
  refine gX8_0 hC kf_X8_10 dX8_feed_1 ?_
  refine gX3_0 hC kf_X8_37 dX8_feed_4 ?_
  refine z_astore hC [(6, .ref (zAd T (2))), (0, .ref (zAd T (0))), (1, .int a1), (2, .int a2), (3, .int a3), (4, .int a4), (5, .int a5)] (by rw [hN]; decide) rfl dX8_feed_7 ?_
  refine z_aload hC 0 rfl dX8_feed_9 ?_
  refine gX6_1 hC kf_X8_41 (gi σ 2 1) rfl dX8_feed_11 ?_
  refine z_bipush hC (20 : Int32) (by decide) dX8_feed_14 ?_
  refine z_iadd hC dX8_feed_16 ?_
  refine z_sipush hC (200 : Int32) (by decide) dX8_feed_17 ?_
  refine z_icmp_le hC 25 (by decide) dX8_feed_20 (fun q20_1 => ?_) (fun q20_1 => ?_)
  · replace h := z_t q20_1 h
    refine z_aload hC 0 rfl dX8_feed_25 ?_
    refine z_iload_n hC 2 rfl rfl dX8_feed_27 ?_
    refine z_b1 h (fun s28_2 e_s28_2 h => ?_)
    refine z_cV1v hC (ctX6_take hC.hm e_s28_2) (rcX6 hC) kb_X6_take km_X8_47 ⟨by decide, by decide⟩ (Nat.le_of_ble_eq_true rfl) dX8_feed_28 ?_
    refine z_aload hC 0 rfl dX8_feed_31 ?_
    refine z_iload_n hC 3 rfl rfl dX8_feed_33 ?_
    refine z_b1 h (fun s34_3 e_s34_3 h => ?_)
    refine z_cV1v hC (ctX6_take hC.hm e_s34_3) (rcX6 hC) kb_X6_take km_X8_47 ⟨by decide, by decide⟩ (Nat.le_of_ble_eq_true rfl) dX8_feed_34 ?_
    refine z_aload hC 0 rfl dX8_feed_37 ?_
    refine z_iload_n hC 4 rfl rfl dX8_feed_39 ?_
    refine z_b1 h (fun s40_4 e_s40_4 h => ?_)
    refine z_cV1v hC (ctX6_take hC.hm e_s40_4) (rcX6 hC) kb_X6_take km_X8_47 ⟨by decide, by decide⟩ (Nat.le_of_ble_eq_true rfl) dX8_feed_40 ?_
    refine z_aload hC 0 rfl dX8_feed_43 ?_
    refine z_iload hC 5 rfl dX8_feed_45 ?_
    refine z_b1 h (fun s47_5 e_s47_5 h => ?_)
    refine z_cV1v hC (ctX6_take hC.hm e_s47_5) (rcX6 hC) kb_X6_take km_X8_47 ⟨by decide, by decide⟩ (Nat.le_of_ble_eq_true rfl) dX8_feed_47 ?_
    refine z_aload hC 0 rfl dX8_feed_50 ?_
    refine z_iload hC 6 rfl dX8_feed_52 ?_
    refine z_b1 h (fun s54_6 e_s54_6 h => ?_)
    refine z_cV1v hC (ctX6_take hC.hm e_s54_6) (rcX6 hC) kb_X6_take km_X8_47 ⟨by decide, by decide⟩ (Nat.le_of_ble_eq_true rfl) dX8_feed_54 ?_
    refine z_aload hC 0 rfl dX8_feed_57 ?_
    refine gX6_1 hC kf_X8_41 (gi s54_6 2 1) rfl dX8_feed_59 ?_
    obtain ⟨rfl, rfl⟩ := z_pr h
    exact z_iret hC hQ dX8_feed_62
  · replace h := z_f q20_1 h
    refine z_iconst hC (-1 : Int32) (by decide) dX8_feed_23 ?_
    obtain ⟨rfl, rfl⟩ := z_pr h
    exact z_iret hC hQ dX8_feed_24
set_option maxRecDepth 100000 in
theorem ctX8_feed {l : Launch} {G : zGt} {mk : zSt → zSt} (hm : zM mk 0 61) {a1 : Int32} {a2 : Int32} {a3 : Int32} {a4 : Int32} {a5 : Int32} {σ : zSt} {r : Int32} {σ' : zSt} (h : fX8_feed a1 a2 a3 a4 a5 σ = some (r, σ')) : zMet l G mk yX8_feed cX8_feed 7 (some .int) 1 22 [.ref (gA G (0)), .int a1, .int a2, .int a3, .int a4, .int a5] σ (some (.int r)) σ' := by
  unfold fX8_feed at h

  refine zMet.of (plainFor_of_name (by decide +kernel)) hm (Nat.le_of_ble_eq_true rfl) (fun T eL eG eM hN hC hQ => ?_)
  subst eL; subst eG; subst eM
  refine z_sub [(0, .ref (zAd T (0))), (1, .int a1), (2, .int a2), (3, .int a3), (4, .int a4), (5, .int a5)] [0, 1, 2, 3, 4, 5] rfl ?_
  exact wX8_feed_0 hC hN hQ _ _ _ _ _  _ h
noncomputable def fX8_end_0 (a1 : Int32) (σ : zSt) : Option (Int32 × zSt) := 
    (if a1 < 0 then some ((-1 : Int32), σ)
    else 
      (if a1 ≤ (gi σ 2 1) then some (a1, (si σ 2 1 a1))
      else some ((-1 : Int32), σ)))
noncomputable def fX8_end (a1 : Int32) (σ : zSt) : Option (Int32 × zSt) := fX8_end_0 a1 σ
set_option maxRecDepth 100000 in
set_option maxHeartbeats 4000000 in
theorem wX8_end_0 {T : zX} (hC : zOk T cX8_end RX8 0 0 0 61) (hN : zNL T = 2) {r : Int32} {σ' : zSt} (hQ : zRes T (some .int) (some (.int r)) σ') (a1 : Int32)  (σ : zSt) (h : fX8_end_0 a1 σ = some (r, σ')) : Z T σ 0 [(0, .ref (zAd T (0))), (1, .int a1)] [] := by
  unfold fX8_end_0 at h
  refine z_iload_n hC 1 rfl rfl dX8_end_0 ?_
  refine z_if_lt hC 18 (by decide) dX8_end_1 (fun q1_1 => ?_) (fun q1_1 => ?_)
  · replace h := z_t q1_1 h
    refine z_iconst hC (-1 : Int32) (by decide) dX8_end_18 ?_
    obtain ⟨rfl, rfl⟩ := z_pr h
    exact z_iret hC hQ dX8_end_19
  · replace h := z_f q1_1 h
    refine z_iload_n hC 1 rfl rfl dX8_end_4 ?_
    refine z_aload_n hC 0 rfl rfl dX8_end_5 ?_
    refine gX8_0 hC kf_X8_10 dX8_end_6 ?_
    refine gX3_0 hC kf_X8_37 dX8_end_9 ?_
    refine gX6_1 hC kf_X8_41 (gi σ 2 1) rfl dX8_end_12 ?_
    refine z_icmp_le hC 20 (by decide) dX8_end_15 (fun q15_2 => ?_) (fun q15_2 => ?_)
    · replace h := z_t q15_2 h
      refine z_aload_n hC 0 rfl rfl dX8_end_20 ?_
      refine gX8_0 hC kf_X8_10 dX8_end_21 ?_
      refine gX3_0 hC kf_X8_37 dX8_end_24 ?_
      refine z_iload_n hC 1 rfl rfl dX8_end_27 ?_
      refine pX6_1 hC kf_X8_41 dX8_end_28 ?_
      refine z_iload_n hC 1 rfl rfl dX8_end_31 ?_
      obtain ⟨rfl, rfl⟩ := z_pr h
      exact z_iret hC hQ dX8_end_32
    · replace h := z_f q15_2 h
      refine z_iconst hC (-1 : Int32) (by decide) dX8_end_18 ?_
      obtain ⟨rfl, rfl⟩ := z_pr h
      exact z_iret hC hQ dX8_end_19
set_option maxRecDepth 100000 in
theorem ctX8_end {l : Launch} {G : zGt} {mk : zSt → zSt} (hm : zM mk 0 61) {a1 : Int32} {σ : zSt} {r : Int32} {σ' : zSt} (h : fX8_end a1 σ = some (r, σ')) : zMet l G mk yX8_end cX8_end 2 (some .int) 0 0 [.ref (gA G (0)), .int a1] σ (some (.int r)) σ' := by
  unfold fX8_end at h

  refine zMet.of (plainFor_of_name (by decide +kernel)) hm (Nat.le_of_ble_eq_true rfl) (fun T eL eG eM hN hC hQ => ?_)
  subst eL; subst eG; subst eM
  refine z_sub [(0, .ref (zAd T (0))), (1, .int a1)] [0, 1] rfl ?_
  exact wX8_end_0 hC hN hQ _  _ h
noncomputable def fX8_curve_0  (σ : zSt) : Option (Int32 × zSt) := 
    (if (8 : Int32) ≤ (gi σ 3 8) then some ((-1 : Int32), (si σ 2 1 (0 : Int32)))
    else bd2 (fX3_read (gi σ 3 8) σ) fun r25_2 s25_3 => 
      (if r25_2 = 0 then bd2 (fX1_keep 9 s25_3) fun r51_5 s51_6 => some (r51_5, (si s51_6 2 1 (0 : Int32)))
      else nm ((-2 : Int32) - r25_2) fun x54_7 => some (x54_7, (si s25_3 2 1 (0 : Int32)))))
noncomputable def fX8_curve  (σ : zSt) : Option (Int32 × zSt) := fX8_curve_0  σ
set_option maxRecDepth 100000 in
set_option maxHeartbeats 4000000 in
theorem wX8_curve_0 {T : zX} (hC : zOk T cX8_curve RX8 80 1898 0 61) (hN : zNL T = 3) {r : Int32} {σ' : zSt} (hQ : zRes T (some .int) (some (.int r)) σ')   (σ : zSt) (h : fX8_curve_0  σ = some (r, σ')) : Z T σ 0 [(0, .ref (zAd T (0)))] [] := by
  unfold fX8_curve_0 at h
  refine z_iconst hC (-1 : Int32) (by decide) dX8_curve_0 ?_
  refine z_istore_n hC [(1, .int (-1 : Int32)), (0, .ref (zAd T (0)))] rfl (by rw [hN]; decide) rfl dX8_curve_1 ?_
  refine z_aload_n hC 1 rfl rfl dX8_curve_2 ?_
  refine gX8_1 hC kf_X8_19 dX8_curve_3 ?_
  refine gX1_8 hC kf_X8_51 (gi σ 3 8) rfl dX8_curve_6 ?_
  refine z_bipush hC (8 : Int32) (by decide) dX8_curve_9 ?_
  refine z_icmp_ge hC 55 (by decide) dX8_curve_11 (fun q11_1 => ?_) (fun q11_1 => ?_)
  · replace h := z_t q11_1 h
    refine z_aload_n hC 1 rfl rfl dX8_curve_55 ?_
    refine gX8_0 hC kf_X8_10 dX8_curve_56 ?_
    refine gX3_0 hC kf_X8_37 dX8_curve_59 ?_
    refine z_iconst hC (0 : Int32) (by decide) dX8_curve_62 ?_
    refine pX6_1 hC kf_X8_41 dX8_curve_63 ?_
    refine z_iload_n hC 0 rfl rfl dX8_curve_66 ?_
    obtain ⟨rfl, rfl⟩ := z_pr h
    exact z_iret hC hQ dX8_curve_67
  · replace h := z_f q11_1 h
    refine z_aload_n hC 1 rfl rfl dX8_curve_14 ?_
    refine gX8_0 hC kf_X8_10 dX8_curve_15 ?_
    refine z_aload_n hC 1 rfl rfl dX8_curve_18 ?_
    refine gX8_1 hC kf_X8_19 dX8_curve_19 ?_
    refine gX1_8 hC kf_X8_51 (gi σ 3 8) rfl dX8_curve_22 ?_
    refine z_b2 h (fun r25_2 s25_3 e_r25_2 h => ?_)
    refine z_cV1r hC (ctX3_read hC.hm e_r25_2) (rcX3 hC) kb_X3_read km_X8_54 ⟨by decide, by decide⟩ (Nat.le_of_ble_eq_true rfl) dX8_curve_25 ?_
    refine z_istore_n hC [(2, .int r25_2), (1, .int (-1 : Int32)), (0, .ref (zAd T (0)))] rfl (by rw [hN]; decide) rfl dX8_curve_28 ?_
    refine z_iload_n hC 0 rfl rfl dX8_curve_29 ?_
    refine z_if_eq hC 40 (by decide) dX8_curve_30 (fun q30_4 => ?_) (fun q30_4 => ?_)
    · replace h := z_t q30_4 h
      refine z_aload_n hC 2 rfl rfl dX8_curve_40 ?_
      refine gX8_1 hC kf_X8_19 dX8_curve_41 ?_
      refine z_aload_n hC 2 rfl rfl dX8_curve_44 ?_
      refine gX8_0 hC kf_X8_10 dX8_curve_45 ?_
      refine gX3_1 hC kf_X8_58 dX8_curve_48 ?_
      refine z_b2 h (fun r51_5 s51_6 e_r51_5 h => ?_)
      refine z_cV1r hC (ctX1_keep hC.hm e_r51_5) (rcX1 hC) kb_X1_keep km_X8_62 ⟨by decide, by decide⟩ (Nat.le_of_ble_eq_true rfl) dX8_curve_51 ?_
      refine z_istore_n hC [(1, .int r51_5), (2, .int r25_2), (0, .ref (zAd T (0)))] rfl (by rw [hN]; decide) rfl dX8_curve_54 ?_
      refine z_aload_n hC 2 rfl rfl dX8_curve_55 ?_
      refine gX8_0 hC kf_X8_10 dX8_curve_56 ?_
      refine gX3_0 hC kf_X8_37 dX8_curve_59 ?_
      refine z_iconst hC (0 : Int32) (by decide) dX8_curve_62 ?_
      refine pX6_1 hC kf_X8_41 dX8_curve_63 ?_
      refine z_iload_n hC 0 rfl rfl dX8_curve_66 ?_
      obtain ⟨rfl, rfl⟩ := z_pr h
      exact z_iret hC hQ dX8_curve_67
    · replace h := z_f q30_4 h
      refine z_bipush hC (-2 : Int32) (by decide) dX8_curve_33 ?_
      refine z_iload_n hC 0 rfl rfl dX8_curve_35 ?_
      refine z_isub hC dX8_curve_36 ?_
      refine z_goto hC 54 (by decide) dX8_curve_37 ?_
      refine z_nmI h (fun x54_7 h => ?_)
      refine z_istore_n hC [(1, .int x54_7), (2, .int r25_2), (0, .ref (zAd T (0)))] rfl (by rw [hN]; decide) rfl dX8_curve_54 ?_
      refine z_aload_n hC 2 rfl rfl dX8_curve_55 ?_
      refine gX8_0 hC kf_X8_10 dX8_curve_56 ?_
      refine gX3_0 hC kf_X8_37 dX8_curve_59 ?_
      refine z_iconst hC (0 : Int32) (by decide) dX8_curve_62 ?_
      refine pX6_1 hC kf_X8_41 dX8_curve_63 ?_
      refine z_iload_n hC 0 rfl rfl dX8_curve_66 ?_
      obtain ⟨rfl, rfl⟩ := z_pr h
      exact z_iret hC hQ dX8_curve_67
set_option maxRecDepth 100000 in
theorem ctX8_curve {l : Launch} {G : zGt} {mk : zSt → zSt} (hm : zM mk 0 61)  {σ : zSt} {r : Int32} {σ' : zSt} (h : fX8_curve  σ = some (r, σ')) : zMet l G mk yX8_curve cX8_curve 3 (some .int) 80 1898 [.ref (gA G (0))] σ (some (.int r)) σ' := by
  unfold fX8_curve at h

  refine zMet.of (plainFor_of_name (by decide +kernel)) hm (Nat.le_of_ble_eq_true rfl) (fun T eL eG eM hN hC hQ => ?_)
  subst eL; subst eG; subst eM
  refine z_sub [(0, .ref (zAd T (0)))] [0] rfl ?_
  exact wX8_curve_0 hC hN hQ   _ h
noncomputable def fX8_drop_0  (σ : zSt) : Option (Int32 × zSt) := 
    (if (1 : Int32) ≤ (gi σ 3 8) then some (((gi σ 3 8) - (1 : Int32)), (si σ 3 8 ((gi σ 3 8) - (1 : Int32))))
    else some ((-1 : Int32), σ))
noncomputable def fX8_drop  (σ : zSt) : Option (Int32 × zSt) := fX8_drop_0  σ
set_option maxRecDepth 100000 in
set_option maxHeartbeats 4000000 in
theorem wX8_drop_0 {T : zX} (hC : zOk T cX8_drop RX8 0 0 0 61) (hN : zNL T = 1) {r : Int32} {σ' : zSt} (hQ : zRes T (some .int) (some (.int r)) σ')   (σ : zSt) (h : fX8_drop_0  σ = some (r, σ')) : Z T σ 0 [(0, .ref (zAd T (0)))] [] := by
  unfold fX8_drop_0 at h
  refine z_aload_n hC 0 rfl rfl dX8_drop_0 ?_
  refine gX8_1 hC kf_X8_19 dX8_drop_1 ?_
  refine gX1_8 hC kf_X8_51 (gi σ 3 8) rfl dX8_drop_4 ?_
  refine z_iconst hC (1 : Int32) (by decide) dX8_drop_7 ?_
  refine z_icmp_ge hC 13 (by decide) dX8_drop_8 (fun q8_1 => ?_) (fun q8_1 => ?_)
  · replace h := z_t q8_1 h
    refine z_aload_n hC 0 rfl rfl dX8_drop_13 ?_
    refine gX8_1 hC kf_X8_19 dX8_drop_14 ?_
    refine z_dup hC rfl dX8_drop_17 ?_
    refine gX1_8 hC kf_X8_51 (gi σ 3 8) rfl dX8_drop_18 ?_
    refine z_iconst hC (1 : Int32) (by decide) dX8_drop_21 ?_
    refine z_isub hC dX8_drop_22 ?_
    refine pX1_8 hC kf_X8_51 dX8_drop_23 ?_
    refine z_aload_n hC 0 rfl rfl dX8_drop_26 ?_
    refine gX8_1 hC kf_X8_19 dX8_drop_27 ?_
    refine gX1_8 hC kf_X8_51 ((gi σ 3 8) - (1 : Int32)) rfl dX8_drop_30 ?_
    obtain ⟨rfl, rfl⟩ := z_pr h
    exact z_iret hC hQ dX8_drop_33
  · replace h := z_f q8_1 h
    refine z_iconst hC (-1 : Int32) (by decide) dX8_drop_11 ?_
    obtain ⟨rfl, rfl⟩ := z_pr h
    exact z_iret hC hQ dX8_drop_12
set_option maxRecDepth 100000 in
theorem ctX8_drop {l : Launch} {G : zGt} {mk : zSt → zSt} (hm : zM mk 0 61)  {σ : zSt} {r : Int32} {σ' : zSt} (h : fX8_drop  σ = some (r, σ')) : zMet l G mk yX8_drop cX8_drop 1 (some .int) 0 0 [.ref (gA G (0))] σ (some (.int r)) σ' := by
  unfold fX8_drop at h

  refine zMet.of (plainFor_of_name (by decide +kernel)) hm (Nat.le_of_ble_eq_true rfl) (fun T eL eG eM hN hC hQ => ?_)
  subst eL; subst eG; subst eM
  refine z_sub [(0, .ref (zAd T (0)))] [0] rfl ?_
  exact wX8_drop_0 hC hN hQ   _ h
noncomputable def fX8_about_0 (a1 : Int32) (a2 : Int32) (σ : zSt) : Option Int32 := 
    (if (fX1_has a1 σ) = 0 then some (-1 : Int32)
    else 
      (
      if a2 = 0 then bd1 (fX1_curveAt a1) fun r45_3 => zg (r45_3 < 10) <| some (gi σ (21 + 4 * r45_3) 3) else 
      if a2 = 1 then bd1 (fX1_curveAt a1) fun r57_5 => zg (r57_5 < 10) <| 
          (if (gi σ (21 + 4 * r57_5) 4) = 0 then some (0 : Int32)
          else some (1 : Int32)) else 
      if a2 = 2 then bd1 (fX1_curveAt a1) fun r77_8 => zg (r77_8 < 10) <| some (gi σ (21 + 4 * r77_8) 5) else some (-1 : Int32)))
noncomputable def fX8_about (a1 : Int32) (a2 : Int32) (σ : zSt) : Option Int32 := fX8_about_0 a1 a2 σ
set_option maxRecDepth 100000 in
set_option maxHeartbeats 4000000 in
theorem wX8_about_0 {T : zX} {σ : zSt} (hC : zOk T cX8_about RX8 1 22 0 61) (hN : zNL T = 3) {r : Int32} (hQ : zRes T (some .int) (some (.int r)) σ) (a1 : Int32) (a2 : Int32)  (h : fX8_about_0 a1 a2 σ = some r) : Z T σ 0 [(0, .ref (zAd T (0))), (1, .int a1), (2, .int a2)] [] := by
  unfold fX8_about_0 at h
  refine z_aload_n hC 0 rfl rfl dX8_about_0 ?_
  refine gX8_1 hC kf_X8_19 dX8_about_1 ?_
  refine z_iload_n hC 1 rfl rfl dX8_about_4 ?_
  refine z_cV1r hC (ctX1_has hC.hm) (rcX1 hC) kb_X1_has km_X8_66 ⟨by decide, by decide⟩ (Nat.le_of_ble_eq_true rfl) dX8_about_5 ?_
  refine z_if_ne hC 13 (by decide) dX8_about_8 (fun q8_1 => ?_) (fun q8_1 => ?_)
  · replace h := z_f q8_1 h
    refine z_iload_n hC 2 rfl rfl dX8_about_13 ?_
    refine z_ite h (fun q14_2 h => ?_) (fun q14_2 h => ?_)
    · refine z_tabIn hC (26) 40 (by rw [q14_2]; decide) (by rw [q14_2]; decide) (by rw [q14_2]; decide +kernel) (by decide) dX8_about_14 ?_
      refine z_aload_n hC 0 rfl rfl dX8_about_40 ?_
      refine gX8_1 hC kf_X8_19 dX8_about_41 ?_
      refine z_iload_n hC 1 rfl rfl dX8_about_44 ?_
      refine z_b1 h (fun r45_3 e_r45_3 h => ?_)
      refine z_g h (fun hk_r45_3 h => ?_)
      refine z_cV1r hC (ctX1_curveAt hC.hm e_r45_3) (rcX1 hC) kb_X1_curveAt km_X8_70 ⟨by decide, by decide⟩ (Nat.le_of_ble_eq_true rfl) dX8_about_45 ?_
      refine gX0_3 hC hk_r45_3 kf_X8_74 (gi σ (21 + 4 * r45_3) 3) rfl dX8_about_48 ?_
      obtain rfl := z_so h
      exact z_iret hC hQ dX8_about_51
    ·
      refine z_ite h (fun q14_4 h => ?_) (fun q14_4 h => ?_)
      · refine z_tabIn hC (38) 52 (by rw [q14_4]; decide) (by rw [q14_4]; decide) (by rw [q14_4]; decide +kernel) (by decide) dX8_about_14 ?_
        refine z_aload_n hC 0 rfl rfl dX8_about_52 ?_
        refine gX8_1 hC kf_X8_19 dX8_about_53 ?_
        refine z_iload_n hC 1 rfl rfl dX8_about_56 ?_
        refine z_b1 h (fun r57_5 e_r57_5 h => ?_)
        refine z_g h (fun hk_r57_5 h => ?_)
        refine z_cV1r hC (ctX1_curveAt hC.hm e_r57_5) (rcX1 hC) kb_X1_curveAt km_X8_70 ⟨by decide, by decide⟩ (Nat.le_of_ble_eq_true rfl) dX8_about_57 ?_
        refine gX0_4 hC hk_r57_5 kf_X8_79 (gi σ (21 + 4 * r57_5) 4) rfl dX8_about_60 ?_
        refine z_if_eq hC 70 (by decide) dX8_about_63 (fun q63_6 => ?_) (fun q63_6 => ?_)
        · replace h := z_t q63_6 h
          refine z_iconst hC (0 : Int32) (by decide) dX8_about_70 ?_
          obtain rfl := z_so h
          exact z_iret hC hQ dX8_about_71
        · replace h := z_f q63_6 h
          refine z_iconst hC (1 : Int32) (by decide) dX8_about_66 ?_
          refine z_goto hC 71 (by decide) dX8_about_67 ?_
          obtain rfl := z_so h
          exact z_iret hC hQ dX8_about_71
      ·
        refine z_ite h (fun q14_7 h => ?_) (fun q14_7 h => ?_)
        · refine z_tabIn hC (58) 72 (by rw [q14_7]; decide) (by rw [q14_7]; decide) (by rw [q14_7]; decide +kernel) (by decide) dX8_about_14 ?_
          refine z_aload_n hC 0 rfl rfl dX8_about_72 ?_
          refine gX8_1 hC kf_X8_19 dX8_about_73 ?_
          refine z_iload_n hC 1 rfl rfl dX8_about_76 ?_
          refine z_b1 h (fun r77_8 e_r77_8 h => ?_)
          refine z_g h (fun hk_r77_8 h => ?_)
          refine z_cV1r hC (ctX1_curveAt hC.hm e_r77_8) (rcX1 hC) kb_X1_curveAt km_X8_70 ⟨by decide, by decide⟩ (Nat.le_of_ble_eq_true rfl) dX8_about_77 ?_
          refine gX0_5 hC hk_r77_8 kf_X8_83 (gi σ (21 + 4 * r77_8) 5) rfl dX8_about_80 ?_
          obtain rfl := z_so h
          exact z_iret hC hQ dX8_about_83
        ·
          refine z_tabD hC 3 84 (by decide) (fun i hi => by
              have hi2 : i = 0 ∨ i = 1 ∨ i = 2 := by omega
              rcases hi2 with rfl | rfl | rfl
              · exact Or.inr (fun e => q14_2 (e.symm.trans (by decide)))
              · exact Or.inr (fun e => q14_4 (e.symm.trans (by decide)))
              · exact Or.inr (fun e => q14_7 (e.symm.trans (by decide)))) (by decide) dX8_about_14 ?_
          refine z_iconst hC (-1 : Int32) (by decide) dX8_about_84 ?_
          obtain rfl := z_so h
          exact z_iret hC hQ dX8_about_85
  · replace h := z_t q8_1 h
    refine z_iconst hC (-1 : Int32) (by decide) dX8_about_11 ?_
    obtain rfl := z_so h
    exact z_iret hC hQ dX8_about_12
set_option maxRecDepth 100000 in
theorem ctX8_about {l : Launch} {G : zGt} {mk : zSt → zSt} (hm : zM mk 0 61) {a1 : Int32} {a2 : Int32} {σ : zSt} {r : Int32} (h : fX8_about a1 a2 σ = some r) : zMet l G mk yX8_about cX8_about 3 (some .int) 1 22 [.ref (gA G (0)), .int a1, .int a2] σ (some (.int r)) σ := by
  unfold fX8_about at h

  refine zMet.of (plainFor_of_name (by decide +kernel)) hm (Nat.le_of_ble_eq_true rfl) (fun T eL eG eM hN hC hQ => ?_)
  subst eL; subst eG; subst eM
  refine z_sub [(0, .ref (zAd T (0))), (1, .int a1), (2, .int a2)] [0, 1, 2] rfl ?_
  exact wX8_about_0 hC hN hQ _ _  h
noncomputable def fX8_tell_0 (a1 : Int64) (σ : zSt) : Option (Int32 × zSt) := 
    (if a1 = (4294967296 : Int64) then some ((1 : Int32), σ)
    else some ((0 : Int32), (sl (sl σ 0 4 (fX5_lowOf a1)) 0 5 (fX5_highOf a1))))
noncomputable def fX8_tell (a1 : Int64) (σ : zSt) : Option (Int32 × zSt) := fX8_tell_0 a1 σ
set_option maxRecDepth 100000 in
set_option maxHeartbeats 4000000 in
theorem wX8_tell_0 {T : zX} (hC : zOk T cX8_tell RX8 1 21 0 61) (hN : zNL T = 3) {r : Int32} {σ' : zSt} (hQ : zRes T (some .int) (some (.int r)) σ') (a1 : Int64)  (σ : zSt) (h : fX8_tell_0 a1 σ = some (r, σ')) : Z T σ 0 [(0, .ref (zAd T (0))), (1, .long a1)] [] := by
  unfold fX8_tell_0 at h
  refine z_lload_n hC 1 rfl rfl dX8_tell_0 ?_
  refine z_ldc2 hC kc_X8_150 dX8_tell_1 ?_
  refine z_cmp_ne hC 10 (by decide) dX8_tell_4 dX8_tell_5 (fun q4_1 => ?_) (fun q4_1 => ?_)
  · replace h := z_f q4_1 h
    refine z_aload_n hC 0 rfl rfl dX8_tell_10 ?_
    refine z_lload_n hC 1 rfl rfl dX8_tell_11 ?_
    refine z_cS1r hC (ctX5_lowOf hC.hm) kb_X5_lowOf km_X8_152 ⟨by decide, by decide⟩ (Nat.le_of_ble_eq_true rfl) dX8_tell_12 ?_
    refine pX8_4 hC kf_X8_139 dX8_tell_15 ?_
    refine z_aload_n hC 0 rfl rfl dX8_tell_18 ?_
    refine z_lload_n hC 1 rfl rfl dX8_tell_19 ?_
    refine z_cS1r hC (ctX5_highOf hC.hm) kb_X5_highOf km_X8_156 ⟨by decide, by decide⟩ (Nat.le_of_ble_eq_true rfl) dX8_tell_20 ?_
    refine pX8_5 hC kf_X8_142 dX8_tell_23 ?_
    refine z_iconst hC (0 : Int32) (by decide) dX8_tell_26 ?_
    obtain ⟨rfl, rfl⟩ := z_pr h
    exact z_iret hC hQ dX8_tell_27
  · replace h := z_t q4_1 h
    refine z_iconst hC (1 : Int32) (by decide) dX8_tell_8 ?_
    obtain ⟨rfl, rfl⟩ := z_pr h
    exact z_iret hC hQ dX8_tell_9
set_option maxRecDepth 100000 in
theorem ctX8_tell {l : Launch} {G : zGt} {mk : zSt → zSt} (hm : zM mk 0 61) {a1 : Int64} {σ : zSt} {r : Int32} {σ' : zSt} (h : fX8_tell a1 σ = some (r, σ')) : zMet l G mk yX8_tell cX8_tell 3 (some .int) 1 21 [.ref (gA G (0)), .long a1] σ (some (.int r)) σ' := by
  unfold fX8_tell at h

  refine zMet.of (plainFor_of_name (by decide +kernel)) hm (Nat.le_of_ble_eq_true rfl) (fun T eL eG eM hN hC hQ => ?_)
  subst eL; subst eG; subst eM
  refine z_sub [(0, .ref (zAd T (0))), (1, .long a1)] [0, 1] rfl ?_
  exact wX8_tell_0 hC hN hQ _  _ h
noncomputable def fX8_at_0 (a1 : Int32) (a2 : Int32) (a3 : Int32) (σ : zSt) : Option (Int32 × zSt) := 
    (if (fX1_has a1 σ) = 0 then some ((-1 : Int32), σ)
    else 
      (if a2 ≤ a3 then bd2 (fX1_measure a1 a2 a3 (0 : Int32) σ) fun r27_3 s27_4 => bd2 (fX8_tell r27_3 s27_4) fun r30_5 s30_6 => some (r30_5, s30_6)
      else some ((-1 : Int32), σ)))
noncomputable def fX8_at (a1 : Int32) (a2 : Int32) (a3 : Int32) (σ : zSt) : Option (Int32 × zSt) := fX8_at_0 a1 a2 a3 σ
set_option maxRecDepth 100000 in
set_option maxHeartbeats 4000000 in
theorem wX8_at_0 {T : zX} (hC : zOk T cX8_at RX8 5 147 0 61) (hN : zNL T = 4) {r : Int32} {σ' : zSt} (hQ : zRes T (some .int) (some (.int r)) σ') (a1 : Int32) (a2 : Int32) (a3 : Int32)  (σ : zSt) (h : fX8_at_0 a1 a2 a3 σ = some (r, σ')) : Z T σ 0 [(0, .ref (zAd T (0))), (1, .int a1), (2, .int a2), (3, .int a3)] [] := by
  unfold fX8_at_0 at h
  refine z_aload_n hC 0 rfl rfl dX8_at_0 ?_
  refine gX8_1 hC kf_X8_19 dX8_at_1 ?_
  refine z_iload_n hC 1 rfl rfl dX8_at_4 ?_
  refine z_cV1r hC (ctX1_has hC.hm) (rcX1 hC) kb_X1_has km_X8_66 ⟨by decide, by decide⟩ (Nat.le_of_ble_eq_true rfl) dX8_at_5 ?_
  refine z_if_eq hC 16 (by decide) dX8_at_8 (fun q8_1 => ?_) (fun q8_1 => ?_)
  · replace h := z_t q8_1 h
    refine z_iconst hC (-1 : Int32) (by decide) dX8_at_16 ?_
    obtain ⟨rfl, rfl⟩ := z_pr h
    exact z_iret hC hQ dX8_at_17
  · replace h := z_f q8_1 h
    refine z_iload_n hC 2 rfl rfl dX8_at_11 ?_
    refine z_iload_n hC 3 rfl rfl dX8_at_12 ?_
    refine z_icmp_le hC 18 (by decide) dX8_at_13 (fun q13_2 => ?_) (fun q13_2 => ?_)
    · replace h := z_t q13_2 h
      refine z_aload_n hC 0 rfl rfl dX8_at_18 ?_
      refine z_aload_n hC 0 rfl rfl dX8_at_19 ?_
      refine gX8_1 hC kf_X8_19 dX8_at_20 ?_
      refine z_iload_n hC 1 rfl rfl dX8_at_23 ?_
      refine z_iload_n hC 2 rfl rfl dX8_at_24 ?_
      refine z_iload_n hC 3 rfl rfl dX8_at_25 ?_
      refine z_iconst hC (0 : Int32) (by decide) dX8_at_26 ?_
      refine z_b2 h (fun r27_3 s27_4 e_r27_3 h => ?_)
      refine z_cV4r hC (ctX1_measure hC.hm e_r27_3) (rcX1 hC) kb_X1_measure km_X8_86 ⟨by decide, by decide⟩ (Nat.le_of_ble_eq_true rfl) dX8_at_27 ?_
      refine z_b2 h (fun r30_5 s30_6 e_r30_5 h => ?_)
      refine z_cV1r hC (ctX8_tell hC.hm e_r30_5) (rcX8 hC) kb_X8_tell km_X8_90 ⟨by decide, by decide⟩ (Nat.le_of_ble_eq_true rfl) dX8_at_30 ?_
      obtain ⟨rfl, rfl⟩ := z_pr h
      exact z_iret hC hQ dX8_at_33
    · replace h := z_f q13_2 h
      refine z_iconst hC (-1 : Int32) (by decide) dX8_at_16 ?_
      obtain ⟨rfl, rfl⟩ := z_pr h
      exact z_iret hC hQ dX8_at_17
set_option maxRecDepth 100000 in
theorem ctX8_at {l : Launch} {G : zGt} {mk : zSt → zSt} (hm : zM mk 0 61) {a1 : Int32} {a2 : Int32} {a3 : Int32} {σ : zSt} {r : Int32} {σ' : zSt} (h : fX8_at a1 a2 a3 σ = some (r, σ')) : zMet l G mk yX8_at cX8_at 4 (some .int) 5 147 [.ref (gA G (0)), .int a1, .int a2, .int a3] σ (some (.int r)) σ' := by
  unfold fX8_at at h

  refine zMet.of (plainFor_of_name (by decide +kernel)) hm (Nat.le_of_ble_eq_true rfl) (fun T eL eG eM hN hC hQ => ?_)
  subst eL; subst eG; subst eM
  refine z_sub [(0, .ref (zAd T (0))), (1, .int a1), (2, .int a2), (3, .int a3)] [0, 1, 2, 3] rfl ?_
  exact wX8_at_0 hC hN hQ _ _ _  _ h
noncomputable def fX8_slope_0 (a1 : Int32) (a2 : Int32) (a3 : Int32) (σ : zSt) : Option (Int32 × zSt) := 
    (if (fX1_has a1 σ) = 0 then some ((-1 : Int32), σ)
    else 
      (if a2 ≤ a3 then bd2 (fX1_measure a1 a2 a3 (1 : Int32) σ) fun r26_3 s26_4 => bd2 (fX8_tell (gl s26_4 3 9) s26_4) fun r38_5 s38_6 => some (r38_5, s38_6)
      else some ((-1 : Int32), σ)))
noncomputable def fX8_slope (a1 : Int32) (a2 : Int32) (a3 : Int32) (σ : zSt) : Option (Int32 × zSt) := fX8_slope_0 a1 a2 a3 σ
set_option maxRecDepth 100000 in
set_option maxHeartbeats 4000000 in
theorem wX8_slope_0 {T : zX} (hC : zOk T cX8_slope RX8 5 147 0 61) (hN : zNL T = 4) {r : Int32} {σ' : zSt} (hQ : zRes T (some .int) (some (.int r)) σ') (a1 : Int32) (a2 : Int32) (a3 : Int32)  (σ : zSt) (h : fX8_slope_0 a1 a2 a3 σ = some (r, σ')) : Z T σ 0 [(0, .ref (zAd T (0))), (1, .int a1), (2, .int a2), (3, .int a3)] [] := by
  unfold fX8_slope_0 at h
  refine z_aload_n hC 0 rfl rfl dX8_slope_0 ?_
  refine gX8_1 hC kf_X8_19 dX8_slope_1 ?_
  refine z_iload_n hC 1 rfl rfl dX8_slope_4 ?_
  refine z_cV1r hC (ctX1_has hC.hm) (rcX1 hC) kb_X1_has km_X8_66 ⟨by decide, by decide⟩ (Nat.le_of_ble_eq_true rfl) dX8_slope_5 ?_
  refine z_if_eq hC 16 (by decide) dX8_slope_8 (fun q8_1 => ?_) (fun q8_1 => ?_)
  · replace h := z_t q8_1 h
    refine z_iconst hC (-1 : Int32) (by decide) dX8_slope_16 ?_
    obtain ⟨rfl, rfl⟩ := z_pr h
    exact z_iret hC hQ dX8_slope_17
  · replace h := z_f q8_1 h
    refine z_iload_n hC 2 rfl rfl dX8_slope_11 ?_
    refine z_iload_n hC 3 rfl rfl dX8_slope_12 ?_
    refine z_icmp_le hC 18 (by decide) dX8_slope_13 (fun q13_2 => ?_) (fun q13_2 => ?_)
    · replace h := z_t q13_2 h
      refine z_aload_n hC 0 rfl rfl dX8_slope_18 ?_
      refine gX8_1 hC kf_X8_19 dX8_slope_19 ?_
      refine z_iload_n hC 1 rfl rfl dX8_slope_22 ?_
      refine z_iload_n hC 2 rfl rfl dX8_slope_23 ?_
      refine z_iload_n hC 3 rfl rfl dX8_slope_24 ?_
      refine z_iconst hC (1 : Int32) (by decide) dX8_slope_25 ?_
      refine z_b2 h (fun r26_3 s26_4 e_r26_3 h => ?_)
      refine z_cV4r hC (ctX1_measure hC.hm e_r26_3) (rcX1 hC) kb_X1_measure km_X8_86 ⟨by decide, by decide⟩ (Nat.le_of_ble_eq_true rfl) dX8_slope_26 ?_
      refine z_pop2 hC rfl dX8_slope_29 ?_
      refine z_aload_n hC 0 rfl rfl dX8_slope_30 ?_
      refine z_aload_n hC 0 rfl rfl dX8_slope_31 ?_
      refine gX8_1 hC kf_X8_19 dX8_slope_32 ?_
      refine gX1_9 hC kf_X8_94 (gl s26_4 3 9) rfl dX8_slope_35 ?_
      refine z_b2 h (fun r38_5 s38_6 e_r38_5 h => ?_)
      refine z_cV1r hC (ctX8_tell hC.hm e_r38_5) (rcX8 hC) kb_X8_tell km_X8_90 ⟨by decide, by decide⟩ (Nat.le_of_ble_eq_true rfl) dX8_slope_38 ?_
      obtain ⟨rfl, rfl⟩ := z_pr h
      exact z_iret hC hQ dX8_slope_41
    · replace h := z_f q13_2 h
      refine z_iconst hC (-1 : Int32) (by decide) dX8_slope_16 ?_
      obtain ⟨rfl, rfl⟩ := z_pr h
      exact z_iret hC hQ dX8_slope_17
set_option maxRecDepth 100000 in
theorem ctX8_slope {l : Launch} {G : zGt} {mk : zSt → zSt} (hm : zM mk 0 61) {a1 : Int32} {a2 : Int32} {a3 : Int32} {σ : zSt} {r : Int32} {σ' : zSt} (h : fX8_slope a1 a2 a3 σ = some (r, σ')) : zMet l G mk yX8_slope cX8_slope 4 (some .int) 5 147 [.ref (gA G (0)), .int a1, .int a2, .int a3] σ (some (.int r)) σ' := by
  unfold fX8_slope at h

  refine zMet.of (plainFor_of_name (by decide +kernel)) hm (Nat.le_of_ble_eq_true rfl) (fun T eL eG eM hN hC hQ => ?_)
  subst eL; subst eG; subst eM
  refine z_sub [(0, .ref (zAd T (0))), (1, .int a1), (2, .int a2), (3, .int a3)] [0, 1, 2, 3] rfl ?_
  exact wX8_slope_0 hC hN hQ _ _ _  _ h
noncomputable def fX8_isHalvings_0 (a0 : Int32) : Int32 := 
    (if a0 < 0 then (0 : Int32)
    else 
      (if (200 : Int32) < a0 then (0 : Int32)
      else (1 : Int32)))
noncomputable def fX8_isHalvings (a0 : Int32) : Int32 := fX8_isHalvings_0 a0
set_option maxRecDepth 100000 in
set_option maxHeartbeats 4000000 in
theorem wX8_isHalvings_0 {T : zX} {cl ch : Nat} {σ : zSt} (hC : zOk T cX8_isHalvings RX8 0 0 cl ch) (hN : zNL T = 1) {r : Int32} (hQ : zRes T (some .boolean) (some (.int r)) σ) (a0 : Int32)  (h : fX8_isHalvings_0 a0  = r) : Z T σ 0 [(0, .int a0)] [] := by
  unfold fX8_isHalvings_0 at h
  refine z_iload_n hC 0 rfl rfl dX8_isHalvings_0 ?_
  refine z_if_lt hC 15 (by decide) dX8_isHalvings_1 (fun q1_1 => ?_) (fun q1_1 => ?_)
  · replace h := z_t q1_1 h
    refine z_iconst hC (0 : Int32) (by decide) dX8_isHalvings_15 ?_
    subst h
    exact z_zret hC hQ dX8_isHalvings_16 (by decide)
  · replace h := z_f q1_1 h
    refine z_iload_n hC 0 rfl rfl dX8_isHalvings_4 ?_
    refine z_sipush hC (200 : Int32) (by decide) dX8_isHalvings_5 ?_
    refine z_icmp_gt hC 15 (by decide) dX8_isHalvings_8 (fun q8_2 => ?_) (fun q8_2 => ?_)
    · replace h := z_t q8_2 h
      refine z_iconst hC (0 : Int32) (by decide) dX8_isHalvings_15 ?_
      subst h
      exact z_zret hC hQ dX8_isHalvings_16 (by decide)
    · replace h := z_f q8_2 h
      refine z_iconst hC (1 : Int32) (by decide) dX8_isHalvings_11 ?_
      refine z_goto hC 16 (by decide) dX8_isHalvings_12 ?_
      subst h
      exact z_zret hC hQ dX8_isHalvings_16 (by decide)
set_option maxRecDepth 100000 in
theorem ctX8_isHalvings {l : Launch} {G : zGt} {mk : zSt → zSt} {cl ch : Nat} (hm : zM mk cl ch) {a0 : Int32} {σ : zSt} : zMet l G mk yX8_isHalvings cX8_isHalvings 1 (some .boolean) 0 0 [.int a0] σ (some (.int (fX8_isHalvings a0 ))) σ := by

  refine zMet.of (plainFor_of_name (by decide +kernel)) hm (Nat.le_of_ble_eq_true rfl) (fun T eL eG eM hN hC hQ => ?_)
  subst eL; subst eG; subst eM
  refine z_sub [(0, .int a0)] [0] rfl ?_
  exact wX8_isHalvings_0 hC hN hQ _  rfl
noncomputable def fX8_tellHalved_29 (v2 : Int32) (t0 : Int64) (σ : zSt) : Option (Int32 × zSt) := 
    (if v2 = 0 then some ((0 : Int32), (si (sl (sl σ 0 4 t0) 0 5 (gl σ 4 6)) 0 6 (gi σ 4 4)))
    else some ((0 : Int32), (si (sl (sl σ 0 4 t0) 0 5 (-(gl σ 4 5))) 0 6 (gi σ 4 4))))
noncomputable def fX8_tellHalved_0 (a1 : Int32) (a2 : Int32) (σ : zSt) : Option (Int32 × zSt) := 
    (if a1 = 0 then some ((1 : Int32), σ)
    else 
      (if a2 = 0 then fX8_tellHalved_29 a2 (gl σ 4 5) σ
      else fX8_tellHalved_29 a2 (-(gl σ 4 6)) σ))
noncomputable def fX8_tellHalved (a1 : Int32) (a2 : Int32) (σ : zSt) : Option (Int32 × zSt) := fX8_tellHalved_0 a1 a2 σ
set_option maxRecDepth 100000 in
set_option maxHeartbeats 4000000 in
theorem wX8_tellHalved_29 {T : zX} (hC : zOk T cX8_tellHalved RX8 0 0 0 61) (hN : zNL T = 3) {r : Int32} {σ' : zSt} (hQ : zRes T (some .int) (some (.int r)) σ') (v2 : Int32) (t0 : Int64)  (σ : zSt) (h : fX8_tellHalved_29 v2 t0 σ = some (r, σ')) : Z T σ 29 [(0, .ref (zAd T (0))), (2, .int v2)] [.long t0, .ref (zAd T (0))] := by
  unfold fX8_tellHalved_29 at h
  refine pX8_4 hC kf_X8_139 dX8_tellHalved_29 ?_
  refine z_aload_n hC 0 rfl rfl dX8_tellHalved_32 ?_
  refine z_iload_n hC 1 rfl rfl dX8_tellHalved_33 ?_
  refine z_if_eq hC 48 (by decide) dX8_tellHalved_34 (fun q34_1 => ?_) (fun q34_1 => ?_)
  · replace h := z_t q34_1 h
    refine z_aload_n hC 0 rfl rfl dX8_tellHalved_48 ?_
    refine gX8_2 hC kf_X8_26 dX8_tellHalved_49 ?_
    refine gX2_6 hC kf_X8_159 (gl σ 4 6) rfl dX8_tellHalved_52 ?_
    refine pX8_5 hC kf_X8_142 dX8_tellHalved_55 ?_
    refine z_aload_n hC 0 rfl rfl dX8_tellHalved_58 ?_
    refine z_aload_n hC 0 rfl rfl dX8_tellHalved_59 ?_
    refine gX8_2 hC kf_X8_26 dX8_tellHalved_60 ?_
    refine gX2_4 hC kf_X8_165 (gi σ 4 4) rfl dX8_tellHalved_63 ?_
    refine pX8_6 hC kf_X8_145 dX8_tellHalved_66 ?_
    refine z_iconst hC (0 : Int32) (by decide) dX8_tellHalved_69 ?_
    obtain ⟨rfl, rfl⟩ := z_pr h
    exact z_iret hC hQ dX8_tellHalved_70
  · replace h := z_f q34_1 h
    refine z_aload_n hC 0 rfl rfl dX8_tellHalved_37 ?_
    refine gX8_2 hC kf_X8_26 dX8_tellHalved_38 ?_
    refine gX2_5 hC kf_X8_162 (gl σ 4 5) rfl dX8_tellHalved_41 ?_
    refine z_lneg hC dX8_tellHalved_44 ?_
    refine z_goto hC 55 (by decide) dX8_tellHalved_45 ?_
    refine pX8_5 hC kf_X8_142 dX8_tellHalved_55 ?_
    refine z_aload_n hC 0 rfl rfl dX8_tellHalved_58 ?_
    refine z_aload_n hC 0 rfl rfl dX8_tellHalved_59 ?_
    refine gX8_2 hC kf_X8_26 dX8_tellHalved_60 ?_
    refine gX2_4 hC kf_X8_165 (gi σ 4 4) rfl dX8_tellHalved_63 ?_
    refine pX8_6 hC kf_X8_145 dX8_tellHalved_66 ?_
    refine z_iconst hC (0 : Int32) (by decide) dX8_tellHalved_69 ?_
    obtain ⟨rfl, rfl⟩ := z_pr h
    exact z_iret hC hQ dX8_tellHalved_70
set_option maxRecDepth 100000 in
set_option maxHeartbeats 4000000 in
theorem wX8_tellHalved_0 {T : zX} (hC : zOk T cX8_tellHalved RX8 0 0 0 61) (hN : zNL T = 3) {r : Int32} {σ' : zSt} (hQ : zRes T (some .int) (some (.int r)) σ') (a1 : Int32) (a2 : Int32)  (σ : zSt) (h : fX8_tellHalved_0 a1 a2 σ = some (r, σ')) : Z T σ 0 [(0, .ref (zAd T (0))), (1, .int a1), (2, .int a2)] [] := by
  unfold fX8_tellHalved_0 at h
  refine z_iload_n hC 1 rfl rfl dX8_tellHalved_0 ?_
  refine z_if_ne hC 6 (by decide) dX8_tellHalved_1 (fun q1_1 => ?_) (fun q1_1 => ?_)
  · replace h := z_f q1_1 h
    refine z_aload_n hC 0 rfl rfl dX8_tellHalved_6 ?_
    refine z_iload_n hC 2 rfl rfl dX8_tellHalved_7 ?_
    refine z_if_eq hC 22 (by decide) dX8_tellHalved_8 (fun q8_2 => ?_) (fun q8_2 => ?_)
    · replace h := z_t q8_2 h
      refine z_aload_n hC 0 rfl rfl dX8_tellHalved_22 ?_
      refine gX8_2 hC kf_X8_26 dX8_tellHalved_23 ?_
      refine gX2_5 hC kf_X8_162 (gl σ 4 5) rfl dX8_tellHalved_26 ?_
      refine z_sub [(0, .ref (zAd T (0))), (2, .int a2)] [0, 2] rfl ?_
      exact (wX8_tellHalved_29 hC hN hQ ) _ _ _ h
    · replace h := z_f q8_2 h
      refine z_aload_n hC 0 rfl rfl dX8_tellHalved_11 ?_
      refine gX8_2 hC kf_X8_26 dX8_tellHalved_12 ?_
      refine gX2_6 hC kf_X8_159 (gl σ 4 6) rfl dX8_tellHalved_15 ?_
      refine z_lneg hC dX8_tellHalved_18 ?_
      refine z_goto hC 29 (by decide) dX8_tellHalved_19 ?_
      refine z_sub [(0, .ref (zAd T (0))), (2, .int a2)] [0, 2] rfl ?_
      exact (wX8_tellHalved_29 hC hN hQ ) _ _ _ h
  · replace h := z_t q1_1 h
    refine z_iconst hC (1 : Int32) (by decide) dX8_tellHalved_4 ?_
    obtain ⟨rfl, rfl⟩ := z_pr h
    exact z_iret hC hQ dX8_tellHalved_5
set_option maxRecDepth 100000 in
theorem ctX8_tellHalved {l : Launch} {G : zGt} {mk : zSt → zSt} (hm : zM mk 0 61) {a1 : Int32} {a2 : Int32} {σ : zSt} {r : Int32} {σ' : zSt} (h : fX8_tellHalved a1 a2 σ = some (r, σ')) : zMet l G mk yX8_tellHalved cX8_tellHalved 3 (some .int) 0 0 [.ref (gA G (0)), .int a1, .int a2] σ (some (.int r)) σ' := by
  unfold fX8_tellHalved at h

  refine zMet.of (plainFor_of_name (by decide +kernel)) hm (Nat.le_of_ble_eq_true rfl) (fun T eL eG eM hN hC hQ => ?_)
  subst eL; subst eG; subst eM
  refine z_sub [(0, .ref (zAd T (0))), (1, .int a1), (2, .int a2)] [0, 1, 2] rfl ?_
  exact wX8_tellHalved_0 hC hN hQ _ _  _ h
noncomputable def fX8_area_0 (a1 : Int32) (a2 : Int32) (a3 : Int32) (a4 : Int32) (a5 : Int64) (σ : zSt) : Option (Int32 × zSt) := nm ((Int32.toInt64 a3) - (Int32.toInt64 a2)) fun x5_1 => 
    (if (fX1_has a1 σ) = 0 then some ((-1 : Int32), σ)
    else 
      (if x5_1 < (1 : Int64) then some ((-1 : Int32), σ)
      else 
        (if (1073741824 : Int64) < x5_1 then some ((-1 : Int32), σ)
        else 
          (if (fX8_isHalvings a4) = 0 then some ((-1 : Int32), σ)
          else 
            (if (0 : Int64) ≤ a5 then bd2 (fX2_sumUp a1 a2 a3 a4 a5 σ) fun r67_7 s67_8 => bd2 (fX8_tellHalved r67_7 (0 : Int32) s67_8) fun r71_9 s71_10 => some (r71_9, s71_10)
            else some ((-1 : Int32), σ))))))
noncomputable def fX8_area (a1 : Int32) (a2 : Int32) (a3 : Int32) (a4 : Int32) (a5 : Int64) (σ : zSt) : Option (Int32 × zSt) := fX8_area_0 a1 a2 a3 a4 a5 σ
set_option maxRecDepth 100000 in
set_option maxHeartbeats 4000000 in
theorem wX8_area_0 {T : zX} (hC : zOk T cX8_area RX8 7 222 0 61) (hN : zNL T = 9) {r : Int32} {σ' : zSt} (hQ : zRes T (some .int) (some (.int r)) σ') (a1 : Int32) (a2 : Int32) (a3 : Int32) (a4 : Int32) (a5 : Int64)  (σ : zSt) (h : fX8_area_0 a1 a2 a3 a4 a5 σ = some (r, σ')) : Z T σ 0 [(0, .ref (zAd T (0))), (1, .int a1), (2, .int a2), (3, .int a3), (4, .int a4), (5, .long a5)] [] := by
  unfold fX8_area_0 at h
  refine z_iload_n hC 3 rfl rfl dX8_area_0 ?_
  refine z_i2l hC dX8_area_1 ?_
  refine z_iload_n hC 2 rfl rfl dX8_area_2 ?_
  refine z_i2l hC dX8_area_3 ?_
  refine z_lsub hC dX8_area_4 ?_
  refine z_nmL h (fun x5_1 h => ?_)
  refine z_lstore hC [(7, .long x5_1), (0, .ref (zAd T (0))), (1, .int a1), (2, .int a2), (3, .int a3), (4, .int a4), (5, .long a5)] (by rw [hN]; decide) rfl dX8_area_5 ?_
  refine z_aload_n hC 1 rfl rfl dX8_area_7 ?_
  refine gX8_1 hC kf_X8_19 dX8_area_8 ?_
  refine z_iload_n hC 2 rfl rfl dX8_area_11 ?_
  refine z_cV1r hC (ctX1_has hC.hm) (rcX1 hC) kb_X1_has km_X8_66 ⟨by decide, by decide⟩ (Nat.le_of_ble_eq_true rfl) dX8_area_12 ?_
  refine z_if_eq hC 49 (by decide) dX8_area_15 (fun q15_2 => ?_) (fun q15_2 => ?_)
  · replace h := z_t q15_2 h
    refine z_iconst hC (-1 : Int32) (by decide) dX8_area_49 ?_
    obtain ⟨rfl, rfl⟩ := z_pr h
    exact z_iret hC hQ dX8_area_50
  · replace h := z_f q15_2 h
    refine z_lload hC 0 rfl dX8_area_18 ?_
    refine z_lconst hC (1 : Int64) (by decide) dX8_area_20 ?_
    refine z_cmp_lt hC 49 (by decide) dX8_area_21 dX8_area_22 (fun q21_3 => ?_) (fun q21_3 => ?_)
    · replace h := z_t q21_3 h
      refine z_iconst hC (-1 : Int32) (by decide) dX8_area_49 ?_
      obtain ⟨rfl, rfl⟩ := z_pr h
      exact z_iret hC hQ dX8_area_50
    · replace h := z_f q21_3 h
      refine z_lload hC 0 rfl dX8_area_25 ?_
      refine z_ldc2 hC kc_X8_98 dX8_area_27 ?_
      refine z_cmp_gt hC 49 (by decide) dX8_area_30 dX8_area_31 (fun q30_4 => ?_) (fun q30_4 => ?_)
      · replace h := z_t q30_4 h
        refine z_iconst hC (-1 : Int32) (by decide) dX8_area_49 ?_
        obtain ⟨rfl, rfl⟩ := z_pr h
        exact z_iret hC hQ dX8_area_50
      · replace h := z_f q30_4 h
        refine z_iload hC 5 rfl dX8_area_34 ?_
        refine z_cS1r hC (ctX8_isHalvings hC.hm) kb_X8_isHalvings km_X8_100 ⟨by decide, by decide⟩ (Nat.le_of_ble_eq_true rfl) dX8_area_36 ?_
        refine z_if_eq hC 49 (by decide) dX8_area_39 (fun q39_5 => ?_) (fun q39_5 => ?_)
        · replace h := z_t q39_5 h
          refine z_iconst hC (-1 : Int32) (by decide) dX8_area_49 ?_
          obtain ⟨rfl, rfl⟩ := z_pr h
          exact z_iret hC hQ dX8_area_50
        · replace h := z_f q39_5 h
          refine z_lload hC 6 rfl dX8_area_42 ?_
          refine z_lconst hC (0 : Int64) (by decide) dX8_area_44 ?_
          refine z_cmp_ge hC 51 (by decide) dX8_area_45 dX8_area_46 (fun q45_6 => ?_) (fun q45_6 => ?_)
          · replace h := z_t q45_6 h
            refine z_aload_n hC 1 rfl rfl dX8_area_51 ?_
            refine z_aload_n hC 1 rfl rfl dX8_area_52 ?_
            refine gX8_2 hC kf_X8_26 dX8_area_53 ?_
            refine z_aload_n hC 1 rfl rfl dX8_area_56 ?_
            refine gX8_1 hC kf_X8_19 dX8_area_57 ?_
            refine z_iload_n hC 2 rfl rfl dX8_area_60 ?_
            refine z_iload_n hC 3 rfl rfl dX8_area_61 ?_
            refine z_iload_n hC 4 rfl rfl dX8_area_62 ?_
            refine z_iload hC 5 rfl dX8_area_63 ?_
            refine z_lload hC 6 rfl dX8_area_65 ?_
            refine z_b2 h (fun r67_7 s67_8 e_r67_7 h => ?_)
            refine z_cV6r hC (ctX2_sumUp hC.hm e_r67_7) (rcX2 hC) kb_X2_sumUp km_X8_103 ⟨by decide, by decide⟩ (Nat.le_of_ble_eq_true rfl) dX8_area_67 ?_
            refine z_iconst hC (0 : Int32) (by decide) dX8_area_70 ?_
            refine z_b2 h (fun r71_9 s71_10 e_r71_9 h => ?_)
            refine z_cV2r hC (ctX8_tellHalved hC.hm e_r71_9) (rcX8 hC) kb_X8_tellHalved km_X8_107 ⟨by decide, by decide⟩ (Nat.le_of_ble_eq_true rfl) dX8_area_71 ?_
            obtain ⟨rfl, rfl⟩ := z_pr h
            exact z_iret hC hQ dX8_area_74
          · replace h := z_f q45_6 h
            refine z_iconst hC (-1 : Int32) (by decide) dX8_area_49 ?_
            obtain ⟨rfl, rfl⟩ := z_pr h
            exact z_iret hC hQ dX8_area_50
set_option maxRecDepth 100000 in
theorem ctX8_area {l : Launch} {G : zGt} {mk : zSt → zSt} (hm : zM mk 0 61) {a1 : Int32} {a2 : Int32} {a3 : Int32} {a4 : Int32} {a5 : Int64} {σ : zSt} {r : Int32} {σ' : zSt} (h : fX8_area a1 a2 a3 a4 a5 σ = some (r, σ')) : zMet l G mk yX8_area cX8_area 9 (some .int) 7 222 [.ref (gA G (0)), .int a1, .int a2, .int a3, .int a4, .long a5] σ (some (.int r)) σ' := by
  unfold fX8_area at h

  refine zMet.of (plainFor_of_name (by decide +kernel)) hm (Nat.le_of_ble_eq_true rfl) (fun T eL eG eM hN hC hQ => ?_)
  subst eL; subst eG; subst eM
  refine z_sub [(0, .ref (zAd T (0))), (1, .int a1), (2, .int a2), (3, .int a3), (4, .int a4), (5, .long a5)] [0, 1, 2, 3, 4, 5] rfl ?_
  exact wX8_area_0 hC hN hQ _ _ _ _ _  _ h
noncomputable def fX8_roots_0 (a1 : Int32) (a2 : Int32) (a3 : Int32) (a4 : Int32) (σ : zSt) : Option (Int32 × zSt) := 
    (if (fX1_has a1 σ) = 0 then some ((-1 : Int32), σ)
    else 
      (if a3 ≤ a2 then some ((-1 : Int32), σ)
      else 
        (if (1 : Int32) ≤ a4 then bd1 (fX7_seekRoots a1 a2 a3 a4 σ) fun s37_4 => some ((gi s37_4 5 5), s37_4)
        else some ((-1 : Int32), σ))))
noncomputable def fX8_roots (a1 : Int32) (a2 : Int32) (a3 : Int32) (a4 : Int32) (σ : zSt) : Option (Int32 × zSt) := fX8_roots_0 a1 a2 a3 a4 σ
set_option maxRecDepth 100000 in
set_option maxHeartbeats 4000000 in
theorem wX8_roots_0 {T : zX} (hC : zOk T cX8_roots RX8 7 208 0 61) (hN : zNL T = 5) {r : Int32} {σ' : zSt} (hQ : zRes T (some .int) (some (.int r)) σ') (a1 : Int32) (a2 : Int32) (a3 : Int32) (a4 : Int32)  (σ : zSt) (h : fX8_roots_0 a1 a2 a3 a4 σ = some (r, σ')) : Z T σ 0 [(0, .ref (zAd T (0))), (1, .int a1), (2, .int a2), (3, .int a3), (4, .int a4)] [] := by
  unfold fX8_roots_0 at h
  refine z_aload_n hC 0 rfl rfl dX8_roots_0 ?_
  refine gX8_1 hC kf_X8_19 dX8_roots_1 ?_
  refine z_iload_n hC 1 rfl rfl dX8_roots_4 ?_
  refine z_cV1r hC (ctX1_has hC.hm) (rcX1 hC) kb_X1_has km_X8_66 ⟨by decide, by decide⟩ (Nat.le_of_ble_eq_true rfl) dX8_roots_5 ?_
  refine z_if_eq hC 22 (by decide) dX8_roots_8 (fun q8_1 => ?_) (fun q8_1 => ?_)
  · replace h := z_t q8_1 h
    refine z_iconst hC (-1 : Int32) (by decide) dX8_roots_22 ?_
    obtain ⟨rfl, rfl⟩ := z_pr h
    exact z_iret hC hQ dX8_roots_23
  · replace h := z_f q8_1 h
    refine z_iload_n hC 2 rfl rfl dX8_roots_11 ?_
    refine z_iload_n hC 3 rfl rfl dX8_roots_12 ?_
    refine z_icmp_ge hC 22 (by decide) dX8_roots_13 (fun q13_2 => ?_) (fun q13_2 => ?_)
    · replace h := z_t q13_2 h
      refine z_iconst hC (-1 : Int32) (by decide) dX8_roots_22 ?_
      obtain ⟨rfl, rfl⟩ := z_pr h
      exact z_iret hC hQ dX8_roots_23
    · replace h := z_f q13_2 h
      refine z_iload hC 4 rfl dX8_roots_16 ?_
      refine z_iconst hC (1 : Int32) (by decide) dX8_roots_18 ?_
      refine z_icmp_ge hC 24 (by decide) dX8_roots_19 (fun q19_3 => ?_) (fun q19_3 => ?_)
      · replace h := z_t q19_3 h
        refine z_aload_n hC 0 rfl rfl dX8_roots_24 ?_
        refine gX8_3 hC kf_X8_33 dX8_roots_25 ?_
        refine z_aload_n hC 0 rfl rfl dX8_roots_28 ?_
        refine gX8_1 hC kf_X8_19 dX8_roots_29 ?_
        refine z_iload_n hC 1 rfl rfl dX8_roots_32 ?_
        refine z_iload_n hC 2 rfl rfl dX8_roots_33 ?_
        refine z_iload_n hC 3 rfl rfl dX8_roots_34 ?_
        refine z_iload hC 4 rfl dX8_roots_35 ?_
        refine z_b1 h (fun s37_4 e_s37_4 h => ?_)
        refine z_cV5v hC (ctX7_seekRoots hC.hm e_s37_4) (rcX7 hC) kb_X7_seekRoots km_X8_111 ⟨by decide, by decide⟩ (Nat.le_of_ble_eq_true rfl) dX8_roots_37 ?_
        refine z_aload_n hC 0 rfl rfl dX8_roots_40 ?_
        refine gX8_3 hC kf_X8_33 dX8_roots_41 ?_
        refine gX7_5 hC kf_X8_115 (gi s37_4 5 5) rfl dX8_roots_44 ?_
        obtain ⟨rfl, rfl⟩ := z_pr h
        exact z_iret hC hQ dX8_roots_47
      · replace h := z_f q19_3 h
        refine z_iconst hC (-1 : Int32) (by decide) dX8_roots_22 ?_
        obtain ⟨rfl, rfl⟩ := z_pr h
        exact z_iret hC hQ dX8_roots_23
set_option maxRecDepth 100000 in
theorem ctX8_roots {l : Launch} {G : zGt} {mk : zSt → zSt} (hm : zM mk 0 61) {a1 : Int32} {a2 : Int32} {a3 : Int32} {a4 : Int32} {σ : zSt} {r : Int32} {σ' : zSt} (h : fX8_roots a1 a2 a3 a4 σ = some (r, σ')) : zMet l G mk yX8_roots cX8_roots 5 (some .int) 7 208 [.ref (gA G (0)), .int a1, .int a2, .int a3, .int a4] σ (some (.int r)) σ' := by
  unfold fX8_roots at h

  refine zMet.of (plainFor_of_name (by decide +kernel)) hm (Nat.le_of_ble_eq_true rfl) (fun T eL eG eM hN hC hQ => ?_)
  subst eL; subst eG; subst eM
  refine z_sub [(0, .ref (zAd T (0))), (1, .int a1), (2, .int a2), (3, .int a3), (4, .int a4)] [0, 1, 2, 3, 4] rfl ?_
  exact wX8_roots_0 hC hN hQ _ _ _ _  _ h
noncomputable def fX8_part_0 (a1 : Int32) (a2 : Int32) (σ : zSt) : Option Int32 := bd1 (fX7_tellPart a1 a2 σ) fun r6_1 => some r6_1
noncomputable def fX8_part (a1 : Int32) (a2 : Int32) (σ : zSt) : Option Int32 := fX8_part_0 a1 a2 σ
set_option maxRecDepth 100000 in
set_option maxHeartbeats 4000000 in
theorem wX8_part_0 {T : zX} {σ : zSt} (hC : zOk T cX8_part RX8 1 22 0 61) (hN : zNL T = 3) {r : Int32} (hQ : zRes T (some .int) (some (.int r)) σ) (a1 : Int32) (a2 : Int32)  (h : fX8_part_0 a1 a2 σ = some r) : Z T σ 0 [(0, .ref (zAd T (0))), (1, .int a1), (2, .int a2)] [] := by
  unfold fX8_part_0 at h
  refine z_aload_n hC 0 rfl rfl dX8_part_0 ?_
  refine gX8_3 hC kf_X8_33 dX8_part_1 ?_
  refine z_iload_n hC 1 rfl rfl dX8_part_4 ?_
  refine z_iload_n hC 2 rfl rfl dX8_part_5 ?_
  refine z_b1 h (fun r6_1 e_r6_1 h => ?_)
  refine z_cV2r hC (ctX7_tellPart hC.hm e_r6_1) (rcX7 hC) kb_X7_tellPart km_X8_118 ⟨by decide, by decide⟩ (Nat.le_of_ble_eq_true rfl) dX8_part_6 ?_
  obtain rfl := z_so h
  exact z_iret hC hQ dX8_part_9
set_option maxRecDepth 100000 in
theorem ctX8_part {l : Launch} {G : zGt} {mk : zSt → zSt} (hm : zM mk 0 61) {a1 : Int32} {a2 : Int32} {σ : zSt} {r : Int32} (h : fX8_part a1 a2 σ = some r) : zMet l G mk yX8_part cX8_part 3 (some .int) 1 22 [.ref (gA G (0)), .int a1, .int a2] σ (some (.int r)) σ := by
  unfold fX8_part at h

  refine zMet.of (plainFor_of_name (by decide +kernel)) hm (Nat.le_of_ble_eq_true rfl) (fun T eL eG eM hN hC hQ => ?_)
  subst eL; subst eG; subst eM
  refine z_sub [(0, .ref (zAd T (0))), (1, .int a1), (2, .int a2)] [0, 1, 2] rfl ?_
  exact wX8_part_0 hC hN hQ _ _  h
noncomputable def fX8_least_0 (a1 : Int32) (a2 : Int32) (a3 : Int32) (a4 : Int32) (σ : zSt) : Option (Int32 × zSt) := 
    (if (fX1_has a1 σ) = 0 then some ((-1 : Int32), σ)
    else 
      (if a3 < a2 then some ((-1 : Int32), σ)
      else 
        (if (fX8_isHalvings a4) = 0 then some ((-1 : Int32), σ)
        else bd2 (fX2_seekLeast a1 a2 a3 a4 (0 : Int32) σ) fun r41_4 s41_5 => bd2 (fX8_tellHalved r41_4 (0 : Int32) s41_5) fun r45_6 s45_7 => some (r45_6, s45_7))))
noncomputable def fX8_least (a1 : Int32) (a2 : Int32) (a3 : Int32) (a4 : Int32) (σ : zSt) : Option (Int32 × zSt) := fX8_least_0 a1 a2 a3 a4 σ
set_option maxRecDepth 100000 in
set_option maxHeartbeats 4000000 in
theorem wX8_least_0 {T : zX} (hC : zOk T cX8_least RX8 7 209 0 61) (hN : zNL T = 5) {r : Int32} {σ' : zSt} (hQ : zRes T (some .int) (some (.int r)) σ') (a1 : Int32) (a2 : Int32) (a3 : Int32) (a4 : Int32)  (σ : zSt) (h : fX8_least_0 a1 a2 a3 a4 σ = some (r, σ')) : Z T σ 0 [(0, .ref (zAd T (0))), (1, .int a1), (2, .int a2), (3, .int a3), (4, .int a4)] [] := by
  unfold fX8_least_0 at h
  refine z_aload_n hC 0 rfl rfl dX8_least_0 ?_
  refine gX8_1 hC kf_X8_19 dX8_least_1 ?_
  refine z_iload_n hC 1 rfl rfl dX8_least_4 ?_
  refine z_cV1r hC (ctX1_has hC.hm) (rcX1 hC) kb_X1_has km_X8_66 ⟨by decide, by decide⟩ (Nat.le_of_ble_eq_true rfl) dX8_least_5 ?_
  refine z_if_eq hC 24 (by decide) dX8_least_8 (fun q8_1 => ?_) (fun q8_1 => ?_)
  · replace h := z_t q8_1 h
    refine z_iconst hC (-1 : Int32) (by decide) dX8_least_24 ?_
    obtain ⟨rfl, rfl⟩ := z_pr h
    exact z_iret hC hQ dX8_least_25
  · replace h := z_f q8_1 h
    refine z_iload_n hC 2 rfl rfl dX8_least_11 ?_
    refine z_iload_n hC 3 rfl rfl dX8_least_12 ?_
    refine z_icmp_gt hC 24 (by decide) dX8_least_13 (fun q13_2 => ?_) (fun q13_2 => ?_)
    · replace h := z_t q13_2 h
      refine z_iconst hC (-1 : Int32) (by decide) dX8_least_24 ?_
      obtain ⟨rfl, rfl⟩ := z_pr h
      exact z_iret hC hQ dX8_least_25
    · replace h := z_f q13_2 h
      refine z_iload hC 4 rfl dX8_least_16 ?_
      refine z_cS1r hC (ctX8_isHalvings hC.hm) kb_X8_isHalvings km_X8_100 ⟨by decide, by decide⟩ (Nat.le_of_ble_eq_true rfl) dX8_least_18 ?_
      refine z_if_ne hC 26 (by decide) dX8_least_21 (fun q21_3 => ?_) (fun q21_3 => ?_)
      · replace h := z_f q21_3 h
        refine z_aload_n hC 0 rfl rfl dX8_least_26 ?_
        refine z_aload_n hC 0 rfl rfl dX8_least_27 ?_
        refine gX8_2 hC kf_X8_26 dX8_least_28 ?_
        refine z_aload_n hC 0 rfl rfl dX8_least_31 ?_
        refine gX8_1 hC kf_X8_19 dX8_least_32 ?_
        refine z_iload_n hC 1 rfl rfl dX8_least_35 ?_
        refine z_iload_n hC 2 rfl rfl dX8_least_36 ?_
        refine z_iload_n hC 3 rfl rfl dX8_least_37 ?_
        refine z_iload hC 4 rfl dX8_least_38 ?_
        refine z_iconst hC (0 : Int32) (by decide) dX8_least_40 ?_
        refine z_b2 h (fun r41_4 s41_5 e_r41_4 h => ?_)
        refine z_cV6r hC (ctX2_seekLeast hC.hm e_r41_4) (rcX2 hC) kb_X2_seekLeast km_X8_122 ⟨by decide, by decide⟩ (Nat.le_of_ble_eq_true rfl) dX8_least_41 ?_
        refine z_iconst hC (0 : Int32) (by decide) dX8_least_44 ?_
        refine z_b2 h (fun r45_6 s45_7 e_r45_6 h => ?_)
        refine z_cV2r hC (ctX8_tellHalved hC.hm e_r45_6) (rcX8 hC) kb_X8_tellHalved km_X8_107 ⟨by decide, by decide⟩ (Nat.le_of_ble_eq_true rfl) dX8_least_45 ?_
        obtain ⟨rfl, rfl⟩ := z_pr h
        exact z_iret hC hQ dX8_least_48
      · replace h := z_t q21_3 h
        refine z_iconst hC (-1 : Int32) (by decide) dX8_least_24 ?_
        obtain ⟨rfl, rfl⟩ := z_pr h
        exact z_iret hC hQ dX8_least_25
set_option maxRecDepth 100000 in
theorem ctX8_least {l : Launch} {G : zGt} {mk : zSt → zSt} (hm : zM mk 0 61) {a1 : Int32} {a2 : Int32} {a3 : Int32} {a4 : Int32} {σ : zSt} {r : Int32} {σ' : zSt} (h : fX8_least a1 a2 a3 a4 σ = some (r, σ')) : zMet l G mk yX8_least cX8_least 5 (some .int) 7 209 [.ref (gA G (0)), .int a1, .int a2, .int a3, .int a4] σ (some (.int r)) σ' := by
  unfold fX8_least at h

  refine zMet.of (plainFor_of_name (by decide +kernel)) hm (Nat.le_of_ble_eq_true rfl) (fun T eL eG eM hN hC hQ => ?_)
  subst eL; subst eG; subst eM
  refine z_sub [(0, .ref (zAd T (0))), (1, .int a1), (2, .int a2), (3, .int a3), (4, .int a4)] [0, 1, 2, 3, 4] rfl ?_
  exact wX8_least_0 hC hN hQ _ _ _ _  _ h
noncomputable def fX8_greatest_0 (a1 : Int32) (a2 : Int32) (a3 : Int32) (a4 : Int32) (σ : zSt) : Option (Int32 × zSt) := 
    (if (fX1_has a1 σ) = 0 then some ((-1 : Int32), σ)
    else 
      (if a3 < a2 then some ((-1 : Int32), σ)
      else 
        (if (fX8_isHalvings a4) = 0 then some ((-1 : Int32), σ)
        else bd2 (fX2_seekLeast a1 a2 a3 a4 (1 : Int32) σ) fun r41_4 s41_5 => bd2 (fX8_tellHalved r41_4 (1 : Int32) s41_5) fun r45_6 s45_7 => some (r45_6, s45_7))))
noncomputable def fX8_greatest (a1 : Int32) (a2 : Int32) (a3 : Int32) (a4 : Int32) (σ : zSt) : Option (Int32 × zSt) := fX8_greatest_0 a1 a2 a3 a4 σ
set_option maxRecDepth 100000 in
set_option maxHeartbeats 4000000 in
theorem wX8_greatest_0 {T : zX} (hC : zOk T cX8_greatest RX8 7 209 0 61) (hN : zNL T = 5) {r : Int32} {σ' : zSt} (hQ : zRes T (some .int) (some (.int r)) σ') (a1 : Int32) (a2 : Int32) (a3 : Int32) (a4 : Int32)  (σ : zSt) (h : fX8_greatest_0 a1 a2 a3 a4 σ = some (r, σ')) : Z T σ 0 [(0, .ref (zAd T (0))), (1, .int a1), (2, .int a2), (3, .int a3), (4, .int a4)] [] := by
  unfold fX8_greatest_0 at h
  refine z_aload_n hC 0 rfl rfl dX8_greatest_0 ?_
  refine gX8_1 hC kf_X8_19 dX8_greatest_1 ?_
  refine z_iload_n hC 1 rfl rfl dX8_greatest_4 ?_
  refine z_cV1r hC (ctX1_has hC.hm) (rcX1 hC) kb_X1_has km_X8_66 ⟨by decide, by decide⟩ (Nat.le_of_ble_eq_true rfl) dX8_greatest_5 ?_
  refine z_if_eq hC 24 (by decide) dX8_greatest_8 (fun q8_1 => ?_) (fun q8_1 => ?_)
  · replace h := z_t q8_1 h
    refine z_iconst hC (-1 : Int32) (by decide) dX8_greatest_24 ?_
    obtain ⟨rfl, rfl⟩ := z_pr h
    exact z_iret hC hQ dX8_greatest_25
  · replace h := z_f q8_1 h
    refine z_iload_n hC 2 rfl rfl dX8_greatest_11 ?_
    refine z_iload_n hC 3 rfl rfl dX8_greatest_12 ?_
    refine z_icmp_gt hC 24 (by decide) dX8_greatest_13 (fun q13_2 => ?_) (fun q13_2 => ?_)
    · replace h := z_t q13_2 h
      refine z_iconst hC (-1 : Int32) (by decide) dX8_greatest_24 ?_
      obtain ⟨rfl, rfl⟩ := z_pr h
      exact z_iret hC hQ dX8_greatest_25
    · replace h := z_f q13_2 h
      refine z_iload hC 4 rfl dX8_greatest_16 ?_
      refine z_cS1r hC (ctX8_isHalvings hC.hm) kb_X8_isHalvings km_X8_100 ⟨by decide, by decide⟩ (Nat.le_of_ble_eq_true rfl) dX8_greatest_18 ?_
      refine z_if_ne hC 26 (by decide) dX8_greatest_21 (fun q21_3 => ?_) (fun q21_3 => ?_)
      · replace h := z_f q21_3 h
        refine z_aload_n hC 0 rfl rfl dX8_greatest_26 ?_
        refine z_aload_n hC 0 rfl rfl dX8_greatest_27 ?_
        refine gX8_2 hC kf_X8_26 dX8_greatest_28 ?_
        refine z_aload_n hC 0 rfl rfl dX8_greatest_31 ?_
        refine gX8_1 hC kf_X8_19 dX8_greatest_32 ?_
        refine z_iload_n hC 1 rfl rfl dX8_greatest_35 ?_
        refine z_iload_n hC 2 rfl rfl dX8_greatest_36 ?_
        refine z_iload_n hC 3 rfl rfl dX8_greatest_37 ?_
        refine z_iload hC 4 rfl dX8_greatest_38 ?_
        refine z_iconst hC (1 : Int32) (by decide) dX8_greatest_40 ?_
        refine z_b2 h (fun r41_4 s41_5 e_r41_4 h => ?_)
        refine z_cV6r hC (ctX2_seekLeast hC.hm e_r41_4) (rcX2 hC) kb_X2_seekLeast km_X8_122 ⟨by decide, by decide⟩ (Nat.le_of_ble_eq_true rfl) dX8_greatest_41 ?_
        refine z_iconst hC (1 : Int32) (by decide) dX8_greatest_44 ?_
        refine z_b2 h (fun r45_6 s45_7 e_r45_6 h => ?_)
        refine z_cV2r hC (ctX8_tellHalved hC.hm e_r45_6) (rcX8 hC) kb_X8_tellHalved km_X8_107 ⟨by decide, by decide⟩ (Nat.le_of_ble_eq_true rfl) dX8_greatest_45 ?_
        obtain ⟨rfl, rfl⟩ := z_pr h
        exact z_iret hC hQ dX8_greatest_48
      · replace h := z_t q21_3 h
        refine z_iconst hC (-1 : Int32) (by decide) dX8_greatest_24 ?_
        obtain ⟨rfl, rfl⟩ := z_pr h
        exact z_iret hC hQ dX8_greatest_25
set_option maxRecDepth 100000 in
theorem ctX8_greatest {l : Launch} {G : zGt} {mk : zSt → zSt} (hm : zM mk 0 61) {a1 : Int32} {a2 : Int32} {a3 : Int32} {a4 : Int32} {σ : zSt} {r : Int32} {σ' : zSt} (h : fX8_greatest a1 a2 a3 a4 σ = some (r, σ')) : zMet l G mk yX8_greatest cX8_greatest 5 (some .int) 7 209 [.ref (gA G (0)), .int a1, .int a2, .int a3, .int a4] σ (some (.int r)) σ' := by
  unfold fX8_greatest at h

  refine zMet.of (plainFor_of_name (by decide +kernel)) hm (Nat.le_of_ble_eq_true rfl) (fun T eL eG eM hN hC hQ => ?_)
  subst eL; subst eG; subst eM
  refine z_sub [(0, .ref (zAd T (0))), (1, .int a1), (2, .int a2), (3, .int a3), (4, .int a4)] [0, 1, 2, 3, 4] rfl ?_
  exact wX8_greatest_0 hC hN hQ _ _ _ _  _ h
noncomputable def fX8_never_0 (a1 : Int32) (a2 : Int32) (a3 : Int32) (a4 : Int32) (a5 : Int32) (σ : zSt) : Option (Int32 × zSt) := 
    (if (fX1_has a1 σ) = 0 then some ((-1 : Int32), σ)
    else 
      (if a3 < a2 then some ((-1 : Int32), σ)
      else 
        (if a5 < (1 : Int32) then some ((-1 : Int32), σ)
        else 
          (if a5 ≤ (400 : Int32) then bd2 (fX7_seekBreak a1 a2 a3 a4 a5 σ) fun r47_5 s47_6 => 
            (if r47_5 = 0 then some (r47_5, (sl (sl (si s47_6 0 7 (gi s47_6 5 6)) 0 4 (Int32.toInt64 (gi s47_6 5 7))) 0 5 (Int32.toInt64 (gi s47_6 5 7))))
            else some (r47_5, (si s47_6 0 7 (gi s47_6 5 6))))
          else some ((-1 : Int32), σ)))))
noncomputable def fX8_never (a1 : Int32) (a2 : Int32) (a3 : Int32) (a4 : Int32) (a5 : Int32) (σ : zSt) : Option (Int32 × zSt) := fX8_never_0 a1 a2 a3 a4 a5 σ
set_option maxRecDepth 100000 in
set_option maxHeartbeats 4000000 in
theorem wX8_never_0 {T : zX} (hC : zOk T cX8_never RX8 7 205 0 61) (hN : zNL T = 7) {r : Int32} {σ' : zSt} (hQ : zRes T (some .int) (some (.int r)) σ') (a1 : Int32) (a2 : Int32) (a3 : Int32) (a4 : Int32) (a5 : Int32)  (σ : zSt) (h : fX8_never_0 a1 a2 a3 a4 a5 σ = some (r, σ')) : Z T σ 0 [(0, .ref (zAd T (0))), (1, .int a1), (2, .int a2), (3, .int a3), (4, .int a4), (5, .int a5)] [] := by
  unfold fX8_never_0 at h
  refine z_aload_n hC 0 rfl rfl dX8_never_0 ?_
  refine gX8_1 hC kf_X8_19 dX8_never_1 ?_
  refine z_iload_n hC 1 rfl rfl dX8_never_4 ?_
  refine z_cV1r hC (ctX1_has hC.hm) (rcX1 hC) kb_X1_has km_X8_66 ⟨by decide, by decide⟩ (Nat.le_of_ble_eq_true rfl) dX8_never_5 ?_
  refine z_if_eq hC 30 (by decide) dX8_never_8 (fun q8_1 => ?_) (fun q8_1 => ?_)
  · replace h := z_t q8_1 h
    refine z_iconst hC (-1 : Int32) (by decide) dX8_never_30 ?_
    obtain ⟨rfl, rfl⟩ := z_pr h
    exact z_iret hC hQ dX8_never_31
  · replace h := z_f q8_1 h
    refine z_iload_n hC 2 rfl rfl dX8_never_11 ?_
    refine z_iload_n hC 3 rfl rfl dX8_never_12 ?_
    refine z_icmp_gt hC 30 (by decide) dX8_never_13 (fun q13_2 => ?_) (fun q13_2 => ?_)
    · replace h := z_t q13_2 h
      refine z_iconst hC (-1 : Int32) (by decide) dX8_never_30 ?_
      obtain ⟨rfl, rfl⟩ := z_pr h
      exact z_iret hC hQ dX8_never_31
    · replace h := z_f q13_2 h
      refine z_iload hC 5 rfl dX8_never_16 ?_
      refine z_iconst hC (1 : Int32) (by decide) dX8_never_18 ?_
      refine z_icmp_lt hC 30 (by decide) dX8_never_19 (fun q19_3 => ?_) (fun q19_3 => ?_)
      · replace h := z_t q19_3 h
        refine z_iconst hC (-1 : Int32) (by decide) dX8_never_30 ?_
        obtain ⟨rfl, rfl⟩ := z_pr h
        exact z_iret hC hQ dX8_never_31
      · replace h := z_f q19_3 h
        refine z_iload hC 5 rfl dX8_never_22 ?_
        refine z_sipush hC (400 : Int32) (by decide) dX8_never_24 ?_
        refine z_icmp_le hC 32 (by decide) dX8_never_27 (fun q27_4 => ?_) (fun q27_4 => ?_)
        · replace h := z_t q27_4 h
          refine z_aload_n hC 0 rfl rfl dX8_never_32 ?_
          refine gX8_3 hC kf_X8_33 dX8_never_33 ?_
          refine z_aload_n hC 0 rfl rfl dX8_never_36 ?_
          refine gX8_1 hC kf_X8_19 dX8_never_37 ?_
          refine z_iload_n hC 1 rfl rfl dX8_never_40 ?_
          refine z_iload_n hC 2 rfl rfl dX8_never_41 ?_
          refine z_iload_n hC 3 rfl rfl dX8_never_42 ?_
          refine z_iload hC 4 rfl dX8_never_43 ?_
          refine z_iload hC 5 rfl dX8_never_45 ?_
          refine z_b2 h (fun r47_5 s47_6 e_r47_5 h => ?_)
          refine z_cV6r hC (ctX7_seekBreak hC.hm e_r47_5) (rcX7 hC) kb_X7_seekBreak km_X8_126 ⟨by decide, by decide⟩ (Nat.le_of_ble_eq_true rfl) dX8_never_47 ?_
          refine z_istore hC [(6, .int r47_5), (0, .ref (zAd T (0))), (1, .int a1), (2, .int a2), (3, .int a3), (4, .int a4), (5, .int a5)] (by rw [hN]; decide) rfl dX8_never_50 ?_
          refine z_aload_n hC 1 rfl rfl dX8_never_52 ?_
          refine z_aload_n hC 1 rfl rfl dX8_never_53 ?_
          refine gX8_3 hC kf_X8_33 dX8_never_54 ?_
          refine gX7_6 hC kf_X8_130 (gi s47_6 5 6) rfl dX8_never_57 ?_
          refine pX8_7 hC kf_X8_133 dX8_never_60 ?_
          refine z_iload hC 0 rfl dX8_never_63 ?_
          refine z_if_ne hC 92 (by decide) dX8_never_65 (fun q65_7 => ?_) (fun q65_7 => ?_)
          · replace h := z_f q65_7 h
            refine z_iload hC 0 rfl dX8_never_92 ?_
            obtain ⟨rfl, rfl⟩ := z_pr h
            exact z_iret hC hQ dX8_never_94
          · replace h := z_t q65_7 h
            refine z_aload_n hC 1 rfl rfl dX8_never_68 ?_
            refine z_aload_n hC 1 rfl rfl dX8_never_69 ?_
            refine gX8_3 hC kf_X8_33 dX8_never_70 ?_
            refine gX7_7 hC kf_X8_136 (gi s47_6 5 7) rfl dX8_never_73 ?_
            refine z_i2l hC dX8_never_76 ?_
            refine pX8_4 hC kf_X8_139 dX8_never_77 ?_
            refine z_aload_n hC 1 rfl rfl dX8_never_80 ?_
            refine z_aload_n hC 1 rfl rfl dX8_never_81 ?_
            refine gX8_3 hC kf_X8_33 dX8_never_82 ?_
            refine gX7_7 hC kf_X8_136 (gi s47_6 5 7) rfl dX8_never_85 ?_
            refine z_i2l hC dX8_never_88 ?_
            refine pX8_5 hC kf_X8_142 dX8_never_89 ?_
            refine z_iload hC 0 rfl dX8_never_92 ?_
            obtain ⟨rfl, rfl⟩ := z_pr h
            exact z_iret hC hQ dX8_never_94
        · replace h := z_f q27_4 h
          refine z_iconst hC (-1 : Int32) (by decide) dX8_never_30 ?_
          obtain ⟨rfl, rfl⟩ := z_pr h
          exact z_iret hC hQ dX8_never_31
set_option maxRecDepth 100000 in
theorem ctX8_never {l : Launch} {G : zGt} {mk : zSt → zSt} (hm : zM mk 0 61) {a1 : Int32} {a2 : Int32} {a3 : Int32} {a4 : Int32} {a5 : Int32} {σ : zSt} {r : Int32} {σ' : zSt} (h : fX8_never a1 a2 a3 a4 a5 σ = some (r, σ')) : zMet l G mk yX8_never cX8_never 7 (some .int) 7 205 [.ref (gA G (0)), .int a1, .int a2, .int a3, .int a4, .int a5] σ (some (.int r)) σ' := by
  unfold fX8_never at h

  refine zMet.of (plainFor_of_name (by decide +kernel)) hm (Nat.le_of_ble_eq_true rfl) (fun T eL eG eM hN hC hQ => ?_)
  subst eL; subst eG; subst eM
  refine z_sub [(0, .ref (zAd T (0))), (1, .int a1), (2, .int a2), (3, .int a3), (4, .int a4), (5, .int a5)] [0, 1, 2, 3, 4, 5] rfl ?_
  exact wX8_never_0 hC hN hQ _ _ _ _ _  _ h
noncomputable def fX8_low_0  (σ : zSt) : Int64 := (gl σ 0 4)
noncomputable def fX8_low  (σ : zSt) : Int64 := fX8_low_0  σ
set_option maxRecDepth 100000 in
set_option maxHeartbeats 4000000 in
theorem wX8_low_0 {T : zX} {σ : zSt} (hC : zOk T cX8_low RX8 0 0 0 61) (hN : zNL T = 1) {r : Int64} (hQ : zRes T (some .long) (some (.long r)) σ)   (h : fX8_low_0  σ = r) : Z T σ 0 [(0, .ref (zAd T (0)))] [] := by
  unfold fX8_low_0 at h
  refine z_aload_n hC 0 rfl rfl dX8_low_0 ?_
  refine gX8_4 hC kf_X8_139 (gl σ 0 4) rfl dX8_low_1 ?_
  subst h
  exact z_lret hC hQ dX8_low_4
set_option maxRecDepth 100000 in
theorem ctX8_low {l : Launch} {G : zGt} {mk : zSt → zSt} (hm : zM mk 0 61)  {σ : zSt} : zMet l G mk yX8_low cX8_low 1 (some .long) 0 0 [.ref (gA G (0))] σ (some (.long (fX8_low  σ))) σ := by

  refine zMet.of (plainFor_of_name (by decide +kernel)) hm (Nat.le_of_ble_eq_true rfl) (fun T eL eG eM hN hC hQ => ?_)
  subst eL; subst eG; subst eM
  refine z_sub [(0, .ref (zAd T (0)))] [0] rfl ?_
  exact wX8_low_0 hC hN hQ   rfl
noncomputable def fX8_high_0  (σ : zSt) : Int64 := (gl σ 0 5)
noncomputable def fX8_high  (σ : zSt) : Int64 := fX8_high_0  σ
set_option maxRecDepth 100000 in
set_option maxHeartbeats 4000000 in
theorem wX8_high_0 {T : zX} {σ : zSt} (hC : zOk T cX8_high RX8 0 0 0 61) (hN : zNL T = 1) {r : Int64} (hQ : zRes T (some .long) (some (.long r)) σ)   (h : fX8_high_0  σ = r) : Z T σ 0 [(0, .ref (zAd T (0)))] [] := by
  unfold fX8_high_0 at h
  refine z_aload_n hC 0 rfl rfl dX8_high_0 ?_
  refine gX8_5 hC kf_X8_142 (gl σ 0 5) rfl dX8_high_1 ?_
  subst h
  exact z_lret hC hQ dX8_high_4
set_option maxRecDepth 100000 in
theorem ctX8_high {l : Launch} {G : zGt} {mk : zSt → zSt} (hm : zM mk 0 61)  {σ : zSt} : zMet l G mk yX8_high cX8_high 1 (some .long) 0 0 [.ref (gA G (0))] σ (some (.long (fX8_high  σ))) σ := by

  refine zMet.of (plainFor_of_name (by decide +kernel)) hm (Nat.le_of_ble_eq_true rfl) (fun T eL eG eM hN hC hQ => ?_)
  subst eL; subst eG; subst eM
  refine z_sub [(0, .ref (zAd T (0)))] [0] rfl ?_
  exact wX8_high_0 hC hN hQ   rfl
noncomputable def fX8_count_0 (a1 : Int32) (σ : zSt) : Int32 := 
    (
    if a1 = 0 then (gi σ 3 8) else 
    if a1 = 1 then (gi σ 2 1) else 
    if a1 = 2 then (gi σ 0 6) else 
    if a1 = 3 then (gi σ 0 7) else 
    if a1 = 4 then (gi σ 5 5) else (-1 : Int32))
noncomputable def fX8_count (a1 : Int32) (σ : zSt) : Int32 := fX8_count_0 a1 σ
set_option maxRecDepth 100000 in
set_option maxHeartbeats 4000000 in
theorem wX8_count_0 {T : zX} {σ : zSt} (hC : zOk T cX8_count RX8 0 0 0 61) (hN : zNL T = 2) {r : Int32} (hQ : zRes T (some .int) (some (.int r)) σ) (a1 : Int32)  (h : fX8_count_0 a1 σ = r) : Z T σ 0 [(0, .ref (zAd T (0))), (1, .int a1)] [] := by
  unfold fX8_count_0 at h
  refine z_iload_n hC 1 rfl rfl dX8_count_0 ?_
  refine z_ite h (fun q1_1 h => ?_) (fun q1_1 h => ?_)
  · refine z_tabIn hC (35) 36 (by rw [q1_1]; decide) (by rw [q1_1]; decide) (by rw [q1_1]; decide +kernel) (by decide) dX8_count_1 ?_
    refine z_aload_n hC 0 rfl rfl dX8_count_36 ?_
    refine gX8_1 hC kf_X8_19 dX8_count_37 ?_
    refine gX1_8 hC kf_X8_51 (gi σ 3 8) rfl dX8_count_40 ?_
    subst h
    exact z_iret hC hQ dX8_count_43
  ·
    refine z_ite h (fun q1_2 h => ?_) (fun q1_2 h => ?_)
    · refine z_tabIn hC (43) 44 (by rw [q1_2]; decide) (by rw [q1_2]; decide) (by rw [q1_2]; decide +kernel) (by decide) dX8_count_1 ?_
      refine z_aload_n hC 0 rfl rfl dX8_count_44 ?_
      refine gX8_0 hC kf_X8_10 dX8_count_45 ?_
      refine gX3_0 hC kf_X8_37 dX8_count_48 ?_
      refine gX6_1 hC kf_X8_41 (gi σ 2 1) rfl dX8_count_51 ?_
      subst h
      exact z_iret hC hQ dX8_count_54
    ·
      refine z_ite h (fun q1_3 h => ?_) (fun q1_3 h => ?_)
      · refine z_tabIn hC (54) 55 (by rw [q1_3]; decide) (by rw [q1_3]; decide) (by rw [q1_3]; decide +kernel) (by decide) dX8_count_1 ?_
        refine z_aload_n hC 0 rfl rfl dX8_count_55 ?_
        refine gX8_6 hC kf_X8_145 (gi σ 0 6) rfl dX8_count_56 ?_
        subst h
        exact z_iret hC hQ dX8_count_59
      ·
        refine z_ite h (fun q1_4 h => ?_) (fun q1_4 h => ?_)
        · refine z_tabIn hC (59) 60 (by rw [q1_4]; decide) (by rw [q1_4]; decide) (by rw [q1_4]; decide +kernel) (by decide) dX8_count_1 ?_
          refine z_aload_n hC 0 rfl rfl dX8_count_60 ?_
          refine gX8_7 hC kf_X8_133 (gi σ 0 7) rfl dX8_count_61 ?_
          subst h
          exact z_iret hC hQ dX8_count_64
        ·
          refine z_ite h (fun q1_5 h => ?_) (fun q1_5 h => ?_)
          · refine z_tabIn hC (64) 65 (by rw [q1_5]; decide) (by rw [q1_5]; decide) (by rw [q1_5]; decide +kernel) (by decide) dX8_count_1 ?_
            refine z_aload_n hC 0 rfl rfl dX8_count_65 ?_
            refine gX8_3 hC kf_X8_33 dX8_count_66 ?_
            refine gX7_5 hC kf_X8_115 (gi σ 5 5) rfl dX8_count_69 ?_
            subst h
            exact z_iret hC hQ dX8_count_72
          ·
            refine z_tabD hC 5 73 (by decide) (fun i hi => by
                have hi2 : i = 0 ∨ i = 1 ∨ i = 2 ∨ i = 3 ∨ i = 4 := by omega
                rcases hi2 with rfl | rfl | rfl | rfl | rfl
                · exact Or.inr (fun e => q1_1 (e.symm.trans (by decide)))
                · exact Or.inr (fun e => q1_2 (e.symm.trans (by decide)))
                · exact Or.inr (fun e => q1_3 (e.symm.trans (by decide)))
                · exact Or.inr (fun e => q1_4 (e.symm.trans (by decide)))
                · exact Or.inr (fun e => q1_5 (e.symm.trans (by decide)))) (by decide) dX8_count_1 ?_
            refine z_iconst hC (-1 : Int32) (by decide) dX8_count_73 ?_
            subst h
            exact z_iret hC hQ dX8_count_74
set_option maxRecDepth 100000 in
theorem ctX8_count {l : Launch} {G : zGt} {mk : zSt → zSt} (hm : zM mk 0 61) {a1 : Int32} {σ : zSt} : zMet l G mk yX8_count cX8_count 2 (some .int) 0 0 [.ref (gA G (0)), .int a1] σ (some (.int (fX8_count a1 σ))) σ := by

  refine zMet.of (plainFor_of_name (by decide +kernel)) hm (Nat.le_of_ble_eq_true rfl) (fun T eL eG eM hN hC hQ => ?_)
  subst eL; subst eG; subst eM
  refine z_sub [(0, .ref (zAd T (0))), (1, .int a1)] [0, 1] rfl ?_
  exact wX8_count_0 hC hN hQ _  rfl
