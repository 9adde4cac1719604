noncomputable def fX7_await_0 (a1 : Int32) (σ : zSt) : Option zSt := 
    (if (gi σ 5 4) < 0 then some σ
    else 
      (if (64 : Int32) ≤ (gi σ 5 4) then some σ
      else zg (vp_in (gi σ 5 4) 64) <| some (si (si σ 17 (gi σ 5 4).toNatClampNeg a1) 5 4 ((gi σ 5 4) + (1 : Int32)))))
noncomputable def fX7_await (a1 : Int32) (σ : zSt) : Option zSt := fX7_await_0 a1 σ
set_option maxRecDepth 100000 in
set_option maxHeartbeats 4000000 in
theorem wX7_await_0 {T : zX} (hC : zOk T cX7_await RX7 0 0 0 61) (hN : zNL T = 2) {σ' : zSt} (hQ : zRes T none (none) σ') (a1 : Int32)  (σ : zSt) (h : fX7_await_0 a1 σ = some σ') : Z T σ 0 [(0, .ref (zAd T (5))), (1, .int a1)] [] := by
  unfold fX7_await_0 at h
  refine z_aload_n hC 0 rfl rfl dX7_await_0 ?_
  refine gX7_4 hC kf_X7_26 (gi σ 5 4) rfl dX7_await_1 ?_
  refine z_if_lt hC 36 (by decide) dX7_await_4 (fun q4_1 => ?_) (fun q4_1 => ?_)
  · replace h := z_t q4_1 h
    obtain rfl := z_so h
    exact z_vret hC hQ dX7_await_36
  · replace h := z_f q4_1 h
    refine z_aload_n hC 0 rfl rfl dX7_await_7 ?_
    refine gX7_4 hC kf_X7_26 (gi σ 5 4) rfl dX7_await_8 ?_
    refine z_bipush hC (64 : Int32) (by decide) dX7_await_11 ?_
    refine z_icmp_ge hC 36 (by decide) dX7_await_13 (fun q13_2 => ?_) (fun q13_2 => ?_)
    · replace h := z_t q13_2 h
      obtain rfl := z_so h
      exact z_vret hC hQ dX7_await_36
    · replace h := z_f q13_2 h
      refine z_aload_n hC 0 rfl rfl dX7_await_16 ?_
      refine gX7_0 hC kf_X7_9 dX7_await_17 ?_
      refine z_aload_n hC 0 rfl rfl dX7_await_20 ?_
      refine gX7_4 hC kf_X7_26 (gi σ 5 4) rfl dX7_await_21 ?_
      refine z_iload_n hC 1 rfl rfl dX7_await_24 ?_
      refine z_g h (fun g25_3 h => ?_)
      refine z_iast hC 17 ⟨by decide, by decide⟩ (zS_17 _) g25_3 dX7_await_25 ?_
      refine z_aload_n hC 0 rfl rfl dX7_await_26 ?_
      refine z_dup hC rfl dX7_await_27 ?_
      refine gX7_4 hC kf_X7_26 (gi σ 5 4) rfl dX7_await_28 ?_
      refine z_iconst hC (1 : Int32) (by decide) dX7_await_31 ?_
      refine z_iadd hC dX7_await_32 ?_
      refine pX7_4 hC kf_X7_26 dX7_await_33 ?_
      obtain rfl := z_so h
      exact z_vret hC hQ dX7_await_36
set_option maxRecDepth 100000 in
theorem ctX7_await {l : Launch} {G : zGt} {mk : zSt → zSt} (hm : zM mk 0 61) {a1 : Int32} {σ : zSt} {σ' : zSt} (h : fX7_await a1 σ = some σ') : zMet l G mk yX7_await cX7_await 2 none 0 0 [.ref (gA G (5)), .int a1] σ (none) σ' := by
  unfold fX7_await at h

  refine zMet.of (plainFor_of_name (by decide +kernel)) hm (Nat.le_of_ble_eq_true rfl) (fun T eL eG eM hN hC hQ => ?_)
  subst eL; subst eG; subst eM
  refine z_sub [(0, .ref (zAd T (5))), (1, .int a1)] [0, 1] rfl ?_
  exact wX7_await_0 hC hN hQ _  _ h
noncomputable def fX7_firstEnd_0  (σ : zSt) : Option Int32 := 
    (if (gi σ 5 4) ≤ 0 then some (0 : Int32)
    else 
      (if (64 : Int32) < (gi σ 5 4) then some (0 : Int32)
      else zg (vp_in ((gi σ 5 4) - (1 : Int32)) 64) <| some (gi σ 17 ((gi σ 5 4) - (1 : Int32)).toNatClampNeg)))
noncomputable def fX7_firstEnd  (σ : zSt) : Option Int32 := fX7_firstEnd_0  σ
set_option maxRecDepth 100000 in
set_option maxHeartbeats 4000000 in
theorem wX7_firstEnd_0 {T : zX} {σ : zSt} (hC : zOk T cX7_firstEnd RX7 0 0 0 61) (hN : zNL T = 1) {r : Int32} (hQ : zRes T (some .int) (some (.int r)) σ)   (h : fX7_firstEnd_0  σ = some r) : Z T σ 0 [(0, .ref (zAd T (5)))] [] := by
  unfold fX7_firstEnd_0 at h
  refine z_aload_n hC 0 rfl rfl dX7_firstEnd_0 ?_
  refine gX7_4 hC kf_X7_26 (gi σ 5 4) rfl dX7_firstEnd_1 ?_
  refine z_if_le hC 30 (by decide) dX7_firstEnd_4 (fun q4_1 => ?_) (fun q4_1 => ?_)
  · replace h := z_t q4_1 h
    refine z_iconst hC (0 : Int32) (by decide) dX7_firstEnd_30 ?_
    obtain rfl := z_so h
    exact z_iret hC hQ dX7_firstEnd_31
  · replace h := z_f q4_1 h
    refine z_aload_n hC 0 rfl rfl dX7_firstEnd_7 ?_
    refine gX7_4 hC kf_X7_26 (gi σ 5 4) rfl dX7_firstEnd_8 ?_
    refine z_bipush hC (64 : Int32) (by decide) dX7_firstEnd_11 ?_
    refine z_icmp_gt hC 30 (by decide) dX7_firstEnd_13 (fun q13_2 => ?_) (fun q13_2 => ?_)
    · replace h := z_t q13_2 h
      refine z_iconst hC (0 : Int32) (by decide) dX7_firstEnd_30 ?_
      obtain rfl := z_so h
      exact z_iret hC hQ dX7_firstEnd_31
    · replace h := z_f q13_2 h
      refine z_aload_n hC 0 rfl rfl dX7_firstEnd_16 ?_
      refine gX7_0 hC kf_X7_9 dX7_firstEnd_17 ?_
      refine z_aload_n hC 0 rfl rfl dX7_firstEnd_20 ?_
      refine gX7_4 hC kf_X7_26 (gi σ 5 4) rfl dX7_firstEnd_21 ?_
      refine z_iconst hC (1 : Int32) (by decide) dX7_firstEnd_24 ?_
      refine z_isub hC dX7_firstEnd_25 ?_
      refine z_g h (fun g26_3 h => ?_)
      refine z_iald hC 17 ⟨by decide, by decide⟩ (zS_17 _ _ _) g26_3 (gi σ 17 ((gi σ 5 4) - (1 : Int32)).toNatClampNeg) rfl dX7_firstEnd_26 ?_
      refine z_goto hC 31 (by decide) dX7_firstEnd_27 ?_
      obtain rfl := z_so h
      exact z_iret hC hQ dX7_firstEnd_31
set_option maxRecDepth 100000 in
theorem ctX7_firstEnd {l : Launch} {G : zGt} {mk : zSt → zSt} (hm : zM mk 0 61)  {σ : zSt} {r : Int32} (h : fX7_firstEnd  σ = some r) : zMet l G mk yX7_firstEnd cX7_firstEnd 1 (some .int) 0 0 [.ref (gA G (5))] σ (some (.int r)) σ := by
  unfold fX7_firstEnd at h

  refine zMet.of (plainFor_of_name (by decide +kernel)) hm (Nat.le_of_ble_eq_true rfl) (fun T eL eG eM hN hC hQ => ?_)
  subst eL; subst eG; subst eM
  refine z_sub [(0, .ref (zAd T (5)))] [0] rfl ?_
  exact wX7_firstEnd_0 hC hN hQ   h
noncomputable def fX7_lookAt_83 (v8 : Int64) (t0 : Int32) (σ : zSt) : Option (Int32 × zSt) := 
    (if (fX5_lowOf v8) ≤ (0 : Int64) then 
      (if t0 = (0 : Int32) then some ((2 : Int32), σ)
      else some ((1 : Int32), σ))
    else 
      (if t0 = (1 : Int32) then some ((2 : Int32), σ)
      else some ((1 : Int32), σ)))
noncomputable def fX7_lookAt_0 (a1 : Int32) (a2 : Int32) (a3 : Int32) (σ : zSt) : Option (Int32 × zSt) := bd2 (fX1_measure a1 a2 a3 (1 : Int32) σ) fun r5_1 s5_2 => 
    (if (fX5_hasNoZero r5_1) = 0 then 
      (if (fX5_hasNoZero (gl s5_2 3 9)) = 0 then some ((2 : Int32), s5_2)
      else bd2 (fX1_measure a1 a2 a2 (0 : Int32) s5_2) fun r37_5 s37_6 => bd2 (fX1_measure a1 a3 a3 (0 : Int32) s37_6) fun r47_7 s47_8 => 
        (if (fX5_hasNoZero r37_5) = 0 then some ((2 : Int32), s47_8)
        else 
          (if (fX5_hasNoZero r47_7) = 0 then some ((2 : Int32), s47_8)
          else 
            (if (fX5_lowOf r37_5) ≤ (0 : Int64) then fX7_lookAt_83 r47_7 (0 : Int32) s47_8
            else fX7_lookAt_83 r47_7 (1 : Int32) s47_8))))
    else some ((0 : Int32), s5_2))
noncomputable def fX7_lookAt (a1 : Int32) (a2 : Int32) (a3 : Int32) (σ : zSt) : Option (Int32 × zSt) := fX7_lookAt_0 a1 a2 a3 σ
set_option maxRecDepth 100000 in
set_option maxHeartbeats 4000000 in
theorem wX7_lookAt_83 {T : zX} (hC : zOk T cX7_lookAt RX7 5 147 0 61) (hN : zNL T = 11) {r : Int32} {σ' : zSt} (hQ : zRes T (some .int) (some (.int r)) σ') (v8 : Int64) (t0 : Int32)  (σ : zSt) (h : fX7_lookAt_83 v8 t0 σ = some (r, σ')) : Z T σ 83 [(8, .long v8)] [.int t0] := by
  unfold fX7_lookAt_83 at h
  refine z_lload hC 0 rfl dX7_lookAt_83 ?_
  refine z_cS1r hC (ctX5_lowOf hC.hm) kb_X5_lowOf km_X7_69 ⟨by decide, by decide⟩ (Nat.le_of_ble_eq_true rfl) dX7_lookAt_85 ?_
  refine z_lconst hC (0 : Int64) (by decide) dX7_lookAt_88 ?_
  refine z_cmp_le hC 97 (by decide) dX7_lookAt_89 dX7_lookAt_90 (fun q89_1 => ?_) (fun q89_1 => ?_)
  · replace h := z_t q89_1 h
    refine z_iconst hC (0 : Int32) (by decide) dX7_lookAt_97 ?_
    refine z_icmp_eq hC 105 (by decide) dX7_lookAt_98 (fun q98_2 => ?_) (fun q98_2 => ?_)
    · replace h := z_t q98_2 h
      refine z_iconst hC (0 : Int32) (by decide) dX7_lookAt_105 ?_
      refine z_istore hC [(10, .int (0 : Int32)), (8, .long v8)] (by rw [hN]; decide) rfl dX7_lookAt_106 ?_
      refine z_iload hC 0 rfl dX7_lookAt_108 ?_
      refine z_if_eq hC 117 (by decide) dX7_lookAt_110 (fun q => ?_) (fun q => absurd q (by decide))
      refine z_iconst hC (2 : Int32) (by decide) dX7_lookAt_117 ?_
      obtain ⟨rfl, rfl⟩ := z_pr h
      exact z_iret hC hQ dX7_lookAt_118
    · replace h := z_f q98_2 h
      refine z_iconst hC (1 : Int32) (by decide) dX7_lookAt_101 ?_
      refine z_goto hC 106 (by decide) dX7_lookAt_102 ?_
      refine z_istore hC [(10, .int (1 : Int32)), (8, .long v8)] (by rw [hN]; decide) rfl dX7_lookAt_106 ?_
      refine z_iload hC 0 rfl dX7_lookAt_108 ?_
      refine z_if_eq hC 117 (by decide) dX7_lookAt_110 (fun q => absurd q (by decide)) (fun q => ?_)
      refine z_iconst hC (1 : Int32) (by decide) dX7_lookAt_113 ?_
      refine z_goto hC 118 (by decide) dX7_lookAt_114 ?_
      obtain ⟨rfl, rfl⟩ := z_pr h
      exact z_iret hC hQ dX7_lookAt_118
  · replace h := z_f q89_1 h
    refine z_iconst hC (1 : Int32) (by decide) dX7_lookAt_93 ?_
    refine z_goto hC 98 (by decide) dX7_lookAt_94 ?_
    refine z_icmp_eq hC 105 (by decide) dX7_lookAt_98 (fun q98_3 => ?_) (fun q98_3 => ?_)
    · replace h := z_t q98_3 h
      refine z_iconst hC (0 : Int32) (by decide) dX7_lookAt_105 ?_
      refine z_istore hC [(10, .int (0 : Int32)), (8, .long v8)] (by rw [hN]; decide) rfl dX7_lookAt_106 ?_
      refine z_iload hC 0 rfl dX7_lookAt_108 ?_
      refine z_if_eq hC 117 (by decide) dX7_lookAt_110 (fun q => ?_) (fun q => absurd q (by decide))
      refine z_iconst hC (2 : Int32) (by decide) dX7_lookAt_117 ?_
      obtain ⟨rfl, rfl⟩ := z_pr h
      exact z_iret hC hQ dX7_lookAt_118
    · replace h := z_f q98_3 h
      refine z_iconst hC (1 : Int32) (by decide) dX7_lookAt_101 ?_
      refine z_goto hC 106 (by decide) dX7_lookAt_102 ?_
      refine z_istore hC [(10, .int (1 : Int32)), (8, .long v8)] (by rw [hN]; decide) rfl dX7_lookAt_106 ?_
      refine z_iload hC 0 rfl dX7_lookAt_108 ?_
      refine z_if_eq hC 117 (by decide) dX7_lookAt_110 (fun q => absurd q (by decide)) (fun q => ?_)
      refine z_iconst hC (1 : Int32) (by decide) dX7_lookAt_113 ?_
      refine z_goto hC 118 (by decide) dX7_lookAt_114 ?_
      obtain ⟨rfl, rfl⟩ := z_pr h
      exact z_iret hC hQ dX7_lookAt_118
set_option maxRecDepth 100000 in
set_option maxHeartbeats 4000000 in
theorem wX7_lookAt_0 {T : zX} (hC : zOk T cX7_lookAt RX7 5 147 0 61) (hN : zNL T = 11) {r : Int32} {σ' : zSt} (hQ : zRes T (some .int) (some (.int r)) σ') (a1 : Int32) (a2 : Int32) (a3 : Int32)  (σ : zSt) (h : fX7_lookAt_0 a1 a2 a3 σ = some (r, σ')) : Z T σ 0 [(0, .ref (zAd T (3))), (1, .int a1), (2, .int a2), (3, .int a3)] [] := by
  unfold fX7_lookAt_0 at h
  refine z_aload_n hC 0 rfl rfl dX7_lookAt_0 ?_
  refine z_iload_n hC 1 rfl rfl dX7_lookAt_1 ?_
  refine z_iload_n hC 2 rfl rfl dX7_lookAt_2 ?_
  refine z_iload_n hC 3 rfl rfl dX7_lookAt_3 ?_
  refine z_iconst hC (1 : Int32) (by decide) dX7_lookAt_4 ?_
  refine z_b2 h (fun r5_1 s5_2 e_r5_1 h => ?_)
  refine z_cV4r hC (ctX1_measure hC.hm e_r5_1) (rcX1 hC) kb_X1_measure km_X7_53 ⟨by decide, by decide⟩ (Nat.le_of_ble_eq_true rfl) dX7_lookAt_5 ?_
  refine z_lstore hC [(4, .long r5_1), (0, .ref (zAd T (3))), (1, .int a1), (2, .int a2), (3, .int a3)] (by rw [hN]; decide) rfl dX7_lookAt_8 ?_
  refine z_lload hC 0 rfl dX7_lookAt_10 ?_
  refine z_cS1r hC (ctX5_hasNoZero hC.hm) kb_X5_hasNoZero km_X7_59 ⟨by decide, by decide⟩ (Nat.le_of_ble_eq_true rfl) dX7_lookAt_12 ?_
  refine z_if_eq hC 20 (by decide) dX7_lookAt_15 (fun q15_3 => ?_) (fun q15_3 => ?_)
  · replace h := z_t q15_3 h
    refine z_aload_n hC 1 rfl rfl dX7_lookAt_20 ?_
    refine gX1_9 hC kf_X7_65 (gl s5_2 3 9) rfl dX7_lookAt_21 ?_
    refine z_cS1r hC (ctX5_hasNoZero hC.hm) kb_X5_hasNoZero km_X7_59 ⟨by decide, by decide⟩ (Nat.le_of_ble_eq_true rfl) dX7_lookAt_24 ?_
    refine z_if_ne hC 32 (by decide) dX7_lookAt_27 (fun q27_4 => ?_) (fun q27_4 => ?_)
    · replace h := z_f q27_4 h
      refine z_aload_n hC 1 rfl rfl dX7_lookAt_32 ?_
      refine z_iload_n hC 2 rfl rfl dX7_lookAt_33 ?_
      refine z_iload_n hC 3 rfl rfl dX7_lookAt_34 ?_
      refine z_iload_n hC 3 rfl rfl dX7_lookAt_35 ?_
      refine z_iconst hC (0 : Int32) (by decide) dX7_lookAt_36 ?_
      refine z_b2 h (fun r37_5 s37_6 e_r37_5 h => ?_)
      refine z_cV4r hC (ctX1_measure hC.hm e_r37_5) (rcX1 hC) kb_X1_measure km_X7_53 ⟨by decide, by decide⟩ (Nat.le_of_ble_eq_true rfl) dX7_lookAt_37 ?_
      refine z_lstore hC [(6, .long r37_5), (4, .long r5_1), (0, .ref (zAd T (3))), (1, .int a1), (2, .int a2), (3, .int a3)] (by rw [hN]; decide) rfl dX7_lookAt_40 ?_
      refine z_aload_n hC 2 rfl rfl dX7_lookAt_42 ?_
      refine z_iload_n hC 3 rfl rfl dX7_lookAt_43 ?_
      refine z_iload_n hC 5 rfl rfl dX7_lookAt_44 ?_
      refine z_iload_n hC 5 rfl rfl dX7_lookAt_45 ?_
      refine z_iconst hC (0 : Int32) (by decide) dX7_lookAt_46 ?_
      refine z_b2 h (fun r47_7 s47_8 e_r47_7 h => ?_)
      refine z_cV4r hC (ctX1_measure hC.hm e_r47_7) (rcX1 hC) kb_X1_measure km_X7_53 ⟨by decide, by decide⟩ (Nat.le_of_ble_eq_true rfl) dX7_lookAt_47 ?_
      refine z_lstore hC [(8, .long r47_7), (6, .long r37_5), (4, .long r5_1), (0, .ref (zAd T (3))), (1, .int a1), (2, .int a2), (3, .int a3)] (by rw [hN]; decide) rfl dX7_lookAt_50 ?_
      refine z_lload hC 1 rfl dX7_lookAt_52 ?_
      refine z_cS1r hC (ctX5_hasNoZero hC.hm) kb_X5_hasNoZero km_X7_59 ⟨by decide, by decide⟩ (Nat.le_of_ble_eq_true rfl) dX7_lookAt_54 ?_
      refine z_if_eq hC 105 (by decide) dX7_lookAt_57 (fun q57_9 => ?_) (fun q57_9 => ?_)
      · replace h := z_t q57_9 h
        refine z_iconst hC (0 : Int32) (by decide) dX7_lookAt_105 ?_
        refine z_istore hC [(10, .int (0 : Int32)), (8, .long r47_7), (6, .long r37_5), (4, .long r5_1), (0, .ref (zAd T (3))), (1, .int a1), (2, .int a2), (3, .int a3)] (by rw [hN]; decide) rfl dX7_lookAt_106 ?_
        refine z_iload hC 0 rfl dX7_lookAt_108 ?_
        refine z_if_eq hC 117 (by decide) dX7_lookAt_110 (fun q => ?_) (fun q => absurd q (by decide))
        refine z_iconst hC (2 : Int32) (by decide) dX7_lookAt_117 ?_
        obtain ⟨rfl, rfl⟩ := z_pr h
        exact z_iret hC hQ dX7_lookAt_118
      · replace h := z_f q57_9 h
        refine z_lload hC 0 rfl dX7_lookAt_60 ?_
        refine z_cS1r hC (ctX5_hasNoZero hC.hm) kb_X5_hasNoZero km_X7_59 ⟨by decide, by decide⟩ (Nat.le_of_ble_eq_true rfl) dX7_lookAt_62 ?_
        refine z_if_eq hC 105 (by decide) dX7_lookAt_65 (fun q65_10 => ?_) (fun q65_10 => ?_)
        · replace h := z_t q65_10 h
          refine z_iconst hC (0 : Int32) (by decide) dX7_lookAt_105 ?_
          refine z_istore hC [(10, .int (0 : Int32)), (8, .long r47_7), (6, .long r37_5), (4, .long r5_1), (0, .ref (zAd T (3))), (1, .int a1), (2, .int a2), (3, .int a3)] (by rw [hN]; decide) rfl dX7_lookAt_106 ?_
          refine z_iload hC 0 rfl dX7_lookAt_108 ?_
          refine z_if_eq hC 117 (by decide) dX7_lookAt_110 (fun q => ?_) (fun q => absurd q (by decide))
          refine z_iconst hC (2 : Int32) (by decide) dX7_lookAt_117 ?_
          obtain ⟨rfl, rfl⟩ := z_pr h
          exact z_iret hC hQ dX7_lookAt_118
        · replace h := z_f q65_10 h
          refine z_lload hC 1 rfl dX7_lookAt_68 ?_
          refine z_cS1r hC (ctX5_lowOf hC.hm) kb_X5_lowOf km_X7_69 ⟨by decide, by decide⟩ (Nat.le_of_ble_eq_true rfl) dX7_lookAt_70 ?_
          refine z_lconst hC (0 : Int64) (by decide) dX7_lookAt_73 ?_
          refine z_cmp_le hC 82 (by decide) dX7_lookAt_74 dX7_lookAt_75 (fun q74_11 => ?_) (fun q74_11 => ?_)
          · replace h := z_t q74_11 h
            refine z_iconst hC (0 : Int32) (by decide) dX7_lookAt_82 ?_
            refine z_sub [(8, .long r47_7)] [0] rfl ?_
            exact (wX7_lookAt_83 hC hN hQ ) _ _ _ h
          · replace h := z_f q74_11 h
            refine z_iconst hC (1 : Int32) (by decide) dX7_lookAt_78 ?_
            refine z_goto hC 83 (by decide) dX7_lookAt_79 ?_
            refine z_sub [(8, .long r47_7)] [0] rfl ?_
            exact (wX7_lookAt_83 hC hN hQ ) _ _ _ h
    · replace h := z_t q27_4 h
      refine z_iconst hC (2 : Int32) (by decide) dX7_lookAt_30 ?_
      obtain ⟨rfl, rfl⟩ := z_pr h
      exact z_iret hC hQ dX7_lookAt_31
  · replace h := z_f q15_3 h
    refine z_iconst hC (0 : Int32) (by decide) dX7_lookAt_18 ?_
    obtain ⟨rfl, rfl⟩ := z_pr h
    exact z_iret hC hQ dX7_lookAt_19
set_option maxRecDepth 100000 in
theorem ctX7_lookAt {l : Launch} {G : zGt} {mk : zSt → zSt} (hm : zM mk 0 61) {a1 : Int32} {a2 : Int32} {a3 : Int32} {σ : zSt} {r : Int32} {σ' : zSt} (h : fX7_lookAt a1 a2 a3 σ = some (r, σ')) : zMet l G mk yX7_lookAt cX7_lookAt 11 (some .int) 5 147 [.ref (gA G (3)), .int a1, .int a2, .int a3] σ (some (.int r)) σ' := by
  unfold fX7_lookAt at h

  refine zMet.of (plainFor_of_name (by decide +kernel)) hm (Nat.le_of_ble_eq_true rfl) (fun T eL eG eM hN hC hQ => ?_)
  subst eL; subst eG; subst eM
  refine z_sub [(0, .ref (zAd T (3))), (1, .int a1), (2, .int a2), (3, .int a3)] [0, 1, 2, 3] rfl ?_
  exact wX7_lookAt_0 hC hN hQ _ _ _  _ h
noncomputable def fX7_keep_45 (v1 : Int32) (v2 : Int32) (v3 : Int32) (σ : zSt) : Option zSt := 
    (if (gi σ 5 5) < 0 then some σ
    else 
      (if (60 : Int32) ≤ (gi σ 5 5) then some σ
      else zg (vp_in (gi σ 5 5) 60) <| zg (vp_in (gi σ 5 5) 60) <| zg (vp_in (gi σ 5 5) 60) <| some (si (si (si (si σ 18 (gi σ 5 5).toNatClampNeg v1) 19 (gi σ 5 5).toNatClampNeg v2) 20 (gi σ 5 5).toNatClampNeg v3) 5 5 ((gi σ 5 5) + (1 : Int32)))))
noncomputable def fX7_keep_0 (a1 : Int32) (a2 : Int32) (a3 : Int32) (σ : zSt) : Option zSt := nm ((gi σ 5 5) - (1 : Int32)) fun x6_1 => 
    (if a3 = 0 then 
      (if x6_1 < 0 then fX7_keep_45 a1 a2 a3 σ
      else 
        (if (60 : Int32) ≤ x6_1 then fX7_keep_45 a1 a2 a3 σ
        else zg (vp_in x6_1 60) <| 
          (if (gi σ 20 x6_1.toNatClampNeg) = 0 then zg (vp_in x6_1 60) <| some (si σ 19 x6_1.toNatClampNeg a2)
          else fX7_keep_45 a1 a2 a3 σ)))
    else fX7_keep_45 a1 a2 a3 σ)
noncomputable def fX7_keep (a1 : Int32) (a2 : Int32) (a3 : Int32) (σ : zSt) : Option zSt := fX7_keep_0 a1 a2 a3 σ
set_option maxRecDepth 100000 in
set_option maxHeartbeats 4000000 in
theorem wX7_keep_45 {T : zX} (hC : zOk T cX7_keep RX7 0 0 0 61) (hN : zNL T = 5) {σ' : zSt} (hQ : zRes T none (none) σ') (v1 : Int32) (v2 : Int32) (v3 : Int32)  (σ : zSt) (h : fX7_keep_45 v1 v2 v3 σ = some σ') : Z T σ 45 [(0, .ref (zAd T (5))), (1, .int v1), (2, .int v2), (3, .int v3)] [] := by
  unfold fX7_keep_45 at h
  refine z_aload_n hC 0 rfl rfl dX7_keep_45 ?_
  refine gX7_5 hC kf_X7_22 (gi σ 5 5) rfl dX7_keep_46 ?_
  refine z_if_lt hC 101 (by decide) dX7_keep_49 (fun q49_1 => ?_) (fun q49_1 => ?_)
  · replace h := z_t q49_1 h
    obtain rfl := z_so h
    exact z_vret hC hQ dX7_keep_101
  · replace h := z_f q49_1 h
    refine z_aload_n hC 0 rfl rfl dX7_keep_52 ?_
    refine gX7_5 hC kf_X7_22 (gi σ 5 5) rfl dX7_keep_53 ?_
    refine z_bipush hC (60 : Int32) (by decide) dX7_keep_56 ?_
    refine z_icmp_ge hC 101 (by decide) dX7_keep_58 (fun q58_2 => ?_) (fun q58_2 => ?_)
    · replace h := z_t q58_2 h
      obtain rfl := z_so h
      exact z_vret hC hQ dX7_keep_101
    · replace h := z_f q58_2 h
      refine z_aload_n hC 0 rfl rfl dX7_keep_61 ?_
      refine gX7_1 hC kf_X7_13 dX7_keep_62 ?_
      refine z_aload_n hC 0 rfl rfl dX7_keep_65 ?_
      refine gX7_5 hC kf_X7_22 (gi σ 5 5) rfl dX7_keep_66 ?_
      refine z_iload_n hC 1 rfl rfl dX7_keep_69 ?_
      refine z_g h (fun g70_3 h => ?_)
      refine z_iast hC 18 ⟨by decide, by decide⟩ (zS_18 _) g70_3 dX7_keep_70 ?_
      refine z_aload_n hC 0 rfl rfl dX7_keep_71 ?_
      refine gX7_2 hC kf_X7_16 dX7_keep_72 ?_
      refine z_aload_n hC 0 rfl rfl dX7_keep_75 ?_
      refine gX7_5 hC kf_X7_22 (gi σ 5 5) rfl dX7_keep_76 ?_
      refine z_iload_n hC 2 rfl rfl dX7_keep_79 ?_
      refine z_g h (fun g80_4 h => ?_)
      refine z_iast hC 19 ⟨by decide, by decide⟩ (zS_19 _) g80_4 dX7_keep_80 ?_
      refine z_aload_n hC 0 rfl rfl dX7_keep_81 ?_
      refine gX7_3 hC kf_X7_19 dX7_keep_82 ?_
      refine z_aload_n hC 0 rfl rfl dX7_keep_85 ?_
      refine gX7_5 hC kf_X7_22 (gi σ 5 5) rfl dX7_keep_86 ?_
      refine z_iload_n hC 3 rfl rfl dX7_keep_89 ?_
      refine z_g h (fun g90_5 h => ?_)
      refine z_iast hC 20 ⟨by decide, by decide⟩ (zS_20 _) g90_5 dX7_keep_90 ?_
      refine z_aload_n hC 0 rfl rfl dX7_keep_91 ?_
      refine z_dup hC rfl dX7_keep_92 ?_
      refine gX7_5 hC kf_X7_22 (gi σ 5 5) rfl dX7_keep_93 ?_
      refine z_iconst hC (1 : Int32) (by decide) dX7_keep_96 ?_
      refine z_iadd hC dX7_keep_97 ?_
      refine pX7_5 hC kf_X7_22 dX7_keep_98 ?_
      obtain rfl := z_so h
      exact z_vret hC hQ dX7_keep_101
set_option maxRecDepth 100000 in
set_option maxHeartbeats 4000000 in
theorem wX7_keep_0 {T : zX} (hC : zOk T cX7_keep RX7 0 0 0 61) (hN : zNL T = 5) {σ' : zSt} (hQ : zRes T none (none) σ') (a1 : Int32) (a2 : Int32) (a3 : Int32)  (σ : zSt) (h : fX7_keep_0 a1 a2 a3 σ = some σ') : Z T σ 0 [(0, .ref (zAd T (5))), (1, .int a1), (2, .int a2), (3, .int a3)] [] := by
  unfold fX7_keep_0 at h
  refine z_aload_n hC 0 rfl rfl dX7_keep_0 ?_
  refine gX7_5 hC kf_X7_22 (gi σ 5 5) rfl dX7_keep_1 ?_
  refine z_iconst hC (1 : Int32) (by decide) dX7_keep_4 ?_
  refine z_isub hC dX7_keep_5 ?_
  refine z_nmI h (fun x6_1 h => ?_)
  refine z_istore hC [(4, .int x6_1), (0, .ref (zAd T (5))), (1, .int a1), (2, .int a2), (3, .int a3)] (by rw [hN]; decide) rfl dX7_keep_6 ?_
  refine z_iload_n hC 4 rfl rfl dX7_keep_8 ?_
  refine z_if_ne hC 45 (by decide) dX7_keep_9 (fun q9_2 => ?_) (fun q9_2 => ?_)
  · replace h := z_f q9_2 h
    refine z_sub [(0, .ref (zAd T (5))), (1, .int a1), (2, .int a2), (3, .int a3)] [1, 2, 3, 4] rfl ?_
    exact (wX7_keep_45 hC hN hQ ) _ _ _ _ h
  · replace h := z_t q9_2 h
    refine z_iload hC 0 rfl dX7_keep_12 ?_
    refine z_if_lt hC 45 (by decide) dX7_keep_14 (fun q14_3 => ?_) (fun q14_3 => ?_)
    · replace h := z_t q14_3 h
      refine z_sub [(0, .ref (zAd T (5))), (1, .int a1), (2, .int a2), (3, .int a3)] [1, 2, 3, 4] rfl ?_
      exact (wX7_keep_45 hC hN hQ ) _ _ _ _ h
    · replace h := z_f q14_3 h
      refine z_iload hC 0 rfl dX7_keep_17 ?_
      refine z_bipush hC (60 : Int32) (by decide) dX7_keep_19 ?_
      refine z_icmp_ge hC 45 (by decide) dX7_keep_21 (fun q21_4 => ?_) (fun q21_4 => ?_)
      · replace h := z_t q21_4 h
        refine z_sub [(0, .ref (zAd T (5))), (1, .int a1), (2, .int a2), (3, .int a3)] [1, 2, 3, 4] rfl ?_
        exact (wX7_keep_45 hC hN hQ ) _ _ _ _ h
      · replace h := z_f q21_4 h
        refine z_aload_n hC 1 rfl rfl dX7_keep_24 ?_
        refine gX7_3 hC kf_X7_19 dX7_keep_25 ?_
        refine z_iload hC 0 rfl dX7_keep_28 ?_
        refine z_g h (fun g30_5 h => ?_)
        refine z_iald hC 20 ⟨by decide, by decide⟩ (zS_20 _ _ _) g30_5 (gi σ 20 x6_1.toNatClampNeg) rfl dX7_keep_30 ?_
        refine z_if_ne hC 45 (by decide) dX7_keep_31 (fun q31_6 => ?_) (fun q31_6 => ?_)
        · replace h := z_f q31_6 h
          refine z_sub [(0, .ref (zAd T (5))), (1, .int a1), (2, .int a2), (3, .int a3)] [1, 2, 3, 4] rfl ?_
          exact (wX7_keep_45 hC hN hQ ) _ _ _ _ h
        · replace h := z_t q31_6 h
          refine z_aload_n hC 1 rfl rfl dX7_keep_34 ?_
          refine gX7_2 hC kf_X7_16 dX7_keep_35 ?_
          refine z_iload hC 0 rfl dX7_keep_38 ?_
          refine z_iload_n hC 3 rfl rfl dX7_keep_40 ?_
          refine z_g h (fun g41_7 h => ?_)
          refine z_iast hC 19 ⟨by decide, by decide⟩ (zS_19 _) g41_7 dX7_keep_41 ?_
          refine z_goto hC 101 (by decide) dX7_keep_42 ?_
          obtain rfl := z_so h
          exact z_vret hC hQ dX7_keep_101
set_option maxRecDepth 100000 in
theorem ctX7_keep {l : Launch} {G : zGt} {mk : zSt → zSt} (hm : zM mk 0 61) {a1 : Int32} {a2 : Int32} {a3 : Int32} {σ : zSt} {σ' : zSt} (h : fX7_keep a1 a2 a3 σ = some σ') : zMet l G mk yX7_keep cX7_keep 5 none 0 0 [.ref (gA G (5)), .int a1, .int a2, .int a3] σ (none) σ' := by
  unfold fX7_keep at h

  refine zMet.of (plainFor_of_name (by decide +kernel)) hm (Nat.le_of_ble_eq_true rfl) (fun T eL eG eM hN hC hQ => ?_)
  subst eL; subst eG; subst eM
  refine z_sub [(0, .ref (zAd T (5))), (1, .int a1), (2, .int a2), (3, .int a3)] [0, 1, 2, 3] rfl ?_
  exact wX7_keep_0 hC hN hQ _ _ _  _ h
noncomputable def fX7_seekRoots_126 (K22 : Int32 → Int32 → Int32 → Int64 → zSt → Option zSt) (v2 : Int32) (v5 : Int32) (v6 : Int32) (v7 : Int64) (v9 : Int32) (v10 : Int32) (σ : zSt) : Option zSt := bd1 (fX7_keep v6 v9 v10 σ) fun s133_1 => nm ((gi s133_1 5 4) - (1 : Int32)) fun x147_2 => nm (v7 + (1 : Int64)) fun x154_3 => K22 v2 v5 v9 x154_3 (si s133_1 5 4 x147_2)
noncomputable def fX7_seekRoots_85 (K22 : Int32 → Int32 → Int32 → Int64 → zSt → Option zSt) (v2 : Int32) (v5 : Int32) (v6 : Int32) (v7 : Int64) (v9 : Int32) (v10 : Int32) (σ : zSt) : Option zSt := 
    (if v10 = (2 : Int32) then fX7_seekRoots_126 K22 v2 v5 v6 v7 v9 v10 σ
    else fX7_seekRoots_126 K22 v2 v5 v6 v7 v9 v10 σ)
noncomputable def fX7_seekRoots_22 (K22 : Int32 → Int32 → Int32 → Int64 → zSt → Option zSt) (v2 : Int32) (v5 : Int32) (v6 : Int32) (v7 : Int64) (σ : zSt) : Option zSt := 
    (if (17179869184 : Int64) ≤ v7 then some σ
    else 
      (if (gi σ 5 4) ≤ 0 then some σ
      else bd1 (fX7_firstEnd σ) fun r39_3 => bd2 (fX7_lookAt v2 v6 r39_3 σ) fun r50_4 s50_5 => 
        (if ((Int32.toInt64 r39_3) - (Int32.toInt64 v6)) ≤ (Int32.toInt64 v5) then fX7_seekRoots_85 K22 v2 v5 v6 v7 r39_3 r50_4 s50_5
        else 
          (if (((gi s50_5 5 5) + (gi s50_5 5 4)) - (1 : Int32)) < (59 : Int32) then 
            (if r50_4 = (2 : Int32) then 
              (if (64 : Int32) ≤ (gi s50_5 5 4) then fX7_seekRoots_126 K22 v2 v5 v6 v7 r39_3 r50_4 s50_5
              else bd1 (fX7_await (fX8_middleOf v6 r39_3) s50_5) fun s120_10 => nm (v7 + (1 : Int64)) fun x154_11 => K22 v2 v5 v6 x154_11 s120_10)
            else fX7_seekRoots_126 K22 v2 v5 v6 v7 r39_3 r50_4 s50_5)
          else fX7_seekRoots_85 K22 v2 v5 v6 v7 r39_3 r50_4 s50_5))))
noncomputable def fX7_seekRoots_L22 : Nat → Int32 → Int32 → Int32 → Int64 → zSt → Option zSt
  | 0, _, _, _, _, _ => none
  | n + 1, v2, v5, v6, v7, σ => fX7_seekRoots_22 (fX7_seekRoots_L22 n) v2 v5 v6 v7 σ
noncomputable def fX7_seekRoots_0 (a2 : Int32) (a3 : Int32) (a4 : Int32) (a5 : Int32) (σ : zSt) : Option zSt := bd1 (fX7_await a4 (si (si σ 5 5 (0 : Int32)) 5 4 (0 : Int32))) fun s16_1 => fX7_seekRoots_L22 zFU a2 a5 a3 (0 : Int64) s16_1
noncomputable def fX7_seekRoots (a2 : Int32) (a3 : Int32) (a4 : Int32) (a5 : Int32) (σ : zSt) : Option zSt := fX7_seekRoots_0 a2 a3 a4 a5 σ
set_option maxRecDepth 100000 in
set_option maxHeartbeats 4000000 in
theorem wX7_seekRoots_126 {T : zX} (hC : zOk T cX7_seekRoots RX7 6 177 0 61) (hN : zNL T = 12) {σ' : zSt} (hQ : zRes T none (none) σ') (K22 : Int32 → Int32 → Int32 → Int64 → zSt → Option zSt) (hK22 : ∀ (v2 : Int32) (v5 : Int32) (v6 : Int32) (v7 : Int64) (τ : zSt), K22 v2 v5 v6 v7 τ = some σ' → Z T τ 22 [(0, .ref (zAd T (5))), (1, .ref (zAd T (3))), (2, .int v2), (5, .int v5), (6, .int v6), (7, .long v7)] []) (v2 : Int32) (v5 : Int32) (v6 : Int32) (v7 : Int64) (v9 : Int32) (v10 : Int32)  (σ : zSt) (h : fX7_seekRoots_126 K22 v2 v5 v6 v7 v9 v10 σ = some σ') : Z T σ 126 [(0, .ref (zAd T (5))), (1, .ref (zAd T (3))), (2, .int v2), (5, .int v5), (6, .int v6), (7, .long v7), (9, .int v9), (10, .int v10)] [] := by
  unfold fX7_seekRoots_126 at h
  refine z_aload_n hC 0 rfl rfl dX7_seekRoots_126 ?_
  refine z_iload hC 4 rfl dX7_seekRoots_127 ?_
  refine z_iload hC 6 rfl dX7_seekRoots_129 ?_
  refine z_iload hC 7 rfl dX7_seekRoots_131 ?_
  refine z_b1 h (fun s133_1 e_s133_1 h => ?_)
  refine z_cV3v hC (ctX7_keep hC.hm e_s133_1) (rcX7 hC) kb_X7_keep km_X7_49 ⟨by decide, by decide⟩ (Nat.le_of_ble_eq_true rfl) dX7_seekRoots_133 ?_
  refine z_iload hC 6 rfl dX7_seekRoots_136 ?_
  refine z_istore hC [(6, .int v9), (0, .ref (zAd T (5))), (1, .ref (zAd T (3))), (2, .int v2), (5, .int v5), (7, .long v7), (9, .int v9), (10, .int v10)] (by rw [hN]; decide) rfl dX7_seekRoots_138 ?_
  refine z_aload_n hC 1 rfl rfl dX7_seekRoots_140 ?_
  refine z_dup hC rfl dX7_seekRoots_141 ?_
  refine gX7_4 hC kf_X7_26 (gi s133_1 5 4) rfl dX7_seekRoots_142 ?_
  refine z_iconst hC (1 : Int32) (by decide) dX7_seekRoots_145 ?_
  refine z_isub hC dX7_seekRoots_146 ?_
  refine z_nmI h (fun x147_2 h => ?_)
  refine pX7_4 hC kf_X7_26 dX7_seekRoots_147 ?_
  refine z_lload hC 5 rfl dX7_seekRoots_150 ?_
  refine z_lconst hC (1 : Int64) (by decide) dX7_seekRoots_152 ?_
  refine z_ladd hC dX7_seekRoots_153 ?_
  refine z_nmL h (fun x154_3 h => ?_)
  refine z_lstore hC [(7, .long x154_3), (6, .int v9), (0, .ref (zAd T (5))), (1, .ref (zAd T (3))), (2, .int v2), (5, .int v5), (9, .int v9), (10, .int v10)] (by rw [hN]; decide) rfl dX7_seekRoots_154 ?_
  refine z_goto hC 22 (by decide) dX7_seekRoots_156 ?_
  refine z_sub [(0, .ref (zAd T (5))), (1, .ref (zAd T (3))), (2, .int v2), (5, .int v5), (6, .int v9), (7, .long x154_3)] [2, 3, 4, 5, 1, 0] rfl ?_
  exact hK22 _ _ _ _ _ h
set_option maxRecDepth 100000 in
set_option maxHeartbeats 4000000 in
theorem wX7_seekRoots_85 {T : zX} (hC : zOk T cX7_seekRoots RX7 6 177 0 61) (hN : zNL T = 12) {σ' : zSt} (hQ : zRes T none (none) σ') (K22 : Int32 → Int32 → Int32 → Int64 → zSt → Option zSt) (hK22 : ∀ (v2 : Int32) (v5 : Int32) (v6 : Int32) (v7 : Int64) (τ : zSt), K22 v2 v5 v6 v7 τ = some σ' → Z T τ 22 [(0, .ref (zAd T (5))), (1, .ref (zAd T (3))), (2, .int v2), (5, .int v5), (6, .int v6), (7, .long v7)] []) (v2 : Int32) (v5 : Int32) (v6 : Int32) (v7 : Int64) (v9 : Int32) (v10 : Int32)  (σ : zSt) (h : fX7_seekRoots_85 K22 v2 v5 v6 v7 v9 v10 σ = some σ') : Z T σ 85 [(0, .ref (zAd T (5))), (1, .ref (zAd T (3))), (2, .int v2), (5, .int v5), (6, .int v6), (7, .long v7), (9, .int v9), (10, .int v10)] [] := by
  unfold fX7_seekRoots_85 at h
  refine z_iconst hC (1 : Int32) (by decide) dX7_seekRoots_85 ?_
  refine z_goto hC 90 (by decide) dX7_seekRoots_86 ?_
  refine z_istore hC [(11, .int (1 : Int32)), (0, .ref (zAd T (5))), (1, .ref (zAd T (3))), (2, .int v2), (5, .int v5), (6, .int v6), (7, .long v7), (9, .int v9), (10, .int v10)] (by rw [hN]; decide) rfl dX7_seekRoots_90 ?_
  refine z_iload hC 8 rfl dX7_seekRoots_92 ?_
  refine z_iconst hC (2 : Int32) (by decide) dX7_seekRoots_94 ?_
  refine z_icmp_ne hC 126 (by decide) dX7_seekRoots_95 (fun q95_1 => ?_) (fun q95_1 => ?_)
  · replace h := z_f q95_1 h
    refine z_sub [(0, .ref (zAd T (5))), (1, .ref (zAd T (3))), (2, .int v2), (5, .int v5), (6, .int v6), (7, .long v7), (9, .int v9), (10, .int v10)] [1, 2, 3, 4, 5, 6, 7, 8] rfl ?_
    exact (wX7_seekRoots_126 hC hN hQ K22 hK22 ) _ _ _ _ _ _ _ h
  · replace h := z_t q95_1 h
    refine z_iload hC 0 rfl dX7_seekRoots_98 ?_
    refine z_if_ne hC 126 (by decide) dX7_seekRoots_100 (fun q => ?_) (fun q => absurd q (by decide))
    refine z_sub [(0, .ref (zAd T (5))), (1, .ref (zAd T (3))), (2, .int v2), (5, .int v5), (6, .int v6), (7, .long v7), (9, .int v9), (10, .int v10)] [1, 2, 3, 4, 5, 6, 7, 8] rfl ?_
    exact (wX7_seekRoots_126 hC hN hQ K22 hK22 ) _ _ _ _ _ _ _ h
set_option maxRecDepth 100000 in
set_option maxHeartbeats 4000000 in
theorem wX7_seekRoots_22 {T : zX} (hC : zOk T cX7_seekRoots RX7 6 177 0 61) (hN : zNL T = 12) {σ' : zSt} (hQ : zRes T none (none) σ') (K22 : Int32 → Int32 → Int32 → Int64 → zSt → Option zSt) (hK22 : ∀ (v2 : Int32) (v5 : Int32) (v6 : Int32) (v7 : Int64) (τ : zSt), K22 v2 v5 v6 v7 τ = some σ' → Z T τ 22 [(0, .ref (zAd T (5))), (1, .ref (zAd T (3))), (2, .int v2), (5, .int v5), (6, .int v6), (7, .long v7)] []) (v2 : Int32) (v5 : Int32) (v6 : Int32) (v7 : Int64)  (σ : zSt) (h : fX7_seekRoots_22 K22 v2 v5 v6 v7 σ = some σ') : Z T σ 22 [(0, .ref (zAd T (5))), (1, .ref (zAd T (3))), (2, .int v2), (5, .int v5), (6, .int v6), (7, .long v7)] [] := by
  unfold fX7_seekRoots_22 at h
  refine z_lload hC 5 rfl dX7_seekRoots_22 ?_
  refine z_ldc2 hC kc_X7_33 dX7_seekRoots_24 ?_
  refine z_cmp_ge hC 159 (by decide) dX7_seekRoots_27 dX7_seekRoots_28 (fun q27_1 => ?_) (fun q27_1 => ?_)
  · replace h := z_t q27_1 h
    obtain rfl := z_so h
    exact z_vret hC hQ dX7_seekRoots_159
  · replace h := z_f q27_1 h
    refine z_aload_n hC 0 rfl rfl dX7_seekRoots_31 ?_
    refine gX7_4 hC kf_X7_26 (gi σ 5 4) rfl dX7_seekRoots_32 ?_
    refine z_if_le hC 159 (by decide) dX7_seekRoots_35 (fun q35_2 => ?_) (fun q35_2 => ?_)
    · replace h := z_t q35_2 h
      obtain rfl := z_so h
      exact z_vret hC hQ dX7_seekRoots_159
    · replace h := z_f q35_2 h
      refine z_aload_n hC 0 rfl rfl dX7_seekRoots_38 ?_
      refine z_b1 h (fun r39_3 e_r39_3 h => ?_)
      refine z_cV0r hC (ctX7_firstEnd hC.hm e_r39_3) (rcX7 hC) kb_X7_firstEnd km_X7_35 ⟨by decide, by decide⟩ (Nat.le_of_ble_eq_true rfl) dX7_seekRoots_39 ?_
      refine z_istore hC [(9, .int r39_3), (0, .ref (zAd T (5))), (1, .ref (zAd T (3))), (2, .int v2), (5, .int v5), (6, .int v6), (7, .long v7)] (by rw [hN]; decide) rfl dX7_seekRoots_42 ?_
      refine z_aload_n hC 2 rfl rfl dX7_seekRoots_44 ?_
      refine z_iload_n hC 3 rfl rfl dX7_seekRoots_45 ?_
      refine z_iload hC 5 rfl dX7_seekRoots_46 ?_
      refine z_iload hC 0 rfl dX7_seekRoots_48 ?_
      refine z_b2 h (fun r50_4 s50_5 e_r50_4 h => ?_)
      refine z_cS4r hC (ctX7_lookAt hC.hm e_r50_4) kb_X7_lookAt km_X7_39 ⟨by decide, by decide⟩ (Nat.le_of_ble_eq_true rfl) dX7_seekRoots_50 ?_
      refine z_istore hC [(10, .int r50_4), (9, .int r39_3), (0, .ref (zAd T (5))), (1, .ref (zAd T (3))), (2, .int v2), (5, .int v5), (6, .int v6), (7, .long v7)] (by rw [hN]; decide) rfl dX7_seekRoots_53 ?_
      refine z_iload hC 1 rfl dX7_seekRoots_55 ?_
      refine z_i2l hC dX7_seekRoots_57 ?_
      refine z_iload hC 6 rfl dX7_seekRoots_58 ?_
      refine z_i2l hC dX7_seekRoots_60 ?_
      refine z_lsub hC dX7_seekRoots_61 ?_
      refine z_iload hC 5 rfl dX7_seekRoots_62 ?_
      refine z_i2l hC dX7_seekRoots_64 ?_
      refine z_cmp_le hC 85 (by decide) dX7_seekRoots_65 dX7_seekRoots_66 (fun q65_6 => ?_) (fun q65_6 => ?_)
      · replace h := z_t q65_6 h
        refine z_sub [(0, .ref (zAd T (5))), (1, .ref (zAd T (3))), (2, .int v2), (5, .int v5), (6, .int v6), (7, .long v7), (9, .int r39_3), (10, .int r50_4)] [2, 3, 4, 5, 6, 7, 1, 0] rfl ?_
        exact (wX7_seekRoots_85 hC hN hQ K22 hK22 ) _ _ _ _ _ _ _ h
      · replace h := z_f q65_6 h
        refine z_aload_n hC 2 rfl rfl dX7_seekRoots_69 ?_
        refine gX7_5 hC kf_X7_22 (gi s50_5 5 5) rfl dX7_seekRoots_70 ?_
        refine z_aload_n hC 2 rfl rfl dX7_seekRoots_73 ?_
        refine gX7_4 hC kf_X7_26 (gi s50_5 5 4) rfl dX7_seekRoots_74 ?_
        refine z_iadd hC dX7_seekRoots_77 ?_
        refine z_iconst hC (1 : Int32) (by decide) dX7_seekRoots_78 ?_
        refine z_isub hC dX7_seekRoots_79 ?_
        refine z_bipush hC (59 : Int32) (by decide) dX7_seekRoots_80 ?_
        refine z_icmp_lt hC 89 (by decide) dX7_seekRoots_82 (fun q82_7 => ?_) (fun q82_7 => ?_)
        · replace h := z_t q82_7 h
          refine z_iconst hC (0 : Int32) (by decide) dX7_seekRoots_89 ?_
          refine z_istore hC [(11, .int (0 : Int32)), (10, .int r50_4), (9, .int r39_3), (0, .ref (zAd T (5))), (1, .ref (zAd T (3))), (2, .int v2), (5, .int v5), (6, .int v6), (7, .long v7)] (by rw [hN]; decide) rfl dX7_seekRoots_90 ?_
          refine z_iload hC 1 rfl dX7_seekRoots_92 ?_
          refine z_iconst hC (2 : Int32) (by decide) dX7_seekRoots_94 ?_
          refine z_icmp_ne hC 126 (by decide) dX7_seekRoots_95 (fun q95_8 => ?_) (fun q95_8 => ?_)
          · replace h := z_f q95_8 h
            refine z_sub [(0, .ref (zAd T (5))), (1, .ref (zAd T (3))), (2, .int v2), (5, .int v5), (6, .int v6), (7, .long v7), (9, .int r39_3), (10, .int r50_4)] [3, 4, 5, 6, 7, 8, 2, 1] rfl ?_
            exact (wX7_seekRoots_126 hC hN hQ K22 hK22 ) _ _ _ _ _ _ _ h
          · replace h := z_t q95_8 h
            refine z_iload hC 0 rfl dX7_seekRoots_98 ?_
            refine z_if_ne hC 126 (by decide) dX7_seekRoots_100 (fun q => absurd q (by decide)) (fun q => ?_)
            refine z_aload_n hC 3 rfl rfl dX7_seekRoots_103 ?_
            refine gX7_4 hC kf_X7_26 (gi s50_5 5 4) rfl dX7_seekRoots_104 ?_
            refine z_bipush hC (64 : Int32) (by decide) dX7_seekRoots_107 ?_
            refine z_icmp_ge hC 126 (by decide) dX7_seekRoots_109 (fun q109_9 => ?_) (fun q109_9 => ?_)
            · replace h := z_t q109_9 h
              refine z_sub [(0, .ref (zAd T (5))), (1, .ref (zAd T (3))), (2, .int v2), (5, .int v5), (6, .int v6), (7, .long v7), (9, .int r39_3), (10, .int r50_4)] [3, 4, 5, 6, 7, 8, 2, 1] rfl ?_
              exact (wX7_seekRoots_126 hC hN hQ K22 hK22 ) _ _ _ _ _ _ _ h
            · replace h := z_f q109_9 h
              refine z_aload_n hC 3 rfl rfl dX7_seekRoots_112 ?_
              refine z_iload hC 7 rfl dX7_seekRoots_113 ?_
              refine z_iload hC 2 rfl dX7_seekRoots_115 ?_
              refine z_cS2rN hC (ctX8_middleOf hC.hm) kb_X8_middleOf (by first | exact List.mem_cons_self | exact List.mem_cons_of_mem _ List.mem_cons_self) ⟨by decide, by decide⟩ (Nat.le_of_ble_eq_true rfl) dX7_seekRoots_117 ?_
              refine z_b1 h (fun s120_10 e_s120_10 h => ?_)
              refine z_cV1v hC (ctX7_await hC.hm e_s120_10) (rcX7 hC) kb_X7_await km_X7_29 ⟨by decide, by decide⟩ (Nat.le_of_ble_eq_true rfl) dX7_seekRoots_120 ?_
              refine z_goto hC 150 (by decide) dX7_seekRoots_123 ?_
              refine z_lload hC 8 rfl dX7_seekRoots_150 ?_
              refine z_lconst hC (1 : Int64) (by decide) dX7_seekRoots_152 ?_
              refine z_ladd hC dX7_seekRoots_153 ?_
              refine z_nmL h (fun x154_11 h => ?_)
              refine z_lstore hC [(7, .long x154_11), (11, .int (0 : Int32)), (10, .int r50_4), (9, .int r39_3), (0, .ref (zAd T (5))), (1, .ref (zAd T (3))), (2, .int v2), (5, .int v5), (6, .int v6)] (by rw [hN]; decide) rfl dX7_seekRoots_154 ?_
              refine z_goto hC 22 (by decide) dX7_seekRoots_156 ?_
              refine z_sub [(0, .ref (zAd T (5))), (1, .ref (zAd T (3))), (2, .int v2), (5, .int v5), (6, .int v6), (7, .long x154_11)] [4, 5, 6, 7, 8, 0] rfl ?_
              exact hK22 _ _ _ _ _ h
        · replace h := z_f q82_7 h
          refine z_sub [(0, .ref (zAd T (5))), (1, .ref (zAd T (3))), (2, .int v2), (5, .int v5), (6, .int v6), (7, .long v7), (9, .int r39_3), (10, .int r50_4)] [2, 3, 4, 5, 6, 7, 1, 0] rfl ?_
          exact (wX7_seekRoots_85 hC hN hQ K22 hK22 ) _ _ _ _ _ _ _ h
theorem wX7_seekRoots_L22 {T : zX} (hC : zOk T cX7_seekRoots RX7 6 177 0 61) (hN : zNL T = 12) {σ' : zSt} (hQ : zRes T none (none) σ') (n : Nat) : ∀ (v2 : Int32) (v5 : Int32) (v6 : Int32) (v7 : Int64) (σ : zSt), fX7_seekRoots_L22 n v2 v5 v6 v7 σ = some σ' → Z T σ 22 [(0, .ref (zAd T (5))), (1, .ref (zAd T (3))), (2, .int v2), (5, .int v5), (6, .int v6), (7, .long v7)] [] := by
  induction n with
  | zero => intro v2 v5 v6 v7 σ h; cases h
  | succ n ih => intro v2 v5 v6 v7 σ h; exact wX7_seekRoots_22 hC hN hQ (fX7_seekRoots_L22 n) ih v2 v5 v6 v7 σ h
set_option maxRecDepth 100000 in
set_option maxHeartbeats 4000000 in
theorem wX7_seekRoots_0 {T : zX} (hC : zOk T cX7_seekRoots RX7 6 177 0 61) (hN : zNL T = 12) {σ' : zSt} (hQ : zRes T none (none) σ') (a2 : Int32) (a3 : Int32) (a4 : Int32) (a5 : Int32)  (σ : zSt) (h : fX7_seekRoots_0 a2 a3 a4 a5 σ = some σ') : Z T σ 0 [(0, .ref (zAd T (5))), (1, .ref (zAd T (3))), (2, .int a2), (3, .int a3), (4, .int a4), (5, .int a5)] [] := by
  unfold fX7_seekRoots_0 at h
  refine z_iload_n hC 3 rfl rfl dX7_seekRoots_0 ?_
  refine z_istore hC [(6, .int a3), (0, .ref (zAd T (5))), (1, .ref (zAd T (3))), (2, .int a2), (3, .int a3), (4, .int a4), (5, .int a5)] (by rw [hN]; decide) rfl dX7_seekRoots_1 ?_
  refine z_aload_n hC 1 rfl rfl dX7_seekRoots_3 ?_
  refine z_iconst hC (0 : Int32) (by decide) dX7_seekRoots_4 ?_
  refine pX7_5 hC kf_X7_22 dX7_seekRoots_5 ?_
  refine z_aload_n hC 1 rfl rfl dX7_seekRoots_8 ?_
  refine z_iconst hC (0 : Int32) (by decide) dX7_seekRoots_9 ?_
  refine pX7_4 hC kf_X7_26 dX7_seekRoots_10 ?_
  refine z_aload_n hC 1 rfl rfl dX7_seekRoots_13 ?_
  refine z_iload hC 5 rfl dX7_seekRoots_14 ?_
  refine z_b1 h (fun s16_1 e_s16_1 h => ?_)
  refine z_cV1v hC (ctX7_await hC.hm e_s16_1) (rcX7 hC) kb_X7_await km_X7_29 ⟨by decide, by decide⟩ (Nat.le_of_ble_eq_true rfl) dX7_seekRoots_16 ?_
  refine z_lconst hC (0 : Int64) (by decide) dX7_seekRoots_19 ?_
  refine z_lstore hC [(7, .long (0 : Int64)), (6, .int a3), (0, .ref (zAd T (5))), (1, .ref (zAd T (3))), (2, .int a2), (3, .int a3), (4, .int a4), (5, .int a5)] (by rw [hN]; decide) rfl dX7_seekRoots_20 ?_
  refine z_sub [(0, .ref (zAd T (5))), (1, .ref (zAd T (3))), (2, .int a2), (5, .int a5), (6, .int a3), (7, .long (0 : Int64))] [2, 3, 4, 7, 1, 0] rfl ?_
  exact (wX7_seekRoots_L22 hC hN hQ zFU) _ _ _ _ _ h
set_option maxRecDepth 100000 in
theorem ctX7_seekRoots {l : Launch} {G : zGt} {mk : zSt → zSt} (hm : zM mk 0 61) {a2 : Int32} {a3 : Int32} {a4 : Int32} {a5 : Int32} {σ : zSt} {σ' : zSt} (h : fX7_seekRoots a2 a3 a4 a5 σ = some σ') : zMet l G mk yX7_seekRoots cX7_seekRoots 12 none 6 177 [.ref (gA G (5)), .ref (gA G (3)), .int a2, .int a3, .int a4, .int a5] σ (none) σ' := by
  unfold fX7_seekRoots at h

  refine zMet.of (plainFor_of_name (by decide +kernel)) hm (Nat.le_of_ble_eq_true rfl) (fun T eL eG eM hN hC hQ => ?_)
  subst eL; subst eG; subst eM
  refine z_sub [(0, .ref (zAd T (5))), (1, .ref (zAd T (3))), (2, .int a2), (3, .int a3), (4, .int a4), (5, .int a5)] [0, 1, 2, 3, 4, 5] rfl ?_
  exact wX7_seekRoots_0 hC hN hQ _ _ _ _  _ h
noncomputable def fX7_tellPart_0 (a1 : Int32) (a2 : Int32) (σ : zSt) : Option Int32 := 
    (if a1 < 0 then some (0 : Int32)
    else 
      (if (gi σ 5 5) ≤ a1 then some (0 : Int32)
      else 
        (if a1 < (60 : Int32) then 
          (
          if a2 = 0 then zg (vp_in a1 60) <| some (gi σ 18 a1.toNatClampNeg) else 
          if a2 = 1 then zg (vp_in a1 60) <| some (gi σ 19 a1.toNatClampNeg) else 
          if a2 = 2 then zg (vp_in a1 60) <| some (gi σ 20 a1.toNatClampNeg) else some (0 : Int32))
        else some (0 : Int32))))
noncomputable def fX7_tellPart (a1 : Int32) (a2 : Int32) (σ : zSt) : Option Int32 := fX7_tellPart_0 a1 a2 σ
set_option maxRecDepth 100000 in
set_option maxHeartbeats 4000000 in
theorem wX7_tellPart_0 {T : zX} {σ : zSt} (hC : zOk T cX7_tellPart RX7 0 0 0 61) (hN : zNL T = 3) {r : Int32} (hQ : zRes T (some .int) (some (.int r)) σ) (a1 : Int32) (a2 : Int32)  (h : fX7_tellPart_0 a1 a2 σ = some r) : Z T σ 0 [(0, .ref (zAd T (5))), (1, .int a1), (2, .int a2)] [] := by
  unfold fX7_tellPart_0 at h
  refine z_iload_n hC 1 rfl rfl dX7_tellPart_0 ?_
  refine z_if_lt hC 18 (by decide) dX7_tellPart_1 (fun q1_1 => ?_) (fun q1_1 => ?_)
  · replace h := z_t q1_1 h
    refine z_iconst hC (0 : Int32) (by decide) dX7_tellPart_18 ?_
    obtain rfl := z_so h
    exact z_iret hC hQ dX7_tellPart_19
  · replace h := z_f q1_1 h
    refine z_iload_n hC 1 rfl rfl dX7_tellPart_4 ?_
    refine z_aload_n hC 0 rfl rfl dX7_tellPart_5 ?_
    refine gX7_5 hC kf_X7_22 (gi σ 5 5) rfl dX7_tellPart_6 ?_
    refine z_icmp_ge hC 18 (by decide) dX7_tellPart_9 (fun q9_2 => ?_) (fun q9_2 => ?_)
    · replace h := z_t q9_2 h
      refine z_iconst hC (0 : Int32) (by decide) dX7_tellPart_18 ?_
      obtain rfl := z_so h
      exact z_iret hC hQ dX7_tellPart_19
    · replace h := z_f q9_2 h
      refine z_iload_n hC 1 rfl rfl dX7_tellPart_12 ?_
      refine z_bipush hC (60 : Int32) (by decide) dX7_tellPart_13 ?_
      refine z_icmp_lt hC 20 (by decide) dX7_tellPart_15 (fun q15_3 => ?_) (fun q15_3 => ?_)
      · replace h := z_t q15_3 h
        refine z_iload_n hC 2 rfl rfl dX7_tellPart_20 ?_
        refine z_ite h (fun q21_4 h => ?_) (fun q21_4 h => ?_)
        · refine z_tabIn hC (27) 48 (by rw [q21_4]; decide) (by rw [q21_4]; decide) (by rw [q21_4]; decide +kernel) (by decide) dX7_tellPart_21 ?_
          refine z_aload_n hC 0 rfl rfl dX7_tellPart_48 ?_
          refine gX7_1 hC kf_X7_13 dX7_tellPart_49 ?_
          refine z_iload_n hC 1 rfl rfl dX7_tellPart_52 ?_
          refine z_g h (fun g53_5 h => ?_)
          refine z_iald hC 18 ⟨by decide, by decide⟩ (zS_18 _ _ _) g53_5 (gi σ 18 a1.toNatClampNeg) rfl dX7_tellPart_53 ?_
          obtain rfl := z_so h
          exact z_iret hC hQ dX7_tellPart_54
        ·
          refine z_ite h (fun q21_6 h => ?_) (fun q21_6 h => ?_)
          · refine z_tabIn hC (34) 55 (by rw [q21_6]; decide) (by rw [q21_6]; decide) (by rw [q21_6]; decide +kernel) (by decide) dX7_tellPart_21 ?_
            refine z_aload_n hC 0 rfl rfl dX7_tellPart_55 ?_
            refine gX7_2 hC kf_X7_16 dX7_tellPart_56 ?_
            refine z_iload_n hC 1 rfl rfl dX7_tellPart_59 ?_
            refine z_g h (fun g60_7 h => ?_)
            refine z_iald hC 19 ⟨by decide, by decide⟩ (zS_19 _ _ _) g60_7 (gi σ 19 a1.toNatClampNeg) rfl dX7_tellPart_60 ?_
            obtain rfl := z_so h
            exact z_iret hC hQ dX7_tellPart_61
          ·
            refine z_ite h (fun q21_8 h => ?_) (fun q21_8 h => ?_)
            · refine z_tabIn hC (41) 62 (by rw [q21_8]; decide) (by rw [q21_8]; decide) (by rw [q21_8]; decide +kernel) (by decide) dX7_tellPart_21 ?_
              refine z_aload_n hC 0 rfl rfl dX7_tellPart_62 ?_
              refine gX7_3 hC kf_X7_19 dX7_tellPart_63 ?_
              refine z_iload_n hC 1 rfl rfl dX7_tellPart_66 ?_
              refine z_g h (fun g67_9 h => ?_)
              refine z_iald hC 20 ⟨by decide, by decide⟩ (zS_20 _ _ _) g67_9 (gi σ 20 a1.toNatClampNeg) rfl dX7_tellPart_67 ?_
              obtain rfl := z_so h
              exact z_iret hC hQ dX7_tellPart_68
            ·
              refine z_tabD hC 3 69 (by decide) (fun i hi => by
                  have hi2 : i = 0 ∨ i = 1 ∨ i = 2 := by omega
                  rcases hi2 with rfl | rfl | rfl
                  · exact Or.inr (fun e => q21_4 (e.symm.trans (by decide)))
                  · exact Or.inr (fun e => q21_6 (e.symm.trans (by decide)))
                  · exact Or.inr (fun e => q21_8 (e.symm.trans (by decide)))) (by decide) dX7_tellPart_21 ?_
              refine z_iconst hC (0 : Int32) (by decide) dX7_tellPart_69 ?_
              obtain rfl := z_so h
              exact z_iret hC hQ dX7_tellPart_70
      · replace h := z_f q15_3 h
        refine z_iconst hC (0 : Int32) (by decide) dX7_tellPart_18 ?_
        obtain rfl := z_so h
        exact z_iret hC hQ dX7_tellPart_19
set_option maxRecDepth 100000 in
theorem ctX7_tellPart {l : Launch} {G : zGt} {mk : zSt → zSt} (hm : zM mk 0 61) {a1 : Int32} {a2 : Int32} {σ : zSt} {r : Int32} (h : fX7_tellPart a1 a2 σ = some r) : zMet l G mk yX7_tellPart cX7_tellPart 3 (some .int) 0 0 [.ref (gA G (5)), .int a1, .int a2] σ (some (.int r)) σ := by
  unfold fX7_tellPart at h

  refine zMet.of (plainFor_of_name (by decide +kernel)) hm (Nat.le_of_ble_eq_true rfl) (fun T eL eG eM hN hC hQ => ?_)
  subst eL; subst eG; subst eM
  refine z_sub [(0, .ref (zAd T (5))), (1, .int a1), (2, .int a2)] [0, 1, 2] rfl ?_
  exact wX7_tellPart_0 hC hN hQ _ _  h
noncomputable def fX7_isAbove_0 (a0 : Int64) (a2 : Int32) : Int32 := 
    (if a0 = (4294967296 : Int64) then (0 : Int32)
    else 
      (if (fX5_lowOf a0) ≤ (Int32.toInt64 a2) then (0 : Int32)
      else (1 : Int32)))
noncomputable def fX7_isAbove (a0 : Int64) (a2 : Int32) : Int32 := fX7_isAbove_0 a0 a2
set_option maxRecDepth 100000 in
set_option maxHeartbeats 4000000 in
theorem wX7_isAbove_0 {T : zX} {cl ch : Nat} {σ : zSt} (hC : zOk T cX7_isAbove RX7 1 21 cl ch) (hN : zNL T = 3) {r : Int32} (hQ : zRes T (some .boolean) (some (.int r)) σ) (a0 : Int64) (a2 : Int32)  (h : fX7_isAbove_0 a0 a2  = r) : Z T σ 0 [(0, .long a0), (2, .int a2)] [] := by
  unfold fX7_isAbove_0 at h
  refine z_lload_n hC 0 rfl rfl dX7_isAbove_0 ?_
  refine z_ldc2 hC kc_X7_86 dX7_isAbove_1 ?_
  refine z_cmp_eq hC 22 (by decide) dX7_isAbove_4 dX7_isAbove_5 (fun q4_1 => ?_) (fun q4_1 => ?_)
  · replace h := z_t q4_1 h
    refine z_iconst hC (0 : Int32) (by decide) dX7_isAbove_22 ?_
    subst h
    exact z_zret hC hQ dX7_isAbove_23 (by decide)
  · replace h := z_f q4_1 h
    refine z_lload_n hC 0 rfl rfl dX7_isAbove_8 ?_
    refine z_cS1r hC (ctX5_lowOf hC.hm) kb_X5_lowOf km_X7_69 ⟨by decide, by decide⟩ (Nat.le_of_ble_eq_true rfl) dX7_isAbove_9 ?_
    refine z_iload_n hC 1 rfl rfl dX7_isAbove_12 ?_
    refine z_i2l hC dX7_isAbove_13 ?_
    refine z_cmp_le hC 22 (by decide) dX7_isAbove_14 dX7_isAbove_15 (fun q14_2 => ?_) (fun q14_2 => ?_)
    · replace h := z_t q14_2 h
      refine z_iconst hC (0 : Int32) (by decide) dX7_isAbove_22 ?_
      subst h
      exact z_zret hC hQ dX7_isAbove_23 (by decide)
    · replace h := z_f q14_2 h
      refine z_iconst hC (1 : Int32) (by decide) dX7_isAbove_18 ?_
      refine z_goto hC 23 (by decide) dX7_isAbove_19 ?_
      subst h
      exact z_zret hC hQ dX7_isAbove_23 (by decide)
set_option maxRecDepth 100000 in
theorem ctX7_isAbove {l : Launch} {G : zGt} {mk : zSt → zSt} {cl ch : Nat} (hm : zM mk cl ch) {a0 : Int64} {a2 : Int32} {σ : zSt} : zMet l G mk yX7_isAbove cX7_isAbove 3 (some .boolean) 1 21 [.long a0, .int a2] σ (some (.int (fX7_isAbove a0 a2 ))) σ := by

  refine zMet.of (plainFor_of_name (by decide +kernel)) hm (Nat.le_of_ble_eq_true rfl) (fun T eL eG eM hN hC hQ => ?_)
  subst eL; subst eG; subst eM
  refine z_sub [(0, .long a0), (2, .int a2)] [0, 1] rfl ?_
  exact wX7_isAbove_0 hC hN hQ _ _  rfl
noncomputable def fX7_breaks_36 (K3 : Int32 → Int32 → Int32 → Int32 → Int32 → zSt → Option (Int32 × zSt)) (v2 : Int32) (v3 : Int32) (v4 : Int32) (v5 : Int32) (v6 : Int32) (t0 : Int32) (σ : zSt) : Option (Int32 × zSt) := bd2 (fX1_measure v2 t0 t0 (0 : Int32) (si σ 5 7 t0)) fun r50_1 s50_2 => 
    (if r50_1 = (4294967296 : Int64) then nm (v6 + (1 : Int32)) fun x78_4 => K3 v2 v3 v4 v5 x78_4 s50_2
    else 
      (if (Int32.toInt64 v5) < (fX5_highOf r50_1) then nm (v6 + (1 : Int32)) fun x78_6 => K3 v2 v3 v4 v5 x78_6 s50_2
      else some ((1 : Int32), s50_2)))
noncomputable def fX7_breaks_3 (K3 : Int32 → Int32 → Int32 → Int32 → Int32 → zSt → Option (Int32 × zSt)) (v2 : Int32) (v3 : Int32) (v4 : Int32) (v5 : Int32) (v6 : Int32) (σ : zSt) : Option (Int32 × zSt) := 
    (if (3 : Int32) ≤ v6 then some ((0 : Int32), σ)
    else 
      (if v6 = 0 then fX7_breaks_36 K3 v2 v3 v4 v5 v6 v3 σ
      else 
        (if v6 = (1 : Int32) then fX7_breaks_36 K3 v2 v3 v4 v5 v6 v4 σ
        else fX7_breaks_36 K3 v2 v3 v4 v5 v6 (fX8_middleOf v3 v4) σ)))
noncomputable def fX7_breaks_L3 : Nat → Int32 → Int32 → Int32 → Int32 → Int32 → zSt → Option (Int32 × zSt)
  | 0, _, _, _, _, _, _ => none
  | n + 1, v2, v3, v4, v5, v6, σ => fX7_breaks_3 (fX7_breaks_L3 n) v2 v3 v4 v5 v6 σ
noncomputable def fX7_breaks_0 (a2 : Int32) (a3 : Int32) (a4 : Int32) (a5 : Int32) (σ : zSt) : Option (Int32 × zSt) := fX7_breaks_L3 zFU a2 a3 a4 a5 (0 : Int32) σ
noncomputable def fX7_breaks (a2 : Int32) (a3 : Int32) (a4 : Int32) (a5 : Int32) (σ : zSt) : Option (Int32 × zSt) := fX7_breaks_0 a2 a3 a4 a5 σ
set_option maxRecDepth 100000 in
set_option maxHeartbeats 4000000 in
theorem wX7_breaks_36 {T : zX} (hC : zOk T cX7_breaks RX7 5 147 0 61) (hN : zNL T = 9) {r : Int32} {σ' : zSt} (hQ : zRes T (some .boolean) (some (.int r)) σ') (K3 : Int32 → Int32 → Int32 → Int32 → Int32 → zSt → Option (Int32 × zSt)) (hK3 : ∀ (v2 : Int32) (v3 : Int32) (v4 : Int32) (v5 : Int32) (v6 : Int32) (τ : zSt), K3 v2 v3 v4 v5 v6 τ = some (r, σ') → Z T τ 3 [(0, .ref (zAd T (5))), (1, .ref (zAd T (3))), (2, .int v2), (3, .int v3), (4, .int v4), (5, .int v5), (6, .int v6)] []) (v2 : Int32) (v3 : Int32) (v4 : Int32) (v5 : Int32) (v6 : Int32) (t0 : Int32)  (σ : zSt) (h : fX7_breaks_36 K3 v2 v3 v4 v5 v6 t0 σ = some (r, σ')) : Z T σ 36 [(0, .ref (zAd T (5))), (1, .ref (zAd T (3))), (2, .int v2), (3, .int v3), (4, .int v4), (5, .int v5), (6, .int v6)] [.int t0, .ref (zAd T (5))] := by
  unfold fX7_breaks_36 at h
  refine pX7_7 hC kf_X7_88 dX7_breaks_36 ?_
  refine z_aload_n hC 1 rfl rfl dX7_breaks_39 ?_
  refine z_iload_n hC 2 rfl rfl dX7_breaks_40 ?_
  refine z_aload_n hC 0 rfl rfl dX7_breaks_41 ?_
  refine gX7_7 hC kf_X7_88 t0 rfl dX7_breaks_42 ?_
  refine z_aload_n hC 0 rfl rfl dX7_breaks_45 ?_
  refine gX7_7 hC kf_X7_88 t0 rfl dX7_breaks_46 ?_
  refine z_iconst hC (0 : Int32) (by decide) dX7_breaks_49 ?_
  refine z_b2 h (fun r50_1 s50_2 e_r50_1 h => ?_)
  refine z_cV4r hC (ctX1_measure hC.hm e_r50_1) (rcX1 hC) kb_X1_measure km_X7_53 ⟨by decide, by decide⟩ (Nat.le_of_ble_eq_true rfl) dX7_breaks_50 ?_
  refine z_lstore hC [(7, .long r50_1), (0, .ref (zAd T (5))), (1, .ref (zAd T (3))), (2, .int v2), (3, .int v3), (4, .int v4), (5, .int v5), (6, .int v6)] (by rw [hN]; decide) rfl dX7_breaks_53 ?_
  refine z_lload hC 0 rfl dX7_breaks_55 ?_
  refine z_ldc2 hC kc_X7_86 dX7_breaks_57 ?_
  refine z_cmp_eq hC 78 (by decide) dX7_breaks_60 dX7_breaks_61 (fun q60_3 => ?_) (fun q60_3 => ?_)
  · replace h := z_t q60_3 h
    refine z_nmE h (fun x78_4 e_x78_4 h => ?_)
    refine z_iinc hC x78_4 [(6, .int x78_4), (7, .long r50_1), (0, .ref (zAd T (5))), (1, .ref (zAd T (3))), (2, .int v2), (3, .int v3), (4, .int v4), (5, .int v5)] 7 rfl (by rw [e_x78_4]; rfl) (by rw [hN]; decide) rfl dX7_breaks_78 ?_
    refine z_goto hC 3 (by decide) dX7_breaks_81 ?_
    refine z_sub [(0, .ref (zAd T (5))), (1, .ref (zAd T (3))), (2, .int v2), (3, .int v3), (4, .int v4), (5, .int v5), (6, .int x78_4)] [2, 3, 4, 5, 6, 7, 0] rfl ?_
    exact hK3 _ _ _ _ _ _ h
  · replace h := z_f q60_3 h
    refine z_lload hC 0 rfl dX7_breaks_64 ?_
    refine z_cS1r hC (ctX5_highOf hC.hm) kb_X5_highOf km_X7_91 ⟨by decide, by decide⟩ (Nat.le_of_ble_eq_true rfl) dX7_breaks_66 ?_
    refine z_iload hC 6 rfl dX7_breaks_69 ?_
    refine z_i2l hC dX7_breaks_71 ?_
    refine z_cmp_gt hC 78 (by decide) dX7_breaks_72 dX7_breaks_73 (fun q72_5 => ?_) (fun q72_5 => ?_)
    · replace h := z_t q72_5 h
      refine z_nmE h (fun x78_6 e_x78_6 h => ?_)
      refine z_iinc hC x78_6 [(6, .int x78_6), (7, .long r50_1), (0, .ref (zAd T (5))), (1, .ref (zAd T (3))), (2, .int v2), (3, .int v3), (4, .int v4), (5, .int v5)] 7 rfl (by rw [e_x78_6]; rfl) (by rw [hN]; decide) rfl dX7_breaks_78 ?_
      refine z_goto hC 3 (by decide) dX7_breaks_81 ?_
      refine z_sub [(0, .ref (zAd T (5))), (1, .ref (zAd T (3))), (2, .int v2), (3, .int v3), (4, .int v4), (5, .int v5), (6, .int x78_6)] [2, 3, 4, 5, 6, 7, 0] rfl ?_
      exact hK3 _ _ _ _ _ _ h
    · replace h := z_f q72_5 h
      refine z_iconst hC (1 : Int32) (by decide) dX7_breaks_76 ?_
      obtain ⟨rfl, rfl⟩ := z_pr h
      exact z_zret hC hQ dX7_breaks_77 (by decide)
set_option maxRecDepth 100000 in
set_option maxHeartbeats 4000000 in
theorem wX7_breaks_3 {T : zX} (hC : zOk T cX7_breaks RX7 5 147 0 61) (hN : zNL T = 9) {r : Int32} {σ' : zSt} (hQ : zRes T (some .boolean) (some (.int r)) σ') (K3 : Int32 → Int32 → Int32 → Int32 → Int32 → zSt → Option (Int32 × zSt)) (hK3 : ∀ (v2 : Int32) (v3 : Int32) (v4 : Int32) (v5 : Int32) (v6 : Int32) (τ : zSt), K3 v2 v3 v4 v5 v6 τ = some (r, σ') → Z T τ 3 [(0, .ref (zAd T (5))), (1, .ref (zAd T (3))), (2, .int v2), (3, .int v3), (4, .int v4), (5, .int v5), (6, .int v6)] []) (v2 : Int32) (v3 : Int32) (v4 : Int32) (v5 : Int32) (v6 : Int32)  (σ : zSt) (h : fX7_breaks_3 K3 v2 v3 v4 v5 v6 σ = some (r, σ')) : Z T σ 3 [(0, .ref (zAd T (5))), (1, .ref (zAd T (3))), (2, .int v2), (3, .int v3), (4, .int v4), (5, .int v5), (6, .int v6)] [] := by
  unfold fX7_breaks_3 at h
  refine z_iload hC 6 rfl dX7_breaks_3 ?_
  refine z_iconst hC (3 : Int32) (by decide) dX7_breaks_5 ?_
  refine z_icmp_ge hC 84 (by decide) dX7_breaks_6 (fun q6_1 => ?_) (fun q6_1 => ?_)
  · replace h := z_t q6_1 h
    refine z_iconst hC (0 : Int32) (by decide) dX7_breaks_84 ?_
    obtain ⟨rfl, rfl⟩ := z_pr h
    exact z_zret hC hQ dX7_breaks_85 (by decide)
  · replace h := z_f q6_1 h
    refine z_aload_n hC 0 rfl rfl dX7_breaks_9 ?_
    refine z_iload hC 6 rfl dX7_breaks_10 ?_
    refine z_if_ne hC 19 (by decide) dX7_breaks_12 (fun q12_2 => ?_) (fun q12_2 => ?_)
    · replace h := z_f q12_2 h
      refine z_iload hC 6 rfl dX7_breaks_19 ?_
      refine z_iconst hC (1 : Int32) (by decide) dX7_breaks_21 ?_
      refine z_icmp_ne hC 30 (by decide) dX7_breaks_22 (fun q22_3 => ?_) (fun q22_3 => ?_)
      · replace h := z_f q22_3 h
        refine z_iload_n hC 3 rfl rfl dX7_breaks_30 ?_
        refine z_iload hC 4 rfl dX7_breaks_31 ?_
        refine z_cS2rN hC (ctX8_middleOf hC.hm) kb_X8_middleOf (by first | exact List.mem_cons_self | exact List.mem_cons_of_mem _ List.mem_cons_self) ⟨by decide, by decide⟩ (Nat.le_of_ble_eq_true rfl) dX7_breaks_33 ?_
        exact (wX7_breaks_36 hC hN hQ K3 hK3 ) _ _ _ _ _ _ _ h
      · replace h := z_t q22_3 h
        refine z_iload hC 4 rfl dX7_breaks_25 ?_
        refine z_goto hC 36 (by decide) dX7_breaks_27 ?_
        exact (wX7_breaks_36 hC hN hQ K3 hK3 ) _ _ _ _ _ _ _ h
    · replace h := z_t q12_2 h
      refine z_iload_n hC 3 rfl rfl dX7_breaks_15 ?_
      refine z_goto hC 36 (by decide) dX7_breaks_16 ?_
      exact (wX7_breaks_36 hC hN hQ K3 hK3 ) _ _ _ _ _ _ _ h
theorem wX7_breaks_L3 {T : zX} (hC : zOk T cX7_breaks RX7 5 147 0 61) (hN : zNL T = 9) {r : Int32} {σ' : zSt} (hQ : zRes T (some .boolean) (some (.int r)) σ') (n : Nat) : ∀ (v2 : Int32) (v3 : Int32) (v4 : Int32) (v5 : Int32) (v6 : Int32) (σ : zSt), fX7_breaks_L3 n v2 v3 v4 v5 v6 σ = some (r, σ') → Z T σ 3 [(0, .ref (zAd T (5))), (1, .ref (zAd T (3))), (2, .int v2), (3, .int v3), (4, .int v4), (5, .int v5), (6, .int v6)] [] := by
  induction n with
  | zero => intro v2 v3 v4 v5 v6 σ h; cases h
  | succ n ih => intro v2 v3 v4 v5 v6 σ h; exact wX7_breaks_3 hC hN hQ (fX7_breaks_L3 n) ih v2 v3 v4 v5 v6 σ h
set_option maxRecDepth 100000 in
set_option maxHeartbeats 4000000 in
theorem wX7_breaks_0 {T : zX} (hC : zOk T cX7_breaks RX7 5 147 0 61) (hN : zNL T = 9) {r : Int32} {σ' : zSt} (hQ : zRes T (some .boolean) (some (.int r)) σ') (a2 : Int32) (a3 : Int32) (a4 : Int32) (a5 : Int32)  (σ : zSt) (h : fX7_breaks_0 a2 a3 a4 a5 σ = some (r, σ')) : Z T σ 0 [(0, .ref (zAd T (5))), (1, .ref (zAd T (3))), (2, .int a2), (3, .int a3), (4, .int a4), (5, .int a5)] [] := by
  unfold fX7_breaks_0 at h
  refine z_iconst hC (0 : Int32) (by decide) dX7_breaks_0 ?_
  refine z_istore hC [(6, .int (0 : Int32)), (0, .ref (zAd T (5))), (1, .ref (zAd T (3))), (2, .int a2), (3, .int a3), (4, .int a4), (5, .int a5)] (by rw [hN]; decide) rfl dX7_breaks_1 ?_
  refine z_sub [(0, .ref (zAd T (5))), (1, .ref (zAd T (3))), (2, .int a2), (3, .int a3), (4, .int a4), (5, .int a5), (6, .int (0 : Int32))] [1, 2, 3, 4, 5, 6, 0] rfl ?_
  exact (wX7_breaks_L3 hC hN hQ zFU) _ _ _ _ _ _ h
set_option maxRecDepth 100000 in
theorem ctX7_breaks {l : Launch} {G : zGt} {mk : zSt → zSt} (hm : zM mk 0 61) {a2 : Int32} {a3 : Int32} {a4 : Int32} {a5 : Int32} {σ : zSt} {r : Int32} {σ' : zSt} (h : fX7_breaks a2 a3 a4 a5 σ = some (r, σ')) : zMet l G mk yX7_breaks cX7_breaks 9 (some .boolean) 5 147 [.ref (gA G (5)), .ref (gA G (3)), .int a2, .int a3, .int a4, .int a5] σ (some (.int r)) σ' := by
  unfold fX7_breaks at h

  refine zMet.of (plainFor_of_name (by decide +kernel)) hm (Nat.le_of_ble_eq_true rfl) (fun T eL eG eM hN hC hQ => ?_)
  subst eL; subst eG; subst eM
  refine z_sub [(0, .ref (zAd T (5))), (1, .ref (zAd T (3))), (2, .int a2), (3, .int a3), (4, .int a4), (5, .int a5)] [0, 1, 2, 3, 4, 5] rfl ?_
  exact wX7_breaks_0 hC hN hQ _ _ _ _  _ h
noncomputable def fX7_seekBreak_145 (K22 : Int32 → Int32 → Int32 → Int32 → Int32 → zSt → Option (Int32 × zSt)) (v2 : Int32) (v5 : Int32) (v6 : Int32) (v9 : Int32) (σ : zSt) : Option (Int32 × zSt) := K22 v2 v5 v6 v9 (1 : Int32) (si (si σ 5 4 ((gi σ 5 4) - (1 : Int32))) 5 6 ((gi σ 5 6) + (1 : Int32)))
noncomputable def fX7_seekBreak_135 (K22 : Int32 → Int32 → Int32 → Int32 → Int32 → zSt → Option (Int32 × zSt)) (v2 : Int32) (v5 : Int32) (v6 : Int32) (v8 : Int32) (v9 : Int32) (v10 : Int32) (σ : zSt) : Option (Int32 × zSt) := 
    (if v8 = 0 then 
      (if v10 = 0 then fX7_seekBreak_145 K22 v2 v5 v6 v9 σ
      else K22 v2 v5 v6 v9 (0 : Int32) (si (si σ 5 4 ((gi σ 5 4) - (1 : Int32))) 5 6 ((gi σ 5 6) + (1 : Int32))))
    else fX7_seekBreak_145 K22 v2 v5 v6 v9 σ)
noncomputable def fX7_seekBreak_93 (K22 : Int32 → Int32 → Int32 → Int32 → Int32 → zSt → Option (Int32 × zSt)) (v2 : Int32) (v5 : Int32) (v6 : Int32) (v7 : Int32) (v8 : Int32) (v9 : Int32) (v10 : Int32) (σ : zSt) : Option (Int32 × zSt) := 
    (if v10 = 0 then 
      (if ((Int32.toInt64 v9) - (Int32.toInt64 v7)) < (2 : Int64) then fX7_seekBreak_135 K22 v2 v5 v6 v8 v9 v10 σ
      else 
        (if (64 : Int32) ≤ (gi σ 5 4) then fX7_seekBreak_135 K22 v2 v5 v6 v8 v9 v10 σ
        else bd1 (fX7_await (fX8_middleOf v7 v9) σ) fun s129_4 => nm ((gi s129_4 5 6) + (1 : Int32)) fun x173_5 => K22 v2 v5 v6 v7 v8 (si s129_4 5 6 x173_5)))
    else fX7_seekBreak_135 K22 v2 v5 v6 v8 v9 v10 σ)
noncomputable def fX7_seekBreak_22 (K22 : Int32 → Int32 → Int32 → Int32 → Int32 → zSt → Option (Int32 × zSt)) (v2 : Int32) (v5 : Int32) (v6 : Int32) (v7 : Int32) (v8 : Int32) (σ : zSt) : Option (Int32 × zSt) := 
    (if v6 ≤ (gi σ 5 6) then 
      (if v8 = 0 then 
        (if (gi σ 5 4) ≤ 0 then some ((1 : Int32), σ)
        else some ((2 : Int32), σ))
      else some ((2 : Int32), σ))
    else 
      (if (gi σ 5 4) ≤ 0 then 
        (if v8 = 0 then 
          (if (gi σ 5 4) ≤ 0 then some ((1 : Int32), σ)
          else some ((2 : Int32), σ))
        else some ((2 : Int32), σ))
      else bd1 (fX7_firstEnd σ) fun r39_7 => bd2 (fX1_measure v2 v7 r39_7 (0 : Int32) σ) fun r51_8 s51_9 => nm (fX7_isAbove r51_8 v5) fun x59_10 => 
        (if x59_10 = 0 then bd2 (fX7_breaks v2 v7 r39_7 v5 s51_9) fun r75_12 s75_13 => 
          (if r75_12 = 0 then fX7_seekBreak_93 K22 v2 v5 v6 v7 v8 r39_7 x59_10 s75_13
          else nm ((gi s75_13 5 6) + (1 : Int32)) fun x88_15 => some ((0 : Int32), (si s75_13 5 6 x88_15)))
        else fX7_seekBreak_93 K22 v2 v5 v6 v7 v8 r39_7 x59_10 s51_9)))
noncomputable def fX7_seekBreak_L22 : Nat → Int32 → Int32 → Int32 → Int32 → Int32 → zSt → Option (Int32 × zSt)
  | 0, _, _, _, _, _, _ => none
  | n + 1, v2, v5, v6, v7, v8, σ => fX7_seekBreak_22 (fX7_seekBreak_L22 n) v2 v5 v6 v7 v8 σ
noncomputable def fX7_seekBreak_0 (a2 : Int32) (a3 : Int32) (a4 : Int32) (a5 : Int32) (a6 : Int32) (σ : zSt) : Option (Int32 × zSt) := bd1 (fX7_await a4 (si σ 5 4 (0 : Int32))) fun s14_1 => fX7_seekBreak_L22 zFU a2 a5 a6 a3 (0 : Int32) (si s14_1 5 6 (0 : Int32))
noncomputable def fX7_seekBreak (a2 : Int32) (a3 : Int32) (a4 : Int32) (a5 : Int32) (a6 : Int32) (σ : zSt) : Option (Int32 × zSt) := fX7_seekBreak_0 a2 a3 a4 a5 a6 σ
set_option maxRecDepth 100000 in
set_option maxHeartbeats 4000000 in
theorem wX7_seekBreak_145 {T : zX} (hC : zOk T cX7_seekBreak RX7 6 175 0 61) (hN : zNL T = 11) {r : Int32} {σ' : zSt} (hQ : zRes T (some .int) (some (.int r)) σ') (K22 : Int32 → Int32 → Int32 → Int32 → Int32 → zSt → Option (Int32 × zSt)) (hK22 : ∀ (v2 : Int32) (v5 : Int32) (v6 : Int32) (v7 : Int32) (v8 : Int32) (τ : zSt), K22 v2 v5 v6 v7 v8 τ = some (r, σ') → Z T τ 22 [(0, .ref (zAd T (5))), (1, .ref (zAd T (3))), (2, .int v2), (5, .int v5), (6, .int v6), (7, .int v7), (8, .int v8)] []) (v2 : Int32) (v5 : Int32) (v6 : Int32) (v9 : Int32)  (σ : zSt) (h : fX7_seekBreak_145 K22 v2 v5 v6 v9 σ = some (r, σ')) : Z T σ 145 [(0, .ref (zAd T (5))), (1, .ref (zAd T (3))), (2, .int v2), (5, .int v5), (6, .int v6), (9, .int v9)] [] := by
  unfold fX7_seekBreak_145 at h
  refine z_iconst hC (1 : Int32) (by decide) dX7_seekBreak_145 ?_
  refine z_goto hC 150 (by decide) dX7_seekBreak_146 ?_
  refine z_istore hC [(8, .int (1 : Int32)), (0, .ref (zAd T (5))), (1, .ref (zAd T (3))), (2, .int v2), (5, .int v5), (6, .int v6), (9, .int v9)] (by rw [hN]; decide) rfl dX7_seekBreak_150 ?_
  refine z_iload hC 6 rfl dX7_seekBreak_152 ?_
  refine z_istore hC [(7, .int v9), (8, .int (1 : Int32)), (0, .ref (zAd T (5))), (1, .ref (zAd T (3))), (2, .int v2), (5, .int v5), (6, .int v6), (9, .int v9)] (by rw [hN]; decide) rfl dX7_seekBreak_154 ?_
  refine z_aload_n hC 2 rfl rfl dX7_seekBreak_156 ?_
  refine z_dup hC rfl dX7_seekBreak_157 ?_
  refine gX7_4 hC kf_X7_26 (gi σ 5 4) rfl dX7_seekBreak_158 ?_
  refine z_iconst hC (1 : Int32) (by decide) dX7_seekBreak_161 ?_
  refine z_isub hC dX7_seekBreak_162 ?_
  refine pX7_4 hC kf_X7_26 dX7_seekBreak_163 ?_
  refine z_aload_n hC 2 rfl rfl dX7_seekBreak_166 ?_
  refine z_dup hC rfl dX7_seekBreak_167 ?_
  refine gX7_6 hC kf_X7_73 (gi σ 5 6) rfl dX7_seekBreak_168 ?_
  refine z_iconst hC (1 : Int32) (by decide) dX7_seekBreak_171 ?_
  refine z_iadd hC dX7_seekBreak_172 ?_
  refine pX7_6 hC kf_X7_73 dX7_seekBreak_173 ?_
  refine z_goto hC 22 (by decide) dX7_seekBreak_176 ?_
  refine z_sub [(0, .ref (zAd T (5))), (1, .ref (zAd T (3))), (2, .int v2), (5, .int v5), (6, .int v6), (7, .int v9), (8, .int (1 : Int32))] [2, 3, 4, 5, 6, 0, 1] rfl ?_
  exact hK22 _ _ _ _ _ _ h
set_option maxRecDepth 100000 in
set_option maxHeartbeats 4000000 in
theorem wX7_seekBreak_135 {T : zX} (hC : zOk T cX7_seekBreak RX7 6 175 0 61) (hN : zNL T = 11) {r : Int32} {σ' : zSt} (hQ : zRes T (some .int) (some (.int r)) σ') (K22 : Int32 → Int32 → Int32 → Int32 → Int32 → zSt → Option (Int32 × zSt)) (hK22 : ∀ (v2 : Int32) (v5 : Int32) (v6 : Int32) (v7 : Int32) (v8 : Int32) (τ : zSt), K22 v2 v5 v6 v7 v8 τ = some (r, σ') → Z T τ 22 [(0, .ref (zAd T (5))), (1, .ref (zAd T (3))), (2, .int v2), (5, .int v5), (6, .int v6), (7, .int v7), (8, .int v8)] []) (v2 : Int32) (v5 : Int32) (v6 : Int32) (v8 : Int32) (v9 : Int32) (v10 : Int32)  (σ : zSt) (h : fX7_seekBreak_135 K22 v2 v5 v6 v8 v9 v10 σ = some (r, σ')) : Z T σ 135 [(0, .ref (zAd T (5))), (1, .ref (zAd T (3))), (2, .int v2), (5, .int v5), (6, .int v6), (8, .int v8), (9, .int v9), (10, .int v10)] [] := by
  unfold fX7_seekBreak_135 at h
  refine z_iload hC 5 rfl dX7_seekBreak_135 ?_
  refine z_if_ne hC 145 (by decide) dX7_seekBreak_137 (fun q137_1 => ?_) (fun q137_1 => ?_)
  · replace h := z_f q137_1 h
    refine z_sub [(0, .ref (zAd T (5))), (1, .ref (zAd T (3))), (2, .int v2), (5, .int v5), (6, .int v6), (9, .int v9)] [0, 1, 2, 3, 4, 6] rfl ?_
    exact (wX7_seekBreak_145 hC hN hQ K22 hK22 ) _ _ _ _ _ h
  · replace h := z_t q137_1 h
    refine z_iload hC 7 rfl dX7_seekBreak_140 ?_
    refine z_if_ne hC 149 (by decide) dX7_seekBreak_142 (fun q142_2 => ?_) (fun q142_2 => ?_)
    · replace h := z_f q142_2 h
      refine z_iconst hC (0 : Int32) (by decide) dX7_seekBreak_149 ?_
      refine z_istore hC [(8, .int (0 : Int32)), (0, .ref (zAd T (5))), (1, .ref (zAd T (3))), (2, .int v2), (5, .int v5), (6, .int v6), (9, .int v9), (10, .int v10)] (by rw [hN]; decide) rfl dX7_seekBreak_150 ?_
      refine z_iload hC 6 rfl dX7_seekBreak_152 ?_
      refine z_istore hC [(7, .int v9), (8, .int (0 : Int32)), (0, .ref (zAd T (5))), (1, .ref (zAd T (3))), (2, .int v2), (5, .int v5), (6, .int v6), (9, .int v9), (10, .int v10)] (by rw [hN]; decide) rfl dX7_seekBreak_154 ?_
      refine z_aload_n hC 2 rfl rfl dX7_seekBreak_156 ?_
      refine z_dup hC rfl dX7_seekBreak_157 ?_
      refine gX7_4 hC kf_X7_26 (gi σ 5 4) rfl dX7_seekBreak_158 ?_
      refine z_iconst hC (1 : Int32) (by decide) dX7_seekBreak_161 ?_
      refine z_isub hC dX7_seekBreak_162 ?_
      refine pX7_4 hC kf_X7_26 dX7_seekBreak_163 ?_
      refine z_aload_n hC 2 rfl rfl dX7_seekBreak_166 ?_
      refine z_dup hC rfl dX7_seekBreak_167 ?_
      refine gX7_6 hC kf_X7_73 (gi σ 5 6) rfl dX7_seekBreak_168 ?_
      refine z_iconst hC (1 : Int32) (by decide) dX7_seekBreak_171 ?_
      refine z_iadd hC dX7_seekBreak_172 ?_
      refine pX7_6 hC kf_X7_73 dX7_seekBreak_173 ?_
      refine z_goto hC 22 (by decide) dX7_seekBreak_176 ?_
      refine z_sub [(0, .ref (zAd T (5))), (1, .ref (zAd T (3))), (2, .int v2), (5, .int v5), (6, .int v6), (7, .int v9), (8, .int (0 : Int32))] [2, 3, 4, 5, 6, 0, 1] rfl ?_
      exact hK22 _ _ _ _ _ _ h
    · replace h := z_t q142_2 h
      refine z_sub [(0, .ref (zAd T (5))), (1, .ref (zAd T (3))), (2, .int v2), (5, .int v5), (6, .int v6), (9, .int v9)] [0, 1, 2, 3, 4, 6] rfl ?_
      exact (wX7_seekBreak_145 hC hN hQ K22 hK22 ) _ _ _ _ _ h
set_option maxRecDepth 100000 in
set_option maxHeartbeats 4000000 in
theorem wX7_seekBreak_93 {T : zX} (hC : zOk T cX7_seekBreak RX7 6 175 0 61) (hN : zNL T = 11) {r : Int32} {σ' : zSt} (hQ : zRes T (some .int) (some (.int r)) σ') (K22 : Int32 → Int32 → Int32 → Int32 → Int32 → zSt → Option (Int32 × zSt)) (hK22 : ∀ (v2 : Int32) (v5 : Int32) (v6 : Int32) (v7 : Int32) (v8 : Int32) (τ : zSt), K22 v2 v5 v6 v7 v8 τ = some (r, σ') → Z T τ 22 [(0, .ref (zAd T (5))), (1, .ref (zAd T (3))), (2, .int v2), (5, .int v5), (6, .int v6), (7, .int v7), (8, .int v8)] []) (v2 : Int32) (v5 : Int32) (v6 : Int32) (v7 : Int32) (v8 : Int32) (v9 : Int32) (v10 : Int32)  (σ : zSt) (h : fX7_seekBreak_93 K22 v2 v5 v6 v7 v8 v9 v10 σ = some (r, σ')) : Z T σ 93 [(0, .ref (zAd T (5))), (1, .ref (zAd T (3))), (2, .int v2), (5, .int v5), (6, .int v6), (7, .int v7), (8, .int v8), (9, .int v9), (10, .int v10)] [] := by
  unfold fX7_seekBreak_93 at h
  refine z_iload hC 8 rfl dX7_seekBreak_93 ?_
  refine z_if_ne hC 135 (by decide) dX7_seekBreak_95 (fun q95_1 => ?_) (fun q95_1 => ?_)
  · replace h := z_f q95_1 h
    refine z_sub [(0, .ref (zAd T (5))), (1, .ref (zAd T (3))), (2, .int v2), (5, .int v5), (6, .int v6), (8, .int v8), (9, .int v9), (10, .int v10)] [0, 1, 2, 3, 4, 6, 7, 8] rfl ?_
    exact (wX7_seekBreak_135 hC hN hQ K22 hK22 ) _ _ _ _ _ _ _ h
  · replace h := z_t q95_1 h
    refine z_iload hC 7 rfl dX7_seekBreak_98 ?_
    refine z_i2l hC dX7_seekBreak_100 ?_
    refine z_iload hC 5 rfl dX7_seekBreak_101 ?_
    refine z_i2l hC dX7_seekBreak_103 ?_
    refine z_lsub hC dX7_seekBreak_104 ?_
    refine z_ldc2 hC kc_X7_84 dX7_seekBreak_105 ?_
    refine z_cmp_lt hC 135 (by decide) dX7_seekBreak_108 dX7_seekBreak_109 (fun q108_2 => ?_) (fun q108_2 => ?_)
    · replace h := z_t q108_2 h
      refine z_sub [(0, .ref (zAd T (5))), (1, .ref (zAd T (3))), (2, .int v2), (5, .int v5), (6, .int v6), (8, .int v8), (9, .int v9), (10, .int v10)] [0, 1, 2, 3, 4, 6, 7, 8] rfl ?_
      exact (wX7_seekBreak_135 hC hN hQ K22 hK22 ) _ _ _ _ _ _ _ h
    · replace h := z_f q108_2 h
      refine z_aload_n hC 0 rfl rfl dX7_seekBreak_112 ?_
      refine gX7_4 hC kf_X7_26 (gi σ 5 4) rfl dX7_seekBreak_113 ?_
      refine z_bipush hC (64 : Int32) (by decide) dX7_seekBreak_116 ?_
      refine z_icmp_ge hC 135 (by decide) dX7_seekBreak_118 (fun q118_3 => ?_) (fun q118_3 => ?_)
      · replace h := z_t q118_3 h
        refine z_sub [(0, .ref (zAd T (5))), (1, .ref (zAd T (3))), (2, .int v2), (5, .int v5), (6, .int v6), (8, .int v8), (9, .int v9), (10, .int v10)] [0, 1, 2, 3, 4, 6, 7, 8] rfl ?_
        exact (wX7_seekBreak_135 hC hN hQ K22 hK22 ) _ _ _ _ _ _ _ h
      · replace h := z_f q118_3 h
        refine z_aload_n hC 0 rfl rfl dX7_seekBreak_121 ?_
        refine z_iload hC 5 rfl dX7_seekBreak_122 ?_
        refine z_iload hC 7 rfl dX7_seekBreak_124 ?_
        refine z_cS2rN hC (ctX8_middleOf hC.hm) kb_X8_middleOf (by first | exact List.mem_cons_self | exact List.mem_cons_of_mem _ List.mem_cons_self) ⟨by decide, by decide⟩ (Nat.le_of_ble_eq_true rfl) dX7_seekBreak_126 ?_
        refine z_b1 h (fun s129_4 e_s129_4 h => ?_)
        refine z_cV1v hC (ctX7_await hC.hm e_s129_4) (rcX7 hC) kb_X7_await km_X7_29 ⟨by decide, by decide⟩ (Nat.le_of_ble_eq_true rfl) dX7_seekBreak_129 ?_
        refine z_goto hC 166 (by decide) dX7_seekBreak_132 ?_
        refine z_aload_n hC 0 rfl rfl dX7_seekBreak_166 ?_
        refine z_dup hC rfl dX7_seekBreak_167 ?_
        refine gX7_6 hC kf_X7_73 (gi s129_4 5 6) rfl dX7_seekBreak_168 ?_
        refine z_iconst hC (1 : Int32) (by decide) dX7_seekBreak_171 ?_
        refine z_iadd hC dX7_seekBreak_172 ?_
        refine z_nmI h (fun x173_5 h => ?_)
        refine pX7_6 hC kf_X7_73 dX7_seekBreak_173 ?_
        refine z_goto hC 22 (by decide) dX7_seekBreak_176 ?_
        refine z_sub [(0, .ref (zAd T (5))), (1, .ref (zAd T (3))), (2, .int v2), (5, .int v5), (6, .int v6), (7, .int v7), (8, .int v8)] [0, 1, 2, 3, 4, 5, 6] rfl ?_
        exact hK22 _ _ _ _ _ _ h
set_option maxRecDepth 100000 in
set_option maxHeartbeats 4000000 in
theorem wX7_seekBreak_22 {T : zX} (hC : zOk T cX7_seekBreak RX7 6 175 0 61) (hN : zNL T = 11) {r : Int32} {σ' : zSt} (hQ : zRes T (some .int) (some (.int r)) σ') (K22 : Int32 → Int32 → Int32 → Int32 → Int32 → zSt → Option (Int32 × zSt)) (hK22 : ∀ (v2 : Int32) (v5 : Int32) (v6 : Int32) (v7 : Int32) (v8 : Int32) (τ : zSt), K22 v2 v5 v6 v7 v8 τ = some (r, σ') → Z T τ 22 [(0, .ref (zAd T (5))), (1, .ref (zAd T (3))), (2, .int v2), (5, .int v5), (6, .int v6), (7, .int v7), (8, .int v8)] []) (v2 : Int32) (v5 : Int32) (v6 : Int32) (v7 : Int32) (v8 : Int32)  (σ : zSt) (h : fX7_seekBreak_22 K22 v2 v5 v6 v7 v8 σ = some (r, σ')) : Z T σ 22 [(0, .ref (zAd T (5))), (1, .ref (zAd T (3))), (2, .int v2), (5, .int v5), (6, .int v6), (7, .int v7), (8, .int v8)] [] := by
  unfold fX7_seekBreak_22 at h
  refine z_aload_n hC 0 rfl rfl dX7_seekBreak_22 ?_
  refine gX7_6 hC kf_X7_73 (gi σ 5 6) rfl dX7_seekBreak_23 ?_
  refine z_iload hC 4 rfl dX7_seekBreak_26 ?_
  refine z_icmp_ge hC 179 (by decide) dX7_seekBreak_28 (fun q28_1 => ?_) (fun q28_1 => ?_)
  · replace h := z_t q28_1 h
    refine z_iload hC 6 rfl dX7_seekBreak_179 ?_
    refine z_if_ne hC 191 (by decide) dX7_seekBreak_181 (fun q181_2 => ?_) (fun q181_2 => ?_)
    · replace h := z_f q181_2 h
      refine z_iconst hC (2 : Int32) (by decide) dX7_seekBreak_191 ?_
      refine z_goto hC 196 (by decide) dX7_seekBreak_192 ?_
      obtain ⟨rfl, rfl⟩ := z_pr h
      exact z_iret hC hQ dX7_seekBreak_196
    · replace h := z_t q181_2 h
      refine z_aload_n hC 0 rfl rfl dX7_seekBreak_184 ?_
      refine gX7_4 hC kf_X7_26 (gi σ 5 4) rfl dX7_seekBreak_185 ?_
      refine z_if_le hC 195 (by decide) dX7_seekBreak_188 (fun q188_3 => ?_) (fun q188_3 => ?_)
      · replace h := z_t q188_3 h
        refine z_iconst hC (1 : Int32) (by decide) dX7_seekBreak_195 ?_
        obtain ⟨rfl, rfl⟩ := z_pr h
        exact z_iret hC hQ dX7_seekBreak_196
      · replace h := z_f q188_3 h
        refine z_iconst hC (2 : Int32) (by decide) dX7_seekBreak_191 ?_
        refine z_goto hC 196 (by decide) dX7_seekBreak_192 ?_
        obtain ⟨rfl, rfl⟩ := z_pr h
        exact z_iret hC hQ dX7_seekBreak_196
  · replace h := z_f q28_1 h
    refine z_aload_n hC 0 rfl rfl dX7_seekBreak_31 ?_
    refine gX7_4 hC kf_X7_26 (gi σ 5 4) rfl dX7_seekBreak_32 ?_
    refine z_if_le hC 179 (by decide) dX7_seekBreak_35 (fun q35_4 => ?_) (fun q35_4 => ?_)
    · replace h := z_t q35_4 h
      refine z_iload hC 6 rfl dX7_seekBreak_179 ?_
      refine z_if_ne hC 191 (by decide) dX7_seekBreak_181 (fun q181_5 => ?_) (fun q181_5 => ?_)
      · replace h := z_f q181_5 h
        refine z_iconst hC (2 : Int32) (by decide) dX7_seekBreak_191 ?_
        refine z_goto hC 196 (by decide) dX7_seekBreak_192 ?_
        obtain ⟨rfl, rfl⟩ := z_pr h
        exact z_iret hC hQ dX7_seekBreak_196
      · replace h := z_t q181_5 h
        refine z_aload_n hC 0 rfl rfl dX7_seekBreak_184 ?_
        refine gX7_4 hC kf_X7_26 (gi σ 5 4) rfl dX7_seekBreak_185 ?_
        refine z_if_le hC 195 (by decide) dX7_seekBreak_188 (fun q188_6 => ?_) (fun q188_6 => ?_)
        · replace h := z_t q188_6 h
          refine z_iconst hC (1 : Int32) (by decide) dX7_seekBreak_195 ?_
          obtain ⟨rfl, rfl⟩ := z_pr h
          exact z_iret hC hQ dX7_seekBreak_196
        · replace h := z_f q188_6 h
          refine z_iconst hC (2 : Int32) (by decide) dX7_seekBreak_191 ?_
          refine z_goto hC 196 (by decide) dX7_seekBreak_192 ?_
          obtain ⟨rfl, rfl⟩ := z_pr h
          exact z_iret hC hQ dX7_seekBreak_196
    · replace h := z_f q35_4 h
      refine z_aload_n hC 0 rfl rfl dX7_seekBreak_38 ?_
      refine z_b1 h (fun r39_7 e_r39_7 h => ?_)
      refine z_cV0r hC (ctX7_firstEnd hC.hm e_r39_7) (rcX7 hC) kb_X7_firstEnd km_X7_35 ⟨by decide, by decide⟩ (Nat.le_of_ble_eq_true rfl) dX7_seekBreak_39 ?_
      refine z_istore hC [(9, .int r39_7), (0, .ref (zAd T (5))), (1, .ref (zAd T (3))), (2, .int v2), (5, .int v5), (6, .int v6), (7, .int v7), (8, .int v8)] (by rw [hN]; decide) rfl dX7_seekBreak_42 ?_
      refine z_aload_n hC 2 rfl rfl dX7_seekBreak_44 ?_
      refine z_iload_n hC 3 rfl rfl dX7_seekBreak_45 ?_
      refine z_iload hC 6 rfl dX7_seekBreak_46 ?_
      refine z_iload hC 0 rfl dX7_seekBreak_48 ?_
      refine z_iconst hC (0 : Int32) (by decide) dX7_seekBreak_50 ?_
      refine z_b2 h (fun r51_8 s51_9 e_r51_8 h => ?_)
      refine z_cV4r hC (ctX1_measure hC.hm e_r51_8) (rcX1 hC) kb_X1_measure km_X7_53 ⟨by decide, by decide⟩ (Nat.le_of_ble_eq_true rfl) dX7_seekBreak_51 ?_
      refine z_iload hC 4 rfl dX7_seekBreak_54 ?_
      refine z_cS2r hC (ctX7_isAbove hC.hm) kb_X7_isAbove km_X7_76 ⟨by decide, by decide⟩ (Nat.le_of_ble_eq_true rfl) dX7_seekBreak_56 ?_
      refine z_nmI h (fun x59_10 h => ?_)
      refine z_istore hC [(10, .int x59_10), (9, .int r39_7), (0, .ref (zAd T (5))), (1, .ref (zAd T (3))), (2, .int v2), (5, .int v5), (6, .int v6), (7, .int v7), (8, .int v8)] (by rw [hN]; decide) rfl dX7_seekBreak_59 ?_
      refine z_iload hC 0 rfl dX7_seekBreak_61 ?_
      refine z_if_ne hC 93 (by decide) dX7_seekBreak_63 (fun q63_11 => ?_) (fun q63_11 => ?_)
      · replace h := z_f q63_11 h
        refine z_sub [(0, .ref (zAd T (5))), (1, .ref (zAd T (3))), (2, .int v2), (5, .int v5), (6, .int v6), (7, .int v7), (8, .int v8), (9, .int r39_7), (10, .int x59_10)] [2, 3, 4, 5, 6, 7, 8, 1, 0] rfl ?_
        exact (wX7_seekBreak_93 hC hN hQ K22 hK22 ) _ _ _ _ _ _ _ _ h
      · replace h := z_t q63_11 h
        refine z_aload_n hC 2 rfl rfl dX7_seekBreak_66 ?_
        refine z_aload_n hC 3 rfl rfl dX7_seekBreak_67 ?_
        refine z_iload_n hC 4 rfl rfl dX7_seekBreak_68 ?_
        refine z_iload hC 7 rfl dX7_seekBreak_69 ?_
        refine z_iload hC 1 rfl dX7_seekBreak_71 ?_
        refine z_iload hC 5 rfl dX7_seekBreak_73 ?_
        refine z_b2 h (fun r75_12 s75_13 e_r75_12 h => ?_)
        refine z_cV5r hC (ctX7_breaks hC.hm e_r75_12) (rcX7 hC) kb_X7_breaks km_X7_80 ⟨by decide, by decide⟩ (Nat.le_of_ble_eq_true rfl) dX7_seekBreak_75 ?_
        refine z_if_eq hC 93 (by decide) dX7_seekBreak_78 (fun q78_14 => ?_) (fun q78_14 => ?_)
        · replace h := z_t q78_14 h
          refine z_sub [(0, .ref (zAd T (5))), (1, .ref (zAd T (3))), (2, .int v2), (5, .int v5), (6, .int v6), (7, .int v7), (8, .int v8), (9, .int r39_7), (10, .int x59_10)] [2, 3, 4, 5, 6, 7, 8, 1, 0] rfl ?_
          exact (wX7_seekBreak_93 hC hN hQ K22 hK22 ) _ _ _ _ _ _ _ _ h
        · replace h := z_f q78_14 h
          refine z_aload_n hC 2 rfl rfl dX7_seekBreak_81 ?_
          refine z_dup hC rfl dX7_seekBreak_82 ?_
          refine gX7_6 hC kf_X7_73 (gi s75_13 5 6) rfl dX7_seekBreak_83 ?_
          refine z_iconst hC (1 : Int32) (by decide) dX7_seekBreak_86 ?_
          refine z_iadd hC dX7_seekBreak_87 ?_
          refine z_nmI h (fun x88_15 h => ?_)
          refine pX7_6 hC kf_X7_73 dX7_seekBreak_88 ?_
          refine z_iconst hC (0 : Int32) (by decide) dX7_seekBreak_91 ?_
          obtain ⟨rfl, rfl⟩ := z_pr h
          exact z_iret hC hQ dX7_seekBreak_92
theorem wX7_seekBreak_L22 {T : zX} (hC : zOk T cX7_seekBreak RX7 6 175 0 61) (hN : zNL T = 11) {r : Int32} {σ' : zSt} (hQ : zRes T (some .int) (some (.int r)) σ') (n : Nat) : ∀ (v2 : Int32) (v5 : Int32) (v6 : Int32) (v7 : Int32) (v8 : Int32) (σ : zSt), fX7_seekBreak_L22 n v2 v5 v6 v7 v8 σ = some (r, σ') → Z T σ 22 [(0, .ref (zAd T (5))), (1, .ref (zAd T (3))), (2, .int v2), (5, .int v5), (6, .int v6), (7, .int v7), (8, .int v8)] [] := by
  induction n with
  | zero => intro v2 v5 v6 v7 v8 σ h; cases h
  | succ n ih => intro v2 v5 v6 v7 v8 σ h; exact wX7_seekBreak_22 hC hN hQ (fX7_seekBreak_L22 n) ih v2 v5 v6 v7 v8 σ h
set_option maxRecDepth 100000 in
set_option maxHeartbeats 4000000 in
theorem wX7_seekBreak_0 {T : zX} (hC : zOk T cX7_seekBreak RX7 6 175 0 61) (hN : zNL T = 11) {r : Int32} {σ' : zSt} (hQ : zRes T (some .int) (some (.int r)) σ') (a2 : Int32) (a3 : Int32) (a4 : Int32) (a5 : Int32) (a6 : Int32)  (σ : zSt) (h : fX7_seekBreak_0 a2 a3 a4 a5 a6 σ = some (r, σ')) : Z T σ 0 [(0, .ref (zAd T (5))), (1, .ref (zAd T (3))), (2, .int a2), (3, .int a3), (4, .int a4), (5, .int a5), (6, .int a6)] [] := by
  unfold fX7_seekBreak_0 at h
  refine z_iload_n hC 3 rfl rfl dX7_seekBreak_0 ?_
  refine z_istore hC [(7, .int a3), (0, .ref (zAd T (5))), (1, .ref (zAd T (3))), (2, .int a2), (3, .int a3), (4, .int a4), (5, .int a5), (6, .int a6)] (by rw [hN]; decide) rfl dX7_seekBreak_1 ?_
  refine z_iconst hC (0 : Int32) (by decide) dX7_seekBreak_3 ?_
  refine z_istore hC [(8, .int (0 : Int32)), (7, .int a3), (0, .ref (zAd T (5))), (1, .ref (zAd T (3))), (2, .int a2), (3, .int a3), (4, .int a4), (5, .int a5), (6, .int a6)] (by rw [hN]; decide) rfl dX7_seekBreak_4 ?_
  refine z_aload_n hC 2 rfl rfl dX7_seekBreak_6 ?_
  refine z_iconst hC (0 : Int32) (by decide) dX7_seekBreak_7 ?_
  refine pX7_4 hC kf_X7_26 dX7_seekBreak_8 ?_
  refine z_aload_n hC 2 rfl rfl dX7_seekBreak_11 ?_
  refine z_iload hC 6 rfl dX7_seekBreak_12 ?_
  refine z_b1 h (fun s14_1 e_s14_1 h => ?_)
  refine z_cV1v hC (ctX7_await hC.hm e_s14_1) (rcX7 hC) kb_X7_await km_X7_29 ⟨by decide, by decide⟩ (Nat.le_of_ble_eq_true rfl) dX7_seekBreak_14 ?_
  refine z_aload_n hC 2 rfl rfl dX7_seekBreak_17 ?_
  refine z_iconst hC (0 : Int32) (by decide) dX7_seekBreak_18 ?_
  refine pX7_6 hC kf_X7_73 dX7_seekBreak_19 ?_
  refine z_sub [(0, .ref (zAd T (5))), (1, .ref (zAd T (3))), (2, .int a2), (5, .int a5), (6, .int a6), (7, .int a3), (8, .int (0 : Int32))] [2, 3, 4, 7, 8, 1, 0] rfl ?_
  exact (wX7_seekBreak_L22 hC hN hQ zFU) _ _ _ _ _ _ h
set_option maxRecDepth 100000 in
theorem ctX7_seekBreak {l : Launch} {G : zGt} {mk : zSt → zSt} (hm : zM mk 0 61) {a2 : Int32} {a3 : Int32} {a4 : Int32} {a5 : Int32} {a6 : Int32} {σ : zSt} {r : Int32} {σ' : zSt} (h : fX7_seekBreak a2 a3 a4 a5 a6 σ = some (r, σ')) : zMet l G mk yX7_seekBreak cX7_seekBreak 11 (some .int) 6 175 [.ref (gA G (5)), .ref (gA G (3)), .int a2, .int a3, .int a4, .int a5, .int a6] σ (some (.int r)) σ' := by
  unfold fX7_seekBreak at h

  refine zMet.of (plainFor_of_name (by decide +kernel)) hm (Nat.le_of_ble_eq_true rfl) (fun T eL eG eM hN hC hQ => ?_)
  subst eL; subst eG; subst eM
  refine z_sub [(0, .ref (zAd T (5))), (1, .ref (zAd T (3))), (2, .int a2), (3, .int a3), (4, .int a4), (5, .int a5), (6, .int a6)] [0, 1, 2, 3, 4, 5, 6] rfl ?_
  exact wX7_seekBreak_0 hC hN hQ _ _ _ _ _  _ h
