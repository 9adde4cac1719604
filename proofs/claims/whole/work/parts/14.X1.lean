noncomputable def fX1_has_0 (a1 : Int32) (σ : zSt) : Int32 := 
    (if a1 < 0 then (0 : Int32)
    else 
      (if (gi σ 3 8) ≤ a1 then (0 : Int32)
      else (1 : Int32)))
noncomputable def fX1_has (a1 : Int32) (σ : zSt) : Int32 := fX1_has_0 a1 σ
set_option maxRecDepth 100000 in
set_option maxHeartbeats 4000000 in
theorem wX1_has_0 {T : zX} {σ : zSt} (hC : zOk T cX1_has RX1 0 0 0 61) (hN : zNL T = 2) {r : Int32} (hQ : zRes T (some .boolean) (some (.int r)) σ) (a1 : Int32)  (h : fX1_has_0 a1 σ = r) : Z T σ 0 [(0, .ref (zAd T (3))), (1, .int a1)] [] := by
  unfold fX1_has_0 at h
  refine z_iload_n hC 1 rfl rfl dX1_has_0 ?_
  refine z_if_lt hC 16 (by decide) dX1_has_1 (fun q1_1 => ?_) (fun q1_1 => ?_)
  · replace h := z_t q1_1 h
    refine z_iconst hC (0 : Int32) (by decide) dX1_has_16 ?_
    subst h
    exact z_zret hC hQ dX1_has_17 (by decide)
  · replace h := z_f q1_1 h
    refine z_iload_n hC 1 rfl rfl dX1_has_4 ?_
    refine z_aload_n hC 0 rfl rfl dX1_has_5 ?_
    refine gX1_8 hC kf_X1_47 (gi σ 3 8) rfl dX1_has_6 ?_
    refine z_icmp_ge hC 16 (by decide) dX1_has_9 (fun q9_2 => ?_) (fun q9_2 => ?_)
    · replace h := z_t q9_2 h
      refine z_iconst hC (0 : Int32) (by decide) dX1_has_16 ?_
      subst h
      exact z_zret hC hQ dX1_has_17 (by decide)
    · replace h := z_f q9_2 h
      refine z_iconst hC (1 : Int32) (by decide) dX1_has_12 ?_
      refine z_goto hC 17 (by decide) dX1_has_13 ?_
      subst h
      exact z_zret hC hQ dX1_has_17 (by decide)
set_option maxRecDepth 100000 in
theorem ctX1_has {l : Launch} {G : zGt} {mk : zSt → zSt} (hm : zM mk 0 61) {a1 : Int32} {σ : zSt} : zMet l G mk yX1_has cX1_has 2 (some .boolean) 0 0 [.ref (gA G (3)), .int a1] σ (some (.int (fX1_has a1 σ))) σ := by

  refine zMet.of (plainFor_of_name (by decide +kernel)) hm (Nat.le_of_ble_eq_true rfl) (fun T eL eG eM hN hC hQ => ?_)
  subst eL; subst eG; subst eM
  refine z_sub [(0, .ref (zAd T (3))), (1, .int a1)] [0, 1] rfl ?_
  exact wX1_has_0 hC hN hQ _  rfl
noncomputable def fX1_curveAt_0 (a1 : Int32) : Option Nat := 
    (if a1 < 0 then some 8
    else 
      (if (8 : Int32) ≤ a1 then some 8
      else zg (vp_in a1 8) <| some a1.toNatClampNeg))
noncomputable def fX1_curveAt (a1 : Int32) : Option Nat := fX1_curveAt_0 a1
set_option maxRecDepth 100000 in
set_option maxHeartbeats 4000000 in
theorem wX1_curveAt_0 {T : zX} {σ : zSt} (hC : zOk T cX1_curveAt RX1 0 0 0 61) (hN : zNL T = 3) {r : Nat} (hQ : zRes T (some (.object "ShutBench$Curve")) (some (.ref (zAd T (21 + 4 * r)))) σ) (a1 : Int32)  (h : fX1_curveAt_0 a1  = some r) : Z T σ 0 [(0, .ref (zAd T (3))), (1, .int a1)] [] := by
  unfold fX1_curveAt_0 at h
  refine z_iload_n hC 1 rfl rfl dX1_curveAt_0 ?_
  refine z_if_lt hC 19 (by decide) dX1_curveAt_1 (fun q1_1 => ?_) (fun q1_1 => ?_)
  · replace h := z_t q1_1 h
    refine z_aload_n hC 0 rfl rfl dX1_curveAt_19 ?_
    refine gX1_1 hC kf_X1_18 dX1_curveAt_20 ?_
    refine z_astore_n hC [(2, .ref (zAd T (21 + 4 * 8))), (0, .ref (zAd T (3))), (1, .int a1)] rfl (by rw [hN]; decide) rfl dX1_curveAt_23 ?_
    refine z_aload_n hC 0 rfl rfl dX1_curveAt_24 ?_
    refine z_ifnonnull hC 35 (by decide) dX1_curveAt_25 ?_
    refine z_aload_n hC 0 rfl rfl dX1_curveAt_35 ?_
    obtain rfl := z_so h
    exact z_aret hC hQ dX1_curveAt_36
  · replace h := z_f q1_1 h
    refine z_iload_n hC 1 rfl rfl dX1_curveAt_4 ?_
    refine z_bipush hC (8 : Int32) (by decide) dX1_curveAt_5 ?_
    refine z_icmp_ge hC 19 (by decide) dX1_curveAt_7 (fun q7_2 => ?_) (fun q7_2 => ?_)
    · replace h := z_t q7_2 h
      refine z_aload_n hC 0 rfl rfl dX1_curveAt_19 ?_
      refine gX1_1 hC kf_X1_18 dX1_curveAt_20 ?_
      refine z_astore_n hC [(2, .ref (zAd T (21 + 4 * 8))), (0, .ref (zAd T (3))), (1, .int a1)] rfl (by rw [hN]; decide) rfl dX1_curveAt_23 ?_
      refine z_aload_n hC 0 rfl rfl dX1_curveAt_24 ?_
      refine z_ifnonnull hC 35 (by decide) dX1_curveAt_25 ?_
      refine z_aload_n hC 0 rfl rfl dX1_curveAt_35 ?_
      obtain rfl := z_so h
      exact z_aret hC hQ dX1_curveAt_36
    · replace h := z_f q7_2 h
      refine z_aload_n hC 0 rfl rfl dX1_curveAt_10 ?_
      refine gX1_0 hC kf_X1_11 dX1_curveAt_11 ?_
      refine z_iload_n hC 1 rfl rfl dX1_curveAt_14 ?_
      refine z_g h (fun g15_3 h => ?_)
      refine z_aald hC ⟨by decide, by decide⟩ g15_3 dX1_curveAt_15 ?_
      refine z_goto hC 23 (by decide) dX1_curveAt_16 ?_
      refine z_astore_n hC [(2, .ref (zAd T (21 + 4 * a1.toNatClampNeg))), (0, .ref (zAd T (3))), (1, .int a1)] rfl (by rw [hN]; decide) rfl dX1_curveAt_23 ?_
      refine z_aload_n hC 0 rfl rfl dX1_curveAt_24 ?_
      refine z_ifnonnull hC 35 (by decide) dX1_curveAt_25 ?_
      refine z_aload_n hC 0 rfl rfl dX1_curveAt_35 ?_
      obtain rfl := z_so h
      exact z_aret hC hQ dX1_curveAt_36
set_option maxRecDepth 100000 in
theorem ctX1_curveAt {l : Launch} {G : zGt} {mk : zSt → zSt} (hm : zM mk 0 61) {a1 : Int32} {σ : zSt} {r : Nat} (h : fX1_curveAt a1  = some r) : zMet l G mk yX1_curveAt cX1_curveAt 3 (some (.object "ShutBench$Curve")) 0 0 [.ref (gA G (3)), .int a1] σ (some (.ref (gA G (21 + 4 * r)))) σ := by
  unfold fX1_curveAt at h

  refine zMet.of (plainFor_of_name (by decide +kernel)) hm (Nat.le_of_ble_eq_true rfl) (fun T eL eG eM hN hC hQ => ?_)
  subst eL; subst eG; subst eM
  refine z_sub [(0, .ref (zAd T (3))), (1, .int a1)] [0, 1] rfl ?_
  exact wX1_curveAt_0 hC hN hQ _  h
noncomputable def fX1_degreeAt_0 (a1 : Int32) (σ : zSt) : Option Int32 := 
    (if a1 < 0 then some (-1 : Int32)
    else 
      (if (60 : Int32) ≤ a1 then some (-1 : Int32)
      else zg (vp_in a1 60) <| some (gi σ 8 a1.toNatClampNeg)))
noncomputable def fX1_degreeAt (a1 : Int32) (σ : zSt) : Option Int32 := fX1_degreeAt_0 a1 σ
set_option maxRecDepth 100000 in
set_option maxHeartbeats 4000000 in
theorem wX1_degreeAt_0 {T : zX} {σ : zSt} (hC : zOk T cX1_degreeAt RX1 0 0 0 61) (hN : zNL T = 2) {r : Int32} (hQ : zRes T (some .int) (some (.int r)) σ) (a1 : Int32)  (h : fX1_degreeAt_0 a1 σ = some r) : Z T σ 0 [(0, .ref (zAd T (3))), (1, .int a1)] [] := by
  unfold fX1_degreeAt_0 at h
  refine z_iload_n hC 1 rfl rfl dX1_degreeAt_0 ?_
  refine z_if_lt hC 19 (by decide) dX1_degreeAt_1 (fun q1_1 => ?_) (fun q1_1 => ?_)
  · replace h := z_t q1_1 h
    refine z_iconst hC (-1 : Int32) (by decide) dX1_degreeAt_19 ?_
    obtain rfl := z_so h
    exact z_iret hC hQ dX1_degreeAt_20
  · replace h := z_f q1_1 h
    refine z_iload_n hC 1 rfl rfl dX1_degreeAt_4 ?_
    refine z_bipush hC (60 : Int32) (by decide) dX1_degreeAt_5 ?_
    refine z_icmp_ge hC 19 (by decide) dX1_degreeAt_7 (fun q7_2 => ?_) (fun q7_2 => ?_)
    · replace h := z_t q7_2 h
      refine z_iconst hC (-1 : Int32) (by decide) dX1_degreeAt_19 ?_
      obtain rfl := z_so h
      exact z_iret hC hQ dX1_degreeAt_20
    · replace h := z_f q7_2 h
      refine z_aload_n hC 0 rfl rfl dX1_degreeAt_10 ?_
      refine gX1_2 hC kf_X1_22 dX1_degreeAt_11 ?_
      refine z_iload_n hC 1 rfl rfl dX1_degreeAt_14 ?_
      refine z_g h (fun g15_3 h => ?_)
      refine z_iald hC 8 ⟨by decide, by decide⟩ (zS_8 _ _ _) g15_3 (gi σ 8 a1.toNatClampNeg) rfl dX1_degreeAt_15 ?_
      refine z_goto hC 20 (by decide) dX1_degreeAt_16 ?_
      obtain rfl := z_so h
      exact z_iret hC hQ dX1_degreeAt_20
set_option maxRecDepth 100000 in
theorem ctX1_degreeAt {l : Launch} {G : zGt} {mk : zSt → zSt} (hm : zM mk 0 61) {a1 : Int32} {σ : zSt} {r : Int32} (h : fX1_degreeAt a1 σ = some r) : zMet l G mk yX1_degreeAt cX1_degreeAt 2 (some .int) 0 0 [.ref (gA G (3)), .int a1] σ (some (.int r)) σ := by
  unfold fX1_degreeAt at h

  refine zMet.of (plainFor_of_name (by decide +kernel)) hm (Nat.le_of_ble_eq_true rfl) (fun T eL eG eM hN hC hQ => ?_)
  subst eL; subst eG; subst eM
  refine z_sub [(0, .ref (zAd T (3))), (1, .int a1)] [0, 1] rfl ?_
  exact wX1_degreeAt_0 hC hN hQ _  h
noncomputable def fX1_degreeOf_0 (a1 : Nat) (a2 : Int32) (σ : zSt) : Option Int32 := bd1 (fX0_leftAt a1 a2 σ) fun r3_1 => bd1 (fX1_degreeAt r3_1 σ) fun r6_2 => bd1 (fX1_degreeAt (a2 - (1 : Int32)) σ) fun r14_3 => bd1 (fX0_kindAt a1 a2 σ) fun r21_4 => 
    (
    if r21_4 = 0 then some (1 : Int32) else 
    if r21_4 = 1 then some (0 : Int32) else 
    if r21_4 = 2 then bd1 (fX0_detailAt a1 a2 σ) fun r111_8 => bd1 (fX1_curveAt (Int64.toInt32 r111_8)) fun r115_9 => zg (r115_9 < 10) <| some (gi σ (21 + 4 * r115_9) 5) else 
    if r21_4 = 3 then some r14_3 else 
    if r21_4 = 4 then 
              (if r14_3 = (-1 : Int32) then some (-1 : Int32)
              else bd1 (fX0_detailAt a1 a2 σ) fun r142_13 => nm (if (r14_3 * (Int64.toInt32 r142_13)) < (1000 : Int32) then (r14_3 * (Int64.toInt32 r142_13)) else (1000 : Int32)) fun x147_14 => some x147_14) else 
    if r21_4 = 13 then 
                (if r6_2 = (-1 : Int32) then some (-1 : Int32)
                else 
                  (if r14_3 = (-1 : Int32) then some (-1 : Int32)
                  else some (if r6_2 < r14_3 then r14_3 else r6_2))) else 
    if r21_4 = 14 then 
                  (if r6_2 = (-1 : Int32) then some (-1 : Int32)
                  else 
                    (if r14_3 = (-1 : Int32) then some (-1 : Int32)
                    else some (if r6_2 < r14_3 then r14_3 else r6_2))) else 
    if r21_4 = 15 then 
                    (if r6_2 = (-1 : Int32) then some (-1 : Int32)
                    else 
                      (if r14_3 = (-1 : Int32) then some (-1 : Int32)
                      else nm (if (r6_2 + r14_3) < (1000 : Int32) then (r6_2 + r14_3) else (1000 : Int32)) fun x195_24 => some x195_24)) else some (-1 : Int32))
noncomputable def fX1_degreeOf (a1 : Nat) (a2 : Int32) (σ : zSt) : Option Int32 := zg (a1 < 10) <| fX1_degreeOf_0 a1 a2 σ
set_option maxRecDepth 100000 in
set_option maxHeartbeats 4000000 in
theorem wX1_degreeOf_0 {T : zX} {σ : zSt} (hC : zOk T cX1_degreeOf RX1 1 23 0 61) (hN : zNL T = 5) {r : Int32} (hQ : zRes T (some .int) (some (.int r)) σ) (a1 : Nat) (a2 : Int32) (hk_a1 : a1 < 10) (h : fX1_degreeOf_0 a1 a2 σ = some r) : Z T σ 0 [(0, .ref (zAd T (3))), (1, .ref (zAd T (21 + 4 * a1))), (2, .int a2)] [] := by
  unfold fX1_degreeOf_0 at h
  refine z_aload_n hC 0 rfl rfl dX1_degreeOf_0 ?_
  refine z_aload_n hC 1 rfl rfl dX1_degreeOf_1 ?_
  refine z_iload_n hC 2 rfl rfl dX1_degreeOf_2 ?_
  refine z_b1 h (fun r3_1 e_r3_1 h => ?_)
  refine z_cV1r hC (ctX0_leftAt hC.hm e_r3_1) (rcX0 hC hk_a1) kb_X0_leftAt km_X1_82 ⟨by decide, by decide⟩ (Nat.le_of_ble_eq_true rfl) dX1_degreeOf_3 ?_
  refine z_b1 h (fun r6_2 e_r6_2 h => ?_)
  refine z_cV1r hC (ctX1_degreeAt hC.hm e_r6_2) (rcX1 hC) kb_X1_degreeAt km_X1_86 ⟨by decide, by decide⟩ (Nat.le_of_ble_eq_true rfl) dX1_degreeOf_6 ?_
  refine z_istore_n hC [(3, .int r6_2), (0, .ref (zAd T (3))), (1, .ref (zAd T (21 + 4 * a1))), (2, .int a2)] rfl (by rw [hN]; decide) rfl dX1_degreeOf_9 ?_
  refine z_aload_n hC 1 rfl rfl dX1_degreeOf_10 ?_
  refine z_iload_n hC 3 rfl rfl dX1_degreeOf_11 ?_
  refine z_iconst hC (1 : Int32) (by decide) dX1_degreeOf_12 ?_
  refine z_isub hC dX1_degreeOf_13 ?_
  refine z_b1 h (fun r14_3 e_r14_3 h => ?_)
  refine z_cV1r hC (ctX1_degreeAt hC.hm e_r14_3) (rcX1 hC) kb_X1_degreeAt km_X1_86 ⟨by decide, by decide⟩ (Nat.le_of_ble_eq_true rfl) dX1_degreeOf_14 ?_
  refine z_istore hC [(4, .int r14_3), (3, .int r6_2), (0, .ref (zAd T (3))), (1, .ref (zAd T (21 + 4 * a1))), (2, .int a2)] (by rw [hN]; decide) rfl dX1_degreeOf_17 ?_
  refine z_aload_n hC 3 rfl rfl dX1_degreeOf_19 ?_
  refine z_iload_n hC 4 rfl rfl dX1_degreeOf_20 ?_
  refine z_b1 h (fun r21_4 e_r21_4 h => ?_)
  refine z_cV1r hC (ctX0_kindAt hC.hm e_r21_4) (rcX0 hC hk_a1) kb_X0_kindAt km_X1_89 ⟨by decide, by decide⟩ (Nat.le_of_ble_eq_true rfl) dX1_degreeOf_21 ?_
  refine z_ite h (fun q24_5 h => ?_) (fun q24_5 h => ?_)
  · refine z_tabIn hC (80) 104 (by rw [q24_5]; decide) (by rw [q24_5]; decide) (by rw [q24_5]; decide +kernel) (by decide) dX1_degreeOf_24 ?_
    refine z_iconst hC (1 : Int32) (by decide) dX1_degreeOf_104 ?_
    obtain rfl := z_so h
    exact z_iret hC hQ dX1_degreeOf_105
  ·
    refine z_ite h (fun q24_6 h => ?_) (fun q24_6 h => ?_)
    · refine z_tabIn hC (82) 106 (by rw [q24_6]; decide) (by rw [q24_6]; decide) (by rw [q24_6]; decide +kernel) (by decide) dX1_degreeOf_24 ?_
      refine z_iconst hC (0 : Int32) (by decide) dX1_degreeOf_106 ?_
      obtain rfl := z_so h
      exact z_iret hC hQ dX1_degreeOf_107
    ·
      refine z_ite h (fun q24_7 h => ?_) (fun q24_7 h => ?_)
      · refine z_tabIn hC (84) 108 (by rw [q24_7]; decide) (by rw [q24_7]; decide) (by rw [q24_7]; decide +kernel) (by decide) dX1_degreeOf_24 ?_
        refine z_aload_n hC 2 rfl rfl dX1_degreeOf_108 ?_
        refine z_aload_n hC 3 rfl rfl dX1_degreeOf_109 ?_
        refine z_iload_n hC 4 rfl rfl dX1_degreeOf_110 ?_
        refine z_b1 h (fun r111_8 e_r111_8 h => ?_)
        refine z_cV1r hC (ctX0_detailAt hC.hm e_r111_8) (rcX0 hC hk_a1) kb_X0_detailAt km_X1_92 ⟨by decide, by decide⟩ (Nat.le_of_ble_eq_true rfl) dX1_degreeOf_111 ?_
        refine z_l2i hC dX1_degreeOf_114 ?_
        refine z_b1 h (fun r115_9 e_r115_9 h => ?_)
        refine z_g h (fun hk_r115_9 h => ?_)
        refine z_cV1r hC (ctX1_curveAt hC.hm e_r115_9) (rcX1 hC) kb_X1_curveAt km_X1_51 ⟨by decide, by decide⟩ (Nat.le_of_ble_eq_true rfl) dX1_degreeOf_115 ?_
        refine gX0_5 hC hk_r115_9 kf_X1_79 (gi σ (21 + 4 * r115_9) 5) rfl dX1_degreeOf_118 ?_
        obtain rfl := z_so h
        exact z_iret hC hQ dX1_degreeOf_121
      ·
        refine z_ite h (fun q24_10 h => ?_) (fun q24_10 h => ?_)
        · refine z_tabIn hC (98) 122 (by rw [q24_10]; decide) (by rw [q24_10]; decide) (by rw [q24_10]; decide +kernel) (by decide) dX1_degreeOf_24 ?_
          refine z_iload hC 0 rfl dX1_degreeOf_122 ?_
          obtain rfl := z_so h
          exact z_iret hC hQ dX1_degreeOf_124
        ·
          refine z_ite h (fun q24_11 h => ?_) (fun q24_11 h => ?_)
          · refine z_tabIn hC (101) 125 (by rw [q24_11]; decide) (by rw [q24_11]; decide) (by rw [q24_11]; decide +kernel) (by decide) dX1_degreeOf_24 ?_
            refine z_iload hC 0 rfl dX1_degreeOf_125 ?_
            refine z_iconst hC (-1 : Int32) (by decide) dX1_degreeOf_127 ?_
            refine z_icmp_ne hC 135 (by decide) dX1_degreeOf_128 (fun q128_12 => ?_) (fun q128_12 => ?_)
            · replace h := z_f q128_12 h
              refine z_sipush hC (1000 : Int32) (by decide) dX1_degreeOf_135 ?_
              refine z_iload hC 0 rfl dX1_degreeOf_138 ?_
              refine z_aload_n hC 3 rfl rfl dX1_degreeOf_140 ?_
              refine z_iload_n hC 4 rfl rfl dX1_degreeOf_141 ?_
              refine z_b1 h (fun r142_13 e_r142_13 h => ?_)
              refine z_cV1r hC (ctX0_detailAt hC.hm e_r142_13) (rcX0 hC hk_a1) kb_X0_detailAt km_X1_92 ⟨by decide, by decide⟩ (Nat.le_of_ble_eq_true rfl) dX1_degreeOf_142 ?_
              refine z_l2i hC dX1_degreeOf_145 ?_
              refine z_imul hC dX1_degreeOf_146 ?_
              refine z_mminI hC km_X1_96 (Nat.le_of_ble_eq_true rfl) (Nat.le_of_ble_eq_true rfl) dX1_degreeOf_147 ?_
              refine z_nmI h (fun x147_14 h => ?_)
              obtain rfl := z_so h
              exact z_iret hC hQ dX1_degreeOf_150
            · replace h := z_t q128_12 h
              refine z_iconst hC (-1 : Int32) (by decide) dX1_degreeOf_131 ?_
              refine z_goto hC 150 (by decide) dX1_degreeOf_132 ?_
              obtain rfl := z_so h
              exact z_iret hC hQ dX1_degreeOf_150
          ·
            refine z_ite h (fun q24_15 h => ?_) (fun q24_15 h => ?_)
            · refine z_tabIn hC (127) 151 (by rw [q24_15]; decide) (by rw [q24_15]; decide) (by rw [q24_15]; decide +kernel) (by decide) dX1_degreeOf_24 ?_
              refine z_iload_n hC 1 rfl rfl dX1_degreeOf_151 ?_
              refine z_iconst hC (-1 : Int32) (by decide) dX1_degreeOf_152 ?_
              refine z_icmp_eq hC 162 (by decide) dX1_degreeOf_153 (fun q153_16 => ?_) (fun q153_16 => ?_)
              · replace h := z_t q153_16 h
                refine z_iconst hC (-1 : Int32) (by decide) dX1_degreeOf_162 ?_
                refine z_goto hC 172 (by decide) dX1_degreeOf_163 ?_
                obtain rfl := z_so h
                exact z_iret hC hQ dX1_degreeOf_172
              · replace h := z_f q153_16 h
                refine z_iload hC 0 rfl dX1_degreeOf_156 ?_
                refine z_iconst hC (-1 : Int32) (by decide) dX1_degreeOf_158 ?_
                refine z_icmp_ne hC 166 (by decide) dX1_degreeOf_159 (fun q159_17 => ?_) (fun q159_17 => ?_)
                · replace h := z_f q159_17 h
                  refine z_iload_n hC 1 rfl rfl dX1_degreeOf_166 ?_
                  refine z_iload hC 0 rfl dX1_degreeOf_167 ?_
                  refine z_mmaxI hC km_X1_102 (Nat.le_of_ble_eq_true rfl) (Nat.le_of_ble_eq_true rfl) dX1_degreeOf_169 ?_
                  obtain rfl := z_so h
                  exact z_iret hC hQ dX1_degreeOf_172
                · replace h := z_t q159_17 h
                  refine z_iconst hC (-1 : Int32) (by decide) dX1_degreeOf_162 ?_
                  refine z_goto hC 172 (by decide) dX1_degreeOf_163 ?_
                  obtain rfl := z_so h
                  exact z_iret hC hQ dX1_degreeOf_172
            ·
              refine z_ite h (fun q24_18 h => ?_) (fun q24_18 h => ?_)
              · refine z_tabIn hC (127) 151 (by rw [q24_18]; decide) (by rw [q24_18]; decide) (by rw [q24_18]; decide +kernel) (by decide) dX1_degreeOf_24 ?_
                refine z_iload_n hC 1 rfl rfl dX1_degreeOf_151 ?_
                refine z_iconst hC (-1 : Int32) (by decide) dX1_degreeOf_152 ?_
                refine z_icmp_eq hC 162 (by decide) dX1_degreeOf_153 (fun q153_19 => ?_) (fun q153_19 => ?_)
                · replace h := z_t q153_19 h
                  refine z_iconst hC (-1 : Int32) (by decide) dX1_degreeOf_162 ?_
                  refine z_goto hC 172 (by decide) dX1_degreeOf_163 ?_
                  obtain rfl := z_so h
                  exact z_iret hC hQ dX1_degreeOf_172
                · replace h := z_f q153_19 h
                  refine z_iload hC 0 rfl dX1_degreeOf_156 ?_
                  refine z_iconst hC (-1 : Int32) (by decide) dX1_degreeOf_158 ?_
                  refine z_icmp_ne hC 166 (by decide) dX1_degreeOf_159 (fun q159_20 => ?_) (fun q159_20 => ?_)
                  · replace h := z_f q159_20 h
                    refine z_iload_n hC 1 rfl rfl dX1_degreeOf_166 ?_
                    refine z_iload hC 0 rfl dX1_degreeOf_167 ?_
                    refine z_mmaxI hC km_X1_102 (Nat.le_of_ble_eq_true rfl) (Nat.le_of_ble_eq_true rfl) dX1_degreeOf_169 ?_
                    obtain rfl := z_so h
                    exact z_iret hC hQ dX1_degreeOf_172
                  · replace h := z_t q159_20 h
                    refine z_iconst hC (-1 : Int32) (by decide) dX1_degreeOf_162 ?_
                    refine z_goto hC 172 (by decide) dX1_degreeOf_163 ?_
                    obtain rfl := z_so h
                    exact z_iret hC hQ dX1_degreeOf_172
              ·
                refine z_ite h (fun q24_21 h => ?_) (fun q24_21 h => ?_)
                · refine z_tabIn hC (149) 173 (by rw [q24_21]; decide) (by rw [q24_21]; decide) (by rw [q24_21]; decide +kernel) (by decide) dX1_degreeOf_24 ?_
                  refine z_iload_n hC 1 rfl rfl dX1_degreeOf_173 ?_
                  refine z_iconst hC (-1 : Int32) (by decide) dX1_degreeOf_174 ?_
                  refine z_icmp_eq hC 184 (by decide) dX1_degreeOf_175 (fun q175_22 => ?_) (fun q175_22 => ?_)
                  · replace h := z_t q175_22 h
                    refine z_iconst hC (-1 : Int32) (by decide) dX1_degreeOf_184 ?_
                    refine z_goto hC 198 (by decide) dX1_degreeOf_185 ?_
                    obtain rfl := z_so h
                    exact z_iret hC hQ dX1_degreeOf_198
                  · replace h := z_f q175_22 h
                    refine z_iload hC 0 rfl dX1_degreeOf_178 ?_
                    refine z_iconst hC (-1 : Int32) (by decide) dX1_degreeOf_180 ?_
                    refine z_icmp_ne hC 188 (by decide) dX1_degreeOf_181 (fun q181_23 => ?_) (fun q181_23 => ?_)
                    · replace h := z_f q181_23 h
                      refine z_sipush hC (1000 : Int32) (by decide) dX1_degreeOf_188 ?_
                      refine z_iload_n hC 1 rfl rfl dX1_degreeOf_191 ?_
                      refine z_iload hC 0 rfl dX1_degreeOf_192 ?_
                      refine z_iadd hC dX1_degreeOf_194 ?_
                      refine z_mminI hC km_X1_96 (Nat.le_of_ble_eq_true rfl) (Nat.le_of_ble_eq_true rfl) dX1_degreeOf_195 ?_
                      refine z_nmI h (fun x195_24 h => ?_)
                      obtain rfl := z_so h
                      exact z_iret hC hQ dX1_degreeOf_198
                    · replace h := z_t q181_23 h
                      refine z_iconst hC (-1 : Int32) (by decide) dX1_degreeOf_184 ?_
                      refine z_goto hC 198 (by decide) dX1_degreeOf_185 ?_
                      obtain rfl := z_so h
                      exact z_iret hC hQ dX1_degreeOf_198
                ·
                  refine z_tabD hC 16 199 (by decide) (fun i hi => by
                      have hi2 : i = 0 ∨ i = 1 ∨ i = 2 ∨ i = 3 ∨ i = 4 ∨ i = 5 ∨ i = 6 ∨ i = 7 ∨ i = 8 ∨ i = 9 ∨ i = 10 ∨ i = 11 ∨ i = 12 ∨ i = 13 ∨ i = 14 ∨ i = 15 := by omega
                      rcases hi2 with rfl | rfl | rfl | rfl | rfl | rfl | rfl | rfl | rfl | rfl | rfl | rfl | rfl | rfl | rfl | rfl
                      · exact Or.inr (fun e => q24_5 (e.symm.trans (by decide)))
                      · exact Or.inr (fun e => q24_6 (e.symm.trans (by decide)))
                      · exact Or.inr (fun e => q24_7 (e.symm.trans (by decide)))
                      · exact Or.inr (fun e => q24_10 (e.symm.trans (by decide)))
                      · exact Or.inr (fun e => q24_11 (e.symm.trans (by decide)))
                      · exact Or.inl rfl
                      · exact Or.inl rfl
                      · exact Or.inl rfl
                      · exact Or.inl rfl
                      · exact Or.inl rfl
                      · exact Or.inl rfl
                      · exact Or.inl rfl
                      · exact Or.inl rfl
                      · exact Or.inr (fun e => q24_15 (e.symm.trans (by decide)))
                      · exact Or.inr (fun e => q24_18 (e.symm.trans (by decide)))
                      · exact Or.inr (fun e => q24_21 (e.symm.trans (by decide)))) (by decide) dX1_degreeOf_24 ?_
                  refine z_iconst hC (-1 : Int32) (by decide) dX1_degreeOf_199 ?_
                  obtain rfl := z_so h
                  exact z_iret hC hQ dX1_degreeOf_200
set_option maxRecDepth 100000 in
theorem ctX1_degreeOf {l : Launch} {G : zGt} {mk : zSt → zSt} (hm : zM mk 0 61) {a1 : Nat} {a2 : Int32} {σ : zSt} {r : Int32} (h : fX1_degreeOf a1 a2 σ = some r) : zMet l G mk yX1_degreeOf cX1_degreeOf 5 (some .int) 1 23 [.ref (gA G (3)), .ref (gA G (21 + 4 * a1)), .int a2] σ (some (.int r)) σ := by
  unfold fX1_degreeOf at h
  refine z_g h (fun hk_a1 h => ?_)
  refine zMet.of (plainFor_of_name (by decide +kernel)) hm (Nat.le_of_ble_eq_true rfl) (fun T eL eG eM hN hC hQ => ?_)
  subst eL; subst eG; subst eM
  refine z_sub [(0, .ref (zAd T (3))), (1, .ref (zAd T (21 + 4 * a1))), (2, .int a2)] [0, 1, 2] rfl ?_
  exact wX1_degreeOf_0 hC hN hQ _ _ hk_a1 h
noncomputable def fX1_keep_144 (K26 : Nat → Int32 → zSt → Option (Int32 × zSt)) (v2 : Nat) (v3 : Int32) (σ : zSt) : Option (Int32 × zSt) := bd1 (fX1_degreeOf v2 v3 σ) fun r152_1 => zg (vp_in v3 60) <| zg (vp_in v3 60) <| nm (v3 + (1 : Int32)) fun x166_4 => K26 v2 x166_4 (si (si σ 8 v3.toNatClampNeg r152_1) (21 + 4 * v2) 5 r152_1)
noncomputable def fX1_keep_116 (K26 : Nat → Int32 → zSt → Option (Int32 × zSt)) (v2 : Nat) (v3 : Int32) (v5 : Nat) (t0 : Nat) (σ : zSt) : Option (Int32 × zSt) := zg (vp_in v3 60) <| nm (jshlI (1 : Int32) (Int64.toInt32 (gl σ (21 + 4 * v2 + 2) v3.toNatClampNeg))) fun x138_2 => nm ((gi (si σ (21 + 4 * t0) 4 (0 : Int32)) (21 + 4 * v2) 6) ||| ((gi (si σ (21 + 4 * t0) 4 (0 : Int32)) (21 + 4 * v5) 6) ||| x138_2)) fun x140_3 => fX1_keep_144 K26 v2 v3 (si (si σ (21 + 4 * t0) 4 (0 : Int32)) (21 + 4 * v2) 6 x140_3)
noncomputable def fX1_keep_26 (K26 : Nat → Int32 → zSt → Option (Int32 × zSt)) (v2 : Nat) (v3 : Int32) (σ : zSt) : Option (Int32 × zSt) := 
    (if (gi σ (21 + 4 * v2) 3) ≤ v3 then some ((((gi σ 3 8) + (1 : Int32)) - (1 : Int32)), (si σ 3 8 ((gi σ 3 8) + (1 : Int32))))
    else 
      (if (60 : Int32) ≤ v3 then some ((((gi σ 3 8) + (1 : Int32)) - (1 : Int32)), (si σ 3 8 ((gi σ 3 8) + (1 : Int32))))
      else zg (vp_in v3 60) <| nm (gi σ (21 + 4 * v2 + 1) v3.toNatClampNeg) fun x46_4 => 
        (if x46_4 = (10 : Int32) then fX1_keep_144 K26 v2 v3 (si σ (21 + 4 * v2) 4 (0 : Int32))
        else 
          (if x46_4 = (11 : Int32) then fX1_keep_144 K26 v2 v3 (si σ (21 + 4 * v2) 4 (0 : Int32))
          else 
            (if x46_4 = (12 : Int32) then fX1_keep_144 K26 v2 v3 (si σ (21 + 4 * v2) 4 (0 : Int32))
            else 
              (if x46_4 = (2 : Int32) then zg (vp_in v3 60) <| bd1 (fX1_curveAt (Int64.toInt32 (gl σ (21 + 4 * v2 + 2) v3.toNatClampNeg))) fun r91_10 => zg (r91_10 < 10) <| 
                (if (gi σ (21 + 4 * v2) 4) = 0 then fX1_keep_116 K26 v2 v3 r91_10 v2 σ
                else 
                  (if (gi σ (21 + 4 * r91_10) 4) = 0 then fX1_keep_116 K26 v2 v3 r91_10 v2 σ
                  else zg (vp_in v3 60) <| nm (jshlI (1 : Int32) (Int64.toInt32 (gl σ (21 + 4 * v2 + 2) v3.toNatClampNeg))) fun x138_14 => nm ((gi (si σ (21 + 4 * v2) 4 (1 : Int32)) (21 + 4 * r91_10) 6) ||| x138_14) fun x139_15 => nm ((gi (si σ (21 + 4 * v2) 4 (1 : Int32)) (21 + 4 * v2) 6) ||| x139_15) fun x141_16 => fX1_keep_144 K26 v2 v3 (si (si σ (21 + 4 * v2) 4 (1 : Int32)) (21 + 4 * v2) 6 x141_16)))
              else fX1_keep_144 K26 v2 v3 σ))))))
noncomputable def fX1_keep_L26 : Nat → Nat → Int32 → zSt → Option (Int32 × zSt)
  | 0, _, _, _ => none
  | n + 1, v2, v3, σ => fX1_keep_26 (fX1_keep_L26 n) v2 v3 σ
noncomputable def fX1_keep_0 (a1 : Nat) (σ : zSt) : Option (Int32 × zSt) := bd1 (fX1_curveAt (gi σ 3 8)) fun r5_1 => zg (r5_1 < 10) <| bd1 (fX0_copy r5_1 a1 σ) fun s11_2 => fX1_keep_L26 zFU r5_1 (0 : Int32) (si (si s11_2 (21 + 4 * r5_1) 4 (1 : Int32)) (21 + 4 * r5_1) 6 (0 : Int32))
noncomputable def fX1_keep (a1 : Nat) (σ : zSt) : Option (Int32 × zSt) := zg (a1 < 10) <| fX1_keep_0 a1 σ
set_option maxRecDepth 100000 in
set_option maxHeartbeats 4000000 in
theorem wX1_keep_144 {T : zX} (hC : zOk T cX1_keep RX1 2 47 0 61) (hN : zNL T = 6) {r : Int32} {σ' : zSt} (hQ : zRes T (some .int) (some (.int r)) σ') (K26 : Nat → Int32 → zSt → Option (Int32 × zSt)) (hK26 : ∀ (v2 : Nat) (v3 : Int32) (hk_v2 : v2 < 10) (τ : zSt), K26 v2 v3 τ = some (r, σ') → Z T τ 26 [(0, .ref (zAd T (3))), (2, .ref (zAd T (21 + 4 * v2))), (3, .int v3)] []) (v2 : Nat) (v3 : Int32) (hk_v2 : v2 < 10) (σ : zSt) (h : fX1_keep_144 K26 v2 v3 σ = some (r, σ')) : Z T σ 144 [(0, .ref (zAd T (3))), (2, .ref (zAd T (21 + 4 * v2))), (3, .int v3)] [] := by
  unfold fX1_keep_144 at h
  refine z_aload_n hC 0 rfl rfl dX1_keep_144 ?_
  refine gX1_2 hC kf_X1_22 dX1_keep_145 ?_
  refine z_iload_n hC 2 rfl rfl dX1_keep_148 ?_
  refine z_aload_n hC 0 rfl rfl dX1_keep_149 ?_
  refine z_aload_n hC 1 rfl rfl dX1_keep_150 ?_
  refine z_iload_n hC 2 rfl rfl dX1_keep_151 ?_
  refine z_b1 h (fun r152_1 e_r152_1 h => ?_)
  refine z_cV2r hC (ctX1_degreeOf hC.hm e_r152_1) (rcX1 hC) kb_X1_degreeOf km_X1_75 ⟨by decide, by decide⟩ (Nat.le_of_ble_eq_true rfl) dX1_keep_152 ?_
  refine z_g h (fun g155_2 h => ?_)
  refine z_iast hC 8 ⟨by decide, by decide⟩ (zS_8 _) g155_2 dX1_keep_155 ?_
  refine z_aload_n hC 1 rfl rfl dX1_keep_156 ?_
  refine z_aload_n hC 0 rfl rfl dX1_keep_157 ?_
  refine gX1_2 hC kf_X1_22 dX1_keep_158 ?_
  refine z_iload_n hC 2 rfl rfl dX1_keep_161 ?_
  refine z_g h (fun g162_3 h => ?_)
  refine z_iald hC 8 ⟨by decide, by decide⟩ (zS_8 _ _ _) g162_3 r152_1 (by simp [gi, si, gl, sl]) dX1_keep_162 ?_
  refine pX0_5 hC hk_v2 kf_X1_79 dX1_keep_163 ?_
  refine z_nmE h (fun x166_4 e_x166_4 h => ?_)
  refine z_iinc hC x166_4 [(3, .int x166_4), (0, .ref (zAd T (3))), (2, .ref (zAd T (21 + 4 * v2)))] 2 rfl (by rw [e_x166_4]; rfl) (by rw [hN]; decide) rfl dX1_keep_166 ?_
  refine z_goto hC 26 (by decide) dX1_keep_169 ?_
  refine z_sub [(0, .ref (zAd T (3))), (2, .ref (zAd T (21 + 4 * v2))), (3, .int x166_4)] [1, 2, 0] rfl ?_
  exact hK26 _ _ hk_v2 _ h
set_option maxRecDepth 100000 in
set_option maxHeartbeats 4000000 in
theorem wX1_keep_116 {T : zX} (hC : zOk T cX1_keep RX1 2 47 0 61) (hN : zNL T = 6) {r : Int32} {σ' : zSt} (hQ : zRes T (some .int) (some (.int r)) σ') (K26 : Nat → Int32 → zSt → Option (Int32 × zSt)) (hK26 : ∀ (v2 : Nat) (v3 : Int32) (hk_v2 : v2 < 10) (τ : zSt), K26 v2 v3 τ = some (r, σ') → Z T τ 26 [(0, .ref (zAd T (3))), (2, .ref (zAd T (21 + 4 * v2))), (3, .int v3)] []) (v2 : Nat) (v3 : Int32) (v5 : Nat) (t0 : Nat) (hk_v2 : v2 < 10) (hk_v5 : v5 < 10) (hk_t0 : t0 < 10) (σ : zSt) (h : fX1_keep_116 K26 v2 v3 v5 t0 σ = some (r, σ')) : Z T σ 116 [(0, .ref (zAd T (3))), (2, .ref (zAd T (21 + 4 * v2))), (3, .int v3), (5, .ref (zAd T (21 + 4 * v5)))] [.ref (zAd T (21 + 4 * t0))] := by
  unfold fX1_keep_116 at h
  refine z_iconst hC (0 : Int32) (by decide) dX1_keep_116 ?_
  refine pX0_4 hC hk_t0 kf_X1_59 (by decide) dX1_keep_117 ?_
  refine z_aload_n hC 1 rfl rfl dX1_keep_120 ?_
  refine z_dup hC rfl dX1_keep_121 ?_
  refine gX0_6 hC hk_v2 kf_X1_63 (gi (si σ (21 + 4 * t0) 4 (0 : Int32)) (21 + 4 * v2) 6) rfl dX1_keep_122 ?_
  refine z_aload hC 3 rfl dX1_keep_125 ?_
  refine gX0_6 hC hk_v5 kf_X1_63 (gi (si σ (21 + 4 * t0) 4 (0 : Int32)) (21 + 4 * v5) 6) rfl dX1_keep_127 ?_
  refine z_iconst hC (1 : Int32) (by decide) dX1_keep_130 ?_
  refine z_aload_n hC 1 rfl rfl dX1_keep_131 ?_
  refine gX0_1 hC hk_v2 kf_X1_72 dX1_keep_132 ?_
  refine z_iload_n hC 2 rfl rfl dX1_keep_135 ?_
  refine z_g h (fun g136_1 h => ?_)
  refine z_lald hC (21 + 4 * v2 + 2) ⟨by omega, by omega⟩ (zS_k2 hk_v2 _ _) g136_1 (gl σ (21 + 4 * v2 + 2) v3.toNatClampNeg) rfl dX1_keep_136 ?_
  refine z_l2i hC dX1_keep_137 ?_
  refine z_ishl hC dX1_keep_138 ?_
  refine z_nmI h (fun x138_2 h => ?_)
  refine z_ior hC dX1_keep_139 ?_
  refine z_ior hC dX1_keep_140 ?_
  refine z_nmI h (fun x140_3 h => ?_)
  refine pX0_6 hC hk_v2 kf_X1_63 dX1_keep_141 ?_
  refine z_sub [(0, .ref (zAd T (3))), (2, .ref (zAd T (21 + 4 * v2))), (3, .int v3)] [0, 1, 2] rfl ?_
  exact (wX1_keep_144 hC hN hQ K26 hK26 ) _ _ hk_v2 _ h
set_option maxRecDepth 100000 in
set_option maxHeartbeats 4000000 in
theorem wX1_keep_26 {T : zX} (hC : zOk T cX1_keep RX1 2 47 0 61) (hN : zNL T = 6) {r : Int32} {σ' : zSt} (hQ : zRes T (some .int) (some (.int r)) σ') (K26 : Nat → Int32 → zSt → Option (Int32 × zSt)) (hK26 : ∀ (v2 : Nat) (v3 : Int32) (hk_v2 : v2 < 10) (τ : zSt), K26 v2 v3 τ = some (r, σ') → Z T τ 26 [(0, .ref (zAd T (3))), (2, .ref (zAd T (21 + 4 * v2))), (3, .int v3)] []) (v2 : Nat) (v3 : Int32) (hk_v2 : v2 < 10) (σ : zSt) (h : fX1_keep_26 K26 v2 v3 σ = some (r, σ')) : Z T σ 26 [(0, .ref (zAd T (3))), (2, .ref (zAd T (21 + 4 * v2))), (3, .int v3)] [] := by
  unfold fX1_keep_26 at h
  refine z_iload_n hC 2 rfl rfl dX1_keep_26 ?_
  refine z_aload_n hC 1 rfl rfl dX1_keep_27 ?_
  refine gX0_3 hC hk_v2 kf_X1_66 (gi σ (21 + 4 * v2) 3) rfl dX1_keep_28 ?_
  refine z_icmp_ge hC 172 (by decide) dX1_keep_31 (fun q31_1 => ?_) (fun q31_1 => ?_)
  · replace h := z_t q31_1 h
    refine z_aload_n hC 0 rfl rfl dX1_keep_172 ?_
    refine z_dup hC rfl dX1_keep_173 ?_
    refine gX1_8 hC kf_X1_47 (gi σ 3 8) rfl dX1_keep_174 ?_
    refine z_iconst hC (1 : Int32) (by decide) dX1_keep_177 ?_
    refine z_iadd hC dX1_keep_178 ?_
    refine pX1_8 hC kf_X1_47 dX1_keep_179 ?_
    refine z_aload_n hC 0 rfl rfl dX1_keep_182 ?_
    refine gX1_8 hC kf_X1_47 ((gi σ 3 8) + (1 : Int32)) rfl dX1_keep_183 ?_
    refine z_iconst hC (1 : Int32) (by decide) dX1_keep_186 ?_
    refine z_isub hC dX1_keep_187 ?_
    obtain ⟨rfl, rfl⟩ := z_pr h
    exact z_iret hC hQ dX1_keep_188
  · replace h := z_f q31_1 h
    refine z_iload_n hC 2 rfl rfl dX1_keep_34 ?_
    refine z_bipush hC (60 : Int32) (by decide) dX1_keep_35 ?_
    refine z_icmp_ge hC 172 (by decide) dX1_keep_37 (fun q37_2 => ?_) (fun q37_2 => ?_)
    · replace h := z_t q37_2 h
      refine z_aload_n hC 0 rfl rfl dX1_keep_172 ?_
      refine z_dup hC rfl dX1_keep_173 ?_
      refine gX1_8 hC kf_X1_47 (gi σ 3 8) rfl dX1_keep_174 ?_
      refine z_iconst hC (1 : Int32) (by decide) dX1_keep_177 ?_
      refine z_iadd hC dX1_keep_178 ?_
      refine pX1_8 hC kf_X1_47 dX1_keep_179 ?_
      refine z_aload_n hC 0 rfl rfl dX1_keep_182 ?_
      refine gX1_8 hC kf_X1_47 ((gi σ 3 8) + (1 : Int32)) rfl dX1_keep_183 ?_
      refine z_iconst hC (1 : Int32) (by decide) dX1_keep_186 ?_
      refine z_isub hC dX1_keep_187 ?_
      obtain ⟨rfl, rfl⟩ := z_pr h
      exact z_iret hC hQ dX1_keep_188
    · replace h := z_f q37_2 h
      refine z_aload_n hC 1 rfl rfl dX1_keep_40 ?_
      refine gX0_0 hC hk_v2 kf_X1_69 dX1_keep_41 ?_
      refine z_iload_n hC 2 rfl rfl dX1_keep_44 ?_
      refine z_g h (fun g45_3 h => ?_)
      refine z_iald hC (21 + 4 * v2 + 1) ⟨by omega, by omega⟩ (zS_k1 hk_v2 _ _) g45_3 (gi σ (21 + 4 * v2 + 1) v3.toNatClampNeg) rfl dX1_keep_45 ?_
      refine z_nmI h (fun x46_4 h => ?_)
      refine z_istore hC [(4, .int x46_4), (0, .ref (zAd T (3))), (2, .ref (zAd T (21 + 4 * v2))), (3, .int v3)] (by rw [hN]; decide) rfl dX1_keep_46 ?_
      refine z_iload hC 0 rfl dX1_keep_48 ?_
      refine z_bipush hC (10 : Int32) (by decide) dX1_keep_50 ?_
      refine z_icmp_eq hC 69 (by decide) dX1_keep_52 (fun q52_5 => ?_) (fun q52_5 => ?_)
      · replace h := z_t q52_5 h
        refine z_aload_n hC 2 rfl rfl dX1_keep_69 ?_
        refine z_iconst hC (0 : Int32) (by decide) dX1_keep_70 ?_
        refine pX0_4 hC hk_v2 kf_X1_59 (by decide) dX1_keep_71 ?_
        refine z_goto hC 144 (by decide) dX1_keep_74 ?_
        refine z_sub [(0, .ref (zAd T (3))), (2, .ref (zAd T (21 + 4 * v2))), (3, .int v3)] [1, 2, 3] rfl ?_
        exact (wX1_keep_144 hC hN hQ K26 hK26 ) _ _ hk_v2 _ h
      · replace h := z_f q52_5 h
        refine z_iload hC 0 rfl dX1_keep_55 ?_
        refine z_bipush hC (11 : Int32) (by decide) dX1_keep_57 ?_
        refine z_icmp_eq hC 69 (by decide) dX1_keep_59 (fun q59_6 => ?_) (fun q59_6 => ?_)
        · replace h := z_t q59_6 h
          refine z_aload_n hC 2 rfl rfl dX1_keep_69 ?_
          refine z_iconst hC (0 : Int32) (by decide) dX1_keep_70 ?_
          refine pX0_4 hC hk_v2 kf_X1_59 (by decide) dX1_keep_71 ?_
          refine z_goto hC 144 (by decide) dX1_keep_74 ?_
          refine z_sub [(0, .ref (zAd T (3))), (2, .ref (zAd T (21 + 4 * v2))), (3, .int v3)] [1, 2, 3] rfl ?_
          exact (wX1_keep_144 hC hN hQ K26 hK26 ) _ _ hk_v2 _ h
        · replace h := z_f q59_6 h
          refine z_iload hC 0 rfl dX1_keep_62 ?_
          refine z_bipush hC (12 : Int32) (by decide) dX1_keep_64 ?_
          refine z_icmp_ne hC 77 (by decide) dX1_keep_66 (fun q66_7 => ?_) (fun q66_7 => ?_)
          · replace h := z_f q66_7 h
            refine z_iload hC 0 rfl dX1_keep_77 ?_
            refine z_iconst hC (2 : Int32) (by decide) dX1_keep_79 ?_
            refine z_icmp_ne hC 144 (by decide) dX1_keep_80 (fun q80_8 => ?_) (fun q80_8 => ?_)
            · replace h := z_f q80_8 h
              refine z_sub [(0, .ref (zAd T (3))), (2, .ref (zAd T (21 + 4 * v2))), (3, .int v3)] [1, 2, 3] rfl ?_
              exact (wX1_keep_144 hC hN hQ K26 hK26 ) _ _ hk_v2 _ h
            · replace h := z_t q80_8 h
              refine z_aload_n hC 1 rfl rfl dX1_keep_83 ?_
              refine z_aload_n hC 2 rfl rfl dX1_keep_84 ?_
              refine gX0_1 hC hk_v2 kf_X1_72 dX1_keep_85 ?_
              refine z_iload_n hC 3 rfl rfl dX1_keep_88 ?_
              refine z_g h (fun g89_9 h => ?_)
              refine z_lald hC (21 + 4 * v2 + 2) ⟨by omega, by omega⟩ (zS_k2 hk_v2 _ _) g89_9 (gl σ (21 + 4 * v2 + 2) v3.toNatClampNeg) rfl dX1_keep_89 ?_
              refine z_l2i hC dX1_keep_90 ?_
              refine z_b1 h (fun r91_10 e_r91_10 h => ?_)
              refine z_g h (fun hk_r91_10 h => ?_)
              refine z_cV1r hC (ctX1_curveAt hC.hm e_r91_10) (rcX1 hC) kb_X1_curveAt km_X1_51 ⟨by decide, by decide⟩ (Nat.le_of_ble_eq_true rfl) dX1_keep_91 ?_
              refine z_astore hC [(5, .ref (zAd T (21 + 4 * r91_10))), (4, .int x46_4), (0, .ref (zAd T (3))), (2, .ref (zAd T (21 + 4 * v2))), (3, .int v3)] (by rw [hN]; decide) rfl dX1_keep_94 ?_
              refine z_aload_n hC 3 rfl rfl dX1_keep_96 ?_
              refine z_aload_n hC 3 rfl rfl dX1_keep_97 ?_
              refine gX0_4 hC hk_v2 kf_X1_59 (gi σ (21 + 4 * v2) 4) rfl dX1_keep_98 ?_
              refine z_if_eq hC 116 (by decide) dX1_keep_101 (fun q101_11 => ?_) (fun q101_11 => ?_)
              · replace h := z_t q101_11 h
                refine z_sub [(0, .ref (zAd T (3))), (2, .ref (zAd T (21 + 4 * v2))), (3, .int v3), (5, .ref (zAd T (21 + 4 * r91_10)))] [2, 3, 4, 0] rfl ?_
                exact (wX1_keep_116 hC hN hQ K26 hK26 ) _ _ _ _ hk_v2 hk_r91_10 hk_v2 _ h
              · replace h := z_f q101_11 h
                refine z_aload hC 0 rfl dX1_keep_104 ?_
                refine gX0_4 hC hk_r91_10 kf_X1_59 (gi σ (21 + 4 * r91_10) 4) rfl dX1_keep_106 ?_
                refine z_if_eq hC 116 (by decide) dX1_keep_109 (fun q109_12 => ?_) (fun q109_12 => ?_)
                · replace h := z_t q109_12 h
                  refine z_sub [(0, .ref (zAd T (3))), (2, .ref (zAd T (21 + 4 * v2))), (3, .int v3), (5, .ref (zAd T (21 + 4 * r91_10)))] [2, 3, 4, 0] rfl ?_
                  exact (wX1_keep_116 hC hN hQ K26 hK26 ) _ _ _ _ hk_v2 hk_r91_10 hk_v2 _ h
                · replace h := z_f q109_12 h
                  refine z_iconst hC (1 : Int32) (by decide) dX1_keep_112 ?_
                  refine z_goto hC 117 (by decide) dX1_keep_113 ?_
                  refine pX0_4 hC hk_v2 kf_X1_59 (by decide) dX1_keep_117 ?_
                  refine z_aload_n hC 3 rfl rfl dX1_keep_120 ?_
                  refine z_dup hC rfl dX1_keep_121 ?_
                  refine gX0_6 hC hk_v2 kf_X1_63 (gi (si σ (21 + 4 * v2) 4 (1 : Int32)) (21 + 4 * v2) 6) rfl dX1_keep_122 ?_
                  refine z_aload hC 0 rfl dX1_keep_125 ?_
                  refine gX0_6 hC hk_r91_10 kf_X1_63 (gi (si σ (21 + 4 * v2) 4 (1 : Int32)) (21 + 4 * r91_10) 6) rfl dX1_keep_127 ?_
                  refine z_iconst hC (1 : Int32) (by decide) dX1_keep_130 ?_
                  refine z_aload_n hC 3 rfl rfl dX1_keep_131 ?_
                  refine gX0_1 hC hk_v2 kf_X1_72 dX1_keep_132 ?_
                  refine z_iload_n hC 4 rfl rfl dX1_keep_135 ?_
                  refine z_g h (fun g136_13 h => ?_)
                  refine z_lald hC (21 + 4 * v2 + 2) ⟨by omega, by omega⟩ (zS_k2 hk_v2 _ _) g136_13 (gl σ (21 + 4 * v2 + 2) v3.toNatClampNeg) rfl dX1_keep_136 ?_
                  refine z_l2i hC dX1_keep_137 ?_
                  refine z_ishl hC dX1_keep_138 ?_
                  refine z_nmI h (fun x138_14 h => ?_)
                  refine z_ior hC dX1_keep_139 ?_
                  refine z_nmI h (fun x139_15 h => ?_)
                  refine z_ior hC dX1_keep_140 ?_
                  refine z_nmI h (fun x141_16 h => ?_)
                  refine pX0_6 hC hk_v2 kf_X1_63 dX1_keep_141 ?_
                  refine z_sub [(0, .ref (zAd T (3))), (2, .ref (zAd T (21 + 4 * v2))), (3, .int v3)] [2, 3, 4] rfl ?_
                  exact (wX1_keep_144 hC hN hQ K26 hK26 ) _ _ hk_v2 _ h
          · replace h := z_t q66_7 h
            refine z_aload_n hC 2 rfl rfl dX1_keep_69 ?_
            refine z_iconst hC (0 : Int32) (by decide) dX1_keep_70 ?_
            refine pX0_4 hC hk_v2 kf_X1_59 (by decide) dX1_keep_71 ?_
            refine z_goto hC 144 (by decide) dX1_keep_74 ?_
            refine z_sub [(0, .ref (zAd T (3))), (2, .ref (zAd T (21 + 4 * v2))), (3, .int v3)] [1, 2, 3] rfl ?_
            exact (wX1_keep_144 hC hN hQ K26 hK26 ) _ _ hk_v2 _ h
theorem wX1_keep_L26 {T : zX} (hC : zOk T cX1_keep RX1 2 47 0 61) (hN : zNL T = 6) {r : Int32} {σ' : zSt} (hQ : zRes T (some .int) (some (.int r)) σ') (n : Nat) : ∀ (v2 : Nat) (v3 : Int32) (hk_v2 : v2 < 10) (σ : zSt), fX1_keep_L26 n v2 v3 σ = some (r, σ') → Z T σ 26 [(0, .ref (zAd T (3))), (2, .ref (zAd T (21 + 4 * v2))), (3, .int v3)] [] := by
  induction n with
  | zero => intro v2 v3 hk_v2 σ h; cases h
  | succ n ih => intro v2 v3 hk_v2 σ h; exact wX1_keep_26 hC hN hQ (fX1_keep_L26 n) ih v2 v3 hk_v2 σ h
set_option maxRecDepth 100000 in
set_option maxHeartbeats 4000000 in
theorem wX1_keep_0 {T : zX} (hC : zOk T cX1_keep RX1 2 47 0 61) (hN : zNL T = 6) {r : Int32} {σ' : zSt} (hQ : zRes T (some .int) (some (.int r)) σ') (a1 : Nat) (hk_a1 : a1 < 10) (σ : zSt) (h : fX1_keep_0 a1 σ = some (r, σ')) : Z T σ 0 [(0, .ref (zAd T (3))), (1, .ref (zAd T (21 + 4 * a1)))] [] := by
  unfold fX1_keep_0 at h
  refine z_aload_n hC 0 rfl rfl dX1_keep_0 ?_
  refine z_aload_n hC 0 rfl rfl dX1_keep_1 ?_
  refine gX1_8 hC kf_X1_47 (gi σ 3 8) rfl dX1_keep_2 ?_
  refine z_b1 h (fun r5_1 e_r5_1 h => ?_)
  refine z_g h (fun hk_r5_1 h => ?_)
  refine z_cV1r hC (ctX1_curveAt hC.hm e_r5_1) (rcX1 hC) kb_X1_curveAt km_X1_51 ⟨by decide, by decide⟩ (Nat.le_of_ble_eq_true rfl) dX1_keep_5 ?_
  refine z_astore_n hC [(2, .ref (zAd T (21 + 4 * r5_1))), (0, .ref (zAd T (3))), (1, .ref (zAd T (21 + 4 * a1)))] rfl (by rw [hN]; decide) rfl dX1_keep_8 ?_
  refine z_aload_n hC 0 rfl rfl dX1_keep_9 ?_
  refine z_aload_n hC 2 rfl rfl dX1_keep_10 ?_
  refine z_b1 h (fun s11_2 e_s11_2 h => ?_)
  refine z_cV1v hC (ctX0_copy hC.hm e_s11_2) (rcX0 hC hk_r5_1) kb_X0_copy km_X1_55 ⟨by decide, by decide⟩ (Nat.le_of_ble_eq_true rfl) dX1_keep_11 ?_
  refine z_aload_n hC 0 rfl rfl dX1_keep_14 ?_
  refine z_iconst hC (1 : Int32) (by decide) dX1_keep_15 ?_
  refine pX0_4 hC hk_r5_1 kf_X1_59 (by decide) dX1_keep_16 ?_
  refine z_aload_n hC 0 rfl rfl dX1_keep_19 ?_
  refine z_iconst hC (0 : Int32) (by decide) dX1_keep_20 ?_
  refine pX0_6 hC hk_r5_1 kf_X1_63 dX1_keep_21 ?_
  refine z_iconst hC (0 : Int32) (by decide) dX1_keep_24 ?_
  refine z_istore_n hC [(3, .int (0 : Int32)), (2, .ref (zAd T (21 + 4 * r5_1))), (0, .ref (zAd T (3))), (1, .ref (zAd T (21 + 4 * a1)))] rfl (by rw [hN]; decide) rfl dX1_keep_25 ?_
  refine z_sub [(0, .ref (zAd T (3))), (2, .ref (zAd T (21 + 4 * r5_1))), (3, .int (0 : Int32))] [2, 1, 0] rfl ?_
  exact (wX1_keep_L26 hC hN hQ zFU) _ _ hk_r5_1 _ h
set_option maxRecDepth 100000 in
theorem ctX1_keep {l : Launch} {G : zGt} {mk : zSt → zSt} (hm : zM mk 0 61) {a1 : Nat} {σ : zSt} {r : Int32} {σ' : zSt} (h : fX1_keep a1 σ = some (r, σ')) : zMet l G mk yX1_keep cX1_keep 6 (some .int) 2 47 [.ref (gA G (3)), .ref (gA G (21 + 4 * a1))] σ (some (.int r)) σ' := by
  unfold fX1_keep at h
  refine z_g h (fun hk_a1 h => ?_)
  refine zMet.of (plainFor_of_name (by decide +kernel)) hm (Nat.le_of_ble_eq_true rfl) (fun T eL eG eM hN hC hQ => ?_)
  subst eL; subst eG; subst eM
  refine z_sub [(0, .ref (zAd T (3))), (1, .ref (zAd T (21 + 4 * a1)))] [0, 1] rfl ?_
  exact wX1_keep_0 hC hN hQ _ hk_a1 _ h
noncomputable def fX1_rowAt_9_0 (a1 : Int32) (σ : zSt) : Option Int64 := 
    (if a1 < 0 then some (4294967296 : Int64)
    else 
      (if (60 : Int32) ≤ a1 then some (4294967296 : Int64)
      else zg (vp_in a1 60) <| some (gl σ 9 a1.toNatClampNeg)))
noncomputable def fX1_rowAt_9 (a1 : Int32) (σ : zSt) : Option Int64 := fX1_rowAt_9_0 a1 σ
set_option maxRecDepth 100000 in
set_option maxHeartbeats 4000000 in
theorem wX1_rowAt_9_0 {T : zX} {σ : zSt} (hC : zOk T cX1_rowAt RX1 0 0 0 61) (hN : zNL T = 2) {r : Int64} (hQ : zRes T (some .long) (some (.long r)) σ) (a1 : Int32)  (h : fX1_rowAt_9_0 a1 σ = some r) : Z T σ 0 [(0, .ref (zAd T (9))), (1, .int a1)] [] := by
  unfold fX1_rowAt_9_0 at h
  refine z_iload_n hC 1 rfl rfl dX1_rowAt_0 ?_
  refine z_if_lt hC 16 (by decide) dX1_rowAt_1 (fun q1_1 => ?_) (fun q1_1 => ?_)
  · replace h := z_t q1_1 h
    refine z_ldc2 hC kc_X1_41 dX1_rowAt_16 ?_
    obtain rfl := z_so h
    exact z_lret hC hQ dX1_rowAt_19
  · replace h := z_f q1_1 h
    refine z_iload_n hC 1 rfl rfl dX1_rowAt_4 ?_
    refine z_aload_n hC 0 rfl rfl dX1_rowAt_5 ?_
    refine z_alen hC 9 1 (by decide) (fun f g => ⟨_, zS_9 _ f g, rfl⟩) rfl (60 : Int32) (by decide) dX1_rowAt_6 ?_
    refine z_icmp_ge hC 16 (by decide) dX1_rowAt_7 (fun q7_2 => ?_) (fun q7_2 => ?_)
    · replace h := z_t q7_2 h
      refine z_ldc2 hC kc_X1_41 dX1_rowAt_16 ?_
      obtain rfl := z_so h
      exact z_lret hC hQ dX1_rowAt_19
    · replace h := z_f q7_2 h
      refine z_aload_n hC 0 rfl rfl dX1_rowAt_10 ?_
      refine z_iload_n hC 1 rfl rfl dX1_rowAt_11 ?_
      refine z_g h (fun g12_3 h => ?_)
      refine z_lald hC 9 ⟨by decide, by decide⟩ (zS_9 _ _ _) g12_3 (gl σ 9 a1.toNatClampNeg) rfl dX1_rowAt_12 ?_
      refine z_goto hC 19 (by decide) dX1_rowAt_13 ?_
      obtain rfl := z_so h
      exact z_lret hC hQ dX1_rowAt_19
set_option maxRecDepth 100000 in
theorem ctX1_rowAt_9 {l : Launch} {G : zGt} {mk : zSt → zSt} (hm : zM mk 0 61) {a1 : Int32} {σ : zSt} {r : Int64} (h : fX1_rowAt_9 a1 σ = some r) : zMet l G mk yX1_rowAt cX1_rowAt 2 (some .long) 0 0 [.ref (gA G (9)), .int a1] σ (some (.long r)) σ := by
  unfold fX1_rowAt_9 at h

  refine zMet.of (plainFor_of_name (by decide +kernel)) hm (Nat.le_of_ble_eq_true rfl) (fun T eL eG eM hN hC hQ => ?_)
  subst eL; subst eG; subst eM
  refine z_sub [(0, .ref (zAd T (9))), (1, .int a1)] [0, 1] rfl ?_
  exact wX1_rowAt_9_0 hC hN hQ _  h
noncomputable def fX1_rowAt_10_0 (a1 : Int32) (σ : zSt) : Option Int64 := 
    (if a1 < 0 then some (4294967296 : Int64)
    else 
      (if (60 : Int32) ≤ a1 then some (4294967296 : Int64)
      else zg (vp_in a1 60) <| some (gl σ 10 a1.toNatClampNeg)))
noncomputable def fX1_rowAt_10 (a1 : Int32) (σ : zSt) : Option Int64 := fX1_rowAt_10_0 a1 σ
set_option maxRecDepth 100000 in
set_option maxHeartbeats 4000000 in
theorem wX1_rowAt_10_0 {T : zX} {σ : zSt} (hC : zOk T cX1_rowAt RX1 0 0 0 61) (hN : zNL T = 2) {r : Int64} (hQ : zRes T (some .long) (some (.long r)) σ) (a1 : Int32)  (h : fX1_rowAt_10_0 a1 σ = some r) : Z T σ 0 [(0, .ref (zAd T (10))), (1, .int a1)] [] := by
  unfold fX1_rowAt_10_0 at h
  refine z_iload_n hC 1 rfl rfl dX1_rowAt_0 ?_
  refine z_if_lt hC 16 (by decide) dX1_rowAt_1 (fun q1_1 => ?_) (fun q1_1 => ?_)
  · replace h := z_t q1_1 h
    refine z_ldc2 hC kc_X1_41 dX1_rowAt_16 ?_
    obtain rfl := z_so h
    exact z_lret hC hQ dX1_rowAt_19
  · replace h := z_f q1_1 h
    refine z_iload_n hC 1 rfl rfl dX1_rowAt_4 ?_
    refine z_aload_n hC 0 rfl rfl dX1_rowAt_5 ?_
    refine z_alen hC 10 1 (by decide) (fun f g => ⟨_, zS_10 _ f g, rfl⟩) rfl (60 : Int32) (by decide) dX1_rowAt_6 ?_
    refine z_icmp_ge hC 16 (by decide) dX1_rowAt_7 (fun q7_2 => ?_) (fun q7_2 => ?_)
    · replace h := z_t q7_2 h
      refine z_ldc2 hC kc_X1_41 dX1_rowAt_16 ?_
      obtain rfl := z_so h
      exact z_lret hC hQ dX1_rowAt_19
    · replace h := z_f q7_2 h
      refine z_aload_n hC 0 rfl rfl dX1_rowAt_10 ?_
      refine z_iload_n hC 1 rfl rfl dX1_rowAt_11 ?_
      refine z_g h (fun g12_3 h => ?_)
      refine z_lald hC 10 ⟨by decide, by decide⟩ (zS_10 _ _ _) g12_3 (gl σ 10 a1.toNatClampNeg) rfl dX1_rowAt_12 ?_
      refine z_goto hC 19 (by decide) dX1_rowAt_13 ?_
      obtain rfl := z_so h
      exact z_lret hC hQ dX1_rowAt_19
set_option maxRecDepth 100000 in
theorem ctX1_rowAt_10 {l : Launch} {G : zGt} {mk : zSt → zSt} (hm : zM mk 0 61) {a1 : Int32} {σ : zSt} {r : Int64} (h : fX1_rowAt_10 a1 σ = some r) : zMet l G mk yX1_rowAt cX1_rowAt 2 (some .long) 0 0 [.ref (gA G (10)), .int a1] σ (some (.long r)) σ := by
  unfold fX1_rowAt_10 at h

  refine zMet.of (plainFor_of_name (by decide +kernel)) hm (Nat.le_of_ble_eq_true rfl) (fun T eL eG eM hN hC hQ => ?_)
  subst eL; subst eG; subst eM
  refine z_sub [(0, .ref (zAd T (10))), (1, .int a1)] [0, 1] rfl ?_
  exact wX1_rowAt_10_0 hC hN hQ _  h
noncomputable def fX1_rowAt_11_0 (a1 : Int32) (σ : zSt) : Option Int64 := 
    (if a1 < 0 then some (4294967296 : Int64)
    else 
      (if (8 : Int32) ≤ a1 then some (4294967296 : Int64)
      else zg (vp_in a1 8) <| some (gl σ 11 a1.toNatClampNeg)))
noncomputable def fX1_rowAt_11 (a1 : Int32) (σ : zSt) : Option Int64 := fX1_rowAt_11_0 a1 σ
set_option maxRecDepth 100000 in
set_option maxHeartbeats 4000000 in
theorem wX1_rowAt_11_0 {T : zX} {σ : zSt} (hC : zOk T cX1_rowAt RX1 0 0 0 61) (hN : zNL T = 2) {r : Int64} (hQ : zRes T (some .long) (some (.long r)) σ) (a1 : Int32)  (h : fX1_rowAt_11_0 a1 σ = some r) : Z T σ 0 [(0, .ref (zAd T (11))), (1, .int a1)] [] := by
  unfold fX1_rowAt_11_0 at h
  refine z_iload_n hC 1 rfl rfl dX1_rowAt_0 ?_
  refine z_if_lt hC 16 (by decide) dX1_rowAt_1 (fun q1_1 => ?_) (fun q1_1 => ?_)
  · replace h := z_t q1_1 h
    refine z_ldc2 hC kc_X1_41 dX1_rowAt_16 ?_
    obtain rfl := z_so h
    exact z_lret hC hQ dX1_rowAt_19
  · replace h := z_f q1_1 h
    refine z_iload_n hC 1 rfl rfl dX1_rowAt_4 ?_
    refine z_aload_n hC 0 rfl rfl dX1_rowAt_5 ?_
    refine z_alen hC 11 1 (by decide) (fun f g => ⟨_, zS_11 _ f g, rfl⟩) rfl (8 : Int32) (by decide) dX1_rowAt_6 ?_
    refine z_icmp_ge hC 16 (by decide) dX1_rowAt_7 (fun q7_2 => ?_) (fun q7_2 => ?_)
    · replace h := z_t q7_2 h
      refine z_ldc2 hC kc_X1_41 dX1_rowAt_16 ?_
      obtain rfl := z_so h
      exact z_lret hC hQ dX1_rowAt_19
    · replace h := z_f q7_2 h
      refine z_aload_n hC 0 rfl rfl dX1_rowAt_10 ?_
      refine z_iload_n hC 1 rfl rfl dX1_rowAt_11 ?_
      refine z_g h (fun g12_3 h => ?_)
      refine z_lald hC 11 ⟨by decide, by decide⟩ (zS_11 _ _ _) g12_3 (gl σ 11 a1.toNatClampNeg) rfl dX1_rowAt_12 ?_
      refine z_goto hC 19 (by decide) dX1_rowAt_13 ?_
      obtain rfl := z_so h
      exact z_lret hC hQ dX1_rowAt_19
set_option maxRecDepth 100000 in
theorem ctX1_rowAt_11 {l : Launch} {G : zGt} {mk : zSt → zSt} (hm : zM mk 0 61) {a1 : Int32} {σ : zSt} {r : Int64} (h : fX1_rowAt_11 a1 σ = some r) : zMet l G mk yX1_rowAt cX1_rowAt 2 (some .long) 0 0 [.ref (gA G (11)), .int a1] σ (some (.long r)) σ := by
  unfold fX1_rowAt_11 at h

  refine zMet.of (plainFor_of_name (by decide +kernel)) hm (Nat.le_of_ble_eq_true rfl) (fun T eL eG eM hN hC hQ => ?_)
  subst eL; subst eG; subst eM
  refine z_sub [(0, .ref (zAd T (11))), (1, .int a1)] [0, 1] rfl ?_
  exact wX1_rowAt_11_0 hC hN hQ _  h
noncomputable def fX1_rowAt_12_0 (a1 : Int32) (σ : zSt) : Option Int64 := 
    (if a1 < 0 then some (4294967296 : Int64)
    else 
      (if (8 : Int32) ≤ a1 then some (4294967296 : Int64)
      else zg (vp_in a1 8) <| some (gl σ 12 a1.toNatClampNeg)))
noncomputable def fX1_rowAt_12 (a1 : Int32) (σ : zSt) : Option Int64 := fX1_rowAt_12_0 a1 σ
set_option maxRecDepth 100000 in
set_option maxHeartbeats 4000000 in
theorem wX1_rowAt_12_0 {T : zX} {σ : zSt} (hC : zOk T cX1_rowAt RX1 0 0 0 61) (hN : zNL T = 2) {r : Int64} (hQ : zRes T (some .long) (some (.long r)) σ) (a1 : Int32)  (h : fX1_rowAt_12_0 a1 σ = some r) : Z T σ 0 [(0, .ref (zAd T (12))), (1, .int a1)] [] := by
  unfold fX1_rowAt_12_0 at h
  refine z_iload_n hC 1 rfl rfl dX1_rowAt_0 ?_
  refine z_if_lt hC 16 (by decide) dX1_rowAt_1 (fun q1_1 => ?_) (fun q1_1 => ?_)
  · replace h := z_t q1_1 h
    refine z_ldc2 hC kc_X1_41 dX1_rowAt_16 ?_
    obtain rfl := z_so h
    exact z_lret hC hQ dX1_rowAt_19
  · replace h := z_f q1_1 h
    refine z_iload_n hC 1 rfl rfl dX1_rowAt_4 ?_
    refine z_aload_n hC 0 rfl rfl dX1_rowAt_5 ?_
    refine z_alen hC 12 1 (by decide) (fun f g => ⟨_, zS_12 _ f g, rfl⟩) rfl (8 : Int32) (by decide) dX1_rowAt_6 ?_
    refine z_icmp_ge hC 16 (by decide) dX1_rowAt_7 (fun q7_2 => ?_) (fun q7_2 => ?_)
    · replace h := z_t q7_2 h
      refine z_ldc2 hC kc_X1_41 dX1_rowAt_16 ?_
      obtain rfl := z_so h
      exact z_lret hC hQ dX1_rowAt_19
    · replace h := z_f q7_2 h
      refine z_aload_n hC 0 rfl rfl dX1_rowAt_10 ?_
      refine z_iload_n hC 1 rfl rfl dX1_rowAt_11 ?_
      refine z_g h (fun g12_3 h => ?_)
      refine z_lald hC 12 ⟨by decide, by decide⟩ (zS_12 _ _ _) g12_3 (gl σ 12 a1.toNatClampNeg) rfl dX1_rowAt_12 ?_
      refine z_goto hC 19 (by decide) dX1_rowAt_13 ?_
      obtain rfl := z_so h
      exact z_lret hC hQ dX1_rowAt_19
set_option maxRecDepth 100000 in
theorem ctX1_rowAt_12 {l : Launch} {G : zGt} {mk : zSt → zSt} (hm : zM mk 0 61) {a1 : Int32} {σ : zSt} {r : Int64} (h : fX1_rowAt_12 a1 σ = some r) : zMet l G mk yX1_rowAt cX1_rowAt 2 (some .long) 0 0 [.ref (gA G (12)), .int a1] σ (some (.long r)) σ := by
  unfold fX1_rowAt_12 at h

  refine zMet.of (plainFor_of_name (by decide +kernel)) hm (Nat.le_of_ble_eq_true rfl) (fun T eL eG eM hN hC hQ => ?_)
  subst eL; subst eG; subst eM
  refine z_sub [(0, .ref (zAd T (12))), (1, .int a1)] [0, 1] rfl ?_
  exact wX1_rowAt_12_0 hC hN hQ _  h
noncomputable def fX1_valueOf_0 (a1 : Nat) (a2 : Int32) (σ : zSt) : Option Int64 := bd1 (fX0_leftAt a1 a2 σ) fun r6_1 => bd1 (fX1_rowAt_9 r6_1 σ) fun r9_2 => bd1 (fX1_rowAt_9 (a2 - (1 : Int32)) σ) fun r20_3 => bd1 (fX0_detailAt a1 a2 σ) fun r27_4 => bd1 (fX0_kindAt a1 a2 σ) fun r34_5 => 
    (
    if r34_5 = 0 then some (gl σ 3 7) else 
    if r34_5 = 1 then some r27_4 else 
    if r34_5 = 2 then bd1 (fX1_rowAt_11 (Int64.toInt32 r27_4) σ) fun r135_9 => some r135_9 else 
    if r34_5 = 3 then some (fX5_turned r20_3) else 
    if r34_5 = 4 then bd1 (fX5_power r20_3 r27_4) fun r149_12 => some r149_12 else 
    if r34_5 = 5 then bd1 (fX5_root r20_3) fun r155_14 => some r155_14 else 
    if r34_5 = 6 then bd1 (fX4_exp r20_3) fun r161_16 => some r161_16 else 
    if r34_5 = 7 then bd1 (fX4_log r20_3) fun r167_18 => some r167_18 else 
    if r34_5 = 8 then bd1 (fX4_wave r20_3 (0 : Int32)) fun r174_20 => some r174_20 else 
    if r34_5 = 9 then bd1 (fX4_wave r20_3 (1 : Int32)) fun r181_22 => some r181_22 else 
    if r34_5 = 10 then some (fX5_size r20_3) else 
    if r34_5 = 11 then some (fX5_lesser r9_2 r20_3) else 
    if r34_5 = 12 then some (fX5_greater r9_2 r20_3) else 
    if r34_5 = 13 then some (fX5_plus r9_2 r20_3) else 
    if r34_5 = 14 then some (fX5_minus r9_2 r20_3) else 
    if r34_5 = 15 then some (fX5_times r9_2 r20_3) else 
    if r34_5 = 16 then bd1 (fX5_over r9_2 r20_3) fun r229_30 => some r229_30 else some (4294967296 : Int64))
noncomputable def fX1_valueOf (a1 : Nat) (a2 : Int32) (σ : zSt) : Option Int64 := zg (a1 < 10) <| fX1_valueOf_0 a1 a2 σ
set_option maxRecDepth 100000 in
set_option maxHeartbeats 4000000 in
theorem wX1_valueOf_0 {T : zX} {σ : zSt} (hC : zOk T cX1_valueOf RX1 3 90 0 61) (hN : zNL T = 9) {r : Int64} (hQ : zRes T (some .long) (some (.long r)) σ) (a1 : Nat) (a2 : Int32) (hk_a1 : a1 < 10) (h : fX1_valueOf_0 a1 a2 σ = some r) : Z T σ 0 [(0, .ref (zAd T (3))), (1, .ref (zAd T (21 + 4 * a1))), (2, .int a2)] [] := by
  unfold fX1_valueOf_0 at h
  refine z_aload_n hC 0 rfl rfl dX1_valueOf_0 ?_
  refine gX1_3 hC kf_X1_26 dX1_valueOf_1 ?_
  refine z_aload_n hC 1 rfl rfl dX1_valueOf_4 ?_
  refine z_iload_n hC 2 rfl rfl dX1_valueOf_5 ?_
  refine z_b1 h (fun r6_1 e_r6_1 h => ?_)
  refine z_cV1r hC (ctX0_leftAt hC.hm e_r6_1) (rcX0 hC hk_a1) kb_X0_leftAt km_X1_82 ⟨by decide, by decide⟩ (Nat.le_of_ble_eq_true rfl) dX1_valueOf_6 ?_
  refine z_b1 h (fun r9_2 e_r9_2 h => ?_)
  refine z_cS2r hC (ctX1_rowAt_9 hC.hm e_r9_2) kb_X1_rowAt km_X1_119 ⟨by decide, by decide⟩ (Nat.le_of_ble_eq_true rfl) dX1_valueOf_9 ?_
  refine z_lstore_n hC [(3, .long r9_2), (0, .ref (zAd T (3))), (1, .ref (zAd T (21 + 4 * a1))), (2, .int a2)] rfl (by rw [hN]; decide) rfl dX1_valueOf_12 ?_
  refine z_aload_n hC 1 rfl rfl dX1_valueOf_13 ?_
  refine gX1_3 hC kf_X1_26 dX1_valueOf_14 ?_
  refine z_iload_n hC 3 rfl rfl dX1_valueOf_17 ?_
  refine z_iconst hC (1 : Int32) (by decide) dX1_valueOf_18 ?_
  refine z_isub hC dX1_valueOf_19 ?_
  refine z_b1 h (fun r20_3 e_r20_3 h => ?_)
  refine z_cS2r hC (ctX1_rowAt_9 hC.hm e_r20_3) kb_X1_rowAt km_X1_119 ⟨by decide, by decide⟩ (Nat.le_of_ble_eq_true rfl) dX1_valueOf_20 ?_
  refine z_lstore hC [(5, .long r20_3), (3, .long r9_2), (0, .ref (zAd T (3))), (1, .ref (zAd T (21 + 4 * a1))), (2, .int a2)] (by rw [hN]; decide) rfl dX1_valueOf_23 ?_
  refine z_aload_n hC 3 rfl rfl dX1_valueOf_25 ?_
  refine z_iload_n hC 4 rfl rfl dX1_valueOf_26 ?_
  refine z_b1 h (fun r27_4 e_r27_4 h => ?_)
  refine z_cV1r hC (ctX0_detailAt hC.hm e_r27_4) (rcX0 hC hk_a1) kb_X0_detailAt km_X1_92 ⟨by decide, by decide⟩ (Nat.le_of_ble_eq_true rfl) dX1_valueOf_27 ?_
  refine z_lstore hC [(7, .long r27_4), (5, .long r20_3), (3, .long r9_2), (0, .ref (zAd T (3))), (1, .ref (zAd T (21 + 4 * a1))), (2, .int a2)] (by rw [hN]; decide) rfl dX1_valueOf_30 ?_
  refine z_aload_n hC 4 rfl rfl dX1_valueOf_32 ?_
  refine z_iload_n hC 5 rfl rfl dX1_valueOf_33 ?_
  refine z_b1 h (fun r34_5 e_r34_5 h => ?_)
  refine z_cV1r hC (ctX0_kindAt hC.hm e_r34_5) (rcX0 hC hk_a1) kb_X0_kindAt km_X1_89 ⟨by decide, by decide⟩ (Nat.le_of_ble_eq_true rfl) dX1_valueOf_34 ?_
  refine z_ite h (fun q37_6 h => ?_) (fun q37_6 h => ?_)
  · refine z_tabIn hC (83) 120 (by rw [q37_6]; decide) (by rw [q37_6]; decide) (by rw [q37_6]; decide +kernel) (by decide) dX1_valueOf_37 ?_
    refine z_aload_n hC 3 rfl rfl dX1_valueOf_120 ?_
    refine gX1_7 hC kf_X1_109 (gl σ 3 7) rfl dX1_valueOf_121 ?_
    obtain rfl := z_so h
    exact z_lret hC hQ dX1_valueOf_124
  ·
    refine z_ite h (fun q37_7 h => ?_) (fun q37_7 h => ?_)
    · refine z_tabIn hC (88) 125 (by rw [q37_7]; decide) (by rw [q37_7]; decide) (by rw [q37_7]; decide +kernel) (by decide) dX1_valueOf_37 ?_
      refine z_lload hC 0 rfl dX1_valueOf_125 ?_
      obtain rfl := z_so h
      exact z_lret hC hQ dX1_valueOf_127
    ·
      refine z_ite h (fun q37_8 h => ?_) (fun q37_8 h => ?_)
      · refine z_tabIn hC (91) 128 (by rw [q37_8]; decide) (by rw [q37_8]; decide) (by rw [q37_8]; decide +kernel) (by decide) dX1_valueOf_37 ?_
        refine z_aload_n hC 3 rfl rfl dX1_valueOf_128 ?_
        refine gX1_5 hC kf_X1_33 dX1_valueOf_129 ?_
        refine z_lload hC 0 rfl dX1_valueOf_132 ?_
        refine z_l2i hC dX1_valueOf_134 ?_
        refine z_b1 h (fun r135_9 e_r135_9 h => ?_)
        refine z_cS2r hC (ctX1_rowAt_11 hC.hm e_r135_9) kb_X1_rowAt km_X1_119 ⟨by decide, by decide⟩ (Nat.le_of_ble_eq_true rfl) dX1_valueOf_135 ?_
        obtain rfl := z_so h
        exact z_lret hC hQ dX1_valueOf_138
      ·
        refine z_ite h (fun q37_10 h => ?_) (fun q37_10 h => ?_)
        · refine z_tabIn hC (102) 139 (by rw [q37_10]; decide) (by rw [q37_10]; decide) (by rw [q37_10]; decide +kernel) (by decide) dX1_valueOf_37 ?_
          refine z_lload hC 1 rfl dX1_valueOf_139 ?_
          refine z_cS1r hC (ctX5_turned hC.hm) kb_X5_turned km_X1_123 ⟨by decide, by decide⟩ (Nat.le_of_ble_eq_true rfl) dX1_valueOf_141 ?_
          obtain rfl := z_so h
          exact z_lret hC hQ dX1_valueOf_144
        ·
          refine z_ite h (fun q37_11 h => ?_) (fun q37_11 h => ?_)
          · refine z_tabIn hC (108) 145 (by rw [q37_11]; decide) (by rw [q37_11]; decide) (by rw [q37_11]; decide +kernel) (by decide) dX1_valueOf_37 ?_
            refine z_lload hC 1 rfl dX1_valueOf_145 ?_
            refine z_lload hC 0 rfl dX1_valueOf_147 ?_
            refine z_b1 h (fun r149_12 e_r149_12 h => ?_)
            refine z_cS2r hC (ctX5_power hC.hm e_r149_12) kb_X5_power km_X1_127 ⟨by decide, by decide⟩ (Nat.le_of_ble_eq_true rfl) dX1_valueOf_149 ?_
            obtain rfl := z_so h
            exact z_lret hC hQ dX1_valueOf_152
          ·
            refine z_ite h (fun q37_13 h => ?_) (fun q37_13 h => ?_)
            · refine z_tabIn hC (116) 153 (by rw [q37_13]; decide) (by rw [q37_13]; decide) (by rw [q37_13]; decide +kernel) (by decide) dX1_valueOf_37 ?_
              refine z_lload hC 1 rfl dX1_valueOf_153 ?_
              refine z_b1 h (fun r155_14 e_r155_14 h => ?_)
              refine z_cS1r hC (ctX5_root hC.hm e_r155_14) kb_X5_root km_X1_130 ⟨by decide, by decide⟩ (Nat.le_of_ble_eq_true rfl) dX1_valueOf_155 ?_
              obtain rfl := z_so h
              exact z_lret hC hQ dX1_valueOf_158
            ·
              refine z_ite h (fun q37_15 h => ?_) (fun q37_15 h => ?_)
              · refine z_tabIn hC (122) 159 (by rw [q37_15]; decide) (by rw [q37_15]; decide) (by rw [q37_15]; decide +kernel) (by decide) dX1_valueOf_37 ?_
                refine z_lload hC 1 rfl dX1_valueOf_159 ?_
                refine z_b1 h (fun r161_16 e_r161_16 h => ?_)
                refine z_cS1r hC (ctX4_exp hC.hm e_r161_16) kb_X4_exp km_X1_133 ⟨by decide, by decide⟩ (Nat.le_of_ble_eq_true rfl) dX1_valueOf_161 ?_
                obtain rfl := z_so h
                exact z_lret hC hQ dX1_valueOf_164
              ·
                refine z_ite h (fun q37_17 h => ?_) (fun q37_17 h => ?_)
                · refine z_tabIn hC (128) 165 (by rw [q37_17]; decide) (by rw [q37_17]; decide) (by rw [q37_17]; decide +kernel) (by decide) dX1_valueOf_37 ?_
                  refine z_lload hC 1 rfl dX1_valueOf_165 ?_
                  refine z_b1 h (fun r167_18 e_r167_18 h => ?_)
                  refine z_cS1r hC (ctX4_log hC.hm e_r167_18) kb_X4_log km_X1_138 ⟨by decide, by decide⟩ (Nat.le_of_ble_eq_true rfl) dX1_valueOf_167 ?_
                  obtain rfl := z_so h
                  exact z_lret hC hQ dX1_valueOf_170
                ·
                  refine z_ite h (fun q37_19 h => ?_) (fun q37_19 h => ?_)
                  · refine z_tabIn hC (134) 171 (by rw [q37_19]; decide) (by rw [q37_19]; decide) (by rw [q37_19]; decide +kernel) (by decide) dX1_valueOf_37 ?_
                    refine z_lload hC 1 rfl dX1_valueOf_171 ?_
                    refine z_iconst hC (0 : Int32) (by decide) dX1_valueOf_173 ?_
                    refine z_b1 h (fun r174_20 e_r174_20 h => ?_)
                    refine z_cS2r hC (ctX4_wave hC.hm e_r174_20) kb_X4_wave km_X1_141 ⟨by decide, by decide⟩ (Nat.le_of_ble_eq_true rfl) dX1_valueOf_174 ?_
                    obtain rfl := z_so h
                    exact z_lret hC hQ dX1_valueOf_177
                  ·
                    refine z_ite h (fun q37_21 h => ?_) (fun q37_21 h => ?_)
                    · refine z_tabIn hC (141) 178 (by rw [q37_21]; decide) (by rw [q37_21]; decide) (by rw [q37_21]; decide +kernel) (by decide) dX1_valueOf_37 ?_
                      refine z_lload hC 1 rfl dX1_valueOf_178 ?_
                      refine z_iconst hC (1 : Int32) (by decide) dX1_valueOf_180 ?_
                      refine z_b1 h (fun r181_22 e_r181_22 h => ?_)
                      refine z_cS2r hC (ctX4_wave hC.hm e_r181_22) kb_X4_wave km_X1_141 ⟨by decide, by decide⟩ (Nat.le_of_ble_eq_true rfl) dX1_valueOf_181 ?_
                      obtain rfl := z_so h
                      exact z_lret hC hQ dX1_valueOf_184
                    ·
                      refine z_ite h (fun q37_23 h => ?_) (fun q37_23 h => ?_)
                      · refine z_tabIn hC (148) 185 (by rw [q37_23]; decide) (by rw [q37_23]; decide) (by rw [q37_23]; decide +kernel) (by decide) dX1_valueOf_37 ?_
                        refine z_lload hC 1 rfl dX1_valueOf_185 ?_
                        refine z_cS1r hC (ctX5_size hC.hm) kb_X5_size km_X1_145 ⟨by decide, by decide⟩ (Nat.le_of_ble_eq_true rfl) dX1_valueOf_187 ?_
                        obtain rfl := z_so h
                        exact z_lret hC hQ dX1_valueOf_190
                      ·
                        refine z_ite h (fun q37_24 h => ?_) (fun q37_24 h => ?_)
                        · refine z_tabIn hC (154) 191 (by rw [q37_24]; decide) (by rw [q37_24]; decide) (by rw [q37_24]; decide +kernel) (by decide) dX1_valueOf_37 ?_
                          refine z_lload_n hC 2 rfl rfl dX1_valueOf_191 ?_
                          refine z_lload hC 1 rfl dX1_valueOf_192 ?_
                          refine z_cS2r hC (ctX5_lesser hC.hm) kb_X5_lesser km_X1_148 ⟨by decide, by decide⟩ (Nat.le_of_ble_eq_true rfl) dX1_valueOf_194 ?_
                          obtain rfl := z_so h
                          exact z_lret hC hQ dX1_valueOf_197
                        ·
                          refine z_ite h (fun q37_25 h => ?_) (fun q37_25 h => ?_)
                          · refine z_tabIn hC (161) 198 (by rw [q37_25]; decide) (by rw [q37_25]; decide) (by rw [q37_25]; decide +kernel) (by decide) dX1_valueOf_37 ?_
                            refine z_lload_n hC 2 rfl rfl dX1_valueOf_198 ?_
                            refine z_lload hC 1 rfl dX1_valueOf_199 ?_
                            refine z_cS2r hC (ctX5_greater hC.hm) kb_X5_greater km_X1_151 ⟨by decide, by decide⟩ (Nat.le_of_ble_eq_true rfl) dX1_valueOf_201 ?_
                            obtain rfl := z_so h
                            exact z_lret hC hQ dX1_valueOf_204
                          ·
                            refine z_ite h (fun q37_26 h => ?_) (fun q37_26 h => ?_)
                            · refine z_tabIn hC (168) 205 (by rw [q37_26]; decide) (by rw [q37_26]; decide) (by rw [q37_26]; decide +kernel) (by decide) dX1_valueOf_37 ?_
                              refine z_lload_n hC 2 rfl rfl dX1_valueOf_205 ?_
                              refine z_lload hC 1 rfl dX1_valueOf_206 ?_
                              refine z_cS2r hC (ctX5_plus hC.hm) kb_X5_plus km_X1_154 ⟨by decide, by decide⟩ (Nat.le_of_ble_eq_true rfl) dX1_valueOf_208 ?_
                              obtain rfl := z_so h
                              exact z_lret hC hQ dX1_valueOf_211
                            ·
                              refine z_ite h (fun q37_27 h => ?_) (fun q37_27 h => ?_)
                              · refine z_tabIn hC (175) 212 (by rw [q37_27]; decide) (by rw [q37_27]; decide) (by rw [q37_27]; decide +kernel) (by decide) dX1_valueOf_37 ?_
                                refine z_lload_n hC 2 rfl rfl dX1_valueOf_212 ?_
                                refine z_lload hC 1 rfl dX1_valueOf_213 ?_
                                refine z_cS2r hC (ctX5_minus hC.hm) kb_X5_minus km_X1_157 ⟨by decide, by decide⟩ (Nat.le_of_ble_eq_true rfl) dX1_valueOf_215 ?_
                                obtain rfl := z_so h
                                exact z_lret hC hQ dX1_valueOf_218
                              ·
                                refine z_ite h (fun q37_28 h => ?_) (fun q37_28 h => ?_)
                                · refine z_tabIn hC (182) 219 (by rw [q37_28]; decide) (by rw [q37_28]; decide) (by rw [q37_28]; decide +kernel) (by decide) dX1_valueOf_37 ?_
                                  refine z_lload_n hC 2 rfl rfl dX1_valueOf_219 ?_
                                  refine z_lload hC 1 rfl dX1_valueOf_220 ?_
                                  refine z_cS2r hC (ctX5_times hC.hm) kb_X5_times km_X1_160 ⟨by decide, by decide⟩ (Nat.le_of_ble_eq_true rfl) dX1_valueOf_222 ?_
                                  obtain rfl := z_so h
                                  exact z_lret hC hQ dX1_valueOf_225
                                ·
                                  refine z_ite h (fun q37_29 h => ?_) (fun q37_29 h => ?_)
                                  · refine z_tabIn hC (189) 226 (by rw [q37_29]; decide) (by rw [q37_29]; decide) (by rw [q37_29]; decide +kernel) (by decide) dX1_valueOf_37 ?_
                                    refine z_lload_n hC 2 rfl rfl dX1_valueOf_226 ?_
                                    refine z_lload hC 1 rfl dX1_valueOf_227 ?_
                                    refine z_b1 h (fun r229_30 e_r229_30 h => ?_)
                                    refine z_cS2r hC (ctX5_over hC.hm e_r229_30) kb_X5_over km_X1_163 ⟨by decide, by decide⟩ (Nat.le_of_ble_eq_true rfl) dX1_valueOf_229 ?_
                                    obtain rfl := z_so h
                                    exact z_lret hC hQ dX1_valueOf_232
                                  ·
                                    refine z_tabD hC 17 233 (by decide) (fun i hi => by
                                        have hi2 : i = 0 ∨ i = 1 ∨ i = 2 ∨ i = 3 ∨ i = 4 ∨ i = 5 ∨ i = 6 ∨ i = 7 ∨ i = 8 ∨ i = 9 ∨ i = 10 ∨ i = 11 ∨ i = 12 ∨ i = 13 ∨ i = 14 ∨ i = 15 ∨ i = 16 := by omega
                                        rcases hi2 with rfl | rfl | rfl | rfl | rfl | rfl | rfl | rfl | rfl | rfl | rfl | rfl | rfl | rfl | rfl | rfl | rfl
                                        · exact Or.inr (fun e => q37_6 (e.symm.trans (by decide)))
                                        · exact Or.inr (fun e => q37_7 (e.symm.trans (by decide)))
                                        · exact Or.inr (fun e => q37_8 (e.symm.trans (by decide)))
                                        · exact Or.inr (fun e => q37_10 (e.symm.trans (by decide)))
                                        · exact Or.inr (fun e => q37_11 (e.symm.trans (by decide)))
                                        · exact Or.inr (fun e => q37_13 (e.symm.trans (by decide)))
                                        · exact Or.inr (fun e => q37_15 (e.symm.trans (by decide)))
                                        · exact Or.inr (fun e => q37_17 (e.symm.trans (by decide)))
                                        · exact Or.inr (fun e => q37_19 (e.symm.trans (by decide)))
                                        · exact Or.inr (fun e => q37_21 (e.symm.trans (by decide)))
                                        · exact Or.inr (fun e => q37_23 (e.symm.trans (by decide)))
                                        · exact Or.inr (fun e => q37_24 (e.symm.trans (by decide)))
                                        · exact Or.inr (fun e => q37_25 (e.symm.trans (by decide)))
                                        · exact Or.inr (fun e => q37_26 (e.symm.trans (by decide)))
                                        · exact Or.inr (fun e => q37_27 (e.symm.trans (by decide)))
                                        · exact Or.inr (fun e => q37_28 (e.symm.trans (by decide)))
                                        · exact Or.inr (fun e => q37_29 (e.symm.trans (by decide)))) (by decide) dX1_valueOf_37 ?_
                                    refine z_ldc2 hC kc_X1_41 dX1_valueOf_233 ?_
                                    obtain rfl := z_so h
                                    exact z_lret hC hQ dX1_valueOf_236
set_option maxRecDepth 100000 in
theorem ctX1_valueOf {l : Launch} {G : zGt} {mk : zSt → zSt} (hm : zM mk 0 61) {a1 : Nat} {a2 : Int32} {σ : zSt} {r : Int64} (h : fX1_valueOf a1 a2 σ = some r) : zMet l G mk yX1_valueOf cX1_valueOf 9 (some .long) 3 90 [.ref (gA G (3)), .ref (gA G (21 + 4 * a1)), .int a2] σ (some (.long r)) σ := by
  unfold fX1_valueOf at h
  refine z_g h (fun hk_a1 h => ?_)
  refine zMet.of (plainFor_of_name (by decide +kernel)) hm (Nat.le_of_ble_eq_true rfl) (fun T eL eG eM hN hC hQ => ?_)
  subst eL; subst eG; subst eM
  refine z_sub [(0, .ref (zAd T (3))), (1, .ref (zAd T (21 + 4 * a1))), (2, .int a2)] [0, 1, 2] rfl ?_
  exact wX1_valueOf_0 hC hN hQ _ _ hk_a1 h
noncomputable def fX1_wholes_0 (a0 : Int64) : Int64 := (fX5_of (a0 * (1048576 : Int64)) (a0 * (1048576 : Int64)))
noncomputable def fX1_wholes (a0 : Int64) : Int64 := fX1_wholes_0 a0
set_option maxRecDepth 100000 in
set_option maxHeartbeats 4000000 in
theorem wX1_wholes_0 {T : zX} {cl ch : Nat} {σ : zSt} (hC : zOk T cX1_wholes RX1 1 23 cl ch) (hN : zNL T = 2) {r : Int64} (hQ : zRes T (some .long) (some (.long r)) σ) (a0 : Int64)  (h : fX1_wholes_0 a0  = r) : Z T σ 0 [(0, .long a0)] [] := by
  unfold fX1_wholes_0 at h
  refine z_lload_n hC 0 rfl rfl dX1_wholes_0 ?_
  refine z_ldc2 hC kc_X1_185 dX1_wholes_1 ?_
  refine z_lmul hC dX1_wholes_4 ?_
  refine z_lload_n hC 0 rfl rfl dX1_wholes_5 ?_
  refine z_ldc2 hC kc_X1_185 dX1_wholes_6 ?_
  refine z_lmul hC dX1_wholes_9 ?_
  refine z_cS2r hC (ctX5_of hC.hm) kb_X5_of km_X1_105 ⟨by decide, by decide⟩ (Nat.le_of_ble_eq_true rfl) dX1_wholes_10 ?_
  subst h
  exact z_lret hC hQ dX1_wholes_13
set_option maxRecDepth 100000 in
theorem ctX1_wholes {l : Launch} {G : zGt} {mk : zSt → zSt} {cl ch : Nat} (hm : zM mk cl ch) {a0 : Int64} {σ : zSt} : zMet l G mk yX1_wholes cX1_wholes 2 (some .long) 1 23 [.long a0] σ (some (.long (fX1_wholes a0 ))) σ := by

  refine zMet.of (plainFor_of_name (by decide +kernel)) hm (Nat.le_of_ble_eq_true rfl) (fun T eL eG eM hN hC hQ => ?_)
  subst eL; subst eG; subst eM
  refine z_sub [(0, .long a0)] [0] rfl ?_
  exact wX1_wholes_0 hC hN hQ _  rfl
noncomputable def fX1_leanOfPower_0 (a0 : Int64) (a2 : Int64) (a4 : Int64) : Option Int64 := 
    (if a2 = (1 : Int64) then some a4
    else bd1 (fX5_power a0 (a2 - (1 : Int64))) fun r19_2 => some (fX5_times (fX5_times (fX1_wholes a2) r19_2) a4))
noncomputable def fX1_leanOfPower (a0 : Int64) (a2 : Int64) (a4 : Int64) : Option Int64 := fX1_leanOfPower_0 a0 a2 a4
set_option maxRecDepth 100000 in
set_option maxHeartbeats 4000000 in
theorem wX1_leanOfPower_0 {T : zX} {cl ch : Nat} {σ : zSt} (hC : zOk T cX1_leanOfPower RX1 2 58 cl ch) (hN : zNL T = 6) {r : Int64} (hQ : zRes T (some .long) (some (.long r)) σ) (a0 : Int64) (a2 : Int64) (a4 : Int64)  (h : fX1_leanOfPower_0 a0 a2 a4  = some r) : Z T σ 0 [(0, .long a0), (2, .long a2), (4, .long a4)] [] := by
  unfold fX1_leanOfPower_0 at h
  refine z_lload_n hC 1 rfl rfl dX1_leanOfPower_0 ?_
  refine z_lconst hC (1 : Int64) (by decide) dX1_leanOfPower_1 ?_
  refine z_cmp_ne hC 11 (by decide) dX1_leanOfPower_2 dX1_leanOfPower_3 (fun q2_1 => ?_) (fun q2_1 => ?_)
  · replace h := z_f q2_1 h
    refine z_lload_n hC 1 rfl rfl dX1_leanOfPower_11 ?_
    refine z_cS1r hC (ctX1_wholes hC.hm) kb_X1_wholes km_X1_166 ⟨by decide, by decide⟩ (Nat.le_of_ble_eq_true rfl) dX1_leanOfPower_12 ?_
    refine z_lload_n hC 0 rfl rfl dX1_leanOfPower_15 ?_
    refine z_lload_n hC 1 rfl rfl dX1_leanOfPower_16 ?_
    refine z_lconst hC (1 : Int64) (by decide) dX1_leanOfPower_17 ?_
    refine z_lsub hC dX1_leanOfPower_18 ?_
    refine z_b1 h (fun r19_2 e_r19_2 h => ?_)
    refine z_cS2r hC (ctX5_power hC.hm e_r19_2) kb_X5_power km_X1_127 ⟨by decide, by decide⟩ (Nat.le_of_ble_eq_true rfl) dX1_leanOfPower_19 ?_
    refine z_cS2r hC (ctX5_times hC.hm) kb_X5_times km_X1_160 ⟨by decide, by decide⟩ (Nat.le_of_ble_eq_true rfl) dX1_leanOfPower_22 ?_
    refine z_lload hC 2 rfl dX1_leanOfPower_25 ?_
    refine z_cS2r hC (ctX5_times hC.hm) kb_X5_times km_X1_160 ⟨by decide, by decide⟩ (Nat.le_of_ble_eq_true rfl) dX1_leanOfPower_27 ?_
    obtain rfl := z_so h
    exact z_lret hC hQ dX1_leanOfPower_30
  · replace h := z_t q2_1 h
    refine z_lload hC 2 rfl dX1_leanOfPower_6 ?_
    refine z_goto hC 30 (by decide) dX1_leanOfPower_8 ?_
    obtain rfl := z_so h
    exact z_lret hC hQ dX1_leanOfPower_30
set_option maxRecDepth 100000 in
theorem ctX1_leanOfPower {l : Launch} {G : zGt} {mk : zSt → zSt} {cl ch : Nat} (hm : zM mk cl ch) {a0 : Int64} {a2 : Int64} {a4 : Int64} {σ : zSt} {r : Int64} (h : fX1_leanOfPower a0 a2 a4  = some r) : zMet l G mk yX1_leanOfPower cX1_leanOfPower 6 (some .long) 2 58 [.long a0, .long a2, .long a4] σ (some (.long r)) σ := by
  unfold fX1_leanOfPower at h

  refine zMet.of (plainFor_of_name (by decide +kernel)) hm (Nat.le_of_ble_eq_true rfl) (fun T eL eG eM hN hC hQ => ?_)
  subst eL; subst eG; subst eM
  refine z_sub [(0, .long a0), (2, .long a2), (4, .long a4)] [0, 1, 2] rfl ?_
  exact wX1_leanOfPower_0 hC hN hQ _ _ _  h
noncomputable def fX1_leanOfSize_0 (a0 : Int64) (a2 : Int64) : Int64 := 
    (if (fX5_lowOf a0) < (0 : Int64) then 
      (if (0 : Int64) < (fX5_highOf a0) then (fX5_together a2 (fX5_turned a2))
      else (fX5_turned a2))
    else a2)
noncomputable def fX1_leanOfSize (a0 : Int64) (a2 : Int64) : Int64 := fX1_leanOfSize_0 a0 a2
set_option maxRecDepth 100000 in
set_option maxHeartbeats 4000000 in
theorem wX1_leanOfSize_0 {T : zX} {cl ch : Nat} {σ : zSt} (hC : zOk T cX1_leanOfSize RX1 2 46 cl ch) (hN : zNL T = 4) {r : Int64} (hQ : zRes T (some .long) (some (.long r)) σ) (a0 : Int64) (a2 : Int64)  (h : fX1_leanOfSize_0 a0 a2  = r) : Z T σ 0 [(0, .long a0), (2, .long a2)] [] := by
  unfold fX1_leanOfSize_0 at h
  refine z_lload_n hC 0 rfl rfl dX1_leanOfSize_0 ?_
  refine z_cS1r hC (ctX5_lowOf hC.hm) kb_X5_lowOf km_X1_187 ⟨by decide, by decide⟩ (Nat.le_of_ble_eq_true rfl) dX1_leanOfSize_1 ?_
  refine z_lconst hC (0 : Int64) (by decide) dX1_leanOfSize_4 ?_
  refine z_cmp_lt hC 11 (by decide) dX1_leanOfSize_5 dX1_leanOfSize_6 (fun q5_1 => ?_) (fun q5_1 => ?_)
  · replace h := z_t q5_1 h
    refine z_lload_n hC 0 rfl rfl dX1_leanOfSize_11 ?_
    refine z_cS1r hC (ctX5_highOf hC.hm) kb_X5_highOf km_X1_190 ⟨by decide, by decide⟩ (Nat.le_of_ble_eq_true rfl) dX1_leanOfSize_12 ?_
    refine z_lconst hC (0 : Int64) (by decide) dX1_leanOfSize_15 ?_
    refine z_cmp_gt hC 27 (by decide) dX1_leanOfSize_16 dX1_leanOfSize_17 (fun q16_2 => ?_) (fun q16_2 => ?_)
    · replace h := z_t q16_2 h
      refine z_lload_n hC 1 rfl rfl dX1_leanOfSize_27 ?_
      refine z_lload_n hC 1 rfl rfl dX1_leanOfSize_28 ?_
      refine z_cS1r hC (ctX5_turned hC.hm) kb_X5_turned km_X1_123 ⟨by decide, by decide⟩ (Nat.le_of_ble_eq_true rfl) dX1_leanOfSize_29 ?_
      refine z_cS2r hC (ctX5_together hC.hm) kb_X5_together km_X1_182 ⟨by decide, by decide⟩ (Nat.le_of_ble_eq_true rfl) dX1_leanOfSize_32 ?_
      subst h
      exact z_lret hC hQ dX1_leanOfSize_35
    · replace h := z_f q16_2 h
      refine z_lload_n hC 1 rfl rfl dX1_leanOfSize_20 ?_
      refine z_cS1r hC (ctX5_turned hC.hm) kb_X5_turned km_X1_123 ⟨by decide, by decide⟩ (Nat.le_of_ble_eq_true rfl) dX1_leanOfSize_21 ?_
      refine z_goto hC 35 (by decide) dX1_leanOfSize_24 ?_
      subst h
      exact z_lret hC hQ dX1_leanOfSize_35
  · replace h := z_f q5_1 h
    refine z_lload_n hC 1 rfl rfl dX1_leanOfSize_9 ?_
    subst h
    exact z_lret hC hQ dX1_leanOfSize_10
set_option maxRecDepth 100000 in
theorem ctX1_leanOfSize {l : Launch} {G : zGt} {mk : zSt → zSt} {cl ch : Nat} (hm : zM mk cl ch) {a0 : Int64} {a2 : Int64} {σ : zSt} : zMet l G mk yX1_leanOfSize cX1_leanOfSize 4 (some .long) 2 46 [.long a0, .long a2] σ (some (.long (fX1_leanOfSize a0 a2 ))) σ := by

  refine zMet.of (plainFor_of_name (by decide +kernel)) hm (Nat.le_of_ble_eq_true rfl) (fun T eL eG eM hN hC hQ => ?_)
  subst eL; subst eG; subst eM
  refine z_sub [(0, .long a0), (2, .long a2)] [0, 1] rfl ?_
  exact wX1_leanOfSize_0 hC hN hQ _ _  rfl
noncomputable def fX1_leanOf_0 (a1 : Nat) (a2 : Int32) (σ : zSt) : Option Int64 := bd1 (fX0_leftAt a1 a2 σ) fun r6_1 => bd1 (fX1_rowAt_9 r6_1 σ) fun r9_2 => bd1 (fX1_rowAt_9 (a2 - (1 : Int32)) σ) fun r20_3 => bd1 (fX0_leftAt a1 a2 σ) fun r31_4 => bd1 (fX1_rowAt_10 r31_4 σ) fun r34_5 => bd1 (fX1_rowAt_10 (a2 - (1 : Int32)) σ) fun r46_6 => bd1 (fX1_rowAt_9 a2 σ) fun r56_7 => bd1 (fX0_kindAt a1 a2 σ) fun r63_8 => 
    (
    if r63_8 = 0 then some (fX1_wholes (1 : Int64)) else 
    if r63_8 = 1 then some (fX1_wholes (0 : Int64)) else 
    if r63_8 = 2 then bd1 (fX0_detailAt a1 a2 σ) fun r164_12 => bd1 (fX1_rowAt_12 (Int64.toInt32 r164_12) σ) fun r168_13 => some r168_13 else 
    if r63_8 = 3 then some (fX5_turned r46_6) else 
    if r63_8 = 4 then bd1 (fX0_detailAt a1 a2 σ) fun r182_16 => bd1 (fX1_leanOfPower r20_3 r182_16 r46_6) fun r187_17 => some r187_17 else 
    if r63_8 = 5 then bd1 (fX5_over r46_6 (fX5_times (fX1_wholes (2 : Int64)) r56_7)) fun r204_19 => some r204_19 else 
    if r63_8 = 6 then some (fX5_times r56_7 r46_6) else 
    if r63_8 = 7 then bd1 (fX5_over r46_6 r20_3) fun r220_22 => some r220_22 else 
    if r63_8 = 8 then bd1 (fX4_wave r20_3 (1 : Int32)) fun r227_24 => some (fX5_times r227_24 r46_6) else 
    if r63_8 = 9 then bd1 (fX4_wave r20_3 (0 : Int32)) fun r239_26 => some (fX5_turned (fX5_times r239_26 r46_6)) else 
    if r63_8 = 10 then some (fX1_leanOfSize r20_3 r46_6) else 
    if r63_8 = 11 then 
                            (if (fX5_isApart r9_2 r20_3) = 0 then 
                              (if (fX5_isApart r20_3 r9_2) = 0 then some (fX5_together r34_5 r46_6)
                              else some r46_6)
                            else some r34_5) else 
    if r63_8 = 12 then 
                              (if (fX5_isApart r20_3 r9_2) = 0 then 
                                (if (fX5_isApart r9_2 r20_3) = 0 then some (fX5_together r34_5 r46_6)
                                else some r46_6)
                              else some r34_5) else 
    if r63_8 = 13 then some (fX5_plus r34_5 r46_6) else 
    if r63_8 = 14 then some (fX5_minus r34_5 r46_6) else 
    if r63_8 = 15 then some (fX5_plus (fX5_times r34_5 r20_3) (fX5_times r9_2 r46_6)) else 
    if r63_8 = 16 then bd1 (fX5_power r20_3 (2 : Int64)) fun r385_38 => bd1 (fX5_over (fX5_minus (fX5_times r34_5 r20_3) (fX5_times r9_2 r46_6)) r385_38) fun r388_39 => some r388_39 else some (4294967296 : Int64))
noncomputable def fX1_leanOf (a1 : Nat) (a2 : Int32) (σ : zSt) : Option Int64 := zg (a1 < 10) <| fX1_leanOf_0 a1 a2 σ
set_option maxRecDepth 100000 in
set_option maxHeartbeats 4000000 in
theorem wX1_leanOf_0 {T : zX} {σ : zSt} (hC : zOk T cX1_leanOf RX1 3 83 0 61) (hN : zNL T = 13) {r : Int64} (hQ : zRes T (some .long) (some (.long r)) σ) (a1 : Nat) (a2 : Int32) (hk_a1 : a1 < 10) (h : fX1_leanOf_0 a1 a2 σ = some r) : Z T σ 0 [(0, .ref (zAd T (3))), (1, .ref (zAd T (21 + 4 * a1))), (2, .int a2)] [] := by
  unfold fX1_leanOf_0 at h
  refine z_aload_n hC 0 rfl rfl dX1_leanOf_0 ?_
  refine gX1_3 hC kf_X1_26 dX1_leanOf_1 ?_
  refine z_aload_n hC 1 rfl rfl dX1_leanOf_4 ?_
  refine z_iload_n hC 2 rfl rfl dX1_leanOf_5 ?_
  refine z_b1 h (fun r6_1 e_r6_1 h => ?_)
  refine z_cV1r hC (ctX0_leftAt hC.hm e_r6_1) (rcX0 hC hk_a1) kb_X0_leftAt km_X1_82 ⟨by decide, by decide⟩ (Nat.le_of_ble_eq_true rfl) dX1_leanOf_6 ?_
  refine z_b1 h (fun r9_2 e_r9_2 h => ?_)
  refine z_cS2r hC (ctX1_rowAt_9 hC.hm e_r9_2) kb_X1_rowAt km_X1_119 ⟨by decide, by decide⟩ (Nat.le_of_ble_eq_true rfl) dX1_leanOf_9 ?_
  refine z_lstore_n hC [(3, .long r9_2), (0, .ref (zAd T (3))), (1, .ref (zAd T (21 + 4 * a1))), (2, .int a2)] rfl (by rw [hN]; decide) rfl dX1_leanOf_12 ?_
  refine z_aload_n hC 1 rfl rfl dX1_leanOf_13 ?_
  refine gX1_3 hC kf_X1_26 dX1_leanOf_14 ?_
  refine z_iload_n hC 3 rfl rfl dX1_leanOf_17 ?_
  refine z_iconst hC (1 : Int32) (by decide) dX1_leanOf_18 ?_
  refine z_isub hC dX1_leanOf_19 ?_
  refine z_b1 h (fun r20_3 e_r20_3 h => ?_)
  refine z_cS2r hC (ctX1_rowAt_9 hC.hm e_r20_3) kb_X1_rowAt km_X1_119 ⟨by decide, by decide⟩ (Nat.le_of_ble_eq_true rfl) dX1_leanOf_20 ?_
  refine z_lstore hC [(5, .long r20_3), (3, .long r9_2), (0, .ref (zAd T (3))), (1, .ref (zAd T (21 + 4 * a1))), (2, .int a2)] (by rw [hN]; decide) rfl dX1_leanOf_23 ?_
  refine z_aload_n hC 2 rfl rfl dX1_leanOf_25 ?_
  refine gX1_4 hC kf_X1_30 dX1_leanOf_26 ?_
  refine z_aload_n hC 3 rfl rfl dX1_leanOf_29 ?_
  refine z_iload_n hC 4 rfl rfl dX1_leanOf_30 ?_
  refine z_b1 h (fun r31_4 e_r31_4 h => ?_)
  refine z_cV1r hC (ctX0_leftAt hC.hm e_r31_4) (rcX0 hC hk_a1) kb_X0_leftAt km_X1_82 ⟨by decide, by decide⟩ (Nat.le_of_ble_eq_true rfl) dX1_leanOf_31 ?_
  refine z_b1 h (fun r34_5 e_r34_5 h => ?_)
  refine z_cS2r hC (ctX1_rowAt_10 hC.hm e_r34_5) kb_X1_rowAt km_X1_119 ⟨by decide, by decide⟩ (Nat.le_of_ble_eq_true rfl) dX1_leanOf_34 ?_
  refine z_lstore hC [(7, .long r34_5), (5, .long r20_3), (3, .long r9_2), (0, .ref (zAd T (3))), (1, .ref (zAd T (21 + 4 * a1))), (2, .int a2)] (by rw [hN]; decide) rfl dX1_leanOf_37 ?_
  refine z_aload_n hC 3 rfl rfl dX1_leanOf_39 ?_
  refine gX1_4 hC kf_X1_30 dX1_leanOf_40 ?_
  refine z_iload_n hC 5 rfl rfl dX1_leanOf_43 ?_
  refine z_iconst hC (1 : Int32) (by decide) dX1_leanOf_44 ?_
  refine z_isub hC dX1_leanOf_45 ?_
  refine z_b1 h (fun r46_6 e_r46_6 h => ?_)
  refine z_cS2r hC (ctX1_rowAt_10 hC.hm e_r46_6) kb_X1_rowAt km_X1_119 ⟨by decide, by decide⟩ (Nat.le_of_ble_eq_true rfl) dX1_leanOf_46 ?_
  refine z_lstore hC [(9, .long r46_6), (7, .long r34_5), (5, .long r20_3), (3, .long r9_2), (0, .ref (zAd T (3))), (1, .ref (zAd T (21 + 4 * a1))), (2, .int a2)] (by rw [hN]; decide) rfl dX1_leanOf_49 ?_
  refine z_aload_n hC 4 rfl rfl dX1_leanOf_51 ?_
  refine gX1_3 hC kf_X1_26 dX1_leanOf_52 ?_
  refine z_iload_n hC 6 rfl rfl dX1_leanOf_55 ?_
  refine z_b1 h (fun r56_7 e_r56_7 h => ?_)
  refine z_cS2r hC (ctX1_rowAt_9 hC.hm e_r56_7) kb_X1_rowAt km_X1_119 ⟨by decide, by decide⟩ (Nat.le_of_ble_eq_true rfl) dX1_leanOf_56 ?_
  refine z_lstore hC [(11, .long r56_7), (9, .long r46_6), (7, .long r34_5), (5, .long r20_3), (3, .long r9_2), (0, .ref (zAd T (3))), (1, .ref (zAd T (21 + 4 * a1))), (2, .int a2)] (by rw [hN]; decide) rfl dX1_leanOf_59 ?_
  refine z_aload_n hC 6 rfl rfl dX1_leanOf_61 ?_
  refine z_iload_n hC 7 rfl rfl dX1_leanOf_62 ?_
  refine z_b1 h (fun r63_8 e_r63_8 h => ?_)
  refine z_cV1r hC (ctX0_kindAt hC.hm e_r63_8) (rcX0 hC hk_a1) kb_X0_kindAt km_X1_89 ⟨by decide, by decide⟩ (Nat.le_of_ble_eq_true rfl) dX1_leanOf_63 ?_
  refine z_ite h (fun q66_9 h => ?_) (fun q66_9 h => ?_)
  · refine z_tabIn hC (82) 148 (by rw [q66_9]; decide) (by rw [q66_9]; decide) (by rw [q66_9]; decide +kernel) (by decide) dX1_leanOf_66 ?_
    refine z_lconst hC (1 : Int64) (by decide) dX1_leanOf_148 ?_
    refine z_cS1r hC (ctX1_wholes hC.hm) kb_X1_wholes km_X1_166 ⟨by decide, by decide⟩ (Nat.le_of_ble_eq_true rfl) dX1_leanOf_149 ?_
    obtain rfl := z_so h
    exact z_lret hC hQ dX1_leanOf_152
  ·
    refine z_ite h (fun q66_10 h => ?_) (fun q66_10 h => ?_)
    · refine z_tabIn hC (87) 153 (by rw [q66_10]; decide) (by rw [q66_10]; decide) (by rw [q66_10]; decide +kernel) (by decide) dX1_leanOf_66 ?_
      refine z_lconst hC (0 : Int64) (by decide) dX1_leanOf_153 ?_
      refine z_cS1r hC (ctX1_wholes hC.hm) kb_X1_wholes km_X1_166 ⟨by decide, by decide⟩ (Nat.le_of_ble_eq_true rfl) dX1_leanOf_154 ?_
      obtain rfl := z_so h
      exact z_lret hC hQ dX1_leanOf_157
    ·
      refine z_ite h (fun q66_11 h => ?_) (fun q66_11 h => ?_)
      · refine z_tabIn hC (92) 158 (by rw [q66_11]; decide) (by rw [q66_11]; decide) (by rw [q66_11]; decide +kernel) (by decide) dX1_leanOf_66 ?_
        refine z_aload_n hC 5 rfl rfl dX1_leanOf_158 ?_
        refine gX1_6 hC kf_X1_36 dX1_leanOf_159 ?_
        refine z_aload_n hC 6 rfl rfl dX1_leanOf_162 ?_
        refine z_iload_n hC 7 rfl rfl dX1_leanOf_163 ?_
        refine z_b1 h (fun r164_12 e_r164_12 h => ?_)
        refine z_cV1r hC (ctX0_detailAt hC.hm e_r164_12) (rcX0 hC hk_a1) kb_X0_detailAt km_X1_92 ⟨by decide, by decide⟩ (Nat.le_of_ble_eq_true rfl) dX1_leanOf_164 ?_
        refine z_l2i hC dX1_leanOf_167 ?_
        refine z_b1 h (fun r168_13 e_r168_13 h => ?_)
        refine z_cS2r hC (ctX1_rowAt_12 hC.hm e_r168_13) kb_X1_rowAt km_X1_119 ⟨by decide, by decide⟩ (Nat.le_of_ble_eq_true rfl) dX1_leanOf_168 ?_
        obtain rfl := z_so h
        exact z_lret hC hQ dX1_leanOf_171
      ·
        refine z_ite h (fun q66_14 h => ?_) (fun q66_14 h => ?_)
        · refine z_tabIn hC (106) 172 (by rw [q66_14]; decide) (by rw [q66_14]; decide) (by rw [q66_14]; decide +kernel) (by decide) dX1_leanOf_66 ?_
          refine z_lload hC 1 rfl dX1_leanOf_172 ?_
          refine z_cS1r hC (ctX5_turned hC.hm) kb_X5_turned km_X1_123 ⟨by decide, by decide⟩ (Nat.le_of_ble_eq_true rfl) dX1_leanOf_174 ?_
          obtain rfl := z_so h
          exact z_lret hC hQ dX1_leanOf_177
        ·
          refine z_ite h (fun q66_15 h => ?_) (fun q66_15 h => ?_)
          · refine z_tabIn hC (112) 178 (by rw [q66_15]; decide) (by rw [q66_15]; decide) (by rw [q66_15]; decide +kernel) (by decide) dX1_leanOf_66 ?_
            refine z_lload hC 3 rfl dX1_leanOf_178 ?_
            refine z_aload_n hC 6 rfl rfl dX1_leanOf_180 ?_
            refine z_iload_n hC 7 rfl rfl dX1_leanOf_181 ?_
            refine z_b1 h (fun r182_16 e_r182_16 h => ?_)
            refine z_cV1r hC (ctX0_detailAt hC.hm e_r182_16) (rcX0 hC hk_a1) kb_X0_detailAt km_X1_92 ⟨by decide, by decide⟩ (Nat.le_of_ble_eq_true rfl) dX1_leanOf_182 ?_
            refine z_lload hC 1 rfl dX1_leanOf_185 ?_
            refine z_b1 h (fun r187_17 e_r187_17 h => ?_)
            refine z_cS3r hC (ctX1_leanOfPower hC.hm e_r187_17) kb_X1_leanOfPower km_X1_169 ⟨by decide, by decide⟩ (Nat.le_of_ble_eq_true rfl) dX1_leanOf_187 ?_
            obtain rfl := z_so h
            exact z_lret hC hQ dX1_leanOf_190
          ·
            refine z_ite h (fun q66_18 h => ?_) (fun q66_18 h => ?_)
            · refine z_tabIn hC (125) 191 (by rw [q66_18]; decide) (by rw [q66_18]; decide) (by rw [q66_18]; decide +kernel) (by decide) dX1_leanOf_66 ?_
              refine z_lload hC 1 rfl dX1_leanOf_191 ?_
              refine z_ldc2 hC kc_X1_173 dX1_leanOf_193 ?_
              refine z_cS1r hC (ctX1_wholes hC.hm) kb_X1_wholes km_X1_166 ⟨by decide, by decide⟩ (Nat.le_of_ble_eq_true rfl) dX1_leanOf_196 ?_
              refine z_lload hC 0 rfl dX1_leanOf_199 ?_
              refine z_cS2r hC (ctX5_times hC.hm) kb_X5_times km_X1_160 ⟨by decide, by decide⟩ (Nat.le_of_ble_eq_true rfl) dX1_leanOf_201 ?_
              refine z_b1 h (fun r204_19 e_r204_19 h => ?_)
              refine z_cS2r hC (ctX5_over hC.hm e_r204_19) kb_X5_over km_X1_163 ⟨by decide, by decide⟩ (Nat.le_of_ble_eq_true rfl) dX1_leanOf_204 ?_
              obtain rfl := z_so h
              exact z_lret hC hQ dX1_leanOf_207
            ·
              refine z_ite h (fun q66_20 h => ?_) (fun q66_20 h => ?_)
              · refine z_tabIn hC (142) 208 (by rw [q66_20]; decide) (by rw [q66_20]; decide) (by rw [q66_20]; decide +kernel) (by decide) dX1_leanOf_66 ?_
                refine z_lload hC 0 rfl dX1_leanOf_208 ?_
                refine z_lload hC 1 rfl dX1_leanOf_210 ?_
                refine z_cS2r hC (ctX5_times hC.hm) kb_X5_times km_X1_160 ⟨by decide, by decide⟩ (Nat.le_of_ble_eq_true rfl) dX1_leanOf_212 ?_
                obtain rfl := z_so h
                exact z_lret hC hQ dX1_leanOf_215
              ·
                refine z_ite h (fun q66_21 h => ?_) (fun q66_21 h => ?_)
                · refine z_tabIn hC (150) 216 (by rw [q66_21]; decide) (by rw [q66_21]; decide) (by rw [q66_21]; decide +kernel) (by decide) dX1_leanOf_66 ?_
                  refine z_lload hC 1 rfl dX1_leanOf_216 ?_
                  refine z_lload hC 3 rfl dX1_leanOf_218 ?_
                  refine z_b1 h (fun r220_22 e_r220_22 h => ?_)
                  refine z_cS2r hC (ctX5_over hC.hm e_r220_22) kb_X5_over km_X1_163 ⟨by decide, by decide⟩ (Nat.le_of_ble_eq_true rfl) dX1_leanOf_220 ?_
                  obtain rfl := z_so h
                  exact z_lret hC hQ dX1_leanOf_223
                ·
                  refine z_ite h (fun q66_23 h => ?_) (fun q66_23 h => ?_)
                  · refine z_tabIn hC (158) 224 (by rw [q66_23]; decide) (by rw [q66_23]; decide) (by rw [q66_23]; decide +kernel) (by decide) dX1_leanOf_66 ?_
                    refine z_lload hC 3 rfl dX1_leanOf_224 ?_
                    refine z_iconst hC (1 : Int32) (by decide) dX1_leanOf_226 ?_
                    refine z_b1 h (fun r227_24 e_r227_24 h => ?_)
                    refine z_cS2r hC (ctX4_wave hC.hm e_r227_24) kb_X4_wave km_X1_141 ⟨by decide, by decide⟩ (Nat.le_of_ble_eq_true rfl) dX1_leanOf_227 ?_
                    refine z_lload hC 1 rfl dX1_leanOf_230 ?_
                    refine z_cS2r hC (ctX5_times hC.hm) kb_X5_times km_X1_160 ⟨by decide, by decide⟩ (Nat.le_of_ble_eq_true rfl) dX1_leanOf_232 ?_
                    obtain rfl := z_so h
                    exact z_lret hC hQ dX1_leanOf_235
                  ·
                    refine z_ite h (fun q66_25 h => ?_) (fun q66_25 h => ?_)
                    · refine z_tabIn hC (170) 236 (by rw [q66_25]; decide) (by rw [q66_25]; decide) (by rw [q66_25]; decide +kernel) (by decide) dX1_leanOf_66 ?_
                      refine z_lload hC 3 rfl dX1_leanOf_236 ?_
                      refine z_iconst hC (0 : Int32) (by decide) dX1_leanOf_238 ?_
                      refine z_b1 h (fun r239_26 e_r239_26 h => ?_)
                      refine z_cS2r hC (ctX4_wave hC.hm e_r239_26) kb_X4_wave km_X1_141 ⟨by decide, by decide⟩ (Nat.le_of_ble_eq_true rfl) dX1_leanOf_239 ?_
                      refine z_lload hC 1 rfl dX1_leanOf_242 ?_
                      refine z_cS2r hC (ctX5_times hC.hm) kb_X5_times km_X1_160 ⟨by decide, by decide⟩ (Nat.le_of_ble_eq_true rfl) dX1_leanOf_244 ?_
                      refine z_cS1r hC (ctX5_turned hC.hm) kb_X5_turned km_X1_123 ⟨by decide, by decide⟩ (Nat.le_of_ble_eq_true rfl) dX1_leanOf_247 ?_
                      obtain rfl := z_so h
                      exact z_lret hC hQ dX1_leanOf_250
                    ·
                      refine z_ite h (fun q66_27 h => ?_) (fun q66_27 h => ?_)
                      · refine z_tabIn hC (185) 251 (by rw [q66_27]; decide) (by rw [q66_27]; decide) (by rw [q66_27]; decide +kernel) (by decide) dX1_leanOf_66 ?_
                        refine z_lload hC 3 rfl dX1_leanOf_251 ?_
                        refine z_lload hC 1 rfl dX1_leanOf_253 ?_
                        refine z_cS2r hC (ctX1_leanOfSize hC.hm) kb_X1_leanOfSize km_X1_175 ⟨by decide, by decide⟩ (Nat.le_of_ble_eq_true rfl) dX1_leanOf_255 ?_
                        obtain rfl := z_so h
                        exact z_lret hC hQ dX1_leanOf_258
                      ·
                        refine z_ite h (fun q66_28 h => ?_) (fun q66_28 h => ?_)
                        · refine z_tabIn hC (193) 259 (by rw [q66_28]; decide) (by rw [q66_28]; decide) (by rw [q66_28]; decide +kernel) (by decide) dX1_leanOf_66 ?_
                          refine z_lload_n hC 4 rfl rfl dX1_leanOf_259 ?_
                          refine z_lload hC 3 rfl dX1_leanOf_260 ?_
                          refine z_cS2r hC (ctX5_isApart hC.hm) kb_X5_isApart km_X1_178 ⟨by decide, by decide⟩ (Nat.le_of_ble_eq_true rfl) dX1_leanOf_262 ?_
                          refine z_if_eq hC 273 (by decide) dX1_leanOf_265 (fun q265_29 => ?_) (fun q265_29 => ?_)
                          · replace h := z_t q265_29 h
                            refine z_lload hC 3 rfl dX1_leanOf_273 ?_
                            refine z_lload_n hC 4 rfl rfl dX1_leanOf_275 ?_
                            refine z_cS2r hC (ctX5_isApart hC.hm) kb_X5_isApart km_X1_178 ⟨by decide, by decide⟩ (Nat.le_of_ble_eq_true rfl) dX1_leanOf_276 ?_
                            refine z_if_eq hC 287 (by decide) dX1_leanOf_279 (fun q279_30 => ?_) (fun q279_30 => ?_)
                            · replace h := z_t q279_30 h
                              refine z_lload hC 2 rfl dX1_leanOf_287 ?_
                              refine z_lload hC 1 rfl dX1_leanOf_289 ?_
                              refine z_cS2r hC (ctX5_together hC.hm) kb_X5_together km_X1_182 ⟨by decide, by decide⟩ (Nat.le_of_ble_eq_true rfl) dX1_leanOf_291 ?_
                              obtain rfl := z_so h
                              exact z_lret hC hQ dX1_leanOf_294
                            · replace h := z_f q279_30 h
                              refine z_lload hC 1 rfl dX1_leanOf_282 ?_
                              refine z_goto hC 294 (by decide) dX1_leanOf_284 ?_
                              obtain rfl := z_so h
                              exact z_lret hC hQ dX1_leanOf_294
                          · replace h := z_f q265_29 h
                            refine z_lload hC 2 rfl dX1_leanOf_268 ?_
                            refine z_goto hC 294 (by decide) dX1_leanOf_270 ?_
                            obtain rfl := z_so h
                            exact z_lret hC hQ dX1_leanOf_294
                        ·
                          refine z_ite h (fun q66_31 h => ?_) (fun q66_31 h => ?_)
                          · refine z_tabIn hC (229) 295 (by rw [q66_31]; decide) (by rw [q66_31]; decide) (by rw [q66_31]; decide +kernel) (by decide) dX1_leanOf_66 ?_
                            refine z_lload hC 3 rfl dX1_leanOf_295 ?_
                            refine z_lload_n hC 4 rfl rfl dX1_leanOf_297 ?_
                            refine z_cS2r hC (ctX5_isApart hC.hm) kb_X5_isApart km_X1_178 ⟨by decide, by decide⟩ (Nat.le_of_ble_eq_true rfl) dX1_leanOf_298 ?_
                            refine z_if_eq hC 309 (by decide) dX1_leanOf_301 (fun q301_32 => ?_) (fun q301_32 => ?_)
                            · replace h := z_t q301_32 h
                              refine z_lload_n hC 4 rfl rfl dX1_leanOf_309 ?_
                              refine z_lload hC 3 rfl dX1_leanOf_310 ?_
                              refine z_cS2r hC (ctX5_isApart hC.hm) kb_X5_isApart km_X1_178 ⟨by decide, by decide⟩ (Nat.le_of_ble_eq_true rfl) dX1_leanOf_312 ?_
                              refine z_if_eq hC 323 (by decide) dX1_leanOf_315 (fun q315_33 => ?_) (fun q315_33 => ?_)
                              · replace h := z_t q315_33 h
                                refine z_lload hC 2 rfl dX1_leanOf_323 ?_
                                refine z_lload hC 1 rfl dX1_leanOf_325 ?_
                                refine z_cS2r hC (ctX5_together hC.hm) kb_X5_together km_X1_182 ⟨by decide, by decide⟩ (Nat.le_of_ble_eq_true rfl) dX1_leanOf_327 ?_
                                obtain rfl := z_so h
                                exact z_lret hC hQ dX1_leanOf_330
                              · replace h := z_f q315_33 h
                                refine z_lload hC 1 rfl dX1_leanOf_318 ?_
                                refine z_goto hC 330 (by decide) dX1_leanOf_320 ?_
                                obtain rfl := z_so h
                                exact z_lret hC hQ dX1_leanOf_330
                            · replace h := z_f q301_32 h
                              refine z_lload hC 2 rfl dX1_leanOf_304 ?_
                              refine z_goto hC 330 (by decide) dX1_leanOf_306 ?_
                              obtain rfl := z_so h
                              exact z_lret hC hQ dX1_leanOf_330
                          ·
                            refine z_ite h (fun q66_34 h => ?_) (fun q66_34 h => ?_)
                            · refine z_tabIn hC (265) 331 (by rw [q66_34]; decide) (by rw [q66_34]; decide) (by rw [q66_34]; decide +kernel) (by decide) dX1_leanOf_66 ?_
                              refine z_lload hC 2 rfl dX1_leanOf_331 ?_
                              refine z_lload hC 1 rfl dX1_leanOf_333 ?_
                              refine z_cS2r hC (ctX5_plus hC.hm) kb_X5_plus km_X1_154 ⟨by decide, by decide⟩ (Nat.le_of_ble_eq_true rfl) dX1_leanOf_335 ?_
                              obtain rfl := z_so h
                              exact z_lret hC hQ dX1_leanOf_338
                            ·
                              refine z_ite h (fun q66_35 h => ?_) (fun q66_35 h => ?_)
                              · refine z_tabIn hC (273) 339 (by rw [q66_35]; decide) (by rw [q66_35]; decide) (by rw [q66_35]; decide +kernel) (by decide) dX1_leanOf_66 ?_
                                refine z_lload hC 2 rfl dX1_leanOf_339 ?_
                                refine z_lload hC 1 rfl dX1_leanOf_341 ?_
                                refine z_cS2r hC (ctX5_minus hC.hm) kb_X5_minus km_X1_157 ⟨by decide, by decide⟩ (Nat.le_of_ble_eq_true rfl) dX1_leanOf_343 ?_
                                obtain rfl := z_so h
                                exact z_lret hC hQ dX1_leanOf_346
                              ·
                                refine z_ite h (fun q66_36 h => ?_) (fun q66_36 h => ?_)
                                · refine z_tabIn hC (281) 347 (by rw [q66_36]; decide) (by rw [q66_36]; decide) (by rw [q66_36]; decide +kernel) (by decide) dX1_leanOf_66 ?_
                                  refine z_lload hC 2 rfl dX1_leanOf_347 ?_
                                  refine z_lload hC 3 rfl dX1_leanOf_349 ?_
                                  refine z_cS2r hC (ctX5_times hC.hm) kb_X5_times km_X1_160 ⟨by decide, by decide⟩ (Nat.le_of_ble_eq_true rfl) dX1_leanOf_351 ?_
                                  refine z_lload_n hC 4 rfl rfl dX1_leanOf_354 ?_
                                  refine z_lload hC 1 rfl dX1_leanOf_355 ?_
                                  refine z_cS2r hC (ctX5_times hC.hm) kb_X5_times km_X1_160 ⟨by decide, by decide⟩ (Nat.le_of_ble_eq_true rfl) dX1_leanOf_357 ?_
                                  refine z_cS2r hC (ctX5_plus hC.hm) kb_X5_plus km_X1_154 ⟨by decide, by decide⟩ (Nat.le_of_ble_eq_true rfl) dX1_leanOf_360 ?_
                                  obtain rfl := z_so h
                                  exact z_lret hC hQ dX1_leanOf_363
                                ·
                                  refine z_ite h (fun q66_37 h => ?_) (fun q66_37 h => ?_)
                                  · refine z_tabIn hC (298) 364 (by rw [q66_37]; decide) (by rw [q66_37]; decide) (by rw [q66_37]; decide +kernel) (by decide) dX1_leanOf_66 ?_
                                    refine z_lload hC 2 rfl dX1_leanOf_364 ?_
                                    refine z_lload hC 3 rfl dX1_leanOf_366 ?_
                                    refine z_cS2r hC (ctX5_times hC.hm) kb_X5_times km_X1_160 ⟨by decide, by decide⟩ (Nat.le_of_ble_eq_true rfl) dX1_leanOf_368 ?_
                                    refine z_lload_n hC 4 rfl rfl dX1_leanOf_371 ?_
                                    refine z_lload hC 1 rfl dX1_leanOf_372 ?_
                                    refine z_cS2r hC (ctX5_times hC.hm) kb_X5_times km_X1_160 ⟨by decide, by decide⟩ (Nat.le_of_ble_eq_true rfl) dX1_leanOf_374 ?_
                                    refine z_cS2r hC (ctX5_minus hC.hm) kb_X5_minus km_X1_157 ⟨by decide, by decide⟩ (Nat.le_of_ble_eq_true rfl) dX1_leanOf_377 ?_
                                    refine z_lload hC 3 rfl dX1_leanOf_380 ?_
                                    refine z_ldc2 hC kc_X1_173 dX1_leanOf_382 ?_
                                    refine z_b1 h (fun r385_38 e_r385_38 h => ?_)
                                    refine z_cS2r hC (ctX5_power hC.hm e_r385_38) kb_X5_power km_X1_127 ⟨by decide, by decide⟩ (Nat.le_of_ble_eq_true rfl) dX1_leanOf_385 ?_
                                    refine z_b1 h (fun r388_39 e_r388_39 h => ?_)
                                    refine z_cS2r hC (ctX5_over hC.hm e_r388_39) kb_X5_over km_X1_163 ⟨by decide, by decide⟩ (Nat.le_of_ble_eq_true rfl) dX1_leanOf_388 ?_
                                    obtain rfl := z_so h
                                    exact z_lret hC hQ dX1_leanOf_391
                                  ·
                                    refine z_tabD hC 17 392 (by decide) (fun i hi => by
                                        have hi2 : i = 0 ∨ i = 1 ∨ i = 2 ∨ i = 3 ∨ i = 4 ∨ i = 5 ∨ i = 6 ∨ i = 7 ∨ i = 8 ∨ i = 9 ∨ i = 10 ∨ i = 11 ∨ i = 12 ∨ i = 13 ∨ i = 14 ∨ i = 15 ∨ i = 16 := by omega
                                        rcases hi2 with rfl | rfl | rfl | rfl | rfl | rfl | rfl | rfl | rfl | rfl | rfl | rfl | rfl | rfl | rfl | rfl | rfl
                                        · exact Or.inr (fun e => q66_9 (e.symm.trans (by decide)))
                                        · exact Or.inr (fun e => q66_10 (e.symm.trans (by decide)))
                                        · exact Or.inr (fun e => q66_11 (e.symm.trans (by decide)))
                                        · exact Or.inr (fun e => q66_14 (e.symm.trans (by decide)))
                                        · exact Or.inr (fun e => q66_15 (e.symm.trans (by decide)))
                                        · exact Or.inr (fun e => q66_18 (e.symm.trans (by decide)))
                                        · exact Or.inr (fun e => q66_20 (e.symm.trans (by decide)))
                                        · exact Or.inr (fun e => q66_21 (e.symm.trans (by decide)))
                                        · exact Or.inr (fun e => q66_23 (e.symm.trans (by decide)))
                                        · exact Or.inr (fun e => q66_25 (e.symm.trans (by decide)))
                                        · exact Or.inr (fun e => q66_27 (e.symm.trans (by decide)))
                                        · exact Or.inr (fun e => q66_28 (e.symm.trans (by decide)))
                                        · exact Or.inr (fun e => q66_31 (e.symm.trans (by decide)))
                                        · exact Or.inr (fun e => q66_34 (e.symm.trans (by decide)))
                                        · exact Or.inr (fun e => q66_35 (e.symm.trans (by decide)))
                                        · exact Or.inr (fun e => q66_36 (e.symm.trans (by decide)))
                                        · exact Or.inr (fun e => q66_37 (e.symm.trans (by decide)))) (by decide) dX1_leanOf_66 ?_
                                    refine z_ldc2 hC kc_X1_41 dX1_leanOf_392 ?_
                                    obtain rfl := z_so h
                                    exact z_lret hC hQ dX1_leanOf_395
set_option maxRecDepth 100000 in
theorem ctX1_leanOf {l : Launch} {G : zGt} {mk : zSt → zSt} (hm : zM mk 0 61) {a1 : Nat} {a2 : Int32} {σ : zSt} {r : Int64} (h : fX1_leanOf a1 a2 σ = some r) : zMet l G mk yX1_leanOf cX1_leanOf 13 (some .long) 3 83 [.ref (gA G (3)), .ref (gA G (21 + 4 * a1)), .int a2] σ (some (.long r)) σ := by
  unfold fX1_leanOf at h
  refine z_g h (fun hk_a1 h => ?_)
  refine zMet.of (plainFor_of_name (by decide +kernel)) hm (Nat.le_of_ble_eq_true rfl) (fun T eL eG eM hN hC hQ => ?_)
  subst eL; subst eG; subst eM
  refine z_sub [(0, .ref (zAd T (3))), (1, .ref (zAd T (21 + 4 * a1))), (2, .int a2)] [0, 1, 2] rfl ?_
  exact wX1_leanOf_0 hC hN hQ _ _ hk_a1 h
noncomputable def fX1_measure_160 (K35 : Int32 → Int32 → Int32 → Int32 → zSt → Option (Int64 × zSt)) (v1 : Int32) (v4 : Int32) (v5 : Int32) (v6 : Int32) (v8 : Int32) (σ : zSt) : Option (Int64 × zSt) := bd1 (fX1_rowAt_9 (v8 - (1 : Int32)) σ) fun r174_1 => zg (vp_in v6 8) <| bd1 (fX1_rowAt_10 (v8 - (1 : Int32)) (sl σ 11 v6.toNatClampNeg r174_1)) fun r192_3 => zg (vp_in v6 8) <| nm (v6 + (1 : Int32)) fun x196_5 => K35 v1 v4 v5 x196_5 (sl (sl σ 11 v6.toNatClampNeg r174_1) 12 v6.toNatClampNeg r192_3)
noncomputable def fX1_measure_81 (K35 : Int32 → Int32 → Int32 → Int32 → zSt → Option (Int64 × zSt)) (K81 : Int32 → Int32 → Int32 → Int32 → Nat → Int32 → Int32 → zSt → Option (Int64 × zSt)) (v1 : Int32) (v4 : Int32) (v5 : Int32) (v6 : Int32) (v7 : Nat) (v8 : Int32) (v9 : Int32) (σ : zSt) : Option (Int64 × zSt) := 
    (if v8 ≤ v9 then fX1_measure_160 K35 v1 v4 v5 v6 v8 σ
    else 
      (if (60 : Int32) ≤ v9 then fX1_measure_160 K35 v1 v4 v5 v6 v8 σ
      else bd1 (fX1_valueOf v7 v9 σ) fun r106_3 => zg (vp_in v9 60) <| zg (vp_in v9 60) <| 
        (if r106_3 = (4294967296 : Int64) then some ((4294967296 : Int64), (sl σ 9 v9.toNatClampNeg r106_3))
        else 
          (if v4 = 0 then zg (vp_in v9 60) <| nm (v9 + (1 : Int32)) fun x154_9 => K81 v1 v4 v5 v6 v7 v8 x154_9 (sl (sl σ 9 v9.toNatClampNeg r106_3) 10 v9.toNatClampNeg (4294967296 : Int64))
          else bd1 (fX1_leanOf v7 v9 (sl σ 9 v9.toNatClampNeg r106_3)) fun r144_10 => zg (vp_in v9 60) <| nm (v9 + (1 : Int32)) fun x154_12 => K81 v1 v4 v5 v6 v7 v8 x154_12 (sl (sl σ 9 v9.toNatClampNeg r106_3) 10 v9.toNatClampNeg r144_10)))))
noncomputable def fX1_measure_L81 (K35 : Int32 → Int32 → Int32 → Int32 → zSt → Option (Int64 × zSt)) : Nat → Int32 → Int32 → Int32 → Int32 → Nat → Int32 → Int32 → zSt → Option (Int64 × zSt)
  | 0, _, _, _, _, _, _, _, _ => none
  | n + 1, v1, v4, v5, v6, v7, v8, v9, σ => fX1_measure_81 K35 (fX1_measure_L81 K35 n) v1 v4 v5 v6 v7 v8 v9 σ
noncomputable def fX1_measure_35 (K35 : Int32 → Int32 → Int32 → Int32 → zSt → Option (Int64 × zSt)) (v1 : Int32) (v4 : Int32) (v5 : Int32) (v6 : Int32) (σ : zSt) : Option (Int64 × zSt) := 
    (if v1 < v6 then bd1 (fX1_rowAt_12 v1 σ) fun r208_2 => bd1 (fX1_rowAt_11 v1 (sl σ 3 9 r208_2)) fun r219_3 => some (r219_3, (sl σ 3 9 r208_2))
    else 
      (if (8 : Int32) ≤ v6 then bd1 (fX1_rowAt_12 v1 σ) fun r208_5 => bd1 (fX1_rowAt_11 v1 (sl σ 3 9 r208_5)) fun r219_6 => some (r219_6, (sl σ 3 9 r208_5))
      else bd1 (fX1_curveAt v6) fun r51_7 => zg (r51_7 < 10) <| 
        (if ((jshrI v5 v6) &&& (1 : Int32)) = (1 : Int32) then nm (gi σ (21 + 4 * r51_7) 3) fun x76_9 => fX1_measure_L81 K35 zFU v1 v4 v5 v6 r51_7 x76_9 (0 : Int32) σ
        else fX1_measure_L81 K35 zFU v1 v4 v5 v6 r51_7 (0 : Int32) (0 : Int32) σ)))
noncomputable def fX1_measure_L35 : Nat → Int32 → Int32 → Int32 → Int32 → zSt → Option (Int64 × zSt)
  | 0, _, _, _, _, _ => none
  | n + 1, v1, v4, v5, v6, σ => fX1_measure_35 (fX1_measure_L35 n) v1 v4 v5 v6 σ
noncomputable def fX1_measure_0 (a1 : Int32) (a2 : Int32) (a3 : Int32) (a4 : Int32) (σ : zSt) : Option (Int64 × zSt) := nm (fX5_of (Int32.toInt64 a2) (Int32.toInt64 a3)) fun x8_1 => bd1 (fX1_curveAt a1) fun r20_2 => zg (r20_2 < 10) <| nm ((gi σ (21 + 4 * r20_2) 6) ||| (jshlI (1 : Int32) a1)) fun x30_3 => fX1_measure_L35 zFU a1 a4 x30_3 (0 : Int32) (sl (sl σ 3 7 x8_1) 3 9 (4294967296 : Int64))
noncomputable def fX1_measure (a1 : Int32) (a2 : Int32) (a3 : Int32) (a4 : Int32) (σ : zSt) : Option (Int64 × zSt) := fX1_measure_0 a1 a2 a3 a4 σ
set_option maxRecDepth 100000 in
set_option maxHeartbeats 4000000 in
theorem wX1_measure_160 {T : zX} (hC : zOk T cX1_measure RX1 4 118 0 61) (hN : zNL T = 10) {r : Int64} {σ' : zSt} (hQ : zRes T (some .long) (some (.long r)) σ') (K35 : Int32 → Int32 → Int32 → Int32 → zSt → Option (Int64 × zSt)) (hK35 : ∀ (v1 : Int32) (v4 : Int32) (v5 : Int32) (v6 : Int32) (τ : zSt), K35 v1 v4 v5 v6 τ = some (r, σ') → Z T τ 35 [(0, .ref (zAd T (3))), (1, .int v1), (4, .int v4), (5, .int v5), (6, .int v6)] []) (v1 : Int32) (v4 : Int32) (v5 : Int32) (v6 : Int32) (v8 : Int32)  (σ : zSt) (h : fX1_measure_160 K35 v1 v4 v5 v6 v8 σ = some (r, σ')) : Z T σ 160 [(0, .ref (zAd T (3))), (1, .int v1), (4, .int v4), (5, .int v5), (6, .int v6), (8, .int v8)] [] := by
  unfold fX1_measure_160 at h
  refine z_aload_n hC 0 rfl rfl dX1_measure_160 ?_
  refine gX1_5 hC kf_X1_33 dX1_measure_161 ?_
  refine z_iload hC 4 rfl dX1_measure_164 ?_
  refine z_aload_n hC 0 rfl rfl dX1_measure_166 ?_
  refine gX1_3 hC kf_X1_26 dX1_measure_167 ?_
  refine z_iload hC 5 rfl dX1_measure_170 ?_
  refine z_iconst hC (1 : Int32) (by decide) dX1_measure_172 ?_
  refine z_isub hC dX1_measure_173 ?_
  refine z_b1 h (fun r174_1 e_r174_1 h => ?_)
  refine z_cS2r hC (ctX1_rowAt_9 hC.hm e_r174_1) kb_X1_rowAt km_X1_119 ⟨by decide, by decide⟩ (Nat.le_of_ble_eq_true rfl) dX1_measure_174 ?_
  refine z_g h (fun g177_2 h => ?_)
  refine z_last hC 11 ⟨by decide, by decide⟩ (zS_11 _) g177_2 dX1_measure_177 ?_
  refine z_aload_n hC 0 rfl rfl dX1_measure_178 ?_
  refine gX1_6 hC kf_X1_36 dX1_measure_179 ?_
  refine z_iload hC 4 rfl dX1_measure_182 ?_
  refine z_aload_n hC 0 rfl rfl dX1_measure_184 ?_
  refine gX1_4 hC kf_X1_30 dX1_measure_185 ?_
  refine z_iload hC 5 rfl dX1_measure_188 ?_
  refine z_iconst hC (1 : Int32) (by decide) dX1_measure_190 ?_
  refine z_isub hC dX1_measure_191 ?_
  refine z_b1 h (fun r192_3 e_r192_3 h => ?_)
  refine z_cS2r hC (ctX1_rowAt_10 hC.hm e_r192_3) kb_X1_rowAt km_X1_119 ⟨by decide, by decide⟩ (Nat.le_of_ble_eq_true rfl) dX1_measure_192 ?_
  refine z_g h (fun g195_4 h => ?_)
  refine z_last hC 12 ⟨by decide, by decide⟩ (zS_12 _) g195_4 dX1_measure_195 ?_
  refine z_nmE h (fun x196_5 e_x196_5 h => ?_)
  refine z_iinc hC x196_5 [(6, .int x196_5), (0, .ref (zAd T (3))), (1, .int v1), (4, .int v4), (5, .int v5), (8, .int v8)] 4 rfl (by rw [e_x196_5]; rfl) (by rw [hN]; decide) rfl dX1_measure_196 ?_
  refine z_goto hC 35 (by decide) dX1_measure_199 ?_
  refine z_sub [(0, .ref (zAd T (3))), (1, .int v1), (4, .int v4), (5, .int v5), (6, .int x196_5)] [1, 2, 3, 4, 0] rfl ?_
  exact hK35 _ _ _ _ _ h
set_option maxRecDepth 100000 in
set_option maxHeartbeats 4000000 in
theorem wX1_measure_81 {T : zX} (hC : zOk T cX1_measure RX1 4 118 0 61) (hN : zNL T = 10) {r : Int64} {σ' : zSt} (hQ : zRes T (some .long) (some (.long r)) σ') (K35 : Int32 → Int32 → Int32 → Int32 → zSt → Option (Int64 × zSt)) (hK35 : ∀ (v1 : Int32) (v4 : Int32) (v5 : Int32) (v6 : Int32) (τ : zSt), K35 v1 v4 v5 v6 τ = some (r, σ') → Z T τ 35 [(0, .ref (zAd T (3))), (1, .int v1), (4, .int v4), (5, .int v5), (6, .int v6)] []) (K81 : Int32 → Int32 → Int32 → Int32 → Nat → Int32 → Int32 → zSt → Option (Int64 × zSt)) (hK81 : ∀ (v1 : Int32) (v4 : Int32) (v5 : Int32) (v6 : Int32) (v7 : Nat) (v8 : Int32) (v9 : Int32) (hk_v7 : v7 < 10) (τ : zSt), K81 v1 v4 v5 v6 v7 v8 v9 τ = some (r, σ') → Z T τ 81 [(0, .ref (zAd T (3))), (1, .int v1), (4, .int v4), (5, .int v5), (6, .int v6), (7, .ref (zAd T (21 + 4 * v7))), (8, .int v8), (9, .int v9)] []) (v1 : Int32) (v4 : Int32) (v5 : Int32) (v6 : Int32) (v7 : Nat) (v8 : Int32) (v9 : Int32) (hk_v7 : v7 < 10) (σ : zSt) (h : fX1_measure_81 K35 K81 v1 v4 v5 v6 v7 v8 v9 σ = some (r, σ')) : Z T σ 81 [(0, .ref (zAd T (3))), (1, .int v1), (4, .int v4), (5, .int v5), (6, .int v6), (7, .ref (zAd T (21 + 4 * v7))), (8, .int v8), (9, .int v9)] [] := by
  unfold fX1_measure_81 at h
  refine z_iload hC 7 rfl dX1_measure_81 ?_
  refine z_iload hC 6 rfl dX1_measure_83 ?_
  refine z_icmp_ge hC 160 (by decide) dX1_measure_85 (fun q85_1 => ?_) (fun q85_1 => ?_)
  · replace h := z_t q85_1 h
    refine z_sub [(0, .ref (zAd T (3))), (1, .int v1), (4, .int v4), (5, .int v5), (6, .int v6), (8, .int v8)] [0, 1, 2, 3, 4, 6] rfl ?_
    exact (wX1_measure_160 hC hN hQ K35 hK35 ) _ _ _ _ _ _ h
  · replace h := z_f q85_1 h
    refine z_iload hC 7 rfl dX1_measure_88 ?_
    refine z_bipush hC (60 : Int32) (by decide) dX1_measure_90 ?_
    refine z_icmp_ge hC 160 (by decide) dX1_measure_92 (fun q92_2 => ?_) (fun q92_2 => ?_)
    · replace h := z_t q92_2 h
      refine z_sub [(0, .ref (zAd T (3))), (1, .int v1), (4, .int v4), (5, .int v5), (6, .int v6), (8, .int v8)] [0, 1, 2, 3, 4, 6] rfl ?_
      exact (wX1_measure_160 hC hN hQ K35 hK35 ) _ _ _ _ _ _ h
    · replace h := z_f q92_2 h
      refine z_aload_n hC 0 rfl rfl dX1_measure_95 ?_
      refine gX1_3 hC kf_X1_26 dX1_measure_96 ?_
      refine z_iload hC 7 rfl dX1_measure_99 ?_
      refine z_aload_n hC 0 rfl rfl dX1_measure_101 ?_
      refine z_aload hC 5 rfl dX1_measure_102 ?_
      refine z_iload hC 7 rfl dX1_measure_104 ?_
      refine z_b1 h (fun r106_3 e_r106_3 h => ?_)
      refine z_cV2r hC (ctX1_valueOf hC.hm e_r106_3) (rcX1 hC) kb_X1_valueOf km_X1_112 ⟨by decide, by decide⟩ (Nat.le_of_ble_eq_true rfl) dX1_measure_106 ?_
      refine z_g h (fun g109_4 h => ?_)
      refine z_last hC 9 ⟨by decide, by decide⟩ (zS_9 _) g109_4 dX1_measure_109 ?_
      refine z_aload_n hC 0 rfl rfl dX1_measure_110 ?_
      refine gX1_3 hC kf_X1_26 dX1_measure_111 ?_
      refine z_iload hC 7 rfl dX1_measure_114 ?_
      refine z_g h (fun g116_5 h => ?_)
      refine z_lald hC 9 ⟨by decide, by decide⟩ (zS_9 _ _ _) g116_5 r106_3 (by simp [gi, si, gl, sl]) dX1_measure_116 ?_
      refine z_ldc2 hC kc_X1_41 dX1_measure_117 ?_
      refine z_cmp_ne hC 128 (by decide) dX1_measure_120 dX1_measure_121 (fun q120_6 => ?_) (fun q120_6 => ?_)
      · replace h := z_f q120_6 h
        refine z_aload_n hC 0 rfl rfl dX1_measure_128 ?_
        refine gX1_4 hC kf_X1_30 dX1_measure_129 ?_
        refine z_iload hC 7 rfl dX1_measure_132 ?_
        refine z_iload hC 2 rfl dX1_measure_134 ?_
        refine z_if_eq hC 150 (by decide) dX1_measure_136 (fun q136_7 => ?_) (fun q136_7 => ?_)
        · replace h := z_t q136_7 h
          refine z_ldc2 hC kc_X1_41 dX1_measure_150 ?_
          refine z_g h (fun g153_8 h => ?_)
          refine z_last hC 10 ⟨by decide, by decide⟩ (zS_10 _) g153_8 dX1_measure_153 ?_
          refine z_nmE h (fun x154_9 e_x154_9 h => ?_)
          refine z_iinc hC x154_9 [(9, .int x154_9), (0, .ref (zAd T (3))), (1, .int v1), (4, .int v4), (5, .int v5), (6, .int v6), (7, .ref (zAd T (21 + 4 * v7))), (8, .int v8)] 7 rfl (by rw [e_x154_9]; rfl) (by rw [hN]; decide) rfl dX1_measure_154 ?_
          refine z_goto hC 81 (by decide) dX1_measure_157 ?_
          refine z_sub [(0, .ref (zAd T (3))), (1, .int v1), (4, .int v4), (5, .int v5), (6, .int v6), (7, .ref (zAd T (21 + 4 * v7))), (8, .int v8), (9, .int x154_9)] [1, 2, 3, 4, 5, 6, 7, 0] rfl ?_
          exact hK81 _ _ _ _ _ _ _ hk_v7 _ h
        · replace h := z_f q136_7 h
          refine z_aload_n hC 0 rfl rfl dX1_measure_139 ?_
          refine z_aload hC 5 rfl dX1_measure_140 ?_
          refine z_iload hC 7 rfl dX1_measure_142 ?_
          refine z_b1 h (fun r144_10 e_r144_10 h => ?_)
          refine z_cV2r hC (ctX1_leanOf hC.hm e_r144_10) (rcX1 hC) kb_X1_leanOf km_X1_116 ⟨by decide, by decide⟩ (Nat.le_of_ble_eq_true rfl) dX1_measure_144 ?_
          refine z_goto hC 153 (by decide) dX1_measure_147 ?_
          refine z_g h (fun g153_11 h => ?_)
          refine z_last hC 10 ⟨by decide, by decide⟩ (zS_10 _) g153_11 dX1_measure_153 ?_
          refine z_nmE h (fun x154_12 e_x154_12 h => ?_)
          refine z_iinc hC x154_12 [(9, .int x154_12), (0, .ref (zAd T (3))), (1, .int v1), (4, .int v4), (5, .int v5), (6, .int v6), (7, .ref (zAd T (21 + 4 * v7))), (8, .int v8)] 7 rfl (by rw [e_x154_12]; rfl) (by rw [hN]; decide) rfl dX1_measure_154 ?_
          refine z_goto hC 81 (by decide) dX1_measure_157 ?_
          refine z_sub [(0, .ref (zAd T (3))), (1, .int v1), (4, .int v4), (5, .int v5), (6, .int v6), (7, .ref (zAd T (21 + 4 * v7))), (8, .int v8), (9, .int x154_12)] [1, 2, 3, 4, 5, 6, 7, 0] rfl ?_
          exact hK81 _ _ _ _ _ _ _ hk_v7 _ h
      · replace h := z_t q120_6 h
        refine z_ldc2 hC kc_X1_41 dX1_measure_124 ?_
        obtain ⟨rfl, rfl⟩ := z_pr h
        exact z_lret hC hQ dX1_measure_127
theorem wX1_measure_L81 {T : zX} (hC : zOk T cX1_measure RX1 4 118 0 61) (hN : zNL T = 10) {r : Int64} {σ' : zSt} (hQ : zRes T (some .long) (some (.long r)) σ') (K35 : Int32 → Int32 → Int32 → Int32 → zSt → Option (Int64 × zSt)) (hK35 : ∀ (v1 : Int32) (v4 : Int32) (v5 : Int32) (v6 : Int32) (τ : zSt), K35 v1 v4 v5 v6 τ = some (r, σ') → Z T τ 35 [(0, .ref (zAd T (3))), (1, .int v1), (4, .int v4), (5, .int v5), (6, .int v6)] []) (n : Nat) : ∀ (v1 : Int32) (v4 : Int32) (v5 : Int32) (v6 : Int32) (v7 : Nat) (v8 : Int32) (v9 : Int32) (hk_v7 : v7 < 10) (σ : zSt), fX1_measure_L81 K35 n v1 v4 v5 v6 v7 v8 v9 σ = some (r, σ') → Z T σ 81 [(0, .ref (zAd T (3))), (1, .int v1), (4, .int v4), (5, .int v5), (6, .int v6), (7, .ref (zAd T (21 + 4 * v7))), (8, .int v8), (9, .int v9)] [] := by
  induction n with
  | zero => intro v1 v4 v5 v6 v7 v8 v9 hk_v7 σ h; cases h
  | succ n ih => intro v1 v4 v5 v6 v7 v8 v9 hk_v7 σ h; exact wX1_measure_81 hC hN hQ K35 hK35 (fX1_measure_L81 K35 n) ih v1 v4 v5 v6 v7 v8 v9 hk_v7 σ h
set_option maxRecDepth 100000 in
set_option maxHeartbeats 4000000 in
theorem wX1_measure_35 {T : zX} (hC : zOk T cX1_measure RX1 4 118 0 61) (hN : zNL T = 10) {r : Int64} {σ' : zSt} (hQ : zRes T (some .long) (some (.long r)) σ') (K35 : Int32 → Int32 → Int32 → Int32 → zSt → Option (Int64 × zSt)) (hK35 : ∀ (v1 : Int32) (v4 : Int32) (v5 : Int32) (v6 : Int32) (τ : zSt), K35 v1 v4 v5 v6 τ = some (r, σ') → Z T τ 35 [(0, .ref (zAd T (3))), (1, .int v1), (4, .int v4), (5, .int v5), (6, .int v6)] []) (v1 : Int32) (v4 : Int32) (v5 : Int32) (v6 : Int32)  (σ : zSt) (h : fX1_measure_35 K35 v1 v4 v5 v6 σ = some (r, σ')) : Z T σ 35 [(0, .ref (zAd T (3))), (1, .int v1), (4, .int v4), (5, .int v5), (6, .int v6)] [] := by
  unfold fX1_measure_35 at h
  refine z_iload hC 4 rfl dX1_measure_35 ?_
  refine z_iload_n hC 1 rfl rfl dX1_measure_37 ?_
  refine z_icmp_gt hC 202 (by decide) dX1_measure_38 (fun q38_1 => ?_) (fun q38_1 => ?_)
  · replace h := z_t q38_1 h
    refine z_aload_n hC 0 rfl rfl dX1_measure_202 ?_
    refine z_aload_n hC 0 rfl rfl dX1_measure_203 ?_
    refine gX1_6 hC kf_X1_36 dX1_measure_204 ?_
    refine z_iload_n hC 1 rfl rfl dX1_measure_207 ?_
    refine z_b1 h (fun r208_2 e_r208_2 h => ?_)
    refine z_cS2r hC (ctX1_rowAt_12 hC.hm e_r208_2) kb_X1_rowAt km_X1_119 ⟨by decide, by decide⟩ (Nat.le_of_ble_eq_true rfl) dX1_measure_208 ?_
    refine pX1_9 hC kf_X1_43 dX1_measure_211 ?_
    refine z_aload_n hC 0 rfl rfl dX1_measure_214 ?_
    refine gX1_5 hC kf_X1_33 dX1_measure_215 ?_
    refine z_iload_n hC 1 rfl rfl dX1_measure_218 ?_
    refine z_b1 h (fun r219_3 e_r219_3 h => ?_)
    refine z_cS2r hC (ctX1_rowAt_11 hC.hm e_r219_3) kb_X1_rowAt km_X1_119 ⟨by decide, by decide⟩ (Nat.le_of_ble_eq_true rfl) dX1_measure_219 ?_
    obtain ⟨rfl, rfl⟩ := z_pr h
    exact z_lret hC hQ dX1_measure_222
  · replace h := z_f q38_1 h
    refine z_iload hC 4 rfl dX1_measure_41 ?_
    refine z_bipush hC (8 : Int32) (by decide) dX1_measure_43 ?_
    refine z_icmp_ge hC 202 (by decide) dX1_measure_45 (fun q45_4 => ?_) (fun q45_4 => ?_)
    · replace h := z_t q45_4 h
      refine z_aload_n hC 0 rfl rfl dX1_measure_202 ?_
      refine z_aload_n hC 0 rfl rfl dX1_measure_203 ?_
      refine gX1_6 hC kf_X1_36 dX1_measure_204 ?_
      refine z_iload_n hC 1 rfl rfl dX1_measure_207 ?_
      refine z_b1 h (fun r208_5 e_r208_5 h => ?_)
      refine z_cS2r hC (ctX1_rowAt_12 hC.hm e_r208_5) kb_X1_rowAt km_X1_119 ⟨by decide, by decide⟩ (Nat.le_of_ble_eq_true rfl) dX1_measure_208 ?_
      refine pX1_9 hC kf_X1_43 dX1_measure_211 ?_
      refine z_aload_n hC 0 rfl rfl dX1_measure_214 ?_
      refine gX1_5 hC kf_X1_33 dX1_measure_215 ?_
      refine z_iload_n hC 1 rfl rfl dX1_measure_218 ?_
      refine z_b1 h (fun r219_6 e_r219_6 h => ?_)
      refine z_cS2r hC (ctX1_rowAt_11 hC.hm e_r219_6) kb_X1_rowAt km_X1_119 ⟨by decide, by decide⟩ (Nat.le_of_ble_eq_true rfl) dX1_measure_219 ?_
      obtain ⟨rfl, rfl⟩ := z_pr h
      exact z_lret hC hQ dX1_measure_222
    · replace h := z_f q45_4 h
      refine z_aload_n hC 0 rfl rfl dX1_measure_48 ?_
      refine z_iload hC 4 rfl dX1_measure_49 ?_
      refine z_b1 h (fun r51_7 e_r51_7 h => ?_)
      refine z_g h (fun hk_r51_7 h => ?_)
      refine z_cV1r hC (ctX1_curveAt hC.hm e_r51_7) (rcX1 hC) kb_X1_curveAt km_X1_51 ⟨by decide, by decide⟩ (Nat.le_of_ble_eq_true rfl) dX1_measure_51 ?_
      refine z_astore hC [(7, .ref (zAd T (21 + 4 * r51_7))), (0, .ref (zAd T (3))), (1, .int v1), (4, .int v4), (5, .int v5), (6, .int v6)] (by rw [hN]; decide) rfl dX1_measure_54 ?_
      refine z_iload hC 4 rfl dX1_measure_56 ?_
      refine z_iload hC 5 rfl dX1_measure_58 ?_
      refine z_ishr hC dX1_measure_60 ?_
      refine z_iconst hC (1 : Int32) (by decide) dX1_measure_61 ?_
      refine z_iand hC dX1_measure_62 ?_
      refine z_iconst hC (1 : Int32) (by decide) dX1_measure_63 ?_
      refine z_icmp_ne hC 75 (by decide) dX1_measure_64 (fun q64_8 => ?_) (fun q64_8 => ?_)
      · replace h := z_f q64_8 h
        refine z_iconst hC (0 : Int32) (by decide) dX1_measure_75 ?_
        refine z_istore hC [(8, .int (0 : Int32)), (7, .ref (zAd T (21 + 4 * r51_7))), (0, .ref (zAd T (3))), (1, .int v1), (4, .int v4), (5, .int v5), (6, .int v6)] (by rw [hN]; decide) rfl dX1_measure_76 ?_
        refine z_iconst hC (0 : Int32) (by decide) dX1_measure_78 ?_
        refine z_istore hC [(9, .int (0 : Int32)), (8, .int (0 : Int32)), (7, .ref (zAd T (21 + 4 * r51_7))), (0, .ref (zAd T (3))), (1, .int v1), (4, .int v4), (5, .int v5), (6, .int v6)] (by rw [hN]; decide) rfl dX1_measure_79 ?_
        refine z_sub [(0, .ref (zAd T (3))), (1, .int v1), (4, .int v4), (5, .int v5), (6, .int v6), (7, .ref (zAd T (21 + 4 * r51_7))), (8, .int (0 : Int32)), (9, .int (0 : Int32))] [3, 4, 5, 6, 7, 2, 1, 0] rfl ?_
        exact (wX1_measure_L81 hC hN hQ K35 hK35 zFU) _ _ _ _ _ _ _ hk_r51_7 _ h
      · replace h := z_t q64_8 h
        refine z_aload hC 0 rfl dX1_measure_67 ?_
        refine gX0_3 hC hk_r51_7 kf_X1_66 (gi σ (21 + 4 * r51_7) 3) rfl dX1_measure_69 ?_
        refine z_goto hC 76 (by decide) dX1_measure_72 ?_
        refine z_nmI h (fun x76_9 h => ?_)
        refine z_istore hC [(8, .int x76_9), (7, .ref (zAd T (21 + 4 * r51_7))), (0, .ref (zAd T (3))), (1, .int v1), (4, .int v4), (5, .int v5), (6, .int v6)] (by rw [hN]; decide) rfl dX1_measure_76 ?_
        refine z_iconst hC (0 : Int32) (by decide) dX1_measure_78 ?_
        refine z_istore hC [(9, .int (0 : Int32)), (8, .int x76_9), (7, .ref (zAd T (21 + 4 * r51_7))), (0, .ref (zAd T (3))), (1, .int v1), (4, .int v4), (5, .int v5), (6, .int v6)] (by rw [hN]; decide) rfl dX1_measure_79 ?_
        refine z_sub [(0, .ref (zAd T (3))), (1, .int v1), (4, .int v4), (5, .int v5), (6, .int v6), (7, .ref (zAd T (21 + 4 * r51_7))), (8, .int x76_9), (9, .int (0 : Int32))] [3, 4, 5, 6, 7, 2, 1, 0] rfl ?_
        exact (wX1_measure_L81 hC hN hQ K35 hK35 zFU) _ _ _ _ _ _ _ hk_r51_7 _ h
theorem wX1_measure_L35 {T : zX} (hC : zOk T cX1_measure RX1 4 118 0 61) (hN : zNL T = 10) {r : Int64} {σ' : zSt} (hQ : zRes T (some .long) (some (.long r)) σ') (n : Nat) : ∀ (v1 : Int32) (v4 : Int32) (v5 : Int32) (v6 : Int32) (σ : zSt), fX1_measure_L35 n v1 v4 v5 v6 σ = some (r, σ') → Z T σ 35 [(0, .ref (zAd T (3))), (1, .int v1), (4, .int v4), (5, .int v5), (6, .int v6)] [] := by
  induction n with
  | zero => intro v1 v4 v5 v6 σ h; cases h
  | succ n ih => intro v1 v4 v5 v6 σ h; exact wX1_measure_35 hC hN hQ (fX1_measure_L35 n) ih v1 v4 v5 v6 σ h
set_option maxRecDepth 100000 in
set_option maxHeartbeats 4000000 in
theorem wX1_measure_0 {T : zX} (hC : zOk T cX1_measure RX1 4 118 0 61) (hN : zNL T = 10) {r : Int64} {σ' : zSt} (hQ : zRes T (some .long) (some (.long r)) σ') (a1 : Int32) (a2 : Int32) (a3 : Int32) (a4 : Int32)  (σ : zSt) (h : fX1_measure_0 a1 a2 a3 a4 σ = some (r, σ')) : Z T σ 0 [(0, .ref (zAd T (3))), (1, .int a1), (2, .int a2), (3, .int a3), (4, .int a4)] [] := by
  unfold fX1_measure_0 at h
  refine z_aload_n hC 0 rfl rfl dX1_measure_0 ?_
  refine z_iload_n hC 2 rfl rfl dX1_measure_1 ?_
  refine z_i2l hC dX1_measure_2 ?_
  refine z_iload_n hC 3 rfl rfl dX1_measure_3 ?_
  refine z_i2l hC dX1_measure_4 ?_
  refine z_cS2r hC (ctX5_of hC.hm) kb_X5_of km_X1_105 ⟨by decide, by decide⟩ (Nat.le_of_ble_eq_true rfl) dX1_measure_5 ?_
  refine z_nmL h (fun x8_1 h => ?_)
  refine pX1_7 hC kf_X1_109 dX1_measure_8 ?_
  refine z_aload_n hC 0 rfl rfl dX1_measure_11 ?_
  refine z_ldc2 hC kc_X1_41 dX1_measure_12 ?_
  refine pX1_9 hC kf_X1_43 dX1_measure_15 ?_
  refine z_aload_n hC 0 rfl rfl dX1_measure_18 ?_
  refine z_iload_n hC 1 rfl rfl dX1_measure_19 ?_
  refine z_b1 h (fun r20_2 e_r20_2 h => ?_)
  refine z_g h (fun hk_r20_2 h => ?_)
  refine z_cV1r hC (ctX1_curveAt hC.hm e_r20_2) (rcX1 hC) kb_X1_curveAt km_X1_51 ⟨by decide, by decide⟩ (Nat.le_of_ble_eq_true rfl) dX1_measure_20 ?_
  refine gX0_6 hC hk_r20_2 kf_X1_63 (gi σ (21 + 4 * r20_2) 6) rfl dX1_measure_23 ?_
  refine z_iconst hC (1 : Int32) (by decide) dX1_measure_26 ?_
  refine z_iload_n hC 1 rfl rfl dX1_measure_27 ?_
  refine z_ishl hC dX1_measure_28 ?_
  refine z_ior hC dX1_measure_29 ?_
  refine z_nmI h (fun x30_3 h => ?_)
  refine z_istore hC [(5, .int x30_3), (0, .ref (zAd T (3))), (1, .int a1), (2, .int a2), (3, .int a3), (4, .int a4)] (by rw [hN]; decide) rfl dX1_measure_30 ?_
  refine z_iconst hC (0 : Int32) (by decide) dX1_measure_32 ?_
  refine z_istore hC [(6, .int (0 : Int32)), (5, .int x30_3), (0, .ref (zAd T (3))), (1, .int a1), (2, .int a2), (3, .int a3), (4, .int a4)] (by rw [hN]; decide) rfl dX1_measure_33 ?_
  refine z_sub [(0, .ref (zAd T (3))), (1, .int a1), (4, .int a4), (5, .int x30_3), (6, .int (0 : Int32))] [2, 3, 6, 1, 0] rfl ?_
  exact (wX1_measure_L35 hC hN hQ zFU) _ _ _ _ _ h
set_option maxRecDepth 100000 in
theorem ctX1_measure {l : Launch} {G : zGt} {mk : zSt → zSt} (hm : zM mk 0 61) {a1 : Int32} {a2 : Int32} {a3 : Int32} {a4 : Int32} {σ : zSt} {r : Int64} {σ' : zSt} (h : fX1_measure a1 a2 a3 a4 σ = some (r, σ')) : zMet l G mk yX1_measure cX1_measure 10 (some .long) 4 118 [.ref (gA G (3)), .int a1, .int a2, .int a3, .int a4] σ (some (.long r)) σ' := by
  unfold fX1_measure at h

  refine zMet.of (plainFor_of_name (by decide +kernel)) hm (Nat.le_of_ble_eq_true rfl) (fun T eL eG eM hN hC hQ => ?_)
  subst eL; subst eG; subst eM
  refine z_sub [(0, .ref (zAd T (3))), (1, .int a1), (2, .int a2), (3, .int a3), (4, .int a4)] [0, 1, 2, 3, 4] rfl ?_
  exact wX1_measure_0 hC hN hQ _ _ _ _  _ h
