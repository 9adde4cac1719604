noncomputable def fX2_keep_0 (a1 : Int32) (a2 : Int32) (a3 : Int32) (a4 : Int64) (a6 : Int64) (σ : zSt) : Option zSt := 
    (if a1 < 0 then some σ
    else 
      (if (201 : Int32) ≤ a1 then some σ
      else zg (vp_in a1 201) <| zg (vp_in a1 201) <| zg (vp_in a1 201) <| zg (vp_in a1 201) <| some (sl (sl (si (si σ 13 a1.toNatClampNeg a2) 14 a1.toNatClampNeg a3) 15 a1.toNatClampNeg a4) 16 a1.toNatClampNeg a6)))
noncomputable def fX2_keep (a1 : Int32) (a2 : Int32) (a3 : Int32) (a4 : Int64) (a6 : Int64) (σ : zSt) : Option zSt := fX2_keep_0 a1 a2 a3 a4 a6 σ
set_option maxRecDepth 100000 in
set_option maxHeartbeats 4000000 in
theorem wX2_keep_0 {T : zX} (hC : zOk T cX2_keep RX2 0 0 0 61) (hN : zNL T = 8) {σ' : zSt} (hQ : zRes T none (none) σ') (a1 : Int32) (a2 : Int32) (a3 : Int32) (a4 : Int64) (a6 : Int64)  (σ : zSt) (h : fX2_keep_0 a1 a2 a3 a4 a6 σ = some σ') : Z T σ 0 [(0, .ref (zAd T (4))), (1, .int a1), (2, .int a2), (3, .int a3), (4, .long a4), (6, .long a6)] [] := by
  unfold fX2_keep_0 at h
  refine z_iload_n hC 1 rfl rfl dX2_keep_0 ?_
  refine z_if_lt hC 41 (by decide) dX2_keep_1 (fun q1_1 => ?_) (fun q1_1 => ?_)
  · replace h := z_t q1_1 h
    obtain rfl := z_so h
    exact z_vret hC hQ dX2_keep_41
  · replace h := z_f q1_1 h
    refine z_iload_n hC 1 rfl rfl dX2_keep_4 ?_
    refine z_sipush hC (201 : Int32) (by decide) dX2_keep_5 ?_
    refine z_icmp_ge hC 41 (by decide) dX2_keep_8 (fun q8_2 => ?_) (fun q8_2 => ?_)
    · replace h := z_t q8_2 h
      obtain rfl := z_so h
      exact z_vret hC hQ dX2_keep_41
    · replace h := z_f q8_2 h
      refine z_aload_n hC 0 rfl rfl dX2_keep_11 ?_
      refine gX2_0 hC kf_X2_11 dX2_keep_12 ?_
      refine z_iload_n hC 1 rfl rfl dX2_keep_15 ?_
      refine z_iload_n hC 2 rfl rfl dX2_keep_16 ?_
      refine z_g h (fun g17_3 h => ?_)
      refine z_iast hC 13 ⟨by decide, by decide⟩ (zS_13 _) g17_3 dX2_keep_17 ?_
      refine z_aload_n hC 0 rfl rfl dX2_keep_18 ?_
      refine gX2_1 hC kf_X2_15 dX2_keep_19 ?_
      refine z_iload_n hC 1 rfl rfl dX2_keep_22 ?_
      refine z_iload_n hC 3 rfl rfl dX2_keep_23 ?_
      refine z_g h (fun g24_4 h => ?_)
      refine z_iast hC 14 ⟨by decide, by decide⟩ (zS_14 _) g24_4 dX2_keep_24 ?_
      refine z_aload_n hC 0 rfl rfl dX2_keep_25 ?_
      refine gX2_2 hC kf_X2_18 dX2_keep_26 ?_
      refine z_iload_n hC 1 rfl rfl dX2_keep_29 ?_
      refine z_lload hC 4 rfl dX2_keep_30 ?_
      refine z_g h (fun g32_5 h => ?_)
      refine z_last hC 15 ⟨by decide, by decide⟩ (zS_15 _) g32_5 dX2_keep_32 ?_
      refine z_aload_n hC 0 rfl rfl dX2_keep_33 ?_
      refine gX2_3 hC kf_X2_22 dX2_keep_34 ?_
      refine z_iload_n hC 1 rfl rfl dX2_keep_37 ?_
      refine z_lload hC 5 rfl dX2_keep_38 ?_
      refine z_g h (fun g40_6 h => ?_)
      refine z_last hC 16 ⟨by decide, by decide⟩ (zS_16 _) g40_6 dX2_keep_40 ?_
      obtain rfl := z_so h
      exact z_vret hC hQ dX2_keep_41
set_option maxRecDepth 100000 in
theorem ctX2_keep {l : Launch} {G : zGt} {mk : zSt → zSt} (hm : zM mk 0 61) {a1 : Int32} {a2 : Int32} {a3 : Int32} {a4 : Int64} {a6 : Int64} {σ : zSt} {σ' : zSt} (h : fX2_keep a1 a2 a3 a4 a6 σ = some σ') : zMet l G mk yX2_keep cX2_keep 8 none 0 0 [.ref (gA G (4)), .int a1, .int a2, .int a3, .long a4, .long a6] σ (none) σ' := by
  unfold fX2_keep at h

  refine zMet.of (plainFor_of_name (by decide +kernel)) hm (Nat.le_of_ble_eq_true rfl) (fun T eL eG eM hN hC hQ => ?_)
  subst eL; subst eG; subst eM
  refine z_sub [(0, .ref (zAd T (4))), (1, .int a1), (2, .int a2), (3, .int a3), (4, .long a4), (6, .long a6)] [0, 1, 2, 3, 4, 5] rfl ?_
  exact wX2_keep_0 hC hN hQ _ _ _ _ _  _ h
noncomputable def fX2_sumPart_151 (v3 : Int32) (v4 : Int32) (v5 : Int32) (v6 : Int64) (v10 : Int64) (v12 : Int64) (σ : zSt) : Option (Int32 × zSt) := nm ((jshrL ((fX5_lowOf v6) * v10) (20 : Int32)) - v12) fun x165_1 => nm (v12 - (jshrL ((-(fX5_highOf v6)) * v10) (20 : Int32))) fun x182_2 => bd1 (fX2_keep v3 v4 v5 x165_1 x182_2 σ) fun s194_3 => some ((1 : Int32), s194_3)
noncomputable def fX2_sumPart_124 (v3 : Int32) (v4 : Int32) (v5 : Int32) (v6 : Int64) (v10 : Int64) (v12 : Int64) (v14 : Int64) (t0 : Int64) (σ : zSt) : Option (Int32 × zSt) := 
    (if t0 = (4294967296 : Int64) then fX2_sumPart_151 v3 v4 v5 v6 v10 v12 σ
    else nm (-(jshrL ((-v14) * v10) (23 : Int32))) fun x149_2 => fX2_sumPart_151 v3 v4 v5 t0 v10 x149_2 σ)
noncomputable def fX2_sumPart_97 (v2 : Int32) (v3 : Int32) (v4 : Int32) (v5 : Int32) (v6 : Int64) (v10 : Int64) (v12 : Int64) (v14 : Int64) (v16 : Int32) (t0 : Int32) (σ : zSt) : Option (Int32 × zSt) := 
    (if v14 ≤ (2147483647 : Int64) then bd2 (fX1_measure v2 v16 t0 (0 : Int32) σ) fun r121_2 s121_3 => fX2_sumPart_124 v3 v4 v5 v6 v10 v12 v14 r121_2 s121_3
    else fX2_sumPart_124 v3 v4 v5 v6 v10 v12 v14 (4294967296 : Int64) σ)
noncomputable def fX2_sumPart_0 (a2 : Int32) (a3 : Int32) (a4 : Int32) (a5 : Int32) (σ : zSt) : Option (Int32 × zSt) := bd2 (fX1_measure a2 a4 a5 (1 : Int32) σ) fun r7_1 s7_2 => nm (gl s7_2 3 9) fun x16_3 => 
    (if r7_1 = (4294967296 : Int64) then some ((0 : Int32), s7_2)
    else nm ((Int32.toInt64 a5) - (Int32.toInt64 a4)) fun x36_5 => 
      (if x16_3 = (4294967296 : Int64) then fX2_sumPart_151 a3 a4 a5 r7_1 x36_5 (0 : Int64) s7_2
      else nm (jshrL (((fX5_lowOf x16_3) - (fX5_highOf x16_3)) * x36_5) (20 : Int32)) fun x66_7 => nm (-x66_7) fun x68_8 => nm (fX8_middleOf a4 a5) fun x77_9 => 
        (if (x36_5 &&& (1 : Int64)) = (0 : Int64) then fX2_sumPart_97 a2 a3 a4 a5 r7_1 x36_5 (0 : Int64) x68_8 x77_9 x77_9 s7_2
        else fX2_sumPart_97 a2 a3 a4 a5 r7_1 x36_5 (0 : Int64) x68_8 x77_9 (x77_9 + (1 : Int32)) s7_2)))
noncomputable def fX2_sumPart (a2 : Int32) (a3 : Int32) (a4 : Int32) (a5 : Int32) (σ : zSt) : Option (Int32 × zSt) := fX2_sumPart_0 a2 a3 a4 a5 σ
set_option maxRecDepth 100000 in
set_option maxHeartbeats 4000000 in
theorem wX2_sumPart_151 {T : zX} (hC : zOk T cX2_sumPart RX2 5 147 0 61) (hN : zNL T = 20) {r : Int32} {σ' : zSt} (hQ : zRes T (some .boolean) (some (.int r)) σ') (v3 : Int32) (v4 : Int32) (v5 : Int32) (v6 : Int64) (v10 : Int64) (v12 : Int64)  (σ : zSt) (h : fX2_sumPart_151 v3 v4 v5 v6 v10 v12 σ = some (r, σ')) : Z T σ 151 [(0, .ref (zAd T (4))), (3, .int v3), (4, .int v4), (5, .int v5), (6, .long v6), (10, .long v10), (12, .long v12)] [] := by
  unfold fX2_sumPart_151 at h
  refine z_lload hC 4 rfl dX2_sumPart_151 ?_
  refine z_cS1r hC (ctX5_lowOf hC.hm) kb_X5_lowOf km_X2_74 ⟨by decide, by decide⟩ (Nat.le_of_ble_eq_true rfl) dX2_sumPart_153 ?_
  refine z_lload hC 5 rfl dX2_sumPart_156 ?_
  refine z_lmul hC dX2_sumPart_158 ?_
  refine z_bipush hC (20 : Int32) (by decide) dX2_sumPart_159 ?_
  refine z_lshr hC dX2_sumPart_161 ?_
  refine z_lload hC 6 rfl dX2_sumPart_162 ?_
  refine z_lsub hC dX2_sumPart_164 ?_
  refine z_nmL h (fun x165_1 h => ?_)
  refine z_lstore hC [(14, .long x165_1), (0, .ref (zAd T (4))), (3, .int v3), (4, .int v4), (5, .int v5), (6, .long v6), (10, .long v10), (12, .long v12)] (by rw [hN]; decide) rfl dX2_sumPart_165 ?_
  refine z_lload hC 7 rfl dX2_sumPart_167 ?_
  refine z_lload hC 5 rfl dX2_sumPart_169 ?_
  refine z_cS1r hC (ctX5_highOf hC.hm) kb_X5_highOf km_X2_78 ⟨by decide, by decide⟩ (Nat.le_of_ble_eq_true rfl) dX2_sumPart_171 ?_
  refine z_lneg hC dX2_sumPart_174 ?_
  refine z_lload hC 6 rfl dX2_sumPart_175 ?_
  refine z_lmul hC dX2_sumPart_177 ?_
  refine z_bipush hC (20 : Int32) (by decide) dX2_sumPart_178 ?_
  refine z_lshr hC dX2_sumPart_180 ?_
  refine z_lsub hC dX2_sumPart_181 ?_
  refine z_nmL h (fun x182_2 h => ?_)
  refine z_lstore hC [(16, .long x182_2), (14, .long x165_1), (0, .ref (zAd T (4))), (3, .int v3), (4, .int v4), (5, .int v5), (6, .long v6), (10, .long v10), (12, .long v12)] (by rw [hN]; decide) rfl dX2_sumPart_182 ?_
  refine z_aload_n hC 2 rfl rfl dX2_sumPart_184 ?_
  refine z_iload_n hC 3 rfl rfl dX2_sumPart_185 ?_
  refine z_iload hC 4 rfl dX2_sumPart_186 ?_
  refine z_iload hC 5 rfl dX2_sumPart_188 ?_
  refine z_lload hC 1 rfl dX2_sumPart_190 ?_
  refine z_lload hC 0 rfl dX2_sumPart_192 ?_
  refine z_b1 h (fun s194_3 e_s194_3 h => ?_)
  refine z_cV5v hC (ctX2_keep hC.hm e_s194_3) (rcX2 hC) kb_X2_keep km_X2_83 ⟨by decide, by decide⟩ (Nat.le_of_ble_eq_true rfl) dX2_sumPart_194 ?_
  refine z_iconst hC (1 : Int32) (by decide) dX2_sumPart_197 ?_
  obtain ⟨rfl, rfl⟩ := z_pr h
  exact z_zret hC hQ dX2_sumPart_198 (by decide)
set_option maxRecDepth 100000 in
set_option maxHeartbeats 4000000 in
theorem wX2_sumPart_124 {T : zX} (hC : zOk T cX2_sumPart RX2 5 147 0 61) (hN : zNL T = 20) {r : Int32} {σ' : zSt} (hQ : zRes T (some .boolean) (some (.int r)) σ') (v3 : Int32) (v4 : Int32) (v5 : Int32) (v6 : Int64) (v10 : Int64) (v12 : Int64) (v14 : Int64) (t0 : Int64)  (σ : zSt) (h : fX2_sumPart_124 v3 v4 v5 v6 v10 v12 v14 t0 σ = some (r, σ')) : Z T σ 124 [(0, .ref (zAd T (4))), (3, .int v3), (4, .int v4), (5, .int v5), (6, .long v6), (10, .long v10), (12, .long v12), (14, .long v14)] [.long t0] := by
  unfold fX2_sumPart_124 at h
  refine z_lstore hC [(18, .long t0), (0, .ref (zAd T (4))), (3, .int v3), (4, .int v4), (5, .int v5), (6, .long v6), (10, .long v10), (12, .long v12), (14, .long v14)] (by rw [hN]; decide) rfl dX2_sumPart_124 ?_
  refine z_lload hC 0 rfl dX2_sumPart_126 ?_
  refine z_ldc2 hC kc_X2_72 dX2_sumPart_128 ?_
  refine z_cmp_eq hC 151 (by decide) dX2_sumPart_131 dX2_sumPart_132 (fun q131_1 => ?_) (fun q131_1 => ?_)
  · replace h := z_t q131_1 h
    refine z_sub [(0, .ref (zAd T (4))), (3, .int v3), (4, .int v4), (5, .int v5), (6, .long v6), (10, .long v10), (12, .long v12)] [1, 2, 3, 4, 5, 6, 7] rfl ?_
    exact (wX2_sumPart_151 hC hN hQ ) _ _ _ _ _ _ _ h
  · replace h := z_f q131_1 h
    refine z_lload hC 0 rfl dX2_sumPart_135 ?_
    refine z_lstore hC [(6, .long t0), (18, .long t0), (0, .ref (zAd T (4))), (3, .int v3), (4, .int v4), (5, .int v5), (10, .long v10), (12, .long v12), (14, .long v14)] (by rw [hN]; decide) rfl dX2_sumPart_137 ?_
    refine z_lload hC 8 rfl dX2_sumPart_139 ?_
    refine z_lneg hC dX2_sumPart_141 ?_
    refine z_lload hC 6 rfl dX2_sumPart_142 ?_
    refine z_lmul hC dX2_sumPart_144 ?_
    refine z_bipush hC (23 : Int32) (by decide) dX2_sumPart_145 ?_
    refine z_lshr hC dX2_sumPart_147 ?_
    refine z_lneg hC dX2_sumPart_148 ?_
    refine z_nmL h (fun x149_2 h => ?_)
    refine z_lstore hC [(12, .long x149_2), (6, .long t0), (18, .long t0), (0, .ref (zAd T (4))), (3, .int v3), (4, .int v4), (5, .int v5), (10, .long v10), (14, .long v14)] (by rw [hN]; decide) rfl dX2_sumPart_149 ?_
    refine z_sub [(0, .ref (zAd T (4))), (3, .int v3), (4, .int v4), (5, .int v5), (6, .long t0), (10, .long v10), (12, .long x149_2)] [3, 4, 5, 6, 1, 7, 0] rfl ?_
    exact (wX2_sumPart_151 hC hN hQ ) _ _ _ _ _ _ _ h
set_option maxRecDepth 100000 in
set_option maxHeartbeats 4000000 in
theorem wX2_sumPart_97 {T : zX} (hC : zOk T cX2_sumPart RX2 5 147 0 61) (hN : zNL T = 20) {r : Int32} {σ' : zSt} (hQ : zRes T (some .boolean) (some (.int r)) σ') (v2 : Int32) (v3 : Int32) (v4 : Int32) (v5 : Int32) (v6 : Int64) (v10 : Int64) (v12 : Int64) (v14 : Int64) (v16 : Int32) (t0 : Int32)  (σ : zSt) (h : fX2_sumPart_97 v2 v3 v4 v5 v6 v10 v12 v14 v16 t0 σ = some (r, σ')) : Z T σ 97 [(0, .ref (zAd T (4))), (1, .ref (zAd T (3))), (2, .int v2), (3, .int v3), (4, .int v4), (5, .int v5), (6, .long v6), (10, .long v10), (12, .long v12), (14, .long v14), (16, .int v16)] [.int t0] := by
  unfold fX2_sumPart_97 at h
  refine z_istore hC [(17, .int t0), (0, .ref (zAd T (4))), (1, .ref (zAd T (3))), (2, .int v2), (3, .int v3), (4, .int v4), (5, .int v5), (6, .long v6), (10, .long v10), (12, .long v12), (14, .long v14), (16, .int v16)] (by rw [hN]; decide) rfl dX2_sumPart_97 ?_
  refine z_lload hC 10 rfl dX2_sumPart_99 ?_
  refine z_ldc2 hC kc_X2_81 dX2_sumPart_101 ?_
  refine z_cmp_le hC 114 (by decide) dX2_sumPart_104 dX2_sumPart_105 (fun q104_1 => ?_) (fun q104_1 => ?_)
  · replace h := z_t q104_1 h
    refine z_aload_n hC 2 rfl rfl dX2_sumPart_114 ?_
    refine z_iload_n hC 3 rfl rfl dX2_sumPart_115 ?_
    refine z_iload hC 11 rfl dX2_sumPart_116 ?_
    refine z_iload hC 0 rfl dX2_sumPart_118 ?_
    refine z_iconst hC (0 : Int32) (by decide) dX2_sumPart_120 ?_
    refine z_b2 h (fun r121_2 s121_3 e_r121_2 h => ?_)
    refine z_cV4r hC (ctX1_measure hC.hm e_r121_2) (rcX1 hC) kb_X1_measure km_X2_61 ⟨by decide, by decide⟩ (Nat.le_of_ble_eq_true rfl) dX2_sumPart_121 ?_
    refine z_sub [(0, .ref (zAd T (4))), (3, .int v3), (4, .int v4), (5, .int v5), (6, .long v6), (10, .long v10), (12, .long v12), (14, .long v14)] [1, 4, 5, 6, 7, 8, 9, 10] rfl ?_
    exact (wX2_sumPart_124 hC hN hQ ) _ _ _ _ _ _ _ _ _ h
  · replace h := z_f q104_1 h
    refine z_ldc2 hC kc_X2_72 dX2_sumPart_108 ?_
    refine z_goto hC 124 (by decide) dX2_sumPart_111 ?_
    refine z_sub [(0, .ref (zAd T (4))), (3, .int v3), (4, .int v4), (5, .int v5), (6, .long v6), (10, .long v10), (12, .long v12), (14, .long v14)] [1, 4, 5, 6, 7, 8, 9, 10] rfl ?_
    exact (wX2_sumPart_124 hC hN hQ ) _ _ _ _ _ _ _ _ _ h
set_option maxRecDepth 100000 in
set_option maxHeartbeats 4000000 in
theorem wX2_sumPart_0 {T : zX} (hC : zOk T cX2_sumPart RX2 5 147 0 61) (hN : zNL T = 20) {r : Int32} {σ' : zSt} (hQ : zRes T (some .boolean) (some (.int r)) σ') (a2 : Int32) (a3 : Int32) (a4 : Int32) (a5 : Int32)  (σ : zSt) (h : fX2_sumPart_0 a2 a3 a4 a5 σ = some (r, σ')) : Z T σ 0 [(0, .ref (zAd T (4))), (1, .ref (zAd T (3))), (2, .int a2), (3, .int a3), (4, .int a4), (5, .int a5)] [] := by
  unfold fX2_sumPart_0 at h
  refine z_aload_n hC 1 rfl rfl dX2_sumPart_0 ?_
  refine z_iload_n hC 2 rfl rfl dX2_sumPart_1 ?_
  refine z_iload hC 4 rfl dX2_sumPart_2 ?_
  refine z_iload hC 5 rfl dX2_sumPart_4 ?_
  refine z_iconst hC (1 : Int32) (by decide) dX2_sumPart_6 ?_
  refine z_b2 h (fun r7_1 s7_2 e_r7_1 h => ?_)
  refine z_cV4r hC (ctX1_measure hC.hm e_r7_1) (rcX1 hC) kb_X1_measure km_X2_61 ⟨by decide, by decide⟩ (Nat.le_of_ble_eq_true rfl) dX2_sumPart_7 ?_
  refine z_lstore hC [(6, .long r7_1), (0, .ref (zAd T (4))), (1, .ref (zAd T (3))), (2, .int a2), (3, .int a3), (4, .int a4), (5, .int a5)] (by rw [hN]; decide) rfl dX2_sumPart_10 ?_
  refine z_aload_n hC 2 rfl rfl dX2_sumPart_12 ?_
  refine gX1_9 hC kf_X2_67 (gl s7_2 3 9) rfl dX2_sumPart_13 ?_
  refine z_nmL h (fun x16_3 h => ?_)
  refine z_lstore hC [(8, .long x16_3), (6, .long r7_1), (0, .ref (zAd T (4))), (1, .ref (zAd T (3))), (2, .int a2), (3, .int a3), (4, .int a4), (5, .int a5)] (by rw [hN]; decide) rfl dX2_sumPart_16 ?_
  refine z_lload hC 1 rfl dX2_sumPart_18 ?_
  refine z_ldc2 hC kc_X2_72 dX2_sumPart_20 ?_
  refine z_cmp_ne hC 29 (by decide) dX2_sumPart_23 dX2_sumPart_24 (fun q23_4 => ?_) (fun q23_4 => ?_)
  · replace h := z_f q23_4 h
    refine z_iload hC 7 rfl dX2_sumPart_29 ?_
    refine z_i2l hC dX2_sumPart_31 ?_
    refine z_iload hC 6 rfl dX2_sumPart_32 ?_
    refine z_i2l hC dX2_sumPart_34 ?_
    refine z_lsub hC dX2_sumPart_35 ?_
    refine z_nmL h (fun x36_5 h => ?_)
    refine z_lstore hC [(10, .long x36_5), (8, .long x16_3), (6, .long r7_1), (0, .ref (zAd T (4))), (1, .ref (zAd T (3))), (2, .int a2), (3, .int a3), (4, .int a4), (5, .int a5)] (by rw [hN]; decide) rfl dX2_sumPart_36 ?_
    refine z_lconst hC (0 : Int64) (by decide) dX2_sumPart_38 ?_
    refine z_lstore hC [(12, .long (0 : Int64)), (10, .long x36_5), (8, .long x16_3), (6, .long r7_1), (0, .ref (zAd T (4))), (1, .ref (zAd T (3))), (2, .int a2), (3, .int a3), (4, .int a4), (5, .int a5)] (by rw [hN]; decide) rfl dX2_sumPart_39 ?_
    refine z_lload hC 2 rfl dX2_sumPart_41 ?_
    refine z_ldc2 hC kc_X2_72 dX2_sumPart_43 ?_
    refine z_cmp_eq hC 151 (by decide) dX2_sumPart_46 dX2_sumPart_47 (fun q46_6 => ?_) (fun q46_6 => ?_)
    · replace h := z_t q46_6 h
      refine z_sub [(0, .ref (zAd T (4))), (3, .int a3), (4, .int a4), (5, .int a5), (6, .long r7_1), (10, .long x36_5), (12, .long (0 : Int64))] [4, 7, 8, 9, 3, 1, 0] rfl ?_
      exact (wX2_sumPart_151 hC hN hQ ) _ _ _ _ _ _ _ h
    · replace h := z_f q46_6 h
      refine z_lload hC 2 rfl dX2_sumPart_50 ?_
      refine z_cS1r hC (ctX5_lowOf hC.hm) kb_X5_lowOf km_X2_74 ⟨by decide, by decide⟩ (Nat.le_of_ble_eq_true rfl) dX2_sumPart_52 ?_
      refine z_lload hC 2 rfl dX2_sumPart_55 ?_
      refine z_cS1r hC (ctX5_highOf hC.hm) kb_X5_highOf km_X2_78 ⟨by decide, by decide⟩ (Nat.le_of_ble_eq_true rfl) dX2_sumPart_57 ?_
      refine z_lsub hC dX2_sumPart_60 ?_
      refine z_lload hC 1 rfl dX2_sumPart_61 ?_
      refine z_lmul hC dX2_sumPart_63 ?_
      refine z_bipush hC (20 : Int32) (by decide) dX2_sumPart_64 ?_
      refine z_lshr hC dX2_sumPart_66 ?_
      refine z_nmL h (fun x66_7 h => ?_)
      refine z_lneg hC dX2_sumPart_67 ?_
      refine z_nmL h (fun x68_8 h => ?_)
      refine z_lstore hC [(14, .long x68_8), (12, .long (0 : Int64)), (10, .long x36_5), (8, .long x16_3), (6, .long r7_1), (0, .ref (zAd T (4))), (1, .ref (zAd T (3))), (2, .int a2), (3, .int a3), (4, .int a4), (5, .int a5)] (by rw [hN]; decide) rfl dX2_sumPart_68 ?_
      refine z_iload hC 9 rfl dX2_sumPart_70 ?_
      refine z_iload hC 10 rfl dX2_sumPart_72 ?_
      refine z_cS2rN hC (ctX8_middleOf hC.hm) kb_X8_middleOf (by first | exact List.mem_cons_self | exact List.mem_cons_of_mem _ List.mem_cons_self) ⟨by decide, by decide⟩ (Nat.le_of_ble_eq_true rfl) dX2_sumPart_74 ?_
      refine z_nmI h (fun x77_9 h => ?_)
      refine z_istore hC [(16, .int x77_9), (14, .long x68_8), (12, .long (0 : Int64)), (10, .long x36_5), (8, .long x16_3), (6, .long r7_1), (0, .ref (zAd T (4))), (1, .ref (zAd T (3))), (2, .int a2), (3, .int a3), (4, .int a4), (5, .int a5)] (by rw [hN]; decide) rfl dX2_sumPart_77 ?_
      refine z_lload hC 3 rfl dX2_sumPart_79 ?_
      refine z_lconst hC (1 : Int64) (by decide) dX2_sumPart_81 ?_
      refine z_land hC dX2_sumPart_82 ?_
      refine z_lconst hC (0 : Int64) (by decide) dX2_sumPart_83 ?_
      refine z_cmp_ne hC 93 (by decide) dX2_sumPart_84 dX2_sumPart_85 (fun q84_10 => ?_) (fun q84_10 => ?_)
      · replace h := z_f q84_10 h
        refine z_iload hC 0 rfl dX2_sumPart_93 ?_
        refine z_iconst hC (1 : Int32) (by decide) dX2_sumPart_95 ?_
        refine z_iadd hC dX2_sumPart_96 ?_
        refine z_sub [(0, .ref (zAd T (4))), (1, .ref (zAd T (3))), (2, .int a2), (3, .int a3), (4, .int a4), (5, .int a5), (6, .long r7_1), (10, .long x36_5), (12, .long (0 : Int64)), (14, .long x68_8), (16, .int x77_9)] [6, 7, 8, 9, 10, 11, 5, 3, 2, 1, 0] rfl ?_
        exact (wX2_sumPart_97 hC hN hQ ) _ _ _ _ _ _ _ _ _ _ _ h
      · replace h := z_t q84_10 h
        refine z_iload hC 0 rfl dX2_sumPart_88 ?_
        refine z_goto hC 97 (by decide) dX2_sumPart_90 ?_
        refine z_sub [(0, .ref (zAd T (4))), (1, .ref (zAd T (3))), (2, .int a2), (3, .int a3), (4, .int a4), (5, .int a5), (6, .long r7_1), (10, .long x36_5), (12, .long (0 : Int64)), (14, .long x68_8), (16, .int x77_9)] [6, 7, 8, 9, 10, 11, 5, 3, 2, 1, 0] rfl ?_
        exact (wX2_sumPart_97 hC hN hQ ) _ _ _ _ _ _ _ _ _ _ _ h
  · replace h := z_t q23_4 h
    refine z_iconst hC (0 : Int32) (by decide) dX2_sumPart_27 ?_
    obtain ⟨rfl, rfl⟩ := z_pr h
    exact z_zret hC hQ dX2_sumPart_28 (by decide)
set_option maxRecDepth 100000 in
theorem ctX2_sumPart {l : Launch} {G : zGt} {mk : zSt → zSt} (hm : zM mk 0 61) {a2 : Int32} {a3 : Int32} {a4 : Int32} {a5 : Int32} {σ : zSt} {r : Int32} {σ' : zSt} (h : fX2_sumPart a2 a3 a4 a5 σ = some (r, σ')) : zMet l G mk yX2_sumPart cX2_sumPart 20 (some .boolean) 5 147 [.ref (gA G (4)), .ref (gA G (3)), .int a2, .int a3, .int a4, .int a5] σ (some (.int r)) σ' := by
  unfold fX2_sumPart at h

  refine zMet.of (plainFor_of_name (by decide +kernel)) hm (Nat.le_of_ble_eq_true rfl) (fun T eL eG eM hN hC hQ => ?_)
  subst eL; subst eG; subst eM
  refine z_sub [(0, .ref (zAd T (4))), (1, .ref (zAd T (3))), (2, .int a2), (3, .int a3), (4, .int a4), (5, .int a5)] [0, 1, 2, 3, 4, 5] rfl ?_
  exact wX2_sumPart_0 hC hN hQ _ _ _ _  _ h
noncomputable def fX2_widest_4 (K4 : Int32 → Int32 → zSt → Option Int32) (v1 : Int32) (v2 : Int32) (σ : zSt) : Option Int32 := 
    (if (gi σ 4 4) ≤ v2 then some v1
    else 
      (if (201 : Int32) ≤ v2 then some v1
      else zg (vp_in v2 201) <| zg (vp_in v2 201) <| zg (vp_in v1 201) <| zg (vp_in v1 201) <| nm (((gl σ 16 v2.toNatClampNeg) - (gl σ 15 v2.toNatClampNeg)) - ((gl σ 16 v1.toNatClampNeg) - (gl σ 15 v1.toNatClampNeg))) fun x45_7 => 
        (if (0 : Int64) < x45_7 then nm (v2 + (1 : Int32)) fun x76_9 => K4 v2 x76_9 σ
        else 
          (if x45_7 = (0 : Int64) then zg (vp_in v2 201) <| zg (vp_in v1 201) <| 
            (if (gi σ 13 v1.toNatClampNeg) ≤ (gi σ 13 v2.toNatClampNeg) then nm (v2 + (1 : Int32)) fun x76_15 => K4 v1 x76_15 σ
            else nm (v2 + (1 : Int32)) fun x76_16 => K4 v2 x76_16 σ)
          else nm (v2 + (1 : Int32)) fun x76_11 => K4 v1 x76_11 σ))))
noncomputable def fX2_widest_L4 : Nat → Int32 → Int32 → zSt → Option Int32
  | 0, _, _, _ => none
  | n + 1, v1, v2, σ => fX2_widest_4 (fX2_widest_L4 n) v1 v2 σ
noncomputable def fX2_widest_0  (σ : zSt) : Option Int32 := fX2_widest_L4 zFU (0 : Int32) (1 : Int32) σ
noncomputable def fX2_widest  (σ : zSt) : Option Int32 := fX2_widest_0  σ
set_option maxRecDepth 100000 in
set_option maxHeartbeats 4000000 in
theorem wX2_widest_4 {T : zX} {σ : zSt} (hC : zOk T cX2_widest RX2 0 0 0 61) (hN : zNL T = 5) {r : Int32} (hQ : zRes T (some .int) (some (.int r)) σ) (K4 : Int32 → Int32 → zSt → Option Int32) (hK4 : ∀ (v1 : Int32) (v2 : Int32), K4 v1 v2 σ = some r → Z T σ 4 [(0, .ref (zAd T (4))), (1, .int v1), (2, .int v2)] []) (v1 : Int32) (v2 : Int32)  (h : fX2_widest_4 K4 v1 v2 σ = some r) : Z T σ 4 [(0, .ref (zAd T (4))), (1, .int v1), (2, .int v2)] [] := by
  unfold fX2_widest_4 at h
  refine z_iload_n hC 2 rfl rfl dX2_widest_4 ?_
  refine z_aload_n hC 0 rfl rfl dX2_widest_5 ?_
  refine gX2_4 hC kf_X2_25 (gi σ 4 4) rfl dX2_widest_6 ?_
  refine z_icmp_ge hC 82 (by decide) dX2_widest_9 (fun q9_1 => ?_) (fun q9_1 => ?_)
  · replace h := z_t q9_1 h
    refine z_iload_n hC 1 rfl rfl dX2_widest_82 ?_
    obtain rfl := z_so h
    exact z_iret hC hQ dX2_widest_83
  · replace h := z_f q9_1 h
    refine z_iload_n hC 2 rfl rfl dX2_widest_12 ?_
    refine z_sipush hC (201 : Int32) (by decide) dX2_widest_13 ?_
    refine z_icmp_ge hC 82 (by decide) dX2_widest_16 (fun q16_2 => ?_) (fun q16_2 => ?_)
    · replace h := z_t q16_2 h
      refine z_iload_n hC 1 rfl rfl dX2_widest_82 ?_
      obtain rfl := z_so h
      exact z_iret hC hQ dX2_widest_83
    · replace h := z_f q16_2 h
      refine z_aload_n hC 0 rfl rfl dX2_widest_19 ?_
      refine gX2_3 hC kf_X2_22 dX2_widest_20 ?_
      refine z_iload_n hC 2 rfl rfl dX2_widest_23 ?_
      refine z_g h (fun g24_3 h => ?_)
      refine z_lald hC 16 ⟨by decide, by decide⟩ (zS_16 _ _ _) g24_3 (gl σ 16 v2.toNatClampNeg) rfl dX2_widest_24 ?_
      refine z_aload_n hC 0 rfl rfl dX2_widest_25 ?_
      refine gX2_2 hC kf_X2_18 dX2_widest_26 ?_
      refine z_iload_n hC 2 rfl rfl dX2_widest_29 ?_
      refine z_g h (fun g30_4 h => ?_)
      refine z_lald hC 15 ⟨by decide, by decide⟩ (zS_15 _ _ _) g30_4 (gl σ 15 v2.toNatClampNeg) rfl dX2_widest_30 ?_
      refine z_lsub hC dX2_widest_31 ?_
      refine z_aload_n hC 0 rfl rfl dX2_widest_32 ?_
      refine gX2_3 hC kf_X2_22 dX2_widest_33 ?_
      refine z_iload_n hC 1 rfl rfl dX2_widest_36 ?_
      refine z_g h (fun g37_5 h => ?_)
      refine z_lald hC 16 ⟨by decide, by decide⟩ (zS_16 _ _ _) g37_5 (gl σ 16 v1.toNatClampNeg) rfl dX2_widest_37 ?_
      refine z_aload_n hC 0 rfl rfl dX2_widest_38 ?_
      refine gX2_2 hC kf_X2_18 dX2_widest_39 ?_
      refine z_iload_n hC 1 rfl rfl dX2_widest_42 ?_
      refine z_g h (fun g43_6 h => ?_)
      refine z_lald hC 15 ⟨by decide, by decide⟩ (zS_15 _ _ _) g43_6 (gl σ 15 v1.toNatClampNeg) rfl dX2_widest_43 ?_
      refine z_lsub hC dX2_widest_44 ?_
      refine z_lsub hC dX2_widest_45 ?_
      refine z_nmL h (fun x45_7 h => ?_)
      refine z_lstore_n hC [(3, .long x45_7), (0, .ref (zAd T (4))), (1, .int v1), (2, .int v2)] rfl (by rw [hN]; decide) rfl dX2_widest_46 ?_
      refine z_lload_n hC 0 rfl rfl dX2_widest_47 ?_
      refine z_lconst hC (0 : Int64) (by decide) dX2_widest_48 ?_
      refine z_cmp_gt hC 74 (by decide) dX2_widest_49 dX2_widest_50 (fun q49_8 => ?_) (fun q49_8 => ?_)
      · replace h := z_t q49_8 h
        refine z_iload_n hC 3 rfl rfl dX2_widest_74 ?_
        refine z_istore_n hC [(1, .int v2), (3, .long x45_7), (0, .ref (zAd T (4))), (2, .int v2)] rfl (by rw [hN]; decide) rfl dX2_widest_75 ?_
        refine z_nmE h (fun x76_9 e_x76_9 h => ?_)
        refine z_iinc hC x76_9 [(2, .int x76_9), (1, .int v2), (3, .long x45_7), (0, .ref (zAd T (4)))] 3 rfl (by rw [e_x76_9]; rfl) (by rw [hN]; decide) rfl dX2_widest_76 ?_
        refine z_goto hC 4 (by decide) dX2_widest_79 ?_
        refine z_sub [(0, .ref (zAd T (4))), (1, .int v2), (2, .int x76_9)] [3, 1, 0] rfl ?_
        exact hK4 _ _ h
      · replace h := z_f q49_8 h
        refine z_lload_n hC 0 rfl rfl dX2_widest_53 ?_
        refine z_lconst hC (0 : Int64) (by decide) dX2_widest_54 ?_
        refine z_cmp_ne hC 76 (by decide) dX2_widest_55 dX2_widest_56 (fun q55_10 => ?_) (fun q55_10 => ?_)
        · replace h := z_f q55_10 h
          refine z_nmE h (fun x76_11 e_x76_11 h => ?_)
          refine z_iinc hC x76_11 [(2, .int x76_11), (3, .long x45_7), (0, .ref (zAd T (4))), (1, .int v1)] 3 rfl (by rw [e_x76_11]; rfl) (by rw [hN]; decide) rfl dX2_widest_76 ?_
          refine z_goto hC 4 (by decide) dX2_widest_79 ?_
          refine z_sub [(0, .ref (zAd T (4))), (1, .int v1), (2, .int x76_11)] [2, 3, 0] rfl ?_
          exact hK4 _ _ h
        · replace h := z_t q55_10 h
          refine z_aload_n hC 1 rfl rfl dX2_widest_59 ?_
          refine gX2_0 hC kf_X2_11 dX2_widest_60 ?_
          refine z_iload_n hC 3 rfl rfl dX2_widest_63 ?_
          refine z_g h (fun g64_12 h => ?_)
          refine z_iald hC 13 ⟨by decide, by decide⟩ (zS_13 _ _ _) g64_12 (gi σ 13 v2.toNatClampNeg) rfl dX2_widest_64 ?_
          refine z_aload_n hC 1 rfl rfl dX2_widest_65 ?_
          refine gX2_0 hC kf_X2_11 dX2_widest_66 ?_
          refine z_iload_n hC 2 rfl rfl dX2_widest_69 ?_
          refine z_g h (fun g70_13 h => ?_)
          refine z_iald hC 13 ⟨by decide, by decide⟩ (zS_13 _ _ _) g70_13 (gi σ 13 v1.toNatClampNeg) rfl dX2_widest_70 ?_
          refine z_icmp_ge hC 76 (by decide) dX2_widest_71 (fun q71_14 => ?_) (fun q71_14 => ?_)
          · replace h := z_t q71_14 h
            refine z_nmE h (fun x76_15 e_x76_15 h => ?_)
            refine z_iinc hC x76_15 [(2, .int x76_15), (3, .long x45_7), (0, .ref (zAd T (4))), (1, .int v1)] 3 rfl (by rw [e_x76_15]; rfl) (by rw [hN]; decide) rfl dX2_widest_76 ?_
            refine z_goto hC 4 (by decide) dX2_widest_79 ?_
            refine z_sub [(0, .ref (zAd T (4))), (1, .int v1), (2, .int x76_15)] [2, 3, 0] rfl ?_
            exact hK4 _ _ h
          · replace h := z_f q71_14 h
            refine z_iload_n hC 3 rfl rfl dX2_widest_74 ?_
            refine z_istore_n hC [(1, .int v2), (3, .long x45_7), (0, .ref (zAd T (4))), (2, .int v2)] rfl (by rw [hN]; decide) rfl dX2_widest_75 ?_
            refine z_nmE h (fun x76_16 e_x76_16 h => ?_)
            refine z_iinc hC x76_16 [(2, .int x76_16), (1, .int v2), (3, .long x45_7), (0, .ref (zAd T (4)))] 3 rfl (by rw [e_x76_16]; rfl) (by rw [hN]; decide) rfl dX2_widest_76 ?_
            refine z_goto hC 4 (by decide) dX2_widest_79 ?_
            refine z_sub [(0, .ref (zAd T (4))), (1, .int v2), (2, .int x76_16)] [3, 1, 0] rfl ?_
            exact hK4 _ _ h
theorem wX2_widest_L4 {T : zX} {σ : zSt} (hC : zOk T cX2_widest RX2 0 0 0 61) (hN : zNL T = 5) {r : Int32} (hQ : zRes T (some .int) (some (.int r)) σ) (n : Nat) : ∀ (v1 : Int32) (v2 : Int32), fX2_widest_L4 n v1 v2 σ = some r → Z T σ 4 [(0, .ref (zAd T (4))), (1, .int v1), (2, .int v2)] [] := by
  induction n with
  | zero => intro v1 v2 h; cases h
  | succ n ih => intro v1 v2 h; exact wX2_widest_4 hC hN hQ (fX2_widest_L4 n) ih v1 v2 h
set_option maxRecDepth 100000 in
set_option maxHeartbeats 4000000 in
theorem wX2_widest_0 {T : zX} {σ : zSt} (hC : zOk T cX2_widest RX2 0 0 0 61) (hN : zNL T = 5) {r : Int32} (hQ : zRes T (some .int) (some (.int r)) σ)   (h : fX2_widest_0  σ = some r) : Z T σ 0 [(0, .ref (zAd T (4)))] [] := by
  unfold fX2_widest_0 at h
  refine z_iconst hC (0 : Int32) (by decide) dX2_widest_0 ?_
  refine z_istore_n hC [(1, .int (0 : Int32)), (0, .ref (zAd T (4)))] rfl (by rw [hN]; decide) rfl dX2_widest_1 ?_
  refine z_iconst hC (1 : Int32) (by decide) dX2_widest_2 ?_
  refine z_istore_n hC [(2, .int (1 : Int32)), (1, .int (0 : Int32)), (0, .ref (zAd T (4)))] rfl (by rw [hN]; decide) rfl dX2_widest_3 ?_
  refine z_sub [(0, .ref (zAd T (4))), (1, .int (0 : Int32)), (2, .int (1 : Int32))] [2, 1, 0] rfl ?_
  exact (wX2_widest_L4 hC hN hQ zFU) _ _ h
set_option maxRecDepth 100000 in
theorem ctX2_widest {l : Launch} {G : zGt} {mk : zSt → zSt} (hm : zM mk 0 61)  {σ : zSt} {r : Int32} (h : fX2_widest  σ = some r) : zMet l G mk yX2_widest cX2_widest 5 (some .int) 0 0 [.ref (gA G (4))] σ (some (.int r)) σ := by
  unfold fX2_widest at h

  refine zMet.of (plainFor_of_name (by decide +kernel)) hm (Nat.le_of_ble_eq_true rfl) (fun T eL eG eM hN hC hQ => ?_)
  subst eL; subst eG; subst eM
  refine z_sub [(0, .ref (zAd T (4)))] [0] rfl ?_
  exact wX2_widest_0 hC hN hQ   h
noncomputable def fX2_canHalve_0 (a1 : Int32) (σ : zSt) : Option Int32 := 
    (if a1 < 0 then some (0 : Int32)
    else 
      (if (201 : Int32) ≤ a1 then some (0 : Int32)
      else 
        (if (gi σ 4 4) < 0 then some (0 : Int32)
        else 
          (if (201 : Int32) ≤ (gi σ 4 4) then some (0 : Int32)
          else zg (vp_in a1 201) <| zg (vp_in a1 201) <| nm ((Int32.toInt64 (gi σ 14 a1.toNatClampNeg)) - (Int32.toInt64 (gi σ 13 a1.toNatClampNeg))) fun x42_7 => 
            (if x42_7 < (2 : Int64) then some (0 : Int32)
            else some (1 : Int32))))))
noncomputable def fX2_canHalve (a1 : Int32) (σ : zSt) : Option Int32 := fX2_canHalve_0 a1 σ
set_option maxRecDepth 100000 in
set_option maxHeartbeats 4000000 in
theorem wX2_canHalve_0 {T : zX} {σ : zSt} (hC : zOk T cX2_canHalve RX2 0 0 0 61) (hN : zNL T = 2) {r : Int32} (hQ : zRes T (some .boolean) (some (.int r)) σ) (a1 : Int32)  (h : fX2_canHalve_0 a1 σ = some r) : Z T σ 0 [(0, .ref (zAd T (4))), (1, .int a1)] [] := by
  unfold fX2_canHalve_0 at h
  refine z_iload_n hC 1 rfl rfl dX2_canHalve_0 ?_
  refine z_if_lt hC 54 (by decide) dX2_canHalve_1 (fun q1_1 => ?_) (fun q1_1 => ?_)
  · replace h := z_t q1_1 h
    refine z_iconst hC (0 : Int32) (by decide) dX2_canHalve_54 ?_
    obtain rfl := z_so h
    exact z_zret hC hQ dX2_canHalve_55 (by decide)
  · replace h := z_f q1_1 h
    refine z_iload_n hC 1 rfl rfl dX2_canHalve_4 ?_
    refine z_sipush hC (201 : Int32) (by decide) dX2_canHalve_5 ?_
    refine z_icmp_ge hC 54 (by decide) dX2_canHalve_8 (fun q8_2 => ?_) (fun q8_2 => ?_)
    · replace h := z_t q8_2 h
      refine z_iconst hC (0 : Int32) (by decide) dX2_canHalve_54 ?_
      obtain rfl := z_so h
      exact z_zret hC hQ dX2_canHalve_55 (by decide)
    · replace h := z_f q8_2 h
      refine z_aload_n hC 0 rfl rfl dX2_canHalve_11 ?_
      refine gX2_4 hC kf_X2_25 (gi σ 4 4) rfl dX2_canHalve_12 ?_
      refine z_if_lt hC 54 (by decide) dX2_canHalve_15 (fun q15_3 => ?_) (fun q15_3 => ?_)
      · replace h := z_t q15_3 h
        refine z_iconst hC (0 : Int32) (by decide) dX2_canHalve_54 ?_
        obtain rfl := z_so h
        exact z_zret hC hQ dX2_canHalve_55 (by decide)
      · replace h := z_f q15_3 h
        refine z_aload_n hC 0 rfl rfl dX2_canHalve_18 ?_
        refine gX2_4 hC kf_X2_25 (gi σ 4 4) rfl dX2_canHalve_19 ?_
        refine z_sipush hC (201 : Int32) (by decide) dX2_canHalve_22 ?_
        refine z_icmp_ge hC 54 (by decide) dX2_canHalve_25 (fun q25_4 => ?_) (fun q25_4 => ?_)
        · replace h := z_t q25_4 h
          refine z_iconst hC (0 : Int32) (by decide) dX2_canHalve_54 ?_
          obtain rfl := z_so h
          exact z_zret hC hQ dX2_canHalve_55 (by decide)
        · replace h := z_f q25_4 h
          refine z_aload_n hC 0 rfl rfl dX2_canHalve_28 ?_
          refine gX2_1 hC kf_X2_15 dX2_canHalve_29 ?_
          refine z_iload_n hC 1 rfl rfl dX2_canHalve_32 ?_
          refine z_g h (fun g33_5 h => ?_)
          refine z_iald hC 14 ⟨by decide, by decide⟩ (zS_14 _ _ _) g33_5 (gi σ 14 a1.toNatClampNeg) rfl dX2_canHalve_33 ?_
          refine z_i2l hC dX2_canHalve_34 ?_
          refine z_aload_n hC 0 rfl rfl dX2_canHalve_35 ?_
          refine gX2_0 hC kf_X2_11 dX2_canHalve_36 ?_
          refine z_iload_n hC 1 rfl rfl dX2_canHalve_39 ?_
          refine z_g h (fun g40_6 h => ?_)
          refine z_iald hC 13 ⟨by decide, by decide⟩ (zS_13 _ _ _) g40_6 (gi σ 13 a1.toNatClampNeg) rfl dX2_canHalve_40 ?_
          refine z_i2l hC dX2_canHalve_41 ?_
          refine z_lsub hC dX2_canHalve_42 ?_
          refine z_nmL h (fun x42_7 h => ?_)
          refine z_ldc2 hC kc_X2_101 dX2_canHalve_43 ?_
          refine z_cmp_lt hC 54 (by decide) dX2_canHalve_46 dX2_canHalve_47 (fun q46_8 => ?_) (fun q46_8 => ?_)
          · replace h := z_t q46_8 h
            refine z_iconst hC (0 : Int32) (by decide) dX2_canHalve_54 ?_
            obtain rfl := z_so h
            exact z_zret hC hQ dX2_canHalve_55 (by decide)
          · replace h := z_f q46_8 h
            refine z_iconst hC (1 : Int32) (by decide) dX2_canHalve_50 ?_
            refine z_goto hC 55 (by decide) dX2_canHalve_51 ?_
            obtain rfl := z_so h
            exact z_zret hC hQ dX2_canHalve_55 (by decide)
set_option maxRecDepth 100000 in
theorem ctX2_canHalve {l : Launch} {G : zGt} {mk : zSt → zSt} (hm : zM mk 0 61) {a1 : Int32} {σ : zSt} {r : Int32} (h : fX2_canHalve a1 σ = some r) : zMet l G mk yX2_canHalve cX2_canHalve 2 (some .boolean) 0 0 [.ref (gA G (4)), .int a1] σ (some (.int r)) σ := by
  unfold fX2_canHalve at h

  refine zMet.of (plainFor_of_name (by decide +kernel)) hm (Nat.le_of_ble_eq_true rfl) (fun T eL eG eM hN hC hQ => ?_)
  subst eL; subst eG; subst eM
  refine z_sub [(0, .ref (zAd T (4))), (1, .int a1)] [0, 1] rfl ?_
  exact wX2_canHalve_0 hC hN hQ _  h
noncomputable def fX2_sumUp_181 (K48 : Int32 → Int32 → Int64 → Int32 → Int64 → Int64 → Int32 → zSt → Option (Int32 × zSt)) (v2 : Int32) (v5 : Int32) (v6 : Int64) (v9 : Int64) (v11 : Int64) (v13 : Int32) (v14 : Int32) (t0 : Int32) (σ : zSt) : Option (Int32 × zSt) := zg (vp_in v14 201) <| zg (vp_in (gi σ 4 4) 201) <| nm (v9 + ((gl σ 15 v14.toNatClampNeg) + (gl σ 15 (gi σ 4 4).toNatClampNeg))) fun x202_3 => zg (vp_in v14 201) <| zg (vp_in (gi σ 4 4) 201) <| nm (v11 + ((gl σ 16 v14.toNatClampNeg) + (gl σ 16 (gi σ 4 4).toNatClampNeg))) fun x224_6 => nm (if x202_3 < (gl σ 4 5) then (gl σ 4 5) else x202_3) fun x247_7 => nm (if x224_6 < (gl σ 4 6) then x224_6 else (gl σ 4 6)) fun x260_8 => nm (v13 + (1 : Int32)) fun x263_9 => K48 v2 v5 v6 t0 x202_3 x224_6 x263_9 (sl (sl (si σ 4 4 ((gi σ 4 4) + (1 : Int32))) 4 5 x247_7) 4 6 x260_8)
noncomputable def fX2_sumUp_48 (K48 : Int32 → Int32 → Int64 → Int32 → Int64 → Int64 → Int32 → zSt → Option (Int32 × zSt)) (v2 : Int32) (v5 : Int32) (v6 : Int64) (v8 : Int32) (v9 : Int64) (v11 : Int64) (v13 : Int32) (σ : zSt) : Option (Int32 × zSt) := 
    (if v5 ≤ v13 then zg (narrow .boolean (.int v8) = .int v8) <| some (v8, σ)
    else 
      (if v8 = 0 then zg (narrow .boolean (.int v8) = .int v8) <| some (v8, σ)
      else 
        (if ((gl σ 4 6) - (gl σ 4 5)) ≤ v6 then zg (narrow .boolean (.int v8) = .int v8) <| some (v8, σ)
        else bd1 (fX2_widest σ) fun r76_7 => bd1 (fX2_canHalve r76_7 σ) fun r84_8 => 
          (if r84_8 = 0 then some ((1 : Int32), σ)
          else zg (vp_in r76_7 201) <| nm (v9 - (gl σ 15 r76_7.toNatClampNeg)) fun x102_11 => zg (vp_in r76_7 201) <| nm (v11 - (gl σ 16 r76_7.toNatClampNeg)) fun x114_13 => zg (vp_in r76_7 201) <| nm (gi σ 14 r76_7.toNatClampNeg) fun x123_15 => zg (vp_in r76_7 201) <| nm (fX8_middleOf (gi σ 13 r76_7.toNatClampNeg) x123_15) fun x137_17 => zg (vp_in r76_7 201) <| bd2 (fX2_sumPart v2 r76_7 (gi σ 13 r76_7.toNatClampNeg) x137_17 σ) fun r153_19 s153_20 => 
            (if r153_19 = 0 then fX2_sumUp_181 K48 v2 v5 v6 x102_11 x114_13 v13 r76_7 (0 : Int32) s153_20
            else bd2 (fX2_sumPart v2 (gi s153_20 4 4) x137_17 x123_15 s153_20) fun r170_22 s170_23 => 
              (if r170_22 = 0 then fX2_sumUp_181 K48 v2 v5 v6 x102_11 x114_13 v13 r76_7 (0 : Int32) s170_23
              else fX2_sumUp_181 K48 v2 v5 v6 x102_11 x114_13 v13 r76_7 (1 : Int32) s170_23))))))
noncomputable def fX2_sumUp_L48 : Nat → Int32 → Int32 → Int64 → Int32 → Int64 → Int64 → Int32 → zSt → Option (Int32 × zSt)
  | 0, _, _, _, _, _, _, _, _ => none
  | n + 1, v2, v5, v6, v8, v9, v11, v13, σ => fX2_sumUp_48 (fX2_sumUp_L48 n) v2 v5 v6 v8 v9 v11 v13 σ
noncomputable def fX2_sumUp_0 (a2 : Int32) (a3 : Int32) (a4 : Int32) (a5 : Int32) (a6 : Int64) (σ : zSt) : Option (Int32 × zSt) := bd2 (fX2_sumPart a2 (0 : Int32) a3 a4 (si σ 4 4 (1 : Int32))) fun r12_1 s12_2 => nm (gl s12_2 15 (0 : Int32).toNatClampNeg) fun x23_3 => nm (gl s12_2 16 (0 : Int32).toNatClampNeg) fun x31_4 => fX2_sumUp_L48 zFU a2 a5 a6 r12_1 x23_3 x31_4 (0 : Int32) (sl (sl s12_2 4 5 x23_3) 4 6 x31_4)
noncomputable def fX2_sumUp (a2 : Int32) (a3 : Int32) (a4 : Int32) (a5 : Int32) (a6 : Int64) (σ : zSt) : Option (Int32 × zSt) := fX2_sumUp_0 a2 a3 a4 a5 a6 σ
set_option maxRecDepth 100000 in
set_option maxHeartbeats 4000000 in
theorem wX2_sumUp_181 {T : zX} (hC : zOk T cX2_sumUp RX2 6 186 0 61) (hN : zNL T = 17) {r : Int32} {σ' : zSt} (hQ : zRes T (some .boolean) (some (.int r)) σ') (K48 : Int32 → Int32 → Int64 → Int32 → Int64 → Int64 → Int32 → zSt → Option (Int32 × zSt)) (hK48 : ∀ (v2 : Int32) (v5 : Int32) (v6 : Int64) (v8 : Int32) (v9 : Int64) (v11 : Int64) (v13 : Int32) (τ : zSt), K48 v2 v5 v6 v8 v9 v11 v13 τ = some (r, σ') → Z T τ 48 [(0, .ref (zAd T (4))), (1, .ref (zAd T (3))), (2, .int v2), (5, .int v5), (6, .long v6), (8, .int v8), (9, .long v9), (11, .long v11), (13, .int v13)] []) (v2 : Int32) (v5 : Int32) (v6 : Int64) (v9 : Int64) (v11 : Int64) (v13 : Int32) (v14 : Int32) (t0 : Int32)  (σ : zSt) (h : fX2_sumUp_181 K48 v2 v5 v6 v9 v11 v13 v14 t0 σ = some (r, σ')) : Z T σ 181 [(0, .ref (zAd T (4))), (1, .ref (zAd T (3))), (2, .int v2), (5, .int v5), (6, .long v6), (9, .long v9), (11, .long v11), (13, .int v13), (14, .int v14)] [.int t0] := by
  unfold fX2_sumUp_181 at h
  refine z_istore hC [(8, .int t0), (0, .ref (zAd T (4))), (1, .ref (zAd T (3))), (2, .int v2), (5, .int v5), (6, .long v6), (9, .long v9), (11, .long v11), (13, .int v13), (14, .int v14)] (by rw [hN]; decide) rfl dX2_sumUp_181 ?_
  refine z_lload hC 6 rfl dX2_sumUp_183 ?_
  refine z_aload_n hC 1 rfl rfl dX2_sumUp_185 ?_
  refine gX2_2 hC kf_X2_18 dX2_sumUp_186 ?_
  refine z_iload hC 9 rfl dX2_sumUp_189 ?_
  refine z_g h (fun g191_1 h => ?_)
  refine z_lald hC 15 ⟨by decide, by decide⟩ (zS_15 _ _ _) g191_1 (gl σ 15 v14.toNatClampNeg) rfl dX2_sumUp_191 ?_
  refine z_aload_n hC 1 rfl rfl dX2_sumUp_192 ?_
  refine gX2_2 hC kf_X2_18 dX2_sumUp_193 ?_
  refine z_aload_n hC 1 rfl rfl dX2_sumUp_196 ?_
  refine gX2_4 hC kf_X2_25 (gi σ 4 4) rfl dX2_sumUp_197 ?_
  refine z_g h (fun g200_2 h => ?_)
  refine z_lald hC 15 ⟨by decide, by decide⟩ (zS_15 _ _ _) g200_2 (gl σ 15 (gi σ 4 4).toNatClampNeg) rfl dX2_sumUp_200 ?_
  refine z_ladd hC dX2_sumUp_201 ?_
  refine z_ladd hC dX2_sumUp_202 ?_
  refine z_nmL h (fun x202_3 h => ?_)
  refine z_lstore hC [(9, .long x202_3), (8, .int t0), (0, .ref (zAd T (4))), (1, .ref (zAd T (3))), (2, .int v2), (5, .int v5), (6, .long v6), (11, .long v11), (13, .int v13), (14, .int v14)] (by rw [hN]; decide) rfl dX2_sumUp_203 ?_
  refine z_lload hC 7 rfl dX2_sumUp_205 ?_
  refine z_aload_n hC 2 rfl rfl dX2_sumUp_207 ?_
  refine gX2_3 hC kf_X2_22 dX2_sumUp_208 ?_
  refine z_iload hC 9 rfl dX2_sumUp_211 ?_
  refine z_g h (fun g213_4 h => ?_)
  refine z_lald hC 16 ⟨by decide, by decide⟩ (zS_16 _ _ _) g213_4 (gl σ 16 v14.toNatClampNeg) rfl dX2_sumUp_213 ?_
  refine z_aload_n hC 2 rfl rfl dX2_sumUp_214 ?_
  refine gX2_3 hC kf_X2_22 dX2_sumUp_215 ?_
  refine z_aload_n hC 2 rfl rfl dX2_sumUp_218 ?_
  refine gX2_4 hC kf_X2_25 (gi σ 4 4) rfl dX2_sumUp_219 ?_
  refine z_g h (fun g222_5 h => ?_)
  refine z_lald hC 16 ⟨by decide, by decide⟩ (zS_16 _ _ _) g222_5 (gl σ 16 (gi σ 4 4).toNatClampNeg) rfl dX2_sumUp_222 ?_
  refine z_ladd hC dX2_sumUp_223 ?_
  refine z_ladd hC dX2_sumUp_224 ?_
  refine z_nmL h (fun x224_6 h => ?_)
  refine z_lstore hC [(11, .long x224_6), (9, .long x202_3), (8, .int t0), (0, .ref (zAd T (4))), (1, .ref (zAd T (3))), (2, .int v2), (5, .int v5), (6, .long v6), (13, .int v13), (14, .int v14)] (by rw [hN]; decide) rfl dX2_sumUp_225 ?_
  refine z_aload_n hC 3 rfl rfl dX2_sumUp_227 ?_
  refine z_dup hC rfl dX2_sumUp_228 ?_
  refine gX2_4 hC kf_X2_25 (gi σ 4 4) rfl dX2_sumUp_229 ?_
  refine z_iconst hC (1 : Int32) (by decide) dX2_sumUp_232 ?_
  refine z_iadd hC dX2_sumUp_233 ?_
  refine pX2_4 hC kf_X2_25 dX2_sumUp_234 ?_
  refine z_aload_n hC 3 rfl rfl dX2_sumUp_237 ?_
  refine z_aload_n hC 3 rfl rfl dX2_sumUp_238 ?_
  refine gX2_5 hC kf_X2_33 (gl σ 4 5) rfl dX2_sumUp_239 ?_
  refine z_lload hC 1 rfl dX2_sumUp_242 ?_
  refine z_mmaxL hC km_X2_52 (Nat.le_of_ble_eq_true rfl) (Nat.le_of_ble_eq_true rfl) dX2_sumUp_244 ?_
  refine z_nmL h (fun x247_7 h => ?_)
  refine pX2_5 hC kf_X2_33 dX2_sumUp_247 ?_
  refine z_aload_n hC 3 rfl rfl dX2_sumUp_250 ?_
  refine z_aload_n hC 3 rfl rfl dX2_sumUp_251 ?_
  refine gX2_6 hC kf_X2_37 (gl σ 4 6) rfl dX2_sumUp_252 ?_
  refine z_lload hC 0 rfl dX2_sumUp_255 ?_
  refine z_mminL hC km_X2_58 (Nat.le_of_ble_eq_true rfl) (Nat.le_of_ble_eq_true rfl) dX2_sumUp_257 ?_
  refine z_nmL h (fun x260_8 h => ?_)
  refine pX2_6 hC kf_X2_37 dX2_sumUp_260 ?_
  refine z_nmE h (fun x263_9 e_x263_9 h => ?_)
  refine z_iinc hC x263_9 [(13, .int x263_9), (11, .long x224_6), (9, .long x202_3), (8, .int t0), (0, .ref (zAd T (4))), (1, .ref (zAd T (3))), (2, .int v2), (5, .int v5), (6, .long v6), (14, .int v14)] 8 rfl (by rw [e_x263_9]; rfl) (by rw [hN]; decide) rfl dX2_sumUp_263 ?_
  refine z_goto hC 48 (by decide) dX2_sumUp_266 ?_
  refine z_sub [(0, .ref (zAd T (4))), (1, .ref (zAd T (3))), (2, .int v2), (5, .int v5), (6, .long v6), (8, .int t0), (9, .long x202_3), (11, .long x224_6), (13, .int x263_9)] [4, 5, 6, 7, 8, 3, 2, 1, 0] rfl ?_
  exact hK48 _ _ _ _ _ _ _ _ h
set_option maxRecDepth 100000 in
set_option maxHeartbeats 4000000 in
theorem wX2_sumUp_48 {T : zX} (hC : zOk T cX2_sumUp RX2 6 186 0 61) (hN : zNL T = 17) {r : Int32} {σ' : zSt} (hQ : zRes T (some .boolean) (some (.int r)) σ') (K48 : Int32 → Int32 → Int64 → Int32 → Int64 → Int64 → Int32 → zSt → Option (Int32 × zSt)) (hK48 : ∀ (v2 : Int32) (v5 : Int32) (v6 : Int64) (v8 : Int32) (v9 : Int64) (v11 : Int64) (v13 : Int32) (τ : zSt), K48 v2 v5 v6 v8 v9 v11 v13 τ = some (r, σ') → Z T τ 48 [(0, .ref (zAd T (4))), (1, .ref (zAd T (3))), (2, .int v2), (5, .int v5), (6, .long v6), (8, .int v8), (9, .long v9), (11, .long v11), (13, .int v13)] []) (v2 : Int32) (v5 : Int32) (v6 : Int64) (v8 : Int32) (v9 : Int64) (v11 : Int64) (v13 : Int32)  (σ : zSt) (h : fX2_sumUp_48 K48 v2 v5 v6 v8 v9 v11 v13 σ = some (r, σ')) : Z T σ 48 [(0, .ref (zAd T (4))), (1, .ref (zAd T (3))), (2, .int v2), (5, .int v5), (6, .long v6), (8, .int v8), (9, .long v9), (11, .long v11), (13, .int v13)] [] := by
  unfold fX2_sumUp_48 at h
  refine z_iload hC 8 rfl dX2_sumUp_48 ?_
  refine z_iload hC 3 rfl dX2_sumUp_50 ?_
  refine z_icmp_ge hC 269 (by decide) dX2_sumUp_52 (fun q52_1 => ?_) (fun q52_1 => ?_)
  · replace h := z_t q52_1 h
    refine z_iload hC 5 rfl dX2_sumUp_269 ?_
    refine z_g h (fun g271_2 h => ?_)
    obtain ⟨rfl, rfl⟩ := z_pr h
    exact z_zret hC hQ dX2_sumUp_271 g271_2
  · replace h := z_f q52_1 h
    refine z_iload hC 5 rfl dX2_sumUp_55 ?_
    refine z_if_eq hC 269 (by decide) dX2_sumUp_57 (fun q57_3 => ?_) (fun q57_3 => ?_)
    · replace h := z_t q57_3 h
      refine z_iload hC 5 rfl dX2_sumUp_269 ?_
      refine z_g h (fun g271_4 h => ?_)
      obtain ⟨rfl, rfl⟩ := z_pr h
      exact z_zret hC hQ dX2_sumUp_271 g271_4
    · replace h := z_f q57_3 h
      refine z_aload_n hC 0 rfl rfl dX2_sumUp_60 ?_
      refine gX2_6 hC kf_X2_37 (gl σ 4 6) rfl dX2_sumUp_61 ?_
      refine z_aload_n hC 0 rfl rfl dX2_sumUp_64 ?_
      refine gX2_5 hC kf_X2_33 (gl σ 4 5) rfl dX2_sumUp_65 ?_
      refine z_lsub hC dX2_sumUp_68 ?_
      refine z_lload hC 4 rfl dX2_sumUp_69 ?_
      refine z_cmp_le hC 269 (by decide) dX2_sumUp_71 dX2_sumUp_72 (fun q71_5 => ?_) (fun q71_5 => ?_)
      · replace h := z_t q71_5 h
        refine z_iload hC 5 rfl dX2_sumUp_269 ?_
        refine z_g h (fun g271_6 h => ?_)
        obtain ⟨rfl, rfl⟩ := z_pr h
        exact z_zret hC hQ dX2_sumUp_271 g271_6
      · replace h := z_f q71_5 h
        refine z_aload_n hC 0 rfl rfl dX2_sumUp_75 ?_
        refine z_b1 h (fun r76_7 e_r76_7 h => ?_)
        refine z_cV0r hC (ctX2_widest hC.hm e_r76_7) (rcX2 hC) kb_X2_widest km_X2_40 ⟨by decide, by decide⟩ (Nat.le_of_ble_eq_true rfl) dX2_sumUp_76 ?_
        refine z_istore hC [(14, .int r76_7), (0, .ref (zAd T (4))), (1, .ref (zAd T (3))), (2, .int v2), (5, .int v5), (6, .long v6), (8, .int v8), (9, .long v9), (11, .long v11), (13, .int v13)] (by rw [hN]; decide) rfl dX2_sumUp_79 ?_
        refine z_aload_n hC 1 rfl rfl dX2_sumUp_81 ?_
        refine z_iload hC 0 rfl dX2_sumUp_82 ?_
        refine z_b1 h (fun r84_8 e_r84_8 h => ?_)
        refine z_cV1r hC (ctX2_canHalve hC.hm e_r84_8) (rcX2 hC) kb_X2_canHalve km_X2_44 ⟨by decide, by decide⟩ (Nat.le_of_ble_eq_true rfl) dX2_sumUp_84 ?_
        refine z_if_ne hC 92 (by decide) dX2_sumUp_87 (fun q87_9 => ?_) (fun q87_9 => ?_)
        · replace h := z_f q87_9 h
          refine z_lload hC 7 rfl dX2_sumUp_92 ?_
          refine z_aload_n hC 1 rfl rfl dX2_sumUp_94 ?_
          refine gX2_2 hC kf_X2_18 dX2_sumUp_95 ?_
          refine z_iload hC 0 rfl dX2_sumUp_98 ?_
          refine z_g h (fun g100_10 h => ?_)
          refine z_lald hC 15 ⟨by decide, by decide⟩ (zS_15 _ _ _) g100_10 (gl σ 15 r76_7.toNatClampNeg) rfl dX2_sumUp_100 ?_
          refine z_lsub hC dX2_sumUp_101 ?_
          refine z_nmL h (fun x102_11 h => ?_)
          refine z_lstore hC [(9, .long x102_11), (14, .int r76_7), (0, .ref (zAd T (4))), (1, .ref (zAd T (3))), (2, .int v2), (5, .int v5), (6, .long v6), (8, .int v8), (11, .long v11), (13, .int v13)] (by rw [hN]; decide) rfl dX2_sumUp_102 ?_
          refine z_lload hC 8 rfl dX2_sumUp_104 ?_
          refine z_aload_n hC 2 rfl rfl dX2_sumUp_106 ?_
          refine gX2_3 hC kf_X2_22 dX2_sumUp_107 ?_
          refine z_iload hC 1 rfl dX2_sumUp_110 ?_
          refine z_g h (fun g112_12 h => ?_)
          refine z_lald hC 16 ⟨by decide, by decide⟩ (zS_16 _ _ _) g112_12 (gl σ 16 r76_7.toNatClampNeg) rfl dX2_sumUp_112 ?_
          refine z_lsub hC dX2_sumUp_113 ?_
          refine z_nmL h (fun x114_13 h => ?_)
          refine z_lstore hC [(11, .long x114_13), (9, .long x102_11), (14, .int r76_7), (0, .ref (zAd T (4))), (1, .ref (zAd T (3))), (2, .int v2), (5, .int v5), (6, .long v6), (8, .int v8), (13, .int v13)] (by rw [hN]; decide) rfl dX2_sumUp_114 ?_
          refine z_aload_n hC 3 rfl rfl dX2_sumUp_116 ?_
          refine gX2_1 hC kf_X2_15 dX2_sumUp_117 ?_
          refine z_iload hC 2 rfl dX2_sumUp_120 ?_
          refine z_g h (fun g122_14 h => ?_)
          refine z_iald hC 14 ⟨by decide, by decide⟩ (zS_14 _ _ _) g122_14 (gi σ 14 r76_7.toNatClampNeg) rfl dX2_sumUp_122 ?_
          refine z_nmI h (fun x123_15 h => ?_)
          refine z_istore hC [(15, .int x123_15), (11, .long x114_13), (9, .long x102_11), (14, .int r76_7), (0, .ref (zAd T (4))), (1, .ref (zAd T (3))), (2, .int v2), (5, .int v5), (6, .long v6), (8, .int v8), (13, .int v13)] (by rw [hN]; decide) rfl dX2_sumUp_123 ?_
          refine z_aload_n hC 4 rfl rfl dX2_sumUp_125 ?_
          refine gX2_0 hC kf_X2_11 dX2_sumUp_126 ?_
          refine z_iload hC 3 rfl dX2_sumUp_129 ?_
          refine z_g h (fun g131_16 h => ?_)
          refine z_iald hC 13 ⟨by decide, by decide⟩ (zS_13 _ _ _) g131_16 (gi σ 13 r76_7.toNatClampNeg) rfl dX2_sumUp_131 ?_
          refine z_iload hC 0 rfl dX2_sumUp_132 ?_
          refine z_cS2rN hC (ctX8_middleOf hC.hm) kb_X8_middleOf (by first | exact List.mem_cons_self | exact List.mem_cons_of_mem _ List.mem_cons_self) ⟨by decide, by decide⟩ (Nat.le_of_ble_eq_true rfl) dX2_sumUp_134 ?_
          refine z_nmI h (fun x137_17 h => ?_)
          refine z_istore hC [(16, .int x137_17), (15, .int x123_15), (11, .long x114_13), (9, .long x102_11), (14, .int r76_7), (0, .ref (zAd T (4))), (1, .ref (zAd T (3))), (2, .int v2), (5, .int v5), (6, .long v6), (8, .int v8), (13, .int v13)] (by rw [hN]; decide) rfl dX2_sumUp_137 ?_
          refine z_aload_n hC 5 rfl rfl dX2_sumUp_139 ?_
          refine z_aload_n hC 6 rfl rfl dX2_sumUp_140 ?_
          refine z_iload_n hC 7 rfl rfl dX2_sumUp_141 ?_
          refine z_iload hC 4 rfl dX2_sumUp_142 ?_
          refine z_aload_n hC 5 rfl rfl dX2_sumUp_144 ?_
          refine gX2_0 hC kf_X2_11 dX2_sumUp_145 ?_
          refine z_iload hC 4 rfl dX2_sumUp_148 ?_
          refine z_g h (fun g150_18 h => ?_)
          refine z_iald hC 13 ⟨by decide, by decide⟩ (zS_13 _ _ _) g150_18 (gi σ 13 r76_7.toNatClampNeg) rfl dX2_sumUp_150 ?_
          refine z_iload hC 0 rfl dX2_sumUp_151 ?_
          refine z_b2 h (fun r153_19 s153_20 e_r153_19 h => ?_)
          refine z_cV5r hC (ctX2_sumPart hC.hm e_r153_19) (rcX2 hC) kb_X2_sumPart km_X2_29 ⟨by decide, by decide⟩ (Nat.le_of_ble_eq_true rfl) dX2_sumUp_153 ?_
          refine z_if_eq hC 180 (by decide) dX2_sumUp_156 (fun q156_21 => ?_) (fun q156_21 => ?_)
          · replace h := z_t q156_21 h
            refine z_iconst hC (0 : Int32) (by decide) dX2_sumUp_180 ?_
            refine z_sub [(0, .ref (zAd T (4))), (1, .ref (zAd T (3))), (2, .int v2), (5, .int v5), (6, .long v6), (9, .long x102_11), (11, .long x114_13), (13, .int v13), (14, .int r76_7)] [5, 6, 7, 8, 9, 3, 2, 11, 4] rfl ?_
            exact (wX2_sumUp_181 hC hN hQ K48 hK48 ) _ _ _ _ _ _ _ _ _ h
          · replace h := z_f q156_21 h
            refine z_aload_n hC 5 rfl rfl dX2_sumUp_159 ?_
            refine z_aload_n hC 6 rfl rfl dX2_sumUp_160 ?_
            refine z_iload_n hC 7 rfl rfl dX2_sumUp_161 ?_
            refine z_aload_n hC 5 rfl rfl dX2_sumUp_162 ?_
            refine gX2_4 hC kf_X2_25 (gi s153_20 4 4) rfl dX2_sumUp_163 ?_
            refine z_iload hC 0 rfl dX2_sumUp_166 ?_
            refine z_iload hC 1 rfl dX2_sumUp_168 ?_
            refine z_b2 h (fun r170_22 s170_23 e_r170_22 h => ?_)
            refine z_cV5r hC (ctX2_sumPart hC.hm e_r170_22) (rcX2 hC) kb_X2_sumPart km_X2_29 ⟨by decide, by decide⟩ (Nat.le_of_ble_eq_true rfl) dX2_sumUp_170 ?_
            refine z_if_eq hC 180 (by decide) dX2_sumUp_173 (fun q173_24 => ?_) (fun q173_24 => ?_)
            · replace h := z_t q173_24 h
              refine z_iconst hC (0 : Int32) (by decide) dX2_sumUp_180 ?_
              refine z_sub [(0, .ref (zAd T (4))), (1, .ref (zAd T (3))), (2, .int v2), (5, .int v5), (6, .long v6), (9, .long x102_11), (11, .long x114_13), (13, .int v13), (14, .int r76_7)] [5, 6, 7, 8, 9, 3, 2, 11, 4] rfl ?_
              exact (wX2_sumUp_181 hC hN hQ K48 hK48 ) _ _ _ _ _ _ _ _ _ h
            · replace h := z_f q173_24 h
              refine z_iconst hC (1 : Int32) (by decide) dX2_sumUp_176 ?_
              refine z_goto hC 181 (by decide) dX2_sumUp_177 ?_
              refine z_sub [(0, .ref (zAd T (4))), (1, .ref (zAd T (3))), (2, .int v2), (5, .int v5), (6, .long v6), (9, .long x102_11), (11, .long x114_13), (13, .int v13), (14, .int r76_7)] [5, 6, 7, 8, 9, 3, 2, 11, 4] rfl ?_
              exact (wX2_sumUp_181 hC hN hQ K48 hK48 ) _ _ _ _ _ _ _ _ _ h
        · replace h := z_t q87_9 h
          refine z_iconst hC (1 : Int32) (by decide) dX2_sumUp_90 ?_
          obtain ⟨rfl, rfl⟩ := z_pr h
          exact z_zret hC hQ dX2_sumUp_91 (by decide)
theorem wX2_sumUp_L48 {T : zX} (hC : zOk T cX2_sumUp RX2 6 186 0 61) (hN : zNL T = 17) {r : Int32} {σ' : zSt} (hQ : zRes T (some .boolean) (some (.int r)) σ') (n : Nat) : ∀ (v2 : Int32) (v5 : Int32) (v6 : Int64) (v8 : Int32) (v9 : Int64) (v11 : Int64) (v13 : Int32) (σ : zSt), fX2_sumUp_L48 n v2 v5 v6 v8 v9 v11 v13 σ = some (r, σ') → Z T σ 48 [(0, .ref (zAd T (4))), (1, .ref (zAd T (3))), (2, .int v2), (5, .int v5), (6, .long v6), (8, .int v8), (9, .long v9), (11, .long v11), (13, .int v13)] [] := by
  induction n with
  | zero => intro v2 v5 v6 v8 v9 v11 v13 σ h; cases h
  | succ n ih => intro v2 v5 v6 v8 v9 v11 v13 σ h; exact wX2_sumUp_48 hC hN hQ (fX2_sumUp_L48 n) ih v2 v5 v6 v8 v9 v11 v13 σ h
set_option maxRecDepth 100000 in
set_option maxHeartbeats 4000000 in
theorem wX2_sumUp_0 {T : zX} (hC : zOk T cX2_sumUp RX2 6 186 0 61) (hN : zNL T = 17) {r : Int32} {σ' : zSt} (hQ : zRes T (some .boolean) (some (.int r)) σ') (a2 : Int32) (a3 : Int32) (a4 : Int32) (a5 : Int32) (a6 : Int64)  (σ : zSt) (h : fX2_sumUp_0 a2 a3 a4 a5 a6 σ = some (r, σ')) : Z T σ 0 [(0, .ref (zAd T (4))), (1, .ref (zAd T (3))), (2, .int a2), (3, .int a3), (4, .int a4), (5, .int a5), (6, .long a6)] [] := by
  unfold fX2_sumUp_0 at h
  refine z_aload_n hC 0 rfl rfl dX2_sumUp_0 ?_
  refine z_iconst hC (1 : Int32) (by decide) dX2_sumUp_1 ?_
  refine pX2_4 hC kf_X2_25 dX2_sumUp_2 ?_
  refine z_aload_n hC 0 rfl rfl dX2_sumUp_5 ?_
  refine z_aload_n hC 1 rfl rfl dX2_sumUp_6 ?_
  refine z_iload_n hC 2 rfl rfl dX2_sumUp_7 ?_
  refine z_iconst hC (0 : Int32) (by decide) dX2_sumUp_8 ?_
  refine z_iload_n hC 3 rfl rfl dX2_sumUp_9 ?_
  refine z_iload hC 4 rfl dX2_sumUp_10 ?_
  refine z_b2 h (fun r12_1 s12_2 e_r12_1 h => ?_)
  refine z_cV5r hC (ctX2_sumPart hC.hm e_r12_1) (rcX2 hC) kb_X2_sumPart km_X2_29 ⟨by decide, by decide⟩ (Nat.le_of_ble_eq_true rfl) dX2_sumUp_12 ?_
  refine z_istore hC [(8, .int r12_1), (0, .ref (zAd T (4))), (1, .ref (zAd T (3))), (2, .int a2), (3, .int a3), (4, .int a4), (5, .int a5), (6, .long a6)] (by rw [hN]; decide) rfl dX2_sumUp_15 ?_
  refine z_aload_n hC 1 rfl rfl dX2_sumUp_17 ?_
  refine gX2_2 hC kf_X2_18 dX2_sumUp_18 ?_
  refine z_iconst hC (0 : Int32) (by decide) dX2_sumUp_21 ?_
  refine z_lald hC 15 ⟨by decide, by decide⟩ (zS_15 _ _ _) (by unfold vp_in; decide) (gl s12_2 15 (0 : Int32).toNatClampNeg) rfl dX2_sumUp_22 ?_
  refine z_nmL h (fun x23_3 h => ?_)
  refine z_lstore hC [(9, .long x23_3), (8, .int r12_1), (0, .ref (zAd T (4))), (1, .ref (zAd T (3))), (2, .int a2), (3, .int a3), (4, .int a4), (5, .int a5), (6, .long a6)] (by rw [hN]; decide) rfl dX2_sumUp_23 ?_
  refine z_aload_n hC 2 rfl rfl dX2_sumUp_25 ?_
  refine gX2_3 hC kf_X2_22 dX2_sumUp_26 ?_
  refine z_iconst hC (0 : Int32) (by decide) dX2_sumUp_29 ?_
  refine z_lald hC 16 ⟨by decide, by decide⟩ (zS_16 _ _ _) (by unfold vp_in; decide) (gl s12_2 16 (0 : Int32).toNatClampNeg) rfl dX2_sumUp_30 ?_
  refine z_nmL h (fun x31_4 h => ?_)
  refine z_lstore hC [(11, .long x31_4), (9, .long x23_3), (8, .int r12_1), (0, .ref (zAd T (4))), (1, .ref (zAd T (3))), (2, .int a2), (3, .int a3), (4, .int a4), (5, .int a5), (6, .long a6)] (by rw [hN]; decide) rfl dX2_sumUp_31 ?_
  refine z_aload_n hC 3 rfl rfl dX2_sumUp_33 ?_
  refine z_lload hC 1 rfl dX2_sumUp_34 ?_
  refine pX2_5 hC kf_X2_33 dX2_sumUp_36 ?_
  refine z_aload_n hC 3 rfl rfl dX2_sumUp_39 ?_
  refine z_lload hC 0 rfl dX2_sumUp_40 ?_
  refine pX2_6 hC kf_X2_37 dX2_sumUp_42 ?_
  refine z_iconst hC (0 : Int32) (by decide) dX2_sumUp_45 ?_
  refine z_istore hC [(13, .int (0 : Int32)), (11, .long x31_4), (9, .long x23_3), (8, .int r12_1), (0, .ref (zAd T (4))), (1, .ref (zAd T (3))), (2, .int a2), (3, .int a3), (4, .int a4), (5, .int a5), (6, .long a6)] (by rw [hN]; decide) rfl dX2_sumUp_46 ?_
  refine z_sub [(0, .ref (zAd T (4))), (1, .ref (zAd T (3))), (2, .int a2), (5, .int a5), (6, .long a6), (8, .int r12_1), (9, .long x23_3), (11, .long x31_4), (13, .int (0 : Int32))] [4, 5, 6, 9, 10, 3, 2, 1, 0] rfl ?_
  exact (wX2_sumUp_L48 hC hN hQ zFU) _ _ _ _ _ _ _ _ h
set_option maxRecDepth 100000 in
theorem ctX2_sumUp {l : Launch} {G : zGt} {mk : zSt → zSt} (hm : zM mk 0 61) {a2 : Int32} {a3 : Int32} {a4 : Int32} {a5 : Int32} {a6 : Int64} {σ : zSt} {r : Int32} {σ' : zSt} (h : fX2_sumUp a2 a3 a4 a5 a6 σ = some (r, σ')) : zMet l G mk yX2_sumUp cX2_sumUp 17 (some .boolean) 6 186 [.ref (gA G (4)), .ref (gA G (3)), .int a2, .int a3, .int a4, .int a5, .long a6] σ (some (.int r)) σ' := by
  unfold fX2_sumUp at h

  refine zMet.of (plainFor_of_name (by decide +kernel)) hm (Nat.le_of_ble_eq_true rfl) (fun T eL eG eM hN hC hQ => ?_)
  subst eL; subst eG; subst eM
  refine z_sub [(0, .ref (zAd T (4))), (1, .ref (zAd T (3))), (2, .int a2), (3, .int a3), (4, .int a4), (5, .int a5), (6, .long a6)] [0, 1, 2, 3, 4, 5, 6] rfl ?_
  exact wX2_sumUp_0 hC hN hQ _ _ _ _ _  _ h
noncomputable def fX2_sinkPart_52 (v3 : Int32) (v4 : Int32) (v5 : Int32) (v8 : Int64) (v10 : Int64) (σ : zSt) : Option (Int32 × zSt) := 
    (if (fX5_isHole v8 v10) = 0 then bd1 (fX2_keep v3 v4 v5 (fX5_lowOf v8) (fX5_highOf v10) σ) fun s80_2 => some ((1 : Int32), s80_2)
    else some ((0 : Int32), σ))
noncomputable def fX2_sinkPart_0 (a2 : Int32) (a3 : Int32) (a4 : Int32) (a5 : Int32) (a6 : Int32) (σ : zSt) : Option (Int32 × zSt) := nm (fX8_middleOf a4 a5) fun x7_1 => bd2 (fX1_measure a2 a4 a5 (0 : Int32) σ) fun r16_2 s16_3 => bd2 (fX1_measure a2 x7_1 x7_1 (0 : Int32) s16_3) fun r28_4 s28_5 => 
    (if a6 = 0 then fX2_sinkPart_52 a3 a4 a5 r16_2 r28_4 s28_5
    else nm (fX5_turned r16_2) fun x43_7 => nm (fX5_turned r28_4) fun x50_8 => fX2_sinkPart_52 a3 a4 a5 x43_7 x50_8 s28_5)
noncomputable def fX2_sinkPart (a2 : Int32) (a3 : Int32) (a4 : Int32) (a5 : Int32) (a6 : Int32) (σ : zSt) : Option (Int32 × zSt) := fX2_sinkPart_0 a2 a3 a4 a5 a6 σ
set_option maxRecDepth 100000 in
set_option maxHeartbeats 4000000 in
theorem wX2_sinkPart_52 {T : zX} (hC : zOk T cX2_sinkPart RX2 5 147 0 61) (hN : zNL T = 12) {r : Int32} {σ' : zSt} (hQ : zRes T (some .boolean) (some (.int r)) σ') (v3 : Int32) (v4 : Int32) (v5 : Int32) (v8 : Int64) (v10 : Int64)  (σ : zSt) (h : fX2_sinkPart_52 v3 v4 v5 v8 v10 σ = some (r, σ')) : Z T σ 52 [(0, .ref (zAd T (4))), (3, .int v3), (4, .int v4), (5, .int v5), (8, .long v8), (10, .long v10)] [] := by
  unfold fX2_sinkPart_52 at h
  refine z_lload hC 4 rfl dX2_sinkPart_52 ?_
  refine z_lload hC 5 rfl dX2_sinkPart_54 ?_
  refine z_cS2r hC (ctX5_isHole hC.hm) kb_X5_isHole km_X2_97 ⟨by decide, by decide⟩ (Nat.le_of_ble_eq_true rfl) dX2_sinkPart_56 ?_
  refine z_if_eq hC 64 (by decide) dX2_sinkPart_59 (fun q59_1 => ?_) (fun q59_1 => ?_)
  · replace h := z_t q59_1 h
    refine z_aload_n hC 0 rfl rfl dX2_sinkPart_64 ?_
    refine z_iload_n hC 1 rfl rfl dX2_sinkPart_65 ?_
    refine z_iload hC 2 rfl dX2_sinkPart_66 ?_
    refine z_iload hC 3 rfl dX2_sinkPart_68 ?_
    refine z_lload hC 4 rfl dX2_sinkPart_70 ?_
    refine z_cS1r hC (ctX5_lowOf hC.hm) kb_X5_lowOf km_X2_74 ⟨by decide, by decide⟩ (Nat.le_of_ble_eq_true rfl) dX2_sinkPart_72 ?_
    refine z_lload hC 5 rfl dX2_sinkPart_75 ?_
    refine z_cS1r hC (ctX5_highOf hC.hm) kb_X5_highOf km_X2_78 ⟨by decide, by decide⟩ (Nat.le_of_ble_eq_true rfl) dX2_sinkPart_77 ?_
    refine z_b1 h (fun s80_2 e_s80_2 h => ?_)
    refine z_cV5v hC (ctX2_keep hC.hm e_s80_2) (rcX2 hC) kb_X2_keep km_X2_83 ⟨by decide, by decide⟩ (Nat.le_of_ble_eq_true rfl) dX2_sinkPart_80 ?_
    refine z_iconst hC (1 : Int32) (by decide) dX2_sinkPart_83 ?_
    obtain ⟨rfl, rfl⟩ := z_pr h
    exact z_zret hC hQ dX2_sinkPart_84 (by decide)
  · replace h := z_f q59_1 h
    refine z_iconst hC (0 : Int32) (by decide) dX2_sinkPart_62 ?_
    obtain ⟨rfl, rfl⟩ := z_pr h
    exact z_zret hC hQ dX2_sinkPart_63 (by decide)
set_option maxRecDepth 100000 in
set_option maxHeartbeats 4000000 in
theorem wX2_sinkPart_0 {T : zX} (hC : zOk T cX2_sinkPart RX2 5 147 0 61) (hN : zNL T = 12) {r : Int32} {σ' : zSt} (hQ : zRes T (some .boolean) (some (.int r)) σ') (a2 : Int32) (a3 : Int32) (a4 : Int32) (a5 : Int32) (a6 : Int32)  (σ : zSt) (h : fX2_sinkPart_0 a2 a3 a4 a5 a6 σ = some (r, σ')) : Z T σ 0 [(0, .ref (zAd T (4))), (1, .ref (zAd T (3))), (2, .int a2), (3, .int a3), (4, .int a4), (5, .int a5), (6, .int a6)] [] := by
  unfold fX2_sinkPart_0 at h
  refine z_iload hC 4 rfl dX2_sinkPart_0 ?_
  refine z_iload hC 5 rfl dX2_sinkPart_2 ?_
  refine z_cS2rN hC (ctX8_middleOf hC.hm) kb_X8_middleOf (by first | exact List.mem_cons_self | exact List.mem_cons_of_mem _ List.mem_cons_self) ⟨by decide, by decide⟩ (Nat.le_of_ble_eq_true rfl) dX2_sinkPart_4 ?_
  refine z_nmI h (fun x7_1 h => ?_)
  refine z_istore hC [(7, .int x7_1), (0, .ref (zAd T (4))), (1, .ref (zAd T (3))), (2, .int a2), (3, .int a3), (4, .int a4), (5, .int a5), (6, .int a6)] (by rw [hN]; decide) rfl dX2_sinkPart_7 ?_
  refine z_aload_n hC 2 rfl rfl dX2_sinkPart_9 ?_
  refine z_iload_n hC 3 rfl rfl dX2_sinkPart_10 ?_
  refine z_iload hC 5 rfl dX2_sinkPart_11 ?_
  refine z_iload hC 6 rfl dX2_sinkPart_13 ?_
  refine z_iconst hC (0 : Int32) (by decide) dX2_sinkPart_15 ?_
  refine z_b2 h (fun r16_2 s16_3 e_r16_2 h => ?_)
  refine z_cV4r hC (ctX1_measure hC.hm e_r16_2) (rcX1 hC) kb_X1_measure km_X2_61 ⟨by decide, by decide⟩ (Nat.le_of_ble_eq_true rfl) dX2_sinkPart_16 ?_
  refine z_lstore hC [(8, .long r16_2), (7, .int x7_1), (0, .ref (zAd T (4))), (1, .ref (zAd T (3))), (2, .int a2), (3, .int a3), (4, .int a4), (5, .int a5), (6, .int a6)] (by rw [hN]; decide) rfl dX2_sinkPart_19 ?_
  refine z_aload_n hC 3 rfl rfl dX2_sinkPart_21 ?_
  refine z_iload_n hC 4 rfl rfl dX2_sinkPart_22 ?_
  refine z_iload hC 1 rfl dX2_sinkPart_23 ?_
  refine z_iload hC 1 rfl dX2_sinkPart_25 ?_
  refine z_iconst hC (0 : Int32) (by decide) dX2_sinkPart_27 ?_
  refine z_b2 h (fun r28_4 s28_5 e_r28_4 h => ?_)
  refine z_cV4r hC (ctX1_measure hC.hm e_r28_4) (rcX1 hC) kb_X1_measure km_X2_61 ⟨by decide, by decide⟩ (Nat.le_of_ble_eq_true rfl) dX2_sinkPart_28 ?_
  refine z_lstore hC [(10, .long r28_4), (8, .long r16_2), (7, .int x7_1), (0, .ref (zAd T (4))), (1, .ref (zAd T (3))), (2, .int a2), (3, .int a3), (4, .int a4), (5, .int a5), (6, .int a6)] (by rw [hN]; decide) rfl dX2_sinkPart_31 ?_
  refine z_iload hC 9 rfl dX2_sinkPart_33 ?_
  refine z_if_eq hC 52 (by decide) dX2_sinkPart_35 (fun q35_6 => ?_) (fun q35_6 => ?_)
  · replace h := z_t q35_6 h
    refine z_sub [(0, .ref (zAd T (4))), (3, .int a3), (4, .int a4), (5, .int a5), (8, .long r16_2), (10, .long r28_4)] [3, 6, 7, 8, 1, 0] rfl ?_
    exact (wX2_sinkPart_52 hC hN hQ ) _ _ _ _ _ _ h
  · replace h := z_f q35_6 h
    refine z_lload hC 1 rfl dX2_sinkPart_38 ?_
    refine z_cS1r hC (ctX5_turned hC.hm) kb_X5_turned km_X2_94 ⟨by decide, by decide⟩ (Nat.le_of_ble_eq_true rfl) dX2_sinkPart_40 ?_
    refine z_nmL h (fun x43_7 h => ?_)
    refine z_lstore hC [(8, .long x43_7), (10, .long r28_4), (7, .int x7_1), (0, .ref (zAd T (4))), (1, .ref (zAd T (3))), (2, .int a2), (3, .int a3), (4, .int a4), (5, .int a5), (6, .int a6)] (by rw [hN]; decide) rfl dX2_sinkPart_43 ?_
    refine z_lload hC 1 rfl dX2_sinkPart_45 ?_
    refine z_cS1r hC (ctX5_turned hC.hm) kb_X5_turned km_X2_94 ⟨by decide, by decide⟩ (Nat.le_of_ble_eq_true rfl) dX2_sinkPart_47 ?_
    refine z_nmL h (fun x50_8 h => ?_)
    refine z_lstore hC [(10, .long x50_8), (8, .long x43_7), (7, .int x7_1), (0, .ref (zAd T (4))), (1, .ref (zAd T (3))), (2, .int a2), (3, .int a3), (4, .int a4), (5, .int a5), (6, .int a6)] (by rw [hN]; decide) rfl dX2_sinkPart_50 ?_
    refine z_sub [(0, .ref (zAd T (4))), (3, .int a3), (4, .int a4), (5, .int a5), (8, .long x43_7), (10, .long x50_8)] [3, 6, 7, 8, 1, 0] rfl ?_
    exact (wX2_sinkPart_52 hC hN hQ ) _ _ _ _ _ _ h
set_option maxRecDepth 100000 in
theorem ctX2_sinkPart {l : Launch} {G : zGt} {mk : zSt → zSt} (hm : zM mk 0 61) {a2 : Int32} {a3 : Int32} {a4 : Int32} {a5 : Int32} {a6 : Int32} {σ : zSt} {r : Int32} {σ' : zSt} (h : fX2_sinkPart a2 a3 a4 a5 a6 σ = some (r, σ')) : zMet l G mk yX2_sinkPart cX2_sinkPart 12 (some .boolean) 5 147 [.ref (gA G (4)), .ref (gA G (3)), .int a2, .int a3, .int a4, .int a5, .int a6] σ (some (.int r)) σ' := by
  unfold fX2_sinkPart at h

  refine zMet.of (plainFor_of_name (by decide +kernel)) hm (Nat.le_of_ble_eq_true rfl) (fun T eL eG eM hN hC hQ => ?_)
  subst eL; subst eG; subst eM
  refine z_sub [(0, .ref (zAd T (4))), (1, .ref (zAd T (3))), (2, .int a2), (3, .int a3), (4, .int a4), (5, .int a5), (6, .int a6)] [0, 1, 2, 3, 4, 5, 6] rfl ?_
  exact wX2_sinkPart_0 hC hN hQ _ _ _ _ _  _ h
noncomputable def fX2_deepest_4 (K4 : Int32 → Int32 → zSt → Option Int32) (v1 : Int32) (v2 : Int32) (σ : zSt) : Option Int32 := 
    (if (gi σ 4 4) ≤ v2 then some v1
    else 
      (if (201 : Int32) ≤ v2 then some v1
      else zg (vp_in v2 201) <| zg (vp_in v1 201) <| 
        (if (gl σ 15 v2.toNatClampNeg) < (gl σ 15 v1.toNatClampNeg) then nm (v2 + (1 : Int32)) fun x68_6 => K4 v2 x68_6 σ
        else zg (vp_in v2 201) <| zg (vp_in v1 201) <| 
          (if (gl σ 15 v2.toNatClampNeg) = (gl σ 15 v1.toNatClampNeg) then zg (vp_in v2 201) <| zg (vp_in v1 201) <| 
            (if (gi σ 13 v1.toNatClampNeg) ≤ (gi σ 13 v2.toNatClampNeg) then nm (v2 + (1 : Int32)) fun x68_14 => K4 v1 x68_14 σ
            else nm (v2 + (1 : Int32)) fun x68_15 => K4 v2 x68_15 σ)
          else nm (v2 + (1 : Int32)) fun x68_10 => K4 v1 x68_10 σ))))
noncomputable def fX2_deepest_L4 : Nat → Int32 → Int32 → zSt → Option Int32
  | 0, _, _, _ => none
  | n + 1, v1, v2, σ => fX2_deepest_4 (fX2_deepest_L4 n) v1 v2 σ
noncomputable def fX2_deepest_0  (σ : zSt) : Option Int32 := fX2_deepest_L4 zFU (0 : Int32) (1 : Int32) σ
noncomputable def fX2_deepest  (σ : zSt) : Option Int32 := fX2_deepest_0  σ
set_option maxRecDepth 100000 in
set_option maxHeartbeats 4000000 in
theorem wX2_deepest_4 {T : zX} {σ : zSt} (hC : zOk T cX2_deepest RX2 0 0 0 61) (hN : zNL T = 3) {r : Int32} (hQ : zRes T (some .int) (some (.int r)) σ) (K4 : Int32 → Int32 → zSt → Option Int32) (hK4 : ∀ (v1 : Int32) (v2 : Int32), K4 v1 v2 σ = some r → Z T σ 4 [(0, .ref (zAd T (4))), (1, .int v1), (2, .int v2)] []) (v1 : Int32) (v2 : Int32)  (h : fX2_deepest_4 K4 v1 v2 σ = some r) : Z T σ 4 [(0, .ref (zAd T (4))), (1, .int v1), (2, .int v2)] [] := by
  unfold fX2_deepest_4 at h
  refine z_iload_n hC 2 rfl rfl dX2_deepest_4 ?_
  refine z_aload_n hC 0 rfl rfl dX2_deepest_5 ?_
  refine gX2_4 hC kf_X2_25 (gi σ 4 4) rfl dX2_deepest_6 ?_
  refine z_icmp_ge hC 74 (by decide) dX2_deepest_9 (fun q9_1 => ?_) (fun q9_1 => ?_)
  · replace h := z_t q9_1 h
    refine z_iload_n hC 1 rfl rfl dX2_deepest_74 ?_
    obtain rfl := z_so h
    exact z_iret hC hQ dX2_deepest_75
  · replace h := z_f q9_1 h
    refine z_iload_n hC 2 rfl rfl dX2_deepest_12 ?_
    refine z_sipush hC (201 : Int32) (by decide) dX2_deepest_13 ?_
    refine z_icmp_ge hC 74 (by decide) dX2_deepest_16 (fun q16_2 => ?_) (fun q16_2 => ?_)
    · replace h := z_t q16_2 h
      refine z_iload_n hC 1 rfl rfl dX2_deepest_74 ?_
      obtain rfl := z_so h
      exact z_iret hC hQ dX2_deepest_75
    · replace h := z_f q16_2 h
      refine z_aload_n hC 0 rfl rfl dX2_deepest_19 ?_
      refine gX2_2 hC kf_X2_18 dX2_deepest_20 ?_
      refine z_iload_n hC 2 rfl rfl dX2_deepest_23 ?_
      refine z_g h (fun g24_3 h => ?_)
      refine z_lald hC 15 ⟨by decide, by decide⟩ (zS_15 _ _ _) g24_3 (gl σ 15 v2.toNatClampNeg) rfl dX2_deepest_24 ?_
      refine z_aload_n hC 0 rfl rfl dX2_deepest_25 ?_
      refine gX2_2 hC kf_X2_18 dX2_deepest_26 ?_
      refine z_iload_n hC 1 rfl rfl dX2_deepest_29 ?_
      refine z_g h (fun g30_4 h => ?_)
      refine z_lald hC 15 ⟨by decide, by decide⟩ (zS_15 _ _ _) g30_4 (gl σ 15 v1.toNatClampNeg) rfl dX2_deepest_30 ?_
      refine z_cmp_lt hC 66 (by decide) dX2_deepest_31 dX2_deepest_32 (fun q31_5 => ?_) (fun q31_5 => ?_)
      · replace h := z_t q31_5 h
        refine z_iload_n hC 2 rfl rfl dX2_deepest_66 ?_
        refine z_istore_n hC [(1, .int v2), (0, .ref (zAd T (4))), (2, .int v2)] rfl (by rw [hN]; decide) rfl dX2_deepest_67 ?_
        refine z_nmE h (fun x68_6 e_x68_6 h => ?_)
        refine z_iinc hC x68_6 [(2, .int x68_6), (1, .int v2), (0, .ref (zAd T (4)))] 2 rfl (by rw [e_x68_6]; rfl) (by rw [hN]; decide) rfl dX2_deepest_68 ?_
        refine z_goto hC 4 (by decide) dX2_deepest_71 ?_
        refine z_sub [(0, .ref (zAd T (4))), (1, .int v2), (2, .int x68_6)] [2, 1, 0] rfl ?_
        exact hK4 _ _ h
      · replace h := z_f q31_5 h
        refine z_aload_n hC 0 rfl rfl dX2_deepest_35 ?_
        refine gX2_2 hC kf_X2_18 dX2_deepest_36 ?_
        refine z_iload_n hC 2 rfl rfl dX2_deepest_39 ?_
        refine z_g h (fun g40_7 h => ?_)
        refine z_lald hC 15 ⟨by decide, by decide⟩ (zS_15 _ _ _) g40_7 (gl σ 15 v2.toNatClampNeg) rfl dX2_deepest_40 ?_
        refine z_aload_n hC 0 rfl rfl dX2_deepest_41 ?_
        refine gX2_2 hC kf_X2_18 dX2_deepest_42 ?_
        refine z_iload_n hC 1 rfl rfl dX2_deepest_45 ?_
        refine z_g h (fun g46_8 h => ?_)
        refine z_lald hC 15 ⟨by decide, by decide⟩ (zS_15 _ _ _) g46_8 (gl σ 15 v1.toNatClampNeg) rfl dX2_deepest_46 ?_
        refine z_cmp_ne hC 68 (by decide) dX2_deepest_47 dX2_deepest_48 (fun q47_9 => ?_) (fun q47_9 => ?_)
        · replace h := z_f q47_9 h
          refine z_nmE h (fun x68_10 e_x68_10 h => ?_)
          refine z_iinc hC x68_10 [(2, .int x68_10), (0, .ref (zAd T (4))), (1, .int v1)] 2 rfl (by rw [e_x68_10]; rfl) (by rw [hN]; decide) rfl dX2_deepest_68 ?_
          refine z_goto hC 4 (by decide) dX2_deepest_71 ?_
          refine z_sub [(0, .ref (zAd T (4))), (1, .int v1), (2, .int x68_10)] [1, 2, 0] rfl ?_
          exact hK4 _ _ h
        · replace h := z_t q47_9 h
          refine z_aload_n hC 0 rfl rfl dX2_deepest_51 ?_
          refine gX2_0 hC kf_X2_11 dX2_deepest_52 ?_
          refine z_iload_n hC 2 rfl rfl dX2_deepest_55 ?_
          refine z_g h (fun g56_11 h => ?_)
          refine z_iald hC 13 ⟨by decide, by decide⟩ (zS_13 _ _ _) g56_11 (gi σ 13 v2.toNatClampNeg) rfl dX2_deepest_56 ?_
          refine z_aload_n hC 0 rfl rfl dX2_deepest_57 ?_
          refine gX2_0 hC kf_X2_11 dX2_deepest_58 ?_
          refine z_iload_n hC 1 rfl rfl dX2_deepest_61 ?_
          refine z_g h (fun g62_12 h => ?_)
          refine z_iald hC 13 ⟨by decide, by decide⟩ (zS_13 _ _ _) g62_12 (gi σ 13 v1.toNatClampNeg) rfl dX2_deepest_62 ?_
          refine z_icmp_ge hC 68 (by decide) dX2_deepest_63 (fun q63_13 => ?_) (fun q63_13 => ?_)
          · replace h := z_t q63_13 h
            refine z_nmE h (fun x68_14 e_x68_14 h => ?_)
            refine z_iinc hC x68_14 [(2, .int x68_14), (0, .ref (zAd T (4))), (1, .int v1)] 2 rfl (by rw [e_x68_14]; rfl) (by rw [hN]; decide) rfl dX2_deepest_68 ?_
            refine z_goto hC 4 (by decide) dX2_deepest_71 ?_
            refine z_sub [(0, .ref (zAd T (4))), (1, .int v1), (2, .int x68_14)] [1, 2, 0] rfl ?_
            exact hK4 _ _ h
          · replace h := z_f q63_13 h
            refine z_iload_n hC 2 rfl rfl dX2_deepest_66 ?_
            refine z_istore_n hC [(1, .int v2), (0, .ref (zAd T (4))), (2, .int v2)] rfl (by rw [hN]; decide) rfl dX2_deepest_67 ?_
            refine z_nmE h (fun x68_15 e_x68_15 h => ?_)
            refine z_iinc hC x68_15 [(2, .int x68_15), (1, .int v2), (0, .ref (zAd T (4)))] 2 rfl (by rw [e_x68_15]; rfl) (by rw [hN]; decide) rfl dX2_deepest_68 ?_
            refine z_goto hC 4 (by decide) dX2_deepest_71 ?_
            refine z_sub [(0, .ref (zAd T (4))), (1, .int v2), (2, .int x68_15)] [2, 1, 0] rfl ?_
            exact hK4 _ _ h
theorem wX2_deepest_L4 {T : zX} {σ : zSt} (hC : zOk T cX2_deepest RX2 0 0 0 61) (hN : zNL T = 3) {r : Int32} (hQ : zRes T (some .int) (some (.int r)) σ) (n : Nat) : ∀ (v1 : Int32) (v2 : Int32), fX2_deepest_L4 n v1 v2 σ = some r → Z T σ 4 [(0, .ref (zAd T (4))), (1, .int v1), (2, .int v2)] [] := by
  induction n with
  | zero => intro v1 v2 h; cases h
  | succ n ih => intro v1 v2 h; exact wX2_deepest_4 hC hN hQ (fX2_deepest_L4 n) ih v1 v2 h
set_option maxRecDepth 100000 in
set_option maxHeartbeats 4000000 in
theorem wX2_deepest_0 {T : zX} {σ : zSt} (hC : zOk T cX2_deepest RX2 0 0 0 61) (hN : zNL T = 3) {r : Int32} (hQ : zRes T (some .int) (some (.int r)) σ)   (h : fX2_deepest_0  σ = some r) : Z T σ 0 [(0, .ref (zAd T (4)))] [] := by
  unfold fX2_deepest_0 at h
  refine z_iconst hC (0 : Int32) (by decide) dX2_deepest_0 ?_
  refine z_istore_n hC [(1, .int (0 : Int32)), (0, .ref (zAd T (4)))] rfl (by rw [hN]; decide) rfl dX2_deepest_1 ?_
  refine z_iconst hC (1 : Int32) (by decide) dX2_deepest_2 ?_
  refine z_istore_n hC [(2, .int (1 : Int32)), (1, .int (0 : Int32)), (0, .ref (zAd T (4)))] rfl (by rw [hN]; decide) rfl dX2_deepest_3 ?_
  refine z_sub [(0, .ref (zAd T (4))), (1, .int (0 : Int32)), (2, .int (1 : Int32))] [2, 1, 0] rfl ?_
  exact (wX2_deepest_L4 hC hN hQ zFU) _ _ h
set_option maxRecDepth 100000 in
theorem ctX2_deepest {l : Launch} {G : zGt} {mk : zSt → zSt} (hm : zM mk 0 61)  {σ : zSt} {r : Int32} (h : fX2_deepest  σ = some r) : zMet l G mk yX2_deepest cX2_deepest 3 (some .int) 0 0 [.ref (gA G (4))] σ (some (.int r)) σ := by
  unfold fX2_deepest at h

  refine zMet.of (plainFor_of_name (by decide +kernel)) hm (Nat.le_of_ble_eq_true rfl) (fun T eL eG eM hN hC hQ => ?_)
  subst eL; subst eG; subst eM
  refine z_sub [(0, .ref (zAd T (4)))] [0] rfl ?_
  exact wX2_deepest_0 hC hN hQ   h
noncomputable def fX2_seekLeast_162 (K162 : Int32 → Int32 → zSt → Option (Int32 × zSt)) (v7 : Int32) (v8 : Int32) (σ : zSt) : Option (Int32 × zSt) := 
    (if (gi σ 4 4) ≤ v8 then zg (narrow .boolean (.int v7) = .int v7) <| some (v7, σ)
    else 
      (if (201 : Int32) ≤ v8 then zg (narrow .boolean (.int v7) = .int v7) <| some (v7, σ)
      else zg (vp_in v8 201) <| nm (if (gl σ 15 v8.toNatClampNeg) < (gl σ 4 5) then (gl σ 15 v8.toNatClampNeg) else (gl σ 4 5)) fun x191_6 => zg (vp_in v8 201) <| nm (if (gl σ 16 v8.toNatClampNeg) < (gl σ 4 6) then (gl σ 16 v8.toNatClampNeg) else (gl σ 4 6)) fun x209_8 => nm (v8 + (1 : Int32)) fun x215_9 => K162 v7 x215_9 (sl (sl σ 4 5 x191_6) 4 6 x209_8)))
noncomputable def fX2_seekLeast_L162 : Nat → Int32 → Int32 → zSt → Option (Int32 × zSt)
  | 0, _, _, _ => none
  | n + 1, v7, v8, σ => fX2_seekLeast_162 (fX2_seekLeast_L162 n) v7 v8 σ
noncomputable def fX2_seekLeast_139 (v7 : Int32) (σ : zSt) : Option (Int32 × zSt) := nm (gl σ 15 (0 : Int32).toNatClampNeg) fun x146_1 => nm (gl σ 16 (0 : Int32).toNatClampNeg) fun x156_2 => fX2_seekLeast_L162 zFU v7 (1 : Int32) (sl (sl σ 4 5 x146_1) 4 6 x156_2)
noncomputable def fX2_seekLeast_22 (K22 : Int32 → Int32 → Int32 → Int32 → Int32 → zSt → Option (Int32 × zSt)) (v2 : Int32) (v5 : Int32) (v6 : Int32) (v7 : Int32) (v8 : Int32) (σ : zSt) : Option (Int32 × zSt) := 
    (if v5 ≤ v8 then fX2_seekLeast_139 v7 σ
    else 
      (if v7 = 0 then fX2_seekLeast_139 v7 σ
      else bd1 (fX2_deepest σ) fun r35_3 => bd1 (fX2_canHalve r35_3 σ) fun r43_4 => 
        (if r43_4 = 0 then fX2_seekLeast_139 v7 σ
        else zg (vp_in r35_3 201) <| nm (gi σ 14 r35_3.toNatClampNeg) fun x59_7 => zg (vp_in r35_3 201) <| nm (fX8_middleOf (gi σ 13 r35_3.toNatClampNeg) x59_7) fun x73_9 => zg (vp_in r35_3 201) <| bd2 (fX2_sinkPart v2 r35_3 (gi σ 13 r35_3.toNatClampNeg) x73_9 v6 σ) fun r91_11 s91_12 => 
          (if r91_11 = 0 then nm ((gi s91_12 4 4) + (1 : Int32)) fun x130_14 => nm (v8 + (1 : Int32)) fun x133_15 => K22 v2 v5 v6 (0 : Int32) x133_15 (si s91_12 4 4 x130_14)
          else bd2 (fX2_sinkPart v2 (gi s91_12 4 4) x73_9 x59_7 v6 s91_12) fun r110_16 s110_17 => 
            (if r110_16 = 0 then nm ((gi s110_17 4 4) + (1 : Int32)) fun x130_19 => nm (v8 + (1 : Int32)) fun x133_20 => K22 v2 v5 v6 (0 : Int32) x133_20 (si s110_17 4 4 x130_19)
            else nm ((gi s110_17 4 4) + (1 : Int32)) fun x130_21 => nm (v8 + (1 : Int32)) fun x133_22 => K22 v2 v5 v6 (1 : Int32) x133_22 (si s110_17 4 4 x130_21))))))
noncomputable def fX2_seekLeast_L22 : Nat → Int32 → Int32 → Int32 → Int32 → Int32 → zSt → Option (Int32 × zSt)
  | 0, _, _, _, _, _, _ => none
  | n + 1, v2, v5, v6, v7, v8, σ => fX2_seekLeast_22 (fX2_seekLeast_L22 n) v2 v5 v6 v7 v8 σ
noncomputable def fX2_seekLeast_0 (a2 : Int32) (a3 : Int32) (a4 : Int32) (a5 : Int32) (a6 : Int32) (σ : zSt) : Option (Int32 × zSt) := bd2 (fX2_sinkPart a2 (0 : Int32) a3 a4 a6 (si σ 4 4 (1 : Int32))) fun r14_1 s14_2 => fX2_seekLeast_L22 zFU a2 a5 a6 r14_1 (0 : Int32) s14_2
noncomputable def fX2_seekLeast (a2 : Int32) (a3 : Int32) (a4 : Int32) (a5 : Int32) (a6 : Int32) (σ : zSt) : Option (Int32 × zSt) := fX2_seekLeast_0 a2 a3 a4 a5 a6 σ
set_option maxRecDepth 100000 in
set_option maxHeartbeats 4000000 in
theorem wX2_seekLeast_162 {T : zX} (hC : zOk T cX2_seekLeast RX2 6 178 0 61) (hN : zNL T = 12) {r : Int32} {σ' : zSt} (hQ : zRes T (some .boolean) (some (.int r)) σ') (K162 : Int32 → Int32 → zSt → Option (Int32 × zSt)) (hK162 : ∀ (v7 : Int32) (v8 : Int32) (τ : zSt), K162 v7 v8 τ = some (r, σ') → Z T τ 162 [(0, .ref (zAd T (4))), (7, .int v7), (8, .int v8)] []) (v7 : Int32) (v8 : Int32)  (σ : zSt) (h : fX2_seekLeast_162 K162 v7 v8 σ = some (r, σ')) : Z T σ 162 [(0, .ref (zAd T (4))), (7, .int v7), (8, .int v8)] [] := by
  unfold fX2_seekLeast_162 at h
  refine z_iload hC 2 rfl dX2_seekLeast_162 ?_
  refine z_aload_n hC 0 rfl rfl dX2_seekLeast_164 ?_
  refine gX2_4 hC kf_X2_25 (gi σ 4 4) rfl dX2_seekLeast_165 ?_
  refine z_icmp_ge hC 221 (by decide) dX2_seekLeast_168 (fun q168_1 => ?_) (fun q168_1 => ?_)
  · replace h := z_t q168_1 h
    refine z_iload hC 1 rfl dX2_seekLeast_221 ?_
    refine z_g h (fun g223_2 h => ?_)
    obtain ⟨rfl, rfl⟩ := z_pr h
    exact z_zret hC hQ dX2_seekLeast_223 g223_2
  · replace h := z_f q168_1 h
    refine z_iload hC 2 rfl dX2_seekLeast_171 ?_
    refine z_sipush hC (201 : Int32) (by decide) dX2_seekLeast_173 ?_
    refine z_icmp_ge hC 221 (by decide) dX2_seekLeast_176 (fun q176_3 => ?_) (fun q176_3 => ?_)
    · replace h := z_t q176_3 h
      refine z_iload hC 1 rfl dX2_seekLeast_221 ?_
      refine z_g h (fun g223_4 h => ?_)
      obtain ⟨rfl, rfl⟩ := z_pr h
      exact z_zret hC hQ dX2_seekLeast_223 g223_4
    · replace h := z_f q176_3 h
      refine z_aload_n hC 0 rfl rfl dX2_seekLeast_179 ?_
      refine z_aload_n hC 0 rfl rfl dX2_seekLeast_180 ?_
      refine gX2_5 hC kf_X2_33 (gl σ 4 5) rfl dX2_seekLeast_181 ?_
      refine z_aload_n hC 0 rfl rfl dX2_seekLeast_184 ?_
      refine gX2_2 hC kf_X2_18 dX2_seekLeast_185 ?_
      refine z_iload hC 2 rfl dX2_seekLeast_188 ?_
      refine z_g h (fun g190_5 h => ?_)
      refine z_lald hC 15 ⟨by decide, by decide⟩ (zS_15 _ _ _) g190_5 (gl σ 15 v8.toNatClampNeg) rfl dX2_seekLeast_190 ?_
      refine z_mminL hC km_X2_58 (Nat.le_of_ble_eq_true rfl) (Nat.le_of_ble_eq_true rfl) dX2_seekLeast_191 ?_
      refine z_nmL h (fun x191_6 h => ?_)
      refine pX2_5 hC kf_X2_33 dX2_seekLeast_194 ?_
      refine z_aload_n hC 0 rfl rfl dX2_seekLeast_197 ?_
      refine z_aload_n hC 0 rfl rfl dX2_seekLeast_198 ?_
      refine gX2_6 hC kf_X2_37 (gl σ 4 6) rfl dX2_seekLeast_199 ?_
      refine z_aload_n hC 0 rfl rfl dX2_seekLeast_202 ?_
      refine gX2_3 hC kf_X2_22 dX2_seekLeast_203 ?_
      refine z_iload hC 2 rfl dX2_seekLeast_206 ?_
      refine z_g h (fun g208_7 h => ?_)
      refine z_lald hC 16 ⟨by decide, by decide⟩ (zS_16 _ _ _) g208_7 (gl σ 16 v8.toNatClampNeg) rfl dX2_seekLeast_208 ?_
      refine z_mminL hC km_X2_58 (Nat.le_of_ble_eq_true rfl) (Nat.le_of_ble_eq_true rfl) dX2_seekLeast_209 ?_
      refine z_nmL h (fun x209_8 h => ?_)
      refine pX2_6 hC kf_X2_37 dX2_seekLeast_212 ?_
      refine z_nmE h (fun x215_9 e_x215_9 h => ?_)
      refine z_iinc hC x215_9 [(8, .int x215_9), (0, .ref (zAd T (4))), (7, .int v7)] 2 rfl (by rw [e_x215_9]; rfl) (by rw [hN]; decide) rfl dX2_seekLeast_215 ?_
      refine z_goto hC 162 (by decide) dX2_seekLeast_218 ?_
      refine z_sub [(0, .ref (zAd T (4))), (7, .int v7), (8, .int x215_9)] [1, 2, 0] rfl ?_
      exact hK162 _ _ _ h
theorem wX2_seekLeast_L162 {T : zX} (hC : zOk T cX2_seekLeast RX2 6 178 0 61) (hN : zNL T = 12) {r : Int32} {σ' : zSt} (hQ : zRes T (some .boolean) (some (.int r)) σ') (n : Nat) : ∀ (v7 : Int32) (v8 : Int32) (σ : zSt), fX2_seekLeast_L162 n v7 v8 σ = some (r, σ') → Z T σ 162 [(0, .ref (zAd T (4))), (7, .int v7), (8, .int v8)] [] := by
  induction n with
  | zero => intro v7 v8 σ h; cases h
  | succ n ih => intro v7 v8 σ h; exact wX2_seekLeast_162 hC hN hQ (fX2_seekLeast_L162 n) ih v7 v8 σ h
set_option maxRecDepth 100000 in
set_option maxHeartbeats 4000000 in
theorem wX2_seekLeast_139 {T : zX} (hC : zOk T cX2_seekLeast RX2 6 178 0 61) (hN : zNL T = 12) {r : Int32} {σ' : zSt} (hQ : zRes T (some .boolean) (some (.int r)) σ') (v7 : Int32)  (σ : zSt) (h : fX2_seekLeast_139 v7 σ = some (r, σ')) : Z T σ 139 [(0, .ref (zAd T (4))), (7, .int v7)] [] := by
  unfold fX2_seekLeast_139 at h
  refine z_aload_n hC 0 rfl rfl dX2_seekLeast_139 ?_
  refine z_aload_n hC 0 rfl rfl dX2_seekLeast_140 ?_
  refine gX2_2 hC kf_X2_18 dX2_seekLeast_141 ?_
  refine z_iconst hC (0 : Int32) (by decide) dX2_seekLeast_144 ?_
  refine z_lald hC 15 ⟨by decide, by decide⟩ (zS_15 _ _ _) (by unfold vp_in; decide) (gl σ 15 (0 : Int32).toNatClampNeg) rfl dX2_seekLeast_145 ?_
  refine z_nmL h (fun x146_1 h => ?_)
  refine pX2_5 hC kf_X2_33 dX2_seekLeast_146 ?_
  refine z_aload_n hC 0 rfl rfl dX2_seekLeast_149 ?_
  refine z_aload_n hC 0 rfl rfl dX2_seekLeast_150 ?_
  refine gX2_3 hC kf_X2_22 dX2_seekLeast_151 ?_
  refine z_iconst hC (0 : Int32) (by decide) dX2_seekLeast_154 ?_
  refine z_lald hC 16 ⟨by decide, by decide⟩ (zS_16 _ _ _) (by unfold vp_in; decide) (gl σ 16 (0 : Int32).toNatClampNeg) rfl dX2_seekLeast_155 ?_
  refine z_nmL h (fun x156_2 h => ?_)
  refine pX2_6 hC kf_X2_37 dX2_seekLeast_156 ?_
  refine z_iconst hC (1 : Int32) (by decide) dX2_seekLeast_159 ?_
  refine z_istore hC [(8, .int (1 : Int32)), (0, .ref (zAd T (4))), (7, .int v7)] (by rw [hN]; decide) rfl dX2_seekLeast_160 ?_
  refine z_sub [(0, .ref (zAd T (4))), (7, .int v7), (8, .int (1 : Int32))] [1, 2, 0] rfl ?_
  exact (wX2_seekLeast_L162 hC hN hQ zFU) _ _ _ h
set_option maxRecDepth 100000 in
set_option maxHeartbeats 4000000 in
theorem wX2_seekLeast_22 {T : zX} (hC : zOk T cX2_seekLeast RX2 6 178 0 61) (hN : zNL T = 12) {r : Int32} {σ' : zSt} (hQ : zRes T (some .boolean) (some (.int r)) σ') (K22 : Int32 → Int32 → Int32 → Int32 → Int32 → zSt → Option (Int32 × zSt)) (hK22 : ∀ (v2 : Int32) (v5 : Int32) (v6 : Int32) (v7 : Int32) (v8 : Int32) (τ : zSt), K22 v2 v5 v6 v7 v8 τ = some (r, σ') → Z T τ 22 [(0, .ref (zAd T (4))), (1, .ref (zAd T (3))), (2, .int v2), (5, .int v5), (6, .int v6), (7, .int v7), (8, .int v8)] []) (v2 : Int32) (v5 : Int32) (v6 : Int32) (v7 : Int32) (v8 : Int32)  (σ : zSt) (h : fX2_seekLeast_22 K22 v2 v5 v6 v7 v8 σ = some (r, σ')) : Z T σ 22 [(0, .ref (zAd T (4))), (1, .ref (zAd T (3))), (2, .int v2), (5, .int v5), (6, .int v6), (7, .int v7), (8, .int v8)] [] := by
  unfold fX2_seekLeast_22 at h
  refine z_iload hC 6 rfl dX2_seekLeast_22 ?_
  refine z_iload hC 3 rfl dX2_seekLeast_24 ?_
  refine z_icmp_ge hC 139 (by decide) dX2_seekLeast_26 (fun q26_1 => ?_) (fun q26_1 => ?_)
  · replace h := z_t q26_1 h
    refine z_sub [(0, .ref (zAd T (4))), (7, .int v7)] [0, 5] rfl ?_
    exact (wX2_seekLeast_139 hC hN hQ ) _ _ h
  · replace h := z_f q26_1 h
    refine z_iload hC 5 rfl dX2_seekLeast_29 ?_
    refine z_if_eq hC 139 (by decide) dX2_seekLeast_31 (fun q31_2 => ?_) (fun q31_2 => ?_)
    · replace h := z_t q31_2 h
      refine z_sub [(0, .ref (zAd T (4))), (7, .int v7)] [0, 5] rfl ?_
      exact (wX2_seekLeast_139 hC hN hQ ) _ _ h
    · replace h := z_f q31_2 h
      refine z_aload_n hC 0 rfl rfl dX2_seekLeast_34 ?_
      refine z_b1 h (fun r35_3 e_r35_3 h => ?_)
      refine z_cV0r hC (ctX2_deepest hC.hm e_r35_3) (rcX2 hC) kb_X2_deepest km_X2_91 ⟨by decide, by decide⟩ (Nat.le_of_ble_eq_true rfl) dX2_seekLeast_35 ?_
      refine z_istore hC [(9, .int r35_3), (0, .ref (zAd T (4))), (1, .ref (zAd T (3))), (2, .int v2), (5, .int v5), (6, .int v6), (7, .int v7), (8, .int v8)] (by rw [hN]; decide) rfl dX2_seekLeast_38 ?_
      refine z_aload_n hC 1 rfl rfl dX2_seekLeast_40 ?_
      refine z_iload hC 0 rfl dX2_seekLeast_41 ?_
      refine z_b1 h (fun r43_4 e_r43_4 h => ?_)
      refine z_cV1r hC (ctX2_canHalve hC.hm e_r43_4) (rcX2 hC) kb_X2_canHalve km_X2_44 ⟨by decide, by decide⟩ (Nat.le_of_ble_eq_true rfl) dX2_seekLeast_43 ?_
      refine z_if_ne hC 52 (by decide) dX2_seekLeast_46 (fun q46_5 => ?_) (fun q46_5 => ?_)
      · replace h := z_f q46_5 h
        refine z_aload_n hC 1 rfl rfl dX2_seekLeast_52 ?_
        refine gX2_1 hC kf_X2_15 dX2_seekLeast_53 ?_
        refine z_iload hC 0 rfl dX2_seekLeast_56 ?_
        refine z_g h (fun g58_6 h => ?_)
        refine z_iald hC 14 ⟨by decide, by decide⟩ (zS_14 _ _ _) g58_6 (gi σ 14 r35_3.toNatClampNeg) rfl dX2_seekLeast_58 ?_
        refine z_nmI h (fun x59_7 h => ?_)
        refine z_istore hC [(10, .int x59_7), (9, .int r35_3), (0, .ref (zAd T (4))), (1, .ref (zAd T (3))), (2, .int v2), (5, .int v5), (6, .int v6), (7, .int v7), (8, .int v8)] (by rw [hN]; decide) rfl dX2_seekLeast_59 ?_
        refine z_aload_n hC 2 rfl rfl dX2_seekLeast_61 ?_
        refine gX2_0 hC kf_X2_11 dX2_seekLeast_62 ?_
        refine z_iload hC 1 rfl dX2_seekLeast_65 ?_
        refine z_g h (fun g67_8 h => ?_)
        refine z_iald hC 13 ⟨by decide, by decide⟩ (zS_13 _ _ _) g67_8 (gi σ 13 r35_3.toNatClampNeg) rfl dX2_seekLeast_67 ?_
        refine z_iload hC 0 rfl dX2_seekLeast_68 ?_
        refine z_cS2rN hC (ctX8_middleOf hC.hm) kb_X8_middleOf (by first | exact List.mem_cons_self | exact List.mem_cons_of_mem _ List.mem_cons_self) ⟨by decide, by decide⟩ (Nat.le_of_ble_eq_true rfl) dX2_seekLeast_70 ?_
        refine z_nmI h (fun x73_9 h => ?_)
        refine z_istore hC [(11, .int x73_9), (10, .int x59_7), (9, .int r35_3), (0, .ref (zAd T (4))), (1, .ref (zAd T (3))), (2, .int v2), (5, .int v5), (6, .int v6), (7, .int v7), (8, .int v8)] (by rw [hN]; decide) rfl dX2_seekLeast_73 ?_
        refine z_aload_n hC 3 rfl rfl dX2_seekLeast_75 ?_
        refine z_aload_n hC 4 rfl rfl dX2_seekLeast_76 ?_
        refine z_iload_n hC 5 rfl rfl dX2_seekLeast_77 ?_
        refine z_iload hC 2 rfl dX2_seekLeast_78 ?_
        refine z_aload_n hC 3 rfl rfl dX2_seekLeast_80 ?_
        refine gX2_0 hC kf_X2_11 dX2_seekLeast_81 ?_
        refine z_iload hC 2 rfl dX2_seekLeast_84 ?_
        refine z_g h (fun g86_10 h => ?_)
        refine z_iald hC 13 ⟨by decide, by decide⟩ (zS_13 _ _ _) g86_10 (gi σ 13 r35_3.toNatClampNeg) rfl dX2_seekLeast_86 ?_
        refine z_iload hC 0 rfl dX2_seekLeast_87 ?_
        refine z_iload hC 7 rfl dX2_seekLeast_89 ?_
        refine z_b2 h (fun r91_11 s91_12 e_r91_11 h => ?_)
        refine z_cV6r hC (ctX2_sinkPart hC.hm e_r91_11) (rcX2 hC) kb_X2_sinkPart km_X2_87 ⟨by decide, by decide⟩ (Nat.le_of_ble_eq_true rfl) dX2_seekLeast_91 ?_
        refine z_if_eq hC 120 (by decide) dX2_seekLeast_94 (fun q94_13 => ?_) (fun q94_13 => ?_)
        · replace h := z_t q94_13 h
          refine z_iconst hC (0 : Int32) (by decide) dX2_seekLeast_120 ?_
          refine z_istore hC [(7, .int (0 : Int32)), (11, .int x73_9), (10, .int x59_7), (9, .int r35_3), (0, .ref (zAd T (4))), (1, .ref (zAd T (3))), (2, .int v2), (5, .int v5), (6, .int v6), (8, .int v8)] (by rw [hN]; decide) rfl dX2_seekLeast_121 ?_
          refine z_aload_n hC 4 rfl rfl dX2_seekLeast_123 ?_
          refine z_dup hC rfl dX2_seekLeast_124 ?_
          refine gX2_4 hC kf_X2_25 (gi s91_12 4 4) rfl dX2_seekLeast_125 ?_
          refine z_iconst hC (1 : Int32) (by decide) dX2_seekLeast_128 ?_
          refine z_iadd hC dX2_seekLeast_129 ?_
          refine z_nmI h (fun x130_14 h => ?_)
          refine pX2_4 hC kf_X2_25 dX2_seekLeast_130 ?_
          refine z_nmE h (fun x133_15 e_x133_15 h => ?_)
          refine z_iinc hC x133_15 [(8, .int x133_15), (7, .int (0 : Int32)), (11, .int x73_9), (10, .int x59_7), (9, .int r35_3), (0, .ref (zAd T (4))), (1, .ref (zAd T (3))), (2, .int v2), (5, .int v5), (6, .int v6)] 9 rfl (by rw [e_x133_15]; rfl) (by rw [hN]; decide) rfl dX2_seekLeast_133 ?_
          refine z_goto hC 22 (by decide) dX2_seekLeast_136 ?_
          refine z_sub [(0, .ref (zAd T (4))), (1, .ref (zAd T (3))), (2, .int v2), (5, .int v5), (6, .int v6), (7, .int (0 : Int32)), (8, .int x133_15)] [5, 6, 7, 8, 9, 1, 0] rfl ?_
          exact hK22 _ _ _ _ _ _ h
        · replace h := z_f q94_13 h
          refine z_aload_n hC 3 rfl rfl dX2_seekLeast_97 ?_
          refine z_aload_n hC 4 rfl rfl dX2_seekLeast_98 ?_
          refine z_iload_n hC 5 rfl rfl dX2_seekLeast_99 ?_
          refine z_aload_n hC 3 rfl rfl dX2_seekLeast_100 ?_
          refine gX2_4 hC kf_X2_25 (gi s91_12 4 4) rfl dX2_seekLeast_101 ?_
          refine z_iload hC 0 rfl dX2_seekLeast_104 ?_
          refine z_iload hC 1 rfl dX2_seekLeast_106 ?_
          refine z_iload hC 7 rfl dX2_seekLeast_108 ?_
          refine z_b2 h (fun r110_16 s110_17 e_r110_16 h => ?_)
          refine z_cV6r hC (ctX2_sinkPart hC.hm e_r110_16) (rcX2 hC) kb_X2_sinkPart km_X2_87 ⟨by decide, by decide⟩ (Nat.le_of_ble_eq_true rfl) dX2_seekLeast_110 ?_
          refine z_if_eq hC 120 (by decide) dX2_seekLeast_113 (fun q113_18 => ?_) (fun q113_18 => ?_)
          · replace h := z_t q113_18 h
            refine z_iconst hC (0 : Int32) (by decide) dX2_seekLeast_120 ?_
            refine z_istore hC [(7, .int (0 : Int32)), (11, .int x73_9), (10, .int x59_7), (9, .int r35_3), (0, .ref (zAd T (4))), (1, .ref (zAd T (3))), (2, .int v2), (5, .int v5), (6, .int v6), (8, .int v8)] (by rw [hN]; decide) rfl dX2_seekLeast_121 ?_
            refine z_aload_n hC 4 rfl rfl dX2_seekLeast_123 ?_
            refine z_dup hC rfl dX2_seekLeast_124 ?_
            refine gX2_4 hC kf_X2_25 (gi s110_17 4 4) rfl dX2_seekLeast_125 ?_
            refine z_iconst hC (1 : Int32) (by decide) dX2_seekLeast_128 ?_
            refine z_iadd hC dX2_seekLeast_129 ?_
            refine z_nmI h (fun x130_19 h => ?_)
            refine pX2_4 hC kf_X2_25 dX2_seekLeast_130 ?_
            refine z_nmE h (fun x133_20 e_x133_20 h => ?_)
            refine z_iinc hC x133_20 [(8, .int x133_20), (7, .int (0 : Int32)), (11, .int x73_9), (10, .int x59_7), (9, .int r35_3), (0, .ref (zAd T (4))), (1, .ref (zAd T (3))), (2, .int v2), (5, .int v5), (6, .int v6)] 9 rfl (by rw [e_x133_20]; rfl) (by rw [hN]; decide) rfl dX2_seekLeast_133 ?_
            refine z_goto hC 22 (by decide) dX2_seekLeast_136 ?_
            refine z_sub [(0, .ref (zAd T (4))), (1, .ref (zAd T (3))), (2, .int v2), (5, .int v5), (6, .int v6), (7, .int (0 : Int32)), (8, .int x133_20)] [5, 6, 7, 8, 9, 1, 0] rfl ?_
            exact hK22 _ _ _ _ _ _ h
          · replace h := z_f q113_18 h
            refine z_iconst hC (1 : Int32) (by decide) dX2_seekLeast_116 ?_
            refine z_goto hC 121 (by decide) dX2_seekLeast_117 ?_
            refine z_istore hC [(7, .int (1 : Int32)), (11, .int x73_9), (10, .int x59_7), (9, .int r35_3), (0, .ref (zAd T (4))), (1, .ref (zAd T (3))), (2, .int v2), (5, .int v5), (6, .int v6), (8, .int v8)] (by rw [hN]; decide) rfl dX2_seekLeast_121 ?_
            refine z_aload_n hC 4 rfl rfl dX2_seekLeast_123 ?_
            refine z_dup hC rfl dX2_seekLeast_124 ?_
            refine gX2_4 hC kf_X2_25 (gi s110_17 4 4) rfl dX2_seekLeast_125 ?_
            refine z_iconst hC (1 : Int32) (by decide) dX2_seekLeast_128 ?_
            refine z_iadd hC dX2_seekLeast_129 ?_
            refine z_nmI h (fun x130_21 h => ?_)
            refine pX2_4 hC kf_X2_25 dX2_seekLeast_130 ?_
            refine z_nmE h (fun x133_22 e_x133_22 h => ?_)
            refine z_iinc hC x133_22 [(8, .int x133_22), (7, .int (1 : Int32)), (11, .int x73_9), (10, .int x59_7), (9, .int r35_3), (0, .ref (zAd T (4))), (1, .ref (zAd T (3))), (2, .int v2), (5, .int v5), (6, .int v6)] 9 rfl (by rw [e_x133_22]; rfl) (by rw [hN]; decide) rfl dX2_seekLeast_133 ?_
            refine z_goto hC 22 (by decide) dX2_seekLeast_136 ?_
            refine z_sub [(0, .ref (zAd T (4))), (1, .ref (zAd T (3))), (2, .int v2), (5, .int v5), (6, .int v6), (7, .int (1 : Int32)), (8, .int x133_22)] [5, 6, 7, 8, 9, 1, 0] rfl ?_
            exact hK22 _ _ _ _ _ _ h
      · replace h := z_t q46_5 h
        refine z_goto hC 139 (by decide) dX2_seekLeast_49 ?_
        refine z_sub [(0, .ref (zAd T (4))), (7, .int v7)] [1, 6] rfl ?_
        exact (wX2_seekLeast_139 hC hN hQ ) _ _ h
theorem wX2_seekLeast_L22 {T : zX} (hC : zOk T cX2_seekLeast RX2 6 178 0 61) (hN : zNL T = 12) {r : Int32} {σ' : zSt} (hQ : zRes T (some .boolean) (some (.int r)) σ') (n : Nat) : ∀ (v2 : Int32) (v5 : Int32) (v6 : Int32) (v7 : Int32) (v8 : Int32) (σ : zSt), fX2_seekLeast_L22 n v2 v5 v6 v7 v8 σ = some (r, σ') → Z T σ 22 [(0, .ref (zAd T (4))), (1, .ref (zAd T (3))), (2, .int v2), (5, .int v5), (6, .int v6), (7, .int v7), (8, .int v8)] [] := by
  induction n with
  | zero => intro v2 v5 v6 v7 v8 σ h; cases h
  | succ n ih => intro v2 v5 v6 v7 v8 σ h; exact wX2_seekLeast_22 hC hN hQ (fX2_seekLeast_L22 n) ih v2 v5 v6 v7 v8 σ h
set_option maxRecDepth 100000 in
set_option maxHeartbeats 4000000 in
theorem wX2_seekLeast_0 {T : zX} (hC : zOk T cX2_seekLeast RX2 6 178 0 61) (hN : zNL T = 12) {r : Int32} {σ' : zSt} (hQ : zRes T (some .boolean) (some (.int r)) σ') (a2 : Int32) (a3 : Int32) (a4 : Int32) (a5 : Int32) (a6 : Int32)  (σ : zSt) (h : fX2_seekLeast_0 a2 a3 a4 a5 a6 σ = some (r, σ')) : Z T σ 0 [(0, .ref (zAd T (4))), (1, .ref (zAd T (3))), (2, .int a2), (3, .int a3), (4, .int a4), (5, .int a5), (6, .int a6)] [] := by
  unfold fX2_seekLeast_0 at h
  refine z_aload_n hC 0 rfl rfl dX2_seekLeast_0 ?_
  refine z_iconst hC (1 : Int32) (by decide) dX2_seekLeast_1 ?_
  refine pX2_4 hC kf_X2_25 dX2_seekLeast_2 ?_
  refine z_aload_n hC 0 rfl rfl dX2_seekLeast_5 ?_
  refine z_aload_n hC 1 rfl rfl dX2_seekLeast_6 ?_
  refine z_iload_n hC 2 rfl rfl dX2_seekLeast_7 ?_
  refine z_iconst hC (0 : Int32) (by decide) dX2_seekLeast_8 ?_
  refine z_iload_n hC 3 rfl rfl dX2_seekLeast_9 ?_
  refine z_iload hC 4 rfl dX2_seekLeast_10 ?_
  refine z_iload hC 6 rfl dX2_seekLeast_12 ?_
  refine z_b2 h (fun r14_1 s14_2 e_r14_1 h => ?_)
  refine z_cV6r hC (ctX2_sinkPart hC.hm e_r14_1) (rcX2 hC) kb_X2_sinkPart km_X2_87 ⟨by decide, by decide⟩ (Nat.le_of_ble_eq_true rfl) dX2_seekLeast_14 ?_
  refine z_istore hC [(7, .int r14_1), (0, .ref (zAd T (4))), (1, .ref (zAd T (3))), (2, .int a2), (3, .int a3), (4, .int a4), (5, .int a5), (6, .int a6)] (by rw [hN]; decide) rfl dX2_seekLeast_17 ?_
  refine z_iconst hC (0 : Int32) (by decide) dX2_seekLeast_19 ?_
  refine z_istore hC [(8, .int (0 : Int32)), (7, .int r14_1), (0, .ref (zAd T (4))), (1, .ref (zAd T (3))), (2, .int a2), (3, .int a3), (4, .int a4), (5, .int a5), (6, .int a6)] (by rw [hN]; decide) rfl dX2_seekLeast_20 ?_
  refine z_sub [(0, .ref (zAd T (4))), (1, .ref (zAd T (3))), (2, .int a2), (5, .int a5), (6, .int a6), (7, .int r14_1), (8, .int (0 : Int32))] [2, 3, 4, 7, 8, 1, 0] rfl ?_
  exact (wX2_seekLeast_L22 hC hN hQ zFU) _ _ _ _ _ _ h
set_option maxRecDepth 100000 in
theorem ctX2_seekLeast {l : Launch} {G : zGt} {mk : zSt → zSt} (hm : zM mk 0 61) {a2 : Int32} {a3 : Int32} {a4 : Int32} {a5 : Int32} {a6 : Int32} {σ : zSt} {r : Int32} {σ' : zSt} (h : fX2_seekLeast a2 a3 a4 a5 a6 σ = some (r, σ')) : zMet l G mk yX2_seekLeast cX2_seekLeast 12 (some .boolean) 6 178 [.ref (gA G (4)), .ref (gA G (3)), .int a2, .int a3, .int a4, .int a5, .int a6] σ (some (.int r)) σ' := by
  unfold fX2_seekLeast at h

  refine zMet.of (plainFor_of_name (by decide +kernel)) hm (Nat.le_of_ble_eq_true rfl) (fun T eL eG eM hN hC hQ => ?_)
  subst eL; subst eG; subst eM
  refine z_sub [(0, .ref (zAd T (4))), (1, .ref (zAd T (3))), (2, .int a2), (3, .int a3), (4, .int a4), (5, .int a5), (6, .int a6)] [0, 1, 2, 3, 4, 5, 6] rfl ?_
  exact wX2_seekLeast_0 hC hN hQ _ _ _ _ _  _ h
