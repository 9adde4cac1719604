noncomputable def fX4_raised_168 (K168 : Int32 → Int64 → Int64 → Int64 → Int64 → Int64 → Option Int64) (v2 : Int32) (v7 : Int64) (v11 : Int64) (v13 : Int64) (v15 : Int64) (v17 : Int64) : Option Int64 := 
    (if v15 ≤ v17 then 
      (if v2 = 0 then some (jshrL v11 (4 : Int32))
      else some (jshrL ((v11 + (16 : Int64)) - (1 : Int64)) (4 : Int32)))
    else nm (jshrL ((v11 * v13) + v7) (24 : Int32)) fun x187_3 => nm (v17 + (1 : Int64)) fun x193_4 => K168 v2 v7 x187_3 v13 v15 x193_4)
noncomputable def fX4_raised_L168 : Nat → Int32 → Int64 → Int64 → Int64 → Int64 → Int64 → Option Int64
  | 0, _, _, _, _, _, _ => none
  | n + 1, v2, v7, v11, v13, v15, v17 => fX4_raised_168 (fX4_raised_L168 n) v2 v7 v11 v13 v15 v17 
noncomputable def fX4_raised_151 (v2 : Int32) (v3 : Int64) (v7 : Int64) (v11 : Int64) (v13 : Int64) : Option Int64 := 
    (if (0 : Int64) ≤ v3 then fX4_raised_L168 zFU v2 v7 v11 v13 v3 (0 : Int64)
    else nm (-v3) fun x163_2 => fX4_raised_L168 zFU v2 v7 v11 v13 x163_2 (0 : Int64))
noncomputable def fX4_raised_62 (K62 : Int32 → Int64 → Int64 → Int64 → Int64 → Int64 → Int32 → Option Int64) (v2 : Int32) (v3 : Int64) (v5 : Int64) (v7 : Int64) (v9 : Int64) (v11 : Int64) (v13 : Int32) : Option Int64 := 
    (if (14 : Int32) < v13 then 
      (if (0 : Int64) ≤ v3 then 
        (if v2 = 0 then fX4_raised_151 v2 v3 v7 v11 (45605201 : Int64)
        else nm (v11 + (1 : Int64)) fun x143_4 => nm ((45605201 : Int64) + (1 : Int64)) fun x149_5 => fX4_raised_151 v2 v3 v7 x143_4 x149_5)
      else 
        (if v2 = 0 then fX4_raised_151 v2 v3 v7 v11 (6171992 : Int64)
        else nm (v11 + (1 : Int64)) fun x143_7 => nm ((6171992 : Int64) + (1 : Int64)) fun x149_8 => fX4_raised_151 v2 v3 v7 x143_7 x149_8))
    else nm (jshrL ((v9 * v5) + v7) (24 : Int32)) fun x80_9 => 
      (if v2 = 0 then zg (¬ (Int32.toInt64 v13) = 0) <| nm (x80_9 / (Int32.toInt64 v13)) fun x103_12 => nm (v11 + x103_12) fun x110_13 => nm (v13 + (1 : Int32)) fun x112_14 => K62 v2 v3 v5 v7 x103_12 x110_13 x112_14
      else zg (¬ (Int32.toInt64 v13) = 0) <| nm (((x80_9 + (Int32.toInt64 v13)) - (1 : Int64)) / (Int32.toInt64 v13)) fun x103_16 => nm (v11 + x103_16) fun x110_17 => nm (v13 + (1 : Int32)) fun x112_18 => K62 v2 v3 v5 v7 x103_16 x110_17 x112_18))
noncomputable def fX4_raised_L62 : Nat → Int32 → Int64 → Int64 → Int64 → Int64 → Int64 → Int32 → Option Int64
  | 0, _, _, _, _, _, _, _ => none
  | n + 1, v2, v3, v5, v7, v9, v11, v13 => fX4_raised_62 (fX4_raised_L62 n) v2 v3 v5 v7 v9 v11 v13 
noncomputable def fX4_raised_0 (a0 : Int64) (a2 : Int32) : Option Int64 := 
    (if (-14680064 : Int64) ≤ a0 then nm (jshrL a0 (20 : Int32)) fun x22_2 => nm ((a0 &&& (1048575 : Int64)) * (16 : Int64)) fun x32_3 => 
      (if a2 = 0 then nm ((16777216 : Int64) + x32_3) fun x57_5 => fX4_raised_L62 zFU a2 x22_2 x32_3 (0 : Int64) x32_3 x57_5 (2 : Int32)
      else nm ((16777216 : Int64) + x32_3) fun x57_6 => fX4_raised_L62 zFU a2 x22_2 x32_3 (16777215 : Int64) x32_3 x57_6 (2 : Int32))
    else 
      (if a2 = 0 then some (0 : Int64)
      else some (1 : Int64)))
noncomputable def fX4_raised (a0 : Int64) (a2 : Int32) : Option Int64 := fX4_raised_0 a0 a2
set_option maxRecDepth 100000 in
set_option maxHeartbeats 4000000 in
theorem wX4_raised_168 {T : zX} {cl ch : Nat} {σ : zSt} (hC : zOk T cX4_raised RX4 0 0 cl ch) (hN : zNL T = 19) {r : Int64} (hQ : zRes T (some .long) (some (.long r)) σ) (K168 : Int32 → Int64 → Int64 → Int64 → Int64 → Int64 → Option Int64) (hK168 : ∀ (v2 : Int32) (v7 : Int64) (v11 : Int64) (v13 : Int64) (v15 : Int64) (v17 : Int64), K168 v2 v7 v11 v13 v15 v17  = some r → Z T σ 168 [(2, .int v2), (7, .long v7), (11, .long v11), (13, .long v13), (15, .long v15), (17, .long v17)] []) (v2 : Int32) (v7 : Int64) (v11 : Int64) (v13 : Int64) (v15 : Int64) (v17 : Int64)  (h : fX4_raised_168 K168 v2 v7 v11 v13 v15 v17  = some r) : Z T σ 168 [(2, .int v2), (7, .long v7), (11, .long v11), (13, .long v13), (15, .long v15), (17, .long v17)] [] := by
  unfold fX4_raised_168 at h
  refine z_lload hC 5 rfl dX4_raised_168 ?_
  refine z_lload hC 4 rfl dX4_raised_170 ?_
  refine z_cmp_ge hC 198 (by decide) dX4_raised_172 dX4_raised_173 (fun q172_1 => ?_) (fun q172_1 => ?_)
  · replace h := z_t q172_1 h
    refine z_iload_n hC 0 rfl rfl dX4_raised_198 ?_
    refine z_if_eq hC 213 (by decide) dX4_raised_199 (fun q199_2 => ?_) (fun q199_2 => ?_)
    · replace h := z_t q199_2 h
      refine z_lload hC 2 rfl dX4_raised_213 ?_
      refine z_iconst hC (4 : Int32) (by decide) dX4_raised_215 ?_
      refine z_lshr hC dX4_raised_216 ?_
      obtain rfl := z_so h
      exact z_lret hC hQ dX4_raised_217
    · replace h := z_f q199_2 h
      refine z_lload hC 2 rfl dX4_raised_202 ?_
      refine z_ldc2 hC kc_X4_36 dX4_raised_204 ?_
      refine z_ladd hC dX4_raised_207 ?_
      refine z_lconst hC (1 : Int64) (by decide) dX4_raised_208 ?_
      refine z_lsub hC dX4_raised_209 ?_
      refine z_goto hC 215 (by decide) dX4_raised_210 ?_
      refine z_iconst hC (4 : Int32) (by decide) dX4_raised_215 ?_
      refine z_lshr hC dX4_raised_216 ?_
      obtain rfl := z_so h
      exact z_lret hC hQ dX4_raised_217
  · replace h := z_f q172_1 h
    refine z_lload hC 2 rfl dX4_raised_176 ?_
    refine z_lload hC 3 rfl dX4_raised_178 ?_
    refine z_lmul hC dX4_raised_180 ?_
    refine z_lload hC 1 rfl dX4_raised_181 ?_
    refine z_ladd hC dX4_raised_183 ?_
    refine z_bipush hC (24 : Int32) (by decide) dX4_raised_184 ?_
    refine z_lshr hC dX4_raised_186 ?_
    refine z_nmL h (fun x187_3 h => ?_)
    refine z_lstore hC [(11, .long x187_3), (2, .int v2), (7, .long v7), (13, .long v13), (15, .long v15), (17, .long v17)] (by rw [hN]; decide) rfl dX4_raised_187 ?_
    refine z_lload hC 5 rfl dX4_raised_189 ?_
    refine z_lconst hC (1 : Int64) (by decide) dX4_raised_191 ?_
    refine z_ladd hC dX4_raised_192 ?_
    refine z_nmL h (fun x193_4 h => ?_)
    refine z_lstore hC [(17, .long x193_4), (11, .long x187_3), (2, .int v2), (7, .long v7), (13, .long v13), (15, .long v15)] (by rw [hN]; decide) rfl dX4_raised_193 ?_
    refine z_goto hC 168 (by decide) dX4_raised_195 ?_
    refine z_sub [(2, .int v2), (7, .long v7), (11, .long x187_3), (13, .long v13), (15, .long v15), (17, .long x193_4)] [2, 3, 1, 4, 5, 0] rfl ?_
    exact hK168 _ _ _ _ _ _ h
theorem wX4_raised_L168 {T : zX} {cl ch : Nat} {σ : zSt} (hC : zOk T cX4_raised RX4 0 0 cl ch) (hN : zNL T = 19) {r : Int64} (hQ : zRes T (some .long) (some (.long r)) σ) (n : Nat) : ∀ (v2 : Int32) (v7 : Int64) (v11 : Int64) (v13 : Int64) (v15 : Int64) (v17 : Int64), fX4_raised_L168 n v2 v7 v11 v13 v15 v17  = some r → Z T σ 168 [(2, .int v2), (7, .long v7), (11, .long v11), (13, .long v13), (15, .long v15), (17, .long v17)] [] := by
  induction n with
  | zero => intro v2 v7 v11 v13 v15 v17 h; cases h
  | succ n ih => intro v2 v7 v11 v13 v15 v17 h; exact wX4_raised_168 hC hN hQ (fX4_raised_L168 n) ih v2 v7 v11 v13 v15 v17 h
set_option maxRecDepth 100000 in
set_option maxHeartbeats 4000000 in
theorem wX4_raised_151 {T : zX} {cl ch : Nat} {σ : zSt} (hC : zOk T cX4_raised RX4 0 0 cl ch) (hN : zNL T = 19) {r : Int64} (hQ : zRes T (some .long) (some (.long r)) σ) (v2 : Int32) (v3 : Int64) (v7 : Int64) (v11 : Int64) (v13 : Int64)  (h : fX4_raised_151 v2 v3 v7 v11 v13  = some r) : Z T σ 151 [(2, .int v2), (3, .long v3), (7, .long v7), (11, .long v11), (13, .long v13)] [] := by
  unfold fX4_raised_151 at h
  refine z_lload_n hC 1 rfl rfl dX4_raised_151 ?_
  refine z_lconst hC (0 : Int64) (by decide) dX4_raised_152 ?_
  refine z_cmp_ge hC 162 (by decide) dX4_raised_153 dX4_raised_154 (fun q153_1 => ?_) (fun q153_1 => ?_)
  · replace h := z_t q153_1 h
    refine z_lload_n hC 1 rfl rfl dX4_raised_162 ?_
    refine z_lstore hC [(15, .long v3), (2, .int v2), (3, .long v3), (7, .long v7), (11, .long v11), (13, .long v13)] (by rw [hN]; decide) rfl dX4_raised_163 ?_
    refine z_lconst hC (0 : Int64) (by decide) dX4_raised_165 ?_
    refine z_lstore hC [(17, .long (0 : Int64)), (15, .long v3), (2, .int v2), (3, .long v3), (7, .long v7), (11, .long v11), (13, .long v13)] (by rw [hN]; decide) rfl dX4_raised_166 ?_
    refine z_sub [(2, .int v2), (7, .long v7), (11, .long v11), (13, .long v13), (15, .long v3), (17, .long (0 : Int64))] [2, 4, 5, 6, 1, 0] rfl ?_
    exact (wX4_raised_L168 hC hN hQ zFU) _ _ _ _ _ _ h
  · replace h := z_f q153_1 h
    refine z_lload_n hC 1 rfl rfl dX4_raised_157 ?_
    refine z_lneg hC dX4_raised_158 ?_
    refine z_goto hC 163 (by decide) dX4_raised_159 ?_
    refine z_nmL h (fun x163_2 h => ?_)
    refine z_lstore hC [(15, .long x163_2), (2, .int v2), (3, .long v3), (7, .long v7), (11, .long v11), (13, .long v13)] (by rw [hN]; decide) rfl dX4_raised_163 ?_
    refine z_lconst hC (0 : Int64) (by decide) dX4_raised_165 ?_
    refine z_lstore hC [(17, .long (0 : Int64)), (15, .long x163_2), (2, .int v2), (3, .long v3), (7, .long v7), (11, .long v11), (13, .long v13)] (by rw [hN]; decide) rfl dX4_raised_166 ?_
    refine z_sub [(2, .int v2), (7, .long v7), (11, .long v11), (13, .long v13), (15, .long x163_2), (17, .long (0 : Int64))] [2, 4, 5, 6, 1, 0] rfl ?_
    exact (wX4_raised_L168 hC hN hQ zFU) _ _ _ _ _ _ h
set_option maxRecDepth 100000 in
set_option maxHeartbeats 4000000 in
theorem wX4_raised_62 {T : zX} {cl ch : Nat} {σ : zSt} (hC : zOk T cX4_raised RX4 0 0 cl ch) (hN : zNL T = 19) {r : Int64} (hQ : zRes T (some .long) (some (.long r)) σ) (K62 : Int32 → Int64 → Int64 → Int64 → Int64 → Int64 → Int32 → Option Int64) (hK62 : ∀ (v2 : Int32) (v3 : Int64) (v5 : Int64) (v7 : Int64) (v9 : Int64) (v11 : Int64) (v13 : Int32), K62 v2 v3 v5 v7 v9 v11 v13  = some r → Z T σ 62 [(2, .int v2), (3, .long v3), (5, .long v5), (7, .long v7), (9, .long v9), (11, .long v11), (13, .int v13)] []) (v2 : Int32) (v3 : Int64) (v5 : Int64) (v7 : Int64) (v9 : Int64) (v11 : Int64) (v13 : Int32)  (h : fX4_raised_62 K62 v2 v3 v5 v7 v9 v11 v13  = some r) : Z T σ 62 [(2, .int v2), (3, .long v3), (5, .long v5), (7, .long v7), (9, .long v9), (11, .long v11), (13, .int v13)] [] := by
  unfold fX4_raised_62 at h
  refine z_iload hC 6 rfl dX4_raised_62 ?_
  refine z_bipush hC (14 : Int32) (by decide) dX4_raised_64 ?_
  refine z_icmp_gt hC 118 (by decide) dX4_raised_66 (fun q66_1 => ?_) (fun q66_1 => ?_)
  · replace h := z_t q66_1 h
    refine z_lload_n hC 1 rfl rfl dX4_raised_118 ?_
    refine z_lconst hC (0 : Int64) (by decide) dX4_raised_119 ?_
    refine z_cmp_ge hC 130 (by decide) dX4_raised_120 dX4_raised_121 (fun q120_2 => ?_) (fun q120_2 => ?_)
    · replace h := z_t q120_2 h
      refine z_ldc2 hC kc_X4_44 dX4_raised_130 ?_
      refine z_lstore hC [(13, .long (45605201 : Int64)), (2, .int v2), (3, .long v3), (5, .long v5), (7, .long v7), (9, .long v9), (11, .long v11)] (by rw [hN]; decide) rfl dX4_raised_133 ?_
      refine z_iload_n hC 1 rfl rfl dX4_raised_135 ?_
      refine z_if_eq hC 151 (by decide) dX4_raised_136 (fun q136_3 => ?_) (fun q136_3 => ?_)
      · replace h := z_t q136_3 h
        refine z_sub [(2, .int v2), (3, .long v3), (7, .long v7), (11, .long v11), (13, .long (45605201 : Int64))] [1, 2, 4, 6, 0] rfl ?_
        exact (wX4_raised_151 hC hN hQ ) _ _ _ _ _ h
      · replace h := z_f q136_3 h
        refine z_lload hC 6 rfl dX4_raised_139 ?_
        refine z_lconst hC (1 : Int64) (by decide) dX4_raised_141 ?_
        refine z_ladd hC dX4_raised_142 ?_
        refine z_nmL h (fun x143_4 h => ?_)
        refine z_lstore hC [(11, .long x143_4), (13, .long (45605201 : Int64)), (2, .int v2), (3, .long v3), (5, .long v5), (7, .long v7), (9, .long v9)] (by rw [hN]; decide) rfl dX4_raised_143 ?_
        refine z_lload hC 1 rfl dX4_raised_145 ?_
        refine z_lconst hC (1 : Int64) (by decide) dX4_raised_147 ?_
        refine z_ladd hC dX4_raised_148 ?_
        refine z_nmL h (fun x149_5 h => ?_)
        refine z_lstore hC [(13, .long x149_5), (11, .long x143_4), (2, .int v2), (3, .long v3), (5, .long v5), (7, .long v7), (9, .long v9)] (by rw [hN]; decide) rfl dX4_raised_149 ?_
        refine z_sub [(2, .int v2), (3, .long v3), (7, .long v7), (11, .long x143_4), (13, .long x149_5)] [2, 3, 5, 1, 0] rfl ?_
        exact (wX4_raised_151 hC hN hQ ) _ _ _ _ _ h
    · replace h := z_f q120_2 h
      refine z_ldc2 hC kc_X4_42 dX4_raised_124 ?_
      refine z_goto hC 133 (by decide) dX4_raised_127 ?_
      refine z_lstore hC [(13, .long (6171992 : Int64)), (2, .int v2), (3, .long v3), (5, .long v5), (7, .long v7), (9, .long v9), (11, .long v11)] (by rw [hN]; decide) rfl dX4_raised_133 ?_
      refine z_iload_n hC 1 rfl rfl dX4_raised_135 ?_
      refine z_if_eq hC 151 (by decide) dX4_raised_136 (fun q136_6 => ?_) (fun q136_6 => ?_)
      · replace h := z_t q136_6 h
        refine z_sub [(2, .int v2), (3, .long v3), (7, .long v7), (11, .long v11), (13, .long (6171992 : Int64))] [1, 2, 4, 6, 0] rfl ?_
        exact (wX4_raised_151 hC hN hQ ) _ _ _ _ _ h
      · replace h := z_f q136_6 h
        refine z_lload hC 6 rfl dX4_raised_139 ?_
        refine z_lconst hC (1 : Int64) (by decide) dX4_raised_141 ?_
        refine z_ladd hC dX4_raised_142 ?_
        refine z_nmL h (fun x143_7 h => ?_)
        refine z_lstore hC [(11, .long x143_7), (13, .long (6171992 : Int64)), (2, .int v2), (3, .long v3), (5, .long v5), (7, .long v7), (9, .long v9)] (by rw [hN]; decide) rfl dX4_raised_143 ?_
        refine z_lload hC 1 rfl dX4_raised_145 ?_
        refine z_lconst hC (1 : Int64) (by decide) dX4_raised_147 ?_
        refine z_ladd hC dX4_raised_148 ?_
        refine z_nmL h (fun x149_8 h => ?_)
        refine z_lstore hC [(13, .long x149_8), (11, .long x143_7), (2, .int v2), (3, .long v3), (5, .long v5), (7, .long v7), (9, .long v9)] (by rw [hN]; decide) rfl dX4_raised_149 ?_
        refine z_sub [(2, .int v2), (3, .long v3), (7, .long v7), (11, .long x143_7), (13, .long x149_8)] [2, 3, 5, 1, 0] rfl ?_
        exact (wX4_raised_151 hC hN hQ ) _ _ _ _ _ h
  · replace h := z_f q66_1 h
    refine z_lload hC 4 rfl dX4_raised_69 ?_
    refine z_lload hC 2 rfl dX4_raised_71 ?_
    refine z_lmul hC dX4_raised_73 ?_
    refine z_lload hC 3 rfl dX4_raised_74 ?_
    refine z_ladd hC dX4_raised_76 ?_
    refine z_bipush hC (24 : Int32) (by decide) dX4_raised_77 ?_
    refine z_lshr hC dX4_raised_79 ?_
    refine z_nmL h (fun x80_9 h => ?_)
    refine z_lstore hC [(9, .long x80_9), (2, .int v2), (3, .long v3), (5, .long v5), (7, .long v7), (11, .long v11), (13, .int v13)] (by rw [hN]; decide) rfl dX4_raised_80 ?_
    refine z_iload_n hC 1 rfl rfl dX4_raised_82 ?_
    refine z_if_eq hC 97 (by decide) dX4_raised_83 (fun q83_10 => ?_) (fun q83_10 => ?_)
    · replace h := z_t q83_10 h
      refine z_lload hC 0 rfl dX4_raised_97 ?_
      refine z_iload hC 6 rfl dX4_raised_99 ?_
      refine z_i2l hC dX4_raised_101 ?_
      refine z_g h (fun g102_11 h => ?_)
      refine z_ldiv hC g102_11 dX4_raised_102 ?_
      refine z_nmL h (fun x103_12 h => ?_)
      refine z_lstore hC [(9, .long x103_12), (2, .int v2), (3, .long v3), (5, .long v5), (7, .long v7), (11, .long v11), (13, .int v13)] (by rw [hN]; decide) rfl dX4_raised_103 ?_
      refine z_lload hC 5 rfl dX4_raised_105 ?_
      refine z_lload hC 0 rfl dX4_raised_107 ?_
      refine z_ladd hC dX4_raised_109 ?_
      refine z_nmL h (fun x110_13 h => ?_)
      refine z_lstore hC [(11, .long x110_13), (9, .long x103_12), (2, .int v2), (3, .long v3), (5, .long v5), (7, .long v7), (13, .int v13)] (by rw [hN]; decide) rfl dX4_raised_110 ?_
      refine z_nmE h (fun x112_14 e_x112_14 h => ?_)
      refine z_iinc hC x112_14 [(13, .int x112_14), (11, .long x110_13), (9, .long x103_12), (2, .int v2), (3, .long v3), (5, .long v5), (7, .long v7)] 6 rfl (by rw [e_x112_14]; rfl) (by rw [hN]; decide) rfl dX4_raised_112 ?_
      refine z_goto hC 62 (by decide) dX4_raised_115 ?_
      refine z_sub [(2, .int v2), (3, .long v3), (5, .long v5), (7, .long v7), (9, .long x103_12), (11, .long x110_13), (13, .int x112_14)] [3, 4, 5, 6, 2, 1, 0] rfl ?_
      exact hK62 _ _ _ _ _ _ _ h
    · replace h := z_f q83_10 h
      refine z_lload hC 0 rfl dX4_raised_86 ?_
      refine z_iload hC 6 rfl dX4_raised_88 ?_
      refine z_i2l hC dX4_raised_90 ?_
      refine z_ladd hC dX4_raised_91 ?_
      refine z_lconst hC (1 : Int64) (by decide) dX4_raised_92 ?_
      refine z_lsub hC dX4_raised_93 ?_
      refine z_goto hC 99 (by decide) dX4_raised_94 ?_
      refine z_iload hC 6 rfl dX4_raised_99 ?_
      refine z_i2l hC dX4_raised_101 ?_
      refine z_g h (fun g102_15 h => ?_)
      refine z_ldiv hC g102_15 dX4_raised_102 ?_
      refine z_nmL h (fun x103_16 h => ?_)
      refine z_lstore hC [(9, .long x103_16), (2, .int v2), (3, .long v3), (5, .long v5), (7, .long v7), (11, .long v11), (13, .int v13)] (by rw [hN]; decide) rfl dX4_raised_103 ?_
      refine z_lload hC 5 rfl dX4_raised_105 ?_
      refine z_lload hC 0 rfl dX4_raised_107 ?_
      refine z_ladd hC dX4_raised_109 ?_
      refine z_nmL h (fun x110_17 h => ?_)
      refine z_lstore hC [(11, .long x110_17), (9, .long x103_16), (2, .int v2), (3, .long v3), (5, .long v5), (7, .long v7), (13, .int v13)] (by rw [hN]; decide) rfl dX4_raised_110 ?_
      refine z_nmE h (fun x112_18 e_x112_18 h => ?_)
      refine z_iinc hC x112_18 [(13, .int x112_18), (11, .long x110_17), (9, .long x103_16), (2, .int v2), (3, .long v3), (5, .long v5), (7, .long v7)] 6 rfl (by rw [e_x112_18]; rfl) (by rw [hN]; decide) rfl dX4_raised_112 ?_
      refine z_goto hC 62 (by decide) dX4_raised_115 ?_
      refine z_sub [(2, .int v2), (3, .long v3), (5, .long v5), (7, .long v7), (9, .long x103_16), (11, .long x110_17), (13, .int x112_18)] [3, 4, 5, 6, 2, 1, 0] rfl ?_
      exact hK62 _ _ _ _ _ _ _ h
theorem wX4_raised_L62 {T : zX} {cl ch : Nat} {σ : zSt} (hC : zOk T cX4_raised RX4 0 0 cl ch) (hN : zNL T = 19) {r : Int64} (hQ : zRes T (some .long) (some (.long r)) σ) (n : Nat) : ∀ (v2 : Int32) (v3 : Int64) (v5 : Int64) (v7 : Int64) (v9 : Int64) (v11 : Int64) (v13 : Int32), fX4_raised_L62 n v2 v3 v5 v7 v9 v11 v13  = some r → Z T σ 62 [(2, .int v2), (3, .long v3), (5, .long v5), (7, .long v7), (9, .long v9), (11, .long v11), (13, .int v13)] [] := by
  induction n with
  | zero => intro v2 v3 v5 v7 v9 v11 v13 h; cases h
  | succ n ih => intro v2 v3 v5 v7 v9 v11 v13 h; exact wX4_raised_62 hC hN hQ (fX4_raised_L62 n) ih v2 v3 v5 v7 v9 v11 v13 h
set_option maxRecDepth 100000 in
set_option maxHeartbeats 4000000 in
theorem wX4_raised_0 {T : zX} {cl ch : Nat} {σ : zSt} (hC : zOk T cX4_raised RX4 0 0 cl ch) (hN : zNL T = 19) {r : Int64} (hQ : zRes T (some .long) (some (.long r)) σ) (a0 : Int64) (a2 : Int32)  (h : fX4_raised_0 a0 a2  = some r) : Z T σ 0 [(0, .long a0), (2, .int a2)] [] := by
  unfold fX4_raised_0 at h
  refine z_lload_n hC 0 rfl rfl dX4_raised_0 ?_
  refine z_ldc2 hC kc_X4_32 dX4_raised_1 ?_
  refine z_cmp_ge hC 18 (by decide) dX4_raised_4 dX4_raised_5 (fun q4_1 => ?_) (fun q4_1 => ?_)
  · replace h := z_t q4_1 h
    refine z_lload_n hC 0 rfl rfl dX4_raised_18 ?_
    refine z_bipush hC (20 : Int32) (by decide) dX4_raised_19 ?_
    refine z_lshr hC dX4_raised_21 ?_
    refine z_nmL h (fun x22_2 h => ?_)
    refine z_lstore_n hC [(3, .long x22_2), (0, .long a0), (2, .int a2)] rfl (by rw [hN]; decide) rfl dX4_raised_22 ?_
    refine z_lload_n hC 1 rfl rfl dX4_raised_23 ?_
    refine z_ldc2 hC kc_X4_34 dX4_raised_24 ?_
    refine z_land hC dX4_raised_27 ?_
    refine z_ldc2 hC kc_X4_36 dX4_raised_28 ?_
    refine z_lmul hC dX4_raised_31 ?_
    refine z_nmL h (fun x32_3 h => ?_)
    refine z_lstore hC [(5, .long x32_3), (3, .long x22_2), (0, .long a0), (2, .int a2)] (by rw [hN]; decide) rfl dX4_raised_32 ?_
    refine z_iload_n hC 3 rfl rfl dX4_raised_34 ?_
    refine z_if_eq hC 44 (by decide) dX4_raised_35 (fun q35_4 => ?_) (fun q35_4 => ?_)
    · replace h := z_t q35_4 h
      refine z_lconst hC (0 : Int64) (by decide) dX4_raised_44 ?_
      refine z_lstore hC [(7, .long (0 : Int64)), (5, .long x32_3), (3, .long x22_2), (0, .long a0), (2, .int a2)] (by rw [hN]; decide) rfl dX4_raised_45 ?_
      refine z_lload hC 1 rfl dX4_raised_47 ?_
      refine z_lstore hC [(9, .long x32_3), (7, .long (0 : Int64)), (5, .long x32_3), (3, .long x22_2), (0, .long a0), (2, .int a2)] (by rw [hN]; decide) rfl dX4_raised_49 ?_
      refine z_ldc2 hC kc_X4_40 dX4_raised_51 ?_
      refine z_lload hC 0 rfl dX4_raised_54 ?_
      refine z_ladd hC dX4_raised_56 ?_
      refine z_nmL h (fun x57_5 h => ?_)
      refine z_lstore hC [(11, .long x57_5), (9, .long x32_3), (7, .long (0 : Int64)), (5, .long x32_3), (3, .long x22_2), (0, .long a0), (2, .int a2)] (by rw [hN]; decide) rfl dX4_raised_57 ?_
      refine z_iconst hC (2 : Int32) (by decide) dX4_raised_59 ?_
      refine z_istore hC [(13, .int (2 : Int32)), (11, .long x57_5), (9, .long x32_3), (7, .long (0 : Int64)), (5, .long x32_3), (3, .long x22_2), (0, .long a0), (2, .int a2)] (by rw [hN]; decide) rfl dX4_raised_60 ?_
      refine z_sub [(2, .int a2), (3, .long x22_2), (5, .long x32_3), (7, .long (0 : Int64)), (9, .long x32_3), (11, .long x57_5), (13, .int (2 : Int32))] [7, 5, 4, 3, 2, 1, 0] rfl ?_
      exact (wX4_raised_L62 hC hN hQ zFU) _ _ _ _ _ _ _ h
    · replace h := z_f q35_4 h
      refine z_ldc2 hC kc_X4_38 dX4_raised_38 ?_
      refine z_goto hC 45 (by decide) dX4_raised_41 ?_
      refine z_lstore hC [(7, .long (16777215 : Int64)), (5, .long x32_3), (3, .long x22_2), (0, .long a0), (2, .int a2)] (by rw [hN]; decide) rfl dX4_raised_45 ?_
      refine z_lload hC 1 rfl dX4_raised_47 ?_
      refine z_lstore hC [(9, .long x32_3), (7, .long (16777215 : Int64)), (5, .long x32_3), (3, .long x22_2), (0, .long a0), (2, .int a2)] (by rw [hN]; decide) rfl dX4_raised_49 ?_
      refine z_ldc2 hC kc_X4_40 dX4_raised_51 ?_
      refine z_lload hC 0 rfl dX4_raised_54 ?_
      refine z_ladd hC dX4_raised_56 ?_
      refine z_nmL h (fun x57_6 h => ?_)
      refine z_lstore hC [(11, .long x57_6), (9, .long x32_3), (7, .long (16777215 : Int64)), (5, .long x32_3), (3, .long x22_2), (0, .long a0), (2, .int a2)] (by rw [hN]; decide) rfl dX4_raised_57 ?_
      refine z_iconst hC (2 : Int32) (by decide) dX4_raised_59 ?_
      refine z_istore hC [(13, .int (2 : Int32)), (11, .long x57_6), (9, .long x32_3), (7, .long (16777215 : Int64)), (5, .long x32_3), (3, .long x22_2), (0, .long a0), (2, .int a2)] (by rw [hN]; decide) rfl dX4_raised_60 ?_
      refine z_sub [(2, .int a2), (3, .long x22_2), (5, .long x32_3), (7, .long (16777215 : Int64)), (9, .long x32_3), (11, .long x57_6), (13, .int (2 : Int32))] [7, 5, 4, 3, 2, 1, 0] rfl ?_
      exact (wX4_raised_L62 hC hN hQ zFU) _ _ _ _ _ _ _ h
  · replace h := z_f q4_1 h
    refine z_iload_n hC 1 rfl rfl dX4_raised_8 ?_
    refine z_if_eq hC 16 (by decide) dX4_raised_9 (fun q9_7 => ?_) (fun q9_7 => ?_)
    · replace h := z_t q9_7 h
      refine z_lconst hC (0 : Int64) (by decide) dX4_raised_16 ?_
      obtain rfl := z_so h
      exact z_lret hC hQ dX4_raised_17
    · replace h := z_f q9_7 h
      refine z_lconst hC (1 : Int64) (by decide) dX4_raised_12 ?_
      refine z_goto hC 17 (by decide) dX4_raised_13 ?_
      obtain rfl := z_so h
      exact z_lret hC hQ dX4_raised_17
set_option maxRecDepth 100000 in
theorem ctX4_raised {l : Launch} {G : zGt} {mk : zSt → zSt} {cl ch : Nat} (hm : zM mk cl ch) {a0 : Int64} {a2 : Int32} {σ : zSt} {r : Int64} (h : fX4_raised a0 a2  = some r) : zMet l G mk yX4_raised cX4_raised 19 (some .long) 0 0 [.long a0, .int a2] σ (some (.long r)) σ := by
  unfold fX4_raised at h

  refine zMet.of (plainFor_of_name (by decide +kernel)) hm (Nat.le_of_ble_eq_true rfl) (fun T eL eG eM hN hC hQ => ?_)
  subst eL; subst eG; subst eM
  refine z_sub [(0, .long a0), (2, .int a2)] [0, 1] rfl ?_
  exact wX4_raised_0 hC hN hQ _ _  h
noncomputable def fX4_exp_0 (a0 : Int64) : Option Int64 := 
    (if a0 = (4294967296 : Int64) then some (4294967296 : Int64)
    else 
      (if (fX5_highOf a0) ≤ (7994000 : Int64) then bd1 (fX4_raised (fX5_lowOf a0) (0 : Int32)) fun r28_3 => bd1 (fX4_raised (fX5_highOf a0) (1 : Int32)) fun r36_4 => some (fX5_of r28_3 r36_4)
      else some (4294967296 : Int64)))
noncomputable def fX4_exp (a0 : Int64) : Option Int64 := fX4_exp_0 a0
set_option maxRecDepth 100000 in
set_option maxHeartbeats 4000000 in
theorem wX4_exp_0 {T : zX} {cl ch : Nat} {σ : zSt} (hC : zOk T cX4_exp RX4 1 38 cl ch) (hN : zNL T = 2) {r : Int64} (hQ : zRes T (some .long) (some (.long r)) σ) (a0 : Int64)  (h : fX4_exp_0 a0  = some r) : Z T σ 0 [(0, .long a0)] [] := by
  unfold fX4_exp_0 at h
  refine z_lload_n hC 0 rfl rfl dX4_exp_0 ?_
  refine z_ldc2 hC kc_X4_13 dX4_exp_1 ?_
  refine z_cmp_eq hC 19 (by decide) dX4_exp_4 dX4_exp_5 (fun q4_1 => ?_) (fun q4_1 => ?_)
  · replace h := z_t q4_1 h
    refine z_ldc2 hC kc_X4_13 dX4_exp_19 ?_
    obtain rfl := z_so h
    exact z_lret hC hQ dX4_exp_22
  · replace h := z_f q4_1 h
    refine z_lload_n hC 0 rfl rfl dX4_exp_8 ?_
    refine z_cS1r hC (ctX5_highOf hC.hm) kb_X5_highOf km_X4_15 ⟨by decide, by decide⟩ (Nat.le_of_ble_eq_true rfl) dX4_exp_9 ?_
    refine z_ldc2 hC kc_X4_19 dX4_exp_12 ?_
    refine z_cmp_le hC 23 (by decide) dX4_exp_15 dX4_exp_16 (fun q15_2 => ?_) (fun q15_2 => ?_)
    · replace h := z_t q15_2 h
      refine z_lload_n hC 0 rfl rfl dX4_exp_23 ?_
      refine z_cS1r hC (ctX5_lowOf hC.hm) kb_X5_lowOf km_X4_21 ⟨by decide, by decide⟩ (Nat.le_of_ble_eq_true rfl) dX4_exp_24 ?_
      refine z_iconst hC (0 : Int32) (by decide) dX4_exp_27 ?_
      refine z_b1 h (fun r28_3 e_r28_3 h => ?_)
      refine z_cS2r hC (ctX4_raised hC.hm e_r28_3) kb_X4_raised km_X4_24 ⟨by decide, by decide⟩ (Nat.le_of_ble_eq_true rfl) dX4_exp_28 ?_
      refine z_lload_n hC 0 rfl rfl dX4_exp_31 ?_
      refine z_cS1r hC (ctX5_highOf hC.hm) kb_X5_highOf km_X4_15 ⟨by decide, by decide⟩ (Nat.le_of_ble_eq_true rfl) dX4_exp_32 ?_
      refine z_iconst hC (1 : Int32) (by decide) dX4_exp_35 ?_
      refine z_b1 h (fun r36_4 e_r36_4 h => ?_)
      refine z_cS2r hC (ctX4_raised hC.hm e_r36_4) kb_X4_raised km_X4_24 ⟨by decide, by decide⟩ (Nat.le_of_ble_eq_true rfl) dX4_exp_36 ?_
      refine z_cS2r hC (ctX5_of hC.hm) kb_X5_of km_X4_28 ⟨by decide, by decide⟩ (Nat.le_of_ble_eq_true rfl) dX4_exp_39 ?_
      obtain rfl := z_so h
      exact z_lret hC hQ dX4_exp_42
    · replace h := z_f q15_2 h
      refine z_ldc2 hC kc_X4_13 dX4_exp_19 ?_
      obtain rfl := z_so h
      exact z_lret hC hQ dX4_exp_22
set_option maxRecDepth 100000 in
theorem ctX4_exp {l : Launch} {G : zGt} {mk : zSt → zSt} {cl ch : Nat} (hm : zM mk cl ch) {a0 : Int64} {σ : zSt} {r : Int64} (h : fX4_exp a0  = some r) : zMet l G mk yX4_exp cX4_exp 2 (some .long) 1 38 [.long a0] σ (some (.long r)) σ := by
  unfold fX4_exp at h

  refine zMet.of (plainFor_of_name (by decide +kernel)) hm (Nat.le_of_ble_eq_true rfl) (fun T eL eG eM hN hC hQ => ?_)
  subst eL; subst eG; subst eM
  refine z_sub [(0, .long a0)] [0] rfl ?_
  exact wX4_exp_0 hC hN hQ _  h
noncomputable def fX4_halved_12 (K12 : Int64 → Int32 → Int64 → Int64 → Int32 → Option Int64) (v0 : Int64) (v2 : Int32) (v3 : Int64) (v5 : Int64) (v7 : Int32) : Option Int64 := 
    (if (40 : Int32) ≤ v7 then some v3
    else 
      (if v5 ≤ v3 then some v3
      else nm (jshrL ((v3 + v5) + (1 : Int64)) (1 : Int32)) fun x34_3 => bd1 (fX4_raised x34_3 v2) fun r39_4 => 
        (if v0 < r39_4 then nm (x34_3 - (1 : Int64)) fun x57_6 => nm (v7 + (1 : Int32)) fun x59_7 => K12 v0 v2 v3 x57_6 x59_7
        else nm (v7 + (1 : Int32)) fun x59_8 => K12 v0 v2 x34_3 v5 x59_8)))
noncomputable def fX4_halved_L12 : Nat → Int64 → Int32 → Int64 → Int64 → Int32 → Option Int64
  | 0, _, _, _, _, _ => none
  | n + 1, v0, v2, v3, v5, v7 => fX4_halved_12 (fX4_halved_L12 n) v0 v2 v3 v5 v7 
noncomputable def fX4_halved_0 (a0 : Int64) (a2 : Int32) : Option Int64 := fX4_halved_L12 zFU a0 a2 (-14680064 : Int64) (7994000 : Int64) (0 : Int32)
noncomputable def fX4_halved (a0 : Int64) (a2 : Int32) : Option Int64 := fX4_halved_0 a0 a2
set_option maxRecDepth 100000 in
set_option maxHeartbeats 4000000 in
theorem wX4_halved_12 {T : zX} {cl ch : Nat} {σ : zSt} (hC : zOk T cX4_halved RX4 1 38 cl ch) (hN : zNL T = 10) {r : Int64} (hQ : zRes T (some .long) (some (.long r)) σ) (K12 : Int64 → Int32 → Int64 → Int64 → Int32 → Option Int64) (hK12 : ∀ (v0 : Int64) (v2 : Int32) (v3 : Int64) (v5 : Int64) (v7 : Int32), K12 v0 v2 v3 v5 v7  = some r → Z T σ 12 [(0, .long v0), (2, .int v2), (3, .long v3), (5, .long v5), (7, .int v7)] []) (v0 : Int64) (v2 : Int32) (v3 : Int64) (v5 : Int64) (v7 : Int32)  (h : fX4_halved_12 K12 v0 v2 v3 v5 v7  = some r) : Z T σ 12 [(0, .long v0), (2, .int v2), (3, .long v3), (5, .long v5), (7, .int v7)] [] := by
  unfold fX4_halved_12 at h
  refine z_iload hC 4 rfl dX4_halved_12 ?_
  refine z_bipush hC (40 : Int32) (by decide) dX4_halved_14 ?_
  refine z_icmp_ge hC 65 (by decide) dX4_halved_16 (fun q16_1 => ?_) (fun q16_1 => ?_)
  · replace h := z_t q16_1 h
    refine z_lload_n hC 2 rfl rfl dX4_halved_65 ?_
    obtain rfl := z_so h
    exact z_lret hC hQ dX4_halved_66
  · replace h := z_f q16_1 h
    refine z_lload_n hC 2 rfl rfl dX4_halved_19 ?_
    refine z_lload hC 3 rfl dX4_halved_20 ?_
    refine z_cmp_ge hC 65 (by decide) dX4_halved_22 dX4_halved_23 (fun q22_2 => ?_) (fun q22_2 => ?_)
    · replace h := z_t q22_2 h
      refine z_lload_n hC 2 rfl rfl dX4_halved_65 ?_
      obtain rfl := z_so h
      exact z_lret hC hQ dX4_halved_66
    · replace h := z_f q22_2 h
      refine z_lload_n hC 2 rfl rfl dX4_halved_26 ?_
      refine z_lload hC 3 rfl dX4_halved_27 ?_
      refine z_ladd hC dX4_halved_29 ?_
      refine z_lconst hC (1 : Int64) (by decide) dX4_halved_30 ?_
      refine z_ladd hC dX4_halved_31 ?_
      refine z_iconst hC (1 : Int32) (by decide) dX4_halved_32 ?_
      refine z_lshr hC dX4_halved_33 ?_
      refine z_nmL h (fun x34_3 h => ?_)
      refine z_lstore hC [(8, .long x34_3), (0, .long v0), (2, .int v2), (3, .long v3), (5, .long v5), (7, .int v7)] (by rw [hN]; decide) rfl dX4_halved_34 ?_
      refine z_lload hC 0 rfl dX4_halved_36 ?_
      refine z_iload_n hC 2 rfl rfl dX4_halved_38 ?_
      refine z_b1 h (fun r39_4 e_r39_4 h => ?_)
      refine z_cS2r hC (ctX4_raised hC.hm e_r39_4) kb_X4_raised km_X4_24 ⟨by decide, by decide⟩ (Nat.le_of_ble_eq_true rfl) dX4_halved_39 ?_
      refine z_lload_n hC 1 rfl rfl dX4_halved_42 ?_
      refine z_cmp_gt hC 53 (by decide) dX4_halved_43 dX4_halved_44 (fun q43_5 => ?_) (fun q43_5 => ?_)
      · replace h := z_t q43_5 h
        refine z_lload hC 0 rfl dX4_halved_53 ?_
        refine z_lconst hC (1 : Int64) (by decide) dX4_halved_55 ?_
        refine z_lsub hC dX4_halved_56 ?_
        refine z_nmL h (fun x57_6 h => ?_)
        refine z_lstore hC [(5, .long x57_6), (8, .long x34_3), (0, .long v0), (2, .int v2), (3, .long v3), (7, .int v7)] (by rw [hN]; decide) rfl dX4_halved_57 ?_
        refine z_nmE h (fun x59_7 e_x59_7 h => ?_)
        refine z_iinc hC x59_7 [(7, .int x59_7), (5, .long x57_6), (8, .long x34_3), (0, .long v0), (2, .int v2), (3, .long v3)] 5 rfl (by rw [e_x59_7]; rfl) (by rw [hN]; decide) rfl dX4_halved_59 ?_
        refine z_goto hC 12 (by decide) dX4_halved_62 ?_
        refine z_sub [(0, .long v0), (2, .int v2), (3, .long v3), (5, .long x57_6), (7, .int x59_7)] [3, 4, 5, 1, 0] rfl ?_
        exact hK12 _ _ _ _ _ h
      · replace h := z_f q43_5 h
        refine z_lload hC 0 rfl dX4_halved_47 ?_
        refine z_lstore_n hC [(3, .long x34_3), (8, .long x34_3), (0, .long v0), (2, .int v2), (5, .long v5), (7, .int v7)] rfl (by rw [hN]; decide) rfl dX4_halved_49 ?_
        refine z_goto hC 59 (by decide) dX4_halved_50 ?_
        refine z_nmE h (fun x59_8 e_x59_8 h => ?_)
        refine z_iinc hC x59_8 [(7, .int x59_8), (3, .long x34_3), (8, .long x34_3), (0, .long v0), (2, .int v2), (5, .long v5)] 5 rfl (by rw [e_x59_8]; rfl) (by rw [hN]; decide) rfl dX4_halved_59 ?_
        refine z_goto hC 12 (by decide) dX4_halved_62 ?_
        refine z_sub [(0, .long v0), (2, .int v2), (3, .long x34_3), (5, .long v5), (7, .int x59_8)] [3, 4, 1, 5, 0] rfl ?_
        exact hK12 _ _ _ _ _ h
theorem wX4_halved_L12 {T : zX} {cl ch : Nat} {σ : zSt} (hC : zOk T cX4_halved RX4 1 38 cl ch) (hN : zNL T = 10) {r : Int64} (hQ : zRes T (some .long) (some (.long r)) σ) (n : Nat) : ∀ (v0 : Int64) (v2 : Int32) (v3 : Int64) (v5 : Int64) (v7 : Int32), fX4_halved_L12 n v0 v2 v3 v5 v7  = some r → Z T σ 12 [(0, .long v0), (2, .int v2), (3, .long v3), (5, .long v5), (7, .int v7)] [] := by
  induction n with
  | zero => intro v0 v2 v3 v5 v7 h; cases h
  | succ n ih => intro v0 v2 v3 v5 v7 h; exact wX4_halved_12 hC hN hQ (fX4_halved_L12 n) ih v0 v2 v3 v5 v7 h
set_option maxRecDepth 100000 in
set_option maxHeartbeats 4000000 in
theorem wX4_halved_0 {T : zX} {cl ch : Nat} {σ : zSt} (hC : zOk T cX4_halved RX4 1 38 cl ch) (hN : zNL T = 10) {r : Int64} (hQ : zRes T (some .long) (some (.long r)) σ) (a0 : Int64) (a2 : Int32)  (h : fX4_halved_0 a0 a2  = some r) : Z T σ 0 [(0, .long a0), (2, .int a2)] [] := by
  unfold fX4_halved_0 at h
  refine z_ldc2 hC kc_X4_32 dX4_halved_0 ?_
  refine z_lstore_n hC [(3, .long (-14680064 : Int64)), (0, .long a0), (2, .int a2)] rfl (by rw [hN]; decide) rfl dX4_halved_3 ?_
  refine z_ldc2 hC kc_X4_19 dX4_halved_4 ?_
  refine z_lstore hC [(5, .long (7994000 : Int64)), (3, .long (-14680064 : Int64)), (0, .long a0), (2, .int a2)] (by rw [hN]; decide) rfl dX4_halved_7 ?_
  refine z_iconst hC (0 : Int32) (by decide) dX4_halved_9 ?_
  refine z_istore hC [(7, .int (0 : Int32)), (5, .long (7994000 : Int64)), (3, .long (-14680064 : Int64)), (0, .long a0), (2, .int a2)] (by rw [hN]; decide) rfl dX4_halved_10 ?_
  refine z_sub [(0, .long a0), (2, .int a2), (3, .long (-14680064 : Int64)), (5, .long (7994000 : Int64)), (7, .int (0 : Int32))] [3, 4, 2, 1, 0] rfl ?_
  exact (wX4_halved_L12 hC hN hQ zFU) _ _ _ _ _ h
set_option maxRecDepth 100000 in
theorem ctX4_halved {l : Launch} {G : zGt} {mk : zSt → zSt} {cl ch : Nat} (hm : zM mk cl ch) {a0 : Int64} {a2 : Int32} {σ : zSt} {r : Int64} (h : fX4_halved a0 a2  = some r) : zMet l G mk yX4_halved cX4_halved 10 (some .long) 1 38 [.long a0, .int a2] σ (some (.long r)) σ := by
  unfold fX4_halved at h

  refine zMet.of (plainFor_of_name (by decide +kernel)) hm (Nat.le_of_ble_eq_true rfl) (fun T eL eG eM hN hC hQ => ?_)
  subst eL; subst eG; subst eM
  refine z_sub [(0, .long a0), (2, .int a2)] [0, 1] rfl ?_
  exact wX4_halved_0 hC hN hQ _ _  h
noncomputable def fX4_log_0 (a0 : Int64) : Option Int64 := 
    (if a0 = (4294967296 : Int64) then some (4294967296 : Int64)
    else 
      (if (0 : Int64) < (fX5_lowOf a0) then bd1 (fX4_halved ((fX5_highOf a0) - (1 : Int64)) (0 : Int32)) fun r28_3 => bd1 (fX4_halved (fX5_lowOf a0) (1 : Int32)) fun r37_4 => 
        (if r28_3 = (7994000 : Int64) then some (fX5_of r37_4 (7995393 : Int64))
        else some (fX5_of r37_4 (r28_3 + (1 : Int64))))
      else some (4294967296 : Int64)))
noncomputable def fX4_log (a0 : Int64) : Option Int64 := fX4_log_0 a0
set_option maxRecDepth 100000 in
set_option maxHeartbeats 4000000 in
theorem wX4_log_0 {T : zX} {cl ch : Nat} {σ : zSt} (hC : zOk T cX4_log RX4 2 67 cl ch) (hN : zNL T = 4) {r : Int64} (hQ : zRes T (some .long) (some (.long r)) σ) (a0 : Int64)  (h : fX4_log_0 a0  = some r) : Z T σ 0 [(0, .long a0)] [] := by
  unfold fX4_log_0 at h
  refine z_lload_n hC 0 rfl rfl dX4_log_0 ?_
  refine z_ldc2 hC kc_X4_13 dX4_log_1 ?_
  refine z_cmp_eq hC 17 (by decide) dX4_log_4 dX4_log_5 (fun q4_1 => ?_) (fun q4_1 => ?_)
  · replace h := z_t q4_1 h
    refine z_ldc2 hC kc_X4_13 dX4_log_17 ?_
    obtain rfl := z_so h
    exact z_lret hC hQ dX4_log_20
  · replace h := z_f q4_1 h
    refine z_lload_n hC 0 rfl rfl dX4_log_8 ?_
    refine z_cS1r hC (ctX5_lowOf hC.hm) kb_X5_lowOf km_X4_21 ⟨by decide, by decide⟩ (Nat.le_of_ble_eq_true rfl) dX4_log_9 ?_
    refine z_lconst hC (0 : Int64) (by decide) dX4_log_12 ?_
    refine z_cmp_gt hC 21 (by decide) dX4_log_13 dX4_log_14 (fun q13_2 => ?_) (fun q13_2 => ?_)
    · replace h := z_t q13_2 h
      refine z_lload_n hC 0 rfl rfl dX4_log_21 ?_
      refine z_cS1r hC (ctX5_highOf hC.hm) kb_X5_highOf km_X4_15 ⟨by decide, by decide⟩ (Nat.le_of_ble_eq_true rfl) dX4_log_22 ?_
      refine z_lconst hC (1 : Int64) (by decide) dX4_log_25 ?_
      refine z_lsub hC dX4_log_26 ?_
      refine z_iconst hC (0 : Int32) (by decide) dX4_log_27 ?_
      refine z_b1 h (fun r28_3 e_r28_3 h => ?_)
      refine z_cS2r hC (ctX4_halved hC.hm e_r28_3) kb_X4_halved km_X4_46 ⟨by decide, by decide⟩ (Nat.le_of_ble_eq_true rfl) dX4_log_28 ?_
      refine z_lstore_n hC [(2, .long r28_3), (0, .long a0)] rfl (by rw [hN]; decide) rfl dX4_log_31 ?_
      refine z_lload_n hC 1 rfl rfl dX4_log_32 ?_
      refine z_cS1r hC (ctX5_lowOf hC.hm) kb_X5_lowOf km_X4_21 ⟨by decide, by decide⟩ (Nat.le_of_ble_eq_true rfl) dX4_log_33 ?_
      refine z_iconst hC (1 : Int32) (by decide) dX4_log_36 ?_
      refine z_b1 h (fun r37_4 e_r37_4 h => ?_)
      refine z_cS2r hC (ctX4_halved hC.hm e_r37_4) kb_X4_halved km_X4_46 ⟨by decide, by decide⟩ (Nat.le_of_ble_eq_true rfl) dX4_log_37 ?_
      refine z_lload_n hC 0 rfl rfl dX4_log_40 ?_
      refine z_ldc2 hC kc_X4_19 dX4_log_41 ?_
      refine z_cmp_ne hC 54 (by decide) dX4_log_44 dX4_log_45 (fun q44_5 => ?_) (fun q44_5 => ?_)
      · replace h := z_f q44_5 h
        refine z_lload_n hC 0 rfl rfl dX4_log_54 ?_
        refine z_lconst hC (1 : Int64) (by decide) dX4_log_55 ?_
        refine z_ladd hC dX4_log_56 ?_
        refine z_cS2r hC (ctX5_of hC.hm) kb_X5_of km_X4_28 ⟨by decide, by decide⟩ (Nat.le_of_ble_eq_true rfl) dX4_log_57 ?_
        obtain rfl := z_so h
        exact z_lret hC hQ dX4_log_60
      · replace h := z_t q44_5 h
        refine z_ldc2 hC kc_X4_49 dX4_log_48 ?_
        refine z_goto hC 57 (by decide) dX4_log_51 ?_
        refine z_cS2r hC (ctX5_of hC.hm) kb_X5_of km_X4_28 ⟨by decide, by decide⟩ (Nat.le_of_ble_eq_true rfl) dX4_log_57 ?_
        obtain rfl := z_so h
        exact z_lret hC hQ dX4_log_60
    · replace h := z_f q13_2 h
      refine z_ldc2 hC kc_X4_13 dX4_log_17 ?_
      obtain rfl := z_so h
      exact z_lret hC hQ dX4_log_20
set_option maxRecDepth 100000 in
theorem ctX4_log {l : Launch} {G : zGt} {mk : zSt → zSt} {cl ch : Nat} (hm : zM mk cl ch) {a0 : Int64} {σ : zSt} {r : Int64} (h : fX4_log a0  = some r) : zMet l G mk yX4_log cX4_log 4 (some .long) 2 67 [.long a0] σ (some (.long r)) σ := by
  unfold fX4_log at h

  refine zMet.of (plainFor_of_name (by decide +kernel)) hm (Nat.le_of_ble_eq_true rfl) (fun T eL eG eM hN hC hQ => ?_)
  subst eL; subst eG; subst eM
  refine z_sub [(0, .long a0)] [0] rfl ?_
  exact wX4_log_0 hC hN hQ _  h
noncomputable def fX4_wave_316 (v5 : Int64) (v22 : Int64) (t0 : Int64) : Option Int64 := nm (-(jshrL t0 (4 : Int32))) fun x319_1 => nm (if (-1048576 : Int64) < (v22 - v5) then (v22 - v5) else (-1048576 : Int64)) fun x329_2 => nm (if (1048576 : Int64) < (x319_1 + v5) then (1048576 : Int64) else (x319_1 + v5)) fun x340_3 => some (fX5_of x329_2 x340_3)
noncomputable def fX4_wave_283 (v5 : Int64) (v17 : Int64) (v19 : Int64) : Option Int64 := nm (jshrL v17 (4 : Int32)) fun x301_1 => fX4_wave_316 v5 x301_1 (-v19)
noncomputable def fX4_wave_242 (K136 : Int32 → Int64 → Int64 → Int64 → Int64 → Int64 → Int64 → Int64 → Int64 → Int32 → Option Int64) (v2 : Int32) (v3 : Int64) (v5 : Int64) (v9 : Int64) (v11 : Int64) (v13 : Int64) (v15 : Int64) (v19 : Int64) (v21 : Int32) (v24 : Int32) (t0 : Int64) (t1 : Int64) : Option Int64 := nm (t1 + t0) fun x243_1 => 
    (if v24 = 0 then nm (v19 + (-v13)) fun x261_3 => nm (v21 + (1 : Int32)) fun x263_4 => K136 v2 v3 v5 v9 v11 v13 v15 x243_1 x261_3 x263_4
    else nm (v19 + v15) fun x261_5 => nm (v21 + (1 : Int32)) fun x263_6 => K136 v2 v3 v5 v9 v11 v13 v15 x243_1 x261_5 x263_6)
noncomputable def fX4_wave_174 (K136 : Int32 → Int64 → Int64 → Int64 → Int64 → Int64 → Int64 → Int64 → Int64 → Int32 → Option Int64) (v2 : Int32) (v3 : Int64) (v5 : Int64) (v9 : Int64) (v11 : Int64) (v13 : Int64) (v15 : Int64) (v17 : Int64) (v19 : Int64) (v21 : Int32) (t0 : Int64) : Option Int64 := zg (¬ t0 = 0) <| nm ((jshrL (v13 * v9) (24 : Int32)) / t0) fun x187_2 => nm (jshrL (((v15 * v11) + (16777216 : Int64)) - (1 : Int64)) (24 : Int32)) fun x202_3 => zg (¬ t0 = 0) <| nm (((x202_3 + t0) - (1 : Int64)) / t0) fun x211_5 => 
    (if (v21 &&& (1 : Int32)) = 0 then fX4_wave_242 K136 v2 v3 v5 v9 v11 x187_2 x211_5 v19 v21 (1 : Int32) x187_2 v17
    else fX4_wave_242 K136 v2 v3 v5 v9 v11 x187_2 x211_5 v19 v21 (0 : Int32) (-x211_5) v17)
noncomputable def fX4_wave_136 (K136 : Int32 → Int64 → Int64 → Int64 → Int64 → Int64 → Int64 → Int64 → Int64 → Int32 → Option Int64) (v2 : Int32) (v3 : Int64) (v5 : Int64) (v9 : Int64) (v11 : Int64) (v13 : Int64) (v15 : Int64) (v17 : Int64) (v19 : Int64) (v21 : Int32) : Option Int64 := 
    (if (20 : Int32) ≤ v21 then 
      (if v2 = 0 then 
        (if (0 : Int64) ≤ v3 then fX4_wave_283 v5 v17 v19
        else nm (jshrL (-v19) (4 : Int32)) fun x301_4 => fX4_wave_316 v5 x301_4 v17)
      else fX4_wave_283 v5 v17 v19)
    else 
      (if v2 = 0 then nm (Int32.toInt64 (((2 : Int32) * v21) * (((2 : Int32) * v21) + (1 : Int32)))) fun x173_6 => fX4_wave_174 K136 v2 v3 v5 v9 v11 v13 v15 v17 v19 v21 x173_6
      else nm (Int32.toInt64 (((((2 : Int32) * v21) - (1 : Int32)) * (2 : Int32)) * v21)) fun x158_7 => fX4_wave_174 K136 v2 v3 v5 v9 v11 v13 v15 v17 v19 v21 x158_7))
noncomputable def fX4_wave_L136 : Nat → Int32 → Int64 → Int64 → Int64 → Int64 → Int64 → Int64 → Int64 → Int64 → Int32 → Option Int64
  | 0, _, _, _, _, _, _, _, _, _, _ => none
  | n + 1, v2, v3, v5, v9, v11, v13, v15, v17, v19, v21 => fX4_wave_136 (fX4_wave_L136 n) v2 v3 v5 v9 v11 v13 v15 v17 v19 v21 
noncomputable def fX4_wave_0 (a0 : Int64) (a2 : Int32) : Option Int64 := 
    (if a0 = (4294967296 : Int64) then some (4294967296 : Int64)
    else nm (jshrL ((fX5_lowOf a0) + (fX5_highOf a0)) (1 : Int32)) fun x23_2 => nm ((fX5_highOf a0) - x23_2) fun x30_3 => 
      (if (6815744 : Int64) < x23_2 then some (fX5_of (-1048576 : Int64) (1048576 : Int64))
      else 
        (if x23_2 < (-6815744 : Int64) then some (fX5_of (-1048576 : Int64) (1048576 : Int64))
        else 
          (if x30_3 ≤ (1048576 : Int64) then nm ((if 0 < x23_2 then x23_2 else -x23_2) * (16 : Int64)) fun x75_7 => nm (jshrL (x75_7 * x75_7) (24 : Int32)) fun x85_8 => nm (jshrL (((x75_7 * x75_7) + (16777216 : Int64)) - (1 : Int64)) (24 : Int32)) fun x100_9 => 
            (if a2 = 0 then nm (x75_7 - (1 : Int64)) fun x125_11 => nm (x75_7 + (1 : Int64)) fun x131_12 => fX4_wave_L136 zFU a2 x23_2 x30_3 x85_8 x100_9 x75_7 x75_7 x125_11 x131_12 (1 : Int32)
            else nm ((16777216 : Int64) - (1 : Int64)) fun x125_13 => nm ((16777216 : Int64) + (1 : Int64)) fun x131_14 => fX4_wave_L136 zFU a2 x23_2 x30_3 x85_8 x100_9 (16777216 : Int64) (16777216 : Int64) x125_13 x131_14 (1 : Int32))
          else some (fX5_of (-1048576 : Int64) (1048576 : Int64))))))
noncomputable def fX4_wave (a0 : Int64) (a2 : Int32) : Option Int64 := fX4_wave_0 a0 a2
set_option maxRecDepth 100000 in
set_option maxHeartbeats 4000000 in
theorem wX4_wave_316 {T : zX} {cl ch : Nat} {σ : zSt} (hC : zOk T cX4_wave RX4 1 23 cl ch) (hN : zNL T = 26) {r : Int64} (hQ : zRes T (some .long) (some (.long r)) σ) (v5 : Int64) (v22 : Int64) (t0 : Int64)  (h : fX4_wave_316 v5 v22 t0  = some r) : Z T σ 316 [(5, .long v5), (22, .long v22)] [.long t0] := by
  unfold fX4_wave_316 at h
  refine z_iconst hC (4 : Int32) (by decide) dX4_wave_316 ?_
  refine z_lshr hC dX4_wave_317 ?_
  refine z_lneg hC dX4_wave_318 ?_
  refine z_nmL h (fun x319_1 h => ?_)
  refine z_lstore hC [(24, .long x319_1), (5, .long v5), (22, .long v22)] (by rw [hN]; decide) rfl dX4_wave_319 ?_
  refine z_lload hC 2 rfl dX4_wave_321 ?_
  refine z_lload hC 1 rfl dX4_wave_323 ?_
  refine z_lsub hC dX4_wave_325 ?_
  refine z_ldc2 hC kc_X4_57 dX4_wave_326 ?_
  refine z_mmaxL hC km_X4_64 (Nat.le_of_ble_eq_true rfl) (Nat.le_of_ble_eq_true rfl) dX4_wave_329 ?_
  refine z_nmL h (fun x329_2 h => ?_)
  refine z_lload hC 0 rfl dX4_wave_332 ?_
  refine z_lload hC 1 rfl dX4_wave_334 ?_
  refine z_ladd hC dX4_wave_336 ?_
  refine z_ldc2 hC kc_X4_55 dX4_wave_337 ?_
  refine z_mminL hC km_X4_67 (Nat.le_of_ble_eq_true rfl) (Nat.le_of_ble_eq_true rfl) dX4_wave_340 ?_
  refine z_nmL h (fun x340_3 h => ?_)
  refine z_cS2r hC (ctX5_of hC.hm) kb_X5_of km_X4_28 ⟨by decide, by decide⟩ (Nat.le_of_ble_eq_true rfl) dX4_wave_343 ?_
  obtain rfl := z_so h
  exact z_lret hC hQ dX4_wave_346
set_option maxRecDepth 100000 in
set_option maxHeartbeats 4000000 in
theorem wX4_wave_283 {T : zX} {cl ch : Nat} {σ : zSt} (hC : zOk T cX4_wave RX4 1 23 cl ch) (hN : zNL T = 26) {r : Int64} (hQ : zRes T (some .long) (some (.long r)) σ) (v5 : Int64) (v17 : Int64) (v19 : Int64)  (h : fX4_wave_283 v5 v17 v19  = some r) : Z T σ 283 [(5, .long v5), (17, .long v17), (19, .long v19)] [] := by
  unfold fX4_wave_283 at h
  refine z_iconst hC (0 : Int32) (by decide) dX4_wave_283 ?_
  refine z_istore hC [(21, .int (0 : Int32)), (5, .long v5), (17, .long v17), (19, .long v19)] (by rw [hN]; decide) rfl dX4_wave_284 ?_
  refine z_iload hC 0 rfl dX4_wave_286 ?_
  refine z_if_eq hC 297 (by decide) dX4_wave_288 (fun q => ?_) (fun q => absurd q (by decide))
  refine z_lload hC 2 rfl dX4_wave_297 ?_
  refine z_iconst hC (4 : Int32) (by decide) dX4_wave_299 ?_
  refine z_lshr hC dX4_wave_300 ?_
  refine z_nmL h (fun x301_1 h => ?_)
  refine z_lstore hC [(22, .long x301_1), (21, .int (0 : Int32)), (5, .long v5), (17, .long v17), (19, .long v19)] (by rw [hN]; decide) rfl dX4_wave_301 ?_
  refine z_iload hC 1 rfl dX4_wave_303 ?_
  refine z_if_eq hC 313 (by decide) dX4_wave_305 (fun q => ?_) (fun q => absurd q (by decide))
  refine z_lload hC 4 rfl dX4_wave_313 ?_
  refine z_lneg hC dX4_wave_315 ?_
  refine z_sub [(5, .long v5), (22, .long x301_1)] [2, 0] rfl ?_
  exact (wX4_wave_316 hC hN hQ ) _ _ _ h
set_option maxRecDepth 100000 in
set_option maxHeartbeats 4000000 in
theorem wX4_wave_242 {T : zX} {cl ch : Nat} {σ : zSt} (hC : zOk T cX4_wave RX4 1 23 cl ch) (hN : zNL T = 26) {r : Int64} (hQ : zRes T (some .long) (some (.long r)) σ) (K136 : Int32 → Int64 → Int64 → Int64 → Int64 → Int64 → Int64 → Int64 → Int64 → Int32 → Option Int64) (hK136 : ∀ (v2 : Int32) (v3 : Int64) (v5 : Int64) (v9 : Int64) (v11 : Int64) (v13 : Int64) (v15 : Int64) (v17 : Int64) (v19 : Int64) (v21 : Int32), K136 v2 v3 v5 v9 v11 v13 v15 v17 v19 v21  = some r → Z T σ 136 [(2, .int v2), (3, .long v3), (5, .long v5), (9, .long v9), (11, .long v11), (13, .long v13), (15, .long v15), (17, .long v17), (19, .long v19), (21, .int v21)] []) (v2 : Int32) (v3 : Int64) (v5 : Int64) (v9 : Int64) (v11 : Int64) (v13 : Int64) (v15 : Int64) (v19 : Int64) (v21 : Int32) (v24 : Int32) (t0 : Int64) (t1 : Int64)  (h : fX4_wave_242 K136 v2 v3 v5 v9 v11 v13 v15 v19 v21 v24 t0 t1  = some r) : Z T σ 242 [(2, .int v2), (3, .long v3), (5, .long v5), (9, .long v9), (11, .long v11), (13, .long v13), (15, .long v15), (19, .long v19), (21, .int v21), (24, .int v24)] [.long t0, .long t1] := by
  unfold fX4_wave_242 at h
  refine z_ladd hC dX4_wave_242 ?_
  refine z_nmL h (fun x243_1 h => ?_)
  refine z_lstore hC [(17, .long x243_1), (2, .int v2), (3, .long v3), (5, .long v5), (9, .long v9), (11, .long v11), (13, .long v13), (15, .long v15), (19, .long v19), (21, .int v21), (24, .int v24)] (by rw [hN]; decide) rfl dX4_wave_243 ?_
  refine z_lload hC 8 rfl dX4_wave_245 ?_
  refine z_iload hC 10 rfl dX4_wave_247 ?_
  refine z_if_eq hC 257 (by decide) dX4_wave_249 (fun q249_2 => ?_) (fun q249_2 => ?_)
  · replace h := z_t q249_2 h
    refine z_lload hC 6 rfl dX4_wave_257 ?_
    refine z_lneg hC dX4_wave_259 ?_
    refine z_ladd hC dX4_wave_260 ?_
    refine z_nmL h (fun x261_3 h => ?_)
    refine z_lstore hC [(19, .long x261_3), (17, .long x243_1), (2, .int v2), (3, .long v3), (5, .long v5), (9, .long v9), (11, .long v11), (13, .long v13), (15, .long v15), (21, .int v21), (24, .int v24)] (by rw [hN]; decide) rfl dX4_wave_261 ?_
    refine z_nmE h (fun x263_4 e_x263_4 h => ?_)
    refine z_iinc hC x263_4 [(21, .int x263_4), (19, .long x261_3), (17, .long x243_1), (2, .int v2), (3, .long v3), (5, .long v5), (9, .long v9), (11, .long v11), (13, .long v13), (15, .long v15), (24, .int v24)] 9 rfl (by rw [e_x263_4]; rfl) (by rw [hN]; decide) rfl dX4_wave_263 ?_
    refine z_goto hC 136 (by decide) dX4_wave_266 ?_
    refine z_sub [(2, .int v2), (3, .long v3), (5, .long v5), (9, .long v9), (11, .long v11), (13, .long v13), (15, .long v15), (17, .long x243_1), (19, .long x261_3), (21, .int x263_4)] [3, 4, 5, 6, 7, 8, 9, 2, 1, 0] rfl ?_
    exact hK136 _ _ _ _ _ _ _ _ _ _ h
  · replace h := z_f q249_2 h
    refine z_lload hC 7 rfl dX4_wave_252 ?_
    refine z_goto hC 260 (by decide) dX4_wave_254 ?_
    refine z_ladd hC dX4_wave_260 ?_
    refine z_nmL h (fun x261_5 h => ?_)
    refine z_lstore hC [(19, .long x261_5), (17, .long x243_1), (2, .int v2), (3, .long v3), (5, .long v5), (9, .long v9), (11, .long v11), (13, .long v13), (15, .long v15), (21, .int v21), (24, .int v24)] (by rw [hN]; decide) rfl dX4_wave_261 ?_
    refine z_nmE h (fun x263_6 e_x263_6 h => ?_)
    refine z_iinc hC x263_6 [(21, .int x263_6), (19, .long x261_5), (17, .long x243_1), (2, .int v2), (3, .long v3), (5, .long v5), (9, .long v9), (11, .long v11), (13, .long v13), (15, .long v15), (24, .int v24)] 9 rfl (by rw [e_x263_6]; rfl) (by rw [hN]; decide) rfl dX4_wave_263 ?_
    refine z_goto hC 136 (by decide) dX4_wave_266 ?_
    refine z_sub [(2, .int v2), (3, .long v3), (5, .long v5), (9, .long v9), (11, .long v11), (13, .long v13), (15, .long v15), (17, .long x243_1), (19, .long x261_5), (21, .int x263_6)] [3, 4, 5, 6, 7, 8, 9, 2, 1, 0] rfl ?_
    exact hK136 _ _ _ _ _ _ _ _ _ _ h
set_option maxRecDepth 100000 in
set_option maxHeartbeats 4000000 in
theorem wX4_wave_174 {T : zX} {cl ch : Nat} {σ : zSt} (hC : zOk T cX4_wave RX4 1 23 cl ch) (hN : zNL T = 26) {r : Int64} (hQ : zRes T (some .long) (some (.long r)) σ) (K136 : Int32 → Int64 → Int64 → Int64 → Int64 → Int64 → Int64 → Int64 → Int64 → Int32 → Option Int64) (hK136 : ∀ (v2 : Int32) (v3 : Int64) (v5 : Int64) (v9 : Int64) (v11 : Int64) (v13 : Int64) (v15 : Int64) (v17 : Int64) (v19 : Int64) (v21 : Int32), K136 v2 v3 v5 v9 v11 v13 v15 v17 v19 v21  = some r → Z T σ 136 [(2, .int v2), (3, .long v3), (5, .long v5), (9, .long v9), (11, .long v11), (13, .long v13), (15, .long v15), (17, .long v17), (19, .long v19), (21, .int v21)] []) (v2 : Int32) (v3 : Int64) (v5 : Int64) (v9 : Int64) (v11 : Int64) (v13 : Int64) (v15 : Int64) (v17 : Int64) (v19 : Int64) (v21 : Int32) (t0 : Int64)  (h : fX4_wave_174 K136 v2 v3 v5 v9 v11 v13 v15 v17 v19 v21 t0  = some r) : Z T σ 174 [(2, .int v2), (3, .long v3), (5, .long v5), (9, .long v9), (11, .long v11), (13, .long v13), (15, .long v15), (17, .long v17), (19, .long v19), (21, .int v21)] [.long t0] := by
  unfold fX4_wave_174 at h
  refine z_lstore hC [(22, .long t0), (2, .int v2), (3, .long v3), (5, .long v5), (9, .long v9), (11, .long v11), (13, .long v13), (15, .long v15), (17, .long v17), (19, .long v19), (21, .int v21)] (by rw [hN]; decide) rfl dX4_wave_174 ?_
  refine z_lload hC 6 rfl dX4_wave_176 ?_
  refine z_lload hC 4 rfl dX4_wave_178 ?_
  refine z_lmul hC dX4_wave_180 ?_
  refine z_bipush hC (24 : Int32) (by decide) dX4_wave_181 ?_
  refine z_lshr hC dX4_wave_183 ?_
  refine z_lload hC 0 rfl dX4_wave_184 ?_
  refine z_g h (fun g186_1 h => ?_)
  refine z_ldiv hC g186_1 dX4_wave_186 ?_
  refine z_nmL h (fun x187_2 h => ?_)
  refine z_lstore hC [(13, .long x187_2), (22, .long t0), (2, .int v2), (3, .long v3), (5, .long v5), (9, .long v9), (11, .long v11), (15, .long v15), (17, .long v17), (19, .long v19), (21, .int v21)] (by rw [hN]; decide) rfl dX4_wave_187 ?_
  refine z_lload hC 7 rfl dX4_wave_189 ?_
  refine z_lload hC 6 rfl dX4_wave_191 ?_
  refine z_lmul hC dX4_wave_193 ?_
  refine z_ldc2 hC kc_X4_40 dX4_wave_194 ?_
  refine z_ladd hC dX4_wave_197 ?_
  refine z_lconst hC (1 : Int64) (by decide) dX4_wave_198 ?_
  refine z_lsub hC dX4_wave_199 ?_
  refine z_bipush hC (24 : Int32) (by decide) dX4_wave_200 ?_
  refine z_lshr hC dX4_wave_202 ?_
  refine z_nmL h (fun x202_3 h => ?_)
  refine z_lload hC 1 rfl dX4_wave_203 ?_
  refine z_ladd hC dX4_wave_205 ?_
  refine z_lconst hC (1 : Int64) (by decide) dX4_wave_206 ?_
  refine z_lsub hC dX4_wave_207 ?_
  refine z_lload hC 1 rfl dX4_wave_208 ?_
  refine z_g h (fun g210_4 h => ?_)
  refine z_ldiv hC g210_4 dX4_wave_210 ?_
  refine z_nmL h (fun x211_5 h => ?_)
  refine z_lstore hC [(15, .long x211_5), (13, .long x187_2), (22, .long t0), (2, .int v2), (3, .long v3), (5, .long v5), (9, .long v9), (11, .long v11), (17, .long v17), (19, .long v19), (21, .int v21)] (by rw [hN]; decide) rfl dX4_wave_211 ?_
  refine z_iload hC 10 rfl dX4_wave_213 ?_
  refine z_iconst hC (1 : Int32) (by decide) dX4_wave_215 ?_
  refine z_iand hC dX4_wave_216 ?_
  refine z_if_ne hC 224 (by decide) dX4_wave_217 (fun q217_6 => ?_) (fun q217_6 => ?_)
  · replace h := z_f q217_6 h
    refine z_iconst hC (0 : Int32) (by decide) dX4_wave_224 ?_
    refine z_istore hC [(24, .int (0 : Int32)), (15, .long x211_5), (13, .long x187_2), (22, .long t0), (2, .int v2), (3, .long v3), (5, .long v5), (9, .long v9), (11, .long v11), (17, .long v17), (19, .long v19), (21, .int v21)] (by rw [hN]; decide) rfl dX4_wave_225 ?_
    refine z_lload hC 9 rfl dX4_wave_227 ?_
    refine z_iload hC 0 rfl dX4_wave_229 ?_
    refine z_if_eq hC 239 (by decide) dX4_wave_231 (fun q => ?_) (fun q => absurd q (by decide))
    refine z_lload hC 1 rfl dX4_wave_239 ?_
    refine z_lneg hC dX4_wave_241 ?_
    refine z_sub [(2, .int v2), (3, .long v3), (5, .long v5), (9, .long v9), (11, .long v11), (13, .long x187_2), (15, .long x211_5), (19, .long v19), (21, .int v21), (24, .int (0 : Int32))] [4, 5, 6, 7, 8, 2, 1, 10, 11, 0] rfl ?_
    exact (wX4_wave_242 hC hN hQ K136 hK136 ) _ _ _ _ _ _ _ _ _ _ _ _ h
  · replace h := z_t q217_6 h
    refine z_iconst hC (1 : Int32) (by decide) dX4_wave_220 ?_
    refine z_goto hC 225 (by decide) dX4_wave_221 ?_
    refine z_istore hC [(24, .int (1 : Int32)), (15, .long x211_5), (13, .long x187_2), (22, .long t0), (2, .int v2), (3, .long v3), (5, .long v5), (9, .long v9), (11, .long v11), (17, .long v17), (19, .long v19), (21, .int v21)] (by rw [hN]; decide) rfl dX4_wave_225 ?_
    refine z_lload hC 9 rfl dX4_wave_227 ?_
    refine z_iload hC 0 rfl dX4_wave_229 ?_
    refine z_if_eq hC 239 (by decide) dX4_wave_231 (fun q => absurd q (by decide)) (fun q => ?_)
    refine z_lload hC 2 rfl dX4_wave_234 ?_
    refine z_goto hC 242 (by decide) dX4_wave_236 ?_
    refine z_sub [(2, .int v2), (3, .long v3), (5, .long v5), (9, .long v9), (11, .long v11), (13, .long x187_2), (15, .long x211_5), (19, .long v19), (21, .int v21), (24, .int (1 : Int32))] [4, 5, 6, 7, 8, 2, 1, 10, 11, 0] rfl ?_
    exact (wX4_wave_242 hC hN hQ K136 hK136 ) _ _ _ _ _ _ _ _ _ _ _ _ h
set_option maxRecDepth 100000 in
set_option maxHeartbeats 4000000 in
theorem wX4_wave_136 {T : zX} {cl ch : Nat} {σ : zSt} (hC : zOk T cX4_wave RX4 1 23 cl ch) (hN : zNL T = 26) {r : Int64} (hQ : zRes T (some .long) (some (.long r)) σ) (K136 : Int32 → Int64 → Int64 → Int64 → Int64 → Int64 → Int64 → Int64 → Int64 → Int32 → Option Int64) (hK136 : ∀ (v2 : Int32) (v3 : Int64) (v5 : Int64) (v9 : Int64) (v11 : Int64) (v13 : Int64) (v15 : Int64) (v17 : Int64) (v19 : Int64) (v21 : Int32), K136 v2 v3 v5 v9 v11 v13 v15 v17 v19 v21  = some r → Z T σ 136 [(2, .int v2), (3, .long v3), (5, .long v5), (9, .long v9), (11, .long v11), (13, .long v13), (15, .long v15), (17, .long v17), (19, .long v19), (21, .int v21)] []) (v2 : Int32) (v3 : Int64) (v5 : Int64) (v9 : Int64) (v11 : Int64) (v13 : Int64) (v15 : Int64) (v17 : Int64) (v19 : Int64) (v21 : Int32)  (h : fX4_wave_136 K136 v2 v3 v5 v9 v11 v13 v15 v17 v19 v21  = some r) : Z T σ 136 [(2, .int v2), (3, .long v3), (5, .long v5), (9, .long v9), (11, .long v11), (13, .long v13), (15, .long v15), (17, .long v17), (19, .long v19), (21, .int v21)] [] := by
  unfold fX4_wave_136 at h
  refine z_iload hC 9 rfl dX4_wave_136 ?_
  refine z_bipush hC (20 : Int32) (by decide) dX4_wave_138 ?_
  refine z_icmp_ge hC 269 (by decide) dX4_wave_140 (fun q140_1 => ?_) (fun q140_1 => ?_)
  · replace h := z_t q140_1 h
    refine z_iload_n hC 0 rfl rfl dX4_wave_269 ?_
    refine z_if_ne hC 283 (by decide) dX4_wave_270 (fun q270_2 => ?_) (fun q270_2 => ?_)
    · replace h := z_f q270_2 h
      refine z_sub [(5, .long v5), (17, .long v17), (19, .long v19)] [2, 7, 8] rfl ?_
      exact (wX4_wave_283 hC hN hQ ) _ _ _ h
    · replace h := z_t q270_2 h
      refine z_lload_n hC 1 rfl rfl dX4_wave_273 ?_
      refine z_lconst hC (0 : Int64) (by decide) dX4_wave_274 ?_
      refine z_cmp_ge hC 283 (by decide) dX4_wave_275 dX4_wave_276 (fun q275_3 => ?_) (fun q275_3 => ?_)
      · replace h := z_t q275_3 h
        refine z_sub [(5, .long v5), (17, .long v17), (19, .long v19)] [2, 7, 8] rfl ?_
        exact (wX4_wave_283 hC hN hQ ) _ _ _ h
      · replace h := z_f q275_3 h
        refine z_iconst hC (1 : Int32) (by decide) dX4_wave_279 ?_
        refine z_goto hC 284 (by decide) dX4_wave_280 ?_
        refine z_istore hC [(21, .int (1 : Int32)), (2, .int v2), (3, .long v3), (5, .long v5), (9, .long v9), (11, .long v11), (13, .long v13), (15, .long v15), (17, .long v17), (19, .long v19)] (by rw [hN]; decide) rfl dX4_wave_284 ?_
        refine z_iload hC 0 rfl dX4_wave_286 ?_
        refine z_if_eq hC 297 (by decide) dX4_wave_288 (fun q => absurd q (by decide)) (fun q => ?_)
        refine z_lload hC 9 rfl dX4_wave_291 ?_
        refine z_lneg hC dX4_wave_293 ?_
        refine z_goto hC 299 (by decide) dX4_wave_294 ?_
        refine z_iconst hC (4 : Int32) (by decide) dX4_wave_299 ?_
        refine z_lshr hC dX4_wave_300 ?_
        refine z_nmL h (fun x301_4 h => ?_)
        refine z_lstore hC [(22, .long x301_4), (21, .int (1 : Int32)), (2, .int v2), (3, .long v3), (5, .long v5), (9, .long v9), (11, .long v11), (13, .long v13), (15, .long v15), (17, .long v17), (19, .long v19)] (by rw [hN]; decide) rfl dX4_wave_301 ?_
        refine z_iload hC 1 rfl dX4_wave_303 ?_
        refine z_if_eq hC 313 (by decide) dX4_wave_305 (fun q => absurd q (by decide)) (fun q => ?_)
        refine z_lload hC 9 rfl dX4_wave_308 ?_
        refine z_goto hC 316 (by decide) dX4_wave_310 ?_
        refine z_sub [(5, .long v5), (22, .long x301_4)] [4, 0] rfl ?_
        exact (wX4_wave_316 hC hN hQ ) _ _ _ h
  · replace h := z_f q140_1 h
    refine z_iload_n hC 0 rfl rfl dX4_wave_143 ?_
    refine z_if_eq hC 162 (by decide) dX4_wave_144 (fun q144_5 => ?_) (fun q144_5 => ?_)
    · replace h := z_t q144_5 h
      refine z_iconst hC (2 : Int32) (by decide) dX4_wave_162 ?_
      refine z_iload hC 9 rfl dX4_wave_163 ?_
      refine z_imul hC dX4_wave_165 ?_
      refine z_iconst hC (2 : Int32) (by decide) dX4_wave_166 ?_
      refine z_iload hC 9 rfl dX4_wave_167 ?_
      refine z_imul hC dX4_wave_169 ?_
      refine z_iconst hC (1 : Int32) (by decide) dX4_wave_170 ?_
      refine z_iadd hC dX4_wave_171 ?_
      refine z_imul hC dX4_wave_172 ?_
      refine z_i2l hC dX4_wave_173 ?_
      refine z_nmL h (fun x173_6 h => ?_)
      exact (wX4_wave_174 hC hN hQ K136 hK136 ) _ _ _ _ _ _ _ _ _ _ _ h
    · replace h := z_f q144_5 h
      refine z_iconst hC (2 : Int32) (by decide) dX4_wave_147 ?_
      refine z_iload hC 9 rfl dX4_wave_148 ?_
      refine z_imul hC dX4_wave_150 ?_
      refine z_iconst hC (1 : Int32) (by decide) dX4_wave_151 ?_
      refine z_isub hC dX4_wave_152 ?_
      refine z_iconst hC (2 : Int32) (by decide) dX4_wave_153 ?_
      refine z_imul hC dX4_wave_154 ?_
      refine z_iload hC 9 rfl dX4_wave_155 ?_
      refine z_imul hC dX4_wave_157 ?_
      refine z_i2l hC dX4_wave_158 ?_
      refine z_nmL h (fun x158_7 h => ?_)
      refine z_goto hC 174 (by decide) dX4_wave_159 ?_
      exact (wX4_wave_174 hC hN hQ K136 hK136 ) _ _ _ _ _ _ _ _ _ _ _ h
theorem wX4_wave_L136 {T : zX} {cl ch : Nat} {σ : zSt} (hC : zOk T cX4_wave RX4 1 23 cl ch) (hN : zNL T = 26) {r : Int64} (hQ : zRes T (some .long) (some (.long r)) σ) (n : Nat) : ∀ (v2 : Int32) (v3 : Int64) (v5 : Int64) (v9 : Int64) (v11 : Int64) (v13 : Int64) (v15 : Int64) (v17 : Int64) (v19 : Int64) (v21 : Int32), fX4_wave_L136 n v2 v3 v5 v9 v11 v13 v15 v17 v19 v21  = some r → Z T σ 136 [(2, .int v2), (3, .long v3), (5, .long v5), (9, .long v9), (11, .long v11), (13, .long v13), (15, .long v15), (17, .long v17), (19, .long v19), (21, .int v21)] [] := by
  induction n with
  | zero => intro v2 v3 v5 v9 v11 v13 v15 v17 v19 v21 h; cases h
  | succ n ih => intro v2 v3 v5 v9 v11 v13 v15 v17 v19 v21 h; exact wX4_wave_136 hC hN hQ (fX4_wave_L136 n) ih v2 v3 v5 v9 v11 v13 v15 v17 v19 v21 h
set_option maxRecDepth 100000 in
set_option maxHeartbeats 4000000 in
theorem wX4_wave_0 {T : zX} {cl ch : Nat} {σ : zSt} (hC : zOk T cX4_wave RX4 1 23 cl ch) (hN : zNL T = 26) {r : Int64} (hQ : zRes T (some .long) (some (.long r)) σ) (a0 : Int64) (a2 : Int32)  (h : fX4_wave_0 a0 a2  = some r) : Z T σ 0 [(0, .long a0), (2, .int a2)] [] := by
  unfold fX4_wave_0 at h
  refine z_lload_n hC 0 rfl rfl dX4_wave_0 ?_
  refine z_ldc2 hC kc_X4_13 dX4_wave_1 ?_
  refine z_cmp_ne hC 12 (by decide) dX4_wave_4 dX4_wave_5 (fun q4_1 => ?_) (fun q4_1 => ?_)
  · replace h := z_f q4_1 h
    refine z_lload_n hC 0 rfl rfl dX4_wave_12 ?_
    refine z_cS1r hC (ctX5_lowOf hC.hm) kb_X5_lowOf km_X4_21 ⟨by decide, by decide⟩ (Nat.le_of_ble_eq_true rfl) dX4_wave_13 ?_
    refine z_lload_n hC 0 rfl rfl dX4_wave_16 ?_
    refine z_cS1r hC (ctX5_highOf hC.hm) kb_X5_highOf km_X4_15 ⟨by decide, by decide⟩ (Nat.le_of_ble_eq_true rfl) dX4_wave_17 ?_
    refine z_ladd hC dX4_wave_20 ?_
    refine z_iconst hC (1 : Int32) (by decide) dX4_wave_21 ?_
    refine z_lshr hC dX4_wave_22 ?_
    refine z_nmL h (fun x23_2 h => ?_)
    refine z_lstore_n hC [(3, .long x23_2), (0, .long a0), (2, .int a2)] rfl (by rw [hN]; decide) rfl dX4_wave_23 ?_
    refine z_lload_n hC 1 rfl rfl dX4_wave_24 ?_
    refine z_cS1r hC (ctX5_highOf hC.hm) kb_X5_highOf km_X4_15 ⟨by decide, by decide⟩ (Nat.le_of_ble_eq_true rfl) dX4_wave_25 ?_
    refine z_lload_n hC 0 rfl rfl dX4_wave_28 ?_
    refine z_lsub hC dX4_wave_29 ?_
    refine z_nmL h (fun x30_3 h => ?_)
    refine z_lstore hC [(5, .long x30_3), (3, .long x23_2), (0, .long a0), (2, .int a2)] (by rw [hN]; decide) rfl dX4_wave_30 ?_
    refine z_lload_n hC 1 rfl rfl dX4_wave_32 ?_
    refine z_ldc2 hC kc_X4_51 dX4_wave_33 ?_
    refine z_cmp_gt hC 57 (by decide) dX4_wave_36 dX4_wave_37 (fun q36_4 => ?_) (fun q36_4 => ?_)
    · replace h := z_t q36_4 h
      refine z_ldc2 hC kc_X4_57 dX4_wave_57 ?_
      refine z_ldc2 hC kc_X4_55 dX4_wave_60 ?_
      refine z_cS2r hC (ctX5_of hC.hm) kb_X5_of km_X4_28 ⟨by decide, by decide⟩ (Nat.le_of_ble_eq_true rfl) dX4_wave_63 ?_
      obtain rfl := z_so h
      exact z_lret hC hQ dX4_wave_66
    · replace h := z_f q36_4 h
      refine z_lload_n hC 1 rfl rfl dX4_wave_40 ?_
      refine z_ldc2 hC kc_X4_53 dX4_wave_41 ?_
      refine z_cmp_lt hC 57 (by decide) dX4_wave_44 dX4_wave_45 (fun q44_5 => ?_) (fun q44_5 => ?_)
      · replace h := z_t q44_5 h
        refine z_ldc2 hC kc_X4_57 dX4_wave_57 ?_
        refine z_ldc2 hC kc_X4_55 dX4_wave_60 ?_
        refine z_cS2r hC (ctX5_of hC.hm) kb_X5_of km_X4_28 ⟨by decide, by decide⟩ (Nat.le_of_ble_eq_true rfl) dX4_wave_63 ?_
        obtain rfl := z_so h
        exact z_lret hC hQ dX4_wave_66
      · replace h := z_f q44_5 h
        refine z_lload hC 0 rfl dX4_wave_48 ?_
        refine z_ldc2 hC kc_X4_55 dX4_wave_50 ?_
        refine z_cmp_le hC 67 (by decide) dX4_wave_53 dX4_wave_54 (fun q53_6 => ?_) (fun q53_6 => ?_)
        · replace h := z_t q53_6 h
          refine z_lload_n hC 1 rfl rfl dX4_wave_67 ?_
          refine z_mabsL hC km_X4_59 (Nat.le_of_ble_eq_true rfl) (Nat.le_of_ble_eq_true rfl) dX4_wave_68 ?_
          refine z_ldc2 hC kc_X4_36 dX4_wave_71 ?_
          refine z_lmul hC dX4_wave_74 ?_
          refine z_nmL h (fun x75_7 h => ?_)
          refine z_lstore hC [(7, .long x75_7), (5, .long x30_3), (3, .long x23_2), (0, .long a0), (2, .int a2)] (by rw [hN]; decide) rfl dX4_wave_75 ?_
          refine z_lload hC 0 rfl dX4_wave_77 ?_
          refine z_lload hC 0 rfl dX4_wave_79 ?_
          refine z_lmul hC dX4_wave_81 ?_
          refine z_bipush hC (24 : Int32) (by decide) dX4_wave_82 ?_
          refine z_lshr hC dX4_wave_84 ?_
          refine z_nmL h (fun x85_8 h => ?_)
          refine z_lstore hC [(9, .long x85_8), (7, .long x75_7), (5, .long x30_3), (3, .long x23_2), (0, .long a0), (2, .int a2)] (by rw [hN]; decide) rfl dX4_wave_85 ?_
          refine z_lload hC 1 rfl dX4_wave_87 ?_
          refine z_lload hC 1 rfl dX4_wave_89 ?_
          refine z_lmul hC dX4_wave_91 ?_
          refine z_ldc2 hC kc_X4_40 dX4_wave_92 ?_
          refine z_ladd hC dX4_wave_95 ?_
          refine z_lconst hC (1 : Int64) (by decide) dX4_wave_96 ?_
          refine z_lsub hC dX4_wave_97 ?_
          refine z_bipush hC (24 : Int32) (by decide) dX4_wave_98 ?_
          refine z_lshr hC dX4_wave_100 ?_
          refine z_nmL h (fun x100_9 h => ?_)
          refine z_lstore hC [(11, .long x100_9), (9, .long x85_8), (7, .long x75_7), (5, .long x30_3), (3, .long x23_2), (0, .long a0), (2, .int a2)] (by rw [hN]; decide) rfl dX4_wave_101 ?_
          refine z_iload_n hC 6 rfl rfl dX4_wave_103 ?_
          refine z_if_eq hC 113 (by decide) dX4_wave_104 (fun q104_10 => ?_) (fun q104_10 => ?_)
          · replace h := z_t q104_10 h
            refine z_lload hC 2 rfl dX4_wave_113 ?_
            refine z_lstore hC [(13, .long x75_7), (11, .long x100_9), (9, .long x85_8), (7, .long x75_7), (5, .long x30_3), (3, .long x23_2), (0, .long a0), (2, .int a2)] (by rw [hN]; decide) rfl dX4_wave_115 ?_
            refine z_lload hC 0 rfl dX4_wave_117 ?_
            refine z_lstore hC [(15, .long x75_7), (13, .long x75_7), (11, .long x100_9), (9, .long x85_8), (7, .long x75_7), (5, .long x30_3), (3, .long x23_2), (0, .long a0), (2, .int a2)] (by rw [hN]; decide) rfl dX4_wave_119 ?_
            refine z_lload hC 1 rfl dX4_wave_121 ?_
            refine z_lconst hC (1 : Int64) (by decide) dX4_wave_123 ?_
            refine z_lsub hC dX4_wave_124 ?_
            refine z_nmL h (fun x125_11 h => ?_)
            refine z_lstore hC [(17, .long x125_11), (15, .long x75_7), (13, .long x75_7), (11, .long x100_9), (9, .long x85_8), (7, .long x75_7), (5, .long x30_3), (3, .long x23_2), (0, .long a0), (2, .int a2)] (by rw [hN]; decide) rfl dX4_wave_125 ?_
            refine z_lload hC 1 rfl dX4_wave_127 ?_
            refine z_lconst hC (1 : Int64) (by decide) dX4_wave_129 ?_
            refine z_ladd hC dX4_wave_130 ?_
            refine z_nmL h (fun x131_12 h => ?_)
            refine z_lstore hC [(19, .long x131_12), (17, .long x125_11), (15, .long x75_7), (13, .long x75_7), (11, .long x100_9), (9, .long x85_8), (7, .long x75_7), (5, .long x30_3), (3, .long x23_2), (0, .long a0), (2, .int a2)] (by rw [hN]; decide) rfl dX4_wave_131 ?_
            refine z_iconst hC (1 : Int32) (by decide) dX4_wave_133 ?_
            refine z_istore hC [(21, .int (1 : Int32)), (19, .long x131_12), (17, .long x125_11), (15, .long x75_7), (13, .long x75_7), (11, .long x100_9), (9, .long x85_8), (7, .long x75_7), (5, .long x30_3), (3, .long x23_2), (0, .long a0), (2, .int a2)] (by rw [hN]; decide) rfl dX4_wave_134 ?_
            refine z_sub [(2, .int a2), (3, .long x23_2), (5, .long x30_3), (9, .long x85_8), (11, .long x100_9), (13, .long x75_7), (15, .long x75_7), (17, .long x125_11), (19, .long x131_12), (21, .int (1 : Int32))] [11, 9, 8, 6, 5, 4, 3, 2, 1, 0] rfl ?_
            exact (wX4_wave_L136 hC hN hQ zFU) _ _ _ _ _ _ _ _ _ _ h
          · replace h := z_f q104_10 h
            refine z_ldc2 hC kc_X4_40 dX4_wave_107 ?_
            refine z_goto hC 115 (by decide) dX4_wave_110 ?_
            refine z_lstore hC [(13, .long (16777216 : Int64)), (11, .long x100_9), (9, .long x85_8), (7, .long x75_7), (5, .long x30_3), (3, .long x23_2), (0, .long a0), (2, .int a2)] (by rw [hN]; decide) rfl dX4_wave_115 ?_
            refine z_lload hC 0 rfl dX4_wave_117 ?_
            refine z_lstore hC [(15, .long (16777216 : Int64)), (13, .long (16777216 : Int64)), (11, .long x100_9), (9, .long x85_8), (7, .long x75_7), (5, .long x30_3), (3, .long x23_2), (0, .long a0), (2, .int a2)] (by rw [hN]; decide) rfl dX4_wave_119 ?_
            refine z_lload hC 1 rfl dX4_wave_121 ?_
            refine z_lconst hC (1 : Int64) (by decide) dX4_wave_123 ?_
            refine z_lsub hC dX4_wave_124 ?_
            refine z_nmL h (fun x125_13 h => ?_)
            refine z_lstore hC [(17, .long x125_13), (15, .long (16777216 : Int64)), (13, .long (16777216 : Int64)), (11, .long x100_9), (9, .long x85_8), (7, .long x75_7), (5, .long x30_3), (3, .long x23_2), (0, .long a0), (2, .int a2)] (by rw [hN]; decide) rfl dX4_wave_125 ?_
            refine z_lload hC 1 rfl dX4_wave_127 ?_
            refine z_lconst hC (1 : Int64) (by decide) dX4_wave_129 ?_
            refine z_ladd hC dX4_wave_130 ?_
            refine z_nmL h (fun x131_14 h => ?_)
            refine z_lstore hC [(19, .long x131_14), (17, .long x125_13), (15, .long (16777216 : Int64)), (13, .long (16777216 : Int64)), (11, .long x100_9), (9, .long x85_8), (7, .long x75_7), (5, .long x30_3), (3, .long x23_2), (0, .long a0), (2, .int a2)] (by rw [hN]; decide) rfl dX4_wave_131 ?_
            refine z_iconst hC (1 : Int32) (by decide) dX4_wave_133 ?_
            refine z_istore hC [(21, .int (1 : Int32)), (19, .long x131_14), (17, .long x125_13), (15, .long (16777216 : Int64)), (13, .long (16777216 : Int64)), (11, .long x100_9), (9, .long x85_8), (7, .long x75_7), (5, .long x30_3), (3, .long x23_2), (0, .long a0), (2, .int a2)] (by rw [hN]; decide) rfl dX4_wave_134 ?_
            refine z_sub [(2, .int a2), (3, .long x23_2), (5, .long x30_3), (9, .long x85_8), (11, .long x100_9), (13, .long (16777216 : Int64)), (15, .long (16777216 : Int64)), (17, .long x125_13), (19, .long x131_14), (21, .int (1 : Int32))] [11, 9, 8, 6, 5, 4, 3, 2, 1, 0] rfl ?_
            exact (wX4_wave_L136 hC hN hQ zFU) _ _ _ _ _ _ _ _ _ _ h
        · replace h := z_f q53_6 h
          refine z_ldc2 hC kc_X4_57 dX4_wave_57 ?_
          refine z_ldc2 hC kc_X4_55 dX4_wave_60 ?_
          refine z_cS2r hC (ctX5_of hC.hm) kb_X5_of km_X4_28 ⟨by decide, by decide⟩ (Nat.le_of_ble_eq_true rfl) dX4_wave_63 ?_
          obtain rfl := z_so h
          exact z_lret hC hQ dX4_wave_66
  · replace h := z_t q4_1 h
    refine z_ldc2 hC kc_X4_13 dX4_wave_8 ?_
    obtain rfl := z_so h
    exact z_lret hC hQ dX4_wave_11
set_option maxRecDepth 100000 in
theorem ctX4_wave {l : Launch} {G : zGt} {mk : zSt → zSt} {cl ch : Nat} (hm : zM mk cl ch) {a0 : Int64} {a2 : Int32} {σ : zSt} {r : Int64} (h : fX4_wave a0 a2  = some r) : zMet l G mk yX4_wave cX4_wave 26 (some .long) 1 23 [.long a0, .int a2] σ (some (.long r)) σ := by
  unfold fX4_wave at h

  refine zMet.of (plainFor_of_name (by decide +kernel)) hm (Nat.le_of_ble_eq_true rfl) (fun T eL eG eM hN hC hQ => ?_)
  subst eL; subst eG; subst eM
  refine z_sub [(0, .long a0), (2, .int a2)] [0, 1] rfl ?_
  exact wX4_wave_0 hC hN hQ _ _  h
