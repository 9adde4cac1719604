theorem dX4_exp_0 : decode cX4_exp 0 = .ok (.lload_n 0, 1) := by decide +kernel
theorem dX4_exp_1 : decode cX4_exp 1 = .ok (.ldc2_w 13, 3) := by decide +kernel
theorem dX4_exp_4 : decode cX4_exp 4 = .ok (.lcmp, 1) := by decide +kernel
theorem dX4_exp_5 : decode cX4_exp 5 = .ok (.ifCond .eq 14, 3) := by decide +kernel
theorem dX4_exp_8 : decode cX4_exp 8 = .ok (.lload_n 0, 1) := by decide +kernel
theorem dX4_exp_9 : decode cX4_exp 9 = .ok (.invokestatic 15, 3) := by decide +kernel
theorem dX4_exp_12 : decode cX4_exp 12 = .ok (.ldc2_w 19, 3) := by decide +kernel
theorem dX4_exp_15 : decode cX4_exp 15 = .ok (.lcmp, 1) := by decide +kernel
theorem dX4_exp_16 : decode cX4_exp 16 = .ok (.ifCond .le 7, 3) := by decide +kernel
theorem dX4_exp_19 : decode cX4_exp 19 = .ok (.ldc2_w 13, 3) := by decide +kernel
theorem dX4_exp_22 : decode cX4_exp 22 = .ok (.lreturn, 1) := by decide +kernel
theorem dX4_exp_23 : decode cX4_exp 23 = .ok (.lload_n 0, 1) := by decide +kernel
theorem dX4_exp_24 : decode cX4_exp 24 = .ok (.invokestatic 21, 3) := by decide +kernel
theorem dX4_exp_27 : decode cX4_exp 27 = .ok (.iconst 0, 1) := by decide +kernel
theorem dX4_exp_28 : decode cX4_exp 28 = .ok (.invokestatic 24, 3) := by decide +kernel
theorem dX4_exp_31 : decode cX4_exp 31 = .ok (.lload_n 0, 1) := by decide +kernel
theorem dX4_exp_32 : decode cX4_exp 32 = .ok (.invokestatic 15, 3) := by decide +kernel
theorem dX4_exp_35 : decode cX4_exp 35 = .ok (.iconst 1, 1) := by decide +kernel
theorem dX4_exp_36 : decode cX4_exp 36 = .ok (.invokestatic 24, 3) := by decide +kernel
theorem dX4_exp_39 : decode cX4_exp 39 = .ok (.invokestatic 28, 3) := by decide +kernel
theorem dX4_exp_42 : decode cX4_exp 42 = .ok (.lreturn, 1) := by decide +kernel
theorem dX4_raised_0 : decode cX4_raised 0 = .ok (.lload_n 0, 1) := by decide +kernel
theorem dX4_raised_1 : decode cX4_raised 1 = .ok (.ldc2_w 32, 3) := by decide +kernel
theorem dX4_raised_4 : decode cX4_raised 4 = .ok (.lcmp, 1) := by decide +kernel
theorem dX4_raised_5 : decode cX4_raised 5 = .ok (.ifCond .ge 13, 3) := by decide +kernel
theorem dX4_raised_8 : decode cX4_raised 8 = .ok (.iload_n 2, 1) := by decide +kernel
theorem dX4_raised_9 : decode cX4_raised 9 = .ok (.ifCond .eq 7, 3) := by decide +kernel
theorem dX4_raised_12 : decode cX4_raised 12 = .ok (.lconst 1, 1) := by decide +kernel
theorem dX4_raised_13 : decode cX4_raised 13 = .ok (.goto 4, 3) := by decide +kernel
theorem dX4_raised_16 : decode cX4_raised 16 = .ok (.lconst 0, 1) := by decide +kernel
theorem dX4_raised_17 : decode cX4_raised 17 = .ok (.lreturn, 1) := by decide +kernel
theorem dX4_raised_18 : decode cX4_raised 18 = .ok (.lload_n 0, 1) := by decide +kernel
theorem dX4_raised_19 : decode cX4_raised 19 = .ok (.bipush 20, 2) := by decide +kernel
theorem dX4_raised_21 : decode cX4_raised 21 = .ok (.lshr, 1) := by decide +kernel
theorem dX4_raised_22 : decode cX4_raised 22 = .ok (.lstore_n 3, 1) := by decide +kernel
theorem dX4_raised_23 : decode cX4_raised 23 = .ok (.lload_n 0, 1) := by decide +kernel
theorem dX4_raised_24 : decode cX4_raised 24 = .ok (.ldc2_w 34, 3) := by decide +kernel
theorem dX4_raised_27 : decode cX4_raised 27 = .ok (.land, 1) := by decide +kernel
theorem dX4_raised_28 : decode cX4_raised 28 = .ok (.ldc2_w 36, 3) := by decide +kernel
theorem dX4_raised_31 : decode cX4_raised 31 = .ok (.lmul, 1) := by decide +kernel
theorem dX4_raised_32 : decode cX4_raised 32 = .ok (.lstore 5, 2) := by decide +kernel
theorem dX4_raised_34 : decode cX4_raised 34 = .ok (.iload_n 2, 1) := by decide +kernel
theorem dX4_raised_35 : decode cX4_raised 35 = .ok (.ifCond .eq 9, 3) := by decide +kernel
theorem dX4_raised_38 : decode cX4_raised 38 = .ok (.ldc2_w 38, 3) := by decide +kernel
theorem dX4_raised_41 : decode cX4_raised 41 = .ok (.goto 4, 3) := by decide +kernel
theorem dX4_raised_44 : decode cX4_raised 44 = .ok (.lconst 0, 1) := by decide +kernel
theorem dX4_raised_45 : decode cX4_raised 45 = .ok (.lstore 7, 2) := by decide +kernel
theorem dX4_raised_47 : decode cX4_raised 47 = .ok (.lload 5, 2) := by decide +kernel
theorem dX4_raised_49 : decode cX4_raised 49 = .ok (.lstore 9, 2) := by decide +kernel
theorem dX4_raised_51 : decode cX4_raised 51 = .ok (.ldc2_w 40, 3) := by decide +kernel
theorem dX4_raised_54 : decode cX4_raised 54 = .ok (.lload 9, 2) := by decide +kernel
theorem dX4_raised_56 : decode cX4_raised 56 = .ok (.ladd, 1) := by decide +kernel
theorem dX4_raised_57 : decode cX4_raised 57 = .ok (.lstore 11, 2) := by decide +kernel
theorem dX4_raised_59 : decode cX4_raised 59 = .ok (.iconst 2, 1) := by decide +kernel
theorem dX4_raised_60 : decode cX4_raised 60 = .ok (.istore 13, 2) := by decide +kernel
theorem dX4_raised_62 : decode cX4_raised 62 = .ok (.iload 13, 2) := by decide +kernel
theorem dX4_raised_64 : decode cX4_raised 64 = .ok (.bipush 14, 2) := by decide +kernel
theorem dX4_raised_66 : decode cX4_raised 66 = .ok (.if_icmp .gt 52, 3) := by decide +kernel
theorem dX4_raised_69 : decode cX4_raised 69 = .ok (.lload 9, 2) := by decide +kernel
theorem dX4_raised_71 : decode cX4_raised 71 = .ok (.lload 5, 2) := by decide +kernel
theorem dX4_raised_73 : decode cX4_raised 73 = .ok (.lmul, 1) := by decide +kernel
theorem dX4_raised_74 : decode cX4_raised 74 = .ok (.lload 7, 2) := by decide +kernel
theorem dX4_raised_76 : decode cX4_raised 76 = .ok (.ladd, 1) := by decide +kernel
theorem dX4_raised_77 : decode cX4_raised 77 = .ok (.bipush 24, 2) := by decide +kernel
theorem dX4_raised_79 : decode cX4_raised 79 = .ok (.lshr, 1) := by decide +kernel
theorem dX4_raised_80 : decode cX4_raised 80 = .ok (.lstore 9, 2) := by decide +kernel
theorem dX4_raised_82 : decode cX4_raised 82 = .ok (.iload_n 2, 1) := by decide +kernel
theorem dX4_raised_83 : decode cX4_raised 83 = .ok (.ifCond .eq 14, 3) := by decide +kernel
theorem dX4_raised_86 : decode cX4_raised 86 = .ok (.lload 9, 2) := by decide +kernel
theorem dX4_raised_88 : decode cX4_raised 88 = .ok (.iload 13, 2) := by decide +kernel
theorem dX4_raised_90 : decode cX4_raised 90 = .ok (.i2l, 1) := by decide +kernel
theorem dX4_raised_91 : decode cX4_raised 91 = .ok (.ladd, 1) := by decide +kernel
theorem dX4_raised_92 : decode cX4_raised 92 = .ok (.lconst 1, 1) := by decide +kernel
theorem dX4_raised_93 : decode cX4_raised 93 = .ok (.lsub, 1) := by decide +kernel
theorem dX4_raised_94 : decode cX4_raised 94 = .ok (.goto 5, 3) := by decide +kernel
theorem dX4_raised_97 : decode cX4_raised 97 = .ok (.lload 9, 2) := by decide +kernel
theorem dX4_raised_99 : decode cX4_raised 99 = .ok (.iload 13, 2) := by decide +kernel
theorem dX4_raised_101 : decode cX4_raised 101 = .ok (.i2l, 1) := by decide +kernel
theorem dX4_raised_102 : decode cX4_raised 102 = .ok (.ldiv, 1) := by decide +kernel
theorem dX4_raised_103 : decode cX4_raised 103 = .ok (.lstore 9, 2) := by decide +kernel
theorem dX4_raised_105 : decode cX4_raised 105 = .ok (.lload 11, 2) := by decide +kernel
theorem dX4_raised_107 : decode cX4_raised 107 = .ok (.lload 9, 2) := by decide +kernel
theorem dX4_raised_109 : decode cX4_raised 109 = .ok (.ladd, 1) := by decide +kernel
theorem dX4_raised_110 : decode cX4_raised 110 = .ok (.lstore 11, 2) := by decide +kernel
theorem dX4_raised_112 : decode cX4_raised 112 = .ok (.iinc 13 1, 3) := by decide +kernel
theorem dX4_raised_115 : decode cX4_raised 115 = .ok (.goto (-53), 3) := by decide +kernel
theorem dX4_raised_118 : decode cX4_raised 118 = .ok (.lload_n 3, 1) := by decide +kernel
theorem dX4_raised_119 : decode cX4_raised 119 = .ok (.lconst 0, 1) := by decide +kernel
theorem dX4_raised_120 : decode cX4_raised 120 = .ok (.lcmp, 1) := by decide +kernel
theorem dX4_raised_121 : decode cX4_raised 121 = .ok (.ifCond .ge 9, 3) := by decide +kernel
theorem dX4_raised_124 : decode cX4_raised 124 = .ok (.ldc2_w 42, 3) := by decide +kernel
theorem dX4_raised_127 : decode cX4_raised 127 = .ok (.goto 6, 3) := by decide +kernel
theorem dX4_raised_130 : decode cX4_raised 130 = .ok (.ldc2_w 44, 3) := by decide +kernel
theorem dX4_raised_133 : decode cX4_raised 133 = .ok (.lstore 13, 2) := by decide +kernel
theorem dX4_raised_135 : decode cX4_raised 135 = .ok (.iload_n 2, 1) := by decide +kernel
theorem dX4_raised_136 : decode cX4_raised 136 = .ok (.ifCond .eq 15, 3) := by decide +kernel
theorem dX4_raised_139 : decode cX4_raised 139 = .ok (.lload 11, 2) := by decide +kernel
theorem dX4_raised_141 : decode cX4_raised 141 = .ok (.lconst 1, 1) := by decide +kernel
theorem dX4_raised_142 : decode cX4_raised 142 = .ok (.ladd, 1) := by decide +kernel
theorem dX4_raised_143 : decode cX4_raised 143 = .ok (.lstore 11, 2) := by decide +kernel
theorem dX4_raised_145 : decode cX4_raised 145 = .ok (.lload 13, 2) := by decide +kernel
theorem dX4_raised_147 : decode cX4_raised 147 = .ok (.lconst 1, 1) := by decide +kernel
theorem dX4_raised_148 : decode cX4_raised 148 = .ok (.ladd, 1) := by decide +kernel
theorem dX4_raised_149 : decode cX4_raised 149 = .ok (.lstore 13, 2) := by decide +kernel
theorem dX4_raised_151 : decode cX4_raised 151 = .ok (.lload_n 3, 1) := by decide +kernel
theorem dX4_raised_152 : decode cX4_raised 152 = .ok (.lconst 0, 1) := by decide +kernel
theorem dX4_raised_153 : decode cX4_raised 153 = .ok (.lcmp, 1) := by decide +kernel
theorem dX4_raised_154 : decode cX4_raised 154 = .ok (.ifCond .ge 8, 3) := by decide +kernel
theorem dX4_raised_157 : decode cX4_raised 157 = .ok (.lload_n 3, 1) := by decide +kernel
theorem dX4_raised_158 : decode cX4_raised 158 = .ok (.lneg, 1) := by decide +kernel
theorem dX4_raised_159 : decode cX4_raised 159 = .ok (.goto 4, 3) := by decide +kernel
theorem dX4_raised_162 : decode cX4_raised 162 = .ok (.lload_n 3, 1) := by decide +kernel
theorem dX4_raised_163 : decode cX4_raised 163 = .ok (.lstore 15, 2) := by decide +kernel
theorem dX4_raised_165 : decode cX4_raised 165 = .ok (.lconst 0, 1) := by decide +kernel
theorem dX4_raised_166 : decode cX4_raised 166 = .ok (.lstore 17, 2) := by decide +kernel
theorem dX4_raised_168 : decode cX4_raised 168 = .ok (.lload 17, 2) := by decide +kernel
theorem dX4_raised_170 : decode cX4_raised 170 = .ok (.lload 15, 2) := by decide +kernel
theorem dX4_raised_172 : decode cX4_raised 172 = .ok (.lcmp, 1) := by decide +kernel
theorem dX4_raised_173 : decode cX4_raised 173 = .ok (.ifCond .ge 25, 3) := by decide +kernel
theorem dX4_raised_176 : decode cX4_raised 176 = .ok (.lload 11, 2) := by decide +kernel
theorem dX4_raised_178 : decode cX4_raised 178 = .ok (.lload 13, 2) := by decide +kernel
theorem dX4_raised_180 : decode cX4_raised 180 = .ok (.lmul, 1) := by decide +kernel
theorem dX4_raised_181 : decode cX4_raised 181 = .ok (.lload 7, 2) := by decide +kernel
theorem dX4_raised_183 : decode cX4_raised 183 = .ok (.ladd, 1) := by decide +kernel
theorem dX4_raised_184 : decode cX4_raised 184 = .ok (.bipush 24, 2) := by decide +kernel
theorem dX4_raised_186 : decode cX4_raised 186 = .ok (.lshr, 1) := by decide +kernel
theorem dX4_raised_187 : decode cX4_raised 187 = .ok (.lstore 11, 2) := by decide +kernel
theorem dX4_raised_189 : decode cX4_raised 189 = .ok (.lload 17, 2) := by decide +kernel
theorem dX4_raised_191 : decode cX4_raised 191 = .ok (.lconst 1, 1) := by decide +kernel
theorem dX4_raised_192 : decode cX4_raised 192 = .ok (.ladd, 1) := by decide +kernel
theorem dX4_raised_193 : decode cX4_raised 193 = .ok (.lstore 17, 2) := by decide +kernel
theorem dX4_raised_195 : decode cX4_raised 195 = .ok (.goto (-27), 3) := by decide +kernel
theorem dX4_raised_198 : decode cX4_raised 198 = .ok (.iload_n 2, 1) := by decide +kernel
theorem dX4_raised_199 : decode cX4_raised 199 = .ok (.ifCond .eq 14, 3) := by decide +kernel
theorem dX4_raised_202 : decode cX4_raised 202 = .ok (.lload 11, 2) := by decide +kernel
theorem dX4_raised_204 : decode cX4_raised 204 = .ok (.ldc2_w 36, 3) := by decide +kernel
theorem dX4_raised_207 : decode cX4_raised 207 = .ok (.ladd, 1) := by decide +kernel
theorem dX4_raised_208 : decode cX4_raised 208 = .ok (.lconst 1, 1) := by decide +kernel
theorem dX4_raised_209 : decode cX4_raised 209 = .ok (.lsub, 1) := by decide +kernel
theorem dX4_raised_210 : decode cX4_raised 210 = .ok (.goto 5, 3) := by decide +kernel
theorem dX4_raised_213 : decode cX4_raised 213 = .ok (.lload 11, 2) := by decide +kernel
theorem dX4_raised_215 : decode cX4_raised 215 = .ok (.iconst 4, 1) := by decide +kernel
theorem dX4_raised_216 : decode cX4_raised 216 = .ok (.lshr, 1) := by decide +kernel
theorem dX4_raised_217 : decode cX4_raised 217 = .ok (.lreturn, 1) := by decide +kernel
theorem dX4_log_0 : decode cX4_log 0 = .ok (.lload_n 0, 1) := by decide +kernel
theorem dX4_log_1 : decode cX4_log 1 = .ok (.ldc2_w 13, 3) := by decide +kernel
theorem dX4_log_4 : decode cX4_log 4 = .ok (.lcmp, 1) := by decide +kernel
theorem dX4_log_5 : decode cX4_log 5 = .ok (.ifCond .eq 12, 3) := by decide +kernel
theorem dX4_log_8 : decode cX4_log 8 = .ok (.lload_n 0, 1) := by decide +kernel
theorem dX4_log_9 : decode cX4_log 9 = .ok (.invokestatic 21, 3) := by decide +kernel
theorem dX4_log_12 : decode cX4_log 12 = .ok (.lconst 0, 1) := by decide +kernel
theorem dX4_log_13 : decode cX4_log 13 = .ok (.lcmp, 1) := by decide +kernel
theorem dX4_log_14 : decode cX4_log 14 = .ok (.ifCond .gt 7, 3) := by decide +kernel
theorem dX4_log_17 : decode cX4_log 17 = .ok (.ldc2_w 13, 3) := by decide +kernel
theorem dX4_log_20 : decode cX4_log 20 = .ok (.lreturn, 1) := by decide +kernel
theorem dX4_log_21 : decode cX4_log 21 = .ok (.lload_n 0, 1) := by decide +kernel
theorem dX4_log_22 : decode cX4_log 22 = .ok (.invokestatic 15, 3) := by decide +kernel
theorem dX4_log_25 : decode cX4_log 25 = .ok (.lconst 1, 1) := by decide +kernel
theorem dX4_log_26 : decode cX4_log 26 = .ok (.lsub, 1) := by decide +kernel
theorem dX4_log_27 : decode cX4_log 27 = .ok (.iconst 0, 1) := by decide +kernel
theorem dX4_log_28 : decode cX4_log 28 = .ok (.invokestatic 46, 3) := by decide +kernel
theorem dX4_log_31 : decode cX4_log 31 = .ok (.lstore_n 2, 1) := by decide +kernel
theorem dX4_log_32 : decode cX4_log 32 = .ok (.lload_n 0, 1) := by decide +kernel
theorem dX4_log_33 : decode cX4_log 33 = .ok (.invokestatic 21, 3) := by decide +kernel
theorem dX4_log_36 : decode cX4_log 36 = .ok (.iconst 1, 1) := by decide +kernel
theorem dX4_log_37 : decode cX4_log 37 = .ok (.invokestatic 46, 3) := by decide +kernel
theorem dX4_log_40 : decode cX4_log 40 = .ok (.lload_n 2, 1) := by decide +kernel
theorem dX4_log_41 : decode cX4_log 41 = .ok (.ldc2_w 19, 3) := by decide +kernel
theorem dX4_log_44 : decode cX4_log 44 = .ok (.lcmp, 1) := by decide +kernel
theorem dX4_log_45 : decode cX4_log 45 = .ok (.ifCond .ne 9, 3) := by decide +kernel
theorem dX4_log_48 : decode cX4_log 48 = .ok (.ldc2_w 49, 3) := by decide +kernel
theorem dX4_log_51 : decode cX4_log 51 = .ok (.goto 6, 3) := by decide +kernel
theorem dX4_log_54 : decode cX4_log 54 = .ok (.lload_n 2, 1) := by decide +kernel
theorem dX4_log_55 : decode cX4_log 55 = .ok (.lconst 1, 1) := by decide +kernel
theorem dX4_log_56 : decode cX4_log 56 = .ok (.ladd, 1) := by decide +kernel
theorem dX4_log_57 : decode cX4_log 57 = .ok (.invokestatic 28, 3) := by decide +kernel
theorem dX4_log_60 : decode cX4_log 60 = .ok (.lreturn, 1) := by decide +kernel
theorem dX4_halved_0 : decode cX4_halved 0 = .ok (.ldc2_w 32, 3) := by decide +kernel
theorem dX4_halved_3 : decode cX4_halved 3 = .ok (.lstore_n 3, 1) := by decide +kernel
theorem dX4_halved_4 : decode cX4_halved 4 = .ok (.ldc2_w 19, 3) := by decide +kernel
theorem dX4_halved_7 : decode cX4_halved 7 = .ok (.lstore 5, 2) := by decide +kernel
theorem dX4_halved_9 : decode cX4_halved 9 = .ok (.iconst 0, 1) := by decide +kernel
theorem dX4_halved_10 : decode cX4_halved 10 = .ok (.istore 7, 2) := by decide +kernel
theorem dX4_halved_12 : decode cX4_halved 12 = .ok (.iload 7, 2) := by decide +kernel
theorem dX4_halved_14 : decode cX4_halved 14 = .ok (.bipush 40, 2) := by decide +kernel
theorem dX4_halved_16 : decode cX4_halved 16 = .ok (.if_icmp .ge 49, 3) := by decide +kernel
theorem dX4_halved_19 : decode cX4_halved 19 = .ok (.lload_n 3, 1) := by decide +kernel
theorem dX4_halved_20 : decode cX4_halved 20 = .ok (.lload 5, 2) := by decide +kernel
theorem dX4_halved_22 : decode cX4_halved 22 = .ok (.lcmp, 1) := by decide +kernel
theorem dX4_halved_23 : decode cX4_halved 23 = .ok (.ifCond .ge 42, 3) := by decide +kernel
theorem dX4_halved_26 : decode cX4_halved 26 = .ok (.lload_n 3, 1) := by decide +kernel
theorem dX4_halved_27 : decode cX4_halved 27 = .ok (.lload 5, 2) := by decide +kernel
theorem dX4_halved_29 : decode cX4_halved 29 = .ok (.ladd, 1) := by decide +kernel
theorem dX4_halved_30 : decode cX4_halved 30 = .ok (.lconst 1, 1) := by decide +kernel
theorem dX4_halved_31 : decode cX4_halved 31 = .ok (.ladd, 1) := by decide +kernel
theorem dX4_halved_32 : decode cX4_halved 32 = .ok (.iconst 1, 1) := by decide +kernel
theorem dX4_halved_33 : decode cX4_halved 33 = .ok (.lshr, 1) := by decide +kernel
theorem dX4_halved_34 : decode cX4_halved 34 = .ok (.lstore 8, 2) := by decide +kernel
theorem dX4_halved_36 : decode cX4_halved 36 = .ok (.lload 8, 2) := by decide +kernel
theorem dX4_halved_38 : decode cX4_halved 38 = .ok (.iload_n 2, 1) := by decide +kernel
theorem dX4_halved_39 : decode cX4_halved 39 = .ok (.invokestatic 24, 3) := by decide +kernel
theorem dX4_halved_42 : decode cX4_halved 42 = .ok (.lload_n 0, 1) := by decide +kernel
theorem dX4_halved_43 : decode cX4_halved 43 = .ok (.lcmp, 1) := by decide +kernel
theorem dX4_halved_44 : decode cX4_halved 44 = .ok (.ifCond .gt 9, 3) := by decide +kernel
theorem dX4_halved_47 : decode cX4_halved 47 = .ok (.lload 8, 2) := by decide +kernel
theorem dX4_halved_49 : decode cX4_halved 49 = .ok (.lstore_n 3, 1) := by decide +kernel
theorem dX4_halved_50 : decode cX4_halved 50 = .ok (.goto 9, 3) := by decide +kernel
theorem dX4_halved_53 : decode cX4_halved 53 = .ok (.lload 8, 2) := by decide +kernel
theorem dX4_halved_55 : decode cX4_halved 55 = .ok (.lconst 1, 1) := by decide +kernel
theorem dX4_halved_56 : decode cX4_halved 56 = .ok (.lsub, 1) := by decide +kernel
theorem dX4_halved_57 : decode cX4_halved 57 = .ok (.lstore 5, 2) := by decide +kernel
theorem dX4_halved_59 : decode cX4_halved 59 = .ok (.iinc 7 1, 3) := by decide +kernel
theorem dX4_halved_62 : decode cX4_halved 62 = .ok (.goto (-50), 3) := by decide +kernel
theorem dX4_halved_65 : decode cX4_halved 65 = .ok (.lload_n 3, 1) := by decide +kernel
theorem dX4_halved_66 : decode cX4_halved 66 = .ok (.lreturn, 1) := by decide +kernel
theorem dX4_wave_0 : decode cX4_wave 0 = .ok (.lload_n 0, 1) := by decide +kernel
theorem dX4_wave_1 : decode cX4_wave 1 = .ok (.ldc2_w 13, 3) := by decide +kernel
theorem dX4_wave_4 : decode cX4_wave 4 = .ok (.lcmp, 1) := by decide +kernel
theorem dX4_wave_5 : decode cX4_wave 5 = .ok (.ifCond .ne 7, 3) := by decide +kernel
theorem dX4_wave_8 : decode cX4_wave 8 = .ok (.ldc2_w 13, 3) := by decide +kernel
theorem dX4_wave_11 : decode cX4_wave 11 = .ok (.lreturn, 1) := by decide +kernel
theorem dX4_wave_12 : decode cX4_wave 12 = .ok (.lload_n 0, 1) := by decide +kernel
theorem dX4_wave_13 : decode cX4_wave 13 = .ok (.invokestatic 21, 3) := by decide +kernel
theorem dX4_wave_16 : decode cX4_wave 16 = .ok (.lload_n 0, 1) := by decide +kernel
theorem dX4_wave_17 : decode cX4_wave 17 = .ok (.invokestatic 15, 3) := by decide +kernel
theorem dX4_wave_20 : decode cX4_wave 20 = .ok (.ladd, 1) := by decide +kernel
theorem dX4_wave_21 : decode cX4_wave 21 = .ok (.iconst 1, 1) := by decide +kernel
theorem dX4_wave_22 : decode cX4_wave 22 = .ok (.lshr, 1) := by decide +kernel
theorem dX4_wave_23 : decode cX4_wave 23 = .ok (.lstore_n 3, 1) := by decide +kernel
theorem dX4_wave_24 : decode cX4_wave 24 = .ok (.lload_n 0, 1) := by decide +kernel
theorem dX4_wave_25 : decode cX4_wave 25 = .ok (.invokestatic 15, 3) := by decide +kernel
theorem dX4_wave_28 : decode cX4_wave 28 = .ok (.lload_n 3, 1) := by decide +kernel
theorem dX4_wave_29 : decode cX4_wave 29 = .ok (.lsub, 1) := by decide +kernel
theorem dX4_wave_30 : decode cX4_wave 30 = .ok (.lstore 5, 2) := by decide +kernel
theorem dX4_wave_32 : decode cX4_wave 32 = .ok (.lload_n 3, 1) := by decide +kernel
theorem dX4_wave_33 : decode cX4_wave 33 = .ok (.ldc2_w 51, 3) := by decide +kernel
theorem dX4_wave_36 : decode cX4_wave 36 = .ok (.lcmp, 1) := by decide +kernel
theorem dX4_wave_37 : decode cX4_wave 37 = .ok (.ifCond .gt 20, 3) := by decide +kernel
theorem dX4_wave_40 : decode cX4_wave 40 = .ok (.lload_n 3, 1) := by decide +kernel
theorem dX4_wave_41 : decode cX4_wave 41 = .ok (.ldc2_w 53, 3) := by decide +kernel
theorem dX4_wave_44 : decode cX4_wave 44 = .ok (.lcmp, 1) := by decide +kernel
theorem dX4_wave_45 : decode cX4_wave 45 = .ok (.ifCond .lt 12, 3) := by decide +kernel
theorem dX4_wave_48 : decode cX4_wave 48 = .ok (.lload 5, 2) := by decide +kernel
theorem dX4_wave_50 : decode cX4_wave 50 = .ok (.ldc2_w 55, 3) := by decide +kernel
theorem dX4_wave_53 : decode cX4_wave 53 = .ok (.lcmp, 1) := by decide +kernel
theorem dX4_wave_54 : decode cX4_wave 54 = .ok (.ifCond .le 13, 3) := by decide +kernel
theorem dX4_wave_57 : decode cX4_wave 57 = .ok (.ldc2_w 57, 3) := by decide +kernel
theorem dX4_wave_60 : decode cX4_wave 60 = .ok (.ldc2_w 55, 3) := by decide +kernel
theorem dX4_wave_63 : decode cX4_wave 63 = .ok (.invokestatic 28, 3) := by decide +kernel
theorem dX4_wave_66 : decode cX4_wave 66 = .ok (.lreturn, 1) := by decide +kernel
theorem dX4_wave_67 : decode cX4_wave 67 = .ok (.lload_n 3, 1) := by decide +kernel
theorem dX4_wave_68 : decode cX4_wave 68 = .ok (.invokestatic 59, 3) := by decide +kernel
theorem dX4_wave_71 : decode cX4_wave 71 = .ok (.ldc2_w 36, 3) := by decide +kernel
theorem dX4_wave_74 : decode cX4_wave 74 = .ok (.lmul, 1) := by decide +kernel
theorem dX4_wave_75 : decode cX4_wave 75 = .ok (.lstore 7, 2) := by decide +kernel
theorem dX4_wave_77 : decode cX4_wave 77 = .ok (.lload 7, 2) := by decide +kernel
theorem dX4_wave_79 : decode cX4_wave 79 = .ok (.lload 7, 2) := by decide +kernel
theorem dX4_wave_81 : decode cX4_wave 81 = .ok (.lmul, 1) := by decide +kernel
theorem dX4_wave_82 : decode cX4_wave 82 = .ok (.bipush 24, 2) := by decide +kernel
theorem dX4_wave_84 : decode cX4_wave 84 = .ok (.lshr, 1) := by decide +kernel
theorem dX4_wave_85 : decode cX4_wave 85 = .ok (.lstore 9, 2) := by decide +kernel
theorem dX4_wave_87 : decode cX4_wave 87 = .ok (.lload 7, 2) := by decide +kernel
theorem dX4_wave_89 : decode cX4_wave 89 = .ok (.lload 7, 2) := by decide +kernel
theorem dX4_wave_91 : decode cX4_wave 91 = .ok (.lmul, 1) := by decide +kernel
theorem dX4_wave_92 : decode cX4_wave 92 = .ok (.ldc2_w 40, 3) := by decide +kernel
theorem dX4_wave_95 : decode cX4_wave 95 = .ok (.ladd, 1) := by decide +kernel
theorem dX4_wave_96 : decode cX4_wave 96 = .ok (.lconst 1, 1) := by decide +kernel
theorem dX4_wave_97 : decode cX4_wave 97 = .ok (.lsub, 1) := by decide +kernel
theorem dX4_wave_98 : decode cX4_wave 98 = .ok (.bipush 24, 2) := by decide +kernel
theorem dX4_wave_100 : decode cX4_wave 100 = .ok (.lshr, 1) := by decide +kernel
theorem dX4_wave_101 : decode cX4_wave 101 = .ok (.lstore 11, 2) := by decide +kernel
theorem dX4_wave_103 : decode cX4_wave 103 = .ok (.iload_n 2, 1) := by decide +kernel
theorem dX4_wave_104 : decode cX4_wave 104 = .ok (.ifCond .eq 9, 3) := by decide +kernel
theorem dX4_wave_107 : decode cX4_wave 107 = .ok (.ldc2_w 40, 3) := by decide +kernel
theorem dX4_wave_110 : decode cX4_wave 110 = .ok (.goto 5, 3) := by decide +kernel
theorem dX4_wave_113 : decode cX4_wave 113 = .ok (.lload 7, 2) := by decide +kernel
theorem dX4_wave_115 : decode cX4_wave 115 = .ok (.lstore 13, 2) := by decide +kernel
theorem dX4_wave_117 : decode cX4_wave 117 = .ok (.lload 13, 2) := by decide +kernel
theorem dX4_wave_119 : decode cX4_wave 119 = .ok (.lstore 15, 2) := by decide +kernel
theorem dX4_wave_121 : decode cX4_wave 121 = .ok (.lload 13, 2) := by decide +kernel
theorem dX4_wave_123 : decode cX4_wave 123 = .ok (.lconst 1, 1) := by decide +kernel
theorem dX4_wave_124 : decode cX4_wave 124 = .ok (.lsub, 1) := by decide +kernel
theorem dX4_wave_125 : decode cX4_wave 125 = .ok (.lstore 17, 2) := by decide +kernel
theorem dX4_wave_127 : decode cX4_wave 127 = .ok (.lload 15, 2) := by decide +kernel
theorem dX4_wave_129 : decode cX4_wave 129 = .ok (.lconst 1, 1) := by decide +kernel
theorem dX4_wave_130 : decode cX4_wave 130 = .ok (.ladd, 1) := by decide +kernel
theorem dX4_wave_131 : decode cX4_wave 131 = .ok (.lstore 19, 2) := by decide +kernel
theorem dX4_wave_133 : decode cX4_wave 133 = .ok (.iconst 1, 1) := by decide +kernel
theorem dX4_wave_134 : decode cX4_wave 134 = .ok (.istore 21, 2) := by decide +kernel
theorem dX4_wave_136 : decode cX4_wave 136 = .ok (.iload 21, 2) := by decide +kernel
theorem dX4_wave_138 : decode cX4_wave 138 = .ok (.bipush 20, 2) := by decide +kernel
theorem dX4_wave_140 : decode cX4_wave 140 = .ok (.if_icmp .ge 129, 3) := by decide +kernel
theorem dX4_wave_143 : decode cX4_wave 143 = .ok (.iload_n 2, 1) := by decide +kernel
theorem dX4_wave_144 : decode cX4_wave 144 = .ok (.ifCond .eq 18, 3) := by decide +kernel
theorem dX4_wave_147 : decode cX4_wave 147 = .ok (.iconst 2, 1) := by decide +kernel
theorem dX4_wave_148 : decode cX4_wave 148 = .ok (.iload 21, 2) := by decide +kernel
theorem dX4_wave_150 : decode cX4_wave 150 = .ok (.imul, 1) := by decide +kernel
theorem dX4_wave_151 : decode cX4_wave 151 = .ok (.iconst 1, 1) := by decide +kernel
theorem dX4_wave_152 : decode cX4_wave 152 = .ok (.isub, 1) := by decide +kernel
theorem dX4_wave_153 : decode cX4_wave 153 = .ok (.iconst 2, 1) := by decide +kernel
theorem dX4_wave_154 : decode cX4_wave 154 = .ok (.imul, 1) := by decide +kernel
theorem dX4_wave_155 : decode cX4_wave 155 = .ok (.iload 21, 2) := by decide +kernel
theorem dX4_wave_157 : decode cX4_wave 157 = .ok (.imul, 1) := by decide +kernel
theorem dX4_wave_158 : decode cX4_wave 158 = .ok (.i2l, 1) := by decide +kernel
theorem dX4_wave_159 : decode cX4_wave 159 = .ok (.goto 15, 3) := by decide +kernel
theorem dX4_wave_162 : decode cX4_wave 162 = .ok (.iconst 2, 1) := by decide +kernel
theorem dX4_wave_163 : decode cX4_wave 163 = .ok (.iload 21, 2) := by decide +kernel
theorem dX4_wave_165 : decode cX4_wave 165 = .ok (.imul, 1) := by decide +kernel
theorem dX4_wave_166 : decode cX4_wave 166 = .ok (.iconst 2, 1) := by decide +kernel
theorem dX4_wave_167 : decode cX4_wave 167 = .ok (.iload 21, 2) := by decide +kernel
theorem dX4_wave_169 : decode cX4_wave 169 = .ok (.imul, 1) := by decide +kernel
theorem dX4_wave_170 : decode cX4_wave 170 = .ok (.iconst 1, 1) := by decide +kernel
theorem dX4_wave_171 : decode cX4_wave 171 = .ok (.iadd, 1) := by decide +kernel
theorem dX4_wave_172 : decode cX4_wave 172 = .ok (.imul, 1) := by decide +kernel
theorem dX4_wave_173 : decode cX4_wave 173 = .ok (.i2l, 1) := by decide +kernel
theorem dX4_wave_174 : decode cX4_wave 174 = .ok (.lstore 22, 2) := by decide +kernel
theorem dX4_wave_176 : decode cX4_wave 176 = .ok (.lload 13, 2) := by decide +kernel
theorem dX4_wave_178 : decode cX4_wave 178 = .ok (.lload 9, 2) := by decide +kernel
theorem dX4_wave_180 : decode cX4_wave 180 = .ok (.lmul, 1) := by decide +kernel
theorem dX4_wave_181 : decode cX4_wave 181 = .ok (.bipush 24, 2) := by decide +kernel
theorem dX4_wave_183 : decode cX4_wave 183 = .ok (.lshr, 1) := by decide +kernel
theorem dX4_wave_184 : decode cX4_wave 184 = .ok (.lload 22, 2) := by decide +kernel
theorem dX4_wave_186 : decode cX4_wave 186 = .ok (.ldiv, 1) := by decide +kernel
theorem dX4_wave_187 : decode cX4_wave 187 = .ok (.lstore 13, 2) := by decide +kernel
theorem dX4_wave_189 : decode cX4_wave 189 = .ok (.lload 15, 2) := by decide +kernel
theorem dX4_wave_191 : decode cX4_wave 191 = .ok (.lload 11, 2) := by decide +kernel
theorem dX4_wave_193 : decode cX4_wave 193 = .ok (.lmul, 1) := by decide +kernel
theorem dX4_wave_194 : decode cX4_wave 194 = .ok (.ldc2_w 40, 3) := by decide +kernel
theorem dX4_wave_197 : decode cX4_wave 197 = .ok (.ladd, 1) := by decide +kernel
theorem dX4_wave_198 : decode cX4_wave 198 = .ok (.lconst 1, 1) := by decide +kernel
theorem dX4_wave_199 : decode cX4_wave 199 = .ok (.lsub, 1) := by decide +kernel
theorem dX4_wave_200 : decode cX4_wave 200 = .ok (.bipush 24, 2) := by decide +kernel
theorem dX4_wave_202 : decode cX4_wave 202 = .ok (.lshr, 1) := by decide +kernel
theorem dX4_wave_203 : decode cX4_wave 203 = .ok (.lload 22, 2) := by decide +kernel
theorem dX4_wave_205 : decode cX4_wave 205 = .ok (.ladd, 1) := by decide +kernel
theorem dX4_wave_206 : decode cX4_wave 206 = .ok (.lconst 1, 1) := by decide +kernel
theorem dX4_wave_207 : decode cX4_wave 207 = .ok (.lsub, 1) := by decide +kernel
theorem dX4_wave_208 : decode cX4_wave 208 = .ok (.lload 22, 2) := by decide +kernel
theorem dX4_wave_210 : decode cX4_wave 210 = .ok (.ldiv, 1) := by decide +kernel
theorem dX4_wave_211 : decode cX4_wave 211 = .ok (.lstore 15, 2) := by decide +kernel
theorem dX4_wave_213 : decode cX4_wave 213 = .ok (.iload 21, 2) := by decide +kernel
theorem dX4_wave_215 : decode cX4_wave 215 = .ok (.iconst 1, 1) := by decide +kernel
theorem dX4_wave_216 : decode cX4_wave 216 = .ok (.iand, 1) := by decide +kernel
theorem dX4_wave_217 : decode cX4_wave 217 = .ok (.ifCond .ne 7, 3) := by decide +kernel
theorem dX4_wave_220 : decode cX4_wave 220 = .ok (.iconst 1, 1) := by decide +kernel
theorem dX4_wave_221 : decode cX4_wave 221 = .ok (.goto 4, 3) := by decide +kernel
theorem dX4_wave_224 : decode cX4_wave 224 = .ok (.iconst 0, 1) := by decide +kernel
theorem dX4_wave_225 : decode cX4_wave 225 = .ok (.istore 24, 2) := by decide +kernel
theorem dX4_wave_227 : decode cX4_wave 227 = .ok (.lload 17, 2) := by decide +kernel
theorem dX4_wave_229 : decode cX4_wave 229 = .ok (.iload 24, 2) := by decide +kernel
theorem dX4_wave_231 : decode cX4_wave 231 = .ok (.ifCond .eq 8, 3) := by decide +kernel
theorem dX4_wave_234 : decode cX4_wave 234 = .ok (.lload 13, 2) := by decide +kernel
theorem dX4_wave_236 : decode cX4_wave 236 = .ok (.goto 6, 3) := by decide +kernel
theorem dX4_wave_239 : decode cX4_wave 239 = .ok (.lload 15, 2) := by decide +kernel
theorem dX4_wave_241 : decode cX4_wave 241 = .ok (.lneg, 1) := by decide +kernel
theorem dX4_wave_242 : decode cX4_wave 242 = .ok (.ladd, 1) := by decide +kernel
theorem dX4_wave_243 : decode cX4_wave 243 = .ok (.lstore 17, 2) := by decide +kernel
theorem dX4_wave_245 : decode cX4_wave 245 = .ok (.lload 19, 2) := by decide +kernel
theorem dX4_wave_247 : decode cX4_wave 247 = .ok (.iload 24, 2) := by decide +kernel
theorem dX4_wave_249 : decode cX4_wave 249 = .ok (.ifCond .eq 8, 3) := by decide +kernel
theorem dX4_wave_252 : decode cX4_wave 252 = .ok (.lload 15, 2) := by decide +kernel
theorem dX4_wave_254 : decode cX4_wave 254 = .ok (.goto 6, 3) := by decide +kernel
theorem dX4_wave_257 : decode cX4_wave 257 = .ok (.lload 13, 2) := by decide +kernel
theorem dX4_wave_259 : decode cX4_wave 259 = .ok (.lneg, 1) := by decide +kernel
theorem dX4_wave_260 : decode cX4_wave 260 = .ok (.ladd, 1) := by decide +kernel
theorem dX4_wave_261 : decode cX4_wave 261 = .ok (.lstore 19, 2) := by decide +kernel
theorem dX4_wave_263 : decode cX4_wave 263 = .ok (.iinc 21 1, 3) := by decide +kernel
theorem dX4_wave_266 : decode cX4_wave 266 = .ok (.goto (-130), 3) := by decide +kernel
theorem dX4_wave_269 : decode cX4_wave 269 = .ok (.iload_n 2, 1) := by decide +kernel
theorem dX4_wave_270 : decode cX4_wave 270 = .ok (.ifCond .ne 13, 3) := by decide +kernel
theorem dX4_wave_273 : decode cX4_wave 273 = .ok (.lload_n 3, 1) := by decide +kernel
theorem dX4_wave_274 : decode cX4_wave 274 = .ok (.lconst 0, 1) := by decide +kernel
theorem dX4_wave_275 : decode cX4_wave 275 = .ok (.lcmp, 1) := by decide +kernel
theorem dX4_wave_276 : decode cX4_wave 276 = .ok (.ifCond .ge 7, 3) := by decide +kernel
theorem dX4_wave_279 : decode cX4_wave 279 = .ok (.iconst 1, 1) := by decide +kernel
theorem dX4_wave_280 : decode cX4_wave 280 = .ok (.goto 4, 3) := by decide +kernel
theorem dX4_wave_283 : decode cX4_wave 283 = .ok (.iconst 0, 1) := by decide +kernel
theorem dX4_wave_284 : decode cX4_wave 284 = .ok (.istore 21, 2) := by decide +kernel
theorem dX4_wave_286 : decode cX4_wave 286 = .ok (.iload 21, 2) := by decide +kernel
theorem dX4_wave_288 : decode cX4_wave 288 = .ok (.ifCond .eq 9, 3) := by decide +kernel
theorem dX4_wave_291 : decode cX4_wave 291 = .ok (.lload 19, 2) := by decide +kernel
theorem dX4_wave_293 : decode cX4_wave 293 = .ok (.lneg, 1) := by decide +kernel
theorem dX4_wave_294 : decode cX4_wave 294 = .ok (.goto 5, 3) := by decide +kernel
theorem dX4_wave_297 : decode cX4_wave 297 = .ok (.lload 17, 2) := by decide +kernel
theorem dX4_wave_299 : decode cX4_wave 299 = .ok (.iconst 4, 1) := by decide +kernel
theorem dX4_wave_300 : decode cX4_wave 300 = .ok (.lshr, 1) := by decide +kernel
theorem dX4_wave_301 : decode cX4_wave 301 = .ok (.lstore 22, 2) := by decide +kernel
theorem dX4_wave_303 : decode cX4_wave 303 = .ok (.iload 21, 2) := by decide +kernel
theorem dX4_wave_305 : decode cX4_wave 305 = .ok (.ifCond .eq 8, 3) := by decide +kernel
theorem dX4_wave_308 : decode cX4_wave 308 = .ok (.lload 17, 2) := by decide +kernel
theorem dX4_wave_310 : decode cX4_wave 310 = .ok (.goto 6, 3) := by decide +kernel
theorem dX4_wave_313 : decode cX4_wave 313 = .ok (.lload 19, 2) := by decide +kernel
theorem dX4_wave_315 : decode cX4_wave 315 = .ok (.lneg, 1) := by decide +kernel
theorem dX4_wave_316 : decode cX4_wave 316 = .ok (.iconst 4, 1) := by decide +kernel
theorem dX4_wave_317 : decode cX4_wave 317 = .ok (.lshr, 1) := by decide +kernel
theorem dX4_wave_318 : decode cX4_wave 318 = .ok (.lneg, 1) := by decide +kernel
theorem dX4_wave_319 : decode cX4_wave 319 = .ok (.lstore 24, 2) := by decide +kernel
theorem dX4_wave_321 : decode cX4_wave 321 = .ok (.lload 22, 2) := by decide +kernel
theorem dX4_wave_323 : decode cX4_wave 323 = .ok (.lload 5, 2) := by decide +kernel
theorem dX4_wave_325 : decode cX4_wave 325 = .ok (.lsub, 1) := by decide +kernel
theorem dX4_wave_326 : decode cX4_wave 326 = .ok (.ldc2_w 57, 3) := by decide +kernel
theorem dX4_wave_329 : decode cX4_wave 329 = .ok (.invokestatic 64, 3) := by decide +kernel
theorem dX4_wave_332 : decode cX4_wave 332 = .ok (.lload 24, 2) := by decide +kernel
theorem dX4_wave_334 : decode cX4_wave 334 = .ok (.lload 5, 2) := by decide +kernel
theorem dX4_wave_336 : decode cX4_wave 336 = .ok (.ladd, 1) := by decide +kernel
theorem dX4_wave_337 : decode cX4_wave 337 = .ok (.ldc2_w 55, 3) := by decide +kernel
theorem dX4_wave_340 : decode cX4_wave 340 = .ok (.invokestatic 67, 3) := by decide +kernel
theorem dX4_wave_343 : decode cX4_wave 343 = .ok (.invokestatic 28, 3) := by decide +kernel
theorem dX4_wave_346 : decode cX4_wave 346 = .ok (.lreturn, 1) := by decide +kernel
