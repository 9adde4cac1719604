theorem dX9_chosen_76 : decode cX9_chosen 76 = .ok (.getfield 45, 3) := by decide +kernel
theorem dX9_chosen_79 : decode cX9_chosen 79 = .ok (.iload_n 3, 1) := by decide +kernel
theorem dX9_chosen_80 : decode cX9_chosen 80 = .ok (.laload, 1) := by decide +kernel
theorem dX9_chosen_81 : decode cX9_chosen 81 = .ok (.aload_n 0, 1) := by decide +kernel
theorem dX9_chosen_82 : decode cX9_chosen 82 = .ok (.getfield 42, 3) := by decide +kernel
theorem dX9_chosen_85 : decode cX9_chosen 85 = .ok (.iload_n 2, 1) := by decide +kernel
theorem dX9_chosen_86 : decode cX9_chosen 86 = .ok (.laload, 1) := by decide +kernel
theorem dX9_chosen_87 : decode cX9_chosen 87 = .ok (.lcmp, 1) := by decide +kernel
theorem dX9_chosen_88 : decode cX9_chosen 88 = .ok (.ifCond .gt 7, 3) := by decide +kernel
theorem dX9_chosen_91 : decode cX9_chosen 91 = .ok (.iconst 1, 1) := by decide +kernel
theorem dX9_chosen_92 : decode cX9_chosen 92 = .ok (.goto 28, 3) := by decide +kernel
theorem dX9_chosen_95 : decode cX9_chosen 95 = .ok (.iconst 0, 1) := by decide +kernel
theorem dX9_chosen_96 : decode cX9_chosen 96 = .ok (.goto 24, 3) := by decide +kernel
theorem dX9_chosen_99 : decode cX9_chosen 99 = .ok (.aload_n 0, 1) := by decide +kernel
theorem dX9_chosen_100 : decode cX9_chosen 100 = .ok (.getfield 42, 3) := by decide +kernel
theorem dX9_chosen_103 : decode cX9_chosen 103 = .ok (.iload_n 3, 1) := by decide +kernel
theorem dX9_chosen_104 : decode cX9_chosen 104 = .ok (.laload, 1) := by decide +kernel
theorem dX9_chosen_105 : decode cX9_chosen 105 = .ok (.aload_n 0, 1) := by decide +kernel
theorem dX9_chosen_106 : decode cX9_chosen 106 = .ok (.getfield 45, 3) := by decide +kernel
theorem dX9_chosen_109 : decode cX9_chosen 109 = .ok (.iload_n 2, 1) := by decide +kernel
theorem dX9_chosen_110 : decode cX9_chosen 110 = .ok (.laload, 1) := by decide +kernel
theorem dX9_chosen_111 : decode cX9_chosen 111 = .ok (.lcmp, 1) := by decide +kernel
theorem dX9_chosen_112 : decode cX9_chosen 112 = .ok (.ifCond .lt 7, 3) := by decide +kernel
theorem dX9_chosen_115 : decode cX9_chosen 115 = .ok (.iconst 1, 1) := by decide +kernel
theorem dX9_chosen_116 : decode cX9_chosen 116 = .ok (.goto 4, 3) := by decide +kernel
theorem dX9_chosen_119 : decode cX9_chosen 119 = .ok (.iconst 0, 1) := by decide +kernel
theorem dX9_chosen_120 : decode cX9_chosen 120 = .ok (.istore 6, 2) := by decide +kernel
theorem dX9_chosen_122 : decode cX9_chosen 122 = .ok (.iload 5, 2) := by decide +kernel
theorem dX9_chosen_124 : decode cX9_chosen 124 = .ok (.ifCond .ne 8, 3) := by decide +kernel
theorem dX9_chosen_127 : decode cX9_chosen 127 = .ok (.iload 6, 2) := by decide +kernel
theorem dX9_chosen_129 : decode cX9_chosen 129 = .ok (.ifCond .eq 51, 3) := by decide +kernel
theorem dX9_chosen_132 : decode cX9_chosen 132 = .ok (.iload 5, 2) := by decide +kernel
theorem dX9_chosen_134 : decode cX9_chosen 134 = .ok (.ifCond .eq 7, 3) := by decide +kernel
theorem dX9_chosen_137 : decode cX9_chosen 137 = .ok (.iload_n 2, 1) := by decide +kernel
theorem dX9_chosen_138 : decode cX9_chosen 138 = .ok (.goto 4, 3) := by decide +kernel
theorem dX9_chosen_141 : decode cX9_chosen 141 = .ok (.iload_n 3, 1) := by decide +kernel
theorem dX9_chosen_142 : decode cX9_chosen 142 = .ok (.istore 7, 2) := by decide +kernel
theorem dX9_chosen_144 : decode cX9_chosen 144 = .ok (.aload_n 0, 1) := by decide +kernel
theorem dX9_chosen_145 : decode cX9_chosen 145 = .ok (.getfield 58, 3) := by decide +kernel
theorem dX9_chosen_148 : decode cX9_chosen 148 = .ok (.iload 7, 2) := by decide +kernel
theorem dX9_chosen_150 : decode cX9_chosen 150 = .ok (.baload, 1) := by decide +kernel
theorem dX9_chosen_151 : decode cX9_chosen 151 = .ok (.ifCond .eq 10, 3) := by decide +kernel
theorem dX9_chosen_154 : decode cX9_chosen 154 = .ok (.aload_n 0, 1) := by decide +kernel
theorem dX9_chosen_155 : decode cX9_chosen 155 = .ok (.invokevirtual 247, 3) := by decide +kernel
theorem dX9_chosen_158 : decode cX9_chosen 158 = .ok (.goto 21, 3) := by decide +kernel
theorem dX9_chosen_161 : decode cX9_chosen 161 = .ok (.aload_n 0, 1) := by decide +kernel
theorem dX9_chosen_162 : decode cX9_chosen 162 = .ok (.aload_n 0, 1) := by decide +kernel
theorem dX9_chosen_163 : decode cX9_chosen 163 = .ok (.getfield 48, 3) := by decide +kernel
theorem dX9_chosen_166 : decode cX9_chosen 166 = .ok (.iload 7, 2) := by decide +kernel
theorem dX9_chosen_168 : decode cX9_chosen 168 = .ok (.laload, 1) := by decide +kernel
theorem dX9_chosen_169 : decode cX9_chosen 169 = .ok (.aload_n 0, 1) := by decide +kernel
theorem dX9_chosen_170 : decode cX9_chosen 170 = .ok (.getfield 51, 3) := by decide +kernel
theorem dX9_chosen_173 : decode cX9_chosen 173 = .ok (.iload 7, 2) := by decide +kernel
theorem dX9_chosen_175 : decode cX9_chosen 175 = .ok (.laload, 1) := by decide +kernel
theorem dX9_chosen_176 : decode cX9_chosen 176 = .ok (.invokevirtual 243, 3) := by decide +kernel
theorem dX9_chosen_179 : decode cX9_chosen 179 = .ok (.return_, 1) := by decide +kernel
theorem dX9_chosen_180 : decode cX9_chosen 180 = .ok (.aload_n 0, 1) := by decide +kernel
theorem dX9_chosen_181 : decode cX9_chosen 181 = .ok (.getfield 58, 3) := by decide +kernel
theorem dX9_chosen_184 : decode cX9_chosen 184 = .ok (.iload_n 2, 1) := by decide +kernel
theorem dX9_chosen_185 : decode cX9_chosen 185 = .ok (.baload, 1) := by decide +kernel
theorem dX9_chosen_186 : decode cX9_chosen 186 = .ok (.ifCond .ne 12, 3) := by decide +kernel
theorem dX9_chosen_189 : decode cX9_chosen 189 = .ok (.aload_n 0, 1) := by decide +kernel
theorem dX9_chosen_190 : decode cX9_chosen 190 = .ok (.getfield 58, 3) := by decide +kernel
theorem dX9_chosen_193 : decode cX9_chosen 193 = .ok (.iload_n 3, 1) := by decide +kernel
theorem dX9_chosen_194 : decode cX9_chosen 194 = .ok (.baload, 1) := by decide +kernel
theorem dX9_chosen_195 : decode cX9_chosen 195 = .ok (.ifCond .eq 8, 3) := by decide +kernel
theorem dX9_chosen_198 : decode cX9_chosen 198 = .ok (.aload_n 0, 1) := by decide +kernel
theorem dX9_chosen_199 : decode cX9_chosen 199 = .ok (.invokevirtual 247, 3) := by decide +kernel
theorem dX9_chosen_202 : decode cX9_chosen 202 = .ok (.return_, 1) := by decide +kernel
theorem dX9_chosen_203 : decode cX9_chosen 203 = .ok (.aload_n 0, 1) := by decide +kernel
theorem dX9_chosen_204 : decode cX9_chosen 204 = .ok (.aload_n 0, 1) := by decide +kernel
theorem dX9_chosen_205 : decode cX9_chosen 205 = .ok (.getfield 48, 3) := by decide +kernel
theorem dX9_chosen_208 : decode cX9_chosen 208 = .ok (.iload_n 2, 1) := by decide +kernel
theorem dX9_chosen_209 : decode cX9_chosen 209 = .ok (.laload, 1) := by decide +kernel
theorem dX9_chosen_210 : decode cX9_chosen 210 = .ok (.aload_n 0, 1) := by decide +kernel
theorem dX9_chosen_211 : decode cX9_chosen 211 = .ok (.getfield 48, 3) := by decide +kernel
theorem dX9_chosen_214 : decode cX9_chosen 214 = .ok (.iload_n 3, 1) := by decide +kernel
theorem dX9_chosen_215 : decode cX9_chosen 215 = .ok (.laload, 1) := by decide +kernel
theorem dX9_chosen_216 : decode cX9_chosen 216 = .ok (.invokestatic 237, 3) := by decide +kernel
theorem dX9_chosen_219 : decode cX9_chosen 219 = .ok (.aload_n 0, 1) := by decide +kernel
theorem dX9_chosen_220 : decode cX9_chosen 220 = .ok (.getfield 51, 3) := by decide +kernel
theorem dX9_chosen_223 : decode cX9_chosen 223 = .ok (.iload_n 2, 1) := by decide +kernel
theorem dX9_chosen_224 : decode cX9_chosen 224 = .ok (.laload, 1) := by decide +kernel
theorem dX9_chosen_225 : decode cX9_chosen 225 = .ok (.aload_n 0, 1) := by decide +kernel
theorem dX9_chosen_226 : decode cX9_chosen 226 = .ok (.getfield 51, 3) := by decide +kernel
theorem dX9_chosen_229 : decode cX9_chosen 229 = .ok (.iload_n 3, 1) := by decide +kernel
theorem dX9_chosen_230 : decode cX9_chosen 230 = .ok (.laload, 1) := by decide +kernel
theorem dX9_chosen_231 : decode cX9_chosen 231 = .ok (.invokestatic 240, 3) := by decide +kernel
theorem dX9_chosen_234 : decode cX9_chosen 234 = .ok (.invokevirtual 243, 3) := by decide +kernel
theorem dX9_chosen_237 : decode cX9_chosen 237 = .ok (.return_, 1) := by decide +kernel
theorem dX9_shut_0 : decode cX9_shut 0 = .ok (.aload_n 0, 1) := by decide +kernel
theorem dX9_shut_1 : decode cX9_shut 1 = .ok (.iload_n 1, 1) := by decide +kernel
theorem dX9_shut_2 : decode cX9_shut 2 = .ok (.lload_n 2, 1) := by decide +kernel
theorem dX9_shut_3 : decode cX9_shut 3 = .ok (.lload 4, 2) := by decide +kernel
theorem dX9_shut_5 : decode cX9_shut 5 = .ok (.invokevirtual 334, 3) := by decide +kernel
theorem dX9_shut_8 : decode cX9_shut 8 = .ok (.aload_n 0, 1) := by decide +kernel
theorem dX9_shut_9 : decode cX9_shut 9 = .ok (.iload_n 1, 1) := by decide +kernel
theorem dX9_shut_10 : decode cX9_shut 10 = .ok (.invokevirtual 302, 3) := by decide +kernel
theorem dX9_shut_13 : decode cX9_shut 13 = .ok (.istore 6, 2) := by decide +kernel
theorem dX9_shut_15 : decode cX9_shut 15 = .ok (.aload_n 0, 1) := by decide +kernel
theorem dX9_shut_16 : decode cX9_shut 16 = .ok (.aload_n 0, 1) := by decide +kernel
theorem dX9_shut_17 : decode cX9_shut 17 = .ok (.getfield 42, 3) := by decide +kernel
theorem dX9_shut_20 : decode cX9_shut 20 = .ok (.iload 6, 2) := by decide +kernel
theorem dX9_shut_22 : decode cX9_shut 22 = .ok (.laload, 1) := by decide +kernel
theorem dX9_shut_23 : decode cX9_shut 23 = .ok (.putfield 355, 3) := by decide +kernel
theorem dX9_shut_26 : decode cX9_shut 26 = .ok (.aload_n 0, 1) := by decide +kernel
theorem dX9_shut_27 : decode cX9_shut 27 = .ok (.aload_n 0, 1) := by decide +kernel
theorem dX9_shut_28 : decode cX9_shut 28 = .ok (.getfield 45, 3) := by decide +kernel
theorem dX9_shut_31 : decode cX9_shut 31 = .ok (.iload 6, 2) := by decide +kernel
theorem dX9_shut_33 : decode cX9_shut 33 = .ok (.laload, 1) := by decide +kernel
theorem dX9_shut_34 : decode cX9_shut 34 = .ok (.putfield 358, 3) := by decide +kernel
theorem dX9_shut_37 : decode cX9_shut 37 = .ok (.aload_n 0, 1) := by decide +kernel
theorem dX9_shut_38 : decode cX9_shut 38 = .ok (.getfield 54, 3) := by decide +kernel
theorem dX9_shut_41 : decode cX9_shut 41 = .ok (.iload 6, 2) := by decide +kernel
theorem dX9_shut_43 : decode cX9_shut 43 = .ok (.baload, 1) := by decide +kernel
theorem dX9_shut_44 : decode cX9_shut 44 = .ok (.ifCond .ne 7, 3) := by decide +kernel
theorem dX9_shut_47 : decode cX9_shut 47 = .ok (.iconst 1, 1) := by decide +kernel
theorem dX9_shut_48 : decode cX9_shut 48 = .ok (.goto 4, 3) := by decide +kernel
theorem dX9_shut_51 : decode cX9_shut 51 = .ok (.iconst 0, 1) := by decide +kernel
theorem dX9_shut_52 : decode cX9_shut 52 = .ok (.ireturn, 1) := by decide +kernel
theorem dX9_shutSlope_0 : decode cX9_shutSlope 0 = .ok (.aload_n 0, 1) := by decide +kernel
theorem dX9_shutSlope_1 : decode cX9_shutSlope 1 = .ok (.iload_n 1, 1) := by decide +kernel
theorem dX9_shutSlope_2 : decode cX9_shutSlope 2 = .ok (.lload_n 2, 1) := by decide +kernel
theorem dX9_shutSlope_3 : decode cX9_shutSlope 3 = .ok (.lload 4, 2) := by decide +kernel
theorem dX9_shutSlope_5 : decode cX9_shutSlope 5 = .ok (.invokevirtual 361, 3) := by decide +kernel
theorem dX9_shutSlope_8 : decode cX9_shutSlope 8 = .ok (.aload_n 0, 1) := by decide +kernel
theorem dX9_shutSlope_9 : decode cX9_shutSlope 9 = .ok (.iload_n 1, 1) := by decide +kernel
theorem dX9_shutSlope_10 : decode cX9_shutSlope 10 = .ok (.invokevirtual 302, 3) := by decide +kernel
theorem dX9_shutSlope_13 : decode cX9_shutSlope 13 = .ok (.istore 6, 2) := by decide +kernel
theorem dX9_shutSlope_15 : decode cX9_shutSlope 15 = .ok (.aload_n 0, 1) := by decide +kernel
theorem dX9_shutSlope_16 : decode cX9_shutSlope 16 = .ok (.aload_n 0, 1) := by decide +kernel
theorem dX9_shutSlope_17 : decode cX9_shutSlope 17 = .ok (.getfield 48, 3) := by decide +kernel
theorem dX9_shutSlope_20 : decode cX9_shutSlope 20 = .ok (.iload 6, 2) := by decide +kernel
theorem dX9_shutSlope_22 : decode cX9_shutSlope 22 = .ok (.laload, 1) := by decide +kernel
theorem dX9_shutSlope_23 : decode cX9_shutSlope 23 = .ok (.putfield 355, 3) := by decide +kernel
theorem dX9_shutSlope_26 : decode cX9_shutSlope 26 = .ok (.aload_n 0, 1) := by decide +kernel
theorem dX9_shutSlope_27 : decode cX9_shutSlope 27 = .ok (.aload_n 0, 1) := by decide +kernel
theorem dX9_shutSlope_28 : decode cX9_shutSlope 28 = .ok (.getfield 51, 3) := by decide +kernel
theorem dX9_shutSlope_31 : decode cX9_shutSlope 31 = .ok (.iload 6, 2) := by decide +kernel
theorem dX9_shutSlope_33 : decode cX9_shutSlope 33 = .ok (.laload, 1) := by decide +kernel
theorem dX9_shutSlope_34 : decode cX9_shutSlope 34 = .ok (.putfield 358, 3) := by decide +kernel
theorem dX9_shutSlope_37 : decode cX9_shutSlope 37 = .ok (.aload_n 0, 1) := by decide +kernel
theorem dX9_shutSlope_38 : decode cX9_shutSlope 38 = .ok (.getfield 58, 3) := by decide +kernel
theorem dX9_shutSlope_41 : decode cX9_shutSlope 41 = .ok (.iload 6, 2) := by decide +kernel
theorem dX9_shutSlope_43 : decode cX9_shutSlope 43 = .ok (.baload, 1) := by decide +kernel
theorem dX9_shutSlope_44 : decode cX9_shutSlope 44 = .ok (.ifCond .ne 7, 3) := by decide +kernel
theorem dX9_shutSlope_47 : decode cX9_shutSlope 47 = .ok (.iconst 1, 1) := by decide +kernel
theorem dX9_shutSlope_48 : decode cX9_shutSlope 48 = .ok (.goto 4, 3) := by decide +kernel
theorem dX9_shutSlope_51 : decode cX9_shutSlope 51 = .ok (.iconst 0, 1) := by decide +kernel
theorem dX9_shutSlope_52 : decode cX9_shutSlope 52 = .ok (.ireturn, 1) := by decide +kernel
theorem dX9_tells_0 : decode cX9_tells 0 = .ok (.iload_n 1, 1) := by decide +kernel
theorem dX9_tells_1 : decode cX9_tells 1 = .ok (.ifCond .ne 5, 3) := by decide +kernel
theorem dX9_tells_4 : decode cX9_tells 4 = .ok (.iconst 1, 1) := by decide +kernel
theorem dX9_tells_5 : decode cX9_tells 5 = .ok (.ireturn, 1) := by decide +kernel
theorem dX9_tells_6 : decode cX9_tells 6 = .ok (.aload_n 0, 1) := by decide +kernel
theorem dX9_tells_7 : decode cX9_tells 7 = .ok (.lload_n 2, 1) := by decide +kernel
theorem dX9_tells_8 : decode cX9_tells 8 = .ok (.putfield 364, 3) := by decide +kernel
theorem dX9_tells_11 : decode cX9_tells 11 = .ok (.aload_n 0, 1) := by decide +kernel
theorem dX9_tells_12 : decode cX9_tells 12 = .ok (.lload 4, 2) := by decide +kernel
theorem dX9_tells_14 : decode cX9_tells 14 = .ok (.putfield 367, 3) := by decide +kernel
theorem dX9_tells_17 : decode cX9_tells 17 = .ok (.iconst 0, 1) := by decide +kernel
theorem dX9_tells_18 : decode cX9_tells 18 = .ok (.ireturn, 1) := by decide +kernel
theorem dX9_at_0 : decode cX9_at 0 = .ok (.aload_n 0, 1) := by decide +kernel
theorem dX9_at_1 : decode cX9_at 1 = .ok (.iload_n 1, 1) := by decide +kernel
theorem dX9_at_2 : decode cX9_at 2 = .ok (.invokevirtual 216, 3) := by decide +kernel
theorem dX9_at_5 : decode cX9_at 5 = .ok (.ifCond .eq 8, 3) := by decide +kernel
theorem dX9_at_8 : decode cX9_at 8 = .ok (.iload_n 2, 1) := by decide +kernel
theorem dX9_at_9 : decode cX9_at 9 = .ok (.iload_n 3, 1) := by decide +kernel
theorem dX9_at_10 : decode cX9_at 10 = .ok (.if_icmp .le 5, 3) := by decide +kernel
theorem dX9_at_13 : decode cX9_at 13 = .ok (.iconst (-1), 1) := by decide +kernel
theorem dX9_at_14 : decode cX9_at 14 = .ok (.ireturn, 1) := by decide +kernel
theorem dX9_at_15 : decode cX9_at 15 = .ok (.aload_n 0, 1) := by decide +kernel
theorem dX9_at_16 : decode cX9_at 16 = .ok (.iload_n 1, 1) := by decide +kernel
theorem dX9_at_17 : decode cX9_at 17 = .ok (.iload_n 2, 1) := by decide +kernel
theorem dX9_at_18 : decode cX9_at 18 = .ok (.i2l, 1) := by decide +kernel
theorem dX9_at_19 : decode cX9_at 19 = .ok (.iload_n 3, 1) := by decide +kernel
theorem dX9_at_20 : decode cX9_at 20 = .ok (.i2l, 1) := by decide +kernel
theorem dX9_at_21 : decode cX9_at 21 = .ok (.invokevirtual 370, 3) := by decide +kernel
theorem dX9_at_24 : decode cX9_at 24 = .ok (.istore 4, 2) := by decide +kernel
theorem dX9_at_26 : decode cX9_at 26 = .ok (.aload_n 0, 1) := by decide +kernel
theorem dX9_at_27 : decode cX9_at 27 = .ok (.iload 4, 2) := by decide +kernel
theorem dX9_at_29 : decode cX9_at 29 = .ok (.aload_n 0, 1) := by decide +kernel
theorem dX9_at_30 : decode cX9_at 30 = .ok (.getfield 355, 3) := by decide +kernel
theorem dX9_at_33 : decode cX9_at 33 = .ok (.aload_n 0, 1) := by decide +kernel
theorem dX9_at_34 : decode cX9_at 34 = .ok (.getfield 358, 3) := by decide +kernel
theorem dX9_at_37 : decode cX9_at 37 = .ok (.invokevirtual 374, 3) := by decide +kernel
theorem dX9_at_40 : decode cX9_at 40 = .ok (.ireturn, 1) := by decide +kernel
theorem dX9_slope__0 : decode cX9_slope_ 0 = .ok (.aload_n 0, 1) := by decide +kernel
theorem dX9_slope__1 : decode cX9_slope_ 1 = .ok (.iload_n 1, 1) := by decide +kernel
theorem dX9_slope__2 : decode cX9_slope_ 2 = .ok (.invokevirtual 216, 3) := by decide +kernel
theorem dX9_slope__5 : decode cX9_slope_ 5 = .ok (.ifCond .eq 8, 3) := by decide +kernel
theorem dX9_slope__8 : decode cX9_slope_ 8 = .ok (.iload_n 2, 1) := by decide +kernel
theorem dX9_slope__9 : decode cX9_slope_ 9 = .ok (.iload_n 3, 1) := by decide +kernel
theorem dX9_slope__10 : decode cX9_slope_ 10 = .ok (.if_icmp .le 5, 3) := by decide +kernel
theorem dX9_slope__13 : decode cX9_slope_ 13 = .ok (.iconst (-1), 1) := by decide +kernel
theorem dX9_slope__14 : decode cX9_slope_ 14 = .ok (.ireturn, 1) := by decide +kernel
theorem dX9_slope__15 : decode cX9_slope_ 15 = .ok (.aload_n 0, 1) := by decide +kernel
theorem dX9_slope__16 : decode cX9_slope_ 16 = .ok (.iload_n 1, 1) := by decide +kernel
theorem dX9_slope__17 : decode cX9_slope_ 17 = .ok (.iload_n 2, 1) := by decide +kernel
theorem dX9_slope__18 : decode cX9_slope_ 18 = .ok (.i2l, 1) := by decide +kernel
theorem dX9_slope__19 : decode cX9_slope_ 19 = .ok (.iload_n 3, 1) := by decide +kernel
theorem dX9_slope__20 : decode cX9_slope_ 20 = .ok (.i2l, 1) := by decide +kernel
theorem dX9_slope__21 : decode cX9_slope_ 21 = .ok (.invokevirtual 378, 3) := by decide +kernel
theorem dX9_slope__24 : decode cX9_slope_ 24 = .ok (.istore 4, 2) := by decide +kernel
theorem dX9_slope__26 : decode cX9_slope_ 26 = .ok (.aload_n 0, 1) := by decide +kernel
theorem dX9_slope__27 : decode cX9_slope_ 27 = .ok (.iload 4, 2) := by decide +kernel
theorem dX9_slope__29 : decode cX9_slope_ 29 = .ok (.aload_n 0, 1) := by decide +kernel
theorem dX9_slope__30 : decode cX9_slope_ 30 = .ok (.getfield 355, 3) := by decide +kernel
theorem dX9_slope__33 : decode cX9_slope_ 33 = .ok (.aload_n 0, 1) := by decide +kernel
theorem dX9_slope__34 : decode cX9_slope_ 34 = .ok (.getfield 358, 3) := by decide +kernel
theorem dX9_slope__37 : decode cX9_slope_ 37 = .ok (.invokevirtual 374, 3) := by decide +kernel
theorem dX9_slope__40 : decode cX9_slope_ 40 = .ok (.ireturn, 1) := by decide +kernel
theorem dX9_halve_0 : decode cX9_halve 0 = .ok (.aload_n 0, 1) := by decide +kernel
theorem dX9_halve_1 : decode cX9_halve 1 = .ok (.getfield 381, 3) := by decide +kernel
theorem dX9_halve_4 : decode cX9_halve 4 = .ok (.istore_n 2, 1) := by decide +kernel
theorem dX9_halve_5 : decode cX9_halve 5 = .ok (.iload_n 2, 1) := by decide +kernel
theorem dX9_halve_6 : decode cX9_halve 6 = .ok (.iload_n 1, 1) := by decide +kernel
theorem dX9_halve_7 : decode cX9_halve 7 = .ok (.iconst 1, 1) := by decide +kernel
theorem dX9_halve_8 : decode cX9_halve 8 = .ok (.iadd, 1) := by decide +kernel
theorem dX9_halve_9 : decode cX9_halve 9 = .ok (.if_icmp .le 65, 3) := by decide +kernel
theorem dX9_halve_12 : decode cX9_halve 12 = .ok (.aload_n 0, 1) := by decide +kernel
theorem dX9_halve_13 : decode cX9_halve 13 = .ok (.getfield 61, 3) := by decide +kernel
theorem dX9_halve_16 : decode cX9_halve 16 = .ok (.iload_n 2, 1) := by decide +kernel
theorem dX9_halve_17 : decode cX9_halve 17 = .ok (.aload_n 0, 1) := by decide +kernel
theorem dX9_halve_18 : decode cX9_halve 18 = .ok (.getfield 61, 3) := by decide +kernel
theorem dX9_halve_21 : decode cX9_halve 21 = .ok (.iload_n 2, 1) := by decide +kernel
theorem dX9_halve_22 : decode cX9_halve 22 = .ok (.iconst 1, 1) := by decide +kernel
theorem dX9_halve_23 : decode cX9_halve 23 = .ok (.isub, 1) := by decide +kernel
theorem dX9_halve_24 : decode cX9_halve 24 = .ok (.laload, 1) := by decide +kernel
theorem dX9_halve_25 : decode cX9_halve 25 = .ok (.lastore, 1) := by decide +kernel
theorem dX9_halve_26 : decode cX9_halve 26 = .ok (.aload_n 0, 1) := by decide +kernel
theorem dX9_halve_27 : decode cX9_halve 27 = .ok (.getfield 64, 3) := by decide +kernel
theorem dX9_halve_30 : decode cX9_halve 30 = .ok (.iload_n 2, 1) := by decide +kernel
theorem dX9_halve_31 : decode cX9_halve 31 = .ok (.aload_n 0, 1) := by decide +kernel
theorem dX9_halve_32 : decode cX9_halve 32 = .ok (.getfield 64, 3) := by decide +kernel
theorem dX9_halve_35 : decode cX9_halve 35 = .ok (.iload_n 2, 1) := by decide +kernel
theorem dX9_halve_36 : decode cX9_halve 36 = .ok (.iconst 1, 1) := by decide +kernel
theorem dX9_halve_37 : decode cX9_halve 37 = .ok (.isub, 1) := by decide +kernel
theorem dX9_halve_38 : decode cX9_halve 38 = .ok (.laload, 1) := by decide +kernel
theorem dX9_halve_39 : decode cX9_halve 39 = .ok (.lastore, 1) := by decide +kernel
theorem dX9_halve_40 : decode cX9_halve 40 = .ok (.aload_n 0, 1) := by decide +kernel
theorem dX9_halve_41 : decode cX9_halve 41 = .ok (.getfield 67, 3) := by decide +kernel
theorem dX9_halve_44 : decode cX9_halve 44 = .ok (.iload_n 2, 1) := by decide +kernel
theorem dX9_halve_45 : decode cX9_halve 45 = .ok (.aload_n 0, 1) := by decide +kernel
theorem dX9_halve_46 : decode cX9_halve 46 = .ok (.getfield 67, 3) := by decide +kernel
theorem dX9_halve_49 : decode cX9_halve 49 = .ok (.iload_n 2, 1) := by decide +kernel
theorem dX9_halve_50 : decode cX9_halve 50 = .ok (.iconst 1, 1) := by decide +kernel
theorem dX9_halve_51 : decode cX9_halve 51 = .ok (.isub, 1) := by decide +kernel
theorem dX9_halve_52 : decode cX9_halve 52 = .ok (.laload, 1) := by decide +kernel
theorem dX9_halve_53 : decode cX9_halve 53 = .ok (.lastore, 1) := by decide +kernel
theorem dX9_halve_54 : decode cX9_halve 54 = .ok (.aload_n 0, 1) := by decide +kernel
theorem dX9_halve_55 : decode cX9_halve 55 = .ok (.getfield 70, 3) := by decide +kernel
theorem dX9_halve_58 : decode cX9_halve 58 = .ok (.iload_n 2, 1) := by decide +kernel
theorem dX9_halve_59 : decode cX9_halve 59 = .ok (.aload_n 0, 1) := by decide +kernel
theorem dX9_halve_60 : decode cX9_halve 60 = .ok (.getfield 70, 3) := by decide +kernel
theorem dX9_halve_63 : decode cX9_halve 63 = .ok (.iload_n 2, 1) := by decide +kernel
theorem dX9_halve_64 : decode cX9_halve 64 = .ok (.iconst 1, 1) := by decide +kernel
theorem dX9_halve_65 : decode cX9_halve 65 = .ok (.isub, 1) := by decide +kernel
theorem dX9_halve_66 : decode cX9_halve 66 = .ok (.laload, 1) := by decide +kernel
theorem dX9_halve_67 : decode cX9_halve 67 = .ok (.lastore, 1) := by decide +kernel
theorem dX9_halve_68 : decode cX9_halve 68 = .ok (.iinc 2 (-1), 3) := by decide +kernel
theorem dX9_halve_71 : decode cX9_halve 71 = .ok (.goto (-66), 3) := by decide +kernel
theorem dX9_halve_74 : decode cX9_halve 74 = .ok (.aload_n 0, 1) := by decide +kernel
theorem dX9_halve_75 : decode cX9_halve 75 = .ok (.getfield 61, 3) := by decide +kernel
theorem dX9_halve_78 : decode cX9_halve 78 = .ok (.iload_n 1, 1) := by decide +kernel
theorem dX9_halve_79 : decode cX9_halve 79 = .ok (.laload, 1) := by decide +kernel
theorem dX9_halve_80 : decode cX9_halve 80 = .ok (.aload_n 0, 1) := by decide +kernel
theorem dX9_halve_81 : decode cX9_halve 81 = .ok (.getfield 64, 3) := by decide +kernel
theorem dX9_halve_84 : decode cX9_halve 84 = .ok (.iload_n 1, 1) := by decide +kernel
theorem dX9_halve_85 : decode cX9_halve 85 = .ok (.laload, 1) := by decide +kernel
theorem dX9_halve_86 : decode cX9_halve 86 = .ok (.ladd, 1) := by decide +kernel
theorem dX9_halve_87 : decode cX9_halve 87 = .ok (.ldc2_w 292, 3) := by decide +kernel
theorem dX9_halve_90 : decode cX9_halve 90 = .ok (.invokestatic 209, 3) := by decide +kernel
theorem dX9_halve_93 : decode cX9_halve 93 = .ok (.lstore_n 2, 1) := by decide +kernel
theorem dX9_halve_94 : decode cX9_halve 94 = .ok (.aload_n 0, 1) := by decide +kernel
theorem dX9_halve_95 : decode cX9_halve 95 = .ok (.getfield 64, 3) := by decide +kernel
theorem dX9_halve_98 : decode cX9_halve 98 = .ok (.iload_n 1, 1) := by decide +kernel
theorem dX9_halve_99 : decode cX9_halve 99 = .ok (.iconst 1, 1) := by decide +kernel
theorem dX9_halve_100 : decode cX9_halve 100 = .ok (.iadd, 1) := by decide +kernel
theorem dX9_halve_101 : decode cX9_halve 101 = .ok (.aload_n 0, 1) := by decide +kernel
theorem dX9_halve_102 : decode cX9_halve 102 = .ok (.getfield 64, 3) := by decide +kernel
theorem dX9_halve_105 : decode cX9_halve 105 = .ok (.iload_n 1, 1) := by decide +kernel
theorem dX9_halve_106 : decode cX9_halve 106 = .ok (.laload, 1) := by decide +kernel
theorem dX9_halve_107 : decode cX9_halve 107 = .ok (.lastore, 1) := by decide +kernel
theorem dX9_halve_108 : decode cX9_halve 108 = .ok (.aload_n 0, 1) := by decide +kernel
theorem dX9_halve_109 : decode cX9_halve 109 = .ok (.getfield 61, 3) := by decide +kernel
theorem dX9_halve_112 : decode cX9_halve 112 = .ok (.iload_n 1, 1) := by decide +kernel
theorem dX9_halve_113 : decode cX9_halve 113 = .ok (.iconst 1, 1) := by decide +kernel
theorem dX9_halve_114 : decode cX9_halve 114 = .ok (.iadd, 1) := by decide +kernel
theorem dX9_halve_115 : decode cX9_halve 115 = .ok (.lload_n 2, 1) := by decide +kernel
theorem dX9_halve_116 : decode cX9_halve 116 = .ok (.lastore, 1) := by decide +kernel
theorem dX9_halve_117 : decode cX9_halve 117 = .ok (.aload_n 0, 1) := by decide +kernel
theorem dX9_halve_118 : decode cX9_halve 118 = .ok (.getfield 64, 3) := by decide +kernel
theorem dX9_halve_121 : decode cX9_halve 121 = .ok (.iload_n 1, 1) := by decide +kernel
theorem dX9_halve_122 : decode cX9_halve 122 = .ok (.lload_n 2, 1) := by decide +kernel
theorem dX9_halve_123 : decode cX9_halve 123 = .ok (.lastore, 1) := by decide +kernel
theorem dX9_halve_124 : decode cX9_halve 124 = .ok (.aload_n 0, 1) := by decide +kernel
theorem dX9_halve_125 : decode cX9_halve 125 = .ok (.dup, 1) := by decide +kernel
theorem dX9_halve_126 : decode cX9_halve 126 = .ok (.getfield 381, 3) := by decide +kernel
theorem dX9_halve_129 : decode cX9_halve 129 = .ok (.iconst 1, 1) := by decide +kernel
theorem dX9_halve_130 : decode cX9_halve 130 = .ok (.iadd, 1) := by decide +kernel
theorem dX9_halve_131 : decode cX9_halve 131 = .ok (.putfield 381, 3) := by decide +kernel
theorem dX9_halve_134 : decode cX9_halve 134 = .ok (.return_, 1) := by decide +kernel
theorem dX9_sumOf_0 : decode cX9_sumOf 0 = .ok (.aload_n 0, 1) := by decide +kernel
theorem dX9_sumOf_1 : decode cX9_sumOf 1 = .ok (.getfield 61, 3) := by decide +kernel
theorem dX9_sumOf_4 : decode cX9_sumOf 4 = .ok (.iload_n 2, 1) := by decide +kernel
theorem dX9_sumOf_5 : decode cX9_sumOf 5 = .ok (.laload, 1) := by decide +kernel
theorem dX9_sumOf_6 : decode cX9_sumOf 6 = .ok (.lstore_n 3, 1) := by decide +kernel
theorem dX9_sumOf_7 : decode cX9_sumOf 7 = .ok (.aload_n 0, 1) := by decide +kernel
theorem dX9_sumOf_8 : decode cX9_sumOf 8 = .ok (.getfield 64, 3) := by decide +kernel
theorem dX9_sumOf_11 : decode cX9_sumOf 11 = .ok (.iload_n 2, 1) := by decide +kernel
theorem dX9_sumOf_12 : decode cX9_sumOf 12 = .ok (.laload, 1) := by decide +kernel
theorem dX9_sumOf_13 : decode cX9_sumOf 13 = .ok (.lstore 5, 2) := by decide +kernel
theorem dX9_sumOf_15 : decode cX9_sumOf 15 = .ok (.lload 5, 2) := by decide +kernel
theorem dX9_sumOf_17 : decode cX9_sumOf 17 = .ok (.lload_n 3, 1) := by decide +kernel
theorem dX9_sumOf_18 : decode cX9_sumOf 18 = .ok (.lsub, 1) := by decide +kernel
theorem dX9_sumOf_19 : decode cX9_sumOf 19 = .ok (.lstore 7, 2) := by decide +kernel
theorem dX9_sumOf_21 : decode cX9_sumOf 21 = .ok (.aload_n 0, 1) := by decide +kernel
theorem dX9_sumOf_22 : decode cX9_sumOf 22 = .ok (.iload_n 1, 1) := by decide +kernel
theorem dX9_sumOf_23 : decode cX9_sumOf 23 = .ok (.lload_n 3, 1) := by decide +kernel
theorem dX9_sumOf_24 : decode cX9_sumOf 24 = .ok (.lload 5, 2) := by decide +kernel
theorem dX9_sumOf_26 : decode cX9_sumOf 26 = .ok (.invokevirtual 370, 3) := by decide +kernel
theorem dX9_sumOf_29 : decode cX9_sumOf 29 = .ok (.ifCond .ne 5, 3) := by decide +kernel
theorem dX9_sumOf_32 : decode cX9_sumOf 32 = .ok (.iconst 0, 1) := by decide +kernel
theorem dX9_sumOf_33 : decode cX9_sumOf 33 = .ok (.ireturn, 1) := by decide +kernel
theorem dX9_sumOf_34 : decode cX9_sumOf 34 = .ok (.aload_n 0, 1) := by decide +kernel
theorem dX9_sumOf_35 : decode cX9_sumOf 35 = .ok (.getfield 67, 3) := by decide +kernel
theorem dX9_sumOf_38 : decode cX9_sumOf 38 = .ok (.iload_n 2, 1) := by decide +kernel
theorem dX9_sumOf_39 : decode cX9_sumOf 39 = .ok (.aload_n 0, 1) := by decide +kernel
theorem dX9_sumOf_40 : decode cX9_sumOf 40 = .ok (.getfield 355, 3) := by decide +kernel
theorem dX9_sumOf_43 : decode cX9_sumOf 43 = .ok (.lload 7, 2) := by decide +kernel
theorem dX9_sumOf_45 : decode cX9_sumOf 45 = .ok (.lmul, 1) := by decide +kernel
theorem dX9_sumOf_46 : decode cX9_sumOf 46 = .ok (.ldc2_w 207, 3) := by decide +kernel
theorem dX9_sumOf_49 : decode cX9_sumOf 49 = .ok (.invokestatic 209, 3) := by decide +kernel
theorem dX9_sumOf_52 : decode cX9_sumOf 52 = .ok (.lastore, 1) := by decide +kernel
theorem dX9_sumOf_53 : decode cX9_sumOf 53 = .ok (.aload_n 0, 1) := by decide +kernel
theorem dX9_sumOf_54 : decode cX9_sumOf 54 = .ok (.getfield 70, 3) := by decide +kernel
theorem dX9_sumOf_57 : decode cX9_sumOf 57 = .ok (.iload_n 2, 1) := by decide +kernel
theorem dX9_sumOf_58 : decode cX9_sumOf 58 = .ok (.aload_n 0, 1) := by decide +kernel
theorem dX9_sumOf_59 : decode cX9_sumOf 59 = .ok (.getfield 358, 3) := by decide +kernel
theorem dX9_sumOf_62 : decode cX9_sumOf 62 = .ok (.lload 7, 2) := by decide +kernel
theorem dX9_sumOf_64 : decode cX9_sumOf 64 = .ok (.lmul, 1) := by decide +kernel
theorem dX9_sumOf_65 : decode cX9_sumOf 65 = .ok (.ldc2_w 207, 3) := by decide +kernel
theorem dX9_sumOf_68 : decode cX9_sumOf 68 = .ok (.invokestatic 213, 3) := by decide +kernel
theorem dX9_sumOf_71 : decode cX9_sumOf 71 = .ok (.lastore, 1) := by decide +kernel
theorem dX9_sumOf_72 : decode cX9_sumOf 72 = .ok (.aload_n 0, 1) := by decide +kernel
theorem dX9_sumOf_73 : decode cX9_sumOf 73 = .ok (.iload_n 1, 1) := by decide +kernel
theorem dX9_sumOf_74 : decode cX9_sumOf 74 = .ok (.lload_n 3, 1) := by decide +kernel
theorem dX9_sumOf_75 : decode cX9_sumOf 75 = .ok (.lload 5, 2) := by decide +kernel
theorem dX9_sumOf_77 : decode cX9_sumOf 77 = .ok (.invokevirtual 378, 3) := by decide +kernel
theorem dX9_sumOf_80 : decode cX9_sumOf 80 = .ok (.ifCond .ne 5, 3) := by decide +kernel
theorem dX9_sumOf_83 : decode cX9_sumOf 83 = .ok (.iconst 1, 1) := by decide +kernel
theorem dX9_sumOf_84 : decode cX9_sumOf 84 = .ok (.ireturn, 1) := by decide +kernel
theorem dX9_sumOf_85 : decode cX9_sumOf 85 = .ok (.aload_n 0, 1) := by decide +kernel
theorem dX9_sumOf_86 : decode cX9_sumOf 86 = .ok (.getfield 358, 3) := by decide +kernel
theorem dX9_sumOf_89 : decode cX9_sumOf 89 = .ok (.aload_n 0, 1) := by decide +kernel
theorem dX9_sumOf_90 : decode cX9_sumOf 90 = .ok (.getfield 355, 3) := by decide +kernel
theorem dX9_sumOf_93 : decode cX9_sumOf 93 = .ok (.lsub, 1) := by decide +kernel
theorem dX9_sumOf_94 : decode cX9_sumOf 94 = .ok (.lload 7, 2) := by decide +kernel
theorem dX9_sumOf_96 : decode cX9_sumOf 96 = .ok (.lmul, 1) := by decide +kernel
theorem dX9_sumOf_97 : decode cX9_sumOf 97 = .ok (.ldc2_w 207, 3) := by decide +kernel
theorem dX9_sumOf_100 : decode cX9_sumOf 100 = .ok (.invokestatic 213, 3) := by decide +kernel
theorem dX9_sumOf_103 : decode cX9_sumOf 103 = .ok (.lstore 9, 2) := by decide +kernel
theorem dX9_sumOf_105 : decode cX9_sumOf 105 = .ok (.lload 9, 2) := by decide +kernel
theorem dX9_sumOf_107 : decode cX9_sumOf 107 = .ok (.ldc2_w 231, 3) := by decide +kernel
theorem dX9_sumOf_110 : decode cX9_sumOf 110 = .ok (.lcmp, 1) := by decide +kernel
theorem dX9_sumOf_111 : decode cX9_sumOf 111 = .ok (.ifCond .gt 31, 3) := by decide +kernel
theorem dX9_sumOf_114 : decode cX9_sumOf 114 = .ok (.aload_n 0, 1) := by decide +kernel
theorem dX9_sumOf_115 : decode cX9_sumOf 115 = .ok (.iload_n 1, 1) := by decide +kernel
theorem dX9_sumOf_116 : decode cX9_sumOf 116 = .ok (.lload_n 3, 1) := by decide +kernel
theorem dX9_sumOf_117 : decode cX9_sumOf 117 = .ok (.lload 5, 2) := by decide +kernel
theorem dX9_sumOf_119 : decode cX9_sumOf 119 = .ok (.ladd, 1) := by decide +kernel
theorem dX9_sumOf_120 : decode cX9_sumOf 120 = .ok (.ldc2_w 292, 3) := by decide +kernel
theorem dX9_sumOf_123 : decode cX9_sumOf 123 = .ok (.invokestatic 209, 3) := by decide +kernel
theorem dX9_sumOf_126 : decode cX9_sumOf 126 = .ok (.lload_n 3, 1) := by decide +kernel
theorem dX9_sumOf_127 : decode cX9_sumOf 127 = .ok (.lload 5, 2) := by decide +kernel
theorem dX9_sumOf_129 : decode cX9_sumOf 129 = .ok (.ladd, 1) := by decide +kernel
theorem dX9_sumOf_130 : decode cX9_sumOf 130 = .ok (.ldc2_w 292, 3) := by decide +kernel
theorem dX9_sumOf_133 : decode cX9_sumOf 133 = .ok (.invokestatic 213, 3) := by decide +kernel
theorem dX9_sumOf_136 : decode cX9_sumOf 136 = .ok (.invokevirtual 370, 3) := by decide +kernel
theorem dX9_sumOf_139 : decode cX9_sumOf 139 = .ok (.ifCond .ne 5, 3) := by decide +kernel
theorem dX9_sumOf_142 : decode cX9_sumOf 142 = .ok (.iconst 1, 1) := by decide +kernel
theorem dX9_sumOf_143 : decode cX9_sumOf 143 = .ok (.ireturn, 1) := by decide +kernel
theorem dX9_sumOf_144 : decode cX9_sumOf 144 = .ok (.lload 9, 2) := by decide +kernel
theorem dX9_sumOf_146 : decode cX9_sumOf 146 = .ok (.lload 7, 2) := by decide +kernel
theorem dX9_sumOf_148 : decode cX9_sumOf 148 = .ok (.lmul, 1) := by decide +kernel
theorem dX9_sumOf_149 : decode cX9_sumOf 149 = .ok (.ldc2_w 384, 3) := by decide +kernel
theorem dX9_sumOf_152 : decode cX9_sumOf 152 = .ok (.invokestatic 213, 3) := by decide +kernel
theorem dX9_sumOf_155 : decode cX9_sumOf 155 = .ok (.lstore 11, 2) := by decide +kernel
theorem dX9_sumOf_157 : decode cX9_sumOf 157 = .ok (.aload_n 0, 1) := by decide +kernel
theorem dX9_sumOf_158 : decode cX9_sumOf 158 = .ok (.getfield 67, 3) := by decide +kernel
theorem dX9_sumOf_161 : decode cX9_sumOf 161 = .ok (.iload_n 2, 1) := by decide +kernel
theorem dX9_sumOf_162 : decode cX9_sumOf 162 = .ok (.aload_n 0, 1) := by decide +kernel
theorem dX9_sumOf_163 : decode cX9_sumOf 163 = .ok (.getfield 355, 3) := by decide +kernel
theorem dX9_sumOf_166 : decode cX9_sumOf 166 = .ok (.lload 7, 2) := by decide +kernel
theorem dX9_sumOf_168 : decode cX9_sumOf 168 = .ok (.lmul, 1) := by decide +kernel
theorem dX9_sumOf_169 : decode cX9_sumOf 169 = .ok (.ldc2_w 207, 3) := by decide +kernel
theorem dX9_sumOf_172 : decode cX9_sumOf 172 = .ok (.invokestatic 209, 3) := by decide +kernel
theorem dX9_sumOf_175 : decode cX9_sumOf 175 = .ok (.lload 11, 2) := by decide +kernel
theorem dX9_sumOf_177 : decode cX9_sumOf 177 = .ok (.lsub, 1) := by decide +kernel
theorem dX9_sumOf_178 : decode cX9_sumOf 178 = .ok (.lastore, 1) := by decide +kernel
theorem dX9_sumOf_179 : decode cX9_sumOf 179 = .ok (.aload_n 0, 1) := by decide +kernel
theorem dX9_sumOf_180 : decode cX9_sumOf 180 = .ok (.getfield 70, 3) := by decide +kernel
theorem dX9_sumOf_183 : decode cX9_sumOf 183 = .ok (.iload_n 2, 1) := by decide +kernel
theorem dX9_sumOf_184 : decode cX9_sumOf 184 = .ok (.aload_n 0, 1) := by decide +kernel
theorem dX9_sumOf_185 : decode cX9_sumOf 185 = .ok (.getfield 358, 3) := by decide +kernel
theorem dX9_sumOf_188 : decode cX9_sumOf 188 = .ok (.lload 7, 2) := by decide +kernel
theorem dX9_sumOf_190 : decode cX9_sumOf 190 = .ok (.lmul, 1) := by decide +kernel
theorem dX9_sumOf_191 : decode cX9_sumOf 191 = .ok (.ldc2_w 207, 3) := by decide +kernel
theorem dX9_sumOf_194 : decode cX9_sumOf 194 = .ok (.invokestatic 213, 3) := by decide +kernel
theorem dX9_sumOf_197 : decode cX9_sumOf 197 = .ok (.lload 11, 2) := by decide +kernel
theorem dX9_sumOf_199 : decode cX9_sumOf 199 = .ok (.ladd, 1) := by decide +kernel
theorem dX9_sumOf_200 : decode cX9_sumOf 200 = .ok (.lastore, 1) := by decide +kernel
theorem dX9_sumOf_201 : decode cX9_sumOf 201 = .ok (.iconst 1, 1) := by decide +kernel
theorem dX9_sumOf_202 : decode cX9_sumOf 202 = .ok (.ireturn, 1) := by decide +kernel
theorem dX9_area_0 : decode cX9_area 0 = .ok (.iload_n 3, 1) := by decide +kernel
theorem dX9_area_1 : decode cX9_area 1 = .ok (.i2l, 1) := by decide +kernel
theorem dX9_area_2 : decode cX9_area 2 = .ok (.iload_n 2, 1) := by decide +kernel
theorem dX9_area_3 : decode cX9_area 3 = .ok (.i2l, 1) := by decide +kernel
theorem dX9_area_4 : decode cX9_area 4 = .ok (.lsub, 1) := by decide +kernel
theorem dX9_area_5 : decode cX9_area 5 = .ok (.lstore 7, 2) := by decide +kernel
theorem dX9_area_7 : decode cX9_area 7 = .ok (.aload_n 0, 1) := by decide +kernel
theorem dX9_area_8 : decode cX9_area 8 = .ok (.iload_n 1, 1) := by decide +kernel
theorem dX9_area_9 : decode cX9_area 9 = .ok (.invokevirtual 216, 3) := by decide +kernel
theorem dX9_area_12 : decode cX9_area 12 = .ok (.ifCond .eq 39, 3) := by decide +kernel
theorem dX9_area_15 : decode cX9_area 15 = .ok (.lload 7, 2) := by decide +kernel
theorem dX9_area_17 : decode cX9_area 17 = .ok (.lconst 1, 1) := by decide +kernel
theorem dX9_area_18 : decode cX9_area 18 = .ok (.lcmp, 1) := by decide +kernel
theorem dX9_area_19 : decode cX9_area 19 = .ok (.ifCond .lt 32, 3) := by decide +kernel
theorem dX9_area_22 : decode cX9_area 22 = .ok (.lload 7, 2) := by decide +kernel
theorem dX9_area_24 : decode cX9_area 24 = .ok (.ldc2_w 386, 3) := by decide +kernel
theorem dX9_area_27 : decode cX9_area 27 = .ok (.lcmp, 1) := by decide +kernel
theorem dX9_area_28 : decode cX9_area 28 = .ok (.ifCond .gt 23, 3) := by decide +kernel
theorem dX9_area_31 : decode cX9_area 31 = .ok (.iload 4, 2) := by decide +kernel
theorem dX9_area_33 : decode cX9_area 33 = .ok (.ifCond .lt 18, 3) := by decide +kernel
theorem dX9_area_36 : decode cX9_area 36 = .ok (.iload 4, 2) := by decide +kernel
theorem dX9_area_38 : decode cX9_area 38 = .ok (.sipush 200, 3) := by decide +kernel
theorem dX9_area_41 : decode cX9_area 41 = .ok (.if_icmp .gt 10, 3) := by decide +kernel
theorem dX9_area_44 : decode cX9_area 44 = .ok (.lload 5, 2) := by decide +kernel
theorem dX9_area_46 : decode cX9_area 46 = .ok (.lconst 0, 1) := by decide +kernel
theorem dX9_area_47 : decode cX9_area 47 = .ok (.lcmp, 1) := by decide +kernel
theorem dX9_area_48 : decode cX9_area 48 = .ok (.ifCond .ge 5, 3) := by decide +kernel
theorem dX9_area_51 : decode cX9_area 51 = .ok (.iconst (-1), 1) := by decide +kernel
theorem dX9_area_52 : decode cX9_area 52 = .ok (.ireturn, 1) := by decide +kernel
theorem dX9_area_53 : decode cX9_area 53 = .ok (.aload_n 0, 1) := by decide +kernel
theorem dX9_area_54 : decode cX9_area 54 = .ok (.iconst 1, 1) := by decide +kernel
theorem dX9_area_55 : decode cX9_area 55 = .ok (.putfield 381, 3) := by decide +kernel
theorem dX9_area_58 : decode cX9_area 58 = .ok (.aload_n 0, 1) := by decide +kernel
theorem dX9_area_59 : decode cX9_area 59 = .ok (.getfield 61, 3) := by decide +kernel
theorem dX9_area_62 : decode cX9_area 62 = .ok (.iconst 0, 1) := by decide +kernel
theorem dX9_area_63 : decode cX9_area 63 = .ok (.iload_n 2, 1) := by decide +kernel
theorem dX9_area_64 : decode cX9_area 64 = .ok (.i2l, 1) := by decide +kernel
theorem dX9_area_65 : decode cX9_area 65 = .ok (.lastore, 1) := by decide +kernel
theorem dX9_area_66 : decode cX9_area 66 = .ok (.aload_n 0, 1) := by decide +kernel
theorem dX9_area_67 : decode cX9_area 67 = .ok (.getfield 64, 3) := by decide +kernel
theorem dX9_area_70 : decode cX9_area 70 = .ok (.iconst 0, 1) := by decide +kernel
theorem dX9_area_71 : decode cX9_area 71 = .ok (.iload_n 3, 1) := by decide +kernel
theorem dX9_area_72 : decode cX9_area 72 = .ok (.i2l, 1) := by decide +kernel
theorem dX9_area_73 : decode cX9_area 73 = .ok (.lastore, 1) := by decide +kernel
theorem dX9_area_74 : decode cX9_area 74 = .ok (.aload_n 0, 1) := by decide +kernel
theorem dX9_area_75 : decode cX9_area 75 = .ok (.iload_n 1, 1) := by decide +kernel
theorem dX9_area_76 : decode cX9_area 76 = .ok (.iconst 0, 1) := by decide +kernel
theorem dX9_area_77 : decode cX9_area 77 = .ok (.invokevirtual 388, 3) := by decide +kernel
theorem dX9_area_80 : decode cX9_area 80 = .ok (.ifCond .ne 5, 3) := by decide +kernel
theorem dX9_area_83 : decode cX9_area 83 = .ok (.iconst 1, 1) := by decide +kernel
theorem dX9_area_84 : decode cX9_area 84 = .ok (.ireturn, 1) := by decide +kernel
theorem dX9_area_85 : decode cX9_area 85 = .ok (.aload_n 0, 1) := by decide +kernel
theorem dX9_area_86 : decode cX9_area 86 = .ok (.getfield 67, 3) := by decide +kernel
theorem dX9_area_89 : decode cX9_area 89 = .ok (.iconst 0, 1) := by decide +kernel
theorem dX9_area_90 : decode cX9_area 90 = .ok (.laload, 1) := by decide +kernel
theorem dX9_area_91 : decode cX9_area 91 = .ok (.lstore 9, 2) := by decide +kernel
theorem dX9_area_93 : decode cX9_area 93 = .ok (.aload_n 0, 1) := by decide +kernel
theorem dX9_area_94 : decode cX9_area 94 = .ok (.getfield 70, 3) := by decide +kernel
theorem dX9_area_97 : decode cX9_area 97 = .ok (.iconst 0, 1) := by decide +kernel
theorem dX9_area_98 : decode cX9_area 98 = .ok (.laload, 1) := by decide +kernel
theorem dX9_area_99 : decode cX9_area 99 = .ok (.lstore 11, 2) := by decide +kernel
theorem dX9_area_101 : decode cX9_area 101 = .ok (.iconst 0, 1) := by decide +kernel
theorem dX9_area_102 : decode cX9_area 102 = .ok (.istore 13, 2) := by decide +kernel
theorem dX9_area_104 : decode cX9_area 104 = .ok (.iload 13, 2) := by decide +kernel
theorem dX9_area_106 : decode cX9_area 106 = .ok (.iload 4, 2) := by decide +kernel
theorem dX9_area_108 : decode cX9_area 108 = .ok (.if_icmp .ge 205, 3) := by decide +kernel
theorem dX9_area_111 : decode cX9_area 111 = .ok (.lload 11, 2) := by decide +kernel
theorem dX9_area_113 : decode cX9_area 113 = .ok (.lload 9, 2) := by decide +kernel
theorem dX9_area_115 : decode cX9_area 115 = .ok (.lsub, 1) := by decide +kernel
theorem dX9_area_116 : decode cX9_area 116 = .ok (.lload 5, 2) := by decide +kernel
theorem dX9_area_118 : decode cX9_area 118 = .ok (.lcmp, 1) := by decide +kernel
theorem dX9_area_119 : decode cX9_area 119 = .ok (.ifCond .le 194, 3) := by decide +kernel
theorem dX9_area_122 : decode cX9_area 122 = .ok (.iconst 0, 1) := by decide +kernel
theorem dX9_area_123 : decode cX9_area 123 = .ok (.istore 14, 2) := by decide +kernel
theorem dX9_area_125 : decode cX9_area 125 = .ok (.iconst 1, 1) := by decide +kernel
theorem dX9_area_126 : decode cX9_area 126 = .ok (.istore 15, 2) := by decide +kernel
theorem dX9_area_128 : decode cX9_area 128 = .ok (.iload 15, 2) := by decide +kernel
theorem dX9_area_130 : decode cX9_area 130 = .ok (.aload_n 0, 1) := by decide +kernel
theorem dX9_area_131 : decode cX9_area 131 = .ok (.getfield 381, 3) := by decide +kernel
theorem dX9_area_134 : decode cX9_area 134 = .ok (.if_icmp .ge 52, 3) := by decide +kernel
theorem dX9_area_137 : decode cX9_area 137 = .ok (.aload_n 0, 1) := by decide +kernel
theorem dX9_area_138 : decode cX9_area 138 = .ok (.getfield 70, 3) := by decide +kernel
theorem dX9_area_141 : decode cX9_area 141 = .ok (.iload 15, 2) := by decide +kernel
theorem dX9_area_143 : decode cX9_area 143 = .ok (.laload, 1) := by decide +kernel
theorem dX9_area_144 : decode cX9_area 144 = .ok (.aload_n 0, 1) := by decide +kernel
theorem dX9_area_145 : decode cX9_area 145 = .ok (.getfield 67, 3) := by decide +kernel
theorem dX9_area_148 : decode cX9_area 148 = .ok (.iload 15, 2) := by decide +kernel
theorem dX9_area_150 : decode cX9_area 150 = .ok (.laload, 1) := by decide +kernel
theorem dX9_area_151 : decode cX9_area 151 = .ok (.lsub, 1) := by decide +kernel
theorem dX9_area_152 : decode cX9_area 152 = .ok (.aload_n 0, 1) := by decide +kernel
theorem dX9_area_153 : decode cX9_area 153 = .ok (.getfield 70, 3) := by decide +kernel
theorem dX9_area_156 : decode cX9_area 156 = .ok (.iload 14, 2) := by decide +kernel
theorem dX9_area_158 : decode cX9_area 158 = .ok (.laload, 1) := by decide +kernel
theorem dX9_area_159 : decode cX9_area 159 = .ok (.aload_n 0, 1) := by decide +kernel
theorem dX9_area_160 : decode cX9_area 160 = .ok (.getfield 67, 3) := by decide +kernel
theorem dX9_area_163 : decode cX9_area 163 = .ok (.iload 14, 2) := by decide +kernel
theorem dX9_area_165 : decode cX9_area 165 = .ok (.laload, 1) := by decide +kernel
theorem dX9_area_166 : decode cX9_area 166 = .ok (.lsub, 1) := by decide +kernel
theorem dX9_area_167 : decode cX9_area 167 = .ok (.lcmp, 1) := by decide +kernel
theorem dX9_area_168 : decode cX9_area 168 = .ok (.ifCond .le 8, 3) := by decide +kernel
theorem dX9_area_171 : decode cX9_area 171 = .ok (.iload 15, 2) := by decide +kernel
theorem dX9_area_173 : decode cX9_area 173 = .ok (.goto 5, 3) := by decide +kernel
theorem dX9_area_176 : decode cX9_area 176 = .ok (.iload 14, 2) := by decide +kernel
theorem dX9_area_178 : decode cX9_area 178 = .ok (.istore 14, 2) := by decide +kernel
theorem dX9_area_180 : decode cX9_area 180 = .ok (.iinc 15 1, 3) := by decide +kernel
theorem dX9_area_183 : decode cX9_area 183 = .ok (.goto (-55), 3) := by decide +kernel
theorem dX9_area_186 : decode cX9_area 186 = .ok (.aload_n 0, 1) := by decide +kernel
theorem dX9_area_187 : decode cX9_area 187 = .ok (.getfield 64, 3) := by decide +kernel
theorem dX9_area_190 : decode cX9_area 190 = .ok (.iload 14, 2) := by decide +kernel
theorem dX9_area_192 : decode cX9_area 192 = .ok (.laload, 1) := by decide +kernel
theorem dX9_area_193 : decode cX9_area 193 = .ok (.aload_n 0, 1) := by decide +kernel
theorem dX9_area_194 : decode cX9_area 194 = .ok (.getfield 61, 3) := by decide +kernel
theorem dX9_area_197 : decode cX9_area 197 = .ok (.iload 14, 2) := by decide +kernel
theorem dX9_area_199 : decode cX9_area 199 = .ok (.laload, 1) := by decide +kernel
theorem dX9_area_200 : decode cX9_area 200 = .ok (.lsub, 1) := by decide +kernel
theorem dX9_area_201 : decode cX9_area 201 = .ok (.ldc2_w 292, 3) := by decide +kernel
theorem dX9_area_204 : decode cX9_area 204 = .ok (.lcmp, 1) := by decide +kernel
theorem dX9_area_205 : decode cX9_area 205 = .ok (.ifCond .ge 6, 3) := by decide +kernel
theorem dX9_area_208 : decode cX9_area 208 = .ok (.goto 105, 3) := by decide +kernel
theorem dX9_area_211 : decode cX9_area 211 = .ok (.aload_n 0, 1) := by decide +kernel
theorem dX9_area_212 : decode cX9_area 212 = .ok (.iload 14, 2) := by decide +kernel
theorem dX9_area_214 : decode cX9_area 214 = .ok (.invokevirtual 392, 3) := by decide +kernel
theorem dX9_area_217 : decode cX9_area 217 = .ok (.aload_n 0, 1) := by decide +kernel
theorem dX9_area_218 : decode cX9_area 218 = .ok (.iload_n 1, 1) := by decide +kernel
theorem dX9_area_219 : decode cX9_area 219 = .ok (.iload 14, 2) := by decide +kernel
theorem dX9_area_221 : decode cX9_area 221 = .ok (.invokevirtual 388, 3) := by decide +kernel
theorem dX9_area_224 : decode cX9_area 224 = .ok (.ifCond .eq 15, 3) := by decide +kernel
theorem dX9_area_227 : decode cX9_area 227 = .ok (.aload_n 0, 1) := by decide +kernel
theorem dX9_area_228 : decode cX9_area 228 = .ok (.iload_n 1, 1) := by decide +kernel
theorem dX9_area_229 : decode cX9_area 229 = .ok (.iload 14, 2) := by decide +kernel
theorem dX9_area_231 : decode cX9_area 231 = .ok (.iconst 1, 1) := by decide +kernel
theorem dX9_area_232 : decode cX9_area 232 = .ok (.iadd, 1) := by decide +kernel
theorem dX9_area_233 : decode cX9_area 233 = .ok (.invokevirtual 388, 3) := by decide +kernel
theorem dX9_area_236 : decode cX9_area 236 = .ok (.ifCond .ne 5, 3) := by decide +kernel
theorem dX9_area_239 : decode cX9_area 239 = .ok (.iconst 1, 1) := by decide +kernel
theorem dX9_area_240 : decode cX9_area 240 = .ok (.ireturn, 1) := by decide +kernel
theorem dX9_area_241 : decode cX9_area 241 = .ok (.lconst 0, 1) := by decide +kernel
theorem dX9_area_242 : decode cX9_area 242 = .ok (.lstore 15, 2) := by decide +kernel
theorem dX9_area_244 : decode cX9_area 244 = .ok (.lconst 0, 1) := by decide +kernel
theorem dX9_area_245 : decode cX9_area 245 = .ok (.lstore 17, 2) := by decide +kernel
theorem dX9_area_247 : decode cX9_area 247 = .ok (.iconst 0, 1) := by decide +kernel
theorem dX9_area_248 : decode cX9_area 248 = .ok (.istore 19, 2) := by decide +kernel
theorem dX9_area_250 : decode cX9_area 250 = .ok (.iload 19, 2) := by decide +kernel
theorem dX9_area_252 : decode cX9_area 252 = .ok (.aload_n 0, 1) := by decide +kernel
theorem dX9_area_253 : decode cX9_area 253 = .ok (.getfield 381, 3) := by decide +kernel
theorem dX9_area_256 : decode cX9_area 256 = .ok (.if_icmp .ge 33, 3) := by decide +kernel
theorem dX9_area_259 : decode cX9_area 259 = .ok (.lload 15, 2) := by decide +kernel
theorem dX9_area_261 : decode cX9_area 261 = .ok (.aload_n 0, 1) := by decide +kernel
theorem dX9_area_262 : decode cX9_area 262 = .ok (.getfield 67, 3) := by decide +kernel
theorem dX9_area_265 : decode cX9_area 265 = .ok (.iload 19, 2) := by decide +kernel
theorem dX9_area_267 : decode cX9_area 267 = .ok (.laload, 1) := by decide +kernel
theorem dX9_area_268 : decode cX9_area 268 = .ok (.ladd, 1) := by decide +kernel
theorem dX9_area_269 : decode cX9_area 269 = .ok (.lstore 15, 2) := by decide +kernel
theorem dX9_area_271 : decode cX9_area 271 = .ok (.lload 17, 2) := by decide +kernel
theorem dX9_area_273 : decode cX9_area 273 = .ok (.aload_n 0, 1) := by decide +kernel
theorem dX9_area_274 : decode cX9_area 274 = .ok (.getfield 70, 3) := by decide +kernel
theorem dX9_area_277 : decode cX9_area 277 = .ok (.iload 19, 2) := by decide +kernel
theorem dX9_area_279 : decode cX9_area 279 = .ok (.laload, 1) := by decide +kernel
theorem dX9_area_280 : decode cX9_area 280 = .ok (.ladd, 1) := by decide +kernel
theorem dX9_area_281 : decode cX9_area 281 = .ok (.lstore 17, 2) := by decide +kernel
theorem dX9_area_283 : decode cX9_area 283 = .ok (.iinc 19 1, 3) := by decide +kernel
theorem dX9_area_286 : decode cX9_area 286 = .ok (.goto (-36), 3) := by decide +kernel
theorem dX9_area_289 : decode cX9_area 289 = .ok (.lload 9, 2) := by decide +kernel
theorem dX9_area_291 : decode cX9_area 291 = .ok (.lload 15, 2) := by decide +kernel
theorem dX9_area_293 : decode cX9_area 293 = .ok (.invokestatic 240, 3) := by decide +kernel
theorem dX9_area_296 : decode cX9_area 296 = .ok (.lstore 9, 2) := by decide +kernel
theorem dX9_area_298 : decode cX9_area 298 = .ok (.lload 11, 2) := by decide +kernel
theorem dX9_area_300 : decode cX9_area 300 = .ok (.lload 17, 2) := by decide +kernel
theorem dX9_area_302 : decode cX9_area 302 = .ok (.invokestatic 237, 3) := by decide +kernel
theorem dX9_area_305 : decode cX9_area 305 = .ok (.lstore 11, 2) := by decide +kernel
theorem dX9_area_307 : decode cX9_area 307 = .ok (.iinc 13 1, 3) := by decide +kernel
theorem dX9_area_310 : decode cX9_area 310 = .ok (.goto (-206), 3) := by decide +kernel
theorem dX9_area_313 : decode cX9_area 313 = .ok (.aload_n 0, 1) := by decide +kernel
theorem dX9_area_314 : decode cX9_area 314 = .ok (.aload_n 0, 1) := by decide +kernel
theorem dX9_area_315 : decode cX9_area 315 = .ok (.getfield 381, 3) := by decide +kernel
theorem dX9_area_318 : decode cX9_area 318 = .ok (.putfield 395, 3) := by decide +kernel
theorem dX9_area_321 : decode cX9_area 321 = .ok (.aload_n 0, 1) := by decide +kernel
theorem dX9_area_322 : decode cX9_area 322 = .ok (.iconst 1, 1) := by decide +kernel
theorem dX9_area_323 : decode cX9_area 323 = .ok (.lload 9, 2) := by decide +kernel
theorem dX9_area_325 : decode cX9_area 325 = .ok (.lload 11, 2) := by decide +kernel
theorem dX9_area_327 : decode cX9_area 327 = .ok (.invokevirtual 374, 3) := by decide +kernel
theorem dX9_area_330 : decode cX9_area 330 = .ok (.ireturn, 1) := by decide +kernel
theorem dX9_looked_0 : decode cX9_looked 0 = .ok (.aload_n 0, 1) := by decide +kernel
theorem dX9_looked_1 : decode cX9_looked 1 = .ok (.iload_n 1, 1) := by decide +kernel
theorem dX9_looked_2 : decode cX9_looked 2 = .ok (.lload_n 2, 1) := by decide +kernel
theorem dX9_looked_3 : decode cX9_looked 3 = .ok (.lload 4, 2) := by decide +kernel
theorem dX9_looked_5 : decode cX9_looked 5 = .ok (.invokevirtual 370, 3) := by decide +kernel
theorem dX9_looked_8 : decode cX9_looked 8 = .ok (.ifCond .eq 23, 3) := by decide +kernel
theorem dX9_looked_11 : decode cX9_looked 11 = .ok (.aload_n 0, 1) := by decide +kernel
theorem dX9_looked_12 : decode cX9_looked 12 = .ok (.getfield 355, 3) := by decide +kernel
theorem dX9_looked_15 : decode cX9_looked 15 = .ok (.lconst 0, 1) := by decide +kernel
theorem dX9_looked_16 : decode cX9_looked 16 = .ok (.lcmp, 1) := by decide +kernel
theorem dX9_looked_17 : decode cX9_looked 17 = .ok (.ifCond .gt 12, 3) := by decide +kernel
theorem dX9_looked_20 : decode cX9_looked 20 = .ok (.aload_n 0, 1) := by decide +kernel
theorem dX9_looked_21 : decode cX9_looked 21 = .ok (.getfield 358, 3) := by decide +kernel
theorem dX9_looked_24 : decode cX9_looked 24 = .ok (.lconst 0, 1) := by decide +kernel
theorem dX9_looked_25 : decode cX9_looked 25 = .ok (.lcmp, 1) := by decide +kernel
theorem dX9_looked_26 : decode cX9_looked 26 = .ok (.ifCond .ge 5, 3) := by decide +kernel
theorem dX9_looked_29 : decode cX9_looked 29 = .ok (.iconst 0, 1) := by decide +kernel
theorem dX9_looked_30 : decode cX9_looked 30 = .ok (.ireturn, 1) := by decide +kernel
theorem dX9_looked_31 : decode cX9_looked 31 = .ok (.aload_n 0, 1) := by decide +kernel
theorem dX9_looked_32 : decode cX9_looked 32 = .ok (.iload_n 1, 1) := by decide +kernel
theorem dX9_looked_33 : decode cX9_looked 33 = .ok (.lload_n 2, 1) := by decide +kernel
theorem dX9_looked_34 : decode cX9_looked 34 = .ok (.lload 4, 2) := by decide +kernel
theorem dX9_looked_36 : decode cX9_looked 36 = .ok (.invokevirtual 378, 3) := by decide +kernel
theorem dX9_looked_39 : decode cX9_looked 39 = .ok (.ifCond .eq 21, 3) := by decide +kernel
theorem dX9_looked_42 : decode cX9_looked 42 = .ok (.aload_n 0, 1) := by decide +kernel
theorem dX9_looked_43 : decode cX9_looked 43 = .ok (.getfield 355, 3) := by decide +kernel
theorem dX9_looked_46 : decode cX9_looked 46 = .ok (.lconst 0, 1) := by decide +kernel
theorem dX9_looked_47 : decode cX9_looked 47 = .ok (.lcmp, 1) := by decide +kernel
theorem dX9_looked_48 : decode cX9_looked 48 = .ok (.ifCond .gt 14, 3) := by decide +kernel
theorem dX9_looked_51 : decode cX9_looked 51 = .ok (.aload_n 0, 1) := by decide +kernel
theorem dX9_looked_52 : decode cX9_looked 52 = .ok (.getfield 358, 3) := by decide +kernel
theorem dX9_looked_55 : decode cX9_looked 55 = .ok (.lconst 0, 1) := by decide +kernel
theorem dX9_looked_56 : decode cX9_looked 56 = .ok (.lcmp, 1) := by decide +kernel
theorem dX9_looked_57 : decode cX9_looked 57 = .ok (.ifCond .lt 5, 3) := by decide +kernel
theorem dX9_looked_60 : decode cX9_looked 60 = .ok (.iconst (-1), 1) := by decide +kernel
theorem dX9_looked_61 : decode cX9_looked 61 = .ok (.ireturn, 1) := by decide +kernel
theorem dX9_looked_62 : decode cX9_looked 62 = .ok (.aload_n 0, 1) := by decide +kernel
theorem dX9_looked_63 : decode cX9_looked 63 = .ok (.iload_n 1, 1) := by decide +kernel
theorem dX9_looked_64 : decode cX9_looked 64 = .ok (.lload_n 2, 1) := by decide +kernel
theorem dX9_looked_65 : decode cX9_looked 65 = .ok (.invokevirtual 398, 3) := by decide +kernel
theorem dX9_looked_68 : decode cX9_looked 68 = .ok (.istore 6, 2) := by decide +kernel
theorem dX9_looked_70 : decode cX9_looked 70 = .ok (.aload_n 0, 1) := by decide +kernel
theorem dX9_looked_71 : decode cX9_looked 71 = .ok (.iload_n 1, 1) := by decide +kernel
theorem dX9_looked_72 : decode cX9_looked 72 = .ok (.lload 4, 2) := by decide +kernel
theorem dX9_looked_74 : decode cX9_looked 74 = .ok (.invokevirtual 398, 3) := by decide +kernel
theorem dX9_looked_77 : decode cX9_looked 77 = .ok (.istore 7, 2) := by decide +kernel
theorem dX9_looked_79 : decode cX9_looked 79 = .ok (.iload 6, 2) := by decide +kernel
theorem dX9_looked_81 : decode cX9_looked 81 = .ok (.iload 7, 2) := by decide +kernel
theorem dX9_looked_83 : decode cX9_looked 83 = .ok (.imul, 1) := by decide +kernel
theorem dX9_looked_84 : decode cX9_looked 84 = .ok (.ifCond .ge 7, 3) := by decide +kernel
theorem dX9_looked_87 : decode cX9_looked 87 = .ok (.iconst 1, 1) := by decide +kernel
theorem dX9_looked_88 : decode cX9_looked 88 = .ok (.goto 4, 3) := by decide +kernel
theorem dX9_looked_91 : decode cX9_looked 91 = .ok (.iconst (-1), 1) := by decide +kernel
theorem dX9_looked_92 : decode cX9_looked 92 = .ok (.ireturn, 1) := by decide +kernel
theorem dX9_signOf_0 : decode cX9_signOf 0 = .ok (.aload_n 0, 1) := by decide +kernel
theorem dX9_signOf_1 : decode cX9_signOf 1 = .ok (.iload_n 1, 1) := by decide +kernel
theorem dX9_signOf_2 : decode cX9_signOf 2 = .ok (.lload_n 2, 1) := by decide +kernel
theorem dX9_signOf_3 : decode cX9_signOf 3 = .ok (.lload_n 2, 1) := by decide +kernel
theorem dX9_signOf_4 : decode cX9_signOf 4 = .ok (.invokevirtual 370, 3) := by decide +kernel
theorem dX9_signOf_7 : decode cX9_signOf 7 = .ok (.ifCond .ne 7, 3) := by decide +kernel
theorem dX9_signOf_10 : decode cX9_signOf 10 = .ok (.iconst 0, 1) := by decide +kernel
theorem dX9_signOf_11 : decode cX9_signOf 11 = .ok (.goto 30, 3) := by decide +kernel
theorem dX9_signOf_14 : decode cX9_signOf 14 = .ok (.aload_n 0, 1) := by decide +kernel
theorem dX9_signOf_15 : decode cX9_signOf 15 = .ok (.getfield 358, 3) := by decide +kernel
theorem dX9_signOf_18 : decode cX9_signOf 18 = .ok (.lconst 0, 1) := by decide +kernel
theorem dX9_signOf_19 : decode cX9_signOf 19 = .ok (.lcmp, 1) := by decide +kernel
theorem dX9_signOf_20 : decode cX9_signOf 20 = .ok (.ifCond .ge 7, 3) := by decide +kernel
theorem dX9_signOf_23 : decode cX9_signOf 23 = .ok (.iconst (-1), 1) := by decide +kernel
theorem dX9_signOf_24 : decode cX9_signOf 24 = .ok (.goto 17, 3) := by decide +kernel
theorem dX9_signOf_27 : decode cX9_signOf 27 = .ok (.aload_n 0, 1) := by decide +kernel
theorem dX9_signOf_28 : decode cX9_signOf 28 = .ok (.getfield 355, 3) := by decide +kernel
theorem dX9_signOf_31 : decode cX9_signOf 31 = .ok (.lconst 0, 1) := by decide +kernel
theorem dX9_signOf_32 : decode cX9_signOf 32 = .ok (.lcmp, 1) := by decide +kernel
theorem dX9_signOf_33 : decode cX9_signOf 33 = .ok (.ifCond .le 7, 3) := by decide +kernel
theorem dX9_signOf_36 : decode cX9_signOf 36 = .ok (.iconst 1, 1) := by decide +kernel
theorem dX9_signOf_37 : decode cX9_signOf 37 = .ok (.goto 4, 3) := by decide +kernel
theorem dX9_signOf_40 : decode cX9_signOf 40 = .ok (.iconst 0, 1) := by decide +kernel
theorem dX9_signOf_41 : decode cX9_signOf 41 = .ok (.ireturn, 1) := by decide +kernel
theorem dX9_roots_0 : decode cX9_roots 0 = .ok (.aload_n 0, 1) := by decide +kernel
theorem dX9_roots_1 : decode cX9_roots 1 = .ok (.iload_n 1, 1) := by decide +kernel
theorem dX9_roots_2 : decode cX9_roots 2 = .ok (.invokevirtual 216, 3) := by decide +kernel
theorem dX9_roots_5 : decode cX9_roots 5 = .ok (.ifCond .eq 14, 3) := by decide +kernel
theorem dX9_roots_8 : decode cX9_roots 8 = .ok (.iload_n 2, 1) := by decide +kernel
theorem dX9_roots_9 : decode cX9_roots 9 = .ok (.iload_n 3, 1) := by decide +kernel
theorem dX9_roots_10 : decode cX9_roots 10 = .ok (.if_icmp .ge 9, 3) := by decide +kernel
theorem dX9_roots_13 : decode cX9_roots 13 = .ok (.iload 4, 2) := by decide +kernel
theorem dX9_roots_15 : decode cX9_roots 15 = .ok (.iconst 1, 1) := by decide +kernel
theorem dX9_roots_16 : decode cX9_roots 16 = .ok (.if_icmp .ge 5, 3) := by decide +kernel
theorem dX9_roots_19 : decode cX9_roots 19 = .ok (.iconst (-1), 1) := by decide +kernel
theorem dX9_roots_20 : decode cX9_roots 20 = .ok (.ireturn, 1) := by decide +kernel
theorem dX9_roots_21 : decode cX9_roots 21 = .ok (.aload_n 0, 1) := by decide +kernel
theorem dX9_roots_22 : decode cX9_roots 22 = .ok (.iconst 0, 1) := by decide +kernel
theorem dX9_roots_23 : decode cX9_roots 23 = .ok (.putfield 402, 3) := by decide +kernel
theorem dX9_roots_26 : decode cX9_roots 26 = .ok (.aload_n 0, 1) := by decide +kernel
theorem dX9_roots_27 : decode cX9_roots 27 = .ok (.iconst 1, 1) := by decide +kernel
theorem dX9_roots_28 : decode cX9_roots 28 = .ok (.putfield 381, 3) := by decide +kernel
theorem dX9_roots_31 : decode cX9_roots 31 = .ok (.aload_n 0, 1) := by decide +kernel
theorem dX9_roots_32 : decode cX9_roots 32 = .ok (.getfield 61, 3) := by decide +kernel
theorem dX9_roots_35 : decode cX9_roots 35 = .ok (.iconst 0, 1) := by decide +kernel
theorem dX9_roots_36 : decode cX9_roots 36 = .ok (.iload_n 2, 1) := by decide +kernel
theorem dX9_roots_37 : decode cX9_roots 37 = .ok (.i2l, 1) := by decide +kernel
theorem dX9_roots_38 : decode cX9_roots 38 = .ok (.lastore, 1) := by decide +kernel
theorem dX9_roots_39 : decode cX9_roots 39 = .ok (.aload_n 0, 1) := by decide +kernel
theorem dX9_roots_40 : decode cX9_roots 40 = .ok (.getfield 64, 3) := by decide +kernel
theorem dX9_roots_43 : decode cX9_roots 43 = .ok (.iconst 0, 1) := by decide +kernel
theorem dX9_roots_44 : decode cX9_roots 44 = .ok (.iload_n 3, 1) := by decide +kernel
theorem dX9_roots_45 : decode cX9_roots 45 = .ok (.i2l, 1) := by decide +kernel
theorem dX9_roots_46 : decode cX9_roots 46 = .ok (.lastore, 1) := by decide +kernel
theorem dX9_roots_47 : decode cX9_roots 47 = .ok (.aload_n 0, 1) := by decide +kernel
theorem dX9_roots_48 : decode cX9_roots 48 = .ok (.getfield 381, 3) := by decide +kernel
theorem dX9_roots_51 : decode cX9_roots 51 = .ok (.ifCond .le 249, 3) := by decide +kernel
theorem dX9_roots_54 : decode cX9_roots 54 = .ok (.aload_n 0, 1) := by decide +kernel
theorem dX9_roots_55 : decode cX9_roots 55 = .ok (.dup, 1) := by decide +kernel
theorem dX9_roots_56 : decode cX9_roots 56 = .ok (.getfield 381, 3) := by decide +kernel
theorem dX9_roots_59 : decode cX9_roots 59 = .ok (.iconst 1, 1) := by decide +kernel
theorem dX9_roots_60 : decode cX9_roots 60 = .ok (.isub, 1) := by decide +kernel
theorem dX9_roots_61 : decode cX9_roots 61 = .ok (.putfield 381, 3) := by decide +kernel
theorem dX9_roots_64 : decode cX9_roots 64 = .ok (.aload_n 0, 1) := by decide +kernel
theorem dX9_roots_65 : decode cX9_roots 65 = .ok (.getfield 61, 3) := by decide +kernel
theorem dX9_roots_68 : decode cX9_roots 68 = .ok (.aload_n 0, 1) := by decide +kernel
theorem dX9_roots_69 : decode cX9_roots 69 = .ok (.getfield 381, 3) := by decide +kernel
theorem dX9_roots_72 : decode cX9_roots 72 = .ok (.laload, 1) := by decide +kernel
theorem dX9_roots_73 : decode cX9_roots 73 = .ok (.lstore 5, 2) := by decide +kernel
theorem dX9_roots_75 : decode cX9_roots 75 = .ok (.aload_n 0, 1) := by decide +kernel
theorem dX9_roots_76 : decode cX9_roots 76 = .ok (.getfield 64, 3) := by decide +kernel
theorem dX9_roots_79 : decode cX9_roots 79 = .ok (.aload_n 0, 1) := by decide +kernel
theorem dX9_roots_80 : decode cX9_roots 80 = .ok (.getfield 381, 3) := by decide +kernel
theorem dX9_roots_83 : decode cX9_roots 83 = .ok (.laload, 1) := by decide +kernel
theorem dX9_roots_84 : decode cX9_roots 84 = .ok (.lstore 7, 2) := by decide +kernel
theorem dX9_roots_86 : decode cX9_roots 86 = .ok (.aload_n 0, 1) := by decide +kernel
theorem dX9_roots_87 : decode cX9_roots 87 = .ok (.iload_n 1, 1) := by decide +kernel
theorem dX9_roots_88 : decode cX9_roots 88 = .ok (.lload 5, 2) := by decide +kernel
theorem dX9_roots_90 : decode cX9_roots 90 = .ok (.lload 7, 2) := by decide +kernel
theorem dX9_roots_92 : decode cX9_roots 92 = .ok (.invokevirtual 405, 3) := by decide +kernel
theorem dX9_roots_95 : decode cX9_roots 95 = .ok (.istore 9, 2) := by decide +kernel
theorem dX9_roots_97 : decode cX9_roots 97 = .ok (.iload 9, 2) := by decide +kernel
theorem dX9_roots_99 : decode cX9_roots 99 = .ok (.iconst (-1), 1) := by decide +kernel
theorem dX9_roots_100 : decode cX9_roots 100 = .ok (.if_icmp .ne 32, 3) := by decide +kernel
theorem dX9_roots_103 : decode cX9_roots 103 = .ok (.lload 7, 2) := by decide +kernel
theorem dX9_roots_105 : decode cX9_roots 105 = .ok (.lload 5, 2) := by decide +kernel
theorem dX9_roots_107 : decode cX9_roots 107 = .ok (.lsub, 1) := by decide +kernel
theorem dX9_roots_108 : decode cX9_roots 108 = .ok (.iload 4, 2) := by decide +kernel
theorem dX9_roots_110 : decode cX9_roots 110 = .ok (.i2l, 1) := by decide +kernel
theorem dX9_roots_111 : decode cX9_roots 111 = .ok (.lcmp, 1) := by decide +kernel
theorem dX9_roots_112 : decode cX9_roots 112 = .ok (.ifCond .le 17, 3) := by decide +kernel
theorem dX9_roots_115 : decode cX9_roots 115 = .ok (.aload_n 0, 1) := by decide +kernel
theorem dX9_roots_116 : decode cX9_roots 116 = .ok (.getfield 402, 3) := by decide +kernel
theorem dX9_roots_119 : decode cX9_roots 119 = .ok (.aload_n 0, 1) := by decide +kernel
theorem dX9_roots_120 : decode cX9_roots 120 = .ok (.getfield 381, 3) := by decide +kernel
theorem dX9_roots_123 : decode cX9_roots 123 = .ok (.iadd, 1) := by decide +kernel
theorem dX9_roots_124 : decode cX9_roots 124 = .ok (.bipush 59, 2) := by decide +kernel
theorem dX9_roots_126 : decode cX9_roots 126 = .ok (.if_icmp .lt 6, 3) := by decide +kernel
theorem dX9_roots_129 : decode cX9_roots 129 = .ok (.iconst 2, 1) := by decide +kernel
theorem dX9_roots_130 : decode cX9_roots 130 = .ok (.istore 9, 2) := by decide +kernel
theorem dX9_roots_132 : decode cX9_roots 132 = .ok (.iload 9, 2) := by decide +kernel
theorem dX9_roots_134 : decode cX9_roots 134 = .ok (.iconst (-1), 1) := by decide +kernel
theorem dX9_roots_135 : decode cX9_roots 135 = .ok (.if_icmp .ne 77, 3) := by decide +kernel
theorem dX9_roots_138 : decode cX9_roots 138 = .ok (.lload 5, 2) := by decide +kernel
theorem dX9_roots_140 : decode cX9_roots 140 = .ok (.lload 7, 2) := by decide +kernel
theorem dX9_roots_142 : decode cX9_roots 142 = .ok (.ladd, 1) := by decide +kernel
theorem dX9_roots_143 : decode cX9_roots 143 = .ok (.ldc2_w 292, 3) := by decide +kernel
theorem dX9_roots_146 : decode cX9_roots 146 = .ok (.invokestatic 209, 3) := by decide +kernel
theorem dX9_roots_149 : decode cX9_roots 149 = .ok (.lstore 10, 2) := by decide +kernel
theorem dX9_roots_151 : decode cX9_roots 151 = .ok (.aload_n 0, 1) := by decide +kernel
theorem dX9_roots_152 : decode cX9_roots 152 = .ok (.getfield 61, 3) := by decide +kernel
theorem dX9_roots_155 : decode cX9_roots 155 = .ok (.aload_n 0, 1) := by decide +kernel
theorem dX9_roots_156 : decode cX9_roots 156 = .ok (.getfield 381, 3) := by decide +kernel
theorem dX9_roots_159 : decode cX9_roots 159 = .ok (.lload 10, 2) := by decide +kernel
theorem dX9_roots_161 : decode cX9_roots 161 = .ok (.lastore, 1) := by decide +kernel
theorem dX9_roots_162 : decode cX9_roots 162 = .ok (.aload_n 0, 1) := by decide +kernel
theorem dX9_roots_163 : decode cX9_roots 163 = .ok (.getfield 64, 3) := by decide +kernel
theorem dX9_roots_166 : decode cX9_roots 166 = .ok (.aload_n 0, 1) := by decide +kernel
theorem dX9_roots_167 : decode cX9_roots 167 = .ok (.getfield 381, 3) := by decide +kernel
theorem dX9_roots_170 : decode cX9_roots 170 = .ok (.lload 7, 2) := by decide +kernel
theorem dX9_roots_172 : decode cX9_roots 172 = .ok (.lastore, 1) := by decide +kernel
theorem dX9_roots_173 : decode cX9_roots 173 = .ok (.aload_n 0, 1) := by decide +kernel
theorem dX9_roots_174 : decode cX9_roots 174 = .ok (.getfield 61, 3) := by decide +kernel
theorem dX9_roots_177 : decode cX9_roots 177 = .ok (.aload_n 0, 1) := by decide +kernel
theorem dX9_roots_178 : decode cX9_roots 178 = .ok (.getfield 381, 3) := by decide +kernel
theorem dX9_roots_181 : decode cX9_roots 181 = .ok (.iconst 1, 1) := by decide +kernel
theorem dX9_roots_182 : decode cX9_roots 182 = .ok (.iadd, 1) := by decide +kernel
theorem dX9_roots_183 : decode cX9_roots 183 = .ok (.lload 5, 2) := by decide +kernel
theorem dX9_roots_185 : decode cX9_roots 185 = .ok (.lastore, 1) := by decide +kernel
theorem dX9_roots_186 : decode cX9_roots 186 = .ok (.aload_n 0, 1) := by decide +kernel
theorem dX9_roots_187 : decode cX9_roots 187 = .ok (.getfield 64, 3) := by decide +kernel
theorem dX9_roots_190 : decode cX9_roots 190 = .ok (.aload_n 0, 1) := by decide +kernel
theorem dX9_roots_191 : decode cX9_roots 191 = .ok (.getfield 381, 3) := by decide +kernel
theorem dX9_roots_194 : decode cX9_roots 194 = .ok (.iconst 1, 1) := by decide +kernel
theorem dX9_roots_195 : decode cX9_roots 195 = .ok (.iadd, 1) := by decide +kernel
theorem dX9_roots_196 : decode cX9_roots 196 = .ok (.lload 10, 2) := by decide +kernel
theorem dX9_roots_198 : decode cX9_roots 198 = .ok (.lastore, 1) := by decide +kernel
theorem dX9_roots_199 : decode cX9_roots 199 = .ok (.aload_n 0, 1) := by decide +kernel
theorem dX9_roots_200 : decode cX9_roots 200 = .ok (.dup, 1) := by decide +kernel
theorem dX9_roots_201 : decode cX9_roots 201 = .ok (.getfield 381, 3) := by decide +kernel
theorem dX9_roots_204 : decode cX9_roots 204 = .ok (.iconst 2, 1) := by decide +kernel
theorem dX9_roots_205 : decode cX9_roots 205 = .ok (.iadd, 1) := by decide +kernel
theorem dX9_roots_206 : decode cX9_roots 206 = .ok (.putfield 381, 3) := by decide +kernel
theorem dX9_roots_209 : decode cX9_roots 209 = .ok (.goto 88, 3) := by decide +kernel
theorem dX9_roots_212 : decode cX9_roots 212 = .ok (.iload 9, 2) := by decide +kernel
theorem dX9_roots_214 : decode cX9_roots 214 = .ok (.ifCond .ne 40, 3) := by decide +kernel
theorem dX9_roots_217 : decode cX9_roots 217 = .ok (.aload_n 0, 1) := by decide +kernel
theorem dX9_roots_218 : decode cX9_roots 218 = .ok (.getfield 402, 3) := by decide +kernel
theorem dX9_roots_221 : decode cX9_roots 221 = .ok (.ifCond .le 33, 3) := by decide +kernel
theorem dX9_roots_224 : decode cX9_roots 224 = .ok (.aload_n 0, 1) := by decide +kernel
theorem dX9_roots_225 : decode cX9_roots 225 = .ok (.getfield 79, 3) := by decide +kernel
theorem dX9_roots_228 : decode cX9_roots 228 = .ok (.aload_n 0, 1) := by decide +kernel
theorem dX9_roots_229 : decode cX9_roots 229 = .ok (.getfield 402, 3) := by decide +kernel
theorem dX9_roots_232 : decode cX9_roots 232 = .ok (.iconst 1, 1) := by decide +kernel
theorem dX9_roots_233 : decode cX9_roots 233 = .ok (.isub, 1) := by decide +kernel
theorem dX9_roots_234 : decode cX9_roots 234 = .ok (.iaload, 1) := by decide +kernel
theorem dX9_roots_235 : decode cX9_roots 235 = .ok (.ifCond .ne 19, 3) := by decide +kernel
theorem dX9_roots_238 : decode cX9_roots 238 = .ok (.aload_n 0, 1) := by decide +kernel
theorem dX9_roots_239 : decode cX9_roots 239 = .ok (.getfield 76, 3) := by decide +kernel
theorem dX9_roots_242 : decode cX9_roots 242 = .ok (.aload_n 0, 1) := by decide +kernel
theorem dX9_roots_243 : decode cX9_roots 243 = .ok (.getfield 402, 3) := by decide +kernel
theorem dX9_roots_246 : decode cX9_roots 246 = .ok (.iconst 1, 1) := by decide +kernel
theorem dX9_roots_247 : decode cX9_roots 247 = .ok (.isub, 1) := by decide +kernel
theorem dX9_roots_248 : decode cX9_roots 248 = .ok (.lload 7, 2) := by decide +kernel
theorem dX9_roots_250 : decode cX9_roots 250 = .ok (.lastore, 1) := by decide +kernel
theorem dX9_roots_251 : decode cX9_roots 251 = .ok (.goto 46, 3) := by decide +kernel
theorem dX9_roots_254 : decode cX9_roots 254 = .ok (.aload_n 0, 1) := by decide +kernel
theorem dX9_roots_255 : decode cX9_roots 255 = .ok (.getfield 73, 3) := by decide +kernel
theorem dX9_roots_258 : decode cX9_roots 258 = .ok (.aload_n 0, 1) := by decide +kernel
theorem dX9_roots_259 : decode cX9_roots 259 = .ok (.getfield 402, 3) := by decide +kernel
theorem dX9_roots_262 : decode cX9_roots 262 = .ok (.lload 5, 2) := by decide +kernel
theorem dX9_roots_264 : decode cX9_roots 264 = .ok (.lastore, 1) := by decide +kernel
theorem dX9_roots_265 : decode cX9_roots 265 = .ok (.aload_n 0, 1) := by decide +kernel
theorem dX9_roots_266 : decode cX9_roots 266 = .ok (.getfield 76, 3) := by decide +kernel
theorem dX9_roots_269 : decode cX9_roots 269 = .ok (.aload_n 0, 1) := by decide +kernel
theorem dX9_roots_270 : decode cX9_roots 270 = .ok (.getfield 402, 3) := by decide +kernel
theorem dX9_roots_273 : decode cX9_roots 273 = .ok (.lload 7, 2) := by decide +kernel
theorem dX9_roots_275 : decode cX9_roots 275 = .ok (.lastore, 1) := by decide +kernel
theorem dX9_roots_276 : decode cX9_roots 276 = .ok (.aload_n 0, 1) := by decide +kernel
theorem dX9_roots_277 : decode cX9_roots 277 = .ok (.getfield 79, 3) := by decide +kernel
theorem dX9_roots_280 : decode cX9_roots 280 = .ok (.aload_n 0, 1) := by decide +kernel
theorem dX9_roots_281 : decode cX9_roots 281 = .ok (.getfield 402, 3) := by decide +kernel
theorem dX9_roots_284 : decode cX9_roots 284 = .ok (.iload 9, 2) := by decide +kernel
theorem dX9_roots_286 : decode cX9_roots 286 = .ok (.iastore, 1) := by decide +kernel
theorem dX9_roots_287 : decode cX9_roots 287 = .ok (.aload_n 0, 1) := by decide +kernel
theorem dX9_roots_288 : decode cX9_roots 288 = .ok (.dup, 1) := by decide +kernel
theorem dX9_roots_289 : decode cX9_roots 289 = .ok (.getfield 402, 3) := by decide +kernel
theorem dX9_roots_292 : decode cX9_roots 292 = .ok (.iconst 1, 1) := by decide +kernel
theorem dX9_roots_293 : decode cX9_roots 293 = .ok (.iadd, 1) := by decide +kernel
theorem dX9_roots_294 : decode cX9_roots 294 = .ok (.putfield 402, 3) := by decide +kernel
theorem dX9_roots_297 : decode cX9_roots 297 = .ok (.goto (-250), 3) := by decide +kernel
theorem dX9_roots_300 : decode cX9_roots 300 = .ok (.aload_n 0, 1) := by decide +kernel
theorem dX9_roots_301 : decode cX9_roots 301 = .ok (.getfield 402, 3) := by decide +kernel
theorem dX9_roots_304 : decode cX9_roots 304 = .ok (.ireturn, 1) := by decide +kernel
theorem dX9_part__0 : decode cX9_part_ 0 = .ok (.iload_n 1, 1) := by decide +kernel
theorem dX9_part__1 : decode cX9_part_ 1 = .ok (.ifCond .lt 11, 3) := by decide +kernel
theorem dX9_part__4 : decode cX9_part_ 4 = .ok (.iload_n 1, 1) := by decide +kernel
theorem dX9_part__5 : decode cX9_part_ 5 = .ok (.aload_n 0, 1) := by decide +kernel
theorem dX9_part__6 : decode cX9_part_ 6 = .ok (.getfield 402, 3) := by decide +kernel
theorem dX9_part__9 : decode cX9_part_ 9 = .ok (.if_icmp .lt 5, 3) := by decide +kernel
theorem dX9_part__12 : decode cX9_part_ 12 = .ok (.iconst 0, 1) := by decide +kernel
theorem dX9_part__13 : decode cX9_part_ 13 = .ok (.ireturn, 1) := by decide +kernel
theorem dX9_part__14 : decode cX9_part_ 14 = .ok (.iload_n 2, 1) := by decide +kernel
theorem dX9_part__15 : decode cX9_part_ 15 = .ok (.ifCond .ne 13, 3) := by decide +kernel
theorem dX9_part__18 : decode cX9_part_ 18 = .ok (.aload_n 0, 1) := by decide +kernel
theorem dX9_part__19 : decode cX9_part_ 19 = .ok (.getfield 73, 3) := by decide +kernel
theorem dX9_part__22 : decode cX9_part_ 22 = .ok (.iload_n 1, 1) := by decide +kernel
theorem dX9_part__23 : decode cX9_part_ 23 = .ok (.laload, 1) := by decide +kernel
theorem dX9_part__24 : decode cX9_part_ 24 = .ok (.l2i, 1) := by decide +kernel
theorem dX9_part__25 : decode cX9_part_ 25 = .ok (.goto 33, 3) := by decide +kernel
theorem dX9_part__28 : decode cX9_part_ 28 = .ok (.iload_n 2, 1) := by decide +kernel
theorem dX9_part__29 : decode cX9_part_ 29 = .ok (.iconst 1, 1) := by decide +kernel
theorem dX9_part__30 : decode cX9_part_ 30 = .ok (.if_icmp .ne 13, 3) := by decide +kernel
theorem dX9_part__33 : decode cX9_part_ 33 = .ok (.aload_n 0, 1) := by decide +kernel
theorem dX9_part__34 : decode cX9_part_ 34 = .ok (.getfield 76, 3) := by decide +kernel
theorem dX9_part__37 : decode cX9_part_ 37 = .ok (.iload_n 1, 1) := by decide +kernel
theorem dX9_part__38 : decode cX9_part_ 38 = .ok (.laload, 1) := by decide +kernel
theorem dX9_part__39 : decode cX9_part_ 39 = .ok (.l2i, 1) := by decide +kernel
theorem dX9_part__40 : decode cX9_part_ 40 = .ok (.goto 18, 3) := by decide +kernel
theorem dX9_part__43 : decode cX9_part_ 43 = .ok (.iload_n 2, 1) := by decide +kernel
theorem dX9_part__44 : decode cX9_part_ 44 = .ok (.iconst 2, 1) := by decide +kernel
theorem dX9_part__45 : decode cX9_part_ 45 = .ok (.if_icmp .ne 12, 3) := by decide +kernel
theorem dX9_part__48 : decode cX9_part_ 48 = .ok (.aload_n 0, 1) := by decide +kernel
theorem dX9_part__49 : decode cX9_part_ 49 = .ok (.getfield 79, 3) := by decide +kernel
theorem dX9_part__52 : decode cX9_part_ 52 = .ok (.iload_n 1, 1) := by decide +kernel
theorem dX9_part__53 : decode cX9_part_ 53 = .ok (.iaload, 1) := by decide +kernel
theorem dX9_part__54 : decode cX9_part_ 54 = .ok (.goto 4, 3) := by decide +kernel
theorem dX9_part__57 : decode cX9_part_ 57 = .ok (.iconst 0, 1) := by decide +kernel
theorem dX9_part__58 : decode cX9_part_ 58 = .ok (.ireturn, 1) := by decide +kernel
theorem dX9_shutOf_0 : decode cX9_shutOf 0 = .ok (.aload_n 0, 1) := by decide +kernel
theorem dX9_shutOf_1 : decode cX9_shutOf 1 = .ok (.iload_n 1, 1) := by decide +kernel
theorem dX9_shutOf_2 : decode cX9_shutOf 2 = .ok (.lload_n 2, 1) := by decide +kernel
theorem dX9_shutOf_3 : decode cX9_shutOf 3 = .ok (.lload 4, 2) := by decide +kernel
theorem dX9_shutOf_5 : decode cX9_shutOf 5 = .ok (.invokevirtual 370, 3) := by decide +kernel
theorem dX9_shutOf_8 : decode cX9_shutOf 8 = .ok (.ifCond .ne 5, 3) := by decide +kernel
theorem dX9_shutOf_11 : decode cX9_shutOf 11 = .ok (.iconst 0, 1) := by decide +kernel
theorem dX9_shutOf_12 : decode cX9_shutOf 12 = .ok (.ireturn, 1) := by decide +kernel
theorem dX9_shutOf_13 : decode cX9_shutOf 13 = .ok (.iload 6, 2) := by decide +kernel
theorem dX9_shutOf_15 : decode cX9_shutOf 15 = .ok (.ifCond .eq 46, 3) := by decide +kernel
theorem dX9_shutOf_18 : decode cX9_shutOf 18 = .ok (.aload_n 0, 1) := by decide +kernel
theorem dX9_shutOf_19 : decode cX9_shutOf 19 = .ok (.aload_n 0, 1) := by decide +kernel
theorem dX9_shutOf_20 : decode cX9_shutOf 20 = .ok (.getfield 358, 3) := by decide +kernel
theorem dX9_shutOf_23 : decode cX9_shutOf 23 = .ok (.lneg, 1) := by decide +kernel
theorem dX9_shutOf_24 : decode cX9_shutOf 24 = .ok (.aload_n 0, 1) := by decide +kernel
theorem dX9_shutOf_25 : decode cX9_shutOf 25 = .ok (.getfield 355, 3) := by decide +kernel
theorem dX9_shutOf_28 : decode cX9_shutOf 28 = .ok (.lneg, 1) := by decide +kernel
theorem dX9_shutOf_29 : decode cX9_shutOf 29 = .ok (.invokevirtual 243, 3) := by decide +kernel
theorem dX9_shutOf_32 : decode cX9_shutOf 32 = .ok (.aload_n 0, 1) := by decide +kernel
theorem dX9_shutOf_33 : decode cX9_shutOf 33 = .ok (.aload_n 0, 1) := by decide +kernel
theorem dX9_shutOf_34 : decode cX9_shutOf 34 = .ok (.getfield 222, 3) := by decide +kernel
theorem dX9_shutOf_37 : decode cX9_shutOf 37 = .ok (.putfield 355, 3) := by decide +kernel
theorem dX9_shutOf_40 : decode cX9_shutOf 40 = .ok (.aload_n 0, 1) := by decide +kernel
theorem dX9_shutOf_41 : decode cX9_shutOf 41 = .ok (.aload_n 0, 1) := by decide +kernel
theorem dX9_shutOf_42 : decode cX9_shutOf 42 = .ok (.getfield 226, 3) := by decide +kernel
theorem dX9_shutOf_45 : decode cX9_shutOf 45 = .ok (.putfield 358, 3) := by decide +kernel
theorem dX9_shutOf_48 : decode cX9_shutOf 48 = .ok (.aload_n 0, 1) := by decide +kernel
theorem dX9_shutOf_49 : decode cX9_shutOf 49 = .ok (.getfield 233, 3) := by decide +kernel
theorem dX9_shutOf_52 : decode cX9_shutOf 52 = .ok (.ifCond .ne 7, 3) := by decide +kernel
theorem dX9_shutOf_55 : decode cX9_shutOf 55 = .ok (.iconst 1, 1) := by decide +kernel
theorem dX9_shutOf_56 : decode cX9_shutOf 56 = .ok (.goto 4, 3) := by decide +kernel
theorem dX9_shutOf_59 : decode cX9_shutOf 59 = .ok (.iconst 0, 1) := by decide +kernel
theorem dX9_shutOf_60 : decode cX9_shutOf 60 = .ok (.ireturn, 1) := by decide +kernel
theorem dX9_shutOf_61 : decode cX9_shutOf 61 = .ok (.iconst 1, 1) := by decide +kernel
theorem dX9_shutOf_62 : decode cX9_shutOf 62 = .ok (.ireturn, 1) := by decide +kernel
theorem dX9_lowOf_0 : decode cX9_lowOf 0 = .ok (.aload_n 0, 1) := by decide +kernel
theorem dX9_lowOf_1 : decode cX9_lowOf 1 = .ok (.iload_n 1, 1) := by decide +kernel
theorem dX9_lowOf_2 : decode cX9_lowOf 2 = .ok (.aload_n 0, 1) := by decide +kernel
theorem dX9_lowOf_3 : decode cX9_lowOf 3 = .ok (.getfield 61, 3) := by decide +kernel
theorem dX9_lowOf_6 : decode cX9_lowOf 6 = .ok (.iload_n 2, 1) := by decide +kernel
theorem dX9_lowOf_7 : decode cX9_lowOf 7 = .ok (.laload, 1) := by decide +kernel
theorem dX9_lowOf_8 : decode cX9_lowOf 8 = .ok (.aload_n 0, 1) := by decide +kernel
theorem dX9_lowOf_9 : decode cX9_lowOf 9 = .ok (.getfield 64, 3) := by decide +kernel
theorem dX9_lowOf_12 : decode cX9_lowOf 12 = .ok (.iload_n 2, 1) := by decide +kernel
theorem dX9_lowOf_13 : decode cX9_lowOf 13 = .ok (.laload, 1) := by decide +kernel
theorem dX9_lowOf_14 : decode cX9_lowOf 14 = .ok (.iload_n 3, 1) := by decide +kernel
theorem dX9_lowOf_15 : decode cX9_lowOf 15 = .ok (.invokevirtual 409, 3) := by decide +kernel
theorem dX9_lowOf_18 : decode cX9_lowOf 18 = .ok (.istore 4, 2) := by decide +kernel
theorem dX9_lowOf_20 : decode cX9_lowOf 20 = .ok (.aload_n 0, 1) := by decide +kernel
theorem dX9_lowOf_21 : decode cX9_lowOf 21 = .ok (.getfield 67, 3) := by decide +kernel
theorem dX9_lowOf_24 : decode cX9_lowOf 24 = .ok (.iload_n 2, 1) := by decide +kernel
theorem dX9_lowOf_25 : decode cX9_lowOf 25 = .ok (.aload_n 0, 1) := by decide +kernel
theorem dX9_lowOf_26 : decode cX9_lowOf 26 = .ok (.getfield 355, 3) := by decide +kernel
theorem dX9_lowOf_29 : decode cX9_lowOf 29 = .ok (.lastore, 1) := by decide +kernel
theorem dX9_lowOf_30 : decode cX9_lowOf 30 = .ok (.aload_n 0, 1) := by decide +kernel
theorem dX9_lowOf_31 : decode cX9_lowOf 31 = .ok (.getfield 61, 3) := by decide +kernel
theorem dX9_lowOf_34 : decode cX9_lowOf 34 = .ok (.iload_n 2, 1) := by decide +kernel
theorem dX9_lowOf_35 : decode cX9_lowOf 35 = .ok (.laload, 1) := by decide +kernel
theorem dX9_lowOf_36 : decode cX9_lowOf 36 = .ok (.aload_n 0, 1) := by decide +kernel
theorem dX9_lowOf_37 : decode cX9_lowOf 37 = .ok (.getfield 64, 3) := by decide +kernel
theorem dX9_lowOf_40 : decode cX9_lowOf 40 = .ok (.iload_n 2, 1) := by decide +kernel
theorem dX9_lowOf_41 : decode cX9_lowOf 41 = .ok (.laload, 1) := by decide +kernel
theorem dX9_lowOf_42 : decode cX9_lowOf 42 = .ok (.ladd, 1) := by decide +kernel
theorem dX9_lowOf_43 : decode cX9_lowOf 43 = .ok (.ldc2_w 292, 3) := by decide +kernel
theorem dX9_lowOf_46 : decode cX9_lowOf 46 = .ok (.invokestatic 209, 3) := by decide +kernel
theorem dX9_lowOf_49 : decode cX9_lowOf 49 = .ok (.lstore 5, 2) := by decide +kernel
theorem dX9_lowOf_51 : decode cX9_lowOf 51 = .ok (.iload 4, 2) := by decide +kernel
theorem dX9_lowOf_53 : decode cX9_lowOf 53 = .ok (.ifCond .eq 20, 3) := by decide +kernel
theorem dX9_lowOf_56 : decode cX9_lowOf 56 = .ok (.aload_n 0, 1) := by decide +kernel
theorem dX9_lowOf_57 : decode cX9_lowOf 57 = .ok (.iload_n 1, 1) := by decide +kernel
theorem dX9_lowOf_58 : decode cX9_lowOf 58 = .ok (.lload 5, 2) := by decide +kernel
theorem dX9_lowOf_60 : decode cX9_lowOf 60 = .ok (.lload 5, 2) := by decide +kernel
theorem dX9_lowOf_62 : decode cX9_lowOf 62 = .ok (.iload_n 3, 1) := by decide +kernel
theorem dX9_lowOf_63 : decode cX9_lowOf 63 = .ok (.invokevirtual 409, 3) := by decide +kernel
theorem dX9_lowOf_66 : decode cX9_lowOf 66 = .ok (.ifCond .eq 7, 3) := by decide +kernel
theorem dX9_lowOf_69 : decode cX9_lowOf 69 = .ok (.iconst 1, 1) := by decide +kernel
theorem dX9_lowOf_70 : decode cX9_lowOf 70 = .ok (.goto 4, 3) := by decide +kernel
theorem dX9_lowOf_73 : decode cX9_lowOf 73 = .ok (.iconst 0, 1) := by decide +kernel
theorem dX9_lowOf_74 : decode cX9_lowOf 74 = .ok (.istore 4, 2) := by decide +kernel
theorem dX9_lowOf_76 : decode cX9_lowOf 76 = .ok (.aload_n 0, 1) := by decide +kernel
theorem dX9_lowOf_77 : decode cX9_lowOf 77 = .ok (.getfield 70, 3) := by decide +kernel
theorem dX9_lowOf_80 : decode cX9_lowOf 80 = .ok (.iload_n 2, 1) := by decide +kernel
theorem dX9_lowOf_81 : decode cX9_lowOf 81 = .ok (.aload_n 0, 1) := by decide +kernel
theorem dX9_lowOf_82 : decode cX9_lowOf 82 = .ok (.getfield 358, 3) := by decide +kernel
theorem dX9_lowOf_85 : decode cX9_lowOf 85 = .ok (.lastore, 1) := by decide +kernel
theorem dX9_lowOf_86 : decode cX9_lowOf 86 = .ok (.iload 4, 2) := by decide +kernel
theorem dX9_lowOf_88 : decode cX9_lowOf 88 = .ok (.ireturn, 1) := by decide +kernel
theorem dX9_extreme_0 : decode cX9_extreme 0 = .ok (.aload_n 0, 1) := by decide +kernel
theorem dX9_extreme_1 : decode cX9_extreme 1 = .ok (.iload_n 1, 1) := by decide +kernel
theorem dX9_extreme_2 : decode cX9_extreme 2 = .ok (.invokevirtual 216, 3) := by decide +kernel
theorem dX9_extreme_5 : decode cX9_extreme 5 = .ok (.ifCond .eq 21, 3) := by decide +kernel
theorem dX9_extreme_8 : decode cX9_extreme 8 = .ok (.iload_n 2, 1) := by decide +kernel
theorem dX9_extreme_9 : decode cX9_extreme 9 = .ok (.iload_n 3, 1) := by decide +kernel
theorem dX9_extreme_10 : decode cX9_extreme 10 = .ok (.if_icmp .gt 16, 3) := by decide +kernel
theorem dX9_extreme_13 : decode cX9_extreme 13 = .ok (.iload 4, 2) := by decide +kernel
theorem dX9_extreme_15 : decode cX9_extreme 15 = .ok (.ifCond .lt 11, 3) := by decide +kernel
theorem dX9_extreme_18 : decode cX9_extreme 18 = .ok (.iload 4, 2) := by decide +kernel
theorem dX9_extreme_20 : decode cX9_extreme 20 = .ok (.sipush 200, 3) := by decide +kernel
theorem dX9_extreme_23 : decode cX9_extreme 23 = .ok (.if_icmp .le 5, 3) := by decide +kernel
theorem dX9_extreme_26 : decode cX9_extreme 26 = .ok (.iconst (-1), 1) := by decide +kernel
theorem dX9_extreme_27 : decode cX9_extreme 27 = .ok (.ireturn, 1) := by decide +kernel
theorem dX9_extreme_28 : decode cX9_extreme 28 = .ok (.aload_n 0, 1) := by decide +kernel
theorem dX9_extreme_29 : decode cX9_extreme 29 = .ok (.iconst 1, 1) := by decide +kernel
theorem dX9_extreme_30 : decode cX9_extreme 30 = .ok (.putfield 381, 3) := by decide +kernel
theorem dX9_extreme_33 : decode cX9_extreme 33 = .ok (.aload_n 0, 1) := by decide +kernel
theorem dX9_extreme_34 : decode cX9_extreme 34 = .ok (.getfield 61, 3) := by decide +kernel
theorem dX9_extreme_37 : decode cX9_extreme 37 = .ok (.iconst 0, 1) := by decide +kernel
theorem dX9_extreme_38 : decode cX9_extreme 38 = .ok (.iload_n 2, 1) := by decide +kernel
theorem dX9_extreme_39 : decode cX9_extreme 39 = .ok (.i2l, 1) := by decide +kernel
theorem dX9_extreme_40 : decode cX9_extreme 40 = .ok (.lastore, 1) := by decide +kernel
theorem dX9_extreme_41 : decode cX9_extreme 41 = .ok (.aload_n 0, 1) := by decide +kernel
theorem dX9_extreme_42 : decode cX9_extreme 42 = .ok (.getfield 64, 3) := by decide +kernel
theorem dX9_extreme_45 : decode cX9_extreme 45 = .ok (.iconst 0, 1) := by decide +kernel
theorem dX9_extreme_46 : decode cX9_extreme 46 = .ok (.iload_n 3, 1) := by decide +kernel
theorem dX9_extreme_47 : decode cX9_extreme 47 = .ok (.i2l, 1) := by decide +kernel
theorem dX9_extreme_48 : decode cX9_extreme 48 = .ok (.lastore, 1) := by decide +kernel
theorem dX9_extreme_49 : decode cX9_extreme 49 = .ok (.aload_n 0, 1) := by decide +kernel
theorem dX9_extreme_50 : decode cX9_extreme 50 = .ok (.iload_n 1, 1) := by decide +kernel
theorem dX9_extreme_51 : decode cX9_extreme 51 = .ok (.iconst 0, 1) := by decide +kernel
theorem dX9_extreme_52 : decode cX9_extreme 52 = .ok (.iload 5, 2) := by decide +kernel
theorem dX9_extreme_54 : decode cX9_extreme 54 = .ok (.invokevirtual 413, 3) := by decide +kernel
theorem dX9_extreme_57 : decode cX9_extreme 57 = .ok (.ifCond .ne 5, 3) := by decide +kernel
theorem dX9_extreme_60 : decode cX9_extreme 60 = .ok (.iconst 1, 1) := by decide +kernel
theorem dX9_extreme_61 : decode cX9_extreme 61 = .ok (.ireturn, 1) := by decide +kernel
theorem dX9_extreme_62 : decode cX9_extreme 62 = .ok (.iconst 0, 1) := by decide +kernel
theorem dX9_extreme_63 : decode cX9_extreme 63 = .ok (.istore 6, 2) := by decide +kernel
theorem dX9_extreme_65 : decode cX9_extreme 65 = .ok (.iload 6, 2) := by decide +kernel
theorem dX9_extreme_67 : decode cX9_extreme 67 = .ok (.iload 4, 2) := by decide +kernel
theorem dX9_extreme_69 : decode cX9_extreme 69 = .ok (.if_icmp .ge 74, 3) := by decide +kernel
theorem dX9_extreme_72 : decode cX9_extreme 72 = .ok (.aload_n 0, 1) := by decide +kernel
theorem dX9_extreme_73 : decode cX9_extreme 73 = .ok (.invokevirtual 417, 3) := by decide +kernel
theorem dX9_extreme_76 : decode cX9_extreme 76 = .ok (.istore 7, 2) := by decide +kernel
theorem dX9_extreme_78 : decode cX9_extreme 78 = .ok (.aload_n 0, 1) := by decide +kernel
theorem dX9_extreme_79 : decode cX9_extreme 79 = .ok (.getfield 64, 3) := by decide +kernel
theorem dX9_extreme_82 : decode cX9_extreme 82 = .ok (.iload 7, 2) := by decide +kernel
theorem dX9_extreme_84 : decode cX9_extreme 84 = .ok (.laload, 1) := by decide +kernel
theorem dX9_extreme_85 : decode cX9_extreme 85 = .ok (.aload_n 0, 1) := by decide +kernel
theorem dX9_extreme_86 : decode cX9_extreme 86 = .ok (.getfield 61, 3) := by decide +kernel
theorem dX9_extreme_89 : decode cX9_extreme 89 = .ok (.iload 7, 2) := by decide +kernel
theorem dX9_extreme_91 : decode cX9_extreme 91 = .ok (.laload, 1) := by decide +kernel
theorem dX9_extreme_92 : decode cX9_extreme 92 = .ok (.lsub, 1) := by decide +kernel
theorem dX9_extreme_93 : decode cX9_extreme 93 = .ok (.ldc2_w 292, 3) := by decide +kernel
theorem dX9_extreme_96 : decode cX9_extreme 96 = .ok (.lcmp, 1) := by decide +kernel
theorem dX9_extreme_97 : decode cX9_extreme 97 = .ok (.ifCond .ge 6, 3) := by decide +kernel
theorem dX9_extreme_100 : decode cX9_extreme 100 = .ok (.goto 43, 3) := by decide +kernel
theorem dX9_extreme_103 : decode cX9_extreme 103 = .ok (.aload_n 0, 1) := by decide +kernel
theorem dX9_extreme_104 : decode cX9_extreme 104 = .ok (.iload 7, 2) := by decide +kernel
theorem dX9_extreme_106 : decode cX9_extreme 106 = .ok (.invokevirtual 392, 3) := by decide +kernel
theorem dX9_extreme_109 : decode cX9_extreme 109 = .ok (.aload_n 0, 1) := by decide +kernel
theorem dX9_extreme_110 : decode cX9_extreme 110 = .ok (.iload_n 1, 1) := by decide +kernel
theorem dX9_extreme_111 : decode cX9_extreme 111 = .ok (.iload 7, 2) := by decide +kernel
theorem dX9_extreme_113 : decode cX9_extreme 113 = .ok (.iload 5, 2) := by decide +kernel
theorem dX9_extreme_115 : decode cX9_extreme 115 = .ok (.invokevirtual 413, 3) := by decide +kernel
theorem dX9_extreme_118 : decode cX9_extreme 118 = .ok (.ifCond .eq 17, 3) := by decide +kernel
theorem dX9_extreme_121 : decode cX9_extreme 121 = .ok (.aload_n 0, 1) := by decide +kernel
theorem dX9_extreme_122 : decode cX9_extreme 122 = .ok (.iload_n 1, 1) := by decide +kernel
theorem dX9_extreme_123 : decode cX9_extreme 123 = .ok (.iload 7, 2) := by decide +kernel
theorem dX9_extreme_125 : decode cX9_extreme 125 = .ok (.iconst 1, 1) := by decide +kernel
theorem dX9_extreme_126 : decode cX9_extreme 126 = .ok (.iadd, 1) := by decide +kernel
theorem dX9_extreme_127 : decode cX9_extreme 127 = .ok (.iload 5, 2) := by decide +kernel
theorem dX9_extreme_129 : decode cX9_extreme 129 = .ok (.invokevirtual 413, 3) := by decide +kernel
theorem dX9_extreme_132 : decode cX9_extreme 132 = .ok (.ifCond .ne 5, 3) := by decide +kernel
theorem dX9_extreme_135 : decode cX9_extreme 135 = .ok (.iconst 1, 1) := by decide +kernel
theorem dX9_extreme_136 : decode cX9_extreme 136 = .ok (.ireturn, 1) := by decide +kernel
theorem dX9_extreme_137 : decode cX9_extreme 137 = .ok (.iinc 6 1, 3) := by decide +kernel
theorem dX9_extreme_140 : decode cX9_extreme 140 = .ok (.goto (-75), 3) := by decide +kernel
theorem dX9_extreme_143 : decode cX9_extreme 143 = .ok (.aload_n 0, 1) := by decide +kernel
theorem dX9_extreme_144 : decode cX9_extreme 144 = .ok (.getfield 67, 3) := by decide +kernel
theorem dX9_extreme_147 : decode cX9_extreme 147 = .ok (.aload_n 0, 1) := by decide +kernel
theorem dX9_extreme_148 : decode cX9_extreme 148 = .ok (.invokevirtual 417, 3) := by decide +kernel
theorem dX9_extreme_151 : decode cX9_extreme 151 = .ok (.laload, 1) := by decide +kernel
theorem dX9_extreme_152 : decode cX9_extreme 152 = .ok (.lstore 6, 2) := by decide +kernel
theorem dX9_extreme_154 : decode cX9_extreme 154 = .ok (.ldc2_w 253, 3) := by decide +kernel
theorem dX9_extreme_157 : decode cX9_extreme 157 = .ok (.lstore 8, 2) := by decide +kernel
theorem dX9_extreme_159 : decode cX9_extreme 159 = .ok (.iconst 0, 1) := by decide +kernel
theorem dX9_extreme_160 : decode cX9_extreme 160 = .ok (.istore 10, 2) := by decide +kernel
theorem dX9_extreme_162 : decode cX9_extreme 162 = .ok (.iload 10, 2) := by decide +kernel
theorem dX9_extreme_164 : decode cX9_extreme 164 = .ok (.aload_n 0, 1) := by decide +kernel
theorem dX9_extreme_165 : decode cX9_extreme 165 = .ok (.getfield 381, 3) := by decide +kernel
theorem dX9_extreme_168 : decode cX9_extreme 168 = .ok (.if_icmp .ge 23, 3) := by decide +kernel
theorem dX9_extreme_171 : decode cX9_extreme 171 = .ok (.lload 8, 2) := by decide +kernel
theorem dX9_extreme_173 : decode cX9_extreme 173 = .ok (.aload_n 0, 1) := by decide +kernel
theorem dX9_extreme_174 : decode cX9_extreme 174 = .ok (.getfield 70, 3) := by decide +kernel
theorem dX9_extreme_177 : decode cX9_extreme 177 = .ok (.iload 10, 2) := by decide +kernel
theorem dX9_extreme_179 : decode cX9_extreme 179 = .ok (.laload, 1) := by decide +kernel
theorem dX9_extreme_180 : decode cX9_extreme 180 = .ok (.invokestatic 237, 3) := by decide +kernel
theorem dX9_extreme_183 : decode cX9_extreme 183 = .ok (.lstore 8, 2) := by decide +kernel
theorem dX9_extreme_185 : decode cX9_extreme 185 = .ok (.iinc 10 1, 3) := by decide +kernel
theorem dX9_extreme_188 : decode cX9_extreme 188 = .ok (.goto (-26), 3) := by decide +kernel
theorem dX9_extreme_191 : decode cX9_extreme 191 = .ok (.aload_n 0, 1) := by decide +kernel
theorem dX9_extreme_192 : decode cX9_extreme 192 = .ok (.aload_n 0, 1) := by decide +kernel
theorem dX9_extreme_193 : decode cX9_extreme 193 = .ok (.getfield 381, 3) := by decide +kernel
theorem dX9_extreme_196 : decode cX9_extreme 196 = .ok (.putfield 395, 3) := by decide +kernel
theorem dX9_extreme_199 : decode cX9_extreme 199 = .ok (.iload 5, 2) := by decide +kernel
theorem dX9_extreme_201 : decode cX9_extreme 201 = .ok (.ifCond .eq 17, 3) := by decide +kernel
theorem dX9_extreme_204 : decode cX9_extreme 204 = .ok (.aload_n 0, 1) := by decide +kernel
theorem dX9_extreme_205 : decode cX9_extreme 205 = .ok (.iconst 1, 1) := by decide +kernel
theorem dX9_extreme_206 : decode cX9_extreme 206 = .ok (.lload 8, 2) := by decide +kernel
theorem dX9_extreme_208 : decode cX9_extreme 208 = .ok (.lneg, 1) := by decide +kernel
theorem dX9_extreme_209 : decode cX9_extreme 209 = .ok (.lload 6, 2) := by decide +kernel
theorem dX9_extreme_211 : decode cX9_extreme 211 = .ok (.lneg, 1) := by decide +kernel
theorem dX9_extreme_212 : decode cX9_extreme 212 = .ok (.invokevirtual 374, 3) := by decide +kernel
theorem dX9_extreme_215 : decode cX9_extreme 215 = .ok (.goto 12, 3) := by decide +kernel
theorem dX9_extreme_218 : decode cX9_extreme 218 = .ok (.aload_n 0, 1) := by decide +kernel
theorem dX9_extreme_219 : decode cX9_extreme 219 = .ok (.iconst 1, 1) := by decide +kernel
theorem dX9_extreme_220 : decode cX9_extreme 220 = .ok (.lload 6, 2) := by decide +kernel
theorem dX9_extreme_222 : decode cX9_extreme 222 = .ok (.lload 8, 2) := by decide +kernel
theorem dX9_extreme_224 : decode cX9_extreme 224 = .ok (.invokevirtual 374, 3) := by decide +kernel
theorem dX9_extreme_227 : decode cX9_extreme 227 = .ok (.ireturn, 1) := by decide +kernel
theorem dX9_least_0 : decode cX9_least 0 = .ok (.iconst 0, 1) := by decide +kernel
theorem dX9_least_1 : decode cX9_least 1 = .ok (.istore_n 1, 1) := by decide +kernel
theorem dX9_least_2 : decode cX9_least 2 = .ok (.iconst 1, 1) := by decide +kernel
theorem dX9_least_3 : decode cX9_least 3 = .ok (.istore_n 2, 1) := by decide +kernel
theorem dX9_least_4 : decode cX9_least 4 = .ok (.iload_n 2, 1) := by decide +kernel
theorem dX9_least_5 : decode cX9_least 5 = .ok (.aload_n 0, 1) := by decide +kernel
theorem dX9_least_6 : decode cX9_least 6 = .ok (.getfield 381, 3) := by decide +kernel
theorem dX9_least_9 : decode cX9_least 9 = .ok (.if_icmp .ge 31, 3) := by decide +kernel
theorem dX9_least_12 : decode cX9_least 12 = .ok (.aload_n 0, 1) := by decide +kernel
theorem dX9_least_13 : decode cX9_least 13 = .ok (.getfield 67, 3) := by decide +kernel
theorem dX9_least_16 : decode cX9_least 16 = .ok (.iload_n 2, 1) := by decide +kernel
theorem dX9_least_17 : decode cX9_least 17 = .ok (.laload, 1) := by decide +kernel
theorem dX9_least_18 : decode cX9_least 18 = .ok (.aload_n 0, 1) := by decide +kernel
theorem dX9_least_19 : decode cX9_least 19 = .ok (.getfield 67, 3) := by decide +kernel
theorem dX9_least_22 : decode cX9_least 22 = .ok (.iload_n 1, 1) := by decide +kernel
theorem dX9_least_23 : decode cX9_least 23 = .ok (.laload, 1) := by decide +kernel
theorem dX9_least_24 : decode cX9_least 24 = .ok (.lcmp, 1) := by decide +kernel
theorem dX9_least_25 : decode cX9_least 25 = .ok (.ifCond .ge 7, 3) := by decide +kernel
theorem dX9_least_28 : decode cX9_least 28 = .ok (.iload_n 2, 1) := by decide +kernel
theorem dX9_least_29 : decode cX9_least 29 = .ok (.goto 4, 3) := by decide +kernel
theorem dX9_least_32 : decode cX9_least 32 = .ok (.iload_n 1, 1) := by decide +kernel
theorem dX9_least_33 : decode cX9_least 33 = .ok (.istore_n 1, 1) := by decide +kernel
theorem dX9_least_34 : decode cX9_least 34 = .ok (.iinc 2 1, 3) := by decide +kernel
theorem dX9_least_37 : decode cX9_least 37 = .ok (.goto (-33), 3) := by decide +kernel
theorem dX9_least_40 : decode cX9_least 40 = .ok (.iload_n 1, 1) := by decide +kernel
theorem dX9_least_41 : decode cX9_least 41 = .ok (.ireturn, 1) := by decide +kernel
theorem dX9_least__0 : decode cX9_least_ 0 = .ok (.aload_n 0, 1) := by decide +kernel
theorem dX9_least__1 : decode cX9_least_ 1 = .ok (.iload_n 1, 1) := by decide +kernel
theorem dX9_least__2 : decode cX9_least_ 2 = .ok (.iload_n 2, 1) := by decide +kernel
theorem dX9_least__3 : decode cX9_least_ 3 = .ok (.iload_n 3, 1) := by decide +kernel
theorem dX9_least__4 : decode cX9_least_ 4 = .ok (.iload 4, 2) := by decide +kernel
theorem dX9_least__6 : decode cX9_least_ 6 = .ok (.iconst 0, 1) := by decide +kernel
theorem dX9_least__7 : decode cX9_least_ 7 = .ok (.invokevirtual 420, 3) := by decide +kernel
theorem dX9_least__10 : decode cX9_least_ 10 = .ok (.ireturn, 1) := by decide +kernel
theorem dX9_greatest_0 : decode cX9_greatest 0 = .ok (.aload_n 0, 1) := by decide +kernel
theorem dX9_greatest_1 : decode cX9_greatest 1 = .ok (.iload_n 1, 1) := by decide +kernel
theorem dX9_greatest_2 : decode cX9_greatest 2 = .ok (.iload_n 2, 1) := by decide +kernel
theorem dX9_greatest_3 : decode cX9_greatest 3 = .ok (.iload_n 3, 1) := by decide +kernel
theorem dX9_greatest_4 : decode cX9_greatest 4 = .ok (.iload 4, 2) := by decide +kernel
theorem dX9_greatest_6 : decode cX9_greatest 6 = .ok (.iconst 1, 1) := by decide +kernel
theorem dX9_greatest_7 : decode cX9_greatest 7 = .ok (.invokevirtual 420, 3) := by decide +kernel
theorem dX9_greatest_10 : decode cX9_greatest 10 = .ok (.ireturn, 1) := by decide +kernel
theorem dX9_never_0 : decode cX9_never 0 = .ok (.aload_n 0, 1) := by decide +kernel
theorem dX9_never_1 : decode cX9_never 1 = .ok (.iload_n 1, 1) := by decide +kernel
theorem dX9_never_2 : decode cX9_never 2 = .ok (.invokevirtual 216, 3) := by decide +kernel
theorem dX9_never_5 : decode cX9_never 5 = .ok (.ifCond .eq 22, 3) := by decide +kernel
theorem dX9_never_8 : decode cX9_never 8 = .ok (.iload_n 2, 1) := by decide +kernel
theorem dX9_never_9 : decode cX9_never 9 = .ok (.iload_n 3, 1) := by decide +kernel
theorem dX9_never_10 : decode cX9_never 10 = .ok (.if_icmp .gt 17, 3) := by decide +kernel
theorem dX9_never_13 : decode cX9_never 13 = .ok (.iload 5, 2) := by decide +kernel
theorem dX9_never_15 : decode cX9_never 15 = .ok (.iconst 1, 1) := by decide +kernel
theorem dX9_never_16 : decode cX9_never 16 = .ok (.if_icmp .lt 11, 3) := by decide +kernel
theorem dX9_never_19 : decode cX9_never 19 = .ok (.iload 5, 2) := by decide +kernel
theorem dX9_never_21 : decode cX9_never 21 = .ok (.sipush 400, 3) := by decide +kernel
theorem dX9_never_24 : decode cX9_never 24 = .ok (.if_icmp .le 5, 3) := by decide +kernel
theorem dX9_never_27 : decode cX9_never 27 = .ok (.iconst (-1), 1) := by decide +kernel
theorem dX9_never_28 : decode cX9_never 28 = .ok (.ireturn, 1) := by decide +kernel
theorem dX9_never_29 : decode cX9_never 29 = .ok (.aload_n 0, 1) := by decide +kernel
theorem dX9_never_30 : decode cX9_never 30 = .ok (.iconst 1, 1) := by decide +kernel
theorem dX9_never_31 : decode cX9_never 31 = .ok (.putfield 381, 3) := by decide +kernel
theorem dX9_never_34 : decode cX9_never 34 = .ok (.aload_n 0, 1) := by decide +kernel
theorem dX9_never_35 : decode cX9_never 35 = .ok (.getfield 61, 3) := by decide +kernel
theorem dX9_never_38 : decode cX9_never 38 = .ok (.iconst 0, 1) := by decide +kernel
theorem dX9_never_39 : decode cX9_never 39 = .ok (.iload_n 2, 1) := by decide +kernel
theorem dX9_never_40 : decode cX9_never 40 = .ok (.i2l, 1) := by decide +kernel
theorem dX9_never_41 : decode cX9_never 41 = .ok (.lastore, 1) := by decide +kernel
theorem dX9_never_42 : decode cX9_never 42 = .ok (.aload_n 0, 1) := by decide +kernel
theorem dX9_never_43 : decode cX9_never 43 = .ok (.getfield 64, 3) := by decide +kernel
theorem dX9_never_46 : decode cX9_never 46 = .ok (.iconst 0, 1) := by decide +kernel
theorem dX9_never_47 : decode cX9_never 47 = .ok (.iload_n 3, 1) := by decide +kernel
theorem dX9_never_48 : decode cX9_never 48 = .ok (.i2l, 1) := by decide +kernel
theorem dX9_never_49 : decode cX9_never 49 = .ok (.lastore, 1) := by decide +kernel
theorem dX9_never_50 : decode cX9_never 50 = .ok (.aload_n 0, 1) := by decide +kernel
theorem dX9_never_51 : decode cX9_never 51 = .ok (.iconst 0, 1) := by decide +kernel
theorem dX9_never_52 : decode cX9_never 52 = .ok (.putfield 424, 3) := by decide +kernel
theorem dX9_never_55 : decode cX9_never 55 = .ok (.iconst 0, 1) := by decide +kernel
theorem dX9_never_56 : decode cX9_never 56 = .ok (.istore 6, 2) := by decide +kernel
theorem dX9_never_58 : decode cX9_never 58 = .ok (.aload_n 0, 1) := by decide +kernel
theorem dX9_never_59 : decode cX9_never 59 = .ok (.getfield 381, 3) := by decide +kernel
theorem dX9_never_62 : decode cX9_never 62 = .ok (.ifCond .le 242, 3) := by decide +kernel
theorem dX9_never_65 : decode cX9_never 65 = .ok (.aload_n 0, 1) := by decide +kernel
theorem dX9_never_66 : decode cX9_never 66 = .ok (.getfield 424, 3) := by decide +kernel
theorem dX9_never_69 : decode cX9_never 69 = .ok (.iload 5, 2) := by decide +kernel
theorem dX9_never_71 : decode cX9_never 71 = .ok (.if_icmp .ne 5, 3) := by decide +kernel
theorem dX9_never_74 : decode cX9_never 74 = .ok (.iconst 2, 1) := by decide +kernel
theorem dX9_never_75 : decode cX9_never 75 = .ok (.ireturn, 1) := by decide +kernel
theorem dX9_never_76 : decode cX9_never 76 = .ok (.aload_n 0, 1) := by decide +kernel
theorem dX9_never_77 : decode cX9_never 77 = .ok (.dup, 1) := by decide +kernel
theorem dX9_never_78 : decode cX9_never 78 = .ok (.getfield 424, 3) := by decide +kernel
theorem dX9_never_81 : decode cX9_never 81 = .ok (.iconst 1, 1) := by decide +kernel
theorem dX9_never_82 : decode cX9_never 82 = .ok (.iadd, 1) := by decide +kernel
theorem dX9_never_83 : decode cX9_never 83 = .ok (.putfield 424, 3) := by decide +kernel
theorem dX9_never_86 : decode cX9_never 86 = .ok (.aload_n 0, 1) := by decide +kernel
theorem dX9_never_87 : decode cX9_never 87 = .ok (.dup, 1) := by decide +kernel
theorem dX9_never_88 : decode cX9_never 88 = .ok (.getfield 381, 3) := by decide +kernel
theorem dX9_never_91 : decode cX9_never 91 = .ok (.iconst 1, 1) := by decide +kernel
theorem dX9_never_92 : decode cX9_never 92 = .ok (.isub, 1) := by decide +kernel
theorem dX9_never_93 : decode cX9_never 93 = .ok (.putfield 381, 3) := by decide +kernel
theorem dX9_never_96 : decode cX9_never 96 = .ok (.aload_n 0, 1) := by decide +kernel
theorem dX9_never_97 : decode cX9_never 97 = .ok (.getfield 61, 3) := by decide +kernel
theorem dX9_never_100 : decode cX9_never 100 = .ok (.aload_n 0, 1) := by decide +kernel
theorem dX9_never_101 : decode cX9_never 101 = .ok (.getfield 381, 3) := by decide +kernel
theorem dX9_never_104 : decode cX9_never 104 = .ok (.laload, 1) := by decide +kernel
theorem dX9_never_105 : decode cX9_never 105 = .ok (.lstore 7, 2) := by decide +kernel
theorem dX9_never_107 : decode cX9_never 107 = .ok (.aload_n 0, 1) := by decide +kernel
theorem dX9_never_108 : decode cX9_never 108 = .ok (.getfield 64, 3) := by decide +kernel
theorem dX9_never_111 : decode cX9_never 111 = .ok (.aload_n 0, 1) := by decide +kernel
theorem dX9_never_112 : decode cX9_never 112 = .ok (.getfield 381, 3) := by decide +kernel
theorem dX9_never_115 : decode cX9_never 115 = .ok (.laload, 1) := by decide +kernel
theorem dX9_never_116 : decode cX9_never 116 = .ok (.lstore 9, 2) := by decide +kernel
theorem dX9_never_118 : decode cX9_never 118 = .ok (.aload_n 0, 1) := by decide +kernel
theorem dX9_never_119 : decode cX9_never 119 = .ok (.iload_n 1, 1) := by decide +kernel
theorem dX9_never_120 : decode cX9_never 120 = .ok (.lload 7, 2) := by decide +kernel
theorem dX9_never_122 : decode cX9_never 122 = .ok (.lload 9, 2) := by decide +kernel
theorem dX9_never_124 : decode cX9_never 124 = .ok (.invokevirtual 370, 3) := by decide +kernel
theorem dX9_never_127 : decode cX9_never 127 = .ok (.ifCond .eq 17, 3) := by decide +kernel
theorem dX9_never_130 : decode cX9_never 130 = .ok (.aload_n 0, 1) := by decide +kernel
theorem dX9_never_131 : decode cX9_never 131 = .ok (.getfield 355, 3) := by decide +kernel
theorem dX9_never_134 : decode cX9_never 134 = .ok (.iload 4, 2) := by decide +kernel
theorem dX9_never_136 : decode cX9_never 136 = .ok (.i2l, 1) := by decide +kernel
theorem dX9_never_137 : decode cX9_never 137 = .ok (.lcmp, 1) := by decide +kernel
theorem dX9_never_138 : decode cX9_never 138 = .ok (.ifCond .le 6, 3) := by decide +kernel
theorem dX9_never_141 : decode cX9_never 141 = .ok (.goto (-83), 3) := by decide +kernel
theorem dX9_never_144 : decode cX9_never 144 = .ok (.lload 7, 2) := by decide +kernel
theorem dX9_never_146 : decode cX9_never 146 = .ok (.lload 9, 2) := by decide +kernel
theorem dX9_never_148 : decode cX9_never 148 = .ok (.ladd, 1) := by decide +kernel
theorem dX9_never_149 : decode cX9_never 149 = .ok (.ldc2_w 292, 3) := by decide +kernel
theorem dX9_never_152 : decode cX9_never 152 = .ok (.invokestatic 209, 3) := by decide +kernel
theorem dX9_never_155 : decode cX9_never 155 = .ok (.lstore 11, 2) := by decide +kernel
theorem dX9_never_157 : decode cX9_never 157 = .ok (.aload_n 0, 1) := by decide +kernel
theorem dX9_never_158 : decode cX9_never 158 = .ok (.iload_n 1, 1) := by decide +kernel
theorem dX9_never_159 : decode cX9_never 159 = .ok (.lload 7, 2) := by decide +kernel
theorem dX9_never_161 : decode cX9_never 161 = .ok (.iload 4, 2) := by decide +kernel
theorem dX9_never_163 : decode cX9_never 163 = .ok (.invokevirtual 427, 3) := by decide +kernel
theorem dX9_never_166 : decode cX9_never 166 = .ok (.ifCond .eq 8, 3) := by decide +kernel
theorem dX9_never_169 : decode cX9_never 169 = .ok (.lload 7, 2) := by decide +kernel
theorem dX9_never_171 : decode cX9_never 171 = .ok (.goto 22, 3) := by decide +kernel
theorem dX9_never_174 : decode cX9_never 174 = .ok (.aload_n 0, 1) := by decide +kernel
theorem dX9_never_175 : decode cX9_never 175 = .ok (.iload_n 1, 1) := by decide +kernel
theorem dX9_never_176 : decode cX9_never 176 = .ok (.lload 9, 2) := by decide +kernel
theorem dX9_never_178 : decode cX9_never 178 = .ok (.iload 4, 2) := by decide +kernel
theorem dX9_never_180 : decode cX9_never 180 = .ok (.invokevirtual 427, 3) := by decide +kernel
theorem dX9_never_183 : decode cX9_never 183 = .ok (.ifCond .eq 8, 3) := by decide +kernel
theorem dX9_never_186 : decode cX9_never 186 = .ok (.lload 9, 2) := by decide +kernel
theorem dX9_never_188 : decode cX9_never 188 = .ok (.goto 5, 3) := by decide +kernel
theorem dX9_never_191 : decode cX9_never 191 = .ok (.lload 11, 2) := by decide +kernel
theorem dX9_never_193 : decode cX9_never 193 = .ok (.lstore 13, 2) := by decide +kernel
theorem dX9_never_195 : decode cX9_never 195 = .ok (.lload 13, 2) := by decide +kernel
theorem dX9_never_197 : decode cX9_never 197 = .ok (.lload 11, 2) := by decide +kernel
theorem dX9_never_199 : decode cX9_never 199 = .ok (.lcmp, 1) := by decide +kernel
theorem dX9_never_200 : decode cX9_never 200 = .ok (.ifCond .ne 15, 3) := by decide +kernel
theorem dX9_never_203 : decode cX9_never 203 = .ok (.aload_n 0, 1) := by decide +kernel
theorem dX9_never_204 : decode cX9_never 204 = .ok (.iload_n 1, 1) := by decide +kernel
theorem dX9_never_205 : decode cX9_never 205 = .ok (.lload 11, 2) := by decide +kernel
theorem dX9_never_207 : decode cX9_never 207 = .ok (.iload 4, 2) := by decide +kernel
theorem dX9_never_209 : decode cX9_never 209 = .ok (.invokevirtual 427, 3) := by decide +kernel
theorem dX9_never_212 : decode cX9_never 212 = .ok (.ifCond .eq 13, 3) := by decide +kernel
theorem dX9_never_215 : decode cX9_never 215 = .ok (.aload_n 0, 1) := by decide +kernel
theorem dX9_never_216 : decode cX9_never 216 = .ok (.iconst 1, 1) := by decide +kernel
theorem dX9_never_217 : decode cX9_never 217 = .ok (.lload 13, 2) := by decide +kernel
theorem dX9_never_219 : decode cX9_never 219 = .ok (.lload 13, 2) := by decide +kernel
theorem dX9_never_221 : decode cX9_never 221 = .ok (.invokevirtual 374, 3) := by decide +kernel
theorem dX9_never_224 : decode cX9_never 224 = .ok (.ireturn, 1) := by decide +kernel
theorem dX9_never_225 : decode cX9_never 225 = .ok (.lload 9, 2) := by decide +kernel
theorem dX9_never_227 : decode cX9_never 227 = .ok (.lload 7, 2) := by decide +kernel
theorem dX9_never_229 : decode cX9_never 229 = .ok (.lsub, 1) := by decide +kernel
theorem dX9_never_230 : decode cX9_never 230 = .ok (.ldc2_w 292, 3) := by decide +kernel
theorem dX9_never_233 : decode cX9_never 233 = .ok (.lcmp, 1) := by decide +kernel
theorem dX9_never_234 : decode cX9_never 234 = .ok (.ifCond .ge 9, 3) := by decide +kernel
theorem dX9_never_237 : decode cX9_never 237 = .ok (.iconst 1, 1) := by decide +kernel
theorem dX9_never_238 : decode cX9_never 238 = .ok (.istore 6, 2) := by decide +kernel
theorem dX9_never_240 : decode cX9_never 240 = .ok (.goto (-182), 3) := by decide +kernel
theorem dX9_never_243 : decode cX9_never 243 = .ok (.aload_n 0, 1) := by decide +kernel
theorem dX9_never_244 : decode cX9_never 244 = .ok (.getfield 61, 3) := by decide +kernel
theorem dX9_never_247 : decode cX9_never 247 = .ok (.aload_n 0, 1) := by decide +kernel
theorem dX9_never_248 : decode cX9_never 248 = .ok (.getfield 381, 3) := by decide +kernel
theorem dX9_never_251 : decode cX9_never 251 = .ok (.lload 11, 2) := by decide +kernel
theorem dX9_never_253 : decode cX9_never 253 = .ok (.lastore, 1) := by decide +kernel
theorem dX9_never_254 : decode cX9_never 254 = .ok (.aload_n 0, 1) := by decide +kernel
theorem dX9_never_255 : decode cX9_never 255 = .ok (.getfield 64, 3) := by decide +kernel
theorem dX9_never_258 : decode cX9_never 258 = .ok (.aload_n 0, 1) := by decide +kernel
theorem dX9_never_259 : decode cX9_never 259 = .ok (.getfield 381, 3) := by decide +kernel
theorem dX9_never_262 : decode cX9_never 262 = .ok (.lload 9, 2) := by decide +kernel
theorem dX9_never_264 : decode cX9_never 264 = .ok (.lastore, 1) := by decide +kernel
theorem dX9_never_265 : decode cX9_never 265 = .ok (.aload_n 0, 1) := by decide +kernel
theorem dX9_never_266 : decode cX9_never 266 = .ok (.getfield 61, 3) := by decide +kernel
theorem dX9_never_269 : decode cX9_never 269 = .ok (.aload_n 0, 1) := by decide +kernel
theorem dX9_never_270 : decode cX9_never 270 = .ok (.getfield 381, 3) := by decide +kernel
theorem dX9_never_273 : decode cX9_never 273 = .ok (.iconst 1, 1) := by decide +kernel
theorem dX9_never_274 : decode cX9_never 274 = .ok (.iadd, 1) := by decide +kernel
theorem dX9_never_275 : decode cX9_never 275 = .ok (.lload 7, 2) := by decide +kernel
theorem dX9_never_277 : decode cX9_never 277 = .ok (.lastore, 1) := by decide +kernel
theorem dX9_never_278 : decode cX9_never 278 = .ok (.aload_n 0, 1) := by decide +kernel
theorem dX9_never_279 : decode cX9_never 279 = .ok (.getfield 64, 3) := by decide +kernel
theorem dX9_never_282 : decode cX9_never 282 = .ok (.aload_n 0, 1) := by decide +kernel
theorem dX9_never_283 : decode cX9_never 283 = .ok (.getfield 381, 3) := by decide +kernel
theorem dX9_never_286 : decode cX9_never 286 = .ok (.iconst 1, 1) := by decide +kernel
theorem dX9_never_287 : decode cX9_never 287 = .ok (.iadd, 1) := by decide +kernel
theorem dX9_never_288 : decode cX9_never 288 = .ok (.lload 11, 2) := by decide +kernel
theorem dX9_never_290 : decode cX9_never 290 = .ok (.lastore, 1) := by decide +kernel
theorem dX9_never_291 : decode cX9_never 291 = .ok (.aload_n 0, 1) := by decide +kernel
theorem dX9_never_292 : decode cX9_never 292 = .ok (.dup, 1) := by decide +kernel
theorem dX9_never_293 : decode cX9_never 293 = .ok (.getfield 381, 3) := by decide +kernel
theorem dX9_never_296 : decode cX9_never 296 = .ok (.iconst 2, 1) := by decide +kernel
theorem dX9_never_297 : decode cX9_never 297 = .ok (.iadd, 1) := by decide +kernel
theorem dX9_never_298 : decode cX9_never 298 = .ok (.putfield 381, 3) := by decide +kernel
theorem dX9_never_301 : decode cX9_never 301 = .ok (.goto (-243), 3) := by decide +kernel
theorem dX9_never_304 : decode cX9_never 304 = .ok (.iload 6, 2) := by decide +kernel
theorem dX9_never_306 : decode cX9_never 306 = .ok (.ifCond .eq 7, 3) := by decide +kernel
theorem dX9_never_309 : decode cX9_never 309 = .ok (.iconst 2, 1) := by decide +kernel
theorem dX9_never_310 : decode cX9_never 310 = .ok (.goto 4, 3) := by decide +kernel
theorem dX9_never_313 : decode cX9_never 313 = .ok (.iconst 1, 1) := by decide +kernel
theorem dX9_never_314 : decode cX9_never 314 = .ok (.ireturn, 1) := by decide +kernel
theorem dX9_isNotAbove_0 : decode cX9_isNotAbove 0 = .ok (.aload_n 0, 1) := by decide +kernel
theorem dX9_isNotAbove_1 : decode cX9_isNotAbove 1 = .ok (.iload_n 1, 1) := by decide +kernel
theorem dX9_isNotAbove_2 : decode cX9_isNotAbove 2 = .ok (.lload_n 2, 1) := by decide +kernel
theorem dX9_isNotAbove_3 : decode cX9_isNotAbove 3 = .ok (.lload_n 2, 1) := by decide +kernel
theorem dX9_isNotAbove_4 : decode cX9_isNotAbove 4 = .ok (.invokevirtual 370, 3) := by decide +kernel
theorem dX9_isNotAbove_7 : decode cX9_isNotAbove 7 = .ok (.ifCond .eq 18, 3) := by decide +kernel
theorem dX9_isNotAbove_10 : decode cX9_isNotAbove 10 = .ok (.aload_n 0, 1) := by decide +kernel
theorem dX9_isNotAbove_11 : decode cX9_isNotAbove 11 = .ok (.getfield 358, 3) := by decide +kernel
theorem dX9_isNotAbove_14 : decode cX9_isNotAbove 14 = .ok (.iload 4, 2) := by decide +kernel
theorem dX9_isNotAbove_16 : decode cX9_isNotAbove 16 = .ok (.i2l, 1) := by decide +kernel
theorem dX9_isNotAbove_17 : decode cX9_isNotAbove 17 = .ok (.lcmp, 1) := by decide +kernel
theorem dX9_isNotAbove_18 : decode cX9_isNotAbove 18 = .ok (.ifCond .gt 7, 3) := by decide +kernel
theorem dX9_isNotAbove_21 : decode cX9_isNotAbove 21 = .ok (.iconst 1, 1) := by decide +kernel
theorem dX9_isNotAbove_22 : decode cX9_isNotAbove 22 = .ok (.goto 4, 3) := by decide +kernel
theorem dX9_isNotAbove_25 : decode cX9_isNotAbove 25 = .ok (.iconst 0, 1) := by decide +kernel
theorem dX9_isNotAbove_26 : decode cX9_isNotAbove 26 = .ok (.ireturn, 1) := by decide +kernel
theorem dX9_low_0 : decode cX9_low 0 = .ok (.aload_n 0, 1) := by decide +kernel
theorem dX9_low_1 : decode cX9_low 1 = .ok (.getfield 364, 3) := by decide +kernel
theorem dX9_low_4 : decode cX9_low 4 = .ok (.lreturn, 1) := by decide +kernel
theorem dX9_high_0 : decode cX9_high 0 = .ok (.aload_n 0, 1) := by decide +kernel
theorem dX9_high_1 : decode cX9_high 1 = .ok (.getfield 367, 3) := by decide +kernel
theorem dX9_high_4 : decode cX9_high 4 = .ok (.lreturn, 1) := by decide +kernel
theorem dX9_count_0 : decode cX9_count 0 = .ok (.iload_n 1, 1) := by decide +kernel
theorem dX9_count_1 : decode cX9_count 1 = .ok (.tableswitch 60 0 4 #[35, 40, 45, 50, 55], 35) := by decide +kernel
theorem dX9_count_36 : decode cX9_count 36 = .ok (.aload_n 0, 1) := by decide +kernel
theorem dX9_count_37 : decode cX9_count 37 = .ok (.getfield 113, 3) := by decide +kernel
theorem dX9_count_40 : decode cX9_count 40 = .ok (.ireturn, 1) := by decide +kernel
theorem dX9_count_41 : decode cX9_count 41 = .ok (.aload_n 0, 1) := by decide +kernel
theorem dX9_count_42 : decode cX9_count 42 = .ok (.getfield 86, 3) := by decide +kernel
theorem dX9_count_45 : decode cX9_count 45 = .ok (.ireturn, 1) := by decide +kernel
theorem dX9_count_46 : decode cX9_count 46 = .ok (.aload_n 0, 1) := by decide +kernel
theorem dX9_count_47 : decode cX9_count 47 = .ok (.getfield 395, 3) := by decide +kernel
theorem dX9_count_50 : decode cX9_count 50 = .ok (.ireturn, 1) := by decide +kernel
theorem dX9_count_51 : decode cX9_count 51 = .ok (.aload_n 0, 1) := by decide +kernel
theorem dX9_count_52 : decode cX9_count 52 = .ok (.getfield 424, 3) := by decide +kernel
theorem dX9_count_55 : decode cX9_count 55 = .ok (.ireturn, 1) := by decide +kernel
theorem dX9_count_56 : decode cX9_count 56 = .ok (.aload_n 0, 1) := by decide +kernel
theorem dX9_count_57 : decode cX9_count 57 = .ok (.getfield 402, 3) := by decide +kernel
theorem dX9_count_60 : decode cX9_count 60 = .ok (.ireturn, 1) := by decide +kernel
theorem dX9_count_61 : decode cX9_count 61 = .ok (.iconst (-1), 1) := by decide +kernel
theorem dX9_count_62 : decode cX9_count 62 = .ok (.ireturn, 1) := by decide +kernel
