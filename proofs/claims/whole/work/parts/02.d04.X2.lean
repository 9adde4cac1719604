theorem dX2_init_0 : decode cX2_init 0 = .ok (.aload_n 0, 1) := by decide +kernel
theorem dX2_init_1 : decode cX2_init 1 = .ok (.invokespecial 3, 3) := by decide +kernel
theorem dX2_init_4 : decode cX2_init 4 = .ok (.aload_n 0, 1) := by decide +kernel
theorem dX2_init_5 : decode cX2_init 5 = .ok (.sipush 201, 3) := by decide +kernel
theorem dX2_init_8 : decode cX2_init 8 = .ok (.newarray .int, 2) := by decide +kernel
theorem dX2_init_10 : decode cX2_init 10 = .ok (.putfield 11, 3) := by decide +kernel
theorem dX2_init_13 : decode cX2_init 13 = .ok (.aload_n 0, 1) := by decide +kernel
theorem dX2_init_14 : decode cX2_init 14 = .ok (.sipush 201, 3) := by decide +kernel
theorem dX2_init_17 : decode cX2_init 17 = .ok (.newarray .int, 2) := by decide +kernel
theorem dX2_init_19 : decode cX2_init 19 = .ok (.putfield 15, 3) := by decide +kernel
theorem dX2_init_22 : decode cX2_init 22 = .ok (.aload_n 0, 1) := by decide +kernel
theorem dX2_init_23 : decode cX2_init 23 = .ok (.sipush 201, 3) := by decide +kernel
theorem dX2_init_26 : decode cX2_init 26 = .ok (.newarray .long, 2) := by decide +kernel
theorem dX2_init_28 : decode cX2_init 28 = .ok (.putfield 18, 3) := by decide +kernel
theorem dX2_init_31 : decode cX2_init 31 = .ok (.aload_n 0, 1) := by decide +kernel
theorem dX2_init_32 : decode cX2_init 32 = .ok (.sipush 201, 3) := by decide +kernel
theorem dX2_init_35 : decode cX2_init 35 = .ok (.newarray .long, 2) := by decide +kernel
theorem dX2_init_37 : decode cX2_init 37 = .ok (.putfield 22, 3) := by decide +kernel
theorem dX2_init_40 : decode cX2_init 40 = .ok (.return_, 1) := by decide +kernel
theorem dX2_sumUp_0 : decode cX2_sumUp 0 = .ok (.aload_n 0, 1) := by decide +kernel
theorem dX2_sumUp_1 : decode cX2_sumUp 1 = .ok (.iconst 1, 1) := by decide +kernel
theorem dX2_sumUp_2 : decode cX2_sumUp 2 = .ok (.putfield 25, 3) := by decide +kernel
theorem dX2_sumUp_5 : decode cX2_sumUp 5 = .ok (.aload_n 0, 1) := by decide +kernel
theorem dX2_sumUp_6 : decode cX2_sumUp 6 = .ok (.aload_n 1, 1) := by decide +kernel
theorem dX2_sumUp_7 : decode cX2_sumUp 7 = .ok (.iload_n 2, 1) := by decide +kernel
theorem dX2_sumUp_8 : decode cX2_sumUp 8 = .ok (.iconst 0, 1) := by decide +kernel
theorem dX2_sumUp_9 : decode cX2_sumUp 9 = .ok (.iload_n 3, 1) := by decide +kernel
theorem dX2_sumUp_10 : decode cX2_sumUp 10 = .ok (.iload 4, 2) := by decide +kernel
theorem dX2_sumUp_12 : decode cX2_sumUp 12 = .ok (.invokevirtual 29, 3) := by decide +kernel
theorem dX2_sumUp_15 : decode cX2_sumUp 15 = .ok (.istore 8, 2) := by decide +kernel
theorem dX2_sumUp_17 : decode cX2_sumUp 17 = .ok (.aload_n 0, 1) := by decide +kernel
theorem dX2_sumUp_18 : decode cX2_sumUp 18 = .ok (.getfield 18, 3) := by decide +kernel
theorem dX2_sumUp_21 : decode cX2_sumUp 21 = .ok (.iconst 0, 1) := by decide +kernel
theorem dX2_sumUp_22 : decode cX2_sumUp 22 = .ok (.laload, 1) := by decide +kernel
theorem dX2_sumUp_23 : decode cX2_sumUp 23 = .ok (.lstore 9, 2) := by decide +kernel
theorem dX2_sumUp_25 : decode cX2_sumUp 25 = .ok (.aload_n 0, 1) := by decide +kernel
theorem dX2_sumUp_26 : decode cX2_sumUp 26 = .ok (.getfield 22, 3) := by decide +kernel
theorem dX2_sumUp_29 : decode cX2_sumUp 29 = .ok (.iconst 0, 1) := by decide +kernel
theorem dX2_sumUp_30 : decode cX2_sumUp 30 = .ok (.laload, 1) := by decide +kernel
theorem dX2_sumUp_31 : decode cX2_sumUp 31 = .ok (.lstore 11, 2) := by decide +kernel
theorem dX2_sumUp_33 : decode cX2_sumUp 33 = .ok (.aload_n 0, 1) := by decide +kernel
theorem dX2_sumUp_34 : decode cX2_sumUp 34 = .ok (.lload 9, 2) := by decide +kernel
theorem dX2_sumUp_36 : decode cX2_sumUp 36 = .ok (.putfield 33, 3) := by decide +kernel
theorem dX2_sumUp_39 : decode cX2_sumUp 39 = .ok (.aload_n 0, 1) := by decide +kernel
theorem dX2_sumUp_40 : decode cX2_sumUp 40 = .ok (.lload 11, 2) := by decide +kernel
theorem dX2_sumUp_42 : decode cX2_sumUp 42 = .ok (.putfield 37, 3) := by decide +kernel
theorem dX2_sumUp_45 : decode cX2_sumUp 45 = .ok (.iconst 0, 1) := by decide +kernel
theorem dX2_sumUp_46 : decode cX2_sumUp 46 = .ok (.istore 13, 2) := by decide +kernel
theorem dX2_sumUp_48 : decode cX2_sumUp 48 = .ok (.iload 13, 2) := by decide +kernel
theorem dX2_sumUp_50 : decode cX2_sumUp 50 = .ok (.iload 5, 2) := by decide +kernel
theorem dX2_sumUp_52 : decode cX2_sumUp 52 = .ok (.if_icmp .ge 217, 3) := by decide +kernel
theorem dX2_sumUp_55 : decode cX2_sumUp 55 = .ok (.iload 8, 2) := by decide +kernel
theorem dX2_sumUp_57 : decode cX2_sumUp 57 = .ok (.ifCond .eq 212, 3) := by decide +kernel
theorem dX2_sumUp_60 : decode cX2_sumUp 60 = .ok (.aload_n 0, 1) := by decide +kernel
theorem dX2_sumUp_61 : decode cX2_sumUp 61 = .ok (.getfield 37, 3) := by decide +kernel
theorem dX2_sumUp_64 : decode cX2_sumUp 64 = .ok (.aload_n 0, 1) := by decide +kernel
theorem dX2_sumUp_65 : decode cX2_sumUp 65 = .ok (.getfield 33, 3) := by decide +kernel
theorem dX2_sumUp_68 : decode cX2_sumUp 68 = .ok (.lsub, 1) := by decide +kernel
theorem dX2_sumUp_69 : decode cX2_sumUp 69 = .ok (.lload 6, 2) := by decide +kernel
theorem dX2_sumUp_71 : decode cX2_sumUp 71 = .ok (.lcmp, 1) := by decide +kernel
theorem dX2_sumUp_72 : decode cX2_sumUp 72 = .ok (.ifCond .le 197, 3) := by decide +kernel
theorem dX2_sumUp_75 : decode cX2_sumUp 75 = .ok (.aload_n 0, 1) := by decide +kernel
theorem dX2_sumUp_76 : decode cX2_sumUp 76 = .ok (.invokevirtual 40, 3) := by decide +kernel
theorem dX2_sumUp_79 : decode cX2_sumUp 79 = .ok (.istore 14, 2) := by decide +kernel
theorem dX2_sumUp_81 : decode cX2_sumUp 81 = .ok (.aload_n 0, 1) := by decide +kernel
theorem dX2_sumUp_82 : decode cX2_sumUp 82 = .ok (.iload 14, 2) := by decide +kernel
theorem dX2_sumUp_84 : decode cX2_sumUp 84 = .ok (.invokevirtual 44, 3) := by decide +kernel
theorem dX2_sumUp_87 : decode cX2_sumUp 87 = .ok (.ifCond .ne 5, 3) := by decide +kernel
theorem dX2_sumUp_90 : decode cX2_sumUp 90 = .ok (.iconst 1, 1) := by decide +kernel
theorem dX2_sumUp_91 : decode cX2_sumUp 91 = .ok (.ireturn, 1) := by decide +kernel
theorem dX2_sumUp_92 : decode cX2_sumUp 92 = .ok (.lload 9, 2) := by decide +kernel
theorem dX2_sumUp_94 : decode cX2_sumUp 94 = .ok (.aload_n 0, 1) := by decide +kernel
theorem dX2_sumUp_95 : decode cX2_sumUp 95 = .ok (.getfield 18, 3) := by decide +kernel
theorem dX2_sumUp_98 : decode cX2_sumUp 98 = .ok (.iload 14, 2) := by decide +kernel
theorem dX2_sumUp_100 : decode cX2_sumUp 100 = .ok (.laload, 1) := by decide +kernel
theorem dX2_sumUp_101 : decode cX2_sumUp 101 = .ok (.lsub, 1) := by decide +kernel
theorem dX2_sumUp_102 : decode cX2_sumUp 102 = .ok (.lstore 9, 2) := by decide +kernel
theorem dX2_sumUp_104 : decode cX2_sumUp 104 = .ok (.lload 11, 2) := by decide +kernel
theorem dX2_sumUp_106 : decode cX2_sumUp 106 = .ok (.aload_n 0, 1) := by decide +kernel
theorem dX2_sumUp_107 : decode cX2_sumUp 107 = .ok (.getfield 22, 3) := by decide +kernel
theorem dX2_sumUp_110 : decode cX2_sumUp 110 = .ok (.iload 14, 2) := by decide +kernel
theorem dX2_sumUp_112 : decode cX2_sumUp 112 = .ok (.laload, 1) := by decide +kernel
theorem dX2_sumUp_113 : decode cX2_sumUp 113 = .ok (.lsub, 1) := by decide +kernel
theorem dX2_sumUp_114 : decode cX2_sumUp 114 = .ok (.lstore 11, 2) := by decide +kernel
theorem dX2_sumUp_116 : decode cX2_sumUp 116 = .ok (.aload_n 0, 1) := by decide +kernel
theorem dX2_sumUp_117 : decode cX2_sumUp 117 = .ok (.getfield 15, 3) := by decide +kernel
theorem dX2_sumUp_120 : decode cX2_sumUp 120 = .ok (.iload 14, 2) := by decide +kernel
theorem dX2_sumUp_122 : decode cX2_sumUp 122 = .ok (.iaload, 1) := by decide +kernel
theorem dX2_sumUp_123 : decode cX2_sumUp 123 = .ok (.istore 15, 2) := by decide +kernel
theorem dX2_sumUp_125 : decode cX2_sumUp 125 = .ok (.aload_n 0, 1) := by decide +kernel
theorem dX2_sumUp_126 : decode cX2_sumUp 126 = .ok (.getfield 11, 3) := by decide +kernel
theorem dX2_sumUp_129 : decode cX2_sumUp 129 = .ok (.iload 14, 2) := by decide +kernel
theorem dX2_sumUp_131 : decode cX2_sumUp 131 = .ok (.iaload, 1) := by decide +kernel
theorem dX2_sumUp_132 : decode cX2_sumUp 132 = .ok (.iload 15, 2) := by decide +kernel
theorem dX2_sumUp_134 : decode cX2_sumUp 134 = .ok (.invokestatic 48, 3) := by decide +kernel
theorem dX2_sumUp_137 : decode cX2_sumUp 137 = .ok (.istore 16, 2) := by decide +kernel
theorem dX2_sumUp_139 : decode cX2_sumUp 139 = .ok (.aload_n 0, 1) := by decide +kernel
theorem dX2_sumUp_140 : decode cX2_sumUp 140 = .ok (.aload_n 1, 1) := by decide +kernel
theorem dX2_sumUp_141 : decode cX2_sumUp 141 = .ok (.iload_n 2, 1) := by decide +kernel
theorem dX2_sumUp_142 : decode cX2_sumUp 142 = .ok (.iload 14, 2) := by decide +kernel
theorem dX2_sumUp_144 : decode cX2_sumUp 144 = .ok (.aload_n 0, 1) := by decide +kernel
theorem dX2_sumUp_145 : decode cX2_sumUp 145 = .ok (.getfield 11, 3) := by decide +kernel
theorem dX2_sumUp_148 : decode cX2_sumUp 148 = .ok (.iload 14, 2) := by decide +kernel
theorem dX2_sumUp_150 : decode cX2_sumUp 150 = .ok (.iaload, 1) := by decide +kernel
theorem dX2_sumUp_151 : decode cX2_sumUp 151 = .ok (.iload 16, 2) := by decide +kernel
theorem dX2_sumUp_153 : decode cX2_sumUp 153 = .ok (.invokevirtual 29, 3) := by decide +kernel
theorem dX2_sumUp_156 : decode cX2_sumUp 156 = .ok (.ifCond .eq 24, 3) := by decide +kernel
theorem dX2_sumUp_159 : decode cX2_sumUp 159 = .ok (.aload_n 0, 1) := by decide +kernel
theorem dX2_sumUp_160 : decode cX2_sumUp 160 = .ok (.aload_n 1, 1) := by decide +kernel
theorem dX2_sumUp_161 : decode cX2_sumUp 161 = .ok (.iload_n 2, 1) := by decide +kernel
theorem dX2_sumUp_162 : decode cX2_sumUp 162 = .ok (.aload_n 0, 1) := by decide +kernel
theorem dX2_sumUp_163 : decode cX2_sumUp 163 = .ok (.getfield 25, 3) := by decide +kernel
theorem dX2_sumUp_166 : decode cX2_sumUp 166 = .ok (.iload 16, 2) := by decide +kernel
theorem dX2_sumUp_168 : decode cX2_sumUp 168 = .ok (.iload 15, 2) := by decide +kernel
theorem dX2_sumUp_170 : decode cX2_sumUp 170 = .ok (.invokevirtual 29, 3) := by decide +kernel
theorem dX2_sumUp_173 : decode cX2_sumUp 173 = .ok (.ifCond .eq 7, 3) := by decide +kernel
theorem dX2_sumUp_176 : decode cX2_sumUp 176 = .ok (.iconst 1, 1) := by decide +kernel
theorem dX2_sumUp_177 : decode cX2_sumUp 177 = .ok (.goto 4, 3) := by decide +kernel
theorem dX2_sumUp_180 : decode cX2_sumUp 180 = .ok (.iconst 0, 1) := by decide +kernel
theorem dX2_sumUp_181 : decode cX2_sumUp 181 = .ok (.istore 8, 2) := by decide +kernel
theorem dX2_sumUp_183 : decode cX2_sumUp 183 = .ok (.lload 9, 2) := by decide +kernel
theorem dX2_sumUp_185 : decode cX2_sumUp 185 = .ok (.aload_n 0, 1) := by decide +kernel
theorem dX2_sumUp_186 : decode cX2_sumUp 186 = .ok (.getfield 18, 3) := by decide +kernel
theorem dX2_sumUp_189 : decode cX2_sumUp 189 = .ok (.iload 14, 2) := by decide +kernel
theorem dX2_sumUp_191 : decode cX2_sumUp 191 = .ok (.laload, 1) := by decide +kernel
theorem dX2_sumUp_192 : decode cX2_sumUp 192 = .ok (.aload_n 0, 1) := by decide +kernel
theorem dX2_sumUp_193 : decode cX2_sumUp 193 = .ok (.getfield 18, 3) := by decide +kernel
theorem dX2_sumUp_196 : decode cX2_sumUp 196 = .ok (.aload_n 0, 1) := by decide +kernel
theorem dX2_sumUp_197 : decode cX2_sumUp 197 = .ok (.getfield 25, 3) := by decide +kernel
theorem dX2_sumUp_200 : decode cX2_sumUp 200 = .ok (.laload, 1) := by decide +kernel
theorem dX2_sumUp_201 : decode cX2_sumUp 201 = .ok (.ladd, 1) := by decide +kernel
theorem dX2_sumUp_202 : decode cX2_sumUp 202 = .ok (.ladd, 1) := by decide +kernel
theorem dX2_sumUp_203 : decode cX2_sumUp 203 = .ok (.lstore 9, 2) := by decide +kernel
theorem dX2_sumUp_205 : decode cX2_sumUp 205 = .ok (.lload 11, 2) := by decide +kernel
theorem dX2_sumUp_207 : decode cX2_sumUp 207 = .ok (.aload_n 0, 1) := by decide +kernel
theorem dX2_sumUp_208 : decode cX2_sumUp 208 = .ok (.getfield 22, 3) := by decide +kernel
theorem dX2_sumUp_211 : decode cX2_sumUp 211 = .ok (.iload 14, 2) := by decide +kernel
theorem dX2_sumUp_213 : decode cX2_sumUp 213 = .ok (.laload, 1) := by decide +kernel
theorem dX2_sumUp_214 : decode cX2_sumUp 214 = .ok (.aload_n 0, 1) := by decide +kernel
theorem dX2_sumUp_215 : decode cX2_sumUp 215 = .ok (.getfield 22, 3) := by decide +kernel
theorem dX2_sumUp_218 : decode cX2_sumUp 218 = .ok (.aload_n 0, 1) := by decide +kernel
theorem dX2_sumUp_219 : decode cX2_sumUp 219 = .ok (.getfield 25, 3) := by decide +kernel
theorem dX2_sumUp_222 : decode cX2_sumUp 222 = .ok (.laload, 1) := by decide +kernel
theorem dX2_sumUp_223 : decode cX2_sumUp 223 = .ok (.ladd, 1) := by decide +kernel
theorem dX2_sumUp_224 : decode cX2_sumUp 224 = .ok (.ladd, 1) := by decide +kernel
theorem dX2_sumUp_225 : decode cX2_sumUp 225 = .ok (.lstore 11, 2) := by decide +kernel
theorem dX2_sumUp_227 : decode cX2_sumUp 227 = .ok (.aload_n 0, 1) := by decide +kernel
theorem dX2_sumUp_228 : decode cX2_sumUp 228 = .ok (.dup, 1) := by decide +kernel
theorem dX2_sumUp_229 : decode cX2_sumUp 229 = .ok (.getfield 25, 3) := by decide +kernel
theorem dX2_sumUp_232 : decode cX2_sumUp 232 = .ok (.iconst 1, 1) := by decide +kernel
theorem dX2_sumUp_233 : decode cX2_sumUp 233 = .ok (.iadd, 1) := by decide +kernel
theorem dX2_sumUp_234 : decode cX2_sumUp 234 = .ok (.putfield 25, 3) := by decide +kernel
theorem dX2_sumUp_237 : decode cX2_sumUp 237 = .ok (.aload_n 0, 1) := by decide +kernel
theorem dX2_sumUp_238 : decode cX2_sumUp 238 = .ok (.aload_n 0, 1) := by decide +kernel
theorem dX2_sumUp_239 : decode cX2_sumUp 239 = .ok (.getfield 33, 3) := by decide +kernel
theorem dX2_sumUp_242 : decode cX2_sumUp 242 = .ok (.lload 9, 2) := by decide +kernel
theorem dX2_sumUp_244 : decode cX2_sumUp 244 = .ok (.invokestatic 52, 3) := by decide +kernel
theorem dX2_sumUp_247 : decode cX2_sumUp 247 = .ok (.putfield 33, 3) := by decide +kernel
theorem dX2_sumUp_250 : decode cX2_sumUp 250 = .ok (.aload_n 0, 1) := by decide +kernel
theorem dX2_sumUp_251 : decode cX2_sumUp 251 = .ok (.aload_n 0, 1) := by decide +kernel
theorem dX2_sumUp_252 : decode cX2_sumUp 252 = .ok (.getfield 37, 3) := by decide +kernel
theorem dX2_sumUp_255 : decode cX2_sumUp 255 = .ok (.lload 11, 2) := by decide +kernel
theorem dX2_sumUp_257 : decode cX2_sumUp 257 = .ok (.invokestatic 58, 3) := by decide +kernel
theorem dX2_sumUp_260 : decode cX2_sumUp 260 = .ok (.putfield 37, 3) := by decide +kernel
theorem dX2_sumUp_263 : decode cX2_sumUp 263 = .ok (.iinc 13 1, 3) := by decide +kernel
theorem dX2_sumUp_266 : decode cX2_sumUp 266 = .ok (.goto (-218), 3) := by decide +kernel
theorem dX2_sumUp_269 : decode cX2_sumUp 269 = .ok (.iload 8, 2) := by decide +kernel
theorem dX2_sumUp_271 : decode cX2_sumUp 271 = .ok (.ireturn, 1) := by decide +kernel
theorem dX2_sumPart_0 : decode cX2_sumPart 0 = .ok (.aload_n 1, 1) := by decide +kernel
theorem dX2_sumPart_1 : decode cX2_sumPart 1 = .ok (.iload_n 2, 1) := by decide +kernel
theorem dX2_sumPart_2 : decode cX2_sumPart 2 = .ok (.iload 4, 2) := by decide +kernel
theorem dX2_sumPart_4 : decode cX2_sumPart 4 = .ok (.iload 5, 2) := by decide +kernel
theorem dX2_sumPart_6 : decode cX2_sumPart 6 = .ok (.iconst 1, 1) := by decide +kernel
theorem dX2_sumPart_7 : decode cX2_sumPart 7 = .ok (.invokevirtual 61, 3) := by decide +kernel
theorem dX2_sumPart_10 : decode cX2_sumPart 10 = .ok (.lstore 6, 2) := by decide +kernel
theorem dX2_sumPart_12 : decode cX2_sumPart 12 = .ok (.aload_n 1, 1) := by decide +kernel
theorem dX2_sumPart_13 : decode cX2_sumPart 13 = .ok (.getfield 67, 3) := by decide +kernel
theorem dX2_sumPart_16 : decode cX2_sumPart 16 = .ok (.lstore 8, 2) := by decide +kernel
theorem dX2_sumPart_18 : decode cX2_sumPart 18 = .ok (.lload 6, 2) := by decide +kernel
theorem dX2_sumPart_20 : decode cX2_sumPart 20 = .ok (.ldc2_w 72, 3) := by decide +kernel
theorem dX2_sumPart_23 : decode cX2_sumPart 23 = .ok (.lcmp, 1) := by decide +kernel
theorem dX2_sumPart_24 : decode cX2_sumPart 24 = .ok (.ifCond .ne 5, 3) := by decide +kernel
theorem dX2_sumPart_27 : decode cX2_sumPart 27 = .ok (.iconst 0, 1) := by decide +kernel
theorem dX2_sumPart_28 : decode cX2_sumPart 28 = .ok (.ireturn, 1) := by decide +kernel
theorem dX2_sumPart_29 : decode cX2_sumPart 29 = .ok (.iload 5, 2) := by decide +kernel
theorem dX2_sumPart_31 : decode cX2_sumPart 31 = .ok (.i2l, 1) := by decide +kernel
theorem dX2_sumPart_32 : decode cX2_sumPart 32 = .ok (.iload 4, 2) := by decide +kernel
theorem dX2_sumPart_34 : decode cX2_sumPart 34 = .ok (.i2l, 1) := by decide +kernel
theorem dX2_sumPart_35 : decode cX2_sumPart 35 = .ok (.lsub, 1) := by decide +kernel
theorem dX2_sumPart_36 : decode cX2_sumPart 36 = .ok (.lstore 10, 2) := by decide +kernel
theorem dX2_sumPart_38 : decode cX2_sumPart 38 = .ok (.lconst 0, 1) := by decide +kernel
theorem dX2_sumPart_39 : decode cX2_sumPart 39 = .ok (.lstore 12, 2) := by decide +kernel
theorem dX2_sumPart_41 : decode cX2_sumPart 41 = .ok (.lload 8, 2) := by decide +kernel
theorem dX2_sumPart_43 : decode cX2_sumPart 43 = .ok (.ldc2_w 72, 3) := by decide +kernel
theorem dX2_sumPart_46 : decode cX2_sumPart 46 = .ok (.lcmp, 1) := by decide +kernel
theorem dX2_sumPart_47 : decode cX2_sumPart 47 = .ok (.ifCond .eq 104, 3) := by decide +kernel
theorem dX2_sumPart_50 : decode cX2_sumPart 50 = .ok (.lload 8, 2) := by decide +kernel
theorem dX2_sumPart_52 : decode cX2_sumPart 52 = .ok (.invokestatic 74, 3) := by decide +kernel
theorem dX2_sumPart_55 : decode cX2_sumPart 55 = .ok (.lload 8, 2) := by decide +kernel
theorem dX2_sumPart_57 : decode cX2_sumPart 57 = .ok (.invokestatic 78, 3) := by decide +kernel
theorem dX2_sumPart_60 : decode cX2_sumPart 60 = .ok (.lsub, 1) := by decide +kernel
theorem dX2_sumPart_61 : decode cX2_sumPart 61 = .ok (.lload 10, 2) := by decide +kernel
theorem dX2_sumPart_63 : decode cX2_sumPart 63 = .ok (.lmul, 1) := by decide +kernel
theorem dX2_sumPart_64 : decode cX2_sumPart 64 = .ok (.bipush 20, 2) := by decide +kernel
theorem dX2_sumPart_66 : decode cX2_sumPart 66 = .ok (.lshr, 1) := by decide +kernel
theorem dX2_sumPart_67 : decode cX2_sumPart 67 = .ok (.lneg, 1) := by decide +kernel
theorem dX2_sumPart_68 : decode cX2_sumPart 68 = .ok (.lstore 14, 2) := by decide +kernel
theorem dX2_sumPart_70 : decode cX2_sumPart 70 = .ok (.iload 4, 2) := by decide +kernel
theorem dX2_sumPart_72 : decode cX2_sumPart 72 = .ok (.iload 5, 2) := by decide +kernel
theorem dX2_sumPart_74 : decode cX2_sumPart 74 = .ok (.invokestatic 48, 3) := by decide +kernel
theorem dX2_sumPart_77 : decode cX2_sumPart 77 = .ok (.istore 16, 2) := by decide +kernel
theorem dX2_sumPart_79 : decode cX2_sumPart 79 = .ok (.lload 10, 2) := by decide +kernel
theorem dX2_sumPart_81 : decode cX2_sumPart 81 = .ok (.lconst 1, 1) := by decide +kernel
theorem dX2_sumPart_82 : decode cX2_sumPart 82 = .ok (.land, 1) := by decide +kernel
theorem dX2_sumPart_83 : decode cX2_sumPart 83 = .ok (.lconst 0, 1) := by decide +kernel
theorem dX2_sumPart_84 : decode cX2_sumPart 84 = .ok (.lcmp, 1) := by decide +kernel
theorem dX2_sumPart_85 : decode cX2_sumPart 85 = .ok (.ifCond .ne 8, 3) := by decide +kernel
theorem dX2_sumPart_88 : decode cX2_sumPart 88 = .ok (.iload 16, 2) := by decide +kernel
theorem dX2_sumPart_90 : decode cX2_sumPart 90 = .ok (.goto 7, 3) := by decide +kernel
theorem dX2_sumPart_93 : decode cX2_sumPart 93 = .ok (.iload 16, 2) := by decide +kernel
theorem dX2_sumPart_95 : decode cX2_sumPart 95 = .ok (.iconst 1, 1) := by decide +kernel
theorem dX2_sumPart_96 : decode cX2_sumPart 96 = .ok (.iadd, 1) := by decide +kernel
theorem dX2_sumPart_97 : decode cX2_sumPart 97 = .ok (.istore 17, 2) := by decide +kernel
theorem dX2_sumPart_99 : decode cX2_sumPart 99 = .ok (.lload 14, 2) := by decide +kernel
theorem dX2_sumPart_101 : decode cX2_sumPart 101 = .ok (.ldc2_w 81, 3) := by decide +kernel
theorem dX2_sumPart_104 : decode cX2_sumPart 104 = .ok (.lcmp, 1) := by decide +kernel
theorem dX2_sumPart_105 : decode cX2_sumPart 105 = .ok (.ifCond .le 9, 3) := by decide +kernel
theorem dX2_sumPart_108 : decode cX2_sumPart 108 = .ok (.ldc2_w 72, 3) := by decide +kernel
theorem dX2_sumPart_111 : decode cX2_sumPart 111 = .ok (.goto 13, 3) := by decide +kernel
theorem dX2_sumPart_114 : decode cX2_sumPart 114 = .ok (.aload_n 1, 1) := by decide +kernel
theorem dX2_sumPart_115 : decode cX2_sumPart 115 = .ok (.iload_n 2, 1) := by decide +kernel
theorem dX2_sumPart_116 : decode cX2_sumPart 116 = .ok (.iload 16, 2) := by decide +kernel
theorem dX2_sumPart_118 : decode cX2_sumPart 118 = .ok (.iload 17, 2) := by decide +kernel
theorem dX2_sumPart_120 : decode cX2_sumPart 120 = .ok (.iconst 0, 1) := by decide +kernel
theorem dX2_sumPart_121 : decode cX2_sumPart 121 = .ok (.invokevirtual 61, 3) := by decide +kernel
theorem dX2_sumPart_124 : decode cX2_sumPart 124 = .ok (.lstore 18, 2) := by decide +kernel
theorem dX2_sumPart_126 : decode cX2_sumPart 126 = .ok (.lload 18, 2) := by decide +kernel
theorem dX2_sumPart_128 : decode cX2_sumPart 128 = .ok (.ldc2_w 72, 3) := by decide +kernel
theorem dX2_sumPart_131 : decode cX2_sumPart 131 = .ok (.lcmp, 1) := by decide +kernel
theorem dX2_sumPart_132 : decode cX2_sumPart 132 = .ok (.ifCond .eq 19, 3) := by decide +kernel
theorem dX2_sumPart_135 : decode cX2_sumPart 135 = .ok (.lload 18, 2) := by decide +kernel
theorem dX2_sumPart_137 : decode cX2_sumPart 137 = .ok (.lstore 6, 2) := by decide +kernel
theorem dX2_sumPart_139 : decode cX2_sumPart 139 = .ok (.lload 14, 2) := by decide +kernel
theorem dX2_sumPart_141 : decode cX2_sumPart 141 = .ok (.lneg, 1) := by decide +kernel
theorem dX2_sumPart_142 : decode cX2_sumPart 142 = .ok (.lload 10, 2) := by decide +kernel
theorem dX2_sumPart_144 : decode cX2_sumPart 144 = .ok (.lmul, 1) := by decide +kernel
theorem dX2_sumPart_145 : decode cX2_sumPart 145 = .ok (.bipush 23, 2) := by decide +kernel
theorem dX2_sumPart_147 : decode cX2_sumPart 147 = .ok (.lshr, 1) := by decide +kernel
theorem dX2_sumPart_148 : decode cX2_sumPart 148 = .ok (.lneg, 1) := by decide +kernel
theorem dX2_sumPart_149 : decode cX2_sumPart 149 = .ok (.lstore 12, 2) := by decide +kernel
theorem dX2_sumPart_151 : decode cX2_sumPart 151 = .ok (.lload 6, 2) := by decide +kernel
theorem dX2_sumPart_153 : decode cX2_sumPart 153 = .ok (.invokestatic 74, 3) := by decide +kernel
theorem dX2_sumPart_156 : decode cX2_sumPart 156 = .ok (.lload 10, 2) := by decide +kernel
theorem dX2_sumPart_158 : decode cX2_sumPart 158 = .ok (.lmul, 1) := by decide +kernel
theorem dX2_sumPart_159 : decode cX2_sumPart 159 = .ok (.bipush 20, 2) := by decide +kernel
theorem dX2_sumPart_161 : decode cX2_sumPart 161 = .ok (.lshr, 1) := by decide +kernel
theorem dX2_sumPart_162 : decode cX2_sumPart 162 = .ok (.lload 12, 2) := by decide +kernel
theorem dX2_sumPart_164 : decode cX2_sumPart 164 = .ok (.lsub, 1) := by decide +kernel
theorem dX2_sumPart_165 : decode cX2_sumPart 165 = .ok (.lstore 14, 2) := by decide +kernel
theorem dX2_sumPart_167 : decode cX2_sumPart 167 = .ok (.lload 12, 2) := by decide +kernel
theorem dX2_sumPart_169 : decode cX2_sumPart 169 = .ok (.lload 6, 2) := by decide +kernel
theorem dX2_sumPart_171 : decode cX2_sumPart 171 = .ok (.invokestatic 78, 3) := by decide +kernel
theorem dX2_sumPart_174 : decode cX2_sumPart 174 = .ok (.lneg, 1) := by decide +kernel
theorem dX2_sumPart_175 : decode cX2_sumPart 175 = .ok (.lload 10, 2) := by decide +kernel
theorem dX2_sumPart_177 : decode cX2_sumPart 177 = .ok (.lmul, 1) := by decide +kernel
theorem dX2_sumPart_178 : decode cX2_sumPart 178 = .ok (.bipush 20, 2) := by decide +kernel
theorem dX2_sumPart_180 : decode cX2_sumPart 180 = .ok (.lshr, 1) := by decide +kernel
theorem dX2_sumPart_181 : decode cX2_sumPart 181 = .ok (.lsub, 1) := by decide +kernel
theorem dX2_sumPart_182 : decode cX2_sumPart 182 = .ok (.lstore 16, 2) := by decide +kernel
theorem dX2_sumPart_184 : decode cX2_sumPart 184 = .ok (.aload_n 0, 1) := by decide +kernel
theorem dX2_sumPart_185 : decode cX2_sumPart 185 = .ok (.iload_n 3, 1) := by decide +kernel
theorem dX2_sumPart_186 : decode cX2_sumPart 186 = .ok (.iload 4, 2) := by decide +kernel
theorem dX2_sumPart_188 : decode cX2_sumPart 188 = .ok (.iload 5, 2) := by decide +kernel
theorem dX2_sumPart_190 : decode cX2_sumPart 190 = .ok (.lload 14, 2) := by decide +kernel
theorem dX2_sumPart_192 : decode cX2_sumPart 192 = .ok (.lload 16, 2) := by decide +kernel
theorem dX2_sumPart_194 : decode cX2_sumPart 194 = .ok (.invokevirtual 83, 3) := by decide +kernel
theorem dX2_sumPart_197 : decode cX2_sumPart 197 = .ok (.iconst 1, 1) := by decide +kernel
theorem dX2_sumPart_198 : decode cX2_sumPart 198 = .ok (.ireturn, 1) := by decide +kernel
theorem dX2_seekLeast_0 : decode cX2_seekLeast 0 = .ok (.aload_n 0, 1) := by decide +kernel
theorem dX2_seekLeast_1 : decode cX2_seekLeast 1 = .ok (.iconst 1, 1) := by decide +kernel
theorem dX2_seekLeast_2 : decode cX2_seekLeast 2 = .ok (.putfield 25, 3) := by decide +kernel
theorem dX2_seekLeast_5 : decode cX2_seekLeast 5 = .ok (.aload_n 0, 1) := by decide +kernel
theorem dX2_seekLeast_6 : decode cX2_seekLeast 6 = .ok (.aload_n 1, 1) := by decide +kernel
theorem dX2_seekLeast_7 : decode cX2_seekLeast 7 = .ok (.iload_n 2, 1) := by decide +kernel
theorem dX2_seekLeast_8 : decode cX2_seekLeast 8 = .ok (.iconst 0, 1) := by decide +kernel
theorem dX2_seekLeast_9 : decode cX2_seekLeast 9 = .ok (.iload_n 3, 1) := by decide +kernel
theorem dX2_seekLeast_10 : decode cX2_seekLeast 10 = .ok (.iload 4, 2) := by decide +kernel
theorem dX2_seekLeast_12 : decode cX2_seekLeast 12 = .ok (.iload 6, 2) := by decide +kernel
theorem dX2_seekLeast_14 : decode cX2_seekLeast 14 = .ok (.invokevirtual 87, 3) := by decide +kernel
theorem dX2_seekLeast_17 : decode cX2_seekLeast 17 = .ok (.istore 7, 2) := by decide +kernel
theorem dX2_seekLeast_19 : decode cX2_seekLeast 19 = .ok (.iconst 0, 1) := by decide +kernel
theorem dX2_seekLeast_20 : decode cX2_seekLeast 20 = .ok (.istore 8, 2) := by decide +kernel
theorem dX2_seekLeast_22 : decode cX2_seekLeast 22 = .ok (.iload 8, 2) := by decide +kernel
theorem dX2_seekLeast_24 : decode cX2_seekLeast 24 = .ok (.iload 5, 2) := by decide +kernel
theorem dX2_seekLeast_26 : decode cX2_seekLeast 26 = .ok (.if_icmp .ge 113, 3) := by decide +kernel
theorem dX2_seekLeast_29 : decode cX2_seekLeast 29 = .ok (.iload 7, 2) := by decide +kernel
theorem dX2_seekLeast_31 : decode cX2_seekLeast 31 = .ok (.ifCond .eq 108, 3) := by decide +kernel
theorem dX2_seekLeast_34 : decode cX2_seekLeast 34 = .ok (.aload_n 0, 1) := by decide +kernel
theorem dX2_seekLeast_35 : decode cX2_seekLeast 35 = .ok (.invokevirtual 91, 3) := by decide +kernel
theorem dX2_seekLeast_38 : decode cX2_seekLeast 38 = .ok (.istore 9, 2) := by decide +kernel
theorem dX2_seekLeast_40 : decode cX2_seekLeast 40 = .ok (.aload_n 0, 1) := by decide +kernel
theorem dX2_seekLeast_41 : decode cX2_seekLeast 41 = .ok (.iload 9, 2) := by decide +kernel
theorem dX2_seekLeast_43 : decode cX2_seekLeast 43 = .ok (.invokevirtual 44, 3) := by decide +kernel
theorem dX2_seekLeast_46 : decode cX2_seekLeast 46 = .ok (.ifCond .ne 6, 3) := by decide +kernel
theorem dX2_seekLeast_49 : decode cX2_seekLeast 49 = .ok (.goto 90, 3) := by decide +kernel
theorem dX2_seekLeast_52 : decode cX2_seekLeast 52 = .ok (.aload_n 0, 1) := by decide +kernel
theorem dX2_seekLeast_53 : decode cX2_seekLeast 53 = .ok (.getfield 15, 3) := by decide +kernel
theorem dX2_seekLeast_56 : decode cX2_seekLeast 56 = .ok (.iload 9, 2) := by decide +kernel
theorem dX2_seekLeast_58 : decode cX2_seekLeast 58 = .ok (.iaload, 1) := by decide +kernel
theorem dX2_seekLeast_59 : decode cX2_seekLeast 59 = .ok (.istore 10, 2) := by decide +kernel
theorem dX2_seekLeast_61 : decode cX2_seekLeast 61 = .ok (.aload_n 0, 1) := by decide +kernel
theorem dX2_seekLeast_62 : decode cX2_seekLeast 62 = .ok (.getfield 11, 3) := by decide +kernel
theorem dX2_seekLeast_65 : decode cX2_seekLeast 65 = .ok (.iload 9, 2) := by decide +kernel
theorem dX2_seekLeast_67 : decode cX2_seekLeast 67 = .ok (.iaload, 1) := by decide +kernel
theorem dX2_seekLeast_68 : decode cX2_seekLeast 68 = .ok (.iload 10, 2) := by decide +kernel
theorem dX2_seekLeast_70 : decode cX2_seekLeast 70 = .ok (.invokestatic 48, 3) := by decide +kernel
theorem dX2_seekLeast_73 : decode cX2_seekLeast 73 = .ok (.istore 11, 2) := by decide +kernel
theorem dX2_seekLeast_75 : decode cX2_seekLeast 75 = .ok (.aload_n 0, 1) := by decide +kernel
theorem dX2_seekLeast_76 : decode cX2_seekLeast 76 = .ok (.aload_n 1, 1) := by decide +kernel
theorem dX2_seekLeast_77 : decode cX2_seekLeast 77 = .ok (.iload_n 2, 1) := by decide +kernel
theorem dX2_seekLeast_78 : decode cX2_seekLeast 78 = .ok (.iload 9, 2) := by decide +kernel
theorem dX2_seekLeast_80 : decode cX2_seekLeast 80 = .ok (.aload_n 0, 1) := by decide +kernel
theorem dX2_seekLeast_81 : decode cX2_seekLeast 81 = .ok (.getfield 11, 3) := by decide +kernel
theorem dX2_seekLeast_84 : decode cX2_seekLeast 84 = .ok (.iload 9, 2) := by decide +kernel
theorem dX2_seekLeast_86 : decode cX2_seekLeast 86 = .ok (.iaload, 1) := by decide +kernel
theorem dX2_seekLeast_87 : decode cX2_seekLeast 87 = .ok (.iload 11, 2) := by decide +kernel
theorem dX2_seekLeast_89 : decode cX2_seekLeast 89 = .ok (.iload 6, 2) := by decide +kernel
theorem dX2_seekLeast_91 : decode cX2_seekLeast 91 = .ok (.invokevirtual 87, 3) := by decide +kernel
theorem dX2_seekLeast_94 : decode cX2_seekLeast 94 = .ok (.ifCond .eq 26, 3) := by decide +kernel
theorem dX2_seekLeast_97 : decode cX2_seekLeast 97 = .ok (.aload_n 0, 1) := by decide +kernel
theorem dX2_seekLeast_98 : decode cX2_seekLeast 98 = .ok (.aload_n 1, 1) := by decide +kernel
theorem dX2_seekLeast_99 : decode cX2_seekLeast 99 = .ok (.iload_n 2, 1) := by decide +kernel
theorem dX2_seekLeast_100 : decode cX2_seekLeast 100 = .ok (.aload_n 0, 1) := by decide +kernel
theorem dX2_seekLeast_101 : decode cX2_seekLeast 101 = .ok (.getfield 25, 3) := by decide +kernel
theorem dX2_seekLeast_104 : decode cX2_seekLeast 104 = .ok (.iload 11, 2) := by decide +kernel
theorem dX2_seekLeast_106 : decode cX2_seekLeast 106 = .ok (.iload 10, 2) := by decide +kernel
theorem dX2_seekLeast_108 : decode cX2_seekLeast 108 = .ok (.iload 6, 2) := by decide +kernel
theorem dX2_seekLeast_110 : decode cX2_seekLeast 110 = .ok (.invokevirtual 87, 3) := by decide +kernel
theorem dX2_seekLeast_113 : decode cX2_seekLeast 113 = .ok (.ifCond .eq 7, 3) := by decide +kernel
theorem dX2_seekLeast_116 : decode cX2_seekLeast 116 = .ok (.iconst 1, 1) := by decide +kernel
theorem dX2_seekLeast_117 : decode cX2_seekLeast 117 = .ok (.goto 4, 3) := by decide +kernel
theorem dX2_seekLeast_120 : decode cX2_seekLeast 120 = .ok (.iconst 0, 1) := by decide +kernel
theorem dX2_seekLeast_121 : decode cX2_seekLeast 121 = .ok (.istore 7, 2) := by decide +kernel
theorem dX2_seekLeast_123 : decode cX2_seekLeast 123 = .ok (.aload_n 0, 1) := by decide +kernel
theorem dX2_seekLeast_124 : decode cX2_seekLeast 124 = .ok (.dup, 1) := by decide +kernel
theorem dX2_seekLeast_125 : decode cX2_seekLeast 125 = .ok (.getfield 25, 3) := by decide +kernel
theorem dX2_seekLeast_128 : decode cX2_seekLeast 128 = .ok (.iconst 1, 1) := by decide +kernel
theorem dX2_seekLeast_129 : decode cX2_seekLeast 129 = .ok (.iadd, 1) := by decide +kernel
theorem dX2_seekLeast_130 : decode cX2_seekLeast 130 = .ok (.putfield 25, 3) := by decide +kernel
theorem dX2_seekLeast_133 : decode cX2_seekLeast 133 = .ok (.iinc 8 1, 3) := by decide +kernel
theorem dX2_seekLeast_136 : decode cX2_seekLeast 136 = .ok (.goto (-114), 3) := by decide +kernel
theorem dX2_seekLeast_139 : decode cX2_seekLeast 139 = .ok (.aload_n 0, 1) := by decide +kernel
theorem dX2_seekLeast_140 : decode cX2_seekLeast 140 = .ok (.aload_n 0, 1) := by decide +kernel
theorem dX2_seekLeast_141 : decode cX2_seekLeast 141 = .ok (.getfield 18, 3) := by decide +kernel
theorem dX2_seekLeast_144 : decode cX2_seekLeast 144 = .ok (.iconst 0, 1) := by decide +kernel
theorem dX2_seekLeast_145 : decode cX2_seekLeast 145 = .ok (.laload, 1) := by decide +kernel
theorem dX2_seekLeast_146 : decode cX2_seekLeast 146 = .ok (.putfield 33, 3) := by decide +kernel
theorem dX2_seekLeast_149 : decode cX2_seekLeast 149 = .ok (.aload_n 0, 1) := by decide +kernel
theorem dX2_seekLeast_150 : decode cX2_seekLeast 150 = .ok (.aload_n 0, 1) := by decide +kernel
theorem dX2_seekLeast_151 : decode cX2_seekLeast 151 = .ok (.getfield 22, 3) := by decide +kernel
theorem dX2_seekLeast_154 : decode cX2_seekLeast 154 = .ok (.iconst 0, 1) := by decide +kernel
theorem dX2_seekLeast_155 : decode cX2_seekLeast 155 = .ok (.laload, 1) := by decide +kernel
theorem dX2_seekLeast_156 : decode cX2_seekLeast 156 = .ok (.putfield 37, 3) := by decide +kernel
theorem dX2_seekLeast_159 : decode cX2_seekLeast 159 = .ok (.iconst 1, 1) := by decide +kernel
theorem dX2_seekLeast_160 : decode cX2_seekLeast 160 = .ok (.istore 8, 2) := by decide +kernel
theorem dX2_seekLeast_162 : decode cX2_seekLeast 162 = .ok (.iload 8, 2) := by decide +kernel
theorem dX2_seekLeast_164 : decode cX2_seekLeast 164 = .ok (.aload_n 0, 1) := by decide +kernel
theorem dX2_seekLeast_165 : decode cX2_seekLeast 165 = .ok (.getfield 25, 3) := by decide +kernel
theorem dX2_seekLeast_168 : decode cX2_seekLeast 168 = .ok (.if_icmp .ge 53, 3) := by decide +kernel
theorem dX2_seekLeast_171 : decode cX2_seekLeast 171 = .ok (.iload 8, 2) := by decide +kernel
theorem dX2_seekLeast_173 : decode cX2_seekLeast 173 = .ok (.sipush 201, 3) := by decide +kernel
theorem dX2_seekLeast_176 : decode cX2_seekLeast 176 = .ok (.if_icmp .ge 45, 3) := by decide +kernel
theorem dX2_seekLeast_179 : decode cX2_seekLeast 179 = .ok (.aload_n 0, 1) := by decide +kernel
theorem dX2_seekLeast_180 : decode cX2_seekLeast 180 = .ok (.aload_n 0, 1) := by decide +kernel
theorem dX2_seekLeast_181 : decode cX2_seekLeast 181 = .ok (.getfield 33, 3) := by decide +kernel
theorem dX2_seekLeast_184 : decode cX2_seekLeast 184 = .ok (.aload_n 0, 1) := by decide +kernel
theorem dX2_seekLeast_185 : decode cX2_seekLeast 185 = .ok (.getfield 18, 3) := by decide +kernel
theorem dX2_seekLeast_188 : decode cX2_seekLeast 188 = .ok (.iload 8, 2) := by decide +kernel
theorem dX2_seekLeast_190 : decode cX2_seekLeast 190 = .ok (.laload, 1) := by decide +kernel
theorem dX2_seekLeast_191 : decode cX2_seekLeast 191 = .ok (.invokestatic 58, 3) := by decide +kernel
theorem dX2_seekLeast_194 : decode cX2_seekLeast 194 = .ok (.putfield 33, 3) := by decide +kernel
theorem dX2_seekLeast_197 : decode cX2_seekLeast 197 = .ok (.aload_n 0, 1) := by decide +kernel
theorem dX2_seekLeast_198 : decode cX2_seekLeast 198 = .ok (.aload_n 0, 1) := by decide +kernel
theorem dX2_seekLeast_199 : decode cX2_seekLeast 199 = .ok (.getfield 37, 3) := by decide +kernel
theorem dX2_seekLeast_202 : decode cX2_seekLeast 202 = .ok (.aload_n 0, 1) := by decide +kernel
theorem dX2_seekLeast_203 : decode cX2_seekLeast 203 = .ok (.getfield 22, 3) := by decide +kernel
theorem dX2_seekLeast_206 : decode cX2_seekLeast 206 = .ok (.iload 8, 2) := by decide +kernel
theorem dX2_seekLeast_208 : decode cX2_seekLeast 208 = .ok (.laload, 1) := by decide +kernel
theorem dX2_seekLeast_209 : decode cX2_seekLeast 209 = .ok (.invokestatic 58, 3) := by decide +kernel
theorem dX2_seekLeast_212 : decode cX2_seekLeast 212 = .ok (.putfield 37, 3) := by decide +kernel
theorem dX2_seekLeast_215 : decode cX2_seekLeast 215 = .ok (.iinc 8 1, 3) := by decide +kernel
theorem dX2_seekLeast_218 : decode cX2_seekLeast 218 = .ok (.goto (-56), 3) := by decide +kernel
theorem dX2_seekLeast_221 : decode cX2_seekLeast 221 = .ok (.iload 7, 2) := by decide +kernel
theorem dX2_seekLeast_223 : decode cX2_seekLeast 223 = .ok (.ireturn, 1) := by decide +kernel
theorem dX2_sinkPart_0 : decode cX2_sinkPart 0 = .ok (.iload 4, 2) := by decide +kernel
theorem dX2_sinkPart_2 : decode cX2_sinkPart 2 = .ok (.iload 5, 2) := by decide +kernel
theorem dX2_sinkPart_4 : decode cX2_sinkPart 4 = .ok (.invokestatic 48, 3) := by decide +kernel
theorem dX2_sinkPart_7 : decode cX2_sinkPart 7 = .ok (.istore 7, 2) := by decide +kernel
theorem dX2_sinkPart_9 : decode cX2_sinkPart 9 = .ok (.aload_n 1, 1) := by decide +kernel
theorem dX2_sinkPart_10 : decode cX2_sinkPart 10 = .ok (.iload_n 2, 1) := by decide +kernel
theorem dX2_sinkPart_11 : decode cX2_sinkPart 11 = .ok (.iload 4, 2) := by decide +kernel
theorem dX2_sinkPart_13 : decode cX2_sinkPart 13 = .ok (.iload 5, 2) := by decide +kernel
theorem dX2_sinkPart_15 : decode cX2_sinkPart 15 = .ok (.iconst 0, 1) := by decide +kernel
theorem dX2_sinkPart_16 : decode cX2_sinkPart 16 = .ok (.invokevirtual 61, 3) := by decide +kernel
theorem dX2_sinkPart_19 : decode cX2_sinkPart 19 = .ok (.lstore 8, 2) := by decide +kernel
theorem dX2_sinkPart_21 : decode cX2_sinkPart 21 = .ok (.aload_n 1, 1) := by decide +kernel
theorem dX2_sinkPart_22 : decode cX2_sinkPart 22 = .ok (.iload_n 2, 1) := by decide +kernel
theorem dX2_sinkPart_23 : decode cX2_sinkPart 23 = .ok (.iload 7, 2) := by decide +kernel
theorem dX2_sinkPart_25 : decode cX2_sinkPart 25 = .ok (.iload 7, 2) := by decide +kernel
theorem dX2_sinkPart_27 : decode cX2_sinkPart 27 = .ok (.iconst 0, 1) := by decide +kernel
theorem dX2_sinkPart_28 : decode cX2_sinkPart 28 = .ok (.invokevirtual 61, 3) := by decide +kernel
theorem dX2_sinkPart_31 : decode cX2_sinkPart 31 = .ok (.lstore 10, 2) := by decide +kernel
theorem dX2_sinkPart_33 : decode cX2_sinkPart 33 = .ok (.iload 6, 2) := by decide +kernel
theorem dX2_sinkPart_35 : decode cX2_sinkPart 35 = .ok (.ifCond .eq 17, 3) := by decide +kernel
theorem dX2_sinkPart_38 : decode cX2_sinkPart 38 = .ok (.lload 8, 2) := by decide +kernel
theorem dX2_sinkPart_40 : decode cX2_sinkPart 40 = .ok (.invokestatic 94, 3) := by decide +kernel
theorem dX2_sinkPart_43 : decode cX2_sinkPart 43 = .ok (.lstore 8, 2) := by decide +kernel
theorem dX2_sinkPart_45 : decode cX2_sinkPart 45 = .ok (.lload 10, 2) := by decide +kernel
theorem dX2_sinkPart_47 : decode cX2_sinkPart 47 = .ok (.invokestatic 94, 3) := by decide +kernel
theorem dX2_sinkPart_50 : decode cX2_sinkPart 50 = .ok (.lstore 10, 2) := by decide +kernel
theorem dX2_sinkPart_52 : decode cX2_sinkPart 52 = .ok (.lload 8, 2) := by decide +kernel
theorem dX2_sinkPart_54 : decode cX2_sinkPart 54 = .ok (.lload 10, 2) := by decide +kernel
theorem dX2_sinkPart_56 : decode cX2_sinkPart 56 = .ok (.invokestatic 97, 3) := by decide +kernel
theorem dX2_sinkPart_59 : decode cX2_sinkPart 59 = .ok (.ifCond .eq 5, 3) := by decide +kernel
theorem dX2_sinkPart_62 : decode cX2_sinkPart 62 = .ok (.iconst 0, 1) := by decide +kernel
theorem dX2_sinkPart_63 : decode cX2_sinkPart 63 = .ok (.ireturn, 1) := by decide +kernel
theorem dX2_sinkPart_64 : decode cX2_sinkPart 64 = .ok (.aload_n 0, 1) := by decide +kernel
theorem dX2_sinkPart_65 : decode cX2_sinkPart 65 = .ok (.iload_n 3, 1) := by decide +kernel
theorem dX2_sinkPart_66 : decode cX2_sinkPart 66 = .ok (.iload 4, 2) := by decide +kernel
theorem dX2_sinkPart_68 : decode cX2_sinkPart 68 = .ok (.iload 5, 2) := by decide +kernel
theorem dX2_sinkPart_70 : decode cX2_sinkPart 70 = .ok (.lload 8, 2) := by decide +kernel
theorem dX2_sinkPart_72 : decode cX2_sinkPart 72 = .ok (.invokestatic 74, 3) := by decide +kernel
theorem dX2_sinkPart_75 : decode cX2_sinkPart 75 = .ok (.lload 10, 2) := by decide +kernel
theorem dX2_sinkPart_77 : decode cX2_sinkPart 77 = .ok (.invokestatic 78, 3) := by decide +kernel
theorem dX2_sinkPart_80 : decode cX2_sinkPart 80 = .ok (.invokevirtual 83, 3) := by decide +kernel
theorem dX2_sinkPart_83 : decode cX2_sinkPart 83 = .ok (.iconst 1, 1) := by decide +kernel
theorem dX2_sinkPart_84 : decode cX2_sinkPart 84 = .ok (.ireturn, 1) := by decide +kernel
theorem dX2_keep_0 : decode cX2_keep 0 = .ok (.iload_n 1, 1) := by decide +kernel
theorem dX2_keep_1 : decode cX2_keep 1 = .ok (.ifCond .lt 40, 3) := by decide +kernel
theorem dX2_keep_4 : decode cX2_keep 4 = .ok (.iload_n 1, 1) := by decide +kernel
theorem dX2_keep_5 : decode cX2_keep 5 = .ok (.sipush 201, 3) := by decide +kernel
theorem dX2_keep_8 : decode cX2_keep 8 = .ok (.if_icmp .ge 33, 3) := by decide +kernel
theorem dX2_keep_11 : decode cX2_keep 11 = .ok (.aload_n 0, 1) := by decide +kernel
theorem dX2_keep_12 : decode cX2_keep 12 = .ok (.getfield 11, 3) := by decide +kernel
theorem dX2_keep_15 : decode cX2_keep 15 = .ok (.iload_n 1, 1) := by decide +kernel
theorem dX2_keep_16 : decode cX2_keep 16 = .ok (.iload_n 2, 1) := by decide +kernel
theorem dX2_keep_17 : decode cX2_keep 17 = .ok (.iastore, 1) := by decide +kernel
theorem dX2_keep_18 : decode cX2_keep 18 = .ok (.aload_n 0, 1) := by decide +kernel
theorem dX2_keep_19 : decode cX2_keep 19 = .ok (.getfield 15, 3) := by decide +kernel
theorem dX2_keep_22 : decode cX2_keep 22 = .ok (.iload_n 1, 1) := by decide +kernel
theorem dX2_keep_23 : decode cX2_keep 23 = .ok (.iload_n 3, 1) := by decide +kernel
theorem dX2_keep_24 : decode cX2_keep 24 = .ok (.iastore, 1) := by decide +kernel
theorem dX2_keep_25 : decode cX2_keep 25 = .ok (.aload_n 0, 1) := by decide +kernel
theorem dX2_keep_26 : decode cX2_keep 26 = .ok (.getfield 18, 3) := by decide +kernel
theorem dX2_keep_29 : decode cX2_keep 29 = .ok (.iload_n 1, 1) := by decide +kernel
theorem dX2_keep_30 : decode cX2_keep 30 = .ok (.lload 4, 2) := by decide +kernel
theorem dX2_keep_32 : decode cX2_keep 32 = .ok (.lastore, 1) := by decide +kernel
theorem dX2_keep_33 : decode cX2_keep 33 = .ok (.aload_n 0, 1) := by decide +kernel
theorem dX2_keep_34 : decode cX2_keep 34 = .ok (.getfield 22, 3) := by decide +kernel
theorem dX2_keep_37 : decode cX2_keep 37 = .ok (.iload_n 1, 1) := by decide +kernel
theorem dX2_keep_38 : decode cX2_keep 38 = .ok (.lload 6, 2) := by decide +kernel
theorem dX2_keep_40 : decode cX2_keep 40 = .ok (.lastore, 1) := by decide +kernel
theorem dX2_keep_41 : decode cX2_keep 41 = .ok (.return_, 1) := by decide +kernel
theorem dX2_canHalve_0 : decode cX2_canHalve 0 = .ok (.iload_n 1, 1) := by decide +kernel
theorem dX2_canHalve_1 : decode cX2_canHalve 1 = .ok (.ifCond .lt 53, 3) := by decide +kernel
theorem dX2_canHalve_4 : decode cX2_canHalve 4 = .ok (.iload_n 1, 1) := by decide +kernel
theorem dX2_canHalve_5 : decode cX2_canHalve 5 = .ok (.sipush 201, 3) := by decide +kernel
theorem dX2_canHalve_8 : decode cX2_canHalve 8 = .ok (.if_icmp .ge 46, 3) := by decide +kernel
theorem dX2_canHalve_11 : decode cX2_canHalve 11 = .ok (.aload_n 0, 1) := by decide +kernel
theorem dX2_canHalve_12 : decode cX2_canHalve 12 = .ok (.getfield 25, 3) := by decide +kernel
theorem dX2_canHalve_15 : decode cX2_canHalve 15 = .ok (.ifCond .lt 39, 3) := by decide +kernel
theorem dX2_canHalve_18 : decode cX2_canHalve 18 = .ok (.aload_n 0, 1) := by decide +kernel
theorem dX2_canHalve_19 : decode cX2_canHalve 19 = .ok (.getfield 25, 3) := by decide +kernel
theorem dX2_canHalve_22 : decode cX2_canHalve 22 = .ok (.sipush 201, 3) := by decide +kernel
theorem dX2_canHalve_25 : decode cX2_canHalve 25 = .ok (.if_icmp .ge 29, 3) := by decide +kernel
theorem dX2_canHalve_28 : decode cX2_canHalve 28 = .ok (.aload_n 0, 1) := by decide +kernel
theorem dX2_canHalve_29 : decode cX2_canHalve 29 = .ok (.getfield 15, 3) := by decide +kernel
theorem dX2_canHalve_32 : decode cX2_canHalve 32 = .ok (.iload_n 1, 1) := by decide +kernel
theorem dX2_canHalve_33 : decode cX2_canHalve 33 = .ok (.iaload, 1) := by decide +kernel
theorem dX2_canHalve_34 : decode cX2_canHalve 34 = .ok (.i2l, 1) := by decide +kernel
theorem dX2_canHalve_35 : decode cX2_canHalve 35 = .ok (.aload_n 0, 1) := by decide +kernel
theorem dX2_canHalve_36 : decode cX2_canHalve 36 = .ok (.getfield 11, 3) := by decide +kernel
theorem dX2_canHalve_39 : decode cX2_canHalve 39 = .ok (.iload_n 1, 1) := by decide +kernel
theorem dX2_canHalve_40 : decode cX2_canHalve 40 = .ok (.iaload, 1) := by decide +kernel
theorem dX2_canHalve_41 : decode cX2_canHalve 41 = .ok (.i2l, 1) := by decide +kernel
theorem dX2_canHalve_42 : decode cX2_canHalve 42 = .ok (.lsub, 1) := by decide +kernel
theorem dX2_canHalve_43 : decode cX2_canHalve 43 = .ok (.ldc2_w 101, 3) := by decide +kernel
theorem dX2_canHalve_46 : decode cX2_canHalve 46 = .ok (.lcmp, 1) := by decide +kernel
theorem dX2_canHalve_47 : decode cX2_canHalve 47 = .ok (.ifCond .lt 7, 3) := by decide +kernel
theorem dX2_canHalve_50 : decode cX2_canHalve 50 = .ok (.iconst 1, 1) := by decide +kernel
theorem dX2_canHalve_51 : decode cX2_canHalve 51 = .ok (.goto 4, 3) := by decide +kernel
theorem dX2_canHalve_54 : decode cX2_canHalve 54 = .ok (.iconst 0, 1) := by decide +kernel
theorem dX2_canHalve_55 : decode cX2_canHalve 55 = .ok (.ireturn, 1) := by decide +kernel
theorem dX2_widest_0 : decode cX2_widest 0 = .ok (.iconst 0, 1) := by decide +kernel
theorem dX2_widest_1 : decode cX2_widest 1 = .ok (.istore_n 1, 1) := by decide +kernel
theorem dX2_widest_2 : decode cX2_widest 2 = .ok (.iconst 1, 1) := by decide +kernel
theorem dX2_widest_3 : decode cX2_widest 3 = .ok (.istore_n 2, 1) := by decide +kernel
theorem dX2_widest_4 : decode cX2_widest 4 = .ok (.iload_n 2, 1) := by decide +kernel
theorem dX2_widest_5 : decode cX2_widest 5 = .ok (.aload_n 0, 1) := by decide +kernel
theorem dX2_widest_6 : decode cX2_widest 6 = .ok (.getfield 25, 3) := by decide +kernel
theorem dX2_widest_9 : decode cX2_widest 9 = .ok (.if_icmp .ge 73, 3) := by decide +kernel
theorem dX2_widest_12 : decode cX2_widest 12 = .ok (.iload_n 2, 1) := by decide +kernel
theorem dX2_widest_13 : decode cX2_widest 13 = .ok (.sipush 201, 3) := by decide +kernel
theorem dX2_widest_16 : decode cX2_widest 16 = .ok (.if_icmp .ge 66, 3) := by decide +kernel
theorem dX2_widest_19 : decode cX2_widest 19 = .ok (.aload_n 0, 1) := by decide +kernel
theorem dX2_widest_20 : decode cX2_widest 20 = .ok (.getfield 22, 3) := by decide +kernel
theorem dX2_widest_23 : decode cX2_widest 23 = .ok (.iload_n 2, 1) := by decide +kernel
theorem dX2_widest_24 : decode cX2_widest 24 = .ok (.laload, 1) := by decide +kernel
theorem dX2_widest_25 : decode cX2_widest 25 = .ok (.aload_n 0, 1) := by decide +kernel
theorem dX2_widest_26 : decode cX2_widest 26 = .ok (.getfield 18, 3) := by decide +kernel
theorem dX2_widest_29 : decode cX2_widest 29 = .ok (.iload_n 2, 1) := by decide +kernel
theorem dX2_widest_30 : decode cX2_widest 30 = .ok (.laload, 1) := by decide +kernel
theorem dX2_widest_31 : decode cX2_widest 31 = .ok (.lsub, 1) := by decide +kernel
theorem dX2_widest_32 : decode cX2_widest 32 = .ok (.aload_n 0, 1) := by decide +kernel
theorem dX2_widest_33 : decode cX2_widest 33 = .ok (.getfield 22, 3) := by decide +kernel
theorem dX2_widest_36 : decode cX2_widest 36 = .ok (.iload_n 1, 1) := by decide +kernel
theorem dX2_widest_37 : decode cX2_widest 37 = .ok (.laload, 1) := by decide +kernel
theorem dX2_widest_38 : decode cX2_widest 38 = .ok (.aload_n 0, 1) := by decide +kernel
theorem dX2_widest_39 : decode cX2_widest 39 = .ok (.getfield 18, 3) := by decide +kernel
theorem dX2_widest_42 : decode cX2_widest 42 = .ok (.iload_n 1, 1) := by decide +kernel
theorem dX2_widest_43 : decode cX2_widest 43 = .ok (.laload, 1) := by decide +kernel
theorem dX2_widest_44 : decode cX2_widest 44 = .ok (.lsub, 1) := by decide +kernel
theorem dX2_widest_45 : decode cX2_widest 45 = .ok (.lsub, 1) := by decide +kernel
theorem dX2_widest_46 : decode cX2_widest 46 = .ok (.lstore_n 3, 1) := by decide +kernel
theorem dX2_widest_47 : decode cX2_widest 47 = .ok (.lload_n 3, 1) := by decide +kernel
theorem dX2_widest_48 : decode cX2_widest 48 = .ok (.lconst 0, 1) := by decide +kernel
theorem dX2_widest_49 : decode cX2_widest 49 = .ok (.lcmp, 1) := by decide +kernel
theorem dX2_widest_50 : decode cX2_widest 50 = .ok (.ifCond .gt 24, 3) := by decide +kernel
theorem dX2_widest_53 : decode cX2_widest 53 = .ok (.lload_n 3, 1) := by decide +kernel
theorem dX2_widest_54 : decode cX2_widest 54 = .ok (.lconst 0, 1) := by decide +kernel
theorem dX2_widest_55 : decode cX2_widest 55 = .ok (.lcmp, 1) := by decide +kernel
theorem dX2_widest_56 : decode cX2_widest 56 = .ok (.ifCond .ne 20, 3) := by decide +kernel
theorem dX2_widest_59 : decode cX2_widest 59 = .ok (.aload_n 0, 1) := by decide +kernel
theorem dX2_widest_60 : decode cX2_widest 60 = .ok (.getfield 11, 3) := by decide +kernel
theorem dX2_widest_63 : decode cX2_widest 63 = .ok (.iload_n 2, 1) := by decide +kernel
theorem dX2_widest_64 : decode cX2_widest 64 = .ok (.iaload, 1) := by decide +kernel
theorem dX2_widest_65 : decode cX2_widest 65 = .ok (.aload_n 0, 1) := by decide +kernel
theorem dX2_widest_66 : decode cX2_widest 66 = .ok (.getfield 11, 3) := by decide +kernel
theorem dX2_widest_69 : decode cX2_widest 69 = .ok (.iload_n 1, 1) := by decide +kernel
theorem dX2_widest_70 : decode cX2_widest 70 = .ok (.iaload, 1) := by decide +kernel
theorem dX2_widest_71 : decode cX2_widest 71 = .ok (.if_icmp .ge 5, 3) := by decide +kernel
theorem dX2_widest_74 : decode cX2_widest 74 = .ok (.iload_n 2, 1) := by decide +kernel
theorem dX2_widest_75 : decode cX2_widest 75 = .ok (.istore_n 1, 1) := by decide +kernel
theorem dX2_widest_76 : decode cX2_widest 76 = .ok (.iinc 2 1, 3) := by decide +kernel
theorem dX2_widest_79 : decode cX2_widest 79 = .ok (.goto (-75), 3) := by decide +kernel
theorem dX2_widest_82 : decode cX2_widest 82 = .ok (.iload_n 1, 1) := by decide +kernel
theorem dX2_widest_83 : decode cX2_widest 83 = .ok (.ireturn, 1) := by decide +kernel
theorem dX2_deepest_0 : decode cX2_deepest 0 = .ok (.iconst 0, 1) := by decide +kernel
theorem dX2_deepest_1 : decode cX2_deepest 1 = .ok (.istore_n 1, 1) := by decide +kernel
theorem dX2_deepest_2 : decode cX2_deepest 2 = .ok (.iconst 1, 1) := by decide +kernel
theorem dX2_deepest_3 : decode cX2_deepest 3 = .ok (.istore_n 2, 1) := by decide +kernel
theorem dX2_deepest_4 : decode cX2_deepest 4 = .ok (.iload_n 2, 1) := by decide +kernel
theorem dX2_deepest_5 : decode cX2_deepest 5 = .ok (.aload_n 0, 1) := by decide +kernel
theorem dX2_deepest_6 : decode cX2_deepest 6 = .ok (.getfield 25, 3) := by decide +kernel
theorem dX2_deepest_9 : decode cX2_deepest 9 = .ok (.if_icmp .ge 65, 3) := by decide +kernel
theorem dX2_deepest_12 : decode cX2_deepest 12 = .ok (.iload_n 2, 1) := by decide +kernel
theorem dX2_deepest_13 : decode cX2_deepest 13 = .ok (.sipush 201, 3) := by decide +kernel
theorem dX2_deepest_16 : decode cX2_deepest 16 = .ok (.if_icmp .ge 58, 3) := by decide +kernel
theorem dX2_deepest_19 : decode cX2_deepest 19 = .ok (.aload_n 0, 1) := by decide +kernel
theorem dX2_deepest_20 : decode cX2_deepest 20 = .ok (.getfield 18, 3) := by decide +kernel
theorem dX2_deepest_23 : decode cX2_deepest 23 = .ok (.iload_n 2, 1) := by decide +kernel
theorem dX2_deepest_24 : decode cX2_deepest 24 = .ok (.laload, 1) := by decide +kernel
theorem dX2_deepest_25 : decode cX2_deepest 25 = .ok (.aload_n 0, 1) := by decide +kernel
theorem dX2_deepest_26 : decode cX2_deepest 26 = .ok (.getfield 18, 3) := by decide +kernel
theorem dX2_deepest_29 : decode cX2_deepest 29 = .ok (.iload_n 1, 1) := by decide +kernel
theorem dX2_deepest_30 : decode cX2_deepest 30 = .ok (.laload, 1) := by decide +kernel
theorem dX2_deepest_31 : decode cX2_deepest 31 = .ok (.lcmp, 1) := by decide +kernel
theorem dX2_deepest_32 : decode cX2_deepest 32 = .ok (.ifCond .lt 34, 3) := by decide +kernel
theorem dX2_deepest_35 : decode cX2_deepest 35 = .ok (.aload_n 0, 1) := by decide +kernel
theorem dX2_deepest_36 : decode cX2_deepest 36 = .ok (.getfield 18, 3) := by decide +kernel
theorem dX2_deepest_39 : decode cX2_deepest 39 = .ok (.iload_n 2, 1) := by decide +kernel
theorem dX2_deepest_40 : decode cX2_deepest 40 = .ok (.laload, 1) := by decide +kernel
theorem dX2_deepest_41 : decode cX2_deepest 41 = .ok (.aload_n 0, 1) := by decide +kernel
theorem dX2_deepest_42 : decode cX2_deepest 42 = .ok (.getfield 18, 3) := by decide +kernel
theorem dX2_deepest_45 : decode cX2_deepest 45 = .ok (.iload_n 1, 1) := by decide +kernel
theorem dX2_deepest_46 : decode cX2_deepest 46 = .ok (.laload, 1) := by decide +kernel
theorem dX2_deepest_47 : decode cX2_deepest 47 = .ok (.lcmp, 1) := by decide +kernel
theorem dX2_deepest_48 : decode cX2_deepest 48 = .ok (.ifCond .ne 20, 3) := by decide +kernel
theorem dX2_deepest_51 : decode cX2_deepest 51 = .ok (.aload_n 0, 1) := by decide +kernel
theorem dX2_deepest_52 : decode cX2_deepest 52 = .ok (.getfield 11, 3) := by decide +kernel
theorem dX2_deepest_55 : decode cX2_deepest 55 = .ok (.iload_n 2, 1) := by decide +kernel
theorem dX2_deepest_56 : decode cX2_deepest 56 = .ok (.iaload, 1) := by decide +kernel
theorem dX2_deepest_57 : decode cX2_deepest 57 = .ok (.aload_n 0, 1) := by decide +kernel
theorem dX2_deepest_58 : decode cX2_deepest 58 = .ok (.getfield 11, 3) := by decide +kernel
theorem dX2_deepest_61 : decode cX2_deepest 61 = .ok (.iload_n 1, 1) := by decide +kernel
theorem dX2_deepest_62 : decode cX2_deepest 62 = .ok (.iaload, 1) := by decide +kernel
theorem dX2_deepest_63 : decode cX2_deepest 63 = .ok (.if_icmp .ge 5, 3) := by decide +kernel
theorem dX2_deepest_66 : decode cX2_deepest 66 = .ok (.iload_n 2, 1) := by decide +kernel
theorem dX2_deepest_67 : decode cX2_deepest 67 = .ok (.istore_n 1, 1) := by decide +kernel
theorem dX2_deepest_68 : decode cX2_deepest 68 = .ok (.iinc 2 1, 3) := by decide +kernel
theorem dX2_deepest_71 : decode cX2_deepest 71 = .ok (.goto (-67), 3) := by decide +kernel
theorem dX2_deepest_74 : decode cX2_deepest 74 = .ok (.iload_n 1, 1) := by decide +kernel
theorem dX2_deepest_75 : decode cX2_deepest 75 = .ok (.ireturn, 1) := by decide +kernel
