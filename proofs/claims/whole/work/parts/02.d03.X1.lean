theorem dX1_init_0 : decode cX1_init 0 = .ok (.aload_n 0, 1) := by decide +kernel
theorem dX1_init_1 : decode cX1_init 1 = .ok (.invokespecial 3, 3) := by decide +kernel
theorem dX1_init_4 : decode cX1_init 4 = .ok (.aload_n 0, 1) := by decide +kernel
theorem dX1_init_5 : decode cX1_init 5 = .ok (.bipush 8, 2) := by decide +kernel
theorem dX1_init_7 : decode cX1_init 7 = .ok (.anewarray 9, 3) := by decide +kernel
theorem dX1_init_10 : decode cX1_init 10 = .ok (.putfield 11, 3) := by decide +kernel
theorem dX1_init_13 : decode cX1_init 13 = .ok (.aload_n 0, 1) := by decide +kernel
theorem dX1_init_14 : decode cX1_init 14 = .ok (.new 9, 3) := by decide +kernel
theorem dX1_init_17 : decode cX1_init 17 = .ok (.dup, 1) := by decide +kernel
theorem dX1_init_18 : decode cX1_init 18 = .ok (.invokespecial 17, 3) := by decide +kernel
theorem dX1_init_21 : decode cX1_init 21 = .ok (.putfield 18, 3) := by decide +kernel
theorem dX1_init_24 : decode cX1_init 24 = .ok (.aload_n 0, 1) := by decide +kernel
theorem dX1_init_25 : decode cX1_init 25 = .ok (.bipush 60, 2) := by decide +kernel
theorem dX1_init_27 : decode cX1_init 27 = .ok (.newarray .int, 2) := by decide +kernel
theorem dX1_init_29 : decode cX1_init 29 = .ok (.putfield 22, 3) := by decide +kernel
theorem dX1_init_32 : decode cX1_init 32 = .ok (.aload_n 0, 1) := by decide +kernel
theorem dX1_init_33 : decode cX1_init 33 = .ok (.bipush 60, 2) := by decide +kernel
theorem dX1_init_35 : decode cX1_init 35 = .ok (.newarray .long, 2) := by decide +kernel
theorem dX1_init_37 : decode cX1_init 37 = .ok (.putfield 26, 3) := by decide +kernel
theorem dX1_init_40 : decode cX1_init 40 = .ok (.aload_n 0, 1) := by decide +kernel
theorem dX1_init_41 : decode cX1_init 41 = .ok (.bipush 60, 2) := by decide +kernel
theorem dX1_init_43 : decode cX1_init 43 = .ok (.newarray .long, 2) := by decide +kernel
theorem dX1_init_45 : decode cX1_init 45 = .ok (.putfield 30, 3) := by decide +kernel
theorem dX1_init_48 : decode cX1_init 48 = .ok (.aload_n 0, 1) := by decide +kernel
theorem dX1_init_49 : decode cX1_init 49 = .ok (.bipush 8, 2) := by decide +kernel
theorem dX1_init_51 : decode cX1_init 51 = .ok (.newarray .long, 2) := by decide +kernel
theorem dX1_init_53 : decode cX1_init 53 = .ok (.putfield 33, 3) := by decide +kernel
theorem dX1_init_56 : decode cX1_init 56 = .ok (.aload_n 0, 1) := by decide +kernel
theorem dX1_init_57 : decode cX1_init 57 = .ok (.bipush 8, 2) := by decide +kernel
theorem dX1_init_59 : decode cX1_init 59 = .ok (.newarray .long, 2) := by decide +kernel
theorem dX1_init_61 : decode cX1_init 61 = .ok (.putfield 36, 3) := by decide +kernel
theorem dX1_init_64 : decode cX1_init 64 = .ok (.aload_n 0, 1) := by decide +kernel
theorem dX1_init_65 : decode cX1_init 65 = .ok (.ldc2_w 41, 3) := by decide +kernel
theorem dX1_init_68 : decode cX1_init 68 = .ok (.putfield 43, 3) := by decide +kernel
theorem dX1_init_71 : decode cX1_init 71 = .ok (.iconst 0, 1) := by decide +kernel
theorem dX1_init_72 : decode cX1_init 72 = .ok (.istore_n 1, 1) := by decide +kernel
theorem dX1_init_73 : decode cX1_init 73 = .ok (.iload_n 1, 1) := by decide +kernel
theorem dX1_init_74 : decode cX1_init 74 = .ok (.bipush 8, 2) := by decide +kernel
theorem dX1_init_76 : decode cX1_init 76 = .ok (.if_icmp .ge 22, 3) := by decide +kernel
theorem dX1_init_79 : decode cX1_init 79 = .ok (.aload_n 0, 1) := by decide +kernel
theorem dX1_init_80 : decode cX1_init 80 = .ok (.getfield 11, 3) := by decide +kernel
theorem dX1_init_83 : decode cX1_init 83 = .ok (.iload_n 1, 1) := by decide +kernel
theorem dX1_init_84 : decode cX1_init 84 = .ok (.new 9, 3) := by decide +kernel
theorem dX1_init_87 : decode cX1_init 87 = .ok (.dup, 1) := by decide +kernel
theorem dX1_init_88 : decode cX1_init 88 = .ok (.invokespecial 17, 3) := by decide +kernel
theorem dX1_init_91 : decode cX1_init 91 = .ok (.aastore, 1) := by decide +kernel
theorem dX1_init_92 : decode cX1_init 92 = .ok (.iinc 1 1, 3) := by decide +kernel
theorem dX1_init_95 : decode cX1_init 95 = .ok (.goto (-22), 3) := by decide +kernel
theorem dX1_init_98 : decode cX1_init 98 = .ok (.return_, 1) := by decide +kernel
theorem dX1_has_0 : decode cX1_has 0 = .ok (.iload_n 1, 1) := by decide +kernel
theorem dX1_has_1 : decode cX1_has 1 = .ok (.ifCond .lt 15, 3) := by decide +kernel
theorem dX1_has_4 : decode cX1_has 4 = .ok (.iload_n 1, 1) := by decide +kernel
theorem dX1_has_5 : decode cX1_has 5 = .ok (.aload_n 0, 1) := by decide +kernel
theorem dX1_has_6 : decode cX1_has 6 = .ok (.getfield 47, 3) := by decide +kernel
theorem dX1_has_9 : decode cX1_has 9 = .ok (.if_icmp .ge 7, 3) := by decide +kernel
theorem dX1_has_12 : decode cX1_has 12 = .ok (.iconst 1, 1) := by decide +kernel
theorem dX1_has_13 : decode cX1_has 13 = .ok (.goto 4, 3) := by decide +kernel
theorem dX1_has_16 : decode cX1_has 16 = .ok (.iconst 0, 1) := by decide +kernel
theorem dX1_has_17 : decode cX1_has 17 = .ok (.ireturn, 1) := by decide +kernel
theorem dX1_curveAt_0 : decode cX1_curveAt 0 = .ok (.iload_n 1, 1) := by decide +kernel
theorem dX1_curveAt_1 : decode cX1_curveAt 1 = .ok (.ifCond .lt 18, 3) := by decide +kernel
theorem dX1_curveAt_4 : decode cX1_curveAt 4 = .ok (.iload_n 1, 1) := by decide +kernel
theorem dX1_curveAt_5 : decode cX1_curveAt 5 = .ok (.bipush 8, 2) := by decide +kernel
theorem dX1_curveAt_7 : decode cX1_curveAt 7 = .ok (.if_icmp .ge 12, 3) := by decide +kernel
theorem dX1_curveAt_10 : decode cX1_curveAt 10 = .ok (.aload_n 0, 1) := by decide +kernel
theorem dX1_curveAt_11 : decode cX1_curveAt 11 = .ok (.getfield 11, 3) := by decide +kernel
theorem dX1_curveAt_14 : decode cX1_curveAt 14 = .ok (.iload_n 1, 1) := by decide +kernel
theorem dX1_curveAt_15 : decode cX1_curveAt 15 = .ok (.aaload, 1) := by decide +kernel
theorem dX1_curveAt_16 : decode cX1_curveAt 16 = .ok (.goto 7, 3) := by decide +kernel
theorem dX1_curveAt_19 : decode cX1_curveAt 19 = .ok (.aload_n 0, 1) := by decide +kernel
theorem dX1_curveAt_20 : decode cX1_curveAt 20 = .ok (.getfield 18, 3) := by decide +kernel
theorem dX1_curveAt_23 : decode cX1_curveAt 23 = .ok (.astore_n 2, 1) := by decide +kernel
theorem dX1_curveAt_24 : decode cX1_curveAt 24 = .ok (.aload_n 2, 1) := by decide +kernel
theorem dX1_curveAt_25 : decode cX1_curveAt 25 = .ok (.ifnonnull 10, 3) := by decide +kernel
theorem dX1_curveAt_28 : decode cX1_curveAt 28 = .ok (.aload_n 0, 1) := by decide +kernel
theorem dX1_curveAt_29 : decode cX1_curveAt 29 = .ok (.getfield 18, 3) := by decide +kernel
theorem dX1_curveAt_32 : decode cX1_curveAt 32 = .ok (.goto 4, 3) := by decide +kernel
theorem dX1_curveAt_35 : decode cX1_curveAt 35 = .ok (.aload_n 2, 1) := by decide +kernel
theorem dX1_curveAt_36 : decode cX1_curveAt 36 = .ok (.areturn, 1) := by decide +kernel
theorem dX1_keep_0 : decode cX1_keep 0 = .ok (.aload_n 0, 1) := by decide +kernel
theorem dX1_keep_1 : decode cX1_keep 1 = .ok (.aload_n 0, 1) := by decide +kernel
theorem dX1_keep_2 : decode cX1_keep 2 = .ok (.getfield 47, 3) := by decide +kernel
theorem dX1_keep_5 : decode cX1_keep 5 = .ok (.invokevirtual 51, 3) := by decide +kernel
theorem dX1_keep_8 : decode cX1_keep 8 = .ok (.astore_n 2, 1) := by decide +kernel
theorem dX1_keep_9 : decode cX1_keep 9 = .ok (.aload_n 2, 1) := by decide +kernel
theorem dX1_keep_10 : decode cX1_keep 10 = .ok (.aload_n 1, 1) := by decide +kernel
theorem dX1_keep_11 : decode cX1_keep 11 = .ok (.invokevirtual 55, 3) := by decide +kernel
theorem dX1_keep_14 : decode cX1_keep 14 = .ok (.aload_n 2, 1) := by decide +kernel
theorem dX1_keep_15 : decode cX1_keep 15 = .ok (.iconst 1, 1) := by decide +kernel
theorem dX1_keep_16 : decode cX1_keep 16 = .ok (.putfield 59, 3) := by decide +kernel
theorem dX1_keep_19 : decode cX1_keep 19 = .ok (.aload_n 2, 1) := by decide +kernel
theorem dX1_keep_20 : decode cX1_keep 20 = .ok (.iconst 0, 1) := by decide +kernel
theorem dX1_keep_21 : decode cX1_keep 21 = .ok (.putfield 63, 3) := by decide +kernel
theorem dX1_keep_24 : decode cX1_keep 24 = .ok (.iconst 0, 1) := by decide +kernel
theorem dX1_keep_25 : decode cX1_keep 25 = .ok (.istore_n 3, 1) := by decide +kernel
theorem dX1_keep_26 : decode cX1_keep 26 = .ok (.iload_n 3, 1) := by decide +kernel
theorem dX1_keep_27 : decode cX1_keep 27 = .ok (.aload_n 2, 1) := by decide +kernel
theorem dX1_keep_28 : decode cX1_keep 28 = .ok (.getfield 66, 3) := by decide +kernel
theorem dX1_keep_31 : decode cX1_keep 31 = .ok (.if_icmp .ge 141, 3) := by decide +kernel
theorem dX1_keep_34 : decode cX1_keep 34 = .ok (.iload_n 3, 1) := by decide +kernel
theorem dX1_keep_35 : decode cX1_keep 35 = .ok (.bipush 60, 2) := by decide +kernel
theorem dX1_keep_37 : decode cX1_keep 37 = .ok (.if_icmp .ge 135, 3) := by decide +kernel
theorem dX1_keep_40 : decode cX1_keep 40 = .ok (.aload_n 2, 1) := by decide +kernel
theorem dX1_keep_41 : decode cX1_keep 41 = .ok (.getfield 69, 3) := by decide +kernel
theorem dX1_keep_44 : decode cX1_keep 44 = .ok (.iload_n 3, 1) := by decide +kernel
theorem dX1_keep_45 : decode cX1_keep 45 = .ok (.iaload, 1) := by decide +kernel
theorem dX1_keep_46 : decode cX1_keep 46 = .ok (.istore 4, 2) := by decide +kernel
theorem dX1_keep_48 : decode cX1_keep 48 = .ok (.iload 4, 2) := by decide +kernel
theorem dX1_keep_50 : decode cX1_keep 50 = .ok (.bipush 10, 2) := by decide +kernel
theorem dX1_keep_52 : decode cX1_keep 52 = .ok (.if_icmp .eq 17, 3) := by decide +kernel
theorem dX1_keep_55 : decode cX1_keep 55 = .ok (.iload 4, 2) := by decide +kernel
theorem dX1_keep_57 : decode cX1_keep 57 = .ok (.bipush 11, 2) := by decide +kernel
theorem dX1_keep_59 : decode cX1_keep 59 = .ok (.if_icmp .eq 10, 3) := by decide +kernel
theorem dX1_keep_62 : decode cX1_keep 62 = .ok (.iload 4, 2) := by decide +kernel
theorem dX1_keep_64 : decode cX1_keep 64 = .ok (.bipush 12, 2) := by decide +kernel
theorem dX1_keep_66 : decode cX1_keep 66 = .ok (.if_icmp .ne 11, 3) := by decide +kernel
theorem dX1_keep_69 : decode cX1_keep 69 = .ok (.aload_n 2, 1) := by decide +kernel
theorem dX1_keep_70 : decode cX1_keep 70 = .ok (.iconst 0, 1) := by decide +kernel
theorem dX1_keep_71 : decode cX1_keep 71 = .ok (.putfield 59, 3) := by decide +kernel
theorem dX1_keep_74 : decode cX1_keep 74 = .ok (.goto 70, 3) := by decide +kernel
theorem dX1_keep_77 : decode cX1_keep 77 = .ok (.iload 4, 2) := by decide +kernel
theorem dX1_keep_79 : decode cX1_keep 79 = .ok (.iconst 2, 1) := by decide +kernel
theorem dX1_keep_80 : decode cX1_keep 80 = .ok (.if_icmp .ne 64, 3) := by decide +kernel
theorem dX1_keep_83 : decode cX1_keep 83 = .ok (.aload_n 0, 1) := by decide +kernel
theorem dX1_keep_84 : decode cX1_keep 84 = .ok (.aload_n 2, 1) := by decide +kernel
theorem dX1_keep_85 : decode cX1_keep 85 = .ok (.getfield 72, 3) := by decide +kernel
theorem dX1_keep_88 : decode cX1_keep 88 = .ok (.iload_n 3, 1) := by decide +kernel
theorem dX1_keep_89 : decode cX1_keep 89 = .ok (.laload, 1) := by decide +kernel
theorem dX1_keep_90 : decode cX1_keep 90 = .ok (.l2i, 1) := by decide +kernel
theorem dX1_keep_91 : decode cX1_keep 91 = .ok (.invokevirtual 51, 3) := by decide +kernel
theorem dX1_keep_94 : decode cX1_keep 94 = .ok (.astore 5, 2) := by decide +kernel
theorem dX1_keep_96 : decode cX1_keep 96 = .ok (.aload_n 2, 1) := by decide +kernel
theorem dX1_keep_97 : decode cX1_keep 97 = .ok (.aload_n 2, 1) := by decide +kernel
theorem dX1_keep_98 : decode cX1_keep 98 = .ok (.getfield 59, 3) := by decide +kernel
theorem dX1_keep_101 : decode cX1_keep 101 = .ok (.ifCond .eq 15, 3) := by decide +kernel
theorem dX1_keep_104 : decode cX1_keep 104 = .ok (.aload 5, 2) := by decide +kernel
theorem dX1_keep_106 : decode cX1_keep 106 = .ok (.getfield 59, 3) := by decide +kernel
theorem dX1_keep_109 : decode cX1_keep 109 = .ok (.ifCond .eq 7, 3) := by decide +kernel
theorem dX1_keep_112 : decode cX1_keep 112 = .ok (.iconst 1, 1) := by decide +kernel
theorem dX1_keep_113 : decode cX1_keep 113 = .ok (.goto 4, 3) := by decide +kernel
theorem dX1_keep_116 : decode cX1_keep 116 = .ok (.iconst 0, 1) := by decide +kernel
theorem dX1_keep_117 : decode cX1_keep 117 = .ok (.putfield 59, 3) := by decide +kernel
theorem dX1_keep_120 : decode cX1_keep 120 = .ok (.aload_n 2, 1) := by decide +kernel
theorem dX1_keep_121 : decode cX1_keep 121 = .ok (.dup, 1) := by decide +kernel
theorem dX1_keep_122 : decode cX1_keep 122 = .ok (.getfield 63, 3) := by decide +kernel
theorem dX1_keep_125 : decode cX1_keep 125 = .ok (.aload 5, 2) := by decide +kernel
theorem dX1_keep_127 : decode cX1_keep 127 = .ok (.getfield 63, 3) := by decide +kernel
theorem dX1_keep_130 : decode cX1_keep 130 = .ok (.iconst 1, 1) := by decide +kernel
theorem dX1_keep_131 : decode cX1_keep 131 = .ok (.aload_n 2, 1) := by decide +kernel
theorem dX1_keep_132 : decode cX1_keep 132 = .ok (.getfield 72, 3) := by decide +kernel
theorem dX1_keep_135 : decode cX1_keep 135 = .ok (.iload_n 3, 1) := by decide +kernel
theorem dX1_keep_136 : decode cX1_keep 136 = .ok (.laload, 1) := by decide +kernel
theorem dX1_keep_137 : decode cX1_keep 137 = .ok (.l2i, 1) := by decide +kernel
theorem dX1_keep_138 : decode cX1_keep 138 = .ok (.ishl, 1) := by decide +kernel
theorem dX1_keep_139 : decode cX1_keep 139 = .ok (.ior, 1) := by decide +kernel
theorem dX1_keep_140 : decode cX1_keep 140 = .ok (.ior, 1) := by decide +kernel
theorem dX1_keep_141 : decode cX1_keep 141 = .ok (.putfield 63, 3) := by decide +kernel
theorem dX1_keep_144 : decode cX1_keep 144 = .ok (.aload_n 0, 1) := by decide +kernel
theorem dX1_keep_145 : decode cX1_keep 145 = .ok (.getfield 22, 3) := by decide +kernel
theorem dX1_keep_148 : decode cX1_keep 148 = .ok (.iload_n 3, 1) := by decide +kernel
theorem dX1_keep_149 : decode cX1_keep 149 = .ok (.aload_n 0, 1) := by decide +kernel
theorem dX1_keep_150 : decode cX1_keep 150 = .ok (.aload_n 2, 1) := by decide +kernel
theorem dX1_keep_151 : decode cX1_keep 151 = .ok (.iload_n 3, 1) := by decide +kernel
theorem dX1_keep_152 : decode cX1_keep 152 = .ok (.invokevirtual 75, 3) := by decide +kernel
theorem dX1_keep_155 : decode cX1_keep 155 = .ok (.iastore, 1) := by decide +kernel
theorem dX1_keep_156 : decode cX1_keep 156 = .ok (.aload_n 2, 1) := by decide +kernel
theorem dX1_keep_157 : decode cX1_keep 157 = .ok (.aload_n 0, 1) := by decide +kernel
theorem dX1_keep_158 : decode cX1_keep 158 = .ok (.getfield 22, 3) := by decide +kernel
theorem dX1_keep_161 : decode cX1_keep 161 = .ok (.iload_n 3, 1) := by decide +kernel
theorem dX1_keep_162 : decode cX1_keep 162 = .ok (.iaload, 1) := by decide +kernel
theorem dX1_keep_163 : decode cX1_keep 163 = .ok (.putfield 79, 3) := by decide +kernel
theorem dX1_keep_166 : decode cX1_keep 166 = .ok (.iinc 3 1, 3) := by decide +kernel
theorem dX1_keep_169 : decode cX1_keep 169 = .ok (.goto (-143), 3) := by decide +kernel
theorem dX1_keep_172 : decode cX1_keep 172 = .ok (.aload_n 0, 1) := by decide +kernel
theorem dX1_keep_173 : decode cX1_keep 173 = .ok (.dup, 1) := by decide +kernel
theorem dX1_keep_174 : decode cX1_keep 174 = .ok (.getfield 47, 3) := by decide +kernel
theorem dX1_keep_177 : decode cX1_keep 177 = .ok (.iconst 1, 1) := by decide +kernel
theorem dX1_keep_178 : decode cX1_keep 178 = .ok (.iadd, 1) := by decide +kernel
theorem dX1_keep_179 : decode cX1_keep 179 = .ok (.putfield 47, 3) := by decide +kernel
theorem dX1_keep_182 : decode cX1_keep 182 = .ok (.aload_n 0, 1) := by decide +kernel
theorem dX1_keep_183 : decode cX1_keep 183 = .ok (.getfield 47, 3) := by decide +kernel
theorem dX1_keep_186 : decode cX1_keep 186 = .ok (.iconst 1, 1) := by decide +kernel
theorem dX1_keep_187 : decode cX1_keep 187 = .ok (.isub, 1) := by decide +kernel
theorem dX1_keep_188 : decode cX1_keep 188 = .ok (.ireturn, 1) := by decide +kernel
theorem dX1_degreeOf_0 : decode cX1_degreeOf 0 = .ok (.aload_n 0, 1) := by decide +kernel
theorem dX1_degreeOf_1 : decode cX1_degreeOf 1 = .ok (.aload_n 1, 1) := by decide +kernel
theorem dX1_degreeOf_2 : decode cX1_degreeOf 2 = .ok (.iload_n 2, 1) := by decide +kernel
theorem dX1_degreeOf_3 : decode cX1_degreeOf 3 = .ok (.invokevirtual 82, 3) := by decide +kernel
theorem dX1_degreeOf_6 : decode cX1_degreeOf 6 = .ok (.invokevirtual 86, 3) := by decide +kernel
theorem dX1_degreeOf_9 : decode cX1_degreeOf 9 = .ok (.istore_n 3, 1) := by decide +kernel
theorem dX1_degreeOf_10 : decode cX1_degreeOf 10 = .ok (.aload_n 0, 1) := by decide +kernel
theorem dX1_degreeOf_11 : decode cX1_degreeOf 11 = .ok (.iload_n 2, 1) := by decide +kernel
theorem dX1_degreeOf_12 : decode cX1_degreeOf 12 = .ok (.iconst 1, 1) := by decide +kernel
theorem dX1_degreeOf_13 : decode cX1_degreeOf 13 = .ok (.isub, 1) := by decide +kernel
theorem dX1_degreeOf_14 : decode cX1_degreeOf 14 = .ok (.invokevirtual 86, 3) := by decide +kernel
theorem dX1_degreeOf_17 : decode cX1_degreeOf 17 = .ok (.istore 4, 2) := by decide +kernel
theorem dX1_degreeOf_19 : decode cX1_degreeOf 19 = .ok (.aload_n 1, 1) := by decide +kernel
theorem dX1_degreeOf_20 : decode cX1_degreeOf 20 = .ok (.iload_n 2, 1) := by decide +kernel
theorem dX1_degreeOf_21 : decode cX1_degreeOf 21 = .ok (.invokevirtual 89, 3) := by decide +kernel
theorem dX1_degreeOf_24 : decode cX1_degreeOf 24 = .ok (.tableswitch 175 0 15 #[80, 82, 84, 98, 101, 175, 175, 175, 175, 175, 175, 175, 175, 127, 127, 149], 80) := by decide +kernel
theorem dX1_degreeOf_104 : decode cX1_degreeOf 104 = .ok (.iconst 1, 1) := by decide +kernel
theorem dX1_degreeOf_105 : decode cX1_degreeOf 105 = .ok (.ireturn, 1) := by decide +kernel
theorem dX1_degreeOf_106 : decode cX1_degreeOf 106 = .ok (.iconst 0, 1) := by decide +kernel
theorem dX1_degreeOf_107 : decode cX1_degreeOf 107 = .ok (.ireturn, 1) := by decide +kernel
theorem dX1_degreeOf_108 : decode cX1_degreeOf 108 = .ok (.aload_n 0, 1) := by decide +kernel
theorem dX1_degreeOf_109 : decode cX1_degreeOf 109 = .ok (.aload_n 1, 1) := by decide +kernel
theorem dX1_degreeOf_110 : decode cX1_degreeOf 110 = .ok (.iload_n 2, 1) := by decide +kernel
theorem dX1_degreeOf_111 : decode cX1_degreeOf 111 = .ok (.invokevirtual 92, 3) := by decide +kernel
theorem dX1_degreeOf_114 : decode cX1_degreeOf 114 = .ok (.l2i, 1) := by decide +kernel
theorem dX1_degreeOf_115 : decode cX1_degreeOf 115 = .ok (.invokevirtual 51, 3) := by decide +kernel
theorem dX1_degreeOf_118 : decode cX1_degreeOf 118 = .ok (.getfield 79, 3) := by decide +kernel
theorem dX1_degreeOf_121 : decode cX1_degreeOf 121 = .ok (.ireturn, 1) := by decide +kernel
theorem dX1_degreeOf_122 : decode cX1_degreeOf 122 = .ok (.iload 4, 2) := by decide +kernel
theorem dX1_degreeOf_124 : decode cX1_degreeOf 124 = .ok (.ireturn, 1) := by decide +kernel
theorem dX1_degreeOf_125 : decode cX1_degreeOf 125 = .ok (.iload 4, 2) := by decide +kernel
theorem dX1_degreeOf_127 : decode cX1_degreeOf 127 = .ok (.iconst (-1), 1) := by decide +kernel
theorem dX1_degreeOf_128 : decode cX1_degreeOf 128 = .ok (.if_icmp .ne 7, 3) := by decide +kernel
theorem dX1_degreeOf_131 : decode cX1_degreeOf 131 = .ok (.iconst (-1), 1) := by decide +kernel
theorem dX1_degreeOf_132 : decode cX1_degreeOf 132 = .ok (.goto 18, 3) := by decide +kernel
theorem dX1_degreeOf_135 : decode cX1_degreeOf 135 = .ok (.sipush 1000, 3) := by decide +kernel
theorem dX1_degreeOf_138 : decode cX1_degreeOf 138 = .ok (.iload 4, 2) := by decide +kernel
theorem dX1_degreeOf_140 : decode cX1_degreeOf 140 = .ok (.aload_n 1, 1) := by decide +kernel
theorem dX1_degreeOf_141 : decode cX1_degreeOf 141 = .ok (.iload_n 2, 1) := by decide +kernel
theorem dX1_degreeOf_142 : decode cX1_degreeOf 142 = .ok (.invokevirtual 92, 3) := by decide +kernel
theorem dX1_degreeOf_145 : decode cX1_degreeOf 145 = .ok (.l2i, 1) := by decide +kernel
theorem dX1_degreeOf_146 : decode cX1_degreeOf 146 = .ok (.imul, 1) := by decide +kernel
theorem dX1_degreeOf_147 : decode cX1_degreeOf 147 = .ok (.invokestatic 96, 3) := by decide +kernel
theorem dX1_degreeOf_150 : decode cX1_degreeOf 150 = .ok (.ireturn, 1) := by decide +kernel
theorem dX1_degreeOf_151 : decode cX1_degreeOf 151 = .ok (.iload_n 3, 1) := by decide +kernel
theorem dX1_degreeOf_152 : decode cX1_degreeOf 152 = .ok (.iconst (-1), 1) := by decide +kernel
theorem dX1_degreeOf_153 : decode cX1_degreeOf 153 = .ok (.if_icmp .eq 9, 3) := by decide +kernel
theorem dX1_degreeOf_156 : decode cX1_degreeOf 156 = .ok (.iload 4, 2) := by decide +kernel
theorem dX1_degreeOf_158 : decode cX1_degreeOf 158 = .ok (.iconst (-1), 1) := by decide +kernel
theorem dX1_degreeOf_159 : decode cX1_degreeOf 159 = .ok (.if_icmp .ne 7, 3) := by decide +kernel
theorem dX1_degreeOf_162 : decode cX1_degreeOf 162 = .ok (.iconst (-1), 1) := by decide +kernel
theorem dX1_degreeOf_163 : decode cX1_degreeOf 163 = .ok (.goto 9, 3) := by decide +kernel
theorem dX1_degreeOf_166 : decode cX1_degreeOf 166 = .ok (.iload_n 3, 1) := by decide +kernel
theorem dX1_degreeOf_167 : decode cX1_degreeOf 167 = .ok (.iload 4, 2) := by decide +kernel
theorem dX1_degreeOf_169 : decode cX1_degreeOf 169 = .ok (.invokestatic 102, 3) := by decide +kernel
theorem dX1_degreeOf_172 : decode cX1_degreeOf 172 = .ok (.ireturn, 1) := by decide +kernel
theorem dX1_degreeOf_173 : decode cX1_degreeOf 173 = .ok (.iload_n 3, 1) := by decide +kernel
theorem dX1_degreeOf_174 : decode cX1_degreeOf 174 = .ok (.iconst (-1), 1) := by decide +kernel
theorem dX1_degreeOf_175 : decode cX1_degreeOf 175 = .ok (.if_icmp .eq 9, 3) := by decide +kernel
theorem dX1_degreeOf_178 : decode cX1_degreeOf 178 = .ok (.iload 4, 2) := by decide +kernel
theorem dX1_degreeOf_180 : decode cX1_degreeOf 180 = .ok (.iconst (-1), 1) := by decide +kernel
theorem dX1_degreeOf_181 : decode cX1_degreeOf 181 = .ok (.if_icmp .ne 7, 3) := by decide +kernel
theorem dX1_degreeOf_184 : decode cX1_degreeOf 184 = .ok (.iconst (-1), 1) := by decide +kernel
theorem dX1_degreeOf_185 : decode cX1_degreeOf 185 = .ok (.goto 13, 3) := by decide +kernel
theorem dX1_degreeOf_188 : decode cX1_degreeOf 188 = .ok (.sipush 1000, 3) := by decide +kernel
theorem dX1_degreeOf_191 : decode cX1_degreeOf 191 = .ok (.iload_n 3, 1) := by decide +kernel
theorem dX1_degreeOf_192 : decode cX1_degreeOf 192 = .ok (.iload 4, 2) := by decide +kernel
theorem dX1_degreeOf_194 : decode cX1_degreeOf 194 = .ok (.iadd, 1) := by decide +kernel
theorem dX1_degreeOf_195 : decode cX1_degreeOf 195 = .ok (.invokestatic 96, 3) := by decide +kernel
theorem dX1_degreeOf_198 : decode cX1_degreeOf 198 = .ok (.ireturn, 1) := by decide +kernel
theorem dX1_degreeOf_199 : decode cX1_degreeOf 199 = .ok (.iconst (-1), 1) := by decide +kernel
theorem dX1_degreeOf_200 : decode cX1_degreeOf 200 = .ok (.ireturn, 1) := by decide +kernel
theorem dX1_degreeAt_0 : decode cX1_degreeAt 0 = .ok (.iload_n 1, 1) := by decide +kernel
theorem dX1_degreeAt_1 : decode cX1_degreeAt 1 = .ok (.ifCond .lt 18, 3) := by decide +kernel
theorem dX1_degreeAt_4 : decode cX1_degreeAt 4 = .ok (.iload_n 1, 1) := by decide +kernel
theorem dX1_degreeAt_5 : decode cX1_degreeAt 5 = .ok (.bipush 60, 2) := by decide +kernel
theorem dX1_degreeAt_7 : decode cX1_degreeAt 7 = .ok (.if_icmp .ge 12, 3) := by decide +kernel
theorem dX1_degreeAt_10 : decode cX1_degreeAt 10 = .ok (.aload_n 0, 1) := by decide +kernel
theorem dX1_degreeAt_11 : decode cX1_degreeAt 11 = .ok (.getfield 22, 3) := by decide +kernel
theorem dX1_degreeAt_14 : decode cX1_degreeAt 14 = .ok (.iload_n 1, 1) := by decide +kernel
theorem dX1_degreeAt_15 : decode cX1_degreeAt 15 = .ok (.iaload, 1) := by decide +kernel
theorem dX1_degreeAt_16 : decode cX1_degreeAt 16 = .ok (.goto 4, 3) := by decide +kernel
theorem dX1_degreeAt_19 : decode cX1_degreeAt 19 = .ok (.iconst (-1), 1) := by decide +kernel
theorem dX1_degreeAt_20 : decode cX1_degreeAt 20 = .ok (.ireturn, 1) := by decide +kernel
theorem dX1_rowAt_0 : decode cX1_rowAt 0 = .ok (.iload_n 1, 1) := by decide +kernel
theorem dX1_rowAt_1 : decode cX1_rowAt 1 = .ok (.ifCond .lt 15, 3) := by decide +kernel
theorem dX1_rowAt_4 : decode cX1_rowAt 4 = .ok (.iload_n 1, 1) := by decide +kernel
theorem dX1_rowAt_5 : decode cX1_rowAt 5 = .ok (.aload_n 0, 1) := by decide +kernel
theorem dX1_rowAt_6 : decode cX1_rowAt 6 = .ok (.arraylength, 1) := by decide +kernel
theorem dX1_rowAt_7 : decode cX1_rowAt 7 = .ok (.if_icmp .ge 9, 3) := by decide +kernel
theorem dX1_rowAt_10 : decode cX1_rowAt 10 = .ok (.aload_n 0, 1) := by decide +kernel
theorem dX1_rowAt_11 : decode cX1_rowAt 11 = .ok (.iload_n 1, 1) := by decide +kernel
theorem dX1_rowAt_12 : decode cX1_rowAt 12 = .ok (.laload, 1) := by decide +kernel
theorem dX1_rowAt_13 : decode cX1_rowAt 13 = .ok (.goto 6, 3) := by decide +kernel
theorem dX1_rowAt_16 : decode cX1_rowAt 16 = .ok (.ldc2_w 41, 3) := by decide +kernel
theorem dX1_rowAt_19 : decode cX1_rowAt 19 = .ok (.lreturn, 1) := by decide +kernel
theorem dX1_measure_0 : decode cX1_measure 0 = .ok (.aload_n 0, 1) := by decide +kernel
theorem dX1_measure_1 : decode cX1_measure 1 = .ok (.iload_n 2, 1) := by decide +kernel
theorem dX1_measure_2 : decode cX1_measure 2 = .ok (.i2l, 1) := by decide +kernel
theorem dX1_measure_3 : decode cX1_measure 3 = .ok (.iload_n 3, 1) := by decide +kernel
theorem dX1_measure_4 : decode cX1_measure 4 = .ok (.i2l, 1) := by decide +kernel
theorem dX1_measure_5 : decode cX1_measure 5 = .ok (.invokestatic 105, 3) := by decide +kernel
theorem dX1_measure_8 : decode cX1_measure 8 = .ok (.putfield 109, 3) := by decide +kernel
theorem dX1_measure_11 : decode cX1_measure 11 = .ok (.aload_n 0, 1) := by decide +kernel
theorem dX1_measure_12 : decode cX1_measure 12 = .ok (.ldc2_w 41, 3) := by decide +kernel
theorem dX1_measure_15 : decode cX1_measure 15 = .ok (.putfield 43, 3) := by decide +kernel
theorem dX1_measure_18 : decode cX1_measure 18 = .ok (.aload_n 0, 1) := by decide +kernel
theorem dX1_measure_19 : decode cX1_measure 19 = .ok (.iload_n 1, 1) := by decide +kernel
theorem dX1_measure_20 : decode cX1_measure 20 = .ok (.invokevirtual 51, 3) := by decide +kernel
theorem dX1_measure_23 : decode cX1_measure 23 = .ok (.getfield 63, 3) := by decide +kernel
theorem dX1_measure_26 : decode cX1_measure 26 = .ok (.iconst 1, 1) := by decide +kernel
theorem dX1_measure_27 : decode cX1_measure 27 = .ok (.iload_n 1, 1) := by decide +kernel
theorem dX1_measure_28 : decode cX1_measure 28 = .ok (.ishl, 1) := by decide +kernel
theorem dX1_measure_29 : decode cX1_measure 29 = .ok (.ior, 1) := by decide +kernel
theorem dX1_measure_30 : decode cX1_measure 30 = .ok (.istore 5, 2) := by decide +kernel
theorem dX1_measure_32 : decode cX1_measure 32 = .ok (.iconst 0, 1) := by decide +kernel
theorem dX1_measure_33 : decode cX1_measure 33 = .ok (.istore 6, 2) := by decide +kernel
theorem dX1_measure_35 : decode cX1_measure 35 = .ok (.iload 6, 2) := by decide +kernel
theorem dX1_measure_37 : decode cX1_measure 37 = .ok (.iload_n 1, 1) := by decide +kernel
theorem dX1_measure_38 : decode cX1_measure 38 = .ok (.if_icmp .gt 164, 3) := by decide +kernel
theorem dX1_measure_41 : decode cX1_measure 41 = .ok (.iload 6, 2) := by decide +kernel
theorem dX1_measure_43 : decode cX1_measure 43 = .ok (.bipush 8, 2) := by decide +kernel
theorem dX1_measure_45 : decode cX1_measure 45 = .ok (.if_icmp .ge 157, 3) := by decide +kernel
theorem dX1_measure_48 : decode cX1_measure 48 = .ok (.aload_n 0, 1) := by decide +kernel
theorem dX1_measure_49 : decode cX1_measure 49 = .ok (.iload 6, 2) := by decide +kernel
theorem dX1_measure_51 : decode cX1_measure 51 = .ok (.invokevirtual 51, 3) := by decide +kernel
theorem dX1_measure_54 : decode cX1_measure 54 = .ok (.astore 7, 2) := by decide +kernel
theorem dX1_measure_56 : decode cX1_measure 56 = .ok (.iload 5, 2) := by decide +kernel
theorem dX1_measure_58 : decode cX1_measure 58 = .ok (.iload 6, 2) := by decide +kernel
theorem dX1_measure_60 : decode cX1_measure 60 = .ok (.ishr, 1) := by decide +kernel
theorem dX1_measure_61 : decode cX1_measure 61 = .ok (.iconst 1, 1) := by decide +kernel
theorem dX1_measure_62 : decode cX1_measure 62 = .ok (.iand, 1) := by decide +kernel
theorem dX1_measure_63 : decode cX1_measure 63 = .ok (.iconst 1, 1) := by decide +kernel
theorem dX1_measure_64 : decode cX1_measure 64 = .ok (.if_icmp .ne 11, 3) := by decide +kernel
theorem dX1_measure_67 : decode cX1_measure 67 = .ok (.aload 7, 2) := by decide +kernel
theorem dX1_measure_69 : decode cX1_measure 69 = .ok (.getfield 66, 3) := by decide +kernel
theorem dX1_measure_72 : decode cX1_measure 72 = .ok (.goto 4, 3) := by decide +kernel
theorem dX1_measure_75 : decode cX1_measure 75 = .ok (.iconst 0, 1) := by decide +kernel
theorem dX1_measure_76 : decode cX1_measure 76 = .ok (.istore 8, 2) := by decide +kernel
theorem dX1_measure_78 : decode cX1_measure 78 = .ok (.iconst 0, 1) := by decide +kernel
theorem dX1_measure_79 : decode cX1_measure 79 = .ok (.istore 9, 2) := by decide +kernel
theorem dX1_measure_81 : decode cX1_measure 81 = .ok (.iload 9, 2) := by decide +kernel
theorem dX1_measure_83 : decode cX1_measure 83 = .ok (.iload 8, 2) := by decide +kernel
theorem dX1_measure_85 : decode cX1_measure 85 = .ok (.if_icmp .ge 75, 3) := by decide +kernel
theorem dX1_measure_88 : decode cX1_measure 88 = .ok (.iload 9, 2) := by decide +kernel
theorem dX1_measure_90 : decode cX1_measure 90 = .ok (.bipush 60, 2) := by decide +kernel
theorem dX1_measure_92 : decode cX1_measure 92 = .ok (.if_icmp .ge 68, 3) := by decide +kernel
theorem dX1_measure_95 : decode cX1_measure 95 = .ok (.aload_n 0, 1) := by decide +kernel
theorem dX1_measure_96 : decode cX1_measure 96 = .ok (.getfield 26, 3) := by decide +kernel
theorem dX1_measure_99 : decode cX1_measure 99 = .ok (.iload 9, 2) := by decide +kernel
theorem dX1_measure_101 : decode cX1_measure 101 = .ok (.aload_n 0, 1) := by decide +kernel
theorem dX1_measure_102 : decode cX1_measure 102 = .ok (.aload 7, 2) := by decide +kernel
theorem dX1_measure_104 : decode cX1_measure 104 = .ok (.iload 9, 2) := by decide +kernel
theorem dX1_measure_106 : decode cX1_measure 106 = .ok (.invokevirtual 112, 3) := by decide +kernel
theorem dX1_measure_109 : decode cX1_measure 109 = .ok (.lastore, 1) := by decide +kernel
theorem dX1_measure_110 : decode cX1_measure 110 = .ok (.aload_n 0, 1) := by decide +kernel
theorem dX1_measure_111 : decode cX1_measure 111 = .ok (.getfield 26, 3) := by decide +kernel
theorem dX1_measure_114 : decode cX1_measure 114 = .ok (.iload 9, 2) := by decide +kernel
theorem dX1_measure_116 : decode cX1_measure 116 = .ok (.laload, 1) := by decide +kernel
theorem dX1_measure_117 : decode cX1_measure 117 = .ok (.ldc2_w 41, 3) := by decide +kernel
theorem dX1_measure_120 : decode cX1_measure 120 = .ok (.lcmp, 1) := by decide +kernel
theorem dX1_measure_121 : decode cX1_measure 121 = .ok (.ifCond .ne 7, 3) := by decide +kernel
theorem dX1_measure_124 : decode cX1_measure 124 = .ok (.ldc2_w 41, 3) := by decide +kernel
theorem dX1_measure_127 : decode cX1_measure 127 = .ok (.lreturn, 1) := by decide +kernel
theorem dX1_measure_128 : decode cX1_measure 128 = .ok (.aload_n 0, 1) := by decide +kernel
theorem dX1_measure_129 : decode cX1_measure 129 = .ok (.getfield 30, 3) := by decide +kernel
theorem dX1_measure_132 : decode cX1_measure 132 = .ok (.iload 9, 2) := by decide +kernel
theorem dX1_measure_134 : decode cX1_measure 134 = .ok (.iload 4, 2) := by decide +kernel
theorem dX1_measure_136 : decode cX1_measure 136 = .ok (.ifCond .eq 14, 3) := by decide +kernel
theorem dX1_measure_139 : decode cX1_measure 139 = .ok (.aload_n 0, 1) := by decide +kernel
theorem dX1_measure_140 : decode cX1_measure 140 = .ok (.aload 7, 2) := by decide +kernel
theorem dX1_measure_142 : decode cX1_measure 142 = .ok (.iload 9, 2) := by decide +kernel
theorem dX1_measure_144 : decode cX1_measure 144 = .ok (.invokevirtual 116, 3) := by decide +kernel
theorem dX1_measure_147 : decode cX1_measure 147 = .ok (.goto 6, 3) := by decide +kernel
theorem dX1_measure_150 : decode cX1_measure 150 = .ok (.ldc2_w 41, 3) := by decide +kernel
theorem dX1_measure_153 : decode cX1_measure 153 = .ok (.lastore, 1) := by decide +kernel
theorem dX1_measure_154 : decode cX1_measure 154 = .ok (.iinc 9 1, 3) := by decide +kernel
theorem dX1_measure_157 : decode cX1_measure 157 = .ok (.goto (-76), 3) := by decide +kernel
theorem dX1_measure_160 : decode cX1_measure 160 = .ok (.aload_n 0, 1) := by decide +kernel
theorem dX1_measure_161 : decode cX1_measure 161 = .ok (.getfield 33, 3) := by decide +kernel
theorem dX1_measure_164 : decode cX1_measure 164 = .ok (.iload 6, 2) := by decide +kernel
theorem dX1_measure_166 : decode cX1_measure 166 = .ok (.aload_n 0, 1) := by decide +kernel
theorem dX1_measure_167 : decode cX1_measure 167 = .ok (.getfield 26, 3) := by decide +kernel
theorem dX1_measure_170 : decode cX1_measure 170 = .ok (.iload 8, 2) := by decide +kernel
theorem dX1_measure_172 : decode cX1_measure 172 = .ok (.iconst 1, 1) := by decide +kernel
theorem dX1_measure_173 : decode cX1_measure 173 = .ok (.isub, 1) := by decide +kernel
theorem dX1_measure_174 : decode cX1_measure 174 = .ok (.invokestatic 119, 3) := by decide +kernel
theorem dX1_measure_177 : decode cX1_measure 177 = .ok (.lastore, 1) := by decide +kernel
theorem dX1_measure_178 : decode cX1_measure 178 = .ok (.aload_n 0, 1) := by decide +kernel
theorem dX1_measure_179 : decode cX1_measure 179 = .ok (.getfield 36, 3) := by decide +kernel
theorem dX1_measure_182 : decode cX1_measure 182 = .ok (.iload 6, 2) := by decide +kernel
theorem dX1_measure_184 : decode cX1_measure 184 = .ok (.aload_n 0, 1) := by decide +kernel
theorem dX1_measure_185 : decode cX1_measure 185 = .ok (.getfield 30, 3) := by decide +kernel
theorem dX1_measure_188 : decode cX1_measure 188 = .ok (.iload 8, 2) := by decide +kernel
theorem dX1_measure_190 : decode cX1_measure 190 = .ok (.iconst 1, 1) := by decide +kernel
theorem dX1_measure_191 : decode cX1_measure 191 = .ok (.isub, 1) := by decide +kernel
theorem dX1_measure_192 : decode cX1_measure 192 = .ok (.invokestatic 119, 3) := by decide +kernel
theorem dX1_measure_195 : decode cX1_measure 195 = .ok (.lastore, 1) := by decide +kernel
theorem dX1_measure_196 : decode cX1_measure 196 = .ok (.iinc 6 1, 3) := by decide +kernel
theorem dX1_measure_199 : decode cX1_measure 199 = .ok (.goto (-164), 3) := by decide +kernel
theorem dX1_measure_202 : decode cX1_measure 202 = .ok (.aload_n 0, 1) := by decide +kernel
theorem dX1_measure_203 : decode cX1_measure 203 = .ok (.aload_n 0, 1) := by decide +kernel
theorem dX1_measure_204 : decode cX1_measure 204 = .ok (.getfield 36, 3) := by decide +kernel
theorem dX1_measure_207 : decode cX1_measure 207 = .ok (.iload_n 1, 1) := by decide +kernel
theorem dX1_measure_208 : decode cX1_measure 208 = .ok (.invokestatic 119, 3) := by decide +kernel
theorem dX1_measure_211 : decode cX1_measure 211 = .ok (.putfield 43, 3) := by decide +kernel
theorem dX1_measure_214 : decode cX1_measure 214 = .ok (.aload_n 0, 1) := by decide +kernel
theorem dX1_measure_215 : decode cX1_measure 215 = .ok (.getfield 33, 3) := by decide +kernel
theorem dX1_measure_218 : decode cX1_measure 218 = .ok (.iload_n 1, 1) := by decide +kernel
theorem dX1_measure_219 : decode cX1_measure 219 = .ok (.invokestatic 119, 3) := by decide +kernel
theorem dX1_measure_222 : decode cX1_measure 222 = .ok (.lreturn, 1) := by decide +kernel
theorem dX1_valueOf_0 : decode cX1_valueOf 0 = .ok (.aload_n 0, 1) := by decide +kernel
theorem dX1_valueOf_1 : decode cX1_valueOf 1 = .ok (.getfield 26, 3) := by decide +kernel
theorem dX1_valueOf_4 : decode cX1_valueOf 4 = .ok (.aload_n 1, 1) := by decide +kernel
theorem dX1_valueOf_5 : decode cX1_valueOf 5 = .ok (.iload_n 2, 1) := by decide +kernel
theorem dX1_valueOf_6 : decode cX1_valueOf 6 = .ok (.invokevirtual 82, 3) := by decide +kernel
theorem dX1_valueOf_9 : decode cX1_valueOf 9 = .ok (.invokestatic 119, 3) := by decide +kernel
theorem dX1_valueOf_12 : decode cX1_valueOf 12 = .ok (.lstore_n 3, 1) := by decide +kernel
theorem dX1_valueOf_13 : decode cX1_valueOf 13 = .ok (.aload_n 0, 1) := by decide +kernel
theorem dX1_valueOf_14 : decode cX1_valueOf 14 = .ok (.getfield 26, 3) := by decide +kernel
theorem dX1_valueOf_17 : decode cX1_valueOf 17 = .ok (.iload_n 2, 1) := by decide +kernel
theorem dX1_valueOf_18 : decode cX1_valueOf 18 = .ok (.iconst 1, 1) := by decide +kernel
theorem dX1_valueOf_19 : decode cX1_valueOf 19 = .ok (.isub, 1) := by decide +kernel
theorem dX1_valueOf_20 : decode cX1_valueOf 20 = .ok (.invokestatic 119, 3) := by decide +kernel
theorem dX1_valueOf_23 : decode cX1_valueOf 23 = .ok (.lstore 5, 2) := by decide +kernel
theorem dX1_valueOf_25 : decode cX1_valueOf 25 = .ok (.aload_n 1, 1) := by decide +kernel
theorem dX1_valueOf_26 : decode cX1_valueOf 26 = .ok (.iload_n 2, 1) := by decide +kernel
theorem dX1_valueOf_27 : decode cX1_valueOf 27 = .ok (.invokevirtual 92, 3) := by decide +kernel
theorem dX1_valueOf_30 : decode cX1_valueOf 30 = .ok (.lstore 7, 2) := by decide +kernel
theorem dX1_valueOf_32 : decode cX1_valueOf 32 = .ok (.aload_n 1, 1) := by decide +kernel
theorem dX1_valueOf_33 : decode cX1_valueOf 33 = .ok (.iload_n 2, 1) := by decide +kernel
theorem dX1_valueOf_34 : decode cX1_valueOf 34 = .ok (.invokevirtual 89, 3) := by decide +kernel
theorem dX1_valueOf_37 : decode cX1_valueOf 37 = .ok (.tableswitch 196 0 16 #[83, 88, 91, 102, 108, 116, 122, 128, 134, 141, 148, 154, 161, 168, 175, 182, 189], 83) := by decide +kernel
theorem dX1_valueOf_120 : decode cX1_valueOf 120 = .ok (.aload_n 0, 1) := by decide +kernel
theorem dX1_valueOf_121 : decode cX1_valueOf 121 = .ok (.getfield 109, 3) := by decide +kernel
theorem dX1_valueOf_124 : decode cX1_valueOf 124 = .ok (.lreturn, 1) := by decide +kernel
theorem dX1_valueOf_125 : decode cX1_valueOf 125 = .ok (.lload 7, 2) := by decide +kernel
theorem dX1_valueOf_127 : decode cX1_valueOf 127 = .ok (.lreturn, 1) := by decide +kernel
theorem dX1_valueOf_128 : decode cX1_valueOf 128 = .ok (.aload_n 0, 1) := by decide +kernel
theorem dX1_valueOf_129 : decode cX1_valueOf 129 = .ok (.getfield 33, 3) := by decide +kernel
theorem dX1_valueOf_132 : decode cX1_valueOf 132 = .ok (.lload 7, 2) := by decide +kernel
theorem dX1_valueOf_134 : decode cX1_valueOf 134 = .ok (.l2i, 1) := by decide +kernel
theorem dX1_valueOf_135 : decode cX1_valueOf 135 = .ok (.invokestatic 119, 3) := by decide +kernel
theorem dX1_valueOf_138 : decode cX1_valueOf 138 = .ok (.lreturn, 1) := by decide +kernel
theorem dX1_valueOf_139 : decode cX1_valueOf 139 = .ok (.lload 5, 2) := by decide +kernel
theorem dX1_valueOf_141 : decode cX1_valueOf 141 = .ok (.invokestatic 123, 3) := by decide +kernel
theorem dX1_valueOf_144 : decode cX1_valueOf 144 = .ok (.lreturn, 1) := by decide +kernel
theorem dX1_valueOf_145 : decode cX1_valueOf 145 = .ok (.lload 5, 2) := by decide +kernel
theorem dX1_valueOf_147 : decode cX1_valueOf 147 = .ok (.lload 7, 2) := by decide +kernel
theorem dX1_valueOf_149 : decode cX1_valueOf 149 = .ok (.invokestatic 127, 3) := by decide +kernel
theorem dX1_valueOf_152 : decode cX1_valueOf 152 = .ok (.lreturn, 1) := by decide +kernel
theorem dX1_valueOf_153 : decode cX1_valueOf 153 = .ok (.lload 5, 2) := by decide +kernel
theorem dX1_valueOf_155 : decode cX1_valueOf 155 = .ok (.invokestatic 130, 3) := by decide +kernel
theorem dX1_valueOf_158 : decode cX1_valueOf 158 = .ok (.lreturn, 1) := by decide +kernel
theorem dX1_valueOf_159 : decode cX1_valueOf 159 = .ok (.lload 5, 2) := by decide +kernel
theorem dX1_valueOf_161 : decode cX1_valueOf 161 = .ok (.invokestatic 133, 3) := by decide +kernel
theorem dX1_valueOf_164 : decode cX1_valueOf 164 = .ok (.lreturn, 1) := by decide +kernel
theorem dX1_valueOf_165 : decode cX1_valueOf 165 = .ok (.lload 5, 2) := by decide +kernel
theorem dX1_valueOf_167 : decode cX1_valueOf 167 = .ok (.invokestatic 138, 3) := by decide +kernel
theorem dX1_valueOf_170 : decode cX1_valueOf 170 = .ok (.lreturn, 1) := by decide +kernel
theorem dX1_valueOf_171 : decode cX1_valueOf 171 = .ok (.lload 5, 2) := by decide +kernel
theorem dX1_valueOf_173 : decode cX1_valueOf 173 = .ok (.iconst 0, 1) := by decide +kernel
theorem dX1_valueOf_174 : decode cX1_valueOf 174 = .ok (.invokestatic 141, 3) := by decide +kernel
theorem dX1_valueOf_177 : decode cX1_valueOf 177 = .ok (.lreturn, 1) := by decide +kernel
theorem dX1_valueOf_178 : decode cX1_valueOf 178 = .ok (.lload 5, 2) := by decide +kernel
theorem dX1_valueOf_180 : decode cX1_valueOf 180 = .ok (.iconst 1, 1) := by decide +kernel
theorem dX1_valueOf_181 : decode cX1_valueOf 181 = .ok (.invokestatic 141, 3) := by decide +kernel
theorem dX1_valueOf_184 : decode cX1_valueOf 184 = .ok (.lreturn, 1) := by decide +kernel
theorem dX1_valueOf_185 : decode cX1_valueOf 185 = .ok (.lload 5, 2) := by decide +kernel
theorem dX1_valueOf_187 : decode cX1_valueOf 187 = .ok (.invokestatic 145, 3) := by decide +kernel
theorem dX1_valueOf_190 : decode cX1_valueOf 190 = .ok (.lreturn, 1) := by decide +kernel
theorem dX1_valueOf_191 : decode cX1_valueOf 191 = .ok (.lload_n 3, 1) := by decide +kernel
theorem dX1_valueOf_192 : decode cX1_valueOf 192 = .ok (.lload 5, 2) := by decide +kernel
theorem dX1_valueOf_194 : decode cX1_valueOf 194 = .ok (.invokestatic 148, 3) := by decide +kernel
theorem dX1_valueOf_197 : decode cX1_valueOf 197 = .ok (.lreturn, 1) := by decide +kernel
theorem dX1_valueOf_198 : decode cX1_valueOf 198 = .ok (.lload_n 3, 1) := by decide +kernel
theorem dX1_valueOf_199 : decode cX1_valueOf 199 = .ok (.lload 5, 2) := by decide +kernel
theorem dX1_valueOf_201 : decode cX1_valueOf 201 = .ok (.invokestatic 151, 3) := by decide +kernel
theorem dX1_valueOf_204 : decode cX1_valueOf 204 = .ok (.lreturn, 1) := by decide +kernel
theorem dX1_valueOf_205 : decode cX1_valueOf 205 = .ok (.lload_n 3, 1) := by decide +kernel
theorem dX1_valueOf_206 : decode cX1_valueOf 206 = .ok (.lload 5, 2) := by decide +kernel
theorem dX1_valueOf_208 : decode cX1_valueOf 208 = .ok (.invokestatic 154, 3) := by decide +kernel
theorem dX1_valueOf_211 : decode cX1_valueOf 211 = .ok (.lreturn, 1) := by decide +kernel
theorem dX1_valueOf_212 : decode cX1_valueOf 212 = .ok (.lload_n 3, 1) := by decide +kernel
theorem dX1_valueOf_213 : decode cX1_valueOf 213 = .ok (.lload 5, 2) := by decide +kernel
theorem dX1_valueOf_215 : decode cX1_valueOf 215 = .ok (.invokestatic 157, 3) := by decide +kernel
theorem dX1_valueOf_218 : decode cX1_valueOf 218 = .ok (.lreturn, 1) := by decide +kernel
theorem dX1_valueOf_219 : decode cX1_valueOf 219 = .ok (.lload_n 3, 1) := by decide +kernel
theorem dX1_valueOf_220 : decode cX1_valueOf 220 = .ok (.lload 5, 2) := by decide +kernel
theorem dX1_valueOf_222 : decode cX1_valueOf 222 = .ok (.invokestatic 160, 3) := by decide +kernel
theorem dX1_valueOf_225 : decode cX1_valueOf 225 = .ok (.lreturn, 1) := by decide +kernel
theorem dX1_valueOf_226 : decode cX1_valueOf 226 = .ok (.lload_n 3, 1) := by decide +kernel
theorem dX1_valueOf_227 : decode cX1_valueOf 227 = .ok (.lload 5, 2) := by decide +kernel
theorem dX1_valueOf_229 : decode cX1_valueOf 229 = .ok (.invokestatic 163, 3) := by decide +kernel
theorem dX1_valueOf_232 : decode cX1_valueOf 232 = .ok (.lreturn, 1) := by decide +kernel
theorem dX1_valueOf_233 : decode cX1_valueOf 233 = .ok (.ldc2_w 41, 3) := by decide +kernel
theorem dX1_valueOf_236 : decode cX1_valueOf 236 = .ok (.lreturn, 1) := by decide +kernel
theorem dX1_leanOf_0 : decode cX1_leanOf 0 = .ok (.aload_n 0, 1) := by decide +kernel
theorem dX1_leanOf_1 : decode cX1_leanOf 1 = .ok (.getfield 26, 3) := by decide +kernel
theorem dX1_leanOf_4 : decode cX1_leanOf 4 = .ok (.aload_n 1, 1) := by decide +kernel
theorem dX1_leanOf_5 : decode cX1_leanOf 5 = .ok (.iload_n 2, 1) := by decide +kernel
theorem dX1_leanOf_6 : decode cX1_leanOf 6 = .ok (.invokevirtual 82, 3) := by decide +kernel
theorem dX1_leanOf_9 : decode cX1_leanOf 9 = .ok (.invokestatic 119, 3) := by decide +kernel
theorem dX1_leanOf_12 : decode cX1_leanOf 12 = .ok (.lstore_n 3, 1) := by decide +kernel
theorem dX1_leanOf_13 : decode cX1_leanOf 13 = .ok (.aload_n 0, 1) := by decide +kernel
theorem dX1_leanOf_14 : decode cX1_leanOf 14 = .ok (.getfield 26, 3) := by decide +kernel
theorem dX1_leanOf_17 : decode cX1_leanOf 17 = .ok (.iload_n 2, 1) := by decide +kernel
theorem dX1_leanOf_18 : decode cX1_leanOf 18 = .ok (.iconst 1, 1) := by decide +kernel
theorem dX1_leanOf_19 : decode cX1_leanOf 19 = .ok (.isub, 1) := by decide +kernel
theorem dX1_leanOf_20 : decode cX1_leanOf 20 = .ok (.invokestatic 119, 3) := by decide +kernel
theorem dX1_leanOf_23 : decode cX1_leanOf 23 = .ok (.lstore 5, 2) := by decide +kernel
theorem dX1_leanOf_25 : decode cX1_leanOf 25 = .ok (.aload_n 0, 1) := by decide +kernel
theorem dX1_leanOf_26 : decode cX1_leanOf 26 = .ok (.getfield 30, 3) := by decide +kernel
theorem dX1_leanOf_29 : decode cX1_leanOf 29 = .ok (.aload_n 1, 1) := by decide +kernel
theorem dX1_leanOf_30 : decode cX1_leanOf 30 = .ok (.iload_n 2, 1) := by decide +kernel
theorem dX1_leanOf_31 : decode cX1_leanOf 31 = .ok (.invokevirtual 82, 3) := by decide +kernel
theorem dX1_leanOf_34 : decode cX1_leanOf 34 = .ok (.invokestatic 119, 3) := by decide +kernel
theorem dX1_leanOf_37 : decode cX1_leanOf 37 = .ok (.lstore 7, 2) := by decide +kernel
theorem dX1_leanOf_39 : decode cX1_leanOf 39 = .ok (.aload_n 0, 1) := by decide +kernel
theorem dX1_leanOf_40 : decode cX1_leanOf 40 = .ok (.getfield 30, 3) := by decide +kernel
theorem dX1_leanOf_43 : decode cX1_leanOf 43 = .ok (.iload_n 2, 1) := by decide +kernel
theorem dX1_leanOf_44 : decode cX1_leanOf 44 = .ok (.iconst 1, 1) := by decide +kernel
theorem dX1_leanOf_45 : decode cX1_leanOf 45 = .ok (.isub, 1) := by decide +kernel
theorem dX1_leanOf_46 : decode cX1_leanOf 46 = .ok (.invokestatic 119, 3) := by decide +kernel
theorem dX1_leanOf_49 : decode cX1_leanOf 49 = .ok (.lstore 9, 2) := by decide +kernel
theorem dX1_leanOf_51 : decode cX1_leanOf 51 = .ok (.aload_n 0, 1) := by decide +kernel
theorem dX1_leanOf_52 : decode cX1_leanOf 52 = .ok (.getfield 26, 3) := by decide +kernel
theorem dX1_leanOf_55 : decode cX1_leanOf 55 = .ok (.iload_n 2, 1) := by decide +kernel
theorem dX1_leanOf_56 : decode cX1_leanOf 56 = .ok (.invokestatic 119, 3) := by decide +kernel
theorem dX1_leanOf_59 : decode cX1_leanOf 59 = .ok (.lstore 11, 2) := by decide +kernel
theorem dX1_leanOf_61 : decode cX1_leanOf 61 = .ok (.aload_n 1, 1) := by decide +kernel
theorem dX1_leanOf_62 : decode cX1_leanOf 62 = .ok (.iload_n 2, 1) := by decide +kernel
theorem dX1_leanOf_63 : decode cX1_leanOf 63 = .ok (.invokevirtual 89, 3) := by decide +kernel
theorem dX1_leanOf_66 : decode cX1_leanOf 66 = .ok (.tableswitch 326 0 16 #[82, 87, 92, 106, 112, 125, 142, 150, 158, 170, 185, 193, 229, 265, 273, 281, 298], 82) := by decide +kernel
theorem dX1_leanOf_148 : decode cX1_leanOf 148 = .ok (.lconst 1, 1) := by decide +kernel
theorem dX1_leanOf_149 : decode cX1_leanOf 149 = .ok (.invokestatic 166, 3) := by decide +kernel
theorem dX1_leanOf_152 : decode cX1_leanOf 152 = .ok (.lreturn, 1) := by decide +kernel
theorem dX1_leanOf_153 : decode cX1_leanOf 153 = .ok (.lconst 0, 1) := by decide +kernel
theorem dX1_leanOf_154 : decode cX1_leanOf 154 = .ok (.invokestatic 166, 3) := by decide +kernel
theorem dX1_leanOf_157 : decode cX1_leanOf 157 = .ok (.lreturn, 1) := by decide +kernel
theorem dX1_leanOf_158 : decode cX1_leanOf 158 = .ok (.aload_n 0, 1) := by decide +kernel
theorem dX1_leanOf_159 : decode cX1_leanOf 159 = .ok (.getfield 36, 3) := by decide +kernel
theorem dX1_leanOf_162 : decode cX1_leanOf 162 = .ok (.aload_n 1, 1) := by decide +kernel
theorem dX1_leanOf_163 : decode cX1_leanOf 163 = .ok (.iload_n 2, 1) := by decide +kernel
theorem dX1_leanOf_164 : decode cX1_leanOf 164 = .ok (.invokevirtual 92, 3) := by decide +kernel
theorem dX1_leanOf_167 : decode cX1_leanOf 167 = .ok (.l2i, 1) := by decide +kernel
theorem dX1_leanOf_168 : decode cX1_leanOf 168 = .ok (.invokestatic 119, 3) := by decide +kernel
theorem dX1_leanOf_171 : decode cX1_leanOf 171 = .ok (.lreturn, 1) := by decide +kernel
theorem dX1_leanOf_172 : decode cX1_leanOf 172 = .ok (.lload 9, 2) := by decide +kernel
theorem dX1_leanOf_174 : decode cX1_leanOf 174 = .ok (.invokestatic 123, 3) := by decide +kernel
theorem dX1_leanOf_177 : decode cX1_leanOf 177 = .ok (.lreturn, 1) := by decide +kernel
theorem dX1_leanOf_178 : decode cX1_leanOf 178 = .ok (.lload 5, 2) := by decide +kernel
theorem dX1_leanOf_180 : decode cX1_leanOf 180 = .ok (.aload_n 1, 1) := by decide +kernel
theorem dX1_leanOf_181 : decode cX1_leanOf 181 = .ok (.iload_n 2, 1) := by decide +kernel
theorem dX1_leanOf_182 : decode cX1_leanOf 182 = .ok (.invokevirtual 92, 3) := by decide +kernel
theorem dX1_leanOf_185 : decode cX1_leanOf 185 = .ok (.lload 9, 2) := by decide +kernel
theorem dX1_leanOf_187 : decode cX1_leanOf 187 = .ok (.invokestatic 169, 3) := by decide +kernel
theorem dX1_leanOf_190 : decode cX1_leanOf 190 = .ok (.lreturn, 1) := by decide +kernel
theorem dX1_leanOf_191 : decode cX1_leanOf 191 = .ok (.lload 9, 2) := by decide +kernel
theorem dX1_leanOf_193 : decode cX1_leanOf 193 = .ok (.ldc2_w 173, 3) := by decide +kernel
theorem dX1_leanOf_196 : decode cX1_leanOf 196 = .ok (.invokestatic 166, 3) := by decide +kernel
theorem dX1_leanOf_199 : decode cX1_leanOf 199 = .ok (.lload 11, 2) := by decide +kernel
theorem dX1_leanOf_201 : decode cX1_leanOf 201 = .ok (.invokestatic 160, 3) := by decide +kernel
theorem dX1_leanOf_204 : decode cX1_leanOf 204 = .ok (.invokestatic 163, 3) := by decide +kernel
theorem dX1_leanOf_207 : decode cX1_leanOf 207 = .ok (.lreturn, 1) := by decide +kernel
theorem dX1_leanOf_208 : decode cX1_leanOf 208 = .ok (.lload 11, 2) := by decide +kernel
theorem dX1_leanOf_210 : decode cX1_leanOf 210 = .ok (.lload 9, 2) := by decide +kernel
theorem dX1_leanOf_212 : decode cX1_leanOf 212 = .ok (.invokestatic 160, 3) := by decide +kernel
theorem dX1_leanOf_215 : decode cX1_leanOf 215 = .ok (.lreturn, 1) := by decide +kernel
theorem dX1_leanOf_216 : decode cX1_leanOf 216 = .ok (.lload 9, 2) := by decide +kernel
theorem dX1_leanOf_218 : decode cX1_leanOf 218 = .ok (.lload 5, 2) := by decide +kernel
theorem dX1_leanOf_220 : decode cX1_leanOf 220 = .ok (.invokestatic 163, 3) := by decide +kernel
theorem dX1_leanOf_223 : decode cX1_leanOf 223 = .ok (.lreturn, 1) := by decide +kernel
theorem dX1_leanOf_224 : decode cX1_leanOf 224 = .ok (.lload 5, 2) := by decide +kernel
theorem dX1_leanOf_226 : decode cX1_leanOf 226 = .ok (.iconst 1, 1) := by decide +kernel
theorem dX1_leanOf_227 : decode cX1_leanOf 227 = .ok (.invokestatic 141, 3) := by decide +kernel
theorem dX1_leanOf_230 : decode cX1_leanOf 230 = .ok (.lload 9, 2) := by decide +kernel
theorem dX1_leanOf_232 : decode cX1_leanOf 232 = .ok (.invokestatic 160, 3) := by decide +kernel
theorem dX1_leanOf_235 : decode cX1_leanOf 235 = .ok (.lreturn, 1) := by decide +kernel
theorem dX1_leanOf_236 : decode cX1_leanOf 236 = .ok (.lload 5, 2) := by decide +kernel
theorem dX1_leanOf_238 : decode cX1_leanOf 238 = .ok (.iconst 0, 1) := by decide +kernel
theorem dX1_leanOf_239 : decode cX1_leanOf 239 = .ok (.invokestatic 141, 3) := by decide +kernel
theorem dX1_leanOf_242 : decode cX1_leanOf 242 = .ok (.lload 9, 2) := by decide +kernel
theorem dX1_leanOf_244 : decode cX1_leanOf 244 = .ok (.invokestatic 160, 3) := by decide +kernel
theorem dX1_leanOf_247 : decode cX1_leanOf 247 = .ok (.invokestatic 123, 3) := by decide +kernel
theorem dX1_leanOf_250 : decode cX1_leanOf 250 = .ok (.lreturn, 1) := by decide +kernel
theorem dX1_leanOf_251 : decode cX1_leanOf 251 = .ok (.lload 5, 2) := by decide +kernel
theorem dX1_leanOf_253 : decode cX1_leanOf 253 = .ok (.lload 9, 2) := by decide +kernel
theorem dX1_leanOf_255 : decode cX1_leanOf 255 = .ok (.invokestatic 175, 3) := by decide +kernel
theorem dX1_leanOf_258 : decode cX1_leanOf 258 = .ok (.lreturn, 1) := by decide +kernel
theorem dX1_leanOf_259 : decode cX1_leanOf 259 = .ok (.lload_n 3, 1) := by decide +kernel
theorem dX1_leanOf_260 : decode cX1_leanOf 260 = .ok (.lload 5, 2) := by decide +kernel
theorem dX1_leanOf_262 : decode cX1_leanOf 262 = .ok (.invokestatic 178, 3) := by decide +kernel
theorem dX1_leanOf_265 : decode cX1_leanOf 265 = .ok (.ifCond .eq 8, 3) := by decide +kernel
theorem dX1_leanOf_268 : decode cX1_leanOf 268 = .ok (.lload 7, 2) := by decide +kernel
theorem dX1_leanOf_270 : decode cX1_leanOf 270 = .ok (.goto 24, 3) := by decide +kernel
theorem dX1_leanOf_273 : decode cX1_leanOf 273 = .ok (.lload 5, 2) := by decide +kernel
theorem dX1_leanOf_275 : decode cX1_leanOf 275 = .ok (.lload_n 3, 1) := by decide +kernel
theorem dX1_leanOf_276 : decode cX1_leanOf 276 = .ok (.invokestatic 178, 3) := by decide +kernel
theorem dX1_leanOf_279 : decode cX1_leanOf 279 = .ok (.ifCond .eq 8, 3) := by decide +kernel
theorem dX1_leanOf_282 : decode cX1_leanOf 282 = .ok (.lload 9, 2) := by decide +kernel
theorem dX1_leanOf_284 : decode cX1_leanOf 284 = .ok (.goto 10, 3) := by decide +kernel
theorem dX1_leanOf_287 : decode cX1_leanOf 287 = .ok (.lload 7, 2) := by decide +kernel
theorem dX1_leanOf_289 : decode cX1_leanOf 289 = .ok (.lload 9, 2) := by decide +kernel
theorem dX1_leanOf_291 : decode cX1_leanOf 291 = .ok (.invokestatic 182, 3) := by decide +kernel
theorem dX1_leanOf_294 : decode cX1_leanOf 294 = .ok (.lreturn, 1) := by decide +kernel
theorem dX1_leanOf_295 : decode cX1_leanOf 295 = .ok (.lload 5, 2) := by decide +kernel
theorem dX1_leanOf_297 : decode cX1_leanOf 297 = .ok (.lload_n 3, 1) := by decide +kernel
theorem dX1_leanOf_298 : decode cX1_leanOf 298 = .ok (.invokestatic 178, 3) := by decide +kernel
theorem dX1_leanOf_301 : decode cX1_leanOf 301 = .ok (.ifCond .eq 8, 3) := by decide +kernel
theorem dX1_leanOf_304 : decode cX1_leanOf 304 = .ok (.lload 7, 2) := by decide +kernel
theorem dX1_leanOf_306 : decode cX1_leanOf 306 = .ok (.goto 24, 3) := by decide +kernel
theorem dX1_leanOf_309 : decode cX1_leanOf 309 = .ok (.lload_n 3, 1) := by decide +kernel
theorem dX1_leanOf_310 : decode cX1_leanOf 310 = .ok (.lload 5, 2) := by decide +kernel
theorem dX1_leanOf_312 : decode cX1_leanOf 312 = .ok (.invokestatic 178, 3) := by decide +kernel
theorem dX1_leanOf_315 : decode cX1_leanOf 315 = .ok (.ifCond .eq 8, 3) := by decide +kernel
theorem dX1_leanOf_318 : decode cX1_leanOf 318 = .ok (.lload 9, 2) := by decide +kernel
theorem dX1_leanOf_320 : decode cX1_leanOf 320 = .ok (.goto 10, 3) := by decide +kernel
theorem dX1_leanOf_323 : decode cX1_leanOf 323 = .ok (.lload 7, 2) := by decide +kernel
theorem dX1_leanOf_325 : decode cX1_leanOf 325 = .ok (.lload 9, 2) := by decide +kernel
theorem dX1_leanOf_327 : decode cX1_leanOf 327 = .ok (.invokestatic 182, 3) := by decide +kernel
theorem dX1_leanOf_330 : decode cX1_leanOf 330 = .ok (.lreturn, 1) := by decide +kernel
theorem dX1_leanOf_331 : decode cX1_leanOf 331 = .ok (.lload 7, 2) := by decide +kernel
theorem dX1_leanOf_333 : decode cX1_leanOf 333 = .ok (.lload 9, 2) := by decide +kernel
theorem dX1_leanOf_335 : decode cX1_leanOf 335 = .ok (.invokestatic 154, 3) := by decide +kernel
theorem dX1_leanOf_338 : decode cX1_leanOf 338 = .ok (.lreturn, 1) := by decide +kernel
theorem dX1_leanOf_339 : decode cX1_leanOf 339 = .ok (.lload 7, 2) := by decide +kernel
theorem dX1_leanOf_341 : decode cX1_leanOf 341 = .ok (.lload 9, 2) := by decide +kernel
theorem dX1_leanOf_343 : decode cX1_leanOf 343 = .ok (.invokestatic 157, 3) := by decide +kernel
theorem dX1_leanOf_346 : decode cX1_leanOf 346 = .ok (.lreturn, 1) := by decide +kernel
theorem dX1_leanOf_347 : decode cX1_leanOf 347 = .ok (.lload 7, 2) := by decide +kernel
theorem dX1_leanOf_349 : decode cX1_leanOf 349 = .ok (.lload 5, 2) := by decide +kernel
theorem dX1_leanOf_351 : decode cX1_leanOf 351 = .ok (.invokestatic 160, 3) := by decide +kernel
theorem dX1_leanOf_354 : decode cX1_leanOf 354 = .ok (.lload_n 3, 1) := by decide +kernel
theorem dX1_leanOf_355 : decode cX1_leanOf 355 = .ok (.lload 9, 2) := by decide +kernel
theorem dX1_leanOf_357 : decode cX1_leanOf 357 = .ok (.invokestatic 160, 3) := by decide +kernel
theorem dX1_leanOf_360 : decode cX1_leanOf 360 = .ok (.invokestatic 154, 3) := by decide +kernel
theorem dX1_leanOf_363 : decode cX1_leanOf 363 = .ok (.lreturn, 1) := by decide +kernel
theorem dX1_leanOf_364 : decode cX1_leanOf 364 = .ok (.lload 7, 2) := by decide +kernel
theorem dX1_leanOf_366 : decode cX1_leanOf 366 = .ok (.lload 5, 2) := by decide +kernel
theorem dX1_leanOf_368 : decode cX1_leanOf 368 = .ok (.invokestatic 160, 3) := by decide +kernel
theorem dX1_leanOf_371 : decode cX1_leanOf 371 = .ok (.lload_n 3, 1) := by decide +kernel
theorem dX1_leanOf_372 : decode cX1_leanOf 372 = .ok (.lload 9, 2) := by decide +kernel
theorem dX1_leanOf_374 : decode cX1_leanOf 374 = .ok (.invokestatic 160, 3) := by decide +kernel
theorem dX1_leanOf_377 : decode cX1_leanOf 377 = .ok (.invokestatic 157, 3) := by decide +kernel
theorem dX1_leanOf_380 : decode cX1_leanOf 380 = .ok (.lload 5, 2) := by decide +kernel
theorem dX1_leanOf_382 : decode cX1_leanOf 382 = .ok (.ldc2_w 173, 3) := by decide +kernel
theorem dX1_leanOf_385 : decode cX1_leanOf 385 = .ok (.invokestatic 127, 3) := by decide +kernel
theorem dX1_leanOf_388 : decode cX1_leanOf 388 = .ok (.invokestatic 163, 3) := by decide +kernel
theorem dX1_leanOf_391 : decode cX1_leanOf 391 = .ok (.lreturn, 1) := by decide +kernel
theorem dX1_leanOf_392 : decode cX1_leanOf 392 = .ok (.ldc2_w 41, 3) := by decide +kernel
theorem dX1_leanOf_395 : decode cX1_leanOf 395 = .ok (.lreturn, 1) := by decide +kernel
theorem dX1_wholes_0 : decode cX1_wholes 0 = .ok (.lload_n 0, 1) := by decide +kernel
theorem dX1_wholes_1 : decode cX1_wholes 1 = .ok (.ldc2_w 185, 3) := by decide +kernel
theorem dX1_wholes_4 : decode cX1_wholes 4 = .ok (.lmul, 1) := by decide +kernel
theorem dX1_wholes_5 : decode cX1_wholes 5 = .ok (.lload_n 0, 1) := by decide +kernel
theorem dX1_wholes_6 : decode cX1_wholes 6 = .ok (.ldc2_w 185, 3) := by decide +kernel
theorem dX1_wholes_9 : decode cX1_wholes 9 = .ok (.lmul, 1) := by decide +kernel
theorem dX1_wholes_10 : decode cX1_wholes 10 = .ok (.invokestatic 105, 3) := by decide +kernel
theorem dX1_wholes_13 : decode cX1_wholes 13 = .ok (.lreturn, 1) := by decide +kernel
theorem dX1_leanOfPower_0 : decode cX1_leanOfPower 0 = .ok (.lload_n 2, 1) := by decide +kernel
theorem dX1_leanOfPower_1 : decode cX1_leanOfPower 1 = .ok (.lconst 1, 1) := by decide +kernel
theorem dX1_leanOfPower_2 : decode cX1_leanOfPower 2 = .ok (.lcmp, 1) := by decide +kernel
theorem dX1_leanOfPower_3 : decode cX1_leanOfPower 3 = .ok (.ifCond .ne 8, 3) := by decide +kernel
theorem dX1_leanOfPower_6 : decode cX1_leanOfPower 6 = .ok (.lload 4, 2) := by decide +kernel
theorem dX1_leanOfPower_8 : decode cX1_leanOfPower 8 = .ok (.goto 22, 3) := by decide +kernel
theorem dX1_leanOfPower_11 : decode cX1_leanOfPower 11 = .ok (.lload_n 2, 1) := by decide +kernel
theorem dX1_leanOfPower_12 : decode cX1_leanOfPower 12 = .ok (.invokestatic 166, 3) := by decide +kernel
theorem dX1_leanOfPower_15 : decode cX1_leanOfPower 15 = .ok (.lload_n 0, 1) := by decide +kernel
theorem dX1_leanOfPower_16 : decode cX1_leanOfPower 16 = .ok (.lload_n 2, 1) := by decide +kernel
theorem dX1_leanOfPower_17 : decode cX1_leanOfPower 17 = .ok (.lconst 1, 1) := by decide +kernel
theorem dX1_leanOfPower_18 : decode cX1_leanOfPower 18 = .ok (.lsub, 1) := by decide +kernel
theorem dX1_leanOfPower_19 : decode cX1_leanOfPower 19 = .ok (.invokestatic 127, 3) := by decide +kernel
theorem dX1_leanOfPower_22 : decode cX1_leanOfPower 22 = .ok (.invokestatic 160, 3) := by decide +kernel
theorem dX1_leanOfPower_25 : decode cX1_leanOfPower 25 = .ok (.lload 4, 2) := by decide +kernel
theorem dX1_leanOfPower_27 : decode cX1_leanOfPower 27 = .ok (.invokestatic 160, 3) := by decide +kernel
theorem dX1_leanOfPower_30 : decode cX1_leanOfPower 30 = .ok (.lreturn, 1) := by decide +kernel
theorem dX1_leanOfSize_0 : decode cX1_leanOfSize 0 = .ok (.lload_n 0, 1) := by decide +kernel
theorem dX1_leanOfSize_1 : decode cX1_leanOfSize 1 = .ok (.invokestatic 187, 3) := by decide +kernel
theorem dX1_leanOfSize_4 : decode cX1_leanOfSize 4 = .ok (.lconst 0, 1) := by decide +kernel
theorem dX1_leanOfSize_5 : decode cX1_leanOfSize 5 = .ok (.lcmp, 1) := by decide +kernel
theorem dX1_leanOfSize_6 : decode cX1_leanOfSize 6 = .ok (.ifCond .lt 5, 3) := by decide +kernel
theorem dX1_leanOfSize_9 : decode cX1_leanOfSize 9 = .ok (.lload_n 2, 1) := by decide +kernel
theorem dX1_leanOfSize_10 : decode cX1_leanOfSize 10 = .ok (.lreturn, 1) := by decide +kernel
theorem dX1_leanOfSize_11 : decode cX1_leanOfSize 11 = .ok (.lload_n 0, 1) := by decide +kernel
theorem dX1_leanOfSize_12 : decode cX1_leanOfSize 12 = .ok (.invokestatic 190, 3) := by decide +kernel
theorem dX1_leanOfSize_15 : decode cX1_leanOfSize 15 = .ok (.lconst 0, 1) := by decide +kernel
theorem dX1_leanOfSize_16 : decode cX1_leanOfSize 16 = .ok (.lcmp, 1) := by decide +kernel
theorem dX1_leanOfSize_17 : decode cX1_leanOfSize 17 = .ok (.ifCond .gt 10, 3) := by decide +kernel
theorem dX1_leanOfSize_20 : decode cX1_leanOfSize 20 = .ok (.lload_n 2, 1) := by decide +kernel
theorem dX1_leanOfSize_21 : decode cX1_leanOfSize 21 = .ok (.invokestatic 123, 3) := by decide +kernel
theorem dX1_leanOfSize_24 : decode cX1_leanOfSize 24 = .ok (.goto 11, 3) := by decide +kernel
theorem dX1_leanOfSize_27 : decode cX1_leanOfSize 27 = .ok (.lload_n 2, 1) := by decide +kernel
theorem dX1_leanOfSize_28 : decode cX1_leanOfSize 28 = .ok (.lload_n 2, 1) := by decide +kernel
theorem dX1_leanOfSize_29 : decode cX1_leanOfSize 29 = .ok (.invokestatic 123, 3) := by decide +kernel
theorem dX1_leanOfSize_32 : decode cX1_leanOfSize 32 = .ok (.invokestatic 182, 3) := by decide +kernel
theorem dX1_leanOfSize_35 : decode cX1_leanOfSize 35 = .ok (.lreturn, 1) := by decide +kernel
