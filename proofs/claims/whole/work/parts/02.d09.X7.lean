theorem dX7_init_0 : decode cX7_init 0 = .ok (.aload_n 0, 1) := by decide +kernel
theorem dX7_init_1 : decode cX7_init 1 = .ok (.invokespecial 1, 3) := by decide +kernel
theorem dX7_init_4 : decode cX7_init 4 = .ok (.aload_n 0, 1) := by decide +kernel
theorem dX7_init_5 : decode cX7_init 5 = .ok (.bipush 64, 2) := by decide +kernel
theorem dX7_init_7 : decode cX7_init 7 = .ok (.newarray .int, 2) := by decide +kernel
theorem dX7_init_9 : decode cX7_init 9 = .ok (.putfield 9, 3) := by decide +kernel
theorem dX7_init_12 : decode cX7_init 12 = .ok (.aload_n 0, 1) := by decide +kernel
theorem dX7_init_13 : decode cX7_init 13 = .ok (.bipush 60, 2) := by decide +kernel
theorem dX7_init_15 : decode cX7_init 15 = .ok (.newarray .int, 2) := by decide +kernel
theorem dX7_init_17 : decode cX7_init 17 = .ok (.putfield 13, 3) := by decide +kernel
theorem dX7_init_20 : decode cX7_init 20 = .ok (.aload_n 0, 1) := by decide +kernel
theorem dX7_init_21 : decode cX7_init 21 = .ok (.bipush 60, 2) := by decide +kernel
theorem dX7_init_23 : decode cX7_init 23 = .ok (.newarray .int, 2) := by decide +kernel
theorem dX7_init_25 : decode cX7_init 25 = .ok (.putfield 16, 3) := by decide +kernel
theorem dX7_init_28 : decode cX7_init 28 = .ok (.aload_n 0, 1) := by decide +kernel
theorem dX7_init_29 : decode cX7_init 29 = .ok (.bipush 60, 2) := by decide +kernel
theorem dX7_init_31 : decode cX7_init 31 = .ok (.newarray .int, 2) := by decide +kernel
theorem dX7_init_33 : decode cX7_init 33 = .ok (.putfield 19, 3) := by decide +kernel
theorem dX7_init_36 : decode cX7_init 36 = .ok (.return_, 1) := by decide +kernel
theorem dX7_seekRoots_0 : decode cX7_seekRoots 0 = .ok (.iload_n 3, 1) := by decide +kernel
theorem dX7_seekRoots_1 : decode cX7_seekRoots 1 = .ok (.istore 6, 2) := by decide +kernel
theorem dX7_seekRoots_3 : decode cX7_seekRoots 3 = .ok (.aload_n 0, 1) := by decide +kernel
theorem dX7_seekRoots_4 : decode cX7_seekRoots 4 = .ok (.iconst 0, 1) := by decide +kernel
theorem dX7_seekRoots_5 : decode cX7_seekRoots 5 = .ok (.putfield 22, 3) := by decide +kernel
theorem dX7_seekRoots_8 : decode cX7_seekRoots 8 = .ok (.aload_n 0, 1) := by decide +kernel
theorem dX7_seekRoots_9 : decode cX7_seekRoots 9 = .ok (.iconst 0, 1) := by decide +kernel
theorem dX7_seekRoots_10 : decode cX7_seekRoots 10 = .ok (.putfield 26, 3) := by decide +kernel
theorem dX7_seekRoots_13 : decode cX7_seekRoots 13 = .ok (.aload_n 0, 1) := by decide +kernel
theorem dX7_seekRoots_14 : decode cX7_seekRoots 14 = .ok (.iload 4, 2) := by decide +kernel
theorem dX7_seekRoots_16 : decode cX7_seekRoots 16 = .ok (.invokevirtual 29, 3) := by decide +kernel
theorem dX7_seekRoots_19 : decode cX7_seekRoots 19 = .ok (.lconst 0, 1) := by decide +kernel
theorem dX7_seekRoots_20 : decode cX7_seekRoots 20 = .ok (.lstore 7, 2) := by decide +kernel
theorem dX7_seekRoots_22 : decode cX7_seekRoots 22 = .ok (.lload 7, 2) := by decide +kernel
theorem dX7_seekRoots_24 : decode cX7_seekRoots 24 = .ok (.ldc2_w 33, 3) := by decide +kernel
theorem dX7_seekRoots_27 : decode cX7_seekRoots 27 = .ok (.lcmp, 1) := by decide +kernel
theorem dX7_seekRoots_28 : decode cX7_seekRoots 28 = .ok (.ifCond .ge 131, 3) := by decide +kernel
theorem dX7_seekRoots_31 : decode cX7_seekRoots 31 = .ok (.aload_n 0, 1) := by decide +kernel
theorem dX7_seekRoots_32 : decode cX7_seekRoots 32 = .ok (.getfield 26, 3) := by decide +kernel
theorem dX7_seekRoots_35 : decode cX7_seekRoots 35 = .ok (.ifCond .le 124, 3) := by decide +kernel
theorem dX7_seekRoots_38 : decode cX7_seekRoots 38 = .ok (.aload_n 0, 1) := by decide +kernel
theorem dX7_seekRoots_39 : decode cX7_seekRoots 39 = .ok (.invokevirtual 35, 3) := by decide +kernel
theorem dX7_seekRoots_42 : decode cX7_seekRoots 42 = .ok (.istore 9, 2) := by decide +kernel
theorem dX7_seekRoots_44 : decode cX7_seekRoots 44 = .ok (.aload_n 1, 1) := by decide +kernel
theorem dX7_seekRoots_45 : decode cX7_seekRoots 45 = .ok (.iload_n 2, 1) := by decide +kernel
theorem dX7_seekRoots_46 : decode cX7_seekRoots 46 = .ok (.iload 6, 2) := by decide +kernel
theorem dX7_seekRoots_48 : decode cX7_seekRoots 48 = .ok (.iload 9, 2) := by decide +kernel
theorem dX7_seekRoots_50 : decode cX7_seekRoots 50 = .ok (.invokestatic 39, 3) := by decide +kernel
theorem dX7_seekRoots_53 : decode cX7_seekRoots 53 = .ok (.istore 10, 2) := by decide +kernel
theorem dX7_seekRoots_55 : decode cX7_seekRoots 55 = .ok (.iload 9, 2) := by decide +kernel
theorem dX7_seekRoots_57 : decode cX7_seekRoots 57 = .ok (.i2l, 1) := by decide +kernel
theorem dX7_seekRoots_58 : decode cX7_seekRoots 58 = .ok (.iload 6, 2) := by decide +kernel
theorem dX7_seekRoots_60 : decode cX7_seekRoots 60 = .ok (.i2l, 1) := by decide +kernel
theorem dX7_seekRoots_61 : decode cX7_seekRoots 61 = .ok (.lsub, 1) := by decide +kernel
theorem dX7_seekRoots_62 : decode cX7_seekRoots 62 = .ok (.iload 5, 2) := by decide +kernel
theorem dX7_seekRoots_64 : decode cX7_seekRoots 64 = .ok (.i2l, 1) := by decide +kernel
theorem dX7_seekRoots_65 : decode cX7_seekRoots 65 = .ok (.lcmp, 1) := by decide +kernel
theorem dX7_seekRoots_66 : decode cX7_seekRoots 66 = .ok (.ifCond .le 19, 3) := by decide +kernel
theorem dX7_seekRoots_69 : decode cX7_seekRoots 69 = .ok (.aload_n 0, 1) := by decide +kernel
theorem dX7_seekRoots_70 : decode cX7_seekRoots 70 = .ok (.getfield 22, 3) := by decide +kernel
theorem dX7_seekRoots_73 : decode cX7_seekRoots 73 = .ok (.aload_n 0, 1) := by decide +kernel
theorem dX7_seekRoots_74 : decode cX7_seekRoots 74 = .ok (.getfield 26, 3) := by decide +kernel
theorem dX7_seekRoots_77 : decode cX7_seekRoots 77 = .ok (.iadd, 1) := by decide +kernel
theorem dX7_seekRoots_78 : decode cX7_seekRoots 78 = .ok (.iconst 1, 1) := by decide +kernel
theorem dX7_seekRoots_79 : decode cX7_seekRoots 79 = .ok (.isub, 1) := by decide +kernel
theorem dX7_seekRoots_80 : decode cX7_seekRoots 80 = .ok (.bipush 59, 2) := by decide +kernel
theorem dX7_seekRoots_82 : decode cX7_seekRoots 82 = .ok (.if_icmp .lt 7, 3) := by decide +kernel
theorem dX7_seekRoots_85 : decode cX7_seekRoots 85 = .ok (.iconst 1, 1) := by decide +kernel
theorem dX7_seekRoots_86 : decode cX7_seekRoots 86 = .ok (.goto 4, 3) := by decide +kernel
theorem dX7_seekRoots_89 : decode cX7_seekRoots 89 = .ok (.iconst 0, 1) := by decide +kernel
theorem dX7_seekRoots_90 : decode cX7_seekRoots 90 = .ok (.istore 11, 2) := by decide +kernel
theorem dX7_seekRoots_92 : decode cX7_seekRoots 92 = .ok (.iload 10, 2) := by decide +kernel
theorem dX7_seekRoots_94 : decode cX7_seekRoots 94 = .ok (.iconst 2, 1) := by decide +kernel
theorem dX7_seekRoots_95 : decode cX7_seekRoots 95 = .ok (.if_icmp .ne 31, 3) := by decide +kernel
theorem dX7_seekRoots_98 : decode cX7_seekRoots 98 = .ok (.iload 11, 2) := by decide +kernel
theorem dX7_seekRoots_100 : decode cX7_seekRoots 100 = .ok (.ifCond .ne 26, 3) := by decide +kernel
theorem dX7_seekRoots_103 : decode cX7_seekRoots 103 = .ok (.aload_n 0, 1) := by decide +kernel
theorem dX7_seekRoots_104 : decode cX7_seekRoots 104 = .ok (.getfield 26, 3) := by decide +kernel
theorem dX7_seekRoots_107 : decode cX7_seekRoots 107 = .ok (.bipush 64, 2) := by decide +kernel
theorem dX7_seekRoots_109 : decode cX7_seekRoots 109 = .ok (.if_icmp .ge 17, 3) := by decide +kernel
theorem dX7_seekRoots_112 : decode cX7_seekRoots 112 = .ok (.aload_n 0, 1) := by decide +kernel
theorem dX7_seekRoots_113 : decode cX7_seekRoots 113 = .ok (.iload 6, 2) := by decide +kernel
theorem dX7_seekRoots_115 : decode cX7_seekRoots 115 = .ok (.iload 9, 2) := by decide +kernel
theorem dX7_seekRoots_117 : decode cX7_seekRoots 117 = .ok (.invokestatic 43, 3) := by decide +kernel
theorem dX7_seekRoots_120 : decode cX7_seekRoots 120 = .ok (.invokevirtual 29, 3) := by decide +kernel
theorem dX7_seekRoots_123 : decode cX7_seekRoots 123 = .ok (.goto 27, 3) := by decide +kernel
theorem dX7_seekRoots_126 : decode cX7_seekRoots 126 = .ok (.aload_n 0, 1) := by decide +kernel
theorem dX7_seekRoots_127 : decode cX7_seekRoots 127 = .ok (.iload 6, 2) := by decide +kernel
theorem dX7_seekRoots_129 : decode cX7_seekRoots 129 = .ok (.iload 9, 2) := by decide +kernel
theorem dX7_seekRoots_131 : decode cX7_seekRoots 131 = .ok (.iload 10, 2) := by decide +kernel
theorem dX7_seekRoots_133 : decode cX7_seekRoots 133 = .ok (.invokevirtual 49, 3) := by decide +kernel
theorem dX7_seekRoots_136 : decode cX7_seekRoots 136 = .ok (.iload 9, 2) := by decide +kernel
theorem dX7_seekRoots_138 : decode cX7_seekRoots 138 = .ok (.istore 6, 2) := by decide +kernel
theorem dX7_seekRoots_140 : decode cX7_seekRoots 140 = .ok (.aload_n 0, 1) := by decide +kernel
theorem dX7_seekRoots_141 : decode cX7_seekRoots 141 = .ok (.dup, 1) := by decide +kernel
theorem dX7_seekRoots_142 : decode cX7_seekRoots 142 = .ok (.getfield 26, 3) := by decide +kernel
theorem dX7_seekRoots_145 : decode cX7_seekRoots 145 = .ok (.iconst 1, 1) := by decide +kernel
theorem dX7_seekRoots_146 : decode cX7_seekRoots 146 = .ok (.isub, 1) := by decide +kernel
theorem dX7_seekRoots_147 : decode cX7_seekRoots 147 = .ok (.putfield 26, 3) := by decide +kernel
theorem dX7_seekRoots_150 : decode cX7_seekRoots 150 = .ok (.lload 7, 2) := by decide +kernel
theorem dX7_seekRoots_152 : decode cX7_seekRoots 152 = .ok (.lconst 1, 1) := by decide +kernel
theorem dX7_seekRoots_153 : decode cX7_seekRoots 153 = .ok (.ladd, 1) := by decide +kernel
theorem dX7_seekRoots_154 : decode cX7_seekRoots 154 = .ok (.lstore 7, 2) := by decide +kernel
theorem dX7_seekRoots_156 : decode cX7_seekRoots 156 = .ok (.goto (-134), 3) := by decide +kernel
theorem dX7_seekRoots_159 : decode cX7_seekRoots 159 = .ok (.return_, 1) := by decide +kernel
theorem dX7_lookAt_0 : decode cX7_lookAt 0 = .ok (.aload_n 0, 1) := by decide +kernel
theorem dX7_lookAt_1 : decode cX7_lookAt 1 = .ok (.iload_n 1, 1) := by decide +kernel
theorem dX7_lookAt_2 : decode cX7_lookAt 2 = .ok (.iload_n 2, 1) := by decide +kernel
theorem dX7_lookAt_3 : decode cX7_lookAt 3 = .ok (.iload_n 3, 1) := by decide +kernel
theorem dX7_lookAt_4 : decode cX7_lookAt 4 = .ok (.iconst 1, 1) := by decide +kernel
theorem dX7_lookAt_5 : decode cX7_lookAt 5 = .ok (.invokevirtual 53, 3) := by decide +kernel
theorem dX7_lookAt_8 : decode cX7_lookAt 8 = .ok (.lstore 4, 2) := by decide +kernel
theorem dX7_lookAt_10 : decode cX7_lookAt 10 = .ok (.lload 4, 2) := by decide +kernel
theorem dX7_lookAt_12 : decode cX7_lookAt 12 = .ok (.invokestatic 59, 3) := by decide +kernel
theorem dX7_lookAt_15 : decode cX7_lookAt 15 = .ok (.ifCond .eq 5, 3) := by decide +kernel
theorem dX7_lookAt_18 : decode cX7_lookAt 18 = .ok (.iconst 0, 1) := by decide +kernel
theorem dX7_lookAt_19 : decode cX7_lookAt 19 = .ok (.ireturn, 1) := by decide +kernel
theorem dX7_lookAt_20 : decode cX7_lookAt 20 = .ok (.aload_n 0, 1) := by decide +kernel
theorem dX7_lookAt_21 : decode cX7_lookAt 21 = .ok (.getfield 65, 3) := by decide +kernel
theorem dX7_lookAt_24 : decode cX7_lookAt 24 = .ok (.invokestatic 59, 3) := by decide +kernel
theorem dX7_lookAt_27 : decode cX7_lookAt 27 = .ok (.ifCond .ne 5, 3) := by decide +kernel
theorem dX7_lookAt_30 : decode cX7_lookAt 30 = .ok (.iconst 2, 1) := by decide +kernel
theorem dX7_lookAt_31 : decode cX7_lookAt 31 = .ok (.ireturn, 1) := by decide +kernel
theorem dX7_lookAt_32 : decode cX7_lookAt 32 = .ok (.aload_n 0, 1) := by decide +kernel
theorem dX7_lookAt_33 : decode cX7_lookAt 33 = .ok (.iload_n 1, 1) := by decide +kernel
theorem dX7_lookAt_34 : decode cX7_lookAt 34 = .ok (.iload_n 2, 1) := by decide +kernel
theorem dX7_lookAt_35 : decode cX7_lookAt 35 = .ok (.iload_n 2, 1) := by decide +kernel
theorem dX7_lookAt_36 : decode cX7_lookAt 36 = .ok (.iconst 0, 1) := by decide +kernel
theorem dX7_lookAt_37 : decode cX7_lookAt 37 = .ok (.invokevirtual 53, 3) := by decide +kernel
theorem dX7_lookAt_40 : decode cX7_lookAt 40 = .ok (.lstore 6, 2) := by decide +kernel
theorem dX7_lookAt_42 : decode cX7_lookAt 42 = .ok (.aload_n 0, 1) := by decide +kernel
theorem dX7_lookAt_43 : decode cX7_lookAt 43 = .ok (.iload_n 1, 1) := by decide +kernel
theorem dX7_lookAt_44 : decode cX7_lookAt 44 = .ok (.iload_n 3, 1) := by decide +kernel
theorem dX7_lookAt_45 : decode cX7_lookAt 45 = .ok (.iload_n 3, 1) := by decide +kernel
theorem dX7_lookAt_46 : decode cX7_lookAt 46 = .ok (.iconst 0, 1) := by decide +kernel
theorem dX7_lookAt_47 : decode cX7_lookAt 47 = .ok (.invokevirtual 53, 3) := by decide +kernel
theorem dX7_lookAt_50 : decode cX7_lookAt 50 = .ok (.lstore 8, 2) := by decide +kernel
theorem dX7_lookAt_52 : decode cX7_lookAt 52 = .ok (.lload 6, 2) := by decide +kernel
theorem dX7_lookAt_54 : decode cX7_lookAt 54 = .ok (.invokestatic 59, 3) := by decide +kernel
theorem dX7_lookAt_57 : decode cX7_lookAt 57 = .ok (.ifCond .eq 48, 3) := by decide +kernel
theorem dX7_lookAt_60 : decode cX7_lookAt 60 = .ok (.lload 8, 2) := by decide +kernel
theorem dX7_lookAt_62 : decode cX7_lookAt 62 = .ok (.invokestatic 59, 3) := by decide +kernel
theorem dX7_lookAt_65 : decode cX7_lookAt 65 = .ok (.ifCond .eq 40, 3) := by decide +kernel
theorem dX7_lookAt_68 : decode cX7_lookAt 68 = .ok (.lload 6, 2) := by decide +kernel
theorem dX7_lookAt_70 : decode cX7_lookAt 70 = .ok (.invokestatic 69, 3) := by decide +kernel
theorem dX7_lookAt_73 : decode cX7_lookAt 73 = .ok (.lconst 0, 1) := by decide +kernel
theorem dX7_lookAt_74 : decode cX7_lookAt 74 = .ok (.lcmp, 1) := by decide +kernel
theorem dX7_lookAt_75 : decode cX7_lookAt 75 = .ok (.ifCond .le 7, 3) := by decide +kernel
theorem dX7_lookAt_78 : decode cX7_lookAt 78 = .ok (.iconst 1, 1) := by decide +kernel
theorem dX7_lookAt_79 : decode cX7_lookAt 79 = .ok (.goto 4, 3) := by decide +kernel
theorem dX7_lookAt_82 : decode cX7_lookAt 82 = .ok (.iconst 0, 1) := by decide +kernel
theorem dX7_lookAt_83 : decode cX7_lookAt 83 = .ok (.lload 8, 2) := by decide +kernel
theorem dX7_lookAt_85 : decode cX7_lookAt 85 = .ok (.invokestatic 69, 3) := by decide +kernel
theorem dX7_lookAt_88 : decode cX7_lookAt 88 = .ok (.lconst 0, 1) := by decide +kernel
theorem dX7_lookAt_89 : decode cX7_lookAt 89 = .ok (.lcmp, 1) := by decide +kernel
theorem dX7_lookAt_90 : decode cX7_lookAt 90 = .ok (.ifCond .le 7, 3) := by decide +kernel
theorem dX7_lookAt_93 : decode cX7_lookAt 93 = .ok (.iconst 1, 1) := by decide +kernel
theorem dX7_lookAt_94 : decode cX7_lookAt 94 = .ok (.goto 4, 3) := by decide +kernel
theorem dX7_lookAt_97 : decode cX7_lookAt 97 = .ok (.iconst 0, 1) := by decide +kernel
theorem dX7_lookAt_98 : decode cX7_lookAt 98 = .ok (.if_icmp .eq 7, 3) := by decide +kernel
theorem dX7_lookAt_101 : decode cX7_lookAt 101 = .ok (.iconst 1, 1) := by decide +kernel
theorem dX7_lookAt_102 : decode cX7_lookAt 102 = .ok (.goto 4, 3) := by decide +kernel
theorem dX7_lookAt_105 : decode cX7_lookAt 105 = .ok (.iconst 0, 1) := by decide +kernel
theorem dX7_lookAt_106 : decode cX7_lookAt 106 = .ok (.istore 10, 2) := by decide +kernel
theorem dX7_lookAt_108 : decode cX7_lookAt 108 = .ok (.iload 10, 2) := by decide +kernel
theorem dX7_lookAt_110 : decode cX7_lookAt 110 = .ok (.ifCond .eq 7, 3) := by decide +kernel
theorem dX7_lookAt_113 : decode cX7_lookAt 113 = .ok (.iconst 1, 1) := by decide +kernel
theorem dX7_lookAt_114 : decode cX7_lookAt 114 = .ok (.goto 4, 3) := by decide +kernel
theorem dX7_lookAt_117 : decode cX7_lookAt 117 = .ok (.iconst 2, 1) := by decide +kernel
theorem dX7_lookAt_118 : decode cX7_lookAt 118 = .ok (.ireturn, 1) := by decide +kernel
theorem dX7_keep_0 : decode cX7_keep 0 = .ok (.aload_n 0, 1) := by decide +kernel
theorem dX7_keep_1 : decode cX7_keep 1 = .ok (.getfield 22, 3) := by decide +kernel
theorem dX7_keep_4 : decode cX7_keep 4 = .ok (.iconst 1, 1) := by decide +kernel
theorem dX7_keep_5 : decode cX7_keep 5 = .ok (.isub, 1) := by decide +kernel
theorem dX7_keep_6 : decode cX7_keep 6 = .ok (.istore 4, 2) := by decide +kernel
theorem dX7_keep_8 : decode cX7_keep 8 = .ok (.iload_n 3, 1) := by decide +kernel
theorem dX7_keep_9 : decode cX7_keep 9 = .ok (.ifCond .ne 36, 3) := by decide +kernel
theorem dX7_keep_12 : decode cX7_keep 12 = .ok (.iload 4, 2) := by decide +kernel
theorem dX7_keep_14 : decode cX7_keep 14 = .ok (.ifCond .lt 31, 3) := by decide +kernel
theorem dX7_keep_17 : decode cX7_keep 17 = .ok (.iload 4, 2) := by decide +kernel
theorem dX7_keep_19 : decode cX7_keep 19 = .ok (.bipush 60, 2) := by decide +kernel
theorem dX7_keep_21 : decode cX7_keep 21 = .ok (.if_icmp .ge 24, 3) := by decide +kernel
theorem dX7_keep_24 : decode cX7_keep 24 = .ok (.aload_n 0, 1) := by decide +kernel
theorem dX7_keep_25 : decode cX7_keep 25 = .ok (.getfield 19, 3) := by decide +kernel
theorem dX7_keep_28 : decode cX7_keep 28 = .ok (.iload 4, 2) := by decide +kernel
theorem dX7_keep_30 : decode cX7_keep 30 = .ok (.iaload, 1) := by decide +kernel
theorem dX7_keep_31 : decode cX7_keep 31 = .ok (.ifCond .ne 14, 3) := by decide +kernel
theorem dX7_keep_34 : decode cX7_keep 34 = .ok (.aload_n 0, 1) := by decide +kernel
theorem dX7_keep_35 : decode cX7_keep 35 = .ok (.getfield 16, 3) := by decide +kernel
theorem dX7_keep_38 : decode cX7_keep 38 = .ok (.iload 4, 2) := by decide +kernel
theorem dX7_keep_40 : decode cX7_keep 40 = .ok (.iload_n 2, 1) := by decide +kernel
theorem dX7_keep_41 : decode cX7_keep 41 = .ok (.iastore, 1) := by decide +kernel
theorem dX7_keep_42 : decode cX7_keep 42 = .ok (.goto 59, 3) := by decide +kernel
theorem dX7_keep_45 : decode cX7_keep 45 = .ok (.aload_n 0, 1) := by decide +kernel
theorem dX7_keep_46 : decode cX7_keep 46 = .ok (.getfield 22, 3) := by decide +kernel
theorem dX7_keep_49 : decode cX7_keep 49 = .ok (.ifCond .lt 52, 3) := by decide +kernel
theorem dX7_keep_52 : decode cX7_keep 52 = .ok (.aload_n 0, 1) := by decide +kernel
theorem dX7_keep_53 : decode cX7_keep 53 = .ok (.getfield 22, 3) := by decide +kernel
theorem dX7_keep_56 : decode cX7_keep 56 = .ok (.bipush 60, 2) := by decide +kernel
theorem dX7_keep_58 : decode cX7_keep 58 = .ok (.if_icmp .ge 43, 3) := by decide +kernel
theorem dX7_keep_61 : decode cX7_keep 61 = .ok (.aload_n 0, 1) := by decide +kernel
theorem dX7_keep_62 : decode cX7_keep 62 = .ok (.getfield 13, 3) := by decide +kernel
theorem dX7_keep_65 : decode cX7_keep 65 = .ok (.aload_n 0, 1) := by decide +kernel
theorem dX7_keep_66 : decode cX7_keep 66 = .ok (.getfield 22, 3) := by decide +kernel
theorem dX7_keep_69 : decode cX7_keep 69 = .ok (.iload_n 1, 1) := by decide +kernel
theorem dX7_keep_70 : decode cX7_keep 70 = .ok (.iastore, 1) := by decide +kernel
theorem dX7_keep_71 : decode cX7_keep 71 = .ok (.aload_n 0, 1) := by decide +kernel
theorem dX7_keep_72 : decode cX7_keep 72 = .ok (.getfield 16, 3) := by decide +kernel
theorem dX7_keep_75 : decode cX7_keep 75 = .ok (.aload_n 0, 1) := by decide +kernel
theorem dX7_keep_76 : decode cX7_keep 76 = .ok (.getfield 22, 3) := by decide +kernel
theorem dX7_keep_79 : decode cX7_keep 79 = .ok (.iload_n 2, 1) := by decide +kernel
theorem dX7_keep_80 : decode cX7_keep 80 = .ok (.iastore, 1) := by decide +kernel
theorem dX7_keep_81 : decode cX7_keep 81 = .ok (.aload_n 0, 1) := by decide +kernel
theorem dX7_keep_82 : decode cX7_keep 82 = .ok (.getfield 19, 3) := by decide +kernel
theorem dX7_keep_85 : decode cX7_keep 85 = .ok (.aload_n 0, 1) := by decide +kernel
theorem dX7_keep_86 : decode cX7_keep 86 = .ok (.getfield 22, 3) := by decide +kernel
theorem dX7_keep_89 : decode cX7_keep 89 = .ok (.iload_n 3, 1) := by decide +kernel
theorem dX7_keep_90 : decode cX7_keep 90 = .ok (.iastore, 1) := by decide +kernel
theorem dX7_keep_91 : decode cX7_keep 91 = .ok (.aload_n 0, 1) := by decide +kernel
theorem dX7_keep_92 : decode cX7_keep 92 = .ok (.dup, 1) := by decide +kernel
theorem dX7_keep_93 : decode cX7_keep 93 = .ok (.getfield 22, 3) := by decide +kernel
theorem dX7_keep_96 : decode cX7_keep 96 = .ok (.iconst 1, 1) := by decide +kernel
theorem dX7_keep_97 : decode cX7_keep 97 = .ok (.iadd, 1) := by decide +kernel
theorem dX7_keep_98 : decode cX7_keep 98 = .ok (.putfield 22, 3) := by decide +kernel
theorem dX7_keep_101 : decode cX7_keep 101 = .ok (.return_, 1) := by decide +kernel
theorem dX7_tellPart_0 : decode cX7_tellPart 0 = .ok (.iload_n 1, 1) := by decide +kernel
theorem dX7_tellPart_1 : decode cX7_tellPart 1 = .ok (.ifCond .lt 17, 3) := by decide +kernel
theorem dX7_tellPart_4 : decode cX7_tellPart 4 = .ok (.iload_n 1, 1) := by decide +kernel
theorem dX7_tellPart_5 : decode cX7_tellPart 5 = .ok (.aload_n 0, 1) := by decide +kernel
theorem dX7_tellPart_6 : decode cX7_tellPart 6 = .ok (.getfield 22, 3) := by decide +kernel
theorem dX7_tellPart_9 : decode cX7_tellPart 9 = .ok (.if_icmp .ge 9, 3) := by decide +kernel
theorem dX7_tellPart_12 : decode cX7_tellPart 12 = .ok (.iload_n 1, 1) := by decide +kernel
theorem dX7_tellPart_13 : decode cX7_tellPart 13 = .ok (.bipush 60, 2) := by decide +kernel
theorem dX7_tellPart_15 : decode cX7_tellPart 15 = .ok (.if_icmp .lt 5, 3) := by decide +kernel
theorem dX7_tellPart_18 : decode cX7_tellPart 18 = .ok (.iconst 0, 1) := by decide +kernel
theorem dX7_tellPart_19 : decode cX7_tellPart 19 = .ok (.ireturn, 1) := by decide +kernel
theorem dX7_tellPart_20 : decode cX7_tellPart 20 = .ok (.iload_n 2, 1) := by decide +kernel
theorem dX7_tellPart_21 : decode cX7_tellPart 21 = .ok (.tableswitch 48 0 2 #[27, 34, 41], 27) := by decide +kernel
theorem dX7_tellPart_48 : decode cX7_tellPart 48 = .ok (.aload_n 0, 1) := by decide +kernel
theorem dX7_tellPart_49 : decode cX7_tellPart 49 = .ok (.getfield 13, 3) := by decide +kernel
theorem dX7_tellPart_52 : decode cX7_tellPart 52 = .ok (.iload_n 1, 1) := by decide +kernel
theorem dX7_tellPart_53 : decode cX7_tellPart 53 = .ok (.iaload, 1) := by decide +kernel
theorem dX7_tellPart_54 : decode cX7_tellPart 54 = .ok (.ireturn, 1) := by decide +kernel
theorem dX7_tellPart_55 : decode cX7_tellPart 55 = .ok (.aload_n 0, 1) := by decide +kernel
theorem dX7_tellPart_56 : decode cX7_tellPart 56 = .ok (.getfield 16, 3) := by decide +kernel
theorem dX7_tellPart_59 : decode cX7_tellPart 59 = .ok (.iload_n 1, 1) := by decide +kernel
theorem dX7_tellPart_60 : decode cX7_tellPart 60 = .ok (.iaload, 1) := by decide +kernel
theorem dX7_tellPart_61 : decode cX7_tellPart 61 = .ok (.ireturn, 1) := by decide +kernel
theorem dX7_tellPart_62 : decode cX7_tellPart 62 = .ok (.aload_n 0, 1) := by decide +kernel
theorem dX7_tellPart_63 : decode cX7_tellPart 63 = .ok (.getfield 19, 3) := by decide +kernel
theorem dX7_tellPart_66 : decode cX7_tellPart 66 = .ok (.iload_n 1, 1) := by decide +kernel
theorem dX7_tellPart_67 : decode cX7_tellPart 67 = .ok (.iaload, 1) := by decide +kernel
theorem dX7_tellPart_68 : decode cX7_tellPart 68 = .ok (.ireturn, 1) := by decide +kernel
theorem dX7_tellPart_69 : decode cX7_tellPart 69 = .ok (.iconst 0, 1) := by decide +kernel
theorem dX7_tellPart_70 : decode cX7_tellPart 70 = .ok (.ireturn, 1) := by decide +kernel
theorem dX7_seekBreak_0 : decode cX7_seekBreak 0 = .ok (.iload_n 3, 1) := by decide +kernel
theorem dX7_seekBreak_1 : decode cX7_seekBreak 1 = .ok (.istore 7, 2) := by decide +kernel
theorem dX7_seekBreak_3 : decode cX7_seekBreak 3 = .ok (.iconst 0, 1) := by decide +kernel
theorem dX7_seekBreak_4 : decode cX7_seekBreak 4 = .ok (.istore 8, 2) := by decide +kernel
theorem dX7_seekBreak_6 : decode cX7_seekBreak 6 = .ok (.aload_n 0, 1) := by decide +kernel
theorem dX7_seekBreak_7 : decode cX7_seekBreak 7 = .ok (.iconst 0, 1) := by decide +kernel
theorem dX7_seekBreak_8 : decode cX7_seekBreak 8 = .ok (.putfield 26, 3) := by decide +kernel
theorem dX7_seekBreak_11 : decode cX7_seekBreak 11 = .ok (.aload_n 0, 1) := by decide +kernel
theorem dX7_seekBreak_12 : decode cX7_seekBreak 12 = .ok (.iload 4, 2) := by decide +kernel
theorem dX7_seekBreak_14 : decode cX7_seekBreak 14 = .ok (.invokevirtual 29, 3) := by decide +kernel
theorem dX7_seekBreak_17 : decode cX7_seekBreak 17 = .ok (.aload_n 0, 1) := by decide +kernel
theorem dX7_seekBreak_18 : decode cX7_seekBreak 18 = .ok (.iconst 0, 1) := by decide +kernel
theorem dX7_seekBreak_19 : decode cX7_seekBreak 19 = .ok (.putfield 73, 3) := by decide +kernel
theorem dX7_seekBreak_22 : decode cX7_seekBreak 22 = .ok (.aload_n 0, 1) := by decide +kernel
theorem dX7_seekBreak_23 : decode cX7_seekBreak 23 = .ok (.getfield 73, 3) := by decide +kernel
theorem dX7_seekBreak_26 : decode cX7_seekBreak 26 = .ok (.iload 6, 2) := by decide +kernel
theorem dX7_seekBreak_28 : decode cX7_seekBreak 28 = .ok (.if_icmp .ge 151, 3) := by decide +kernel
theorem dX7_seekBreak_31 : decode cX7_seekBreak 31 = .ok (.aload_n 0, 1) := by decide +kernel
theorem dX7_seekBreak_32 : decode cX7_seekBreak 32 = .ok (.getfield 26, 3) := by decide +kernel
theorem dX7_seekBreak_35 : decode cX7_seekBreak 35 = .ok (.ifCond .le 144, 3) := by decide +kernel
theorem dX7_seekBreak_38 : decode cX7_seekBreak 38 = .ok (.aload_n 0, 1) := by decide +kernel
theorem dX7_seekBreak_39 : decode cX7_seekBreak 39 = .ok (.invokevirtual 35, 3) := by decide +kernel
theorem dX7_seekBreak_42 : decode cX7_seekBreak 42 = .ok (.istore 9, 2) := by decide +kernel
theorem dX7_seekBreak_44 : decode cX7_seekBreak 44 = .ok (.aload_n 1, 1) := by decide +kernel
theorem dX7_seekBreak_45 : decode cX7_seekBreak 45 = .ok (.iload_n 2, 1) := by decide +kernel
theorem dX7_seekBreak_46 : decode cX7_seekBreak 46 = .ok (.iload 7, 2) := by decide +kernel
theorem dX7_seekBreak_48 : decode cX7_seekBreak 48 = .ok (.iload 9, 2) := by decide +kernel
theorem dX7_seekBreak_50 : decode cX7_seekBreak 50 = .ok (.iconst 0, 1) := by decide +kernel
theorem dX7_seekBreak_51 : decode cX7_seekBreak 51 = .ok (.invokevirtual 53, 3) := by decide +kernel
theorem dX7_seekBreak_54 : decode cX7_seekBreak 54 = .ok (.iload 5, 2) := by decide +kernel
theorem dX7_seekBreak_56 : decode cX7_seekBreak 56 = .ok (.invokestatic 76, 3) := by decide +kernel
theorem dX7_seekBreak_59 : decode cX7_seekBreak 59 = .ok (.istore 10, 2) := by decide +kernel
theorem dX7_seekBreak_61 : decode cX7_seekBreak 61 = .ok (.iload 10, 2) := by decide +kernel
theorem dX7_seekBreak_63 : decode cX7_seekBreak 63 = .ok (.ifCond .ne 30, 3) := by decide +kernel
theorem dX7_seekBreak_66 : decode cX7_seekBreak 66 = .ok (.aload_n 0, 1) := by decide +kernel
theorem dX7_seekBreak_67 : decode cX7_seekBreak 67 = .ok (.aload_n 1, 1) := by decide +kernel
theorem dX7_seekBreak_68 : decode cX7_seekBreak 68 = .ok (.iload_n 2, 1) := by decide +kernel
theorem dX7_seekBreak_69 : decode cX7_seekBreak 69 = .ok (.iload 7, 2) := by decide +kernel
theorem dX7_seekBreak_71 : decode cX7_seekBreak 71 = .ok (.iload 9, 2) := by decide +kernel
theorem dX7_seekBreak_73 : decode cX7_seekBreak 73 = .ok (.iload 5, 2) := by decide +kernel
theorem dX7_seekBreak_75 : decode cX7_seekBreak 75 = .ok (.invokevirtual 80, 3) := by decide +kernel
theorem dX7_seekBreak_78 : decode cX7_seekBreak 78 = .ok (.ifCond .eq 15, 3) := by decide +kernel
theorem dX7_seekBreak_81 : decode cX7_seekBreak 81 = .ok (.aload_n 0, 1) := by decide +kernel
theorem dX7_seekBreak_82 : decode cX7_seekBreak 82 = .ok (.dup, 1) := by decide +kernel
theorem dX7_seekBreak_83 : decode cX7_seekBreak 83 = .ok (.getfield 73, 3) := by decide +kernel
theorem dX7_seekBreak_86 : decode cX7_seekBreak 86 = .ok (.iconst 1, 1) := by decide +kernel
theorem dX7_seekBreak_87 : decode cX7_seekBreak 87 = .ok (.iadd, 1) := by decide +kernel
theorem dX7_seekBreak_88 : decode cX7_seekBreak 88 = .ok (.putfield 73, 3) := by decide +kernel
theorem dX7_seekBreak_91 : decode cX7_seekBreak 91 = .ok (.iconst 0, 1) := by decide +kernel
theorem dX7_seekBreak_92 : decode cX7_seekBreak 92 = .ok (.ireturn, 1) := by decide +kernel
theorem dX7_seekBreak_93 : decode cX7_seekBreak 93 = .ok (.iload 10, 2) := by decide +kernel
theorem dX7_seekBreak_95 : decode cX7_seekBreak 95 = .ok (.ifCond .ne 40, 3) := by decide +kernel
theorem dX7_seekBreak_98 : decode cX7_seekBreak 98 = .ok (.iload 9, 2) := by decide +kernel
theorem dX7_seekBreak_100 : decode cX7_seekBreak 100 = .ok (.i2l, 1) := by decide +kernel
theorem dX7_seekBreak_101 : decode cX7_seekBreak 101 = .ok (.iload 7, 2) := by decide +kernel
theorem dX7_seekBreak_103 : decode cX7_seekBreak 103 = .ok (.i2l, 1) := by decide +kernel
theorem dX7_seekBreak_104 : decode cX7_seekBreak 104 = .ok (.lsub, 1) := by decide +kernel
theorem dX7_seekBreak_105 : decode cX7_seekBreak 105 = .ok (.ldc2_w 84, 3) := by decide +kernel
theorem dX7_seekBreak_108 : decode cX7_seekBreak 108 = .ok (.lcmp, 1) := by decide +kernel
theorem dX7_seekBreak_109 : decode cX7_seekBreak 109 = .ok (.ifCond .lt 26, 3) := by decide +kernel
theorem dX7_seekBreak_112 : decode cX7_seekBreak 112 = .ok (.aload_n 0, 1) := by decide +kernel
theorem dX7_seekBreak_113 : decode cX7_seekBreak 113 = .ok (.getfield 26, 3) := by decide +kernel
theorem dX7_seekBreak_116 : decode cX7_seekBreak 116 = .ok (.bipush 64, 2) := by decide +kernel
theorem dX7_seekBreak_118 : decode cX7_seekBreak 118 = .ok (.if_icmp .ge 17, 3) := by decide +kernel
theorem dX7_seekBreak_121 : decode cX7_seekBreak 121 = .ok (.aload_n 0, 1) := by decide +kernel
theorem dX7_seekBreak_122 : decode cX7_seekBreak 122 = .ok (.iload 7, 2) := by decide +kernel
theorem dX7_seekBreak_124 : decode cX7_seekBreak 124 = .ok (.iload 9, 2) := by decide +kernel
theorem dX7_seekBreak_126 : decode cX7_seekBreak 126 = .ok (.invokestatic 43, 3) := by decide +kernel
theorem dX7_seekBreak_129 : decode cX7_seekBreak 129 = .ok (.invokevirtual 29, 3) := by decide +kernel
theorem dX7_seekBreak_132 : decode cX7_seekBreak 132 = .ok (.goto 34, 3) := by decide +kernel
theorem dX7_seekBreak_135 : decode cX7_seekBreak 135 = .ok (.iload 8, 2) := by decide +kernel
theorem dX7_seekBreak_137 : decode cX7_seekBreak 137 = .ok (.ifCond .ne 8, 3) := by decide +kernel
theorem dX7_seekBreak_140 : decode cX7_seekBreak 140 = .ok (.iload 10, 2) := by decide +kernel
theorem dX7_seekBreak_142 : decode cX7_seekBreak 142 = .ok (.ifCond .ne 7, 3) := by decide +kernel
theorem dX7_seekBreak_145 : decode cX7_seekBreak 145 = .ok (.iconst 1, 1) := by decide +kernel
theorem dX7_seekBreak_146 : decode cX7_seekBreak 146 = .ok (.goto 4, 3) := by decide +kernel
theorem dX7_seekBreak_149 : decode cX7_seekBreak 149 = .ok (.iconst 0, 1) := by decide +kernel
theorem dX7_seekBreak_150 : decode cX7_seekBreak 150 = .ok (.istore 8, 2) := by decide +kernel
theorem dX7_seekBreak_152 : decode cX7_seekBreak 152 = .ok (.iload 9, 2) := by decide +kernel
theorem dX7_seekBreak_154 : decode cX7_seekBreak 154 = .ok (.istore 7, 2) := by decide +kernel
theorem dX7_seekBreak_156 : decode cX7_seekBreak 156 = .ok (.aload_n 0, 1) := by decide +kernel
theorem dX7_seekBreak_157 : decode cX7_seekBreak 157 = .ok (.dup, 1) := by decide +kernel
theorem dX7_seekBreak_158 : decode cX7_seekBreak 158 = .ok (.getfield 26, 3) := by decide +kernel
theorem dX7_seekBreak_161 : decode cX7_seekBreak 161 = .ok (.iconst 1, 1) := by decide +kernel
theorem dX7_seekBreak_162 : decode cX7_seekBreak 162 = .ok (.isub, 1) := by decide +kernel
theorem dX7_seekBreak_163 : decode cX7_seekBreak 163 = .ok (.putfield 26, 3) := by decide +kernel
theorem dX7_seekBreak_166 : decode cX7_seekBreak 166 = .ok (.aload_n 0, 1) := by decide +kernel
theorem dX7_seekBreak_167 : decode cX7_seekBreak 167 = .ok (.dup, 1) := by decide +kernel
theorem dX7_seekBreak_168 : decode cX7_seekBreak 168 = .ok (.getfield 73, 3) := by decide +kernel
theorem dX7_seekBreak_171 : decode cX7_seekBreak 171 = .ok (.iconst 1, 1) := by decide +kernel
theorem dX7_seekBreak_172 : decode cX7_seekBreak 172 = .ok (.iadd, 1) := by decide +kernel
theorem dX7_seekBreak_173 : decode cX7_seekBreak 173 = .ok (.putfield 73, 3) := by decide +kernel
theorem dX7_seekBreak_176 : decode cX7_seekBreak 176 = .ok (.goto (-154), 3) := by decide +kernel
theorem dX7_seekBreak_179 : decode cX7_seekBreak 179 = .ok (.iload 8, 2) := by decide +kernel
theorem dX7_seekBreak_181 : decode cX7_seekBreak 181 = .ok (.ifCond .ne 10, 3) := by decide +kernel
theorem dX7_seekBreak_184 : decode cX7_seekBreak 184 = .ok (.aload_n 0, 1) := by decide +kernel
theorem dX7_seekBreak_185 : decode cX7_seekBreak 185 = .ok (.getfield 26, 3) := by decide +kernel
theorem dX7_seekBreak_188 : decode cX7_seekBreak 188 = .ok (.ifCond .le 7, 3) := by decide +kernel
theorem dX7_seekBreak_191 : decode cX7_seekBreak 191 = .ok (.iconst 2, 1) := by decide +kernel
theorem dX7_seekBreak_192 : decode cX7_seekBreak 192 = .ok (.goto 4, 3) := by decide +kernel
theorem dX7_seekBreak_195 : decode cX7_seekBreak 195 = .ok (.iconst 1, 1) := by decide +kernel
theorem dX7_seekBreak_196 : decode cX7_seekBreak 196 = .ok (.ireturn, 1) := by decide +kernel
theorem dX7_isAbove_0 : decode cX7_isAbove 0 = .ok (.lload_n 0, 1) := by decide +kernel
theorem dX7_isAbove_1 : decode cX7_isAbove 1 = .ok (.ldc2_w 86, 3) := by decide +kernel
theorem dX7_isAbove_4 : decode cX7_isAbove 4 = .ok (.lcmp, 1) := by decide +kernel
theorem dX7_isAbove_5 : decode cX7_isAbove 5 = .ok (.ifCond .eq 17, 3) := by decide +kernel
theorem dX7_isAbove_8 : decode cX7_isAbove 8 = .ok (.lload_n 0, 1) := by decide +kernel
theorem dX7_isAbove_9 : decode cX7_isAbove 9 = .ok (.invokestatic 69, 3) := by decide +kernel
theorem dX7_isAbove_12 : decode cX7_isAbove 12 = .ok (.iload_n 2, 1) := by decide +kernel
theorem dX7_isAbove_13 : decode cX7_isAbove 13 = .ok (.i2l, 1) := by decide +kernel
theorem dX7_isAbove_14 : decode cX7_isAbove 14 = .ok (.lcmp, 1) := by decide +kernel
theorem dX7_isAbove_15 : decode cX7_isAbove 15 = .ok (.ifCond .le 7, 3) := by decide +kernel
theorem dX7_isAbove_18 : decode cX7_isAbove 18 = .ok (.iconst 1, 1) := by decide +kernel
theorem dX7_isAbove_19 : decode cX7_isAbove 19 = .ok (.goto 4, 3) := by decide +kernel
theorem dX7_isAbove_22 : decode cX7_isAbove 22 = .ok (.iconst 0, 1) := by decide +kernel
theorem dX7_isAbove_23 : decode cX7_isAbove 23 = .ok (.ireturn, 1) := by decide +kernel
theorem dX7_breaks_0 : decode cX7_breaks 0 = .ok (.iconst 0, 1) := by decide +kernel
theorem dX7_breaks_1 : decode cX7_breaks 1 = .ok (.istore 6, 2) := by decide +kernel
theorem dX7_breaks_3 : decode cX7_breaks 3 = .ok (.iload 6, 2) := by decide +kernel
theorem dX7_breaks_5 : decode cX7_breaks 5 = .ok (.iconst 3, 1) := by decide +kernel
theorem dX7_breaks_6 : decode cX7_breaks 6 = .ok (.if_icmp .ge 78, 3) := by decide +kernel
theorem dX7_breaks_9 : decode cX7_breaks 9 = .ok (.aload_n 0, 1) := by decide +kernel
theorem dX7_breaks_10 : decode cX7_breaks 10 = .ok (.iload 6, 2) := by decide +kernel
theorem dX7_breaks_12 : decode cX7_breaks 12 = .ok (.ifCond .ne 7, 3) := by decide +kernel
theorem dX7_breaks_15 : decode cX7_breaks 15 = .ok (.iload_n 3, 1) := by decide +kernel
theorem dX7_breaks_16 : decode cX7_breaks 16 = .ok (.goto 20, 3) := by decide +kernel
theorem dX7_breaks_19 : decode cX7_breaks 19 = .ok (.iload 6, 2) := by decide +kernel
theorem dX7_breaks_21 : decode cX7_breaks 21 = .ok (.iconst 1, 1) := by decide +kernel
theorem dX7_breaks_22 : decode cX7_breaks 22 = .ok (.if_icmp .ne 8, 3) := by decide +kernel
theorem dX7_breaks_25 : decode cX7_breaks 25 = .ok (.iload 4, 2) := by decide +kernel
theorem dX7_breaks_27 : decode cX7_breaks 27 = .ok (.goto 9, 3) := by decide +kernel
theorem dX7_breaks_30 : decode cX7_breaks 30 = .ok (.iload_n 3, 1) := by decide +kernel
theorem dX7_breaks_31 : decode cX7_breaks 31 = .ok (.iload 4, 2) := by decide +kernel
theorem dX7_breaks_33 : decode cX7_breaks 33 = .ok (.invokestatic 43, 3) := by decide +kernel
theorem dX7_breaks_36 : decode cX7_breaks 36 = .ok (.putfield 88, 3) := by decide +kernel
theorem dX7_breaks_39 : decode cX7_breaks 39 = .ok (.aload_n 1, 1) := by decide +kernel
theorem dX7_breaks_40 : decode cX7_breaks 40 = .ok (.iload_n 2, 1) := by decide +kernel
theorem dX7_breaks_41 : decode cX7_breaks 41 = .ok (.aload_n 0, 1) := by decide +kernel
theorem dX7_breaks_42 : decode cX7_breaks 42 = .ok (.getfield 88, 3) := by decide +kernel
theorem dX7_breaks_45 : decode cX7_breaks 45 = .ok (.aload_n 0, 1) := by decide +kernel
theorem dX7_breaks_46 : decode cX7_breaks 46 = .ok (.getfield 88, 3) := by decide +kernel
theorem dX7_breaks_49 : decode cX7_breaks 49 = .ok (.iconst 0, 1) := by decide +kernel
theorem dX7_breaks_50 : decode cX7_breaks 50 = .ok (.invokevirtual 53, 3) := by decide +kernel
theorem dX7_breaks_53 : decode cX7_breaks 53 = .ok (.lstore 7, 2) := by decide +kernel
theorem dX7_breaks_55 : decode cX7_breaks 55 = .ok (.lload 7, 2) := by decide +kernel
theorem dX7_breaks_57 : decode cX7_breaks 57 = .ok (.ldc2_w 86, 3) := by decide +kernel
theorem dX7_breaks_60 : decode cX7_breaks 60 = .ok (.lcmp, 1) := by decide +kernel
theorem dX7_breaks_61 : decode cX7_breaks 61 = .ok (.ifCond .eq 17, 3) := by decide +kernel
theorem dX7_breaks_64 : decode cX7_breaks 64 = .ok (.lload 7, 2) := by decide +kernel
theorem dX7_breaks_66 : decode cX7_breaks 66 = .ok (.invokestatic 91, 3) := by decide +kernel
theorem dX7_breaks_69 : decode cX7_breaks 69 = .ok (.iload 5, 2) := by decide +kernel
theorem dX7_breaks_71 : decode cX7_breaks 71 = .ok (.i2l, 1) := by decide +kernel
theorem dX7_breaks_72 : decode cX7_breaks 72 = .ok (.lcmp, 1) := by decide +kernel
theorem dX7_breaks_73 : decode cX7_breaks 73 = .ok (.ifCond .gt 5, 3) := by decide +kernel
theorem dX7_breaks_76 : decode cX7_breaks 76 = .ok (.iconst 1, 1) := by decide +kernel
theorem dX7_breaks_77 : decode cX7_breaks 77 = .ok (.ireturn, 1) := by decide +kernel
theorem dX7_breaks_78 : decode cX7_breaks 78 = .ok (.iinc 6 1, 3) := by decide +kernel
theorem dX7_breaks_81 : decode cX7_breaks 81 = .ok (.goto (-78), 3) := by decide +kernel
theorem dX7_breaks_84 : decode cX7_breaks 84 = .ok (.iconst 0, 1) := by decide +kernel
theorem dX7_breaks_85 : decode cX7_breaks 85 = .ok (.ireturn, 1) := by decide +kernel
theorem dX7_await_0 : decode cX7_await 0 = .ok (.aload_n 0, 1) := by decide +kernel
theorem dX7_await_1 : decode cX7_await 1 = .ok (.getfield 26, 3) := by decide +kernel
theorem dX7_await_4 : decode cX7_await 4 = .ok (.ifCond .lt 32, 3) := by decide +kernel
theorem dX7_await_7 : decode cX7_await 7 = .ok (.aload_n 0, 1) := by decide +kernel
theorem dX7_await_8 : decode cX7_await 8 = .ok (.getfield 26, 3) := by decide +kernel
theorem dX7_await_11 : decode cX7_await 11 = .ok (.bipush 64, 2) := by decide +kernel
theorem dX7_await_13 : decode cX7_await 13 = .ok (.if_icmp .ge 23, 3) := by decide +kernel
theorem dX7_await_16 : decode cX7_await 16 = .ok (.aload_n 0, 1) := by decide +kernel
theorem dX7_await_17 : decode cX7_await 17 = .ok (.getfield 9, 3) := by decide +kernel
theorem dX7_await_20 : decode cX7_await 20 = .ok (.aload_n 0, 1) := by decide +kernel
theorem dX7_await_21 : decode cX7_await 21 = .ok (.getfield 26, 3) := by decide +kernel
theorem dX7_await_24 : decode cX7_await 24 = .ok (.iload_n 1, 1) := by decide +kernel
theorem dX7_await_25 : decode cX7_await 25 = .ok (.iastore, 1) := by decide +kernel
theorem dX7_await_26 : decode cX7_await 26 = .ok (.aload_n 0, 1) := by decide +kernel
theorem dX7_await_27 : decode cX7_await 27 = .ok (.dup, 1) := by decide +kernel
theorem dX7_await_28 : decode cX7_await 28 = .ok (.getfield 26, 3) := by decide +kernel
theorem dX7_await_31 : decode cX7_await 31 = .ok (.iconst 1, 1) := by decide +kernel
theorem dX7_await_32 : decode cX7_await 32 = .ok (.iadd, 1) := by decide +kernel
theorem dX7_await_33 : decode cX7_await 33 = .ok (.putfield 26, 3) := by decide +kernel
theorem dX7_await_36 : decode cX7_await 36 = .ok (.return_, 1) := by decide +kernel
theorem dX7_firstEnd_0 : decode cX7_firstEnd 0 = .ok (.aload_n 0, 1) := by decide +kernel
theorem dX7_firstEnd_1 : decode cX7_firstEnd 1 = .ok (.getfield 26, 3) := by decide +kernel
theorem dX7_firstEnd_4 : decode cX7_firstEnd 4 = .ok (.ifCond .le 26, 3) := by decide +kernel
theorem dX7_firstEnd_7 : decode cX7_firstEnd 7 = .ok (.aload_n 0, 1) := by decide +kernel
theorem dX7_firstEnd_8 : decode cX7_firstEnd 8 = .ok (.getfield 26, 3) := by decide +kernel
theorem dX7_firstEnd_11 : decode cX7_firstEnd 11 = .ok (.bipush 64, 2) := by decide +kernel
theorem dX7_firstEnd_13 : decode cX7_firstEnd 13 = .ok (.if_icmp .gt 17, 3) := by decide +kernel
theorem dX7_firstEnd_16 : decode cX7_firstEnd 16 = .ok (.aload_n 0, 1) := by decide +kernel
theorem dX7_firstEnd_17 : decode cX7_firstEnd 17 = .ok (.getfield 9, 3) := by decide +kernel
theorem dX7_firstEnd_20 : decode cX7_firstEnd 20 = .ok (.aload_n 0, 1) := by decide +kernel
theorem dX7_firstEnd_21 : decode cX7_firstEnd 21 = .ok (.getfield 26, 3) := by decide +kernel
theorem dX7_firstEnd_24 : decode cX7_firstEnd 24 = .ok (.iconst 1, 1) := by decide +kernel
theorem dX7_firstEnd_25 : decode cX7_firstEnd 25 = .ok (.isub, 1) := by decide +kernel
theorem dX7_firstEnd_26 : decode cX7_firstEnd 26 = .ok (.iaload, 1) := by decide +kernel
theorem dX7_firstEnd_27 : decode cX7_firstEnd 27 = .ok (.goto 4, 3) := by decide +kernel
theorem dX7_firstEnd_30 : decode cX7_firstEnd 30 = .ok (.iconst 0, 1) := by decide +kernel
theorem dX7_firstEnd_31 : decode cX7_firstEnd 31 = .ok (.ireturn, 1) := by decide +kernel
