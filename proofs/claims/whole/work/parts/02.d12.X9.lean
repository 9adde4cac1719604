theorem dX9_by_9 : decode cX9_by 9 = .ok (.lconst 0, 1) := by decide +kernel
theorem dX9_by_10 : decode cX9_by 10 = .ok (.lcmp, 1) := by decide +kernel
theorem dX9_by_11 : decode cX9_by 11 = .ok (.ifCond .lt 8, 3) := by decide +kernel
theorem dX9_by_14 : decode cX9_by 14 = .ok (.aload_n 0, 1) := by decide +kernel
theorem dX9_by_15 : decode cX9_by 15 = .ok (.invokevirtual 247, 3) := by decide +kernel
theorem dX9_by_18 : decode cX9_by 18 = .ok (.return_, 1) := by decide +kernel
theorem dX9_by_19 : decode cX9_by 19 = .ok (.lload_n 1, 1) := by decide +kernel
theorem dX9_by_20 : decode cX9_by 20 = .ok (.ldc2_w 207, 3) := by decide +kernel
theorem dX9_by_23 : decode cX9_by 23 = .ok (.lmul, 1) := by decide +kernel
theorem dX9_by_24 : decode cX9_by 24 = .ok (.lload 5, 2) := by decide +kernel
theorem dX9_by_26 : decode cX9_by 26 = .ok (.invokestatic 209, 3) := by decide +kernel
theorem dX9_by_29 : decode cX9_by 29 = .ok (.lload_n 1, 1) := by decide +kernel
theorem dX9_by_30 : decode cX9_by 30 = .ok (.ldc2_w 207, 3) := by decide +kernel
theorem dX9_by_33 : decode cX9_by 33 = .ok (.lmul, 1) := by decide +kernel
theorem dX9_by_34 : decode cX9_by 34 = .ok (.lload 7, 2) := by decide +kernel
theorem dX9_by_36 : decode cX9_by 36 = .ok (.invokestatic 209, 3) := by decide +kernel
theorem dX9_by_39 : decode cX9_by 39 = .ok (.invokestatic 237, 3) := by decide +kernel
theorem dX9_by_42 : decode cX9_by 42 = .ok (.lload_n 3, 1) := by decide +kernel
theorem dX9_by_43 : decode cX9_by 43 = .ok (.ldc2_w 207, 3) := by decide +kernel
theorem dX9_by_46 : decode cX9_by 46 = .ok (.lmul, 1) := by decide +kernel
theorem dX9_by_47 : decode cX9_by 47 = .ok (.lload 5, 2) := by decide +kernel
theorem dX9_by_49 : decode cX9_by 49 = .ok (.invokestatic 209, 3) := by decide +kernel
theorem dX9_by_52 : decode cX9_by 52 = .ok (.lload_n 3, 1) := by decide +kernel
theorem dX9_by_53 : decode cX9_by 53 = .ok (.ldc2_w 207, 3) := by decide +kernel
theorem dX9_by_56 : decode cX9_by 56 = .ok (.lmul, 1) := by decide +kernel
theorem dX9_by_57 : decode cX9_by 57 = .ok (.lload 7, 2) := by decide +kernel
theorem dX9_by_59 : decode cX9_by 59 = .ok (.invokestatic 209, 3) := by decide +kernel
theorem dX9_by_62 : decode cX9_by 62 = .ok (.invokestatic 237, 3) := by decide +kernel
theorem dX9_by_65 : decode cX9_by 65 = .ok (.invokestatic 237, 3) := by decide +kernel
theorem dX9_by_68 : decode cX9_by 68 = .ok (.lstore 9, 2) := by decide +kernel
theorem dX9_by_70 : decode cX9_by 70 = .ok (.lload_n 1, 1) := by decide +kernel
theorem dX9_by_71 : decode cX9_by 71 = .ok (.ldc2_w 207, 3) := by decide +kernel
theorem dX9_by_74 : decode cX9_by 74 = .ok (.lmul, 1) := by decide +kernel
theorem dX9_by_75 : decode cX9_by 75 = .ok (.lload 5, 2) := by decide +kernel
theorem dX9_by_77 : decode cX9_by 77 = .ok (.invokestatic 213, 3) := by decide +kernel
theorem dX9_by_80 : decode cX9_by 80 = .ok (.lload_n 1, 1) := by decide +kernel
theorem dX9_by_81 : decode cX9_by 81 = .ok (.ldc2_w 207, 3) := by decide +kernel
theorem dX9_by_84 : decode cX9_by 84 = .ok (.lmul, 1) := by decide +kernel
theorem dX9_by_85 : decode cX9_by 85 = .ok (.lload 7, 2) := by decide +kernel
theorem dX9_by_87 : decode cX9_by 87 = .ok (.invokestatic 213, 3) := by decide +kernel
theorem dX9_by_90 : decode cX9_by 90 = .ok (.invokestatic 240, 3) := by decide +kernel
theorem dX9_by_93 : decode cX9_by 93 = .ok (.lload_n 3, 1) := by decide +kernel
theorem dX9_by_94 : decode cX9_by 94 = .ok (.ldc2_w 207, 3) := by decide +kernel
theorem dX9_by_97 : decode cX9_by 97 = .ok (.lmul, 1) := by decide +kernel
theorem dX9_by_98 : decode cX9_by 98 = .ok (.lload 5, 2) := by decide +kernel
theorem dX9_by_100 : decode cX9_by 100 = .ok (.invokestatic 213, 3) := by decide +kernel
theorem dX9_by_103 : decode cX9_by 103 = .ok (.lload_n 3, 1) := by decide +kernel
theorem dX9_by_104 : decode cX9_by 104 = .ok (.ldc2_w 207, 3) := by decide +kernel
theorem dX9_by_107 : decode cX9_by 107 = .ok (.lmul, 1) := by decide +kernel
theorem dX9_by_108 : decode cX9_by 108 = .ok (.lload 7, 2) := by decide +kernel
theorem dX9_by_110 : decode cX9_by 110 = .ok (.invokestatic 213, 3) := by decide +kernel
theorem dX9_by_113 : decode cX9_by 113 = .ok (.invokestatic 240, 3) := by decide +kernel
theorem dX9_by_116 : decode cX9_by 116 = .ok (.invokestatic 240, 3) := by decide +kernel
theorem dX9_by_119 : decode cX9_by 119 = .ok (.lstore 11, 2) := by decide +kernel
theorem dX9_by_121 : decode cX9_by 121 = .ok (.aload_n 0, 1) := by decide +kernel
theorem dX9_by_122 : decode cX9_by 122 = .ok (.lload 9, 2) := by decide +kernel
theorem dX9_by_124 : decode cX9_by 124 = .ok (.lload 11, 2) := by decide +kernel
theorem dX9_by_126 : decode cX9_by 126 = .ok (.invokevirtual 243, 3) := by decide +kernel
theorem dX9_by_129 : decode cX9_by 129 = .ok (.return_, 1) := by decide +kernel
theorem dX9_size_0 : decode cX9_size 0 = .ok (.lload_n 1, 1) := by decide +kernel
theorem dX9_size_1 : decode cX9_size 1 = .ok (.lstore 5, 2) := by decide +kernel
theorem dX9_size_3 : decode cX9_size 3 = .ok (.aload_n 0, 1) := by decide +kernel
theorem dX9_size_4 : decode cX9_size 4 = .ok (.aload_n 0, 1) := by decide +kernel
theorem dX9_size_5 : decode cX9_size 5 = .ok (.getfield 250, 3) := by decide +kernel
theorem dX9_size_8 : decode cX9_size 8 = .ok (.ifCond .ne 12, 3) := by decide +kernel
theorem dX9_size_11 : decode cX9_size 11 = .ok (.lload 5, 2) := by decide +kernel
theorem dX9_size_13 : decode cX9_size 13 = .ok (.ldc2_w 253, 3) := by decide +kernel
theorem dX9_size_16 : decode cX9_size 16 = .ok (.lcmp, 1) := by decide +kernel
theorem dX9_size_17 : decode cX9_size 17 = .ok (.ifCond .le 7, 3) := by decide +kernel
theorem dX9_size_20 : decode cX9_size 20 = .ok (.iconst 1, 1) := by decide +kernel
theorem dX9_size_21 : decode cX9_size 21 = .ok (.goto 4, 3) := by decide +kernel
theorem dX9_size_24 : decode cX9_size 24 = .ok (.iconst 0, 1) := by decide +kernel
theorem dX9_size_25 : decode cX9_size 25 = .ok (.putfield 250, 3) := by decide +kernel
theorem dX9_size_28 : decode cX9_size 28 = .ok (.iconst 1, 1) := by decide +kernel
theorem dX9_size_29 : decode cX9_size 29 = .ok (.istore 7, 2) := by decide +kernel
theorem dX9_size_31 : decode cX9_size 31 = .ok (.iload 7, 2) := by decide +kernel
theorem dX9_size_33 : decode cX9_size 33 = .ok (.iload_n 3, 1) := by decide +kernel
theorem dX9_size_34 : decode cX9_size 34 = .ok (.if_icmp .ge 64, 3) := by decide +kernel
theorem dX9_size_37 : decode cX9_size 37 = .ok (.aload_n 0, 1) := by decide +kernel
theorem dX9_size_38 : decode cX9_size 38 = .ok (.getfield 250, 3) := by decide +kernel
theorem dX9_size_41 : decode cX9_size 41 = .ok (.ifCond .ne 57, 3) := by decide +kernel
theorem dX9_size_44 : decode cX9_size 44 = .ok (.iload 4, 2) := by decide +kernel
theorem dX9_size_46 : decode cX9_size 46 = .ok (.ifCond .eq 16, 3) := by decide +kernel
theorem dX9_size_49 : decode cX9_size 49 = .ok (.lload 5, 2) := by decide +kernel
theorem dX9_size_51 : decode cX9_size 51 = .ok (.lload_n 1, 1) := by decide +kernel
theorem dX9_size_52 : decode cX9_size 52 = .ok (.lmul, 1) := by decide +kernel
theorem dX9_size_53 : decode cX9_size 53 = .ok (.ldc2_w 207, 3) := by decide +kernel
theorem dX9_size_56 : decode cX9_size 56 = .ok (.invokestatic 213, 3) := by decide +kernel
theorem dX9_size_59 : decode cX9_size 59 = .ok (.goto 13, 3) := by decide +kernel
theorem dX9_size_62 : decode cX9_size 62 = .ok (.lload 5, 2) := by decide +kernel
theorem dX9_size_64 : decode cX9_size 64 = .ok (.lload_n 1, 1) := by decide +kernel
theorem dX9_size_65 : decode cX9_size 65 = .ok (.lmul, 1) := by decide +kernel
theorem dX9_size_66 : decode cX9_size 66 = .ok (.ldc2_w 207, 3) := by decide +kernel
theorem dX9_size_69 : decode cX9_size 69 = .ok (.invokestatic 209, 3) := by decide +kernel
theorem dX9_size_72 : decode cX9_size 72 = .ok (.lstore 5, 2) := by decide +kernel
theorem dX9_size_74 : decode cX9_size 74 = .ok (.aload_n 0, 1) := by decide +kernel
theorem dX9_size_75 : decode cX9_size 75 = .ok (.lload 5, 2) := by decide +kernel
theorem dX9_size_77 : decode cX9_size 77 = .ok (.ldc2_w 253, 3) := by decide +kernel
theorem dX9_size_80 : decode cX9_size 80 = .ok (.lcmp, 1) := by decide +kernel
theorem dX9_size_81 : decode cX9_size 81 = .ok (.ifCond .le 7, 3) := by decide +kernel
theorem dX9_size_84 : decode cX9_size 84 = .ok (.iconst 1, 1) := by decide +kernel
theorem dX9_size_85 : decode cX9_size 85 = .ok (.goto 4, 3) := by decide +kernel
theorem dX9_size_88 : decode cX9_size 88 = .ok (.iconst 0, 1) := by decide +kernel
theorem dX9_size_89 : decode cX9_size 89 = .ok (.putfield 250, 3) := by decide +kernel
theorem dX9_size_92 : decode cX9_size 92 = .ok (.iinc 7 1, 3) := by decide +kernel
theorem dX9_size_95 : decode cX9_size 95 = .ok (.goto (-64), 3) := by decide +kernel
theorem dX9_size_98 : decode cX9_size 98 = .ok (.lload 5, 2) := by decide +kernel
theorem dX9_size_100 : decode cX9_size 100 = .ok (.lreturn, 1) := by decide +kernel
theorem dX9_power__0 : decode cX9_power_ 0 = .ok (.aload_n 0, 1) := by decide +kernel
theorem dX9_power__1 : decode cX9_power_ 1 = .ok (.iconst 0, 1) := by decide +kernel
theorem dX9_power__2 : decode cX9_power_ 2 = .ok (.putfield 250, 3) := by decide +kernel
theorem dX9_power__5 : decode cX9_power_ 5 = .ok (.iload 5, 2) := by decide +kernel
theorem dX9_power__7 : decode cX9_power_ 7 = .ok (.iconst 2, 1) := by decide +kernel
theorem dX9_power__8 : decode cX9_power_ 8 = .ok (.irem, 1) := by decide +kernel
theorem dX9_power__9 : decode cX9_power_ 9 = .ok (.iconst 1, 1) := by decide +kernel
theorem dX9_power__10 : decode cX9_power_ 10 = .ok (.if_icmp .ne 64, 3) := by decide +kernel
theorem dX9_power__13 : decode cX9_power_ 13 = .ok (.lload_n 1, 1) := by decide +kernel
theorem dX9_power__14 : decode cX9_power_ 14 = .ok (.lconst 0, 1) := by decide +kernel
theorem dX9_power__15 : decode cX9_power_ 15 = .ok (.lcmp, 1) := by decide +kernel
theorem dX9_power__16 : decode cX9_power_ 16 = .ok (.ifCond .ge 16, 3) := by decide +kernel
theorem dX9_power__19 : decode cX9_power_ 19 = .ok (.aload_n 0, 1) := by decide +kernel
theorem dX9_power__20 : decode cX9_power_ 20 = .ok (.lload_n 1, 1) := by decide +kernel
theorem dX9_power__21 : decode cX9_power_ 21 = .ok (.lneg, 1) := by decide +kernel
theorem dX9_power__22 : decode cX9_power_ 22 = .ok (.iload 5, 2) := by decide +kernel
theorem dX9_power__24 : decode cX9_power_ 24 = .ok (.iconst 1, 1) := by decide +kernel
theorem dX9_power__25 : decode cX9_power_ 25 = .ok (.invokevirtual 255, 3) := by decide +kernel
theorem dX9_power__28 : decode cX9_power_ 28 = .ok (.lneg, 1) := by decide +kernel
theorem dX9_power__29 : decode cX9_power_ 29 = .ok (.goto 11, 3) := by decide +kernel
theorem dX9_power__32 : decode cX9_power_ 32 = .ok (.aload_n 0, 1) := by decide +kernel
theorem dX9_power__33 : decode cX9_power_ 33 = .ok (.lload_n 1, 1) := by decide +kernel
theorem dX9_power__34 : decode cX9_power_ 34 = .ok (.iload 5, 2) := by decide +kernel
theorem dX9_power__36 : decode cX9_power_ 36 = .ok (.iconst 0, 1) := by decide +kernel
theorem dX9_power__37 : decode cX9_power_ 37 = .ok (.invokevirtual 255, 3) := by decide +kernel
theorem dX9_power__40 : decode cX9_power_ 40 = .ok (.lstore 6, 2) := by decide +kernel
theorem dX9_power__42 : decode cX9_power_ 42 = .ok (.lload_n 3, 1) := by decide +kernel
theorem dX9_power__43 : decode cX9_power_ 43 = .ok (.lconst 0, 1) := by decide +kernel
theorem dX9_power__44 : decode cX9_power_ 44 = .ok (.lcmp, 1) := by decide +kernel
theorem dX9_power__45 : decode cX9_power_ 45 = .ok (.ifCond .ge 16, 3) := by decide +kernel
theorem dX9_power__48 : decode cX9_power_ 48 = .ok (.aload_n 0, 1) := by decide +kernel
theorem dX9_power__49 : decode cX9_power_ 49 = .ok (.lload_n 3, 1) := by decide +kernel
theorem dX9_power__50 : decode cX9_power_ 50 = .ok (.lneg, 1) := by decide +kernel
theorem dX9_power__51 : decode cX9_power_ 51 = .ok (.iload 5, 2) := by decide +kernel
theorem dX9_power__53 : decode cX9_power_ 53 = .ok (.iconst 0, 1) := by decide +kernel
theorem dX9_power__54 : decode cX9_power_ 54 = .ok (.invokevirtual 255, 3) := by decide +kernel
theorem dX9_power__57 : decode cX9_power_ 57 = .ok (.lneg, 1) := by decide +kernel
theorem dX9_power__58 : decode cX9_power_ 58 = .ok (.goto 11, 3) := by decide +kernel
theorem dX9_power__61 : decode cX9_power_ 61 = .ok (.aload_n 0, 1) := by decide +kernel
theorem dX9_power__62 : decode cX9_power_ 62 = .ok (.lload_n 3, 1) := by decide +kernel
theorem dX9_power__63 : decode cX9_power_ 63 = .ok (.iload 5, 2) := by decide +kernel
theorem dX9_power__65 : decode cX9_power_ 65 = .ok (.iconst 1, 1) := by decide +kernel
theorem dX9_power__66 : decode cX9_power_ 66 = .ok (.invokevirtual 255, 3) := by decide +kernel
theorem dX9_power__69 : decode cX9_power_ 69 = .ok (.lstore 8, 2) := by decide +kernel
theorem dX9_power__71 : decode cX9_power_ 71 = .ok (.goto 79, 3) := by decide +kernel
theorem dX9_power__74 : decode cX9_power_ 74 = .ok (.lload_n 1, 1) := by decide +kernel
theorem dX9_power__75 : decode cX9_power_ 75 = .ok (.lconst 0, 1) := by decide +kernel
theorem dX9_power__76 : decode cX9_power_ 76 = .ok (.lcmp, 1) := by decide +kernel
theorem dX9_power__77 : decode cX9_power_ 77 = .ok (.ifCond .ge 8, 3) := by decide +kernel
theorem dX9_power__80 : decode cX9_power_ 80 = .ok (.lload_n 1, 1) := by decide +kernel
theorem dX9_power__81 : decode cX9_power_ 81 = .ok (.lneg, 1) := by decide +kernel
theorem dX9_power__82 : decode cX9_power_ 82 = .ok (.goto 4, 3) := by decide +kernel
theorem dX9_power__85 : decode cX9_power_ 85 = .ok (.lload_n 1, 1) := by decide +kernel
theorem dX9_power__86 : decode cX9_power_ 86 = .ok (.lstore 10, 2) := by decide +kernel
theorem dX9_power__88 : decode cX9_power_ 88 = .ok (.lload_n 3, 1) := by decide +kernel
theorem dX9_power__89 : decode cX9_power_ 89 = .ok (.lconst 0, 1) := by decide +kernel
theorem dX9_power__90 : decode cX9_power_ 90 = .ok (.lcmp, 1) := by decide +kernel
theorem dX9_power__91 : decode cX9_power_ 91 = .ok (.ifCond .ge 8, 3) := by decide +kernel
theorem dX9_power__94 : decode cX9_power_ 94 = .ok (.lload_n 3, 1) := by decide +kernel
theorem dX9_power__95 : decode cX9_power_ 95 = .ok (.lneg, 1) := by decide +kernel
theorem dX9_power__96 : decode cX9_power_ 96 = .ok (.goto 4, 3) := by decide +kernel
theorem dX9_power__99 : decode cX9_power_ 99 = .ok (.lload_n 3, 1) := by decide +kernel
theorem dX9_power__100 : decode cX9_power_ 100 = .ok (.lstore 12, 2) := by decide +kernel
theorem dX9_power__102 : decode cX9_power_ 102 = .ok (.aload_n 0, 1) := by decide +kernel
theorem dX9_power__103 : decode cX9_power_ 103 = .ok (.lload_n 1, 1) := by decide +kernel
theorem dX9_power__104 : decode cX9_power_ 104 = .ok (.lconst 0, 1) := by decide +kernel
theorem dX9_power__105 : decode cX9_power_ 105 = .ok (.lcmp, 1) := by decide +kernel
theorem dX9_power__106 : decode cX9_power_ 106 = .ok (.ifCond .gt 13, 3) := by decide +kernel
theorem dX9_power__109 : decode cX9_power_ 109 = .ok (.lload_n 3, 1) := by decide +kernel
theorem dX9_power__110 : decode cX9_power_ 110 = .ok (.lconst 0, 1) := by decide +kernel
theorem dX9_power__111 : decode cX9_power_ 111 = .ok (.lcmp, 1) := by decide +kernel
theorem dX9_power__112 : decode cX9_power_ 112 = .ok (.ifCond .lt 7, 3) := by decide +kernel
theorem dX9_power__115 : decode cX9_power_ 115 = .ok (.lconst 0, 1) := by decide +kernel
theorem dX9_power__116 : decode cX9_power_ 116 = .ok (.goto 10, 3) := by decide +kernel
theorem dX9_power__119 : decode cX9_power_ 119 = .ok (.lload 10, 2) := by decide +kernel
theorem dX9_power__121 : decode cX9_power_ 121 = .ok (.lload 12, 2) := by decide +kernel
theorem dX9_power__123 : decode cX9_power_ 123 = .ok (.invokestatic 237, 3) := by decide +kernel
theorem dX9_power__126 : decode cX9_power_ 126 = .ok (.iload 5, 2) := by decide +kernel
theorem dX9_power__128 : decode cX9_power_ 128 = .ok (.iconst 0, 1) := by decide +kernel
theorem dX9_power__129 : decode cX9_power_ 129 = .ok (.invokevirtual 255, 3) := by decide +kernel
theorem dX9_power__132 : decode cX9_power_ 132 = .ok (.lstore 6, 2) := by decide +kernel
theorem dX9_power__134 : decode cX9_power_ 134 = .ok (.aload_n 0, 1) := by decide +kernel
theorem dX9_power__135 : decode cX9_power_ 135 = .ok (.lload 10, 2) := by decide +kernel
theorem dX9_power__137 : decode cX9_power_ 137 = .ok (.lload 12, 2) := by decide +kernel
theorem dX9_power__139 : decode cX9_power_ 139 = .ok (.invokestatic 240, 3) := by decide +kernel
theorem dX9_power__142 : decode cX9_power_ 142 = .ok (.iload 5, 2) := by decide +kernel
theorem dX9_power__144 : decode cX9_power_ 144 = .ok (.iconst 1, 1) := by decide +kernel
theorem dX9_power__145 : decode cX9_power_ 145 = .ok (.invokevirtual 255, 3) := by decide +kernel
theorem dX9_power__148 : decode cX9_power_ 148 = .ok (.lstore 8, 2) := by decide +kernel
theorem dX9_power__150 : decode cX9_power_ 150 = .ok (.aload_n 0, 1) := by decide +kernel
theorem dX9_power__151 : decode cX9_power_ 151 = .ok (.getfield 250, 3) := by decide +kernel
theorem dX9_power__154 : decode cX9_power_ 154 = .ok (.ifCond .eq 10, 3) := by decide +kernel
theorem dX9_power__157 : decode cX9_power_ 157 = .ok (.aload_n 0, 1) := by decide +kernel
theorem dX9_power__158 : decode cX9_power_ 158 = .ok (.invokevirtual 247, 3) := by decide +kernel
theorem dX9_power__161 : decode cX9_power_ 161 = .ok (.goto 11, 3) := by decide +kernel
theorem dX9_power__164 : decode cX9_power_ 164 = .ok (.aload_n 0, 1) := by decide +kernel
theorem dX9_power__165 : decode cX9_power_ 165 = .ok (.lload 6, 2) := by decide +kernel
theorem dX9_power__167 : decode cX9_power_ 167 = .ok (.lload 8, 2) := by decide +kernel
theorem dX9_power__169 : decode cX9_power_ 169 = .ok (.invokevirtual 243, 3) := by decide +kernel
theorem dX9_power__172 : decode cX9_power_ 172 = .ok (.return_, 1) := by decide +kernel
theorem dX9_rootDown_0 : decode cX9_rootDown 0 = .ok (.lconst 0, 1) := by decide +kernel
theorem dX9_rootDown_1 : decode cX9_rootDown 1 = .ok (.lstore_n 2, 1) := by decide +kernel
theorem dX9_rootDown_2 : decode cX9_rootDown 2 = .ok (.ldc2_w 258, 3) := by decide +kernel
theorem dX9_rootDown_5 : decode cX9_rootDown 5 = .ok (.lstore 4, 2) := by decide +kernel
theorem dX9_rootDown_7 : decode cX9_rootDown 7 = .ok (.lload 4, 2) := by decide +kernel
theorem dX9_rootDown_9 : decode cX9_rootDown 9 = .ok (.lconst 0, 1) := by decide +kernel
theorem dX9_rootDown_10 : decode cX9_rootDown 10 = .ok (.lcmp, 1) := by decide +kernel
theorem dX9_rootDown_11 : decode cX9_rootDown 11 = .ok (.ifCond .le 31, 3) := by decide +kernel
theorem dX9_rootDown_14 : decode cX9_rootDown 14 = .ok (.lload_n 2, 1) := by decide +kernel
theorem dX9_rootDown_15 : decode cX9_rootDown 15 = .ok (.lload 4, 2) := by decide +kernel
theorem dX9_rootDown_17 : decode cX9_rootDown 17 = .ok (.ladd, 1) := by decide +kernel
theorem dX9_rootDown_18 : decode cX9_rootDown 18 = .ok (.lload_n 2, 1) := by decide +kernel
theorem dX9_rootDown_19 : decode cX9_rootDown 19 = .ok (.lload 4, 2) := by decide +kernel
theorem dX9_rootDown_21 : decode cX9_rootDown 21 = .ok (.ladd, 1) := by decide +kernel
theorem dX9_rootDown_22 : decode cX9_rootDown 22 = .ok (.lmul, 1) := by decide +kernel
theorem dX9_rootDown_23 : decode cX9_rootDown 23 = .ok (.lload_n 0, 1) := by decide +kernel
theorem dX9_rootDown_24 : decode cX9_rootDown 24 = .ok (.lcmp, 1) := by decide +kernel
theorem dX9_rootDown_25 : decode cX9_rootDown 25 = .ok (.ifCond .gt 8, 3) := by decide +kernel
theorem dX9_rootDown_28 : decode cX9_rootDown 28 = .ok (.lload_n 2, 1) := by decide +kernel
theorem dX9_rootDown_29 : decode cX9_rootDown 29 = .ok (.lload 4, 2) := by decide +kernel
theorem dX9_rootDown_31 : decode cX9_rootDown 31 = .ok (.ladd, 1) := by decide +kernel
theorem dX9_rootDown_32 : decode cX9_rootDown 32 = .ok (.lstore_n 2, 1) := by decide +kernel
theorem dX9_rootDown_33 : decode cX9_rootDown 33 = .ok (.lload 4, 2) := by decide +kernel
theorem dX9_rootDown_35 : decode cX9_rootDown 35 = .ok (.iconst 1, 1) := by decide +kernel
theorem dX9_rootDown_36 : decode cX9_rootDown 36 = .ok (.lshr, 1) := by decide +kernel
theorem dX9_rootDown_37 : decode cX9_rootDown 37 = .ok (.lstore 4, 2) := by decide +kernel
theorem dX9_rootDown_39 : decode cX9_rootDown 39 = .ok (.goto (-32), 3) := by decide +kernel
theorem dX9_rootDown_42 : decode cX9_rootDown 42 = .ok (.lload_n 2, 1) := by decide +kernel
theorem dX9_rootDown_43 : decode cX9_rootDown 43 = .ok (.lreturn, 1) := by decide +kernel
theorem dX9_root_0 : decode cX9_root 0 = .ok (.lload_n 1, 1) := by decide +kernel
theorem dX9_root_1 : decode cX9_root 1 = .ok (.lconst 0, 1) := by decide +kernel
theorem dX9_root_2 : decode cX9_root 2 = .ok (.lcmp, 1) := by decide +kernel
theorem dX9_root_3 : decode cX9_root 3 = .ok (.ifCond .ge 8, 3) := by decide +kernel
theorem dX9_root_6 : decode cX9_root 6 = .ok (.aload_n 0, 1) := by decide +kernel
theorem dX9_root_7 : decode cX9_root 7 = .ok (.invokevirtual 247, 3) := by decide +kernel
theorem dX9_root_10 : decode cX9_root 10 = .ok (.return_, 1) := by decide +kernel
theorem dX9_root_11 : decode cX9_root 11 = .ok (.lload_n 3, 1) := by decide +kernel
theorem dX9_root_12 : decode cX9_root 12 = .ok (.ldc2_w 207, 3) := by decide +kernel
theorem dX9_root_15 : decode cX9_root 15 = .ok (.lmul, 1) := by decide +kernel
theorem dX9_root_16 : decode cX9_root 16 = .ok (.invokestatic 260, 3) := by decide +kernel
theorem dX9_root_19 : decode cX9_root 19 = .ok (.lstore 5, 2) := by decide +kernel
theorem dX9_root_21 : decode cX9_root 21 = .ok (.aload_n 0, 1) := by decide +kernel
theorem dX9_root_22 : decode cX9_root 22 = .ok (.lload_n 1, 1) := by decide +kernel
theorem dX9_root_23 : decode cX9_root 23 = .ok (.ldc2_w 207, 3) := by decide +kernel
theorem dX9_root_26 : decode cX9_root 26 = .ok (.lmul, 1) := by decide +kernel
theorem dX9_root_27 : decode cX9_root 27 = .ok (.invokestatic 260, 3) := by decide +kernel
theorem dX9_root_30 : decode cX9_root 30 = .ok (.lload 5, 2) := by decide +kernel
theorem dX9_root_32 : decode cX9_root 32 = .ok (.lload 5, 2) := by decide +kernel
theorem dX9_root_34 : decode cX9_root 34 = .ok (.lmul, 1) := by decide +kernel
theorem dX9_root_35 : decode cX9_root 35 = .ok (.lload_n 3, 1) := by decide +kernel
theorem dX9_root_36 : decode cX9_root 36 = .ok (.ldc2_w 207, 3) := by decide +kernel
theorem dX9_root_39 : decode cX9_root 39 = .ok (.lmul, 1) := by decide +kernel
theorem dX9_root_40 : decode cX9_root 40 = .ok (.lcmp, 1) := by decide +kernel
theorem dX9_root_41 : decode cX9_root 41 = .ok (.ifCond .ne 8, 3) := by decide +kernel
theorem dX9_root_44 : decode cX9_root 44 = .ok (.lload 5, 2) := by decide +kernel
theorem dX9_root_46 : decode cX9_root 46 = .ok (.goto 7, 3) := by decide +kernel
theorem dX9_root_49 : decode cX9_root 49 = .ok (.lload 5, 2) := by decide +kernel
theorem dX9_root_51 : decode cX9_root 51 = .ok (.lconst 1, 1) := by decide +kernel
theorem dX9_root_52 : decode cX9_root 52 = .ok (.ladd, 1) := by decide +kernel
theorem dX9_root_53 : decode cX9_root 53 = .ok (.invokevirtual 243, 3) := by decide +kernel
theorem dX9_root_56 : decode cX9_root 56 = .ok (.return_, 1) := by decide +kernel
theorem dX9_cut_0 : decode cX9_cut 0 = .ok (.iload 4, 2) := by decide +kernel
theorem dX9_cut_2 : decode cX9_cut 2 = .ok (.ifCond .eq 11, 3) := by decide +kernel
theorem dX9_cut_5 : decode cX9_cut 5 = .ok (.lload_n 0, 1) := by decide +kernel
theorem dX9_cut_6 : decode cX9_cut 6 = .ok (.lload_n 2, 1) := by decide +kernel
theorem dX9_cut_7 : decode cX9_cut 7 = .ok (.invokestatic 213, 3) := by decide +kernel
theorem dX9_cut_10 : decode cX9_cut 10 = .ok (.goto 8, 3) := by decide +kernel
theorem dX9_cut_13 : decode cX9_cut 13 = .ok (.lload_n 0, 1) := by decide +kernel
theorem dX9_cut_14 : decode cX9_cut 14 = .ok (.lload_n 2, 1) := by decide +kernel
theorem dX9_cut_15 : decode cX9_cut 15 = .ok (.invokestatic 209, 3) := by decide +kernel
theorem dX9_cut_18 : decode cX9_cut 18 = .ok (.lreturn, 1) := by decide +kernel
theorem dX9_power___0 : decode cX9_power__ 0 = .ok (.lload_n 0, 1) := by decide +kernel
theorem dX9_power___1 : decode cX9_power__ 1 = .ok (.ldc2_w 264, 3) := by decide +kernel
theorem dX9_power___4 : decode cX9_power__ 4 = .ok (.lcmp, 1) := by decide +kernel
theorem dX9_power___5 : decode cX9_power__ 5 = .ok (.ifCond .ge 13, 3) := by decide +kernel
theorem dX9_power___8 : decode cX9_power__ 8 = .ok (.iload_n 2, 1) := by decide +kernel
theorem dX9_power___9 : decode cX9_power__ 9 = .ok (.ifCond .eq 7, 3) := by decide +kernel
theorem dX9_power___12 : decode cX9_power__ 12 = .ok (.lconst 1, 1) := by decide +kernel
theorem dX9_power___13 : decode cX9_power__ 13 = .ok (.goto 4, 3) := by decide +kernel
theorem dX9_power___16 : decode cX9_power__ 16 = .ok (.lconst 0, 1) := by decide +kernel
theorem dX9_power___17 : decode cX9_power__ 17 = .ok (.lreturn, 1) := by decide +kernel
theorem dX9_power___18 : decode cX9_power__ 18 = .ok (.lload_n 0, 1) := by decide +kernel
theorem dX9_power___19 : decode cX9_power__ 19 = .ok (.ldc2_w 207, 3) := by decide +kernel
theorem dX9_power___22 : decode cX9_power__ 22 = .ok (.invokestatic 209, 3) := by decide +kernel
theorem dX9_power___25 : decode cX9_power__ 25 = .ok (.lstore_n 3, 1) := by decide +kernel
theorem dX9_power___26 : decode cX9_power__ 26 = .ok (.ldc2_w 266, 3) := by decide +kernel
theorem dX9_power___29 : decode cX9_power__ 29 = .ok (.lload_n 0, 1) := by decide +kernel
theorem dX9_power___30 : decode cX9_power__ 30 = .ok (.lload_n 3, 1) := by decide +kernel
theorem dX9_power___31 : decode cX9_power__ 31 = .ok (.ldc2_w 207, 3) := by decide +kernel
theorem dX9_power___34 : decode cX9_power__ 34 = .ok (.lmul, 1) := by decide +kernel
theorem dX9_power___35 : decode cX9_power__ 35 = .ok (.lsub, 1) := by decide +kernel
theorem dX9_power___36 : decode cX9_power__ 36 = .ok (.lmul, 1) := by decide +kernel
theorem dX9_power___37 : decode cX9_power__ 37 = .ok (.lstore 5, 2) := by decide +kernel
theorem dX9_power___39 : decode cX9_power__ 39 = .ok (.ldc2_w 268, 3) := by decide +kernel
theorem dX9_power___42 : decode cX9_power__ 42 = .ok (.lstore 7, 2) := by decide +kernel
theorem dX9_power___44 : decode cX9_power__ 44 = .ok (.lload 5, 2) := by decide +kernel
theorem dX9_power___46 : decode cX9_power__ 46 = .ok (.lstore 9, 2) := by decide +kernel
theorem dX9_power___48 : decode cX9_power__ 48 = .ok (.iconst 1, 1) := by decide +kernel
theorem dX9_power___49 : decode cX9_power__ 49 = .ok (.istore 11, 2) := by decide +kernel
theorem dX9_power___51 : decode cX9_power__ 51 = .ok (.iload 11, 2) := by decide +kernel
theorem dX9_power___53 : decode cX9_power__ 53 = .ok (.bipush 14, 2) := by decide +kernel
theorem dX9_power___55 : decode cX9_power__ 55 = .ok (.if_icmp .gt 43, 3) := by decide +kernel
theorem dX9_power___58 : decode cX9_power__ 58 = .ok (.iload 11, 2) := by decide +kernel
theorem dX9_power___60 : decode cX9_power__ 60 = .ok (.iconst 1, 1) := by decide +kernel
theorem dX9_power___61 : decode cX9_power__ 61 = .ok (.if_icmp .le 24, 3) := by decide +kernel
theorem dX9_power___64 : decode cX9_power__ 64 = .ok (.lload 9, 2) := by decide +kernel
theorem dX9_power___66 : decode cX9_power__ 66 = .ok (.lload 5, 2) := by decide +kernel
theorem dX9_power___68 : decode cX9_power__ 68 = .ok (.lmul, 1) := by decide +kernel
theorem dX9_power___69 : decode cX9_power__ 69 = .ok (.ldc2_w 268, 3) := by decide +kernel
theorem dX9_power___72 : decode cX9_power__ 72 = .ok (.iload_n 2, 1) := by decide +kernel
theorem dX9_power___73 : decode cX9_power__ 73 = .ok (.invokestatic 270, 3) := by decide +kernel
theorem dX9_power___76 : decode cX9_power__ 76 = .ok (.iload 11, 2) := by decide +kernel
theorem dX9_power___78 : decode cX9_power__ 78 = .ok (.i2l, 1) := by decide +kernel
theorem dX9_power___79 : decode cX9_power__ 79 = .ok (.iload_n 2, 1) := by decide +kernel
theorem dX9_power___80 : decode cX9_power__ 80 = .ok (.invokestatic 270, 3) := by decide +kernel
theorem dX9_power___83 : decode cX9_power__ 83 = .ok (.lstore 9, 2) := by decide +kernel
theorem dX9_power___85 : decode cX9_power__ 85 = .ok (.lload 7, 2) := by decide +kernel
theorem dX9_power___87 : decode cX9_power__ 87 = .ok (.lload 9, 2) := by decide +kernel
theorem dX9_power___89 : decode cX9_power__ 89 = .ok (.ladd, 1) := by decide +kernel
theorem dX9_power___90 : decode cX9_power__ 90 = .ok (.lstore 7, 2) := by decide +kernel
theorem dX9_power___92 : decode cX9_power__ 92 = .ok (.iinc 11 1, 3) := by decide +kernel
theorem dX9_power___95 : decode cX9_power__ 95 = .ok (.goto (-44), 3) := by decide +kernel
theorem dX9_power___98 : decode cX9_power__ 98 = .ok (.lload 7, 2) := by decide +kernel
theorem dX9_power___100 : decode cX9_power__ 100 = .ok (.iload_n 2, 1) := by decide +kernel
theorem dX9_power___101 : decode cX9_power__ 101 = .ok (.ifCond .eq 7, 3) := by decide +kernel
theorem dX9_power___104 : decode cX9_power__ 104 = .ok (.lconst 1, 1) := by decide +kernel
theorem dX9_power___105 : decode cX9_power__ 105 = .ok (.goto 4, 3) := by decide +kernel
theorem dX9_power___108 : decode cX9_power__ 108 = .ok (.lconst 0, 1) := by decide +kernel
theorem dX9_power___109 : decode cX9_power__ 109 = .ok (.ladd, 1) := by decide +kernel
theorem dX9_power___110 : decode cX9_power__ 110 = .ok (.lstore 7, 2) := by decide +kernel
theorem dX9_power___112 : decode cX9_power__ 112 = .ok (.lload_n 3, 1) := by decide +kernel
theorem dX9_power___113 : decode cX9_power__ 113 = .ok (.lconst 0, 1) := by decide +kernel
theorem dX9_power___114 : decode cX9_power__ 114 = .ok (.lcmp, 1) := by decide +kernel
theorem dX9_power___115 : decode cX9_power__ 115 = .ok (.ifCond .le 35, 3) := by decide +kernel
theorem dX9_power___118 : decode cX9_power__ 118 = .ok (.lload 7, 2) := by decide +kernel
theorem dX9_power___120 : decode cX9_power__ 120 = .ok (.iload_n 2, 1) := by decide +kernel
theorem dX9_power___121 : decode cX9_power__ 121 = .ok (.ifCond .eq 9, 3) := by decide +kernel
theorem dX9_power___124 : decode cX9_power__ 124 = .ok (.ldc2_w 274, 3) := by decide +kernel
theorem dX9_power___127 : decode cX9_power__ 127 = .ok (.goto 6, 3) := by decide +kernel
theorem dX9_power___130 : decode cX9_power__ 130 = .ok (.ldc2_w 276, 3) := by decide +kernel
theorem dX9_power___133 : decode cX9_power__ 133 = .ok (.lmul, 1) := by decide +kernel
theorem dX9_power___134 : decode cX9_power__ 134 = .ok (.ldc2_w 268, 3) := by decide +kernel
theorem dX9_power___137 : decode cX9_power__ 137 = .ok (.iload_n 2, 1) := by decide +kernel
theorem dX9_power___138 : decode cX9_power__ 138 = .ok (.invokestatic 270, 3) := by decide +kernel
theorem dX9_power___141 : decode cX9_power__ 141 = .ok (.lstore 7, 2) := by decide +kernel
theorem dX9_power___143 : decode cX9_power__ 143 = .ok (.lload_n 3, 1) := by decide +kernel
theorem dX9_power___144 : decode cX9_power__ 144 = .ok (.lconst 1, 1) := by decide +kernel
theorem dX9_power___145 : decode cX9_power__ 145 = .ok (.lsub, 1) := by decide +kernel
theorem dX9_power___146 : decode cX9_power__ 146 = .ok (.lstore_n 3, 1) := by decide +kernel
theorem dX9_power___147 : decode cX9_power__ 147 = .ok (.goto (-35), 3) := by decide +kernel
theorem dX9_power___150 : decode cX9_power__ 150 = .ok (.lload_n 3, 1) := by decide +kernel
theorem dX9_power___151 : decode cX9_power__ 151 = .ok (.lconst 0, 1) := by decide +kernel
theorem dX9_power___152 : decode cX9_power__ 152 = .ok (.lcmp, 1) := by decide +kernel
theorem dX9_power___153 : decode cX9_power__ 153 = .ok (.ifCond .ge 35, 3) := by decide +kernel
theorem dX9_power___156 : decode cX9_power__ 156 = .ok (.lload 7, 2) := by decide +kernel
theorem dX9_power___158 : decode cX9_power__ 158 = .ok (.iload_n 2, 1) := by decide +kernel
theorem dX9_power___159 : decode cX9_power__ 159 = .ok (.ifCond .eq 9, 3) := by decide +kernel
theorem dX9_power___162 : decode cX9_power__ 162 = .ok (.ldc2_w 278, 3) := by decide +kernel
theorem dX9_power___165 : decode cX9_power__ 165 = .ok (.goto 6, 3) := by decide +kernel
theorem dX9_power___168 : decode cX9_power__ 168 = .ok (.ldc2_w 280, 3) := by decide +kernel
theorem dX9_power___171 : decode cX9_power__ 171 = .ok (.lmul, 1) := by decide +kernel
theorem dX9_power___172 : decode cX9_power__ 172 = .ok (.ldc2_w 268, 3) := by decide +kernel
theorem dX9_power___175 : decode cX9_power__ 175 = .ok (.iload_n 2, 1) := by decide +kernel
theorem dX9_power___176 : decode cX9_power__ 176 = .ok (.invokestatic 270, 3) := by decide +kernel
theorem dX9_power___179 : decode cX9_power__ 179 = .ok (.lstore 7, 2) := by decide +kernel
theorem dX9_power___181 : decode cX9_power__ 181 = .ok (.lload_n 3, 1) := by decide +kernel
theorem dX9_power___182 : decode cX9_power__ 182 = .ok (.lconst 1, 1) := by decide +kernel
theorem dX9_power___183 : decode cX9_power__ 183 = .ok (.ladd, 1) := by decide +kernel
theorem dX9_power___184 : decode cX9_power__ 184 = .ok (.lstore_n 3, 1) := by decide +kernel
theorem dX9_power___185 : decode cX9_power__ 185 = .ok (.goto (-35), 3) := by decide +kernel
theorem dX9_power___188 : decode cX9_power__ 188 = .ok (.lload 7, 2) := by decide +kernel
theorem dX9_power___190 : decode cX9_power__ 190 = .ok (.ldc2_w 266, 3) := by decide +kernel
theorem dX9_power___193 : decode cX9_power__ 193 = .ok (.iload_n 2, 1) := by decide +kernel
theorem dX9_power___194 : decode cX9_power__ 194 = .ok (.invokestatic 270, 3) := by decide +kernel
theorem dX9_power___197 : decode cX9_power__ 197 = .ok (.lreturn, 1) := by decide +kernel
theorem dX9_exp_0 : decode cX9_exp 0 = .ok (.lload_n 3, 1) := by decide +kernel
theorem dX9_exp_1 : decode cX9_exp 1 = .ok (.ldc2_w 282, 3) := by decide +kernel
theorem dX9_exp_4 : decode cX9_exp 4 = .ok (.lcmp, 1) := by decide +kernel
theorem dX9_exp_5 : decode cX9_exp 5 = .ok (.ifCond .le 8, 3) := by decide +kernel
theorem dX9_exp_8 : decode cX9_exp 8 = .ok (.aload_n 0, 1) := by decide +kernel
theorem dX9_exp_9 : decode cX9_exp 9 = .ok (.invokevirtual 247, 3) := by decide +kernel
theorem dX9_exp_12 : decode cX9_exp 12 = .ok (.return_, 1) := by decide +kernel
theorem dX9_exp_13 : decode cX9_exp 13 = .ok (.aload_n 0, 1) := by decide +kernel
theorem dX9_exp_14 : decode cX9_exp 14 = .ok (.lload_n 1, 1) := by decide +kernel
theorem dX9_exp_15 : decode cX9_exp 15 = .ok (.iconst 0, 1) := by decide +kernel
theorem dX9_exp_16 : decode cX9_exp 16 = .ok (.invokestatic 284, 3) := by decide +kernel
theorem dX9_exp_19 : decode cX9_exp 19 = .ok (.lload_n 3, 1) := by decide +kernel
theorem dX9_exp_20 : decode cX9_exp 20 = .ok (.iconst 1, 1) := by decide +kernel
theorem dX9_exp_21 : decode cX9_exp 21 = .ok (.invokestatic 284, 3) := by decide +kernel
theorem dX9_exp_24 : decode cX9_exp 24 = .ok (.invokevirtual 243, 3) := by decide +kernel
theorem dX9_exp_27 : decode cX9_exp 27 = .ok (.return_, 1) := by decide +kernel
theorem dX9_log_0 : decode cX9_log 0 = .ok (.lload_n 1, 1) := by decide +kernel
theorem dX9_log_1 : decode cX9_log 1 = .ok (.lconst 0, 1) := by decide +kernel
theorem dX9_log_2 : decode cX9_log 2 = .ok (.lcmp, 1) := by decide +kernel
theorem dX9_log_3 : decode cX9_log 3 = .ok (.ifCond .gt 8, 3) := by decide +kernel
theorem dX9_log_6 : decode cX9_log 6 = .ok (.aload_n 0, 1) := by decide +kernel
theorem dX9_log_7 : decode cX9_log 7 = .ok (.invokevirtual 247, 3) := by decide +kernel
theorem dX9_log_10 : decode cX9_log 10 = .ok (.return_, 1) := by decide +kernel
theorem dX9_log_11 : decode cX9_log 11 = .ok (.lload_n 1, 1) := by decide +kernel
theorem dX9_log_12 : decode cX9_log 12 = .ok (.iconst 1, 1) := by decide +kernel
theorem dX9_log_13 : decode cX9_log 13 = .ok (.invokestatic 287, 3) := by decide +kernel
theorem dX9_log_16 : decode cX9_log 16 = .ok (.lstore 5, 2) := by decide +kernel
theorem dX9_log_18 : decode cX9_log 18 = .ok (.lload_n 3, 1) := by decide +kernel
theorem dX9_log_19 : decode cX9_log 19 = .ok (.iconst 0, 1) := by decide +kernel
theorem dX9_log_20 : decode cX9_log 20 = .ok (.invokestatic 287, 3) := by decide +kernel
theorem dX9_log_23 : decode cX9_log 23 = .ok (.lstore 7, 2) := by decide +kernel
theorem dX9_log_25 : decode cX9_log 25 = .ok (.aload_n 0, 1) := by decide +kernel
theorem dX9_log_26 : decode cX9_log 26 = .ok (.lload 5, 2) := by decide +kernel
theorem dX9_log_28 : decode cX9_log 28 = .ok (.lload 7, 2) := by decide +kernel
theorem dX9_log_30 : decode cX9_log 30 = .ok (.ldc2_w 282, 3) := by decide +kernel
theorem dX9_log_33 : decode cX9_log 33 = .ok (.lcmp, 1) := by decide +kernel
theorem dX9_log_34 : decode cX9_log 34 = .ok (.ifCond .ne 9, 3) := by decide +kernel
theorem dX9_log_37 : decode cX9_log 37 = .ok (.ldc2_w 290, 3) := by decide +kernel
theorem dX9_log_40 : decode cX9_log 40 = .ok (.goto 7, 3) := by decide +kernel
theorem dX9_log_43 : decode cX9_log 43 = .ok (.lload 7, 2) := by decide +kernel
theorem dX9_log_45 : decode cX9_log 45 = .ok (.lconst 1, 1) := by decide +kernel
theorem dX9_log_46 : decode cX9_log 46 = .ok (.ladd, 1) := by decide +kernel
theorem dX9_log_47 : decode cX9_log 47 = .ok (.invokevirtual 243, 3) := by decide +kernel
theorem dX9_log_50 : decode cX9_log 50 = .ok (.return_, 1) := by decide +kernel
theorem dX9_halved_0 : decode cX9_halved 0 = .ok (.ldc2_w 264, 3) := by decide +kernel
theorem dX9_halved_3 : decode cX9_halved 3 = .ok (.lstore_n 3, 1) := by decide +kernel
theorem dX9_halved_4 : decode cX9_halved 4 = .ok (.ldc2_w 282, 3) := by decide +kernel
theorem dX9_halved_7 : decode cX9_halved 7 = .ok (.lstore 5, 2) := by decide +kernel
theorem dX9_halved_9 : decode cX9_halved 9 = .ok (.lload_n 3, 1) := by decide +kernel
theorem dX9_halved_10 : decode cX9_halved 10 = .ok (.lload 5, 2) := by decide +kernel
theorem dX9_halved_12 : decode cX9_halved 12 = .ok (.lcmp, 1) := by decide +kernel
theorem dX9_halved_13 : decode cX9_halved 13 = .ok (.ifCond .ge 78, 3) := by decide +kernel
theorem dX9_halved_16 : decode cX9_halved 16 = .ok (.lload_n 3, 1) := by decide +kernel
theorem dX9_halved_17 : decode cX9_halved 17 = .ok (.lload 5, 2) := by decide +kernel
theorem dX9_halved_19 : decode cX9_halved 19 = .ok (.ladd, 1) := by decide +kernel
theorem dX9_halved_20 : decode cX9_halved 20 = .ok (.lconst 1, 1) := by decide +kernel
theorem dX9_halved_21 : decode cX9_halved 21 = .ok (.ladd, 1) := by decide +kernel
theorem dX9_halved_22 : decode cX9_halved 22 = .ok (.ldc2_w 292, 3) := by decide +kernel
theorem dX9_halved_25 : decode cX9_halved 25 = .ok (.invokestatic 209, 3) := by decide +kernel
theorem dX9_halved_28 : decode cX9_halved 28 = .ok (.lstore 7, 2) := by decide +kernel
theorem dX9_halved_30 : decode cX9_halved 30 = .ok (.iload_n 2, 1) := by decide +kernel
theorem dX9_halved_31 : decode cX9_halved 31 = .ok (.ifCond .eq 22, 3) := by decide +kernel
theorem dX9_halved_34 : decode cX9_halved 34 = .ok (.lload 7, 2) := by decide +kernel
theorem dX9_halved_36 : decode cX9_halved 36 = .ok (.iconst 1, 1) := by decide +kernel
theorem dX9_halved_37 : decode cX9_halved 37 = .ok (.invokestatic 284, 3) := by decide +kernel
theorem dX9_halved_40 : decode cX9_halved 40 = .ok (.lload_n 0, 1) := by decide +kernel
theorem dX9_halved_41 : decode cX9_halved 41 = .ok (.lcmp, 1) := by decide +kernel
theorem dX9_halved_42 : decode cX9_halved 42 = .ok (.ifCond .gt 7, 3) := by decide +kernel
theorem dX9_halved_45 : decode cX9_halved 45 = .ok (.iconst 1, 1) := by decide +kernel
theorem dX9_halved_46 : decode cX9_halved 46 = .ok (.goto 23, 3) := by decide +kernel
theorem dX9_halved_49 : decode cX9_halved 49 = .ok (.iconst 0, 1) := by decide +kernel
theorem dX9_halved_50 : decode cX9_halved 50 = .ok (.goto 19, 3) := by decide +kernel
theorem dX9_halved_53 : decode cX9_halved 53 = .ok (.lload 7, 2) := by decide +kernel
theorem dX9_halved_55 : decode cX9_halved 55 = .ok (.iconst 0, 1) := by decide +kernel
theorem dX9_halved_56 : decode cX9_halved 56 = .ok (.invokestatic 284, 3) := by decide +kernel
theorem dX9_halved_59 : decode cX9_halved 59 = .ok (.lload_n 0, 1) := by decide +kernel
theorem dX9_halved_60 : decode cX9_halved 60 = .ok (.lcmp, 1) := by decide +kernel
theorem dX9_halved_61 : decode cX9_halved 61 = .ok (.ifCond .ge 7, 3) := by decide +kernel
theorem dX9_halved_64 : decode cX9_halved 64 = .ok (.iconst 1, 1) := by decide +kernel
theorem dX9_halved_65 : decode cX9_halved 65 = .ok (.goto 4, 3) := by decide +kernel
theorem dX9_halved_68 : decode cX9_halved 68 = .ok (.iconst 0, 1) := by decide +kernel
theorem dX9_halved_69 : decode cX9_halved 69 = .ok (.istore 9, 2) := by decide +kernel
theorem dX9_halved_71 : decode cX9_halved 71 = .ok (.iload 9, 2) := by decide +kernel
theorem dX9_halved_73 : decode cX9_halved 73 = .ok (.ifCond .eq 9, 3) := by decide +kernel
theorem dX9_halved_76 : decode cX9_halved 76 = .ok (.lload 7, 2) := by decide +kernel
theorem dX9_halved_78 : decode cX9_halved 78 = .ok (.lstore_n 3, 1) := by decide +kernel
theorem dX9_halved_79 : decode cX9_halved 79 = .ok (.goto 9, 3) := by decide +kernel
theorem dX9_halved_82 : decode cX9_halved 82 = .ok (.lload 7, 2) := by decide +kernel
theorem dX9_halved_84 : decode cX9_halved 84 = .ok (.lconst 1, 1) := by decide +kernel
theorem dX9_halved_85 : decode cX9_halved 85 = .ok (.lsub, 1) := by decide +kernel
theorem dX9_halved_86 : decode cX9_halved 86 = .ok (.lstore 5, 2) := by decide +kernel
theorem dX9_halved_88 : decode cX9_halved 88 = .ok (.goto (-79), 3) := by decide +kernel
theorem dX9_halved_91 : decode cX9_halved 91 = .ok (.lload_n 3, 1) := by decide +kernel
theorem dX9_halved_92 : decode cX9_halved 92 = .ok (.lreturn, 1) := by decide +kernel
theorem dX9_wave_0 : decode cX9_wave 0 = .ok (.lload_n 1, 1) := by decide +kernel
theorem dX9_wave_1 : decode cX9_wave 1 = .ok (.lload_n 3, 1) := by decide +kernel
theorem dX9_wave_2 : decode cX9_wave 2 = .ok (.ladd, 1) := by decide +kernel
theorem dX9_wave_3 : decode cX9_wave 3 = .ok (.ldc2_w 292, 3) := by decide +kernel
theorem dX9_wave_6 : decode cX9_wave 6 = .ok (.invokestatic 209, 3) := by decide +kernel
theorem dX9_wave_9 : decode cX9_wave 9 = .ok (.lstore 6, 2) := by decide +kernel
theorem dX9_wave_11 : decode cX9_wave 11 = .ok (.lload_n 3, 1) := by decide +kernel
theorem dX9_wave_12 : decode cX9_wave 12 = .ok (.lload 6, 2) := by decide +kernel
theorem dX9_wave_14 : decode cX9_wave 14 = .ok (.lsub, 1) := by decide +kernel
theorem dX9_wave_15 : decode cX9_wave 15 = .ok (.lstore 8, 2) := by decide +kernel
theorem dX9_wave_17 : decode cX9_wave 17 = .ok (.lload 6, 2) := by decide +kernel
theorem dX9_wave_19 : decode cX9_wave 19 = .ok (.ldc2_w 294, 3) := by decide +kernel
theorem dX9_wave_22 : decode cX9_wave 22 = .ok (.lcmp, 1) := by decide +kernel
theorem dX9_wave_23 : decode cX9_wave 23 = .ok (.ifCond .gt 21, 3) := by decide +kernel
theorem dX9_wave_26 : decode cX9_wave 26 = .ok (.lload 6, 2) := by decide +kernel
theorem dX9_wave_28 : decode cX9_wave 28 = .ok (.ldc2_w 296, 3) := by decide +kernel
theorem dX9_wave_31 : decode cX9_wave 31 = .ok (.lcmp, 1) := by decide +kernel
theorem dX9_wave_32 : decode cX9_wave 32 = .ok (.ifCond .lt 12, 3) := by decide +kernel
theorem dX9_wave_35 : decode cX9_wave 35 = .ok (.lload 8, 2) := by decide +kernel
theorem dX9_wave_37 : decode cX9_wave 37 = .ok (.ldc2_w 207, 3) := by decide +kernel
theorem dX9_wave_40 : decode cX9_wave 40 = .ok (.lcmp, 1) := by decide +kernel
theorem dX9_wave_41 : decode cX9_wave 41 = .ok (.ifCond .le 14, 3) := by decide +kernel
theorem dX9_wave_44 : decode cX9_wave 44 = .ok (.aload_n 0, 1) := by decide +kernel
theorem dX9_wave_45 : decode cX9_wave 45 = .ok (.ldc2_w 298, 3) := by decide +kernel
theorem dX9_wave_48 : decode cX9_wave 48 = .ok (.ldc2_w 207, 3) := by decide +kernel
theorem dX9_wave_51 : decode cX9_wave 51 = .ok (.invokevirtual 243, 3) := by decide +kernel
theorem dX9_wave_54 : decode cX9_wave 54 = .ok (.return_, 1) := by decide +kernel
theorem dX9_wave_55 : decode cX9_wave 55 = .ok (.ldc2_w 266, 3) := by decide +kernel
theorem dX9_wave_58 : decode cX9_wave 58 = .ok (.lload 6, 2) := by decide +kernel
theorem dX9_wave_60 : decode cX9_wave 60 = .ok (.lconst 0, 1) := by decide +kernel
theorem dX9_wave_61 : decode cX9_wave 61 = .ok (.lcmp, 1) := by decide +kernel
theorem dX9_wave_62 : decode cX9_wave 62 = .ok (.ifCond .ge 9, 3) := by decide +kernel
theorem dX9_wave_65 : decode cX9_wave 65 = .ok (.lload 6, 2) := by decide +kernel
theorem dX9_wave_67 : decode cX9_wave 67 = .ok (.lneg, 1) := by decide +kernel
theorem dX9_wave_68 : decode cX9_wave 68 = .ok (.goto 5, 3) := by decide +kernel
theorem dX9_wave_71 : decode cX9_wave 71 = .ok (.lload 6, 2) := by decide +kernel
theorem dX9_wave_73 : decode cX9_wave 73 = .ok (.lmul, 1) := by decide +kernel
theorem dX9_wave_74 : decode cX9_wave 74 = .ok (.lstore 10, 2) := by decide +kernel
theorem dX9_wave_76 : decode cX9_wave 76 = .ok (.lload 10, 2) := by decide +kernel
theorem dX9_wave_78 : decode cX9_wave 78 = .ok (.lload 10, 2) := by decide +kernel
theorem dX9_wave_80 : decode cX9_wave 80 = .ok (.lmul, 1) := by decide +kernel
theorem dX9_wave_81 : decode cX9_wave 81 = .ok (.ldc2_w 268, 3) := by decide +kernel
theorem dX9_wave_84 : decode cX9_wave 84 = .ok (.invokestatic 209, 3) := by decide +kernel
theorem dX9_wave_87 : decode cX9_wave 87 = .ok (.lstore 12, 2) := by decide +kernel
theorem dX9_wave_89 : decode cX9_wave 89 = .ok (.lload 10, 2) := by decide +kernel
theorem dX9_wave_91 : decode cX9_wave 91 = .ok (.lload 10, 2) := by decide +kernel
theorem dX9_wave_93 : decode cX9_wave 93 = .ok (.lmul, 1) := by decide +kernel
theorem dX9_wave_94 : decode cX9_wave 94 = .ok (.ldc2_w 268, 3) := by decide +kernel
theorem dX9_wave_97 : decode cX9_wave 97 = .ok (.invokestatic 213, 3) := by decide +kernel
theorem dX9_wave_100 : decode cX9_wave 100 = .ok (.lstore 14, 2) := by decide +kernel
theorem dX9_wave_102 : decode cX9_wave 102 = .ok (.iload 5, 2) := by decide +kernel
theorem dX9_wave_104 : decode cX9_wave 104 = .ok (.ifCond .eq 8, 3) := by decide +kernel
theorem dX9_wave_107 : decode cX9_wave 107 = .ok (.lload 10, 2) := by decide +kernel
theorem dX9_wave_109 : decode cX9_wave 109 = .ok (.goto 6, 3) := by decide +kernel
theorem dX9_wave_112 : decode cX9_wave 112 = .ok (.ldc2_w 268, 3) := by decide +kernel
theorem dX9_wave_115 : decode cX9_wave 115 = .ok (.lstore 16, 2) := by decide +kernel
theorem dX9_wave_117 : decode cX9_wave 117 = .ok (.lload 16, 2) := by decide +kernel
theorem dX9_wave_119 : decode cX9_wave 119 = .ok (.lstore 18, 2) := by decide +kernel
theorem dX9_wave_121 : decode cX9_wave 121 = .ok (.ldc2_w 300, 3) := by decide +kernel
theorem dX9_wave_124 : decode cX9_wave 124 = .ok (.lstore 20, 2) := by decide +kernel
theorem dX9_wave_126 : decode cX9_wave 126 = .ok (.lconst 1, 1) := by decide +kernel
theorem dX9_wave_127 : decode cX9_wave 127 = .ok (.lstore 22, 2) := by decide +kernel
theorem dX9_wave_129 : decode cX9_wave 129 = .ok (.iconst 0, 1) := by decide +kernel
theorem dX9_wave_130 : decode cX9_wave 130 = .ok (.istore 24, 2) := by decide +kernel
theorem dX9_wave_132 : decode cX9_wave 132 = .ok (.iload 24, 2) := by decide +kernel
theorem dX9_wave_134 : decode cX9_wave 134 = .ok (.bipush 20, 2) := by decide +kernel
theorem dX9_wave_136 : decode cX9_wave 136 = .ok (.if_icmp .ge 134, 3) := by decide +kernel
theorem dX9_wave_139 : decode cX9_wave 139 = .ok (.iload 24, 2) := by decide +kernel
theorem dX9_wave_141 : decode cX9_wave 141 = .ok (.ifCond .le 83, 3) := by decide +kernel
theorem dX9_wave_144 : decode cX9_wave 144 = .ok (.iload 5, 2) := by decide +kernel
theorem dX9_wave_146 : decode cX9_wave 146 = .ok (.ifCond .eq 23, 3) := by decide +kernel
theorem dX9_wave_149 : decode cX9_wave 149 = .ok (.ldc2_w 292, 3) := by decide +kernel
theorem dX9_wave_152 : decode cX9_wave 152 = .ok (.iload 24, 2) := by decide +kernel
theorem dX9_wave_154 : decode cX9_wave 154 = .ok (.i2l, 1) := by decide +kernel
theorem dX9_wave_155 : decode cX9_wave 155 = .ok (.lmul, 1) := by decide +kernel
theorem dX9_wave_156 : decode cX9_wave 156 = .ok (.ldc2_w 292, 3) := by decide +kernel
theorem dX9_wave_159 : decode cX9_wave 159 = .ok (.iload 24, 2) := by decide +kernel
theorem dX9_wave_161 : decode cX9_wave 161 = .ok (.i2l, 1) := by decide +kernel
theorem dX9_wave_162 : decode cX9_wave 162 = .ok (.lmul, 1) := by decide +kernel
theorem dX9_wave_163 : decode cX9_wave 163 = .ok (.lconst 1, 1) := by decide +kernel
theorem dX9_wave_164 : decode cX9_wave 164 = .ok (.ladd, 1) := by decide +kernel
theorem dX9_wave_165 : decode cX9_wave 165 = .ok (.lmul, 1) := by decide +kernel
theorem dX9_wave_166 : decode cX9_wave 166 = .ok (.goto 20, 3) := by decide +kernel
theorem dX9_wave_169 : decode cX9_wave 169 = .ok (.ldc2_w 292, 3) := by decide +kernel
theorem dX9_wave_172 : decode cX9_wave 172 = .ok (.iload 24, 2) := by decide +kernel
theorem dX9_wave_174 : decode cX9_wave 174 = .ok (.i2l, 1) := by decide +kernel
theorem dX9_wave_175 : decode cX9_wave 175 = .ok (.lmul, 1) := by decide +kernel
theorem dX9_wave_176 : decode cX9_wave 176 = .ok (.lconst 1, 1) := by decide +kernel
theorem dX9_wave_177 : decode cX9_wave 177 = .ok (.lsub, 1) := by decide +kernel
theorem dX9_wave_178 : decode cX9_wave 178 = .ok (.ldc2_w 292, 3) := by decide +kernel
theorem dX9_wave_181 : decode cX9_wave 181 = .ok (.lmul, 1) := by decide +kernel
theorem dX9_wave_182 : decode cX9_wave 182 = .ok (.iload 24, 2) := by decide +kernel
theorem dX9_wave_184 : decode cX9_wave 184 = .ok (.i2l, 1) := by decide +kernel
theorem dX9_wave_185 : decode cX9_wave 185 = .ok (.lmul, 1) := by decide +kernel
theorem dX9_wave_186 : decode cX9_wave 186 = .ok (.lstore 25, 2) := by decide +kernel
theorem dX9_wave_188 : decode cX9_wave 188 = .ok (.lload 16, 2) := by decide +kernel
theorem dX9_wave_190 : decode cX9_wave 190 = .ok (.lload 12, 2) := by decide +kernel
theorem dX9_wave_192 : decode cX9_wave 192 = .ok (.lmul, 1) := by decide +kernel
theorem dX9_wave_193 : decode cX9_wave 193 = .ok (.ldc2_w 268, 3) := by decide +kernel
theorem dX9_wave_196 : decode cX9_wave 196 = .ok (.invokestatic 209, 3) := by decide +kernel
theorem dX9_wave_199 : decode cX9_wave 199 = .ok (.lload 25, 2) := by decide +kernel
theorem dX9_wave_201 : decode cX9_wave 201 = .ok (.invokestatic 209, 3) := by decide +kernel
theorem dX9_wave_204 : decode cX9_wave 204 = .ok (.lstore 16, 2) := by decide +kernel
theorem dX9_wave_206 : decode cX9_wave 206 = .ok (.lload 18, 2) := by decide +kernel
theorem dX9_wave_208 : decode cX9_wave 208 = .ok (.lload 14, 2) := by decide +kernel
theorem dX9_wave_210 : decode cX9_wave 210 = .ok (.lmul, 1) := by decide +kernel
theorem dX9_wave_211 : decode cX9_wave 211 = .ok (.ldc2_w 268, 3) := by decide +kernel
theorem dX9_wave_214 : decode cX9_wave 214 = .ok (.invokestatic 213, 3) := by decide +kernel
theorem dX9_wave_217 : decode cX9_wave 217 = .ok (.lload 25, 2) := by decide +kernel
theorem dX9_wave_219 : decode cX9_wave 219 = .ok (.invokestatic 213, 3) := by decide +kernel
theorem dX9_wave_222 : decode cX9_wave 222 = .ok (.lstore 18, 2) := by decide +kernel
theorem dX9_wave_224 : decode cX9_wave 224 = .ok (.lload 20, 2) := by decide +kernel
theorem dX9_wave_226 : decode cX9_wave 226 = .ok (.iload 24, 2) := by decide +kernel
theorem dX9_wave_228 : decode cX9_wave 228 = .ok (.iconst 2, 1) := by decide +kernel
theorem dX9_wave_229 : decode cX9_wave 229 = .ok (.irem, 1) := by decide +kernel
theorem dX9_wave_230 : decode cX9_wave 230 = .ok (.ifCond .ne 8, 3) := by decide +kernel
theorem dX9_wave_233 : decode cX9_wave 233 = .ok (.lload 16, 2) := by decide +kernel
theorem dX9_wave_235 : decode cX9_wave 235 = .ok (.goto 6, 3) := by decide +kernel
theorem dX9_wave_238 : decode cX9_wave 238 = .ok (.lload 18, 2) := by decide +kernel
theorem dX9_wave_240 : decode cX9_wave 240 = .ok (.lneg, 1) := by decide +kernel
theorem dX9_wave_241 : decode cX9_wave 241 = .ok (.ladd, 1) := by decide +kernel
theorem dX9_wave_242 : decode cX9_wave 242 = .ok (.lstore 20, 2) := by decide +kernel
theorem dX9_wave_244 : decode cX9_wave 244 = .ok (.lload 22, 2) := by decide +kernel
theorem dX9_wave_246 : decode cX9_wave 246 = .ok (.iload 24, 2) := by decide +kernel
theorem dX9_wave_248 : decode cX9_wave 248 = .ok (.iconst 2, 1) := by decide +kernel
theorem dX9_wave_249 : decode cX9_wave 249 = .ok (.irem, 1) := by decide +kernel
theorem dX9_wave_250 : decode cX9_wave 250 = .ok (.ifCond .ne 8, 3) := by decide +kernel
theorem dX9_wave_253 : decode cX9_wave 253 = .ok (.lload 18, 2) := by decide +kernel
theorem dX9_wave_255 : decode cX9_wave 255 = .ok (.goto 6, 3) := by decide +kernel
theorem dX9_wave_258 : decode cX9_wave 258 = .ok (.lload 16, 2) := by decide +kernel
theorem dX9_wave_260 : decode cX9_wave 260 = .ok (.lneg, 1) := by decide +kernel
theorem dX9_wave_261 : decode cX9_wave 261 = .ok (.ladd, 1) := by decide +kernel
theorem dX9_wave_262 : decode cX9_wave 262 = .ok (.lstore 22, 2) := by decide +kernel
theorem dX9_wave_264 : decode cX9_wave 264 = .ok (.iinc 24 1, 3) := by decide +kernel
theorem dX9_wave_267 : decode cX9_wave 267 = .ok (.goto (-135), 3) := by decide +kernel
theorem dX9_wave_270 : decode cX9_wave 270 = .ok (.iload 5, 2) := by decide +kernel
theorem dX9_wave_272 : decode cX9_wave 272 = .ok (.ifCond .eq 14, 3) := by decide +kernel
theorem dX9_wave_275 : decode cX9_wave 275 = .ok (.lload 6, 2) := by decide +kernel
theorem dX9_wave_277 : decode cX9_wave 277 = .ok (.lconst 0, 1) := by decide +kernel
theorem dX9_wave_278 : decode cX9_wave 278 = .ok (.lcmp, 1) := by decide +kernel
theorem dX9_wave_279 : decode cX9_wave 279 = .ok (.ifCond .ge 7, 3) := by decide +kernel
theorem dX9_wave_282 : decode cX9_wave 282 = .ok (.iconst 1, 1) := by decide +kernel
theorem dX9_wave_283 : decode cX9_wave 283 = .ok (.goto 4, 3) := by decide +kernel
theorem dX9_wave_286 : decode cX9_wave 286 = .ok (.iconst 0, 1) := by decide +kernel
theorem dX9_wave_287 : decode cX9_wave 287 = .ok (.istore 24, 2) := by decide +kernel
theorem dX9_wave_289 : decode cX9_wave 289 = .ok (.iload 24, 2) := by decide +kernel
theorem dX9_wave_291 : decode cX9_wave 291 = .ok (.ifCond .eq 9, 3) := by decide +kernel
theorem dX9_wave_294 : decode cX9_wave 294 = .ok (.lload 22, 2) := by decide +kernel
theorem dX9_wave_296 : decode cX9_wave 296 = .ok (.lneg, 1) := by decide +kernel
theorem dX9_wave_297 : decode cX9_wave 297 = .ok (.goto 5, 3) := by decide +kernel
theorem dX9_wave_300 : decode cX9_wave 300 = .ok (.lload 20, 2) := by decide +kernel
theorem dX9_wave_302 : decode cX9_wave 302 = .ok (.ldc2_w 266, 3) := by decide +kernel
theorem dX9_wave_305 : decode cX9_wave 305 = .ok (.invokestatic 209, 3) := by decide +kernel
theorem dX9_wave_308 : decode cX9_wave 308 = .ok (.lload 8, 2) := by decide +kernel
theorem dX9_wave_310 : decode cX9_wave 310 = .ok (.lsub, 1) := by decide +kernel
theorem dX9_wave_311 : decode cX9_wave 311 = .ok (.lstore 25, 2) := by decide +kernel
theorem dX9_wave_313 : decode cX9_wave 313 = .ok (.iload 24, 2) := by decide +kernel
theorem dX9_wave_315 : decode cX9_wave 315 = .ok (.ifCond .eq 9, 3) := by decide +kernel
theorem dX9_wave_318 : decode cX9_wave 318 = .ok (.lload 20, 2) := by decide +kernel
theorem dX9_wave_320 : decode cX9_wave 320 = .ok (.lneg, 1) := by decide +kernel
theorem dX9_wave_321 : decode cX9_wave 321 = .ok (.goto 5, 3) := by decide +kernel
theorem dX9_wave_324 : decode cX9_wave 324 = .ok (.lload 22, 2) := by decide +kernel
theorem dX9_wave_326 : decode cX9_wave 326 = .ok (.ldc2_w 266, 3) := by decide +kernel
theorem dX9_wave_329 : decode cX9_wave 329 = .ok (.invokestatic 213, 3) := by decide +kernel
theorem dX9_wave_332 : decode cX9_wave 332 = .ok (.lload 8, 2) := by decide +kernel
theorem dX9_wave_334 : decode cX9_wave 334 = .ok (.ladd, 1) := by decide +kernel
theorem dX9_wave_335 : decode cX9_wave 335 = .ok (.lstore 27, 2) := by decide +kernel
theorem dX9_wave_337 : decode cX9_wave 337 = .ok (.aload_n 0, 1) := by decide +kernel
theorem dX9_wave_338 : decode cX9_wave 338 = .ok (.ldc2_w 298, 3) := by decide +kernel
theorem dX9_wave_341 : decode cX9_wave 341 = .ok (.ldc2_w 207, 3) := by decide +kernel
theorem dX9_wave_344 : decode cX9_wave 344 = .ok (.lload 25, 2) := by decide +kernel
theorem dX9_wave_346 : decode cX9_wave 346 = .ok (.invokestatic 237, 3) := by decide +kernel
theorem dX9_wave_349 : decode cX9_wave 349 = .ok (.invokestatic 240, 3) := by decide +kernel
theorem dX9_wave_352 : decode cX9_wave 352 = .ok (.ldc2_w 207, 3) := by decide +kernel
theorem dX9_wave_355 : decode cX9_wave 355 = .ok (.ldc2_w 298, 3) := by decide +kernel
theorem dX9_wave_358 : decode cX9_wave 358 = .ok (.lload 27, 2) := by decide +kernel
theorem dX9_wave_360 : decode cX9_wave 360 = .ok (.invokestatic 240, 3) := by decide +kernel
theorem dX9_wave_363 : decode cX9_wave 363 = .ok (.invokestatic 237, 3) := by decide +kernel
theorem dX9_wave_366 : decode cX9_wave 366 = .ok (.invokevirtual 243, 3) := by decide +kernel
theorem dX9_wave_369 : decode cX9_wave 369 = .ok (.return_, 1) := by decide +kernel
theorem dX9_keepValue_0 : decode cX9_keepValue 0 = .ok (.aload_n 0, 1) := by decide +kernel
theorem dX9_keepValue_1 : decode cX9_keepValue 1 = .ok (.getfield 42, 3) := by decide +kernel
theorem dX9_keepValue_4 : decode cX9_keepValue 4 = .ok (.iload_n 1, 1) := by decide +kernel
theorem dX9_keepValue_5 : decode cX9_keepValue 5 = .ok (.aload_n 0, 1) := by decide +kernel
theorem dX9_keepValue_6 : decode cX9_keepValue 6 = .ok (.getfield 222, 3) := by decide +kernel
theorem dX9_keepValue_9 : decode cX9_keepValue 9 = .ok (.lastore, 1) := by decide +kernel
theorem dX9_keepValue_10 : decode cX9_keepValue 10 = .ok (.aload_n 0, 1) := by decide +kernel
theorem dX9_keepValue_11 : decode cX9_keepValue 11 = .ok (.getfield 45, 3) := by decide +kernel
theorem dX9_keepValue_14 : decode cX9_keepValue 14 = .ok (.iload_n 1, 1) := by decide +kernel
theorem dX9_keepValue_15 : decode cX9_keepValue 15 = .ok (.aload_n 0, 1) := by decide +kernel
theorem dX9_keepValue_16 : decode cX9_keepValue 16 = .ok (.getfield 226, 3) := by decide +kernel
theorem dX9_keepValue_19 : decode cX9_keepValue 19 = .ok (.lastore, 1) := by decide +kernel
theorem dX9_keepValue_20 : decode cX9_keepValue 20 = .ok (.aload_n 0, 1) := by decide +kernel
theorem dX9_keepValue_21 : decode cX9_keepValue 21 = .ok (.getfield 54, 3) := by decide +kernel
theorem dX9_keepValue_24 : decode cX9_keepValue 24 = .ok (.iload_n 1, 1) := by decide +kernel
theorem dX9_keepValue_25 : decode cX9_keepValue 25 = .ok (.aload_n 0, 1) := by decide +kernel
theorem dX9_keepValue_26 : decode cX9_keepValue 26 = .ok (.getfield 233, 3) := by decide +kernel
theorem dX9_keepValue_29 : decode cX9_keepValue 29 = .ok (.bastore, 1) := by decide +kernel
theorem dX9_keepValue_30 : decode cX9_keepValue 30 = .ok (.return_, 1) := by decide +kernel
theorem dX9_lastOf_0 : decode cX9_lastOf 0 = .ok (.bipush 60, 2) := by decide +kernel
theorem dX9_lastOf_2 : decode cX9_lastOf 2 = .ok (.iload_n 1, 1) := by decide +kernel
theorem dX9_lastOf_3 : decode cX9_lastOf 3 = .ok (.imul, 1) := by decide +kernel
theorem dX9_lastOf_4 : decode cX9_lastOf 4 = .ok (.aload_n 0, 1) := by decide +kernel
theorem dX9_lastOf_5 : decode cX9_lastOf 5 = .ok (.getfield 13, 3) := by decide +kernel
theorem dX9_lastOf_8 : decode cX9_lastOf 8 = .ok (.iload_n 1, 1) := by decide +kernel
theorem dX9_lastOf_9 : decode cX9_lastOf 9 = .ok (.iaload, 1) := by decide +kernel
theorem dX9_lastOf_10 : decode cX9_lastOf 10 = .ok (.iadd, 1) := by decide +kernel
theorem dX9_lastOf_11 : decode cX9_lastOf 11 = .ok (.iconst 1, 1) := by decide +kernel
theorem dX9_lastOf_12 : decode cX9_lastOf 12 = .ok (.isub, 1) := by decide +kernel
theorem dX9_lastOf_13 : decode cX9_lastOf 13 = .ok (.ireturn, 1) := by decide +kernel
theorem dX9_values_0 : decode cX9_values 0 = .ok (.iconst 0, 1) := by decide +kernel
theorem dX9_values_1 : decode cX9_values 1 = .ok (.istore 6, 2) := by decide +kernel
theorem dX9_values_3 : decode cX9_values 3 = .ok (.iload 6, 2) := by decide +kernel
theorem dX9_values_5 : decode cX9_values 5 = .ok (.iload_n 1, 1) := by decide +kernel
theorem dX9_values_6 : decode cX9_values 6 = .ok (.if_icmp .gt 48, 3) := by decide +kernel
theorem dX9_values_9 : decode cX9_values 9 = .ok (.bipush 60, 2) := by decide +kernel
theorem dX9_values_11 : decode cX9_values 11 = .ok (.iload 6, 2) := by decide +kernel
theorem dX9_values_13 : decode cX9_values 13 = .ok (.imul, 1) := by decide +kernel
theorem dX9_values_14 : decode cX9_values 14 = .ok (.istore 7, 2) := by decide +kernel
theorem dX9_values_16 : decode cX9_values 16 = .ok (.iload 7, 2) := by decide +kernel
theorem dX9_values_18 : decode cX9_values 18 = .ok (.aload_n 0, 1) := by decide +kernel
theorem dX9_values_19 : decode cX9_values 19 = .ok (.iload 6, 2) := by decide +kernel
theorem dX9_values_21 : decode cX9_values 21 = .ok (.invokevirtual 302, 3) := by decide +kernel
theorem dX9_values_24 : decode cX9_values 24 = .ok (.if_icmp .gt 24, 3) := by decide +kernel
theorem dX9_values_27 : decode cX9_values 27 = .ok (.aload_n 0, 1) := by decide +kernel
theorem dX9_values_28 : decode cX9_values 28 = .ok (.iload 7, 2) := by decide +kernel
theorem dX9_values_30 : decode cX9_values 30 = .ok (.lload_n 2, 1) := by decide +kernel
theorem dX9_values_31 : decode cX9_values 31 = .ok (.lload 4, 2) := by decide +kernel
theorem dX9_values_33 : decode cX9_values 33 = .ok (.invokevirtual 305, 3) := by decide +kernel
theorem dX9_values_36 : decode cX9_values 36 = .ok (.aload_n 0, 1) := by decide +kernel
theorem dX9_values_37 : decode cX9_values 37 = .ok (.iload 7, 2) := by decide +kernel
theorem dX9_values_39 : decode cX9_values 39 = .ok (.invokevirtual 309, 3) := by decide +kernel
theorem dX9_values_42 : decode cX9_values 42 = .ok (.iinc 7 1, 3) := by decide +kernel
theorem dX9_values_45 : decode cX9_values 45 = .ok (.goto (-29), 3) := by decide +kernel
theorem dX9_values_48 : decode cX9_values 48 = .ok (.iinc 6 1, 3) := by decide +kernel
theorem dX9_values_51 : decode cX9_values 51 = .ok (.goto (-48), 3) := by decide +kernel
theorem dX9_values_54 : decode cX9_values 54 = .ok (.return_, 1) := by decide +kernel
theorem dX9_value_0 : decode cX9_value 0 = .ok (.aload_n 0, 1) := by decide +kernel
theorem dX9_value_1 : decode cX9_value 1 = .ok (.iconst 0, 1) := by decide +kernel
theorem dX9_value_2 : decode cX9_value 2 = .ok (.putfield 233, 3) := by decide +kernel
theorem dX9_value_5 : decode cX9_value 5 = .ok (.aload_n 0, 1) := by decide +kernel
theorem dX9_value_6 : decode cX9_value 6 = .ok (.getfield 17, 3) := by decide +kernel
theorem dX9_value_9 : decode cX9_value 9 = .ok (.iload_n 1, 1) := by decide +kernel
theorem dX9_value_10 : decode cX9_value 10 = .ok (.iaload, 1) := by decide +kernel
theorem dX9_value_11 : decode cX9_value 11 = .ok (.iconst 2, 1) := by decide +kernel
theorem dX9_value_12 : decode cX9_value 12 = .ok (.if_icmp .ne 16, 3) := by decide +kernel
theorem dX9_value_15 : decode cX9_value 15 = .ok (.aload_n 0, 1) := by decide +kernel
theorem dX9_value_16 : decode cX9_value 16 = .ok (.aload_n 0, 1) := by decide +kernel
theorem dX9_value_17 : decode cX9_value 17 = .ok (.getfield 20, 3) := by decide +kernel
theorem dX9_value_20 : decode cX9_value 20 = .ok (.iload_n 1, 1) := by decide +kernel
theorem dX9_value_21 : decode cX9_value 21 = .ok (.iaload, 1) := by decide +kernel
theorem dX9_value_22 : decode cX9_value 22 = .ok (.invokevirtual 302, 3) := by decide +kernel
theorem dX9_value_25 : decode cX9_value 25 = .ok (.goto 9, 3) := by decide +kernel
theorem dX9_value_28 : decode cX9_value 28 = .ok (.aload_n 0, 1) := by decide +kernel
theorem dX9_value_29 : decode cX9_value 29 = .ok (.getfield 20, 3) := by decide +kernel
theorem dX9_value_32 : decode cX9_value 32 = .ok (.iload_n 1, 1) := by decide +kernel
theorem dX9_value_33 : decode cX9_value 33 = .ok (.iaload, 1) := by decide +kernel
theorem dX9_value_34 : decode cX9_value 34 = .ok (.istore 6, 2) := by decide +kernel
theorem dX9_value_36 : decode cX9_value 36 = .ok (.aload_n 0, 1) := by decide +kernel
theorem dX9_value_37 : decode cX9_value 37 = .ok (.getfield 23, 3) := by decide +kernel
theorem dX9_value_40 : decode cX9_value 40 = .ok (.iload_n 1, 1) := by decide +kernel
theorem dX9_value_41 : decode cX9_value 41 = .ok (.iaload, 1) := by decide +kernel
theorem dX9_value_42 : decode cX9_value 42 = .ok (.istore 7, 2) := by decide +kernel
theorem dX9_value_44 : decode cX9_value 44 = .ok (.aload_n 0, 1) := by decide +kernel
theorem dX9_value_45 : decode cX9_value 45 = .ok (.getfield 17, 3) := by decide +kernel
theorem dX9_value_48 : decode cX9_value 48 = .ok (.iload_n 1, 1) := by decide +kernel
theorem dX9_value_49 : decode cX9_value 49 = .ok (.iaload, 1) := by decide +kernel
theorem dX9_value_50 : decode cX9_value 50 = .ok (.ifCond .ne 11, 3) := by decide +kernel
theorem dX9_value_53 : decode cX9_value 53 = .ok (.aload_n 0, 1) := by decide +kernel
theorem dX9_value_54 : decode cX9_value 54 = .ok (.lload_n 2, 1) := by decide +kernel
theorem dX9_value_55 : decode cX9_value 55 = .ok (.lload 4, 2) := by decide +kernel
theorem dX9_value_57 : decode cX9_value 57 = .ok (.invokevirtual 243, 3) := by decide +kernel
theorem dX9_value_60 : decode cX9_value 60 = .ok (.return_, 1) := by decide +kernel
theorem dX9_value_61 : decode cX9_value 61 = .ok (.aload_n 0, 1) := by decide +kernel
theorem dX9_value_62 : decode cX9_value 62 = .ok (.getfield 17, 3) := by decide +kernel
theorem dX9_value_65 : decode cX9_value 65 = .ok (.iload_n 1, 1) := by decide +kernel
theorem dX9_value_66 : decode cX9_value 66 = .ok (.iaload, 1) := by decide +kernel
theorem dX9_value_67 : decode cX9_value 67 = .ok (.iconst 1, 1) := by decide +kernel
theorem dX9_value_68 : decode cX9_value 68 = .ok (.if_icmp .ne 20, 3) := by decide +kernel
theorem dX9_value_71 : decode cX9_value 71 = .ok (.aload_n 0, 1) := by decide +kernel
theorem dX9_value_72 : decode cX9_value 72 = .ok (.aload_n 0, 1) := by decide +kernel
theorem dX9_value_73 : decode cX9_value 73 = .ok (.getfield 26, 3) := by decide +kernel
theorem dX9_value_76 : decode cX9_value 76 = .ok (.iload_n 1, 1) := by decide +kernel
theorem dX9_value_77 : decode cX9_value 77 = .ok (.laload, 1) := by decide +kernel
theorem dX9_value_78 : decode cX9_value 78 = .ok (.aload_n 0, 1) := by decide +kernel
theorem dX9_value_79 : decode cX9_value 79 = .ok (.getfield 30, 3) := by decide +kernel
theorem dX9_value_82 : decode cX9_value 82 = .ok (.iload_n 1, 1) := by decide +kernel
theorem dX9_value_83 : decode cX9_value 83 = .ok (.laload, 1) := by decide +kernel
theorem dX9_value_84 : decode cX9_value 84 = .ok (.invokevirtual 243, 3) := by decide +kernel
theorem dX9_value_87 : decode cX9_value 87 = .ok (.return_, 1) := by decide +kernel
theorem dX9_value_88 : decode cX9_value 88 = .ok (.aload_n 0, 1) := by decide +kernel
theorem dX9_value_89 : decode cX9_value 89 = .ok (.getfield 17, 3) := by decide +kernel
theorem dX9_value_92 : decode cX9_value 92 = .ok (.iload_n 1, 1) := by decide +kernel
theorem dX9_value_93 : decode cX9_value 93 = .ok (.iaload, 1) := by decide +kernel
theorem dX9_value_94 : decode cX9_value 94 = .ok (.iconst 5, 1) := by decide +kernel
theorem dX9_value_95 : decode cX9_value 95 = .ok (.if_icmp .lt 14, 3) := by decide +kernel
theorem dX9_value_98 : decode cX9_value 98 = .ok (.aload_n 0, 1) := by decide +kernel
theorem dX9_value_99 : decode cX9_value 99 = .ok (.getfield 17, 3) := by decide +kernel
theorem dX9_value_102 : decode cX9_value 102 = .ok (.iload_n 1, 1) := by decide +kernel
theorem dX9_value_103 : decode cX9_value 103 = .ok (.iaload, 1) := by decide +kernel
theorem dX9_value_104 : decode cX9_value 104 = .ok (.bipush 8, 2) := by decide +kernel
theorem dX9_value_106 : decode cX9_value 106 = .ok (.if_icmp .le 14, 3) := by decide +kernel
theorem dX9_value_109 : decode cX9_value 109 = .ok (.aload_n 0, 1) := by decide +kernel
theorem dX9_value_110 : decode cX9_value 110 = .ok (.getfield 17, 3) := by decide +kernel
theorem dX9_value_113 : decode cX9_value 113 = .ok (.iload_n 1, 1) := by decide +kernel
theorem dX9_value_114 : decode cX9_value 114 = .ok (.iaload, 1) := by decide +kernel
theorem dX9_value_115 : decode cX9_value 115 = .ok (.bipush 15, 2) := by decide +kernel
theorem dX9_value_117 : decode cX9_value 117 = .ok (.if_icmp .lt 7, 3) := by decide +kernel
theorem dX9_value_120 : decode cX9_value 120 = .ok (.iconst 1, 1) := by decide +kernel
theorem dX9_value_121 : decode cX9_value 121 = .ok (.goto 4, 3) := by decide +kernel
theorem dX9_value_124 : decode cX9_value 124 = .ok (.iconst 0, 1) := by decide +kernel
theorem dX9_value_125 : decode cX9_value 125 = .ok (.istore 8, 2) := by decide +kernel
theorem dX9_value_127 : decode cX9_value 127 = .ok (.aload_n 0, 1) := by decide +kernel
theorem dX9_value_128 : decode cX9_value 128 = .ok (.getfield 54, 3) := by decide +kernel
theorem dX9_value_131 : decode cX9_value 131 = .ok (.iload 6, 2) := by decide +kernel
theorem dX9_value_133 : decode cX9_value 133 = .ok (.baload, 1) := by decide +kernel
theorem dX9_value_134 : decode cX9_value 134 = .ok (.ifCond .ne 18, 3) := by decide +kernel
theorem dX9_value_137 : decode cX9_value 137 = .ok (.iload 8, 2) := by decide +kernel
theorem dX9_value_139 : decode cX9_value 139 = .ok (.ifCond .eq 18, 3) := by decide +kernel
theorem dX9_value_142 : decode cX9_value 142 = .ok (.aload_n 0, 1) := by decide +kernel
theorem dX9_value_143 : decode cX9_value 143 = .ok (.getfield 54, 3) := by decide +kernel
theorem dX9_value_146 : decode cX9_value 146 = .ok (.iload 7, 2) := by decide +kernel
theorem dX9_value_148 : decode cX9_value 148 = .ok (.baload, 1) := by decide +kernel
theorem dX9_value_149 : decode cX9_value 149 = .ok (.ifCond .eq 8, 3) := by decide +kernel
theorem dX9_value_152 : decode cX9_value 152 = .ok (.aload_n 0, 1) := by decide +kernel
theorem dX9_value_153 : decode cX9_value 153 = .ok (.invokevirtual 247, 3) := by decide +kernel
theorem dX9_value_156 : decode cX9_value 156 = .ok (.return_, 1) := by decide +kernel
theorem dX9_value_157 : decode cX9_value 157 = .ok (.aload_n 0, 1) := by decide +kernel
theorem dX9_value_158 : decode cX9_value 158 = .ok (.getfield 42, 3) := by decide +kernel
theorem dX9_value_161 : decode cX9_value 161 = .ok (.iload 6, 2) := by decide +kernel
theorem dX9_value_163 : decode cX9_value 163 = .ok (.laload, 1) := by decide +kernel
theorem dX9_value_164 : decode cX9_value 164 = .ok (.lstore 9, 2) := by decide +kernel
theorem dX9_value_166 : decode cX9_value 166 = .ok (.aload_n 0, 1) := by decide +kernel
theorem dX9_value_167 : decode cX9_value 167 = .ok (.getfield 45, 3) := by decide +kernel
theorem dX9_value_170 : decode cX9_value 170 = .ok (.iload 6, 2) := by decide +kernel
theorem dX9_value_172 : decode cX9_value 172 = .ok (.laload, 1) := by decide +kernel
theorem dX9_value_173 : decode cX9_value 173 = .ok (.lstore 11, 2) := by decide +kernel
theorem dX9_value_175 : decode cX9_value 175 = .ok (.iload 8, 2) := by decide +kernel
theorem dX9_value_177 : decode cX9_value 177 = .ok (.ifCond .eq 13, 3) := by decide +kernel
theorem dX9_value_180 : decode cX9_value 180 = .ok (.aload_n 0, 1) := by decide +kernel
theorem dX9_value_181 : decode cX9_value 181 = .ok (.getfield 42, 3) := by decide +kernel
theorem dX9_value_184 : decode cX9_value 184 = .ok (.iload 7, 2) := by decide +kernel
theorem dX9_value_186 : decode cX9_value 186 = .ok (.laload, 1) := by decide +kernel
theorem dX9_value_187 : decode cX9_value 187 = .ok (.goto 4, 3) := by decide +kernel
theorem dX9_value_190 : decode cX9_value 190 = .ok (.lconst 0, 1) := by decide +kernel
theorem dX9_value_191 : decode cX9_value 191 = .ok (.lstore 13, 2) := by decide +kernel
theorem dX9_value_193 : decode cX9_value 193 = .ok (.iload 8, 2) := by decide +kernel
theorem dX9_value_195 : decode cX9_value 195 = .ok (.ifCond .eq 13, 3) := by decide +kernel
theorem dX9_value_198 : decode cX9_value 198 = .ok (.aload_n 0, 1) := by decide +kernel
theorem dX9_value_199 : decode cX9_value 199 = .ok (.getfield 45, 3) := by decide +kernel
theorem dX9_value_202 : decode cX9_value 202 = .ok (.iload 7, 2) := by decide +kernel
theorem dX9_value_204 : decode cX9_value 204 = .ok (.laload, 1) := by decide +kernel
theorem dX9_value_205 : decode cX9_value 205 = .ok (.goto 4, 3) := by decide +kernel
theorem dX9_value_208 : decode cX9_value 208 = .ok (.lconst 0, 1) := by decide +kernel
theorem dX9_value_209 : decode cX9_value 209 = .ok (.lstore 15, 2) := by decide +kernel
theorem dX9_value_211 : decode cX9_value 211 = .ok (.aload_n 0, 1) := by decide +kernel
theorem dX9_value_212 : decode cX9_value 212 = .ok (.getfield 17, 3) := by decide +kernel
theorem dX9_value_215 : decode cX9_value 215 = .ok (.iload_n 1, 1) := by decide +kernel
theorem dX9_value_216 : decode cX9_value 216 = .ok (.iaload, 1) := by decide +kernel
theorem dX9_value_217 : decode cX9_value 217 = .ok (.tableswitch 261 2 15 #[71, 82, 95, 108, 125, 142, 157, 172, 183, 194, 205, 217, 229, 240], 71) := by decide +kernel
theorem dX9_value_288 : decode cX9_value 288 = .ok (.aload_n 0, 1) := by decide +kernel
theorem dX9_value_289 : decode cX9_value 289 = .ok (.lload 9, 2) := by decide +kernel
theorem dX9_value_291 : decode cX9_value 291 = .ok (.lload 11, 2) := by decide +kernel
theorem dX9_value_293 : decode cX9_value 293 = .ok (.invokevirtual 243, 3) := by decide +kernel
theorem dX9_value_296 : decode cX9_value 296 = .ok (.goto 200, 3) := by decide +kernel
theorem dX9_value_299 : decode cX9_value 299 = .ok (.aload_n 0, 1) := by decide +kernel
theorem dX9_value_300 : decode cX9_value 300 = .ok (.lload 11, 2) := by decide +kernel
theorem dX9_value_302 : decode cX9_value 302 = .ok (.lneg, 1) := by decide +kernel
theorem dX9_value_303 : decode cX9_value 303 = .ok (.lload 9, 2) := by decide +kernel
theorem dX9_value_305 : decode cX9_value 305 = .ok (.lneg, 1) := by decide +kernel
theorem dX9_value_306 : decode cX9_value 306 = .ok (.invokevirtual 243, 3) := by decide +kernel
theorem dX9_value_309 : decode cX9_value 309 = .ok (.goto 187, 3) := by decide +kernel
theorem dX9_value_312 : decode cX9_value 312 = .ok (.aload_n 0, 1) := by decide +kernel
theorem dX9_value_313 : decode cX9_value 313 = .ok (.lload 9, 2) := by decide +kernel
theorem dX9_value_315 : decode cX9_value 315 = .ok (.lload 11, 2) := by decide +kernel
theorem dX9_value_317 : decode cX9_value 317 = .ok (.iload 7, 2) := by decide +kernel
theorem dX9_value_319 : decode cX9_value 319 = .ok (.invokevirtual 312, 3) := by decide +kernel
theorem dX9_value_322 : decode cX9_value 322 = .ok (.goto 174, 3) := by decide +kernel
theorem dX9_value_325 : decode cX9_value 325 = .ok (.aload_n 0, 1) := by decide +kernel
theorem dX9_value_326 : decode cX9_value 326 = .ok (.lload 9, 2) := by decide +kernel
theorem dX9_value_328 : decode cX9_value 328 = .ok (.lload 13, 2) := by decide +kernel
theorem dX9_value_330 : decode cX9_value 330 = .ok (.ladd, 1) := by decide +kernel
theorem dX9_value_331 : decode cX9_value 331 = .ok (.lload 11, 2) := by decide +kernel
theorem dX9_value_333 : decode cX9_value 333 = .ok (.lload 15, 2) := by decide +kernel
theorem dX9_value_335 : decode cX9_value 335 = .ok (.ladd, 1) := by decide +kernel
theorem dX9_value_336 : decode cX9_value 336 = .ok (.invokevirtual 243, 3) := by decide +kernel
theorem dX9_value_339 : decode cX9_value 339 = .ok (.goto 157, 3) := by decide +kernel
theorem dX9_value_342 : decode cX9_value 342 = .ok (.aload_n 0, 1) := by decide +kernel
theorem dX9_value_343 : decode cX9_value 343 = .ok (.lload 9, 2) := by decide +kernel
theorem dX9_value_345 : decode cX9_value 345 = .ok (.lload 15, 2) := by decide +kernel
theorem dX9_value_347 : decode cX9_value 347 = .ok (.lsub, 1) := by decide +kernel
theorem dX9_value_348 : decode cX9_value 348 = .ok (.lload 11, 2) := by decide +kernel
theorem dX9_value_350 : decode cX9_value 350 = .ok (.lload 13, 2) := by decide +kernel
theorem dX9_value_352 : decode cX9_value 352 = .ok (.lsub, 1) := by decide +kernel
theorem dX9_value_353 : decode cX9_value 353 = .ok (.invokevirtual 243, 3) := by decide +kernel
theorem dX9_value_356 : decode cX9_value 356 = .ok (.goto 140, 3) := by decide +kernel
theorem dX9_value_359 : decode cX9_value 359 = .ok (.aload_n 0, 1) := by decide +kernel
theorem dX9_value_360 : decode cX9_value 360 = .ok (.lload 9, 2) := by decide +kernel
theorem dX9_value_362 : decode cX9_value 362 = .ok (.lload 11, 2) := by decide +kernel
theorem dX9_value_364 : decode cX9_value 364 = .ok (.lload 13, 2) := by decide +kernel
theorem dX9_value_366 : decode cX9_value 366 = .ok (.lload 15, 2) := by decide +kernel
theorem dX9_value_368 : decode cX9_value 368 = .ok (.invokevirtual 315, 3) := by decide +kernel
theorem dX9_value_371 : decode cX9_value 371 = .ok (.goto 125, 3) := by decide +kernel
theorem dX9_value_374 : decode cX9_value 374 = .ok (.aload_n 0, 1) := by decide +kernel
theorem dX9_value_375 : decode cX9_value 375 = .ok (.lload 9, 2) := by decide +kernel
theorem dX9_value_377 : decode cX9_value 377 = .ok (.lload 11, 2) := by decide +kernel
theorem dX9_value_379 : decode cX9_value 379 = .ok (.lload 13, 2) := by decide +kernel
theorem dX9_value_381 : decode cX9_value 381 = .ok (.lload 15, 2) := by decide +kernel
theorem dX9_value_383 : decode cX9_value 383 = .ok (.invokevirtual 319, 3) := by decide +kernel
theorem dX9_value_386 : decode cX9_value 386 = .ok (.goto 110, 3) := by decide +kernel
theorem dX9_value_389 : decode cX9_value 389 = .ok (.aload_n 0, 1) := by decide +kernel
theorem dX9_value_390 : decode cX9_value 390 = .ok (.lload 9, 2) := by decide +kernel
theorem dX9_value_392 : decode cX9_value 392 = .ok (.lload 11, 2) := by decide +kernel
theorem dX9_value_394 : decode cX9_value 394 = .ok (.invokevirtual 322, 3) := by decide +kernel
theorem dX9_value_397 : decode cX9_value 397 = .ok (.goto 99, 3) := by decide +kernel
theorem dX9_value_400 : decode cX9_value 400 = .ok (.aload_n 0, 1) := by decide +kernel
theorem dX9_value_401 : decode cX9_value 401 = .ok (.lload 9, 2) := by decide +kernel
theorem dX9_value_403 : decode cX9_value 403 = .ok (.lload 11, 2) := by decide +kernel
theorem dX9_value_405 : decode cX9_value 405 = .ok (.invokevirtual 324, 3) := by decide +kernel
theorem dX9_value_408 : decode cX9_value 408 = .ok (.goto 88, 3) := by decide +kernel
theorem dX9_value_411 : decode cX9_value 411 = .ok (.aload_n 0, 1) := by decide +kernel
theorem dX9_value_412 : decode cX9_value 412 = .ok (.lload 9, 2) := by decide +kernel
theorem dX9_value_414 : decode cX9_value 414 = .ok (.lload 11, 2) := by decide +kernel
theorem dX9_value_416 : decode cX9_value 416 = .ok (.invokevirtual 326, 3) := by decide +kernel
theorem dX9_value_419 : decode cX9_value 419 = .ok (.goto 77, 3) := by decide +kernel
theorem dX9_value_422 : decode cX9_value 422 = .ok (.aload_n 0, 1) := by decide +kernel
theorem dX9_value_423 : decode cX9_value 423 = .ok (.lload 9, 2) := by decide +kernel
theorem dX9_value_425 : decode cX9_value 425 = .ok (.lload 11, 2) := by decide +kernel
theorem dX9_value_427 : decode cX9_value 427 = .ok (.iconst 1, 1) := by decide +kernel
theorem dX9_value_428 : decode cX9_value 428 = .ok (.invokevirtual 328, 3) := by decide +kernel
theorem dX9_value_431 : decode cX9_value 431 = .ok (.goto 65, 3) := by decide +kernel
theorem dX9_value_434 : decode cX9_value 434 = .ok (.aload_n 0, 1) := by decide +kernel
theorem dX9_value_435 : decode cX9_value 435 = .ok (.lload 9, 2) := by decide +kernel
theorem dX9_value_437 : decode cX9_value 437 = .ok (.lload 11, 2) := by decide +kernel
theorem dX9_value_439 : decode cX9_value 439 = .ok (.iconst 0, 1) := by decide +kernel
theorem dX9_value_440 : decode cX9_value 440 = .ok (.invokevirtual 328, 3) := by decide +kernel
theorem dX9_value_443 : decode cX9_value 443 = .ok (.goto 53, 3) := by decide +kernel
theorem dX9_value_446 : decode cX9_value 446 = .ok (.aload_n 0, 1) := by decide +kernel
theorem dX9_value_447 : decode cX9_value 447 = .ok (.lload 9, 2) := by decide +kernel
theorem dX9_value_449 : decode cX9_value 449 = .ok (.lload 11, 2) := by decide +kernel
theorem dX9_value_451 : decode cX9_value 451 = .ok (.invokevirtual 332, 3) := by decide +kernel
theorem dX9_value_454 : decode cX9_value 454 = .ok (.goto 42, 3) := by decide +kernel
theorem dX9_value_457 : decode cX9_value 457 = .ok (.aload_n 0, 1) := by decide +kernel
theorem dX9_value_458 : decode cX9_value 458 = .ok (.lload 9, 2) := by decide +kernel
theorem dX9_value_460 : decode cX9_value 460 = .ok (.lload 13, 2) := by decide +kernel
theorem dX9_value_462 : decode cX9_value 462 = .ok (.invokestatic 237, 3) := by decide +kernel
theorem dX9_value_465 : decode cX9_value 465 = .ok (.lload 11, 2) := by decide +kernel
theorem dX9_value_467 : decode cX9_value 467 = .ok (.lload 15, 2) := by decide +kernel
theorem dX9_value_469 : decode cX9_value 469 = .ok (.invokestatic 237, 3) := by decide +kernel
theorem dX9_value_472 : decode cX9_value 472 = .ok (.invokevirtual 243, 3) := by decide +kernel
theorem dX9_value_475 : decode cX9_value 475 = .ok (.goto 21, 3) := by decide +kernel
theorem dX9_value_478 : decode cX9_value 478 = .ok (.aload_n 0, 1) := by decide +kernel
theorem dX9_value_479 : decode cX9_value 479 = .ok (.lload 9, 2) := by decide +kernel
theorem dX9_value_481 : decode cX9_value 481 = .ok (.lload 13, 2) := by decide +kernel
theorem dX9_value_483 : decode cX9_value 483 = .ok (.invokestatic 240, 3) := by decide +kernel
theorem dX9_value_486 : decode cX9_value 486 = .ok (.lload 11, 2) := by decide +kernel
theorem dX9_value_488 : decode cX9_value 488 = .ok (.lload 15, 2) := by decide +kernel
theorem dX9_value_490 : decode cX9_value 490 = .ok (.invokestatic 240, 3) := by decide +kernel
theorem dX9_value_493 : decode cX9_value 493 = .ok (.invokevirtual 243, 3) := by decide +kernel
theorem dX9_value_496 : decode cX9_value 496 = .ok (.return_, 1) := by decide +kernel
theorem dX9_size__0 : decode cX9_size_ 0 = .ok (.lload_n 1, 1) := by decide +kernel
theorem dX9_size__1 : decode cX9_size_ 1 = .ok (.lconst 0, 1) := by decide +kernel
theorem dX9_size__2 : decode cX9_size_ 2 = .ok (.lcmp, 1) := by decide +kernel
theorem dX9_size__3 : decode cX9_size_ 3 = .ok (.ifCond .lt 12, 3) := by decide +kernel
theorem dX9_size__6 : decode cX9_size_ 6 = .ok (.aload_n 0, 1) := by decide +kernel
theorem dX9_size__7 : decode cX9_size_ 7 = .ok (.lload_n 1, 1) := by decide +kernel
theorem dX9_size__8 : decode cX9_size_ 8 = .ok (.lload_n 3, 1) := by decide +kernel
theorem dX9_size__9 : decode cX9_size_ 9 = .ok (.invokevirtual 243, 3) := by decide +kernel
theorem dX9_size__12 : decode cX9_size_ 12 = .ok (.goto 31, 3) := by decide +kernel
theorem dX9_size__15 : decode cX9_size_ 15 = .ok (.lload_n 3, 1) := by decide +kernel
theorem dX9_size__16 : decode cX9_size_ 16 = .ok (.lconst 0, 1) := by decide +kernel
theorem dX9_size__17 : decode cX9_size_ 17 = .ok (.lcmp, 1) := by decide +kernel
theorem dX9_size__18 : decode cX9_size_ 18 = .ok (.ifCond .gt 14, 3) := by decide +kernel
theorem dX9_size__21 : decode cX9_size_ 21 = .ok (.aload_n 0, 1) := by decide +kernel
theorem dX9_size__22 : decode cX9_size_ 22 = .ok (.lload_n 3, 1) := by decide +kernel
theorem dX9_size__23 : decode cX9_size_ 23 = .ok (.lneg, 1) := by decide +kernel
theorem dX9_size__24 : decode cX9_size_ 24 = .ok (.lload_n 1, 1) := by decide +kernel
theorem dX9_size__25 : decode cX9_size_ 25 = .ok (.lneg, 1) := by decide +kernel
theorem dX9_size__26 : decode cX9_size_ 26 = .ok (.invokevirtual 243, 3) := by decide +kernel
theorem dX9_size__29 : decode cX9_size_ 29 = .ok (.goto 14, 3) := by decide +kernel
theorem dX9_size__32 : decode cX9_size_ 32 = .ok (.aload_n 0, 1) := by decide +kernel
theorem dX9_size__33 : decode cX9_size_ 33 = .ok (.lconst 0, 1) := by decide +kernel
theorem dX9_size__34 : decode cX9_size_ 34 = .ok (.lload_n 1, 1) := by decide +kernel
theorem dX9_size__35 : decode cX9_size_ 35 = .ok (.lneg, 1) := by decide +kernel
theorem dX9_size__36 : decode cX9_size_ 36 = .ok (.lload_n 3, 1) := by decide +kernel
theorem dX9_size__37 : decode cX9_size_ 37 = .ok (.invokestatic 240, 3) := by decide +kernel
theorem dX9_size__40 : decode cX9_size_ 40 = .ok (.invokevirtual 243, 3) := by decide +kernel
theorem dX9_size__43 : decode cX9_size_ 43 = .ok (.return_, 1) := by decide +kernel
theorem dX9_slopes_0 : decode cX9_slopes 0 = .ok (.aload_n 0, 1) := by decide +kernel
theorem dX9_slopes_1 : decode cX9_slopes 1 = .ok (.iload_n 1, 1) := by decide +kernel
theorem dX9_slopes_2 : decode cX9_slopes 2 = .ok (.lload_n 2, 1) := by decide +kernel
theorem dX9_slopes_3 : decode cX9_slopes 3 = .ok (.lload 4, 2) := by decide +kernel
theorem dX9_slopes_5 : decode cX9_slopes 5 = .ok (.invokevirtual 334, 3) := by decide +kernel
theorem dX9_slopes_8 : decode cX9_slopes 8 = .ok (.iconst 0, 1) := by decide +kernel
theorem dX9_slopes_9 : decode cX9_slopes 9 = .ok (.istore 6, 2) := by decide +kernel
theorem dX9_slopes_11 : decode cX9_slopes 11 = .ok (.iload 6, 2) := by decide +kernel
theorem dX9_slopes_13 : decode cX9_slopes 13 = .ok (.iload_n 1, 1) := by decide +kernel
theorem dX9_slopes_14 : decode cX9_slopes 14 = .ok (.if_icmp .gt 94, 3) := by decide +kernel
theorem dX9_slopes_17 : decode cX9_slopes 17 = .ok (.bipush 60, 2) := by decide +kernel
theorem dX9_slopes_19 : decode cX9_slopes 19 = .ok (.iload 6, 2) := by decide +kernel
theorem dX9_slopes_21 : decode cX9_slopes 21 = .ok (.imul, 1) := by decide +kernel
theorem dX9_slopes_22 : decode cX9_slopes 22 = .ok (.istore 7, 2) := by decide +kernel
theorem dX9_slopes_24 : decode cX9_slopes 24 = .ok (.iload 7, 2) := by decide +kernel
theorem dX9_slopes_26 : decode cX9_slopes 26 = .ok (.aload_n 0, 1) := by decide +kernel
theorem dX9_slopes_27 : decode cX9_slopes 27 = .ok (.iload 6, 2) := by decide +kernel
theorem dX9_slopes_29 : decode cX9_slopes 29 = .ok (.invokevirtual 302, 3) := by decide +kernel
theorem dX9_slopes_32 : decode cX9_slopes 32 = .ok (.if_icmp .gt 70, 3) := by decide +kernel
theorem dX9_slopes_35 : decode cX9_slopes 35 = .ok (.aload_n 0, 1) := by decide +kernel
theorem dX9_slopes_36 : decode cX9_slopes 36 = .ok (.iconst 0, 1) := by decide +kernel
theorem dX9_slopes_37 : decode cX9_slopes 37 = .ok (.putfield 233, 3) := by decide +kernel
theorem dX9_slopes_40 : decode cX9_slopes 40 = .ok (.aload_n 0, 1) := by decide +kernel
theorem dX9_slopes_41 : decode cX9_slopes 41 = .ok (.getfield 54, 3) := by decide +kernel
theorem dX9_slopes_44 : decode cX9_slopes 44 = .ok (.iload 7, 2) := by decide +kernel
theorem dX9_slopes_46 : decode cX9_slopes 46 = .ok (.baload, 1) := by decide +kernel
theorem dX9_slopes_47 : decode cX9_slopes 47 = .ok (.ifCond .eq 10, 3) := by decide +kernel
theorem dX9_slopes_50 : decode cX9_slopes 50 = .ok (.aload_n 0, 1) := by decide +kernel
theorem dX9_slopes_51 : decode cX9_slopes 51 = .ok (.invokevirtual 247, 3) := by decide +kernel
theorem dX9_slopes_54 : decode cX9_slopes 54 = .ok (.goto 9, 3) := by decide +kernel
theorem dX9_slopes_57 : decode cX9_slopes 57 = .ok (.aload_n 0, 1) := by decide +kernel
theorem dX9_slopes_58 : decode cX9_slopes 58 = .ok (.iload 7, 2) := by decide +kernel
theorem dX9_slopes_60 : decode cX9_slopes 60 = .ok (.invokevirtual 337, 3) := by decide +kernel
theorem dX9_slopes_63 : decode cX9_slopes 63 = .ok (.aload_n 0, 1) := by decide +kernel
theorem dX9_slopes_64 : decode cX9_slopes 64 = .ok (.getfield 48, 3) := by decide +kernel
theorem dX9_slopes_67 : decode cX9_slopes 67 = .ok (.iload 7, 2) := by decide +kernel
theorem dX9_slopes_69 : decode cX9_slopes 69 = .ok (.aload_n 0, 1) := by decide +kernel
theorem dX9_slopes_70 : decode cX9_slopes 70 = .ok (.getfield 222, 3) := by decide +kernel
theorem dX9_slopes_73 : decode cX9_slopes 73 = .ok (.lastore, 1) := by decide +kernel
theorem dX9_slopes_74 : decode cX9_slopes 74 = .ok (.aload_n 0, 1) := by decide +kernel
theorem dX9_slopes_75 : decode cX9_slopes 75 = .ok (.getfield 51, 3) := by decide +kernel
theorem dX9_slopes_78 : decode cX9_slopes 78 = .ok (.iload 7, 2) := by decide +kernel
theorem dX9_slopes_80 : decode cX9_slopes 80 = .ok (.aload_n 0, 1) := by decide +kernel
theorem dX9_slopes_81 : decode cX9_slopes 81 = .ok (.getfield 226, 3) := by decide +kernel
theorem dX9_slopes_84 : decode cX9_slopes 84 = .ok (.lastore, 1) := by decide +kernel
theorem dX9_slopes_85 : decode cX9_slopes 85 = .ok (.aload_n 0, 1) := by decide +kernel
theorem dX9_slopes_86 : decode cX9_slopes 86 = .ok (.getfield 58, 3) := by decide +kernel
theorem dX9_slopes_89 : decode cX9_slopes 89 = .ok (.iload 7, 2) := by decide +kernel
theorem dX9_slopes_91 : decode cX9_slopes 91 = .ok (.aload_n 0, 1) := by decide +kernel
theorem dX9_slopes_92 : decode cX9_slopes 92 = .ok (.getfield 233, 3) := by decide +kernel
theorem dX9_slopes_95 : decode cX9_slopes 95 = .ok (.bastore, 1) := by decide +kernel
theorem dX9_slopes_96 : decode cX9_slopes 96 = .ok (.iinc 7 1, 3) := by decide +kernel
theorem dX9_slopes_99 : decode cX9_slopes 99 = .ok (.goto (-75), 3) := by decide +kernel
theorem dX9_slopes_102 : decode cX9_slopes 102 = .ok (.iinc 6 1, 3) := by decide +kernel
theorem dX9_slopes_105 : decode cX9_slopes 105 = .ok (.goto (-94), 3) := by decide +kernel
theorem dX9_slopes_108 : decode cX9_slopes 108 = .ok (.return_, 1) := by decide +kernel
theorem dX9_thenTimes_0 : decode cX9_thenTimes 0 = .ok (.aload_n 0, 1) := by decide +kernel
theorem dX9_thenTimes_1 : decode cX9_thenTimes 1 = .ok (.getfield 233, 3) := by decide +kernel
theorem dX9_thenTimes_4 : decode cX9_thenTimes 4 = .ok (.ifCond .ne 17, 3) := by decide +kernel
theorem dX9_thenTimes_7 : decode cX9_thenTimes 7 = .ok (.aload_n 0, 1) := by decide +kernel
theorem dX9_thenTimes_8 : decode cX9_thenTimes 8 = .ok (.aload_n 0, 1) := by decide +kernel
theorem dX9_thenTimes_9 : decode cX9_thenTimes 9 = .ok (.getfield 222, 3) := by decide +kernel
theorem dX9_thenTimes_12 : decode cX9_thenTimes 12 = .ok (.aload_n 0, 1) := by decide +kernel
theorem dX9_thenTimes_13 : decode cX9_thenTimes 13 = .ok (.getfield 226, 3) := by decide +kernel
theorem dX9_thenTimes_16 : decode cX9_thenTimes 16 = .ok (.lload_n 1, 1) := by decide +kernel
theorem dX9_thenTimes_17 : decode cX9_thenTimes 17 = .ok (.lload_n 3, 1) := by decide +kernel
theorem dX9_thenTimes_18 : decode cX9_thenTimes 18 = .ok (.invokevirtual 315, 3) := by decide +kernel
theorem dX9_thenTimes_21 : decode cX9_thenTimes 21 = .ok (.return_, 1) := by decide +kernel
theorem dX9_slope_0 : decode cX9_slope 0 = .ok (.aload_n 0, 1) := by decide +kernel
theorem dX9_slope_1 : decode cX9_slope 1 = .ok (.getfield 17, 3) := by decide +kernel
theorem dX9_slope_4 : decode cX9_slope 4 = .ok (.iload_n 1, 1) := by decide +kernel
theorem dX9_slope_5 : decode cX9_slope 5 = .ok (.iaload, 1) := by decide +kernel
theorem dX9_slope_6 : decode cX9_slope 6 = .ok (.iconst 2, 1) := by decide +kernel
theorem dX9_slope_7 : decode cX9_slope 7 = .ok (.if_icmp .ne 16, 3) := by decide +kernel
theorem dX9_slope_10 : decode cX9_slope 10 = .ok (.aload_n 0, 1) := by decide +kernel
theorem dX9_slope_11 : decode cX9_slope 11 = .ok (.aload_n 0, 1) := by decide +kernel
theorem dX9_slope_12 : decode cX9_slope 12 = .ok (.getfield 20, 3) := by decide +kernel
theorem dX9_slope_15 : decode cX9_slope 15 = .ok (.iload_n 1, 1) := by decide +kernel
theorem dX9_slope_16 : decode cX9_slope 16 = .ok (.iaload, 1) := by decide +kernel
theorem dX9_slope_17 : decode cX9_slope 17 = .ok (.invokevirtual 302, 3) := by decide +kernel
theorem dX9_slope_20 : decode cX9_slope 20 = .ok (.goto 9, 3) := by decide +kernel
theorem dX9_slope_23 : decode cX9_slope 23 = .ok (.aload_n 0, 1) := by decide +kernel
theorem dX9_slope_24 : decode cX9_slope 24 = .ok (.getfield 20, 3) := by decide +kernel
theorem dX9_slope_27 : decode cX9_slope 27 = .ok (.iload_n 1, 1) := by decide +kernel
theorem dX9_slope_28 : decode cX9_slope 28 = .ok (.iaload, 1) := by decide +kernel
theorem dX9_slope_29 : decode cX9_slope 29 = .ok (.istore_n 2, 1) := by decide +kernel
theorem dX9_slope_30 : decode cX9_slope 30 = .ok (.aload_n 0, 1) := by decide +kernel
theorem dX9_slope_31 : decode cX9_slope 31 = .ok (.getfield 23, 3) := by decide +kernel
theorem dX9_slope_34 : decode cX9_slope 34 = .ok (.iload_n 1, 1) := by decide +kernel
theorem dX9_slope_35 : decode cX9_slope 35 = .ok (.iaload, 1) := by decide +kernel
theorem dX9_slope_36 : decode cX9_slope 36 = .ok (.istore_n 3, 1) := by decide +kernel
theorem dX9_slope_37 : decode cX9_slope 37 = .ok (.aload_n 0, 1) := by decide +kernel
theorem dX9_slope_38 : decode cX9_slope 38 = .ok (.getfield 17, 3) := by decide +kernel
theorem dX9_slope_41 : decode cX9_slope 41 = .ok (.iload_n 1, 1) := by decide +kernel
theorem dX9_slope_42 : decode cX9_slope 42 = .ok (.iaload, 1) := by decide +kernel
theorem dX9_slope_43 : decode cX9_slope 43 = .ok (.ifCond .ne 14, 3) := by decide +kernel
theorem dX9_slope_46 : decode cX9_slope 46 = .ok (.aload_n 0, 1) := by decide +kernel
theorem dX9_slope_47 : decode cX9_slope 47 = .ok (.ldc2_w 207, 3) := by decide +kernel
theorem dX9_slope_50 : decode cX9_slope 50 = .ok (.ldc2_w 207, 3) := by decide +kernel
theorem dX9_slope_53 : decode cX9_slope 53 = .ok (.invokevirtual 243, 3) := by decide +kernel
theorem dX9_slope_56 : decode cX9_slope 56 = .ok (.return_, 1) := by decide +kernel
theorem dX9_slope_57 : decode cX9_slope 57 = .ok (.aload_n 0, 1) := by decide +kernel
theorem dX9_slope_58 : decode cX9_slope 58 = .ok (.getfield 17, 3) := by decide +kernel
theorem dX9_slope_61 : decode cX9_slope 61 = .ok (.iload_n 1, 1) := by decide +kernel
theorem dX9_slope_62 : decode cX9_slope 62 = .ok (.iaload, 1) := by decide +kernel
theorem dX9_slope_63 : decode cX9_slope 63 = .ok (.iconst 1, 1) := by decide +kernel
theorem dX9_slope_64 : decode cX9_slope 64 = .ok (.if_icmp .ne 10, 3) := by decide +kernel
theorem dX9_slope_67 : decode cX9_slope 67 = .ok (.aload_n 0, 1) := by decide +kernel
theorem dX9_slope_68 : decode cX9_slope 68 = .ok (.lconst 0, 1) := by decide +kernel
theorem dX9_slope_69 : decode cX9_slope 69 = .ok (.lconst 0, 1) := by decide +kernel
theorem dX9_slope_70 : decode cX9_slope 70 = .ok (.invokevirtual 243, 3) := by decide +kernel
theorem dX9_slope_73 : decode cX9_slope 73 = .ok (.return_, 1) := by decide +kernel
theorem dX9_slope_74 : decode cX9_slope 74 = .ok (.aload_n 0, 1) := by decide +kernel
theorem dX9_slope_75 : decode cX9_slope 75 = .ok (.getfield 17, 3) := by decide +kernel
theorem dX9_slope_78 : decode cX9_slope 78 = .ok (.iload_n 1, 1) := by decide +kernel
theorem dX9_slope_79 : decode cX9_slope 79 = .ok (.iaload, 1) := by decide +kernel
theorem dX9_slope_80 : decode cX9_slope 80 = .ok (.iconst 5, 1) := by decide +kernel
theorem dX9_slope_81 : decode cX9_slope 81 = .ok (.if_icmp .lt 14, 3) := by decide +kernel
theorem dX9_slope_84 : decode cX9_slope 84 = .ok (.aload_n 0, 1) := by decide +kernel
theorem dX9_slope_85 : decode cX9_slope 85 = .ok (.getfield 17, 3) := by decide +kernel
theorem dX9_slope_88 : decode cX9_slope 88 = .ok (.iload_n 1, 1) := by decide +kernel
theorem dX9_slope_89 : decode cX9_slope 89 = .ok (.iaload, 1) := by decide +kernel
theorem dX9_slope_90 : decode cX9_slope 90 = .ok (.bipush 8, 2) := by decide +kernel
theorem dX9_slope_92 : decode cX9_slope 92 = .ok (.if_icmp .le 14, 3) := by decide +kernel
theorem dX9_slope_95 : decode cX9_slope 95 = .ok (.aload_n 0, 1) := by decide +kernel
theorem dX9_slope_96 : decode cX9_slope 96 = .ok (.getfield 17, 3) := by decide +kernel
theorem dX9_slope_99 : decode cX9_slope 99 = .ok (.iload_n 1, 1) := by decide +kernel
theorem dX9_slope_100 : decode cX9_slope 100 = .ok (.iaload, 1) := by decide +kernel
theorem dX9_slope_101 : decode cX9_slope 101 = .ok (.bipush 15, 2) := by decide +kernel
theorem dX9_slope_103 : decode cX9_slope 103 = .ok (.if_icmp .lt 7, 3) := by decide +kernel
theorem dX9_slope_106 : decode cX9_slope 106 = .ok (.iconst 1, 1) := by decide +kernel
theorem dX9_slope_107 : decode cX9_slope 107 = .ok (.goto 4, 3) := by decide +kernel
theorem dX9_slope_110 : decode cX9_slope 110 = .ok (.iconst 0, 1) := by decide +kernel
theorem dX9_slope_111 : decode cX9_slope 111 = .ok (.istore 4, 2) := by decide +kernel
theorem dX9_slope_113 : decode cX9_slope 113 = .ok (.aload_n 0, 1) := by decide +kernel
theorem dX9_slope_114 : decode cX9_slope 114 = .ok (.getfield 17, 3) := by decide +kernel
theorem dX9_slope_117 : decode cX9_slope 117 = .ok (.iload_n 1, 1) := by decide +kernel
theorem dX9_slope_118 : decode cX9_slope 118 = .ok (.iaload, 1) := by decide +kernel
theorem dX9_slope_119 : decode cX9_slope 119 = .ok (.bipush 15, 2) := by decide +kernel
theorem dX9_slope_121 : decode cX9_slope 121 = .ok (.if_icmp .lt 11, 3) := by decide +kernel
theorem dX9_slope_124 : decode cX9_slope 124 = .ok (.aload_n 0, 1) := by decide +kernel
theorem dX9_slope_125 : decode cX9_slope 125 = .ok (.iload_n 1, 1) := by decide +kernel
theorem dX9_slope_126 : decode cX9_slope 126 = .ok (.iload_n 2, 1) := by decide +kernel
theorem dX9_slope_127 : decode cX9_slope 127 = .ok (.iload_n 3, 1) := by decide +kernel
theorem dX9_slope_128 : decode cX9_slope 128 = .ok (.invokevirtual 340, 3) := by decide +kernel
theorem dX9_slope_131 : decode cX9_slope 131 = .ok (.return_, 1) := by decide +kernel
theorem dX9_slope_132 : decode cX9_slope 132 = .ok (.aload_n 0, 1) := by decide +kernel
theorem dX9_slope_133 : decode cX9_slope 133 = .ok (.getfield 58, 3) := by decide +kernel
theorem dX9_slope_136 : decode cX9_slope 136 = .ok (.iload_n 2, 1) := by decide +kernel
theorem dX9_slope_137 : decode cX9_slope 137 = .ok (.baload, 1) := by decide +kernel
theorem dX9_slope_138 : decode cX9_slope 138 = .ok (.ifCond .ne 17, 3) := by decide +kernel
theorem dX9_slope_141 : decode cX9_slope 141 = .ok (.iload 4, 2) := by decide +kernel
theorem dX9_slope_143 : decode cX9_slope 143 = .ok (.ifCond .eq 17, 3) := by decide +kernel
theorem dX9_slope_146 : decode cX9_slope 146 = .ok (.aload_n 0, 1) := by decide +kernel
theorem dX9_slope_147 : decode cX9_slope 147 = .ok (.getfield 58, 3) := by decide +kernel
theorem dX9_slope_150 : decode cX9_slope 150 = .ok (.iload_n 3, 1) := by decide +kernel
theorem dX9_slope_151 : decode cX9_slope 151 = .ok (.baload, 1) := by decide +kernel
theorem dX9_slope_152 : decode cX9_slope 152 = .ok (.ifCond .eq 8, 3) := by decide +kernel
theorem dX9_slope_155 : decode cX9_slope 155 = .ok (.aload_n 0, 1) := by decide +kernel
theorem dX9_slope_156 : decode cX9_slope 156 = .ok (.invokevirtual 247, 3) := by decide +kernel
theorem dX9_slope_159 : decode cX9_slope 159 = .ok (.return_, 1) := by decide +kernel
theorem dX9_slope_160 : decode cX9_slope 160 = .ok (.aload_n 0, 1) := by decide +kernel
theorem dX9_slope_161 : decode cX9_slope 161 = .ok (.getfield 48, 3) := by decide +kernel
theorem dX9_slope_164 : decode cX9_slope 164 = .ok (.iload_n 2, 1) := by decide +kernel
theorem dX9_slope_165 : decode cX9_slope 165 = .ok (.laload, 1) := by decide +kernel
theorem dX9_slope_166 : decode cX9_slope 166 = .ok (.lstore 5, 2) := by decide +kernel
theorem dX9_slope_168 : decode cX9_slope 168 = .ok (.aload_n 0, 1) := by decide +kernel
theorem dX9_slope_169 : decode cX9_slope 169 = .ok (.getfield 51, 3) := by decide +kernel
theorem dX9_slope_172 : decode cX9_slope 172 = .ok (.iload_n 2, 1) := by decide +kernel
theorem dX9_slope_173 : decode cX9_slope 173 = .ok (.laload, 1) := by decide +kernel
theorem dX9_slope_174 : decode cX9_slope 174 = .ok (.lstore 7, 2) := by decide +kernel
theorem dX9_slope_176 : decode cX9_slope 176 = .ok (.aload_n 0, 1) := by decide +kernel
theorem dX9_slope_177 : decode cX9_slope 177 = .ok (.getfield 42, 3) := by decide +kernel
theorem dX9_slope_180 : decode cX9_slope 180 = .ok (.iload_n 2, 1) := by decide +kernel
theorem dX9_slope_181 : decode cX9_slope 181 = .ok (.laload, 1) := by decide +kernel
theorem dX9_slope_182 : decode cX9_slope 182 = .ok (.lstore 9, 2) := by decide +kernel
theorem dX9_slope_184 : decode cX9_slope 184 = .ok (.aload_n 0, 1) := by decide +kernel
theorem dX9_slope_185 : decode cX9_slope 185 = .ok (.getfield 45, 3) := by decide +kernel
theorem dX9_slope_188 : decode cX9_slope 188 = .ok (.iload_n 2, 1) := by decide +kernel
theorem dX9_slope_189 : decode cX9_slope 189 = .ok (.laload, 1) := by decide +kernel
theorem dX9_slope_190 : decode cX9_slope 190 = .ok (.lstore 11, 2) := by decide +kernel
theorem dX9_slope_192 : decode cX9_slope 192 = .ok (.aload_n 0, 1) := by decide +kernel
theorem dX9_slope_193 : decode cX9_slope 193 = .ok (.getfield 17, 3) := by decide +kernel
theorem dX9_slope_196 : decode cX9_slope 196 = .ok (.iload_n 1, 1) := by decide +kernel
theorem dX9_slope_197 : decode cX9_slope 197 = .ok (.iaload, 1) := by decide +kernel
theorem dX9_slope_198 : decode cX9_slope 198 = .ok (.tableswitch 347 2 13 #[62, 73, 146, 86, 111, 136, 136, 200, 248, 271, 286, 306], 62) := by decide +kernel
theorem dX9_slope_260 : decode cX9_slope 260 = .ok (.aload_n 0, 1) := by decide +kernel
theorem dX9_slope_261 : decode cX9_slope 261 = .ok (.lload 5, 2) := by decide +kernel
theorem dX9_slope_263 : decode cX9_slope 263 = .ok (.lload 7, 2) := by decide +kernel
theorem dX9_slope_265 : decode cX9_slope 265 = .ok (.invokevirtual 243, 3) := by decide +kernel
theorem dX9_slope_268 : decode cX9_slope 268 = .ok (.goto 289, 3) := by decide +kernel
theorem dX9_slope_271 : decode cX9_slope 271 = .ok (.aload_n 0, 1) := by decide +kernel
theorem dX9_slope_272 : decode cX9_slope 272 = .ok (.lload 7, 2) := by decide +kernel
theorem dX9_slope_274 : decode cX9_slope 274 = .ok (.lneg, 1) := by decide +kernel
theorem dX9_slope_275 : decode cX9_slope 275 = .ok (.lload 5, 2) := by decide +kernel
theorem dX9_slope_277 : decode cX9_slope 277 = .ok (.lneg, 1) := by decide +kernel
theorem dX9_slope_278 : decode cX9_slope 278 = .ok (.invokevirtual 243, 3) := by decide +kernel
theorem dX9_slope_281 : decode cX9_slope 281 = .ok (.goto 276, 3) := by decide +kernel
theorem dX9_slope_284 : decode cX9_slope 284 = .ok (.aload_n 0, 1) := by decide +kernel
theorem dX9_slope_285 : decode cX9_slope 285 = .ok (.lload 5, 2) := by decide +kernel
theorem dX9_slope_287 : decode cX9_slope 287 = .ok (.aload_n 0, 1) := by decide +kernel
theorem dX9_slope_288 : decode cX9_slope 288 = .ok (.getfield 48, 3) := by decide +kernel
theorem dX9_slope_291 : decode cX9_slope 291 = .ok (.iload_n 3, 1) := by decide +kernel
theorem dX9_slope_292 : decode cX9_slope 292 = .ok (.laload, 1) := by decide +kernel
theorem dX9_slope_293 : decode cX9_slope 293 = .ok (.ladd, 1) := by decide +kernel
theorem dX9_slope_294 : decode cX9_slope 294 = .ok (.lload 7, 2) := by decide +kernel
theorem dX9_slope_296 : decode cX9_slope 296 = .ok (.aload_n 0, 1) := by decide +kernel
theorem dX9_slope_297 : decode cX9_slope 297 = .ok (.getfield 51, 3) := by decide +kernel
theorem dX9_slope_300 : decode cX9_slope 300 = .ok (.iload_n 3, 1) := by decide +kernel
theorem dX9_slope_301 : decode cX9_slope 301 = .ok (.laload, 1) := by decide +kernel
theorem dX9_slope_302 : decode cX9_slope 302 = .ok (.ladd, 1) := by decide +kernel
theorem dX9_slope_303 : decode cX9_slope 303 = .ok (.invokevirtual 243, 3) := by decide +kernel
theorem dX9_slope_306 : decode cX9_slope 306 = .ok (.goto 251, 3) := by decide +kernel
theorem dX9_slope_309 : decode cX9_slope 309 = .ok (.aload_n 0, 1) := by decide +kernel
theorem dX9_slope_310 : decode cX9_slope 310 = .ok (.lload 5, 2) := by decide +kernel
theorem dX9_slope_312 : decode cX9_slope 312 = .ok (.aload_n 0, 1) := by decide +kernel
theorem dX9_slope_313 : decode cX9_slope 313 = .ok (.getfield 51, 3) := by decide +kernel
theorem dX9_slope_316 : decode cX9_slope 316 = .ok (.iload_n 3, 1) := by decide +kernel
theorem dX9_slope_317 : decode cX9_slope 317 = .ok (.laload, 1) := by decide +kernel
theorem dX9_slope_318 : decode cX9_slope 318 = .ok (.lsub, 1) := by decide +kernel
theorem dX9_slope_319 : decode cX9_slope 319 = .ok (.lload 7, 2) := by decide +kernel
theorem dX9_slope_321 : decode cX9_slope 321 = .ok (.aload_n 0, 1) := by decide +kernel
theorem dX9_slope_322 : decode cX9_slope 322 = .ok (.getfield 48, 3) := by decide +kernel
theorem dX9_slope_325 : decode cX9_slope 325 = .ok (.iload_n 3, 1) := by decide +kernel
theorem dX9_slope_326 : decode cX9_slope 326 = .ok (.laload, 1) := by decide +kernel
theorem dX9_slope_327 : decode cX9_slope 327 = .ok (.lsub, 1) := by decide +kernel
theorem dX9_slope_328 : decode cX9_slope 328 = .ok (.invokevirtual 243, 3) := by decide +kernel
theorem dX9_slope_331 : decode cX9_slope 331 = .ok (.goto 226, 3) := by decide +kernel
theorem dX9_slope_334 : decode cX9_slope 334 = .ok (.aload_n 0, 1) := by decide +kernel
theorem dX9_slope_335 : decode cX9_slope 335 = .ok (.iload_n 1, 1) := by decide +kernel
theorem dX9_slope_336 : decode cX9_slope 336 = .ok (.iload_n 2, 1) := by decide +kernel
theorem dX9_slope_337 : decode cX9_slope 337 = .ok (.iload_n 3, 1) := by decide +kernel
theorem dX9_slope_338 : decode cX9_slope 338 = .ok (.invokevirtual 344, 3) := by decide +kernel
theorem dX9_slope_341 : decode cX9_slope 341 = .ok (.goto 216, 3) := by decide +kernel
theorem dX9_slope_344 : decode cX9_slope 344 = .ok (.iload_n 3, 1) := by decide +kernel
theorem dX9_slope_345 : decode cX9_slope 345 = .ok (.iconst 1, 1) := by decide +kernel
theorem dX9_slope_346 : decode cX9_slope 346 = .ok (.if_icmp .ne 14, 3) := by decide +kernel
theorem dX9_slope_349 : decode cX9_slope 349 = .ok (.aload_n 0, 1) := by decide +kernel
theorem dX9_slope_350 : decode cX9_slope 350 = .ok (.lload 5, 2) := by decide +kernel
theorem dX9_slope_352 : decode cX9_slope 352 = .ok (.lload 7, 2) := by decide +kernel
theorem dX9_slope_354 : decode cX9_slope 354 = .ok (.invokevirtual 243, 3) := by decide +kernel
theorem dX9_slope_357 : decode cX9_slope 357 = .ok (.goto 200, 3) := by decide +kernel
theorem dX9_slope_360 : decode cX9_slope 360 = .ok (.aload_n 0, 1) := by decide +kernel
theorem dX9_slope_361 : decode cX9_slope 361 = .ok (.lload 9, 2) := by decide +kernel
theorem dX9_slope_363 : decode cX9_slope 363 = .ok (.lload 11, 2) := by decide +kernel
theorem dX9_slope_365 : decode cX9_slope 365 = .ok (.iload_n 3, 1) := by decide +kernel
theorem dX9_slope_366 : decode cX9_slope 366 = .ok (.iconst 1, 1) := by decide +kernel
theorem dX9_slope_367 : decode cX9_slope 367 = .ok (.isub, 1) := by decide +kernel
theorem dX9_slope_368 : decode cX9_slope 368 = .ok (.invokevirtual 312, 3) := by decide +kernel
theorem dX9_slope_371 : decode cX9_slope 371 = .ok (.aload_n 0, 1) := by decide +kernel
theorem dX9_slope_372 : decode cX9_slope 372 = .ok (.iload_n 3, 1) := by decide +kernel
theorem dX9_slope_373 : decode cX9_slope 373 = .ok (.i2l, 1) := by decide +kernel
theorem dX9_slope_374 : decode cX9_slope 374 = .ok (.ldc2_w 207, 3) := by decide +kernel
theorem dX9_slope_377 : decode cX9_slope 377 = .ok (.lmul, 1) := by decide +kernel
theorem dX9_slope_378 : decode cX9_slope 378 = .ok (.iload_n 3, 1) := by decide +kernel
theorem dX9_slope_379 : decode cX9_slope 379 = .ok (.i2l, 1) := by decide +kernel
theorem dX9_slope_380 : decode cX9_slope 380 = .ok (.ldc2_w 207, 3) := by decide +kernel
theorem dX9_slope_383 : decode cX9_slope 383 = .ok (.lmul, 1) := by decide +kernel
theorem dX9_slope_384 : decode cX9_slope 384 = .ok (.invokevirtual 347, 3) := by decide +kernel
theorem dX9_slope_387 : decode cX9_slope 387 = .ok (.aload_n 0, 1) := by decide +kernel
theorem dX9_slope_388 : decode cX9_slope 388 = .ok (.lload 5, 2) := by decide +kernel
theorem dX9_slope_390 : decode cX9_slope 390 = .ok (.lload 7, 2) := by decide +kernel
theorem dX9_slope_392 : decode cX9_slope 392 = .ok (.invokevirtual 347, 3) := by decide +kernel
theorem dX9_slope_395 : decode cX9_slope 395 = .ok (.goto 162, 3) := by decide +kernel
theorem dX9_slope_398 : decode cX9_slope 398 = .ok (.aload_n 0, 1) := by decide +kernel
theorem dX9_slope_399 : decode cX9_slope 399 = .ok (.ldc2_w 350, 3) := by decide +kernel
theorem dX9_slope_402 : decode cX9_slope 402 = .ok (.ldc2_w 350, 3) := by decide +kernel
theorem dX9_slope_405 : decode cX9_slope 405 = .ok (.aload_n 0, 1) := by decide +kernel
theorem dX9_slope_406 : decode cX9_slope 406 = .ok (.getfield 42, 3) := by decide +kernel
theorem dX9_slope_409 : decode cX9_slope 409 = .ok (.iload_n 1, 1) := by decide +kernel
theorem dX9_slope_410 : decode cX9_slope 410 = .ok (.laload, 1) := by decide +kernel
theorem dX9_slope_411 : decode cX9_slope 411 = .ok (.aload_n 0, 1) := by decide +kernel
theorem dX9_slope_412 : decode cX9_slope 412 = .ok (.getfield 45, 3) := by decide +kernel
theorem dX9_slope_415 : decode cX9_slope 415 = .ok (.iload_n 1, 1) := by decide +kernel
theorem dX9_slope_416 : decode cX9_slope 416 = .ok (.laload, 1) := by decide +kernel
theorem dX9_slope_417 : decode cX9_slope 417 = .ok (.invokevirtual 315, 3) := by decide +kernel
theorem dX9_slope_420 : decode cX9_slope 420 = .ok (.aload_n 0, 1) := by decide +kernel
theorem dX9_slope_421 : decode cX9_slope 421 = .ok (.getfield 233, 3) := by decide +kernel
theorem dX9_slope_424 : decode cX9_slope 424 = .ok (.ifCond .ne 133, 3) := by decide +kernel
theorem dX9_slope_427 : decode cX9_slope 427 = .ok (.aload_n 0, 1) := by decide +kernel
theorem dX9_slope_428 : decode cX9_slope 428 = .ok (.lload 5, 2) := by decide +kernel
theorem dX9_slope_430 : decode cX9_slope 430 = .ok (.lload 7, 2) := by decide +kernel
theorem dX9_slope_432 : decode cX9_slope 432 = .ok (.aload_n 0, 1) := by decide +kernel
theorem dX9_slope_433 : decode cX9_slope 433 = .ok (.getfield 222, 3) := by decide +kernel
theorem dX9_slope_436 : decode cX9_slope 436 = .ok (.aload_n 0, 1) := by decide +kernel
theorem dX9_slope_437 : decode cX9_slope 437 = .ok (.getfield 226, 3) := by decide +kernel
theorem dX9_slope_440 : decode cX9_slope 440 = .ok (.invokevirtual 319, 3) := by decide +kernel
theorem dX9_slope_443 : decode cX9_slope 443 = .ok (.goto 114, 3) := by decide +kernel
theorem dX9_slope_446 : decode cX9_slope 446 = .ok (.aload_n 0, 1) := by decide +kernel
theorem dX9_slope_447 : decode cX9_slope 447 = .ok (.aload_n 0, 1) := by decide +kernel
theorem dX9_slope_448 : decode cX9_slope 448 = .ok (.getfield 42, 3) := by decide +kernel
theorem dX9_slope_451 : decode cX9_slope 451 = .ok (.iload_n 1, 1) := by decide +kernel
theorem dX9_slope_452 : decode cX9_slope 452 = .ok (.laload, 1) := by decide +kernel
theorem dX9_slope_453 : decode cX9_slope 453 = .ok (.aload_n 0, 1) := by decide +kernel
theorem dX9_slope_454 : decode cX9_slope 454 = .ok (.getfield 45, 3) := by decide +kernel
theorem dX9_slope_457 : decode cX9_slope 457 = .ok (.iload_n 1, 1) := by decide +kernel
theorem dX9_slope_458 : decode cX9_slope 458 = .ok (.laload, 1) := by decide +kernel
theorem dX9_slope_459 : decode cX9_slope 459 = .ok (.lload 5, 2) := by decide +kernel
theorem dX9_slope_461 : decode cX9_slope 461 = .ok (.lload 7, 2) := by decide +kernel
theorem dX9_slope_463 : decode cX9_slope 463 = .ok (.invokevirtual 315, 3) := by decide +kernel
theorem dX9_slope_466 : decode cX9_slope 466 = .ok (.goto 91, 3) := by decide +kernel
theorem dX9_slope_469 : decode cX9_slope 469 = .ok (.aload_n 0, 1) := by decide +kernel
theorem dX9_slope_470 : decode cX9_slope 470 = .ok (.lload 5, 2) := by decide +kernel
theorem dX9_slope_472 : decode cX9_slope 472 = .ok (.lload 7, 2) := by decide +kernel
theorem dX9_slope_474 : decode cX9_slope 474 = .ok (.lload 9, 2) := by decide +kernel
theorem dX9_slope_476 : decode cX9_slope 476 = .ok (.lload 11, 2) := by decide +kernel
theorem dX9_slope_478 : decode cX9_slope 478 = .ok (.invokevirtual 319, 3) := by decide +kernel
theorem dX9_slope_481 : decode cX9_slope 481 = .ok (.goto 76, 3) := by decide +kernel
theorem dX9_slope_484 : decode cX9_slope 484 = .ok (.aload_n 0, 1) := by decide +kernel
theorem dX9_slope_485 : decode cX9_slope 485 = .ok (.lload 9, 2) := by decide +kernel
theorem dX9_slope_487 : decode cX9_slope 487 = .ok (.lload 11, 2) := by decide +kernel
theorem dX9_slope_489 : decode cX9_slope 489 = .ok (.iconst 0, 1) := by decide +kernel
theorem dX9_slope_490 : decode cX9_slope 490 = .ok (.invokevirtual 328, 3) := by decide +kernel
theorem dX9_slope_493 : decode cX9_slope 493 = .ok (.aload_n 0, 1) := by decide +kernel
theorem dX9_slope_494 : decode cX9_slope 494 = .ok (.lload 5, 2) := by decide +kernel
theorem dX9_slope_496 : decode cX9_slope 496 = .ok (.lload 7, 2) := by decide +kernel
theorem dX9_slope_498 : decode cX9_slope 498 = .ok (.invokevirtual 347, 3) := by decide +kernel
theorem dX9_slope_501 : decode cX9_slope 501 = .ok (.goto 56, 3) := by decide +kernel
theorem dX9_slope_504 : decode cX9_slope 504 = .ok (.aload_n 0, 1) := by decide +kernel
theorem dX9_slope_505 : decode cX9_slope 505 = .ok (.lload 9, 2) := by decide +kernel
theorem dX9_slope_507 : decode cX9_slope 507 = .ok (.lload 11, 2) := by decide +kernel
theorem dX9_slope_509 : decode cX9_slope 509 = .ok (.iconst 1, 1) := by decide +kernel
theorem dX9_slope_510 : decode cX9_slope 510 = .ok (.invokevirtual 328, 3) := by decide +kernel
theorem dX9_slope_513 : decode cX9_slope 513 = .ok (.aload_n 0, 1) := by decide +kernel
theorem dX9_slope_514 : decode cX9_slope 514 = .ok (.lload 5, 2) := by decide +kernel
theorem dX9_slope_516 : decode cX9_slope 516 = .ok (.lload 7, 2) := by decide +kernel
theorem dX9_slope_518 : decode cX9_slope 518 = .ok (.invokevirtual 347, 3) := by decide +kernel
theorem dX9_slope_521 : decode cX9_slope 521 = .ok (.aload_n 0, 1) := by decide +kernel
theorem dX9_slope_522 : decode cX9_slope 522 = .ok (.getfield 233, 3) := by decide +kernel
theorem dX9_slope_525 : decode cX9_slope 525 = .ok (.ifCond .ne 32, 3) := by decide +kernel
theorem dX9_slope_528 : decode cX9_slope 528 = .ok (.aload_n 0, 1) := by decide +kernel
theorem dX9_slope_529 : decode cX9_slope 529 = .ok (.aload_n 0, 1) := by decide +kernel
theorem dX9_slope_530 : decode cX9_slope 530 = .ok (.getfield 226, 3) := by decide +kernel
theorem dX9_slope_533 : decode cX9_slope 533 = .ok (.lneg, 1) := by decide +kernel
theorem dX9_slope_534 : decode cX9_slope 534 = .ok (.aload_n 0, 1) := by decide +kernel
theorem dX9_slope_535 : decode cX9_slope 535 = .ok (.getfield 222, 3) := by decide +kernel
theorem dX9_slope_538 : decode cX9_slope 538 = .ok (.lneg, 1) := by decide +kernel
theorem dX9_slope_539 : decode cX9_slope 539 = .ok (.invokevirtual 243, 3) := by decide +kernel
theorem dX9_slope_542 : decode cX9_slope 542 = .ok (.goto 15, 3) := by decide +kernel
theorem dX9_slope_545 : decode cX9_slope 545 = .ok (.aload_n 0, 1) := by decide +kernel
theorem dX9_slope_546 : decode cX9_slope 546 = .ok (.lload 5, 2) := by decide +kernel
theorem dX9_slope_548 : decode cX9_slope 548 = .ok (.lload 7, 2) := by decide +kernel
theorem dX9_slope_550 : decode cX9_slope 550 = .ok (.lload 9, 2) := by decide +kernel
theorem dX9_slope_552 : decode cX9_slope 552 = .ok (.lload 11, 2) := by decide +kernel
theorem dX9_slope_554 : decode cX9_slope 554 = .ok (.invokevirtual 352, 3) := by decide +kernel
theorem dX9_slope_557 : decode cX9_slope 557 = .ok (.return_, 1) := by decide +kernel
theorem dX9_products_0 : decode cX9_products 0 = .ok (.aload_n 0, 1) := by decide +kernel
theorem dX9_products_1 : decode cX9_products 1 = .ok (.aload_n 0, 1) := by decide +kernel
theorem dX9_products_2 : decode cX9_products 2 = .ok (.getfield 48, 3) := by decide +kernel
theorem dX9_products_5 : decode cX9_products 5 = .ok (.iload_n 2, 1) := by decide +kernel
theorem dX9_products_6 : decode cX9_products 6 = .ok (.laload, 1) := by decide +kernel
theorem dX9_products_7 : decode cX9_products 7 = .ok (.aload_n 0, 1) := by decide +kernel
theorem dX9_products_8 : decode cX9_products 8 = .ok (.getfield 51, 3) := by decide +kernel
theorem dX9_products_11 : decode cX9_products 11 = .ok (.iload_n 2, 1) := by decide +kernel
theorem dX9_products_12 : decode cX9_products 12 = .ok (.laload, 1) := by decide +kernel
theorem dX9_products_13 : decode cX9_products 13 = .ok (.aload_n 0, 1) := by decide +kernel
theorem dX9_products_14 : decode cX9_products 14 = .ok (.getfield 42, 3) := by decide +kernel
theorem dX9_products_17 : decode cX9_products 17 = .ok (.iload_n 3, 1) := by decide +kernel
theorem dX9_products_18 : decode cX9_products 18 = .ok (.laload, 1) := by decide +kernel
theorem dX9_products_19 : decode cX9_products 19 = .ok (.aload_n 0, 1) := by decide +kernel
theorem dX9_products_20 : decode cX9_products 20 = .ok (.getfield 45, 3) := by decide +kernel
theorem dX9_products_23 : decode cX9_products 23 = .ok (.iload_n 3, 1) := by decide +kernel
theorem dX9_products_24 : decode cX9_products 24 = .ok (.laload, 1) := by decide +kernel
theorem dX9_products_25 : decode cX9_products 25 = .ok (.invokevirtual 315, 3) := by decide +kernel
theorem dX9_products_28 : decode cX9_products 28 = .ok (.aload_n 0, 1) := by decide +kernel
theorem dX9_products_29 : decode cX9_products 29 = .ok (.getfield 222, 3) := by decide +kernel
theorem dX9_products_32 : decode cX9_products 32 = .ok (.lstore 4, 2) := by decide +kernel
theorem dX9_products_34 : decode cX9_products 34 = .ok (.aload_n 0, 1) := by decide +kernel
theorem dX9_products_35 : decode cX9_products 35 = .ok (.getfield 226, 3) := by decide +kernel
theorem dX9_products_38 : decode cX9_products 38 = .ok (.lstore 6, 2) := by decide +kernel
theorem dX9_products_40 : decode cX9_products 40 = .ok (.aload_n 0, 1) := by decide +kernel
theorem dX9_products_41 : decode cX9_products 41 = .ok (.getfield 233, 3) := by decide +kernel
theorem dX9_products_44 : decode cX9_products 44 = .ok (.istore 8, 2) := by decide +kernel
theorem dX9_products_46 : decode cX9_products 46 = .ok (.aload_n 0, 1) := by decide +kernel
theorem dX9_products_47 : decode cX9_products 47 = .ok (.aload_n 0, 1) := by decide +kernel
theorem dX9_products_48 : decode cX9_products 48 = .ok (.getfield 42, 3) := by decide +kernel
theorem dX9_products_51 : decode cX9_products 51 = .ok (.iload_n 2, 1) := by decide +kernel
theorem dX9_products_52 : decode cX9_products 52 = .ok (.laload, 1) := by decide +kernel
theorem dX9_products_53 : decode cX9_products 53 = .ok (.aload_n 0, 1) := by decide +kernel
theorem dX9_products_54 : decode cX9_products 54 = .ok (.getfield 45, 3) := by decide +kernel
theorem dX9_products_57 : decode cX9_products 57 = .ok (.iload_n 2, 1) := by decide +kernel
theorem dX9_products_58 : decode cX9_products 58 = .ok (.laload, 1) := by decide +kernel
theorem dX9_products_59 : decode cX9_products 59 = .ok (.aload_n 0, 1) := by decide +kernel
theorem dX9_products_60 : decode cX9_products 60 = .ok (.getfield 48, 3) := by decide +kernel
theorem dX9_products_63 : decode cX9_products 63 = .ok (.iload_n 3, 1) := by decide +kernel
theorem dX9_products_64 : decode cX9_products 64 = .ok (.laload, 1) := by decide +kernel
theorem dX9_products_65 : decode cX9_products 65 = .ok (.aload_n 0, 1) := by decide +kernel
theorem dX9_products_66 : decode cX9_products 66 = .ok (.getfield 51, 3) := by decide +kernel
theorem dX9_products_69 : decode cX9_products 69 = .ok (.iload_n 3, 1) := by decide +kernel
theorem dX9_products_70 : decode cX9_products 70 = .ok (.laload, 1) := by decide +kernel
theorem dX9_products_71 : decode cX9_products 71 = .ok (.invokevirtual 315, 3) := by decide +kernel
theorem dX9_products_74 : decode cX9_products 74 = .ok (.iload 8, 2) := by decide +kernel
theorem dX9_products_76 : decode cX9_products 76 = .ok (.ifCond .ne 10, 3) := by decide +kernel
theorem dX9_products_79 : decode cX9_products 79 = .ok (.aload_n 0, 1) := by decide +kernel
theorem dX9_products_80 : decode cX9_products 80 = .ok (.getfield 233, 3) := by decide +kernel
theorem dX9_products_83 : decode cX9_products 83 = .ok (.ifCond .eq 8, 3) := by decide +kernel
theorem dX9_products_86 : decode cX9_products 86 = .ok (.aload_n 0, 1) := by decide +kernel
theorem dX9_products_87 : decode cX9_products 87 = .ok (.invokevirtual 247, 3) := by decide +kernel
theorem dX9_products_90 : decode cX9_products 90 = .ok (.return_, 1) := by decide +kernel
theorem dX9_products_91 : decode cX9_products 91 = .ok (.aload_n 0, 1) := by decide +kernel
theorem dX9_products_92 : decode cX9_products 92 = .ok (.getfield 17, 3) := by decide +kernel
theorem dX9_products_95 : decode cX9_products 95 = .ok (.iload_n 1, 1) := by decide +kernel
theorem dX9_products_96 : decode cX9_products 96 = .ok (.iaload, 1) := by decide +kernel
theorem dX9_products_97 : decode cX9_products 97 = .ok (.bipush 7, 2) := by decide +kernel
theorem dX9_products_99 : decode cX9_products 99 = .ok (.if_icmp .ne 22, 3) := by decide +kernel
theorem dX9_products_102 : decode cX9_products 102 = .ok (.aload_n 0, 1) := by decide +kernel
theorem dX9_products_103 : decode cX9_products 103 = .ok (.lload 4, 2) := by decide +kernel
theorem dX9_products_105 : decode cX9_products 105 = .ok (.aload_n 0, 1) := by decide +kernel
theorem dX9_products_106 : decode cX9_products 106 = .ok (.getfield 222, 3) := by decide +kernel
theorem dX9_products_109 : decode cX9_products 109 = .ok (.ladd, 1) := by decide +kernel
theorem dX9_products_110 : decode cX9_products 110 = .ok (.lload 6, 2) := by decide +kernel
theorem dX9_products_112 : decode cX9_products 112 = .ok (.aload_n 0, 1) := by decide +kernel
theorem dX9_products_113 : decode cX9_products 113 = .ok (.getfield 226, 3) := by decide +kernel
theorem dX9_products_116 : decode cX9_products 116 = .ok (.ladd, 1) := by decide +kernel
theorem dX9_products_117 : decode cX9_products 117 = .ok (.invokevirtual 243, 3) := by decide +kernel
theorem dX9_products_120 : decode cX9_products 120 = .ok (.return_, 1) := by decide +kernel
theorem dX9_products_121 : decode cX9_products 121 = .ok (.aload_n 0, 1) := by decide +kernel
theorem dX9_products_122 : decode cX9_products 122 = .ok (.lload 4, 2) := by decide +kernel
theorem dX9_products_124 : decode cX9_products 124 = .ok (.aload_n 0, 1) := by decide +kernel
theorem dX9_products_125 : decode cX9_products 125 = .ok (.getfield 226, 3) := by decide +kernel
theorem dX9_products_128 : decode cX9_products 128 = .ok (.lsub, 1) := by decide +kernel
theorem dX9_products_129 : decode cX9_products 129 = .ok (.lload 6, 2) := by decide +kernel
theorem dX9_products_131 : decode cX9_products 131 = .ok (.aload_n 0, 1) := by decide +kernel
theorem dX9_products_132 : decode cX9_products 132 = .ok (.getfield 222, 3) := by decide +kernel
theorem dX9_products_135 : decode cX9_products 135 = .ok (.lsub, 1) := by decide +kernel
theorem dX9_products_136 : decode cX9_products 136 = .ok (.invokevirtual 243, 3) := by decide +kernel
theorem dX9_products_139 : decode cX9_products 139 = .ok (.aload_n 0, 1) := by decide +kernel
theorem dX9_products_140 : decode cX9_products 140 = .ok (.getfield 222, 3) := by decide +kernel
theorem dX9_products_143 : decode cX9_products 143 = .ok (.lstore 4, 2) := by decide +kernel
theorem dX9_products_145 : decode cX9_products 145 = .ok (.aload_n 0, 1) := by decide +kernel
theorem dX9_products_146 : decode cX9_products 146 = .ok (.getfield 226, 3) := by decide +kernel
theorem dX9_products_149 : decode cX9_products 149 = .ok (.lstore 6, 2) := by decide +kernel
theorem dX9_products_151 : decode cX9_products 151 = .ok (.aload_n 0, 1) := by decide +kernel
theorem dX9_products_152 : decode cX9_products 152 = .ok (.getfield 233, 3) := by decide +kernel
theorem dX9_products_155 : decode cX9_products 155 = .ok (.ifCond .eq 4, 3) := by decide +kernel
theorem dX9_products_158 : decode cX9_products 158 = .ok (.return_, 1) := by decide +kernel
theorem dX9_products_159 : decode cX9_products 159 = .ok (.aload_n 0, 1) := by decide +kernel
theorem dX9_products_160 : decode cX9_products 160 = .ok (.aload_n 0, 1) := by decide +kernel
theorem dX9_products_161 : decode cX9_products 161 = .ok (.getfield 42, 3) := by decide +kernel
theorem dX9_products_164 : decode cX9_products 164 = .ok (.iload_n 3, 1) := by decide +kernel
theorem dX9_products_165 : decode cX9_products 165 = .ok (.laload, 1) := by decide +kernel
theorem dX9_products_166 : decode cX9_products 166 = .ok (.aload_n 0, 1) := by decide +kernel
theorem dX9_products_167 : decode cX9_products 167 = .ok (.getfield 45, 3) := by decide +kernel
theorem dX9_products_170 : decode cX9_products 170 = .ok (.iload_n 3, 1) := by decide +kernel
theorem dX9_products_171 : decode cX9_products 171 = .ok (.laload, 1) := by decide +kernel
theorem dX9_products_172 : decode cX9_products 172 = .ok (.iconst 2, 1) := by decide +kernel
theorem dX9_products_173 : decode cX9_products 173 = .ok (.invokevirtual 312, 3) := by decide +kernel
theorem dX9_products_176 : decode cX9_products 176 = .ok (.aload_n 0, 1) := by decide +kernel
theorem dX9_products_177 : decode cX9_products 177 = .ok (.getfield 233, 3) := by decide +kernel
theorem dX9_products_180 : decode cX9_products 180 = .ok (.ifCond .ne 19, 3) := by decide +kernel
theorem dX9_products_183 : decode cX9_products 183 = .ok (.aload_n 0, 1) := by decide +kernel
theorem dX9_products_184 : decode cX9_products 184 = .ok (.lload 4, 2) := by decide +kernel
theorem dX9_products_186 : decode cX9_products 186 = .ok (.lload 6, 2) := by decide +kernel
theorem dX9_products_188 : decode cX9_products 188 = .ok (.aload_n 0, 1) := by decide +kernel
theorem dX9_products_189 : decode cX9_products 189 = .ok (.getfield 222, 3) := by decide +kernel
theorem dX9_products_192 : decode cX9_products 192 = .ok (.aload_n 0, 1) := by decide +kernel
theorem dX9_products_193 : decode cX9_products 193 = .ok (.getfield 226, 3) := by decide +kernel
theorem dX9_products_196 : decode cX9_products 196 = .ok (.invokevirtual 319, 3) := by decide +kernel
theorem dX9_products_199 : decode cX9_products 199 = .ok (.return_, 1) := by decide +kernel
theorem dX9_sizes_0 : decode cX9_sizes 0 = .ok (.lload 5, 2) := by decide +kernel
theorem dX9_sizes_2 : decode cX9_sizes 2 = .ok (.lconst 0, 1) := by decide +kernel
theorem dX9_sizes_3 : decode cX9_sizes 3 = .ok (.lcmp, 1) := by decide +kernel
theorem dX9_sizes_4 : decode cX9_sizes 4 = .ok (.ifCond .lt 12, 3) := by decide +kernel
theorem dX9_sizes_7 : decode cX9_sizes 7 = .ok (.aload_n 0, 1) := by decide +kernel
theorem dX9_sizes_8 : decode cX9_sizes 8 = .ok (.lload_n 1, 1) := by decide +kernel
theorem dX9_sizes_9 : decode cX9_sizes 9 = .ok (.lload_n 3, 1) := by decide +kernel
theorem dX9_sizes_10 : decode cX9_sizes 10 = .ok (.invokevirtual 243, 3) := by decide +kernel
theorem dX9_sizes_13 : decode cX9_sizes 13 = .ok (.goto 41, 3) := by decide +kernel
theorem dX9_sizes_16 : decode cX9_sizes 16 = .ok (.aload_n 0, 1) := by decide +kernel
theorem dX9_sizes_17 : decode cX9_sizes 17 = .ok (.lload_n 3, 1) := by decide +kernel
theorem dX9_sizes_18 : decode cX9_sizes 18 = .ok (.lneg, 1) := by decide +kernel
theorem dX9_sizes_19 : decode cX9_sizes 19 = .ok (.lload_n 1, 1) := by decide +kernel
theorem dX9_sizes_20 : decode cX9_sizes 20 = .ok (.lneg, 1) := by decide +kernel
theorem dX9_sizes_21 : decode cX9_sizes 21 = .ok (.invokevirtual 243, 3) := by decide +kernel
theorem dX9_sizes_24 : decode cX9_sizes 24 = .ok (.aload_n 0, 1) := by decide +kernel
theorem dX9_sizes_25 : decode cX9_sizes 25 = .ok (.getfield 233, 3) := by decide +kernel
theorem dX9_sizes_28 : decode cX9_sizes 28 = .ok (.ifCond .ne 26, 3) := by decide +kernel
theorem dX9_sizes_31 : decode cX9_sizes 31 = .ok (.lload 7, 2) := by decide +kernel
theorem dX9_sizes_33 : decode cX9_sizes 33 = .ok (.lconst 0, 1) := by decide +kernel
theorem dX9_sizes_34 : decode cX9_sizes 34 = .ok (.lcmp, 1) := by decide +kernel
theorem dX9_sizes_35 : decode cX9_sizes 35 = .ok (.ifCond .le 19, 3) := by decide +kernel
theorem dX9_sizes_38 : decode cX9_sizes 38 = .ok (.aload_n 0, 1) := by decide +kernel
theorem dX9_sizes_39 : decode cX9_sizes 39 = .ok (.lload_n 1, 1) := by decide +kernel
theorem dX9_sizes_40 : decode cX9_sizes 40 = .ok (.lload_n 3, 1) := by decide +kernel
theorem dX9_sizes_41 : decode cX9_sizes 41 = .ok (.lneg, 1) := by decide +kernel
theorem dX9_sizes_42 : decode cX9_sizes 42 = .ok (.invokestatic 237, 3) := by decide +kernel
theorem dX9_sizes_45 : decode cX9_sizes 45 = .ok (.lload_n 3, 1) := by decide +kernel
theorem dX9_sizes_46 : decode cX9_sizes 46 = .ok (.lload_n 1, 1) := by decide +kernel
theorem dX9_sizes_47 : decode cX9_sizes 47 = .ok (.lneg, 1) := by decide +kernel
theorem dX9_sizes_48 : decode cX9_sizes 48 = .ok (.invokestatic 240, 3) := by decide +kernel
theorem dX9_sizes_51 : decode cX9_sizes 51 = .ok (.invokevirtual 243, 3) := by decide +kernel
theorem dX9_sizes_54 : decode cX9_sizes 54 = .ok (.return_, 1) := by decide +kernel
theorem dX9_chosen_0 : decode cX9_chosen 0 = .ok (.aload_n 0, 1) := by decide +kernel
theorem dX9_chosen_1 : decode cX9_chosen 1 = .ok (.getfield 17, 3) := by decide +kernel
theorem dX9_chosen_4 : decode cX9_chosen 4 = .ok (.iload_n 1, 1) := by decide +kernel
theorem dX9_chosen_5 : decode cX9_chosen 5 = .ok (.iaload, 1) := by decide +kernel
theorem dX9_chosen_6 : decode cX9_chosen 6 = .ok (.bipush 15, 2) := by decide +kernel
theorem dX9_chosen_8 : decode cX9_chosen 8 = .ok (.if_icmp .ne 7, 3) := by decide +kernel
theorem dX9_chosen_11 : decode cX9_chosen 11 = .ok (.iconst 1, 1) := by decide +kernel
theorem dX9_chosen_12 : decode cX9_chosen 12 = .ok (.goto 4, 3) := by decide +kernel
theorem dX9_chosen_15 : decode cX9_chosen 15 = .ok (.iconst 0, 1) := by decide +kernel
theorem dX9_chosen_16 : decode cX9_chosen 16 = .ok (.istore 4, 2) := by decide +kernel
theorem dX9_chosen_18 : decode cX9_chosen 18 = .ok (.iload 4, 2) := by decide +kernel
theorem dX9_chosen_20 : decode cX9_chosen 20 = .ok (.ifCond .eq 27, 3) := by decide +kernel
theorem dX9_chosen_23 : decode cX9_chosen 23 = .ok (.aload_n 0, 1) := by decide +kernel
theorem dX9_chosen_24 : decode cX9_chosen 24 = .ok (.getfield 45, 3) := by decide +kernel
theorem dX9_chosen_27 : decode cX9_chosen 27 = .ok (.iload_n 2, 1) := by decide +kernel
theorem dX9_chosen_28 : decode cX9_chosen 28 = .ok (.laload, 1) := by decide +kernel
theorem dX9_chosen_29 : decode cX9_chosen 29 = .ok (.aload_n 0, 1) := by decide +kernel
theorem dX9_chosen_30 : decode cX9_chosen 30 = .ok (.getfield 42, 3) := by decide +kernel
theorem dX9_chosen_33 : decode cX9_chosen 33 = .ok (.iload_n 3, 1) := by decide +kernel
theorem dX9_chosen_34 : decode cX9_chosen 34 = .ok (.laload, 1) := by decide +kernel
theorem dX9_chosen_35 : decode cX9_chosen 35 = .ok (.lcmp, 1) := by decide +kernel
theorem dX9_chosen_36 : decode cX9_chosen 36 = .ok (.ifCond .gt 7, 3) := by decide +kernel
theorem dX9_chosen_39 : decode cX9_chosen 39 = .ok (.iconst 1, 1) := by decide +kernel
theorem dX9_chosen_40 : decode cX9_chosen 40 = .ok (.goto 28, 3) := by decide +kernel
theorem dX9_chosen_43 : decode cX9_chosen 43 = .ok (.iconst 0, 1) := by decide +kernel
theorem dX9_chosen_44 : decode cX9_chosen 44 = .ok (.goto 24, 3) := by decide +kernel
theorem dX9_chosen_47 : decode cX9_chosen 47 = .ok (.aload_n 0, 1) := by decide +kernel
theorem dX9_chosen_48 : decode cX9_chosen 48 = .ok (.getfield 42, 3) := by decide +kernel
theorem dX9_chosen_51 : decode cX9_chosen 51 = .ok (.iload_n 2, 1) := by decide +kernel
theorem dX9_chosen_52 : decode cX9_chosen 52 = .ok (.laload, 1) := by decide +kernel
theorem dX9_chosen_53 : decode cX9_chosen 53 = .ok (.aload_n 0, 1) := by decide +kernel
theorem dX9_chosen_54 : decode cX9_chosen 54 = .ok (.getfield 45, 3) := by decide +kernel
theorem dX9_chosen_57 : decode cX9_chosen 57 = .ok (.iload_n 3, 1) := by decide +kernel
theorem dX9_chosen_58 : decode cX9_chosen 58 = .ok (.laload, 1) := by decide +kernel
theorem dX9_chosen_59 : decode cX9_chosen 59 = .ok (.lcmp, 1) := by decide +kernel
theorem dX9_chosen_60 : decode cX9_chosen 60 = .ok (.ifCond .lt 7, 3) := by decide +kernel
theorem dX9_chosen_63 : decode cX9_chosen 63 = .ok (.iconst 1, 1) := by decide +kernel
theorem dX9_chosen_64 : decode cX9_chosen 64 = .ok (.goto 4, 3) := by decide +kernel
theorem dX9_chosen_67 : decode cX9_chosen 67 = .ok (.iconst 0, 1) := by decide +kernel
theorem dX9_chosen_68 : decode cX9_chosen 68 = .ok (.istore 5, 2) := by decide +kernel
theorem dX9_chosen_70 : decode cX9_chosen 70 = .ok (.iload 4, 2) := by decide +kernel
theorem dX9_chosen_72 : decode cX9_chosen 72 = .ok (.ifCond .eq 27, 3) := by decide +kernel
theorem dX9_chosen_75 : decode cX9_chosen 75 = .ok (.aload_n 0, 1) := by decide +kernel
