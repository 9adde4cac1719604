theorem dX9_init_0 : decode cX9_init 0 = .ok (.aload_n 0, 1) := by decide +kernel
theorem dX9_init_1 : decode cX9_init 1 = .ok (.invokespecial 1, 3) := by decide +kernel
theorem dX9_init_4 : decode cX9_init 4 = .ok (.aload_n 0, 1) := by decide +kernel
theorem dX9_init_5 : decode cX9_init 5 = .ok (.sipush 200, 3) := by decide +kernel
theorem dX9_init_8 : decode cX9_init 8 = .ok (.newarray .byte, 2) := by decide +kernel
theorem dX9_init_10 : decode cX9_init 10 = .ok (.putfield 7, 3) := by decide +kernel
theorem dX9_init_13 : decode cX9_init 13 = .ok (.aload_n 0, 1) := by decide +kernel
theorem dX9_init_14 : decode cX9_init 14 = .ok (.bipush 8, 2) := by decide +kernel
theorem dX9_init_16 : decode cX9_init 16 = .ok (.newarray .int, 2) := by decide +kernel
theorem dX9_init_18 : decode cX9_init 18 = .ok (.putfield 13, 3) := by decide +kernel
theorem dX9_init_21 : decode cX9_init 21 = .ok (.aload_n 0, 1) := by decide +kernel
theorem dX9_init_22 : decode cX9_init 22 = .ok (.sipush 480, 3) := by decide +kernel
theorem dX9_init_25 : decode cX9_init 25 = .ok (.newarray .int, 2) := by decide +kernel
theorem dX9_init_27 : decode cX9_init 27 = .ok (.putfield 17, 3) := by decide +kernel
theorem dX9_init_30 : decode cX9_init 30 = .ok (.aload_n 0, 1) := by decide +kernel
theorem dX9_init_31 : decode cX9_init 31 = .ok (.sipush 480, 3) := by decide +kernel
theorem dX9_init_34 : decode cX9_init 34 = .ok (.newarray .int, 2) := by decide +kernel
theorem dX9_init_36 : decode cX9_init 36 = .ok (.putfield 20, 3) := by decide +kernel
theorem dX9_init_39 : decode cX9_init 39 = .ok (.aload_n 0, 1) := by decide +kernel
theorem dX9_init_40 : decode cX9_init 40 = .ok (.sipush 480, 3) := by decide +kernel
theorem dX9_init_43 : decode cX9_init 43 = .ok (.newarray .int, 2) := by decide +kernel
theorem dX9_init_45 : decode cX9_init 45 = .ok (.putfield 23, 3) := by decide +kernel
theorem dX9_init_48 : decode cX9_init 48 = .ok (.aload_n 0, 1) := by decide +kernel
theorem dX9_init_49 : decode cX9_init 49 = .ok (.sipush 480, 3) := by decide +kernel
theorem dX9_init_52 : decode cX9_init 52 = .ok (.newarray .long, 2) := by decide +kernel
theorem dX9_init_54 : decode cX9_init 54 = .ok (.putfield 26, 3) := by decide +kernel
theorem dX9_init_57 : decode cX9_init 57 = .ok (.aload_n 0, 1) := by decide +kernel
theorem dX9_init_58 : decode cX9_init 58 = .ok (.sipush 480, 3) := by decide +kernel
theorem dX9_init_61 : decode cX9_init 61 = .ok (.newarray .long, 2) := by decide +kernel
theorem dX9_init_63 : decode cX9_init 63 = .ok (.putfield 30, 3) := by decide +kernel
theorem dX9_init_66 : decode cX9_init 66 = .ok (.aload_n 0, 1) := by decide +kernel
theorem dX9_init_67 : decode cX9_init 67 = .ok (.bipush 8, 2) := by decide +kernel
theorem dX9_init_69 : decode cX9_init 69 = .ok (.newarray .int, 2) := by decide +kernel
theorem dX9_init_71 : decode cX9_init 71 = .ok (.putfield 33, 3) := by decide +kernel
theorem dX9_init_74 : decode cX9_init 74 = .ok (.aload_n 0, 1) := by decide +kernel
theorem dX9_init_75 : decode cX9_init 75 = .ok (.bipush 8, 2) := by decide +kernel
theorem dX9_init_77 : decode cX9_init 77 = .ok (.newarray .int, 2) := by decide +kernel
theorem dX9_init_79 : decode cX9_init 79 = .ok (.putfield 36, 3) := by decide +kernel
theorem dX9_init_82 : decode cX9_init 82 = .ok (.aload_n 0, 1) := by decide +kernel
theorem dX9_init_83 : decode cX9_init 83 = .ok (.sipush 480, 3) := by decide +kernel
theorem dX9_init_86 : decode cX9_init 86 = .ok (.newarray .int, 2) := by decide +kernel
theorem dX9_init_88 : decode cX9_init 88 = .ok (.putfield 39, 3) := by decide +kernel
theorem dX9_init_91 : decode cX9_init 91 = .ok (.aload_n 0, 1) := by decide +kernel
theorem dX9_init_92 : decode cX9_init 92 = .ok (.sipush 480, 3) := by decide +kernel
theorem dX9_init_95 : decode cX9_init 95 = .ok (.newarray .long, 2) := by decide +kernel
theorem dX9_init_97 : decode cX9_init 97 = .ok (.putfield 42, 3) := by decide +kernel
theorem dX9_init_100 : decode cX9_init 100 = .ok (.aload_n 0, 1) := by decide +kernel
theorem dX9_init_101 : decode cX9_init 101 = .ok (.sipush 480, 3) := by decide +kernel
theorem dX9_init_104 : decode cX9_init 104 = .ok (.newarray .long, 2) := by decide +kernel
theorem dX9_init_106 : decode cX9_init 106 = .ok (.putfield 45, 3) := by decide +kernel
theorem dX9_init_109 : decode cX9_init 109 = .ok (.aload_n 0, 1) := by decide +kernel
theorem dX9_init_110 : decode cX9_init 110 = .ok (.sipush 480, 3) := by decide +kernel
theorem dX9_init_113 : decode cX9_init 113 = .ok (.newarray .long, 2) := by decide +kernel
theorem dX9_init_115 : decode cX9_init 115 = .ok (.putfield 48, 3) := by decide +kernel
theorem dX9_init_118 : decode cX9_init 118 = .ok (.aload_n 0, 1) := by decide +kernel
theorem dX9_init_119 : decode cX9_init 119 = .ok (.sipush 480, 3) := by decide +kernel
theorem dX9_init_122 : decode cX9_init 122 = .ok (.newarray .long, 2) := by decide +kernel
theorem dX9_init_124 : decode cX9_init 124 = .ok (.putfield 51, 3) := by decide +kernel
theorem dX9_init_127 : decode cX9_init 127 = .ok (.aload_n 0, 1) := by decide +kernel
theorem dX9_init_128 : decode cX9_init 128 = .ok (.sipush 480, 3) := by decide +kernel
theorem dX9_init_131 : decode cX9_init 131 = .ok (.newarray .boolean, 2) := by decide +kernel
theorem dX9_init_133 : decode cX9_init 133 = .ok (.putfield 54, 3) := by decide +kernel
theorem dX9_init_136 : decode cX9_init 136 = .ok (.aload_n 0, 1) := by decide +kernel
theorem dX9_init_137 : decode cX9_init 137 = .ok (.sipush 480, 3) := by decide +kernel
theorem dX9_init_140 : decode cX9_init 140 = .ok (.newarray .boolean, 2) := by decide +kernel
theorem dX9_init_142 : decode cX9_init 142 = .ok (.putfield 58, 3) := by decide +kernel
theorem dX9_init_145 : decode cX9_init 145 = .ok (.aload_n 0, 1) := by decide +kernel
theorem dX9_init_146 : decode cX9_init 146 = .ok (.sipush 260, 3) := by decide +kernel
theorem dX9_init_149 : decode cX9_init 149 = .ok (.newarray .long, 2) := by decide +kernel
theorem dX9_init_151 : decode cX9_init 151 = .ok (.putfield 61, 3) := by decide +kernel
theorem dX9_init_154 : decode cX9_init 154 = .ok (.aload_n 0, 1) := by decide +kernel
theorem dX9_init_155 : decode cX9_init 155 = .ok (.sipush 260, 3) := by decide +kernel
theorem dX9_init_158 : decode cX9_init 158 = .ok (.newarray .long, 2) := by decide +kernel
theorem dX9_init_160 : decode cX9_init 160 = .ok (.putfield 64, 3) := by decide +kernel
theorem dX9_init_163 : decode cX9_init 163 = .ok (.aload_n 0, 1) := by decide +kernel
theorem dX9_init_164 : decode cX9_init 164 = .ok (.sipush 260, 3) := by decide +kernel
theorem dX9_init_167 : decode cX9_init 167 = .ok (.newarray .long, 2) := by decide +kernel
theorem dX9_init_169 : decode cX9_init 169 = .ok (.putfield 67, 3) := by decide +kernel
theorem dX9_init_172 : decode cX9_init 172 = .ok (.aload_n 0, 1) := by decide +kernel
theorem dX9_init_173 : decode cX9_init 173 = .ok (.sipush 260, 3) := by decide +kernel
theorem dX9_init_176 : decode cX9_init 176 = .ok (.newarray .long, 2) := by decide +kernel
theorem dX9_init_178 : decode cX9_init 178 = .ok (.putfield 70, 3) := by decide +kernel
theorem dX9_init_181 : decode cX9_init 181 = .ok (.aload_n 0, 1) := by decide +kernel
theorem dX9_init_182 : decode cX9_init 182 = .ok (.sipush 130, 3) := by decide +kernel
theorem dX9_init_185 : decode cX9_init 185 = .ok (.newarray .long, 2) := by decide +kernel
theorem dX9_init_187 : decode cX9_init 187 = .ok (.putfield 73, 3) := by decide +kernel
theorem dX9_init_190 : decode cX9_init 190 = .ok (.aload_n 0, 1) := by decide +kernel
theorem dX9_init_191 : decode cX9_init 191 = .ok (.sipush 130, 3) := by decide +kernel
theorem dX9_init_194 : decode cX9_init 194 = .ok (.newarray .long, 2) := by decide +kernel
theorem dX9_init_196 : decode cX9_init 196 = .ok (.putfield 76, 3) := by decide +kernel
theorem dX9_init_199 : decode cX9_init 199 = .ok (.aload_n 0, 1) := by decide +kernel
theorem dX9_init_200 : decode cX9_init 200 = .ok (.sipush 130, 3) := by decide +kernel
theorem dX9_init_203 : decode cX9_init 203 = .ok (.newarray .int, 2) := by decide +kernel
theorem dX9_init_205 : decode cX9_init 205 = .ok (.putfield 79, 3) := by decide +kernel
theorem dX9_init_208 : decode cX9_init 208 = .ok (.return_, 1) := by decide +kernel
theorem dX9_feed_0 : decode cX9_feed 0 = .ok (.aload_n 0, 1) := by decide +kernel
theorem dX9_feed_1 : decode cX9_feed 1 = .ok (.getfield 86, 3) := by decide +kernel
theorem dX9_feed_4 : decode cX9_feed 4 = .ok (.bipush 20, 2) := by decide +kernel
theorem dX9_feed_6 : decode cX9_feed 6 = .ok (.iadd, 1) := by decide +kernel
theorem dX9_feed_7 : decode cX9_feed 7 = .ok (.sipush 200, 3) := by decide +kernel
theorem dX9_feed_10 : decode cX9_feed 10 = .ok (.if_icmp .le 5, 3) := by decide +kernel
theorem dX9_feed_13 : decode cX9_feed 13 = .ok (.iconst (-1), 1) := by decide +kernel
theorem dX9_feed_14 : decode cX9_feed 14 = .ok (.ireturn, 1) := by decide +kernel
theorem dX9_feed_15 : decode cX9_feed 15 = .ok (.aload_n 0, 1) := by decide +kernel
theorem dX9_feed_16 : decode cX9_feed 16 = .ok (.iload_n 1, 1) := by decide +kernel
theorem dX9_feed_17 : decode cX9_feed 17 = .ok (.invokevirtual 89, 3) := by decide +kernel
theorem dX9_feed_20 : decode cX9_feed 20 = .ok (.aload_n 0, 1) := by decide +kernel
theorem dX9_feed_21 : decode cX9_feed 21 = .ok (.iload_n 2, 1) := by decide +kernel
theorem dX9_feed_22 : decode cX9_feed 22 = .ok (.invokevirtual 89, 3) := by decide +kernel
theorem dX9_feed_25 : decode cX9_feed 25 = .ok (.aload_n 0, 1) := by decide +kernel
theorem dX9_feed_26 : decode cX9_feed 26 = .ok (.iload_n 3, 1) := by decide +kernel
theorem dX9_feed_27 : decode cX9_feed 27 = .ok (.invokevirtual 89, 3) := by decide +kernel
theorem dX9_feed_30 : decode cX9_feed 30 = .ok (.aload_n 0, 1) := by decide +kernel
theorem dX9_feed_31 : decode cX9_feed 31 = .ok (.iload 4, 2) := by decide +kernel
theorem dX9_feed_33 : decode cX9_feed 33 = .ok (.invokevirtual 89, 3) := by decide +kernel
theorem dX9_feed_36 : decode cX9_feed 36 = .ok (.aload_n 0, 1) := by decide +kernel
theorem dX9_feed_37 : decode cX9_feed 37 = .ok (.iload 5, 2) := by decide +kernel
theorem dX9_feed_39 : decode cX9_feed 39 = .ok (.invokevirtual 89, 3) := by decide +kernel
theorem dX9_feed_42 : decode cX9_feed 42 = .ok (.aload_n 0, 1) := by decide +kernel
theorem dX9_feed_43 : decode cX9_feed 43 = .ok (.getfield 86, 3) := by decide +kernel
theorem dX9_feed_46 : decode cX9_feed 46 = .ok (.ireturn, 1) := by decide +kernel
theorem dX9_put_0 : decode cX9_put 0 = .ok (.bipush 24, 2) := by decide +kernel
theorem dX9_put_2 : decode cX9_put 2 = .ok (.istore_n 2, 1) := by decide +kernel
theorem dX9_put_3 : decode cX9_put 3 = .ok (.iload_n 2, 1) := by decide +kernel
theorem dX9_put_4 : decode cX9_put 4 = .ok (.ifCond .lt 32, 3) := by decide +kernel
theorem dX9_put_7 : decode cX9_put 7 = .ok (.aload_n 0, 1) := by decide +kernel
theorem dX9_put_8 : decode cX9_put 8 = .ok (.getfield 7, 3) := by decide +kernel
theorem dX9_put_11 : decode cX9_put 11 = .ok (.aload_n 0, 1) := by decide +kernel
theorem dX9_put_12 : decode cX9_put 12 = .ok (.getfield 86, 3) := by decide +kernel
theorem dX9_put_15 : decode cX9_put 15 = .ok (.iload_n 1, 1) := by decide +kernel
theorem dX9_put_16 : decode cX9_put 16 = .ok (.iload_n 2, 1) := by decide +kernel
theorem dX9_put_17 : decode cX9_put 17 = .ok (.ishr, 1) := by decide +kernel
theorem dX9_put_18 : decode cX9_put 18 = .ok (.i2b, 1) := by decide +kernel
theorem dX9_put_19 : decode cX9_put 19 = .ok (.bastore, 1) := by decide +kernel
theorem dX9_put_20 : decode cX9_put 20 = .ok (.aload_n 0, 1) := by decide +kernel
theorem dX9_put_21 : decode cX9_put 21 = .ok (.dup, 1) := by decide +kernel
theorem dX9_put_22 : decode cX9_put 22 = .ok (.getfield 86, 3) := by decide +kernel
theorem dX9_put_25 : decode cX9_put 25 = .ok (.iconst 1, 1) := by decide +kernel
theorem dX9_put_26 : decode cX9_put 26 = .ok (.iadd, 1) := by decide +kernel
theorem dX9_put_27 : decode cX9_put 27 = .ok (.putfield 86, 3) := by decide +kernel
theorem dX9_put_30 : decode cX9_put 30 = .ok (.iinc 2 (-8), 3) := by decide +kernel
theorem dX9_put_33 : decode cX9_put 33 = .ok (.goto (-30), 3) := by decide +kernel
theorem dX9_put_36 : decode cX9_put 36 = .ok (.return_, 1) := by decide +kernel
theorem dX9_end_0 : decode cX9_end 0 = .ok (.iload_n 1, 1) := by decide +kernel
theorem dX9_end_1 : decode cX9_end 1 = .ok (.ifCond .lt 11, 3) := by decide +kernel
theorem dX9_end_4 : decode cX9_end 4 = .ok (.iload_n 1, 1) := by decide +kernel
theorem dX9_end_5 : decode cX9_end 5 = .ok (.aload_n 0, 1) := by decide +kernel
theorem dX9_end_6 : decode cX9_end 6 = .ok (.getfield 86, 3) := by decide +kernel
theorem dX9_end_9 : decode cX9_end 9 = .ok (.if_icmp .le 5, 3) := by decide +kernel
theorem dX9_end_12 : decode cX9_end 12 = .ok (.iconst (-1), 1) := by decide +kernel
theorem dX9_end_13 : decode cX9_end 13 = .ok (.ireturn, 1) := by decide +kernel
theorem dX9_end_14 : decode cX9_end 14 = .ok (.aload_n 0, 1) := by decide +kernel
theorem dX9_end_15 : decode cX9_end 15 = .ok (.iload_n 1, 1) := by decide +kernel
theorem dX9_end_16 : decode cX9_end 16 = .ok (.putfield 86, 3) := by decide +kernel
theorem dX9_end_19 : decode cX9_end 19 = .ok (.iload_n 1, 1) := by decide +kernel
theorem dX9_end_20 : decode cX9_end 20 = .ok (.ireturn, 1) := by decide +kernel
theorem dX9_bad_0 : decode cX9_bad 0 = .ok (.aload_n 0, 1) := by decide +kernel
theorem dX9_bad_1 : decode cX9_bad 1 = .ok (.getfield 93, 3) := by decide +kernel
theorem dX9_bad_4 : decode cX9_bad 4 = .ok (.ifCond .le 7, 3) := by decide +kernel
theorem dX9_bad_7 : decode cX9_bad 7 = .ok (.iconst 1, 1) := by decide +kernel
theorem dX9_bad_8 : decode cX9_bad 8 = .ok (.goto 4, 3) := by decide +kernel
theorem dX9_bad_11 : decode cX9_bad 11 = .ok (.iconst 0, 1) := by decide +kernel
theorem dX9_bad_12 : decode cX9_bad 12 = .ok (.ireturn, 1) := by decide +kernel
theorem dX9_fails_0 : decode cX9_fails 0 = .ok (.aload_n 0, 1) := by decide +kernel
theorem dX9_fails_1 : decode cX9_fails 1 = .ok (.getfield 93, 3) := by decide +kernel
theorem dX9_fails_4 : decode cX9_fails 4 = .ok (.ifCond .ne 13, 3) := by decide +kernel
theorem dX9_fails_7 : decode cX9_fails 7 = .ok (.aload_n 0, 1) := by decide +kernel
theorem dX9_fails_8 : decode cX9_fails 8 = .ok (.iload_n 1, 1) := by decide +kernel
theorem dX9_fails_9 : decode cX9_fails 9 = .ok (.putfield 93, 3) := by decide +kernel
theorem dX9_fails_12 : decode cX9_fails 12 = .ok (.aload_n 0, 1) := by decide +kernel
theorem dX9_fails_13 : decode cX9_fails 13 = .ok (.iload_n 2, 1) := by decide +kernel
theorem dX9_fails_14 : decode cX9_fails 14 = .ok (.putfield 96, 3) := by decide +kernel
theorem dX9_fails_17 : decode cX9_fails 17 = .ok (.iconst 0, 1) := by decide +kernel
theorem dX9_fails_18 : decode cX9_fails 18 = .ok (.ireturn, 1) := by decide +kernel
theorem dX9_peek_0 : decode cX9_peek 0 = .ok (.aload_n 0, 1) := by decide +kernel
theorem dX9_peek_1 : decode cX9_peek 1 = .ok (.getfield 99, 3) := by decide +kernel
theorem dX9_peek_4 : decode cX9_peek 4 = .ok (.aload_n 0, 1) := by decide +kernel
theorem dX9_peek_5 : decode cX9_peek 5 = .ok (.getfield 86, 3) := by decide +kernel
theorem dX9_peek_8 : decode cX9_peek 8 = .ok (.if_icmp .ge 30, 3) := by decide +kernel
theorem dX9_peek_11 : decode cX9_peek 11 = .ok (.aload_n 0, 1) := by decide +kernel
theorem dX9_peek_12 : decode cX9_peek 12 = .ok (.getfield 7, 3) := by decide +kernel
theorem dX9_peek_15 : decode cX9_peek 15 = .ok (.aload_n 0, 1) := by decide +kernel
theorem dX9_peek_16 : decode cX9_peek 16 = .ok (.getfield 99, 3) := by decide +kernel
theorem dX9_peek_19 : decode cX9_peek 19 = .ok (.baload, 1) := by decide +kernel
theorem dX9_peek_20 : decode cX9_peek 20 = .ok (.bipush 32, 2) := by decide +kernel
theorem dX9_peek_22 : decode cX9_peek 22 = .ok (.if_icmp .ne 16, 3) := by decide +kernel
theorem dX9_peek_25 : decode cX9_peek 25 = .ok (.aload_n 0, 1) := by decide +kernel
theorem dX9_peek_26 : decode cX9_peek 26 = .ok (.dup, 1) := by decide +kernel
theorem dX9_peek_27 : decode cX9_peek 27 = .ok (.getfield 99, 3) := by decide +kernel
theorem dX9_peek_30 : decode cX9_peek 30 = .ok (.iconst 1, 1) := by decide +kernel
theorem dX9_peek_31 : decode cX9_peek 31 = .ok (.iadd, 1) := by decide +kernel
theorem dX9_peek_32 : decode cX9_peek 32 = .ok (.putfield 99, 3) := by decide +kernel
theorem dX9_peek_35 : decode cX9_peek 35 = .ok (.goto (-35), 3) := by decide +kernel
theorem dX9_peek_38 : decode cX9_peek 38 = .ok (.aload_n 0, 1) := by decide +kernel
theorem dX9_peek_39 : decode cX9_peek 39 = .ok (.getfield 99, 3) := by decide +kernel
theorem dX9_peek_42 : decode cX9_peek 42 = .ok (.aload_n 0, 1) := by decide +kernel
theorem dX9_peek_43 : decode cX9_peek 43 = .ok (.getfield 86, 3) := by decide +kernel
theorem dX9_peek_46 : decode cX9_peek 46 = .ok (.if_icmp .ge 19, 3) := by decide +kernel
theorem dX9_peek_49 : decode cX9_peek 49 = .ok (.aload_n 0, 1) := by decide +kernel
theorem dX9_peek_50 : decode cX9_peek 50 = .ok (.getfield 7, 3) := by decide +kernel
theorem dX9_peek_53 : decode cX9_peek 53 = .ok (.aload_n 0, 1) := by decide +kernel
theorem dX9_peek_54 : decode cX9_peek 54 = .ok (.getfield 99, 3) := by decide +kernel
theorem dX9_peek_57 : decode cX9_peek 57 = .ok (.baload, 1) := by decide +kernel
theorem dX9_peek_58 : decode cX9_peek 58 = .ok (.sipush 255, 3) := by decide +kernel
theorem dX9_peek_61 : decode cX9_peek 61 = .ok (.iand, 1) := by decide +kernel
theorem dX9_peek_62 : decode cX9_peek 62 = .ok (.goto 4, 3) := by decide +kernel
theorem dX9_peek_65 : decode cX9_peek 65 = .ok (.iconst (-1), 1) := by decide +kernel
theorem dX9_peek_66 : decode cX9_peek 66 = .ok (.ireturn, 1) := by decide +kernel
theorem dX9_isDigit_0 : decode cX9_isDigit 0 = .ok (.iload_n 1, 1) := by decide +kernel
theorem dX9_isDigit_1 : decode cX9_isDigit 1 = .ok (.aload_n 0, 1) := by decide +kernel
theorem dX9_isDigit_2 : decode cX9_isDigit 2 = .ok (.getfield 86, 3) := by decide +kernel
theorem dX9_isDigit_5 : decode cX9_isDigit 5 = .ok (.if_icmp .ge 29, 3) := by decide +kernel
theorem dX9_isDigit_8 : decode cX9_isDigit 8 = .ok (.aload_n 0, 1) := by decide +kernel
theorem dX9_isDigit_9 : decode cX9_isDigit 9 = .ok (.getfield 7, 3) := by decide +kernel
theorem dX9_isDigit_12 : decode cX9_isDigit 12 = .ok (.iload_n 1, 1) := by decide +kernel
theorem dX9_isDigit_13 : decode cX9_isDigit 13 = .ok (.baload, 1) := by decide +kernel
theorem dX9_isDigit_14 : decode cX9_isDigit 14 = .ok (.bipush 48, 2) := by decide +kernel
theorem dX9_isDigit_16 : decode cX9_isDigit 16 = .ok (.if_icmp .lt 18, 3) := by decide +kernel
theorem dX9_isDigit_19 : decode cX9_isDigit 19 = .ok (.aload_n 0, 1) := by decide +kernel
theorem dX9_isDigit_20 : decode cX9_isDigit 20 = .ok (.getfield 7, 3) := by decide +kernel
theorem dX9_isDigit_23 : decode cX9_isDigit 23 = .ok (.iload_n 1, 1) := by decide +kernel
theorem dX9_isDigit_24 : decode cX9_isDigit 24 = .ok (.baload, 1) := by decide +kernel
theorem dX9_isDigit_25 : decode cX9_isDigit 25 = .ok (.bipush 57, 2) := by decide +kernel
theorem dX9_isDigit_27 : decode cX9_isDigit 27 = .ok (.if_icmp .gt 7, 3) := by decide +kernel
theorem dX9_isDigit_30 : decode cX9_isDigit 30 = .ok (.iconst 1, 1) := by decide +kernel
theorem dX9_isDigit_31 : decode cX9_isDigit 31 = .ok (.goto 4, 3) := by decide +kernel
theorem dX9_isDigit_34 : decode cX9_isDigit 34 = .ok (.iconst 0, 1) := by decide +kernel
theorem dX9_isDigit_35 : decode cX9_isDigit 35 = .ok (.ireturn, 1) := by decide +kernel
theorem dX9_meets_0 : decode cX9_meets 0 = .ok (.aload_n 0, 1) := by decide +kernel
theorem dX9_meets_1 : decode cX9_meets 1 = .ok (.dup, 1) := by decide +kernel
theorem dX9_meets_2 : decode cX9_meets 2 = .ok (.getfield 102, 3) := by decide +kernel
theorem dX9_meets_5 : decode cX9_meets 5 = .ok (.iconst 1, 1) := by decide +kernel
theorem dX9_meets_6 : decode cX9_meets 6 = .ok (.iadd, 1) := by decide +kernel
theorem dX9_meets_7 : decode cX9_meets 7 = .ok (.putfield 102, 3) := by decide +kernel
theorem dX9_meets_10 : decode cX9_meets 10 = .ok (.aload_n 0, 1) := by decide +kernel
theorem dX9_meets_11 : decode cX9_meets 11 = .ok (.getfield 102, 3) := by decide +kernel
theorem dX9_meets_14 : decode cX9_meets 14 = .ok (.bipush 60, 2) := by decide +kernel
theorem dX9_meets_16 : decode cX9_meets 16 = .ok (.if_icmp .le 10, 3) := by decide +kernel
theorem dX9_meets_19 : decode cX9_meets 19 = .ok (.aload_n 0, 1) := by decide +kernel
theorem dX9_meets_20 : decode cX9_meets 20 = .ok (.iconst 3, 1) := by decide +kernel
theorem dX9_meets_21 : decode cX9_meets 21 = .ok (.iload_n 1, 1) := by decide +kernel
theorem dX9_meets_22 : decode cX9_meets 22 = .ok (.invokevirtual 105, 3) := by decide +kernel
theorem dX9_meets_25 : decode cX9_meets 25 = .ok (.pop, 1) := by decide +kernel
theorem dX9_meets_26 : decode cX9_meets 26 = .ok (.return_, 1) := by decide +kernel
theorem dX9_make_0 : decode cX9_make 0 = .ok (.aload_n 0, 1) := by decide +kernel
theorem dX9_make_1 : decode cX9_make 1 = .ok (.invokevirtual 109, 3) := by decide +kernel
theorem dX9_make_4 : decode cX9_make 4 = .ok (.ifCond .eq 5, 3) := by decide +kernel
theorem dX9_make_7 : decode cX9_make 7 = .ok (.iconst 0, 1) := by decide +kernel
theorem dX9_make_8 : decode cX9_make 8 = .ok (.ireturn, 1) := by decide +kernel
theorem dX9_make_9 : decode cX9_make 9 = .ok (.bipush 60, 2) := by decide +kernel
theorem dX9_make_11 : decode cX9_make 11 = .ok (.aload_n 0, 1) := by decide +kernel
theorem dX9_make_12 : decode cX9_make 12 = .ok (.getfield 113, 3) := by decide +kernel
theorem dX9_make_15 : decode cX9_make 15 = .ok (.imul, 1) := by decide +kernel
theorem dX9_make_16 : decode cX9_make 16 = .ok (.aload_n 0, 1) := by decide +kernel
theorem dX9_make_17 : decode cX9_make 17 = .ok (.getfield 116, 3) := by decide +kernel
theorem dX9_make_20 : decode cX9_make 20 = .ok (.iadd, 1) := by decide +kernel
theorem dX9_make_21 : decode cX9_make 21 = .ok (.istore 4, 2) := by decide +kernel
theorem dX9_make_23 : decode cX9_make 23 = .ok (.aload_n 0, 1) := by decide +kernel
theorem dX9_make_24 : decode cX9_make 24 = .ok (.getfield 17, 3) := by decide +kernel
theorem dX9_make_27 : decode cX9_make 27 = .ok (.iload 4, 2) := by decide +kernel
theorem dX9_make_29 : decode cX9_make 29 = .ok (.iload_n 1, 1) := by decide +kernel
theorem dX9_make_30 : decode cX9_make 30 = .ok (.iastore, 1) := by decide +kernel
theorem dX9_make_31 : decode cX9_make 31 = .ok (.aload_n 0, 1) := by decide +kernel
theorem dX9_make_32 : decode cX9_make 32 = .ok (.getfield 20, 3) := by decide +kernel
theorem dX9_make_35 : decode cX9_make 35 = .ok (.iload 4, 2) := by decide +kernel
theorem dX9_make_37 : decode cX9_make 37 = .ok (.iload_n 2, 1) := by decide +kernel
theorem dX9_make_38 : decode cX9_make 38 = .ok (.iastore, 1) := by decide +kernel
theorem dX9_make_39 : decode cX9_make 39 = .ok (.aload_n 0, 1) := by decide +kernel
theorem dX9_make_40 : decode cX9_make 40 = .ok (.getfield 23, 3) := by decide +kernel
theorem dX9_make_43 : decode cX9_make 43 = .ok (.iload 4, 2) := by decide +kernel
theorem dX9_make_45 : decode cX9_make 45 = .ok (.iload_n 3, 1) := by decide +kernel
theorem dX9_make_46 : decode cX9_make 46 = .ok (.iastore, 1) := by decide +kernel
theorem dX9_make_47 : decode cX9_make 47 = .ok (.aload_n 0, 1) := by decide +kernel
theorem dX9_make_48 : decode cX9_make 48 = .ok (.dup, 1) := by decide +kernel
theorem dX9_make_49 : decode cX9_make 49 = .ok (.getfield 116, 3) := by decide +kernel
theorem dX9_make_52 : decode cX9_make 52 = .ok (.iconst 1, 1) := by decide +kernel
theorem dX9_make_53 : decode cX9_make 53 = .ok (.iadd, 1) := by decide +kernel
theorem dX9_make_54 : decode cX9_make 54 = .ok (.putfield 116, 3) := by decide +kernel
theorem dX9_make_57 : decode cX9_make 57 = .ok (.iload 4, 2) := by decide +kernel
theorem dX9_make_59 : decode cX9_make 59 = .ok (.ireturn, 1) := by decide +kernel
theorem dX9_sum_0 : decode cX9_sum 0 = .ok (.aload_n 0, 1) := by decide +kernel
theorem dX9_sum_1 : decode cX9_sum 1 = .ok (.invokevirtual 119, 3) := by decide +kernel
theorem dX9_sum_4 : decode cX9_sum 4 = .ok (.istore_n 1, 1) := by decide +kernel
theorem dX9_sum_5 : decode cX9_sum 5 = .ok (.aload_n 0, 1) := by decide +kernel
theorem dX9_sum_6 : decode cX9_sum 6 = .ok (.invokevirtual 109, 3) := by decide +kernel
theorem dX9_sum_9 : decode cX9_sum 9 = .ok (.ifCond .ne 82, 3) := by decide +kernel
theorem dX9_sum_12 : decode cX9_sum 12 = .ok (.aload_n 0, 1) := by decide +kernel
theorem dX9_sum_13 : decode cX9_sum 13 = .ok (.invokevirtual 123, 3) := by decide +kernel
theorem dX9_sum_16 : decode cX9_sum 16 = .ok (.bipush 43, 2) := by decide +kernel
theorem dX9_sum_18 : decode cX9_sum 18 = .ok (.if_icmp .eq 12, 3) := by decide +kernel
theorem dX9_sum_21 : decode cX9_sum 21 = .ok (.aload_n 0, 1) := by decide +kernel
theorem dX9_sum_22 : decode cX9_sum 22 = .ok (.invokevirtual 123, 3) := by decide +kernel
theorem dX9_sum_25 : decode cX9_sum 25 = .ok (.bipush 45, 2) := by decide +kernel
theorem dX9_sum_27 : decode cX9_sum 27 = .ok (.if_icmp .ne 64, 3) := by decide +kernel
theorem dX9_sum_30 : decode cX9_sum 30 = .ok (.aload_n 0, 1) := by decide +kernel
theorem dX9_sum_31 : decode cX9_sum 31 = .ok (.invokevirtual 123, 3) := by decide +kernel
theorem dX9_sum_34 : decode cX9_sum 34 = .ok (.bipush 43, 2) := by decide +kernel
theorem dX9_sum_36 : decode cX9_sum 36 = .ok (.if_icmp .ne 7, 3) := by decide +kernel
theorem dX9_sum_39 : decode cX9_sum 39 = .ok (.iconst 5, 1) := by decide +kernel
theorem dX9_sum_40 : decode cX9_sum 40 = .ok (.goto 5, 3) := by decide +kernel
theorem dX9_sum_43 : decode cX9_sum 43 = .ok (.bipush 6, 2) := by decide +kernel
theorem dX9_sum_45 : decode cX9_sum 45 = .ok (.istore_n 2, 1) := by decide +kernel
theorem dX9_sum_46 : decode cX9_sum 46 = .ok (.aload_n 0, 1) := by decide +kernel
theorem dX9_sum_47 : decode cX9_sum 47 = .ok (.aload_n 0, 1) := by decide +kernel
theorem dX9_sum_48 : decode cX9_sum 48 = .ok (.getfield 99, 3) := by decide +kernel
theorem dX9_sum_51 : decode cX9_sum 51 = .ok (.invokevirtual 126, 3) := by decide +kernel
theorem dX9_sum_54 : decode cX9_sum 54 = .ok (.aload_n 0, 1) := by decide +kernel
theorem dX9_sum_55 : decode cX9_sum 55 = .ok (.dup, 1) := by decide +kernel
theorem dX9_sum_56 : decode cX9_sum 56 = .ok (.getfield 99, 3) := by decide +kernel
theorem dX9_sum_59 : decode cX9_sum 59 = .ok (.iconst 1, 1) := by decide +kernel
theorem dX9_sum_60 : decode cX9_sum 60 = .ok (.iadd, 1) := by decide +kernel
theorem dX9_sum_61 : decode cX9_sum 61 = .ok (.putfield 99, 3) := by decide +kernel
theorem dX9_sum_64 : decode cX9_sum 64 = .ok (.aload_n 0, 1) := by decide +kernel
theorem dX9_sum_65 : decode cX9_sum 65 = .ok (.invokevirtual 109, 3) := by decide +kernel
theorem dX9_sum_68 : decode cX9_sum 68 = .ok (.ifCond .eq 7, 3) := by decide +kernel
theorem dX9_sum_71 : decode cX9_sum 71 = .ok (.iconst 0, 1) := by decide +kernel
theorem dX9_sum_72 : decode cX9_sum 72 = .ok (.goto 7, 3) := by decide +kernel
theorem dX9_sum_75 : decode cX9_sum 75 = .ok (.aload_n 0, 1) := by decide +kernel
theorem dX9_sum_76 : decode cX9_sum 76 = .ok (.invokevirtual 119, 3) := by decide +kernel
theorem dX9_sum_79 : decode cX9_sum 79 = .ok (.istore_n 3, 1) := by decide +kernel
theorem dX9_sum_80 : decode cX9_sum 80 = .ok (.aload_n 0, 1) := by decide +kernel
theorem dX9_sum_81 : decode cX9_sum 81 = .ok (.iload_n 2, 1) := by decide +kernel
theorem dX9_sum_82 : decode cX9_sum 82 = .ok (.iload_n 1, 1) := by decide +kernel
theorem dX9_sum_83 : decode cX9_sum 83 = .ok (.iload_n 3, 1) := by decide +kernel
theorem dX9_sum_84 : decode cX9_sum 84 = .ok (.invokevirtual 129, 3) := by decide +kernel
theorem dX9_sum_87 : decode cX9_sum 87 = .ok (.istore_n 1, 1) := by decide +kernel
theorem dX9_sum_88 : decode cX9_sum 88 = .ok (.goto (-83), 3) := by decide +kernel
theorem dX9_sum_91 : decode cX9_sum 91 = .ok (.iload_n 1, 1) := by decide +kernel
theorem dX9_sum_92 : decode cX9_sum 92 = .ok (.ireturn, 1) := by decide +kernel
theorem dX9_term_0 : decode cX9_term 0 = .ok (.aload_n 0, 1) := by decide +kernel
theorem dX9_term_1 : decode cX9_term 1 = .ok (.invokevirtual 133, 3) := by decide +kernel
theorem dX9_term_4 : decode cX9_term 4 = .ok (.istore_n 1, 1) := by decide +kernel
theorem dX9_term_5 : decode cX9_term 5 = .ok (.aload_n 0, 1) := by decide +kernel
theorem dX9_term_6 : decode cX9_term 6 = .ok (.invokevirtual 109, 3) := by decide +kernel
theorem dX9_term_9 : decode cX9_term 9 = .ok (.ifCond .ne 83, 3) := by decide +kernel
theorem dX9_term_12 : decode cX9_term 12 = .ok (.aload_n 0, 1) := by decide +kernel
theorem dX9_term_13 : decode cX9_term 13 = .ok (.invokevirtual 123, 3) := by decide +kernel
theorem dX9_term_16 : decode cX9_term 16 = .ok (.bipush 42, 2) := by decide +kernel
theorem dX9_term_18 : decode cX9_term 18 = .ok (.if_icmp .eq 12, 3) := by decide +kernel
theorem dX9_term_21 : decode cX9_term 21 = .ok (.aload_n 0, 1) := by decide +kernel
theorem dX9_term_22 : decode cX9_term 22 = .ok (.invokevirtual 123, 3) := by decide +kernel
theorem dX9_term_25 : decode cX9_term 25 = .ok (.bipush 47, 2) := by decide +kernel
theorem dX9_term_27 : decode cX9_term 27 = .ok (.if_icmp .ne 65, 3) := by decide +kernel
theorem dX9_term_30 : decode cX9_term 30 = .ok (.aload_n 0, 1) := by decide +kernel
theorem dX9_term_31 : decode cX9_term 31 = .ok (.invokevirtual 123, 3) := by decide +kernel
theorem dX9_term_34 : decode cX9_term 34 = .ok (.bipush 42, 2) := by decide +kernel
theorem dX9_term_36 : decode cX9_term 36 = .ok (.if_icmp .ne 8, 3) := by decide +kernel
theorem dX9_term_39 : decode cX9_term 39 = .ok (.bipush 7, 2) := by decide +kernel
theorem dX9_term_41 : decode cX9_term 41 = .ok (.goto 5, 3) := by decide +kernel
theorem dX9_term_44 : decode cX9_term 44 = .ok (.bipush 8, 2) := by decide +kernel
theorem dX9_term_46 : decode cX9_term 46 = .ok (.istore_n 2, 1) := by decide +kernel
theorem dX9_term_47 : decode cX9_term 47 = .ok (.aload_n 0, 1) := by decide +kernel
theorem dX9_term_48 : decode cX9_term 48 = .ok (.aload_n 0, 1) := by decide +kernel
theorem dX9_term_49 : decode cX9_term 49 = .ok (.getfield 99, 3) := by decide +kernel
theorem dX9_term_52 : decode cX9_term 52 = .ok (.invokevirtual 126, 3) := by decide +kernel
theorem dX9_term_55 : decode cX9_term 55 = .ok (.aload_n 0, 1) := by decide +kernel
theorem dX9_term_56 : decode cX9_term 56 = .ok (.dup, 1) := by decide +kernel
theorem dX9_term_57 : decode cX9_term 57 = .ok (.getfield 99, 3) := by decide +kernel
theorem dX9_term_60 : decode cX9_term 60 = .ok (.iconst 1, 1) := by decide +kernel
theorem dX9_term_61 : decode cX9_term 61 = .ok (.iadd, 1) := by decide +kernel
theorem dX9_term_62 : decode cX9_term 62 = .ok (.putfield 99, 3) := by decide +kernel
theorem dX9_term_65 : decode cX9_term 65 = .ok (.aload_n 0, 1) := by decide +kernel
theorem dX9_term_66 : decode cX9_term 66 = .ok (.invokevirtual 109, 3) := by decide +kernel
theorem dX9_term_69 : decode cX9_term 69 = .ok (.ifCond .eq 7, 3) := by decide +kernel
theorem dX9_term_72 : decode cX9_term 72 = .ok (.iconst 0, 1) := by decide +kernel
theorem dX9_term_73 : decode cX9_term 73 = .ok (.goto 7, 3) := by decide +kernel
theorem dX9_term_76 : decode cX9_term 76 = .ok (.aload_n 0, 1) := by decide +kernel
theorem dX9_term_77 : decode cX9_term 77 = .ok (.invokevirtual 133, 3) := by decide +kernel
theorem dX9_term_80 : decode cX9_term 80 = .ok (.istore_n 3, 1) := by decide +kernel
theorem dX9_term_81 : decode cX9_term 81 = .ok (.aload_n 0, 1) := by decide +kernel
theorem dX9_term_82 : decode cX9_term 82 = .ok (.iload_n 2, 1) := by decide +kernel
theorem dX9_term_83 : decode cX9_term 83 = .ok (.iload_n 1, 1) := by decide +kernel
theorem dX9_term_84 : decode cX9_term 84 = .ok (.iload_n 3, 1) := by decide +kernel
theorem dX9_term_85 : decode cX9_term 85 = .ok (.invokevirtual 129, 3) := by decide +kernel
theorem dX9_term_88 : decode cX9_term 88 = .ok (.istore_n 1, 1) := by decide +kernel
theorem dX9_term_89 : decode cX9_term 89 = .ok (.goto (-84), 3) := by decide +kernel
theorem dX9_term_92 : decode cX9_term 92 = .ok (.iload_n 1, 1) := by decide +kernel
theorem dX9_term_93 : decode cX9_term 93 = .ok (.ireturn, 1) := by decide +kernel
theorem dX9_power_0 : decode cX9_power 0 = .ok (.aload_n 0, 1) := by decide +kernel
theorem dX9_power_1 : decode cX9_power 1 = .ok (.invokevirtual 123, 3) := by decide +kernel
theorem dX9_power_4 : decode cX9_power 4 = .ok (.bipush 45, 2) := by decide +kernel
theorem dX9_power_6 : decode cX9_power 6 = .ok (.if_icmp .ne 7, 3) := by decide +kernel
theorem dX9_power_9 : decode cX9_power 9 = .ok (.iconst 1, 1) := by decide +kernel
theorem dX9_power_10 : decode cX9_power 10 = .ok (.goto 4, 3) := by decide +kernel
theorem dX9_power_13 : decode cX9_power 13 = .ok (.iconst 0, 1) := by decide +kernel
theorem dX9_power_14 : decode cX9_power 14 = .ok (.istore_n 1, 1) := by decide +kernel
theorem dX9_power_15 : decode cX9_power 15 = .ok (.iload_n 1, 1) := by decide +kernel
theorem dX9_power_16 : decode cX9_power 16 = .ok (.ifCond .eq 21, 3) := by decide +kernel
theorem dX9_power_19 : decode cX9_power 19 = .ok (.aload_n 0, 1) := by decide +kernel
theorem dX9_power_20 : decode cX9_power 20 = .ok (.aload_n 0, 1) := by decide +kernel
theorem dX9_power_21 : decode cX9_power 21 = .ok (.getfield 99, 3) := by decide +kernel
theorem dX9_power_24 : decode cX9_power 24 = .ok (.invokevirtual 126, 3) := by decide +kernel
theorem dX9_power_27 : decode cX9_power 27 = .ok (.aload_n 0, 1) := by decide +kernel
theorem dX9_power_28 : decode cX9_power 28 = .ok (.dup, 1) := by decide +kernel
theorem dX9_power_29 : decode cX9_power 29 = .ok (.getfield 99, 3) := by decide +kernel
theorem dX9_power_32 : decode cX9_power 32 = .ok (.iconst 1, 1) := by decide +kernel
theorem dX9_power_33 : decode cX9_power 33 = .ok (.iadd, 1) := by decide +kernel
theorem dX9_power_34 : decode cX9_power 34 = .ok (.putfield 99, 3) := by decide +kernel
theorem dX9_power_37 : decode cX9_power 37 = .ok (.aload_n 0, 1) := by decide +kernel
theorem dX9_power_38 : decode cX9_power 38 = .ok (.invokevirtual 109, 3) := by decide +kernel
theorem dX9_power_41 : decode cX9_power 41 = .ok (.ifCond .eq 5, 3) := by decide +kernel
theorem dX9_power_44 : decode cX9_power 44 = .ok (.iconst 0, 1) := by decide +kernel
theorem dX9_power_45 : decode cX9_power 45 = .ok (.ireturn, 1) := by decide +kernel
theorem dX9_power_46 : decode cX9_power 46 = .ok (.aload_n 0, 1) := by decide +kernel
theorem dX9_power_47 : decode cX9_power 47 = .ok (.invokevirtual 136, 3) := by decide +kernel
theorem dX9_power_50 : decode cX9_power 50 = .ok (.istore_n 2, 1) := by decide +kernel
theorem dX9_power_51 : decode cX9_power 51 = .ok (.aload_n 0, 1) := by decide +kernel
theorem dX9_power_52 : decode cX9_power 52 = .ok (.invokevirtual 109, 3) := by decide +kernel
theorem dX9_power_55 : decode cX9_power 55 = .ok (.ifCond .ne 96, 3) := by decide +kernel
theorem dX9_power_58 : decode cX9_power 58 = .ok (.aload_n 0, 1) := by decide +kernel
theorem dX9_power_59 : decode cX9_power 59 = .ok (.invokevirtual 123, 3) := by decide +kernel
theorem dX9_power_62 : decode cX9_power 62 = .ok (.bipush 94, 2) := by decide +kernel
theorem dX9_power_64 : decode cX9_power 64 = .ok (.if_icmp .ne 87, 3) := by decide +kernel
theorem dX9_power_67 : decode cX9_power 67 = .ok (.aload_n 0, 1) := by decide +kernel
theorem dX9_power_68 : decode cX9_power 68 = .ok (.aload_n 0, 1) := by decide +kernel
theorem dX9_power_69 : decode cX9_power 69 = .ok (.getfield 99, 3) := by decide +kernel
theorem dX9_power_72 : decode cX9_power 72 = .ok (.invokevirtual 126, 3) := by decide +kernel
theorem dX9_power_75 : decode cX9_power 75 = .ok (.aload_n 0, 1) := by decide +kernel
theorem dX9_power_76 : decode cX9_power 76 = .ok (.dup, 1) := by decide +kernel
theorem dX9_power_77 : decode cX9_power 77 = .ok (.getfield 99, 3) := by decide +kernel
theorem dX9_power_80 : decode cX9_power 80 = .ok (.iconst 1, 1) := by decide +kernel
theorem dX9_power_81 : decode cX9_power 81 = .ok (.iadd, 1) := by decide +kernel
theorem dX9_power_82 : decode cX9_power 82 = .ok (.putfield 99, 3) := by decide +kernel
theorem dX9_power_85 : decode cX9_power 85 = .ok (.aload_n 0, 1) := by decide +kernel
theorem dX9_power_86 : decode cX9_power 86 = .ok (.invokevirtual 109, 3) := by decide +kernel
theorem dX9_power_89 : decode cX9_power 89 = .ok (.ifCond .eq 7, 3) := by decide +kernel
theorem dX9_power_92 : decode cX9_power 92 = .ok (.iconst 0, 1) := by decide +kernel
theorem dX9_power_93 : decode cX9_power 93 = .ok (.goto 7, 3) := by decide +kernel
theorem dX9_power_96 : decode cX9_power 96 = .ok (.aload_n 0, 1) := by decide +kernel
theorem dX9_power_97 : decode cX9_power 97 = .ok (.invokevirtual 123, 3) := by decide +kernel
theorem dX9_power_100 : decode cX9_power 100 = .ok (.istore_n 3, 1) := by decide +kernel
theorem dX9_power_101 : decode cX9_power 101 = .ok (.aload_n 0, 1) := by decide +kernel
theorem dX9_power_102 : decode cX9_power 102 = .ok (.invokevirtual 109, 3) := by decide +kernel
theorem dX9_power_105 : decode cX9_power 105 = .ok (.ifCond .ne 25, 3) := by decide +kernel
theorem dX9_power_108 : decode cX9_power 108 = .ok (.iload_n 3, 1) := by decide +kernel
theorem dX9_power_109 : decode cX9_power 109 = .ok (.bipush 49, 2) := by decide +kernel
theorem dX9_power_111 : decode cX9_power 111 = .ok (.if_icmp .lt 9, 3) := by decide +kernel
theorem dX9_power_114 : decode cX9_power 114 = .ok (.iload_n 3, 1) := by decide +kernel
theorem dX9_power_115 : decode cX9_power 115 = .ok (.bipush 57, 2) := by decide +kernel
theorem dX9_power_117 : decode cX9_power 117 = .ok (.if_icmp .le 13, 3) := by decide +kernel
theorem dX9_power_120 : decode cX9_power 120 = .ok (.aload_n 0, 1) := by decide +kernel
theorem dX9_power_121 : decode cX9_power 121 = .ok (.iconst 1, 1) := by decide +kernel
theorem dX9_power_122 : decode cX9_power 122 = .ok (.aload_n 0, 1) := by decide +kernel
theorem dX9_power_123 : decode cX9_power 123 = .ok (.getfield 99, 3) := by decide +kernel
theorem dX9_power_126 : decode cX9_power 126 = .ok (.invokevirtual 105, 3) := by decide +kernel
theorem dX9_power_129 : decode cX9_power 129 = .ok (.ireturn, 1) := by decide +kernel
theorem dX9_power_130 : decode cX9_power 130 = .ok (.aload_n 0, 1) := by decide +kernel
theorem dX9_power_131 : decode cX9_power 131 = .ok (.dup, 1) := by decide +kernel
theorem dX9_power_132 : decode cX9_power 132 = .ok (.getfield 99, 3) := by decide +kernel
theorem dX9_power_135 : decode cX9_power 135 = .ok (.iconst 1, 1) := by decide +kernel
theorem dX9_power_136 : decode cX9_power 136 = .ok (.iadd, 1) := by decide +kernel
theorem dX9_power_137 : decode cX9_power 137 = .ok (.putfield 99, 3) := by decide +kernel
theorem dX9_power_140 : decode cX9_power 140 = .ok (.aload_n 0, 1) := by decide +kernel
theorem dX9_power_141 : decode cX9_power 141 = .ok (.iconst 4, 1) := by decide +kernel
theorem dX9_power_142 : decode cX9_power 142 = .ok (.iload_n 2, 1) := by decide +kernel
theorem dX9_power_143 : decode cX9_power 143 = .ok (.iload_n 3, 1) := by decide +kernel
theorem dX9_power_144 : decode cX9_power 144 = .ok (.bipush 48, 2) := by decide +kernel
theorem dX9_power_146 : decode cX9_power 146 = .ok (.isub, 1) := by decide +kernel
theorem dX9_power_147 : decode cX9_power 147 = .ok (.invokevirtual 129, 3) := by decide +kernel
theorem dX9_power_150 : decode cX9_power 150 = .ok (.istore_n 2, 1) := by decide +kernel
theorem dX9_power_151 : decode cX9_power 151 = .ok (.iload_n 1, 1) := by decide +kernel
theorem dX9_power_152 : decode cX9_power 152 = .ok (.ifCond .eq 13, 3) := by decide +kernel
theorem dX9_power_155 : decode cX9_power 155 = .ok (.aload_n 0, 1) := by decide +kernel
theorem dX9_power_156 : decode cX9_power 156 = .ok (.iconst 3, 1) := by decide +kernel
theorem dX9_power_157 : decode cX9_power 157 = .ok (.iload_n 2, 1) := by decide +kernel
theorem dX9_power_158 : decode cX9_power 158 = .ok (.iconst 0, 1) := by decide +kernel
theorem dX9_power_159 : decode cX9_power 159 = .ok (.invokevirtual 129, 3) := by decide +kernel
theorem dX9_power_162 : decode cX9_power 162 = .ok (.goto 4, 3) := by decide +kernel
theorem dX9_power_165 : decode cX9_power 165 = .ok (.iload_n 2, 1) := by decide +kernel
theorem dX9_power_166 : decode cX9_power 166 = .ok (.ireturn, 1) := by decide +kernel
theorem dX9_wordEnd_0 : decode cX9_wordEnd 0 = .ok (.aload_n 0, 1) := by decide +kernel
theorem dX9_wordEnd_1 : decode cX9_wordEnd 1 = .ok (.getfield 99, 3) := by decide +kernel
theorem dX9_wordEnd_4 : decode cX9_wordEnd 4 = .ok (.istore_n 1, 1) := by decide +kernel
theorem dX9_wordEnd_5 : decode cX9_wordEnd 5 = .ok (.iload_n 1, 1) := by decide +kernel
theorem dX9_wordEnd_6 : decode cX9_wordEnd 6 = .ok (.aload_n 0, 1) := by decide +kernel
theorem dX9_wordEnd_7 : decode cX9_wordEnd 7 = .ok (.getfield 86, 3) := by decide +kernel
theorem dX9_wordEnd_10 : decode cX9_wordEnd 10 = .ok (.if_icmp .ge 72, 3) := by decide +kernel
theorem dX9_wordEnd_13 : decode cX9_wordEnd 13 = .ok (.aload_n 0, 1) := by decide +kernel
theorem dX9_wordEnd_14 : decode cX9_wordEnd 14 = .ok (.iload_n 1, 1) := by decide +kernel
theorem dX9_wordEnd_15 : decode cX9_wordEnd 15 = .ok (.invokevirtual 139, 3) := by decide +kernel
theorem dX9_wordEnd_18 : decode cX9_wordEnd 18 = .ok (.ifCond .ne 58, 3) := by decide +kernel
theorem dX9_wordEnd_21 : decode cX9_wordEnd 21 = .ok (.aload_n 0, 1) := by decide +kernel
theorem dX9_wordEnd_22 : decode cX9_wordEnd 22 = .ok (.getfield 7, 3) := by decide +kernel
theorem dX9_wordEnd_25 : decode cX9_wordEnd 25 = .ok (.iload_n 1, 1) := by decide +kernel
theorem dX9_wordEnd_26 : decode cX9_wordEnd 26 = .ok (.baload, 1) := by decide +kernel
theorem dX9_wordEnd_27 : decode cX9_wordEnd 27 = .ok (.bipush 46, 2) := by decide +kernel
theorem dX9_wordEnd_29 : decode cX9_wordEnd 29 = .ok (.if_icmp .eq 47, 3) := by decide +kernel
theorem dX9_wordEnd_32 : decode cX9_wordEnd 32 = .ok (.aload_n 0, 1) := by decide +kernel
theorem dX9_wordEnd_33 : decode cX9_wordEnd 33 = .ok (.getfield 7, 3) := by decide +kernel
theorem dX9_wordEnd_36 : decode cX9_wordEnd 36 = .ok (.iload_n 1, 1) := by decide +kernel
theorem dX9_wordEnd_37 : decode cX9_wordEnd 37 = .ok (.baload, 1) := by decide +kernel
theorem dX9_wordEnd_38 : decode cX9_wordEnd 38 = .ok (.bipush 97, 2) := by decide +kernel
theorem dX9_wordEnd_40 : decode cX9_wordEnd 40 = .ok (.if_icmp .lt 14, 3) := by decide +kernel
theorem dX9_wordEnd_43 : decode cX9_wordEnd 43 = .ok (.aload_n 0, 1) := by decide +kernel
theorem dX9_wordEnd_44 : decode cX9_wordEnd 44 = .ok (.getfield 7, 3) := by decide +kernel
theorem dX9_wordEnd_47 : decode cX9_wordEnd 47 = .ok (.iload_n 1, 1) := by decide +kernel
theorem dX9_wordEnd_48 : decode cX9_wordEnd 48 = .ok (.baload, 1) := by decide +kernel
theorem dX9_wordEnd_49 : decode cX9_wordEnd 49 = .ok (.bipush 122, 2) := by decide +kernel
theorem dX9_wordEnd_51 : decode cX9_wordEnd 51 = .ok (.if_icmp .le 25, 3) := by decide +kernel
theorem dX9_wordEnd_54 : decode cX9_wordEnd 54 = .ok (.aload_n 0, 1) := by decide +kernel
theorem dX9_wordEnd_55 : decode cX9_wordEnd 55 = .ok (.getfield 7, 3) := by decide +kernel
theorem dX9_wordEnd_58 : decode cX9_wordEnd 58 = .ok (.iload_n 1, 1) := by decide +kernel
theorem dX9_wordEnd_59 : decode cX9_wordEnd 59 = .ok (.baload, 1) := by decide +kernel
theorem dX9_wordEnd_60 : decode cX9_wordEnd 60 = .ok (.bipush 65, 2) := by decide +kernel
theorem dX9_wordEnd_62 : decode cX9_wordEnd 62 = .ok (.if_icmp .lt 20, 3) := by decide +kernel
theorem dX9_wordEnd_65 : decode cX9_wordEnd 65 = .ok (.aload_n 0, 1) := by decide +kernel
theorem dX9_wordEnd_66 : decode cX9_wordEnd 66 = .ok (.getfield 7, 3) := by decide +kernel
theorem dX9_wordEnd_69 : decode cX9_wordEnd 69 = .ok (.iload_n 1, 1) := by decide +kernel
theorem dX9_wordEnd_70 : decode cX9_wordEnd 70 = .ok (.baload, 1) := by decide +kernel
theorem dX9_wordEnd_71 : decode cX9_wordEnd 71 = .ok (.bipush 90, 2) := by decide +kernel
theorem dX9_wordEnd_73 : decode cX9_wordEnd 73 = .ok (.if_icmp .gt 9, 3) := by decide +kernel
theorem dX9_wordEnd_76 : decode cX9_wordEnd 76 = .ok (.iinc 1 1, 3) := by decide +kernel
theorem dX9_wordEnd_79 : decode cX9_wordEnd 79 = .ok (.goto (-74), 3) := by decide +kernel
theorem dX9_wordEnd_82 : decode cX9_wordEnd 82 = .ok (.iload_n 1, 1) := by decide +kernel
theorem dX9_wordEnd_83 : decode cX9_wordEnd 83 = .ok (.ireturn, 1) := by decide +kernel
theorem dX9_stands_0 : decode cX9_stands 0 = .ok (.iload_n 2, 1) := by decide +kernel
theorem dX9_stands_1 : decode cX9_stands 1 = .ok (.aload_n 0, 1) := by decide +kernel
theorem dX9_stands_2 : decode cX9_stands 2 = .ok (.getfield 99, 3) := by decide +kernel
theorem dX9_stands_5 : decode cX9_stands 5 = .ok (.isub, 1) := by decide +kernel
theorem dX9_stands_6 : decode cX9_stands 6 = .ok (.aload_n 1, 1) := by decide +kernel
theorem dX9_stands_7 : decode cX9_stands 7 = .ok (.invokevirtual 143, 3) := by decide +kernel
theorem dX9_stands_10 : decode cX9_stands 10 = .ok (.if_icmp .ne 7, 3) := by decide +kernel
theorem dX9_stands_13 : decode cX9_stands 13 = .ok (.iconst 1, 1) := by decide +kernel
theorem dX9_stands_14 : decode cX9_stands 14 = .ok (.goto 4, 3) := by decide +kernel
theorem dX9_stands_17 : decode cX9_stands 17 = .ok (.iconst 0, 1) := by decide +kernel
theorem dX9_stands_18 : decode cX9_stands 18 = .ok (.istore_n 3, 1) := by decide +kernel
theorem dX9_stands_19 : decode cX9_stands 19 = .ok (.iconst 0, 1) := by decide +kernel
theorem dX9_stands_20 : decode cX9_stands 20 = .ok (.istore 4, 2) := by decide +kernel
theorem dX9_stands_22 : decode cX9_stands 22 = .ok (.iload 4, 2) := by decide +kernel
theorem dX9_stands_24 : decode cX9_stands 24 = .ok (.aload_n 1, 1) := by decide +kernel
theorem dX9_stands_25 : decode cX9_stands 25 = .ok (.invokevirtual 143, 3) := by decide +kernel
theorem dX9_stands_28 : decode cX9_stands 28 = .ok (.if_icmp .ge 40, 3) := by decide +kernel
theorem dX9_stands_31 : decode cX9_stands 31 = .ok (.iload_n 3, 1) := by decide +kernel
theorem dX9_stands_32 : decode cX9_stands 32 = .ok (.ifCond .eq 36, 3) := by decide +kernel
theorem dX9_stands_35 : decode cX9_stands 35 = .ok (.aload_n 0, 1) := by decide +kernel
theorem dX9_stands_36 : decode cX9_stands 36 = .ok (.getfield 7, 3) := by decide +kernel
theorem dX9_stands_39 : decode cX9_stands 39 = .ok (.aload_n 0, 1) := by decide +kernel
theorem dX9_stands_40 : decode cX9_stands 40 = .ok (.getfield 99, 3) := by decide +kernel
theorem dX9_stands_43 : decode cX9_stands 43 = .ok (.iload 4, 2) := by decide +kernel
theorem dX9_stands_45 : decode cX9_stands 45 = .ok (.iadd, 1) := by decide +kernel
theorem dX9_stands_46 : decode cX9_stands 46 = .ok (.baload, 1) := by decide +kernel
theorem dX9_stands_47 : decode cX9_stands 47 = .ok (.aload_n 1, 1) := by decide +kernel
theorem dX9_stands_48 : decode cX9_stands 48 = .ok (.iload 4, 2) := by decide +kernel
theorem dX9_stands_50 : decode cX9_stands 50 = .ok (.invokevirtual 148, 3) := by decide +kernel
theorem dX9_stands_53 : decode cX9_stands 53 = .ok (.if_icmp .ne 7, 3) := by decide +kernel
theorem dX9_stands_56 : decode cX9_stands 56 = .ok (.iconst 1, 1) := by decide +kernel
theorem dX9_stands_57 : decode cX9_stands 57 = .ok (.goto 4, 3) := by decide +kernel
theorem dX9_stands_60 : decode cX9_stands 60 = .ok (.iconst 0, 1) := by decide +kernel
theorem dX9_stands_61 : decode cX9_stands 61 = .ok (.istore_n 3, 1) := by decide +kernel
theorem dX9_stands_62 : decode cX9_stands 62 = .ok (.iinc 4 1, 3) := by decide +kernel
theorem dX9_stands_65 : decode cX9_stands 65 = .ok (.goto (-43), 3) := by decide +kernel
theorem dX9_stands_68 : decode cX9_stands 68 = .ok (.iload_n 3, 1) := by decide +kernel
theorem dX9_stands_69 : decode cX9_stands 69 = .ok (.ireturn, 1) := by decide +kernel
theorem dX9_isNumber_0 : decode cX9_isNumber 0 = .ok (.aload_n 0, 1) := by decide +kernel
theorem dX9_isNumber_1 : decode cX9_isNumber 1 = .ok (.getfield 99, 3) := by decide +kernel
theorem dX9_isNumber_4 : decode cX9_isNumber 4 = .ok (.istore_n 2, 1) := by decide +kernel
theorem dX9_isNumber_5 : decode cX9_isNumber 5 = .ok (.aload_n 0, 1) := by decide +kernel
theorem dX9_isNumber_6 : decode cX9_isNumber 6 = .ok (.iload_n 2, 1) := by decide +kernel
theorem dX9_isNumber_7 : decode cX9_isNumber 7 = .ok (.invokevirtual 139, 3) := by decide +kernel
theorem dX9_isNumber_10 : decode cX9_isNumber 10 = .ok (.ifCond .eq 19, 3) := by decide +kernel
theorem dX9_isNumber_13 : decode cX9_isNumber 13 = .ok (.iload_n 2, 1) := by decide +kernel
theorem dX9_isNumber_14 : decode cX9_isNumber 14 = .ok (.aload_n 0, 1) := by decide +kernel
theorem dX9_isNumber_15 : decode cX9_isNumber 15 = .ok (.getfield 99, 3) := by decide +kernel
theorem dX9_isNumber_18 : decode cX9_isNumber 18 = .ok (.iconst 4, 1) := by decide +kernel
theorem dX9_isNumber_19 : decode cX9_isNumber 19 = .ok (.iadd, 1) := by decide +kernel
theorem dX9_isNumber_20 : decode cX9_isNumber 20 = .ok (.if_icmp .ge 9, 3) := by decide +kernel
theorem dX9_isNumber_23 : decode cX9_isNumber 23 = .ok (.iinc 2 1, 3) := by decide +kernel
theorem dX9_isNumber_26 : decode cX9_isNumber 26 = .ok (.goto (-21), 3) := by decide +kernel
theorem dX9_isNumber_29 : decode cX9_isNumber 29 = .ok (.iload_n 2, 1) := by decide +kernel
theorem dX9_isNumber_30 : decode cX9_isNumber 30 = .ok (.aload_n 0, 1) := by decide +kernel
theorem dX9_isNumber_31 : decode cX9_isNumber 31 = .ok (.getfield 99, 3) := by decide +kernel
theorem dX9_isNumber_34 : decode cX9_isNumber 34 = .ok (.if_icmp .eq 8, 3) := by decide +kernel
theorem dX9_isNumber_37 : decode cX9_isNumber 37 = .ok (.iload_n 2, 1) := by decide +kernel
theorem dX9_isNumber_38 : decode cX9_isNumber 38 = .ok (.iload_n 1, 1) := by decide +kernel
theorem dX9_isNumber_39 : decode cX9_isNumber 39 = .ok (.if_icmp .ne 17, 3) := by decide +kernel
theorem dX9_isNumber_42 : decode cX9_isNumber 42 = .ok (.iload_n 2, 1) := by decide +kernel
theorem dX9_isNumber_43 : decode cX9_isNumber 43 = .ok (.aload_n 0, 1) := by decide +kernel
theorem dX9_isNumber_44 : decode cX9_isNumber 44 = .ok (.getfield 99, 3) := by decide +kernel
theorem dX9_isNumber_47 : decode cX9_isNumber 47 = .ok (.if_icmp .le 7, 3) := by decide +kernel
theorem dX9_isNumber_50 : decode cX9_isNumber 50 = .ok (.iconst 1, 1) := by decide +kernel
theorem dX9_isNumber_51 : decode cX9_isNumber 51 = .ok (.goto 4, 3) := by decide +kernel
theorem dX9_isNumber_54 : decode cX9_isNumber 54 = .ok (.iconst 0, 1) := by decide +kernel
theorem dX9_isNumber_55 : decode cX9_isNumber 55 = .ok (.ireturn, 1) := by decide +kernel
theorem dX9_isNumber_56 : decode cX9_isNumber 56 = .ok (.aload_n 0, 1) := by decide +kernel
theorem dX9_isNumber_57 : decode cX9_isNumber 57 = .ok (.getfield 7, 3) := by decide +kernel
theorem dX9_isNumber_60 : decode cX9_isNumber 60 = .ok (.iload_n 2, 1) := by decide +kernel
theorem dX9_isNumber_61 : decode cX9_isNumber 61 = .ok (.baload, 1) := by decide +kernel
theorem dX9_isNumber_62 : decode cX9_isNumber 62 = .ok (.bipush 46, 2) := by decide +kernel
theorem dX9_isNumber_64 : decode cX9_isNumber 64 = .ok (.if_icmp .eq 5, 3) := by decide +kernel
theorem dX9_isNumber_67 : decode cX9_isNumber 67 = .ok (.iconst 0, 1) := by decide +kernel
theorem dX9_isNumber_68 : decode cX9_isNumber 68 = .ok (.ireturn, 1) := by decide +kernel
theorem dX9_isNumber_69 : decode cX9_isNumber 69 = .ok (.iload_n 2, 1) := by decide +kernel
theorem dX9_isNumber_70 : decode cX9_isNumber 70 = .ok (.iconst 1, 1) := by decide +kernel
theorem dX9_isNumber_71 : decode cX9_isNumber 71 = .ok (.iadd, 1) := by decide +kernel
theorem dX9_isNumber_72 : decode cX9_isNumber 72 = .ok (.istore_n 3, 1) := by decide +kernel
theorem dX9_isNumber_73 : decode cX9_isNumber 73 = .ok (.aload_n 0, 1) := by decide +kernel
theorem dX9_isNumber_74 : decode cX9_isNumber 74 = .ok (.iload_n 3, 1) := by decide +kernel
theorem dX9_isNumber_75 : decode cX9_isNumber 75 = .ok (.invokevirtual 139, 3) := by decide +kernel
theorem dX9_isNumber_78 : decode cX9_isNumber 78 = .ok (.ifCond .eq 16, 3) := by decide +kernel
theorem dX9_isNumber_81 : decode cX9_isNumber 81 = .ok (.iload_n 3, 1) := by decide +kernel
theorem dX9_isNumber_82 : decode cX9_isNumber 82 = .ok (.iload_n 2, 1) := by decide +kernel
theorem dX9_isNumber_83 : decode cX9_isNumber 83 = .ok (.iconst 5, 1) := by decide +kernel
theorem dX9_isNumber_84 : decode cX9_isNumber 84 = .ok (.iadd, 1) := by decide +kernel
theorem dX9_isNumber_85 : decode cX9_isNumber 85 = .ok (.if_icmp .ge 9, 3) := by decide +kernel
theorem dX9_isNumber_88 : decode cX9_isNumber 88 = .ok (.iinc 3 1, 3) := by decide +kernel
theorem dX9_isNumber_91 : decode cX9_isNumber 91 = .ok (.goto (-18), 3) := by decide +kernel
theorem dX9_isNumber_94 : decode cX9_isNumber 94 = .ok (.iload_n 3, 1) := by decide +kernel
theorem dX9_isNumber_95 : decode cX9_isNumber 95 = .ok (.iload_n 2, 1) := by decide +kernel
theorem dX9_isNumber_96 : decode cX9_isNumber 96 = .ok (.iconst 1, 1) := by decide +kernel
theorem dX9_isNumber_97 : decode cX9_isNumber 97 = .ok (.iadd, 1) := by decide +kernel
theorem dX9_isNumber_98 : decode cX9_isNumber 98 = .ok (.if_icmp .le 12, 3) := by decide +kernel
theorem dX9_isNumber_101 : decode cX9_isNumber 101 = .ok (.iload_n 3, 1) := by decide +kernel
theorem dX9_isNumber_102 : decode cX9_isNumber 102 = .ok (.iload_n 1, 1) := by decide +kernel
theorem dX9_isNumber_103 : decode cX9_isNumber 103 = .ok (.if_icmp .ne 7, 3) := by decide +kernel
theorem dX9_isNumber_106 : decode cX9_isNumber 106 = .ok (.iconst 1, 1) := by decide +kernel
theorem dX9_isNumber_107 : decode cX9_isNumber 107 = .ok (.goto 4, 3) := by decide +kernel
theorem dX9_isNumber_110 : decode cX9_isNumber 110 = .ok (.iconst 0, 1) := by decide +kernel
theorem dX9_isNumber_111 : decode cX9_isNumber 111 = .ok (.ireturn, 1) := by decide +kernel
theorem dX9_nameOf_0 : decode cX9_nameOf 0 = .ok (.iload_n 1, 1) := by decide +kernel
theorem dX9_nameOf_1 : decode cX9_nameOf 1 = .ok (.tableswitch 64 9 15 #[43, 46, 49, 52, 55, 58, 61], 43) := by decide +kernel
theorem dX9_nameOf_44 : decode cX9_nameOf 44 = .ok (.ldc 152, 2) := by decide +kernel
theorem dX9_nameOf_46 : decode cX9_nameOf 46 = .ok (.areturn, 1) := by decide +kernel
theorem dX9_nameOf_47 : decode cX9_nameOf 47 = .ok (.ldc 154, 2) := by decide +kernel
theorem dX9_nameOf_49 : decode cX9_nameOf 49 = .ok (.areturn, 1) := by decide +kernel
theorem dX9_nameOf_50 : decode cX9_nameOf 50 = .ok (.ldc 156, 2) := by decide +kernel
theorem dX9_nameOf_52 : decode cX9_nameOf 52 = .ok (.areturn, 1) := by decide +kernel
theorem dX9_nameOf_53 : decode cX9_nameOf 53 = .ok (.ldc 158, 2) := by decide +kernel
theorem dX9_nameOf_55 : decode cX9_nameOf 55 = .ok (.areturn, 1) := by decide +kernel
theorem dX9_nameOf_56 : decode cX9_nameOf 56 = .ok (.ldc 160, 2) := by decide +kernel
theorem dX9_nameOf_58 : decode cX9_nameOf 58 = .ok (.areturn, 1) := by decide +kernel
theorem dX9_nameOf_59 : decode cX9_nameOf 59 = .ok (.ldc 162, 2) := by decide +kernel
theorem dX9_nameOf_61 : decode cX9_nameOf 61 = .ok (.areturn, 1) := by decide +kernel
theorem dX9_nameOf_62 : decode cX9_nameOf 62 = .ok (.ldc 164, 2) := by decide +kernel
theorem dX9_nameOf_64 : decode cX9_nameOf 64 = .ok (.areturn, 1) := by decide +kernel
theorem dX9_nameOf_65 : decode cX9_nameOf 65 = .ok (.ldc 166, 2) := by decide +kernel
theorem dX9_nameOf_67 : decode cX9_nameOf 67 = .ok (.areturn, 1) := by decide +kernel
theorem dX9_need_0 : decode cX9_need 0 = .ok (.aload_n 0, 1) := by decide +kernel
theorem dX9_need_1 : decode cX9_need 1 = .ok (.invokevirtual 109, 3) := by decide +kernel
theorem dX9_need_4 : decode cX9_need 4 = .ok (.ifCond .eq 4, 3) := by decide +kernel
theorem dX9_need_7 : decode cX9_need 7 = .ok (.return_, 1) := by decide +kernel
theorem dX9_need_8 : decode cX9_need 8 = .ok (.aload_n 0, 1) := by decide +kernel
theorem dX9_need_9 : decode cX9_need 9 = .ok (.invokevirtual 123, 3) := by decide +kernel
theorem dX9_need_12 : decode cX9_need 12 = .ok (.iload_n 1, 1) := by decide +kernel
theorem dX9_need_13 : decode cX9_need 13 = .ok (.if_icmp .eq 14, 3) := by decide +kernel
theorem dX9_need_16 : decode cX9_need 16 = .ok (.aload_n 0, 1) := by decide +kernel
theorem dX9_need_17 : decode cX9_need 17 = .ok (.iconst 1, 1) := by decide +kernel
theorem dX9_need_18 : decode cX9_need 18 = .ok (.aload_n 0, 1) := by decide +kernel
theorem dX9_need_19 : decode cX9_need 19 = .ok (.getfield 99, 3) := by decide +kernel
theorem dX9_need_22 : decode cX9_need 22 = .ok (.invokevirtual 105, 3) := by decide +kernel
theorem dX9_need_25 : decode cX9_need 25 = .ok (.pop, 1) := by decide +kernel
theorem dX9_need_26 : decode cX9_need 26 = .ok (.return_, 1) := by decide +kernel
theorem dX9_need_27 : decode cX9_need 27 = .ok (.iload_n 1, 1) := by decide +kernel
theorem dX9_need_28 : decode cX9_need 28 = .ok (.bipush 40, 2) := by decide +kernel
theorem dX9_need_30 : decode cX9_need 30 = .ok (.if_icmp .ne 8, 3) := by decide +kernel
theorem dX9_need_33 : decode cX9_need 33 = .ok (.aload_n 0, 1) := by decide +kernel
theorem dX9_need_34 : decode cX9_need 34 = .ok (.invokevirtual 168, 3) := by decide +kernel
theorem dX9_need_37 : decode cX9_need 37 = .ok (.return_, 1) := by decide +kernel
theorem dX9_need_38 : decode cX9_need 38 = .ok (.aload_n 0, 1) := by decide +kernel
theorem dX9_need_39 : decode cX9_need 39 = .ok (.dup, 1) := by decide +kernel
theorem dX9_need_40 : decode cX9_need 40 = .ok (.getfield 99, 3) := by decide +kernel
theorem dX9_need_43 : decode cX9_need 43 = .ok (.iconst 1, 1) := by decide +kernel
theorem dX9_need_44 : decode cX9_need 44 = .ok (.iadd, 1) := by decide +kernel
theorem dX9_need_45 : decode cX9_need 45 = .ok (.putfield 99, 3) := by decide +kernel
theorem dX9_need_48 : decode cX9_need 48 = .ok (.return_, 1) := by decide +kernel
theorem dX9_opens_0 : decode cX9_opens 0 = .ok (.aload_n 0, 1) := by decide +kernel
theorem dX9_opens_1 : decode cX9_opens 1 = .ok (.getfield 171, 3) := by decide +kernel
theorem dX9_opens_4 : decode cX9_opens 4 = .ok (.bipush 12, 2) := by decide +kernel
theorem dX9_opens_6 : decode cX9_opens 6 = .ok (.if_icmp .lt 14, 3) := by decide +kernel
theorem dX9_opens_9 : decode cX9_opens 9 = .ok (.aload_n 0, 1) := by decide +kernel
theorem dX9_opens_10 : decode cX9_opens 10 = .ok (.iconst 3, 1) := by decide +kernel
theorem dX9_opens_11 : decode cX9_opens 11 = .ok (.aload_n 0, 1) := by decide +kernel
theorem dX9_opens_12 : decode cX9_opens 12 = .ok (.getfield 99, 3) := by decide +kernel
theorem dX9_opens_15 : decode cX9_opens 15 = .ok (.invokevirtual 105, 3) := by decide +kernel
theorem dX9_opens_18 : decode cX9_opens 18 = .ok (.pop, 1) := by decide +kernel
theorem dX9_opens_19 : decode cX9_opens 19 = .ok (.return_, 1) := by decide +kernel
theorem dX9_opens_20 : decode cX9_opens 20 = .ok (.aload_n 0, 1) := by decide +kernel
theorem dX9_opens_21 : decode cX9_opens 21 = .ok (.dup, 1) := by decide +kernel
theorem dX9_opens_22 : decode cX9_opens 22 = .ok (.getfield 171, 3) := by decide +kernel
theorem dX9_opens_25 : decode cX9_opens 25 = .ok (.iconst 1, 1) := by decide +kernel
theorem dX9_opens_26 : decode cX9_opens 26 = .ok (.iadd, 1) := by decide +kernel
theorem dX9_opens_27 : decode cX9_opens 27 = .ok (.putfield 171, 3) := by decide +kernel
theorem dX9_opens_30 : decode cX9_opens 30 = .ok (.aload_n 0, 1) := by decide +kernel
theorem dX9_opens_31 : decode cX9_opens 31 = .ok (.dup, 1) := by decide +kernel
theorem dX9_opens_32 : decode cX9_opens 32 = .ok (.getfield 99, 3) := by decide +kernel
theorem dX9_opens_35 : decode cX9_opens 35 = .ok (.iconst 1, 1) := by decide +kernel
theorem dX9_opens_36 : decode cX9_opens 36 = .ok (.iadd, 1) := by decide +kernel
theorem dX9_opens_37 : decode cX9_opens 37 = .ok (.putfield 99, 3) := by decide +kernel
theorem dX9_opens_40 : decode cX9_opens 40 = .ok (.return_, 1) := by decide +kernel
theorem dX9_part_0 : decode cX9_part 0 = .ok (.aload_n 0, 1) := by decide +kernel
theorem dX9_part_1 : decode cX9_part 1 = .ok (.invokevirtual 123, 3) := by decide +kernel
theorem dX9_part_4 : decode cX9_part 4 = .ok (.istore_n 1, 1) := by decide +kernel
theorem dX9_part_5 : decode cX9_part 5 = .ok (.aload_n 0, 1) := by decide +kernel
theorem dX9_part_6 : decode cX9_part 6 = .ok (.invokevirtual 174, 3) := by decide +kernel
theorem dX9_part_9 : decode cX9_part 9 = .ok (.istore_n 2, 1) := by decide +kernel
theorem dX9_part_10 : decode cX9_part 10 = .ok (.aload_n 0, 1) := by decide +kernel
theorem dX9_part_11 : decode cX9_part 11 = .ok (.ldc 177, 2) := by decide +kernel
theorem dX9_part_13 : decode cX9_part 13 = .ok (.iload_n 2, 1) := by decide +kernel
theorem dX9_part_14 : decode cX9_part 14 = .ok (.invokevirtual 179, 3) := by decide +kernel
theorem dX9_part_17 : decode cX9_part 17 = .ok (.ifCond .eq 29, 3) := by decide +kernel
theorem dX9_part_20 : decode cX9_part 20 = .ok (.aload_n 0, 1) := by decide +kernel
theorem dX9_part_21 : decode cX9_part 21 = .ok (.aload_n 0, 1) := by decide +kernel
theorem dX9_part_22 : decode cX9_part 22 = .ok (.getfield 99, 3) := by decide +kernel
theorem dX9_part_25 : decode cX9_part 25 = .ok (.invokevirtual 126, 3) := by decide +kernel
theorem dX9_part_28 : decode cX9_part 28 = .ok (.aload_n 0, 1) := by decide +kernel
theorem dX9_part_29 : decode cX9_part 29 = .ok (.dup, 1) := by decide +kernel
theorem dX9_part_30 : decode cX9_part 30 = .ok (.getfield 99, 3) := by decide +kernel
theorem dX9_part_33 : decode cX9_part 33 = .ok (.iconst 1, 1) := by decide +kernel
theorem dX9_part_34 : decode cX9_part 34 = .ok (.iadd, 1) := by decide +kernel
theorem dX9_part_35 : decode cX9_part 35 = .ok (.putfield 99, 3) := by decide +kernel
theorem dX9_part_38 : decode cX9_part 38 = .ok (.aload_n 0, 1) := by decide +kernel
theorem dX9_part_39 : decode cX9_part 39 = .ok (.iconst 0, 1) := by decide +kernel
theorem dX9_part_40 : decode cX9_part 40 = .ok (.iconst 0, 1) := by decide +kernel
theorem dX9_part_41 : decode cX9_part 41 = .ok (.iconst 0, 1) := by decide +kernel
theorem dX9_part_42 : decode cX9_part 42 = .ok (.invokevirtual 129, 3) := by decide +kernel
theorem dX9_part_45 : decode cX9_part 45 = .ok (.ireturn, 1) := by decide +kernel
theorem dX9_part_46 : decode cX9_part 46 = .ok (.aload_n 0, 1) := by decide +kernel
theorem dX9_part_47 : decode cX9_part 47 = .ok (.iload_n 2, 1) := by decide +kernel
theorem dX9_part_48 : decode cX9_part 48 = .ok (.invokevirtual 183, 3) := by decide +kernel
theorem dX9_part_51 : decode cX9_part 51 = .ok (.ifCond .eq 27, 3) := by decide +kernel
theorem dX9_part_54 : decode cX9_part 54 = .ok (.aload_n 0, 1) := by decide +kernel
theorem dX9_part_55 : decode cX9_part 55 = .ok (.aload_n 0, 1) := by decide +kernel
theorem dX9_part_56 : decode cX9_part 56 = .ok (.getfield 99, 3) := by decide +kernel
theorem dX9_part_59 : decode cX9_part 59 = .ok (.invokevirtual 126, 3) := by decide +kernel
theorem dX9_part_62 : decode cX9_part 62 = .ok (.aload_n 0, 1) := by decide +kernel
theorem dX9_part_63 : decode cX9_part 63 = .ok (.invokevirtual 109, 3) := by decide +kernel
theorem dX9_part_66 : decode cX9_part 66 = .ok (.ifCond .eq 7, 3) := by decide +kernel
theorem dX9_part_69 : decode cX9_part 69 = .ok (.iconst 0, 1) := by decide +kernel
theorem dX9_part_70 : decode cX9_part 70 = .ok (.goto 7, 3) := by decide +kernel
theorem dX9_part_73 : decode cX9_part 73 = .ok (.aload_n 0, 1) := by decide +kernel
theorem dX9_part_74 : decode cX9_part 74 = .ok (.invokevirtual 186, 3) := by decide +kernel
theorem dX9_part_77 : decode cX9_part 77 = .ok (.ireturn, 1) := by decide +kernel
theorem dX9_part_78 : decode cX9_part 78 = .ok (.iload_n 1, 1) := by decide +kernel
theorem dX9_part_79 : decode cX9_part 79 = .ok (.bipush 40, 2) := by decide +kernel
theorem dX9_part_81 : decode cX9_part 81 = .ok (.if_icmp .ne 41, 3) := by decide +kernel
theorem dX9_part_84 : decode cX9_part 84 = .ok (.aload_n 0, 1) := by decide +kernel
theorem dX9_part_85 : decode cX9_part 85 = .ok (.invokevirtual 168, 3) := by decide +kernel
theorem dX9_part_88 : decode cX9_part 88 = .ok (.aload_n 0, 1) := by decide +kernel
theorem dX9_part_89 : decode cX9_part 89 = .ok (.invokevirtual 109, 3) := by decide +kernel
theorem dX9_part_92 : decode cX9_part 92 = .ok (.ifCond .eq 7, 3) := by decide +kernel
theorem dX9_part_95 : decode cX9_part 95 = .ok (.iconst 0, 1) := by decide +kernel
theorem dX9_part_96 : decode cX9_part 96 = .ok (.goto 7, 3) := by decide +kernel
theorem dX9_part_99 : decode cX9_part 99 = .ok (.aload_n 0, 1) := by decide +kernel
theorem dX9_part_100 : decode cX9_part 100 = .ok (.invokevirtual 189, 3) := by decide +kernel
theorem dX9_part_103 : decode cX9_part 103 = .ok (.istore_n 3, 1) := by decide +kernel
theorem dX9_part_104 : decode cX9_part 104 = .ok (.aload_n 0, 1) := by decide +kernel
theorem dX9_part_105 : decode cX9_part 105 = .ok (.bipush 41, 2) := by decide +kernel
theorem dX9_part_107 : decode cX9_part 107 = .ok (.invokevirtual 192, 3) := by decide +kernel
theorem dX9_part_110 : decode cX9_part 110 = .ok (.aload_n 0, 1) := by decide +kernel
theorem dX9_part_111 : decode cX9_part 111 = .ok (.dup, 1) := by decide +kernel
theorem dX9_part_112 : decode cX9_part 112 = .ok (.getfield 171, 3) := by decide +kernel
theorem dX9_part_115 : decode cX9_part 115 = .ok (.iconst 1, 1) := by decide +kernel
theorem dX9_part_116 : decode cX9_part 116 = .ok (.isub, 1) := by decide +kernel
theorem dX9_part_117 : decode cX9_part 117 = .ok (.putfield 171, 3) := by decide +kernel
theorem dX9_part_120 : decode cX9_part 120 = .ok (.iload_n 3, 1) := by decide +kernel
theorem dX9_part_121 : decode cX9_part 121 = .ok (.ireturn, 1) := by decide +kernel
theorem dX9_part_122 : decode cX9_part 122 = .ok (.bipush 9, 2) := by decide +kernel
theorem dX9_part_124 : decode cX9_part 124 = .ok (.istore_n 3, 1) := by decide +kernel
theorem dX9_part_125 : decode cX9_part 125 = .ok (.iload_n 3, 1) := by decide +kernel
theorem dX9_part_126 : decode cX9_part 126 = .ok (.bipush 16, 2) := by decide +kernel
theorem dX9_part_128 : decode cX9_part 128 = .ok (.if_icmp .gt 28, 3) := by decide +kernel
theorem dX9_part_131 : decode cX9_part 131 = .ok (.aload_n 0, 1) := by decide +kernel
theorem dX9_part_132 : decode cX9_part 132 = .ok (.aload_n 0, 1) := by decide +kernel
theorem dX9_part_133 : decode cX9_part 133 = .ok (.iload_n 3, 1) := by decide +kernel
theorem dX9_part_134 : decode cX9_part 134 = .ok (.invokevirtual 195, 3) := by decide +kernel
theorem dX9_part_137 : decode cX9_part 137 = .ok (.iload_n 2, 1) := by decide +kernel
theorem dX9_part_138 : decode cX9_part 138 = .ok (.invokevirtual 179, 3) := by decide +kernel
theorem dX9_part_141 : decode cX9_part 141 = .ok (.ifCond .eq 9, 3) := by decide +kernel
theorem dX9_part_144 : decode cX9_part 144 = .ok (.aload_n 0, 1) := by decide +kernel
theorem dX9_part_145 : decode cX9_part 145 = .ok (.iload_n 3, 1) := by decide +kernel
theorem dX9_part_146 : decode cX9_part 146 = .ok (.invokevirtual 199, 3) := by decide +kernel
theorem dX9_part_149 : decode cX9_part 149 = .ok (.ireturn, 1) := by decide +kernel
theorem dX9_part_150 : decode cX9_part 150 = .ok (.iinc 3 1, 3) := by decide +kernel
theorem dX9_part_153 : decode cX9_part 153 = .ok (.goto (-28), 3) := by decide +kernel
theorem dX9_part_156 : decode cX9_part 156 = .ok (.iload_n 1, 1) := by decide +kernel
theorem dX9_part_157 : decode cX9_part 157 = .ok (.bipush 99, 2) := by decide +kernel
theorem dX9_part_159 : decode cX9_part 159 = .ok (.if_icmp .ne 108, 3) := by decide +kernel
theorem dX9_part_162 : decode cX9_part 162 = .ok (.iload_n 2, 1) := by decide +kernel
theorem dX9_part_163 : decode cX9_part 163 = .ok (.aload_n 0, 1) := by decide +kernel
theorem dX9_part_164 : decode cX9_part 164 = .ok (.getfield 99, 3) := by decide +kernel
theorem dX9_part_167 : decode cX9_part 167 = .ok (.iconst 2, 1) := by decide +kernel
theorem dX9_part_168 : decode cX9_part 168 = .ok (.iadd, 1) := by decide +kernel
theorem dX9_part_169 : decode cX9_part 169 = .ok (.if_icmp .ne 98, 3) := by decide +kernel
theorem dX9_part_172 : decode cX9_part 172 = .ok (.aload_n 0, 1) := by decide +kernel
theorem dX9_part_173 : decode cX9_part 173 = .ok (.aload_n 0, 1) := by decide +kernel
theorem dX9_part_174 : decode cX9_part 174 = .ok (.getfield 99, 3) := by decide +kernel
theorem dX9_part_177 : decode cX9_part 177 = .ok (.iconst 1, 1) := by decide +kernel
theorem dX9_part_178 : decode cX9_part 178 = .ok (.iadd, 1) := by decide +kernel
theorem dX9_part_179 : decode cX9_part 179 = .ok (.invokevirtual 139, 3) := by decide +kernel
theorem dX9_part_182 : decode cX9_part 182 = .ok (.ifCond .eq 85, 3) := by decide +kernel
theorem dX9_part_185 : decode cX9_part 185 = .ok (.aload_n 0, 1) := by decide +kernel
theorem dX9_part_186 : decode cX9_part 186 = .ok (.getfield 7, 3) := by decide +kernel
theorem dX9_part_189 : decode cX9_part 189 = .ok (.aload_n 0, 1) := by decide +kernel
theorem dX9_part_190 : decode cX9_part 190 = .ok (.getfield 99, 3) := by decide +kernel
theorem dX9_part_193 : decode cX9_part 193 = .ok (.iconst 1, 1) := by decide +kernel
theorem dX9_part_194 : decode cX9_part 194 = .ok (.iadd, 1) := by decide +kernel
theorem dX9_part_195 : decode cX9_part 195 = .ok (.baload, 1) := by decide +kernel
theorem dX9_part_196 : decode cX9_part 196 = .ok (.bipush 56, 2) := by decide +kernel
theorem dX9_part_198 : decode cX9_part 198 = .ok (.if_icmp .ge 69, 3) := by decide +kernel
theorem dX9_part_201 : decode cX9_part 201 = .ok (.aload_n 0, 1) := by decide +kernel
theorem dX9_part_202 : decode cX9_part 202 = .ok (.aload_n 0, 1) := by decide +kernel
theorem dX9_part_203 : decode cX9_part 203 = .ok (.getfield 99, 3) := by decide +kernel
theorem dX9_part_206 : decode cX9_part 206 = .ok (.invokevirtual 126, 3) := by decide +kernel
theorem dX9_part_209 : decode cX9_part 209 = .ok (.aload_n 0, 1) := by decide +kernel
theorem dX9_part_210 : decode cX9_part 210 = .ok (.getfield 7, 3) := by decide +kernel
theorem dX9_part_213 : decode cX9_part 213 = .ok (.aload_n 0, 1) := by decide +kernel
theorem dX9_part_214 : decode cX9_part 214 = .ok (.getfield 99, 3) := by decide +kernel
theorem dX9_part_217 : decode cX9_part 217 = .ok (.iconst 1, 1) := by decide +kernel
theorem dX9_part_218 : decode cX9_part 218 = .ok (.iadd, 1) := by decide +kernel
theorem dX9_part_219 : decode cX9_part 219 = .ok (.baload, 1) := by decide +kernel
theorem dX9_part_220 : decode cX9_part 220 = .ok (.bipush 48, 2) := by decide +kernel
theorem dX9_part_222 : decode cX9_part 222 = .ok (.isub, 1) := by decide +kernel
theorem dX9_part_223 : decode cX9_part 223 = .ok (.istore_n 3, 1) := by decide +kernel
theorem dX9_part_224 : decode cX9_part 224 = .ok (.aload_n 0, 1) := by decide +kernel
theorem dX9_part_225 : decode cX9_part 225 = .ok (.invokevirtual 109, 3) := by decide +kernel
theorem dX9_part_228 : decode cX9_part 228 = .ok (.ifCond .ne 21, 3) := by decide +kernel
theorem dX9_part_231 : decode cX9_part 231 = .ok (.iload_n 3, 1) := by decide +kernel
theorem dX9_part_232 : decode cX9_part 232 = .ok (.aload_n 0, 1) := by decide +kernel
theorem dX9_part_233 : decode cX9_part 233 = .ok (.getfield 113, 3) := by decide +kernel
theorem dX9_part_236 : decode cX9_part 236 = .ok (.if_icmp .lt 13, 3) := by decide +kernel
theorem dX9_part_239 : decode cX9_part 239 = .ok (.aload_n 0, 1) := by decide +kernel
theorem dX9_part_240 : decode cX9_part 240 = .ok (.iconst 2, 1) := by decide +kernel
theorem dX9_part_241 : decode cX9_part 241 = .ok (.aload_n 0, 1) := by decide +kernel
theorem dX9_part_242 : decode cX9_part 242 = .ok (.getfield 99, 3) := by decide +kernel
theorem dX9_part_245 : decode cX9_part 245 = .ok (.invokevirtual 105, 3) := by decide +kernel
theorem dX9_part_248 : decode cX9_part 248 = .ok (.pop, 1) := by decide +kernel
theorem dX9_part_249 : decode cX9_part 249 = .ok (.aload_n 0, 1) := by decide +kernel
theorem dX9_part_250 : decode cX9_part 250 = .ok (.dup, 1) := by decide +kernel
theorem dX9_part_251 : decode cX9_part 251 = .ok (.getfield 99, 3) := by decide +kernel
theorem dX9_part_254 : decode cX9_part 254 = .ok (.iconst 2, 1) := by decide +kernel
theorem dX9_part_255 : decode cX9_part 255 = .ok (.iadd, 1) := by decide +kernel
theorem dX9_part_256 : decode cX9_part 256 = .ok (.putfield 99, 3) := by decide +kernel
theorem dX9_part_259 : decode cX9_part 259 = .ok (.aload_n 0, 1) := by decide +kernel
theorem dX9_part_260 : decode cX9_part 260 = .ok (.iconst 2, 1) := by decide +kernel
theorem dX9_part_261 : decode cX9_part 261 = .ok (.iload_n 3, 1) := by decide +kernel
theorem dX9_part_262 : decode cX9_part 262 = .ok (.iconst 0, 1) := by decide +kernel
theorem dX9_part_263 : decode cX9_part 263 = .ok (.invokevirtual 129, 3) := by decide +kernel
theorem dX9_part_266 : decode cX9_part 266 = .ok (.ireturn, 1) := by decide +kernel
theorem dX9_part_267 : decode cX9_part 267 = .ok (.aload_n 0, 1) := by decide +kernel
theorem dX9_part_268 : decode cX9_part 268 = .ok (.iconst 1, 1) := by decide +kernel
theorem dX9_part_269 : decode cX9_part 269 = .ok (.aload_n 0, 1) := by decide +kernel
theorem dX9_part_270 : decode cX9_part 270 = .ok (.getfield 99, 3) := by decide +kernel
theorem dX9_part_273 : decode cX9_part 273 = .ok (.invokevirtual 105, 3) := by decide +kernel
theorem dX9_part_276 : decode cX9_part 276 = .ok (.ireturn, 1) := by decide +kernel
theorem dX9_named_0 : decode cX9_named 0 = .ok (.aload_n 0, 1) := by decide +kernel
theorem dX9_named_1 : decode cX9_named 1 = .ok (.aload_n 0, 1) := by decide +kernel
theorem dX9_named_2 : decode cX9_named 2 = .ok (.getfield 99, 3) := by decide +kernel
theorem dX9_named_5 : decode cX9_named 5 = .ok (.invokevirtual 126, 3) := by decide +kernel
theorem dX9_named_8 : decode cX9_named 8 = .ok (.aload_n 0, 1) := by decide +kernel
theorem dX9_named_9 : decode cX9_named 9 = .ok (.invokevirtual 109, 3) := by decide +kernel
theorem dX9_named_12 : decode cX9_named 12 = .ok (.ifCond .eq 5, 3) := by decide +kernel
theorem dX9_named_15 : decode cX9_named 15 = .ok (.iconst 0, 1) := by decide +kernel
theorem dX9_named_16 : decode cX9_named 16 = .ok (.ireturn, 1) := by decide +kernel
theorem dX9_named_17 : decode cX9_named 17 = .ok (.aload_n 0, 1) := by decide +kernel
theorem dX9_named_18 : decode cX9_named 18 = .ok (.dup, 1) := by decide +kernel
theorem dX9_named_19 : decode cX9_named 19 = .ok (.getfield 99, 3) := by decide +kernel
theorem dX9_named_22 : decode cX9_named 22 = .ok (.aload_n 0, 1) := by decide +kernel
theorem dX9_named_23 : decode cX9_named 23 = .ok (.iload_n 1, 1) := by decide +kernel
theorem dX9_named_24 : decode cX9_named 24 = .ok (.invokevirtual 195, 3) := by decide +kernel
theorem dX9_named_27 : decode cX9_named 27 = .ok (.invokevirtual 143, 3) := by decide +kernel
theorem dX9_named_30 : decode cX9_named 30 = .ok (.iadd, 1) := by decide +kernel
theorem dX9_named_31 : decode cX9_named 31 = .ok (.putfield 99, 3) := by decide +kernel
theorem dX9_named_34 : decode cX9_named 34 = .ok (.aload_n 0, 1) := by decide +kernel
theorem dX9_named_35 : decode cX9_named 35 = .ok (.bipush 40, 2) := by decide +kernel
theorem dX9_named_37 : decode cX9_named 37 = .ok (.invokevirtual 192, 3) := by decide +kernel
theorem dX9_named_40 : decode cX9_named 40 = .ok (.aload_n 0, 1) := by decide +kernel
theorem dX9_named_41 : decode cX9_named 41 = .ok (.invokevirtual 109, 3) := by decide +kernel
theorem dX9_named_44 : decode cX9_named 44 = .ok (.ifCond .eq 7, 3) := by decide +kernel
theorem dX9_named_47 : decode cX9_named 47 = .ok (.iconst 0, 1) := by decide +kernel
theorem dX9_named_48 : decode cX9_named 48 = .ok (.goto 7, 3) := by decide +kernel
theorem dX9_named_51 : decode cX9_named 51 = .ok (.aload_n 0, 1) := by decide +kernel
theorem dX9_named_52 : decode cX9_named 52 = .ok (.invokevirtual 189, 3) := by decide +kernel
theorem dX9_named_55 : decode cX9_named 55 = .ok (.istore_n 2, 1) := by decide +kernel
theorem dX9_named_56 : decode cX9_named 56 = .ok (.iconst 0, 1) := by decide +kernel
theorem dX9_named_57 : decode cX9_named 57 = .ok (.istore_n 3, 1) := by decide +kernel
theorem dX9_named_58 : decode cX9_named 58 = .ok (.iload_n 1, 1) := by decide +kernel
theorem dX9_named_59 : decode cX9_named 59 = .ok (.bipush 15, 2) := by decide +kernel
theorem dX9_named_61 : decode cX9_named 61 = .ok (.if_icmp .lt 25, 3) := by decide +kernel
theorem dX9_named_64 : decode cX9_named 64 = .ok (.aload_n 0, 1) := by decide +kernel
theorem dX9_named_65 : decode cX9_named 65 = .ok (.bipush 44, 2) := by decide +kernel
theorem dX9_named_67 : decode cX9_named 67 = .ok (.invokevirtual 192, 3) := by decide +kernel
theorem dX9_named_70 : decode cX9_named 70 = .ok (.aload_n 0, 1) := by decide +kernel
theorem dX9_named_71 : decode cX9_named 71 = .ok (.invokevirtual 109, 3) := by decide +kernel
theorem dX9_named_74 : decode cX9_named 74 = .ok (.ifCond .eq 7, 3) := by decide +kernel
theorem dX9_named_77 : decode cX9_named 77 = .ok (.iconst 0, 1) := by decide +kernel
theorem dX9_named_78 : decode cX9_named 78 = .ok (.goto 7, 3) := by decide +kernel
theorem dX9_named_81 : decode cX9_named 81 = .ok (.aload_n 0, 1) := by decide +kernel
theorem dX9_named_82 : decode cX9_named 82 = .ok (.invokevirtual 189, 3) := by decide +kernel
theorem dX9_named_85 : decode cX9_named 85 = .ok (.istore_n 3, 1) := by decide +kernel
theorem dX9_named_86 : decode cX9_named 86 = .ok (.aload_n 0, 1) := by decide +kernel
theorem dX9_named_87 : decode cX9_named 87 = .ok (.bipush 41, 2) := by decide +kernel
theorem dX9_named_89 : decode cX9_named 89 = .ok (.invokevirtual 192, 3) := by decide +kernel
theorem dX9_named_92 : decode cX9_named 92 = .ok (.aload_n 0, 1) := by decide +kernel
theorem dX9_named_93 : decode cX9_named 93 = .ok (.dup, 1) := by decide +kernel
theorem dX9_named_94 : decode cX9_named 94 = .ok (.getfield 171, 3) := by decide +kernel
theorem dX9_named_97 : decode cX9_named 97 = .ok (.iconst 1, 1) := by decide +kernel
theorem dX9_named_98 : decode cX9_named 98 = .ok (.isub, 1) := by decide +kernel
theorem dX9_named_99 : decode cX9_named 99 = .ok (.putfield 171, 3) := by decide +kernel
theorem dX9_named_102 : decode cX9_named 102 = .ok (.aload_n 0, 1) := by decide +kernel
theorem dX9_named_103 : decode cX9_named 103 = .ok (.iload_n 1, 1) := by decide +kernel
theorem dX9_named_104 : decode cX9_named 104 = .ok (.iload_n 2, 1) := by decide +kernel
theorem dX9_named_105 : decode cX9_named 105 = .ok (.iload_n 3, 1) := by decide +kernel
theorem dX9_named_106 : decode cX9_named 106 = .ok (.invokevirtual 129, 3) := by decide +kernel
theorem dX9_named_109 : decode cX9_named 109 = .ok (.ireturn, 1) := by decide +kernel
theorem dX9_number_0 : decode cX9_number 0 = .ok (.lconst 0, 1) := by decide +kernel
theorem dX9_number_1 : decode cX9_number 1 = .ok (.lstore_n 1, 1) := by decide +kernel
theorem dX9_number_2 : decode cX9_number 2 = .ok (.lconst 1, 1) := by decide +kernel
theorem dX9_number_3 : decode cX9_number 3 = .ok (.lstore_n 3, 1) := by decide +kernel
theorem dX9_number_4 : decode cX9_number 4 = .ok (.iconst 0, 1) := by decide +kernel
theorem dX9_number_5 : decode cX9_number 5 = .ok (.istore 5, 2) := by decide +kernel
theorem dX9_number_7 : decode cX9_number 7 = .ok (.iload 5, 2) := by decide +kernel
theorem dX9_number_9 : decode cX9_number 9 = .ok (.iconst 4, 1) := by decide +kernel
theorem dX9_number_10 : decode cX9_number 10 = .ok (.if_icmp .ge 51, 3) := by decide +kernel
theorem dX9_number_13 : decode cX9_number 13 = .ok (.aload_n 0, 1) := by decide +kernel
theorem dX9_number_14 : decode cX9_number 14 = .ok (.aload_n 0, 1) := by decide +kernel
theorem dX9_number_15 : decode cX9_number 15 = .ok (.getfield 99, 3) := by decide +kernel
theorem dX9_number_18 : decode cX9_number 18 = .ok (.invokevirtual 139, 3) := by decide +kernel
theorem dX9_number_21 : decode cX9_number 21 = .ok (.ifCond .eq 40, 3) := by decide +kernel
theorem dX9_number_24 : decode cX9_number 24 = .ok (.ldc2_w 203, 3) := by decide +kernel
theorem dX9_number_27 : decode cX9_number 27 = .ok (.lload_n 1, 1) := by decide +kernel
theorem dX9_number_28 : decode cX9_number 28 = .ok (.lmul, 1) := by decide +kernel
theorem dX9_number_29 : decode cX9_number 29 = .ok (.aload_n 0, 1) := by decide +kernel
theorem dX9_number_30 : decode cX9_number 30 = .ok (.getfield 7, 3) := by decide +kernel
theorem dX9_number_33 : decode cX9_number 33 = .ok (.aload_n 0, 1) := by decide +kernel
theorem dX9_number_34 : decode cX9_number 34 = .ok (.getfield 99, 3) := by decide +kernel
theorem dX9_number_37 : decode cX9_number 37 = .ok (.baload, 1) := by decide +kernel
theorem dX9_number_38 : decode cX9_number 38 = .ok (.i2l, 1) := by decide +kernel
theorem dX9_number_39 : decode cX9_number 39 = .ok (.ladd, 1) := by decide +kernel
theorem dX9_number_40 : decode cX9_number 40 = .ok (.ldc2_w 205, 3) := by decide +kernel
theorem dX9_number_43 : decode cX9_number 43 = .ok (.lsub, 1) := by decide +kernel
theorem dX9_number_44 : decode cX9_number 44 = .ok (.lstore_n 1, 1) := by decide +kernel
theorem dX9_number_45 : decode cX9_number 45 = .ok (.aload_n 0, 1) := by decide +kernel
theorem dX9_number_46 : decode cX9_number 46 = .ok (.dup, 1) := by decide +kernel
theorem dX9_number_47 : decode cX9_number 47 = .ok (.getfield 99, 3) := by decide +kernel
theorem dX9_number_50 : decode cX9_number 50 = .ok (.iconst 1, 1) := by decide +kernel
theorem dX9_number_51 : decode cX9_number 51 = .ok (.iadd, 1) := by decide +kernel
theorem dX9_number_52 : decode cX9_number 52 = .ok (.putfield 99, 3) := by decide +kernel
theorem dX9_number_55 : decode cX9_number 55 = .ok (.iinc 5 1, 3) := by decide +kernel
theorem dX9_number_58 : decode cX9_number 58 = .ok (.goto (-51), 3) := by decide +kernel
theorem dX9_number_61 : decode cX9_number 61 = .ok (.aload_n 0, 1) := by decide +kernel
theorem dX9_number_62 : decode cX9_number 62 = .ok (.getfield 99, 3) := by decide +kernel
theorem dX9_number_65 : decode cX9_number 65 = .ok (.aload_n 0, 1) := by decide +kernel
theorem dX9_number_66 : decode cX9_number 66 = .ok (.getfield 86, 3) := by decide +kernel
theorem dX9_number_69 : decode cX9_number 69 = .ok (.if_icmp .ge 103, 3) := by decide +kernel
theorem dX9_number_72 : decode cX9_number 72 = .ok (.aload_n 0, 1) := by decide +kernel
theorem dX9_number_73 : decode cX9_number 73 = .ok (.getfield 7, 3) := by decide +kernel
theorem dX9_number_76 : decode cX9_number 76 = .ok (.aload_n 0, 1) := by decide +kernel
theorem dX9_number_77 : decode cX9_number 77 = .ok (.getfield 99, 3) := by decide +kernel
theorem dX9_number_80 : decode cX9_number 80 = .ok (.baload, 1) := by decide +kernel
theorem dX9_number_81 : decode cX9_number 81 = .ok (.bipush 46, 2) := by decide +kernel
theorem dX9_number_83 : decode cX9_number 83 = .ok (.if_icmp .ne 89, 3) := by decide +kernel
theorem dX9_number_86 : decode cX9_number 86 = .ok (.aload_n 0, 1) := by decide +kernel
theorem dX9_number_87 : decode cX9_number 87 = .ok (.aload_n 0, 1) := by decide +kernel
theorem dX9_number_88 : decode cX9_number 88 = .ok (.getfield 99, 3) := by decide +kernel
theorem dX9_number_91 : decode cX9_number 91 = .ok (.iconst 1, 1) := by decide +kernel
theorem dX9_number_92 : decode cX9_number 92 = .ok (.iadd, 1) := by decide +kernel
theorem dX9_number_93 : decode cX9_number 93 = .ok (.invokevirtual 139, 3) := by decide +kernel
theorem dX9_number_96 : decode cX9_number 96 = .ok (.ifCond .eq 76, 3) := by decide +kernel
theorem dX9_number_99 : decode cX9_number 99 = .ok (.aload_n 0, 1) := by decide +kernel
theorem dX9_number_100 : decode cX9_number 100 = .ok (.dup, 1) := by decide +kernel
theorem dX9_number_101 : decode cX9_number 101 = .ok (.getfield 99, 3) := by decide +kernel
theorem dX9_number_104 : decode cX9_number 104 = .ok (.iconst 1, 1) := by decide +kernel
theorem dX9_number_105 : decode cX9_number 105 = .ok (.iadd, 1) := by decide +kernel
theorem dX9_number_106 : decode cX9_number 106 = .ok (.putfield 99, 3) := by decide +kernel
theorem dX9_number_109 : decode cX9_number 109 = .ok (.iconst 0, 1) := by decide +kernel
theorem dX9_number_110 : decode cX9_number 110 = .ok (.istore 5, 2) := by decide +kernel
theorem dX9_number_112 : decode cX9_number 112 = .ok (.iload 5, 2) := by decide +kernel
theorem dX9_number_114 : decode cX9_number 114 = .ok (.iconst 4, 1) := by decide +kernel
theorem dX9_number_115 : decode cX9_number 115 = .ok (.if_icmp .ge 57, 3) := by decide +kernel
theorem dX9_number_118 : decode cX9_number 118 = .ok (.aload_n 0, 1) := by decide +kernel
theorem dX9_number_119 : decode cX9_number 119 = .ok (.aload_n 0, 1) := by decide +kernel
theorem dX9_number_120 : decode cX9_number 120 = .ok (.getfield 99, 3) := by decide +kernel
theorem dX9_number_123 : decode cX9_number 123 = .ok (.invokevirtual 139, 3) := by decide +kernel
theorem dX9_number_126 : decode cX9_number 126 = .ok (.ifCond .eq 46, 3) := by decide +kernel
theorem dX9_number_129 : decode cX9_number 129 = .ok (.ldc2_w 203, 3) := by decide +kernel
theorem dX9_number_132 : decode cX9_number 132 = .ok (.lload_n 1, 1) := by decide +kernel
theorem dX9_number_133 : decode cX9_number 133 = .ok (.lmul, 1) := by decide +kernel
theorem dX9_number_134 : decode cX9_number 134 = .ok (.aload_n 0, 1) := by decide +kernel
theorem dX9_number_135 : decode cX9_number 135 = .ok (.getfield 7, 3) := by decide +kernel
theorem dX9_number_138 : decode cX9_number 138 = .ok (.aload_n 0, 1) := by decide +kernel
theorem dX9_number_139 : decode cX9_number 139 = .ok (.getfield 99, 3) := by decide +kernel
theorem dX9_number_142 : decode cX9_number 142 = .ok (.baload, 1) := by decide +kernel
theorem dX9_number_143 : decode cX9_number 143 = .ok (.i2l, 1) := by decide +kernel
theorem dX9_number_144 : decode cX9_number 144 = .ok (.ladd, 1) := by decide +kernel
theorem dX9_number_145 : decode cX9_number 145 = .ok (.ldc2_w 205, 3) := by decide +kernel
theorem dX9_number_148 : decode cX9_number 148 = .ok (.lsub, 1) := by decide +kernel
theorem dX9_number_149 : decode cX9_number 149 = .ok (.lstore_n 1, 1) := by decide +kernel
theorem dX9_number_150 : decode cX9_number 150 = .ok (.ldc2_w 203, 3) := by decide +kernel
theorem dX9_number_153 : decode cX9_number 153 = .ok (.lload_n 3, 1) := by decide +kernel
theorem dX9_number_154 : decode cX9_number 154 = .ok (.lmul, 1) := by decide +kernel
theorem dX9_number_155 : decode cX9_number 155 = .ok (.lstore_n 3, 1) := by decide +kernel
theorem dX9_number_156 : decode cX9_number 156 = .ok (.aload_n 0, 1) := by decide +kernel
theorem dX9_number_157 : decode cX9_number 157 = .ok (.dup, 1) := by decide +kernel
theorem dX9_number_158 : decode cX9_number 158 = .ok (.getfield 99, 3) := by decide +kernel
theorem dX9_number_161 : decode cX9_number 161 = .ok (.iconst 1, 1) := by decide +kernel
theorem dX9_number_162 : decode cX9_number 162 = .ok (.iadd, 1) := by decide +kernel
theorem dX9_number_163 : decode cX9_number 163 = .ok (.putfield 99, 3) := by decide +kernel
theorem dX9_number_166 : decode cX9_number 166 = .ok (.iinc 5 1, 3) := by decide +kernel
theorem dX9_number_169 : decode cX9_number 169 = .ok (.goto (-57), 3) := by decide +kernel
theorem dX9_number_172 : decode cX9_number 172 = .ok (.aload_n 0, 1) := by decide +kernel
theorem dX9_number_173 : decode cX9_number 173 = .ok (.iconst 1, 1) := by decide +kernel
theorem dX9_number_174 : decode cX9_number 174 = .ok (.iconst 0, 1) := by decide +kernel
theorem dX9_number_175 : decode cX9_number 175 = .ok (.iconst 0, 1) := by decide +kernel
theorem dX9_number_176 : decode cX9_number 176 = .ok (.invokevirtual 129, 3) := by decide +kernel
theorem dX9_number_179 : decode cX9_number 179 = .ok (.istore 5, 2) := by decide +kernel
theorem dX9_number_181 : decode cX9_number 181 = .ok (.aload_n 0, 1) := by decide +kernel
theorem dX9_number_182 : decode cX9_number 182 = .ok (.getfield 26, 3) := by decide +kernel
theorem dX9_number_185 : decode cX9_number 185 = .ok (.iload 5, 2) := by decide +kernel
theorem dX9_number_187 : decode cX9_number 187 = .ok (.lload_n 1, 1) := by decide +kernel
theorem dX9_number_188 : decode cX9_number 188 = .ok (.ldc2_w 207, 3) := by decide +kernel
theorem dX9_number_191 : decode cX9_number 191 = .ok (.lmul, 1) := by decide +kernel
theorem dX9_number_192 : decode cX9_number 192 = .ok (.lload_n 3, 1) := by decide +kernel
theorem dX9_number_193 : decode cX9_number 193 = .ok (.invokestatic 209, 3) := by decide +kernel
theorem dX9_number_196 : decode cX9_number 196 = .ok (.lastore, 1) := by decide +kernel
theorem dX9_number_197 : decode cX9_number 197 = .ok (.aload_n 0, 1) := by decide +kernel
theorem dX9_number_198 : decode cX9_number 198 = .ok (.getfield 30, 3) := by decide +kernel
theorem dX9_number_201 : decode cX9_number 201 = .ok (.iload 5, 2) := by decide +kernel
theorem dX9_number_203 : decode cX9_number 203 = .ok (.lload_n 1, 1) := by decide +kernel
theorem dX9_number_204 : decode cX9_number 204 = .ok (.ldc2_w 207, 3) := by decide +kernel
theorem dX9_number_207 : decode cX9_number 207 = .ok (.lmul, 1) := by decide +kernel
theorem dX9_number_208 : decode cX9_number 208 = .ok (.lload_n 3, 1) := by decide +kernel
theorem dX9_number_209 : decode cX9_number 209 = .ok (.invokestatic 213, 3) := by decide +kernel
theorem dX9_number_212 : decode cX9_number 212 = .ok (.lastore, 1) := by decide +kernel
theorem dX9_number_213 : decode cX9_number 213 = .ok (.iload 5, 2) := by decide +kernel
theorem dX9_number_215 : decode cX9_number 215 = .ok (.ireturn, 1) := by decide +kernel
theorem dX9_curve_0 : decode cX9_curve 0 = .ok (.aload_n 0, 1) := by decide +kernel
theorem dX9_curve_1 : decode cX9_curve 1 = .ok (.getfield 113, 3) := by decide +kernel
theorem dX9_curve_4 : decode cX9_curve 4 = .ok (.bipush 8, 2) := by decide +kernel
theorem dX9_curve_6 : decode cX9_curve 6 = .ok (.if_icmp .ne 10, 3) := by decide +kernel
theorem dX9_curve_9 : decode cX9_curve 9 = .ok (.aload_n 0, 1) := by decide +kernel
theorem dX9_curve_10 : decode cX9_curve 10 = .ok (.iconst 0, 1) := by decide +kernel
theorem dX9_curve_11 : decode cX9_curve 11 = .ok (.putfield 86, 3) := by decide +kernel
theorem dX9_curve_14 : decode cX9_curve 14 = .ok (.iconst (-1), 1) := by decide +kernel
theorem dX9_curve_15 : decode cX9_curve 15 = .ok (.ireturn, 1) := by decide +kernel
theorem dX9_curve_16 : decode cX9_curve 16 = .ok (.aload_n 0, 1) := by decide +kernel
theorem dX9_curve_17 : decode cX9_curve 17 = .ok (.iconst 0, 1) := by decide +kernel
theorem dX9_curve_18 : decode cX9_curve 18 = .ok (.putfield 99, 3) := by decide +kernel
theorem dX9_curve_21 : decode cX9_curve 21 = .ok (.aload_n 0, 1) := by decide +kernel
theorem dX9_curve_22 : decode cX9_curve 22 = .ok (.iconst 0, 1) := by decide +kernel
theorem dX9_curve_23 : decode cX9_curve 23 = .ok (.putfield 93, 3) := by decide +kernel
theorem dX9_curve_26 : decode cX9_curve 26 = .ok (.aload_n 0, 1) := by decide +kernel
theorem dX9_curve_27 : decode cX9_curve 27 = .ok (.iconst 0, 1) := by decide +kernel
theorem dX9_curve_28 : decode cX9_curve 28 = .ok (.putfield 116, 3) := by decide +kernel
theorem dX9_curve_31 : decode cX9_curve 31 = .ok (.aload_n 0, 1) := by decide +kernel
theorem dX9_curve_32 : decode cX9_curve 32 = .ok (.iconst 0, 1) := by decide +kernel
theorem dX9_curve_33 : decode cX9_curve 33 = .ok (.putfield 171, 3) := by decide +kernel
theorem dX9_curve_36 : decode cX9_curve 36 = .ok (.aload_n 0, 1) := by decide +kernel
theorem dX9_curve_37 : decode cX9_curve 37 = .ok (.iconst 0, 1) := by decide +kernel
theorem dX9_curve_38 : decode cX9_curve 38 = .ok (.putfield 102, 3) := by decide +kernel
theorem dX9_curve_41 : decode cX9_curve 41 = .ok (.aload_n 0, 1) := by decide +kernel
theorem dX9_curve_42 : decode cX9_curve 42 = .ok (.invokevirtual 189, 3) := by decide +kernel
theorem dX9_curve_45 : decode cX9_curve 45 = .ok (.pop, 1) := by decide +kernel
theorem dX9_curve_46 : decode cX9_curve 46 = .ok (.aload_n 0, 1) := by decide +kernel
theorem dX9_curve_47 : decode cX9_curve 47 = .ok (.invokevirtual 109, 3) := by decide +kernel
theorem dX9_curve_50 : decode cX9_curve 50 = .ok (.ifCond .ne 21, 3) := by decide +kernel
theorem dX9_curve_53 : decode cX9_curve 53 = .ok (.aload_n 0, 1) := by decide +kernel
theorem dX9_curve_54 : decode cX9_curve 54 = .ok (.invokevirtual 123, 3) := by decide +kernel
theorem dX9_curve_57 : decode cX9_curve 57 = .ok (.iconst (-1), 1) := by decide +kernel
theorem dX9_curve_58 : decode cX9_curve 58 = .ok (.if_icmp .eq 13, 3) := by decide +kernel
theorem dX9_curve_61 : decode cX9_curve 61 = .ok (.aload_n 0, 1) := by decide +kernel
theorem dX9_curve_62 : decode cX9_curve 62 = .ok (.iconst 1, 1) := by decide +kernel
theorem dX9_curve_63 : decode cX9_curve 63 = .ok (.aload_n 0, 1) := by decide +kernel
theorem dX9_curve_64 : decode cX9_curve 64 = .ok (.getfield 99, 3) := by decide +kernel
theorem dX9_curve_67 : decode cX9_curve 67 = .ok (.invokevirtual 105, 3) := by decide +kernel
theorem dX9_curve_70 : decode cX9_curve 70 = .ok (.pop, 1) := by decide +kernel
theorem dX9_curve_71 : decode cX9_curve 71 = .ok (.aload_n 0, 1) := by decide +kernel
theorem dX9_curve_72 : decode cX9_curve 72 = .ok (.iconst 0, 1) := by decide +kernel
theorem dX9_curve_73 : decode cX9_curve 73 = .ok (.putfield 86, 3) := by decide +kernel
theorem dX9_curve_76 : decode cX9_curve 76 = .ok (.aload_n 0, 1) := by decide +kernel
theorem dX9_curve_77 : decode cX9_curve 77 = .ok (.invokevirtual 109, 3) := by decide +kernel
theorem dX9_curve_80 : decode cX9_curve 80 = .ok (.ifCond .eq 18, 3) := by decide +kernel
theorem dX9_curve_83 : decode cX9_curve 83 = .ok (.bipush (-2), 2) := by decide +kernel
theorem dX9_curve_85 : decode cX9_curve 85 = .ok (.aload_n 0, 1) := by decide +kernel
theorem dX9_curve_86 : decode cX9_curve 86 = .ok (.getfield 93, 3) := by decide +kernel
theorem dX9_curve_89 : decode cX9_curve 89 = .ok (.iconst 4, 1) := by decide +kernel
theorem dX9_curve_90 : decode cX9_curve 90 = .ok (.aload_n 0, 1) := by decide +kernel
theorem dX9_curve_91 : decode cX9_curve 91 = .ok (.getfield 96, 3) := by decide +kernel
theorem dX9_curve_94 : decode cX9_curve 94 = .ok (.imul, 1) := by decide +kernel
theorem dX9_curve_95 : decode cX9_curve 95 = .ok (.iadd, 1) := by decide +kernel
theorem dX9_curve_96 : decode cX9_curve 96 = .ok (.isub, 1) := by decide +kernel
theorem dX9_curve_97 : decode cX9_curve 97 = .ok (.ireturn, 1) := by decide +kernel
theorem dX9_curve_98 : decode cX9_curve 98 = .ok (.aload_n 0, 1) := by decide +kernel
theorem dX9_curve_99 : decode cX9_curve 99 = .ok (.getfield 13, 3) := by decide +kernel
theorem dX9_curve_102 : decode cX9_curve 102 = .ok (.aload_n 0, 1) := by decide +kernel
theorem dX9_curve_103 : decode cX9_curve 103 = .ok (.getfield 113, 3) := by decide +kernel
theorem dX9_curve_106 : decode cX9_curve 106 = .ok (.aload_n 0, 1) := by decide +kernel
theorem dX9_curve_107 : decode cX9_curve 107 = .ok (.getfield 116, 3) := by decide +kernel
theorem dX9_curve_110 : decode cX9_curve 110 = .ok (.iastore, 1) := by decide +kernel
theorem dX9_curve_111 : decode cX9_curve 111 = .ok (.aload_n 0, 1) := by decide +kernel
theorem dX9_curve_112 : decode cX9_curve 112 = .ok (.dup, 1) := by decide +kernel
theorem dX9_curve_113 : decode cX9_curve 113 = .ok (.getfield 113, 3) := by decide +kernel
theorem dX9_curve_116 : decode cX9_curve 116 = .ok (.iconst 1, 1) := by decide +kernel
theorem dX9_curve_117 : decode cX9_curve 117 = .ok (.iadd, 1) := by decide +kernel
theorem dX9_curve_118 : decode cX9_curve 118 = .ok (.putfield 113, 3) := by decide +kernel
theorem dX9_curve_121 : decode cX9_curve 121 = .ok (.aload_n 0, 1) := by decide +kernel
theorem dX9_curve_122 : decode cX9_curve 122 = .ok (.getfield 113, 3) := by decide +kernel
theorem dX9_curve_125 : decode cX9_curve 125 = .ok (.iconst 1, 1) := by decide +kernel
theorem dX9_curve_126 : decode cX9_curve 126 = .ok (.isub, 1) := by decide +kernel
theorem dX9_curve_127 : decode cX9_curve 127 = .ok (.ireturn, 1) := by decide +kernel
theorem dX9_drop_0 : decode cX9_drop 0 = .ok (.aload_n 0, 1) := by decide +kernel
theorem dX9_drop_1 : decode cX9_drop 1 = .ok (.getfield 113, 3) := by decide +kernel
theorem dX9_drop_4 : decode cX9_drop 4 = .ok (.ifCond .ne 5, 3) := by decide +kernel
theorem dX9_drop_7 : decode cX9_drop 7 = .ok (.iconst (-1), 1) := by decide +kernel
theorem dX9_drop_8 : decode cX9_drop 8 = .ok (.ireturn, 1) := by decide +kernel
theorem dX9_drop_9 : decode cX9_drop 9 = .ok (.aload_n 0, 1) := by decide +kernel
theorem dX9_drop_10 : decode cX9_drop 10 = .ok (.dup, 1) := by decide +kernel
theorem dX9_drop_11 : decode cX9_drop 11 = .ok (.getfield 113, 3) := by decide +kernel
theorem dX9_drop_14 : decode cX9_drop 14 = .ok (.iconst 1, 1) := by decide +kernel
theorem dX9_drop_15 : decode cX9_drop 15 = .ok (.isub, 1) := by decide +kernel
theorem dX9_drop_16 : decode cX9_drop 16 = .ok (.putfield 113, 3) := by decide +kernel
theorem dX9_drop_19 : decode cX9_drop 19 = .ok (.aload_n 0, 1) := by decide +kernel
theorem dX9_drop_20 : decode cX9_drop 20 = .ok (.getfield 113, 3) := by decide +kernel
theorem dX9_drop_23 : decode cX9_drop 23 = .ok (.ireturn, 1) := by decide +kernel
theorem dX9_has_0 : decode cX9_has 0 = .ok (.iload_n 1, 1) := by decide +kernel
theorem dX9_has_1 : decode cX9_has 1 = .ok (.ifCond .lt 15, 3) := by decide +kernel
theorem dX9_has_4 : decode cX9_has 4 = .ok (.iload_n 1, 1) := by decide +kernel
theorem dX9_has_5 : decode cX9_has 5 = .ok (.aload_n 0, 1) := by decide +kernel
theorem dX9_has_6 : decode cX9_has 6 = .ok (.getfield 113, 3) := by decide +kernel
theorem dX9_has_9 : decode cX9_has 9 = .ok (.if_icmp .ge 7, 3) := by decide +kernel
theorem dX9_has_12 : decode cX9_has 12 = .ok (.iconst 1, 1) := by decide +kernel
theorem dX9_has_13 : decode cX9_has 13 = .ok (.goto 4, 3) := by decide +kernel
theorem dX9_has_16 : decode cX9_has 16 = .ok (.iconst 0, 1) := by decide +kernel
theorem dX9_has_17 : decode cX9_has 17 = .ok (.ireturn, 1) := by decide +kernel
theorem dX9_about_0 : decode cX9_about 0 = .ok (.aload_n 0, 1) := by decide +kernel
theorem dX9_about_1 : decode cX9_about 1 = .ok (.iload_n 1, 1) := by decide +kernel
theorem dX9_about_2 : decode cX9_about 2 = .ok (.invokevirtual 216, 3) := by decide +kernel
theorem dX9_about_5 : decode cX9_about 5 = .ok (.ifCond .ne 5, 3) := by decide +kernel
theorem dX9_about_8 : decode cX9_about 8 = .ok (.iconst (-1), 1) := by decide +kernel
theorem dX9_about_9 : decode cX9_about 9 = .ok (.ireturn, 1) := by decide +kernel
theorem dX9_about_10 : decode cX9_about 10 = .ok (.iconst 0, 1) := by decide +kernel
theorem dX9_about_11 : decode cX9_about 11 = .ok (.istore_n 3, 1) := by decide +kernel
theorem dX9_about_12 : decode cX9_about 12 = .ok (.iload_n 3, 1) := by decide +kernel
theorem dX9_about_13 : decode cX9_about 13 = .ok (.iload_n 1, 1) := by decide +kernel
theorem dX9_about_14 : decode cX9_about 14 = .ok (.if_icmp .gt 14, 3) := by decide +kernel
theorem dX9_about_17 : decode cX9_about 17 = .ok (.aload_n 0, 1) := by decide +kernel
theorem dX9_about_18 : decode cX9_about 18 = .ok (.iload_n 3, 1) := by decide +kernel
theorem dX9_about_19 : decode cX9_about 19 = .ok (.invokevirtual 219, 3) := by decide +kernel
theorem dX9_about_22 : decode cX9_about 22 = .ok (.iinc 3 1, 3) := by decide +kernel
theorem dX9_about_25 : decode cX9_about 25 = .ok (.goto (-13), 3) := by decide +kernel
theorem dX9_about_28 : decode cX9_about 28 = .ok (.iload_n 2, 1) := by decide +kernel
theorem dX9_about_29 : decode cX9_about 29 = .ok (.ifCond .ne 12, 3) := by decide +kernel
theorem dX9_about_32 : decode cX9_about 32 = .ok (.aload_n 0, 1) := by decide +kernel
theorem dX9_about_33 : decode cX9_about 33 = .ok (.getfield 13, 3) := by decide +kernel
theorem dX9_about_36 : decode cX9_about 36 = .ok (.iload_n 1, 1) := by decide +kernel
theorem dX9_about_37 : decode cX9_about 37 = .ok (.iaload, 1) := by decide +kernel
theorem dX9_about_38 : decode cX9_about 38 = .ok (.goto 32, 3) := by decide +kernel
theorem dX9_about_41 : decode cX9_about 41 = .ok (.iload_n 2, 1) := by decide +kernel
theorem dX9_about_42 : decode cX9_about 42 = .ok (.iconst 1, 1) := by decide +kernel
theorem dX9_about_43 : decode cX9_about 43 = .ok (.if_icmp .ne 12, 3) := by decide +kernel
theorem dX9_about_46 : decode cX9_about 46 = .ok (.aload_n 0, 1) := by decide +kernel
theorem dX9_about_47 : decode cX9_about 47 = .ok (.getfield 33, 3) := by decide +kernel
theorem dX9_about_50 : decode cX9_about 50 = .ok (.iload_n 1, 1) := by decide +kernel
theorem dX9_about_51 : decode cX9_about 51 = .ok (.iaload, 1) := by decide +kernel
theorem dX9_about_52 : decode cX9_about 52 = .ok (.goto 18, 3) := by decide +kernel
theorem dX9_about_55 : decode cX9_about 55 = .ok (.iload_n 2, 1) := by decide +kernel
theorem dX9_about_56 : decode cX9_about 56 = .ok (.iconst 2, 1) := by decide +kernel
theorem dX9_about_57 : decode cX9_about 57 = .ok (.if_icmp .ne 12, 3) := by decide +kernel
theorem dX9_about_60 : decode cX9_about 60 = .ok (.aload_n 0, 1) := by decide +kernel
theorem dX9_about_61 : decode cX9_about 61 = .ok (.getfield 36, 3) := by decide +kernel
theorem dX9_about_64 : decode cX9_about 64 = .ok (.iload_n 1, 1) := by decide +kernel
theorem dX9_about_65 : decode cX9_about 65 = .ok (.iaload, 1) := by decide +kernel
theorem dX9_about_66 : decode cX9_about 66 = .ok (.goto 4, 3) := by decide +kernel
theorem dX9_about_69 : decode cX9_about 69 = .ok (.iconst (-1), 1) := by decide +kernel
theorem dX9_about_70 : decode cX9_about 70 = .ok (.ireturn, 1) := by decide +kernel
theorem dX9_looks_0 : decode cX9_looks 0 = .ok (.aload_n 0, 1) := by decide +kernel
theorem dX9_looks_1 : decode cX9_looks 1 = .ok (.getfield 33, 3) := by decide +kernel
theorem dX9_looks_4 : decode cX9_looks 4 = .ok (.iload_n 1, 1) := by decide +kernel
theorem dX9_looks_5 : decode cX9_looks 5 = .ok (.iconst 1, 1) := by decide +kernel
theorem dX9_looks_6 : decode cX9_looks 6 = .ok (.iastore, 1) := by decide +kernel
theorem dX9_looks_7 : decode cX9_looks 7 = .ok (.iconst 0, 1) := by decide +kernel
theorem dX9_looks_8 : decode cX9_looks 8 = .ok (.istore_n 2, 1) := by decide +kernel
theorem dX9_looks_9 : decode cX9_looks 9 = .ok (.iload_n 2, 1) := by decide +kernel
theorem dX9_looks_10 : decode cX9_looks 10 = .ok (.aload_n 0, 1) := by decide +kernel
theorem dX9_looks_11 : decode cX9_looks 11 = .ok (.getfield 13, 3) := by decide +kernel
theorem dX9_looks_14 : decode cX9_looks 14 = .ok (.iload_n 1, 1) := by decide +kernel
theorem dX9_looks_15 : decode cX9_looks 15 = .ok (.iaload, 1) := by decide +kernel
theorem dX9_looks_16 : decode cX9_looks 16 = .ok (.if_icmp .ge 323, 3) := by decide +kernel
theorem dX9_looks_19 : decode cX9_looks 19 = .ok (.bipush 60, 2) := by decide +kernel
theorem dX9_looks_21 : decode cX9_looks 21 = .ok (.iload_n 1, 1) := by decide +kernel
theorem dX9_looks_22 : decode cX9_looks 22 = .ok (.imul, 1) := by decide +kernel
theorem dX9_looks_23 : decode cX9_looks 23 = .ok (.iload_n 2, 1) := by decide +kernel
theorem dX9_looks_24 : decode cX9_looks 24 = .ok (.iadd, 1) := by decide +kernel
theorem dX9_looks_25 : decode cX9_looks 25 = .ok (.istore_n 3, 1) := by decide +kernel
theorem dX9_looks_26 : decode cX9_looks 26 = .ok (.aload_n 0, 1) := by decide +kernel
theorem dX9_looks_27 : decode cX9_looks 27 = .ok (.getfield 17, 3) := by decide +kernel
theorem dX9_looks_30 : decode cX9_looks 30 = .ok (.iload_n 3, 1) := by decide +kernel
theorem dX9_looks_31 : decode cX9_looks 31 = .ok (.iaload, 1) := by decide +kernel
theorem dX9_looks_32 : decode cX9_looks 32 = .ok (.iconst 2, 1) := by decide +kernel
theorem dX9_looks_33 : decode cX9_looks 33 = .ok (.if_icmp .le 17, 3) := by decide +kernel
theorem dX9_looks_36 : decode cX9_looks 36 = .ok (.aload_n 0, 1) := by decide +kernel
theorem dX9_looks_37 : decode cX9_looks 37 = .ok (.getfield 39, 3) := by decide +kernel
theorem dX9_looks_40 : decode cX9_looks 40 = .ok (.aload_n 0, 1) := by decide +kernel
theorem dX9_looks_41 : decode cX9_looks 41 = .ok (.getfield 20, 3) := by decide +kernel
theorem dX9_looks_44 : decode cX9_looks 44 = .ok (.iload_n 3, 1) := by decide +kernel
theorem dX9_looks_45 : decode cX9_looks 45 = .ok (.iaload, 1) := by decide +kernel
theorem dX9_looks_46 : decode cX9_looks 46 = .ok (.iaload, 1) := by decide +kernel
theorem dX9_looks_47 : decode cX9_looks 47 = .ok (.goto 4, 3) := by decide +kernel
theorem dX9_looks_50 : decode cX9_looks 50 = .ok (.iconst 0, 1) := by decide +kernel
theorem dX9_looks_51 : decode cX9_looks 51 = .ok (.istore 4, 2) := by decide +kernel
theorem dX9_looks_53 : decode cX9_looks 53 = .ok (.aload_n 0, 1) := by decide +kernel
theorem dX9_looks_54 : decode cX9_looks 54 = .ok (.getfield 17, 3) := by decide +kernel
theorem dX9_looks_57 : decode cX9_looks 57 = .ok (.iload_n 3, 1) := by decide +kernel
theorem dX9_looks_58 : decode cX9_looks 58 = .ok (.iaload, 1) := by decide +kernel
theorem dX9_looks_59 : decode cX9_looks 59 = .ok (.iconst 5, 1) := by decide +kernel
theorem dX9_looks_60 : decode cX9_looks 60 = .ok (.if_icmp .lt 28, 3) := by decide +kernel
theorem dX9_looks_63 : decode cX9_looks 63 = .ok (.aload_n 0, 1) := by decide +kernel
theorem dX9_looks_64 : decode cX9_looks 64 = .ok (.getfield 17, 3) := by decide +kernel
theorem dX9_looks_67 : decode cX9_looks 67 = .ok (.iload_n 3, 1) := by decide +kernel
theorem dX9_looks_68 : decode cX9_looks 68 = .ok (.iaload, 1) := by decide +kernel
theorem dX9_looks_69 : decode cX9_looks 69 = .ok (.bipush 8, 2) := by decide +kernel
theorem dX9_looks_71 : decode cX9_looks 71 = .ok (.if_icmp .gt 17, 3) := by decide +kernel
theorem dX9_looks_74 : decode cX9_looks 74 = .ok (.aload_n 0, 1) := by decide +kernel
theorem dX9_looks_75 : decode cX9_looks 75 = .ok (.getfield 39, 3) := by decide +kernel
theorem dX9_looks_78 : decode cX9_looks 78 = .ok (.aload_n 0, 1) := by decide +kernel
theorem dX9_looks_79 : decode cX9_looks 79 = .ok (.getfield 23, 3) := by decide +kernel
theorem dX9_looks_82 : decode cX9_looks 82 = .ok (.iload_n 3, 1) := by decide +kernel
theorem dX9_looks_83 : decode cX9_looks 83 = .ok (.iaload, 1) := by decide +kernel
theorem dX9_looks_84 : decode cX9_looks 84 = .ok (.iaload, 1) := by decide +kernel
theorem dX9_looks_85 : decode cX9_looks 85 = .ok (.goto 4, 3) := by decide +kernel
theorem dX9_looks_88 : decode cX9_looks 88 = .ok (.iconst 0, 1) := by decide +kernel
theorem dX9_looks_89 : decode cX9_looks 89 = .ok (.istore 5, 2) := by decide +kernel
theorem dX9_looks_91 : decode cX9_looks 91 = .ok (.aload_n 0, 1) := by decide +kernel
theorem dX9_looks_92 : decode cX9_looks 92 = .ok (.getfield 17, 3) := by decide +kernel
theorem dX9_looks_95 : decode cX9_looks 95 = .ok (.iload_n 3, 1) := by decide +kernel
theorem dX9_looks_96 : decode cX9_looks 96 = .ok (.iaload, 1) := by decide +kernel
theorem dX9_looks_97 : decode cX9_looks 97 = .ok (.bipush 14, 2) := by decide +kernel
theorem dX9_looks_99 : decode cX9_looks 99 = .ok (.if_icmp .ge 27, 3) := by decide +kernel
theorem dX9_looks_102 : decode cX9_looks 102 = .ok (.aload_n 0, 1) := by decide +kernel
theorem dX9_looks_103 : decode cX9_looks 103 = .ok (.getfield 17, 3) := by decide +kernel
theorem dX9_looks_106 : decode cX9_looks 106 = .ok (.iload_n 3, 1) := by decide +kernel
theorem dX9_looks_107 : decode cX9_looks 107 = .ok (.iaload, 1) := by decide +kernel
theorem dX9_looks_108 : decode cX9_looks 108 = .ok (.iconst 2, 1) := by decide +kernel
theorem dX9_looks_109 : decode cX9_looks 109 = .ok (.if_icmp .ne 24, 3) := by decide +kernel
theorem dX9_looks_112 : decode cX9_looks 112 = .ok (.aload_n 0, 1) := by decide +kernel
theorem dX9_looks_113 : decode cX9_looks 113 = .ok (.getfield 33, 3) := by decide +kernel
theorem dX9_looks_116 : decode cX9_looks 116 = .ok (.aload_n 0, 1) := by decide +kernel
theorem dX9_looks_117 : decode cX9_looks 117 = .ok (.getfield 20, 3) := by decide +kernel
theorem dX9_looks_120 : decode cX9_looks 120 = .ok (.iload_n 3, 1) := by decide +kernel
theorem dX9_looks_121 : decode cX9_looks 121 = .ok (.iaload, 1) := by decide +kernel
theorem dX9_looks_122 : decode cX9_looks 122 = .ok (.iaload, 1) := by decide +kernel
theorem dX9_looks_123 : decode cX9_looks 123 = .ok (.ifCond .ne 10, 3) := by decide +kernel
theorem dX9_looks_126 : decode cX9_looks 126 = .ok (.aload_n 0, 1) := by decide +kernel
theorem dX9_looks_127 : decode cX9_looks 127 = .ok (.getfield 33, 3) := by decide +kernel
theorem dX9_looks_130 : decode cX9_looks 130 = .ok (.iload_n 1, 1) := by decide +kernel
theorem dX9_looks_131 : decode cX9_looks 131 = .ok (.iconst 0, 1) := by decide +kernel
theorem dX9_looks_132 : decode cX9_looks 132 = .ok (.iastore, 1) := by decide +kernel
theorem dX9_looks_133 : decode cX9_looks 133 = .ok (.iconst (-1), 1) := by decide +kernel
theorem dX9_looks_134 : decode cX9_looks 134 = .ok (.istore 6, 2) := by decide +kernel
theorem dX9_looks_136 : decode cX9_looks 136 = .ok (.aload_n 0, 1) := by decide +kernel
theorem dX9_looks_137 : decode cX9_looks 137 = .ok (.getfield 17, 3) := by decide +kernel
theorem dX9_looks_140 : decode cX9_looks 140 = .ok (.iload_n 3, 1) := by decide +kernel
theorem dX9_looks_141 : decode cX9_looks 141 = .ok (.iaload, 1) := by decide +kernel
theorem dX9_looks_142 : decode cX9_looks 142 = .ok (.tableswitch 166 0 7 #[46, 52, 58, 74, 81, 105, 105, 140], 46) := by decide +kernel
theorem dX9_looks_188 : decode cX9_looks 188 = .ok (.iconst 1, 1) := by decide +kernel
theorem dX9_looks_189 : decode cX9_looks 189 = .ok (.istore 6, 2) := by decide +kernel
theorem dX9_looks_191 : decode cX9_looks 191 = .ok (.goto 120, 3) := by decide +kernel
theorem dX9_looks_194 : decode cX9_looks 194 = .ok (.iconst 0, 1) := by decide +kernel
theorem dX9_looks_195 : decode cX9_looks 195 = .ok (.istore 6, 2) := by decide +kernel
theorem dX9_looks_197 : decode cX9_looks 197 = .ok (.goto 114, 3) := by decide +kernel
theorem dX9_looks_200 : decode cX9_looks 200 = .ok (.aload_n 0, 1) := by decide +kernel
theorem dX9_looks_201 : decode cX9_looks 201 = .ok (.getfield 36, 3) := by decide +kernel
theorem dX9_looks_204 : decode cX9_looks 204 = .ok (.aload_n 0, 1) := by decide +kernel
theorem dX9_looks_205 : decode cX9_looks 205 = .ok (.getfield 20, 3) := by decide +kernel
theorem dX9_looks_208 : decode cX9_looks 208 = .ok (.iload_n 3, 1) := by decide +kernel
theorem dX9_looks_209 : decode cX9_looks 209 = .ok (.iaload, 1) := by decide +kernel
theorem dX9_looks_210 : decode cX9_looks 210 = .ok (.iaload, 1) := by decide +kernel
theorem dX9_looks_211 : decode cX9_looks 211 = .ok (.istore 6, 2) := by decide +kernel
theorem dX9_looks_213 : decode cX9_looks 213 = .ok (.goto 98, 3) := by decide +kernel
theorem dX9_looks_216 : decode cX9_looks 216 = .ok (.iload 4, 2) := by decide +kernel
theorem dX9_looks_218 : decode cX9_looks 218 = .ok (.istore 6, 2) := by decide +kernel
theorem dX9_looks_220 : decode cX9_looks 220 = .ok (.goto 91, 3) := by decide +kernel
theorem dX9_looks_223 : decode cX9_looks 223 = .ok (.iload 4, 2) := by decide +kernel
theorem dX9_looks_225 : decode cX9_looks 225 = .ok (.iconst (-1), 1) := by decide +kernel
theorem dX9_looks_226 : decode cX9_looks 226 = .ok (.if_icmp .ne 7, 3) := by decide +kernel
theorem dX9_looks_229 : decode cX9_looks 229 = .ok (.iconst (-1), 1) := by decide +kernel
theorem dX9_looks_230 : decode cX9_looks 230 = .ok (.goto 12, 3) := by decide +kernel
theorem dX9_looks_233 : decode cX9_looks 233 = .ok (.iload 4, 2) := by decide +kernel
theorem dX9_looks_235 : decode cX9_looks 235 = .ok (.aload_n 0, 1) := by decide +kernel
theorem dX9_looks_236 : decode cX9_looks 236 = .ok (.getfield 23, 3) := by decide +kernel
theorem dX9_looks_239 : decode cX9_looks 239 = .ok (.iload_n 3, 1) := by decide +kernel
theorem dX9_looks_240 : decode cX9_looks 240 = .ok (.iaload, 1) := by decide +kernel
theorem dX9_looks_241 : decode cX9_looks 241 = .ok (.imul, 1) := by decide +kernel
theorem dX9_looks_242 : decode cX9_looks 242 = .ok (.istore 6, 2) := by decide +kernel
theorem dX9_looks_244 : decode cX9_looks 244 = .ok (.goto 67, 3) := by decide +kernel
theorem dX9_looks_247 : decode cX9_looks 247 = .ok (.iload 4, 2) := by decide +kernel
theorem dX9_looks_249 : decode cX9_looks 249 = .ok (.iconst (-1), 1) := by decide +kernel
theorem dX9_looks_250 : decode cX9_looks 250 = .ok (.if_icmp .eq 9, 3) := by decide +kernel
theorem dX9_looks_253 : decode cX9_looks 253 = .ok (.iload 5, 2) := by decide +kernel
theorem dX9_looks_255 : decode cX9_looks 255 = .ok (.iconst (-1), 1) := by decide +kernel
theorem dX9_looks_256 : decode cX9_looks 256 = .ok (.if_icmp .ne 7, 3) := by decide +kernel
theorem dX9_looks_259 : decode cX9_looks 259 = .ok (.iconst (-1), 1) := by decide +kernel
theorem dX9_looks_260 : decode cX9_looks 260 = .ok (.goto 17, 3) := by decide +kernel
theorem dX9_looks_263 : decode cX9_looks 263 = .ok (.iload 4, 2) := by decide +kernel
theorem dX9_looks_265 : decode cX9_looks 265 = .ok (.iload 5, 2) := by decide +kernel
theorem dX9_looks_267 : decode cX9_looks 267 = .ok (.if_icmp .le 8, 3) := by decide +kernel
theorem dX9_looks_270 : decode cX9_looks 270 = .ok (.iload 4, 2) := by decide +kernel
theorem dX9_looks_272 : decode cX9_looks 272 = .ok (.goto 5, 3) := by decide +kernel
theorem dX9_looks_275 : decode cX9_looks 275 = .ok (.iload 5, 2) := by decide +kernel
theorem dX9_looks_277 : decode cX9_looks 277 = .ok (.istore 6, 2) := by decide +kernel
theorem dX9_looks_279 : decode cX9_looks 279 = .ok (.goto 32, 3) := by decide +kernel
theorem dX9_looks_282 : decode cX9_looks 282 = .ok (.iload 4, 2) := by decide +kernel
theorem dX9_looks_284 : decode cX9_looks 284 = .ok (.iconst (-1), 1) := by decide +kernel
theorem dX9_looks_285 : decode cX9_looks 285 = .ok (.if_icmp .eq 9, 3) := by decide +kernel
theorem dX9_looks_288 : decode cX9_looks 288 = .ok (.iload 5, 2) := by decide +kernel
theorem dX9_looks_290 : decode cX9_looks 290 = .ok (.iconst (-1), 1) := by decide +kernel
theorem dX9_looks_291 : decode cX9_looks 291 = .ok (.if_icmp .ne 7, 3) := by decide +kernel
theorem dX9_looks_294 : decode cX9_looks 294 = .ok (.iconst (-1), 1) := by decide +kernel
theorem dX9_looks_295 : decode cX9_looks 295 = .ok (.goto 8, 3) := by decide +kernel
theorem dX9_looks_298 : decode cX9_looks 298 = .ok (.iload 4, 2) := by decide +kernel
theorem dX9_looks_300 : decode cX9_looks 300 = .ok (.iload 5, 2) := by decide +kernel
theorem dX9_looks_302 : decode cX9_looks 302 = .ok (.iadd, 1) := by decide +kernel
theorem dX9_looks_303 : decode cX9_looks 303 = .ok (.istore 6, 2) := by decide +kernel
theorem dX9_looks_305 : decode cX9_looks 305 = .ok (.goto 6, 3) := by decide +kernel
theorem dX9_looks_308 : decode cX9_looks 308 = .ok (.iconst (-1), 1) := by decide +kernel
theorem dX9_looks_309 : decode cX9_looks 309 = .ok (.istore 6, 2) := by decide +kernel
theorem dX9_looks_311 : decode cX9_looks 311 = .ok (.aload_n 0, 1) := by decide +kernel
theorem dX9_looks_312 : decode cX9_looks 312 = .ok (.getfield 39, 3) := by decide +kernel
theorem dX9_looks_315 : decode cX9_looks 315 = .ok (.iload_n 3, 1) := by decide +kernel
theorem dX9_looks_316 : decode cX9_looks 316 = .ok (.iload 6, 2) := by decide +kernel
theorem dX9_looks_318 : decode cX9_looks 318 = .ok (.sipush 1000, 3) := by decide +kernel
theorem dX9_looks_321 : decode cX9_looks 321 = .ok (.if_icmp .le 9, 3) := by decide +kernel
theorem dX9_looks_324 : decode cX9_looks 324 = .ok (.sipush 1000, 3) := by decide +kernel
theorem dX9_looks_327 : decode cX9_looks 327 = .ok (.goto 5, 3) := by decide +kernel
theorem dX9_looks_330 : decode cX9_looks 330 = .ok (.iload 6, 2) := by decide +kernel
theorem dX9_looks_332 : decode cX9_looks 332 = .ok (.iastore, 1) := by decide +kernel
theorem dX9_looks_333 : decode cX9_looks 333 = .ok (.iinc 2 1, 3) := by decide +kernel
theorem dX9_looks_336 : decode cX9_looks 336 = .ok (.goto (-327), 3) := by decide +kernel
theorem dX9_looks_339 : decode cX9_looks 339 = .ok (.aload_n 0, 1) := by decide +kernel
theorem dX9_looks_340 : decode cX9_looks 340 = .ok (.getfield 36, 3) := by decide +kernel
theorem dX9_looks_343 : decode cX9_looks 343 = .ok (.iload_n 1, 1) := by decide +kernel
theorem dX9_looks_344 : decode cX9_looks 344 = .ok (.aload_n 0, 1) := by decide +kernel
theorem dX9_looks_345 : decode cX9_looks 345 = .ok (.getfield 39, 3) := by decide +kernel
theorem dX9_looks_348 : decode cX9_looks 348 = .ok (.bipush 60, 2) := by decide +kernel
theorem dX9_looks_350 : decode cX9_looks 350 = .ok (.iload_n 1, 1) := by decide +kernel
theorem dX9_looks_351 : decode cX9_looks 351 = .ok (.imul, 1) := by decide +kernel
theorem dX9_looks_352 : decode cX9_looks 352 = .ok (.aload_n 0, 1) := by decide +kernel
theorem dX9_looks_353 : decode cX9_looks 353 = .ok (.getfield 13, 3) := by decide +kernel
theorem dX9_looks_356 : decode cX9_looks 356 = .ok (.iload_n 1, 1) := by decide +kernel
theorem dX9_looks_357 : decode cX9_looks 357 = .ok (.iaload, 1) := by decide +kernel
theorem dX9_looks_358 : decode cX9_looks 358 = .ok (.iadd, 1) := by decide +kernel
theorem dX9_looks_359 : decode cX9_looks 359 = .ok (.iconst 1, 1) := by decide +kernel
theorem dX9_looks_360 : decode cX9_looks 360 = .ok (.isub, 1) := by decide +kernel
theorem dX9_looks_361 : decode cX9_looks 361 = .ok (.iaload, 1) := by decide +kernel
theorem dX9_looks_362 : decode cX9_looks 362 = .ok (.iastore, 1) := by decide +kernel
theorem dX9_looks_363 : decode cX9_looks 363 = .ok (.return_, 1) := by decide +kernel
theorem dX9_down_0 : decode cX9_down 0 = .ok (.lload_n 0, 1) := by decide +kernel
theorem dX9_down_1 : decode cX9_down 1 = .ok (.lload_n 2, 1) := by decide +kernel
theorem dX9_down_2 : decode cX9_down 2 = .ok (.ldiv, 1) := by decide +kernel
theorem dX9_down_3 : decode cX9_down 3 = .ok (.lstore 4, 2) := by decide +kernel
theorem dX9_down_5 : decode cX9_down 5 = .ok (.lload_n 0, 1) := by decide +kernel
theorem dX9_down_6 : decode cX9_down 6 = .ok (.lload_n 2, 1) := by decide +kernel
theorem dX9_down_7 : decode cX9_down 7 = .ok (.lrem, 1) := by decide +kernel
theorem dX9_down_8 : decode cX9_down 8 = .ok (.lconst 0, 1) := by decide +kernel
theorem dX9_down_9 : decode cX9_down 9 = .ok (.lcmp, 1) := by decide +kernel
theorem dX9_down_10 : decode cX9_down 10 = .ok (.ifCond .eq 35, 3) := by decide +kernel
theorem dX9_down_13 : decode cX9_down 13 = .ok (.lload_n 0, 1) := by decide +kernel
theorem dX9_down_14 : decode cX9_down 14 = .ok (.lconst 0, 1) := by decide +kernel
theorem dX9_down_15 : decode cX9_down 15 = .ok (.lcmp, 1) := by decide +kernel
theorem dX9_down_16 : decode cX9_down 16 = .ok (.ifCond .ge 7, 3) := by decide +kernel
theorem dX9_down_19 : decode cX9_down 19 = .ok (.iconst 1, 1) := by decide +kernel
theorem dX9_down_20 : decode cX9_down 20 = .ok (.goto 4, 3) := by decide +kernel
theorem dX9_down_23 : decode cX9_down 23 = .ok (.iconst 0, 1) := by decide +kernel
theorem dX9_down_24 : decode cX9_down 24 = .ok (.lload_n 2, 1) := by decide +kernel
theorem dX9_down_25 : decode cX9_down 25 = .ok (.lconst 0, 1) := by decide +kernel
theorem dX9_down_26 : decode cX9_down 26 = .ok (.lcmp, 1) := by decide +kernel
theorem dX9_down_27 : decode cX9_down 27 = .ok (.ifCond .ge 7, 3) := by decide +kernel
theorem dX9_down_30 : decode cX9_down 30 = .ok (.iconst 1, 1) := by decide +kernel
theorem dX9_down_31 : decode cX9_down 31 = .ok (.goto 4, 3) := by decide +kernel
theorem dX9_down_34 : decode cX9_down 34 = .ok (.iconst 0, 1) := by decide +kernel
theorem dX9_down_35 : decode cX9_down 35 = .ok (.if_icmp .eq 10, 3) := by decide +kernel
theorem dX9_down_38 : decode cX9_down 38 = .ok (.lload 4, 2) := by decide +kernel
theorem dX9_down_40 : decode cX9_down 40 = .ok (.lconst 1, 1) := by decide +kernel
theorem dX9_down_41 : decode cX9_down 41 = .ok (.lsub, 1) := by decide +kernel
theorem dX9_down_42 : decode cX9_down 42 = .ok (.goto 5, 3) := by decide +kernel
theorem dX9_down_45 : decode cX9_down 45 = .ok (.lload 4, 2) := by decide +kernel
theorem dX9_down_47 : decode cX9_down 47 = .ok (.lreturn, 1) := by decide +kernel
theorem dX9_up_0 : decode cX9_up 0 = .ok (.lload_n 0, 1) := by decide +kernel
theorem dX9_up_1 : decode cX9_up 1 = .ok (.lload_n 2, 1) := by decide +kernel
theorem dX9_up_2 : decode cX9_up 2 = .ok (.ldiv, 1) := by decide +kernel
theorem dX9_up_3 : decode cX9_up 3 = .ok (.lstore 4, 2) := by decide +kernel
theorem dX9_up_5 : decode cX9_up 5 = .ok (.lload_n 0, 1) := by decide +kernel
theorem dX9_up_6 : decode cX9_up 6 = .ok (.lload_n 2, 1) := by decide +kernel
theorem dX9_up_7 : decode cX9_up 7 = .ok (.lrem, 1) := by decide +kernel
theorem dX9_up_8 : decode cX9_up 8 = .ok (.lconst 0, 1) := by decide +kernel
theorem dX9_up_9 : decode cX9_up 9 = .ok (.lcmp, 1) := by decide +kernel
theorem dX9_up_10 : decode cX9_up 10 = .ok (.ifCond .eq 35, 3) := by decide +kernel
theorem dX9_up_13 : decode cX9_up 13 = .ok (.lload_n 0, 1) := by decide +kernel
theorem dX9_up_14 : decode cX9_up 14 = .ok (.lconst 0, 1) := by decide +kernel
theorem dX9_up_15 : decode cX9_up 15 = .ok (.lcmp, 1) := by decide +kernel
theorem dX9_up_16 : decode cX9_up 16 = .ok (.ifCond .ge 7, 3) := by decide +kernel
theorem dX9_up_19 : decode cX9_up 19 = .ok (.iconst 1, 1) := by decide +kernel
theorem dX9_up_20 : decode cX9_up 20 = .ok (.goto 4, 3) := by decide +kernel
theorem dX9_up_23 : decode cX9_up 23 = .ok (.iconst 0, 1) := by decide +kernel
theorem dX9_up_24 : decode cX9_up 24 = .ok (.lload_n 2, 1) := by decide +kernel
theorem dX9_up_25 : decode cX9_up 25 = .ok (.lconst 0, 1) := by decide +kernel
theorem dX9_up_26 : decode cX9_up 26 = .ok (.lcmp, 1) := by decide +kernel
theorem dX9_up_27 : decode cX9_up 27 = .ok (.ifCond .ge 7, 3) := by decide +kernel
theorem dX9_up_30 : decode cX9_up 30 = .ok (.iconst 1, 1) := by decide +kernel
theorem dX9_up_31 : decode cX9_up 31 = .ok (.goto 4, 3) := by decide +kernel
theorem dX9_up_34 : decode cX9_up 34 = .ok (.iconst 0, 1) := by decide +kernel
theorem dX9_up_35 : decode cX9_up 35 = .ok (.if_icmp .ne 10, 3) := by decide +kernel
theorem dX9_up_38 : decode cX9_up 38 = .ok (.lload 4, 2) := by decide +kernel
theorem dX9_up_40 : decode cX9_up 40 = .ok (.lconst 1, 1) := by decide +kernel
theorem dX9_up_41 : decode cX9_up 41 = .ok (.ladd, 1) := by decide +kernel
theorem dX9_up_42 : decode cX9_up 42 = .ok (.goto 5, 3) := by decide +kernel
theorem dX9_up_45 : decode cX9_up 45 = .ok (.lload 4, 2) := by decide +kernel
theorem dX9_up_47 : decode cX9_up 47 = .ok (.lreturn, 1) := by decide +kernel
theorem dX9_is_0 : decode cX9_is 0 = .ok (.aload_n 0, 1) := by decide +kernel
theorem dX9_is_1 : decode cX9_is 1 = .ok (.lload_n 1, 1) := by decide +kernel
theorem dX9_is_2 : decode cX9_is 2 = .ok (.putfield 222, 3) := by decide +kernel
theorem dX9_is_5 : decode cX9_is 5 = .ok (.aload_n 0, 1) := by decide +kernel
theorem dX9_is_6 : decode cX9_is 6 = .ok (.lload_n 3, 1) := by decide +kernel
theorem dX9_is_7 : decode cX9_is 7 = .ok (.putfield 226, 3) := by decide +kernel
theorem dX9_is_10 : decode cX9_is 10 = .ok (.aload_n 0, 1) := by decide +kernel
theorem dX9_is_11 : decode cX9_is 11 = .ok (.lload_n 1, 1) := by decide +kernel
theorem dX9_is_12 : decode cX9_is 12 = .ok (.ldc2_w 229, 3) := by decide +kernel
theorem dX9_is_15 : decode cX9_is 15 = .ok (.lcmp, 1) := by decide +kernel
theorem dX9_is_16 : decode cX9_is 16 = .ok (.ifCond .lt 27, 3) := by decide +kernel
theorem dX9_is_19 : decode cX9_is 19 = .ok (.lload_n 1, 1) := by decide +kernel
theorem dX9_is_20 : decode cX9_is 20 = .ok (.ldc2_w 231, 3) := by decide +kernel
theorem dX9_is_23 : decode cX9_is 23 = .ok (.lcmp, 1) := by decide +kernel
theorem dX9_is_24 : decode cX9_is 24 = .ok (.ifCond .gt 19, 3) := by decide +kernel
theorem dX9_is_27 : decode cX9_is 27 = .ok (.lload_n 3, 1) := by decide +kernel
theorem dX9_is_28 : decode cX9_is 28 = .ok (.ldc2_w 229, 3) := by decide +kernel
theorem dX9_is_31 : decode cX9_is 31 = .ok (.lcmp, 1) := by decide +kernel
theorem dX9_is_32 : decode cX9_is 32 = .ok (.ifCond .lt 11, 3) := by decide +kernel
theorem dX9_is_35 : decode cX9_is 35 = .ok (.lload_n 3, 1) := by decide +kernel
theorem dX9_is_36 : decode cX9_is 36 = .ok (.ldc2_w 231, 3) := by decide +kernel
theorem dX9_is_39 : decode cX9_is 39 = .ok (.lcmp, 1) := by decide +kernel
theorem dX9_is_40 : decode cX9_is 40 = .ok (.ifCond .le 7, 3) := by decide +kernel
theorem dX9_is_43 : decode cX9_is 43 = .ok (.iconst 1, 1) := by decide +kernel
theorem dX9_is_44 : decode cX9_is 44 = .ok (.goto 4, 3) := by decide +kernel
theorem dX9_is_47 : decode cX9_is 47 = .ok (.iconst 0, 1) := by decide +kernel
theorem dX9_is_48 : decode cX9_is 48 = .ok (.putfield 233, 3) := by decide +kernel
theorem dX9_is_51 : decode cX9_is 51 = .ok (.return_, 1) := by decide +kernel
theorem dX9_isHole_0 : decode cX9_isHole 0 = .ok (.aload_n 0, 1) := by decide +kernel
theorem dX9_isHole_1 : decode cX9_isHole 1 = .ok (.iconst 1, 1) := by decide +kernel
theorem dX9_isHole_2 : decode cX9_isHole 2 = .ok (.putfield 233, 3) := by decide +kernel
theorem dX9_isHole_5 : decode cX9_isHole 5 = .ok (.return_, 1) := by decide +kernel
theorem dX9_less_0 : decode cX9_less 0 = .ok (.lload_n 0, 1) := by decide +kernel
theorem dX9_less_1 : decode cX9_less 1 = .ok (.lload_n 2, 1) := by decide +kernel
theorem dX9_less_2 : decode cX9_less 2 = .ok (.lcmp, 1) := by decide +kernel
theorem dX9_less_3 : decode cX9_less 3 = .ok (.ifCond .ge 7, 3) := by decide +kernel
theorem dX9_less_6 : decode cX9_less 6 = .ok (.lload_n 0, 1) := by decide +kernel
theorem dX9_less_7 : decode cX9_less 7 = .ok (.goto 4, 3) := by decide +kernel
theorem dX9_less_10 : decode cX9_less 10 = .ok (.lload_n 2, 1) := by decide +kernel
theorem dX9_less_11 : decode cX9_less 11 = .ok (.lreturn, 1) := by decide +kernel
theorem dX9_more_0 : decode cX9_more 0 = .ok (.lload_n 0, 1) := by decide +kernel
theorem dX9_more_1 : decode cX9_more 1 = .ok (.lload_n 2, 1) := by decide +kernel
theorem dX9_more_2 : decode cX9_more 2 = .ok (.lcmp, 1) := by decide +kernel
theorem dX9_more_3 : decode cX9_more 3 = .ok (.ifCond .le 7, 3) := by decide +kernel
theorem dX9_more_6 : decode cX9_more 6 = .ok (.lload_n 0, 1) := by decide +kernel
theorem dX9_more_7 : decode cX9_more 7 = .ok (.goto 4, 3) := by decide +kernel
theorem dX9_more_10 : decode cX9_more 10 = .ok (.lload_n 2, 1) := by decide +kernel
theorem dX9_more_11 : decode cX9_more 11 = .ok (.lreturn, 1) := by decide +kernel
theorem dX9_times_0 : decode cX9_times 0 = .ok (.lload_n 1, 1) := by decide +kernel
theorem dX9_times_1 : decode cX9_times 1 = .ok (.lload 5, 2) := by decide +kernel
theorem dX9_times_3 : decode cX9_times 3 = .ok (.lmul, 1) := by decide +kernel
theorem dX9_times_4 : decode cX9_times 4 = .ok (.lload_n 1, 1) := by decide +kernel
theorem dX9_times_5 : decode cX9_times 5 = .ok (.lload 7, 2) := by decide +kernel
theorem dX9_times_7 : decode cX9_times 7 = .ok (.lmul, 1) := by decide +kernel
theorem dX9_times_8 : decode cX9_times 8 = .ok (.invokestatic 237, 3) := by decide +kernel
theorem dX9_times_11 : decode cX9_times 11 = .ok (.lload_n 3, 1) := by decide +kernel
theorem dX9_times_12 : decode cX9_times 12 = .ok (.lload 5, 2) := by decide +kernel
theorem dX9_times_14 : decode cX9_times 14 = .ok (.lmul, 1) := by decide +kernel
theorem dX9_times_15 : decode cX9_times 15 = .ok (.lload_n 3, 1) := by decide +kernel
theorem dX9_times_16 : decode cX9_times 16 = .ok (.lload 7, 2) := by decide +kernel
theorem dX9_times_18 : decode cX9_times 18 = .ok (.lmul, 1) := by decide +kernel
theorem dX9_times_19 : decode cX9_times 19 = .ok (.invokestatic 237, 3) := by decide +kernel
theorem dX9_times_22 : decode cX9_times 22 = .ok (.invokestatic 237, 3) := by decide +kernel
theorem dX9_times_25 : decode cX9_times 25 = .ok (.lstore 9, 2) := by decide +kernel
theorem dX9_times_27 : decode cX9_times 27 = .ok (.lload_n 1, 1) := by decide +kernel
theorem dX9_times_28 : decode cX9_times 28 = .ok (.lload 5, 2) := by decide +kernel
theorem dX9_times_30 : decode cX9_times 30 = .ok (.lmul, 1) := by decide +kernel
theorem dX9_times_31 : decode cX9_times 31 = .ok (.lload_n 1, 1) := by decide +kernel
theorem dX9_times_32 : decode cX9_times 32 = .ok (.lload 7, 2) := by decide +kernel
theorem dX9_times_34 : decode cX9_times 34 = .ok (.lmul, 1) := by decide +kernel
theorem dX9_times_35 : decode cX9_times 35 = .ok (.invokestatic 240, 3) := by decide +kernel
theorem dX9_times_38 : decode cX9_times 38 = .ok (.lload_n 3, 1) := by decide +kernel
theorem dX9_times_39 : decode cX9_times 39 = .ok (.lload 5, 2) := by decide +kernel
theorem dX9_times_41 : decode cX9_times 41 = .ok (.lmul, 1) := by decide +kernel
theorem dX9_times_42 : decode cX9_times 42 = .ok (.lload_n 3, 1) := by decide +kernel
theorem dX9_times_43 : decode cX9_times 43 = .ok (.lload 7, 2) := by decide +kernel
theorem dX9_times_45 : decode cX9_times 45 = .ok (.lmul, 1) := by decide +kernel
theorem dX9_times_46 : decode cX9_times 46 = .ok (.invokestatic 240, 3) := by decide +kernel
theorem dX9_times_49 : decode cX9_times 49 = .ok (.invokestatic 240, 3) := by decide +kernel
theorem dX9_times_52 : decode cX9_times 52 = .ok (.lstore 11, 2) := by decide +kernel
theorem dX9_times_54 : decode cX9_times 54 = .ok (.aload_n 0, 1) := by decide +kernel
theorem dX9_times_55 : decode cX9_times 55 = .ok (.lload 9, 2) := by decide +kernel
theorem dX9_times_57 : decode cX9_times 57 = .ok (.ldc2_w 207, 3) := by decide +kernel
theorem dX9_times_60 : decode cX9_times 60 = .ok (.invokestatic 209, 3) := by decide +kernel
theorem dX9_times_63 : decode cX9_times 63 = .ok (.lload 11, 2) := by decide +kernel
theorem dX9_times_65 : decode cX9_times 65 = .ok (.ldc2_w 207, 3) := by decide +kernel
theorem dX9_times_68 : decode cX9_times 68 = .ok (.invokestatic 213, 3) := by decide +kernel
theorem dX9_times_71 : decode cX9_times 71 = .ok (.invokevirtual 243, 3) := by decide +kernel
theorem dX9_times_74 : decode cX9_times 74 = .ok (.return_, 1) := by decide +kernel
theorem dX9_by_0 : decode cX9_by 0 = .ok (.lload 5, 2) := by decide +kernel
theorem dX9_by_2 : decode cX9_by 2 = .ok (.lconst 0, 1) := by decide +kernel
theorem dX9_by_3 : decode cX9_by 3 = .ok (.lcmp, 1) := by decide +kernel
theorem dX9_by_4 : decode cX9_by 4 = .ok (.ifCond .gt 15, 3) := by decide +kernel
theorem dX9_by_7 : decode cX9_by 7 = .ok (.lload 7, 2) := by decide +kernel
