theorem dX5_of_0 : decode cX5_of 0 = .ok (.lload_n 0, 1) := by decide +kernel
theorem dX5_of_1 : decode cX5_of 1 = .ok (.ldc2_w 9, 3) := by decide +kernel
theorem dX5_of_4 : decode cX5_of 4 = .ok (.lcmp, 1) := by decide +kernel
theorem dX5_of_5 : decode cX5_of 5 = .ok (.ifCond .lt 17, 3) := by decide +kernel
theorem dX5_of_8 : decode cX5_of 8 = .ok (.lload_n 2, 1) := by decide +kernel
theorem dX5_of_9 : decode cX5_of 9 = .ok (.ldc2_w 11, 3) := by decide +kernel
theorem dX5_of_12 : decode cX5_of 12 = .ok (.lcmp, 1) := by decide +kernel
theorem dX5_of_13 : decode cX5_of 13 = .ok (.ifCond .gt 9, 3) := by decide +kernel
theorem dX5_of_16 : decode cX5_of 16 = .ok (.lload_n 0, 1) := by decide +kernel
theorem dX5_of_17 : decode cX5_of 17 = .ok (.lload_n 2, 1) := by decide +kernel
theorem dX5_of_18 : decode cX5_of 18 = .ok (.lcmp, 1) := by decide +kernel
theorem dX5_of_19 : decode cX5_of 19 = .ok (.ifCond .le 7, 3) := by decide +kernel
theorem dX5_of_22 : decode cX5_of 22 = .ok (.ldc2_w 15, 3) := by decide +kernel
theorem dX5_of_25 : decode cX5_of 25 = .ok (.lreturn, 1) := by decide +kernel
theorem dX5_of_26 : decode cX5_of 26 = .ok (.lload_n 0, 1) := by decide +kernel
theorem dX5_of_27 : decode cX5_of 27 = .ok (.bipush 32, 2) := by decide +kernel
theorem dX5_of_29 : decode cX5_of 29 = .ok (.lshl, 1) := by decide +kernel
theorem dX5_of_30 : decode cX5_of 30 = .ok (.lload_n 2, 1) := by decide +kernel
theorem dX5_of_31 : decode cX5_of 31 = .ok (.ldc2_w 17, 3) := by decide +kernel
theorem dX5_of_34 : decode cX5_of 34 = .ok (.land, 1) := by decide +kernel
theorem dX5_of_35 : decode cX5_of 35 = .ok (.lor, 1) := by decide +kernel
theorem dX5_of_36 : decode cX5_of 36 = .ok (.lreturn, 1) := by decide +kernel
theorem dX5_lowOf_0 : decode cX5_lowOf 0 = .ok (.lload_n 0, 1) := by decide +kernel
theorem dX5_lowOf_1 : decode cX5_lowOf 1 = .ok (.bipush 32, 2) := by decide +kernel
theorem dX5_lowOf_3 : decode cX5_lowOf 3 = .ok (.lshr, 1) := by decide +kernel
theorem dX5_lowOf_4 : decode cX5_lowOf 4 = .ok (.lreturn, 1) := by decide +kernel
theorem dX5_highOf_0 : decode cX5_highOf 0 = .ok (.lload_n 0, 1) := by decide +kernel
theorem dX5_highOf_1 : decode cX5_highOf 1 = .ok (.l2i, 1) := by decide +kernel
theorem dX5_highOf_2 : decode cX5_highOf 2 = .ok (.i2l, 1) := by decide +kernel
theorem dX5_highOf_3 : decode cX5_highOf 3 = .ok (.lreturn, 1) := by decide +kernel
theorem dX5_isHole_0 : decode cX5_isHole 0 = .ok (.lload_n 0, 1) := by decide +kernel
theorem dX5_isHole_1 : decode cX5_isHole 1 = .ok (.ldc2_w 15, 3) := by decide +kernel
theorem dX5_isHole_4 : decode cX5_isHole 4 = .ok (.lcmp, 1) := by decide +kernel
theorem dX5_isHole_5 : decode cX5_isHole 5 = .ok (.ifCond .eq 11, 3) := by decide +kernel
theorem dX5_isHole_8 : decode cX5_isHole 8 = .ok (.lload_n 2, 1) := by decide +kernel
theorem dX5_isHole_9 : decode cX5_isHole 9 = .ok (.ldc2_w 15, 3) := by decide +kernel
theorem dX5_isHole_12 : decode cX5_isHole 12 = .ok (.lcmp, 1) := by decide +kernel
theorem dX5_isHole_13 : decode cX5_isHole 13 = .ok (.ifCond .ne 7, 3) := by decide +kernel
theorem dX5_isHole_16 : decode cX5_isHole 16 = .ok (.iconst 1, 1) := by decide +kernel
theorem dX5_isHole_17 : decode cX5_isHole 17 = .ok (.goto 4, 3) := by decide +kernel
theorem dX5_isHole_20 : decode cX5_isHole 20 = .ok (.iconst 0, 1) := by decide +kernel
theorem dX5_isHole_21 : decode cX5_isHole 21 = .ok (.ireturn, 1) := by decide +kernel
theorem dX5_hasNoZero_0 : decode cX5_hasNoZero 0 = .ok (.lload_n 0, 1) := by decide +kernel
theorem dX5_hasNoZero_1 : decode cX5_hasNoZero 1 = .ok (.ldc2_w 15, 3) := by decide +kernel
theorem dX5_hasNoZero_4 : decode cX5_hasNoZero 4 = .ok (.lcmp, 1) := by decide +kernel
theorem dX5_hasNoZero_5 : decode cX5_hasNoZero 5 = .ok (.ifCond .eq 25, 3) := by decide +kernel
theorem dX5_hasNoZero_8 : decode cX5_hasNoZero 8 = .ok (.lload_n 0, 1) := by decide +kernel
theorem dX5_hasNoZero_9 : decode cX5_hasNoZero 9 = .ok (.invokestatic 19, 3) := by decide +kernel
theorem dX5_hasNoZero_12 : decode cX5_hasNoZero 12 = .ok (.lconst 0, 1) := by decide +kernel
theorem dX5_hasNoZero_13 : decode cX5_hasNoZero 13 = .ok (.lcmp, 1) := by decide +kernel
theorem dX5_hasNoZero_14 : decode cX5_hasNoZero 14 = .ok (.ifCond .gt 12, 3) := by decide +kernel
theorem dX5_hasNoZero_17 : decode cX5_hasNoZero 17 = .ok (.lload_n 0, 1) := by decide +kernel
theorem dX5_hasNoZero_18 : decode cX5_hasNoZero 18 = .ok (.invokestatic 23, 3) := by decide +kernel
theorem dX5_hasNoZero_21 : decode cX5_hasNoZero 21 = .ok (.lconst 0, 1) := by decide +kernel
theorem dX5_hasNoZero_22 : decode cX5_hasNoZero 22 = .ok (.lcmp, 1) := by decide +kernel
theorem dX5_hasNoZero_23 : decode cX5_hasNoZero 23 = .ok (.ifCond .ge 7, 3) := by decide +kernel
theorem dX5_hasNoZero_26 : decode cX5_hasNoZero 26 = .ok (.iconst 1, 1) := by decide +kernel
theorem dX5_hasNoZero_27 : decode cX5_hasNoZero 27 = .ok (.goto 4, 3) := by decide +kernel
theorem dX5_hasNoZero_30 : decode cX5_hasNoZero 30 = .ok (.iconst 0, 1) := by decide +kernel
theorem dX5_hasNoZero_31 : decode cX5_hasNoZero 31 = .ok (.ireturn, 1) := by decide +kernel
theorem dX5_isApart_0 : decode cX5_isApart 0 = .ok (.lload_n 0, 1) := by decide +kernel
theorem dX5_isApart_1 : decode cX5_isApart 1 = .ok (.invokestatic 23, 3) := by decide +kernel
theorem dX5_isApart_4 : decode cX5_isApart 4 = .ok (.lload_n 2, 1) := by decide +kernel
theorem dX5_isApart_5 : decode cX5_isApart 5 = .ok (.invokestatic 19, 3) := by decide +kernel
theorem dX5_isApart_8 : decode cX5_isApart 8 = .ok (.lcmp, 1) := by decide +kernel
theorem dX5_isApart_9 : decode cX5_isApart 9 = .ok (.ifCond .gt 7, 3) := by decide +kernel
theorem dX5_isApart_12 : decode cX5_isApart 12 = .ok (.iconst 1, 1) := by decide +kernel
theorem dX5_isApart_13 : decode cX5_isApart 13 = .ok (.goto 4, 3) := by decide +kernel
theorem dX5_isApart_16 : decode cX5_isApart 16 = .ok (.iconst 0, 1) := by decide +kernel
theorem dX5_isApart_17 : decode cX5_isApart 17 = .ok (.ireturn, 1) := by decide +kernel
theorem dX5_plus_0 : decode cX5_plus 0 = .ok (.lload_n 0, 1) := by decide +kernel
theorem dX5_plus_1 : decode cX5_plus 1 = .ok (.lload_n 2, 1) := by decide +kernel
theorem dX5_plus_2 : decode cX5_plus 2 = .ok (.invokestatic 26, 3) := by decide +kernel
theorem dX5_plus_5 : decode cX5_plus 5 = .ok (.ifCond .eq 9, 3) := by decide +kernel
theorem dX5_plus_8 : decode cX5_plus 8 = .ok (.ldc2_w 15, 3) := by decide +kernel
theorem dX5_plus_11 : decode cX5_plus 11 = .ok (.goto 24, 3) := by decide +kernel
theorem dX5_plus_14 : decode cX5_plus 14 = .ok (.lload_n 0, 1) := by decide +kernel
theorem dX5_plus_15 : decode cX5_plus 15 = .ok (.invokestatic 19, 3) := by decide +kernel
theorem dX5_plus_18 : decode cX5_plus 18 = .ok (.lload_n 2, 1) := by decide +kernel
theorem dX5_plus_19 : decode cX5_plus 19 = .ok (.invokestatic 19, 3) := by decide +kernel
theorem dX5_plus_22 : decode cX5_plus 22 = .ok (.ladd, 1) := by decide +kernel
theorem dX5_plus_23 : decode cX5_plus 23 = .ok (.lload_n 0, 1) := by decide +kernel
theorem dX5_plus_24 : decode cX5_plus 24 = .ok (.invokestatic 23, 3) := by decide +kernel
theorem dX5_plus_27 : decode cX5_plus 27 = .ok (.lload_n 2, 1) := by decide +kernel
theorem dX5_plus_28 : decode cX5_plus 28 = .ok (.invokestatic 23, 3) := by decide +kernel
theorem dX5_plus_31 : decode cX5_plus 31 = .ok (.ladd, 1) := by decide +kernel
theorem dX5_plus_32 : decode cX5_plus 32 = .ok (.invokestatic 30, 3) := by decide +kernel
theorem dX5_plus_35 : decode cX5_plus 35 = .ok (.lreturn, 1) := by decide +kernel
theorem dX5_minus_0 : decode cX5_minus 0 = .ok (.lload_n 0, 1) := by decide +kernel
theorem dX5_minus_1 : decode cX5_minus 1 = .ok (.lload_n 2, 1) := by decide +kernel
theorem dX5_minus_2 : decode cX5_minus 2 = .ok (.invokestatic 26, 3) := by decide +kernel
theorem dX5_minus_5 : decode cX5_minus 5 = .ok (.ifCond .eq 9, 3) := by decide +kernel
theorem dX5_minus_8 : decode cX5_minus 8 = .ok (.ldc2_w 15, 3) := by decide +kernel
theorem dX5_minus_11 : decode cX5_minus 11 = .ok (.goto 24, 3) := by decide +kernel
theorem dX5_minus_14 : decode cX5_minus 14 = .ok (.lload_n 0, 1) := by decide +kernel
theorem dX5_minus_15 : decode cX5_minus 15 = .ok (.invokestatic 19, 3) := by decide +kernel
theorem dX5_minus_18 : decode cX5_minus 18 = .ok (.lload_n 2, 1) := by decide +kernel
theorem dX5_minus_19 : decode cX5_minus 19 = .ok (.invokestatic 23, 3) := by decide +kernel
theorem dX5_minus_22 : decode cX5_minus 22 = .ok (.lsub, 1) := by decide +kernel
theorem dX5_minus_23 : decode cX5_minus 23 = .ok (.lload_n 0, 1) := by decide +kernel
theorem dX5_minus_24 : decode cX5_minus 24 = .ok (.invokestatic 23, 3) := by decide +kernel
theorem dX5_minus_27 : decode cX5_minus 27 = .ok (.lload_n 2, 1) := by decide +kernel
theorem dX5_minus_28 : decode cX5_minus 28 = .ok (.invokestatic 19, 3) := by decide +kernel
theorem dX5_minus_31 : decode cX5_minus 31 = .ok (.lsub, 1) := by decide +kernel
theorem dX5_minus_32 : decode cX5_minus 32 = .ok (.invokestatic 30, 3) := by decide +kernel
theorem dX5_minus_35 : decode cX5_minus 35 = .ok (.lreturn, 1) := by decide +kernel
theorem dX5_turned_0 : decode cX5_turned 0 = .ok (.lload_n 0, 1) := by decide +kernel
theorem dX5_turned_1 : decode cX5_turned 1 = .ok (.ldc2_w 15, 3) := by decide +kernel
theorem dX5_turned_4 : decode cX5_turned 4 = .ok (.lcmp, 1) := by decide +kernel
theorem dX5_turned_5 : decode cX5_turned 5 = .ok (.ifCond .ne 9, 3) := by decide +kernel
theorem dX5_turned_8 : decode cX5_turned 8 = .ok (.ldc2_w 15, 3) := by decide +kernel
theorem dX5_turned_11 : decode cX5_turned 11 = .ok (.goto 16, 3) := by decide +kernel
theorem dX5_turned_14 : decode cX5_turned 14 = .ok (.lload_n 0, 1) := by decide +kernel
theorem dX5_turned_15 : decode cX5_turned 15 = .ok (.invokestatic 23, 3) := by decide +kernel
theorem dX5_turned_18 : decode cX5_turned 18 = .ok (.lneg, 1) := by decide +kernel
theorem dX5_turned_19 : decode cX5_turned 19 = .ok (.lload_n 0, 1) := by decide +kernel
theorem dX5_turned_20 : decode cX5_turned 20 = .ok (.invokestatic 19, 3) := by decide +kernel
theorem dX5_turned_23 : decode cX5_turned 23 = .ok (.lneg, 1) := by decide +kernel
theorem dX5_turned_24 : decode cX5_turned 24 = .ok (.invokestatic 30, 3) := by decide +kernel
theorem dX5_turned_27 : decode cX5_turned 27 = .ok (.lreturn, 1) := by decide +kernel
theorem dX5_times_0 : decode cX5_times 0 = .ok (.lload_n 0, 1) := by decide +kernel
theorem dX5_times_1 : decode cX5_times 1 = .ok (.lload_n 2, 1) := by decide +kernel
theorem dX5_times_2 : decode cX5_times 2 = .ok (.invokestatic 26, 3) := by decide +kernel
theorem dX5_times_5 : decode cX5_times 5 = .ok (.ifCond .eq 7, 3) := by decide +kernel
theorem dX5_times_8 : decode cX5_times 8 = .ok (.ldc2_w 15, 3) := by decide +kernel
theorem dX5_times_11 : decode cX5_times 11 = .ok (.lreturn, 1) := by decide +kernel
theorem dX5_times_12 : decode cX5_times 12 = .ok (.lload_n 0, 1) := by decide +kernel
theorem dX5_times_13 : decode cX5_times 13 = .ok (.invokestatic 19, 3) := by decide +kernel
theorem dX5_times_16 : decode cX5_times 16 = .ok (.lload_n 2, 1) := by decide +kernel
theorem dX5_times_17 : decode cX5_times 17 = .ok (.invokestatic 19, 3) := by decide +kernel
theorem dX5_times_20 : decode cX5_times 20 = .ok (.lmul, 1) := by decide +kernel
theorem dX5_times_21 : decode cX5_times 21 = .ok (.lstore 4, 2) := by decide +kernel
theorem dX5_times_23 : decode cX5_times 23 = .ok (.lload_n 0, 1) := by decide +kernel
theorem dX5_times_24 : decode cX5_times 24 = .ok (.invokestatic 19, 3) := by decide +kernel
theorem dX5_times_27 : decode cX5_times 27 = .ok (.lload_n 2, 1) := by decide +kernel
theorem dX5_times_28 : decode cX5_times 28 = .ok (.invokestatic 23, 3) := by decide +kernel
theorem dX5_times_31 : decode cX5_times 31 = .ok (.lmul, 1) := by decide +kernel
theorem dX5_times_32 : decode cX5_times 32 = .ok (.lstore 6, 2) := by decide +kernel
theorem dX5_times_34 : decode cX5_times 34 = .ok (.lload_n 0, 1) := by decide +kernel
theorem dX5_times_35 : decode cX5_times 35 = .ok (.invokestatic 23, 3) := by decide +kernel
theorem dX5_times_38 : decode cX5_times 38 = .ok (.lload_n 2, 1) := by decide +kernel
theorem dX5_times_39 : decode cX5_times 39 = .ok (.invokestatic 19, 3) := by decide +kernel
theorem dX5_times_42 : decode cX5_times 42 = .ok (.lmul, 1) := by decide +kernel
theorem dX5_times_43 : decode cX5_times 43 = .ok (.lstore 8, 2) := by decide +kernel
theorem dX5_times_45 : decode cX5_times 45 = .ok (.lload_n 0, 1) := by decide +kernel
theorem dX5_times_46 : decode cX5_times 46 = .ok (.invokestatic 23, 3) := by decide +kernel
theorem dX5_times_49 : decode cX5_times 49 = .ok (.lload_n 2, 1) := by decide +kernel
theorem dX5_times_50 : decode cX5_times 50 = .ok (.invokestatic 23, 3) := by decide +kernel
theorem dX5_times_53 : decode cX5_times 53 = .ok (.lmul, 1) := by decide +kernel
theorem dX5_times_54 : decode cX5_times 54 = .ok (.lstore 10, 2) := by decide +kernel
theorem dX5_times_56 : decode cX5_times 56 = .ok (.lload 4, 2) := by decide +kernel
theorem dX5_times_58 : decode cX5_times 58 = .ok (.lload 6, 2) := by decide +kernel
theorem dX5_times_60 : decode cX5_times 60 = .ok (.invokestatic 34, 3) := by decide +kernel
theorem dX5_times_63 : decode cX5_times 63 = .ok (.lload 8, 2) := by decide +kernel
theorem dX5_times_65 : decode cX5_times 65 = .ok (.lload 10, 2) := by decide +kernel
theorem dX5_times_67 : decode cX5_times 67 = .ok (.invokestatic 34, 3) := by decide +kernel
theorem dX5_times_70 : decode cX5_times 70 = .ok (.invokestatic 34, 3) := by decide +kernel
theorem dX5_times_73 : decode cX5_times 73 = .ok (.lstore 12, 2) := by decide +kernel
theorem dX5_times_75 : decode cX5_times 75 = .ok (.lload 4, 2) := by decide +kernel
theorem dX5_times_77 : decode cX5_times 77 = .ok (.lload 6, 2) := by decide +kernel
theorem dX5_times_79 : decode cX5_times 79 = .ok (.invokestatic 39, 3) := by decide +kernel
theorem dX5_times_82 : decode cX5_times 82 = .ok (.lload 8, 2) := by decide +kernel
theorem dX5_times_84 : decode cX5_times 84 = .ok (.lload 10, 2) := by decide +kernel
theorem dX5_times_86 : decode cX5_times 86 = .ok (.invokestatic 39, 3) := by decide +kernel
theorem dX5_times_89 : decode cX5_times 89 = .ok (.invokestatic 39, 3) := by decide +kernel
theorem dX5_times_92 : decode cX5_times 92 = .ok (.lstore 14, 2) := by decide +kernel
theorem dX5_times_94 : decode cX5_times 94 = .ok (.lload 12, 2) := by decide +kernel
theorem dX5_times_96 : decode cX5_times 96 = .ok (.bipush 20, 2) := by decide +kernel
theorem dX5_times_98 : decode cX5_times 98 = .ok (.lshr, 1) := by decide +kernel
theorem dX5_times_99 : decode cX5_times 99 = .ok (.lload 14, 2) := by decide +kernel
theorem dX5_times_101 : decode cX5_times 101 = .ok (.lneg, 1) := by decide +kernel
theorem dX5_times_102 : decode cX5_times 102 = .ok (.bipush 20, 2) := by decide +kernel
theorem dX5_times_104 : decode cX5_times 104 = .ok (.lshr, 1) := by decide +kernel
theorem dX5_times_105 : decode cX5_times 105 = .ok (.lneg, 1) := by decide +kernel
theorem dX5_times_106 : decode cX5_times 106 = .ok (.invokestatic 30, 3) := by decide +kernel
theorem dX5_times_109 : decode cX5_times 109 = .ok (.lreturn, 1) := by decide +kernel
theorem dX5_over_0 : decode cX5_over 0 = .ok (.lload_n 0, 1) := by decide +kernel
theorem dX5_over_1 : decode cX5_over 1 = .ok (.lload_n 2, 1) := by decide +kernel
theorem dX5_over_2 : decode cX5_over 2 = .ok (.invokestatic 26, 3) := by decide +kernel
theorem dX5_over_5 : decode cX5_over 5 = .ok (.ifCond .ne 10, 3) := by decide +kernel
theorem dX5_over_8 : decode cX5_over 8 = .ok (.lload_n 2, 1) := by decide +kernel
theorem dX5_over_9 : decode cX5_over 9 = .ok (.invokestatic 42, 3) := by decide +kernel
theorem dX5_over_12 : decode cX5_over 12 = .ok (.ifCond .ne 7, 3) := by decide +kernel
theorem dX5_over_15 : decode cX5_over 15 = .ok (.ldc2_w 15, 3) := by decide +kernel
theorem dX5_over_18 : decode cX5_over 18 = .ok (.lreturn, 1) := by decide +kernel
theorem dX5_over_19 : decode cX5_over 19 = .ok (.lload_n 0, 1) := by decide +kernel
theorem dX5_over_20 : decode cX5_over 20 = .ok (.invokestatic 19, 3) := by decide +kernel
theorem dX5_over_23 : decode cX5_over 23 = .ok (.bipush 20, 2) := by decide +kernel
theorem dX5_over_25 : decode cX5_over 25 = .ok (.lshl, 1) := by decide +kernel
theorem dX5_over_26 : decode cX5_over 26 = .ok (.lstore 4, 2) := by decide +kernel
theorem dX5_over_28 : decode cX5_over 28 = .ok (.lload_n 0, 1) := by decide +kernel
theorem dX5_over_29 : decode cX5_over 29 = .ok (.invokestatic 23, 3) := by decide +kernel
theorem dX5_over_32 : decode cX5_over 32 = .ok (.bipush 20, 2) := by decide +kernel
theorem dX5_over_34 : decode cX5_over 34 = .ok (.lshl, 1) := by decide +kernel
theorem dX5_over_35 : decode cX5_over 35 = .ok (.lstore 6, 2) := by decide +kernel
theorem dX5_over_37 : decode cX5_over 37 = .ok (.lload_n 2, 1) := by decide +kernel
theorem dX5_over_38 : decode cX5_over 38 = .ok (.invokestatic 19, 3) := by decide +kernel
theorem dX5_over_41 : decode cX5_over 41 = .ok (.lstore 8, 2) := by decide +kernel
theorem dX5_over_43 : decode cX5_over 43 = .ok (.lload_n 2, 1) := by decide +kernel
theorem dX5_over_44 : decode cX5_over 44 = .ok (.invokestatic 23, 3) := by decide +kernel
theorem dX5_over_47 : decode cX5_over 47 = .ok (.lstore 10, 2) := by decide +kernel
theorem dX5_over_49 : decode cX5_over 49 = .ok (.lload 8, 2) := by decide +kernel
theorem dX5_over_51 : decode cX5_over 51 = .ok (.lconst 0, 1) := by decide +kernel
theorem dX5_over_52 : decode cX5_over 52 = .ok (.lcmp, 1) := by decide +kernel
theorem dX5_over_53 : decode cX5_over 53 = .ok (.ifCond .eq 10, 3) := by decide +kernel
theorem dX5_over_56 : decode cX5_over 56 = .ok (.lload 10, 2) := by decide +kernel
theorem dX5_over_58 : decode cX5_over 58 = .ok (.lconst 0, 1) := by decide +kernel
theorem dX5_over_59 : decode cX5_over 59 = .ok (.lcmp, 1) := by decide +kernel
theorem dX5_over_60 : decode cX5_over 60 = .ok (.ifCond .ne 7, 3) := by decide +kernel
theorem dX5_over_63 : decode cX5_over 63 = .ok (.ldc2_w 15, 3) := by decide +kernel
theorem dX5_over_66 : decode cX5_over 66 = .ok (.lreturn, 1) := by decide +kernel
theorem dX5_over_67 : decode cX5_over 67 = .ok (.lload 4, 2) := by decide +kernel
theorem dX5_over_69 : decode cX5_over 69 = .ok (.lload 8, 2) := by decide +kernel
theorem dX5_over_71 : decode cX5_over 71 = .ok (.invokestatic 46, 3) := by decide +kernel
theorem dX5_over_74 : decode cX5_over 74 = .ok (.lload 4, 2) := by decide +kernel
theorem dX5_over_76 : decode cX5_over 76 = .ok (.lload 10, 2) := by decide +kernel
theorem dX5_over_78 : decode cX5_over 78 = .ok (.invokestatic 46, 3) := by decide +kernel
theorem dX5_over_81 : decode cX5_over 81 = .ok (.invokestatic 34, 3) := by decide +kernel
theorem dX5_over_84 : decode cX5_over 84 = .ok (.lload 6, 2) := by decide +kernel
theorem dX5_over_86 : decode cX5_over 86 = .ok (.lload 8, 2) := by decide +kernel
theorem dX5_over_88 : decode cX5_over 88 = .ok (.invokestatic 46, 3) := by decide +kernel
theorem dX5_over_91 : decode cX5_over 91 = .ok (.lload 6, 2) := by decide +kernel
theorem dX5_over_93 : decode cX5_over 93 = .ok (.lload 10, 2) := by decide +kernel
theorem dX5_over_95 : decode cX5_over 95 = .ok (.invokestatic 46, 3) := by decide +kernel
theorem dX5_over_98 : decode cX5_over 98 = .ok (.invokestatic 34, 3) := by decide +kernel
theorem dX5_over_101 : decode cX5_over 101 = .ok (.invokestatic 34, 3) := by decide +kernel
theorem dX5_over_104 : decode cX5_over 104 = .ok (.lstore 12, 2) := by decide +kernel
theorem dX5_over_106 : decode cX5_over 106 = .ok (.lload 4, 2) := by decide +kernel
theorem dX5_over_108 : decode cX5_over 108 = .ok (.lneg, 1) := by decide +kernel
theorem dX5_over_109 : decode cX5_over 109 = .ok (.lload 8, 2) := by decide +kernel
theorem dX5_over_111 : decode cX5_over 111 = .ok (.invokestatic 46, 3) := by decide +kernel
theorem dX5_over_114 : decode cX5_over 114 = .ok (.lload 4, 2) := by decide +kernel
theorem dX5_over_116 : decode cX5_over 116 = .ok (.lneg, 1) := by decide +kernel
theorem dX5_over_117 : decode cX5_over 117 = .ok (.lload 10, 2) := by decide +kernel
theorem dX5_over_119 : decode cX5_over 119 = .ok (.invokestatic 46, 3) := by decide +kernel
theorem dX5_over_122 : decode cX5_over 122 = .ok (.invokestatic 34, 3) := by decide +kernel
theorem dX5_over_125 : decode cX5_over 125 = .ok (.lload 6, 2) := by decide +kernel
theorem dX5_over_127 : decode cX5_over 127 = .ok (.lneg, 1) := by decide +kernel
theorem dX5_over_128 : decode cX5_over 128 = .ok (.lload 8, 2) := by decide +kernel
theorem dX5_over_130 : decode cX5_over 130 = .ok (.invokestatic 46, 3) := by decide +kernel
theorem dX5_over_133 : decode cX5_over 133 = .ok (.lload 6, 2) := by decide +kernel
theorem dX5_over_135 : decode cX5_over 135 = .ok (.lneg, 1) := by decide +kernel
theorem dX5_over_136 : decode cX5_over 136 = .ok (.lload 10, 2) := by decide +kernel
theorem dX5_over_138 : decode cX5_over 138 = .ok (.invokestatic 46, 3) := by decide +kernel
theorem dX5_over_141 : decode cX5_over 141 = .ok (.invokestatic 34, 3) := by decide +kernel
theorem dX5_over_144 : decode cX5_over 144 = .ok (.invokestatic 34, 3) := by decide +kernel
theorem dX5_over_147 : decode cX5_over 147 = .ok (.lneg, 1) := by decide +kernel
theorem dX5_over_148 : decode cX5_over 148 = .ok (.lstore 14, 2) := by decide +kernel
theorem dX5_over_150 : decode cX5_over 150 = .ok (.lload 12, 2) := by decide +kernel
theorem dX5_over_152 : decode cX5_over 152 = .ok (.lload 14, 2) := by decide +kernel
theorem dX5_over_154 : decode cX5_over 154 = .ok (.invokestatic 30, 3) := by decide +kernel
theorem dX5_over_157 : decode cX5_over 157 = .ok (.lreturn, 1) := by decide +kernel
theorem dX5_power_0 : decode cX5_power 0 = .ok (.lload_n 0, 1) := by decide +kernel
theorem dX5_power_1 : decode cX5_power 1 = .ok (.ldc2_w 15, 3) := by decide +kernel
theorem dX5_power_4 : decode cX5_power 4 = .ok (.lcmp, 1) := by decide +kernel
theorem dX5_power_5 : decode cX5_power 5 = .ok (.ifCond .ne 7, 3) := by decide +kernel
theorem dX5_power_8 : decode cX5_power 8 = .ok (.ldc2_w 15, 3) := by decide +kernel
theorem dX5_power_11 : decode cX5_power 11 = .ok (.lreturn, 1) := by decide +kernel
theorem dX5_power_12 : decode cX5_power 12 = .ok (.lload_n 0, 1) := by decide +kernel
theorem dX5_power_13 : decode cX5_power 13 = .ok (.invokestatic 19, 3) := by decide +kernel
theorem dX5_power_16 : decode cX5_power 16 = .ok (.lstore 4, 2) := by decide +kernel
theorem dX5_power_18 : decode cX5_power 18 = .ok (.lload_n 0, 1) := by decide +kernel
theorem dX5_power_19 : decode cX5_power 19 = .ok (.invokestatic 23, 3) := by decide +kernel
theorem dX5_power_22 : decode cX5_power 22 = .ok (.lstore 6, 2) := by decide +kernel
theorem dX5_power_24 : decode cX5_power 24 = .ok (.lload_n 2, 1) := by decide +kernel
theorem dX5_power_25 : decode cX5_power 25 = .ok (.lconst 1, 1) := by decide +kernel
theorem dX5_power_26 : decode cX5_power 26 = .ok (.land, 1) := by decide +kernel
theorem dX5_power_27 : decode cX5_power 27 = .ok (.lconst 1, 1) := by decide +kernel
theorem dX5_power_28 : decode cX5_power 28 = .ok (.lcmp, 1) := by decide +kernel
theorem dX5_power_29 : decode cX5_power 29 = .ok (.ifCond .ne 63, 3) := by decide +kernel
theorem dX5_power_32 : decode cX5_power 32 = .ok (.lload 4, 2) := by decide +kernel
theorem dX5_power_34 : decode cX5_power 34 = .ok (.lconst 0, 1) := by decide +kernel
theorem dX5_power_35 : decode cX5_power 35 = .ok (.lcmp, 1) := by decide +kernel
theorem dX5_power_36 : decode cX5_power 36 = .ok (.ifCond .ge 14, 3) := by decide +kernel
theorem dX5_power_39 : decode cX5_power 39 = .ok (.lload 4, 2) := by decide +kernel
theorem dX5_power_41 : decode cX5_power 41 = .ok (.lneg, 1) := by decide +kernel
theorem dX5_power_42 : decode cX5_power 42 = .ok (.lload_n 2, 1) := by decide +kernel
theorem dX5_power_43 : decode cX5_power 43 = .ok (.invokestatic 49, 3) := by decide +kernel
theorem dX5_power_46 : decode cX5_power 46 = .ok (.lneg, 1) := by decide +kernel
theorem dX5_power_47 : decode cX5_power 47 = .ok (.goto 9, 3) := by decide +kernel
theorem dX5_power_50 : decode cX5_power 50 = .ok (.lload 4, 2) := by decide +kernel
theorem dX5_power_52 : decode cX5_power 52 = .ok (.lload_n 2, 1) := by decide +kernel
theorem dX5_power_53 : decode cX5_power 53 = .ok (.invokestatic 52, 3) := by decide +kernel
theorem dX5_power_56 : decode cX5_power 56 = .ok (.lstore 8, 2) := by decide +kernel
theorem dX5_power_58 : decode cX5_power 58 = .ok (.lload 6, 2) := by decide +kernel
theorem dX5_power_60 : decode cX5_power 60 = .ok (.lconst 0, 1) := by decide +kernel
theorem dX5_power_61 : decode cX5_power 61 = .ok (.lcmp, 1) := by decide +kernel
theorem dX5_power_62 : decode cX5_power 62 = .ok (.ifCond .ge 14, 3) := by decide +kernel
theorem dX5_power_65 : decode cX5_power 65 = .ok (.lload 6, 2) := by decide +kernel
theorem dX5_power_67 : decode cX5_power 67 = .ok (.lneg, 1) := by decide +kernel
theorem dX5_power_68 : decode cX5_power 68 = .ok (.lload_n 2, 1) := by decide +kernel
theorem dX5_power_69 : decode cX5_power 69 = .ok (.invokestatic 52, 3) := by decide +kernel
theorem dX5_power_72 : decode cX5_power 72 = .ok (.lneg, 1) := by decide +kernel
theorem dX5_power_73 : decode cX5_power 73 = .ok (.goto 9, 3) := by decide +kernel
theorem dX5_power_76 : decode cX5_power 76 = .ok (.lload 6, 2) := by decide +kernel
theorem dX5_power_78 : decode cX5_power 78 = .ok (.lload_n 2, 1) := by decide +kernel
theorem dX5_power_79 : decode cX5_power 79 = .ok (.invokestatic 49, 3) := by decide +kernel
theorem dX5_power_82 : decode cX5_power 82 = .ok (.lstore 10, 2) := by decide +kernel
theorem dX5_power_84 : decode cX5_power 84 = .ok (.lload 8, 2) := by decide +kernel
theorem dX5_power_86 : decode cX5_power 86 = .ok (.lload 10, 2) := by decide +kernel
theorem dX5_power_88 : decode cX5_power 88 = .ok (.invokestatic 30, 3) := by decide +kernel
theorem dX5_power_91 : decode cX5_power 91 = .ok (.lreturn, 1) := by decide +kernel
theorem dX5_power_92 : decode cX5_power 92 = .ok (.lload 4, 2) := by decide +kernel
theorem dX5_power_94 : decode cX5_power 94 = .ok (.lconst 0, 1) := by decide +kernel
theorem dX5_power_95 : decode cX5_power 95 = .ok (.lcmp, 1) := by decide +kernel
theorem dX5_power_96 : decode cX5_power 96 = .ok (.ifCond .gt 14, 3) := by decide +kernel
theorem dX5_power_99 : decode cX5_power 99 = .ok (.lload 6, 2) := by decide +kernel
theorem dX5_power_101 : decode cX5_power 101 = .ok (.lconst 0, 1) := by decide +kernel
theorem dX5_power_102 : decode cX5_power 102 = .ok (.lcmp, 1) := by decide +kernel
theorem dX5_power_103 : decode cX5_power 103 = .ok (.ifCond .lt 7, 3) := by decide +kernel
theorem dX5_power_106 : decode cX5_power 106 = .ok (.lconst 0, 1) := by decide +kernel
theorem dX5_power_107 : decode cX5_power 107 = .ok (.goto 16, 3) := by decide +kernel
theorem dX5_power_110 : decode cX5_power 110 = .ok (.lload 4, 2) := by decide +kernel
theorem dX5_power_112 : decode cX5_power 112 = .ok (.invokestatic 55, 3) := by decide +kernel
theorem dX5_power_115 : decode cX5_power 115 = .ok (.lload 6, 2) := by decide +kernel
theorem dX5_power_117 : decode cX5_power 117 = .ok (.invokestatic 55, 3) := by decide +kernel
theorem dX5_power_120 : decode cX5_power 120 = .ok (.invokestatic 34, 3) := by decide +kernel
theorem dX5_power_123 : decode cX5_power 123 = .ok (.lstore 8, 2) := by decide +kernel
theorem dX5_power_125 : decode cX5_power 125 = .ok (.lload 8, 2) := by decide +kernel
theorem dX5_power_127 : decode cX5_power 127 = .ok (.lload_n 2, 1) := by decide +kernel
theorem dX5_power_128 : decode cX5_power 128 = .ok (.invokestatic 52, 3) := by decide +kernel
theorem dX5_power_131 : decode cX5_power 131 = .ok (.lload 4, 2) := by decide +kernel
theorem dX5_power_133 : decode cX5_power 133 = .ok (.invokestatic 55, 3) := by decide +kernel
theorem dX5_power_136 : decode cX5_power 136 = .ok (.lload 6, 2) := by decide +kernel
theorem dX5_power_138 : decode cX5_power 138 = .ok (.invokestatic 55, 3) := by decide +kernel
theorem dX5_power_141 : decode cX5_power 141 = .ok (.invokestatic 39, 3) := by decide +kernel
theorem dX5_power_144 : decode cX5_power 144 = .ok (.lload_n 2, 1) := by decide +kernel
theorem dX5_power_145 : decode cX5_power 145 = .ok (.invokestatic 49, 3) := by decide +kernel
theorem dX5_power_148 : decode cX5_power 148 = .ok (.invokestatic 30, 3) := by decide +kernel
theorem dX5_power_151 : decode cX5_power 151 = .ok (.lreturn, 1) := by decide +kernel
theorem dX5_grownDown_0 : decode cX5_grownDown 0 = .ok (.lload_n 0, 1) := by decide +kernel
theorem dX5_grownDown_1 : decode cX5_grownDown 1 = .ok (.lstore 4, 2) := by decide +kernel
theorem dX5_grownDown_3 : decode cX5_grownDown 3 = .ok (.lconst 1, 1) := by decide +kernel
theorem dX5_grownDown_4 : decode cX5_grownDown 4 = .ok (.lstore 6, 2) := by decide +kernel
theorem dX5_grownDown_6 : decode cX5_grownDown 6 = .ok (.lload 6, 2) := by decide +kernel
theorem dX5_grownDown_8 : decode cX5_grownDown 8 = .ok (.lload_n 2, 1) := by decide +kernel
theorem dX5_grownDown_9 : decode cX5_grownDown 9 = .ok (.lcmp, 1) := by decide +kernel
theorem dX5_grownDown_10 : decode cX5_grownDown 10 = .ok (.ifCond .ge 30, 3) := by decide +kernel
theorem dX5_grownDown_13 : decode cX5_grownDown 13 = .ok (.lload 4, 2) := by decide +kernel
theorem dX5_grownDown_15 : decode cX5_grownDown 15 = .ok (.ldc2_w 58, 3) := by decide +kernel
theorem dX5_grownDown_18 : decode cX5_grownDown 18 = .ok (.lcmp, 1) := by decide +kernel
theorem dX5_grownDown_19 : decode cX5_grownDown 19 = .ok (.ifCond .gt 21, 3) := by decide +kernel
theorem dX5_grownDown_22 : decode cX5_grownDown 22 = .ok (.lload 4, 2) := by decide +kernel
theorem dX5_grownDown_24 : decode cX5_grownDown 24 = .ok (.lload_n 0, 1) := by decide +kernel
theorem dX5_grownDown_25 : decode cX5_grownDown 25 = .ok (.lmul, 1) := by decide +kernel
theorem dX5_grownDown_26 : decode cX5_grownDown 26 = .ok (.bipush 20, 2) := by decide +kernel
theorem dX5_grownDown_28 : decode cX5_grownDown 28 = .ok (.lshr, 1) := by decide +kernel
theorem dX5_grownDown_29 : decode cX5_grownDown 29 = .ok (.lstore 4, 2) := by decide +kernel
theorem dX5_grownDown_31 : decode cX5_grownDown 31 = .ok (.lload 6, 2) := by decide +kernel
theorem dX5_grownDown_33 : decode cX5_grownDown 33 = .ok (.lconst 1, 1) := by decide +kernel
theorem dX5_grownDown_34 : decode cX5_grownDown 34 = .ok (.ladd, 1) := by decide +kernel
theorem dX5_grownDown_35 : decode cX5_grownDown 35 = .ok (.lstore 6, 2) := by decide +kernel
theorem dX5_grownDown_37 : decode cX5_grownDown 37 = .ok (.goto (-31), 3) := by decide +kernel
theorem dX5_grownDown_40 : decode cX5_grownDown 40 = .ok (.lload 4, 2) := by decide +kernel
theorem dX5_grownDown_42 : decode cX5_grownDown 42 = .ok (.ldc2_w 58, 3) := by decide +kernel
theorem dX5_grownDown_45 : decode cX5_grownDown 45 = .ok (.lcmp, 1) := by decide +kernel
theorem dX5_grownDown_46 : decode cX5_grownDown 46 = .ok (.ifCond .le 9, 3) := by decide +kernel
theorem dX5_grownDown_49 : decode cX5_grownDown 49 = .ok (.ldc2_w 60, 3) := by decide +kernel
theorem dX5_grownDown_52 : decode cX5_grownDown 52 = .ok (.goto 5, 3) := by decide +kernel
theorem dX5_grownDown_55 : decode cX5_grownDown 55 = .ok (.lload 4, 2) := by decide +kernel
theorem dX5_grownDown_57 : decode cX5_grownDown 57 = .ok (.lreturn, 1) := by decide +kernel
theorem dX5_grownUp_0 : decode cX5_grownUp 0 = .ok (.lload_n 0, 1) := by decide +kernel
theorem dX5_grownUp_1 : decode cX5_grownUp 1 = .ok (.lstore 4, 2) := by decide +kernel
theorem dX5_grownUp_3 : decode cX5_grownUp 3 = .ok (.lconst 1, 1) := by decide +kernel
theorem dX5_grownUp_4 : decode cX5_grownUp 4 = .ok (.lstore 6, 2) := by decide +kernel
theorem dX5_grownUp_6 : decode cX5_grownUp 6 = .ok (.lload 6, 2) := by decide +kernel
theorem dX5_grownUp_8 : decode cX5_grownUp 8 = .ok (.lload_n 2, 1) := by decide +kernel
theorem dX5_grownUp_9 : decode cX5_grownUp 9 = .ok (.lcmp, 1) := by decide +kernel
theorem dX5_grownUp_10 : decode cX5_grownUp 10 = .ok (.ifCond .ge 36, 3) := by decide +kernel
theorem dX5_grownUp_13 : decode cX5_grownUp 13 = .ok (.lload 4, 2) := by decide +kernel
theorem dX5_grownUp_15 : decode cX5_grownUp 15 = .ok (.ldc2_w 58, 3) := by decide +kernel
theorem dX5_grownUp_18 : decode cX5_grownUp 18 = .ok (.lcmp, 1) := by decide +kernel
theorem dX5_grownUp_19 : decode cX5_grownUp 19 = .ok (.ifCond .gt 27, 3) := by decide +kernel
theorem dX5_grownUp_22 : decode cX5_grownUp 22 = .ok (.lload 4, 2) := by decide +kernel
theorem dX5_grownUp_24 : decode cX5_grownUp 24 = .ok (.lload_n 0, 1) := by decide +kernel
theorem dX5_grownUp_25 : decode cX5_grownUp 25 = .ok (.lmul, 1) := by decide +kernel
theorem dX5_grownUp_26 : decode cX5_grownUp 26 = .ok (.ldc2_w 62, 3) := by decide +kernel
theorem dX5_grownUp_29 : decode cX5_grownUp 29 = .ok (.ladd, 1) := by decide +kernel
theorem dX5_grownUp_30 : decode cX5_grownUp 30 = .ok (.lconst 1, 1) := by decide +kernel
theorem dX5_grownUp_31 : decode cX5_grownUp 31 = .ok (.lsub, 1) := by decide +kernel
theorem dX5_grownUp_32 : decode cX5_grownUp 32 = .ok (.bipush 20, 2) := by decide +kernel
theorem dX5_grownUp_34 : decode cX5_grownUp 34 = .ok (.lshr, 1) := by decide +kernel
theorem dX5_grownUp_35 : decode cX5_grownUp 35 = .ok (.lstore 4, 2) := by decide +kernel
theorem dX5_grownUp_37 : decode cX5_grownUp 37 = .ok (.lload 6, 2) := by decide +kernel
theorem dX5_grownUp_39 : decode cX5_grownUp 39 = .ok (.lconst 1, 1) := by decide +kernel
theorem dX5_grownUp_40 : decode cX5_grownUp 40 = .ok (.ladd, 1) := by decide +kernel
theorem dX5_grownUp_41 : decode cX5_grownUp 41 = .ok (.lstore 6, 2) := by decide +kernel
theorem dX5_grownUp_43 : decode cX5_grownUp 43 = .ok (.goto (-37), 3) := by decide +kernel
theorem dX5_grownUp_46 : decode cX5_grownUp 46 = .ok (.lload 4, 2) := by decide +kernel
theorem dX5_grownUp_48 : decode cX5_grownUp 48 = .ok (.ldc2_w 58, 3) := by decide +kernel
theorem dX5_grownUp_51 : decode cX5_grownUp 51 = .ok (.lcmp, 1) := by decide +kernel
theorem dX5_grownUp_52 : decode cX5_grownUp 52 = .ok (.ifCond .le 9, 3) := by decide +kernel
theorem dX5_grownUp_55 : decode cX5_grownUp 55 = .ok (.ldc2_w 60, 3) := by decide +kernel
theorem dX5_grownUp_58 : decode cX5_grownUp 58 = .ok (.goto 5, 3) := by decide +kernel
theorem dX5_grownUp_61 : decode cX5_grownUp 61 = .ok (.lload 4, 2) := by decide +kernel
theorem dX5_grownUp_63 : decode cX5_grownUp 63 = .ok (.lreturn, 1) := by decide +kernel
theorem dX5_size_0 : decode cX5_size 0 = .ok (.lload_n 0, 1) := by decide +kernel
theorem dX5_size_1 : decode cX5_size 1 = .ok (.ldc2_w 15, 3) := by decide +kernel
theorem dX5_size_4 : decode cX5_size 4 = .ok (.lcmp, 1) := by decide +kernel
theorem dX5_size_5 : decode cX5_size 5 = .ok (.ifCond .eq 12, 3) := by decide +kernel
theorem dX5_size_8 : decode cX5_size 8 = .ok (.lload_n 0, 1) := by decide +kernel
theorem dX5_size_9 : decode cX5_size 9 = .ok (.invokestatic 19, 3) := by decide +kernel
theorem dX5_size_12 : decode cX5_size 12 = .ok (.lconst 0, 1) := by decide +kernel
theorem dX5_size_13 : decode cX5_size 13 = .ok (.lcmp, 1) := by decide +kernel
theorem dX5_size_14 : decode cX5_size 14 = .ok (.ifCond .lt 5, 3) := by decide +kernel
theorem dX5_size_17 : decode cX5_size 17 = .ok (.lload_n 0, 1) := by decide +kernel
theorem dX5_size_18 : decode cX5_size 18 = .ok (.lreturn, 1) := by decide +kernel
theorem dX5_size_19 : decode cX5_size 19 = .ok (.lload_n 0, 1) := by decide +kernel
theorem dX5_size_20 : decode cX5_size 20 = .ok (.invokestatic 23, 3) := by decide +kernel
theorem dX5_size_23 : decode cX5_size 23 = .ok (.lconst 0, 1) := by decide +kernel
theorem dX5_size_24 : decode cX5_size 24 = .ok (.lcmp, 1) := by decide +kernel
theorem dX5_size_25 : decode cX5_size 25 = .ok (.ifCond .gt 10, 3) := by decide +kernel
theorem dX5_size_28 : decode cX5_size 28 = .ok (.lload_n 0, 1) := by decide +kernel
theorem dX5_size_29 : decode cX5_size 29 = .ok (.invokestatic 64, 3) := by decide +kernel
theorem dX5_size_32 : decode cX5_size 32 = .ok (.goto 19, 3) := by decide +kernel
theorem dX5_size_35 : decode cX5_size 35 = .ok (.lconst 0, 1) := by decide +kernel
theorem dX5_size_36 : decode cX5_size 36 = .ok (.lload_n 0, 1) := by decide +kernel
theorem dX5_size_37 : decode cX5_size 37 = .ok (.invokestatic 19, 3) := by decide +kernel
theorem dX5_size_40 : decode cX5_size 40 = .ok (.lneg, 1) := by decide +kernel
theorem dX5_size_41 : decode cX5_size 41 = .ok (.lload_n 0, 1) := by decide +kernel
theorem dX5_size_42 : decode cX5_size 42 = .ok (.invokestatic 23, 3) := by decide +kernel
theorem dX5_size_45 : decode cX5_size 45 = .ok (.invokestatic 39, 3) := by decide +kernel
theorem dX5_size_48 : decode cX5_size 48 = .ok (.invokestatic 30, 3) := by decide +kernel
theorem dX5_size_51 : decode cX5_size 51 = .ok (.lreturn, 1) := by decide +kernel
theorem dX5_lesser_0 : decode cX5_lesser 0 = .ok (.lload_n 0, 1) := by decide +kernel
theorem dX5_lesser_1 : decode cX5_lesser 1 = .ok (.lload_n 2, 1) := by decide +kernel
theorem dX5_lesser_2 : decode cX5_lesser 2 = .ok (.invokestatic 26, 3) := by decide +kernel
theorem dX5_lesser_5 : decode cX5_lesser 5 = .ok (.ifCond .eq 9, 3) := by decide +kernel
theorem dX5_lesser_8 : decode cX5_lesser 8 = .ok (.ldc2_w 15, 3) := by decide +kernel
theorem dX5_lesser_11 : decode cX5_lesser 11 = .ok (.goto 28, 3) := by decide +kernel
theorem dX5_lesser_14 : decode cX5_lesser 14 = .ok (.lload_n 0, 1) := by decide +kernel
theorem dX5_lesser_15 : decode cX5_lesser 15 = .ok (.invokestatic 19, 3) := by decide +kernel
theorem dX5_lesser_18 : decode cX5_lesser 18 = .ok (.lload_n 2, 1) := by decide +kernel
theorem dX5_lesser_19 : decode cX5_lesser 19 = .ok (.invokestatic 19, 3) := by decide +kernel
theorem dX5_lesser_22 : decode cX5_lesser 22 = .ok (.invokestatic 34, 3) := by decide +kernel
theorem dX5_lesser_25 : decode cX5_lesser 25 = .ok (.lload_n 0, 1) := by decide +kernel
theorem dX5_lesser_26 : decode cX5_lesser 26 = .ok (.invokestatic 23, 3) := by decide +kernel
theorem dX5_lesser_29 : decode cX5_lesser 29 = .ok (.lload_n 2, 1) := by decide +kernel
theorem dX5_lesser_30 : decode cX5_lesser 30 = .ok (.invokestatic 23, 3) := by decide +kernel
theorem dX5_lesser_33 : decode cX5_lesser 33 = .ok (.invokestatic 34, 3) := by decide +kernel
theorem dX5_lesser_36 : decode cX5_lesser 36 = .ok (.invokestatic 30, 3) := by decide +kernel
theorem dX5_lesser_39 : decode cX5_lesser 39 = .ok (.lreturn, 1) := by decide +kernel
theorem dX5_greater_0 : decode cX5_greater 0 = .ok (.lload_n 0, 1) := by decide +kernel
theorem dX5_greater_1 : decode cX5_greater 1 = .ok (.lload_n 2, 1) := by decide +kernel
theorem dX5_greater_2 : decode cX5_greater 2 = .ok (.invokestatic 26, 3) := by decide +kernel
theorem dX5_greater_5 : decode cX5_greater 5 = .ok (.ifCond .eq 9, 3) := by decide +kernel
theorem dX5_greater_8 : decode cX5_greater 8 = .ok (.ldc2_w 15, 3) := by decide +kernel
theorem dX5_greater_11 : decode cX5_greater 11 = .ok (.goto 28, 3) := by decide +kernel
theorem dX5_greater_14 : decode cX5_greater 14 = .ok (.lload_n 0, 1) := by decide +kernel
theorem dX5_greater_15 : decode cX5_greater 15 = .ok (.invokestatic 19, 3) := by decide +kernel
theorem dX5_greater_18 : decode cX5_greater 18 = .ok (.lload_n 2, 1) := by decide +kernel
theorem dX5_greater_19 : decode cX5_greater 19 = .ok (.invokestatic 19, 3) := by decide +kernel
theorem dX5_greater_22 : decode cX5_greater 22 = .ok (.invokestatic 39, 3) := by decide +kernel
theorem dX5_greater_25 : decode cX5_greater 25 = .ok (.lload_n 0, 1) := by decide +kernel
theorem dX5_greater_26 : decode cX5_greater 26 = .ok (.invokestatic 23, 3) := by decide +kernel
theorem dX5_greater_29 : decode cX5_greater 29 = .ok (.lload_n 2, 1) := by decide +kernel
theorem dX5_greater_30 : decode cX5_greater 30 = .ok (.invokestatic 23, 3) := by decide +kernel
theorem dX5_greater_33 : decode cX5_greater 33 = .ok (.invokestatic 39, 3) := by decide +kernel
theorem dX5_greater_36 : decode cX5_greater 36 = .ok (.invokestatic 30, 3) := by decide +kernel
theorem dX5_greater_39 : decode cX5_greater 39 = .ok (.lreturn, 1) := by decide +kernel
theorem dX5_together_0 : decode cX5_together 0 = .ok (.lload_n 0, 1) := by decide +kernel
theorem dX5_together_1 : decode cX5_together 1 = .ok (.lload_n 2, 1) := by decide +kernel
theorem dX5_together_2 : decode cX5_together 2 = .ok (.invokestatic 26, 3) := by decide +kernel
theorem dX5_together_5 : decode cX5_together 5 = .ok (.ifCond .eq 9, 3) := by decide +kernel
theorem dX5_together_8 : decode cX5_together 8 = .ok (.ldc2_w 15, 3) := by decide +kernel
theorem dX5_together_11 : decode cX5_together 11 = .ok (.goto 28, 3) := by decide +kernel
theorem dX5_together_14 : decode cX5_together 14 = .ok (.lload_n 0, 1) := by decide +kernel
theorem dX5_together_15 : decode cX5_together 15 = .ok (.invokestatic 19, 3) := by decide +kernel
theorem dX5_together_18 : decode cX5_together 18 = .ok (.lload_n 2, 1) := by decide +kernel
theorem dX5_together_19 : decode cX5_together 19 = .ok (.invokestatic 19, 3) := by decide +kernel
theorem dX5_together_22 : decode cX5_together 22 = .ok (.invokestatic 34, 3) := by decide +kernel
theorem dX5_together_25 : decode cX5_together 25 = .ok (.lload_n 0, 1) := by decide +kernel
theorem dX5_together_26 : decode cX5_together 26 = .ok (.invokestatic 23, 3) := by decide +kernel
theorem dX5_together_29 : decode cX5_together 29 = .ok (.lload_n 2, 1) := by decide +kernel
theorem dX5_together_30 : decode cX5_together 30 = .ok (.invokestatic 23, 3) := by decide +kernel
theorem dX5_together_33 : decode cX5_together 33 = .ok (.invokestatic 39, 3) := by decide +kernel
theorem dX5_together_36 : decode cX5_together 36 = .ok (.invokestatic 30, 3) := by decide +kernel
theorem dX5_together_39 : decode cX5_together 39 = .ok (.lreturn, 1) := by decide +kernel
theorem dX5_root_0 : decode cX5_root 0 = .ok (.lload_n 0, 1) := by decide +kernel
theorem dX5_root_1 : decode cX5_root 1 = .ok (.ldc2_w 15, 3) := by decide +kernel
theorem dX5_root_4 : decode cX5_root 4 = .ok (.lcmp, 1) := by decide +kernel
theorem dX5_root_5 : decode cX5_root 5 = .ok (.ifCond .eq 12, 3) := by decide +kernel
theorem dX5_root_8 : decode cX5_root 8 = .ok (.lload_n 0, 1) := by decide +kernel
theorem dX5_root_9 : decode cX5_root 9 = .ok (.invokestatic 19, 3) := by decide +kernel
theorem dX5_root_12 : decode cX5_root 12 = .ok (.lconst 0, 1) := by decide +kernel
theorem dX5_root_13 : decode cX5_root 13 = .ok (.lcmp, 1) := by decide +kernel
theorem dX5_root_14 : decode cX5_root 14 = .ok (.ifCond .ge 7, 3) := by decide +kernel
theorem dX5_root_17 : decode cX5_root 17 = .ok (.ldc2_w 15, 3) := by decide +kernel
theorem dX5_root_20 : decode cX5_root 20 = .ok (.lreturn, 1) := by decide +kernel
theorem dX5_root_21 : decode cX5_root 21 = .ok (.lload_n 0, 1) := by decide +kernel
theorem dX5_root_22 : decode cX5_root 22 = .ok (.invokestatic 23, 3) := by decide +kernel
theorem dX5_root_25 : decode cX5_root 25 = .ok (.bipush 20, 2) := by decide +kernel
theorem dX5_root_27 : decode cX5_root 27 = .ok (.lshl, 1) := by decide +kernel
theorem dX5_root_28 : decode cX5_root 28 = .ok (.lstore_n 2, 1) := by decide +kernel
theorem dX5_root_29 : decode cX5_root 29 = .ok (.lload_n 2, 1) := by decide +kernel
theorem dX5_root_30 : decode cX5_root 30 = .ok (.invokestatic 67, 3) := by decide +kernel
theorem dX5_root_33 : decode cX5_root 33 = .ok (.lstore 4, 2) := by decide +kernel
theorem dX5_root_35 : decode cX5_root 35 = .ok (.lload_n 0, 1) := by decide +kernel
theorem dX5_root_36 : decode cX5_root 36 = .ok (.invokestatic 19, 3) := by decide +kernel
theorem dX5_root_39 : decode cX5_root 39 = .ok (.bipush 20, 2) := by decide +kernel
theorem dX5_root_41 : decode cX5_root 41 = .ok (.lshl, 1) := by decide +kernel
theorem dX5_root_42 : decode cX5_root 42 = .ok (.invokestatic 67, 3) := by decide +kernel
theorem dX5_root_45 : decode cX5_root 45 = .ok (.lload 4, 2) := by decide +kernel
theorem dX5_root_47 : decode cX5_root 47 = .ok (.lload 4, 2) := by decide +kernel
theorem dX5_root_49 : decode cX5_root 49 = .ok (.lmul, 1) := by decide +kernel
theorem dX5_root_50 : decode cX5_root 50 = .ok (.lload_n 2, 1) := by decide +kernel
theorem dX5_root_51 : decode cX5_root 51 = .ok (.lcmp, 1) := by decide +kernel
theorem dX5_root_52 : decode cX5_root 52 = .ok (.ifCond .ge 10, 3) := by decide +kernel
theorem dX5_root_55 : decode cX5_root 55 = .ok (.lload 4, 2) := by decide +kernel
theorem dX5_root_57 : decode cX5_root 57 = .ok (.lconst 1, 1) := by decide +kernel
theorem dX5_root_58 : decode cX5_root 58 = .ok (.ladd, 1) := by decide +kernel
theorem dX5_root_59 : decode cX5_root 59 = .ok (.goto 5, 3) := by decide +kernel
theorem dX5_root_62 : decode cX5_root 62 = .ok (.lload 4, 2) := by decide +kernel
theorem dX5_root_64 : decode cX5_root 64 = .ok (.invokestatic 30, 3) := by decide +kernel
theorem dX5_root_67 : decode cX5_root 67 = .ok (.lreturn, 1) := by decide +kernel
theorem dX5_rootDown_0 : decode cX5_rootDown 0 = .ok (.lconst 0, 1) := by decide +kernel
theorem dX5_rootDown_1 : decode cX5_rootDown 1 = .ok (.lstore_n 2, 1) := by decide +kernel
theorem dX5_rootDown_2 : decode cX5_rootDown 2 = .ok (.bipush 26, 2) := by decide +kernel
theorem dX5_rootDown_4 : decode cX5_rootDown 4 = .ok (.istore 4, 2) := by decide +kernel
theorem dX5_rootDown_6 : decode cX5_rootDown 6 = .ok (.iload 4, 2) := by decide +kernel
theorem dX5_rootDown_8 : decode cX5_rootDown 8 = .ok (.ifCond .lt 30, 3) := by decide +kernel
theorem dX5_rootDown_11 : decode cX5_rootDown 11 = .ok (.lload_n 2, 1) := by decide +kernel
theorem dX5_rootDown_12 : decode cX5_rootDown 12 = .ok (.lconst 1, 1) := by decide +kernel
theorem dX5_rootDown_13 : decode cX5_rootDown 13 = .ok (.iload 4, 2) := by decide +kernel
theorem dX5_rootDown_15 : decode cX5_rootDown 15 = .ok (.lshl, 1) := by decide +kernel
theorem dX5_rootDown_16 : decode cX5_rootDown 16 = .ok (.lor, 1) := by decide +kernel
theorem dX5_rootDown_17 : decode cX5_rootDown 17 = .ok (.lstore 5, 2) := by decide +kernel
theorem dX5_rootDown_19 : decode cX5_rootDown 19 = .ok (.lload 5, 2) := by decide +kernel
theorem dX5_rootDown_21 : decode cX5_rootDown 21 = .ok (.lload 5, 2) := by decide +kernel
theorem dX5_rootDown_23 : decode cX5_rootDown 23 = .ok (.lmul, 1) := by decide +kernel
theorem dX5_rootDown_24 : decode cX5_rootDown 24 = .ok (.lload_n 0, 1) := by decide +kernel
theorem dX5_rootDown_25 : decode cX5_rootDown 25 = .ok (.lcmp, 1) := by decide +kernel
theorem dX5_rootDown_26 : decode cX5_rootDown 26 = .ok (.ifCond .gt 6, 3) := by decide +kernel
theorem dX5_rootDown_29 : decode cX5_rootDown 29 = .ok (.lload 5, 2) := by decide +kernel
theorem dX5_rootDown_31 : decode cX5_rootDown 31 = .ok (.lstore_n 2, 1) := by decide +kernel
theorem dX5_rootDown_32 : decode cX5_rootDown 32 = .ok (.iinc 4 (-1), 3) := by decide +kernel
theorem dX5_rootDown_35 : decode cX5_rootDown 35 = .ok (.goto (-29), 3) := by decide +kernel
theorem dX5_rootDown_38 : decode cX5_rootDown 38 = .ok (.lload_n 2, 1) := by decide +kernel
theorem dX5_rootDown_39 : decode cX5_rootDown 39 = .ok (.lreturn, 1) := by decide +kernel
