theorem dX3_init_0 : decode cX3_init 0 = .ok (.aload_n 0, 1) := by decide +kernel
theorem dX3_init_1 : decode cX3_init 1 = .ok (.invokespecial 3, 3) := by decide +kernel
theorem dX3_init_4 : decode cX3_init 4 = .ok (.aload_n 0, 1) := by decide +kernel
theorem dX3_init_5 : decode cX3_init 5 = .ok (.new 9, 3) := by decide +kernel
theorem dX3_init_8 : decode cX3_init 8 = .ok (.dup, 1) := by decide +kernel
theorem dX3_init_9 : decode cX3_init 9 = .ok (.invokespecial 11, 3) := by decide +kernel
theorem dX3_init_12 : decode cX3_init 12 = .ok (.putfield 12, 3) := by decide +kernel
theorem dX3_init_15 : decode cX3_init 15 = .ok (.aload_n 0, 1) := by decide +kernel
theorem dX3_init_16 : decode cX3_init 16 = .ok (.new 18, 3) := by decide +kernel
theorem dX3_init_19 : decode cX3_init 19 = .ok (.dup, 1) := by decide +kernel
theorem dX3_init_20 : decode cX3_init 20 = .ok (.invokespecial 20, 3) := by decide +kernel
theorem dX3_init_23 : decode cX3_init 23 = .ok (.putfield 21, 3) := by decide +kernel
theorem dX3_init_26 : decode cX3_init 26 = .ok (.return_, 1) := by decide +kernel
theorem dX3_read_0 : decode cX3_read 0 = .ok (.aload_n 0, 1) := by decide +kernel
theorem dX3_read_1 : decode cX3_read 1 = .ok (.getfield 21, 3) := by decide +kernel
theorem dX3_read_4 : decode cX3_read 4 = .ok (.iconst 0, 1) := by decide +kernel
theorem dX3_read_5 : decode cX3_read 5 = .ok (.putfield 25, 3) := by decide +kernel
theorem dX3_read_8 : decode cX3_read 8 = .ok (.aload_n 0, 1) := by decide +kernel
theorem dX3_read_9 : decode cX3_read 9 = .ok (.iconst 0, 1) := by decide +kernel
theorem dX3_read_10 : decode cX3_read 10 = .ok (.putfield 29, 3) := by decide +kernel
theorem dX3_read_13 : decode cX3_read 13 = .ok (.aload_n 0, 1) := by decide +kernel
theorem dX3_read_14 : decode cX3_read 14 = .ok (.iconst 0, 1) := by decide +kernel
theorem dX3_read_15 : decode cX3_read 15 = .ok (.putfield 32, 3) := by decide +kernel
theorem dX3_read_18 : decode cX3_read 18 = .ok (.aload_n 0, 1) := by decide +kernel
theorem dX3_read_19 : decode cX3_read 19 = .ok (.iconst 0, 1) := by decide +kernel
theorem dX3_read_20 : decode cX3_read 20 = .ok (.putfield 35, 3) := by decide +kernel
theorem dX3_read_23 : decode cX3_read 23 = .ok (.aload_n 0, 1) := by decide +kernel
theorem dX3_read_24 : decode cX3_read 24 = .ok (.iload_n 1, 1) := by decide +kernel
theorem dX3_read_25 : decode cX3_read 25 = .ok (.putfield 38, 3) := by decide +kernel
theorem dX3_read_28 : decode cX3_read 28 = .ok (.aload_n 0, 1) := by decide +kernel
theorem dX3_read_29 : decode cX3_read 29 = .ok (.iconst 0, 1) := by decide +kernel
theorem dX3_read_30 : decode cX3_read 30 = .ok (.invokevirtual 41, 3) := by decide +kernel
theorem dX3_read_33 : decode cX3_read 33 = .ok (.aload_n 0, 1) := by decide +kernel
theorem dX3_read_34 : decode cX3_read 34 = .ok (.getfield 35, 3) := by decide +kernel
theorem dX3_read_37 : decode cX3_read 37 = .ok (.ifCond .ne 16, 3) := by decide +kernel
theorem dX3_read_40 : decode cX3_read 40 = .ok (.aload_n 0, 1) := by decide +kernel
theorem dX3_read_41 : decode cX3_read 41 = .ok (.invokevirtual 45, 3) := by decide +kernel
theorem dX3_read_44 : decode cX3_read 44 = .ok (.iconst (-1), 1) := by decide +kernel
theorem dX3_read_45 : decode cX3_read 45 = .ok (.if_icmp .eq 8, 3) := by decide +kernel
theorem dX3_read_48 : decode cX3_read 48 = .ok (.aload_n 0, 1) := by decide +kernel
theorem dX3_read_49 : decode cX3_read 49 = .ok (.iconst 1, 1) := by decide +kernel
theorem dX3_read_50 : decode cX3_read 50 = .ok (.invokevirtual 49, 3) := by decide +kernel
theorem dX3_read_53 : decode cX3_read 53 = .ok (.aload_n 0, 1) := by decide +kernel
theorem dX3_read_54 : decode cX3_read 54 = .ok (.getfield 35, 3) := by decide +kernel
theorem dX3_read_57 : decode cX3_read 57 = .ok (.ireturn, 1) := by decide +kernel
theorem dX3_refuse_0 : decode cX3_refuse 0 = .ok (.aload_n 0, 1) := by decide +kernel
theorem dX3_refuse_1 : decode cX3_refuse 1 = .ok (.getfield 35, 3) := by decide +kernel
theorem dX3_refuse_4 : decode cX3_refuse 4 = .ok (.ifCond .ne 15, 3) := by decide +kernel
theorem dX3_refuse_7 : decode cX3_refuse 7 = .ok (.aload_n 0, 1) := by decide +kernel
theorem dX3_refuse_8 : decode cX3_refuse 8 = .ok (.iload_n 1, 1) := by decide +kernel
theorem dX3_refuse_9 : decode cX3_refuse 9 = .ok (.iconst 4, 1) := by decide +kernel
theorem dX3_refuse_10 : decode cX3_refuse 10 = .ok (.aload_n 0, 1) := by decide +kernel
theorem dX3_refuse_11 : decode cX3_refuse 11 = .ok (.getfield 29, 3) := by decide +kernel
theorem dX3_refuse_14 : decode cX3_refuse 14 = .ok (.imul, 1) := by decide +kernel
theorem dX3_refuse_15 : decode cX3_refuse 15 = .ok (.iadd, 1) := by decide +kernel
theorem dX3_refuse_16 : decode cX3_refuse 16 = .ok (.putfield 35, 3) := by decide +kernel
theorem dX3_refuse_19 : decode cX3_refuse 19 = .ok (.return_, 1) := by decide +kernel
theorem dX3_sign_0 : decode cX3_sign 0 = .ok (.aload_n 0, 1) := by decide +kernel
theorem dX3_sign_1 : decode cX3_sign 1 = .ok (.getfield 29, 3) := by decide +kernel
theorem dX3_sign_4 : decode cX3_sign 4 = .ok (.aload_n 0, 1) := by decide +kernel
theorem dX3_sign_5 : decode cX3_sign 5 = .ok (.getfield 12, 3) := by decide +kernel
theorem dX3_sign_8 : decode cX3_sign 8 = .ok (.getfield 52, 3) := by decide +kernel
theorem dX3_sign_11 : decode cX3_sign 11 = .ok (.if_icmp .ge 32, 3) := by decide +kernel
theorem dX3_sign_14 : decode cX3_sign 14 = .ok (.aload_n 0, 1) := by decide +kernel
theorem dX3_sign_15 : decode cX3_sign 15 = .ok (.getfield 12, 3) := by decide +kernel
theorem dX3_sign_18 : decode cX3_sign 18 = .ok (.aload_n 0, 1) := by decide +kernel
theorem dX3_sign_19 : decode cX3_sign 19 = .ok (.getfield 29, 3) := by decide +kernel
theorem dX3_sign_22 : decode cX3_sign 22 = .ok (.invokevirtual 55, 3) := by decide +kernel
theorem dX3_sign_25 : decode cX3_sign 25 = .ok (.bipush 32, 2) := by decide +kernel
theorem dX3_sign_27 : decode cX3_sign 27 = .ok (.if_icmp .ne 16, 3) := by decide +kernel
theorem dX3_sign_30 : decode cX3_sign 30 = .ok (.aload_n 0, 1) := by decide +kernel
theorem dX3_sign_31 : decode cX3_sign 31 = .ok (.dup, 1) := by decide +kernel
theorem dX3_sign_32 : decode cX3_sign 32 = .ok (.getfield 29, 3) := by decide +kernel
theorem dX3_sign_35 : decode cX3_sign 35 = .ok (.iconst 1, 1) := by decide +kernel
theorem dX3_sign_36 : decode cX3_sign 36 = .ok (.iadd, 1) := by decide +kernel
theorem dX3_sign_37 : decode cX3_sign 37 = .ok (.putfield 29, 3) := by decide +kernel
theorem dX3_sign_40 : decode cX3_sign 40 = .ok (.goto (-40), 3) := by decide +kernel
theorem dX3_sign_43 : decode cX3_sign 43 = .ok (.aload_n 0, 1) := by decide +kernel
theorem dX3_sign_44 : decode cX3_sign 44 = .ok (.getfield 12, 3) := by decide +kernel
theorem dX3_sign_47 : decode cX3_sign 47 = .ok (.aload_n 0, 1) := by decide +kernel
theorem dX3_sign_48 : decode cX3_sign 48 = .ok (.getfield 29, 3) := by decide +kernel
theorem dX3_sign_51 : decode cX3_sign 51 = .ok (.invokevirtual 55, 3) := by decide +kernel
theorem dX3_sign_54 : decode cX3_sign 54 = .ok (.ireturn, 1) := by decide +kernel
theorem dX3_meet_0 : decode cX3_meet 0 = .ok (.aload_n 0, 1) := by decide +kernel
theorem dX3_meet_1 : decode cX3_meet 1 = .ok (.getfield 32, 3) := by decide +kernel
theorem dX3_meet_4 : decode cX3_meet 4 = .ok (.bipush 60, 2) := by decide +kernel
theorem dX3_meet_6 : decode cX3_meet 6 = .ok (.if_icmp .lt 10, 3) := by decide +kernel
theorem dX3_meet_9 : decode cX3_meet 9 = .ok (.aload_n 0, 1) := by decide +kernel
theorem dX3_meet_10 : decode cX3_meet 10 = .ok (.iconst 3, 1) := by decide +kernel
theorem dX3_meet_11 : decode cX3_meet 11 = .ok (.invokevirtual 49, 3) := by decide +kernel
theorem dX3_meet_14 : decode cX3_meet 14 = .ok (.iconst 0, 1) := by decide +kernel
theorem dX3_meet_15 : decode cX3_meet 15 = .ok (.ireturn, 1) := by decide +kernel
theorem dX3_meet_16 : decode cX3_meet 16 = .ok (.aload_n 0, 1) := by decide +kernel
theorem dX3_meet_17 : decode cX3_meet 17 = .ok (.dup, 1) := by decide +kernel
theorem dX3_meet_18 : decode cX3_meet 18 = .ok (.getfield 32, 3) := by decide +kernel
theorem dX3_meet_21 : decode cX3_meet 21 = .ok (.iconst 1, 1) := by decide +kernel
theorem dX3_meet_22 : decode cX3_meet 22 = .ok (.iadd, 1) := by decide +kernel
theorem dX3_meet_23 : decode cX3_meet 23 = .ok (.putfield 32, 3) := by decide +kernel
theorem dX3_meet_26 : decode cX3_meet 26 = .ok (.iconst 1, 1) := by decide +kernel
theorem dX3_meet_27 : decode cX3_meet 27 = .ok (.ireturn, 1) := by decide +kernel
theorem dX3_emit_0 : decode cX3_emit 0 = .ok (.aload_n 0, 1) := by decide +kernel
theorem dX3_emit_1 : decode cX3_emit 1 = .ok (.getfield 35, 3) := by decide +kernel
theorem dX3_emit_4 : decode cX3_emit 4 = .ok (.ifCond .ne 14, 3) := by decide +kernel
theorem dX3_emit_7 : decode cX3_emit 7 = .ok (.aload_n 0, 1) := by decide +kernel
theorem dX3_emit_8 : decode cX3_emit 8 = .ok (.getfield 21, 3) := by decide +kernel
theorem dX3_emit_11 : decode cX3_emit 11 = .ok (.iload_n 1, 1) := by decide +kernel
theorem dX3_emit_12 : decode cX3_emit 12 = .ok (.lload_n 2, 1) := by decide +kernel
theorem dX3_emit_13 : decode cX3_emit 13 = .ok (.iload 4, 2) := by decide +kernel
theorem dX3_emit_15 : decode cX3_emit 15 = .ok (.invokevirtual 59, 3) := by decide +kernel
theorem dX3_emit_18 : decode cX3_emit 18 = .ok (.return_, 1) := by decide +kernel
theorem dX3_sum_0 : decode cX3_sum 0 = .ok (.aload_n 0, 1) := by decide +kernel
theorem dX3_sum_1 : decode cX3_sum 1 = .ok (.iload_n 1, 1) := by decide +kernel
theorem dX3_sum_2 : decode cX3_sum 2 = .ok (.invokevirtual 63, 3) := by decide +kernel
theorem dX3_sum_5 : decode cX3_sum 5 = .ok (.iconst 0, 1) := by decide +kernel
theorem dX3_sum_6 : decode cX3_sum 6 = .ok (.istore_n 2, 1) := by decide +kernel
theorem dX3_sum_7 : decode cX3_sum 7 = .ok (.iload_n 2, 1) := by decide +kernel
theorem dX3_sum_8 : decode cX3_sum 8 = .ok (.sipush 200, 3) := by decide +kernel
theorem dX3_sum_11 : decode cX3_sum 11 = .ok (.if_icmp .ge 87, 3) := by decide +kernel
theorem dX3_sum_14 : decode cX3_sum 14 = .ok (.aload_n 0, 1) := by decide +kernel
theorem dX3_sum_15 : decode cX3_sum 15 = .ok (.getfield 35, 3) := by decide +kernel
theorem dX3_sum_18 : decode cX3_sum 18 = .ok (.ifCond .ne 80, 3) := by decide +kernel
theorem dX3_sum_21 : decode cX3_sum 21 = .ok (.aload_n 0, 1) := by decide +kernel
theorem dX3_sum_22 : decode cX3_sum 22 = .ok (.invokevirtual 45, 3) := by decide +kernel
theorem dX3_sum_25 : decode cX3_sum 25 = .ok (.istore_n 3, 1) := by decide +kernel
theorem dX3_sum_26 : decode cX3_sum 26 = .ok (.iload_n 3, 1) := by decide +kernel
theorem dX3_sum_27 : decode cX3_sum 27 = .ok (.bipush 43, 2) := by decide +kernel
theorem dX3_sum_29 : decode cX3_sum 29 = .ok (.if_icmp .eq 9, 3) := by decide +kernel
theorem dX3_sum_32 : decode cX3_sum 32 = .ok (.iload_n 3, 1) := by decide +kernel
theorem dX3_sum_33 : decode cX3_sum 33 = .ok (.bipush 45, 2) := by decide +kernel
theorem dX3_sum_35 : decode cX3_sum 35 = .ok (.if_icmp .ne 10, 3) := by decide +kernel
theorem dX3_sum_38 : decode cX3_sum 38 = .ok (.aload_n 0, 1) := by decide +kernel
theorem dX3_sum_39 : decode cX3_sum 39 = .ok (.invokevirtual 66, 3) := by decide +kernel
theorem dX3_sum_42 : decode cX3_sum 42 = .ok (.ifCond .ne 4, 3) := by decide +kernel
theorem dX3_sum_45 : decode cX3_sum 45 = .ok (.return_, 1) := by decide +kernel
theorem dX3_sum_46 : decode cX3_sum 46 = .ok (.aload_n 0, 1) := by decide +kernel
theorem dX3_sum_47 : decode cX3_sum 47 = .ok (.dup, 1) := by decide +kernel
theorem dX3_sum_48 : decode cX3_sum 48 = .ok (.getfield 29, 3) := by decide +kernel
theorem dX3_sum_51 : decode cX3_sum 51 = .ok (.iconst 1, 1) := by decide +kernel
theorem dX3_sum_52 : decode cX3_sum 52 = .ok (.iadd, 1) := by decide +kernel
theorem dX3_sum_53 : decode cX3_sum 53 = .ok (.putfield 29, 3) := by decide +kernel
theorem dX3_sum_56 : decode cX3_sum 56 = .ok (.aload_n 0, 1) := by decide +kernel
theorem dX3_sum_57 : decode cX3_sum 57 = .ok (.getfield 21, 3) := by decide +kernel
theorem dX3_sum_60 : decode cX3_sum 60 = .ok (.getfield 25, 3) := by decide +kernel
theorem dX3_sum_63 : decode cX3_sum 63 = .ok (.iconst 1, 1) := by decide +kernel
theorem dX3_sum_64 : decode cX3_sum 64 = .ok (.isub, 1) := by decide +kernel
theorem dX3_sum_65 : decode cX3_sum 65 = .ok (.istore 4, 2) := by decide +kernel
theorem dX3_sum_67 : decode cX3_sum 67 = .ok (.aload_n 0, 1) := by decide +kernel
theorem dX3_sum_68 : decode cX3_sum 68 = .ok (.iload_n 1, 1) := by decide +kernel
theorem dX3_sum_69 : decode cX3_sum 69 = .ok (.invokevirtual 63, 3) := by decide +kernel
theorem dX3_sum_72 : decode cX3_sum 72 = .ok (.aload_n 0, 1) := by decide +kernel
theorem dX3_sum_73 : decode cX3_sum 73 = .ok (.iload_n 3, 1) := by decide +kernel
theorem dX3_sum_74 : decode cX3_sum 74 = .ok (.bipush 43, 2) := by decide +kernel
theorem dX3_sum_76 : decode cX3_sum 76 = .ok (.if_icmp .ne 8, 3) := by decide +kernel
theorem dX3_sum_79 : decode cX3_sum 79 = .ok (.bipush 13, 2) := by decide +kernel
theorem dX3_sum_81 : decode cX3_sum 81 = .ok (.goto 5, 3) := by decide +kernel
theorem dX3_sum_84 : decode cX3_sum 84 = .ok (.bipush 14, 2) := by decide +kernel
theorem dX3_sum_86 : decode cX3_sum 86 = .ok (.lconst 0, 1) := by decide +kernel
theorem dX3_sum_87 : decode cX3_sum 87 = .ok (.iload 4, 2) := by decide +kernel
theorem dX3_sum_89 : decode cX3_sum 89 = .ok (.invokevirtual 70, 3) := by decide +kernel
theorem dX3_sum_92 : decode cX3_sum 92 = .ok (.iinc 2 1, 3) := by decide +kernel
theorem dX3_sum_95 : decode cX3_sum 95 = .ok (.goto (-88), 3) := by decide +kernel
theorem dX3_sum_98 : decode cX3_sum 98 = .ok (.return_, 1) := by decide +kernel
theorem dX3_term_0 : decode cX3_term 0 = .ok (.aload_n 0, 1) := by decide +kernel
theorem dX3_term_1 : decode cX3_term 1 = .ok (.iload_n 1, 1) := by decide +kernel
theorem dX3_term_2 : decode cX3_term 2 = .ok (.invokevirtual 73, 3) := by decide +kernel
theorem dX3_term_5 : decode cX3_term 5 = .ok (.iconst 0, 1) := by decide +kernel
theorem dX3_term_6 : decode cX3_term 6 = .ok (.istore_n 2, 1) := by decide +kernel
theorem dX3_term_7 : decode cX3_term 7 = .ok (.iload_n 2, 1) := by decide +kernel
theorem dX3_term_8 : decode cX3_term 8 = .ok (.sipush 200, 3) := by decide +kernel
theorem dX3_term_11 : decode cX3_term 11 = .ok (.if_icmp .ge 87, 3) := by decide +kernel
theorem dX3_term_14 : decode cX3_term 14 = .ok (.aload_n 0, 1) := by decide +kernel
theorem dX3_term_15 : decode cX3_term 15 = .ok (.getfield 35, 3) := by decide +kernel
theorem dX3_term_18 : decode cX3_term 18 = .ok (.ifCond .ne 80, 3) := by decide +kernel
theorem dX3_term_21 : decode cX3_term 21 = .ok (.aload_n 0, 1) := by decide +kernel
theorem dX3_term_22 : decode cX3_term 22 = .ok (.invokevirtual 45, 3) := by decide +kernel
theorem dX3_term_25 : decode cX3_term 25 = .ok (.istore_n 3, 1) := by decide +kernel
theorem dX3_term_26 : decode cX3_term 26 = .ok (.iload_n 3, 1) := by decide +kernel
theorem dX3_term_27 : decode cX3_term 27 = .ok (.bipush 42, 2) := by decide +kernel
theorem dX3_term_29 : decode cX3_term 29 = .ok (.if_icmp .eq 9, 3) := by decide +kernel
theorem dX3_term_32 : decode cX3_term 32 = .ok (.iload_n 3, 1) := by decide +kernel
theorem dX3_term_33 : decode cX3_term 33 = .ok (.bipush 47, 2) := by decide +kernel
theorem dX3_term_35 : decode cX3_term 35 = .ok (.if_icmp .ne 10, 3) := by decide +kernel
theorem dX3_term_38 : decode cX3_term 38 = .ok (.aload_n 0, 1) := by decide +kernel
theorem dX3_term_39 : decode cX3_term 39 = .ok (.invokevirtual 66, 3) := by decide +kernel
theorem dX3_term_42 : decode cX3_term 42 = .ok (.ifCond .ne 4, 3) := by decide +kernel
theorem dX3_term_45 : decode cX3_term 45 = .ok (.return_, 1) := by decide +kernel
theorem dX3_term_46 : decode cX3_term 46 = .ok (.aload_n 0, 1) := by decide +kernel
theorem dX3_term_47 : decode cX3_term 47 = .ok (.dup, 1) := by decide +kernel
theorem dX3_term_48 : decode cX3_term 48 = .ok (.getfield 29, 3) := by decide +kernel
theorem dX3_term_51 : decode cX3_term 51 = .ok (.iconst 1, 1) := by decide +kernel
theorem dX3_term_52 : decode cX3_term 52 = .ok (.iadd, 1) := by decide +kernel
theorem dX3_term_53 : decode cX3_term 53 = .ok (.putfield 29, 3) := by decide +kernel
theorem dX3_term_56 : decode cX3_term 56 = .ok (.aload_n 0, 1) := by decide +kernel
theorem dX3_term_57 : decode cX3_term 57 = .ok (.getfield 21, 3) := by decide +kernel
theorem dX3_term_60 : decode cX3_term 60 = .ok (.getfield 25, 3) := by decide +kernel
theorem dX3_term_63 : decode cX3_term 63 = .ok (.iconst 1, 1) := by decide +kernel
theorem dX3_term_64 : decode cX3_term 64 = .ok (.isub, 1) := by decide +kernel
theorem dX3_term_65 : decode cX3_term 65 = .ok (.istore 4, 2) := by decide +kernel
theorem dX3_term_67 : decode cX3_term 67 = .ok (.aload_n 0, 1) := by decide +kernel
theorem dX3_term_68 : decode cX3_term 68 = .ok (.iload_n 1, 1) := by decide +kernel
theorem dX3_term_69 : decode cX3_term 69 = .ok (.invokevirtual 73, 3) := by decide +kernel
theorem dX3_term_72 : decode cX3_term 72 = .ok (.aload_n 0, 1) := by decide +kernel
theorem dX3_term_73 : decode cX3_term 73 = .ok (.iload_n 3, 1) := by decide +kernel
theorem dX3_term_74 : decode cX3_term 74 = .ok (.bipush 42, 2) := by decide +kernel
theorem dX3_term_76 : decode cX3_term 76 = .ok (.if_icmp .ne 8, 3) := by decide +kernel
theorem dX3_term_79 : decode cX3_term 79 = .ok (.bipush 15, 2) := by decide +kernel
theorem dX3_term_81 : decode cX3_term 81 = .ok (.goto 5, 3) := by decide +kernel
theorem dX3_term_84 : decode cX3_term 84 = .ok (.bipush 16, 2) := by decide +kernel
theorem dX3_term_86 : decode cX3_term 86 = .ok (.lconst 0, 1) := by decide +kernel
theorem dX3_term_87 : decode cX3_term 87 = .ok (.iload 4, 2) := by decide +kernel
theorem dX3_term_89 : decode cX3_term 89 = .ok (.invokevirtual 70, 3) := by decide +kernel
theorem dX3_term_92 : decode cX3_term 92 = .ok (.iinc 2 1, 3) := by decide +kernel
theorem dX3_term_95 : decode cX3_term 95 = .ok (.goto (-88), 3) := by decide +kernel
theorem dX3_term_98 : decode cX3_term 98 = .ok (.return_, 1) := by decide +kernel
theorem dX3_power_0 : decode cX3_power 0 = .ok (.aload_n 0, 1) := by decide +kernel
theorem dX3_power_1 : decode cX3_power 1 = .ok (.invokevirtual 45, 3) := by decide +kernel
theorem dX3_power_4 : decode cX3_power 4 = .ok (.bipush 45, 2) := by decide +kernel
theorem dX3_power_6 : decode cX3_power 6 = .ok (.if_icmp .ne 7, 3) := by decide +kernel
theorem dX3_power_9 : decode cX3_power 9 = .ok (.iconst 1, 1) := by decide +kernel
theorem dX3_power_10 : decode cX3_power 10 = .ok (.goto 4, 3) := by decide +kernel
theorem dX3_power_13 : decode cX3_power 13 = .ok (.iconst 0, 1) := by decide +kernel
theorem dX3_power_14 : decode cX3_power 14 = .ok (.istore_n 2, 1) := by decide +kernel
theorem dX3_power_15 : decode cX3_power 15 = .ok (.iload_n 2, 1) := by decide +kernel
theorem dX3_power_16 : decode cX3_power 16 = .ok (.ifCond .eq 21, 3) := by decide +kernel
theorem dX3_power_19 : decode cX3_power 19 = .ok (.aload_n 0, 1) := by decide +kernel
theorem dX3_power_20 : decode cX3_power 20 = .ok (.invokevirtual 66, 3) := by decide +kernel
theorem dX3_power_23 : decode cX3_power 23 = .ok (.ifCond .ne 4, 3) := by decide +kernel
theorem dX3_power_26 : decode cX3_power 26 = .ok (.return_, 1) := by decide +kernel
theorem dX3_power_27 : decode cX3_power 27 = .ok (.aload_n 0, 1) := by decide +kernel
theorem dX3_power_28 : decode cX3_power 28 = .ok (.dup, 1) := by decide +kernel
theorem dX3_power_29 : decode cX3_power 29 = .ok (.getfield 29, 3) := by decide +kernel
theorem dX3_power_32 : decode cX3_power 32 = .ok (.iconst 1, 1) := by decide +kernel
theorem dX3_power_33 : decode cX3_power 33 = .ok (.iadd, 1) := by decide +kernel
theorem dX3_power_34 : decode cX3_power 34 = .ok (.putfield 29, 3) := by decide +kernel
theorem dX3_power_37 : decode cX3_power 37 = .ok (.aload_n 0, 1) := by decide +kernel
theorem dX3_power_38 : decode cX3_power 38 = .ok (.iload_n 1, 1) := by decide +kernel
theorem dX3_power_39 : decode cX3_power 39 = .ok (.invokevirtual 76, 3) := by decide +kernel
theorem dX3_power_42 : decode cX3_power 42 = .ok (.aload_n 0, 1) := by decide +kernel
theorem dX3_power_43 : decode cX3_power 43 = .ok (.getfield 35, 3) := by decide +kernel
theorem dX3_power_46 : decode cX3_power 46 = .ok (.ifCond .ne 71, 3) := by decide +kernel
theorem dX3_power_49 : decode cX3_power 49 = .ok (.aload_n 0, 1) := by decide +kernel
theorem dX3_power_50 : decode cX3_power 50 = .ok (.invokevirtual 45, 3) := by decide +kernel
theorem dX3_power_53 : decode cX3_power 53 = .ok (.bipush 94, 2) := by decide +kernel
theorem dX3_power_55 : decode cX3_power 55 = .ok (.if_icmp .ne 62, 3) := by decide +kernel
theorem dX3_power_58 : decode cX3_power 58 = .ok (.aload_n 0, 1) := by decide +kernel
theorem dX3_power_59 : decode cX3_power 59 = .ok (.invokevirtual 66, 3) := by decide +kernel
theorem dX3_power_62 : decode cX3_power 62 = .ok (.ifCond .eq 55, 3) := by decide +kernel
theorem dX3_power_65 : decode cX3_power 65 = .ok (.aload_n 0, 1) := by decide +kernel
theorem dX3_power_66 : decode cX3_power 66 = .ok (.dup, 1) := by decide +kernel
theorem dX3_power_67 : decode cX3_power 67 = .ok (.getfield 29, 3) := by decide +kernel
theorem dX3_power_70 : decode cX3_power 70 = .ok (.iconst 1, 1) := by decide +kernel
theorem dX3_power_71 : decode cX3_power 71 = .ok (.iadd, 1) := by decide +kernel
theorem dX3_power_72 : decode cX3_power 72 = .ok (.putfield 29, 3) := by decide +kernel
theorem dX3_power_75 : decode cX3_power 75 = .ok (.aload_n 0, 1) := by decide +kernel
theorem dX3_power_76 : decode cX3_power 76 = .ok (.invokevirtual 45, 3) := by decide +kernel
theorem dX3_power_79 : decode cX3_power 79 = .ok (.bipush 48, 2) := by decide +kernel
theorem dX3_power_81 : decode cX3_power 81 = .ok (.isub, 1) := by decide +kernel
theorem dX3_power_82 : decode cX3_power 82 = .ok (.istore_n 3, 1) := by decide +kernel
theorem dX3_power_83 : decode cX3_power 83 = .ok (.iload_n 3, 1) := by decide +kernel
theorem dX3_power_84 : decode cX3_power 84 = .ok (.iconst 1, 1) := by decide +kernel
theorem dX3_power_85 : decode cX3_power 85 = .ok (.if_icmp .lt 9, 3) := by decide +kernel
theorem dX3_power_88 : decode cX3_power 88 = .ok (.iload_n 3, 1) := by decide +kernel
theorem dX3_power_89 : decode cX3_power 89 = .ok (.bipush 9, 2) := by decide +kernel
theorem dX3_power_91 : decode cX3_power 91 = .ok (.if_icmp .le 8, 3) := by decide +kernel
theorem dX3_power_94 : decode cX3_power 94 = .ok (.aload_n 0, 1) := by decide +kernel
theorem dX3_power_95 : decode cX3_power 95 = .ok (.iconst 1, 1) := by decide +kernel
theorem dX3_power_96 : decode cX3_power 96 = .ok (.invokevirtual 49, 3) := by decide +kernel
theorem dX3_power_99 : decode cX3_power 99 = .ok (.aload_n 0, 1) := by decide +kernel
theorem dX3_power_100 : decode cX3_power 100 = .ok (.dup, 1) := by decide +kernel
theorem dX3_power_101 : decode cX3_power 101 = .ok (.getfield 29, 3) := by decide +kernel
theorem dX3_power_104 : decode cX3_power 104 = .ok (.iconst 1, 1) := by decide +kernel
theorem dX3_power_105 : decode cX3_power 105 = .ok (.iadd, 1) := by decide +kernel
theorem dX3_power_106 : decode cX3_power 106 = .ok (.putfield 29, 3) := by decide +kernel
theorem dX3_power_109 : decode cX3_power 109 = .ok (.aload_n 0, 1) := by decide +kernel
theorem dX3_power_110 : decode cX3_power 110 = .ok (.iconst 4, 1) := by decide +kernel
theorem dX3_power_111 : decode cX3_power 111 = .ok (.iload_n 3, 1) := by decide +kernel
theorem dX3_power_112 : decode cX3_power 112 = .ok (.i2l, 1) := by decide +kernel
theorem dX3_power_113 : decode cX3_power 113 = .ok (.iconst 0, 1) := by decide +kernel
theorem dX3_power_114 : decode cX3_power 114 = .ok (.invokevirtual 70, 3) := by decide +kernel
theorem dX3_power_117 : decode cX3_power 117 = .ok (.iload_n 2, 1) := by decide +kernel
theorem dX3_power_118 : decode cX3_power 118 = .ok (.ifCond .eq 10, 3) := by decide +kernel
theorem dX3_power_121 : decode cX3_power 121 = .ok (.aload_n 0, 1) := by decide +kernel
theorem dX3_power_122 : decode cX3_power 122 = .ok (.iconst 3, 1) := by decide +kernel
theorem dX3_power_123 : decode cX3_power 123 = .ok (.lconst 0, 1) := by decide +kernel
theorem dX3_power_124 : decode cX3_power 124 = .ok (.iconst 0, 1) := by decide +kernel
theorem dX3_power_125 : decode cX3_power 125 = .ok (.invokevirtual 70, 3) := by decide +kernel
theorem dX3_power_128 : decode cX3_power 128 = .ok (.return_, 1) := by decide +kernel
theorem dX3_piece_0 : decode cX3_piece 0 = .ok (.aload_n 0, 1) := by decide +kernel
theorem dX3_piece_1 : decode cX3_piece 1 = .ok (.invokevirtual 45, 3) := by decide +kernel
theorem dX3_piece_4 : decode cX3_piece 4 = .ok (.bipush 40, 2) := by decide +kernel
theorem dX3_piece_6 : decode cX3_piece 6 = .ok (.if_icmp .ne 7, 3) := by decide +kernel
theorem dX3_piece_9 : decode cX3_piece 9 = .ok (.iconst (-1), 1) := by decide +kernel
theorem dX3_piece_10 : decode cX3_piece 10 = .ok (.goto 7, 3) := by decide +kernel
theorem dX3_piece_13 : decode cX3_piece 13 = .ok (.aload_n 0, 1) := by decide +kernel
theorem dX3_piece_14 : decode cX3_piece 14 = .ok (.invokevirtual 79, 3) := by decide +kernel
theorem dX3_piece_17 : decode cX3_piece 17 = .ok (.istore_n 2, 1) := by decide +kernel
theorem dX3_piece_18 : decode cX3_piece 18 = .ok (.aload_n 0, 1) := by decide +kernel
theorem dX3_piece_19 : decode cX3_piece 19 = .ok (.getfield 35, 3) := by decide +kernel
theorem dX3_piece_22 : decode cX3_piece 22 = .ok (.ifCond .ne 9, 3) := by decide +kernel
theorem dX3_piece_25 : decode cX3_piece 25 = .ok (.iload_n 2, 1) := by decide +kernel
theorem dX3_piece_26 : decode cX3_piece 26 = .ok (.bipush (-2), 2) := by decide +kernel
theorem dX3_piece_28 : decode cX3_piece 28 = .ok (.if_icmp .ne 4, 3) := by decide +kernel
theorem dX3_piece_31 : decode cX3_piece 31 = .ok (.return_, 1) := by decide +kernel
theorem dX3_piece_32 : decode cX3_piece 32 = .ok (.aload_n 0, 1) := by decide +kernel
theorem dX3_piece_33 : decode cX3_piece 33 = .ok (.invokevirtual 45, 3) := by decide +kernel
theorem dX3_piece_36 : decode cX3_piece 36 = .ok (.bipush 40, 2) := by decide +kernel
theorem dX3_piece_38 : decode cX3_piece 38 = .ok (.if_icmp .ne 14, 3) := by decide +kernel
theorem dX3_piece_41 : decode cX3_piece 41 = .ok (.iload_n 1, 1) := by decide +kernel
theorem dX3_piece_42 : decode cX3_piece 42 = .ok (.bipush 12, 2) := by decide +kernel
theorem dX3_piece_44 : decode cX3_piece 44 = .ok (.if_icmp .lt 8, 3) := by decide +kernel
theorem dX3_piece_47 : decode cX3_piece 47 = .ok (.aload_n 0, 1) := by decide +kernel
theorem dX3_piece_48 : decode cX3_piece 48 = .ok (.iconst 3, 1) := by decide +kernel
theorem dX3_piece_49 : decode cX3_piece 49 = .ok (.invokevirtual 49, 3) := by decide +kernel
theorem dX3_piece_52 : decode cX3_piece 52 = .ok (.aload_n 0, 1) := by decide +kernel
theorem dX3_piece_53 : decode cX3_piece 53 = .ok (.bipush 40, 2) := by decide +kernel
theorem dX3_piece_55 : decode cX3_piece 55 = .ok (.invokevirtual 82, 3) := by decide +kernel
theorem dX3_piece_58 : decode cX3_piece 58 = .ok (.iconst 0, 1) := by decide +kernel
theorem dX3_piece_59 : decode cX3_piece 59 = .ok (.istore_n 3, 1) := by decide +kernel
theorem dX3_piece_60 : decode cX3_piece 60 = .ok (.iload_n 2, 1) := by decide +kernel
theorem dX3_piece_61 : decode cX3_piece 61 = .ok (.bipush 11, 2) := by decide +kernel
theorem dX3_piece_63 : decode cX3_piece 63 = .ok (.if_icmp .eq 9, 3) := by decide +kernel
theorem dX3_piece_66 : decode cX3_piece 66 = .ok (.iload_n 2, 1) := by decide +kernel
theorem dX3_piece_67 : decode cX3_piece 67 = .ok (.bipush 12, 2) := by decide +kernel
theorem dX3_piece_69 : decode cX3_piece 69 = .ok (.if_icmp .ne 24, 3) := by decide +kernel
theorem dX3_piece_72 : decode cX3_piece 72 = .ok (.aload_n 0, 1) := by decide +kernel
theorem dX3_piece_73 : decode cX3_piece 73 = .ok (.iload_n 1, 1) := by decide +kernel
theorem dX3_piece_74 : decode cX3_piece 74 = .ok (.invokevirtual 85, 3) := by decide +kernel
theorem dX3_piece_77 : decode cX3_piece 77 = .ok (.aload_n 0, 1) := by decide +kernel
theorem dX3_piece_78 : decode cX3_piece 78 = .ok (.bipush 44, 2) := by decide +kernel
theorem dX3_piece_80 : decode cX3_piece 80 = .ok (.invokevirtual 82, 3) := by decide +kernel
theorem dX3_piece_83 : decode cX3_piece 83 = .ok (.aload_n 0, 1) := by decide +kernel
theorem dX3_piece_84 : decode cX3_piece 84 = .ok (.getfield 21, 3) := by decide +kernel
theorem dX3_piece_87 : decode cX3_piece 87 = .ok (.getfield 25, 3) := by decide +kernel
theorem dX3_piece_90 : decode cX3_piece 90 = .ok (.iconst 1, 1) := by decide +kernel
theorem dX3_piece_91 : decode cX3_piece 91 = .ok (.isub, 1) := by decide +kernel
theorem dX3_piece_92 : decode cX3_piece 92 = .ok (.istore_n 3, 1) := by decide +kernel
theorem dX3_piece_93 : decode cX3_piece 93 = .ok (.aload_n 0, 1) := by decide +kernel
theorem dX3_piece_94 : decode cX3_piece 94 = .ok (.iload_n 1, 1) := by decide +kernel
theorem dX3_piece_95 : decode cX3_piece 95 = .ok (.invokevirtual 85, 3) := by decide +kernel
theorem dX3_piece_98 : decode cX3_piece 98 = .ok (.aload_n 0, 1) := by decide +kernel
theorem dX3_piece_99 : decode cX3_piece 99 = .ok (.bipush 41, 2) := by decide +kernel
theorem dX3_piece_101 : decode cX3_piece 101 = .ok (.invokevirtual 82, 3) := by decide +kernel
theorem dX3_piece_104 : decode cX3_piece 104 = .ok (.iload_n 2, 1) := by decide +kernel
theorem dX3_piece_105 : decode cX3_piece 105 = .ok (.iconst (-1), 1) := by decide +kernel
theorem dX3_piece_106 : decode cX3_piece 106 = .ok (.if_icmp .eq 10, 3) := by decide +kernel
theorem dX3_piece_109 : decode cX3_piece 109 = .ok (.aload_n 0, 1) := by decide +kernel
theorem dX3_piece_110 : decode cX3_piece 110 = .ok (.iload_n 2, 1) := by decide +kernel
theorem dX3_piece_111 : decode cX3_piece 111 = .ok (.lconst 0, 1) := by decide +kernel
theorem dX3_piece_112 : decode cX3_piece 112 = .ok (.iload_n 3, 1) := by decide +kernel
theorem dX3_piece_113 : decode cX3_piece 113 = .ok (.invokevirtual 70, 3) := by decide +kernel
theorem dX3_piece_116 : decode cX3_piece 116 = .ok (.return_, 1) := by decide +kernel
theorem dX3_inside_0 : decode cX3_inside 0 = .ok (.aload_n 0, 1) := by decide +kernel
theorem dX3_inside_1 : decode cX3_inside 1 = .ok (.getfield 35, 3) := by decide +kernel
theorem dX3_inside_4 : decode cX3_inside 4 = .ok (.ifCond .ne 10, 3) := by decide +kernel
theorem dX3_inside_7 : decode cX3_inside 7 = .ok (.aload_n 0, 1) := by decide +kernel
theorem dX3_inside_8 : decode cX3_inside 8 = .ok (.iload_n 1, 1) := by decide +kernel
theorem dX3_inside_9 : decode cX3_inside 9 = .ok (.iconst 1, 1) := by decide +kernel
theorem dX3_inside_10 : decode cX3_inside 10 = .ok (.iadd, 1) := by decide +kernel
theorem dX3_inside_11 : decode cX3_inside 11 = .ok (.invokevirtual 41, 3) := by decide +kernel
theorem dX3_inside_14 : decode cX3_inside 14 = .ok (.return_, 1) := by decide +kernel
theorem dX3_pass_0 : decode cX3_pass 0 = .ok (.aload_n 0, 1) := by decide +kernel
theorem dX3_pass_1 : decode cX3_pass 1 = .ok (.getfield 35, 3) := by decide +kernel
theorem dX3_pass_4 : decode cX3_pass 4 = .ok (.ifCond .ne 16, 3) := by decide +kernel
theorem dX3_pass_7 : decode cX3_pass 7 = .ok (.aload_n 0, 1) := by decide +kernel
theorem dX3_pass_8 : decode cX3_pass 8 = .ok (.invokevirtual 45, 3) := by decide +kernel
theorem dX3_pass_11 : decode cX3_pass 11 = .ok (.iload_n 1, 1) := by decide +kernel
theorem dX3_pass_12 : decode cX3_pass 12 = .ok (.if_icmp .eq 8, 3) := by decide +kernel
theorem dX3_pass_15 : decode cX3_pass 15 = .ok (.aload_n 0, 1) := by decide +kernel
theorem dX3_pass_16 : decode cX3_pass 16 = .ok (.iconst 1, 1) := by decide +kernel
theorem dX3_pass_17 : decode cX3_pass 17 = .ok (.invokevirtual 49, 3) := by decide +kernel
theorem dX3_pass_20 : decode cX3_pass 20 = .ok (.aload_n 0, 1) := by decide +kernel
theorem dX3_pass_21 : decode cX3_pass 21 = .ok (.dup, 1) := by decide +kernel
theorem dX3_pass_22 : decode cX3_pass 22 = .ok (.getfield 29, 3) := by decide +kernel
theorem dX3_pass_25 : decode cX3_pass 25 = .ok (.iconst 1, 1) := by decide +kernel
theorem dX3_pass_26 : decode cX3_pass 26 = .ok (.iadd, 1) := by decide +kernel
theorem dX3_pass_27 : decode cX3_pass 27 = .ok (.putfield 29, 3) := by decide +kernel
theorem dX3_pass_30 : decode cX3_pass 30 = .ok (.return_, 1) := by decide +kernel
theorem dX3_word_0 : decode cX3_word 0 = .ok (.aload_n 0, 1) := by decide +kernel
theorem dX3_word_1 : decode cX3_word 1 = .ok (.getfield 29, 3) := by decide +kernel
theorem dX3_word_4 : decode cX3_word 4 = .ok (.istore_n 1, 1) := by decide +kernel
theorem dX3_word_5 : decode cX3_word 5 = .ok (.iload_n 1, 1) := by decide +kernel
theorem dX3_word_6 : decode cX3_word 6 = .ok (.aload_n 0, 1) := by decide +kernel
theorem dX3_word_7 : decode cX3_word 7 = .ok (.getfield 12, 3) := by decide +kernel
theorem dX3_word_10 : decode cX3_word 10 = .ok (.getfield 52, 3) := by decide +kernel
theorem dX3_word_13 : decode cX3_word 13 = .ok (.if_icmp .ge 23, 3) := by decide +kernel
theorem dX3_word_16 : decode cX3_word 16 = .ok (.aload_n 0, 1) := by decide +kernel
theorem dX3_word_17 : decode cX3_word 17 = .ok (.getfield 12, 3) := by decide +kernel
theorem dX3_word_20 : decode cX3_word 20 = .ok (.iload_n 1, 1) := by decide +kernel
theorem dX3_word_21 : decode cX3_word 21 = .ok (.invokevirtual 55, 3) := by decide +kernel
theorem dX3_word_24 : decode cX3_word 24 = .ok (.invokestatic 88, 3) := by decide +kernel
theorem dX3_word_27 : decode cX3_word 27 = .ok (.ifCond .eq 9, 3) := by decide +kernel
theorem dX3_word_30 : decode cX3_word 30 = .ok (.iinc 1 1, 3) := by decide +kernel
theorem dX3_word_33 : decode cX3_word 33 = .ok (.goto (-28), 3) := by decide +kernel
theorem dX3_word_36 : decode cX3_word 36 = .ok (.aload_n 0, 1) := by decide +kernel
theorem dX3_word_37 : decode cX3_word 37 = .ok (.iload_n 1, 1) := by decide +kernel
theorem dX3_word_38 : decode cX3_word 38 = .ok (.invokevirtual 92, 3) := by decide +kernel
theorem dX3_word_41 : decode cX3_word 41 = .ok (.istore_n 2, 1) := by decide +kernel
theorem dX3_word_42 : decode cX3_word 42 = .ok (.iload_n 2, 1) := by decide +kernel
theorem dX3_word_43 : decode cX3_word 43 = .ok (.iconst (-1), 1) := by decide +kernel
theorem dX3_word_44 : decode cX3_word 44 = .ok (.if_icmp .ne 11, 3) := by decide +kernel
theorem dX3_word_47 : decode cX3_word 47 = .ok (.aload_n 0, 1) := by decide +kernel
theorem dX3_word_48 : decode cX3_word 48 = .ok (.iconst 1, 1) := by decide +kernel
theorem dX3_word_49 : decode cX3_word 49 = .ok (.invokevirtual 49, 3) := by decide +kernel
theorem dX3_word_52 : decode cX3_word 52 = .ok (.bipush (-2), 2) := by decide +kernel
theorem dX3_word_54 : decode cX3_word 54 = .ok (.ireturn, 1) := by decide +kernel
theorem dX3_word_55 : decode cX3_word 55 = .ok (.aload_n 0, 1) := by decide +kernel
theorem dX3_word_56 : decode cX3_word 56 = .ok (.invokevirtual 66, 3) := by decide +kernel
theorem dX3_word_59 : decode cX3_word 59 = .ok (.ifCond .ne 6, 3) := by decide +kernel
theorem dX3_word_62 : decode cX3_word 62 = .ok (.bipush (-2), 2) := by decide +kernel
theorem dX3_word_64 : decode cX3_word 64 = .ok (.ireturn, 1) := by decide +kernel
theorem dX3_word_65 : decode cX3_word 65 = .ok (.iload_n 2, 1) := by decide +kernel
theorem dX3_word_66 : decode cX3_word 66 = .ok (.ifCond .ne 13, 3) := by decide +kernel
theorem dX3_word_69 : decode cX3_word 69 = .ok (.aload_n 0, 1) := by decide +kernel
theorem dX3_word_70 : decode cX3_word 70 = .ok (.iconst 0, 1) := by decide +kernel
theorem dX3_word_71 : decode cX3_word 71 = .ok (.lconst 0, 1) := by decide +kernel
theorem dX3_word_72 : decode cX3_word 72 = .ok (.iconst 0, 1) := by decide +kernel
theorem dX3_word_73 : decode cX3_word 73 = .ok (.invokevirtual 70, 3) := by decide +kernel
theorem dX3_word_76 : decode cX3_word 76 = .ok (.goto 54, 3) := by decide +kernel
theorem dX3_word_79 : decode cX3_word 79 = .ok (.iload_n 2, 1) := by decide +kernel
theorem dX3_word_80 : decode cX3_word 80 = .ok (.iconst 1, 1) := by decide +kernel
theorem dX3_word_81 : decode cX3_word 81 = .ok (.if_icmp .ne 17, 3) := by decide +kernel
theorem dX3_word_84 : decode cX3_word 84 = .ok (.aload_n 0, 1) := by decide +kernel
theorem dX3_word_85 : decode cX3_word 85 = .ok (.iconst 1, 1) := by decide +kernel
theorem dX3_word_86 : decode cX3_word 86 = .ok (.aload_n 0, 1) := by decide +kernel
theorem dX3_word_87 : decode cX3_word 87 = .ok (.iload_n 1, 1) := by decide +kernel
theorem dX3_word_88 : decode cX3_word 88 = .ok (.invokevirtual 95, 3) := by decide +kernel
theorem dX3_word_91 : decode cX3_word 91 = .ok (.iconst 0, 1) := by decide +kernel
theorem dX3_word_92 : decode cX3_word 92 = .ok (.invokevirtual 70, 3) := by decide +kernel
theorem dX3_word_95 : decode cX3_word 95 = .ok (.goto 35, 3) := by decide +kernel
theorem dX3_word_98 : decode cX3_word 98 = .ok (.iload_n 2, 1) := by decide +kernel
theorem dX3_word_99 : decode cX3_word 99 = .ok (.iconst 2, 1) := by decide +kernel
theorem dX3_word_100 : decode cX3_word 100 = .ok (.if_icmp .ne 30, 3) := by decide +kernel
theorem dX3_word_103 : decode cX3_word 103 = .ok (.aload_n 0, 1) := by decide +kernel
theorem dX3_word_104 : decode cX3_word 104 = .ok (.invokevirtual 99, 3) := by decide +kernel
theorem dX3_word_107 : decode cX3_word 107 = .ok (.aload_n 0, 1) := by decide +kernel
theorem dX3_word_108 : decode cX3_word 108 = .ok (.getfield 38, 3) := by decide +kernel
theorem dX3_word_111 : decode cX3_word 111 = .ok (.if_icmp .lt 8, 3) := by decide +kernel
theorem dX3_word_114 : decode cX3_word 114 = .ok (.aload_n 0, 1) := by decide +kernel
theorem dX3_word_115 : decode cX3_word 115 = .ok (.iconst 2, 1) := by decide +kernel
theorem dX3_word_116 : decode cX3_word 116 = .ok (.invokevirtual 49, 3) := by decide +kernel
theorem dX3_word_119 : decode cX3_word 119 = .ok (.aload_n 0, 1) := by decide +kernel
theorem dX3_word_120 : decode cX3_word 120 = .ok (.iconst 2, 1) := by decide +kernel
theorem dX3_word_121 : decode cX3_word 121 = .ok (.aload_n 0, 1) := by decide +kernel
theorem dX3_word_122 : decode cX3_word 122 = .ok (.invokevirtual 99, 3) := by decide +kernel
theorem dX3_word_125 : decode cX3_word 125 = .ok (.i2l, 1) := by decide +kernel
theorem dX3_word_126 : decode cX3_word 126 = .ok (.iconst 0, 1) := by decide +kernel
theorem dX3_word_127 : decode cX3_word 127 = .ok (.invokevirtual 70, 3) := by decide +kernel
theorem dX3_word_130 : decode cX3_word 130 = .ok (.aload_n 0, 1) := by decide +kernel
theorem dX3_word_131 : decode cX3_word 131 = .ok (.iload_n 1, 1) := by decide +kernel
theorem dX3_word_132 : decode cX3_word 132 = .ok (.putfield 29, 3) := by decide +kernel
theorem dX3_word_135 : decode cX3_word 135 = .ok (.iload_n 2, 1) := by decide +kernel
theorem dX3_word_136 : decode cX3_word 136 = .ok (.iconst 2, 1) := by decide +kernel
theorem dX3_word_137 : decode cX3_word 137 = .ok (.if_icmp .gt 8, 3) := by decide +kernel
theorem dX3_word_140 : decode cX3_word 140 = .ok (.bipush (-2), 2) := by decide +kernel
theorem dX3_word_142 : decode cX3_word 142 = .ok (.goto 4, 3) := by decide +kernel
theorem dX3_word_145 : decode cX3_word 145 = .ok (.iload_n 2, 1) := by decide +kernel
theorem dX3_word_146 : decode cX3_word 146 = .ok (.ireturn, 1) := by decide +kernel
theorem dX3_curveNumber_0 : decode cX3_curveNumber 0 = .ok (.aload_n 0, 1) := by decide +kernel
theorem dX3_curveNumber_1 : decode cX3_curveNumber 1 = .ok (.getfield 12, 3) := by decide +kernel
theorem dX3_curveNumber_4 : decode cX3_curveNumber 4 = .ok (.aload_n 0, 1) := by decide +kernel
theorem dX3_curveNumber_5 : decode cX3_curveNumber 5 = .ok (.getfield 29, 3) := by decide +kernel
theorem dX3_curveNumber_8 : decode cX3_curveNumber 8 = .ok (.iconst 1, 1) := by decide +kernel
theorem dX3_curveNumber_9 : decode cX3_curveNumber 9 = .ok (.iadd, 1) := by decide +kernel
theorem dX3_curveNumber_10 : decode cX3_curveNumber 10 = .ok (.invokevirtual 55, 3) := by decide +kernel
theorem dX3_curveNumber_13 : decode cX3_curveNumber 13 = .ok (.bipush 48, 2) := by decide +kernel
theorem dX3_curveNumber_15 : decode cX3_curveNumber 15 = .ok (.isub, 1) := by decide +kernel
theorem dX3_curveNumber_16 : decode cX3_curveNumber 16 = .ok (.ireturn, 1) := by decide +kernel
theorem dX3_kindOf_0 : decode cX3_kindOf 0 = .ok (.aload_n 0, 1) := by decide +kernel
theorem dX3_kindOf_1 : decode cX3_kindOf 1 = .ok (.getfield 12, 3) := by decide +kernel
theorem dX3_kindOf_4 : decode cX3_kindOf 4 = .ok (.aload_n 0, 1) := by decide +kernel
theorem dX3_kindOf_5 : decode cX3_kindOf 5 = .ok (.getfield 29, 3) := by decide +kernel
theorem dX3_kindOf_8 : decode cX3_kindOf 8 = .ok (.invokevirtual 55, 3) := by decide +kernel
theorem dX3_kindOf_11 : decode cX3_kindOf 11 = .ok (.invokestatic 102, 3) := by decide +kernel
theorem dX3_kindOf_14 : decode cX3_kindOf 14 = .ok (.ifCond .eq 17, 3) := by decide +kernel
theorem dX3_kindOf_17 : decode cX3_kindOf 17 = .ok (.aload_n 0, 1) := by decide +kernel
theorem dX3_kindOf_18 : decode cX3_kindOf 18 = .ok (.iload_n 1, 1) := by decide +kernel
theorem dX3_kindOf_19 : decode cX3_kindOf 19 = .ok (.invokevirtual 105, 3) := by decide +kernel
theorem dX3_kindOf_22 : decode cX3_kindOf 22 = .ok (.ifCond .eq 7, 3) := by decide +kernel
theorem dX3_kindOf_25 : decode cX3_kindOf 25 = .ok (.iconst 1, 1) := by decide +kernel
theorem dX3_kindOf_26 : decode cX3_kindOf 26 = .ok (.goto 4, 3) := by decide +kernel
theorem dX3_kindOf_29 : decode cX3_kindOf 29 = .ok (.iconst (-1), 1) := by decide +kernel
theorem dX3_kindOf_30 : decode cX3_kindOf 30 = .ok (.ireturn, 1) := by decide +kernel
theorem dX3_kindOf_31 : decode cX3_kindOf 31 = .ok (.aload_n 0, 1) := by decide +kernel
theorem dX3_kindOf_32 : decode cX3_kindOf 32 = .ok (.iload_n 1, 1) := by decide +kernel
theorem dX3_kindOf_33 : decode cX3_kindOf 33 = .ok (.ldc 108, 2) := by decide +kernel
theorem dX3_kindOf_35 : decode cX3_kindOf 35 = .ok (.invokevirtual 110, 3) := by decide +kernel
theorem dX3_kindOf_38 : decode cX3_kindOf 38 = .ok (.ifCond .eq 5, 3) := by decide +kernel
theorem dX3_kindOf_41 : decode cX3_kindOf 41 = .ok (.iconst 0, 1) := by decide +kernel
theorem dX3_kindOf_42 : decode cX3_kindOf 42 = .ok (.ireturn, 1) := by decide +kernel
theorem dX3_kindOf_43 : decode cX3_kindOf 43 = .ok (.iload_n 1, 1) := by decide +kernel
theorem dX3_kindOf_44 : decode cX3_kindOf 44 = .ok (.aload_n 0, 1) := by decide +kernel
theorem dX3_kindOf_45 : decode cX3_kindOf 45 = .ok (.getfield 29, 3) := by decide +kernel
theorem dX3_kindOf_48 : decode cX3_kindOf 48 = .ok (.isub, 1) := by decide +kernel
theorem dX3_kindOf_49 : decode cX3_kindOf 49 = .ok (.iconst 2, 1) := by decide +kernel
theorem dX3_kindOf_50 : decode cX3_kindOf 50 = .ok (.if_icmp .ne 40, 3) := by decide +kernel
theorem dX3_kindOf_53 : decode cX3_kindOf 53 = .ok (.aload_n 0, 1) := by decide +kernel
theorem dX3_kindOf_54 : decode cX3_kindOf 54 = .ok (.getfield 12, 3) := by decide +kernel
theorem dX3_kindOf_57 : decode cX3_kindOf 57 = .ok (.aload_n 0, 1) := by decide +kernel
theorem dX3_kindOf_58 : decode cX3_kindOf 58 = .ok (.getfield 29, 3) := by decide +kernel
theorem dX3_kindOf_61 : decode cX3_kindOf 61 = .ok (.invokevirtual 55, 3) := by decide +kernel
theorem dX3_kindOf_64 : decode cX3_kindOf 64 = .ok (.bipush 99, 2) := by decide +kernel
theorem dX3_kindOf_66 : decode cX3_kindOf 66 = .ok (.if_icmp .ne 24, 3) := by decide +kernel
theorem dX3_kindOf_69 : decode cX3_kindOf 69 = .ok (.aload_n 0, 1) := by decide +kernel
theorem dX3_kindOf_70 : decode cX3_kindOf 70 = .ok (.invokevirtual 99, 3) := by decide +kernel
theorem dX3_kindOf_73 : decode cX3_kindOf 73 = .ok (.istore_n 2, 1) := by decide +kernel
theorem dX3_kindOf_74 : decode cX3_kindOf 74 = .ok (.iload_n 2, 1) := by decide +kernel
theorem dX3_kindOf_75 : decode cX3_kindOf 75 = .ok (.ifCond .lt 13, 3) := by decide +kernel
theorem dX3_kindOf_78 : decode cX3_kindOf 78 = .ok (.iload_n 2, 1) := by decide +kernel
theorem dX3_kindOf_79 : decode cX3_kindOf 79 = .ok (.bipush 8, 2) := by decide +kernel
theorem dX3_kindOf_81 : decode cX3_kindOf 81 = .ok (.if_icmp .ge 7, 3) := by decide +kernel
theorem dX3_kindOf_84 : decode cX3_kindOf 84 = .ok (.iconst 2, 1) := by decide +kernel
theorem dX3_kindOf_85 : decode cX3_kindOf 85 = .ok (.goto 4, 3) := by decide +kernel
theorem dX3_kindOf_88 : decode cX3_kindOf 88 = .ok (.iconst (-1), 1) := by decide +kernel
theorem dX3_kindOf_89 : decode cX3_kindOf 89 = .ok (.ireturn, 1) := by decide +kernel
theorem dX3_kindOf_90 : decode cX3_kindOf 90 = .ok (.aload_n 0, 1) := by decide +kernel
theorem dX3_kindOf_91 : decode cX3_kindOf 91 = .ok (.iload_n 1, 1) := by decide +kernel
theorem dX3_kindOf_92 : decode cX3_kindOf 92 = .ok (.invokevirtual 114, 3) := by decide +kernel
theorem dX3_kindOf_95 : decode cX3_kindOf 95 = .ok (.ireturn, 1) := by decide +kernel
theorem dX3_nameOf_0 : decode cX3_nameOf 0 = .ok (.aload_n 0, 1) := by decide +kernel
theorem dX3_nameOf_1 : decode cX3_nameOf 1 = .ok (.iload_n 1, 1) := by decide +kernel
theorem dX3_nameOf_2 : decode cX3_nameOf 2 = .ok (.ldc 117, 2) := by decide +kernel
theorem dX3_nameOf_4 : decode cX3_nameOf 4 = .ok (.invokevirtual 110, 3) := by decide +kernel
theorem dX3_nameOf_7 : decode cX3_nameOf 7 = .ok (.ifCond .eq 5, 3) := by decide +kernel
theorem dX3_nameOf_10 : decode cX3_nameOf 10 = .ok (.iconst 5, 1) := by decide +kernel
theorem dX3_nameOf_11 : decode cX3_nameOf 11 = .ok (.ireturn, 1) := by decide +kernel
theorem dX3_nameOf_12 : decode cX3_nameOf 12 = .ok (.aload_n 0, 1) := by decide +kernel
theorem dX3_nameOf_13 : decode cX3_nameOf 13 = .ok (.iload_n 1, 1) := by decide +kernel
theorem dX3_nameOf_14 : decode cX3_nameOf 14 = .ok (.ldc 119, 2) := by decide +kernel
theorem dX3_nameOf_16 : decode cX3_nameOf 16 = .ok (.invokevirtual 110, 3) := by decide +kernel
theorem dX3_nameOf_19 : decode cX3_nameOf 19 = .ok (.ifCond .eq 6, 3) := by decide +kernel
theorem dX3_nameOf_22 : decode cX3_nameOf 22 = .ok (.bipush 6, 2) := by decide +kernel
theorem dX3_nameOf_24 : decode cX3_nameOf 24 = .ok (.ireturn, 1) := by decide +kernel
theorem dX3_nameOf_25 : decode cX3_nameOf 25 = .ok (.aload_n 0, 1) := by decide +kernel
theorem dX3_nameOf_26 : decode cX3_nameOf 26 = .ok (.iload_n 1, 1) := by decide +kernel
theorem dX3_nameOf_27 : decode cX3_nameOf 27 = .ok (.ldc 121, 2) := by decide +kernel
theorem dX3_nameOf_29 : decode cX3_nameOf 29 = .ok (.invokevirtual 110, 3) := by decide +kernel
theorem dX3_nameOf_32 : decode cX3_nameOf 32 = .ok (.ifCond .eq 6, 3) := by decide +kernel
theorem dX3_nameOf_35 : decode cX3_nameOf 35 = .ok (.bipush 7, 2) := by decide +kernel
theorem dX3_nameOf_37 : decode cX3_nameOf 37 = .ok (.ireturn, 1) := by decide +kernel
theorem dX3_nameOf_38 : decode cX3_nameOf 38 = .ok (.aload_n 0, 1) := by decide +kernel
theorem dX3_nameOf_39 : decode cX3_nameOf 39 = .ok (.iload_n 1, 1) := by decide +kernel
theorem dX3_nameOf_40 : decode cX3_nameOf 40 = .ok (.ldc 123, 2) := by decide +kernel
theorem dX3_nameOf_42 : decode cX3_nameOf 42 = .ok (.invokevirtual 110, 3) := by decide +kernel
theorem dX3_nameOf_45 : decode cX3_nameOf 45 = .ok (.ifCond .eq 6, 3) := by decide +kernel
theorem dX3_nameOf_48 : decode cX3_nameOf 48 = .ok (.bipush 8, 2) := by decide +kernel
theorem dX3_nameOf_50 : decode cX3_nameOf 50 = .ok (.ireturn, 1) := by decide +kernel
theorem dX3_nameOf_51 : decode cX3_nameOf 51 = .ok (.aload_n 0, 1) := by decide +kernel
theorem dX3_nameOf_52 : decode cX3_nameOf 52 = .ok (.iload_n 1, 1) := by decide +kernel
theorem dX3_nameOf_53 : decode cX3_nameOf 53 = .ok (.ldc 125, 2) := by decide +kernel
theorem dX3_nameOf_55 : decode cX3_nameOf 55 = .ok (.invokevirtual 110, 3) := by decide +kernel
theorem dX3_nameOf_58 : decode cX3_nameOf 58 = .ok (.ifCond .eq 6, 3) := by decide +kernel
theorem dX3_nameOf_61 : decode cX3_nameOf 61 = .ok (.bipush 9, 2) := by decide +kernel
theorem dX3_nameOf_63 : decode cX3_nameOf 63 = .ok (.ireturn, 1) := by decide +kernel
theorem dX3_nameOf_64 : decode cX3_nameOf 64 = .ok (.aload_n 0, 1) := by decide +kernel
theorem dX3_nameOf_65 : decode cX3_nameOf 65 = .ok (.iload_n 1, 1) := by decide +kernel
theorem dX3_nameOf_66 : decode cX3_nameOf 66 = .ok (.ldc 127, 2) := by decide +kernel
theorem dX3_nameOf_68 : decode cX3_nameOf 68 = .ok (.invokevirtual 110, 3) := by decide +kernel
theorem dX3_nameOf_71 : decode cX3_nameOf 71 = .ok (.ifCond .eq 6, 3) := by decide +kernel
theorem dX3_nameOf_74 : decode cX3_nameOf 74 = .ok (.bipush 10, 2) := by decide +kernel
theorem dX3_nameOf_76 : decode cX3_nameOf 76 = .ok (.ireturn, 1) := by decide +kernel
theorem dX3_nameOf_77 : decode cX3_nameOf 77 = .ok (.aload_n 0, 1) := by decide +kernel
theorem dX3_nameOf_78 : decode cX3_nameOf 78 = .ok (.iload_n 1, 1) := by decide +kernel
theorem dX3_nameOf_79 : decode cX3_nameOf 79 = .ok (.ldc 128, 2) := by decide +kernel
theorem dX3_nameOf_81 : decode cX3_nameOf 81 = .ok (.invokevirtual 110, 3) := by decide +kernel
theorem dX3_nameOf_84 : decode cX3_nameOf 84 = .ok (.ifCond .eq 6, 3) := by decide +kernel
theorem dX3_nameOf_87 : decode cX3_nameOf 87 = .ok (.bipush 11, 2) := by decide +kernel
theorem dX3_nameOf_89 : decode cX3_nameOf 89 = .ok (.ireturn, 1) := by decide +kernel
theorem dX3_nameOf_90 : decode cX3_nameOf 90 = .ok (.aload_n 0, 1) := by decide +kernel
theorem dX3_nameOf_91 : decode cX3_nameOf 91 = .ok (.iload_n 1, 1) := by decide +kernel
theorem dX3_nameOf_92 : decode cX3_nameOf 92 = .ok (.ldc 130, 2) := by decide +kernel
theorem dX3_nameOf_94 : decode cX3_nameOf 94 = .ok (.invokevirtual 110, 3) := by decide +kernel
theorem dX3_nameOf_97 : decode cX3_nameOf 97 = .ok (.ifCond .eq 8, 3) := by decide +kernel
theorem dX3_nameOf_100 : decode cX3_nameOf 100 = .ok (.bipush 12, 2) := by decide +kernel
theorem dX3_nameOf_102 : decode cX3_nameOf 102 = .ok (.goto 4, 3) := by decide +kernel
theorem dX3_nameOf_105 : decode cX3_nameOf 105 = .ok (.iconst (-1), 1) := by decide +kernel
theorem dX3_nameOf_106 : decode cX3_nameOf 106 = .ok (.ireturn, 1) := by decide +kernel
theorem dX3_isWord_0 : decode cX3_isWord 0 = .ok (.iload_n 1, 1) := by decide +kernel
theorem dX3_isWord_1 : decode cX3_isWord 1 = .ok (.aload_n 0, 1) := by decide +kernel
theorem dX3_isWord_2 : decode cX3_isWord 2 = .ok (.getfield 29, 3) := by decide +kernel
theorem dX3_isWord_5 : decode cX3_isWord 5 = .ok (.isub, 1) := by decide +kernel
theorem dX3_isWord_6 : decode cX3_isWord 6 = .ok (.aload_n 2, 1) := by decide +kernel
theorem dX3_isWord_7 : decode cX3_isWord 7 = .ok (.invokevirtual 132, 3) := by decide +kernel
theorem dX3_isWord_10 : decode cX3_isWord 10 = .ok (.if_icmp .eq 5, 3) := by decide +kernel
theorem dX3_isWord_13 : decode cX3_isWord 13 = .ok (.iconst 0, 1) := by decide +kernel
theorem dX3_isWord_14 : decode cX3_isWord 14 = .ok (.ireturn, 1) := by decide +kernel
theorem dX3_isWord_15 : decode cX3_isWord 15 = .ok (.iconst 0, 1) := by decide +kernel
theorem dX3_isWord_16 : decode cX3_isWord 16 = .ok (.istore_n 3, 1) := by decide +kernel
theorem dX3_isWord_17 : decode cX3_isWord 17 = .ok (.iload_n 3, 1) := by decide +kernel
theorem dX3_isWord_18 : decode cX3_isWord 18 = .ok (.aload_n 2, 1) := by decide +kernel
theorem dX3_isWord_19 : decode cX3_isWord 19 = .ok (.invokevirtual 132, 3) := by decide +kernel
theorem dX3_isWord_22 : decode cX3_isWord 22 = .ok (.if_icmp .ge 32, 3) := by decide +kernel
theorem dX3_isWord_25 : decode cX3_isWord 25 = .ok (.aload_n 0, 1) := by decide +kernel
theorem dX3_isWord_26 : decode cX3_isWord 26 = .ok (.getfield 12, 3) := by decide +kernel
theorem dX3_isWord_29 : decode cX3_isWord 29 = .ok (.aload_n 0, 1) := by decide +kernel
theorem dX3_isWord_30 : decode cX3_isWord 30 = .ok (.getfield 29, 3) := by decide +kernel
theorem dX3_isWord_33 : decode cX3_isWord 33 = .ok (.iload_n 3, 1) := by decide +kernel
theorem dX3_isWord_34 : decode cX3_isWord 34 = .ok (.iadd, 1) := by decide +kernel
theorem dX3_isWord_35 : decode cX3_isWord 35 = .ok (.invokevirtual 55, 3) := by decide +kernel
theorem dX3_isWord_38 : decode cX3_isWord 38 = .ok (.aload_n 2, 1) := by decide +kernel
theorem dX3_isWord_39 : decode cX3_isWord 39 = .ok (.iload_n 3, 1) := by decide +kernel
theorem dX3_isWord_40 : decode cX3_isWord 40 = .ok (.invokevirtual 137, 3) := by decide +kernel
theorem dX3_isWord_43 : decode cX3_isWord 43 = .ok (.if_icmp .eq 5, 3) := by decide +kernel
theorem dX3_isWord_46 : decode cX3_isWord 46 = .ok (.iconst 0, 1) := by decide +kernel
theorem dX3_isWord_47 : decode cX3_isWord 47 = .ok (.ireturn, 1) := by decide +kernel
theorem dX3_isWord_48 : decode cX3_isWord 48 = .ok (.iinc 3 1, 3) := by decide +kernel
theorem dX3_isWord_51 : decode cX3_isWord 51 = .ok (.goto (-34), 3) := by decide +kernel
theorem dX3_isWord_54 : decode cX3_isWord 54 = .ok (.iconst 1, 1) := by decide +kernel
theorem dX3_isWord_55 : decode cX3_isWord 55 = .ok (.ireturn, 1) := by decide +kernel
theorem dX3_isNumber_0 : decode cX3_isNumber 0 = .ok (.aload_n 0, 1) := by decide +kernel
theorem dX3_isNumber_1 : decode cX3_isNumber 1 = .ok (.getfield 29, 3) := by decide +kernel
theorem dX3_isNumber_4 : decode cX3_isNumber 4 = .ok (.istore_n 2, 1) := by decide +kernel
theorem dX3_isNumber_5 : decode cX3_isNumber 5 = .ok (.iload_n 2, 1) := by decide +kernel
theorem dX3_isNumber_6 : decode cX3_isNumber 6 = .ok (.iload_n 1, 1) := by decide +kernel
theorem dX3_isNumber_7 : decode cX3_isNumber 7 = .ok (.if_icmp .ge 23, 3) := by decide +kernel
theorem dX3_isNumber_10 : decode cX3_isNumber 10 = .ok (.aload_n 0, 1) := by decide +kernel
theorem dX3_isNumber_11 : decode cX3_isNumber 11 = .ok (.getfield 12, 3) := by decide +kernel
theorem dX3_isNumber_14 : decode cX3_isNumber 14 = .ok (.iload_n 2, 1) := by decide +kernel
theorem dX3_isNumber_15 : decode cX3_isNumber 15 = .ok (.invokevirtual 55, 3) := by decide +kernel
theorem dX3_isNumber_18 : decode cX3_isNumber 18 = .ok (.invokestatic 102, 3) := by decide +kernel
theorem dX3_isNumber_21 : decode cX3_isNumber 21 = .ok (.ifCond .eq 9, 3) := by decide +kernel
theorem dX3_isNumber_24 : decode cX3_isNumber 24 = .ok (.iinc 2 1, 3) := by decide +kernel
theorem dX3_isNumber_27 : decode cX3_isNumber 27 = .ok (.goto (-22), 3) := by decide +kernel
theorem dX3_isNumber_30 : decode cX3_isNumber 30 = .ok (.iload_n 2, 1) := by decide +kernel
theorem dX3_isNumber_31 : decode cX3_isNumber 31 = .ok (.aload_n 0, 1) := by decide +kernel
theorem dX3_isNumber_32 : decode cX3_isNumber 32 = .ok (.getfield 29, 3) := by decide +kernel
theorem dX3_isNumber_35 : decode cX3_isNumber 35 = .ok (.isub, 1) := by decide +kernel
theorem dX3_isNumber_36 : decode cX3_isNumber 36 = .ok (.iconst 1, 1) := by decide +kernel
theorem dX3_isNumber_37 : decode cX3_isNumber 37 = .ok (.if_icmp .lt 13, 3) := by decide +kernel
theorem dX3_isNumber_40 : decode cX3_isNumber 40 = .ok (.iload_n 2, 1) := by decide +kernel
theorem dX3_isNumber_41 : decode cX3_isNumber 41 = .ok (.aload_n 0, 1) := by decide +kernel
theorem dX3_isNumber_42 : decode cX3_isNumber 42 = .ok (.getfield 29, 3) := by decide +kernel
theorem dX3_isNumber_45 : decode cX3_isNumber 45 = .ok (.isub, 1) := by decide +kernel
theorem dX3_isNumber_46 : decode cX3_isNumber 46 = .ok (.iconst 4, 1) := by decide +kernel
theorem dX3_isNumber_47 : decode cX3_isNumber 47 = .ok (.if_icmp .le 5, 3) := by decide +kernel
theorem dX3_isNumber_50 : decode cX3_isNumber 50 = .ok (.iconst 0, 1) := by decide +kernel
theorem dX3_isNumber_51 : decode cX3_isNumber 51 = .ok (.ireturn, 1) := by decide +kernel
theorem dX3_isNumber_52 : decode cX3_isNumber 52 = .ok (.iload_n 2, 1) := by decide +kernel
theorem dX3_isNumber_53 : decode cX3_isNumber 53 = .ok (.iload_n 1, 1) := by decide +kernel
theorem dX3_isNumber_54 : decode cX3_isNumber 54 = .ok (.if_icmp .ne 5, 3) := by decide +kernel
theorem dX3_isNumber_57 : decode cX3_isNumber 57 = .ok (.iconst 1, 1) := by decide +kernel
theorem dX3_isNumber_58 : decode cX3_isNumber 58 = .ok (.ireturn, 1) := by decide +kernel
theorem dX3_isNumber_59 : decode cX3_isNumber 59 = .ok (.iload_n 1, 1) := by decide +kernel
theorem dX3_isNumber_60 : decode cX3_isNumber 60 = .ok (.iload_n 2, 1) := by decide +kernel
theorem dX3_isNumber_61 : decode cX3_isNumber 61 = .ok (.isub, 1) := by decide +kernel
theorem dX3_isNumber_62 : decode cX3_isNumber 62 = .ok (.iconst 1, 1) := by decide +kernel
theorem dX3_isNumber_63 : decode cX3_isNumber 63 = .ok (.isub, 1) := by decide +kernel
theorem dX3_isNumber_64 : decode cX3_isNumber 64 = .ok (.istore_n 3, 1) := by decide +kernel
theorem dX3_isNumber_65 : decode cX3_isNumber 65 = .ok (.aload_n 0, 1) := by decide +kernel
theorem dX3_isNumber_66 : decode cX3_isNumber 66 = .ok (.getfield 12, 3) := by decide +kernel
theorem dX3_isNumber_69 : decode cX3_isNumber 69 = .ok (.iload_n 2, 1) := by decide +kernel
theorem dX3_isNumber_70 : decode cX3_isNumber 70 = .ok (.invokevirtual 55, 3) := by decide +kernel
theorem dX3_isNumber_73 : decode cX3_isNumber 73 = .ok (.bipush 46, 2) := by decide +kernel
theorem dX3_isNumber_75 : decode cX3_isNumber 75 = .ok (.if_icmp .ne 13, 3) := by decide +kernel
theorem dX3_isNumber_78 : decode cX3_isNumber 78 = .ok (.iload_n 3, 1) := by decide +kernel
theorem dX3_isNumber_79 : decode cX3_isNumber 79 = .ok (.iconst 1, 1) := by decide +kernel
theorem dX3_isNumber_80 : decode cX3_isNumber 80 = .ok (.if_icmp .lt 8, 3) := by decide +kernel
theorem dX3_isNumber_83 : decode cX3_isNumber 83 = .ok (.iload_n 3, 1) := by decide +kernel
theorem dX3_isNumber_84 : decode cX3_isNumber 84 = .ok (.iconst 4, 1) := by decide +kernel
theorem dX3_isNumber_85 : decode cX3_isNumber 85 = .ok (.if_icmp .le 5, 3) := by decide +kernel
theorem dX3_isNumber_88 : decode cX3_isNumber 88 = .ok (.iconst 0, 1) := by decide +kernel
theorem dX3_isNumber_89 : decode cX3_isNumber 89 = .ok (.ireturn, 1) := by decide +kernel
theorem dX3_isNumber_90 : decode cX3_isNumber 90 = .ok (.iload_n 2, 1) := by decide +kernel
theorem dX3_isNumber_91 : decode cX3_isNumber 91 = .ok (.iconst 1, 1) := by decide +kernel
theorem dX3_isNumber_92 : decode cX3_isNumber 92 = .ok (.iadd, 1) := by decide +kernel
theorem dX3_isNumber_93 : decode cX3_isNumber 93 = .ok (.istore 4, 2) := by decide +kernel
theorem dX3_isNumber_95 : decode cX3_isNumber 95 = .ok (.iload 4, 2) := by decide +kernel
theorem dX3_isNumber_97 : decode cX3_isNumber 97 = .ok (.iload_n 1, 1) := by decide +kernel
theorem dX3_isNumber_98 : decode cX3_isNumber 98 = .ok (.if_icmp .ge 26, 3) := by decide +kernel
theorem dX3_isNumber_101 : decode cX3_isNumber 101 = .ok (.aload_n 0, 1) := by decide +kernel
theorem dX3_isNumber_102 : decode cX3_isNumber 102 = .ok (.getfield 12, 3) := by decide +kernel
theorem dX3_isNumber_105 : decode cX3_isNumber 105 = .ok (.iload 4, 2) := by decide +kernel
theorem dX3_isNumber_107 : decode cX3_isNumber 107 = .ok (.invokevirtual 55, 3) := by decide +kernel
theorem dX3_isNumber_110 : decode cX3_isNumber 110 = .ok (.invokestatic 102, 3) := by decide +kernel
theorem dX3_isNumber_113 : decode cX3_isNumber 113 = .ok (.ifCond .ne 5, 3) := by decide +kernel
theorem dX3_isNumber_116 : decode cX3_isNumber 116 = .ok (.iconst 0, 1) := by decide +kernel
theorem dX3_isNumber_117 : decode cX3_isNumber 117 = .ok (.ireturn, 1) := by decide +kernel
theorem dX3_isNumber_118 : decode cX3_isNumber 118 = .ok (.iinc 4 1, 3) := by decide +kernel
theorem dX3_isNumber_121 : decode cX3_isNumber 121 = .ok (.goto (-26), 3) := by decide +kernel
theorem dX3_isNumber_124 : decode cX3_isNumber 124 = .ok (.iconst 1, 1) := by decide +kernel
theorem dX3_isNumber_125 : decode cX3_isNumber 125 = .ok (.ireturn, 1) := by decide +kernel
theorem dX3_number_0 : decode cX3_number 0 = .ok (.lconst 0, 1) := by decide +kernel
theorem dX3_number_1 : decode cX3_number 1 = .ok (.lstore_n 2, 1) := by decide +kernel
theorem dX3_number_2 : decode cX3_number 2 = .ok (.lconst 1, 1) := by decide +kernel
theorem dX3_number_3 : decode cX3_number 3 = .ok (.lstore 4, 2) := by decide +kernel
theorem dX3_number_5 : decode cX3_number 5 = .ok (.iconst 0, 1) := by decide +kernel
theorem dX3_number_6 : decode cX3_number 6 = .ok (.istore 6, 2) := by decide +kernel
theorem dX3_number_8 : decode cX3_number 8 = .ok (.aload_n 0, 1) := by decide +kernel
theorem dX3_number_9 : decode cX3_number 9 = .ok (.getfield 29, 3) := by decide +kernel
theorem dX3_number_12 : decode cX3_number 12 = .ok (.istore 7, 2) := by decide +kernel
theorem dX3_number_14 : decode cX3_number 14 = .ok (.iload 7, 2) := by decide +kernel
theorem dX3_number_16 : decode cX3_number 16 = .ok (.iload_n 1, 1) := by decide +kernel
theorem dX3_number_17 : decode cX3_number 17 = .ok (.if_icmp .ge 66, 3) := by decide +kernel
theorem dX3_number_20 : decode cX3_number 20 = .ok (.aload_n 0, 1) := by decide +kernel
theorem dX3_number_21 : decode cX3_number 21 = .ok (.getfield 12, 3) := by decide +kernel
theorem dX3_number_24 : decode cX3_number 24 = .ok (.iload 7, 2) := by decide +kernel
theorem dX3_number_26 : decode cX3_number 26 = .ok (.invokevirtual 55, 3) := by decide +kernel
theorem dX3_number_29 : decode cX3_number 29 = .ok (.istore 8, 2) := by decide +kernel
theorem dX3_number_31 : decode cX3_number 31 = .ok (.iload 8, 2) := by decide +kernel
theorem dX3_number_33 : decode cX3_number 33 = .ok (.invokestatic 102, 3) := by decide +kernel
theorem dX3_number_36 : decode cX3_number 36 = .ok (.ifCond .eq 38, 3) := by decide +kernel
theorem dX3_number_39 : decode cX3_number 39 = .ok (.lload_n 2, 1) := by decide +kernel
theorem dX3_number_40 : decode cX3_number 40 = .ok (.ldc2_w 141, 3) := by decide +kernel
theorem dX3_number_43 : decode cX3_number 43 = .ok (.lmul, 1) := by decide +kernel
theorem dX3_number_44 : decode cX3_number 44 = .ok (.iload 8, 2) := by decide +kernel
theorem dX3_number_46 : decode cX3_number 46 = .ok (.i2l, 1) := by decide +kernel
theorem dX3_number_47 : decode cX3_number 47 = .ok (.ladd, 1) := by decide +kernel
theorem dX3_number_48 : decode cX3_number 48 = .ok (.ldc2_w 143, 3) := by decide +kernel
theorem dX3_number_51 : decode cX3_number 51 = .ok (.lsub, 1) := by decide +kernel
theorem dX3_number_52 : decode cX3_number 52 = .ok (.lstore_n 2, 1) := by decide +kernel
theorem dX3_number_53 : decode cX3_number 53 = .ok (.iload 6, 2) := by decide +kernel
theorem dX3_number_55 : decode cX3_number 55 = .ok (.ifCond .eq 12, 3) := by decide +kernel
theorem dX3_number_58 : decode cX3_number 58 = .ok (.lload 4, 2) := by decide +kernel
theorem dX3_number_60 : decode cX3_number 60 = .ok (.ldc2_w 141, 3) := by decide +kernel
theorem dX3_number_63 : decode cX3_number 63 = .ok (.lmul, 1) := by decide +kernel
theorem dX3_number_64 : decode cX3_number 64 = .ok (.goto 5, 3) := by decide +kernel
theorem dX3_number_67 : decode cX3_number 67 = .ok (.lload 4, 2) := by decide +kernel
theorem dX3_number_69 : decode cX3_number 69 = .ok (.lstore 4, 2) := by decide +kernel
theorem dX3_number_71 : decode cX3_number 71 = .ok (.goto 6, 3) := by decide +kernel
theorem dX3_number_74 : decode cX3_number 74 = .ok (.iconst 1, 1) := by decide +kernel
theorem dX3_number_75 : decode cX3_number 75 = .ok (.istore 6, 2) := by decide +kernel
theorem dX3_number_77 : decode cX3_number 77 = .ok (.iinc 7 1, 3) := by decide +kernel
theorem dX3_number_80 : decode cX3_number 80 = .ok (.goto (-66), 3) := by decide +kernel
theorem dX3_number_83 : decode cX3_number 83 = .ok (.lload 4, 2) := by decide +kernel
theorem dX3_number_85 : decode cX3_number 85 = .ok (.lconst 1, 1) := by decide +kernel
theorem dX3_number_86 : decode cX3_number 86 = .ok (.lcmp, 1) := by decide +kernel
theorem dX3_number_87 : decode cX3_number 87 = .ok (.ifCond .ge 7, 3) := by decide +kernel
theorem dX3_number_90 : decode cX3_number 90 = .ok (.ldc2_w 147, 3) := by decide +kernel
theorem dX3_number_93 : decode cX3_number 93 = .ok (.lreturn, 1) := by decide +kernel
theorem dX3_number_94 : decode cX3_number 94 = .ok (.lload_n 2, 1) := by decide +kernel
theorem dX3_number_95 : decode cX3_number 95 = .ok (.ldc2_w 149, 3) := by decide +kernel
theorem dX3_number_98 : decode cX3_number 98 = .ok (.lmul, 1) := by decide +kernel
theorem dX3_number_99 : decode cX3_number 99 = .ok (.lstore 7, 2) := by decide +kernel
theorem dX3_number_101 : decode cX3_number 101 = .ok (.lload 7, 2) := by decide +kernel
theorem dX3_number_103 : decode cX3_number 103 = .ok (.lload 4, 2) := by decide +kernel
theorem dX3_number_105 : decode cX3_number 105 = .ok (.ldiv, 1) := by decide +kernel
theorem dX3_number_106 : decode cX3_number 106 = .ok (.lload 7, 2) := by decide +kernel
theorem dX3_number_108 : decode cX3_number 108 = .ok (.lload 4, 2) := by decide +kernel
theorem dX3_number_110 : decode cX3_number 110 = .ok (.ladd, 1) := by decide +kernel
theorem dX3_number_111 : decode cX3_number 111 = .ok (.lconst 1, 1) := by decide +kernel
theorem dX3_number_112 : decode cX3_number 112 = .ok (.lsub, 1) := by decide +kernel
theorem dX3_number_113 : decode cX3_number 113 = .ok (.lload 4, 2) := by decide +kernel
theorem dX3_number_115 : decode cX3_number 115 = .ok (.ldiv, 1) := by decide +kernel
theorem dX3_number_116 : decode cX3_number 116 = .ok (.invokestatic 151, 3) := by decide +kernel
theorem dX3_number_119 : decode cX3_number 119 = .ok (.lreturn, 1) := by decide +kernel
theorem dX3_isDigit_0 : decode cX3_isDigit 0 = .ok (.iload_n 0, 1) := by decide +kernel
theorem dX3_isDigit_1 : decode cX3_isDigit 1 = .ok (.bipush 48, 2) := by decide +kernel
theorem dX3_isDigit_3 : decode cX3_isDigit 3 = .ok (.if_icmp .lt 13, 3) := by decide +kernel
theorem dX3_isDigit_6 : decode cX3_isDigit 6 = .ok (.iload_n 0, 1) := by decide +kernel
theorem dX3_isDigit_7 : decode cX3_isDigit 7 = .ok (.bipush 57, 2) := by decide +kernel
theorem dX3_isDigit_9 : decode cX3_isDigit 9 = .ok (.if_icmp .gt 7, 3) := by decide +kernel
theorem dX3_isDigit_12 : decode cX3_isDigit 12 = .ok (.iconst 1, 1) := by decide +kernel
theorem dX3_isDigit_13 : decode cX3_isDigit 13 = .ok (.goto 4, 3) := by decide +kernel
theorem dX3_isDigit_16 : decode cX3_isDigit 16 = .ok (.iconst 0, 1) := by decide +kernel
theorem dX3_isDigit_17 : decode cX3_isDigit 17 = .ok (.ireturn, 1) := by decide +kernel
theorem dX3_isWordByte_0 : decode cX3_isWordByte 0 = .ok (.iload_n 0, 1) := by decide +kernel
theorem dX3_isWordByte_1 : decode cX3_isWordByte 1 = .ok (.invokestatic 102, 3) := by decide +kernel
theorem dX3_isWordByte_4 : decode cX3_isWordByte 4 = .ok (.ifCond .ne 33, 3) := by decide +kernel
theorem dX3_isWordByte_7 : decode cX3_isWordByte 7 = .ok (.iload_n 0, 1) := by decide +kernel
theorem dX3_isWordByte_8 : decode cX3_isWordByte 8 = .ok (.bipush 46, 2) := by decide +kernel
theorem dX3_isWordByte_10 : decode cX3_isWordByte 10 = .ok (.if_icmp .eq 27, 3) := by decide +kernel
theorem dX3_isWordByte_13 : decode cX3_isWordByte 13 = .ok (.iload_n 0, 1) := by decide +kernel
theorem dX3_isWordByte_14 : decode cX3_isWordByte 14 = .ok (.bipush 97, 2) := by decide +kernel
theorem dX3_isWordByte_16 : decode cX3_isWordByte 16 = .ok (.if_icmp .lt 9, 3) := by decide +kernel
theorem dX3_isWordByte_19 : decode cX3_isWordByte 19 = .ok (.iload_n 0, 1) := by decide +kernel
theorem dX3_isWordByte_20 : decode cX3_isWordByte 20 = .ok (.bipush 122, 2) := by decide +kernel
theorem dX3_isWordByte_22 : decode cX3_isWordByte 22 = .ok (.if_icmp .le 15, 3) := by decide +kernel
theorem dX3_isWordByte_25 : decode cX3_isWordByte 25 = .ok (.iload_n 0, 1) := by decide +kernel
theorem dX3_isWordByte_26 : decode cX3_isWordByte 26 = .ok (.bipush 65, 2) := by decide +kernel
theorem dX3_isWordByte_28 : decode cX3_isWordByte 28 = .ok (.if_icmp .lt 13, 3) := by decide +kernel
theorem dX3_isWordByte_31 : decode cX3_isWordByte 31 = .ok (.iload_n 0, 1) := by decide +kernel
theorem dX3_isWordByte_32 : decode cX3_isWordByte 32 = .ok (.bipush 90, 2) := by decide +kernel
theorem dX3_isWordByte_34 : decode cX3_isWordByte 34 = .ok (.if_icmp .gt 7, 3) := by decide +kernel
theorem dX3_isWordByte_37 : decode cX3_isWordByte 37 = .ok (.iconst 1, 1) := by decide +kernel
theorem dX3_isWordByte_38 : decode cX3_isWordByte 38 = .ok (.goto 4, 3) := by decide +kernel
theorem dX3_isWordByte_41 : decode cX3_isWordByte 41 = .ok (.iconst 0, 1) := by decide +kernel
theorem dX3_isWordByte_42 : decode cX3_isWordByte 42 = .ok (.ireturn, 1) := by decide +kernel
