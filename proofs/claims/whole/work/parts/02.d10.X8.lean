theorem dX8_init_0 : decode cX8_init 0 = .ok (.aload_n 0, 1) := by decide +kernel
theorem dX8_init_1 : decode cX8_init 1 = .ok (.invokespecial 1, 3) := by decide +kernel
theorem dX8_init_4 : decode cX8_init 4 = .ok (.aload_n 0, 1) := by decide +kernel
theorem dX8_init_5 : decode cX8_init 5 = .ok (.new 7, 3) := by decide +kernel
theorem dX8_init_8 : decode cX8_init 8 = .ok (.dup, 1) := by decide +kernel
theorem dX8_init_9 : decode cX8_init 9 = .ok (.invokespecial 9, 3) := by decide +kernel
theorem dX8_init_12 : decode cX8_init 12 = .ok (.putfield 10, 3) := by decide +kernel
theorem dX8_init_15 : decode cX8_init 15 = .ok (.aload_n 0, 1) := by decide +kernel
theorem dX8_init_16 : decode cX8_init 16 = .ok (.new 16, 3) := by decide +kernel
theorem dX8_init_19 : decode cX8_init 19 = .ok (.dup, 1) := by decide +kernel
theorem dX8_init_20 : decode cX8_init 20 = .ok (.invokespecial 18, 3) := by decide +kernel
theorem dX8_init_23 : decode cX8_init 23 = .ok (.putfield 19, 3) := by decide +kernel
theorem dX8_init_26 : decode cX8_init 26 = .ok (.aload_n 0, 1) := by decide +kernel
theorem dX8_init_27 : decode cX8_init 27 = .ok (.new 23, 3) := by decide +kernel
theorem dX8_init_30 : decode cX8_init 30 = .ok (.dup, 1) := by decide +kernel
theorem dX8_init_31 : decode cX8_init 31 = .ok (.invokespecial 25, 3) := by decide +kernel
theorem dX8_init_34 : decode cX8_init 34 = .ok (.putfield 26, 3) := by decide +kernel
theorem dX8_init_37 : decode cX8_init 37 = .ok (.aload_n 0, 1) := by decide +kernel
theorem dX8_init_38 : decode cX8_init 38 = .ok (.new 30, 3) := by decide +kernel
theorem dX8_init_41 : decode cX8_init 41 = .ok (.dup, 1) := by decide +kernel
theorem dX8_init_42 : decode cX8_init 42 = .ok (.invokespecial 32, 3) := by decide +kernel
theorem dX8_init_45 : decode cX8_init 45 = .ok (.putfield 33, 3) := by decide +kernel
theorem dX8_init_48 : decode cX8_init 48 = .ok (.return_, 1) := by decide +kernel
theorem dX8_feed_0 : decode cX8_feed 0 = .ok (.aload_n 0, 1) := by decide +kernel
theorem dX8_feed_1 : decode cX8_feed 1 = .ok (.getfield 10, 3) := by decide +kernel
theorem dX8_feed_4 : decode cX8_feed 4 = .ok (.getfield 37, 3) := by decide +kernel
theorem dX8_feed_7 : decode cX8_feed 7 = .ok (.astore 6, 2) := by decide +kernel
theorem dX8_feed_9 : decode cX8_feed 9 = .ok (.aload 6, 2) := by decide +kernel
theorem dX8_feed_11 : decode cX8_feed 11 = .ok (.getfield 41, 3) := by decide +kernel
theorem dX8_feed_14 : decode cX8_feed 14 = .ok (.bipush 20, 2) := by decide +kernel
theorem dX8_feed_16 : decode cX8_feed 16 = .ok (.iadd, 1) := by decide +kernel
theorem dX8_feed_17 : decode cX8_feed 17 = .ok (.sipush 200, 3) := by decide +kernel
theorem dX8_feed_20 : decode cX8_feed 20 = .ok (.if_icmp .le 5, 3) := by decide +kernel
theorem dX8_feed_23 : decode cX8_feed 23 = .ok (.iconst (-1), 1) := by decide +kernel
theorem dX8_feed_24 : decode cX8_feed 24 = .ok (.ireturn, 1) := by decide +kernel
theorem dX8_feed_25 : decode cX8_feed 25 = .ok (.aload 6, 2) := by decide +kernel
theorem dX8_feed_27 : decode cX8_feed 27 = .ok (.iload_n 1, 1) := by decide +kernel
theorem dX8_feed_28 : decode cX8_feed 28 = .ok (.invokevirtual 47, 3) := by decide +kernel
theorem dX8_feed_31 : decode cX8_feed 31 = .ok (.aload 6, 2) := by decide +kernel
theorem dX8_feed_33 : decode cX8_feed 33 = .ok (.iload_n 2, 1) := by decide +kernel
theorem dX8_feed_34 : decode cX8_feed 34 = .ok (.invokevirtual 47, 3) := by decide +kernel
theorem dX8_feed_37 : decode cX8_feed 37 = .ok (.aload 6, 2) := by decide +kernel
theorem dX8_feed_39 : decode cX8_feed 39 = .ok (.iload_n 3, 1) := by decide +kernel
theorem dX8_feed_40 : decode cX8_feed 40 = .ok (.invokevirtual 47, 3) := by decide +kernel
theorem dX8_feed_43 : decode cX8_feed 43 = .ok (.aload 6, 2) := by decide +kernel
theorem dX8_feed_45 : decode cX8_feed 45 = .ok (.iload 4, 2) := by decide +kernel
theorem dX8_feed_47 : decode cX8_feed 47 = .ok (.invokevirtual 47, 3) := by decide +kernel
theorem dX8_feed_50 : decode cX8_feed 50 = .ok (.aload 6, 2) := by decide +kernel
theorem dX8_feed_52 : decode cX8_feed 52 = .ok (.iload 5, 2) := by decide +kernel
theorem dX8_feed_54 : decode cX8_feed 54 = .ok (.invokevirtual 47, 3) := by decide +kernel
theorem dX8_feed_57 : decode cX8_feed 57 = .ok (.aload 6, 2) := by decide +kernel
theorem dX8_feed_59 : decode cX8_feed 59 = .ok (.getfield 41, 3) := by decide +kernel
theorem dX8_feed_62 : decode cX8_feed 62 = .ok (.ireturn, 1) := by decide +kernel
theorem dX8_end_0 : decode cX8_end 0 = .ok (.iload_n 1, 1) := by decide +kernel
theorem dX8_end_1 : decode cX8_end 1 = .ok (.ifCond .lt 17, 3) := by decide +kernel
theorem dX8_end_4 : decode cX8_end 4 = .ok (.iload_n 1, 1) := by decide +kernel
theorem dX8_end_5 : decode cX8_end 5 = .ok (.aload_n 0, 1) := by decide +kernel
theorem dX8_end_6 : decode cX8_end 6 = .ok (.getfield 10, 3) := by decide +kernel
theorem dX8_end_9 : decode cX8_end 9 = .ok (.getfield 37, 3) := by decide +kernel
theorem dX8_end_12 : decode cX8_end 12 = .ok (.getfield 41, 3) := by decide +kernel
theorem dX8_end_15 : decode cX8_end 15 = .ok (.if_icmp .le 5, 3) := by decide +kernel
theorem dX8_end_18 : decode cX8_end 18 = .ok (.iconst (-1), 1) := by decide +kernel
theorem dX8_end_19 : decode cX8_end 19 = .ok (.ireturn, 1) := by decide +kernel
theorem dX8_end_20 : decode cX8_end 20 = .ok (.aload_n 0, 1) := by decide +kernel
theorem dX8_end_21 : decode cX8_end 21 = .ok (.getfield 10, 3) := by decide +kernel
theorem dX8_end_24 : decode cX8_end 24 = .ok (.getfield 37, 3) := by decide +kernel
theorem dX8_end_27 : decode cX8_end 27 = .ok (.iload_n 1, 1) := by decide +kernel
theorem dX8_end_28 : decode cX8_end 28 = .ok (.putfield 41, 3) := by decide +kernel
theorem dX8_end_31 : decode cX8_end 31 = .ok (.iload_n 1, 1) := by decide +kernel
theorem dX8_end_32 : decode cX8_end 32 = .ok (.ireturn, 1) := by decide +kernel
theorem dX8_curve_0 : decode cX8_curve 0 = .ok (.iconst (-1), 1) := by decide +kernel
theorem dX8_curve_1 : decode cX8_curve 1 = .ok (.istore_n 1, 1) := by decide +kernel
theorem dX8_curve_2 : decode cX8_curve 2 = .ok (.aload_n 0, 1) := by decide +kernel
theorem dX8_curve_3 : decode cX8_curve 3 = .ok (.getfield 19, 3) := by decide +kernel
theorem dX8_curve_6 : decode cX8_curve 6 = .ok (.getfield 51, 3) := by decide +kernel
theorem dX8_curve_9 : decode cX8_curve 9 = .ok (.bipush 8, 2) := by decide +kernel
theorem dX8_curve_11 : decode cX8_curve 11 = .ok (.if_icmp .ge 44, 3) := by decide +kernel
theorem dX8_curve_14 : decode cX8_curve 14 = .ok (.aload_n 0, 1) := by decide +kernel
theorem dX8_curve_15 : decode cX8_curve 15 = .ok (.getfield 10, 3) := by decide +kernel
theorem dX8_curve_18 : decode cX8_curve 18 = .ok (.aload_n 0, 1) := by decide +kernel
theorem dX8_curve_19 : decode cX8_curve 19 = .ok (.getfield 19, 3) := by decide +kernel
theorem dX8_curve_22 : decode cX8_curve 22 = .ok (.getfield 51, 3) := by decide +kernel
theorem dX8_curve_25 : decode cX8_curve 25 = .ok (.invokevirtual 54, 3) := by decide +kernel
theorem dX8_curve_28 : decode cX8_curve 28 = .ok (.istore_n 2, 1) := by decide +kernel
theorem dX8_curve_29 : decode cX8_curve 29 = .ok (.iload_n 2, 1) := by decide +kernel
theorem dX8_curve_30 : decode cX8_curve 30 = .ok (.ifCond .eq 10, 3) := by decide +kernel
theorem dX8_curve_33 : decode cX8_curve 33 = .ok (.bipush (-2), 2) := by decide +kernel
theorem dX8_curve_35 : decode cX8_curve 35 = .ok (.iload_n 2, 1) := by decide +kernel
theorem dX8_curve_36 : decode cX8_curve 36 = .ok (.isub, 1) := by decide +kernel
theorem dX8_curve_37 : decode cX8_curve 37 = .ok (.goto 17, 3) := by decide +kernel
theorem dX8_curve_40 : decode cX8_curve 40 = .ok (.aload_n 0, 1) := by decide +kernel
theorem dX8_curve_41 : decode cX8_curve 41 = .ok (.getfield 19, 3) := by decide +kernel
theorem dX8_curve_44 : decode cX8_curve 44 = .ok (.aload_n 0, 1) := by decide +kernel
theorem dX8_curve_45 : decode cX8_curve 45 = .ok (.getfield 10, 3) := by decide +kernel
theorem dX8_curve_48 : decode cX8_curve 48 = .ok (.getfield 58, 3) := by decide +kernel
theorem dX8_curve_51 : decode cX8_curve 51 = .ok (.invokevirtual 62, 3) := by decide +kernel
theorem dX8_curve_54 : decode cX8_curve 54 = .ok (.istore_n 1, 1) := by decide +kernel
theorem dX8_curve_55 : decode cX8_curve 55 = .ok (.aload_n 0, 1) := by decide +kernel
theorem dX8_curve_56 : decode cX8_curve 56 = .ok (.getfield 10, 3) := by decide +kernel
theorem dX8_curve_59 : decode cX8_curve 59 = .ok (.getfield 37, 3) := by decide +kernel
theorem dX8_curve_62 : decode cX8_curve 62 = .ok (.iconst 0, 1) := by decide +kernel
theorem dX8_curve_63 : decode cX8_curve 63 = .ok (.putfield 41, 3) := by decide +kernel
theorem dX8_curve_66 : decode cX8_curve 66 = .ok (.iload_n 1, 1) := by decide +kernel
theorem dX8_curve_67 : decode cX8_curve 67 = .ok (.ireturn, 1) := by decide +kernel
theorem dX8_drop_0 : decode cX8_drop 0 = .ok (.aload_n 0, 1) := by decide +kernel
theorem dX8_drop_1 : decode cX8_drop 1 = .ok (.getfield 19, 3) := by decide +kernel
theorem dX8_drop_4 : decode cX8_drop 4 = .ok (.getfield 51, 3) := by decide +kernel
theorem dX8_drop_7 : decode cX8_drop 7 = .ok (.iconst 1, 1) := by decide +kernel
theorem dX8_drop_8 : decode cX8_drop 8 = .ok (.if_icmp .ge 5, 3) := by decide +kernel
theorem dX8_drop_11 : decode cX8_drop 11 = .ok (.iconst (-1), 1) := by decide +kernel
theorem dX8_drop_12 : decode cX8_drop 12 = .ok (.ireturn, 1) := by decide +kernel
theorem dX8_drop_13 : decode cX8_drop 13 = .ok (.aload_n 0, 1) := by decide +kernel
theorem dX8_drop_14 : decode cX8_drop 14 = .ok (.getfield 19, 3) := by decide +kernel
theorem dX8_drop_17 : decode cX8_drop 17 = .ok (.dup, 1) := by decide +kernel
theorem dX8_drop_18 : decode cX8_drop 18 = .ok (.getfield 51, 3) := by decide +kernel
theorem dX8_drop_21 : decode cX8_drop 21 = .ok (.iconst 1, 1) := by decide +kernel
theorem dX8_drop_22 : decode cX8_drop 22 = .ok (.isub, 1) := by decide +kernel
theorem dX8_drop_23 : decode cX8_drop 23 = .ok (.putfield 51, 3) := by decide +kernel
theorem dX8_drop_26 : decode cX8_drop 26 = .ok (.aload_n 0, 1) := by decide +kernel
theorem dX8_drop_27 : decode cX8_drop 27 = .ok (.getfield 19, 3) := by decide +kernel
theorem dX8_drop_30 : decode cX8_drop 30 = .ok (.getfield 51, 3) := by decide +kernel
theorem dX8_drop_33 : decode cX8_drop 33 = .ok (.ireturn, 1) := by decide +kernel
theorem dX8_about_0 : decode cX8_about 0 = .ok (.aload_n 0, 1) := by decide +kernel
theorem dX8_about_1 : decode cX8_about 1 = .ok (.getfield 19, 3) := by decide +kernel
theorem dX8_about_4 : decode cX8_about 4 = .ok (.iload_n 1, 1) := by decide +kernel
theorem dX8_about_5 : decode cX8_about 5 = .ok (.invokevirtual 66, 3) := by decide +kernel
theorem dX8_about_8 : decode cX8_about 8 = .ok (.ifCond .ne 5, 3) := by decide +kernel
theorem dX8_about_11 : decode cX8_about 11 = .ok (.iconst (-1), 1) := by decide +kernel
theorem dX8_about_12 : decode cX8_about 12 = .ok (.ireturn, 1) := by decide +kernel
theorem dX8_about_13 : decode cX8_about 13 = .ok (.iload_n 2, 1) := by decide +kernel
theorem dX8_about_14 : decode cX8_about 14 = .ok (.tableswitch 70 0 2 #[26, 38, 58], 26) := by decide +kernel
theorem dX8_about_40 : decode cX8_about 40 = .ok (.aload_n 0, 1) := by decide +kernel
theorem dX8_about_41 : decode cX8_about 41 = .ok (.getfield 19, 3) := by decide +kernel
theorem dX8_about_44 : decode cX8_about 44 = .ok (.iload_n 1, 1) := by decide +kernel
theorem dX8_about_45 : decode cX8_about 45 = .ok (.invokevirtual 70, 3) := by decide +kernel
theorem dX8_about_48 : decode cX8_about 48 = .ok (.getfield 74, 3) := by decide +kernel
theorem dX8_about_51 : decode cX8_about 51 = .ok (.ireturn, 1) := by decide +kernel
theorem dX8_about_52 : decode cX8_about 52 = .ok (.aload_n 0, 1) := by decide +kernel
theorem dX8_about_53 : decode cX8_about 53 = .ok (.getfield 19, 3) := by decide +kernel
theorem dX8_about_56 : decode cX8_about 56 = .ok (.iload_n 1, 1) := by decide +kernel
theorem dX8_about_57 : decode cX8_about 57 = .ok (.invokevirtual 70, 3) := by decide +kernel
theorem dX8_about_60 : decode cX8_about 60 = .ok (.getfield 79, 3) := by decide +kernel
theorem dX8_about_63 : decode cX8_about 63 = .ok (.ifCond .eq 7, 3) := by decide +kernel
theorem dX8_about_66 : decode cX8_about 66 = .ok (.iconst 1, 1) := by decide +kernel
theorem dX8_about_67 : decode cX8_about 67 = .ok (.goto 4, 3) := by decide +kernel
theorem dX8_about_70 : decode cX8_about 70 = .ok (.iconst 0, 1) := by decide +kernel
theorem dX8_about_71 : decode cX8_about 71 = .ok (.ireturn, 1) := by decide +kernel
theorem dX8_about_72 : decode cX8_about 72 = .ok (.aload_n 0, 1) := by decide +kernel
theorem dX8_about_73 : decode cX8_about 73 = .ok (.getfield 19, 3) := by decide +kernel
theorem dX8_about_76 : decode cX8_about 76 = .ok (.iload_n 1, 1) := by decide +kernel
theorem dX8_about_77 : decode cX8_about 77 = .ok (.invokevirtual 70, 3) := by decide +kernel
theorem dX8_about_80 : decode cX8_about 80 = .ok (.getfield 83, 3) := by decide +kernel
theorem dX8_about_83 : decode cX8_about 83 = .ok (.ireturn, 1) := by decide +kernel
theorem dX8_about_84 : decode cX8_about 84 = .ok (.iconst (-1), 1) := by decide +kernel
theorem dX8_about_85 : decode cX8_about 85 = .ok (.ireturn, 1) := by decide +kernel
theorem dX8_at_0 : decode cX8_at 0 = .ok (.aload_n 0, 1) := by decide +kernel
theorem dX8_at_1 : decode cX8_at 1 = .ok (.getfield 19, 3) := by decide +kernel
theorem dX8_at_4 : decode cX8_at 4 = .ok (.iload_n 1, 1) := by decide +kernel
theorem dX8_at_5 : decode cX8_at 5 = .ok (.invokevirtual 66, 3) := by decide +kernel
theorem dX8_at_8 : decode cX8_at 8 = .ok (.ifCond .eq 8, 3) := by decide +kernel
theorem dX8_at_11 : decode cX8_at 11 = .ok (.iload_n 2, 1) := by decide +kernel
theorem dX8_at_12 : decode cX8_at 12 = .ok (.iload_n 3, 1) := by decide +kernel
theorem dX8_at_13 : decode cX8_at 13 = .ok (.if_icmp .le 5, 3) := by decide +kernel
theorem dX8_at_16 : decode cX8_at 16 = .ok (.iconst (-1), 1) := by decide +kernel
theorem dX8_at_17 : decode cX8_at 17 = .ok (.ireturn, 1) := by decide +kernel
theorem dX8_at_18 : decode cX8_at 18 = .ok (.aload_n 0, 1) := by decide +kernel
theorem dX8_at_19 : decode cX8_at 19 = .ok (.aload_n 0, 1) := by decide +kernel
theorem dX8_at_20 : decode cX8_at 20 = .ok (.getfield 19, 3) := by decide +kernel
theorem dX8_at_23 : decode cX8_at 23 = .ok (.iload_n 1, 1) := by decide +kernel
theorem dX8_at_24 : decode cX8_at 24 = .ok (.iload_n 2, 1) := by decide +kernel
theorem dX8_at_25 : decode cX8_at 25 = .ok (.iload_n 3, 1) := by decide +kernel
theorem dX8_at_26 : decode cX8_at 26 = .ok (.iconst 0, 1) := by decide +kernel
theorem dX8_at_27 : decode cX8_at 27 = .ok (.invokevirtual 86, 3) := by decide +kernel
theorem dX8_at_30 : decode cX8_at 30 = .ok (.invokevirtual 90, 3) := by decide +kernel
theorem dX8_at_33 : decode cX8_at 33 = .ok (.ireturn, 1) := by decide +kernel
theorem dX8_slope_0 : decode cX8_slope 0 = .ok (.aload_n 0, 1) := by decide +kernel
theorem dX8_slope_1 : decode cX8_slope 1 = .ok (.getfield 19, 3) := by decide +kernel
theorem dX8_slope_4 : decode cX8_slope 4 = .ok (.iload_n 1, 1) := by decide +kernel
theorem dX8_slope_5 : decode cX8_slope 5 = .ok (.invokevirtual 66, 3) := by decide +kernel
theorem dX8_slope_8 : decode cX8_slope 8 = .ok (.ifCond .eq 8, 3) := by decide +kernel
theorem dX8_slope_11 : decode cX8_slope 11 = .ok (.iload_n 2, 1) := by decide +kernel
theorem dX8_slope_12 : decode cX8_slope 12 = .ok (.iload_n 3, 1) := by decide +kernel
theorem dX8_slope_13 : decode cX8_slope 13 = .ok (.if_icmp .le 5, 3) := by decide +kernel
theorem dX8_slope_16 : decode cX8_slope 16 = .ok (.iconst (-1), 1) := by decide +kernel
theorem dX8_slope_17 : decode cX8_slope 17 = .ok (.ireturn, 1) := by decide +kernel
theorem dX8_slope_18 : decode cX8_slope 18 = .ok (.aload_n 0, 1) := by decide +kernel
theorem dX8_slope_19 : decode cX8_slope 19 = .ok (.getfield 19, 3) := by decide +kernel
theorem dX8_slope_22 : decode cX8_slope 22 = .ok (.iload_n 1, 1) := by decide +kernel
theorem dX8_slope_23 : decode cX8_slope 23 = .ok (.iload_n 2, 1) := by decide +kernel
theorem dX8_slope_24 : decode cX8_slope 24 = .ok (.iload_n 3, 1) := by decide +kernel
theorem dX8_slope_25 : decode cX8_slope 25 = .ok (.iconst 1, 1) := by decide +kernel
theorem dX8_slope_26 : decode cX8_slope 26 = .ok (.invokevirtual 86, 3) := by decide +kernel
theorem dX8_slope_29 : decode cX8_slope 29 = .ok (.pop2, 1) := by decide +kernel
theorem dX8_slope_30 : decode cX8_slope 30 = .ok (.aload_n 0, 1) := by decide +kernel
theorem dX8_slope_31 : decode cX8_slope 31 = .ok (.aload_n 0, 1) := by decide +kernel
theorem dX8_slope_32 : decode cX8_slope 32 = .ok (.getfield 19, 3) := by decide +kernel
theorem dX8_slope_35 : decode cX8_slope 35 = .ok (.getfield 94, 3) := by decide +kernel
theorem dX8_slope_38 : decode cX8_slope 38 = .ok (.invokevirtual 90, 3) := by decide +kernel
theorem dX8_slope_41 : decode cX8_slope 41 = .ok (.ireturn, 1) := by decide +kernel
theorem dX8_area_0 : decode cX8_area 0 = .ok (.iload_n 3, 1) := by decide +kernel
theorem dX8_area_1 : decode cX8_area 1 = .ok (.i2l, 1) := by decide +kernel
theorem dX8_area_2 : decode cX8_area 2 = .ok (.iload_n 2, 1) := by decide +kernel
theorem dX8_area_3 : decode cX8_area 3 = .ok (.i2l, 1) := by decide +kernel
theorem dX8_area_4 : decode cX8_area 4 = .ok (.lsub, 1) := by decide +kernel
theorem dX8_area_5 : decode cX8_area 5 = .ok (.lstore 7, 2) := by decide +kernel
theorem dX8_area_7 : decode cX8_area 7 = .ok (.aload_n 0, 1) := by decide +kernel
theorem dX8_area_8 : decode cX8_area 8 = .ok (.getfield 19, 3) := by decide +kernel
theorem dX8_area_11 : decode cX8_area 11 = .ok (.iload_n 1, 1) := by decide +kernel
theorem dX8_area_12 : decode cX8_area 12 = .ok (.invokevirtual 66, 3) := by decide +kernel
theorem dX8_area_15 : decode cX8_area 15 = .ok (.ifCond .eq 34, 3) := by decide +kernel
theorem dX8_area_18 : decode cX8_area 18 = .ok (.lload 7, 2) := by decide +kernel
theorem dX8_area_20 : decode cX8_area 20 = .ok (.lconst 1, 1) := by decide +kernel
theorem dX8_area_21 : decode cX8_area 21 = .ok (.lcmp, 1) := by decide +kernel
theorem dX8_area_22 : decode cX8_area 22 = .ok (.ifCond .lt 27, 3) := by decide +kernel
theorem dX8_area_25 : decode cX8_area 25 = .ok (.lload 7, 2) := by decide +kernel
theorem dX8_area_27 : decode cX8_area 27 = .ok (.ldc2_w 98, 3) := by decide +kernel
theorem dX8_area_30 : decode cX8_area 30 = .ok (.lcmp, 1) := by decide +kernel
theorem dX8_area_31 : decode cX8_area 31 = .ok (.ifCond .gt 18, 3) := by decide +kernel
theorem dX8_area_34 : decode cX8_area 34 = .ok (.iload 4, 2) := by decide +kernel
theorem dX8_area_36 : decode cX8_area 36 = .ok (.invokestatic 100, 3) := by decide +kernel
theorem dX8_area_39 : decode cX8_area 39 = .ok (.ifCond .eq 10, 3) := by decide +kernel
theorem dX8_area_42 : decode cX8_area 42 = .ok (.lload 5, 2) := by decide +kernel
theorem dX8_area_44 : decode cX8_area 44 = .ok (.lconst 0, 1) := by decide +kernel
theorem dX8_area_45 : decode cX8_area 45 = .ok (.lcmp, 1) := by decide +kernel
theorem dX8_area_46 : decode cX8_area 46 = .ok (.ifCond .ge 5, 3) := by decide +kernel
theorem dX8_area_49 : decode cX8_area 49 = .ok (.iconst (-1), 1) := by decide +kernel
theorem dX8_area_50 : decode cX8_area 50 = .ok (.ireturn, 1) := by decide +kernel
theorem dX8_area_51 : decode cX8_area 51 = .ok (.aload_n 0, 1) := by decide +kernel
theorem dX8_area_52 : decode cX8_area 52 = .ok (.aload_n 0, 1) := by decide +kernel
theorem dX8_area_53 : decode cX8_area 53 = .ok (.getfield 26, 3) := by decide +kernel
theorem dX8_area_56 : decode cX8_area 56 = .ok (.aload_n 0, 1) := by decide +kernel
theorem dX8_area_57 : decode cX8_area 57 = .ok (.getfield 19, 3) := by decide +kernel
theorem dX8_area_60 : decode cX8_area 60 = .ok (.iload_n 1, 1) := by decide +kernel
theorem dX8_area_61 : decode cX8_area 61 = .ok (.iload_n 2, 1) := by decide +kernel
theorem dX8_area_62 : decode cX8_area 62 = .ok (.iload_n 3, 1) := by decide +kernel
theorem dX8_area_63 : decode cX8_area 63 = .ok (.iload 4, 2) := by decide +kernel
theorem dX8_area_65 : decode cX8_area 65 = .ok (.lload 5, 2) := by decide +kernel
theorem dX8_area_67 : decode cX8_area 67 = .ok (.invokevirtual 103, 3) := by decide +kernel
theorem dX8_area_70 : decode cX8_area 70 = .ok (.iconst 0, 1) := by decide +kernel
theorem dX8_area_71 : decode cX8_area 71 = .ok (.invokevirtual 107, 3) := by decide +kernel
theorem dX8_area_74 : decode cX8_area 74 = .ok (.ireturn, 1) := by decide +kernel
theorem dX8_roots_0 : decode cX8_roots 0 = .ok (.aload_n 0, 1) := by decide +kernel
theorem dX8_roots_1 : decode cX8_roots 1 = .ok (.getfield 19, 3) := by decide +kernel
theorem dX8_roots_4 : decode cX8_roots 4 = .ok (.iload_n 1, 1) := by decide +kernel
theorem dX8_roots_5 : decode cX8_roots 5 = .ok (.invokevirtual 66, 3) := by decide +kernel
theorem dX8_roots_8 : decode cX8_roots 8 = .ok (.ifCond .eq 14, 3) := by decide +kernel
theorem dX8_roots_11 : decode cX8_roots 11 = .ok (.iload_n 2, 1) := by decide +kernel
theorem dX8_roots_12 : decode cX8_roots 12 = .ok (.iload_n 3, 1) := by decide +kernel
theorem dX8_roots_13 : decode cX8_roots 13 = .ok (.if_icmp .ge 9, 3) := by decide +kernel
theorem dX8_roots_16 : decode cX8_roots 16 = .ok (.iload 4, 2) := by decide +kernel
theorem dX8_roots_18 : decode cX8_roots 18 = .ok (.iconst 1, 1) := by decide +kernel
theorem dX8_roots_19 : decode cX8_roots 19 = .ok (.if_icmp .ge 5, 3) := by decide +kernel
theorem dX8_roots_22 : decode cX8_roots 22 = .ok (.iconst (-1), 1) := by decide +kernel
theorem dX8_roots_23 : decode cX8_roots 23 = .ok (.ireturn, 1) := by decide +kernel
theorem dX8_roots_24 : decode cX8_roots 24 = .ok (.aload_n 0, 1) := by decide +kernel
theorem dX8_roots_25 : decode cX8_roots 25 = .ok (.getfield 33, 3) := by decide +kernel
theorem dX8_roots_28 : decode cX8_roots 28 = .ok (.aload_n 0, 1) := by decide +kernel
theorem dX8_roots_29 : decode cX8_roots 29 = .ok (.getfield 19, 3) := by decide +kernel
theorem dX8_roots_32 : decode cX8_roots 32 = .ok (.iload_n 1, 1) := by decide +kernel
theorem dX8_roots_33 : decode cX8_roots 33 = .ok (.iload_n 2, 1) := by decide +kernel
theorem dX8_roots_34 : decode cX8_roots 34 = .ok (.iload_n 3, 1) := by decide +kernel
theorem dX8_roots_35 : decode cX8_roots 35 = .ok (.iload 4, 2) := by decide +kernel
theorem dX8_roots_37 : decode cX8_roots 37 = .ok (.invokevirtual 111, 3) := by decide +kernel
theorem dX8_roots_40 : decode cX8_roots 40 = .ok (.aload_n 0, 1) := by decide +kernel
theorem dX8_roots_41 : decode cX8_roots 41 = .ok (.getfield 33, 3) := by decide +kernel
theorem dX8_roots_44 : decode cX8_roots 44 = .ok (.getfield 115, 3) := by decide +kernel
theorem dX8_roots_47 : decode cX8_roots 47 = .ok (.ireturn, 1) := by decide +kernel
theorem dX8_part_0 : decode cX8_part 0 = .ok (.aload_n 0, 1) := by decide +kernel
theorem dX8_part_1 : decode cX8_part 1 = .ok (.getfield 33, 3) := by decide +kernel
theorem dX8_part_4 : decode cX8_part 4 = .ok (.iload_n 1, 1) := by decide +kernel
theorem dX8_part_5 : decode cX8_part 5 = .ok (.iload_n 2, 1) := by decide +kernel
theorem dX8_part_6 : decode cX8_part 6 = .ok (.invokevirtual 118, 3) := by decide +kernel
theorem dX8_part_9 : decode cX8_part 9 = .ok (.ireturn, 1) := by decide +kernel
theorem dX8_least_0 : decode cX8_least 0 = .ok (.aload_n 0, 1) := by decide +kernel
theorem dX8_least_1 : decode cX8_least 1 = .ok (.getfield 19, 3) := by decide +kernel
theorem dX8_least_4 : decode cX8_least 4 = .ok (.iload_n 1, 1) := by decide +kernel
theorem dX8_least_5 : decode cX8_least 5 = .ok (.invokevirtual 66, 3) := by decide +kernel
theorem dX8_least_8 : decode cX8_least 8 = .ok (.ifCond .eq 16, 3) := by decide +kernel
theorem dX8_least_11 : decode cX8_least 11 = .ok (.iload_n 2, 1) := by decide +kernel
theorem dX8_least_12 : decode cX8_least 12 = .ok (.iload_n 3, 1) := by decide +kernel
theorem dX8_least_13 : decode cX8_least 13 = .ok (.if_icmp .gt 11, 3) := by decide +kernel
theorem dX8_least_16 : decode cX8_least 16 = .ok (.iload 4, 2) := by decide +kernel
theorem dX8_least_18 : decode cX8_least 18 = .ok (.invokestatic 100, 3) := by decide +kernel
theorem dX8_least_21 : decode cX8_least 21 = .ok (.ifCond .ne 5, 3) := by decide +kernel
theorem dX8_least_24 : decode cX8_least 24 = .ok (.iconst (-1), 1) := by decide +kernel
theorem dX8_least_25 : decode cX8_least 25 = .ok (.ireturn, 1) := by decide +kernel
theorem dX8_least_26 : decode cX8_least 26 = .ok (.aload_n 0, 1) := by decide +kernel
theorem dX8_least_27 : decode cX8_least 27 = .ok (.aload_n 0, 1) := by decide +kernel
theorem dX8_least_28 : decode cX8_least 28 = .ok (.getfield 26, 3) := by decide +kernel
theorem dX8_least_31 : decode cX8_least 31 = .ok (.aload_n 0, 1) := by decide +kernel
theorem dX8_least_32 : decode cX8_least 32 = .ok (.getfield 19, 3) := by decide +kernel
theorem dX8_least_35 : decode cX8_least 35 = .ok (.iload_n 1, 1) := by decide +kernel
theorem dX8_least_36 : decode cX8_least 36 = .ok (.iload_n 2, 1) := by decide +kernel
theorem dX8_least_37 : decode cX8_least 37 = .ok (.iload_n 3, 1) := by decide +kernel
theorem dX8_least_38 : decode cX8_least 38 = .ok (.iload 4, 2) := by decide +kernel
theorem dX8_least_40 : decode cX8_least 40 = .ok (.iconst 0, 1) := by decide +kernel
theorem dX8_least_41 : decode cX8_least 41 = .ok (.invokevirtual 122, 3) := by decide +kernel
theorem dX8_least_44 : decode cX8_least 44 = .ok (.iconst 0, 1) := by decide +kernel
theorem dX8_least_45 : decode cX8_least 45 = .ok (.invokevirtual 107, 3) := by decide +kernel
theorem dX8_least_48 : decode cX8_least 48 = .ok (.ireturn, 1) := by decide +kernel
theorem dX8_greatest_0 : decode cX8_greatest 0 = .ok (.aload_n 0, 1) := by decide +kernel
theorem dX8_greatest_1 : decode cX8_greatest 1 = .ok (.getfield 19, 3) := by decide +kernel
theorem dX8_greatest_4 : decode cX8_greatest 4 = .ok (.iload_n 1, 1) := by decide +kernel
theorem dX8_greatest_5 : decode cX8_greatest 5 = .ok (.invokevirtual 66, 3) := by decide +kernel
theorem dX8_greatest_8 : decode cX8_greatest 8 = .ok (.ifCond .eq 16, 3) := by decide +kernel
theorem dX8_greatest_11 : decode cX8_greatest 11 = .ok (.iload_n 2, 1) := by decide +kernel
theorem dX8_greatest_12 : decode cX8_greatest 12 = .ok (.iload_n 3, 1) := by decide +kernel
theorem dX8_greatest_13 : decode cX8_greatest 13 = .ok (.if_icmp .gt 11, 3) := by decide +kernel
theorem dX8_greatest_16 : decode cX8_greatest 16 = .ok (.iload 4, 2) := by decide +kernel
theorem dX8_greatest_18 : decode cX8_greatest 18 = .ok (.invokestatic 100, 3) := by decide +kernel
theorem dX8_greatest_21 : decode cX8_greatest 21 = .ok (.ifCond .ne 5, 3) := by decide +kernel
theorem dX8_greatest_24 : decode cX8_greatest 24 = .ok (.iconst (-1), 1) := by decide +kernel
theorem dX8_greatest_25 : decode cX8_greatest 25 = .ok (.ireturn, 1) := by decide +kernel
theorem dX8_greatest_26 : decode cX8_greatest 26 = .ok (.aload_n 0, 1) := by decide +kernel
theorem dX8_greatest_27 : decode cX8_greatest 27 = .ok (.aload_n 0, 1) := by decide +kernel
theorem dX8_greatest_28 : decode cX8_greatest 28 = .ok (.getfield 26, 3) := by decide +kernel
theorem dX8_greatest_31 : decode cX8_greatest 31 = .ok (.aload_n 0, 1) := by decide +kernel
theorem dX8_greatest_32 : decode cX8_greatest 32 = .ok (.getfield 19, 3) := by decide +kernel
theorem dX8_greatest_35 : decode cX8_greatest 35 = .ok (.iload_n 1, 1) := by decide +kernel
theorem dX8_greatest_36 : decode cX8_greatest 36 = .ok (.iload_n 2, 1) := by decide +kernel
theorem dX8_greatest_37 : decode cX8_greatest 37 = .ok (.iload_n 3, 1) := by decide +kernel
theorem dX8_greatest_38 : decode cX8_greatest 38 = .ok (.iload 4, 2) := by decide +kernel
theorem dX8_greatest_40 : decode cX8_greatest 40 = .ok (.iconst 1, 1) := by decide +kernel
theorem dX8_greatest_41 : decode cX8_greatest 41 = .ok (.invokevirtual 122, 3) := by decide +kernel
theorem dX8_greatest_44 : decode cX8_greatest 44 = .ok (.iconst 1, 1) := by decide +kernel
theorem dX8_greatest_45 : decode cX8_greatest 45 = .ok (.invokevirtual 107, 3) := by decide +kernel
theorem dX8_greatest_48 : decode cX8_greatest 48 = .ok (.ireturn, 1) := by decide +kernel
theorem dX8_never_0 : decode cX8_never 0 = .ok (.aload_n 0, 1) := by decide +kernel
theorem dX8_never_1 : decode cX8_never 1 = .ok (.getfield 19, 3) := by decide +kernel
theorem dX8_never_4 : decode cX8_never 4 = .ok (.iload_n 1, 1) := by decide +kernel
theorem dX8_never_5 : decode cX8_never 5 = .ok (.invokevirtual 66, 3) := by decide +kernel
theorem dX8_never_8 : decode cX8_never 8 = .ok (.ifCond .eq 22, 3) := by decide +kernel
theorem dX8_never_11 : decode cX8_never 11 = .ok (.iload_n 2, 1) := by decide +kernel
theorem dX8_never_12 : decode cX8_never 12 = .ok (.iload_n 3, 1) := by decide +kernel
theorem dX8_never_13 : decode cX8_never 13 = .ok (.if_icmp .gt 17, 3) := by decide +kernel
theorem dX8_never_16 : decode cX8_never 16 = .ok (.iload 5, 2) := by decide +kernel
theorem dX8_never_18 : decode cX8_never 18 = .ok (.iconst 1, 1) := by decide +kernel
theorem dX8_never_19 : decode cX8_never 19 = .ok (.if_icmp .lt 11, 3) := by decide +kernel
theorem dX8_never_22 : decode cX8_never 22 = .ok (.iload 5, 2) := by decide +kernel
theorem dX8_never_24 : decode cX8_never 24 = .ok (.sipush 400, 3) := by decide +kernel
theorem dX8_never_27 : decode cX8_never 27 = .ok (.if_icmp .le 5, 3) := by decide +kernel
theorem dX8_never_30 : decode cX8_never 30 = .ok (.iconst (-1), 1) := by decide +kernel
theorem dX8_never_31 : decode cX8_never 31 = .ok (.ireturn, 1) := by decide +kernel
theorem dX8_never_32 : decode cX8_never 32 = .ok (.aload_n 0, 1) := by decide +kernel
theorem dX8_never_33 : decode cX8_never 33 = .ok (.getfield 33, 3) := by decide +kernel
theorem dX8_never_36 : decode cX8_never 36 = .ok (.aload_n 0, 1) := by decide +kernel
theorem dX8_never_37 : decode cX8_never 37 = .ok (.getfield 19, 3) := by decide +kernel
theorem dX8_never_40 : decode cX8_never 40 = .ok (.iload_n 1, 1) := by decide +kernel
theorem dX8_never_41 : decode cX8_never 41 = .ok (.iload_n 2, 1) := by decide +kernel
theorem dX8_never_42 : decode cX8_never 42 = .ok (.iload_n 3, 1) := by decide +kernel
theorem dX8_never_43 : decode cX8_never 43 = .ok (.iload 4, 2) := by decide +kernel
theorem dX8_never_45 : decode cX8_never 45 = .ok (.iload 5, 2) := by decide +kernel
theorem dX8_never_47 : decode cX8_never 47 = .ok (.invokevirtual 126, 3) := by decide +kernel
theorem dX8_never_50 : decode cX8_never 50 = .ok (.istore 6, 2) := by decide +kernel
theorem dX8_never_52 : decode cX8_never 52 = .ok (.aload_n 0, 1) := by decide +kernel
theorem dX8_never_53 : decode cX8_never 53 = .ok (.aload_n 0, 1) := by decide +kernel
theorem dX8_never_54 : decode cX8_never 54 = .ok (.getfield 33, 3) := by decide +kernel
theorem dX8_never_57 : decode cX8_never 57 = .ok (.getfield 130, 3) := by decide +kernel
theorem dX8_never_60 : decode cX8_never 60 = .ok (.putfield 133, 3) := by decide +kernel
theorem dX8_never_63 : decode cX8_never 63 = .ok (.iload 6, 2) := by decide +kernel
theorem dX8_never_65 : decode cX8_never 65 = .ok (.ifCond .ne 27, 3) := by decide +kernel
theorem dX8_never_68 : decode cX8_never 68 = .ok (.aload_n 0, 1) := by decide +kernel
theorem dX8_never_69 : decode cX8_never 69 = .ok (.aload_n 0, 1) := by decide +kernel
theorem dX8_never_70 : decode cX8_never 70 = .ok (.getfield 33, 3) := by decide +kernel
theorem dX8_never_73 : decode cX8_never 73 = .ok (.getfield 136, 3) := by decide +kernel
theorem dX8_never_76 : decode cX8_never 76 = .ok (.i2l, 1) := by decide +kernel
theorem dX8_never_77 : decode cX8_never 77 = .ok (.putfield 139, 3) := by decide +kernel
theorem dX8_never_80 : decode cX8_never 80 = .ok (.aload_n 0, 1) := by decide +kernel
theorem dX8_never_81 : decode cX8_never 81 = .ok (.aload_n 0, 1) := by decide +kernel
theorem dX8_never_82 : decode cX8_never 82 = .ok (.getfield 33, 3) := by decide +kernel
theorem dX8_never_85 : decode cX8_never 85 = .ok (.getfield 136, 3) := by decide +kernel
theorem dX8_never_88 : decode cX8_never 88 = .ok (.i2l, 1) := by decide +kernel
theorem dX8_never_89 : decode cX8_never 89 = .ok (.putfield 142, 3) := by decide +kernel
theorem dX8_never_92 : decode cX8_never 92 = .ok (.iload 6, 2) := by decide +kernel
theorem dX8_never_94 : decode cX8_never 94 = .ok (.ireturn, 1) := by decide +kernel
theorem dX8_low_0 : decode cX8_low 0 = .ok (.aload_n 0, 1) := by decide +kernel
theorem dX8_low_1 : decode cX8_low 1 = .ok (.getfield 139, 3) := by decide +kernel
theorem dX8_low_4 : decode cX8_low 4 = .ok (.lreturn, 1) := by decide +kernel
theorem dX8_high_0 : decode cX8_high 0 = .ok (.aload_n 0, 1) := by decide +kernel
theorem dX8_high_1 : decode cX8_high 1 = .ok (.getfield 142, 3) := by decide +kernel
theorem dX8_high_4 : decode cX8_high 4 = .ok (.lreturn, 1) := by decide +kernel
theorem dX8_count_0 : decode cX8_count 0 = .ok (.iload_n 1, 1) := by decide +kernel
theorem dX8_count_1 : decode cX8_count 1 = .ok (.tableswitch 72 0 4 #[35, 43, 54, 59, 64], 35) := by decide +kernel
theorem dX8_count_36 : decode cX8_count 36 = .ok (.aload_n 0, 1) := by decide +kernel
theorem dX8_count_37 : decode cX8_count 37 = .ok (.getfield 19, 3) := by decide +kernel
theorem dX8_count_40 : decode cX8_count 40 = .ok (.getfield 51, 3) := by decide +kernel
theorem dX8_count_43 : decode cX8_count 43 = .ok (.ireturn, 1) := by decide +kernel
theorem dX8_count_44 : decode cX8_count 44 = .ok (.aload_n 0, 1) := by decide +kernel
theorem dX8_count_45 : decode cX8_count 45 = .ok (.getfield 10, 3) := by decide +kernel
theorem dX8_count_48 : decode cX8_count 48 = .ok (.getfield 37, 3) := by decide +kernel
theorem dX8_count_51 : decode cX8_count 51 = .ok (.getfield 41, 3) := by decide +kernel
theorem dX8_count_54 : decode cX8_count 54 = .ok (.ireturn, 1) := by decide +kernel
theorem dX8_count_55 : decode cX8_count 55 = .ok (.aload_n 0, 1) := by decide +kernel
theorem dX8_count_56 : decode cX8_count 56 = .ok (.getfield 145, 3) := by decide +kernel
theorem dX8_count_59 : decode cX8_count 59 = .ok (.ireturn, 1) := by decide +kernel
theorem dX8_count_60 : decode cX8_count 60 = .ok (.aload_n 0, 1) := by decide +kernel
theorem dX8_count_61 : decode cX8_count 61 = .ok (.getfield 133, 3) := by decide +kernel
theorem dX8_count_64 : decode cX8_count 64 = .ok (.ireturn, 1) := by decide +kernel
theorem dX8_count_65 : decode cX8_count 65 = .ok (.aload_n 0, 1) := by decide +kernel
theorem dX8_count_66 : decode cX8_count 66 = .ok (.getfield 33, 3) := by decide +kernel
theorem dX8_count_69 : decode cX8_count 69 = .ok (.getfield 115, 3) := by decide +kernel
theorem dX8_count_72 : decode cX8_count 72 = .ok (.ireturn, 1) := by decide +kernel
theorem dX8_count_73 : decode cX8_count 73 = .ok (.iconst (-1), 1) := by decide +kernel
theorem dX8_count_74 : decode cX8_count 74 = .ok (.ireturn, 1) := by decide +kernel
theorem dX8_isHalvings_0 : decode cX8_isHalvings 0 = .ok (.iload_n 0, 1) := by decide +kernel
theorem dX8_isHalvings_1 : decode cX8_isHalvings 1 = .ok (.ifCond .lt 14, 3) := by decide +kernel
theorem dX8_isHalvings_4 : decode cX8_isHalvings 4 = .ok (.iload_n 0, 1) := by decide +kernel
theorem dX8_isHalvings_5 : decode cX8_isHalvings 5 = .ok (.sipush 200, 3) := by decide +kernel
theorem dX8_isHalvings_8 : decode cX8_isHalvings 8 = .ok (.if_icmp .gt 7, 3) := by decide +kernel
theorem dX8_isHalvings_11 : decode cX8_isHalvings 11 = .ok (.iconst 1, 1) := by decide +kernel
theorem dX8_isHalvings_12 : decode cX8_isHalvings 12 = .ok (.goto 4, 3) := by decide +kernel
theorem dX8_isHalvings_15 : decode cX8_isHalvings 15 = .ok (.iconst 0, 1) := by decide +kernel
theorem dX8_isHalvings_16 : decode cX8_isHalvings 16 = .ok (.ireturn, 1) := by decide +kernel
theorem dX8_middleOf_0 : decode cX8_middleOf 0 = .ok (.iload_n 0, 1) := by decide +kernel
theorem dX8_middleOf_1 : decode cX8_middleOf 1 = .ok (.i2l, 1) := by decide +kernel
theorem dX8_middleOf_2 : decode cX8_middleOf 2 = .ok (.iload_n 1, 1) := by decide +kernel
theorem dX8_middleOf_3 : decode cX8_middleOf 3 = .ok (.i2l, 1) := by decide +kernel
theorem dX8_middleOf_4 : decode cX8_middleOf 4 = .ok (.ladd, 1) := by decide +kernel
theorem dX8_middleOf_5 : decode cX8_middleOf 5 = .ok (.iconst 1, 1) := by decide +kernel
theorem dX8_middleOf_6 : decode cX8_middleOf 6 = .ok (.lshr, 1) := by decide +kernel
theorem dX8_middleOf_7 : decode cX8_middleOf 7 = .ok (.l2i, 1) := by decide +kernel
theorem dX8_middleOf_8 : decode cX8_middleOf 8 = .ok (.ireturn, 1) := by decide +kernel
theorem dX8_tell_0 : decode cX8_tell 0 = .ok (.lload_n 1, 1) := by decide +kernel
theorem dX8_tell_1 : decode cX8_tell 1 = .ok (.ldc2_w 150, 3) := by decide +kernel
theorem dX8_tell_4 : decode cX8_tell 4 = .ok (.lcmp, 1) := by decide +kernel
theorem dX8_tell_5 : decode cX8_tell 5 = .ok (.ifCond .ne 5, 3) := by decide +kernel
theorem dX8_tell_8 : decode cX8_tell 8 = .ok (.iconst 1, 1) := by decide +kernel
theorem dX8_tell_9 : decode cX8_tell 9 = .ok (.ireturn, 1) := by decide +kernel
theorem dX8_tell_10 : decode cX8_tell 10 = .ok (.aload_n 0, 1) := by decide +kernel
theorem dX8_tell_11 : decode cX8_tell 11 = .ok (.lload_n 1, 1) := by decide +kernel
theorem dX8_tell_12 : decode cX8_tell 12 = .ok (.invokestatic 152, 3) := by decide +kernel
theorem dX8_tell_15 : decode cX8_tell 15 = .ok (.putfield 139, 3) := by decide +kernel
theorem dX8_tell_18 : decode cX8_tell 18 = .ok (.aload_n 0, 1) := by decide +kernel
theorem dX8_tell_19 : decode cX8_tell 19 = .ok (.lload_n 1, 1) := by decide +kernel
theorem dX8_tell_20 : decode cX8_tell 20 = .ok (.invokestatic 156, 3) := by decide +kernel
theorem dX8_tell_23 : decode cX8_tell 23 = .ok (.putfield 142, 3) := by decide +kernel
theorem dX8_tell_26 : decode cX8_tell 26 = .ok (.iconst 0, 1) := by decide +kernel
theorem dX8_tell_27 : decode cX8_tell 27 = .ok (.ireturn, 1) := by decide +kernel
theorem dX8_tellHalved_0 : decode cX8_tellHalved 0 = .ok (.iload_n 1, 1) := by decide +kernel
theorem dX8_tellHalved_1 : decode cX8_tellHalved 1 = .ok (.ifCond .ne 5, 3) := by decide +kernel
theorem dX8_tellHalved_4 : decode cX8_tellHalved 4 = .ok (.iconst 1, 1) := by decide +kernel
theorem dX8_tellHalved_5 : decode cX8_tellHalved 5 = .ok (.ireturn, 1) := by decide +kernel
theorem dX8_tellHalved_6 : decode cX8_tellHalved 6 = .ok (.aload_n 0, 1) := by decide +kernel
theorem dX8_tellHalved_7 : decode cX8_tellHalved 7 = .ok (.iload_n 2, 1) := by decide +kernel
theorem dX8_tellHalved_8 : decode cX8_tellHalved 8 = .ok (.ifCond .eq 14, 3) := by decide +kernel
theorem dX8_tellHalved_11 : decode cX8_tellHalved 11 = .ok (.aload_n 0, 1) := by decide +kernel
theorem dX8_tellHalved_12 : decode cX8_tellHalved 12 = .ok (.getfield 26, 3) := by decide +kernel
theorem dX8_tellHalved_15 : decode cX8_tellHalved 15 = .ok (.getfield 159, 3) := by decide +kernel
theorem dX8_tellHalved_18 : decode cX8_tellHalved 18 = .ok (.lneg, 1) := by decide +kernel
theorem dX8_tellHalved_19 : decode cX8_tellHalved 19 = .ok (.goto 10, 3) := by decide +kernel
theorem dX8_tellHalved_22 : decode cX8_tellHalved 22 = .ok (.aload_n 0, 1) := by decide +kernel
theorem dX8_tellHalved_23 : decode cX8_tellHalved 23 = .ok (.getfield 26, 3) := by decide +kernel
theorem dX8_tellHalved_26 : decode cX8_tellHalved 26 = .ok (.getfield 162, 3) := by decide +kernel
theorem dX8_tellHalved_29 : decode cX8_tellHalved 29 = .ok (.putfield 139, 3) := by decide +kernel
theorem dX8_tellHalved_32 : decode cX8_tellHalved 32 = .ok (.aload_n 0, 1) := by decide +kernel
theorem dX8_tellHalved_33 : decode cX8_tellHalved 33 = .ok (.iload_n 2, 1) := by decide +kernel
theorem dX8_tellHalved_34 : decode cX8_tellHalved 34 = .ok (.ifCond .eq 14, 3) := by decide +kernel
theorem dX8_tellHalved_37 : decode cX8_tellHalved 37 = .ok (.aload_n 0, 1) := by decide +kernel
theorem dX8_tellHalved_38 : decode cX8_tellHalved 38 = .ok (.getfield 26, 3) := by decide +kernel
theorem dX8_tellHalved_41 : decode cX8_tellHalved 41 = .ok (.getfield 162, 3) := by decide +kernel
theorem dX8_tellHalved_44 : decode cX8_tellHalved 44 = .ok (.lneg, 1) := by decide +kernel
theorem dX8_tellHalved_45 : decode cX8_tellHalved 45 = .ok (.goto 10, 3) := by decide +kernel
theorem dX8_tellHalved_48 : decode cX8_tellHalved 48 = .ok (.aload_n 0, 1) := by decide +kernel
theorem dX8_tellHalved_49 : decode cX8_tellHalved 49 = .ok (.getfield 26, 3) := by decide +kernel
theorem dX8_tellHalved_52 : decode cX8_tellHalved 52 = .ok (.getfield 159, 3) := by decide +kernel
theorem dX8_tellHalved_55 : decode cX8_tellHalved 55 = .ok (.putfield 142, 3) := by decide +kernel
theorem dX8_tellHalved_58 : decode cX8_tellHalved 58 = .ok (.aload_n 0, 1) := by decide +kernel
theorem dX8_tellHalved_59 : decode cX8_tellHalved 59 = .ok (.aload_n 0, 1) := by decide +kernel
theorem dX8_tellHalved_60 : decode cX8_tellHalved 60 = .ok (.getfield 26, 3) := by decide +kernel
theorem dX8_tellHalved_63 : decode cX8_tellHalved 63 = .ok (.getfield 165, 3) := by decide +kernel
theorem dX8_tellHalved_66 : decode cX8_tellHalved 66 = .ok (.putfield 145, 3) := by decide +kernel
theorem dX8_tellHalved_69 : decode cX8_tellHalved 69 = .ok (.iconst 0, 1) := by decide +kernel
theorem dX8_tellHalved_70 : decode cX8_tellHalved 70 = .ok (.ireturn, 1) := by decide +kernel
