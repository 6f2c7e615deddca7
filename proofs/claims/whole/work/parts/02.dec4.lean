theorem dX11_together_15 : decode cX11_together 15 = .ok (.invokestatic 290, 3) := by decide +kernel
theorem dX11_together_18 : decode cX11_together 18 = .ok (.ireturn, 1) := by decide +kernel
theorem dX11_those_0 : decode cX11_those 0 = .ok (.aload_n 0, 1) := by decide +kernel
theorem dX11_those_1 : decode cX11_those 1 = .ok (.getfield 97, 3) := by decide +kernel
theorem dX11_those_4 : decode cX11_those 4 = .ok (.ireturn, 1) := by decide +kernel
theorem dX11_rounds_0 : decode cX11_rounds 0 = .ok (.aload_n 0, 1) := by decide +kernel
theorem dX11_rounds_1 : decode cX11_rounds 1 = .ok (.getfield 75, 3) := by decide +kernel
theorem dX11_rounds_4 : decode cX11_rounds 4 = .ok (.aload_n 0, 1) := by decide +kernel
theorem dX11_rounds_5 : decode cX11_rounds 5 = .ok (.getfield 19, 3) := by decide +kernel
theorem dX11_rounds_8 : decode cX11_rounds 8 = .ok (.invokevirtual 295, 3) := by decide +kernel
theorem dX11_rounds_11 : decode cX11_rounds 11 = .ok (.ireturn, 1) := by decide +kernel
theorem dX11_path_0 : decode cX11_path 0 = .ok (.aload_n 0, 1) := by decide +kernel
theorem dX11_path_1 : decode cX11_path 1 = .ok (.getfield 75, 3) := by decide +kernel
theorem dX11_path_4 : decode cX11_path 4 = .ok (.aload_n 0, 1) := by decide +kernel
theorem dX11_path_5 : decode cX11_path 5 = .ok (.getfield 19, 3) := by decide +kernel
theorem dX11_path_8 : decode cX11_path 8 = .ok (.aload_n 0, 1) := by decide +kernel
theorem dX11_path_9 : decode cX11_path 9 = .ok (.getfield 35, 3) := by decide +kernel
theorem dX11_path_12 : decode cX11_path 12 = .ok (.iload_n 1, 1) := by decide +kernel
theorem dX11_path_13 : decode cX11_path 13 = .ok (.iload_n 2, 1) := by decide +kernel
theorem dX11_path_14 : decode cX11_path 14 = .ok (.invokevirtual 299, 3) := by decide +kernel
theorem dX11_path_17 : decode cX11_path 17 = .ok (.ireturn, 1) := by decide +kernel
theorem dX11_pathAt_0 : decode cX11_pathAt 0 = .ok (.aload_n 0, 1) := by decide +kernel
theorem dX11_pathAt_1 : decode cX11_pathAt 1 = .ok (.getfield 75, 3) := by decide +kernel
theorem dX11_pathAt_4 : decode cX11_pathAt 4 = .ok (.iload_n 1, 1) := by decide +kernel
theorem dX11_pathAt_5 : decode cX11_pathAt 5 = .ok (.invokevirtual 303, 3) := by decide +kernel
theorem dX11_pathAt_8 : decode cX11_pathAt 8 = .ok (.ireturn, 1) := by decide +kernel
theorem dX11_comes_0 : decode cX11_comes 0 = .ok (.aload_n 0, 1) := by decide +kernel
theorem dX11_comes_1 : decode cX11_comes 1 = .ok (.getfield 19, 3) := by decide +kernel
theorem dX11_comes_4 : decode cX11_comes 4 = .ok (.bipush 6, 2) := by decide +kernel
theorem dX11_comes_6 : decode cX11_comes 6 = .ok (.iload_n 1, 1) := by decide +kernel
theorem dX11_comes_7 : decode cX11_comes 7 = .ok (.invokevirtual 134, 3) := by decide +kernel
theorem dX11_comes_10 : decode cX11_comes 10 = .ok (.ifCond .eq 15, 3) := by decide +kernel
theorem dX11_comes_13 : decode cX11_comes 13 = .ok (.aload_n 0, 1) := by decide +kernel
theorem dX11_comes_14 : decode cX11_comes 14 = .ok (.getfield 19, 3) := by decide +kernel
theorem dX11_comes_17 : decode cX11_comes 17 = .ok (.iconst 0, 1) := by decide +kernel
theorem dX11_comes_18 : decode cX11_comes 18 = .ok (.iload_n 2, 1) := by decide +kernel
theorem dX11_comes_19 : decode cX11_comes 19 = .ok (.invokevirtual 134, 3) := by decide +kernel
theorem dX11_comes_22 : decode cX11_comes 22 = .ok (.ifCond .ne 5, 3) := by decide +kernel
theorem dX11_comes_25 : decode cX11_comes 25 = .ok (.iconst (-1), 1) := by decide +kernel
theorem dX11_comes_26 : decode cX11_comes 26 = .ok (.ireturn, 1) := by decide +kernel
theorem dX11_comes_27 : decode cX11_comes 27 = .ok (.aload_n 0, 1) := by decide +kernel
theorem dX11_comes_28 : decode cX11_comes 28 = .ok (.getfield 39, 3) := by decide +kernel
theorem dX11_comes_31 : decode cX11_comes 31 = .ok (.aload_n 0, 1) := by decide +kernel
theorem dX11_comes_32 : decode cX11_comes 32 = .ok (.getfield 35, 3) := by decide +kernel
theorem dX11_comes_35 : decode cX11_comes 35 = .ok (.invokevirtual 306, 3) := by decide +kernel
theorem dX11_comes_38 : decode cX11_comes 38 = .ok (.iconst 0, 1) := by decide +kernel
theorem dX11_comes_39 : decode cX11_comes 39 = .ok (.istore_n 3, 1) := by decide +kernel
theorem dX11_comes_40 : decode cX11_comes 40 = .ok (.iload_n 3, 1) := by decide +kernel
theorem dX11_comes_41 : decode cX11_comes 41 = .ok (.sipush 300, 3) := by decide +kernel
theorem dX11_comes_44 : decode cX11_comes 44 = .ok (.if_icmp .gt 31, 3) := by decide +kernel
theorem dX11_comes_47 : decode cX11_comes 47 = .ok (.aload_n 0, 1) := by decide +kernel
theorem dX11_comes_48 : decode cX11_comes 48 = .ok (.getfield 39, 3) := by decide +kernel
theorem dX11_comes_51 : decode cX11_comes 51 = .ok (.getfield 218, 3) := by decide +kernel
theorem dX11_comes_54 : decode cX11_comes 54 = .ok (.iload_n 1, 1) := by decide +kernel
theorem dX11_comes_55 : decode cX11_comes 55 = .ok (.iaload, 1) := by decide +kernel
theorem dX11_comes_56 : decode cX11_comes 56 = .ok (.iload_n 2, 1) := by decide +kernel
theorem dX11_comes_57 : decode cX11_comes 57 = .ok (.if_icmp .ne 5, 3) := by decide +kernel
theorem dX11_comes_60 : decode cX11_comes 60 = .ok (.iload_n 3, 1) := by decide +kernel
theorem dX11_comes_61 : decode cX11_comes 61 = .ok (.ireturn, 1) := by decide +kernel
theorem dX11_comes_62 : decode cX11_comes 62 = .ok (.aload_n 0, 1) := by decide +kernel
theorem dX11_comes_63 : decode cX11_comes 63 = .ok (.getfield 39, 3) := by decide +kernel
theorem dX11_comes_66 : decode cX11_comes 66 = .ok (.invokevirtual 308, 3) := by decide +kernel
theorem dX11_comes_69 : decode cX11_comes 69 = .ok (.iinc 3 1, 3) := by decide +kernel
theorem dX11_comes_72 : decode cX11_comes 72 = .ok (.goto (-32), 3) := by decide +kernel
theorem dX11_comes_75 : decode cX11_comes 75 = .ok (.iconst (-1), 1) := by decide +kernel
theorem dX11_comes_76 : decode cX11_comes 76 = .ok (.ireturn, 1) := by decide +kernel
theorem dX11_meet_0 : decode cX11_meet 0 = .ok (.aload_n 0, 1) := by decide +kernel
theorem dX11_meet_1 : decode cX11_meet 1 = .ok (.getfield 39, 3) := by decide +kernel
theorem dX11_meet_4 : decode cX11_meet 4 = .ok (.aload_n 0, 1) := by decide +kernel
theorem dX11_meet_5 : decode cX11_meet 5 = .ok (.getfield 35, 3) := by decide +kernel
theorem dX11_meet_8 : decode cX11_meet 8 = .ok (.invokevirtual 306, 3) := by decide +kernel
theorem dX11_meet_11 : decode cX11_meet 11 = .ok (.iconst 1, 1) := by decide +kernel
theorem dX11_meet_12 : decode cX11_meet 12 = .ok (.istore_n 1, 1) := by decide +kernel
theorem dX11_meet_13 : decode cX11_meet 13 = .ok (.iload_n 1, 1) := by decide +kernel
theorem dX11_meet_14 : decode cX11_meet 14 = .ok (.sipush 300, 3) := by decide +kernel
theorem dX11_meet_17 : decode cX11_meet 17 = .ok (.if_icmp .gt 35, 3) := by decide +kernel
theorem dX11_meet_20 : decode cX11_meet 20 = .ok (.aload_n 0, 1) := by decide +kernel
theorem dX11_meet_21 : decode cX11_meet 21 = .ok (.getfield 39, 3) := by decide +kernel
theorem dX11_meet_24 : decode cX11_meet 24 = .ok (.invokevirtual 308, 3) := by decide +kernel
theorem dX11_meet_27 : decode cX11_meet 27 = .ok (.aload_n 0, 1) := by decide +kernel
theorem dX11_meet_28 : decode cX11_meet 28 = .ok (.getfield 39, 3) := by decide +kernel
theorem dX11_meet_31 : decode cX11_meet 31 = .ok (.getfield 227, 3) := by decide +kernel
theorem dX11_meet_34 : decode cX11_meet 34 = .ok (.aload_n 0, 1) := by decide +kernel
theorem dX11_meet_35 : decode cX11_meet 35 = .ok (.getfield 35, 3) := by decide +kernel
theorem dX11_meet_38 : decode cX11_meet 38 = .ok (.getfield 227, 3) := by decide +kernel
theorem dX11_meet_41 : decode cX11_meet 41 = .ok (.if_icmp .eq 5, 3) := by decide +kernel
theorem dX11_meet_44 : decode cX11_meet 44 = .ok (.iload_n 1, 1) := by decide +kernel
theorem dX11_meet_45 : decode cX11_meet 45 = .ok (.ireturn, 1) := by decide +kernel
theorem dX11_meet_46 : decode cX11_meet 46 = .ok (.iinc 1 1, 3) := by decide +kernel
theorem dX11_meet_49 : decode cX11_meet 49 = .ok (.goto (-36), 3) := by decide +kernel
theorem dX11_meet_52 : decode cX11_meet 52 = .ok (.iconst (-1), 1) := by decide +kernel
theorem dX11_meet_53 : decode cX11_meet 53 = .ok (.ireturn, 1) := by decide +kernel
theorem dX11_fits_0 : decode cX11_fits 0 = .ok (.aload_n 0, 1) := by decide +kernel
theorem dX11_fits_1 : decode cX11_fits 1 = .ok (.getfield 82, 3) := by decide +kernel
theorem dX11_fits_4 : decode cX11_fits 4 = .ok (.aload_n 0, 1) := by decide +kernel
theorem dX11_fits_5 : decode cX11_fits 5 = .ok (.getfield 10, 3) := by decide +kernel
theorem dX11_fits_8 : decode cX11_fits 8 = .ok (.aload_n 0, 1) := by decide +kernel
theorem dX11_fits_9 : decode cX11_fits 9 = .ok (.getfield 19, 3) := by decide +kernel
theorem dX11_fits_12 : decode cX11_fits 12 = .ok (.aload_n 0, 1) := by decide +kernel
theorem dX11_fits_13 : decode cX11_fits 13 = .ok (.getfield 35, 3) := by decide +kernel
theorem dX11_fits_16 : decode cX11_fits 16 = .ok (.invokevirtual 311, 3) := by decide +kernel
theorem dX11_fits_19 : decode cX11_fits 19 = .ok (.invokevirtual 314, 3) := by decide +kernel
theorem dX11_fits_22 : decode cX11_fits 22 = .ok (.istore_n 1, 1) := by decide +kernel
theorem dX11_fits_23 : decode cX11_fits 23 = .ok (.aload_n 0, 1) := by decide +kernel
theorem dX11_fits_24 : decode cX11_fits 24 = .ok (.getfield 10, 3) := by decide +kernel
theorem dX11_fits_27 : decode cX11_fits 27 = .ok (.iconst 0, 1) := by decide +kernel
theorem dX11_fits_28 : decode cX11_fits 28 = .ok (.putfield 101, 3) := by decide +kernel
theorem dX11_fits_31 : decode cX11_fits 31 = .ok (.iload_n 1, 1) := by decide +kernel
theorem dX11_fits_32 : decode cX11_fits 32 = .ok (.ireturn, 1) := by decide +kernel
theorem dX11_fitsAt_0 : decode cX11_fitsAt 0 = .ok (.aload_n 0, 1) := by decide +kernel
theorem dX11_fitsAt_1 : decode cX11_fitsAt 1 = .ok (.getfield 82, 3) := by decide +kernel
theorem dX11_fitsAt_4 : decode cX11_fitsAt 4 = .ok (.iload_n 1, 1) := by decide +kernel
theorem dX11_fitsAt_5 : decode cX11_fitsAt 5 = .ok (.invokevirtual 318, 3) := by decide +kernel
theorem dX11_fitsAt_8 : decode cX11_fitsAt 8 = .ok (.ireturn, 1) := by decide +kernel
theorem dX11_ask_0 : decode cX11_ask 0 = .ok (.aload_n 0, 1) := by decide +kernel
theorem dX11_ask_1 : decode cX11_ask 1 = .ok (.getfield 82, 3) := by decide +kernel
theorem dX11_ask_4 : decode cX11_ask 4 = .ok (.getfield 321, 3) := by decide +kernel
theorem dX11_ask_7 : decode cX11_ask 7 = .ok (.ireturn, 1) := by decide +kernel
theorem dX11_mean_0 : decode cX11_mean 0 = .ok (.aload_n 0, 1) := by decide +kernel
theorem dX11_mean_1 : decode cX11_mean 1 = .ok (.getfield 19, 3) := by decide +kernel
theorem dX11_mean_4 : decode cX11_mean 4 = .ok (.getfield 324, 3) := by decide +kernel
theorem dX11_mean_7 : decode cX11_mean 7 = .ok (.bipush 6, 2) := by decide +kernel
theorem dX11_mean_9 : decode cX11_mean 9 = .ok (.iaload, 1) := by decide +kernel
theorem dX11_mean_10 : decode cX11_mean 10 = .ok (.istore_n 2, 1) := by decide +kernel
theorem dX11_mean_11 : decode cX11_mean 11 = .ok (.iload_n 2, 1) := by decide +kernel
theorem dX11_mean_12 : decode cX11_mean 12 = .ok (.iconst 1, 1) := by decide +kernel
theorem dX11_mean_13 : decode cX11_mean 13 = .ok (.if_icmp .lt 12, 3) := by decide +kernel
theorem dX11_mean_16 : decode cX11_mean 16 = .ok (.iload_n 1, 1) := by decide +kernel
theorem dX11_mean_17 : decode cX11_mean 17 = .ok (.ifCond .lt 8, 3) := by decide +kernel
theorem dX11_mean_20 : decode cX11_mean 20 = .ok (.iload_n 1, 1) := by decide +kernel
theorem dX11_mean_21 : decode cX11_mean 21 = .ok (.iconst 1, 1) := by decide +kernel
theorem dX11_mean_22 : decode cX11_mean 22 = .ok (.if_icmp .le 14, 3) := by decide +kernel
theorem dX11_mean_25 : decode cX11_mean 25 = .ok (.new 211, 3) := by decide +kernel
theorem dX11_mean_28 : decode cX11_mean 28 = .ok (.dup, 1) := by decide +kernel
theorem dX11_mean_29 : decode cX11_mean 29 = .ok (.ldc_w 327, 3) := by decide +kernel
theorem dX11_mean_32 : decode cX11_mean 32 = .ok (.invokespecial 215, 3) := by decide +kernel
theorem dX11_mean_35 : decode cX11_mean 35 = .ok (.athrow, 1) := by decide +kernel
theorem dX11_mean_36 : decode cX11_mean 36 = .ok (.aload_n 0, 1) := by decide +kernel
theorem dX11_mean_37 : decode cX11_mean 37 = .ok (.getfield 35, 3) := by decide +kernel
theorem dX11_mean_40 : decode cX11_mean 40 = .ok (.invokevirtual 329, 3) := by decide +kernel
theorem dX11_mean_43 : decode cX11_mean 43 = .ok (.istore_n 3, 1) := by decide +kernel
theorem dX11_mean_44 : decode cX11_mean 44 = .ok (.iload_n 3, 1) := by decide +kernel
theorem dX11_mean_45 : decode cX11_mean 45 = .ok (.iload_n 2, 1) := by decide +kernel
theorem dX11_mean_46 : decode cX11_mean 46 = .ok (.invokestatic 332, 3) := by decide +kernel
theorem dX11_mean_49 : decode cX11_mean 49 = .ok (.istore 4, 2) := by decide +kernel
theorem dX11_mean_51 : decode cX11_mean 51 = .ok (.iload 4, 2) := by decide +kernel
theorem dX11_mean_53 : decode cX11_mean 53 = .ok (.iconst 1, 1) := by decide +kernel
theorem dX11_mean_54 : decode cX11_mean 54 = .ok (.if_icmp .ge 5, 3) := by decide +kernel
theorem dX11_mean_57 : decode cX11_mean 57 = .ok (.iconst (-1), 1) := by decide +kernel
theorem dX11_mean_58 : decode cX11_mean 58 = .ok (.ireturn, 1) := by decide +kernel
theorem dX11_mean_59 : decode cX11_mean 59 = .ok (.iload_n 1, 1) := by decide +kernel
theorem dX11_mean_60 : decode cX11_mean 60 = .ok (.ifCond .ne 10, 3) := by decide +kernel
theorem dX11_mean_63 : decode cX11_mean 63 = .ok (.iload_n 3, 1) := by decide +kernel
theorem dX11_mean_64 : decode cX11_mean 64 = .ok (.iload 4, 2) := by decide +kernel
theorem dX11_mean_66 : decode cX11_mean 66 = .ok (.idiv, 1) := by decide +kernel
theorem dX11_mean_67 : decode cX11_mean 67 = .ok (.goto 7, 3) := by decide +kernel
theorem dX11_mean_70 : decode cX11_mean 70 = .ok (.iload_n 2, 1) := by decide +kernel
theorem dX11_mean_71 : decode cX11_mean 71 = .ok (.iload 4, 2) := by decide +kernel
theorem dX11_mean_73 : decode cX11_mean 73 = .ok (.idiv, 1) := by decide +kernel
theorem dX11_mean_74 : decode cX11_mean 74 = .ok (.ireturn, 1) := by decide +kernel
theorem dX11_tag_0 : decode cX11_tag 0 = .ok (.aload_n 0, 1) := by decide +kernel
theorem dX11_tag_1 : decode cX11_tag 1 = .ok (.getfield 19, 3) := by decide +kernel
theorem dX11_tag_4 : decode cX11_tag 4 = .ok (.bipush 6, 2) := by decide +kernel
theorem dX11_tag_6 : decode cX11_tag 6 = .ok (.iload_n 1, 1) := by decide +kernel
theorem dX11_tag_7 : decode cX11_tag 7 = .ok (.invokevirtual 134, 3) := by decide +kernel
theorem dX11_tag_10 : decode cX11_tag 10 = .ok (.ifCond .ne 5, 3) := by decide +kernel
theorem dX11_tag_13 : decode cX11_tag 13 = .ok (.iconst (-1), 1) := by decide +kernel
theorem dX11_tag_14 : decode cX11_tag 14 = .ok (.ireturn, 1) := by decide +kernel
theorem dX11_tag_15 : decode cX11_tag 15 = .ok (.aload_n 0, 1) := by decide +kernel
theorem dX11_tag_16 : decode cX11_tag 16 = .ok (.getfield 89, 3) := by decide +kernel
theorem dX11_tag_19 : decode cX11_tag 19 = .ok (.aload_n 0, 1) := by decide +kernel
theorem dX11_tag_20 : decode cX11_tag 20 = .ok (.getfield 19, 3) := by decide +kernel
theorem dX11_tag_23 : decode cX11_tag 23 = .ok (.aload_n 0, 1) := by decide +kernel
theorem dX11_tag_24 : decode cX11_tag 24 = .ok (.getfield 35, 3) := by decide +kernel
theorem dX11_tag_27 : decode cX11_tag 27 = .ok (.iload_n 1, 1) := by decide +kernel
theorem dX11_tag_28 : decode cX11_tag 28 = .ok (.invokevirtual 335, 3) := by decide +kernel
theorem dX11_tag_31 : decode cX11_tag 31 = .ok (.aload_n 0, 1) := by decide +kernel
theorem dX11_tag_32 : decode cX11_tag 32 = .ok (.getfield 89, 3) := by decide +kernel
theorem dX11_tag_35 : decode cX11_tag 35 = .ok (.getfield 339, 3) := by decide +kernel
theorem dX11_tag_38 : decode cX11_tag 38 = .ok (.ireturn, 1) := by decide +kernel
theorem dX11_byteAt_0 : decode cX11_byteAt 0 = .ok (.aload_n 0, 1) := by decide +kernel
theorem dX11_byteAt_1 : decode cX11_byteAt 1 = .ok (.getfield 89, 3) := by decide +kernel
theorem dX11_byteAt_4 : decode cX11_byteAt 4 = .ok (.iload_n 1, 1) := by decide +kernel
theorem dX11_byteAt_5 : decode cX11_byteAt 5 = .ok (.invokevirtual 340, 3) := by decide +kernel
theorem dX11_byteAt_8 : decode cX11_byteAt 8 = .ok (.ireturn, 1) := by decide +kernel
theorem dX11_drawn_0 : decode cX11_drawn 0 = .ok (.iload_n 1, 1) := by decide +kernel
theorem dX11_drawn_1 : decode cX11_drawn 1 = .ok (.iconst 1, 1) := by decide +kernel
theorem dX11_drawn_2 : decode cX11_drawn 2 = .ok (.if_icmp .lt 9, 3) := by decide +kernel
theorem dX11_drawn_5 : decode cX11_drawn 5 = .ok (.iload_n 1, 1) := by decide +kernel
theorem dX11_drawn_6 : decode cX11_drawn 6 = .ok (.bipush 60, 2) := by decide +kernel
theorem dX11_drawn_8 : decode cX11_drawn 8 = .ok (.if_icmp .le 5, 3) := by decide +kernel
theorem dX11_drawn_11 : decode cX11_drawn 11 = .ok (.iconst (-1), 1) := by decide +kernel
theorem dX11_drawn_12 : decode cX11_drawn 12 = .ok (.ireturn, 1) := by decide +kernel
theorem dX11_drawn_13 : decode cX11_drawn 13 = .ok (.aload_n 0, 1) := by decide +kernel
theorem dX11_drawn_14 : decode cX11_drawn 14 = .ok (.getfield 45, 3) := by decide +kernel
theorem dX11_drawn_17 : decode cX11_drawn 17 = .ok (.aload_n 0, 1) := by decide +kernel
theorem dX11_drawn_18 : decode cX11_drawn 18 = .ok (.getfield 35, 3) := by decide +kernel
theorem dX11_drawn_21 : decode cX11_drawn 21 = .ok (.invokevirtual 257, 3) := by decide +kernel
theorem dX11_drawn_24 : decode cX11_drawn 24 = .ok (.aload_n 0, 1) := by decide +kernel
theorem dX11_drawn_25 : decode cX11_drawn 25 = .ok (.getfield 35, 3) := by decide +kernel
theorem dX11_drawn_28 : decode cX11_drawn 28 = .ok (.iload_n 1, 1) := by decide +kernel
theorem dX11_drawn_29 : decode cX11_drawn 29 = .ok (.iload_n 2, 1) := by decide +kernel
theorem dX11_drawn_30 : decode cX11_drawn 30 = .ok (.invokevirtual 342, 3) := by decide +kernel
theorem dX11_drawn_33 : decode cX11_drawn 33 = .ok (.istore_n 3, 1) := by decide +kernel
theorem dX11_drawn_34 : decode cX11_drawn 34 = .ok (.iload_n 3, 1) := by decide +kernel
theorem dX11_drawn_35 : decode cX11_drawn 35 = .ok (.ifCond .le 10, 3) := by decide +kernel
theorem dX11_drawn_38 : decode cX11_drawn 38 = .ok (.aload_n 0, 1) := by decide +kernel
theorem dX11_drawn_39 : decode cX11_drawn 39 = .ok (.getfield 45, 3) := by decide +kernel
theorem dX11_drawn_42 : decode cX11_drawn 42 = .ok (.invokevirtual 264, 3) := by decide +kernel
theorem dX11_drawn_45 : decode cX11_drawn 45 = .ok (.iload_n 3, 1) := by decide +kernel
theorem dX11_drawn_46 : decode cX11_drawn 46 = .ok (.ireturn, 1) := by decide +kernel
theorem dX11_odds_0 : decode cX11_odds 0 = .ok (.iload_n 1, 1) := by decide +kernel
theorem dX11_odds_1 : decode cX11_odds 1 = .ok (.iconst 1, 1) := by decide +kernel
theorem dX11_odds_2 : decode cX11_odds 2 = .ok (.if_icmp .lt 9, 3) := by decide +kernel
theorem dX11_odds_5 : decode cX11_odds 5 = .ok (.iload_n 1, 1) := by decide +kernel
theorem dX11_odds_6 : decode cX11_odds 6 = .ok (.bipush 30, 2) := by decide +kernel
theorem dX11_odds_8 : decode cX11_odds 8 = .ok (.if_icmp .le 5, 3) := by decide +kernel
theorem dX11_odds_11 : decode cX11_odds 11 = .ok (.iconst (-1), 1) := by decide +kernel
theorem dX11_odds_12 : decode cX11_odds 12 = .ok (.ireturn, 1) := by decide +kernel
theorem dX11_odds_13 : decode cX11_odds 13 = .ok (.iconst 0, 1) := by decide +kernel
theorem dX11_odds_14 : decode cX11_odds 14 = .ok (.istore_n 3, 1) := by decide +kernel
theorem dX11_odds_15 : decode cX11_odds 15 = .ok (.iconst 0, 1) := by decide +kernel
theorem dX11_odds_16 : decode cX11_odds 16 = .ok (.istore 4, 2) := by decide +kernel
theorem dX11_odds_18 : decode cX11_odds 18 = .ok (.iload 4, 2) := by decide +kernel
theorem dX11_odds_20 : decode cX11_odds 20 = .ok (.iload_n 1, 1) := by decide +kernel
theorem dX11_odds_21 : decode cX11_odds 21 = .ok (.if_icmp .ge 54, 3) := by decide +kernel
theorem dX11_odds_24 : decode cX11_odds 24 = .ok (.aload_n 0, 1) := by decide +kernel
theorem dX11_odds_25 : decode cX11_odds 25 = .ok (.getfield 39, 3) := by decide +kernel
theorem dX11_odds_28 : decode cX11_odds 28 = .ok (.aload_n 0, 1) := by decide +kernel
theorem dX11_odds_29 : decode cX11_odds 29 = .ok (.getfield 35, 3) := by decide +kernel
theorem dX11_odds_32 : decode cX11_odds 32 = .ok (.invokevirtual 306, 3) := by decide +kernel
theorem dX11_odds_35 : decode cX11_odds 35 = .ok (.aload_n 0, 1) := by decide +kernel
theorem dX11_odds_36 : decode cX11_odds 36 = .ok (.getfield 39, 3) := by decide +kernel
theorem dX11_odds_39 : decode cX11_odds 39 = .ok (.bipush 40, 2) := by decide +kernel
theorem dX11_odds_41 : decode cX11_odds 41 = .ok (.iload_n 2, 1) := by decide +kernel
theorem dX11_odds_42 : decode cX11_odds 42 = .ok (.iload 4, 2) := by decide +kernel
theorem dX11_odds_44 : decode cX11_odds 44 = .ok (.iadd, 1) := by decide +kernel
theorem dX11_odds_45 : decode cX11_odds 45 = .ok (.invokevirtual 342, 3) := by decide +kernel
theorem dX11_odds_48 : decode cX11_odds 48 = .ok (.pop, 1) := by decide +kernel
theorem dX11_odds_49 : decode cX11_odds 49 = .ok (.aload_n 0, 1) := by decide +kernel
theorem dX11_odds_50 : decode cX11_odds 50 = .ok (.getfield 39, 3) := by decide +kernel
theorem dX11_odds_53 : decode cX11_odds 53 = .ok (.getfield 250, 3) := by decide +kernel
theorem dX11_odds_56 : decode cX11_odds 56 = .ok (.aload_n 0, 1) := by decide +kernel
theorem dX11_odds_57 : decode cX11_odds 57 = .ok (.getfield 35, 3) := by decide +kernel
theorem dX11_odds_60 : decode cX11_odds 60 = .ok (.getfield 250, 3) := by decide +kernel
theorem dX11_odds_63 : decode cX11_odds 63 = .ok (.if_icmp .le 6, 3) := by decide +kernel
theorem dX11_odds_66 : decode cX11_odds 66 = .ok (.iinc 3 1, 3) := by decide +kernel
theorem dX11_odds_69 : decode cX11_odds 69 = .ok (.iinc 4 1, 3) := by decide +kernel
theorem dX11_odds_72 : decode cX11_odds 72 = .ok (.goto (-54), 3) := by decide +kernel
theorem dX11_odds_75 : decode cX11_odds 75 = .ok (.iload_n 3, 1) := by decide +kernel
theorem dX11_odds_76 : decode cX11_odds 76 = .ok (.ireturn, 1) := by decide +kernel
theorem dX11_book_0 : decode cX11_book 0 = .ok (.iload_n 1, 1) := by decide +kernel
theorem dX11_book_1 : decode cX11_book 1 = .ok (.ifCond .eq 12, 3) := by decide +kernel
theorem dX11_book_4 : decode cX11_book 4 = .ok (.iload_n 1, 1) := by decide +kernel
theorem dX11_book_5 : decode cX11_book 5 = .ok (.iconst 1, 1) := by decide +kernel
theorem dX11_book_6 : decode cX11_book 6 = .ok (.if_icmp .eq 7, 3) := by decide +kernel
theorem dX11_book_9 : decode cX11_book 9 = .ok (.sipush (-1000), 3) := by decide +kernel
theorem dX11_book_12 : decode cX11_book 12 = .ok (.ireturn, 1) := by decide +kernel
theorem dX11_book_13 : decode cX11_book 13 = .ok (.aload_n 0, 1) := by decide +kernel
theorem dX11_book_14 : decode cX11_book 14 = .ok (.getfield 52, 3) := by decide +kernel
theorem dX11_book_17 : decode cX11_book 17 = .ok (.aload_n 0, 1) := by decide +kernel
theorem dX11_book_18 : decode cX11_book 18 = .ok (.getfield 10, 3) := by decide +kernel
theorem dX11_book_21 : decode cX11_book 21 = .ok (.aload_n 0, 1) := by decide +kernel
theorem dX11_book_22 : decode cX11_book 22 = .ok (.getfield 19, 3) := by decide +kernel
theorem dX11_book_25 : decode cX11_book 25 = .ok (.invokevirtual 345, 3) := by decide +kernel
theorem dX11_book_28 : decode cX11_book 28 = .ok (.istore_n 2, 1) := by decide +kernel
theorem dX11_book_29 : decode cX11_book 29 = .ok (.aload_n 0, 1) := by decide +kernel
theorem dX11_book_30 : decode cX11_book 30 = .ok (.aload_n 0, 1) := by decide +kernel
theorem dX11_book_31 : decode cX11_book 31 = .ok (.getfield 10, 3) := by decide +kernel
theorem dX11_book_34 : decode cX11_book 34 = .ok (.getfield 112, 3) := by decide +kernel
theorem dX11_book_37 : decode cX11_book 37 = .ok (.putfield 93, 3) := by decide +kernel
theorem dX11_book_40 : decode cX11_book 40 = .ok (.aload_n 0, 1) := by decide +kernel
theorem dX11_book_41 : decode cX11_book 41 = .ok (.getfield 10, 3) := by decide +kernel
theorem dX11_book_44 : decode cX11_book 44 = .ok (.iconst 0, 1) := by decide +kernel
theorem dX11_book_45 : decode cX11_book 45 = .ok (.putfield 101, 3) := by decide +kernel
theorem dX11_book_48 : decode cX11_book 48 = .ok (.iload_n 2, 1) := by decide +kernel
theorem dX11_book_49 : decode cX11_book 49 = .ok (.ifCond .ne 14, 3) := by decide +kernel
theorem dX11_book_52 : decode cX11_book 52 = .ok (.bipush (-2), 2) := by decide +kernel
theorem dX11_book_54 : decode cX11_book 54 = .ok (.aload_n 0, 1) := by decide +kernel
theorem dX11_book_55 : decode cX11_book 55 = .ok (.getfield 10, 3) := by decide +kernel
theorem dX11_book_58 : decode cX11_book 58 = .ok (.getfield 115, 3) := by decide +kernel
theorem dX11_book_61 : decode cX11_book 61 = .ok (.isub, 1) := by decide +kernel
theorem dX11_book_62 : decode cX11_book 62 = .ok (.ireturn, 1) := by decide +kernel
theorem dX11_book_63 : decode cX11_book 63 = .ok (.aload_n 0, 1) := by decide +kernel
theorem dX11_book_64 : decode cX11_book 64 = .ok (.getfield 39, 3) := by decide +kernel
theorem dX11_book_67 : decode cX11_book 67 = .ok (.aload_n 0, 1) := by decide +kernel
theorem dX11_book_68 : decode cX11_book 68 = .ok (.getfield 35, 3) := by decide +kernel
theorem dX11_book_71 : decode cX11_book 71 = .ok (.invokevirtual 306, 3) := by decide +kernel
theorem dX11_book_74 : decode cX11_book 74 = .ok (.aload_n 0, 1) := by decide +kernel
theorem dX11_book_75 : decode cX11_book 75 = .ok (.getfield 52, 3) := by decide +kernel
theorem dX11_book_78 : decode cX11_book 78 = .ok (.aload_n 0, 1) := by decide +kernel
theorem dX11_book_79 : decode cX11_book 79 = .ok (.getfield 39, 3) := by decide +kernel
theorem dX11_book_82 : decode cX11_book 82 = .ok (.invokevirtual 349, 3) := by decide +kernel
theorem dX11_book_85 : decode cX11_book 85 = .ok (.istore_n 3, 1) := by decide +kernel
theorem dX11_book_86 : decode cX11_book 86 = .ok (.iload_n 1, 1) := by decide +kernel
theorem dX11_book_87 : decode cX11_book 87 = .ok (.iconst 1, 1) := by decide +kernel
theorem dX11_book_88 : decode cX11_book 88 = .ok (.if_icmp .ne 42, 3) := by decide +kernel
theorem dX11_book_91 : decode cX11_book 91 = .ok (.aload_n 0, 1) := by decide +kernel
theorem dX11_book_92 : decode cX11_book 92 = .ok (.getfield 52, 3) := by decide +kernel
theorem dX11_book_95 : decode cX11_book 95 = .ok (.getfield 352, 3) := by decide +kernel
theorem dX11_book_98 : decode cX11_book 98 = .ok (.ifCond .le 32, 3) := by decide +kernel
theorem dX11_book_101 : decode cX11_book 101 = .ok (.aload_n 0, 1) := by decide +kernel
theorem dX11_book_102 : decode cX11_book 102 = .ok (.getfield 45, 3) := by decide +kernel
theorem dX11_book_105 : decode cX11_book 105 = .ok (.aload_n 0, 1) := by decide +kernel
theorem dX11_book_106 : decode cX11_book 106 = .ok (.getfield 35, 3) := by decide +kernel
theorem dX11_book_109 : decode cX11_book 109 = .ok (.invokevirtual 257, 3) := by decide +kernel
theorem dX11_book_112 : decode cX11_book 112 = .ok (.aload_n 0, 1) := by decide +kernel
theorem dX11_book_113 : decode cX11_book 113 = .ok (.getfield 45, 3) := by decide +kernel
theorem dX11_book_116 : decode cX11_book 116 = .ok (.invokevirtual 264, 3) := by decide +kernel
theorem dX11_book_119 : decode cX11_book 119 = .ok (.aload_n 0, 1) := by decide +kernel
theorem dX11_book_120 : decode cX11_book 120 = .ok (.getfield 35, 3) := by decide +kernel
theorem dX11_book_123 : decode cX11_book 123 = .ok (.aload_n 0, 1) := by decide +kernel
theorem dX11_book_124 : decode cX11_book 124 = .ok (.getfield 39, 3) := by decide +kernel
theorem dX11_book_127 : decode cX11_book 127 = .ok (.invokevirtual 306, 3) := by decide +kernel
theorem dX11_book_130 : decode cX11_book 130 = .ok (.iload_n 3, 1) := by decide +kernel
theorem dX11_book_131 : decode cX11_book 131 = .ok (.ireturn, 1) := by decide +kernel
theorem dX11_told_0 : decode cX11_told 0 = .ok (.aload_n 0, 1) := by decide +kernel
theorem dX11_told_1 : decode cX11_told 1 = .ok (.getfield 52, 3) := by decide +kernel
theorem dX11_told_4 : decode cX11_told 4 = .ok (.iload_n 1, 1) := by decide +kernel
theorem dX11_told_5 : decode cX11_told 5 = .ok (.invokevirtual 355, 3) := by decide +kernel
theorem dX11_told_8 : decode cX11_told 8 = .ok (.ireturn, 1) := by decide +kernel
theorem dX11_sentence_0 : decode cX11_sentence 0 = .ok (.aload_n 0, 1) := by decide +kernel
theorem dX11_sentence_1 : decode cX11_sentence 1 = .ok (.getfield 63, 3) := by decide +kernel
theorem dX11_sentence_4 : decode cX11_sentence 4 = .ok (.aload_n 0, 1) := by decide +kernel
theorem dX11_sentence_5 : decode cX11_sentence 5 = .ok (.getfield 10, 3) := by decide +kernel
theorem dX11_sentence_8 : decode cX11_sentence 8 = .ok (.aload_n 0, 1) := by decide +kernel
theorem dX11_sentence_9 : decode cX11_sentence 9 = .ok (.getfield 19, 3) := by decide +kernel
theorem dX11_sentence_12 : decode cX11_sentence 12 = .ok (.invokevirtual 358, 3) := by decide +kernel
theorem dX11_sentence_15 : decode cX11_sentence 15 = .ok (.istore_n 1, 1) := by decide +kernel
theorem dX11_sentence_16 : decode cX11_sentence 16 = .ok (.aload_n 0, 1) := by decide +kernel
theorem dX11_sentence_17 : decode cX11_sentence 17 = .ok (.aload_n 0, 1) := by decide +kernel
theorem dX11_sentence_18 : decode cX11_sentence 18 = .ok (.getfield 10, 3) := by decide +kernel
theorem dX11_sentence_21 : decode cX11_sentence 21 = .ok (.getfield 112, 3) := by decide +kernel
theorem dX11_sentence_24 : decode cX11_sentence 24 = .ok (.putfield 93, 3) := by decide +kernel
theorem dX11_sentence_27 : decode cX11_sentence 27 = .ok (.aload_n 0, 1) := by decide +kernel
theorem dX11_sentence_28 : decode cX11_sentence 28 = .ok (.getfield 10, 3) := by decide +kernel
theorem dX11_sentence_31 : decode cX11_sentence 31 = .ok (.iconst 0, 1) := by decide +kernel
theorem dX11_sentence_32 : decode cX11_sentence 32 = .ok (.putfield 101, 3) := by decide +kernel
theorem dX11_sentence_35 : decode cX11_sentence 35 = .ok (.iload_n 1, 1) := by decide +kernel
theorem dX11_sentence_36 : decode cX11_sentence 36 = .ok (.ifCond .ne 13, 3) := by decide +kernel
theorem dX11_sentence_39 : decode cX11_sentence 39 = .ok (.iconst (-1), 1) := by decide +kernel
theorem dX11_sentence_40 : decode cX11_sentence 40 = .ok (.aload_n 0, 1) := by decide +kernel
theorem dX11_sentence_41 : decode cX11_sentence 41 = .ok (.getfield 10, 3) := by decide +kernel
theorem dX11_sentence_44 : decode cX11_sentence 44 = .ok (.getfield 115, 3) := by decide +kernel
theorem dX11_sentence_47 : decode cX11_sentence 47 = .ok (.isub, 1) := by decide +kernel
theorem dX11_sentence_48 : decode cX11_sentence 48 = .ok (.ireturn, 1) := by decide +kernel
theorem dX11_sentence_49 : decode cX11_sentence 49 = .ok (.aload_n 0, 1) := by decide +kernel
theorem dX11_sentence_50 : decode cX11_sentence 50 = .ok (.getfield 59, 3) := by decide +kernel
theorem dX11_sentence_53 : decode cX11_sentence 53 = .ok (.aload_n 0, 1) := by decide +kernel
theorem dX11_sentence_54 : decode cX11_sentence 54 = .ok (.getfield 63, 3) := by decide +kernel
theorem dX11_sentence_57 : decode cX11_sentence 57 = .ok (.invokevirtual 361, 3) := by decide +kernel
theorem dX11_sentence_60 : decode cX11_sentence 60 = .ok (.aload_n 0, 1) := by decide +kernel
theorem dX11_sentence_61 : decode cX11_sentence 61 = .ok (.getfield 59, 3) := by decide +kernel
theorem dX11_sentence_64 : decode cX11_sentence 64 = .ok (.getfield 364, 3) := by decide +kernel
theorem dX11_sentence_67 : decode cX11_sentence 67 = .ok (.ireturn, 1) := by decide +kernel
theorem dX11_said_0 : decode cX11_said 0 = .ok (.aload_n 0, 1) := by decide +kernel
theorem dX11_said_1 : decode cX11_said 1 = .ok (.getfield 59, 3) := by decide +kernel
theorem dX11_said_4 : decode cX11_said 4 = .ok (.getfield 126, 3) := by decide +kernel
theorem dX11_said_7 : decode cX11_said 7 = .ok (.ifCond .eq 8, 3) := by decide +kernel
theorem dX11_said_10 : decode cX11_said 10 = .ok (.iload_n 1, 1) := by decide +kernel
theorem dX11_said_11 : decode cX11_said 11 = .ok (.iconst (-1), 1) := by decide +kernel
theorem dX11_said_12 : decode cX11_said 12 = .ok (.if_icmp .ge 5, 3) := by decide +kernel
theorem dX11_said_15 : decode cX11_said 15 = .ok (.iconst (-1), 1) := by decide +kernel
theorem dX11_said_16 : decode cX11_said 16 = .ok (.ireturn, 1) := by decide +kernel
theorem dX11_said_17 : decode cX11_said 17 = .ok (.aload_n 0, 1) := by decide +kernel
theorem dX11_said_18 : decode cX11_said 18 = .ok (.getfield 59, 3) := by decide +kernel
theorem dX11_said_21 : decode cX11_said 21 = .ok (.aload_n 0, 1) := by decide +kernel
theorem dX11_said_22 : decode cX11_said 22 = .ok (.getfield 19, 3) := by decide +kernel
theorem dX11_said_25 : decode cX11_said 25 = .ok (.aload_n 0, 1) := by decide +kernel
theorem dX11_said_26 : decode cX11_said 26 = .ok (.getfield 35, 3) := by decide +kernel
theorem dX11_said_29 : decode cX11_said 29 = .ok (.invokevirtual 367, 3) := by decide +kernel
theorem dX11_said_32 : decode cX11_said 32 = .ok (.istore_n 2, 1) := by decide +kernel
theorem dX11_said_33 : decode cX11_said 33 = .ok (.iload_n 1, 1) := by decide +kernel
theorem dX11_said_34 : decode cX11_said 34 = .ok (.iconst (-1), 1) := by decide +kernel
theorem dX11_said_35 : decode cX11_said 35 = .ok (.if_icmp .ne 8, 3) := by decide +kernel
theorem dX11_said_38 : decode cX11_said 38 = .ok (.iload_n 2, 1) := by decide +kernel
theorem dX11_said_39 : decode cX11_said 39 = .ok (.invokestatic 290, 3) := by decide +kernel
theorem dX11_said_42 : decode cX11_said 42 = .ok (.ireturn, 1) := by decide +kernel
theorem dX11_said_43 : decode cX11_said 43 = .ok (.iconst 0, 1) := by decide +kernel
theorem dX11_said_44 : decode cX11_said 44 = .ok (.istore_n 3, 1) := by decide +kernel
theorem dX11_said_45 : decode cX11_said 45 = .ok (.iconst 0, 1) := by decide +kernel
theorem dX11_said_46 : decode cX11_said 46 = .ok (.istore 4, 2) := by decide +kernel
theorem dX11_said_48 : decode cX11_said 48 = .ok (.iload 4, 2) := by decide +kernel
theorem dX11_said_50 : decode cX11_said 50 = .ok (.aload_n 0, 1) := by decide +kernel
theorem dX11_said_51 : decode cX11_said 51 = .ok (.getfield 19, 3) := by decide +kernel
theorem dX11_said_54 : decode cX11_said 54 = .ok (.getfield 324, 3) := by decide +kernel
theorem dX11_said_57 : decode cX11_said 57 = .ok (.bipush 6, 2) := by decide +kernel
theorem dX11_said_59 : decode cX11_said 59 = .ok (.iaload, 1) := by decide +kernel
theorem dX11_said_60 : decode cX11_said 60 = .ok (.if_icmp .ge 30, 3) := by decide +kernel
theorem dX11_said_63 : decode cX11_said 63 = .ok (.iload_n 2, 1) := by decide +kernel
theorem dX11_said_64 : decode cX11_said 64 = .ok (.iload 4, 2) := by decide +kernel
theorem dX11_said_66 : decode cX11_said 66 = .ok (.ishr, 1) := by decide +kernel
theorem dX11_said_67 : decode cX11_said 67 = .ok (.iconst 1, 1) := by decide +kernel
theorem dX11_said_68 : decode cX11_said 68 = .ok (.iand, 1) := by decide +kernel
theorem dX11_said_69 : decode cX11_said 69 = .ok (.iconst 1, 1) := by decide +kernel
theorem dX11_said_70 : decode cX11_said 70 = .ok (.if_icmp .ne 14, 3) := by decide +kernel
theorem dX11_said_73 : decode cX11_said 73 = .ok (.iload_n 3, 1) := by decide +kernel
theorem dX11_said_74 : decode cX11_said 74 = .ok (.iload_n 1, 1) := by decide +kernel
theorem dX11_said_75 : decode cX11_said 75 = .ok (.if_icmp .ne 6, 3) := by decide +kernel
theorem dX11_said_78 : decode cX11_said 78 = .ok (.iload 4, 2) := by decide +kernel
theorem dX11_said_80 : decode cX11_said 80 = .ok (.ireturn, 1) := by decide +kernel
theorem dX11_said_81 : decode cX11_said 81 = .ok (.iinc 3 1, 3) := by decide +kernel
theorem dX11_said_84 : decode cX11_said 84 = .ok (.iinc 4 1, 3) := by decide +kernel
theorem dX11_said_87 : decode cX11_said 87 = .ok (.goto (-39), 3) := by decide +kernel
theorem dX11_said_90 : decode cX11_said 90 = .ok (.iconst (-1), 1) := by decide +kernel
theorem dX11_said_91 : decode cX11_said 91 = .ok (.ireturn, 1) := by decide +kernel
theorem dX11_image_0 : decode cX11_image 0 = .ok (.iload_n 1, 1) := by decide +kernel
theorem dX11_image_1 : decode cX11_image 1 = .ok (.ifCond .lt 8, 3) := by decide +kernel
theorem dX11_image_4 : decode cX11_image 4 = .ok (.iload_n 1, 1) := by decide +kernel
theorem dX11_image_5 : decode cX11_image 5 = .ok (.iconst 2, 1) := by decide +kernel
theorem dX11_image_6 : decode cX11_image 6 = .ok (.if_icmp .lt 5, 3) := by decide +kernel
theorem dX11_image_9 : decode cX11_image 9 = .ok (.iconst 0, 1) := by decide +kernel
theorem dX11_image_10 : decode cX11_image 10 = .ok (.ireturn, 1) := by decide +kernel
theorem dX11_image_11 : decode cX11_image 11 = .ok (.aload_n 0, 1) := by decide +kernel
theorem dX11_image_12 : decode cX11_image 12 = .ok (.getfield 68, 3) := by decide +kernel
theorem dX11_image_15 : decode cX11_image 15 = .ok (.iload_n 1, 1) := by decide +kernel
theorem dX11_image_16 : decode cX11_image 16 = .ok (.aaload, 1) := by decide +kernel
theorem dX11_image_17 : decode cX11_image 17 = .ok (.aload_n 0, 1) := by decide +kernel
theorem dX11_image_18 : decode cX11_image 18 = .ok (.getfield 19, 3) := by decide +kernel
theorem dX11_image_21 : decode cX11_image 21 = .ok (.aload_n 0, 1) := by decide +kernel
theorem dX11_image_22 : decode cX11_image 22 = .ok (.getfield 35, 3) := by decide +kernel
theorem dX11_image_25 : decode cX11_image 25 = .ok (.aload_n 0, 1) := by decide +kernel
theorem dX11_image_26 : decode cX11_image 26 = .ok (.getfield 59, 3) := by decide +kernel
theorem dX11_image_29 : decode cX11_image 29 = .ok (.invokevirtual 371, 3) := by decide +kernel
theorem dX11_image_32 : decode cX11_image 32 = .ok (.iconst 1, 1) := by decide +kernel
theorem dX11_image_33 : decode cX11_image 33 = .ok (.ireturn, 1) := by decide +kernel
theorem dX11_restore_0 : decode cX11_restore 0 = .ok (.iload_n 1, 1) := by decide +kernel
theorem dX11_restore_1 : decode cX11_restore 1 = .ok (.ifCond .lt 20, 3) := by decide +kernel
theorem dX11_restore_4 : decode cX11_restore 4 = .ok (.iload_n 1, 1) := by decide +kernel
theorem dX11_restore_5 : decode cX11_restore 5 = .ok (.iconst 2, 1) := by decide +kernel
theorem dX11_restore_6 : decode cX11_restore 6 = .ok (.if_icmp .ge 15, 3) := by decide +kernel
theorem dX11_restore_9 : decode cX11_restore 9 = .ok (.aload_n 0, 1) := by decide +kernel
theorem dX11_restore_10 : decode cX11_restore 10 = .ok (.getfield 68, 3) := by decide +kernel
theorem dX11_restore_13 : decode cX11_restore 13 = .ok (.iload_n 1, 1) := by decide +kernel
theorem dX11_restore_14 : decode cX11_restore 14 = .ok (.aaload, 1) := by decide +kernel
theorem dX11_restore_15 : decode cX11_restore 15 = .ok (.getfield 375, 3) := by decide +kernel
theorem dX11_restore_18 : decode cX11_restore 18 = .ok (.ifCond .ne 5, 3) := by decide +kernel
theorem dX11_restore_21 : decode cX11_restore 21 = .ok (.iconst 0, 1) := by decide +kernel
theorem dX11_restore_22 : decode cX11_restore 22 = .ok (.ireturn, 1) := by decide +kernel
theorem dX11_restore_23 : decode cX11_restore 23 = .ok (.aload_n 0, 1) := by decide +kernel
theorem dX11_restore_24 : decode cX11_restore 24 = .ok (.getfield 68, 3) := by decide +kernel
theorem dX11_restore_27 : decode cX11_restore 27 = .ok (.iload_n 1, 1) := by decide +kernel
theorem dX11_restore_28 : decode cX11_restore 28 = .ok (.aaload, 1) := by decide +kernel
theorem dX11_restore_29 : decode cX11_restore 29 = .ok (.aload_n 0, 1) := by decide +kernel
theorem dX11_restore_30 : decode cX11_restore 30 = .ok (.getfield 19, 3) := by decide +kernel
theorem dX11_restore_33 : decode cX11_restore 33 = .ok (.aload_n 0, 1) := by decide +kernel
theorem dX11_restore_34 : decode cX11_restore 34 = .ok (.getfield 35, 3) := by decide +kernel
theorem dX11_restore_37 : decode cX11_restore 37 = .ok (.aload_n 0, 1) := by decide +kernel
theorem dX11_restore_38 : decode cX11_restore 38 = .ok (.getfield 59, 3) := by decide +kernel
theorem dX11_restore_41 : decode cX11_restore 41 = .ok (.invokevirtual 378, 3) := by decide +kernel
theorem dX11_restore_44 : decode cX11_restore 44 = .ok (.aload_n 0, 1) := by decide +kernel
theorem dX11_restore_45 : decode cX11_restore 45 = .ok (.getfield 45, 3) := by decide +kernel
theorem dX11_restore_48 : decode cX11_restore 48 = .ok (.iconst 0, 1) := by decide +kernel
theorem dX11_restore_49 : decode cX11_restore 49 = .ok (.putfield 130, 3) := by decide +kernel
theorem dX11_restore_52 : decode cX11_restore 52 = .ok (.iconst 1, 1) := by decide +kernel
theorem dX11_restore_53 : decode cX11_restore 53 = .ok (.ireturn, 1) := by decide +kernel
theorem dX11_count_0 : decode cX11_count 0 = .ok (.iload_n 1, 1) := by decide +kernel
theorem dX11_count_1 : decode cX11_count 1 = .ok (.bipush 8, 2) := by decide +kernel
theorem dX11_count_3 : decode cX11_count 3 = .ok (.if_icmp .ne 11, 3) := by decide +kernel
theorem dX11_count_6 : decode cX11_count 6 = .ok (.aload_n 0, 1) := by decide +kernel
theorem dX11_count_7 : decode cX11_count 7 = .ok (.getfield 10, 3) := by decide +kernel
theorem dX11_count_10 : decode cX11_count 10 = .ok (.getfield 101, 3) := by decide +kernel
theorem dX11_count_13 : decode cX11_count 13 = .ok (.ireturn, 1) := by decide +kernel
theorem dX11_count_14 : decode cX11_count 14 = .ok (.iload_n 1, 1) := by decide +kernel
theorem dX11_count_15 : decode cX11_count 15 = .ok (.ifCond .lt 21, 3) := by decide +kernel
theorem dX11_count_18 : decode cX11_count 18 = .ok (.iload_n 1, 1) := by decide +kernel
theorem dX11_count_19 : decode cX11_count 19 = .ok (.bipush 8, 2) := by decide +kernel
theorem dX11_count_21 : decode cX11_count 21 = .ok (.if_icmp .ge 15, 3) := by decide +kernel
theorem dX11_count_24 : decode cX11_count 24 = .ok (.aload_n 0, 1) := by decide +kernel
theorem dX11_count_25 : decode cX11_count 25 = .ok (.getfield 19, 3) := by decide +kernel
theorem dX11_count_28 : decode cX11_count 28 = .ok (.getfield 324, 3) := by decide +kernel
theorem dX11_count_31 : decode cX11_count 31 = .ok (.iload_n 1, 1) := by decide +kernel
theorem dX11_count_32 : decode cX11_count 32 = .ok (.iaload, 1) := by decide +kernel
theorem dX11_count_33 : decode cX11_count 33 = .ok (.goto 4, 3) := by decide +kernel
theorem dX11_count_36 : decode cX11_count 36 = .ok (.iconst (-1), 1) := by decide +kernel
theorem dX11_count_37 : decode cX11_count 37 = .ok (.ireturn, 1) := by decide +kernel
theorem dX11_act_0 : decode cX11_act 0 = .ok (.aload_n 0, 1) := by decide +kernel
theorem dX11_act_1 : decode cX11_act 1 = .ok (.getfield 19, 3) := by decide +kernel
theorem dX11_act_4 : decode cX11_act 4 = .ok (.iload_n 1, 1) := by decide +kernel
theorem dX11_act_5 : decode cX11_act 5 = .ok (.invokestatic 381, 3) := by decide +kernel
theorem dX11_act_8 : decode cX11_act 8 = .ok (.iload_n 2, 1) := by decide +kernel
theorem dX11_act_9 : decode cX11_act 9 = .ok (.invokevirtual 134, 3) := by decide +kernel
theorem dX11_act_12 : decode cX11_act 12 = .ok (.ifCond .ne 5, 3) := by decide +kernel
theorem dX11_act_15 : decode cX11_act 15 = .ok (.iconst (-1), 1) := by decide +kernel
theorem dX11_act_16 : decode cX11_act 16 = .ok (.ireturn, 1) := by decide +kernel
theorem dX11_act_17 : decode cX11_act 17 = .ok (.aload_n 0, 1) := by decide +kernel
theorem dX11_act_18 : decode cX11_act 18 = .ok (.getfield 45, 3) := by decide +kernel
theorem dX11_act_21 : decode cX11_act 21 = .ok (.aload_n 0, 1) := by decide +kernel
theorem dX11_act_22 : decode cX11_act 22 = .ok (.getfield 35, 3) := by decide +kernel
theorem dX11_act_25 : decode cX11_act 25 = .ok (.invokevirtual 257, 3) := by decide +kernel
theorem dX11_act_28 : decode cX11_act 28 = .ok (.aload_n 0, 1) := by decide +kernel
theorem dX11_act_29 : decode cX11_act 29 = .ok (.getfield 35, 3) := by decide +kernel
theorem dX11_act_32 : decode cX11_act 32 = .ok (.iload_n 1, 1) := by decide +kernel
theorem dX11_act_33 : decode cX11_act 33 = .ok (.iload_n 2, 1) := by decide +kernel
theorem dX11_act_34 : decode cX11_act 34 = .ok (.iload_n 3, 1) := by decide +kernel
theorem dX11_act_35 : decode cX11_act 35 = .ok (.invokevirtual 384, 3) := by decide +kernel
theorem dX11_act_38 : decode cX11_act 38 = .ok (.istore 4, 2) := by decide +kernel
theorem dX11_act_40 : decode cX11_act 40 = .ok (.iload 4, 2) := by decide +kernel
theorem dX11_act_42 : decode cX11_act 42 = .ok (.ifCond .ne 10, 3) := by decide +kernel
theorem dX11_act_45 : decode cX11_act 45 = .ok (.aload_n 0, 1) := by decide +kernel
theorem dX11_act_46 : decode cX11_act 46 = .ok (.getfield 45, 3) := by decide +kernel
theorem dX11_act_49 : decode cX11_act 49 = .ok (.invokevirtual 264, 3) := by decide +kernel
theorem dX11_act_52 : decode cX11_act 52 = .ok (.iload 4, 2) := by decide +kernel
theorem dX11_act_54 : decode cX11_act 54 = .ok (.ireturn, 1) := by decide +kernel
theorem dX11_sortOfAct_0 : decode cX11_sortOfAct 0 = .ok (.iload_n 0, 1) := by decide +kernel
theorem dX11_sortOfAct_1 : decode cX11_sortOfAct 1 = .ok (.bipush 13, 2) := by decide +kernel
theorem dX11_sortOfAct_3 : decode cX11_sortOfAct 3 = .ok (.if_icmp .eq 9, 3) := by decide +kernel
theorem dX11_sortOfAct_6 : decode cX11_sortOfAct 6 = .ok (.iload_n 0, 1) := by decide +kernel
theorem dX11_sortOfAct_7 : decode cX11_sortOfAct 7 = .ok (.bipush 14, 2) := by decide +kernel
theorem dX11_sortOfAct_9 : decode cX11_sortOfAct 9 = .ok (.if_icmp .ne 5, 3) := by decide +kernel
theorem dX11_sortOfAct_12 : decode cX11_sortOfAct 12 = .ok (.iconst 4, 1) := by decide +kernel
theorem dX11_sortOfAct_13 : decode cX11_sortOfAct 13 = .ok (.ireturn, 1) := by decide +kernel
theorem dX11_sortOfAct_14 : decode cX11_sortOfAct 14 = .ok (.iload_n 0, 1) := by decide +kernel
theorem dX11_sortOfAct_15 : decode cX11_sortOfAct 15 = .ok (.bipush 15, 2) := by decide +kernel
theorem dX11_sortOfAct_17 : decode cX11_sortOfAct 17 = .ok (.if_icmp .ne 7, 3) := by decide +kernel
theorem dX11_sortOfAct_20 : decode cX11_sortOfAct 20 = .ok (.iconst 1, 1) := by decide +kernel
theorem dX11_sortOfAct_21 : decode cX11_sortOfAct 21 = .ok (.goto 4, 3) := by decide +kernel
theorem dX11_sortOfAct_24 : decode cX11_sortOfAct 24 = .ok (.iconst 0, 1) := by decide +kernel
theorem dX11_sortOfAct_25 : decode cX11_sortOfAct 25 = .ok (.ireturn, 1) := by decide +kernel
theorem dX11_greatestCommon_0 : decode cX11_greatestCommon 0 = .ok (.iload_n 0, 1) := by decide +kernel
theorem dX11_greatestCommon_1 : decode cX11_greatestCommon 1 = .ok (.istore_n 2, 1) := by decide +kernel
theorem dX11_greatestCommon_2 : decode cX11_greatestCommon 2 = .ok (.iload_n 1, 1) := by decide +kernel
theorem dX11_greatestCommon_3 : decode cX11_greatestCommon 3 = .ok (.istore_n 3, 1) := by decide +kernel
theorem dX11_greatestCommon_4 : decode cX11_greatestCommon 4 = .ok (.iconst 0, 1) := by decide +kernel
theorem dX11_greatestCommon_5 : decode cX11_greatestCommon 5 = .ok (.istore 4, 2) := by decide +kernel
theorem dX11_greatestCommon_7 : decode cX11_greatestCommon 7 = .ok (.iload 4, 2) := by decide +kernel
theorem dX11_greatestCommon_9 : decode cX11_greatestCommon 9 = .ok (.bipush 64, 2) := by decide +kernel
theorem dX11_greatestCommon_11 : decode cX11_greatestCommon 11 = .ok (.if_icmp .ge 23, 3) := by decide +kernel
theorem dX11_greatestCommon_14 : decode cX11_greatestCommon 14 = .ok (.iload_n 3, 1) := by decide +kernel
theorem dX11_greatestCommon_15 : decode cX11_greatestCommon 15 = .ok (.ifCond .eq 19, 3) := by decide +kernel
theorem dX11_greatestCommon_18 : decode cX11_greatestCommon 18 = .ok (.iload_n 2, 1) := by decide +kernel
theorem dX11_greatestCommon_19 : decode cX11_greatestCommon 19 = .ok (.iload_n 3, 1) := by decide +kernel
theorem dX11_greatestCommon_20 : decode cX11_greatestCommon 20 = .ok (.irem, 1) := by decide +kernel
theorem dX11_greatestCommon_21 : decode cX11_greatestCommon 21 = .ok (.istore 5, 2) := by decide +kernel
theorem dX11_greatestCommon_23 : decode cX11_greatestCommon 23 = .ok (.iload_n 3, 1) := by decide +kernel
theorem dX11_greatestCommon_24 : decode cX11_greatestCommon 24 = .ok (.istore_n 2, 1) := by decide +kernel
theorem dX11_greatestCommon_25 : decode cX11_greatestCommon 25 = .ok (.iload 5, 2) := by decide +kernel
theorem dX11_greatestCommon_27 : decode cX11_greatestCommon 27 = .ok (.istore_n 3, 1) := by decide +kernel
theorem dX11_greatestCommon_28 : decode cX11_greatestCommon 28 = .ok (.iinc 4 1, 3) := by decide +kernel
theorem dX11_greatestCommon_31 : decode cX11_greatestCommon 31 = .ok (.goto (-24), 3) := by decide +kernel
theorem dX11_greatestCommon_34 : decode cX11_greatestCommon 34 = .ok (.iload_n 2, 1) := by decide +kernel
theorem dX11_greatestCommon_35 : decode cX11_greatestCommon 35 = .ok (.ireturn, 1) := by decide +kernel
theorem dX11_copyRow_0 : decode cX11_copyRow 0 = .ok (.aload_n 0, 1) := by decide +kernel
theorem dX11_copyRow_1 : decode cX11_copyRow 1 = .ok (.iconst 0, 1) := by decide +kernel
theorem dX11_copyRow_2 : decode cX11_copyRow 2 = .ok (.aload_n 1, 1) := by decide +kernel
theorem dX11_copyRow_3 : decode cX11_copyRow 3 = .ok (.iconst 0, 1) := by decide +kernel
theorem dX11_copyRow_4 : decode cX11_copyRow 4 = .ok (.aload_n 0, 1) := by decide +kernel
theorem dX11_copyRow_5 : decode cX11_copyRow 5 = .ok (.arraylength, 1) := by decide +kernel
theorem dX11_copyRow_6 : decode cX11_copyRow 6 = .ok (.aload_n 1, 1) := by decide +kernel
theorem dX11_copyRow_7 : decode cX11_copyRow 7 = .ok (.arraylength, 1) := by decide +kernel
theorem dX11_copyRow_8 : decode cX11_copyRow 8 = .ok (.invokestatic 387, 3) := by decide +kernel
theorem dX11_copyRow_11 : decode cX11_copyRow 11 = .ok (.invokestatic 392, 3) := by decide +kernel
theorem dX11_copyRow_14 : decode cX11_copyRow 14 = .ok (.return_, 1) := by decide +kernel
theorem dX12_thrown_0 : decode cX12_thrown 0 = .ok (.aload_n 0, 1) := by decide +kernel
theorem dX12_thrown_1 : decode cX12_thrown 1 = .ok (.getfield 1, 3) := by decide +kernel
theorem dX12_thrown_4 : decode cX12_thrown 4 = .ok (.ireturn, 1) := by decide +kernel
theorem dX12_throwsIf_0 : decode cX12_throwsIf 0 = .ok (.aload_n 0, 1) := by decide +kernel
theorem dX12_throwsIf_1 : decode cX12_throwsIf 1 = .ok (.iload_n 1, 1) := by decide +kernel
theorem dX12_throwsIf_2 : decode cX12_throwsIf 2 = .ok (.ifCond .eq 7, 3) := by decide +kernel
theorem dX12_throwsIf_5 : decode cX12_throwsIf 5 = .ok (.iconst 1, 1) := by decide +kernel
theorem dX12_throwsIf_6 : decode cX12_throwsIf 6 = .ok (.goto 4, 3) := by decide +kernel
theorem dX12_throwsIf_9 : decode cX12_throwsIf 9 = .ok (.iconst 0, 1) := by decide +kernel
theorem dX12_throwsIf_10 : decode cX12_throwsIf 10 = .ok (.putfield 1, 3) := by decide +kernel
theorem dX12_throwsIf_13 : decode cX12_throwsIf 13 = .ok (.iload_n 1, 1) := by decide +kernel
theorem dX12_throwsIf_14 : decode cX12_throwsIf 14 = .ok (.ireturn, 1) := by decide +kernel
theorem dX12_feed_0 : decode cX12_feed 0 = .ok (.aload_n 0, 1) := by decide +kernel
theorem dX12_feed_1 : decode cX12_feed 1 = .ok (.iconst 0, 1) := by decide +kernel
theorem dX12_feed_2 : decode cX12_feed 2 = .ok (.putfield 1, 3) := by decide +kernel
theorem dX12_feed_5 : decode cX12_feed 5 = .ok (.aload_n 0, 1) := by decide +kernel
theorem dX12_feed_6 : decode cX12_feed 6 = .ok (.getfield 7, 3) := by decide +kernel
theorem dX12_feed_9 : decode cX12_feed 9 = .ok (.bipush 20, 2) := by decide +kernel
theorem dX12_feed_11 : decode cX12_feed 11 = .ok (.iadd, 1) := by decide +kernel
theorem dX12_feed_12 : decode cX12_feed 12 = .ok (.sipush 1460, 3) := by decide +kernel
theorem dX12_feed_15 : decode cX12_feed 15 = .ok (.if_icmp .le 5, 3) := by decide +kernel
theorem dX12_feed_18 : decode cX12_feed 18 = .ok (.iconst (-1), 1) := by decide +kernel
theorem dX12_feed_19 : decode cX12_feed 19 = .ok (.ireturn, 1) := by decide +kernel
theorem dX12_feed_20 : decode cX12_feed 20 = .ok (.aload_n 0, 1) := by decide +kernel
theorem dX12_feed_21 : decode cX12_feed 21 = .ok (.iload_n 1, 1) := by decide +kernel
theorem dX12_feed_22 : decode cX12_feed 22 = .ok (.invokevirtual 10, 3) := by decide +kernel
theorem dX12_feed_25 : decode cX12_feed 25 = .ok (.aload_n 0, 1) := by decide +kernel
theorem dX12_feed_26 : decode cX12_feed 26 = .ok (.iload_n 2, 1) := by decide +kernel
theorem dX12_feed_27 : decode cX12_feed 27 = .ok (.invokevirtual 10, 3) := by decide +kernel
theorem dX12_feed_30 : decode cX12_feed 30 = .ok (.aload_n 0, 1) := by decide +kernel
theorem dX12_feed_31 : decode cX12_feed 31 = .ok (.iload_n 3, 1) := by decide +kernel
theorem dX12_feed_32 : decode cX12_feed 32 = .ok (.invokevirtual 10, 3) := by decide +kernel
theorem dX12_feed_35 : decode cX12_feed 35 = .ok (.aload_n 0, 1) := by decide +kernel
theorem dX12_feed_36 : decode cX12_feed 36 = .ok (.iload 4, 2) := by decide +kernel
theorem dX12_feed_38 : decode cX12_feed 38 = .ok (.invokevirtual 10, 3) := by decide +kernel
theorem dX12_feed_41 : decode cX12_feed 41 = .ok (.aload_n 0, 1) := by decide +kernel
theorem dX12_feed_42 : decode cX12_feed 42 = .ok (.iload 5, 2) := by decide +kernel
theorem dX12_feed_44 : decode cX12_feed 44 = .ok (.invokevirtual 10, 3) := by decide +kernel
theorem dX12_feed_47 : decode cX12_feed 47 = .ok (.aload_n 0, 1) := by decide +kernel
theorem dX12_feed_48 : decode cX12_feed 48 = .ok (.getfield 7, 3) := by decide +kernel
theorem dX12_feed_51 : decode cX12_feed 51 = .ok (.ireturn, 1) := by decide +kernel
theorem dX12_four_0 : decode cX12_four 0 = .ok (.bipush 24, 2) := by decide +kernel
theorem dX12_four_2 : decode cX12_four 2 = .ok (.istore_n 2, 1) := by decide +kernel
theorem dX12_four_3 : decode cX12_four 3 = .ok (.iload_n 2, 1) := by decide +kernel
theorem dX12_four_4 : decode cX12_four 4 = .ok (.ifCond .lt 32, 3) := by decide +kernel
theorem dX12_four_7 : decode cX12_four 7 = .ok (.aload_n 0, 1) := by decide +kernel
theorem dX12_four_8 : decode cX12_four 8 = .ok (.getfield 14, 3) := by decide +kernel
theorem dX12_four_11 : decode cX12_four 11 = .ok (.aload_n 0, 1) := by decide +kernel
theorem dX12_four_12 : decode cX12_four 12 = .ok (.getfield 7, 3) := by decide +kernel
theorem dX12_four_15 : decode cX12_four 15 = .ok (.iload_n 1, 1) := by decide +kernel
theorem dX12_four_16 : decode cX12_four 16 = .ok (.iload_n 2, 1) := by decide +kernel
theorem dX12_four_17 : decode cX12_four 17 = .ok (.ishr, 1) := by decide +kernel
theorem dX12_four_18 : decode cX12_four 18 = .ok (.i2b, 1) := by decide +kernel
theorem dX12_four_19 : decode cX12_four 19 = .ok (.bastore, 1) := by decide +kernel
theorem dX12_four_20 : decode cX12_four 20 = .ok (.aload_n 0, 1) := by decide +kernel
theorem dX12_four_21 : decode cX12_four 21 = .ok (.dup, 1) := by decide +kernel
theorem dX12_four_22 : decode cX12_four 22 = .ok (.getfield 7, 3) := by decide +kernel
theorem dX12_four_25 : decode cX12_four 25 = .ok (.iconst 1, 1) := by decide +kernel
theorem dX12_four_26 : decode cX12_four 26 = .ok (.iadd, 1) := by decide +kernel
theorem dX12_four_27 : decode cX12_four 27 = .ok (.putfield 7, 3) := by decide +kernel
theorem dX12_four_30 : decode cX12_four 30 = .ok (.iinc 2 (-8), 3) := by decide +kernel
theorem dX12_four_33 : decode cX12_four 33 = .ok (.goto (-30), 3) := by decide +kernel
theorem dX12_four_36 : decode cX12_four 36 = .ok (.return_, 1) := by decide +kernel
theorem dX12_end_0 : decode cX12_end 0 = .ok (.aload_n 0, 1) := by decide +kernel
theorem dX12_end_1 : decode cX12_end 1 = .ok (.iconst 0, 1) := by decide +kernel
theorem dX12_end_2 : decode cX12_end 2 = .ok (.putfield 1, 3) := by decide +kernel
theorem dX12_end_5 : decode cX12_end 5 = .ok (.iload_n 1, 1) := by decide +kernel
theorem dX12_end_6 : decode cX12_end 6 = .ok (.ifCond .lt 11, 3) := by decide +kernel
theorem dX12_end_9 : decode cX12_end 9 = .ok (.iload_n 1, 1) := by decide +kernel
theorem dX12_end_10 : decode cX12_end 10 = .ok (.aload_n 0, 1) := by decide +kernel
theorem dX12_end_11 : decode cX12_end 11 = .ok (.getfield 7, 3) := by decide +kernel
theorem dX12_end_14 : decode cX12_end 14 = .ok (.if_icmp .le 5, 3) := by decide +kernel
theorem dX12_end_17 : decode cX12_end 17 = .ok (.iconst 0, 1) := by decide +kernel
theorem dX12_end_18 : decode cX12_end 18 = .ok (.ireturn, 1) := by decide +kernel
theorem dX12_end_19 : decode cX12_end 19 = .ok (.aload_n 0, 1) := by decide +kernel
theorem dX12_end_20 : decode cX12_end 20 = .ok (.iload_n 1, 1) := by decide +kernel
theorem dX12_end_21 : decode cX12_end 21 = .ok (.putfield 7, 3) := by decide +kernel
theorem dX12_end_24 : decode cX12_end 24 = .ok (.iconst 1, 1) := by decide +kernel
theorem dX12_end_25 : decode cX12_end 25 = .ok (.ireturn, 1) := by decide +kernel
theorem dX12_taken_0 : decode cX12_taken 0 = .ok (.aload_n 0, 1) := by decide +kernel
theorem dX12_taken_1 : decode cX12_taken 1 = .ok (.aload_n 0, 1) := by decide +kernel
theorem dX12_taken_2 : decode cX12_taken 2 = .ok (.getfield 7, 3) := by decide +kernel
theorem dX12_taken_5 : decode cX12_taken 5 = .ok (.putfield 18, 3) := by decide +kernel
theorem dX12_taken_8 : decode cX12_taken 8 = .ok (.aload_n 0, 1) := by decide +kernel
theorem dX12_taken_9 : decode cX12_taken 9 = .ok (.iconst 0, 1) := by decide +kernel
theorem dX12_taken_10 : decode cX12_taken 10 = .ok (.putfield 7, 3) := by decide +kernel
theorem dX12_taken_13 : decode cX12_taken 13 = .ok (.aload_n 0, 1) := by decide +kernel
theorem dX12_taken_14 : decode cX12_taken 14 = .ok (.iconst 0, 1) := by decide +kernel
theorem dX12_taken_15 : decode cX12_taken 15 = .ok (.putfield 21, 3) := by decide +kernel
theorem dX12_taken_18 : decode cX12_taken 18 = .ok (.aload_n 0, 1) := by decide +kernel
theorem dX12_taken_19 : decode cX12_taken 19 = .ok (.iload_n 1, 1) := by decide +kernel
theorem dX12_taken_20 : decode cX12_taken 20 = .ok (.putfield 24, 3) := by decide +kernel
theorem dX12_taken_23 : decode cX12_taken 23 = .ok (.return_, 1) := by decide +kernel
theorem dX12_isIn_0 : decode cX12_isIn 0 = .ok (.iload_n 0, 1) := by decide +kernel
theorem dX12_isIn_1 : decode cX12_isIn 1 = .ok (.iload_n 1, 1) := by decide +kernel
theorem dX12_isIn_2 : decode cX12_isIn 2 = .ok (.if_icmp .lt 12, 3) := by decide +kernel
theorem dX12_isIn_5 : decode cX12_isIn 5 = .ok (.iload_n 0, 1) := by decide +kernel
theorem dX12_isIn_6 : decode cX12_isIn 6 = .ok (.iload_n 2, 1) := by decide +kernel
theorem dX12_isIn_7 : decode cX12_isIn 7 = .ok (.if_icmp .gt 7, 3) := by decide +kernel
theorem dX12_isIn_10 : decode cX12_isIn 10 = .ok (.iconst 1, 1) := by decide +kernel
theorem dX12_isIn_11 : decode cX12_isIn 11 = .ok (.goto 4, 3) := by decide +kernel
theorem dX12_isIn_14 : decode cX12_isIn 14 = .ok (.iconst 0, 1) := by decide +kernel
theorem dX12_isIn_15 : decode cX12_isIn 15 = .ok (.ireturn, 1) := by decide +kernel
theorem dX12_bitOf_0 : decode cX12_bitOf 0 = .ok (.iload_n 0, 1) := by decide +kernel
theorem dX12_bitOf_1 : decode cX12_bitOf 1 = .ok (.iload_n 1, 1) := by decide +kernel
theorem dX12_bitOf_2 : decode cX12_bitOf 2 = .ok (.ishr, 1) := by decide +kernel
theorem dX12_bitOf_3 : decode cX12_bitOf 3 = .ok (.iconst 1, 1) := by decide +kernel
theorem dX12_bitOf_4 : decode cX12_bitOf 4 = .ok (.iand, 1) := by decide +kernel
theorem dX12_bitOf_5 : decode cX12_bitOf 5 = .ok (.iconst 1, 1) := by decide +kernel
theorem dX12_bitOf_6 : decode cX12_bitOf 6 = .ok (.if_icmp .ne 7, 3) := by decide +kernel
theorem dX12_bitOf_9 : decode cX12_bitOf 9 = .ok (.iconst 1, 1) := by decide +kernel
theorem dX12_bitOf_10 : decode cX12_bitOf 10 = .ok (.goto 4, 3) := by decide +kernel
theorem dX12_bitOf_13 : decode cX12_bitOf 13 = .ok (.iconst 0, 1) := by decide +kernel
theorem dX12_bitOf_14 : decode cX12_bitOf 14 = .ok (.ireturn, 1) := by decide +kernel
theorem dX12_lesser_0 : decode cX12_lesser 0 = .ok (.iload_n 0, 1) := by decide +kernel
theorem dX12_lesser_1 : decode cX12_lesser 1 = .ok (.iload_n 1, 1) := by decide +kernel
theorem dX12_lesser_2 : decode cX12_lesser 2 = .ok (.if_icmp .ge 7, 3) := by decide +kernel
theorem dX12_lesser_5 : decode cX12_lesser 5 = .ok (.iload_n 0, 1) := by decide +kernel
theorem dX12_lesser_6 : decode cX12_lesser 6 = .ok (.goto 4, 3) := by decide +kernel
theorem dX12_lesser_9 : decode cX12_lesser 9 = .ok (.iload_n 1, 1) := by decide +kernel
theorem dX12_lesser_10 : decode cX12_lesser 10 = .ok (.ireturn, 1) := by decide +kernel
theorem dX12_greater_0 : decode cX12_greater 0 = .ok (.iload_n 0, 1) := by decide +kernel
theorem dX12_greater_1 : decode cX12_greater 1 = .ok (.iload_n 1, 1) := by decide +kernel
theorem dX12_greater_2 : decode cX12_greater 2 = .ok (.if_icmp .le 7, 3) := by decide +kernel
theorem dX12_greater_5 : decode cX12_greater 5 = .ok (.iload_n 0, 1) := by decide +kernel
theorem dX12_greater_6 : decode cX12_greater 6 = .ok (.goto 4, 3) := by decide +kernel
theorem dX12_greater_9 : decode cX12_greater 9 = .ok (.iload_n 1, 1) := by decide +kernel
theorem dX12_greater_10 : decode cX12_greater 10 = .ok (.ireturn, 1) := by decide +kernel
theorem dX12_bits_0 : decode cX12_bits 0 = .ok (.iconst 0, 1) := by decide +kernel
theorem dX12_bits_1 : decode cX12_bits 1 = .ok (.istore_n 1, 1) := by decide +kernel
theorem dX12_bits_2 : decode cX12_bits 2 = .ok (.iload_n 0, 1) := by decide +kernel
theorem dX12_bits_3 : decode cX12_bits 3 = .ok (.istore_n 2, 1) := by decide +kernel
theorem dX12_bits_4 : decode cX12_bits 4 = .ok (.iload_n 2, 1) := by decide +kernel
theorem dX12_bits_5 : decode cX12_bits 5 = .ok (.ifCond .eq 15, 3) := by decide +kernel
theorem dX12_bits_8 : decode cX12_bits 8 = .ok (.iinc 1 1, 3) := by decide +kernel
theorem dX12_bits_11 : decode cX12_bits 11 = .ok (.iload_n 2, 1) := by decide +kernel
theorem dX12_bits_12 : decode cX12_bits 12 = .ok (.iload_n 2, 1) := by decide +kernel
theorem dX12_bits_13 : decode cX12_bits 13 = .ok (.iconst 1, 1) := by decide +kernel
theorem dX12_bits_14 : decode cX12_bits 14 = .ok (.isub, 1) := by decide +kernel
theorem dX12_bits_15 : decode cX12_bits 15 = .ok (.iand, 1) := by decide +kernel
theorem dX12_bits_16 : decode cX12_bits 16 = .ok (.istore_n 2, 1) := by decide +kernel
theorem dX12_bits_17 : decode cX12_bits 17 = .ok (.goto (-13), 3) := by decide +kernel
theorem dX12_bits_20 : decode cX12_bits 20 = .ok (.iload_n 1, 1) := by decide +kernel
theorem dX12_bits_21 : decode cX12_bits 21 = .ok (.ireturn, 1) := by decide +kernel
theorem dX12_octet_0 : decode cX12_octet 0 = .ok (.aload_n 0, 1) := by decide +kernel
theorem dX12_octet_1 : decode cX12_octet 1 = .ok (.getfield 14, 3) := by decide +kernel
theorem dX12_octet_4 : decode cX12_octet 4 = .ok (.iload_n 1, 1) := by decide +kernel
theorem dX12_octet_5 : decode cX12_octet 5 = .ok (.baload, 1) := by decide +kernel
theorem dX12_octet_6 : decode cX12_octet 6 = .ok (.sipush 255, 3) := by decide +kernel
theorem dX12_octet_9 : decode cX12_octet 9 = .ok (.iand, 1) := by decide +kernel
theorem dX12_octet_10 : decode cX12_octet 10 = .ok (.ireturn, 1) := by decide +kernel
theorem dX12_init_0 : decode cX12_init 0 = .ok (.aload_n 0, 1) := by decide +kernel
theorem dX12_init_1 : decode cX12_init 1 = .ok (.invokespecial 27, 3) := by decide +kernel
theorem dX12_init_4 : decode cX12_init 4 = .ok (.aload_n 0, 1) := by decide +kernel
theorem dX12_init_5 : decode cX12_init 5 = .ok (.sipush 1460, 3) := by decide +kernel
theorem dX12_init_8 : decode cX12_init 8 = .ok (.newarray .byte, 2) := by decide +kernel
theorem dX12_init_10 : decode cX12_init 10 = .ok (.putfield 14, 3) := by decide +kernel
theorem dX12_init_13 : decode cX12_init 13 = .ok (.aload_n 0, 1) := by decide +kernel
theorem dX12_init_14 : decode cX12_init 14 = .ok (.sipush 469, 3) := by decide +kernel
theorem dX12_init_17 : decode cX12_init 17 = .ok (.newarray .int, 2) := by decide +kernel
theorem dX12_init_19 : decode cX12_init 19 = .ok (.putfield 33, 3) := by decide +kernel
theorem dX12_init_22 : decode cX12_init 22 = .ok (.aload_n 0, 1) := by decide +kernel
theorem dX12_init_23 : decode cX12_init 23 = .ok (.sipush 226, 3) := by decide +kernel
theorem dX12_init_26 : decode cX12_init 26 = .ok (.newarray .int, 2) := by decide +kernel
theorem dX12_init_28 : decode cX12_init 28 = .ok (.putfield 37, 3) := by decide +kernel
theorem dX12_init_31 : decode cX12_init 31 = .ok (.aload_n 0, 1) := by decide +kernel
theorem dX12_init_32 : decode cX12_init 32 = .ok (.sipush 135, 3) := by decide +kernel
theorem dX12_init_35 : decode cX12_init 35 = .ok (.newarray .int, 2) := by decide +kernel
theorem dX12_init_37 : decode cX12_init 37 = .ok (.putfield 40, 3) := by decide +kernel
theorem dX12_init_40 : decode cX12_init 40 = .ok (.aload_n 0, 1) := by decide +kernel
theorem dX12_init_41 : decode cX12_init 41 = .ok (.bipush 82, 2) := by decide +kernel
theorem dX12_init_43 : decode cX12_init 43 = .ok (.newarray .long, 2) := by decide +kernel
theorem dX12_init_45 : decode cX12_init 45 = .ok (.putfield 43, 3) := by decide +kernel
theorem dX12_init_48 : decode cX12_init 48 = .ok (.aload_n 0, 1) := by decide +kernel
theorem dX12_init_49 : decode cX12_init 49 = .ok (.bipush 32, 2) := by decide +kernel
theorem dX12_init_51 : decode cX12_init 51 = .ok (.newarray .long, 2) := by decide +kernel
theorem dX12_init_53 : decode cX12_init 53 = .ok (.putfield 47, 3) := by decide +kernel
theorem dX12_init_56 : decode cX12_init 56 = .ok (.aload_n 0, 1) := by decide +kernel
theorem dX12_init_57 : decode cX12_init 57 = .ok (.sipush 496, 3) := by decide +kernel
theorem dX12_init_60 : decode cX12_init 60 = .ok (.newarray .int, 2) := by decide +kernel
theorem dX12_init_62 : decode cX12_init 62 = .ok (.putfield 50, 3) := by decide +kernel
theorem dX12_init_65 : decode cX12_init 65 = .ok (.aload_n 0, 1) := by decide +kernel
theorem dX12_init_66 : decode cX12_init 66 = .ok (.bipush 62, 2) := by decide +kernel
theorem dX12_init_68 : decode cX12_init 68 = .ok (.newarray .int, 2) := by decide +kernel
theorem dX12_init_70 : decode cX12_init 70 = .ok (.putfield 53, 3) := by decide +kernel
theorem dX12_init_73 : decode cX12_init 73 = .ok (.aload_n 0, 1) := by decide +kernel
theorem dX12_init_74 : decode cX12_init 74 = .ok (.bipush 16, 2) := by decide +kernel
theorem dX12_init_76 : decode cX12_init 76 = .ok (.newarray .int, 2) := by decide +kernel
theorem dX12_init_78 : decode cX12_init 78 = .ok (.putfield 56, 3) := by decide +kernel
theorem dX12_init_81 : decode cX12_init 81 = .ok (.aload_n 0, 1) := by decide +kernel
theorem dX12_init_82 : decode cX12_init 82 = .ok (.iconst (-1), 1) := by decide +kernel
theorem dX12_init_83 : decode cX12_init 83 = .ok (.putfield 59, 3) := by decide +kernel
theorem dX12_init_86 : decode cX12_init 86 = .ok (.aload_n 0, 1) := by decide +kernel
theorem dX12_init_87 : decode cX12_init 87 = .ok (.sipush 1024, 3) := by decide +kernel
theorem dX12_init_90 : decode cX12_init 90 = .ok (.newarray .int, 2) := by decide +kernel
theorem dX12_init_92 : decode cX12_init 92 = .ok (.putfield 62, 3) := by decide +kernel
theorem dX12_init_95 : decode cX12_init 95 = .ok (.aload_n 0, 1) := by decide +kernel
theorem dX12_init_96 : decode cX12_init 96 = .ok (.bipush 12, 2) := by decide +kernel
theorem dX12_init_98 : decode cX12_init 98 = .ok (.newarray .int, 2) := by decide +kernel
theorem dX12_init_100 : decode cX12_init 100 = .ok (.putfield 65, 3) := by decide +kernel
theorem dX12_init_103 : decode cX12_init 103 = .ok (.aload_n 0, 1) := by decide +kernel
theorem dX12_init_104 : decode cX12_init 104 = .ok (.bipush 12, 2) := by decide +kernel
theorem dX12_init_106 : decode cX12_init 106 = .ok (.newarray .int, 2) := by decide +kernel
theorem dX12_init_108 : decode cX12_init 108 = .ok (.putfield 68, 3) := by decide +kernel
theorem dX12_init_111 : decode cX12_init 111 = .ok (.aload_n 0, 1) := by decide +kernel
theorem dX12_init_112 : decode cX12_init 112 = .ok (.iconst (-1), 1) := by decide +kernel
theorem dX12_init_113 : decode cX12_init 113 = .ok (.putfield 71, 3) := by decide +kernel
theorem dX12_init_116 : decode cX12_init 116 = .ok (.aload_n 0, 1) := by decide +kernel
theorem dX12_init_117 : decode cX12_init 117 = .ok (.bipush 25, 2) := by decide +kernel
theorem dX12_init_119 : decode cX12_init 119 = .ok (.newarray .int, 2) := by decide +kernel
theorem dX12_init_121 : decode cX12_init 121 = .ok (.putfield 74, 3) := by decide +kernel
theorem dX12_init_124 : decode cX12_init 124 = .ok (.aload_n 0, 1) := by decide +kernel
theorem dX12_init_125 : decode cX12_init 125 = .ok (.iconst (-1), 1) := by decide +kernel
theorem dX12_init_126 : decode cX12_init 126 = .ok (.putfield 77, 3) := by decide +kernel
theorem dX12_init_129 : decode cX12_init 129 = .ok (.aload_n 0, 1) := by decide +kernel
theorem dX12_init_130 : decode cX12_init 130 = .ok (.bipush 40, 2) := by decide +kernel
theorem dX12_init_132 : decode cX12_init 132 = .ok (.newarray .byte, 2) := by decide +kernel
theorem dX12_init_134 : decode cX12_init 134 = .ok (.putfield 80, 3) := by decide +kernel
theorem dX12_init_137 : decode cX12_init 137 = .ok (.aload_n 0, 1) := by decide +kernel
theorem dX12_init_138 : decode cX12_init 138 = .ok (.iconst 4, 1) := by decide +kernel
theorem dX12_init_139 : decode cX12_init 139 = .ok (.newarray .int, 2) := by decide +kernel
theorem dX12_init_141 : decode cX12_init 141 = .ok (.putfield 83, 3) := by decide +kernel
theorem dX12_init_144 : decode cX12_init 144 = .ok (.aload_n 0, 1) := by decide +kernel
theorem dX12_init_145 : decode cX12_init 145 = .ok (.bipush 45, 2) := by decide +kernel
theorem dX12_init_147 : decode cX12_init 147 = .ok (.newarray .int, 2) := by decide +kernel
theorem dX12_init_149 : decode cX12_init 149 = .ok (.putfield 86, 3) := by decide +kernel
theorem dX12_init_152 : decode cX12_init 152 = .ok (.aload_n 0, 1) := by decide +kernel
theorem dX12_init_153 : decode cX12_init 153 = .ok (.bipush 45, 2) := by decide +kernel
theorem dX12_init_155 : decode cX12_init 155 = .ok (.newarray .boolean, 2) := by decide +kernel
theorem dX12_init_157 : decode cX12_init 157 = .ok (.putfield 89, 3) := by decide +kernel
theorem dX12_init_160 : decode cX12_init 160 = .ok (.aload_n 0, 1) := by decide +kernel
theorem dX12_init_161 : decode cX12_init 161 = .ok (.sipush 938, 3) := by decide +kernel
theorem dX12_init_164 : decode cX12_init 164 = .ok (.newarray .int, 2) := by decide +kernel
theorem dX12_init_166 : decode cX12_init 166 = .ok (.putfield 93, 3) := by decide +kernel
theorem dX12_init_169 : decode cX12_init 169 = .ok (.aload_n 0, 1) := by decide +kernel
theorem dX12_init_170 : decode cX12_init 170 = .ok (.bipush 82, 2) := by decide +kernel
theorem dX12_init_172 : decode cX12_init 172 = .ok (.newarray .long, 2) := by decide +kernel
theorem dX12_init_174 : decode cX12_init 174 = .ok (.putfield 96, 3) := by decide +kernel
theorem dX12_init_177 : decode cX12_init 177 = .ok (.aload_n 0, 1) := by decide +kernel
theorem dX12_init_178 : decode cX12_init 178 = .ok (.iconst 2, 1) := by decide +kernel
theorem dX12_init_179 : decode cX12_init 179 = .ok (.newarray .boolean, 2) := by decide +kernel
theorem dX12_init_181 : decode cX12_init 181 = .ok (.putfield 99, 3) := by decide +kernel
theorem dX12_init_184 : decode cX12_init 184 = .ok (.aload_n 0, 1) := by decide +kernel
theorem dX12_init_185 : decode cX12_init 185 = .ok (.getfield 47, 3) := by decide +kernel
theorem dX12_init_188 : decode cX12_init 188 = .ok (.iconst 0, 1) := by decide +kernel
theorem dX12_init_189 : decode cX12_init 189 = .ok (.ldc2_w 102, 3) := by decide +kernel
theorem dX12_init_192 : decode cX12_init 192 = .ok (.lastore, 1) := by decide +kernel
theorem dX12_init_193 : decode cX12_init 193 = .ok (.aload_n 0, 1) := by decide +kernel
theorem dX12_init_194 : decode cX12_init 194 = .ok (.getfield 47, 3) := by decide +kernel
theorem dX12_init_197 : decode cX12_init 197 = .ok (.iconst 1, 1) := by decide +kernel
theorem dX12_init_198 : decode cX12_init 198 = .ok (.ldc2_w 104, 3) := by decide +kernel
theorem dX12_init_201 : decode cX12_init 201 = .ok (.lastore, 1) := by decide +kernel
theorem dX12_init_202 : decode cX12_init 202 = .ok (.aload_n 0, 1) := by decide +kernel
theorem dX12_init_203 : decode cX12_init 203 = .ok (.getfield 47, 3) := by decide +kernel
theorem dX12_init_206 : decode cX12_init 206 = .ok (.iconst 2, 1) := by decide +kernel
theorem dX12_init_207 : decode cX12_init 207 = .ok (.ldc2_w 106, 3) := by decide +kernel
theorem dX12_init_210 : decode cX12_init 210 = .ok (.lastore, 1) := by decide +kernel
theorem dX12_init_211 : decode cX12_init 211 = .ok (.aload_n 0, 1) := by decide +kernel
theorem dX12_init_212 : decode cX12_init 212 = .ok (.getfield 47, 3) := by decide +kernel
theorem dX12_init_215 : decode cX12_init 215 = .ok (.iconst 3, 1) := by decide +kernel
theorem dX12_init_216 : decode cX12_init 216 = .ok (.ldc2_w 108, 3) := by decide +kernel
theorem dX12_init_219 : decode cX12_init 219 = .ok (.lastore, 1) := by decide +kernel
theorem dX12_init_220 : decode cX12_init 220 = .ok (.aload_n 0, 1) := by decide +kernel
theorem dX12_init_221 : decode cX12_init 221 = .ok (.getfield 47, 3) := by decide +kernel
theorem dX12_init_224 : decode cX12_init 224 = .ok (.iconst 4, 1) := by decide +kernel
theorem dX12_init_225 : decode cX12_init 225 = .ok (.ldc2_w 110, 3) := by decide +kernel
theorem dX12_init_228 : decode cX12_init 228 = .ok (.lastore, 1) := by decide +kernel
theorem dX12_init_229 : decode cX12_init 229 = .ok (.aload_n 0, 1) := by decide +kernel
theorem dX12_init_230 : decode cX12_init 230 = .ok (.getfield 47, 3) := by decide +kernel
theorem dX12_init_233 : decode cX12_init 233 = .ok (.iconst 5, 1) := by decide +kernel
theorem dX12_init_234 : decode cX12_init 234 = .ok (.ldc2_w 112, 3) := by decide +kernel
theorem dX12_init_237 : decode cX12_init 237 = .ok (.lastore, 1) := by decide +kernel
theorem dX12_init_238 : decode cX12_init 238 = .ok (.aload_n 0, 1) := by decide +kernel
theorem dX12_init_239 : decode cX12_init 239 = .ok (.getfield 47, 3) := by decide +kernel
theorem dX12_init_242 : decode cX12_init 242 = .ok (.bipush 6, 2) := by decide +kernel
theorem dX12_init_244 : decode cX12_init 244 = .ok (.ldc2_w 114, 3) := by decide +kernel
theorem dX12_init_247 : decode cX12_init 247 = .ok (.lastore, 1) := by decide +kernel
theorem dX12_init_248 : decode cX12_init 248 = .ok (.aload_n 0, 1) := by decide +kernel
theorem dX12_init_249 : decode cX12_init 249 = .ok (.getfield 47, 3) := by decide +kernel
theorem dX12_init_252 : decode cX12_init 252 = .ok (.bipush 7, 2) := by decide +kernel
theorem dX12_init_254 : decode cX12_init 254 = .ok (.ldc2_w 116, 3) := by decide +kernel
theorem dX12_init_257 : decode cX12_init 257 = .ok (.lastore, 1) := by decide +kernel
theorem dX12_init_258 : decode cX12_init 258 = .ok (.aload_n 0, 1) := by decide +kernel
theorem dX12_init_259 : decode cX12_init 259 = .ok (.getfield 47, 3) := by decide +kernel
theorem dX12_init_262 : decode cX12_init 262 = .ok (.bipush 8, 2) := by decide +kernel
theorem dX12_init_264 : decode cX12_init 264 = .ok (.ldc2_w 118, 3) := by decide +kernel
theorem dX12_init_267 : decode cX12_init 267 = .ok (.lastore, 1) := by decide +kernel
theorem dX12_init_268 : decode cX12_init 268 = .ok (.aload_n 0, 1) := by decide +kernel
theorem dX12_init_269 : decode cX12_init 269 = .ok (.getfield 47, 3) := by decide +kernel
theorem dX12_init_272 : decode cX12_init 272 = .ok (.bipush 9, 2) := by decide +kernel
theorem dX12_init_274 : decode cX12_init 274 = .ok (.ldc2_w 120, 3) := by decide +kernel
theorem dX12_init_277 : decode cX12_init 277 = .ok (.lastore, 1) := by decide +kernel
theorem dX12_init_278 : decode cX12_init 278 = .ok (.aload_n 0, 1) := by decide +kernel
theorem dX12_init_279 : decode cX12_init 279 = .ok (.getfield 47, 3) := by decide +kernel
theorem dX12_init_282 : decode cX12_init 282 = .ok (.bipush 10, 2) := by decide +kernel
theorem dX12_init_284 : decode cX12_init 284 = .ok (.ldc2_w 122, 3) := by decide +kernel
theorem dX12_init_287 : decode cX12_init 287 = .ok (.lastore, 1) := by decide +kernel
theorem dX12_init_288 : decode cX12_init 288 = .ok (.aload_n 0, 1) := by decide +kernel
theorem dX12_init_289 : decode cX12_init 289 = .ok (.getfield 47, 3) := by decide +kernel
theorem dX12_init_292 : decode cX12_init 292 = .ok (.bipush 11, 2) := by decide +kernel
theorem dX12_init_294 : decode cX12_init 294 = .ok (.ldc2_w 124, 3) := by decide +kernel
theorem dX12_init_297 : decode cX12_init 297 = .ok (.lastore, 1) := by decide +kernel
theorem dX12_init_298 : decode cX12_init 298 = .ok (.aload_n 0, 1) := by decide +kernel
theorem dX12_init_299 : decode cX12_init 299 = .ok (.getfield 47, 3) := by decide +kernel
theorem dX12_init_302 : decode cX12_init 302 = .ok (.bipush 12, 2) := by decide +kernel
theorem dX12_init_304 : decode cX12_init 304 = .ok (.ldc2_w 126, 3) := by decide +kernel
theorem dX12_init_307 : decode cX12_init 307 = .ok (.lastore, 1) := by decide +kernel
theorem dX12_init_308 : decode cX12_init 308 = .ok (.aload_n 0, 1) := by decide +kernel
theorem dX12_init_309 : decode cX12_init 309 = .ok (.getfield 47, 3) := by decide +kernel
theorem dX12_init_312 : decode cX12_init 312 = .ok (.bipush 13, 2) := by decide +kernel
theorem dX12_init_314 : decode cX12_init 314 = .ok (.ldc2_w 128, 3) := by decide +kernel
theorem dX12_init_317 : decode cX12_init 317 = .ok (.lastore, 1) := by decide +kernel
theorem dX12_init_318 : decode cX12_init 318 = .ok (.aload_n 0, 1) := by decide +kernel
theorem dX12_init_319 : decode cX12_init 319 = .ok (.getfield 47, 3) := by decide +kernel
theorem dX12_init_322 : decode cX12_init 322 = .ok (.bipush 14, 2) := by decide +kernel
theorem dX12_init_324 : decode cX12_init 324 = .ok (.ldc2_w 130, 3) := by decide +kernel
theorem dX12_init_327 : decode cX12_init 327 = .ok (.lastore, 1) := by decide +kernel
theorem dX12_init_328 : decode cX12_init 328 = .ok (.aload_n 0, 1) := by decide +kernel
theorem dX12_init_329 : decode cX12_init 329 = .ok (.getfield 47, 3) := by decide +kernel
theorem dX12_init_332 : decode cX12_init 332 = .ok (.bipush 15, 2) := by decide +kernel
theorem dX12_init_334 : decode cX12_init 334 = .ok (.ldc2_w 132, 3) := by decide +kernel
theorem dX12_init_337 : decode cX12_init 337 = .ok (.lastore, 1) := by decide +kernel
theorem dX12_init_338 : decode cX12_init 338 = .ok (.aload_n 0, 1) := by decide +kernel
theorem dX12_init_339 : decode cX12_init 339 = .ok (.getfield 47, 3) := by decide +kernel
theorem dX12_init_342 : decode cX12_init 342 = .ok (.bipush 16, 2) := by decide +kernel
theorem dX12_init_344 : decode cX12_init 344 = .ok (.ldc2_w 134, 3) := by decide +kernel
theorem dX12_init_347 : decode cX12_init 347 = .ok (.lastore, 1) := by decide +kernel
theorem dX12_init_348 : decode cX12_init 348 = .ok (.aload_n 0, 1) := by decide +kernel
theorem dX12_init_349 : decode cX12_init 349 = .ok (.getfield 47, 3) := by decide +kernel
theorem dX12_init_352 : decode cX12_init 352 = .ok (.bipush 17, 2) := by decide +kernel
theorem dX12_init_354 : decode cX12_init 354 = .ok (.ldc2_w 136, 3) := by decide +kernel
theorem dX12_init_357 : decode cX12_init 357 = .ok (.lastore, 1) := by decide +kernel
theorem dX12_init_358 : decode cX12_init 358 = .ok (.aload_n 0, 1) := by decide +kernel
theorem dX12_init_359 : decode cX12_init 359 = .ok (.getfield 47, 3) := by decide +kernel
theorem dX12_init_362 : decode cX12_init 362 = .ok (.bipush 18, 2) := by decide +kernel
theorem dX12_init_364 : decode cX12_init 364 = .ok (.ldc2_w 138, 3) := by decide +kernel
theorem dX12_init_367 : decode cX12_init 367 = .ok (.lastore, 1) := by decide +kernel
theorem dX12_init_368 : decode cX12_init 368 = .ok (.aload_n 0, 1) := by decide +kernel
theorem dX12_init_369 : decode cX12_init 369 = .ok (.getfield 47, 3) := by decide +kernel
theorem dX12_init_372 : decode cX12_init 372 = .ok (.bipush 19, 2) := by decide +kernel
theorem dX12_init_374 : decode cX12_init 374 = .ok (.ldc2_w 140, 3) := by decide +kernel
theorem dX12_init_377 : decode cX12_init 377 = .ok (.lastore, 1) := by decide +kernel
theorem dX12_init_378 : decode cX12_init 378 = .ok (.aload_n 0, 1) := by decide +kernel
theorem dX12_init_379 : decode cX12_init 379 = .ok (.getfield 47, 3) := by decide +kernel
theorem dX12_init_382 : decode cX12_init 382 = .ok (.bipush 20, 2) := by decide +kernel
theorem dX12_init_384 : decode cX12_init 384 = .ok (.ldc2_w 142, 3) := by decide +kernel
theorem dX12_init_387 : decode cX12_init 387 = .ok (.lastore, 1) := by decide +kernel
theorem dX12_init_388 : decode cX12_init 388 = .ok (.aload_n 0, 1) := by decide +kernel
theorem dX12_init_389 : decode cX12_init 389 = .ok (.getfield 47, 3) := by decide +kernel
theorem dX12_init_392 : decode cX12_init 392 = .ok (.bipush 21, 2) := by decide +kernel
theorem dX12_init_394 : decode cX12_init 394 = .ok (.ldc2_w 144, 3) := by decide +kernel
theorem dX12_init_397 : decode cX12_init 397 = .ok (.lastore, 1) := by decide +kernel
theorem dX12_init_398 : decode cX12_init 398 = .ok (.aload_n 0, 1) := by decide +kernel
theorem dX12_init_399 : decode cX12_init 399 = .ok (.getfield 47, 3) := by decide +kernel
theorem dX12_init_402 : decode cX12_init 402 = .ok (.bipush 22, 2) := by decide +kernel
theorem dX12_init_404 : decode cX12_init 404 = .ok (.ldc2_w 146, 3) := by decide +kernel
theorem dX12_init_407 : decode cX12_init 407 = .ok (.lastore, 1) := by decide +kernel
theorem dX12_init_408 : decode cX12_init 408 = .ok (.aload_n 0, 1) := by decide +kernel
theorem dX12_init_409 : decode cX12_init 409 = .ok (.getfield 47, 3) := by decide +kernel
theorem dX12_init_412 : decode cX12_init 412 = .ok (.bipush 23, 2) := by decide +kernel
theorem dX12_init_414 : decode cX12_init 414 = .ok (.ldc2_w 148, 3) := by decide +kernel
theorem dX12_init_417 : decode cX12_init 417 = .ok (.lastore, 1) := by decide +kernel
theorem dX12_init_418 : decode cX12_init 418 = .ok (.aload_n 0, 1) := by decide +kernel
theorem dX12_init_419 : decode cX12_init 419 = .ok (.getfield 47, 3) := by decide +kernel
theorem dX12_init_422 : decode cX12_init 422 = .ok (.bipush 24, 2) := by decide +kernel
theorem dX12_init_424 : decode cX12_init 424 = .ok (.ldc2_w 150, 3) := by decide +kernel
theorem dX12_init_427 : decode cX12_init 427 = .ok (.lastore, 1) := by decide +kernel
theorem dX12_init_428 : decode cX12_init 428 = .ok (.aload_n 0, 1) := by decide +kernel
theorem dX12_init_429 : decode cX12_init 429 = .ok (.getfield 47, 3) := by decide +kernel
theorem dX12_init_432 : decode cX12_init 432 = .ok (.bipush 25, 2) := by decide +kernel
theorem dX12_init_434 : decode cX12_init 434 = .ok (.ldc2_w 152, 3) := by decide +kernel
theorem dX12_init_437 : decode cX12_init 437 = .ok (.lastore, 1) := by decide +kernel
theorem dX12_init_438 : decode cX12_init 438 = .ok (.aload_n 0, 1) := by decide +kernel
theorem dX12_init_439 : decode cX12_init 439 = .ok (.getfield 47, 3) := by decide +kernel
theorem dX12_init_442 : decode cX12_init 442 = .ok (.bipush 26, 2) := by decide +kernel
theorem dX12_init_444 : decode cX12_init 444 = .ok (.ldc2_w 154, 3) := by decide +kernel
theorem dX12_init_447 : decode cX12_init 447 = .ok (.lastore, 1) := by decide +kernel
theorem dX12_init_448 : decode cX12_init 448 = .ok (.aload_n 0, 1) := by decide +kernel
theorem dX12_init_449 : decode cX12_init 449 = .ok (.getfield 47, 3) := by decide +kernel
theorem dX12_init_452 : decode cX12_init 452 = .ok (.bipush 27, 2) := by decide +kernel
theorem dX12_init_454 : decode cX12_init 454 = .ok (.ldc2_w 156, 3) := by decide +kernel
theorem dX12_init_457 : decode cX12_init 457 = .ok (.lastore, 1) := by decide +kernel
theorem dX12_init_458 : decode cX12_init 458 = .ok (.aload_n 0, 1) := by decide +kernel
theorem dX12_init_459 : decode cX12_init 459 = .ok (.getfield 47, 3) := by decide +kernel
theorem dX12_init_462 : decode cX12_init 462 = .ok (.bipush 28, 2) := by decide +kernel
theorem dX12_init_464 : decode cX12_init 464 = .ok (.ldc2_w 158, 3) := by decide +kernel
theorem dX12_init_467 : decode cX12_init 467 = .ok (.lastore, 1) := by decide +kernel
theorem dX12_init_468 : decode cX12_init 468 = .ok (.aload_n 0, 1) := by decide +kernel
theorem dX12_init_469 : decode cX12_init 469 = .ok (.getfield 47, 3) := by decide +kernel
theorem dX12_init_472 : decode cX12_init 472 = .ok (.bipush 29, 2) := by decide +kernel
theorem dX12_init_474 : decode cX12_init 474 = .ok (.ldc2_w 160, 3) := by decide +kernel
theorem dX12_init_477 : decode cX12_init 477 = .ok (.lastore, 1) := by decide +kernel
theorem dX12_init_478 : decode cX12_init 478 = .ok (.aload_n 0, 1) := by decide +kernel
theorem dX12_init_479 : decode cX12_init 479 = .ok (.getfield 47, 3) := by decide +kernel
theorem dX12_init_482 : decode cX12_init 482 = .ok (.bipush 30, 2) := by decide +kernel
theorem dX12_init_484 : decode cX12_init 484 = .ok (.ldc2_w 162, 3) := by decide +kernel
theorem dX12_init_487 : decode cX12_init 487 = .ok (.lastore, 1) := by decide +kernel
theorem dX12_init_488 : decode cX12_init 488 = .ok (.aload_n 0, 1) := by decide +kernel
theorem dX12_init_489 : decode cX12_init 489 = .ok (.getfield 47, 3) := by decide +kernel
theorem dX12_init_492 : decode cX12_init 492 = .ok (.bipush 31, 2) := by decide +kernel
theorem dX12_init_494 : decode cX12_init 494 = .ok (.ldc2_w 164, 3) := by decide +kernel
theorem dX12_init_497 : decode cX12_init 497 = .ok (.lastore, 1) := by decide +kernel
theorem dX12_init_498 : decode cX12_init 498 = .ok (.aload_n 0, 1) := by decide +kernel
theorem dX12_init_499 : decode cX12_init 499 = .ok (.invokevirtual 166, 3) := by decide +kernel
theorem dX12_init_502 : decode cX12_init 502 = .ok (.iconst 0, 1) := by decide +kernel
theorem dX12_init_503 : decode cX12_init 503 = .ok (.istore_n 1, 1) := by decide +kernel
theorem dX12_init_504 : decode cX12_init 504 = .ok (.iload_n 1, 1) := by decide +kernel
theorem dX12_init_505 : decode cX12_init 505 = .ok (.sipush 226, 3) := by decide +kernel
theorem dX12_init_508 : decode cX12_init 508 = .ok (.if_icmp .ge 21, 3) := by decide +kernel
theorem dX12_init_511 : decode cX12_init 511 = .ok (.aload_n 0, 1) := by decide +kernel
theorem dX12_init_512 : decode cX12_init 512 = .ok (.getfield 33, 3) := by decide +kernel
theorem dX12_init_515 : decode cX12_init 515 = .ok (.iload_n 1, 1) := by decide +kernel
theorem dX12_init_516 : decode cX12_init 516 = .ok (.aload_n 0, 1) := by decide +kernel
theorem dX12_init_517 : decode cX12_init 517 = .ok (.getfield 37, 3) := by decide +kernel
theorem dX12_init_520 : decode cX12_init 520 = .ok (.iload_n 1, 1) := by decide +kernel
theorem dX12_init_521 : decode cX12_init 521 = .ok (.iaload, 1) := by decide +kernel
theorem dX12_init_522 : decode cX12_init 522 = .ok (.iastore, 1) := by decide +kernel
theorem dX12_init_523 : decode cX12_init 523 = .ok (.iinc 1 1, 3) := by decide +kernel
theorem dX12_init_526 : decode cX12_init 526 = .ok (.goto (-22), 3) := by decide +kernel
theorem dX12_init_529 : decode cX12_init 529 = .ok (.return_, 1) := by decide +kernel
theorem dX12_clears_0 : decode cX12_clears 0 = .ok (.iconst 0, 1) := by decide +kernel
theorem dX12_clears_1 : decode cX12_clears 1 = .ok (.istore_n 1, 1) := by decide +kernel
theorem dX12_clears_2 : decode cX12_clears 2 = .ok (.iload_n 1, 1) := by decide +kernel
theorem dX12_clears_3 : decode cX12_clears 3 = .ok (.sipush 226, 3) := by decide +kernel
theorem dX12_clears_6 : decode cX12_clears 6 = .ok (.if_icmp .ge 16, 3) := by decide +kernel
theorem dX12_clears_9 : decode cX12_clears 9 = .ok (.aload_n 0, 1) := by decide +kernel
theorem dX12_clears_10 : decode cX12_clears 10 = .ok (.getfield 37, 3) := by decide +kernel
theorem dX12_clears_13 : decode cX12_clears 13 = .ok (.iload_n 1, 1) := by decide +kernel
theorem dX12_clears_14 : decode cX12_clears 14 = .ok (.iconst 0, 1) := by decide +kernel
theorem dX12_clears_15 : decode cX12_clears 15 = .ok (.iastore, 1) := by decide +kernel
theorem dX12_clears_16 : decode cX12_clears 16 = .ok (.iinc 1 1, 3) := by decide +kernel
theorem dX12_clears_19 : decode cX12_clears 19 = .ok (.goto (-17), 3) := by decide +kernel
theorem dX12_clears_22 : decode cX12_clears 22 = .ok (.aload_n 0, 1) := by decide +kernel
theorem dX12_clears_23 : decode cX12_clears 23 = .ok (.getfield 37, 3) := by decide +kernel
theorem dX12_clears_26 : decode cX12_clears 26 = .ok (.bipush 7, 2) := by decide +kernel
theorem dX12_clears_28 : decode cX12_clears 28 = .ok (.iconst 3, 1) := by decide +kernel
theorem dX12_clears_29 : decode cX12_clears 29 = .ok (.iastore, 1) := by decide +kernel
theorem dX12_clears_30 : decode cX12_clears 30 = .ok (.return_, 1) := by decide +kernel
theorem dX12_peek_0 : decode cX12_peek 0 = .ok (.aload_n 0, 1) := by decide +kernel
theorem dX12_peek_1 : decode cX12_peek 1 = .ok (.getfield 21, 3) := by decide +kernel
theorem dX12_peek_4 : decode cX12_peek 4 = .ok (.aload_n 0, 1) := by decide +kernel
theorem dX12_peek_5 : decode cX12_peek 5 = .ok (.getfield 18, 3) := by decide +kernel
theorem dX12_peek_8 : decode cX12_peek 8 = .ok (.if_icmp .ge 19, 3) := by decide +kernel
theorem dX12_peek_11 : decode cX12_peek 11 = .ok (.aload_n 0, 1) := by decide +kernel
theorem dX12_peek_12 : decode cX12_peek 12 = .ok (.getfield 14, 3) := by decide +kernel
theorem dX12_peek_15 : decode cX12_peek 15 = .ok (.aload_n 0, 1) := by decide +kernel
theorem dX12_peek_16 : decode cX12_peek 16 = .ok (.getfield 21, 3) := by decide +kernel
theorem dX12_peek_19 : decode cX12_peek 19 = .ok (.baload, 1) := by decide +kernel
theorem dX12_peek_20 : decode cX12_peek 20 = .ok (.sipush 255, 3) := by decide +kernel
theorem dX12_peek_23 : decode cX12_peek 23 = .ok (.iand, 1) := by decide +kernel
theorem dX12_peek_24 : decode cX12_peek 24 = .ok (.goto 4, 3) := by decide +kernel
theorem dX12_peek_27 : decode cX12_peek 27 = .ok (.iconst (-1), 1) := by decide +kernel
theorem dX12_peek_28 : decode cX12_peek 28 = .ok (.ireturn, 1) := by decide +kernel
theorem dX12_isSmall_0 : decode cX12_isSmall 0 = .ok (.iload_n 0, 1) := by decide +kernel
theorem dX12_isSmall_1 : decode cX12_isSmall 1 = .ok (.bipush 97, 2) := by decide +kernel
theorem dX12_isSmall_3 : decode cX12_isSmall 3 = .ok (.if_icmp .lt 13, 3) := by decide +kernel
theorem dX12_isSmall_6 : decode cX12_isSmall 6 = .ok (.iload_n 0, 1) := by decide +kernel
theorem dX12_isSmall_7 : decode cX12_isSmall 7 = .ok (.bipush 122, 2) := by decide +kernel
theorem dX12_isSmall_9 : decode cX12_isSmall 9 = .ok (.if_icmp .gt 7, 3) := by decide +kernel
theorem dX12_isSmall_12 : decode cX12_isSmall 12 = .ok (.iconst 1, 1) := by decide +kernel
theorem dX12_isSmall_13 : decode cX12_isSmall 13 = .ok (.goto 4, 3) := by decide +kernel
theorem dX12_isSmall_16 : decode cX12_isSmall 16 = .ok (.iconst 0, 1) := by decide +kernel
theorem dX12_isSmall_17 : decode cX12_isSmall 17 = .ok (.ireturn, 1) := by decide +kernel
theorem dX12_isDigit_0 : decode cX12_isDigit 0 = .ok (.iload_n 0, 1) := by decide +kernel
theorem dX12_isDigit_1 : decode cX12_isDigit 1 = .ok (.bipush 48, 2) := by decide +kernel
theorem dX12_isDigit_3 : decode cX12_isDigit 3 = .ok (.if_icmp .lt 13, 3) := by decide +kernel
theorem dX12_isDigit_6 : decode cX12_isDigit 6 = .ok (.iload_n 0, 1) := by decide +kernel
theorem dX12_isDigit_7 : decode cX12_isDigit 7 = .ok (.bipush 57, 2) := by decide +kernel
theorem dX12_isDigit_9 : decode cX12_isDigit 9 = .ok (.if_icmp .gt 7, 3) := by decide +kernel
theorem dX12_isDigit_12 : decode cX12_isDigit 12 = .ok (.iconst 1, 1) := by decide +kernel
theorem dX12_isDigit_13 : decode cX12_isDigit 13 = .ok (.goto 4, 3) := by decide +kernel
theorem dX12_isDigit_16 : decode cX12_isDigit 16 = .ok (.iconst 0, 1) := by decide +kernel
theorem dX12_isDigit_17 : decode cX12_isDigit 17 = .ok (.ireturn, 1) := by decide +kernel
theorem dX12_next_0 : decode cX12_next 0 = .ok (.aload_n 0, 1) := by decide +kernel
theorem dX12_next_1 : decode cX12_next 1 = .ok (.invokevirtual 169, 3) := by decide +kernel
theorem dX12_next_4 : decode cX12_next 4 = .ok (.bipush 32, 2) := by decide +kernel
theorem dX12_next_6 : decode cX12_next 6 = .ok (.if_icmp .eq 12, 3) := by decide +kernel
theorem dX12_next_9 : decode cX12_next 9 = .ok (.aload_n 0, 1) := by decide +kernel
theorem dX12_next_10 : decode cX12_next 10 = .ok (.invokevirtual 169, 3) := by decide +kernel
theorem dX12_next_13 : decode cX12_next 13 = .ok (.bipush 10, 2) := by decide +kernel
theorem dX12_next_15 : decode cX12_next 15 = .ok (.if_icmp .ne 16, 3) := by decide +kernel
theorem dX12_next_18 : decode cX12_next 18 = .ok (.aload_n 0, 1) := by decide +kernel
theorem dX12_next_19 : decode cX12_next 19 = .ok (.dup, 1) := by decide +kernel
theorem dX12_next_20 : decode cX12_next 20 = .ok (.getfield 21, 3) := by decide +kernel
theorem dX12_next_23 : decode cX12_next 23 = .ok (.iconst 1, 1) := by decide +kernel
theorem dX12_next_24 : decode cX12_next 24 = .ok (.iadd, 1) := by decide +kernel
theorem dX12_next_25 : decode cX12_next 25 = .ok (.putfield 21, 3) := by decide +kernel
theorem dX12_next_28 : decode cX12_next 28 = .ok (.goto (-28), 3) := by decide +kernel
theorem dX12_next_31 : decode cX12_next 31 = .ok (.aload_n 0, 1) := by decide +kernel
theorem dX12_next_32 : decode cX12_next 32 = .ok (.aload_n 0, 1) := by decide +kernel
theorem dX12_next_33 : decode cX12_next 33 = .ok (.getfield 21, 3) := by decide +kernel
theorem dX12_next_36 : decode cX12_next 36 = .ok (.putfield 173, 3) := by decide +kernel
theorem dX12_next_39 : decode cX12_next 39 = .ok (.aload_n 0, 1) := by decide +kernel
theorem dX12_next_40 : decode cX12_next 40 = .ok (.iconst 0, 1) := by decide +kernel
theorem dX12_next_41 : decode cX12_next 41 = .ok (.putfield 176, 3) := by decide +kernel
theorem dX12_next_44 : decode cX12_next 44 = .ok (.aload_n 0, 1) := by decide +kernel
theorem dX12_next_45 : decode cX12_next 45 = .ok (.getfield 18, 3) := by decide +kernel
theorem dX12_next_48 : decode cX12_next 48 = .ok (.aload_n 0, 1) := by decide +kernel
theorem dX12_next_49 : decode cX12_next 49 = .ok (.getfield 24, 3) := by decide +kernel
theorem dX12_next_52 : decode cX12_next 52 = .ok (.if_icmp .le 28, 3) := by decide +kernel
theorem dX12_next_55 : decode cX12_next 55 = .ok (.aload_n 0, 1) := by decide +kernel
theorem dX12_next_56 : decode cX12_next 56 = .ok (.getfield 21, 3) := by decide +kernel
theorem dX12_next_59 : decode cX12_next 59 = .ok (.aload_n 0, 1) := by decide +kernel
theorem dX12_next_60 : decode cX12_next 60 = .ok (.getfield 24, 3) := by decide +kernel
theorem dX12_next_63 : decode cX12_next 63 = .ok (.if_icmp .lt 17, 3) := by decide +kernel
theorem dX12_next_66 : decode cX12_next 66 = .ok (.aload_n 0, 1) := by decide +kernel
theorem dX12_next_67 : decode cX12_next 67 = .ok (.aload_n 0, 1) := by decide +kernel
theorem dX12_next_68 : decode cX12_next 68 = .ok (.getfield 24, 3) := by decide +kernel
theorem dX12_next_71 : decode cX12_next 71 = .ok (.putfield 173, 3) := by decide +kernel
theorem dX12_next_74 : decode cX12_next 74 = .ok (.aload_n 0, 1) := by decide +kernel
theorem dX12_next_75 : decode cX12_next 75 = .ok (.iconst 4, 1) := by decide +kernel
theorem dX12_next_76 : decode cX12_next 76 = .ok (.putfield 179, 3) := by decide +kernel
theorem dX12_next_79 : decode cX12_next 79 = .ok (.return_, 1) := by decide +kernel
theorem dX12_next_80 : decode cX12_next 80 = .ok (.aload_n 0, 1) := by decide +kernel
theorem dX12_next_81 : decode cX12_next 81 = .ok (.invokevirtual 169, 3) := by decide +kernel
theorem dX12_next_84 : decode cX12_next 84 = .ok (.istore_n 1, 1) := by decide +kernel
theorem dX12_next_85 : decode cX12_next 85 = .ok (.iload_n 1, 1) := by decide +kernel
theorem dX12_next_86 : decode cX12_next 86 = .ok (.ifCond .ge 9, 3) := by decide +kernel
theorem dX12_next_89 : decode cX12_next 89 = .ok (.aload_n 0, 1) := by decide +kernel
theorem dX12_next_90 : decode cX12_next 90 = .ok (.iconst 0, 1) := by decide +kernel
theorem dX12_next_91 : decode cX12_next 91 = .ok (.putfield 179, 3) := by decide +kernel
theorem dX12_next_94 : decode cX12_next 94 = .ok (.return_, 1) := by decide +kernel
theorem dX12_next_95 : decode cX12_next 95 = .ok (.iload_n 1, 1) := by decide +kernel
theorem dX12_next_96 : decode cX12_next 96 = .ok (.invokestatic 182, 3) := by decide +kernel
theorem dX12_next_99 : decode cX12_next 99 = .ok (.ifCond .ne 65, 3) := by decide +kernel
theorem dX12_next_102 : decode cX12_next 102 = .ok (.iload_n 1, 1) := by decide +kernel
theorem dX12_next_103 : decode cX12_next 103 = .ok (.invokestatic 186, 3) := by decide +kernel
theorem dX12_next_106 : decode cX12_next 106 = .ok (.ifCond .ne 58, 3) := by decide +kernel
theorem dX12_next_109 : decode cX12_next 109 = .ok (.aload_n 0, 1) := by decide +kernel
theorem dX12_next_110 : decode cX12_next 110 = .ok (.iload_n 1, 1) := by decide +kernel
theorem dX12_next_111 : decode cX12_next 111 = .ok (.bipush 59, 2) := by decide +kernel
theorem dX12_next_113 : decode cX12_next 113 = .ok (.if_icmp .eq 27, 3) := by decide +kernel
theorem dX12_next_116 : decode cX12_next 116 = .ok (.iload_n 1, 1) := by decide +kernel
theorem dX12_next_117 : decode cX12_next 117 = .ok (.bipush 40, 2) := by decide +kernel
theorem dX12_next_119 : decode cX12_next 119 = .ok (.if_icmp .eq 21, 3) := by decide +kernel
theorem dX12_next_122 : decode cX12_next 122 = .ok (.iload_n 1, 1) := by decide +kernel
theorem dX12_next_123 : decode cX12_next 123 = .ok (.bipush 41, 2) := by decide +kernel
theorem dX12_next_125 : decode cX12_next 125 = .ok (.if_icmp .eq 15, 3) := by decide +kernel
theorem dX12_next_128 : decode cX12_next 128 = .ok (.iload_n 1, 1) := by decide +kernel
theorem dX12_next_129 : decode cX12_next 129 = .ok (.bipush 60, 2) := by decide +kernel
theorem dX12_next_131 : decode cX12_next 131 = .ok (.if_icmp .lt 13, 3) := by decide +kernel
theorem dX12_next_134 : decode cX12_next 134 = .ok (.iload_n 1, 1) := by decide +kernel
theorem dX12_next_135 : decode cX12_next 135 = .ok (.bipush 62, 2) := by decide +kernel
theorem dX12_next_137 : decode cX12_next 137 = .ok (.if_icmp .gt 7, 3) := by decide +kernel
theorem dX12_next_140 : decode cX12_next 140 = .ok (.iconst 3, 1) := by decide +kernel
theorem dX12_next_141 : decode cX12_next 141 = .ok (.goto 4, 3) := by decide +kernel
theorem dX12_next_144 : decode cX12_next 144 = .ok (.iconst 4, 1) := by decide +kernel
theorem dX12_next_145 : decode cX12_next 145 = .ok (.putfield 179, 3) := by decide +kernel
theorem dX12_next_148 : decode cX12_next 148 = .ok (.aload_n 0, 1) := by decide +kernel
theorem dX12_next_149 : decode cX12_next 149 = .ok (.iload_n 1, 1) := by decide +kernel
theorem dX12_next_150 : decode cX12_next 150 = .ok (.putfield 189, 3) := by decide +kernel
theorem dX12_next_153 : decode cX12_next 153 = .ok (.aload_n 0, 1) := by decide +kernel
theorem dX12_next_154 : decode cX12_next 154 = .ok (.dup, 1) := by decide +kernel
theorem dX12_next_155 : decode cX12_next 155 = .ok (.getfield 21, 3) := by decide +kernel
theorem dX12_next_158 : decode cX12_next 158 = .ok (.iconst 1, 1) := by decide +kernel
theorem dX12_next_159 : decode cX12_next 159 = .ok (.iadd, 1) := by decide +kernel
theorem dX12_next_160 : decode cX12_next 160 = .ok (.putfield 21, 3) := by decide +kernel
theorem dX12_next_163 : decode cX12_next 163 = .ok (.return_, 1) := by decide +kernel
theorem dX12_next_164 : decode cX12_next 164 = .ok (.iload_n 1, 1) := by decide +kernel
theorem dX12_next_165 : decode cX12_next 165 = .ok (.invokestatic 182, 3) := by decide +kernel
theorem dX12_next_168 : decode cX12_next 168 = .ok (.istore_n 2, 1) := by decide +kernel
theorem dX12_next_169 : decode cX12_next 169 = .ok (.iconst 1, 1) := by decide +kernel
theorem dX12_next_170 : decode cX12_next 170 = .ok (.istore_n 3, 1) := by decide +kernel
theorem dX12_next_171 : decode cX12_next 171 = .ok (.aload_n 0, 1) := by decide +kernel
theorem dX12_next_172 : decode cX12_next 172 = .ok (.lconst 0, 1) := by decide +kernel
theorem dX12_next_173 : decode cX12_next 173 = .ok (.putfield 192, 3) := by decide +kernel
theorem dX12_next_176 : decode cX12_next 176 = .ok (.aload_n 0, 1) := by decide +kernel
theorem dX12_next_177 : decode cX12_next 177 = .ok (.iconst 0, 1) := by decide +kernel
theorem dX12_next_178 : decode cX12_next 178 = .ok (.putfield 189, 3) := by decide +kernel
theorem dX12_next_181 : decode cX12_next 181 = .ok (.aload_n 0, 1) := by decide +kernel
theorem dX12_next_182 : decode cX12_next 182 = .ok (.invokevirtual 169, 3) := by decide +kernel
theorem dX12_next_185 : decode cX12_next 185 = .ok (.invokestatic 182, 3) := by decide +kernel
theorem dX12_next_188 : decode cX12_next 188 = .ok (.ifCond .ne 13, 3) := by decide +kernel
theorem dX12_next_191 : decode cX12_next 191 = .ok (.aload_n 0, 1) := by decide +kernel
theorem dX12_next_192 : decode cX12_next 192 = .ok (.invokevirtual 169, 3) := by decide +kernel
theorem dX12_next_195 : decode cX12_next 195 = .ok (.invokestatic 186, 3) := by decide +kernel
theorem dX12_next_198 : decode cX12_next 198 = .ok (.ifCond .eq 100, 3) := by decide +kernel
theorem dX12_next_201 : decode cX12_next 201 = .ok (.iload_n 3, 1) := by decide +kernel
theorem dX12_next_202 : decode cX12_next 202 = .ok (.ifCond .eq 18, 3) := by decide +kernel
theorem dX12_next_205 : decode cX12_next 205 = .ok (.aload_n 0, 1) := by decide +kernel
theorem dX12_next_206 : decode cX12_next 206 = .ok (.invokevirtual 169, 3) := by decide +kernel
theorem dX12_next_209 : decode cX12_next 209 = .ok (.invokestatic 182, 3) := by decide +kernel
theorem dX12_next_212 : decode cX12_next 212 = .ok (.iload_n 2, 1) := by decide +kernel
theorem dX12_next_213 : decode cX12_next 213 = .ok (.if_icmp .ne 7, 3) := by decide +kernel
theorem dX12_next_216 : decode cX12_next 216 = .ok (.iconst 1, 1) := by decide +kernel
theorem dX12_next_217 : decode cX12_next 217 = .ok (.goto 4, 3) := by decide +kernel
theorem dX12_next_220 : decode cX12_next 220 = .ok (.iconst 0, 1) := by decide +kernel
theorem dX12_next_221 : decode cX12_next 221 = .ok (.istore_n 3, 1) := by decide +kernel
theorem dX12_next_222 : decode cX12_next 222 = .ok (.aload_n 0, 1) := by decide +kernel
theorem dX12_next_223 : decode cX12_next 223 = .ok (.getfield 176, 3) := by decide +kernel
theorem dX12_next_226 : decode cX12_next 226 = .ok (.bipush 7, 2) := by decide +kernel
theorem dX12_next_228 : decode cX12_next 228 = .ok (.if_icmp .ge 20, 3) := by decide +kernel
theorem dX12_next_231 : decode cX12_next 231 = .ok (.aload_n 0, 1) := by decide +kernel
theorem dX12_next_232 : decode cX12_next 232 = .ok (.aload_n 0, 1) := by decide +kernel
theorem dX12_next_233 : decode cX12_next 233 = .ok (.getfield 192, 3) := by decide +kernel
theorem dX12_next_236 : decode cX12_next 236 = .ok (.bipush 8, 2) := by decide +kernel
theorem dX12_next_238 : decode cX12_next 238 = .ok (.lshl, 1) := by decide +kernel
theorem dX12_next_239 : decode cX12_next 239 = .ok (.aload_n 0, 1) := by decide +kernel
theorem dX12_next_240 : decode cX12_next 240 = .ok (.invokevirtual 169, 3) := by decide +kernel
theorem dX12_next_243 : decode cX12_next 243 = .ok (.i2l, 1) := by decide +kernel
theorem dX12_next_244 : decode cX12_next 244 = .ok (.lor, 1) := by decide +kernel
theorem dX12_next_245 : decode cX12_next 245 = .ok (.putfield 192, 3) := by decide +kernel
theorem dX12_next_248 : decode cX12_next 248 = .ok (.aload_n 0, 1) := by decide +kernel
theorem dX12_next_249 : decode cX12_next 249 = .ok (.getfield 176, 3) := by decide +kernel
theorem dX12_next_252 : decode cX12_next 252 = .ok (.iconst 3, 1) := by decide +kernel
theorem dX12_next_253 : decode cX12_next 253 = .ok (.if_icmp .ge 22, 3) := by decide +kernel
theorem dX12_next_256 : decode cX12_next 256 = .ok (.aload_n 0, 1) := by decide +kernel
theorem dX12_next_257 : decode cX12_next 257 = .ok (.bipush 10, 2) := by decide +kernel
theorem dX12_next_259 : decode cX12_next 259 = .ok (.aload_n 0, 1) := by decide +kernel
theorem dX12_next_260 : decode cX12_next 260 = .ok (.getfield 189, 3) := by decide +kernel
theorem dX12_next_263 : decode cX12_next 263 = .ok (.imul, 1) := by decide +kernel
theorem dX12_next_264 : decode cX12_next 264 = .ok (.aload_n 0, 1) := by decide +kernel
theorem dX12_next_265 : decode cX12_next 265 = .ok (.invokevirtual 169, 3) := by decide +kernel
theorem dX12_next_268 : decode cX12_next 268 = .ok (.iadd, 1) := by decide +kernel
theorem dX12_next_269 : decode cX12_next 269 = .ok (.bipush 48, 2) := by decide +kernel
theorem dX12_next_271 : decode cX12_next 271 = .ok (.isub, 1) := by decide +kernel
theorem dX12_next_272 : decode cX12_next 272 = .ok (.putfield 189, 3) := by decide +kernel
theorem dX12_next_275 : decode cX12_next 275 = .ok (.aload_n 0, 1) := by decide +kernel
theorem dX12_next_276 : decode cX12_next 276 = .ok (.dup, 1) := by decide +kernel
theorem dX12_next_277 : decode cX12_next 277 = .ok (.getfield 176, 3) := by decide +kernel
theorem dX12_next_280 : decode cX12_next 280 = .ok (.iconst 1, 1) := by decide +kernel
theorem dX12_next_281 : decode cX12_next 281 = .ok (.iadd, 1) := by decide +kernel
theorem dX12_next_282 : decode cX12_next 282 = .ok (.putfield 176, 3) := by decide +kernel
theorem dX12_next_285 : decode cX12_next 285 = .ok (.aload_n 0, 1) := by decide +kernel
theorem dX12_next_286 : decode cX12_next 286 = .ok (.dup, 1) := by decide +kernel
theorem dX12_next_287 : decode cX12_next 287 = .ok (.getfield 21, 3) := by decide +kernel
theorem dX12_next_290 : decode cX12_next 290 = .ok (.iconst 1, 1) := by decide +kernel
theorem dX12_next_291 : decode cX12_next 291 = .ok (.iadd, 1) := by decide +kernel
theorem dX12_next_292 : decode cX12_next 292 = .ok (.putfield 21, 3) := by decide +kernel
theorem dX12_next_295 : decode cX12_next 295 = .ok (.goto (-114), 3) := by decide +kernel
theorem dX12_next_298 : decode cX12_next 298 = .ok (.aload_n 0, 1) := by decide +kernel
theorem dX12_next_299 : decode cX12_next 299 = .ok (.iload_n 3, 1) := by decide +kernel
theorem dX12_next_300 : decode cX12_next 300 = .ok (.ifCond .eq 20, 3) := by decide +kernel
theorem dX12_next_303 : decode cX12_next 303 = .ok (.aload_n 0, 1) := by decide +kernel
theorem dX12_next_304 : decode cX12_next 304 = .ok (.getfield 176, 3) := by decide +kernel
theorem dX12_next_307 : decode cX12_next 307 = .ok (.iload_n 2, 1) := by decide +kernel
theorem dX12_next_308 : decode cX12_next 308 = .ok (.ifCond .eq 8, 3) := by decide +kernel
theorem dX12_next_311 : decode cX12_next 311 = .ok (.bipush 7, 2) := by decide +kernel
theorem dX12_next_313 : decode cX12_next 313 = .ok (.goto 4, 3) := by decide +kernel
theorem dX12_next_316 : decode cX12_next 316 = .ok (.iconst 3, 1) := by decide +kernel
theorem dX12_next_317 : decode cX12_next 317 = .ok (.if_icmp .le 7, 3) := by decide +kernel
theorem dX12_next_320 : decode cX12_next 320 = .ok (.iconst 4, 1) := by decide +kernel
theorem dX12_next_321 : decode cX12_next 321 = .ok (.goto 12, 3) := by decide +kernel
theorem dX12_next_324 : decode cX12_next 324 = .ok (.iload_n 2, 1) := by decide +kernel
theorem dX12_next_325 : decode cX12_next 325 = .ok (.ifCond .eq 7, 3) := by decide +kernel
theorem dX12_next_328 : decode cX12_next 328 = .ok (.iconst 1, 1) := by decide +kernel
theorem dX12_next_329 : decode cX12_next 329 = .ok (.goto 4, 3) := by decide +kernel
theorem dX12_next_332 : decode cX12_next 332 = .ok (.iconst 2, 1) := by decide +kernel
theorem dX12_next_333 : decode cX12_next 333 = .ok (.putfield 179, 3) := by decide +kernel
theorem dX12_next_336 : decode cX12_next 336 = .ok (.return_, 1) := by decide +kernel
theorem dX12_bad_0 : decode cX12_bad 0 = .ok (.aload_n 0, 1) := by decide +kernel
theorem dX12_bad_1 : decode cX12_bad 1 = .ok (.iload_n 1, 1) := by decide +kernel
theorem dX12_bad_2 : decode cX12_bad 2 = .ok (.putfield 196, 3) := by decide +kernel
theorem dX12_bad_5 : decode cX12_bad 5 = .ok (.aload_n 0, 1) := by decide +kernel
theorem dX12_bad_6 : decode cX12_bad 6 = .ok (.aload_n 0, 1) := by decide +kernel
theorem dX12_bad_7 : decode cX12_bad 7 = .ok (.getfield 173, 3) := by decide +kernel
theorem dX12_bad_10 : decode cX12_bad 10 = .ok (.putfield 199, 3) := by decide +kernel
theorem dX12_bad_13 : decode cX12_bad 13 = .ok (.iconst 0, 1) := by decide +kernel
theorem dX12_bad_14 : decode cX12_bad 14 = .ok (.ireturn, 1) := by decide +kernel
theorem dX12_isWord_0 : decode cX12_isWord 0 = .ok (.aload_n 0, 1) := by decide +kernel
theorem dX12_isWord_1 : decode cX12_isWord 1 = .ok (.getfield 179, 3) := by decide +kernel
theorem dX12_isWord_4 : decode cX12_isWord 4 = .ok (.iconst 1, 1) := by decide +kernel
theorem dX12_isWord_5 : decode cX12_isWord 5 = .ok (.if_icmp .ne 16, 3) := by decide +kernel
theorem dX12_isWord_8 : decode cX12_isWord 8 = .ok (.aload_n 0, 1) := by decide +kernel
theorem dX12_isWord_9 : decode cX12_isWord 9 = .ok (.getfield 192, 3) := by decide +kernel
theorem dX12_isWord_12 : decode cX12_isWord 12 = .ok (.lload_n 1, 1) := by decide +kernel
theorem dX12_isWord_13 : decode cX12_isWord 13 = .ok (.lcmp, 1) := by decide +kernel
theorem dX12_isWord_14 : decode cX12_isWord 14 = .ok (.ifCond .ne 7, 3) := by decide +kernel
theorem dX12_isWord_17 : decode cX12_isWord 17 = .ok (.iconst 1, 1) := by decide +kernel
theorem dX12_isWord_18 : decode cX12_isWord 18 = .ok (.goto 4, 3) := by decide +kernel
theorem dX12_isWord_21 : decode cX12_isWord 21 = .ok (.iconst 0, 1) := by decide +kernel
theorem dX12_isWord_22 : decode cX12_isWord 22 = .ok (.ireturn, 1) := by decide +kernel
theorem dX12_isSign_0 : decode cX12_isSign 0 = .ok (.aload_n 0, 1) := by decide +kernel
theorem dX12_isSign_1 : decode cX12_isSign 1 = .ok (.getfield 179, 3) := by decide +kernel
theorem dX12_isSign_4 : decode cX12_isSign 4 = .ok (.iconst 3, 1) := by decide +kernel
theorem dX12_isSign_5 : decode cX12_isSign 5 = .ok (.if_icmp .ne 15, 3) := by decide +kernel
theorem dX12_isSign_8 : decode cX12_isSign 8 = .ok (.aload_n 0, 1) := by decide +kernel
theorem dX12_isSign_9 : decode cX12_isSign 9 = .ok (.getfield 189, 3) := by decide +kernel
theorem dX12_isSign_12 : decode cX12_isSign 12 = .ok (.iload_n 1, 1) := by decide +kernel
theorem dX12_isSign_13 : decode cX12_isSign 13 = .ok (.if_icmp .ne 7, 3) := by decide +kernel
theorem dX12_isSign_16 : decode cX12_isSign 16 = .ok (.iconst 1, 1) := by decide +kernel
theorem dX12_isSign_17 : decode cX12_isSign 17 = .ok (.goto 4, 3) := by decide +kernel
theorem dX12_isSign_20 : decode cX12_isSign 20 = .ok (.iconst 0, 1) := by decide +kernel
theorem dX12_isSign_21 : decode cX12_isSign 21 = .ok (.ireturn, 1) := by decide +kernel
theorem dX12_sign_0 : decode cX12_sign 0 = .ok (.aload_n 0, 1) := by decide +kernel
theorem dX12_sign_1 : decode cX12_sign 1 = .ok (.iload_n 1, 1) := by decide +kernel
theorem dX12_sign_2 : decode cX12_sign 2 = .ok (.invokevirtual 202, 3) := by decide +kernel
theorem dX12_sign_5 : decode cX12_sign 5 = .ok (.ifCond .ne 9, 3) := by decide +kernel
theorem dX12_sign_8 : decode cX12_sign 8 = .ok (.aload_n 0, 1) := by decide +kernel
theorem dX12_sign_9 : decode cX12_sign 9 = .ok (.iconst 1, 1) := by decide +kernel
theorem dX12_sign_10 : decode cX12_sign 10 = .ok (.invokevirtual 205, 3) := by decide +kernel
theorem dX12_sign_13 : decode cX12_sign 13 = .ok (.ireturn, 1) := by decide +kernel
theorem dX12_sign_14 : decode cX12_sign 14 = .ok (.aload_n 0, 1) := by decide +kernel
theorem dX12_sign_15 : decode cX12_sign 15 = .ok (.invokevirtual 208, 3) := by decide +kernel
theorem dX12_sign_18 : decode cX12_sign 18 = .ok (.iconst 1, 1) := by decide +kernel
theorem dX12_sign_19 : decode cX12_sign 19 = .ok (.ireturn, 1) := by decide +kernel
theorem dX12_isName_0 : decode cX12_isName 0 = .ok (.aload_n 0, 1) := by decide +kernel
theorem dX12_isName_1 : decode cX12_isName 1 = .ok (.getfield 179, 3) := by decide +kernel
theorem dX12_isName_4 : decode cX12_isName 4 = .ok (.iconst 1, 1) := by decide +kernel
theorem dX12_isName_5 : decode cX12_isName 5 = .ok (.if_icmp .ne 7, 3) := by decide +kernel
theorem dX12_isName_8 : decode cX12_isName 8 = .ok (.iconst 1, 1) := by decide +kernel
theorem dX12_isName_9 : decode cX12_isName 9 = .ok (.goto 4, 3) := by decide +kernel
theorem dX12_isName_12 : decode cX12_isName 12 = .ok (.iconst 0, 1) := by decide +kernel
theorem dX12_isName_13 : decode cX12_isName 13 = .ok (.istore_n 1, 1) := by decide +kernel
theorem dX12_isName_14 : decode cX12_isName 14 = .ok (.iconst 0, 1) := by decide +kernel
theorem dX12_isName_15 : decode cX12_isName 15 = .ok (.istore_n 2, 1) := by decide +kernel
theorem dX12_isName_16 : decode cX12_isName 16 = .ok (.iload_n 2, 1) := by decide +kernel
theorem dX12_isName_17 : decode cX12_isName 17 = .ok (.bipush 32, 2) := by decide +kernel
theorem dX12_isName_19 : decode cX12_isName 19 = .ok (.if_icmp .ge 33, 3) := by decide +kernel
theorem dX12_isName_22 : decode cX12_isName 22 = .ok (.iload_n 1, 1) := by decide +kernel
theorem dX12_isName_23 : decode cX12_isName 23 = .ok (.ifCond .eq 21, 3) := by decide +kernel
theorem dX12_isName_26 : decode cX12_isName 26 = .ok (.aload_n 0, 1) := by decide +kernel
theorem dX12_isName_27 : decode cX12_isName 27 = .ok (.getfield 192, 3) := by decide +kernel
theorem dX12_isName_30 : decode cX12_isName 30 = .ok (.aload_n 0, 1) := by decide +kernel
theorem dX12_isName_31 : decode cX12_isName 31 = .ok (.getfield 47, 3) := by decide +kernel
theorem dX12_isName_34 : decode cX12_isName 34 = .ok (.iload_n 2, 1) := by decide +kernel
theorem dX12_isName_35 : decode cX12_isName 35 = .ok (.laload, 1) := by decide +kernel
theorem dX12_isName_36 : decode cX12_isName 36 = .ok (.lcmp, 1) := by decide +kernel
theorem dX12_isName_37 : decode cX12_isName 37 = .ok (.ifCond .eq 7, 3) := by decide +kernel
theorem dX12_isName_40 : decode cX12_isName 40 = .ok (.iconst 1, 1) := by decide +kernel
theorem dX12_isName_41 : decode cX12_isName 41 = .ok (.goto 4, 3) := by decide +kernel
theorem dX12_isName_44 : decode cX12_isName 44 = .ok (.iconst 0, 1) := by decide +kernel
theorem dX12_isName_45 : decode cX12_isName 45 = .ok (.istore_n 1, 1) := by decide +kernel
theorem dX12_isName_46 : decode cX12_isName 46 = .ok (.iinc 2 1, 3) := by decide +kernel
theorem dX12_isName_49 : decode cX12_isName 49 = .ok (.goto (-33), 3) := by decide +kernel
theorem dX12_isName_52 : decode cX12_isName 52 = .ok (.iload_n 1, 1) := by decide +kernel
theorem dX12_isName_53 : decode cX12_isName 53 = .ok (.ireturn, 1) := by decide +kernel
theorem dX12_takes_0 : decode cX12_takes 0 = .ok (.aload_n 0, 1) := by decide +kernel
theorem dX12_takes_1 : decode cX12_takes 1 = .ok (.getfield 179, 3) := by decide +kernel
theorem dX12_takes_4 : decode cX12_takes 4 = .ok (.iconst 2, 1) := by decide +kernel
theorem dX12_takes_5 : decode cX12_takes 5 = .ok (.if_icmp .eq 9, 3) := by decide +kernel
theorem dX12_takes_8 : decode cX12_takes 8 = .ok (.aload_n 0, 1) := by decide +kernel
theorem dX12_takes_9 : decode cX12_takes 9 = .ok (.iconst 1, 1) := by decide +kernel
theorem dX12_takes_10 : decode cX12_takes 10 = .ok (.invokevirtual 205, 3) := by decide +kernel
theorem dX12_takes_13 : decode cX12_takes 13 = .ok (.ireturn, 1) := by decide +kernel
theorem dX12_takes_14 : decode cX12_takes 14 = .ok (.aload_n 0, 1) := by decide +kernel
theorem dX12_takes_15 : decode cX12_takes 15 = .ok (.getfield 189, 3) := by decide +kernel
theorem dX12_takes_18 : decode cX12_takes 18 = .ok (.iload_n 1, 1) := by decide +kernel
theorem dX12_takes_19 : decode cX12_takes 19 = .ok (.iload_n 2, 1) := by decide +kernel
theorem dX12_takes_20 : decode cX12_takes 20 = .ok (.invokestatic 211, 3) := by decide +kernel
theorem dX12_takes_23 : decode cX12_takes 23 = .ok (.ifCond .ne 9, 3) := by decide +kernel
theorem dX12_takes_26 : decode cX12_takes 26 = .ok (.aload_n 0, 1) := by decide +kernel
theorem dX12_takes_27 : decode cX12_takes 27 = .ok (.iconst 2, 1) := by decide +kernel
theorem dX12_takes_28 : decode cX12_takes 28 = .ok (.invokevirtual 205, 3) := by decide +kernel
theorem dX12_takes_31 : decode cX12_takes 31 = .ok (.ireturn, 1) := by decide +kernel
theorem dX12_takes_32 : decode cX12_takes 32 = .ok (.aload_n 0, 1) := by decide +kernel
theorem dX12_takes_33 : decode cX12_takes 33 = .ok (.aload_n 0, 1) := by decide +kernel
theorem dX12_takes_34 : decode cX12_takes 34 = .ok (.getfield 189, 3) := by decide +kernel
theorem dX12_takes_37 : decode cX12_takes 37 = .ok (.putfield 215, 3) := by decide +kernel
theorem dX12_takes_40 : decode cX12_takes 40 = .ok (.aload_n 0, 1) := by decide +kernel
theorem dX12_takes_41 : decode cX12_takes 41 = .ok (.invokevirtual 208, 3) := by decide +kernel
theorem dX12_takes_44 : decode cX12_takes 44 = .ok (.iconst 1, 1) := by decide +kernel
theorem dX12_takes_45 : decode cX12_takes 45 = .ok (.ireturn, 1) := by decide +kernel
theorem dX12_puts_0 : decode cX12_puts 0 = .ok (.aload_n 0, 1) := by decide +kernel
theorem dX12_puts_1 : decode cX12_puts 1 = .ok (.iload_n 2, 1) := by decide +kernel
theorem dX12_puts_2 : decode cX12_puts 2 = .ok (.iload_n 3, 1) := by decide +kernel
theorem dX12_puts_3 : decode cX12_puts 3 = .ok (.invokevirtual 218, 3) := by decide +kernel
theorem dX12_puts_6 : decode cX12_puts 6 = .ok (.ifCond .ne 5, 3) := by decide +kernel
theorem dX12_puts_9 : decode cX12_puts 9 = .ok (.iconst 0, 1) := by decide +kernel
theorem dX12_puts_10 : decode cX12_puts 10 = .ok (.ireturn, 1) := by decide +kernel
theorem dX12_puts_11 : decode cX12_puts 11 = .ok (.aload_n 0, 1) := by decide +kernel
theorem dX12_puts_12 : decode cX12_puts 12 = .ok (.getfield 37, 3) := by decide +kernel
theorem dX12_puts_15 : decode cX12_puts 15 = .ok (.iload_n 1, 1) := by decide +kernel
theorem dX12_puts_16 : decode cX12_puts 16 = .ok (.aload_n 0, 1) := by decide +kernel
theorem dX12_puts_17 : decode cX12_puts 17 = .ok (.getfield 215, 3) := by decide +kernel
theorem dX12_puts_20 : decode cX12_puts 20 = .ok (.iastore, 1) := by decide +kernel
theorem dX12_puts_21 : decode cX12_puts 21 = .ok (.iconst 1, 1) := by decide +kernel
theorem dX12_puts_22 : decode cX12_puts 22 = .ok (.ireturn, 1) := by decide +kernel
theorem dX12_seek_0 : decode cX12_seek 0 = .ok (.iconst 0, 1) := by decide +kernel
theorem dX12_seek_1 : decode cX12_seek 1 = .ok (.istore_n 3, 1) := by decide +kernel
theorem dX12_seek_2 : decode cX12_seek 2 = .ok (.iload_n 3, 1) := by decide +kernel
theorem dX12_seek_3 : decode cX12_seek 3 = .ok (.iload_n 2, 1) := by decide +kernel
theorem dX12_seek_4 : decode cX12_seek 4 = .ok (.if_icmp .ge 27, 3) := by decide +kernel
theorem dX12_seek_7 : decode cX12_seek 7 = .ok (.aload_n 0, 1) := by decide +kernel
theorem dX12_seek_8 : decode cX12_seek 8 = .ok (.getfield 43, 3) := by decide +kernel
theorem dX12_seek_11 : decode cX12_seek 11 = .ok (.iload_n 1, 1) := by decide +kernel
theorem dX12_seek_12 : decode cX12_seek 12 = .ok (.iload_n 3, 1) := by decide +kernel
theorem dX12_seek_13 : decode cX12_seek 13 = .ok (.iadd, 1) := by decide +kernel
theorem dX12_seek_14 : decode cX12_seek 14 = .ok (.laload, 1) := by decide +kernel
theorem dX12_seek_15 : decode cX12_seek 15 = .ok (.aload_n 0, 1) := by decide +kernel
theorem dX12_seek_16 : decode cX12_seek 16 = .ok (.getfield 192, 3) := by decide +kernel
theorem dX12_seek_19 : decode cX12_seek 19 = .ok (.lcmp, 1) := by decide +kernel
theorem dX12_seek_20 : decode cX12_seek 20 = .ok (.ifCond .ne 5, 3) := by decide +kernel
theorem dX12_seek_23 : decode cX12_seek 23 = .ok (.iload_n 3, 1) := by decide +kernel
theorem dX12_seek_24 : decode cX12_seek 24 = .ok (.ireturn, 1) := by decide +kernel
theorem dX12_seek_25 : decode cX12_seek 25 = .ok (.iinc 3 1, 3) := by decide +kernel
theorem dX12_seek_28 : decode cX12_seek 28 = .ok (.goto (-26), 3) := by decide +kernel
theorem dX12_seek_31 : decode cX12_seek 31 = .ok (.iconst (-1), 1) := by decide +kernel
theorem dX12_seek_32 : decode cX12_seek 32 = .ok (.ireturn, 1) := by decide +kernel
theorem dX12_fresh_0 : decode cX12_fresh 0 = .ok (.aload_n 0, 1) := by decide +kernel
theorem dX12_fresh_1 : decode cX12_fresh 1 = .ok (.invokevirtual 222, 3) := by decide +kernel
theorem dX12_fresh_4 : decode cX12_fresh 4 = .ok (.ifCond .ne 9, 3) := by decide +kernel
theorem dX12_fresh_7 : decode cX12_fresh 7 = .ok (.aload_n 0, 1) := by decide +kernel
theorem dX12_fresh_8 : decode cX12_fresh 8 = .ok (.iconst 1, 1) := by decide +kernel
theorem dX12_fresh_9 : decode cX12_fresh 9 = .ok (.invokevirtual 205, 3) := by decide +kernel
theorem dX12_fresh_12 : decode cX12_fresh 12 = .ok (.ireturn, 1) := by decide +kernel
theorem dX12_fresh_13 : decode cX12_fresh 13 = .ok (.aload_n 0, 1) := by decide +kernel
theorem dX12_fresh_14 : decode cX12_fresh 14 = .ok (.bipush 41, 2) := by decide +kernel
theorem dX12_fresh_16 : decode cX12_fresh 16 = .ok (.aload_n 0, 1) := by decide +kernel
theorem dX12_fresh_17 : decode cX12_fresh 17 = .ok (.getfield 37, 3) := by decide +kernel
theorem dX12_fresh_20 : decode cX12_fresh 20 = .ok (.iconst 0, 1) := by decide +kernel
theorem dX12_fresh_21 : decode cX12_fresh 21 = .ok (.iaload, 1) := by decide +kernel
theorem dX12_fresh_22 : decode cX12_fresh 22 = .ok (.invokevirtual 226, 3) := by decide +kernel
theorem dX12_fresh_25 : decode cX12_fresh 25 = .ok (.ifCond .ge 64, 3) := by decide +kernel
theorem dX12_fresh_28 : decode cX12_fresh 28 = .ok (.aload_n 0, 1) := by decide +kernel
theorem dX12_fresh_29 : decode cX12_fresh 29 = .ok (.bipush 53, 2) := by decide +kernel
theorem dX12_fresh_31 : decode cX12_fresh 31 = .ok (.aload_n 0, 1) := by decide +kernel
theorem dX12_fresh_32 : decode cX12_fresh 32 = .ok (.getfield 37, 3) := by decide +kernel
theorem dX12_fresh_35 : decode cX12_fresh 35 = .ok (.iconst 1, 1) := by decide +kernel
theorem dX12_fresh_36 : decode cX12_fresh 36 = .ok (.iaload, 1) := by decide +kernel
theorem dX12_fresh_37 : decode cX12_fresh 37 = .ok (.invokevirtual 226, 3) := by decide +kernel
theorem dX12_fresh_40 : decode cX12_fresh 40 = .ok (.ifCond .ge 49, 3) := by decide +kernel
theorem dX12_fresh_43 : decode cX12_fresh 43 = .ok (.aload_n 0, 1) := by decide +kernel
theorem dX12_fresh_44 : decode cX12_fresh 44 = .ok (.bipush 59, 2) := by decide +kernel
theorem dX12_fresh_46 : decode cX12_fresh 46 = .ok (.aload_n 0, 1) := by decide +kernel
theorem dX12_fresh_47 : decode cX12_fresh 47 = .ok (.getfield 37, 3) := by decide +kernel
theorem dX12_fresh_50 : decode cX12_fresh 50 = .ok (.iconst 3, 1) := by decide +kernel
theorem dX12_fresh_51 : decode cX12_fresh 51 = .ok (.iaload, 1) := by decide +kernel
theorem dX12_fresh_52 : decode cX12_fresh 52 = .ok (.invokevirtual 226, 3) := by decide +kernel
theorem dX12_fresh_55 : decode cX12_fresh 55 = .ok (.ifCond .ge 34, 3) := by decide +kernel
theorem dX12_fresh_58 : decode cX12_fresh 58 = .ok (.aload_n 0, 1) := by decide +kernel
theorem dX12_fresh_59 : decode cX12_fresh 59 = .ok (.bipush 67, 2) := by decide +kernel
theorem dX12_fresh_61 : decode cX12_fresh 61 = .ok (.aload_n 0, 1) := by decide +kernel
theorem dX12_fresh_62 : decode cX12_fresh 62 = .ok (.getfield 37, 3) := by decide +kernel
theorem dX12_fresh_65 : decode cX12_fresh 65 = .ok (.iconst 4, 1) := by decide +kernel
theorem dX12_fresh_66 : decode cX12_fresh 66 = .ok (.iaload, 1) := by decide +kernel
theorem dX12_fresh_67 : decode cX12_fresh 67 = .ok (.invokevirtual 226, 3) := by decide +kernel
theorem dX12_fresh_70 : decode cX12_fresh 70 = .ok (.ifCond .ge 19, 3) := by decide +kernel
theorem dX12_fresh_73 : decode cX12_fresh 73 = .ok (.aload_n 0, 1) := by decide +kernel
theorem dX12_fresh_74 : decode cX12_fresh 74 = .ok (.bipush 77, 2) := by decide +kernel
theorem dX12_fresh_76 : decode cX12_fresh 76 = .ok (.aload_n 0, 1) := by decide +kernel
theorem dX12_fresh_77 : decode cX12_fresh 77 = .ok (.getfield 37, 3) := by decide +kernel
theorem dX12_fresh_80 : decode cX12_fresh 80 = .ok (.bipush 6, 2) := by decide +kernel
theorem dX12_fresh_82 : decode cX12_fresh 82 = .ok (.iaload, 1) := by decide +kernel
theorem dX12_fresh_83 : decode cX12_fresh 83 = .ok (.invokevirtual 226, 3) := by decide +kernel
theorem dX12_fresh_86 : decode cX12_fresh 86 = .ok (.ifCond .lt 9, 3) := by decide +kernel
theorem dX12_fresh_89 : decode cX12_fresh 89 = .ok (.aload_n 0, 1) := by decide +kernel
theorem dX12_fresh_90 : decode cX12_fresh 90 = .ok (.iconst 3, 1) := by decide +kernel
theorem dX12_fresh_91 : decode cX12_fresh 91 = .ok (.invokevirtual 205, 3) := by decide +kernel
theorem dX12_fresh_94 : decode cX12_fresh 94 = .ok (.ireturn, 1) := by decide +kernel
theorem dX12_fresh_95 : decode cX12_fresh 95 = .ok (.aload_n 0, 1) := by decide +kernel
theorem dX12_fresh_96 : decode cX12_fresh 96 = .ok (.getfield 43, 3) := by decide +kernel
theorem dX12_fresh_99 : decode cX12_fresh 99 = .ok (.iload_n 1, 1) := by decide +kernel
theorem dX12_fresh_100 : decode cX12_fresh 100 = .ok (.aload_n 0, 1) := by decide +kernel
theorem dX12_fresh_101 : decode cX12_fresh 101 = .ok (.getfield 192, 3) := by decide +kernel
theorem dX12_fresh_104 : decode cX12_fresh 104 = .ok (.lastore, 1) := by decide +kernel
theorem dX12_fresh_105 : decode cX12_fresh 105 = .ok (.aload_n 0, 1) := by decide +kernel
theorem dX12_fresh_106 : decode cX12_fresh 106 = .ok (.invokevirtual 208, 3) := by decide +kernel
theorem dX12_fresh_109 : decode cX12_fresh 109 = .ok (.iconst 1, 1) := by decide +kernel
theorem dX12_fresh_110 : decode cX12_fresh 110 = .ok (.ireturn, 1) := by decide +kernel
theorem dX12_looksAt_0 : decode cX12_looksAt 0 = .ok (.aload_n 0, 1) := by decide +kernel
theorem dX12_looksAt_1 : decode cX12_looksAt 1 = .ok (.invokevirtual 222, 3) := by decide +kernel
theorem dX12_looksAt_4 : decode cX12_looksAt 4 = .ok (.ifCond .ne 9, 3) := by decide +kernel
theorem dX12_looksAt_7 : decode cX12_looksAt 7 = .ok (.aload_n 0, 1) := by decide +kernel
theorem dX12_looksAt_8 : decode cX12_looksAt 8 = .ok (.iconst 1, 1) := by decide +kernel
theorem dX12_looksAt_9 : decode cX12_looksAt 9 = .ok (.invokevirtual 205, 3) := by decide +kernel
theorem dX12_looksAt_12 : decode cX12_looksAt 12 = .ok (.ireturn, 1) := by decide +kernel
theorem dX12_looksAt_13 : decode cX12_looksAt 13 = .ok (.aload_n 0, 1) := by decide +kernel
theorem dX12_looksAt_14 : decode cX12_looksAt 14 = .ok (.aload_n 0, 1) := by decide +kernel
theorem dX12_looksAt_15 : decode cX12_looksAt 15 = .ok (.iload_n 1, 1) := by decide +kernel
theorem dX12_looksAt_16 : decode cX12_looksAt 16 = .ok (.iload_n 2, 1) := by decide +kernel
theorem dX12_looksAt_17 : decode cX12_looksAt 17 = .ok (.invokevirtual 226, 3) := by decide +kernel
theorem dX12_looksAt_20 : decode cX12_looksAt 20 = .ok (.putfield 215, 3) := by decide +kernel
theorem dX12_looksAt_23 : decode cX12_looksAt 23 = .ok (.aload_n 0, 1) := by decide +kernel
theorem dX12_looksAt_24 : decode cX12_looksAt 24 = .ok (.getfield 215, 3) := by decide +kernel
theorem dX12_looksAt_27 : decode cX12_looksAt 27 = .ok (.ifCond .ge 11, 3) := by decide +kernel
theorem dX12_looksAt_30 : decode cX12_looksAt 30 = .ok (.aload_n 0, 1) := by decide +kernel
theorem dX12_looksAt_31 : decode cX12_looksAt 31 = .ok (.iconst 3, 1) := by decide +kernel
theorem dX12_looksAt_32 : decode cX12_looksAt 32 = .ok (.invokevirtual 205, 3) := by decide +kernel
theorem dX12_looksAt_35 : decode cX12_looksAt 35 = .ok (.ifCond .eq 7, 3) := by decide +kernel
theorem dX12_looksAt_38 : decode cX12_looksAt 38 = .ok (.iconst 1, 1) := by decide +kernel
theorem dX12_looksAt_39 : decode cX12_looksAt 39 = .ok (.goto 4, 3) := by decide +kernel
theorem dX12_looksAt_42 : decode cX12_looksAt 42 = .ok (.iconst 0, 1) := by decide +kernel
theorem dX12_looksAt_43 : decode cX12_looksAt 43 = .ok (.ireturn, 1) := by decide +kernel
theorem dX12_takesName_0 : decode cX12_takesName 0 = .ok (.aload_n 0, 1) := by decide +kernel
theorem dX12_takesName_1 : decode cX12_takesName 1 = .ok (.iload_n 1, 1) := by decide +kernel
theorem dX12_takesName_2 : decode cX12_takesName 2 = .ok (.iload_n 2, 1) := by decide +kernel
theorem dX12_takesName_3 : decode cX12_takesName 3 = .ok (.invokevirtual 230, 3) := by decide +kernel
theorem dX12_takesName_6 : decode cX12_takesName 6 = .ok (.ifCond .ne 5, 3) := by decide +kernel
theorem dX12_takesName_9 : decode cX12_takesName 9 = .ok (.iconst 0, 1) := by decide +kernel
theorem dX12_takesName_10 : decode cX12_takesName 10 = .ok (.ireturn, 1) := by decide +kernel
theorem dX12_takesName_11 : decode cX12_takesName 11 = .ok (.aload_n 0, 1) := by decide +kernel
theorem dX12_takesName_12 : decode cX12_takesName 12 = .ok (.invokevirtual 208, 3) := by decide +kernel
theorem dX12_takesName_15 : decode cX12_takesName 15 = .ok (.iconst 1, 1) := by decide +kernel
theorem dX12_takesName_16 : decode cX12_takesName 16 = .ok (.ireturn, 1) := by decide +kernel
theorem dX12_readLine_0 : decode cX12_readLine 0 = .ok (.aload_n 0, 1) := by decide +kernel
theorem dX12_readLine_1 : decode cX12_readLine 1 = .ok (.ldc2_w 102, 3) := by decide +kernel
theorem dX12_readLine_4 : decode cX12_readLine 4 = .ok (.invokevirtual 233, 3) := by decide +kernel
theorem dX12_readLine_7 : decode cX12_readLine 7 = .ok (.ifCond .eq 8, 3) := by decide +kernel
theorem dX12_readLine_10 : decode cX12_readLine 10 = .ok (.aload_n 0, 1) := by decide +kernel
theorem dX12_readLine_11 : decode cX12_readLine 11 = .ok (.invokevirtual 237, 3) := by decide +kernel
theorem dX12_readLine_14 : decode cX12_readLine 14 = .ok (.ireturn, 1) := by decide +kernel
theorem dX12_readLine_15 : decode cX12_readLine 15 = .ok (.aload_n 0, 1) := by decide +kernel
theorem dX12_readLine_16 : decode cX12_readLine 16 = .ok (.ldc2_w 104, 3) := by decide +kernel
theorem dX12_readLine_19 : decode cX12_readLine 19 = .ok (.invokevirtual 233, 3) := by decide +kernel
theorem dX12_readLine_22 : decode cX12_readLine 22 = .ok (.ifCond .eq 8, 3) := by decide +kernel
theorem dX12_readLine_25 : decode cX12_readLine 25 = .ok (.aload_n 0, 1) := by decide +kernel
theorem dX12_readLine_26 : decode cX12_readLine 26 = .ok (.invokevirtual 240, 3) := by decide +kernel
theorem dX12_readLine_29 : decode cX12_readLine 29 = .ok (.ireturn, 1) := by decide +kernel
theorem dX12_readLine_30 : decode cX12_readLine 30 = .ok (.aload_n 0, 1) := by decide +kernel
theorem dX12_readLine_31 : decode cX12_readLine 31 = .ok (.ldc2_w 106, 3) := by decide +kernel
theorem dX12_readLine_34 : decode cX12_readLine 34 = .ok (.invokevirtual 233, 3) := by decide +kernel
theorem dX12_readLine_37 : decode cX12_readLine 37 = .ok (.ifCond .eq 8, 3) := by decide +kernel
theorem dX12_readLine_40 : decode cX12_readLine 40 = .ok (.aload_n 0, 1) := by decide +kernel
theorem dX12_readLine_41 : decode cX12_readLine 41 = .ok (.invokevirtual 243, 3) := by decide +kernel
theorem dX12_readLine_44 : decode cX12_readLine 44 = .ok (.ireturn, 1) := by decide +kernel
theorem dX12_readLine_45 : decode cX12_readLine 45 = .ok (.aload_n 0, 1) := by decide +kernel
theorem dX12_readLine_46 : decode cX12_readLine 46 = .ok (.ldc2_w 108, 3) := by decide +kernel
theorem dX12_readLine_49 : decode cX12_readLine 49 = .ok (.invokevirtual 233, 3) := by decide +kernel
theorem dX12_readLine_52 : decode cX12_readLine 52 = .ok (.ifCond .eq 8, 3) := by decide +kernel
theorem dX12_readLine_55 : decode cX12_readLine 55 = .ok (.aload_n 0, 1) := by decide +kernel
theorem dX12_readLine_56 : decode cX12_readLine 56 = .ok (.invokevirtual 246, 3) := by decide +kernel
theorem dX12_readLine_59 : decode cX12_readLine 59 = .ok (.ireturn, 1) := by decide +kernel
theorem dX12_readLine_60 : decode cX12_readLine 60 = .ok (.aload_n 0, 1) := by decide +kernel
theorem dX12_readLine_61 : decode cX12_readLine 61 = .ok (.ldc2_w 110, 3) := by decide +kernel
theorem dX12_readLine_64 : decode cX12_readLine 64 = .ok (.invokevirtual 233, 3) := by decide +kernel
theorem dX12_readLine_67 : decode cX12_readLine 67 = .ok (.ifCond .eq 8, 3) := by decide +kernel
theorem dX12_readLine_70 : decode cX12_readLine 70 = .ok (.aload_n 0, 1) := by decide +kernel
theorem dX12_readLine_71 : decode cX12_readLine 71 = .ok (.invokevirtual 249, 3) := by decide +kernel
theorem dX12_readLine_74 : decode cX12_readLine 74 = .ok (.ireturn, 1) := by decide +kernel
theorem dX12_readLine_75 : decode cX12_readLine 75 = .ok (.aload_n 0, 1) := by decide +kernel
theorem dX12_readLine_76 : decode cX12_readLine 76 = .ok (.ldc2_w 112, 3) := by decide +kernel
theorem dX12_readLine_79 : decode cX12_readLine 79 = .ok (.invokevirtual 233, 3) := by decide +kernel
theorem dX12_readLine_82 : decode cX12_readLine 82 = .ok (.ifCond .eq 8, 3) := by decide +kernel
theorem dX12_readLine_85 : decode cX12_readLine 85 = .ok (.aload_n 0, 1) := by decide +kernel
theorem dX12_readLine_86 : decode cX12_readLine 86 = .ok (.invokevirtual 252, 3) := by decide +kernel
theorem dX12_readLine_89 : decode cX12_readLine 89 = .ok (.ireturn, 1) := by decide +kernel
theorem dX12_readLine_90 : decode cX12_readLine 90 = .ok (.aload_n 0, 1) := by decide +kernel
theorem dX12_readLine_91 : decode cX12_readLine 91 = .ok (.ldc2_w 114, 3) := by decide +kernel
theorem dX12_readLine_94 : decode cX12_readLine 94 = .ok (.invokevirtual 233, 3) := by decide +kernel
theorem dX12_readLine_97 : decode cX12_readLine 97 = .ok (.ifCond .eq 8, 3) := by decide +kernel
theorem dX12_readLine_100 : decode cX12_readLine 100 = .ok (.aload_n 0, 1) := by decide +kernel
theorem dX12_readLine_101 : decode cX12_readLine 101 = .ok (.invokevirtual 255, 3) := by decide +kernel
theorem dX12_readLine_104 : decode cX12_readLine 104 = .ok (.ireturn, 1) := by decide +kernel
theorem dX12_readLine_105 : decode cX12_readLine 105 = .ok (.aload_n 0, 1) := by decide +kernel
theorem dX12_readLine_106 : decode cX12_readLine 106 = .ok (.ldc2_w 116, 3) := by decide +kernel
theorem dX12_readLine_109 : decode cX12_readLine 109 = .ok (.invokevirtual 233, 3) := by decide +kernel
theorem dX12_readLine_112 : decode cX12_readLine 112 = .ok (.ifCond .eq 8, 3) := by decide +kernel
theorem dX12_readLine_115 : decode cX12_readLine 115 = .ok (.aload_n 0, 1) := by decide +kernel
theorem dX12_readLine_116 : decode cX12_readLine 116 = .ok (.invokevirtual 258, 3) := by decide +kernel
theorem dX12_readLine_119 : decode cX12_readLine 119 = .ok (.ireturn, 1) := by decide +kernel
theorem dX12_readLine_120 : decode cX12_readLine 120 = .ok (.aload_n 0, 1) := by decide +kernel
theorem dX12_readLine_121 : decode cX12_readLine 121 = .ok (.ldc2_w 118, 3) := by decide +kernel
theorem dX12_readLine_124 : decode cX12_readLine 124 = .ok (.invokevirtual 233, 3) := by decide +kernel
theorem dX12_readLine_127 : decode cX12_readLine 127 = .ok (.ifCond .ne 9, 3) := by decide +kernel
theorem dX12_readLine_130 : decode cX12_readLine 130 = .ok (.aload_n 0, 1) := by decide +kernel
theorem dX12_readLine_131 : decode cX12_readLine 131 = .ok (.iconst 1, 1) := by decide +kernel
theorem dX12_readLine_132 : decode cX12_readLine 132 = .ok (.invokevirtual 205, 3) := by decide +kernel
theorem dX12_readLine_135 : decode cX12_readLine 135 = .ok (.ireturn, 1) := by decide +kernel
theorem dX12_readLine_136 : decode cX12_readLine 136 = .ok (.aload_n 0, 1) := by decide +kernel
theorem dX12_readLine_137 : decode cX12_readLine 137 = .ok (.getfield 261, 3) := by decide +kernel
theorem dX12_readLine_140 : decode cX12_readLine 140 = .ok (.ifCond .eq 9, 3) := by decide +kernel
theorem dX12_readLine_143 : decode cX12_readLine 143 = .ok (.aload_n 0, 1) := by decide +kernel
theorem dX12_readLine_144 : decode cX12_readLine 144 = .ok (.iconst 3, 1) := by decide +kernel
theorem dX12_readLine_145 : decode cX12_readLine 145 = .ok (.invokevirtual 205, 3) := by decide +kernel
theorem dX12_readLine_148 : decode cX12_readLine 148 = .ok (.ireturn, 1) := by decide +kernel
theorem dX12_readLine_149 : decode cX12_readLine 149 = .ok (.aload_n 0, 1) := by decide +kernel
theorem dX12_readLine_150 : decode cX12_readLine 150 = .ok (.iconst 1, 1) := by decide +kernel
theorem dX12_readLine_151 : decode cX12_readLine 151 = .ok (.putfield 261, 3) := by decide +kernel
theorem dX12_readLine_154 : decode cX12_readLine 154 = .ok (.aload_n 0, 1) := by decide +kernel
theorem dX12_readLine_155 : decode cX12_readLine 155 = .ok (.invokevirtual 208, 3) := by decide +kernel
theorem dX12_readLine_158 : decode cX12_readLine 158 = .ok (.aload_n 0, 1) := by decide +kernel
theorem dX12_readLine_159 : decode cX12_readLine 159 = .ok (.bipush 7, 2) := by decide +kernel
theorem dX12_readLine_161 : decode cX12_readLine 161 = .ok (.iconst 1, 1) := by decide +kernel
theorem dX12_readLine_162 : decode cX12_readLine 162 = .ok (.bipush 30, 2) := by decide +kernel
theorem dX12_readLine_164 : decode cX12_readLine 164 = .ok (.invokevirtual 265, 3) := by decide +kernel
theorem dX12_readLine_167 : decode cX12_readLine 167 = .ok (.ireturn, 1) := by decide +kernel
theorem dX12_readSection_0 : decode cX12_readSection 0 = .ok (.aload_n 0, 1) := by decide +kernel
theorem dX12_readSection_1 : decode cX12_readSection 1 = .ok (.getfield 37, 3) := by decide +kernel
theorem dX12_readSection_4 : decode cX12_readSection 4 = .ok (.iconst 0, 1) := by decide +kernel
theorem dX12_readSection_5 : decode cX12_readSection 5 = .ok (.iaload, 1) := by decide +kernel
theorem dX12_readSection_6 : decode cX12_readSection 6 = .ok (.istore_n 1, 1) := by decide +kernel
theorem dX12_readSection_7 : decode cX12_readSection 7 = .ok (.iload_n 1, 1) := by decide +kernel
theorem dX12_readSection_8 : decode cX12_readSection 8 = .ok (.bipush 12, 2) := by decide +kernel
theorem dX12_readSection_10 : decode cX12_readSection 10 = .ok (.if_icmp .ne 9, 3) := by decide +kernel
theorem dX12_readSection_13 : decode cX12_readSection 13 = .ok (.aload_n 0, 1) := by decide +kernel
theorem dX12_readSection_14 : decode cX12_readSection 14 = .ok (.iconst 4, 1) := by decide +kernel
theorem dX12_readSection_15 : decode cX12_readSection 15 = .ok (.invokevirtual 205, 3) := by decide +kernel
theorem dX12_readSection_18 : decode cX12_readSection 18 = .ok (.ireturn, 1) := by decide +kernel
theorem dX12_readSection_19 : decode cX12_readSection 19 = .ok (.aload_n 0, 1) := by decide +kernel
theorem dX12_readSection_20 : decode cX12_readSection 20 = .ok (.invokevirtual 208, 3) := by decide +kernel
theorem dX12_readSection_23 : decode cX12_readSection 23 = .ok (.aload_n 0, 1) := by decide +kernel
theorem dX12_readSection_24 : decode cX12_readSection 24 = .ok (.bipush 41, 2) := by decide +kernel
theorem dX12_readSection_26 : decode cX12_readSection 26 = .ok (.iload_n 1, 1) := by decide +kernel
theorem dX12_readSection_27 : decode cX12_readSection 27 = .ok (.iadd, 1) := by decide +kernel
theorem dX12_readSection_28 : decode cX12_readSection 28 = .ok (.invokevirtual 268, 3) := by decide +kernel
theorem dX12_readSection_31 : decode cX12_readSection 31 = .ok (.ifCond .eq 17, 3) := by decide +kernel
theorem dX12_readSection_34 : decode cX12_readSection 34 = .ok (.aload_n 0, 1) := by decide +kernel
theorem dX12_readSection_35 : decode cX12_readSection 35 = .ok (.bipush 8, 2) := by decide +kernel
theorem dX12_readSection_37 : decode cX12_readSection 37 = .ok (.iload_n 1, 1) := by decide +kernel
theorem dX12_readSection_38 : decode cX12_readSection 38 = .ok (.iadd, 1) := by decide +kernel
theorem dX12_readSection_39 : decode cX12_readSection 39 = .ok (.iconst 1, 1) := by decide +kernel
theorem dX12_readSection_40 : decode cX12_readSection 40 = .ok (.bipush 30, 2) := by decide +kernel
theorem dX12_readSection_42 : decode cX12_readSection 42 = .ok (.invokevirtual 265, 3) := by decide +kernel
theorem dX12_readSection_45 : decode cX12_readSection 45 = .ok (.ifCond .ne 5, 3) := by decide +kernel
theorem dX12_readSection_48 : decode cX12_readSection 48 = .ok (.iconst 0, 1) := by decide +kernel
theorem dX12_readSection_49 : decode cX12_readSection 49 = .ok (.ireturn, 1) := by decide +kernel
theorem dX12_readSection_50 : decode cX12_readSection 50 = .ok (.aload_n 0, 1) := by decide +kernel
theorem dX12_readSection_51 : decode cX12_readSection 51 = .ok (.getfield 37, 3) := by decide +kernel
theorem dX12_readSection_54 : decode cX12_readSection 54 = .ok (.iconst 0, 1) := by decide +kernel
theorem dX12_readSection_55 : decode cX12_readSection 55 = .ok (.dup2, 1) := by decide +kernel
theorem dX12_readSection_56 : decode cX12_readSection 56 = .ok (.iaload, 1) := by decide +kernel
theorem dX12_readSection_57 : decode cX12_readSection 57 = .ok (.iconst 1, 1) := by decide +kernel
theorem dX12_readSection_58 : decode cX12_readSection 58 = .ok (.iadd, 1) := by decide +kernel
theorem dX12_readSection_59 : decode cX12_readSection 59 = .ok (.iastore, 1) := by decide +kernel
theorem dX12_readSection_60 : decode cX12_readSection 60 = .ok (.iconst 1, 1) := by decide +kernel
theorem dX12_readSection_61 : decode cX12_readSection 61 = .ok (.ireturn, 1) := by decide +kernel
theorem dX12_readPoints_0 : decode cX12_readPoints 0 = .ok (.aload_n 0, 1) := by decide +kernel
theorem dX12_readPoints_1 : decode cX12_readPoints 1 = .ok (.getfield 37, 3) := by decide +kernel
theorem dX12_readPoints_4 : decode cX12_readPoints 4 = .ok (.iconst 1, 1) := by decide +kernel
theorem dX12_readPoints_5 : decode cX12_readPoints 5 = .ok (.iaload, 1) := by decide +kernel
theorem dX12_readPoints_6 : decode cX12_readPoints 6 = .ok (.istore_n 1, 1) := by decide +kernel
theorem dX12_readPoints_7 : decode cX12_readPoints 7 = .ok (.iload_n 1, 1) := by decide +kernel
theorem dX12_readPoints_8 : decode cX12_readPoints 8 = .ok (.bipush 6, 2) := by decide +kernel
theorem dX12_readPoints_10 : decode cX12_readPoints 10 = .ok (.if_icmp .ne 9, 3) := by decide +kernel
theorem dX12_readPoints_13 : decode cX12_readPoints 13 = .ok (.aload_n 0, 1) := by decide +kernel
theorem dX12_readPoints_14 : decode cX12_readPoints 14 = .ok (.iconst 4, 1) := by decide +kernel
theorem dX12_readPoints_15 : decode cX12_readPoints 15 = .ok (.invokevirtual 205, 3) := by decide +kernel
theorem dX12_readPoints_18 : decode cX12_readPoints 18 = .ok (.ireturn, 1) := by decide +kernel
theorem dX12_readPoints_19 : decode cX12_readPoints 19 = .ok (.aload_n 0, 1) := by decide +kernel
theorem dX12_readPoints_20 : decode cX12_readPoints 20 = .ok (.invokevirtual 208, 3) := by decide +kernel
theorem dX12_readPoints_23 : decode cX12_readPoints 23 = .ok (.aload_n 0, 1) := by decide +kernel
theorem dX12_readPoints_24 : decode cX12_readPoints 24 = .ok (.bipush 53, 2) := by decide +kernel
theorem dX12_readPoints_26 : decode cX12_readPoints 26 = .ok (.iload_n 1, 1) := by decide +kernel
theorem dX12_readPoints_27 : decode cX12_readPoints 27 = .ok (.iadd, 1) := by decide +kernel
theorem dX12_readPoints_28 : decode cX12_readPoints 28 = .ok (.invokevirtual 268, 3) := by decide +kernel
theorem dX12_readPoints_31 : decode cX12_readPoints 31 = .ok (.ifCond .eq 18, 3) := by decide +kernel
theorem dX12_readPoints_34 : decode cX12_readPoints 34 = .ok (.aload_n 0, 1) := by decide +kernel
theorem dX12_readPoints_35 : decode cX12_readPoints 35 = .ok (.bipush 41, 2) := by decide +kernel
theorem dX12_readPoints_37 : decode cX12_readPoints 37 = .ok (.aload_n 0, 1) := by decide +kernel
theorem dX12_readPoints_38 : decode cX12_readPoints 38 = .ok (.getfield 37, 3) := by decide +kernel
theorem dX12_readPoints_41 : decode cX12_readPoints 41 = .ok (.iconst 0, 1) := by decide +kernel
theorem dX12_readPoints_42 : decode cX12_readPoints 42 = .ok (.iaload, 1) := by decide +kernel
theorem dX12_readPoints_43 : decode cX12_readPoints 43 = .ok (.invokevirtual 271, 3) := by decide +kernel
theorem dX12_readPoints_46 : decode cX12_readPoints 46 = .ok (.ifCond .ne 5, 3) := by decide +kernel
theorem dX12_readPoints_49 : decode cX12_readPoints 49 = .ok (.iconst 0, 1) := by decide +kernel
theorem dX12_readPoints_50 : decode cX12_readPoints 50 = .ok (.ireturn, 1) := by decide +kernel
theorem dX12_readPoints_51 : decode cX12_readPoints 51 = .ok (.aload_n 0, 1) := by decide +kernel
theorem dX12_readPoints_52 : decode cX12_readPoints 52 = .ok (.getfield 37, 3) := by decide +kernel
theorem dX12_readPoints_55 : decode cX12_readPoints 55 = .ok (.bipush 20, 2) := by decide +kernel
theorem dX12_readPoints_57 : decode cX12_readPoints 57 = .ok (.iload_n 1, 1) := by decide +kernel
theorem dX12_readPoints_58 : decode cX12_readPoints 58 = .ok (.iadd, 1) := by decide +kernel
theorem dX12_readPoints_59 : decode cX12_readPoints 59 = .ok (.aload_n 0, 1) := by decide +kernel
theorem dX12_readPoints_60 : decode cX12_readPoints 60 = .ok (.getfield 215, 3) := by decide +kernel
theorem dX12_readPoints_63 : decode cX12_readPoints 63 = .ok (.iastore, 1) := by decide +kernel
theorem dX12_readPoints_64 : decode cX12_readPoints 64 = .ok (.aload_n 0, 1) := by decide +kernel
theorem dX12_readPoints_65 : decode cX12_readPoints 65 = .ok (.getfield 37, 3) := by decide +kernel
theorem dX12_readPoints_68 : decode cX12_readPoints 68 = .ok (.iconst 1, 1) := by decide +kernel
theorem dX12_readPoints_69 : decode cX12_readPoints 69 = .ok (.dup2, 1) := by decide +kernel
theorem dX12_readPoints_70 : decode cX12_readPoints 70 = .ok (.iaload, 1) := by decide +kernel
theorem dX12_readPoints_71 : decode cX12_readPoints 71 = .ok (.iconst 1, 1) := by decide +kernel
theorem dX12_readPoints_72 : decode cX12_readPoints 72 = .ok (.iadd, 1) := by decide +kernel
theorem dX12_readPoints_73 : decode cX12_readPoints 73 = .ok (.iastore, 1) := by decide +kernel
theorem dX12_readPoints_74 : decode cX12_readPoints 74 = .ok (.iconst 1, 1) := by decide +kernel
theorem dX12_readPoints_75 : decode cX12_readPoints 75 = .ok (.ireturn, 1) := by decide +kernel
theorem dX12_readTrack_0 : decode cX12_readTrack 0 = .ok (.aload_n 0, 1) := by decide +kernel
theorem dX12_readTrack_1 : decode cX12_readTrack 1 = .ok (.getfield 37, 3) := by decide +kernel
theorem dX12_readTrack_4 : decode cX12_readTrack 4 = .ok (.iconst 2, 1) := by decide +kernel
theorem dX12_readTrack_5 : decode cX12_readTrack 5 = .ok (.iaload, 1) := by decide +kernel
theorem dX12_readTrack_6 : decode cX12_readTrack 6 = .ok (.istore_n 1, 1) := by decide +kernel
theorem dX12_readTrack_7 : decode cX12_readTrack 7 = .ok (.iload_n 1, 1) := by decide +kernel
theorem dX12_readTrack_8 : decode cX12_readTrack 8 = .ok (.bipush 16, 2) := by decide +kernel
theorem dX12_readTrack_10 : decode cX12_readTrack 10 = .ok (.if_icmp .ne 9, 3) := by decide +kernel
theorem dX12_readTrack_13 : decode cX12_readTrack 13 = .ok (.aload_n 0, 1) := by decide +kernel
theorem dX12_readTrack_14 : decode cX12_readTrack 14 = .ok (.iconst 4, 1) := by decide +kernel
theorem dX12_readTrack_15 : decode cX12_readTrack 15 = .ok (.invokevirtual 205, 3) := by decide +kernel
theorem dX12_readTrack_18 : decode cX12_readTrack 18 = .ok (.ireturn, 1) := by decide +kernel
theorem dX12_readTrack_19 : decode cX12_readTrack 19 = .ok (.aload_n 0, 1) := by decide +kernel
theorem dX12_readTrack_20 : decode cX12_readTrack 20 = .ok (.invokevirtual 208, 3) := by decide +kernel
theorem dX12_readTrack_23 : decode cX12_readTrack 23 = .ok (.aload_n 0, 1) := by decide +kernel
theorem dX12_readTrack_24 : decode cX12_readTrack 24 = .ok (.bipush 41, 2) := by decide +kernel
theorem dX12_readTrack_26 : decode cX12_readTrack 26 = .ok (.aload_n 0, 1) := by decide +kernel
theorem dX12_readTrack_27 : decode cX12_readTrack 27 = .ok (.getfield 37, 3) := by decide +kernel
theorem dX12_readTrack_30 : decode cX12_readTrack 30 = .ok (.iconst 0, 1) := by decide +kernel
theorem dX12_readTrack_31 : decode cX12_readTrack 31 = .ok (.iaload, 1) := by decide +kernel
theorem dX12_readTrack_32 : decode cX12_readTrack 32 = .ok (.invokevirtual 271, 3) := by decide +kernel
theorem dX12_readTrack_35 : decode cX12_readTrack 35 = .ok (.ifCond .ne 5, 3) := by decide +kernel
theorem dX12_readTrack_38 : decode cX12_readTrack 38 = .ok (.iconst 0, 1) := by decide +kernel
theorem dX12_readTrack_39 : decode cX12_readTrack 39 = .ok (.ireturn, 1) := by decide +kernel
theorem dX12_readTrack_40 : decode cX12_readTrack 40 = .ok (.aload_n 0, 1) := by decide +kernel
theorem dX12_readTrack_41 : decode cX12_readTrack 41 = .ok (.getfield 215, 3) := by decide +kernel
theorem dX12_readTrack_44 : decode cX12_readTrack 44 = .ok (.istore_n 2, 1) := by decide +kernel
theorem dX12_readTrack_45 : decode cX12_readTrack 45 = .ok (.aload_n 0, 1) := by decide +kernel
theorem dX12_readTrack_46 : decode cX12_readTrack 46 = .ok (.bipush 41, 2) := by decide +kernel
theorem dX12_readTrack_48 : decode cX12_readTrack 48 = .ok (.aload_n 0, 1) := by decide +kernel
theorem dX12_readTrack_49 : decode cX12_readTrack 49 = .ok (.getfield 37, 3) := by decide +kernel
theorem dX12_readTrack_52 : decode cX12_readTrack 52 = .ok (.iconst 0, 1) := by decide +kernel
theorem dX12_readTrack_53 : decode cX12_readTrack 53 = .ok (.iaload, 1) := by decide +kernel
theorem dX12_readTrack_54 : decode cX12_readTrack 54 = .ok (.invokevirtual 230, 3) := by decide +kernel
theorem dX12_readTrack_57 : decode cX12_readTrack 57 = .ok (.ifCond .ne 5, 3) := by decide +kernel
theorem dX12_readTrack_60 : decode cX12_readTrack 60 = .ok (.iconst 0, 1) := by decide +kernel
theorem dX12_readTrack_61 : decode cX12_readTrack 61 = .ok (.ireturn, 1) := by decide +kernel
theorem dX12_readTrack_62 : decode cX12_readTrack 62 = .ok (.aload_n 0, 1) := by decide +kernel
theorem dX12_readTrack_63 : decode cX12_readTrack 63 = .ok (.getfield 215, 3) := by decide +kernel
theorem dX12_readTrack_66 : decode cX12_readTrack 66 = .ok (.iload_n 2, 1) := by decide +kernel
theorem dX12_readTrack_67 : decode cX12_readTrack 67 = .ok (.if_icmp .ne 7, 3) := by decide +kernel
theorem dX12_readTrack_70 : decode cX12_readTrack 70 = .ok (.iconst 1, 1) := by decide +kernel
theorem dX12_readTrack_71 : decode cX12_readTrack 71 = .ok (.goto 4, 3) := by decide +kernel
theorem dX12_readTrack_74 : decode cX12_readTrack 74 = .ok (.iconst 0, 1) := by decide +kernel
theorem dX12_readTrack_75 : decode cX12_readTrack 75 = .ok (.istore_n 3, 1) := by decide +kernel
theorem dX12_readTrack_76 : decode cX12_readTrack 76 = .ok (.iconst 0, 1) := by decide +kernel
theorem dX12_readTrack_77 : decode cX12_readTrack 77 = .ok (.istore 4, 2) := by decide +kernel
theorem dX12_readTrack_79 : decode cX12_readTrack 79 = .ok (.iload 4, 2) := by decide +kernel
theorem dX12_readTrack_81 : decode cX12_readTrack 81 = .ok (.iload_n 1, 1) := by decide +kernel
theorem dX12_readTrack_82 : decode cX12_readTrack 82 = .ok (.if_icmp .ge 81, 3) := by decide +kernel
theorem dX12_readTrack_85 : decode cX12_readTrack 85 = .ok (.iload_n 3, 1) := by decide +kernel
theorem dX12_readTrack_86 : decode cX12_readTrack 86 = .ok (.ifCond .ne 65, 3) := by decide +kernel
theorem dX12_readTrack_89 : decode cX12_readTrack 89 = .ok (.aload_n 0, 1) := by decide +kernel
theorem dX12_readTrack_90 : decode cX12_readTrack 90 = .ok (.getfield 37, 3) := by decide +kernel
theorem dX12_readTrack_93 : decode cX12_readTrack 93 = .ok (.bipush 26, 2) := by decide +kernel
theorem dX12_readTrack_95 : decode cX12_readTrack 95 = .ok (.iload 4, 2) := by decide +kernel
theorem dX12_readTrack_97 : decode cX12_readTrack 97 = .ok (.iadd, 1) := by decide +kernel
theorem dX12_readTrack_98 : decode cX12_readTrack 98 = .ok (.iaload, 1) := by decide +kernel
theorem dX12_readTrack_99 : decode cX12_readTrack 99 = .ok (.iload_n 2, 1) := by decide +kernel
theorem dX12_readTrack_100 : decode cX12_readTrack 100 = .ok (.if_icmp .ne 20, 3) := by decide +kernel
theorem dX12_readTrack_103 : decode cX12_readTrack 103 = .ok (.aload_n 0, 1) := by decide +kernel
theorem dX12_readTrack_104 : decode cX12_readTrack 104 = .ok (.getfield 37, 3) := by decide +kernel
theorem dX12_readTrack_107 : decode cX12_readTrack 107 = .ok (.bipush 42, 2) := by decide +kernel
theorem dX12_readTrack_109 : decode cX12_readTrack 109 = .ok (.iload 4, 2) := by decide +kernel
theorem dX12_readTrack_111 : decode cX12_readTrack 111 = .ok (.iadd, 1) := by decide +kernel
theorem dX12_readTrack_112 : decode cX12_readTrack 112 = .ok (.iaload, 1) := by decide +kernel
theorem dX12_readTrack_113 : decode cX12_readTrack 113 = .ok (.aload_n 0, 1) := by decide +kernel
theorem dX12_readTrack_114 : decode cX12_readTrack 114 = .ok (.getfield 215, 3) := by decide +kernel
theorem dX12_readTrack_117 : decode cX12_readTrack 117 = .ok (.if_icmp .eq 34, 3) := by decide +kernel
theorem dX12_readTrack_120 : decode cX12_readTrack 120 = .ok (.aload_n 0, 1) := by decide +kernel
theorem dX12_readTrack_121 : decode cX12_readTrack 121 = .ok (.getfield 37, 3) := by decide +kernel
theorem dX12_readTrack_124 : decode cX12_readTrack 124 = .ok (.bipush 26, 2) := by decide +kernel
theorem dX12_readTrack_126 : decode cX12_readTrack 126 = .ok (.iload 4, 2) := by decide +kernel
theorem dX12_readTrack_128 : decode cX12_readTrack 128 = .ok (.iadd, 1) := by decide +kernel
theorem dX12_readTrack_129 : decode cX12_readTrack 129 = .ok (.iaload, 1) := by decide +kernel
theorem dX12_readTrack_130 : decode cX12_readTrack 130 = .ok (.aload_n 0, 1) := by decide +kernel
theorem dX12_readTrack_131 : decode cX12_readTrack 131 = .ok (.getfield 215, 3) := by decide +kernel
theorem dX12_readTrack_134 : decode cX12_readTrack 134 = .ok (.if_icmp .ne 21, 3) := by decide +kernel
theorem dX12_readTrack_137 : decode cX12_readTrack 137 = .ok (.aload_n 0, 1) := by decide +kernel
theorem dX12_readTrack_138 : decode cX12_readTrack 138 = .ok (.getfield 37, 3) := by decide +kernel
theorem dX12_readTrack_141 : decode cX12_readTrack 141 = .ok (.bipush 42, 2) := by decide +kernel
theorem dX12_readTrack_143 : decode cX12_readTrack 143 = .ok (.iload 4, 2) := by decide +kernel
theorem dX12_readTrack_145 : decode cX12_readTrack 145 = .ok (.iadd, 1) := by decide +kernel
theorem dX12_readTrack_146 : decode cX12_readTrack 146 = .ok (.iaload, 1) := by decide +kernel
theorem dX12_readTrack_147 : decode cX12_readTrack 147 = .ok (.iload_n 2, 1) := by decide +kernel
theorem dX12_readTrack_148 : decode cX12_readTrack 148 = .ok (.if_icmp .ne 7, 3) := by decide +kernel
theorem dX12_readTrack_151 : decode cX12_readTrack 151 = .ok (.iconst 1, 1) := by decide +kernel
theorem dX12_readTrack_152 : decode cX12_readTrack 152 = .ok (.goto 4, 3) := by decide +kernel
theorem dX12_readTrack_155 : decode cX12_readTrack 155 = .ok (.iconst 0, 1) := by decide +kernel
theorem dX12_readTrack_156 : decode cX12_readTrack 156 = .ok (.istore_n 3, 1) := by decide +kernel
theorem dX12_readTrack_157 : decode cX12_readTrack 157 = .ok (.iinc 4 1, 3) := by decide +kernel
theorem dX12_readTrack_160 : decode cX12_readTrack 160 = .ok (.goto (-81), 3) := by decide +kernel
theorem dX12_readTrack_163 : decode cX12_readTrack 163 = .ok (.iload_n 3, 1) := by decide +kernel
theorem dX12_readTrack_164 : decode cX12_readTrack 164 = .ok (.ifCond .eq 9, 3) := by decide +kernel
theorem dX12_readTrack_167 : decode cX12_readTrack 167 = .ok (.aload_n 0, 1) := by decide +kernel
theorem dX12_readTrack_168 : decode cX12_readTrack 168 = .ok (.iconst 3, 1) := by decide +kernel
theorem dX12_readTrack_169 : decode cX12_readTrack 169 = .ok (.invokevirtual 205, 3) := by decide +kernel
theorem dX12_readTrack_172 : decode cX12_readTrack 172 = .ok (.ireturn, 1) := by decide +kernel
theorem dX12_readTrack_173 : decode cX12_readTrack 173 = .ok (.aload_n 0, 1) := by decide +kernel
theorem dX12_readTrack_174 : decode cX12_readTrack 174 = .ok (.getfield 37, 3) := by decide +kernel
theorem dX12_readTrack_177 : decode cX12_readTrack 177 = .ok (.bipush 26, 2) := by decide +kernel
theorem dX12_readTrack_179 : decode cX12_readTrack 179 = .ok (.iload_n 1, 1) := by decide +kernel
theorem dX12_readTrack_180 : decode cX12_readTrack 180 = .ok (.iadd, 1) := by decide +kernel
theorem dX12_readTrack_181 : decode cX12_readTrack 181 = .ok (.iload_n 2, 1) := by decide +kernel
theorem dX12_readTrack_182 : decode cX12_readTrack 182 = .ok (.iastore, 1) := by decide +kernel
theorem dX12_readTrack_183 : decode cX12_readTrack 183 = .ok (.aload_n 0, 1) := by decide +kernel
theorem dX12_readTrack_184 : decode cX12_readTrack 184 = .ok (.getfield 37, 3) := by decide +kernel
theorem dX12_readTrack_187 : decode cX12_readTrack 187 = .ok (.bipush 42, 2) := by decide +kernel
theorem dX12_readTrack_189 : decode cX12_readTrack 189 = .ok (.iload_n 1, 1) := by decide +kernel
theorem dX12_readTrack_190 : decode cX12_readTrack 190 = .ok (.iadd, 1) := by decide +kernel
theorem dX12_readTrack_191 : decode cX12_readTrack 191 = .ok (.aload_n 0, 1) := by decide +kernel
theorem dX12_readTrack_192 : decode cX12_readTrack 192 = .ok (.getfield 215, 3) := by decide +kernel
theorem dX12_readTrack_195 : decode cX12_readTrack 195 = .ok (.iastore, 1) := by decide +kernel
theorem dX12_readTrack_196 : decode cX12_readTrack 196 = .ok (.aload_n 0, 1) := by decide +kernel
theorem dX12_readTrack_197 : decode cX12_readTrack 197 = .ok (.getfield 37, 3) := by decide +kernel
theorem dX12_readTrack_200 : decode cX12_readTrack 200 = .ok (.bipush 58, 2) := by decide +kernel
theorem dX12_readTrack_202 : decode cX12_readTrack 202 = .ok (.iload_n 1, 1) := by decide +kernel
theorem dX12_readTrack_203 : decode cX12_readTrack 203 = .ok (.iadd, 1) := by decide +kernel
theorem dX12_readTrack_204 : decode cX12_readTrack 204 = .ok (.iconst 0, 1) := by decide +kernel
theorem dX12_readTrack_205 : decode cX12_readTrack 205 = .ok (.iastore, 1) := by decide +kernel
theorem dX12_readTrack_206 : decode cX12_readTrack 206 = .ok (.aload_n 0, 1) := by decide +kernel
theorem dX12_readTrack_207 : decode cX12_readTrack 207 = .ok (.getfield 37, 3) := by decide +kernel
theorem dX12_readTrack_210 : decode cX12_readTrack 210 = .ok (.bipush 74, 2) := by decide +kernel
theorem dX12_readTrack_212 : decode cX12_readTrack 212 = .ok (.iload_n 1, 1) := by decide +kernel
theorem dX12_readTrack_213 : decode cX12_readTrack 213 = .ok (.iadd, 1) := by decide +kernel
theorem dX12_readTrack_214 : decode cX12_readTrack 214 = .ok (.iconst 0, 1) := by decide +kernel
theorem dX12_readTrack_215 : decode cX12_readTrack 215 = .ok (.iastore, 1) := by decide +kernel
theorem dX12_readTrack_216 : decode cX12_readTrack 216 = .ok (.aload_n 0, 1) := by decide +kernel
theorem dX12_readTrack_217 : decode cX12_readTrack 217 = .ok (.invokevirtual 208, 3) := by decide +kernel
theorem dX12_readTrack_220 : decode cX12_readTrack 220 = .ok (.aload_n 0, 1) := by decide +kernel
theorem dX12_readTrack_221 : decode cX12_readTrack 221 = .ok (.getfield 179, 3) := by decide +kernel
theorem dX12_readTrack_224 : decode cX12_readTrack 224 = .ok (.iconst 1, 1) := by decide +kernel
theorem dX12_readTrack_225 : decode cX12_readTrack 225 = .ok (.if_icmp .ne 13, 3) := by decide +kernel
theorem dX12_readTrack_228 : decode cX12_readTrack 228 = .ok (.aload_n 0, 1) := by decide +kernel
theorem dX12_readTrack_229 : decode cX12_readTrack 229 = .ok (.iload_n 1, 1) := by decide +kernel
theorem dX12_readTrack_230 : decode cX12_readTrack 230 = .ok (.invokevirtual 274, 3) := by decide +kernel
theorem dX12_readTrack_233 : decode cX12_readTrack 233 = .ok (.ifCond .ne 5, 3) := by decide +kernel
theorem dX12_readTrack_236 : decode cX12_readTrack 236 = .ok (.iconst 0, 1) := by decide +kernel
theorem dX12_readTrack_237 : decode cX12_readTrack 237 = .ok (.ireturn, 1) := by decide +kernel
theorem dX12_readTrack_238 : decode cX12_readTrack 238 = .ok (.aload_n 0, 1) := by decide +kernel
theorem dX12_readTrack_239 : decode cX12_readTrack 239 = .ok (.getfield 37, 3) := by decide +kernel
theorem dX12_readTrack_242 : decode cX12_readTrack 242 = .ok (.iconst 2, 1) := by decide +kernel
theorem dX12_readTrack_243 : decode cX12_readTrack 243 = .ok (.dup2, 1) := by decide +kernel
theorem dX12_readTrack_244 : decode cX12_readTrack 244 = .ok (.iaload, 1) := by decide +kernel
theorem dX12_readTrack_245 : decode cX12_readTrack 245 = .ok (.iconst 1, 1) := by decide +kernel
theorem dX12_readTrack_246 : decode cX12_readTrack 246 = .ok (.iadd, 1) := by decide +kernel
theorem dX12_readTrack_247 : decode cX12_readTrack 247 = .ok (.iastore, 1) := by decide +kernel
theorem dX12_readTrack_248 : decode cX12_readTrack 248 = .ok (.iconst 1, 1) := by decide +kernel
theorem dX12_readTrack_249 : decode cX12_readTrack 249 = .ok (.ireturn, 1) := by decide +kernel
theorem dX12_readLie_0 : decode cX12_readLie 0 = .ok (.aload_n 0, 1) := by decide +kernel
theorem dX12_readLie_1 : decode cX12_readLie 1 = .ok (.bipush 53, 2) := by decide +kernel
theorem dX12_readLie_3 : decode cX12_readLie 3 = .ok (.aload_n 0, 1) := by decide +kernel
theorem dX12_readLie_4 : decode cX12_readLie 4 = .ok (.getfield 37, 3) := by decide +kernel
theorem dX12_readLie_7 : decode cX12_readLie 7 = .ok (.iconst 1, 1) := by decide +kernel
theorem dX12_readLie_8 : decode cX12_readLie 8 = .ok (.iaload, 1) := by decide +kernel
theorem dX12_readLie_9 : decode cX12_readLie 9 = .ok (.invokevirtual 230, 3) := by decide +kernel
theorem dX12_readLie_12 : decode cX12_readLie 12 = .ok (.ifCond .ne 5, 3) := by decide +kernel
theorem dX12_readLie_15 : decode cX12_readLie 15 = .ok (.iconst 0, 1) := by decide +kernel
theorem dX12_readLie_16 : decode cX12_readLie 16 = .ok (.ireturn, 1) := by decide +kernel
theorem dX12_readLie_17 : decode cX12_readLie 17 = .ok (.aload_n 0, 1) := by decide +kernel
theorem dX12_readLie_18 : decode cX12_readLie 18 = .ok (.getfield 37, 3) := by decide +kernel
theorem dX12_readLie_21 : decode cX12_readLie 21 = .ok (.bipush 20, 2) := by decide +kernel
theorem dX12_readLie_23 : decode cX12_readLie 23 = .ok (.aload_n 0, 1) := by decide +kernel
theorem dX12_readLie_24 : decode cX12_readLie 24 = .ok (.getfield 215, 3) := by decide +kernel
theorem dX12_readLie_27 : decode cX12_readLie 27 = .ok (.iadd, 1) := by decide +kernel
theorem dX12_readLie_28 : decode cX12_readLie 28 = .ok (.iaload, 1) := by decide +kernel
theorem dX12_readLie_29 : decode cX12_readLie 29 = .ok (.aload_n 0, 1) := by decide +kernel
theorem dX12_readLie_30 : decode cX12_readLie 30 = .ok (.getfield 37, 3) := by decide +kernel
theorem dX12_readLie_33 : decode cX12_readLie 33 = .ok (.bipush 26, 2) := by decide +kernel
theorem dX12_readLie_35 : decode cX12_readLie 35 = .ok (.iload_n 1, 1) := by decide +kernel
theorem dX12_readLie_36 : decode cX12_readLie 36 = .ok (.iadd, 1) := by decide +kernel
theorem dX12_readLie_37 : decode cX12_readLie 37 = .ok (.iaload, 1) := by decide +kernel
theorem dX12_readLie_38 : decode cX12_readLie 38 = .ok (.if_icmp .eq 33, 3) := by decide +kernel
theorem dX12_readLie_41 : decode cX12_readLie 41 = .ok (.aload_n 0, 1) := by decide +kernel
theorem dX12_readLie_42 : decode cX12_readLie 42 = .ok (.getfield 37, 3) := by decide +kernel
theorem dX12_readLie_45 : decode cX12_readLie 45 = .ok (.bipush 20, 2) := by decide +kernel
theorem dX12_readLie_47 : decode cX12_readLie 47 = .ok (.aload_n 0, 1) := by decide +kernel
theorem dX12_readLie_48 : decode cX12_readLie 48 = .ok (.getfield 215, 3) := by decide +kernel
theorem dX12_readLie_51 : decode cX12_readLie 51 = .ok (.iadd, 1) := by decide +kernel
theorem dX12_readLie_52 : decode cX12_readLie 52 = .ok (.iaload, 1) := by decide +kernel
theorem dX12_readLie_53 : decode cX12_readLie 53 = .ok (.aload_n 0, 1) := by decide +kernel
theorem dX12_readLie_54 : decode cX12_readLie 54 = .ok (.getfield 37, 3) := by decide +kernel
theorem dX12_readLie_57 : decode cX12_readLie 57 = .ok (.bipush 42, 2) := by decide +kernel
theorem dX12_readLie_59 : decode cX12_readLie 59 = .ok (.iload_n 1, 1) := by decide +kernel
theorem dX12_readLie_60 : decode cX12_readLie 60 = .ok (.iadd, 1) := by decide +kernel
theorem dX12_readLie_61 : decode cX12_readLie 61 = .ok (.iaload, 1) := by decide +kernel
theorem dX12_readLie_62 : decode cX12_readLie 62 = .ok (.if_icmp .eq 9, 3) := by decide +kernel
theorem dX12_readLie_65 : decode cX12_readLie 65 = .ok (.aload_n 0, 1) := by decide +kernel
theorem dX12_readLie_66 : decode cX12_readLie 66 = .ok (.iconst 3, 1) := by decide +kernel
theorem dX12_readLie_67 : decode cX12_readLie 67 = .ok (.invokevirtual 205, 3) := by decide +kernel
theorem dX12_readLie_70 : decode cX12_readLie 70 = .ok (.ireturn, 1) := by decide +kernel
theorem dX12_readLie_71 : decode cX12_readLie 71 = .ok (.aload_n 0, 1) := by decide +kernel
theorem dX12_readLie_72 : decode cX12_readLie 72 = .ok (.getfield 37, 3) := by decide +kernel
theorem dX12_readLie_75 : decode cX12_readLie 75 = .ok (.bipush 58, 2) := by decide +kernel
theorem dX12_readLie_77 : decode cX12_readLie 77 = .ok (.iload_n 1, 1) := by decide +kernel
theorem dX12_readLie_78 : decode cX12_readLie 78 = .ok (.iadd, 1) := by decide +kernel
theorem dX12_readLie_79 : decode cX12_readLie 79 = .ok (.aload_n 0, 1) := by decide +kernel
theorem dX12_readLie_80 : decode cX12_readLie 80 = .ok (.getfield 215, 3) := by decide +kernel
theorem dX12_readLie_83 : decode cX12_readLie 83 = .ok (.iconst 1, 1) := by decide +kernel
theorem dX12_readLie_84 : decode cX12_readLie 84 = .ok (.iadd, 1) := by decide +kernel
theorem dX12_readLie_85 : decode cX12_readLie 85 = .ok (.iastore, 1) := by decide +kernel
theorem dX12_readLie_86 : decode cX12_readLie 86 = .ok (.aload_n 0, 1) := by decide +kernel
theorem dX12_readLie_87 : decode cX12_readLie 87 = .ok (.invokevirtual 208, 3) := by decide +kernel
theorem dX12_readLie_90 : decode cX12_readLie 90 = .ok (.aload_n 0, 1) := by decide +kernel
theorem dX12_readLie_91 : decode cX12_readLie 91 = .ok (.ldc2_w 122, 3) := by decide +kernel
theorem dX12_readLie_94 : decode cX12_readLie 94 = .ok (.invokevirtual 233, 3) := by decide +kernel
theorem dX12_readLie_97 : decode cX12_readLie 97 = .ok (.istore_n 2, 1) := by decide +kernel
theorem dX12_readLie_98 : decode cX12_readLie 98 = .ok (.iload_n 2, 1) := by decide +kernel
theorem dX12_readLie_99 : decode cX12_readLie 99 = .ok (.ifCond .ne 19, 3) := by decide +kernel
theorem dX12_readLie_102 : decode cX12_readLie 102 = .ok (.aload_n 0, 1) := by decide +kernel
theorem dX12_readLie_103 : decode cX12_readLie 103 = .ok (.ldc2_w 120, 3) := by decide +kernel
theorem dX12_readLie_106 : decode cX12_readLie 106 = .ok (.invokevirtual 233, 3) := by decide +kernel
theorem dX12_readLie_109 : decode cX12_readLie 109 = .ok (.ifCond .ne 9, 3) := by decide +kernel
theorem dX12_readLie_112 : decode cX12_readLie 112 = .ok (.aload_n 0, 1) := by decide +kernel
theorem dX12_readLie_113 : decode cX12_readLie 113 = .ok (.iconst 1, 1) := by decide +kernel
theorem dX12_readLie_114 : decode cX12_readLie 114 = .ok (.invokevirtual 205, 3) := by decide +kernel
theorem dX12_readLie_117 : decode cX12_readLie 117 = .ok (.ireturn, 1) := by decide +kernel
theorem dX12_readLie_118 : decode cX12_readLie 118 = .ok (.aload_n 0, 1) := by decide +kernel
theorem dX12_readLie_119 : decode cX12_readLie 119 = .ok (.getfield 37, 3) := by decide +kernel
theorem dX12_readLie_122 : decode cX12_readLie 122 = .ok (.bipush 74, 2) := by decide +kernel
theorem dX12_readLie_124 : decode cX12_readLie 124 = .ok (.iload_n 1, 1) := by decide +kernel
theorem dX12_readLie_125 : decode cX12_readLie 125 = .ok (.iadd, 1) := by decide +kernel
theorem dX12_readLie_126 : decode cX12_readLie 126 = .ok (.iload_n 2, 1) := by decide +kernel
theorem dX12_readLie_127 : decode cX12_readLie 127 = .ok (.ifCond .eq 7, 3) := by decide +kernel
theorem dX12_readLie_130 : decode cX12_readLie 130 = .ok (.iconst 1, 1) := by decide +kernel
theorem dX12_readLie_131 : decode cX12_readLie 131 = .ok (.goto 4, 3) := by decide +kernel
theorem dX12_readLie_134 : decode cX12_readLie 134 = .ok (.iconst 0, 1) := by decide +kernel
theorem dX12_readLie_135 : decode cX12_readLie 135 = .ok (.iastore, 1) := by decide +kernel
theorem dX12_readLie_136 : decode cX12_readLie 136 = .ok (.aload_n 0, 1) := by decide +kernel
theorem dX12_readLie_137 : decode cX12_readLie 137 = .ok (.invokevirtual 208, 3) := by decide +kernel
theorem dX12_readLie_140 : decode cX12_readLie 140 = .ok (.iconst 1, 1) := by decide +kernel
theorem dX12_readLie_141 : decode cX12_readLie 141 = .ok (.ireturn, 1) := by decide +kernel
theorem dX12_wayWord_0 : decode cX12_wayWord 0 = .ok (.aload_n 0, 1) := by decide +kernel
theorem dX12_wayWord_1 : decode cX12_wayWord 1 = .ok (.ldc2_w 124, 3) := by decide +kernel
theorem dX12_wayWord_4 : decode cX12_wayWord 4 = .ok (.invokevirtual 233, 3) := by decide +kernel
theorem dX12_wayWord_7 : decode cX12_wayWord 7 = .ok (.ifCond .eq 7, 3) := by decide +kernel
theorem dX12_wayWord_10 : decode cX12_wayWord 10 = .ok (.iconst 0, 1) := by decide +kernel
theorem dX12_wayWord_11 : decode cX12_wayWord 11 = .ok (.goto 18, 3) := by decide +kernel
theorem dX12_wayWord_14 : decode cX12_wayWord 14 = .ok (.aload_n 0, 1) := by decide +kernel
theorem dX12_wayWord_15 : decode cX12_wayWord 15 = .ok (.ldc2_w 126, 3) := by decide +kernel
theorem dX12_wayWord_18 : decode cX12_wayWord 18 = .ok (.invokevirtual 233, 3) := by decide +kernel
theorem dX12_wayWord_21 : decode cX12_wayWord 21 = .ok (.ifCond .eq 7, 3) := by decide +kernel
theorem dX12_wayWord_24 : decode cX12_wayWord 24 = .ok (.iconst 1, 1) := by decide +kernel
theorem dX12_wayWord_25 : decode cX12_wayWord 25 = .ok (.goto 4, 3) := by decide +kernel
theorem dX12_wayWord_28 : decode cX12_wayWord 28 = .ok (.iconst (-1), 1) := by decide +kernel
theorem dX12_wayWord_29 : decode cX12_wayWord 29 = .ok (.ireturn, 1) := by decide +kernel
theorem dX12_readSignal_0 : decode cX12_readSignal 0 = .ok (.aload_n 0, 1) := by decide +kernel
theorem dX12_readSignal_1 : decode cX12_readSignal 1 = .ok (.getfield 37, 3) := by decide +kernel
theorem dX12_readSignal_4 : decode cX12_readSignal 4 = .ok (.iconst 3, 1) := by decide +kernel
theorem dX12_readSignal_5 : decode cX12_readSignal 5 = .ok (.iaload, 1) := by decide +kernel
theorem dX12_readSignal_6 : decode cX12_readSignal 6 = .ok (.istore_n 1, 1) := by decide +kernel
theorem dX12_readSignal_7 : decode cX12_readSignal 7 = .ok (.iload_n 1, 1) := by decide +kernel
theorem dX12_readSignal_8 : decode cX12_readSignal 8 = .ok (.bipush 8, 2) := by decide +kernel
theorem dX12_readSignal_10 : decode cX12_readSignal 10 = .ok (.if_icmp .ne 9, 3) := by decide +kernel
theorem dX12_readSignal_13 : decode cX12_readSignal 13 = .ok (.aload_n 0, 1) := by decide +kernel
theorem dX12_readSignal_14 : decode cX12_readSignal 14 = .ok (.iconst 4, 1) := by decide +kernel
theorem dX12_readSignal_15 : decode cX12_readSignal 15 = .ok (.invokevirtual 205, 3) := by decide +kernel
theorem dX12_readSignal_18 : decode cX12_readSignal 18 = .ok (.ireturn, 1) := by decide +kernel
theorem dX12_readSignal_19 : decode cX12_readSignal 19 = .ok (.aload_n 0, 1) := by decide +kernel
theorem dX12_readSignal_20 : decode cX12_readSignal 20 = .ok (.invokevirtual 208, 3) := by decide +kernel
theorem dX12_readSignal_23 : decode cX12_readSignal 23 = .ok (.aload_n 0, 1) := by decide +kernel
theorem dX12_readSignal_24 : decode cX12_readSignal 24 = .ok (.bipush 59, 2) := by decide +kernel
theorem dX12_readSignal_26 : decode cX12_readSignal 26 = .ok (.iload_n 1, 1) := by decide +kernel
theorem dX12_readSignal_27 : decode cX12_readSignal 27 = .ok (.iadd, 1) := by decide +kernel
theorem dX12_readSignal_28 : decode cX12_readSignal 28 = .ok (.invokevirtual 268, 3) := by decide +kernel
theorem dX12_readSignal_31 : decode cX12_readSignal 31 = .ok (.ifCond .eq 18, 3) := by decide +kernel
theorem dX12_readSignal_34 : decode cX12_readSignal 34 = .ok (.aload_n 0, 1) := by decide +kernel
theorem dX12_readSignal_35 : decode cX12_readSignal 35 = .ok (.bipush 41, 2) := by decide +kernel
theorem dX12_readSignal_37 : decode cX12_readSignal 37 = .ok (.aload_n 0, 1) := by decide +kernel
theorem dX12_readSignal_38 : decode cX12_readSignal 38 = .ok (.getfield 37, 3) := by decide +kernel
theorem dX12_readSignal_41 : decode cX12_readSignal 41 = .ok (.iconst 0, 1) := by decide +kernel
theorem dX12_readSignal_42 : decode cX12_readSignal 42 = .ok (.iaload, 1) := by decide +kernel
theorem dX12_readSignal_43 : decode cX12_readSignal 43 = .ok (.invokevirtual 271, 3) := by decide +kernel
theorem dX12_readSignal_46 : decode cX12_readSignal 46 = .ok (.ifCond .ne 5, 3) := by decide +kernel
theorem dX12_readSignal_49 : decode cX12_readSignal 49 = .ok (.iconst 0, 1) := by decide +kernel
theorem dX12_readSignal_50 : decode cX12_readSignal 50 = .ok (.ireturn, 1) := by decide +kernel
theorem dX12_readSignal_51 : decode cX12_readSignal 51 = .ok (.aload_n 0, 1) := by decide +kernel
theorem dX12_readSignal_52 : decode cX12_readSignal 52 = .ok (.getfield 215, 3) := by decide +kernel
theorem dX12_readSignal_55 : decode cX12_readSignal 55 = .ok (.istore_n 2, 1) := by decide +kernel
theorem dX12_readSignal_56 : decode cX12_readSignal 56 = .ok (.aload_n 0, 1) := by decide +kernel
theorem dX12_readSignal_57 : decode cX12_readSignal 57 = .ok (.invokevirtual 277, 3) := by decide +kernel
theorem dX12_readSignal_60 : decode cX12_readSignal 60 = .ok (.istore_n 3, 1) := by decide +kernel
theorem dX12_readSignal_61 : decode cX12_readSignal 61 = .ok (.iload_n 3, 1) := by decide +kernel
theorem dX12_readSignal_62 : decode cX12_readSignal 62 = .ok (.ifCond .ge 9, 3) := by decide +kernel
theorem dX12_readSignal_65 : decode cX12_readSignal 65 = .ok (.aload_n 0, 1) := by decide +kernel
theorem dX12_readSignal_66 : decode cX12_readSignal 66 = .ok (.iconst 1, 1) := by decide +kernel
theorem dX12_readSignal_67 : decode cX12_readSignal 67 = .ok (.invokevirtual 205, 3) := by decide +kernel
theorem dX12_readSignal_70 : decode cX12_readSignal 70 = .ok (.ireturn, 1) := by decide +kernel
theorem dX12_readSignal_71 : decode cX12_readSignal 71 = .ok (.iconst 0, 1) := by decide +kernel
theorem dX12_readSignal_72 : decode cX12_readSignal 72 = .ok (.istore 4, 2) := by decide +kernel
theorem dX12_readSignal_74 : decode cX12_readSignal 74 = .ok (.iload 4, 2) := by decide +kernel
theorem dX12_readSignal_76 : decode cX12_readSignal 76 = .ok (.iload_n 1, 1) := by decide +kernel
theorem dX12_readSignal_77 : decode cX12_readSignal 77 = .ok (.if_icmp .ge 43, 3) := by decide +kernel
theorem dX12_readSignal_80 : decode cX12_readSignal 80 = .ok (.aload_n 0, 1) := by decide +kernel
theorem dX12_readSignal_81 : decode cX12_readSignal 81 = .ok (.getfield 37, 3) := by decide +kernel
theorem dX12_readSignal_84 : decode cX12_readSignal 84 = .ok (.bipush 90, 2) := by decide +kernel
theorem dX12_readSignal_86 : decode cX12_readSignal 86 = .ok (.iload 4, 2) := by decide +kernel
theorem dX12_readSignal_88 : decode cX12_readSignal 88 = .ok (.iadd, 1) := by decide +kernel
theorem dX12_readSignal_89 : decode cX12_readSignal 89 = .ok (.iaload, 1) := by decide +kernel
theorem dX12_readSignal_90 : decode cX12_readSignal 90 = .ok (.iload_n 2, 1) := by decide +kernel
theorem dX12_readSignal_91 : decode cX12_readSignal 91 = .ok (.if_icmp .ne 23, 3) := by decide +kernel
theorem dX12_readSignal_94 : decode cX12_readSignal 94 = .ok (.aload_n 0, 1) := by decide +kernel
theorem dX12_readSignal_95 : decode cX12_readSignal 95 = .ok (.getfield 37, 3) := by decide +kernel
theorem dX12_readSignal_98 : decode cX12_readSignal 98 = .ok (.bipush 98, 2) := by decide +kernel
theorem dX12_readSignal_100 : decode cX12_readSignal 100 = .ok (.iload 4, 2) := by decide +kernel
theorem dX12_readSignal_102 : decode cX12_readSignal 102 = .ok (.iadd, 1) := by decide +kernel
theorem dX12_readSignal_103 : decode cX12_readSignal 103 = .ok (.iaload, 1) := by decide +kernel
theorem dX12_readSignal_104 : decode cX12_readSignal 104 = .ok (.iload_n 3, 1) := by decide +kernel
theorem dX12_readSignal_105 : decode cX12_readSignal 105 = .ok (.if_icmp .ne 9, 3) := by decide +kernel
theorem dX12_readSignal_108 : decode cX12_readSignal 108 = .ok (.aload_n 0, 1) := by decide +kernel
theorem dX12_readSignal_109 : decode cX12_readSignal 109 = .ok (.iconst 3, 1) := by decide +kernel
theorem dX12_readSignal_110 : decode cX12_readSignal 110 = .ok (.invokevirtual 205, 3) := by decide +kernel
theorem dX12_readSignal_113 : decode cX12_readSignal 113 = .ok (.ireturn, 1) := by decide +kernel
theorem dX12_readSignal_114 : decode cX12_readSignal 114 = .ok (.iinc 4 1, 3) := by decide +kernel
theorem dX12_readSignal_117 : decode cX12_readSignal 117 = .ok (.goto (-43), 3) := by decide +kernel
theorem dX12_readSignal_120 : decode cX12_readSignal 120 = .ok (.aload_n 0, 1) := by decide +kernel
theorem dX12_readSignal_121 : decode cX12_readSignal 121 = .ok (.getfield 37, 3) := by decide +kernel
theorem dX12_readSignal_124 : decode cX12_readSignal 124 = .ok (.bipush 90, 2) := by decide +kernel
theorem dX12_readSignal_126 : decode cX12_readSignal 126 = .ok (.iload_n 1, 1) := by decide +kernel
theorem dX12_readSignal_127 : decode cX12_readSignal 127 = .ok (.iadd, 1) := by decide +kernel
theorem dX12_readSignal_128 : decode cX12_readSignal 128 = .ok (.iload_n 2, 1) := by decide +kernel
theorem dX12_readSignal_129 : decode cX12_readSignal 129 = .ok (.iastore, 1) := by decide +kernel
theorem dX12_readSignal_130 : decode cX12_readSignal 130 = .ok (.aload_n 0, 1) := by decide +kernel
theorem dX12_readSignal_131 : decode cX12_readSignal 131 = .ok (.getfield 37, 3) := by decide +kernel
theorem dX12_readSignal_134 : decode cX12_readSignal 134 = .ok (.bipush 98, 2) := by decide +kernel
theorem dX12_readSignal_136 : decode cX12_readSignal 136 = .ok (.iload_n 1, 1) := by decide +kernel
theorem dX12_readSignal_137 : decode cX12_readSignal 137 = .ok (.iadd, 1) := by decide +kernel
theorem dX12_readSignal_138 : decode cX12_readSignal 138 = .ok (.iload_n 3, 1) := by decide +kernel
theorem dX12_readSignal_139 : decode cX12_readSignal 139 = .ok (.iastore, 1) := by decide +kernel
theorem dX12_readSignal_140 : decode cX12_readSignal 140 = .ok (.aload_n 0, 1) := by decide +kernel
theorem dX12_readSignal_141 : decode cX12_readSignal 141 = .ok (.invokevirtual 208, 3) := by decide +kernel
theorem dX12_readSignal_144 : decode cX12_readSignal 144 = .ok (.aload_n 0, 1) := by decide +kernel
theorem dX12_readSignal_145 : decode cX12_readSignal 145 = .ok (.getfield 37, 3) := by decide +kernel
theorem dX12_readSignal_148 : decode cX12_readSignal 148 = .ok (.iconst 3, 1) := by decide +kernel
theorem dX12_readSignal_149 : decode cX12_readSignal 149 = .ok (.dup2, 1) := by decide +kernel
theorem dX12_readSignal_150 : decode cX12_readSignal 150 = .ok (.iaload, 1) := by decide +kernel
theorem dX12_readSignal_151 : decode cX12_readSignal 151 = .ok (.iconst 1, 1) := by decide +kernel
theorem dX12_readSignal_152 : decode cX12_readSignal 152 = .ok (.iadd, 1) := by decide +kernel
theorem dX12_readSignal_153 : decode cX12_readSignal 153 = .ok (.iastore, 1) := by decide +kernel
theorem dX12_readSignal_154 : decode cX12_readSignal 154 = .ok (.iconst 1, 1) := by decide +kernel
theorem dX12_readSignal_155 : decode cX12_readSignal 155 = .ok (.ireturn, 1) := by decide +kernel
theorem dX12_readRoute_0 : decode cX12_readRoute 0 = .ok (.aload_n 0, 1) := by decide +kernel
theorem dX12_readRoute_1 : decode cX12_readRoute 1 = .ok (.getfield 37, 3) := by decide +kernel
theorem dX12_readRoute_4 : decode cX12_readRoute 4 = .ok (.iconst 4, 1) := by decide +kernel
theorem dX12_readRoute_5 : decode cX12_readRoute 5 = .ok (.iaload, 1) := by decide +kernel
theorem dX12_readRoute_6 : decode cX12_readRoute 6 = .ok (.istore_n 1, 1) := by decide +kernel
theorem dX12_readRoute_7 : decode cX12_readRoute 7 = .ok (.iload_n 1, 1) := by decide +kernel
theorem dX12_readRoute_8 : decode cX12_readRoute 8 = .ok (.bipush 10, 2) := by decide +kernel
theorem dX12_readRoute_10 : decode cX12_readRoute 10 = .ok (.if_icmp .ne 9, 3) := by decide +kernel
theorem dX12_readRoute_13 : decode cX12_readRoute 13 = .ok (.aload_n 0, 1) := by decide +kernel
theorem dX12_readRoute_14 : decode cX12_readRoute 14 = .ok (.iconst 4, 1) := by decide +kernel
theorem dX12_readRoute_15 : decode cX12_readRoute 15 = .ok (.invokevirtual 205, 3) := by decide +kernel
theorem dX12_readRoute_18 : decode cX12_readRoute 18 = .ok (.ireturn, 1) := by decide +kernel
theorem dX12_readRoute_19 : decode cX12_readRoute 19 = .ok (.aload_n 0, 1) := by decide +kernel
theorem dX12_readRoute_20 : decode cX12_readRoute 20 = .ok (.invokevirtual 208, 3) := by decide +kernel
theorem dX12_readRoute_23 : decode cX12_readRoute 23 = .ok (.aload_n 0, 1) := by decide +kernel
theorem dX12_readRoute_24 : decode cX12_readRoute 24 = .ok (.bipush 67, 2) := by decide +kernel
theorem dX12_readRoute_26 : decode cX12_readRoute 26 = .ok (.iload_n 1, 1) := by decide +kernel
theorem dX12_readRoute_27 : decode cX12_readRoute 27 = .ok (.iadd, 1) := by decide +kernel
theorem dX12_readRoute_28 : decode cX12_readRoute 28 = .ok (.invokevirtual 268, 3) := by decide +kernel
theorem dX12_readRoute_31 : decode cX12_readRoute 31 = .ok (.ifCond .eq 18, 3) := by decide +kernel
theorem dX12_readRoute_34 : decode cX12_readRoute 34 = .ok (.aload_n 0, 1) := by decide +kernel
theorem dX12_readRoute_35 : decode cX12_readRoute 35 = .ok (.bipush 59, 2) := by decide +kernel
theorem dX12_readRoute_37 : decode cX12_readRoute 37 = .ok (.aload_n 0, 1) := by decide +kernel
theorem dX12_readRoute_38 : decode cX12_readRoute 38 = .ok (.getfield 37, 3) := by decide +kernel
theorem dX12_readRoute_41 : decode cX12_readRoute 41 = .ok (.iconst 3, 1) := by decide +kernel
theorem dX12_readRoute_42 : decode cX12_readRoute 42 = .ok (.iaload, 1) := by decide +kernel
theorem dX12_readRoute_43 : decode cX12_readRoute 43 = .ok (.invokevirtual 271, 3) := by decide +kernel
theorem dX12_readRoute_46 : decode cX12_readRoute 46 = .ok (.ifCond .ne 5, 3) := by decide +kernel
theorem dX12_readRoute_49 : decode cX12_readRoute 49 = .ok (.iconst 0, 1) := by decide +kernel
theorem dX12_readRoute_50 : decode cX12_readRoute 50 = .ok (.ireturn, 1) := by decide +kernel
theorem dX12_readRoute_51 : decode cX12_readRoute 51 = .ok (.aload_n 0, 1) := by decide +kernel
theorem dX12_readRoute_52 : decode cX12_readRoute 52 = .ok (.getfield 37, 3) := by decide +kernel
theorem dX12_readRoute_55 : decode cX12_readRoute 55 = .ok (.bipush 106, 2) := by decide +kernel
theorem dX12_readRoute_57 : decode cX12_readRoute 57 = .ok (.iload_n 1, 1) := by decide +kernel
theorem dX12_readRoute_58 : decode cX12_readRoute 58 = .ok (.iadd, 1) := by decide +kernel
theorem dX12_readRoute_59 : decode cX12_readRoute 59 = .ok (.aload_n 0, 1) := by decide +kernel
theorem dX12_readRoute_60 : decode cX12_readRoute 60 = .ok (.getfield 215, 3) := by decide +kernel
theorem dX12_readRoute_63 : decode cX12_readRoute 63 = .ok (.iastore, 1) := by decide +kernel
theorem dX12_readRoute_64 : decode cX12_readRoute 64 = .ok (.aload_n 0, 1) := by decide +kernel
theorem dX12_readRoute_65 : decode cX12_readRoute 65 = .ok (.getfield 37, 3) := by decide +kernel
theorem dX12_readRoute_68 : decode cX12_readRoute 68 = .ok (.iconst 4, 1) := by decide +kernel
theorem dX12_readRoute_69 : decode cX12_readRoute 69 = .ok (.dup2, 1) := by decide +kernel
theorem dX12_readRoute_70 : decode cX12_readRoute 70 = .ok (.iaload, 1) := by decide +kernel
theorem dX12_readRoute_71 : decode cX12_readRoute 71 = .ok (.iconst 1, 1) := by decide +kernel
theorem dX12_readRoute_72 : decode cX12_readRoute 72 = .ok (.iadd, 1) := by decide +kernel
theorem dX12_readRoute_73 : decode cX12_readRoute 73 = .ok (.iastore, 1) := by decide +kernel
theorem dX12_readRoute_74 : decode cX12_readRoute 74 = .ok (.iconst 1, 1) := by decide +kernel
theorem dX12_readRoute_75 : decode cX12_readRoute 75 = .ok (.ireturn, 1) := by decide +kernel
theorem dX12_readOver_0 : decode cX12_readOver 0 = .ok (.aload_n 0, 1) := by decide +kernel
theorem dX12_readOver_1 : decode cX12_readOver 1 = .ok (.invokevirtual 208, 3) := by decide +kernel
theorem dX12_readOver_4 : decode cX12_readOver 4 = .ok (.aload_n 0, 1) := by decide +kernel
